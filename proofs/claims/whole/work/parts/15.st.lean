set_option maxHeartbeats 4000000 in
set_option maxRecDepth 100000 in
theorem c_St_clear (l : Launch) (E : mp_E) (M : mp_M) (h ar nn c : Nat) (f : Nat → Option Nat) (h0 : M h = some (mp_o 4 [.ref ar, .ref nn, .int (nI c)])) (h1 : M ar = some (mp_q E 200 f)) (hc : c ≤ 200) : mp_Cr l m_St_clear E M 1 0 0 [.ref h] (fun v N => v = none ∧ N = mp_up M h (mp_o 4 [.ref ar, .ref nn, .int (nI 0)])) := by
  refine mp_Cr.of (by decide) (Nat.le_of_ble_eq_true rfl) fun Γ κ hl hκ => ?_
  subst hl
  obtain ⟨hκd, hκc, hκs, -⟩ := id hκ
  show mp_J Γ m_St_clear E κ M [(0, .ref h)] 0 [] 0 0
  refine j_aload_n d_St_clear_0 rfl 0 rfl ?_
  refine j_iconst (v := nI 0) d_St_clear_1 (by decide) ?_
  refine j_put F_St h0 2 (by decide) w_124 (Or.inl rfl) rfl rfl rfl (Nat.le_of_ble_eq_true rfl) d_St_clear_2 ?_
  show mp_J Γ m_St_clear E κ (mp_up M h (mp_o 4 [.ref ar, .ref nn, .int (nI 0)])) [(0, .ref h)] 5 [] 0 0
  generalize eM1 : mp_up M h (mp_o 4 [.ref ar, .ref nn, .int (nI 0)]) = M1
  have hM1_ar : M1 ar = some (mp_q E 200 f) := by rw [← eM1, mp_n (mp_ne h1 h0 mp_nao)]; exact h1
  have hM1_h : M1 h = some (mp_o 4 [.ref ar, .ref nn, .int (nI 0)]) := by rw [← eM1]; exact mp_s
  exact j_vret hκ rfl (by omega) (by omega) d_St_clear_5 ⟨rfl, by subst_vars; rfl⟩

set_option maxHeartbeats 4000000 in
set_option maxRecDepth 100000 in
theorem c_St_count (l : Launch) (E : mp_E) (M : mp_M) (h ar nn c : Nat) (f : Nat → Option Nat) (h0 : M h = some (mp_o 4 [.ref ar, .ref nn, .int (nI c)])) (h1 : M ar = some (mp_q E 200 f)) (hc : c ≤ 200) : mp_Cr l m_St_count E M 1 0 0 [.ref h] (fun v N => v = some (.int (nI c)) ∧ N = M) := by
  refine mp_Cr.of (by decide) (Nat.le_of_ble_eq_true rfl) fun Γ κ hl hκ => ?_
  subst hl
  obtain ⟨hκd, hκc, hκs, -⟩ := id hκ
  show mp_J Γ m_St_count E κ M [(0, .ref h)] 0 [] 0 0
  refine j_aload_n d_St_count_0 rfl 0 rfl ?_
  refine j_get F_St h0 2 (by decide) w_124 (Or.inl rfl) rfl d_St_count_1 ?_
  exact j_iret hκ rfl (by omega) (by omega) d_St_count_4 ⟨rfl, rfl⟩

set_option maxHeartbeats 4000000 in
set_option maxRecDepth 100000 in
theorem c_St_holds (l : Launch) (E : mp_E) (M : mp_M) (h ar nn c p : Nat) (f : Nat → Option Nat) (h0 : M h = some (mp_o 4 [.ref ar, .ref nn, .int (nI c)])) (h1 : M ar = some (mp_q E 200 f)) (hc : c ≤ 200) (hp : p < 100000) : mp_Cr l m_St_holds E M 1 0 0 [.ref h, .int (nI p)] (fun v N => v = some (.int (tf (decide (p < c)))) ∧ N = M) := by
  refine mp_Cr.of (by decide) (Nat.le_of_ble_eq_true rfl) fun Γ κ hl hκ => ?_
  subst hl
  obtain ⟨hκd, hκc, hκs, -⟩ := id hκ
  show mp_J Γ m_St_holds E κ M [(0, .ref h), (1, .int (nI p))] 0 [] 0 0
  refine j_iload_n d_St_holds_0 rfl 1 rfl ?_
  refine j_nif_lt 16 p rfl (by omega) d_St_holds_1 (by decide) (fun b1 => b1.elim) (fun b1 => ?_)
  refine j_iload_n d_St_holds_4 rfl 1 rfl ?_
  refine j_aload_n d_St_holds_5 rfl 0 rfl ?_
  refine j_get F_St h0 2 (by decide) w_124 (Or.inl rfl) rfl d_St_holds_6 ?_
  refine j_ncmp_ge 16 p c rfl rfl (by omega) (by omega) d_St_holds_9 (by decide) (fun b9 => ?_) (fun b9 => ?_)
  · skip
    refine j_iconst (v := nI 0) d_St_holds_16 (by decide) ?_
    exact j_zret hκ rfl (by first | exact Or.inl rfl | exact Or.inr rfl) (by omega) (by omega) d_St_holds_17 (by first | exact ⟨rv_1 (by omega), rfl⟩ | exact ⟨rv_0 (by omega), rfl⟩)
  · skip
    refine j_iconst (v := nI 1) d_St_holds_12 (by decide) ?_
    refine j_goto (tgt := 17) d_St_holds_13 (by decide) ?_
    exact j_zret hκ rfl (by first | exact Or.inl rfl | exact Or.inr rfl) (by omega) (by omega) d_St_holds_17 (by first | exact ⟨rv_1 (by omega), rfl⟩ | exact ⟨rv_0 (by omega), rfl⟩)

set_option maxHeartbeats 4000000 in
set_option maxRecDepth 100000 in
theorem c_St_holdsI (l : Launch) (E : mp_E) (M : mp_M) (h ar nn c : Nat) (i : Int32) (f : Nat → Option Nat) (h0 : M h = some (mp_o 4 [.ref ar, .ref nn, .int (nI c)])) (h1 : M ar = some (mp_q E 200 f)) (hc : c ≤ 200) : mp_Cr l m_St_holds E M 1 0 0 [.ref h, .int i] (fun v N => v = some (.int (tf (decide (¬ i < 0 ∧ i < nI c)))) ∧ N = M) := by
  refine mp_Cr.of (by decide) (Nat.le_of_ble_eq_true rfl) fun Γ κ hl hκ => ?_
  subst hl
  obtain ⟨hκd, hκc, hκs, -⟩ := id hκ
  show mp_J Γ m_St_holds E κ M [(0, .ref h), (1, .int i)] 0 [] 0 0
  refine j_iload_n d_St_holds_0 rfl 1 rfl ?_
  refine j_if_lt 16 d_St_holds_1 (by decide) (fun b1 => ?_) (fun b1 => ?_)
  · skip
    refine j_iconst (v := nI 0) d_St_holds_16 (by decide) ?_
    exact j_zret hκ rfl (by first | exact Or.inl rfl | exact Or.inr rfl) (by omega) (by omega) d_St_holds_17 (by first | exact ⟨rv_1 ⟨b1, Int32.not_le.mp b9⟩, rfl⟩ | exact ⟨rv_0 (fun hz => absurd hz.2 (Int32.not_lt.mpr b9)), rfl⟩ | exact ⟨rv_0 (fun hz => hz.1 b1), rfl⟩)
  · skip
    refine j_iload_n d_St_holds_4 rfl 1 rfl ?_
    refine j_aload_n d_St_holds_5 rfl 0 rfl ?_
    refine j_get F_St h0 2 (by decide) w_124 (Or.inl rfl) rfl d_St_holds_6 ?_
    refine j_icmp_ge 16 d_St_holds_9 (by decide) (fun b9 => ?_) (fun b9 => ?_)
    · skip
      refine j_iconst (v := nI 0) d_St_holds_16 (by decide) ?_
      exact j_zret hκ rfl (by first | exact Or.inl rfl | exact Or.inr rfl) (by omega) (by omega) d_St_holds_17 (by first | exact ⟨rv_1 ⟨b1, Int32.not_le.mp b9⟩, rfl⟩ | exact ⟨rv_0 (fun hz => absurd hz.2 (Int32.not_lt.mpr b9)), rfl⟩ | exact ⟨rv_0 (fun hz => hz.1 b1), rfl⟩)
    · skip
      refine j_iconst (v := nI 1) d_St_holds_12 (by decide) ?_
      refine j_goto (tgt := 17) d_St_holds_13 (by decide) ?_
      exact j_zret hκ rfl (by first | exact Or.inl rfl | exact Or.inr rfl) (by omega) (by omega) d_St_holds_17 (by first | exact ⟨rv_1 ⟨b1, Int32.not_le.mp b9⟩, rfl⟩ | exact ⟨rv_0 (fun hz => absurd hz.2 (Int32.not_lt.mpr b9)), rfl⟩ | exact ⟨rv_0 (fun hz => hz.1 b1), rfl⟩)

def sk_at (c nn : Nat) (a : Nat → Nat) (p : Nat) : Nat := if p < c then a (c - 1 - p) else nn
set_option maxHeartbeats 4000000 in
set_option maxRecDepth 100000 in
theorem c_St_peek (l : Launch) (E : mp_E) (M : mp_M) (h ar nn c p : Nat) (f : Nat → Option Nat) (a : Nat → Nat) (h0 : M h = some (mp_o 4 [.ref ar, .ref nn, .int (nI c)])) (h1 : M ar = some (mp_q E 200 f)) (hc : c ≤ 200) (hf : ∀ i, i < c → f i = some (a i)) (hp : p < 100000) : mp_Cr l m_St_peek E M 2 0 0 [.ref h, .int (nI p)] (fun v N => v = some (.ref (sk_at c nn a p)) ∧ N = M) := by
  refine mp_Cr.of (by decide) (Nat.le_of_ble_eq_true rfl) fun Γ κ hl hκ => ?_
  subst hl
  obtain ⟨hκd, hκc, hκs, -⟩ := id hκ
  show mp_J Γ m_St_peek E κ M [(0, .ref h), (1, .int (nI p))] 0 [] 0 0
  refine j_aload_n d_St_peek_0 rfl 0 rfl ?_
  refine j_iload_n d_St_peek_1 rfl 1 rfl ?_
  refine j_callV (As := [.int (nI p)]) (rest := []) (c_St_holds Γ.l E M h ar nn c p f h0 h1 hc hp) Y_St_holds w_689 w_371 w_372 h0 rfl rfl rfl (Nat.le_of_ble_eq_true rfl) (by omega) (by omega) (by omega) d_St_peek_2 (fun v2 N2 p2 => ?_)
  obtain ⟨rfl, q2⟩ := p2
  obtain rfl := q2.symm
  show mp_J Γ m_St_peek E κ M [(0, .ref h), (1, .int (nI p))] 5 [.int (tf (decide (p < c)))] 0 0
  refine j_tif_eq 24 d_St_peek_5 (by decide) (fun b5 => ?_) (fun b5 => ?_)
  · skip
    have b6 := of_decide_eq_false b5
    refine j_aload_n d_St_peek_24 rfl 0 rfl ?_
    refine j_get F_St h0 1 (by decide) w_123 (Or.inl rfl) rfl d_St_peek_25 ?_
    exact j_aret hκ rfl (by first | exact Or.inl ⟨_, rfl⟩ | exact Or.inr ⟨_, rfl⟩) (by omega) (by omega) d_St_peek_28 ⟨by unfold sk_at; rw [if_neg b6], rfl⟩
  · skip
    have b6 := of_decide_eq_true b5
    refine j_aload_n d_St_peek_8 rfl 0 rfl ?_
    refine j_get F_St h0 0 (by decide) w_122 (Or.inl rfl) rfl d_St_peek_9 ?_
    refine j_aload_n d_St_peek_12 rfl 0 rfl ?_
    refine j_get F_St h0 2 (by decide) w_124 (Or.inl rfl) rfl d_St_peek_13 ?_
    refine j_iconst (v := nI 1) d_St_peek_16 (by decide) ?_
    refine j_isub d_St_peek_17 ?_
    refine j_eqi (y := nI (c - 1)) (pk_sub (by omega)) ?_
    refine j_iload_n d_St_peek_18 rfl 1 rfl ?_
    refine j_isub d_St_peek_19 ?_
    refine j_eqi (y := nI ((c - 1) - p)) (pk_sub (by omega)) ?_
    refine j_aald (x := a (c - 1 - p)) h1 ((c - 1) - p) rfl (by omega) (by omega) (hf _ (by omega)) d_St_peek_20 ?_
    refine j_goto (tgt := 28) d_St_peek_21 (by decide) ?_
    exact j_aret hκ rfl (by first | exact Or.inl ⟨_, rfl⟩ | exact Or.inr ⟨_, rfl⟩) (by omega) (by omega) d_St_peek_28 ⟨by unfold sk_at; rw [if_pos b6], rfl⟩

set_option maxHeartbeats 4000000 in
set_option maxRecDepth 100000 in
theorem c_St_push (l : Launch) (E : mp_E) (M : mp_M) (h ar nn c t tb : Nat) (f : Nat → Option Nat) (h0 : M h = some (mp_o 4 [.ref ar, .ref nn, .int (nI c)])) (h1 : M ar = some (mp_q E 200 f)) (hc : c ≤ 200) (ht : M t = some (mp_o 5 [.ref tb])) (hc2 : c < 200) : mp_Cr l m_St_push E M 1 0 0 [.ref h, .ref t] (fun v N => v = some (.int (tf true)) ∧ N = mp_up (mp_up M ar (mp_q E 200 (va_up f c (some t)))) h (mp_o 4 [.ref ar, .ref nn, .int (nI (c + 1))])) := by
  refine mp_Cr.of (by decide) (Nat.le_of_ble_eq_true rfl) fun Γ κ hl hκ => ?_
  subst hl
  obtain ⟨hκd, hκc, hκs, -⟩ := id hκ
  show mp_J Γ m_St_push E κ M [(0, .ref h), (1, .ref t)] 0 [] 0 0
  refine j_aload_n d_St_push_0 rfl 0 rfl ?_
  refine j_get F_St h0 2 (by decide) w_124 (Or.inl rfl) rfl d_St_push_1 ?_
  refine j_sipush (v := nI 200) d_St_push_4 (by decide) ?_
  refine j_ncmp_lt 12 c 200 rfl rfl (by omega) (by omega) d_St_push_7 (by decide) (fun b7 => ?_) (fun b7 => absurd hc2 (by omega))
  refine j_aload_n d_St_push_12 rfl 0 rfl ?_
  refine j_get F_St h0 0 (by decide) w_122 (Or.inl rfl) rfl d_St_push_13 ?_
  refine j_aload_n d_St_push_16 rfl 0 rfl ?_
  refine j_get F_St h0 2 (by decide) w_124 (Or.inl rfl) rfl d_St_push_17 ?_
  refine j_aload_n d_St_push_20 rfl 1 rfl ?_
  refine j_aast h1 ht rfl rfl c rfl (by omega) (by omega) d_St_push_21 ?_
  generalize eM1 : mp_up M ar (mp_q E 200 (va_up f c (some t))) = M1
  have hM1_h : M1 h = some (mp_o 4 [.ref ar, .ref nn, .int (nI c)]) := by rw [← eM1, mp_n (mp_ne h0 h1 mp_noa)]; exact h0
  have hM1_t : M1 t = some (mp_o 5 [.ref tb]) := by rw [← eM1, mp_n (mp_ne ht h1 mp_noa)]; exact ht
  have hM1_ar : M1 ar = some (mp_q E 200 (va_up f c (some t))) := by rw [← eM1]; exact mp_s
  refine j_aload_n d_St_push_22 rfl 0 rfl ?_
  refine j_dup d_St_push_23 rfl ?_
  refine j_get F_St hM1_h 2 (by decide) w_124 (Or.inl rfl) rfl d_St_push_24 ?_
  refine j_iconst (v := nI 1) d_St_push_27 (by decide) ?_
  refine j_iadd d_St_push_28 ?_
  refine j_eqi (y := nI (c + 1)) (nI_add c 1) ?_
  refine j_put F_St hM1_h 2 (by decide) w_124 (Or.inl rfl) rfl rfl rfl (Nat.le_of_ble_eq_true rfl) d_St_push_29 ?_
  show mp_J Γ m_St_push E κ (mp_up M1 h (mp_o 4 [.ref ar, .ref nn, .int (nI (c + 1))])) [(0, .ref h), (1, .ref t)] 32 [] 0 0
  generalize eM2 : mp_up M1 h (mp_o 4 [.ref ar, .ref nn, .int (nI (c + 1))]) = M2
  have hM2_t : M2 t = some (mp_o 5 [.ref tb]) := by rw [← eM2, mp_n (mp_ne hM1_t hM1_h (mp_noo (by decide)))]; exact hM1_t
  have hM2_ar : M2 ar = some (mp_q E 200 (va_up f c (some t))) := by rw [← eM2, mp_n (mp_ne hM1_ar hM1_h mp_nao)]; exact hM1_ar
  have hM2_h : M2 h = some (mp_o 4 [.ref ar, .ref nn, .int (nI (c + 1))]) := by rw [← eM2]; exact mp_s
  refine j_iconst (v := nI 1) d_St_push_32 (by decide) ?_
  exact j_zret hκ rfl (by first | exact Or.inl rfl | exact Or.inr rfl) (by omega) (by omega) d_St_push_33 ⟨rfl, by subst_vars; rfl⟩

set_option maxHeartbeats 4000000 in
set_option maxRecDepth 100000 in
theorem c_St_pushN (l : Launch) (E : mp_E) (M : mp_M) (h ar nn c t : Nat) (f : Nat → Option Nat) (h0 : M h = some (mp_o 4 [.ref ar, .ref nn, .int (nI c)])) (h1 : M ar = some (mp_q E 200 f)) (hc : c ≤ 200) (hc2 : 200 ≤ c) : mp_Cr l m_St_push E M 1 0 0 [.ref h, .ref t] (fun v N => v = some (.int (tf false)) ∧ N = M) := by
  refine mp_Cr.of (by decide) (Nat.le_of_ble_eq_true rfl) fun Γ κ hl hκ => ?_
  subst hl
  obtain ⟨hκd, hκc, hκs, -⟩ := id hκ
  show mp_J Γ m_St_push E κ M [(0, .ref h), (1, .ref t)] 0 [] 0 0
  refine j_aload_n d_St_push_0 rfl 0 rfl ?_
  refine j_get F_St h0 2 (by decide) w_124 (Or.inl rfl) rfl d_St_push_1 ?_
  refine j_sipush (v := nI 200) d_St_push_4 (by decide) ?_
  refine j_ncmp_lt 12 c 200 rfl rfl (by omega) (by omega) d_St_push_7 (by decide) (fun b7 => absurd hc2 (by omega)) (fun b7 => ?_)
  refine j_iconst (v := nI 0) d_St_push_10 (by decide) ?_
  exact j_zret hκ rfl (by first | exact Or.inl rfl | exact Or.inr rfl) (by omega) (by omega) d_St_push_11 ⟨rfl, rfl⟩

set_option maxHeartbeats 4000000 in
set_option maxRecDepth 100000 in
theorem c_St_pop (l : Launch) (E : mp_E) (M : mp_M) (h ar nn c : Nat) (f : Nat → Option Nat) (a : Nat → Nat) (h0 : M h = some (mp_o 4 [.ref ar, .ref nn, .int (nI c)])) (h1 : M ar = some (mp_q E 200 f)) (hc : c ≤ 200) (hf : ∀ i, i < c → f i = some (a i)) (hc2 : 0 < c) : mp_Cr l m_St_pop E M 1 0 0 [.ref h] (fun v N => v = some (.ref (a (c - 1))) ∧ N = mp_up M h (mp_o 4 [.ref ar, .ref nn, .int (nI (c - 1))])) := by
  refine mp_Cr.of (by decide) (Nat.le_of_ble_eq_true rfl) fun Γ κ hl hκ => ?_
  subst hl
  obtain ⟨hκd, hκc, hκs, -⟩ := id hκ
  show mp_J Γ m_St_pop E κ M [(0, .ref h)] 0 [] 0 0
  refine j_aload_n d_St_pop_0 rfl 0 rfl ?_
  refine j_get F_St h0 2 (by decide) w_124 (Or.inl rfl) rfl d_St_pop_1 ?_
  refine j_nif_ne 12 c rfl (by omega) d_St_pop_4 (by decide) (fun b4 => ?_) (fun b4 => absurd hc2 (by omega))
  refine j_aload_n d_St_pop_12 rfl 0 rfl ?_
  refine j_dup d_St_pop_13 rfl ?_
  refine j_get F_St h0 2 (by decide) w_124 (Or.inl rfl) rfl d_St_pop_14 ?_
  refine j_iconst (v := nI 1) d_St_pop_17 (by decide) ?_
  refine j_isub d_St_pop_18 ?_
  refine j_eqi (y := nI (c - 1)) (pk_sub (by omega)) ?_
  refine j_put F_St h0 2 (by decide) w_124 (Or.inl rfl) rfl rfl rfl (Nat.le_of_ble_eq_true rfl) d_St_pop_19 ?_
  show mp_J Γ m_St_pop E κ (mp_up M h (mp_o 4 [.ref ar, .ref nn, .int (nI (c - 1))])) [(0, .ref h)] 22 [] 0 0
  generalize eM1 : mp_up M h (mp_o 4 [.ref ar, .ref nn, .int (nI (c - 1))]) = M1
  have hM1_ar : M1 ar = some (mp_q E 200 f) := by rw [← eM1, mp_n (mp_ne h1 h0 mp_nao)]; exact h1
  have hM1_h : M1 h = some (mp_o 4 [.ref ar, .ref nn, .int (nI (c - 1))]) := by rw [← eM1]; exact mp_s
  refine j_aload_n d_St_pop_22 rfl 0 rfl ?_
  refine j_get F_St hM1_h 0 (by decide) w_122 (Or.inl rfl) rfl d_St_pop_23 ?_
  refine j_aload_n d_St_pop_26 rfl 0 rfl ?_
  refine j_get F_St hM1_h 2 (by decide) w_124 (Or.inl rfl) rfl d_St_pop_27 ?_
  refine j_aald (x := a (c - 1)) hM1_ar (c - 1) rfl (by omega) (by omega) (hf _ (by omega)) d_St_pop_30 ?_
  exact j_aret hκ rfl (by first | exact Or.inl ⟨_, rfl⟩ | exact Or.inr ⟨_, rfl⟩) (by omega) (by omega) d_St_pop_31 ⟨rfl, by subst_vars; rfl⟩

set_option maxHeartbeats 4000000 in
set_option maxRecDepth 100000 in
theorem c_St_drop (l : Launch) (E : mp_E) (M : mp_M) (h ar nn c j : Nat) (f : Nat → Option Nat) (h0 : M h = some (mp_o 4 [.ref ar, .ref nn, .int (nI c)])) (h1 : M ar = some (mp_q E 200 f)) (hc : c ≤ 200) (hj : j ≤ c) : mp_Cr l m_St_drop E M 1 0 0 [.ref h, .int (nI j)] (fun v N => v = some (.int (tf true)) ∧ N = mp_up M h (mp_o 4 [.ref ar, .ref nn, .int (nI (c - j))])) := by
  refine mp_Cr.of (by decide) (Nat.le_of_ble_eq_true rfl) fun Γ κ hl hκ => ?_
  subst hl
  obtain ⟨hκd, hκc, hκs, -⟩ := id hκ
  show mp_J Γ m_St_drop E κ M [(0, .ref h), (1, .int (nI j))] 0 [] 0 0
  refine j_iload_n d_St_drop_0 rfl 1 rfl ?_
  refine j_nif_lt 12 j rfl (by omega) d_St_drop_1 (by decide) (fun b1 => b1.elim) (fun b1 => ?_)
  refine j_iload_n d_St_drop_4 rfl 1 rfl ?_
  refine j_aload_n d_St_drop_5 rfl 0 rfl ?_
  refine j_get F_St h0 2 (by decide) w_124 (Or.inl rfl) rfl d_St_drop_6 ?_
  refine j_ncmp_le 14 j c rfl rfl (by omega) (by omega) d_St_drop_9 (by decide) (fun b9 => ?_) (fun b9 => absurd hj (by omega))
  refine j_aload_n d_St_drop_14 rfl 0 rfl ?_
  refine j_dup d_St_drop_15 rfl ?_
  refine j_get F_St h0 2 (by decide) w_124 (Or.inl rfl) rfl d_St_drop_16 ?_
  refine j_iload_n d_St_drop_19 rfl 1 rfl ?_
  refine j_isub d_St_drop_20 ?_
  refine j_eqi (y := nI (c - j)) (pk_sub (by omega)) ?_
  refine j_put F_St h0 2 (by decide) w_124 (Or.inl rfl) rfl rfl rfl (Nat.le_of_ble_eq_true rfl) d_St_drop_21 ?_
  show mp_J Γ m_St_drop E κ (mp_up M h (mp_o 4 [.ref ar, .ref nn, .int (nI (c - j))])) [(0, .ref h), (1, .int (nI j))] 24 [] 0 0
  generalize eM1 : mp_up M h (mp_o 4 [.ref ar, .ref nn, .int (nI (c - j))]) = M1
  have hM1_ar : M1 ar = some (mp_q E 200 f) := by rw [← eM1, mp_n (mp_ne h1 h0 mp_nao)]; exact h1
  have hM1_h : M1 h = some (mp_o 4 [.ref ar, .ref nn, .int (nI (c - j))]) := by rw [← eM1]; exact mp_s
  refine j_iconst (v := nI 1) d_St_drop_24 (by decide) ?_
  exact j_zret hκ rfl (by first | exact Or.inl rfl | exact Or.inr rfl) (by omega) (by omega) d_St_drop_25 ⟨rfl, by subst_vars; rfl⟩

set_option maxHeartbeats 4000000 in
set_option maxRecDepth 100000 in
theorem c_St_dropN (l : Launch) (E : mp_E) (M : mp_M) (h ar nn c j : Nat) (f : Nat → Option Nat) (h0 : M h = some (mp_o 4 [.ref ar, .ref nn, .int (nI c)])) (h1 : M ar = some (mp_q E 200 f)) (hc : c ≤ 200) (hj : c < j ∧ j < 100000) : mp_Cr l m_St_drop E M 1 0 0 [.ref h, .int (nI j)] (fun v N => v = some (.int (tf false)) ∧ N = M) := by
  refine mp_Cr.of (by decide) (Nat.le_of_ble_eq_true rfl) fun Γ κ hl hκ => ?_
  subst hl
  obtain ⟨hκd, hκc, hκs, -⟩ := id hκ
  show mp_J Γ m_St_drop E κ M [(0, .ref h), (1, .int (nI j))] 0 [] 0 0
  refine j_iload_n d_St_drop_0 rfl 1 rfl ?_
  refine j_nif_lt 12 j rfl (by omega) d_St_drop_1 (by decide) (fun b1 => b1.elim) (fun b1 => ?_)
  refine j_iload_n d_St_drop_4 rfl 1 rfl ?_
  refine j_aload_n d_St_drop_5 rfl 0 rfl ?_
  refine j_get F_St h0 2 (by decide) w_124 (Or.inl rfl) rfl d_St_drop_6 ?_
  refine j_ncmp_le 14 j c rfl rfl (by omega) (by omega) d_St_drop_9 (by decide) (fun b9 => absurd hj.1 (by omega)) (fun b9 => ?_)
  refine j_iconst (v := nI 0) d_St_drop_12 (by decide) ?_
  exact j_zret hκ rfl (by first | exact Or.inl rfl | exact Or.inr rfl) (by omega) (by omega) d_St_drop_13 ⟨rfl, rfl⟩

def sk_cut (f : Nat → Option Nat) (lo hi : Nat) : Nat → Option Nat := fun i => if lo ≤ i ∧ i < hi then f (i + 1) else f i
theorem sk_step {f : Nat → Option Nat} {lo i x : Nat} (h : lo ≤ i) (hx : f (i + 1) = some x) : va_up (sk_cut f lo i) i (some x) = sk_cut f lo (i + 1) := by
  funext j
  simp only [sk_cut, va_up]
  by_cases hz : j = i
  · subst hz
    rw [if_pos rfl, if_pos ⟨h, by omega⟩, hx]
  · rw [if_neg hz]
    by_cases hy : lo ≤ j ∧ j < i
    · rw [if_pos hy, if_pos ⟨hy.1, by omega⟩]
    · rw [if_neg hy, if_neg (by omega)]
set_option maxHeartbeats 4000000 in
set_option maxRecDepth 100000 in
theorem lp_St_take {Γ : mp_G} {κ : mp_K} (E : mp_E) (M : mp_M) (h ar nn c p tk k0 n0 : Nat) (f : Nat → Option Nat) (a : Nat → Nat) (h0 : M h = some (mp_o 4 [.ref ar, .ref nn, .int (nI c)])) (h1 : M ar = some (mp_q E 200 f)) (hc : c ≤ 200) (hf : ∀ i, i < c → f i = some (a i)) (hp : p < c) (hT : ∀ i, i < c → ∃ vs, M (a i) = some (mp_o 5 vs)) (hx : mp_J Γ m_St_take E κ (mp_up M ar (mp_q E 200 (sk_cut f (c - 1 - p) (c - 1)))) [(0, .ref h), (2, .ref tk)] 53 [] k0 n0)  : ∀ (r : Nat) (Mx : mp_M) (g : Nat → Option Nat) (i : Nat), c - i < r → (Mx = mp_up M ar (mp_q E 200 g)) → (c - 1 - p ≤ i ∧ i ≤ c - 1) → (g = sk_cut f (c - 1 - p) i) → mp_J Γ m_St_take E κ Mx [(0, .ref h), (2, .ref tk), (3, .int (nI i))] 23 [] k0 n0 := by
  intro r
  induction r with
  | zero => intro Mx g i hr; exact absurd hr (Nat.not_lt_zero _)
  | succ r ih =>
    intro Mx g i hr eX hi hg
    have hne : h ≠ ar := mp_ne h0 h1 mp_noa
    have hX1 : Mx ar = some (mp_q E 200 g) := by rw [eX]; exact mp_s
    have hX0 : Mx h = some (mp_o 4 [.ref ar, .ref nn, .int (nI c)]) := by rw [eX, mp_n hne]; exact h0
    refine j_iload_n d_St_take_23 rfl 2 rfl ?_
    refine j_aload_n d_St_take_24 rfl 0 rfl ?_
    refine j_get F_St hX0 2 (by decide) w_124 (Or.inl rfl) rfl d_St_take_25 ?_
    refine j_iconst (v := nI 1) d_St_take_28 (by decide) ?_
    refine j_isub d_St_take_29 ?_
    refine j_eqi (y := nI (c - 1)) (pk_sub (by omega)) ?_
    refine j_ncmp_ge 53 i (c - 1) rfl rfl (by omega) (by omega) d_St_take_30 (by decide) (fun b30 => ?_) (fun b30 => ?_)
    · skip
      refine j_lv [0, 1] rfl ?_
      (rw [eX, hg, show i = c - 1 by omega]; exact hx)
    · skip
      refine j_aload_n d_St_take_33 rfl 0 rfl ?_
      refine j_get F_St hX0 0 (by decide) w_122 (Or.inl rfl) rfl d_St_take_34 ?_
      refine j_iload_n d_St_take_37 rfl 2 rfl ?_
      refine j_aload_n d_St_take_38 rfl 0 rfl ?_
      refine j_get F_St hX0 0 (by decide) w_122 (Or.inl rfl) rfl d_St_take_39 ?_
      refine j_iload_n d_St_take_42 rfl 2 rfl ?_
      refine j_iconst (v := nI 1) d_St_take_43 (by decide) ?_
      refine j_iadd d_St_take_44 ?_
      refine j_eqi (y := nI (i + 1)) (nI_add i 1) ?_
      refine j_aald (x := a (i + 1)) hX1 (i + 1) rfl (by omega) (by omega) (by rw [hg]; unfold sk_cut; rw [if_neg (by omega)]; exact hf _ (by omega)) d_St_take_45 ?_
      obtain ⟨vs9, hv9⟩ := hT (i + 1) (by omega)
      have hv8 : Mx (a (i + 1)) = some (mp_o 5 vs9) := by rw [eX, mp_n (mp_ne hv9 h1 mp_noa)]; exact hv9
      refine j_aast hX1 hv8 rfl rfl i rfl (by omega) (by omega) d_St_take_46 ?_
      generalize eM1 : mp_up Mx ar (mp_q E 200 (va_up g i (some (a (i + 1))))) = M1
      have hM1_h : M1 h = some (mp_o 4 [.ref ar, .ref nn, .int (nI c)]) := by rw [← eM1, mp_n (mp_ne hX0 hX1 mp_noa)]; exact hX0
      have hM1_ar : M1 ar = some (mp_q E 200 (va_up g i (some (a (i + 1))))) := by rw [← eM1]; exact mp_s
      refine j_iinc (v := nI (i + 1)) [(3, .int (nI (i + 1))), (0, .ref h), (2, .ref tk)] d_St_take_47 2 rfl (nI_add i 1) (by decide) rfl ?_
      refine j_goto (tgt := 23) d_St_take_50 (by decide) ?_
      refine j_lv [1, 2, 0] rfl ?_
      exact ih M1 (va_up g i (some (a (i + 1)))) (i + 1) (by omega) (by rw [← eM1, eX, mp_uu]) (by omega) (by rw [hg]; exact sk_step hi.1 (hf _ (by omega)))

set_option maxHeartbeats 4000000 in
set_option maxRecDepth 100000 in
theorem en_St_take {Γ : mp_G} {κ : mp_K} (E : mp_E) (M : mp_M) (h ar nn c p : Nat) (f : Nat → Option Nat) (a : Nat → Nat) (h0 : M h = some (mp_o 4 [.ref ar, .ref nn, .int (nI c)])) (h1 : M ar = some (mp_q E 200 f)) (hc : c ≤ 200) (hp : p < c) (hκ : mp_k κ 3 0 0 (fun v N => v = some (.ref (a (c - 1 - p))) ∧ N = mp_up (mp_up M ar (mp_q E 200 (sk_cut f (c - 1 - p) (c - 1)))) h (mp_o 4 [.ref ar, .ref nn, .int (nI (c - 1))]))) : mp_J Γ m_St_take E κ (mp_up M ar (mp_q E 200 (sk_cut f (c - 1 - p) (c - 1)))) [(0, .ref h), (2, .ref (a (c - 1 - p)))] 53 [] 0 0 := by
  have hne : h ≠ ar := mp_ne h0 h1 mp_noa
  obtain ⟨hκd, hκc, hκs, -⟩ := id hκ
  have hX0 : (mp_up M ar (mp_q E 200 (sk_cut f (c - 1 - p) (c - 1)))) h = some (mp_o 4 [.ref ar, .ref nn, .int (nI c)]) := by rw [mp_n hne]; exact h0
  refine j_aload_n d_St_take_53 rfl 0 rfl ?_
  refine j_dup d_St_take_54 rfl ?_
  refine j_get F_St hX0 2 (by decide) w_124 (Or.inl rfl) rfl d_St_take_55 ?_
  refine j_iconst (v := nI 1) d_St_take_58 (by decide) ?_
  refine j_isub d_St_take_59 ?_
  refine j_eqi (y := nI (c - 1)) (pk_sub (by omega)) ?_
  refine j_put F_St hX0 2 (by decide) w_124 (Or.inl rfl) rfl rfl rfl (Nat.le_of_ble_eq_true rfl) d_St_take_60 ?_
  show mp_J Γ m_St_take E κ (mp_up (mp_up M ar (mp_q E 200 (sk_cut f (c - 1 - p) (c - 1)))) h (mp_o 4 [.ref ar, .ref nn, .int (nI (c - 1))])) [(0, .ref h), (2, .ref (a (c - 1 - p)))] 63 [] 0 0
  generalize eM1 : mp_up (mp_up M ar (mp_q E 200 (sk_cut f (c - 1 - p) (c - 1)))) h (mp_o 4 [.ref ar, .ref nn, .int (nI (c - 1))]) = M1
  have hM1_h : M1 h = some (mp_o 4 [.ref ar, .ref nn, .int (nI (c - 1))]) := by rw [← eM1]; exact mp_s
  refine j_aload_n d_St_take_63 rfl 1 rfl ?_
  exact j_aret hκ rfl (by first | exact Or.inl ⟨_, rfl⟩ | exact Or.inr ⟨_, rfl⟩) (by omega) (by omega) d_St_take_64 ⟨rfl, by subst_vars; rfl⟩
set_option maxHeartbeats 4000000 in
set_option maxRecDepth 100000 in
theorem c_St_take (l : Launch) (E : mp_E) (M : mp_M) (h ar nn c p : Nat) (f : Nat → Option Nat) (a : Nat → Nat) (h0 : M h = some (mp_o 4 [.ref ar, .ref nn, .int (nI c)])) (h1 : M ar = some (mp_q E 200 f)) (hc : c ≤ 200) (hf : ∀ i, i < c → f i = some (a i)) (hp : p < c) (hT : ∀ i, i < c → ∃ vs, M (a i) = some (mp_o 5 vs)) : mp_Cr l m_St_take E M 3 0 0 [.ref h, .int (nI p)] (fun v N => v = some (.ref (a (c - 1 - p))) ∧ N = mp_up (mp_up M ar (mp_q E 200 (sk_cut f (c - 1 - p) (c - 1)))) h (mp_o 4 [.ref ar, .ref nn, .int (nI (c - 1))])) := by
  refine mp_Cr.of (by decide) (Nat.le_of_ble_eq_true rfl) fun Γ κ hl hκ => ?_
  subst hl
  obtain ⟨hκd, hκc, hκs, -⟩ := id hκ
  show mp_J Γ m_St_take E κ M [(0, .ref h), (1, .int (nI p))] 0 [] 0 0
  refine j_aload_n d_St_take_0 rfl 0 rfl ?_
  refine j_iload_n d_St_take_1 rfl 1 rfl ?_
  refine j_callV (As := [.int (nI p)]) (rest := []) (c_St_peek Γ.l E M h ar nn c p f a h0 h1 hc hf (by omega)) Y_St_peek w_698 w_686 w_687 h0 rfl rfl rfl (Nat.le_of_ble_eq_true rfl) (by omega) (by omega) (by omega) d_St_take_2 (fun v2 N2 p2 => ?_)
  obtain ⟨rfl, q2⟩ := p2
  obtain rfl := q2.symm
  show mp_J Γ m_St_take E κ M [(0, .ref h), (1, .int (nI p))] 5 [.ref (sk_at c nn a p)] 0 0
  rw [show sk_at c nn a p = a (c - 1 - p) from if_pos hp]
  refine j_astore_n [(2, .ref (a (c - 1 - p))), (0, .ref h), (1, .int (nI p))] d_St_take_5 rfl (by decide) rfl ?_
  refine j_aload_n d_St_take_6 rfl 1 rfl ?_
  refine j_iload_n d_St_take_7 rfl 2 rfl ?_
  refine j_callV (As := [.int (nI p)]) (rest := []) (c_St_holds Γ.l E M h ar nn c p f h0 h1 hc (by omega)) Y_St_holds w_689 w_371 w_372 h0 rfl rfl rfl (Nat.le_of_ble_eq_true rfl) (by omega) (by omega) (by omega) d_St_take_8 (fun v8 N8 p8 => ?_)
  obtain ⟨rfl, q8⟩ := p8
  obtain rfl := q8.symm
  show mp_J Γ m_St_take E κ M [(2, .ref (a (c - 1 - p))), (0, .ref h), (1, .int (nI p))] 11 [.int (tf (decide (p < c)))] 0 0
  refine j_tif_eq 63 d_St_take_11 (by decide) (fun b11 => absurd (of_decide_eq_false b11) (by omega)) (fun b11 => ?_)
  refine j_aload_n d_St_take_14 rfl 1 rfl ?_
  refine j_get F_St h0 2 (by decide) w_124 (Or.inl rfl) rfl d_St_take_15 ?_
  refine j_iconst (v := nI 1) d_St_take_18 (by decide) ?_
  refine j_isub d_St_take_19 ?_
  refine j_eqi (y := nI (c - 1)) (pk_sub (by omega)) ?_
  refine j_iload_n d_St_take_20 rfl 2 rfl ?_
  refine j_isub d_St_take_21 ?_
  refine j_eqi (y := nI ((c - 1) - p)) (pk_sub (by omega)) ?_
  refine j_istore_n [(3, .int (nI ((c - 1) - p))), (2, .ref (a (c - 1 - p))), (0, .ref h), (1, .int (nI p))] d_St_take_22 rfl (by decide) rfl ?_
  refine j_lv [2, 1, 0] rfl ?_
  exact lp_St_take E M h ar nn c p _ _ _ f a h0 h1 hc hf hp hT (en_St_take E M h ar nn c p f a h0 h1 hc hp hκ) (c + 1) M f (c - 1 - p) (by omega) (mp_same h1).symm (by omega) (by funext j; unfold sk_cut; rw [if_neg (by omega)])

set_option maxHeartbeats 4000000 in
set_option maxRecDepth 100000 in
theorem lp_St_holdsNumbers {Γ : mp_G} {κ : mp_K} (E : mp_E) (M : mp_M) (h ar nn c j : Nat) (f : Nat → Option Nat) (a b m : Nat → Nat) (g : Nat → Nat → Int32) (h0 : M h = some (mp_o 4 [.ref ar, .ref nn, .int (nI c)])) (h1 : M ar = some (mp_q E 200 f)) (hc : c ≤ 200) (hf : ∀ i, i < c → f i = some (a i)) (hT : ∀ i, i < c → M (a i) = some (mp_o 5 [.ref (b i)]) ∧ M (b i) = some (mp_b E (m i) (g i)) ∧ m i ≤ 1000) (hj : j ≤ c) (hκ : mp_k κ 3 0 0 (fun v N => v = some (.int (tf (decide (j ≤ c ∧ ∀ p, p < j → m (c - 1 - p) ≤ 4)))) ∧ N = M)) : ∀ (r : Nat) (i : Nat), j - i < r → (i ≤ j) → (∀ p, p < i → m (c - 1 - p) ≤ 4) → mp_J Γ m_St_holdsNumbers E κ M [(0, .ref h), (1, .int (nI j)), (2, .int (nI i))] 12 [] 0 0 := by
  obtain ⟨hκd, hκc, hκs, -⟩ := id hκ
  intro r
  induction r with
  | zero => intro i hr; exact absurd hr (Nat.not_lt_zero _)
  | succ r ih =>
    intro i hr hi hq
    refine j_iload_n d_St_holdsNumbers_12 rfl 2 rfl ?_
    refine j_iload_n d_St_holdsNumbers_13 rfl 1 rfl ?_
    refine j_ncmp_ge 36 i j rfl rfl (by omega) (by omega) d_St_holdsNumbers_14 (by decide) (fun b14 => ?_) (fun b14 => ?_)
    · skip
      refine j_iconst (v := nI 1) d_St_holdsNumbers_36 (by decide) ?_
      exact j_zret hκ rfl (by first | exact Or.inl rfl | exact Or.inr rfl) (by omega) (by omega) d_St_holdsNumbers_37 ⟨rv_1 ⟨hj, fun p hp => hq p (by omega)⟩, rfl⟩
    · skip
      refine j_aload_n d_St_holdsNumbers_17 rfl 0 rfl ?_
      refine j_iload_n d_St_holdsNumbers_18 rfl 2 rfl ?_
      refine j_callV (As := [.int (nI i)]) (rest := []) (c_St_peek Γ.l E M h ar nn c i f a h0 h1 hc hf (by omega)) Y_St_peek w_698 w_686 w_687 h0 rfl rfl rfl (Nat.le_of_ble_eq_true rfl) (by omega) (by omega) (by omega) d_St_holdsNumbers_19 (fun v19 N19 p19 => ?_)
      obtain ⟨rfl, q19⟩ := p19
      obtain rfl := q19.symm
      show mp_J Γ m_St_holdsNumbers E κ M [(0, .ref h), (1, .int (nI j)), (2, .int (nI i))] 22 [.ref (sk_at c nn a i)] 0 0
      rw [show sk_at c nn a i = a (c - 1 - i) from if_pos (by omega)]
      have hz1 := hT (c - 1 - i) (by omega)
      refine j_callV (As := []) (rest := []) (c_Th_isNumber Γ.l E M (a (c - 1 - i)) (b (c - 1 - i)) (m (c - 1 - i)) (g (c - 1 - i)) hz1.1 hz1.2.1 hz1.2.2) Y_Th_isNumber w_743 w_708 w_709 hz1.1 rfl rfl rfl (Nat.le_of_ble_eq_true rfl) (by omega) (by omega) (by omega) d_St_holdsNumbers_22 (fun v22 N22 p22 => ?_)
      obtain ⟨rfl, q22⟩ := p22
      obtain rfl := q22.symm
      show mp_J Γ m_St_holdsNumbers E κ M [(0, .ref h), (1, .int (nI j)), (2, .int (nI i))] 25 [.int (tf (decide (m (c - 1 - i) ≤ 4)))] 0 0
      refine j_tif_ne 30 d_St_holdsNumbers_25 (by decide) (fun b25 => ?_) (fun b25 => ?_)
      · skip
        refine j_iinc (v := nI (i + 1)) [(2, .int (nI (i + 1))), (0, .ref h), (1, .int (nI j))] d_St_holdsNumbers_30 2 rfl (nI_add i 1) (by decide) rfl ?_
        refine j_goto (tgt := 12) d_St_holdsNumbers_33 (by decide) ?_
        refine j_lv [1, 2, 0] rfl ?_
        exact ih (i + 1) (by omega) (by omega) (lt_s hq (of_decide_eq_true b25))
      · skip
        refine j_iconst (v := nI 0) d_St_holdsNumbers_28 (by decide) ?_
        exact j_zret hκ rfl (by first | exact Or.inl rfl | exact Or.inr rfl) (by omega) (by omega) d_St_holdsNumbers_29 ⟨rv_0 (fun hz => absurd (hz.2 i (by omega)) (of_decide_eq_false b25)), rfl⟩

set_option maxHeartbeats 4000000 in
set_option maxRecDepth 100000 in
theorem c_St_holdsNumbers (l : Launch) (E : mp_E) (M : mp_M) (h ar nn c j : Nat) (f : Nat → Option Nat) (a b m : Nat → Nat) (g : Nat → Nat → Int32) (h0 : M h = some (mp_o 4 [.ref ar, .ref nn, .int (nI c)])) (h1 : M ar = some (mp_q E 200 f)) (hc : c ≤ 200) (hf : ∀ i, i < c → f i = some (a i)) (hT : ∀ i, i < c → M (a i) = some (mp_o 5 [.ref (b i)]) ∧ M (b i) = some (mp_b E (m i) (g i)) ∧ m i ≤ 1000) (hj3 : j ≤ 3) : mp_Cr l m_St_holdsNumbers E M 3 0 0 [.ref h, .int (nI j)] (fun v N => v = some (.int (tf (decide (j ≤ c ∧ ∀ p, p < j → m (c - 1 - p) ≤ 4)))) ∧ N = M) := by
  refine mp_Cr.of (by decide) (Nat.le_of_ble_eq_true rfl) fun Γ κ hl hκ => ?_
  subst hl
  obtain ⟨hκd, hκc, hκs, -⟩ := id hκ
  show mp_J Γ m_St_holdsNumbers E κ M [(0, .ref h), (1, .int (nI j))] 0 [] 0 0
  refine j_aload_n d_St_holdsNumbers_0 rfl 0 rfl ?_
  refine j_get F_St h0 2 (by decide) w_124 (Or.inl rfl) rfl d_St_holdsNumbers_1 ?_
  refine j_iload_n d_St_holdsNumbers_4 rfl 1 rfl ?_
  refine j_ncmp_ge 10 c j rfl rfl (by omega) (by omega) d_St_holdsNumbers_5 (by decide) (fun b5 => ?_) (fun b5 => ?_)
  · skip
    refine j_iconst (v := nI 0) d_St_holdsNumbers_10 (by decide) ?_
    refine j_istore_n [(2, .int (nI 0)), (0, .ref h), (1, .int (nI j))] d_St_holdsNumbers_11 rfl (by decide) rfl ?_
    refine j_lv [1, 2, 0] rfl ?_
    exact lp_St_holdsNumbers E M h ar nn c j f a b m g h0 h1 hc hf hT (by omega) hκ (j + 1) 0 (by omega) (Nat.zero_le _) (fun p hp => absurd hp (Nat.not_lt_zero _))
  · skip
    refine j_iconst (v := nI 0) d_St_holdsNumbers_8 (by decide) ?_
    exact j_zret hκ rfl (by first | exact Or.inl rfl | exact Or.inr rfl) (by omega) (by omega) d_St_holdsNumbers_9 ⟨rv_0 (fun hz => absurd hz.1 (by omega)), rfl⟩

def cd_needs (c : Nat) : Nat := if c = 97 ∨ c = 108 ∨ c = 116 then 0 else if c = 109 ∨ c = 110 ∨ (119 ≤ c ∧ c ≤ 122) ∨ c = 124 ∨ c = 125 then 2 else if c = 123 then 3 else 1
set_option maxHeartbeats 4000000 in
set_option maxRecDepth 100000 in
theorem c_Co_needs (l : Launch) (E : mp_E) (M : mp_M) (c : Nat) (hc : c < 256) : mp_Cr l m_Co_needs E M 1 0 0 [.int (nI c)] (fun v N => v = some (.int (nI (cd_needs c))) ∧ N = M) := by
  refine mp_Cr.of (by decide) (Nat.le_of_ble_eq_true rfl) fun Γ κ hl hκ => ?_
  subst hl
  obtain ⟨hκd, hκc, hκs, -⟩ := id hκ
  show mp_J Γ m_Co_needs E κ M [(0, .int (nI c))] 0 [] 0 0
  refine j_iload_n d_Co_needs_0 rfl 0 rfl ?_
  rcases (show c < 97 ∨ 125 < c ∨ c = 97 ∨ c = 98 ∨ c = 99 ∨ c = 100 ∨ c = 101 ∨ c = 102 ∨ c = 103 ∨ c = 104 ∨ c = 105 ∨ c = 106 ∨ c = 107 ∨ c = 108 ∨ c = 109 ∨ c = 110 ∨ c = 111 ∨ c = 112 ∨ c = 113 ∨ c = 114 ∨ c = 115 ∨ c = 116 ∨ c = 117 ∨ c = 118 ∨ c = 119 ∨ c = 120 ∨ c = 121 ∨ c = 122 ∨ c = 123 ∨ c = 124 ∨ c = 125 by omega) with hz9 | hz9 | rfl | rfl | rfl | rfl | rfl | rfl | rfl | rfl | rfl | rfl | rfl | rfl | rfl | rfl | rfl | rfl | rfl | rfl | rfl | rfl | rfl | rfl | rfl | rfl | rfl | rfl | rfl | rfl | rfl
  · skip
    refine j_tableOut 144 d_Co_needs_1 (Or.inl (by rw [nI_toInt (by omega)]; omega)) (by decide) ?_
    refine j_iconst (v := nI 1) d_Co_needs_144 (by decide) ?_
    exact j_iret hκ rfl (by omega) (by omega) d_Co_needs_145 ⟨by unfold cd_needs; rw [if_neg (by omega), if_neg (by omega), if_neg (by omega)], rfl⟩
  · skip
    refine j_tableOut 144 d_Co_needs_1 (Or.inr (by rw [nI_toInt (by omega)]; omega)) (by decide) ?_
    refine j_iconst (v := nI 1) d_Co_needs_144 (by decide) ?_
    exact j_iret hκ rfl (by omega) (by omega) d_Co_needs_145 ⟨by unfold cd_needs; rw [if_neg (by omega), if_neg (by omega), if_neg (by omega)], rfl⟩
  · skip
    refine j_tableIn 132 d_Co_needs_1 (by decide) (by decide) rfl (by decide) ?_
    refine j_iconst (v := nI 0) d_Co_needs_132 (by decide) ?_
    refine j_goto (tgt := 145) d_Co_needs_133 (by decide) ?_
    exact j_iret hκ rfl (by omega) (by omega) d_Co_needs_145 ⟨by decide, rfl⟩
  · skip
    refine j_tableIn 144 d_Co_needs_1 (by decide) (by decide) rfl (by decide) ?_
    refine j_iconst (v := nI 1) d_Co_needs_144 (by decide) ?_
    exact j_iret hκ rfl (by omega) (by omega) d_Co_needs_145 ⟨by decide, rfl⟩
  · skip
    refine j_tableIn 144 d_Co_needs_1 (by decide) (by decide) rfl (by decide) ?_
    refine j_iconst (v := nI 1) d_Co_needs_144 (by decide) ?_
    exact j_iret hκ rfl (by omega) (by omega) d_Co_needs_145 ⟨by decide, rfl⟩
  · skip
    refine j_tableIn 144 d_Co_needs_1 (by decide) (by decide) rfl (by decide) ?_
    refine j_iconst (v := nI 1) d_Co_needs_144 (by decide) ?_
    exact j_iret hκ rfl (by omega) (by omega) d_Co_needs_145 ⟨by decide, rfl⟩
  · skip
    refine j_tableIn 144 d_Co_needs_1 (by decide) (by decide) rfl (by decide) ?_
    refine j_iconst (v := nI 1) d_Co_needs_144 (by decide) ?_
    exact j_iret hκ rfl (by omega) (by omega) d_Co_needs_145 ⟨by decide, rfl⟩
  · skip
    refine j_tableIn 144 d_Co_needs_1 (by decide) (by decide) rfl (by decide) ?_
    refine j_iconst (v := nI 1) d_Co_needs_144 (by decide) ?_
    exact j_iret hκ rfl (by omega) (by omega) d_Co_needs_145 ⟨by decide, rfl⟩
  · skip
    refine j_tableIn 144 d_Co_needs_1 (by decide) (by decide) rfl (by decide) ?_
    refine j_iconst (v := nI 1) d_Co_needs_144 (by decide) ?_
    exact j_iret hκ rfl (by omega) (by omega) d_Co_needs_145 ⟨by decide, rfl⟩
  · skip
    refine j_tableIn 144 d_Co_needs_1 (by decide) (by decide) rfl (by decide) ?_
    refine j_iconst (v := nI 1) d_Co_needs_144 (by decide) ?_
    exact j_iret hκ rfl (by omega) (by omega) d_Co_needs_145 ⟨by decide, rfl⟩
  · skip
    refine j_tableIn 144 d_Co_needs_1 (by decide) (by decide) rfl (by decide) ?_
    refine j_iconst (v := nI 1) d_Co_needs_144 (by decide) ?_
    exact j_iret hκ rfl (by omega) (by omega) d_Co_needs_145 ⟨by decide, rfl⟩
  · skip
    refine j_tableIn 144 d_Co_needs_1 (by decide) (by decide) rfl (by decide) ?_
    refine j_iconst (v := nI 1) d_Co_needs_144 (by decide) ?_
    exact j_iret hκ rfl (by omega) (by omega) d_Co_needs_145 ⟨by decide, rfl⟩
  · skip
    refine j_tableIn 144 d_Co_needs_1 (by decide) (by decide) rfl (by decide) ?_
    refine j_iconst (v := nI 1) d_Co_needs_144 (by decide) ?_
    exact j_iret hκ rfl (by omega) (by omega) d_Co_needs_145 ⟨by decide, rfl⟩
  · skip
    refine j_tableIn 132 d_Co_needs_1 (by decide) (by decide) rfl (by decide) ?_
    refine j_iconst (v := nI 0) d_Co_needs_132 (by decide) ?_
    refine j_goto (tgt := 145) d_Co_needs_133 (by decide) ?_
    exact j_iret hκ rfl (by omega) (by omega) d_Co_needs_145 ⟨by decide, rfl⟩
  · skip
    refine j_tableIn 136 d_Co_needs_1 (by decide) (by decide) rfl (by decide) ?_
    refine j_iconst (v := nI 2) d_Co_needs_136 (by decide) ?_
    refine j_goto (tgt := 145) d_Co_needs_137 (by decide) ?_
    exact j_iret hκ rfl (by omega) (by omega) d_Co_needs_145 ⟨by decide, rfl⟩
  · skip
    refine j_tableIn 136 d_Co_needs_1 (by decide) (by decide) rfl (by decide) ?_
    refine j_iconst (v := nI 2) d_Co_needs_136 (by decide) ?_
    refine j_goto (tgt := 145) d_Co_needs_137 (by decide) ?_
    exact j_iret hκ rfl (by omega) (by omega) d_Co_needs_145 ⟨by decide, rfl⟩
  · skip
    refine j_tableIn 144 d_Co_needs_1 (by decide) (by decide) rfl (by decide) ?_
    refine j_iconst (v := nI 1) d_Co_needs_144 (by decide) ?_
    exact j_iret hκ rfl (by omega) (by omega) d_Co_needs_145 ⟨by decide, rfl⟩
  · skip
    refine j_tableIn 144 d_Co_needs_1 (by decide) (by decide) rfl (by decide) ?_
    refine j_iconst (v := nI 1) d_Co_needs_144 (by decide) ?_
    exact j_iret hκ rfl (by omega) (by omega) d_Co_needs_145 ⟨by decide, rfl⟩
  · skip
    refine j_tableIn 144 d_Co_needs_1 (by decide) (by decide) rfl (by decide) ?_
    refine j_iconst (v := nI 1) d_Co_needs_144 (by decide) ?_
    exact j_iret hκ rfl (by omega) (by omega) d_Co_needs_145 ⟨by decide, rfl⟩
  · skip
    refine j_tableIn 144 d_Co_needs_1 (by decide) (by decide) rfl (by decide) ?_
    refine j_iconst (v := nI 1) d_Co_needs_144 (by decide) ?_
    exact j_iret hκ rfl (by omega) (by omega) d_Co_needs_145 ⟨by decide, rfl⟩
  · skip
    refine j_tableIn 144 d_Co_needs_1 (by decide) (by decide) rfl (by decide) ?_
    refine j_iconst (v := nI 1) d_Co_needs_144 (by decide) ?_
    exact j_iret hκ rfl (by omega) (by omega) d_Co_needs_145 ⟨by decide, rfl⟩
  · skip
    refine j_tableIn 132 d_Co_needs_1 (by decide) (by decide) rfl (by decide) ?_
    refine j_iconst (v := nI 0) d_Co_needs_132 (by decide) ?_
    refine j_goto (tgt := 145) d_Co_needs_133 (by decide) ?_
    exact j_iret hκ rfl (by omega) (by omega) d_Co_needs_145 ⟨by decide, rfl⟩
  · skip
    refine j_tableIn 144 d_Co_needs_1 (by decide) (by decide) rfl (by decide) ?_
    refine j_iconst (v := nI 1) d_Co_needs_144 (by decide) ?_
    exact j_iret hκ rfl (by omega) (by omega) d_Co_needs_145 ⟨by decide, rfl⟩
  · skip
    refine j_tableIn 144 d_Co_needs_1 (by decide) (by decide) rfl (by decide) ?_
    refine j_iconst (v := nI 1) d_Co_needs_144 (by decide) ?_
    exact j_iret hκ rfl (by omega) (by omega) d_Co_needs_145 ⟨by decide, rfl⟩
  · skip
    refine j_tableIn 136 d_Co_needs_1 (by decide) (by decide) rfl (by decide) ?_
    refine j_iconst (v := nI 2) d_Co_needs_136 (by decide) ?_
    refine j_goto (tgt := 145) d_Co_needs_137 (by decide) ?_
    exact j_iret hκ rfl (by omega) (by omega) d_Co_needs_145 ⟨by decide, rfl⟩
  · skip
    refine j_tableIn 136 d_Co_needs_1 (by decide) (by decide) rfl (by decide) ?_
    refine j_iconst (v := nI 2) d_Co_needs_136 (by decide) ?_
    refine j_goto (tgt := 145) d_Co_needs_137 (by decide) ?_
    exact j_iret hκ rfl (by omega) (by omega) d_Co_needs_145 ⟨by decide, rfl⟩
  · skip
    refine j_tableIn 136 d_Co_needs_1 (by decide) (by decide) rfl (by decide) ?_
    refine j_iconst (v := nI 2) d_Co_needs_136 (by decide) ?_
    refine j_goto (tgt := 145) d_Co_needs_137 (by decide) ?_
    exact j_iret hκ rfl (by omega) (by omega) d_Co_needs_145 ⟨by decide, rfl⟩
  · skip
    refine j_tableIn 136 d_Co_needs_1 (by decide) (by decide) rfl (by decide) ?_
    refine j_iconst (v := nI 2) d_Co_needs_136 (by decide) ?_
    refine j_goto (tgt := 145) d_Co_needs_137 (by decide) ?_
    exact j_iret hκ rfl (by omega) (by omega) d_Co_needs_145 ⟨by decide, rfl⟩
  · skip
    refine j_tableIn 140 d_Co_needs_1 (by decide) (by decide) rfl (by decide) ?_
    refine j_iconst (v := nI 3) d_Co_needs_140 (by decide) ?_
    refine j_goto (tgt := 145) d_Co_needs_141 (by decide) ?_
    exact j_iret hκ rfl (by omega) (by omega) d_Co_needs_145 ⟨by decide, rfl⟩
  · skip
    refine j_tableIn 136 d_Co_needs_1 (by decide) (by decide) rfl (by decide) ?_
    refine j_iconst (v := nI 2) d_Co_needs_136 (by decide) ?_
    refine j_goto (tgt := 145) d_Co_needs_137 (by decide) ?_
    exact j_iret hκ rfl (by omega) (by omega) d_Co_needs_145 ⟨by decide, rfl⟩
  · skip
    refine j_tableIn 136 d_Co_needs_1 (by decide) (by decide) rfl (by decide) ?_
    refine j_iconst (v := nI 2) d_Co_needs_136 (by decide) ?_
    refine j_goto (tgt := 145) d_Co_needs_137 (by decide) ?_
    exact j_iret hκ rfl (by omega) (by omega) d_Co_needs_145 ⟨by decide, rfl⟩
