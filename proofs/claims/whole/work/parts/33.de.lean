theorem am_i32 {i : Int32} {len : Nat} (hl : len ≤ 1000) : (¬ i < 0 ∧ i ≤ nI len) ↔ ∃ j, j ≤ len ∧ i = nI j := by
  constructor
  · intro ⟨h1, h2⟩
    have h0 : (0 : Int32).toInt = 0 := by decide
    rw [Int32.lt_iff_toInt_lt, h0] at h1
    rw [Int32.le_iff_toInt_le, nI_toInt (by omega)] at h2
    refine ⟨i.toInt.toNat, by omega, ?_⟩
    apply Int32.toInt_inj.mp
    rw [nI_toInt (by omega)]
    omega
  · intro ⟨j, h1, h2⟩
    subst h2
    have h0 : (0 : Int32).toInt = 0 := by decide
    refine ⟨fun h => ?_, ?_⟩
    · rw [Int32.lt_iff_toInt_lt, nI_toInt (by omega), h0] at h; omega
    · rw [Int32.le_iff_toInt_le, nI_toInt (by omega), nI_toInt (by omega)]; omega
set_option maxHeartbeats 4000000 in
set_option maxRecDepth 100000 in
theorem c_De_rowHas (l : Launch) (E : mp_E) (M : mp_M) (h ro len s1 s2 ma sk : Nat) (i : Int32) (h0 : M h = some (mp_o 6 [.ref ro, .int (nI len), .ref s1, .ref s2, .ref ma, .ref sk])) : mp_Cr l m_De_rowHas E M 1 0 0 [.ref h, .int i] (fun v N => v = some (.int (tf (decide (¬ i < 0 ∧ i ≤ nI len)))) ∧ N = M) := by
  refine mp_Cr.of (by decide) (Nat.le_of_ble_eq_true rfl) fun Γ κ hl hκ => ?_
  subst hl
  obtain ⟨hκd, hκc, hκs, -⟩ := id hκ
  show mp_J Γ m_De_rowHas E κ M [(0, .ref h), (1, .int i)] 0 [] 0 0
  refine j_iload_n d_De_rowHas_0 rfl 1 rfl ?_
  refine j_if_lt 16 d_De_rowHas_1 (by decide) (fun b1 => ?_) (fun b1 => ?_)
  · skip
    refine j_iconst (v := nI 0) d_De_rowHas_16 (by decide) ?_
    exact j_zret hκ rfl (by first | exact Or.inl rfl | exact Or.inr rfl) (by omega) (by omega) d_De_rowHas_17 (by first | exact ⟨rv_1 ⟨b1, Int32.not_lt.mp b9⟩, rfl⟩ | exact ⟨rv_0 (fun hz => absurd hz.2 (Int32.not_le.mpr b9)), rfl⟩ | exact ⟨rv_0 (fun hz => hz.1 b1), rfl⟩)
  · skip
    refine j_iload_n d_De_rowHas_4 rfl 1 rfl ?_
    refine j_aload_n d_De_rowHas_5 rfl 0 rfl ?_
    refine j_get F_De h0 1 (by decide) w_191 (Or.inl rfl) rfl d_De_rowHas_6 ?_
    refine j_icmp_gt 16 d_De_rowHas_9 (by decide) (fun b9 => ?_) (fun b9 => ?_)
    · skip
      refine j_iconst (v := nI 0) d_De_rowHas_16 (by decide) ?_
      exact j_zret hκ rfl (by first | exact Or.inl rfl | exact Or.inr rfl) (by omega) (by omega) d_De_rowHas_17 (by first | exact ⟨rv_1 ⟨b1, Int32.not_lt.mp b9⟩, rfl⟩ | exact ⟨rv_0 (fun hz => absurd hz.2 (Int32.not_le.mpr b9)), rfl⟩ | exact ⟨rv_0 (fun hz => hz.1 b1), rfl⟩)
    · skip
      refine j_iconst (v := nI 1) d_De_rowHas_12 (by decide) ?_
      refine j_goto (tgt := 17) d_De_rowHas_13 (by decide) ?_
      exact j_zret hκ rfl (by first | exact Or.inl rfl | exact Or.inr rfl) (by omega) (by omega) d_De_rowHas_17 (by first | exact ⟨rv_1 ⟨b1, Int32.not_lt.mp b9⟩, rfl⟩ | exact ⟨rv_0 (fun hz => absurd hz.2 (Int32.not_le.mpr b9)), rfl⟩ | exact ⟨rv_0 (fun hz => hz.1 b1), rfl⟩)

set_option maxHeartbeats 4000000 in
set_option maxRecDepth 100000 in
theorem c_De_end (l : Launch) (hl0 : l.stackTraces = false) (E : mp_E) (M : mp_M) (h ro len s1 s2 ma sk : Nat) (i : Int32) (h0 : M h = some (mp_o 6 [.ref ro, .int (nI len), .ref s1, .ref s2, .ref ma, .ref sk])) (hlen : len ≤ 1000) : mp_Ct l m_De_end E M 8 1 6 [.ref h, .int i] (mp_pq (fun v N => ∃ j, j ≤ len ∧ i = nI j ∧ v = some (.int (nI j)) ∧ N = mp_up M h (mp_o 6 [.ref ro, .int (nI j), .ref s1, .ref s2, .ref ma, .ref sk])) (fun x N => x = "java/lang/IllegalArgumentException" ∧ (¬ ∃ j, j ≤ len ∧ i = nI j) ∧ N = M)) := by
  refine mp_Ct.of (by decide) (Nat.le_of_ble_eq_true rfl) fun Γ κ hl hκ0 => ?_
  subst hl
  have hl := hl0
  obtain ⟨hκ, hX⟩ := mp_k2 hκ0
  obtain ⟨hκd, hκc, hκs, -⟩ := id hκ
  show mp_J Γ m_De_end E κ M [(0, .ref h), (1, .int i)] 0 [] 0 0
  refine j_aload_n d_De_end_0 rfl 0 rfl ?_
  refine j_iload_n d_De_end_1 rfl 1 rfl ?_
  refine j_callV (As := [.int i]) (rest := []) (c_De_rowHas Γ.l E M h ro len s1 s2 ma sk i h0) Y_De_rowHas w_302 w_304 ws_2 h0 rfl rfl rfl (Nat.le_of_ble_eq_true rfl) (by omega) (by omega) (by omega) d_De_end_2 (fun v2 N2 p2 => ?_)
  obtain ⟨rfl, q2⟩ := p2
  obtain rfl := q2.symm
  show mp_J Γ m_De_end E κ M [(0, .ref h), (1, .int i)] 5 [.int (tf (decide (¬ i < 0 ∧ i ≤ nI len)))] 0 0
  refine j_tif_ne 16 d_De_end_5 (by decide) (fun b5 => ?_) (fun b5 => ?_)
  · skip
    refine j_aload_n d_De_end_16 rfl 0 rfl ?_
    refine j_iload_n d_De_end_17 rfl 1 rfl ?_
    refine j_put F_De h0 1 (by decide) w_191 (Or.inl rfl) rfl rfl rfl (Nat.le_of_ble_eq_true rfl) d_De_end_18 ?_
    show mp_J Γ m_De_end E κ (mp_up M h (mp_o 6 [.ref ro, .int i, .ref s1, .ref s2, .ref ma, .ref sk])) [(0, .ref h), (1, .int i)] 21 [] 0 0
    generalize eM1 : mp_up M h (mp_o 6 [.ref ro, .int i, .ref s1, .ref s2, .ref ma, .ref sk]) = M1
    have hM1_h : M1 h = some (mp_o 6 [.ref ro, .int i, .ref s1, .ref s2, .ref ma, .ref sk]) := by rw [← eM1]; exact mp_s
    refine j_iload_n d_De_end_21 rfl 1 rfl ?_
    exact j_iret hκ rfl (by omega) (by omega) d_De_end_22 (by obtain ⟨j, e1, e2⟩ := (am_i32 hlen).mp (of_decide_eq_true b5); subst e2; exact ⟨j, e1, rfl, rfl, eM1.symm⟩)
  · skip
    exact j_throw (names := ["java/lang/RuntimeException", "java/lang/Exception"]) hl (by decide) (by decide) w_306 w_17 x_IAE g_IAE d_De_end_8 d_De_end_11 d_De_end_12 d_De_end_15 (by decide) (Nat.le_of_ble_eq_true rfl) (by omega) rfl (by omega) (by omega) (hX _ _ ⟨rfl, fun hz => of_decide_eq_false b5 ((am_i32 hlen).mpr hz), rfl⟩)

def ap_b (x : Int32) (s : Nat) : Int32 := (x >>> (nI s &&& 31)).toInt8.toInt32
def ap_w (g : Nat → Int32) (len : Nat) (x : Int32) : Nat → Int32 := upd (upd (upd (upd g len (ap_b x 24)) (len + 1) (ap_b x 16)) (len + 1 + 1) (ap_b x 8)) (len + 1 + 1 + 1) (ap_b x 0)
set_option maxHeartbeats 4000000 in
set_option maxRecDepth 100000 in
theorem c_De_append (l : Launch) (E : mp_E) (M : mp_M) (h ro len s1 s2 ma sk : Nat) (g : Nat → Int32) (x : Int32) (h0 : M h = some (mp_o 6 [.ref ro, .int (nI len), .ref s1, .ref s2, .ref ma, .ref sk])) (h1 : M ro = some (mp_b E 1000 g)) (hl4 : len + 4 ≤ 1000) : mp_Cr l m_De_append E M 1 0 0 [.ref h, .int x] (fun v N => v = none ∧ N h = some (mp_o 6 [.ref ro, .int (nI (len + 4)), .ref s1, .ref s2, .ref ma, .ref sk]) ∧ N ro = some (mp_b E 1000 (ap_w g len x)) ∧ AO h ro M N) := by
  refine mp_Cr.of (by decide) (Nat.le_of_ble_eq_true rfl) fun Γ κ hl hκ => ?_
  subst hl
  obtain ⟨hκd, hκc, hκs, -⟩ := id hκ
  show mp_J Γ m_De_append E κ M [(0, .ref h), (1, .int x)] 0 [] 0 0
  refine j_bipush (v := nI 24) d_De_append_0 (by decide) ?_
  refine j_istore_n [(2, .int (nI 24)), (0, .ref h), (1, .int x)] d_De_append_2 rfl (by decide) rfl ?_
  refine j_iload_n d_De_append_3 rfl 0 rfl ?_
  refine j_nif_lt 36 24 rfl (by omega) d_De_append_4 (by decide) (fun b4 => (by first | exact b4.elim | exact absurd b4 (by omega))) (fun b4 => ?_)
  refine j_aload_n d_De_append_7 rfl 1 rfl ?_
  refine j_get F_De h0 0 (by decide) w_190 (Or.inl rfl) rfl d_De_append_8 ?_
  refine j_aload_n d_De_append_11 rfl 1 rfl ?_
  refine j_get F_De h0 1 (by decide) w_191 (Or.inl rfl) rfl d_De_append_12 ?_
  refine j_iload_n d_De_append_15 rfl 2 rfl ?_
  refine j_iload_n d_De_append_16 rfl 0 rfl ?_
  refine j_ishr d_De_append_17 ?_
  refine j_i2b d_De_append_18 ?_
  refine j_eqi (y := ap_b x 24) rfl ?_
  refine j_bast (y := ap_b x 24) h1 len rfl (by omega) (by omega) (pk_vb _) d_De_append_19 ?_
  generalize eM1 : mp_up M ro (mp_b E 1000 (upd g len (ap_b x 24))) = M1
  have hM1_h : M1 h = some (mp_o 6 [.ref ro, .int (nI len), .ref s1, .ref s2, .ref ma, .ref sk]) := by rw [← eM1, mp_n (mp_ne h0 h1 mp_noa)]; exact h0
  have hM1_ro : M1 ro = some (mp_b E 1000 (upd g len (ap_b x 24))) := by rw [← eM1]; exact mp_s
  refine j_aload_n d_De_append_20 rfl 1 rfl ?_
  refine j_dup d_De_append_21 rfl ?_
  refine j_get F_De hM1_h 1 (by decide) w_191 (Or.inl rfl) rfl d_De_append_22 ?_
  refine j_iconst (v := nI 1) d_De_append_25 (by decide) ?_
  refine j_iadd d_De_append_26 ?_
  refine j_eqi (y := nI (len + 1)) (nI_add len 1) ?_
  refine j_put F_De hM1_h 1 (by decide) w_191 (Or.inl rfl) rfl rfl rfl (Nat.le_of_ble_eq_true rfl) d_De_append_27 ?_
  show mp_J Γ m_De_append E κ (mp_up M1 h (mp_o 6 [.ref ro, .int (nI (len + 1)), .ref s1, .ref s2, .ref ma, .ref sk])) [(2, .int (nI 24)), (0, .ref h), (1, .int x)] 30 [] 0 0
  generalize eM2 : mp_up M1 h (mp_o 6 [.ref ro, .int (nI (len + 1)), .ref s1, .ref s2, .ref ma, .ref sk]) = M2
  have hM2_ro : M2 ro = some (mp_b E 1000 (upd g len (ap_b x 24))) := by rw [← eM2, mp_n (mp_ne hM1_ro hM1_h mp_nao)]; exact hM1_ro
  have hM2_h : M2 h = some (mp_o 6 [.ref ro, .int (nI (len + 1)), .ref s1, .ref s2, .ref ma, .ref sk]) := by rw [← eM2]; exact mp_s
  refine j_iinc (v := nI 16) [(2, .int (nI 16)), (0, .ref h), (1, .int x)] d_De_append_30 0 rfl (by decide) (by decide) rfl ?_
  refine j_goto (tgt := 3) d_De_append_33 (by decide) ?_
  refine j_iload_n d_De_append_3 rfl 0 rfl ?_
  refine j_nif_lt 36 16 rfl (by omega) d_De_append_4 (by decide) (fun b4 => (by first | exact b4.elim | exact absurd b4 (by omega))) (fun b4 => ?_)
  refine j_aload_n d_De_append_7 rfl 1 rfl ?_
  refine j_get F_De hM2_h 0 (by decide) w_190 (Or.inl rfl) rfl d_De_append_8 ?_
  refine j_aload_n d_De_append_11 rfl 1 rfl ?_
  refine j_get F_De hM2_h 1 (by decide) w_191 (Or.inl rfl) rfl d_De_append_12 ?_
  refine j_iload_n d_De_append_15 rfl 2 rfl ?_
  refine j_iload_n d_De_append_16 rfl 0 rfl ?_
  refine j_ishr d_De_append_17 ?_
  refine j_i2b d_De_append_18 ?_
  refine j_eqi (y := ap_b x 16) rfl ?_
  refine j_bast (y := ap_b x 16) hM2_ro (len + 1) rfl (by omega) (by omega) (pk_vb _) d_De_append_19 ?_
  generalize eM3 : mp_up M2 ro (mp_b E 1000 (upd (upd g len (ap_b x 24)) (len + 1) (ap_b x 16))) = M3
  have hM3_h : M3 h = some (mp_o 6 [.ref ro, .int (nI (len + 1)), .ref s1, .ref s2, .ref ma, .ref sk]) := by rw [← eM3, mp_n (mp_ne hM2_h hM2_ro mp_noa)]; exact hM2_h
  have hM3_ro : M3 ro = some (mp_b E 1000 (upd (upd g len (ap_b x 24)) (len + 1) (ap_b x 16))) := by rw [← eM3]; exact mp_s
  refine j_aload_n d_De_append_20 rfl 1 rfl ?_
  refine j_dup d_De_append_21 rfl ?_
  refine j_get F_De hM3_h 1 (by decide) w_191 (Or.inl rfl) rfl d_De_append_22 ?_
  refine j_iconst (v := nI 1) d_De_append_25 (by decide) ?_
  refine j_iadd d_De_append_26 ?_
  refine j_eqi (y := nI ((len + 1) + 1)) (nI_add (len + 1) 1) ?_
  refine j_put F_De hM3_h 1 (by decide) w_191 (Or.inl rfl) rfl rfl rfl (Nat.le_of_ble_eq_true rfl) d_De_append_27 ?_
  show mp_J Γ m_De_append E κ (mp_up M3 h (mp_o 6 [.ref ro, .int (nI ((len + 1) + 1)), .ref s1, .ref s2, .ref ma, .ref sk])) [(2, .int (nI 16)), (0, .ref h), (1, .int x)] 30 [] 0 0
  generalize eM4 : mp_up M3 h (mp_o 6 [.ref ro, .int (nI ((len + 1) + 1)), .ref s1, .ref s2, .ref ma, .ref sk]) = M4
  have hM4_ro : M4 ro = some (mp_b E 1000 (upd (upd g len (ap_b x 24)) (len + 1) (ap_b x 16))) := by rw [← eM4, mp_n (mp_ne hM3_ro hM3_h mp_nao)]; exact hM3_ro
  have hM4_h : M4 h = some (mp_o 6 [.ref ro, .int (nI ((len + 1) + 1)), .ref s1, .ref s2, .ref ma, .ref sk]) := by rw [← eM4]; exact mp_s
  refine j_iinc (v := nI 8) [(2, .int (nI 8)), (0, .ref h), (1, .int x)] d_De_append_30 0 rfl (by decide) (by decide) rfl ?_
  refine j_goto (tgt := 3) d_De_append_33 (by decide) ?_
  refine j_iload_n d_De_append_3 rfl 0 rfl ?_
  refine j_nif_lt 36 8 rfl (by omega) d_De_append_4 (by decide) (fun b4 => (by first | exact b4.elim | exact absurd b4 (by omega))) (fun b4 => ?_)
  refine j_aload_n d_De_append_7 rfl 1 rfl ?_
  refine j_get F_De hM4_h 0 (by decide) w_190 (Or.inl rfl) rfl d_De_append_8 ?_
  refine j_aload_n d_De_append_11 rfl 1 rfl ?_
  refine j_get F_De hM4_h 1 (by decide) w_191 (Or.inl rfl) rfl d_De_append_12 ?_
  refine j_iload_n d_De_append_15 rfl 2 rfl ?_
  refine j_iload_n d_De_append_16 rfl 0 rfl ?_
  refine j_ishr d_De_append_17 ?_
  refine j_i2b d_De_append_18 ?_
  refine j_eqi (y := ap_b x 8) rfl ?_
  refine j_bast (y := ap_b x 8) hM4_ro ((len + 1) + 1) rfl (by omega) (by omega) (pk_vb _) d_De_append_19 ?_
  generalize eM5 : mp_up M4 ro (mp_b E 1000 (upd (upd (upd g len (ap_b x 24)) (len + 1) (ap_b x 16)) ((len + 1) + 1) (ap_b x 8))) = M5
  have hM5_h : M5 h = some (mp_o 6 [.ref ro, .int (nI ((len + 1) + 1)), .ref s1, .ref s2, .ref ma, .ref sk]) := by rw [← eM5, mp_n (mp_ne hM4_h hM4_ro mp_noa)]; exact hM4_h
  have hM5_ro : M5 ro = some (mp_b E 1000 (upd (upd (upd g len (ap_b x 24)) (len + 1) (ap_b x 16)) ((len + 1) + 1) (ap_b x 8))) := by rw [← eM5]; exact mp_s
  refine j_aload_n d_De_append_20 rfl 1 rfl ?_
  refine j_dup d_De_append_21 rfl ?_
  refine j_get F_De hM5_h 1 (by decide) w_191 (Or.inl rfl) rfl d_De_append_22 ?_
  refine j_iconst (v := nI 1) d_De_append_25 (by decide) ?_
  refine j_iadd d_De_append_26 ?_
  refine j_eqi (y := nI (((len + 1) + 1) + 1)) (nI_add ((len + 1) + 1) 1) ?_
  refine j_put F_De hM5_h 1 (by decide) w_191 (Or.inl rfl) rfl rfl rfl (Nat.le_of_ble_eq_true rfl) d_De_append_27 ?_
  show mp_J Γ m_De_append E κ (mp_up M5 h (mp_o 6 [.ref ro, .int (nI (((len + 1) + 1) + 1)), .ref s1, .ref s2, .ref ma, .ref sk])) [(2, .int (nI 8)), (0, .ref h), (1, .int x)] 30 [] 0 0
  generalize eM6 : mp_up M5 h (mp_o 6 [.ref ro, .int (nI (((len + 1) + 1) + 1)), .ref s1, .ref s2, .ref ma, .ref sk]) = M6
  have hM6_ro : M6 ro = some (mp_b E 1000 (upd (upd (upd g len (ap_b x 24)) (len + 1) (ap_b x 16)) ((len + 1) + 1) (ap_b x 8))) := by rw [← eM6, mp_n (mp_ne hM5_ro hM5_h mp_nao)]; exact hM5_ro
  have hM6_h : M6 h = some (mp_o 6 [.ref ro, .int (nI (((len + 1) + 1) + 1)), .ref s1, .ref s2, .ref ma, .ref sk]) := by rw [← eM6]; exact mp_s
  refine j_iinc (v := nI 0) [(2, .int (nI 0)), (0, .ref h), (1, .int x)] d_De_append_30 0 rfl (by decide) (by decide) rfl ?_
  refine j_goto (tgt := 3) d_De_append_33 (by decide) ?_
  refine j_iload_n d_De_append_3 rfl 0 rfl ?_
  refine j_nif_lt 36 0 rfl (by omega) d_De_append_4 (by decide) (fun b4 => (by first | exact b4.elim | exact absurd b4 (by omega))) (fun b4 => ?_)
  refine j_aload_n d_De_append_7 rfl 1 rfl ?_
  refine j_get F_De hM6_h 0 (by decide) w_190 (Or.inl rfl) rfl d_De_append_8 ?_
  refine j_aload_n d_De_append_11 rfl 1 rfl ?_
  refine j_get F_De hM6_h 1 (by decide) w_191 (Or.inl rfl) rfl d_De_append_12 ?_
  refine j_iload_n d_De_append_15 rfl 2 rfl ?_
  refine j_iload_n d_De_append_16 rfl 0 rfl ?_
  refine j_ishr d_De_append_17 ?_
  refine j_i2b d_De_append_18 ?_
  refine j_eqi (y := ap_b x 0) rfl ?_
  refine j_bast (y := ap_b x 0) hM6_ro (((len + 1) + 1) + 1) rfl (by omega) (by omega) (pk_vb _) d_De_append_19 ?_
  generalize eM7 : mp_up M6 ro (mp_b E 1000 (upd (upd (upd (upd g len (ap_b x 24)) (len + 1) (ap_b x 16)) ((len + 1) + 1) (ap_b x 8)) (((len + 1) + 1) + 1) (ap_b x 0))) = M7
  have hM7_h : M7 h = some (mp_o 6 [.ref ro, .int (nI (((len + 1) + 1) + 1)), .ref s1, .ref s2, .ref ma, .ref sk]) := by rw [← eM7, mp_n (mp_ne hM6_h hM6_ro mp_noa)]; exact hM6_h
  have hM7_ro : M7 ro = some (mp_b E 1000 (upd (upd (upd (upd g len (ap_b x 24)) (len + 1) (ap_b x 16)) ((len + 1) + 1) (ap_b x 8)) (((len + 1) + 1) + 1) (ap_b x 0))) := by rw [← eM7]; exact mp_s
  refine j_aload_n d_De_append_20 rfl 1 rfl ?_
  refine j_dup d_De_append_21 rfl ?_
  refine j_get F_De hM7_h 1 (by decide) w_191 (Or.inl rfl) rfl d_De_append_22 ?_
  refine j_iconst (v := nI 1) d_De_append_25 (by decide) ?_
  refine j_iadd d_De_append_26 ?_
  refine j_eqi (y := nI ((((len + 1) + 1) + 1) + 1)) (nI_add (((len + 1) + 1) + 1) 1) ?_
  refine j_put F_De hM7_h 1 (by decide) w_191 (Or.inl rfl) rfl rfl rfl (Nat.le_of_ble_eq_true rfl) d_De_append_27 ?_
  show mp_J Γ m_De_append E κ (mp_up M7 h (mp_o 6 [.ref ro, .int (nI ((((len + 1) + 1) + 1) + 1)), .ref s1, .ref s2, .ref ma, .ref sk])) [(2, .int (nI 0)), (0, .ref h), (1, .int x)] 30 [] 0 0
  generalize eM8 : mp_up M7 h (mp_o 6 [.ref ro, .int (nI ((((len + 1) + 1) + 1) + 1)), .ref s1, .ref s2, .ref ma, .ref sk]) = M8
  have hM8_ro : M8 ro = some (mp_b E 1000 (upd (upd (upd (upd g len (ap_b x 24)) (len + 1) (ap_b x 16)) ((len + 1) + 1) (ap_b x 8)) (((len + 1) + 1) + 1) (ap_b x 0))) := by rw [← eM8, mp_n (mp_ne hM7_ro hM7_h mp_nao)]; exact hM7_ro
  have hM8_h : M8 h = some (mp_o 6 [.ref ro, .int (nI ((((len + 1) + 1) + 1) + 1)), .ref s1, .ref s2, .ref ma, .ref sk]) := by rw [← eM8]; exact mp_s
  refine j_iinc (v := (-8)) [(2, .int (-8)), (0, .ref h), (1, .int x)] d_De_append_30 0 rfl (by decide) (by decide) rfl ?_
  refine j_goto (tgt := 3) d_De_append_33 (by decide) ?_
  refine j_iload_n d_De_append_3 rfl 0 rfl ?_
  refine j_if_lt 36 d_De_append_4 (by decide) (fun b4 => ?_) (fun b4 => absurd (show (-8 : Int32) < 0 by decide) b4)
  exact j_vret hκ rfl (by omega) (by omega) d_De_append_36 ⟨rfl, hM8_h, hM8_ro, fun a z1 z2 => by subst_vars; simp only [mp_n z1, mp_n z2]⟩
