theorem am_RL {l : List Nat} (hl : l.length = 11) (hnd : l.Nodup) : RL (am_L l) := by
  intro i j hi hj e
  unfold am_L at e
  rw [List.getD_eq_getElem?_getD, List.getD_eq_getElem?_getD, List.getElem?_eq_getElem (by omega), List.getElem?_eq_getElem (by omega)] at e
  have hp := List.pairwise_iff_getElem.mp hnd
  rcases Nat.lt_trichotomy i j with h | h | h
  · exact absurd (Option.some.inj (congrArg some e)) (hp i j (by omega) (by omega) h)
  · exact h
  · exact absurd (Option.some.inj (congrArg some e)).symm (hp j i (by omega) (by omega) h)
set_option maxHeartbeats 4000000 in
set_option maxRecDepth 100000 in
theorem c_Mo_init (l : Launch) (E : mp_E) (M : mp_M) (h : Nat) (h0 : M h = some (mp_o 7 [.null, .int 0, .int 0, .null, .null, .null, .null, .null, .null, .null, .null, .int 0, .int 0, .int 0, .null])) : mp_Cr l m_Mo_init E M 2 10 159818 [.ref h] (fun v N => v = none ∧ ∃ R : Nat → Nat, R 0 = h ∧ RL R ∧ RW E N R 0 0 (fun _ => 0) 0 (fun _ => []) ∧ (∀ i, 0 < i → i < 11 → M (R i) = none) ∧ ∀ a e, M a = some e → a ≠ h → N a = some e) := by
  refine mp_Cr.of (by decide) (Nat.le_of_ble_eq_true rfl) fun Γ κ hl hκ => ?_
  subst hl
  obtain ⟨hκd, hκc, hκs, -⟩ := id hκ
  show mp_J Γ m_Mo_init E κ M [(0, .ref h)] 0 [] 0 0
  refine j_aload_n d_Mo_init_0 rfl 0 rfl ?_
  refine j_objInit w_940 w_36 w_37 (Nat.le_of_ble_eq_true rfl) (by omega) d_Mo_init_1 ?_
  refine j_aload_n d_Mo_init_4 rfl 0 rfl ?_
  refine j_sipush (v := nI 1000) d_Mo_init_5 (by decide) ?_
  refine j_newb w_76 (by omega) (by omega) (by omega) d_Mo_init_8 (fun q1 hq1 => ?_)
  generalize eM1 : mp_up M q1 (mp_b E 1000 (fun _ => 0)) = M1
  have hM1_h : M1 h = some (mp_o 7 [.null, .int 0, .int 0, .null, .null, .null, .null, .null, .null, .null, .null, .int 0, .int 0, .int 0, .null]) := by rw [← eM1, mp_n (mp_ne0 h0 hq1)]; exact h0
  have hM1_q1 : M1 q1 = some (mp_b E 1000 (fun _ => 0)) := by rw [← eM1]; exact mp_s
  have F_q1 : M q1 = none := by
    cases hz : M q1 with
    | none => rfl
    | some e =>
      exfalso
      have z := hz
      have z0 : q1 ≠ h := Ne.symm (mp_ne0 h0 hq1)
      skip
      rw [hq1] at z
      cases z
  refine j_putF F_Mo hM1_h 0 (by decide) w_943 (Or.inl rfl) rfl rfl rfl rfl rfl (Nat.le_of_ble_eq_true rfl) d_Mo_init_10 ?_
  show mp_J Γ m_Mo_init E κ (mp_up M1 h (mp_o 7 [.ref q1, .int 0, .int 0, .null, .null, .null, .null, .null, .null, .null, .null, .int 0, .int 0, .int 0, .null])) [(0, .ref h)] 13 [] (0 + 1) (0 + 1000)
  generalize eM2 : mp_up M1 h (mp_o 7 [.ref q1, .int 0, .int 0, .null, .null, .null, .null, .null, .null, .null, .null, .int 0, .int 0, .int 0, .null]) = M2
  have hM2_q1 : M2 q1 = some (mp_b E 1000 (fun _ => 0)) := by rw [← eM2, mp_n (Ne.symm (mp_ne0 h0 hq1))]; exact hM1_q1
  have hM2_h : M2 h = some (mp_o 7 [.ref q1, .int 0, .int 0, .null, .null, .null, .null, .null, .null, .null, .null, .int 0, .int 0, .int 0, .null]) := by rw [← eM2]; exact mp_s
  refine j_aload_n d_Mo_init_13 rfl 0 rfl ?_
  refine j_ldc (v := nI 51456) w_941 d_Mo_init_14 ?_
  refine j_newb w_76 (by omega) (by omega) (by omega) d_Mo_init_16 (fun q2 hq2 => ?_)
  generalize eM3 : mp_up M2 q2 (mp_b E 51456 (fun _ => 0)) = M3
  have hM3_q1 : M3 q1 = some (mp_b E 1000 (fun _ => 0)) := by rw [← eM3, mp_n (mp_ne0 hM2_q1 hq2)]; exact hM2_q1
  have hM3_h : M3 h = some (mp_o 7 [.ref q1, .int 0, .int 0, .null, .null, .null, .null, .null, .null, .null, .null, .int 0, .int 0, .int 0, .null]) := by rw [← eM3, mp_n (mp_ne0 hM2_h hq2)]; exact hM2_h
  have hM3_q2 : M3 q2 = some (mp_b E 51456 (fun _ => 0)) := by rw [← eM3]; exact mp_s
  have F_q2 : M q2 = none := by
    cases hz : M q2 with
    | none => rfl
    | some e =>
      exfalso
      have z := hz
      have z0 : q2 ≠ h := Ne.symm (mp_ne0 hM2_h hq2)
      have zq2_1 := mp_kp eM1.symm (mp_ne0 z hq1) z
      have zq2_2 := mp_kp eM2.symm z0 zq2_1
      rw [hq2] at zq2_2
      cases zq2_2
  refine j_putF F_Mo hM3_h 3 (by decide) w_946 (Or.inl rfl) rfl rfl rfl rfl rfl (Nat.le_of_ble_eq_true rfl) d_Mo_init_18 ?_
  show mp_J Γ m_Mo_init E κ (mp_up M3 h (mp_o 7 [.ref q1, .int 0, .int 0, .ref q2, .null, .null, .null, .null, .null, .null, .null, .int 0, .int 0, .int 0, .null])) [(0, .ref h)] 21 [] (0 + 1 + 1) (0 + 1000 + 51456)
  generalize eM4 : mp_up M3 h (mp_o 7 [.ref q1, .int 0, .int 0, .ref q2, .null, .null, .null, .null, .null, .null, .null, .int 0, .int 0, .int 0, .null]) = M4
  have hM4_q1 : M4 q1 = some (mp_b E 1000 (fun _ => 0)) := by rw [← eM4, mp_n (Ne.symm (mp_ne0 h0 hq1))]; exact hM3_q1
  have hM4_q2 : M4 q2 = some (mp_b E 51456 (fun _ => 0)) := by rw [← eM4, mp_n (Ne.symm (mp_ne0 hM2_h hq2))]; exact hM3_q2
  have hM4_h : M4 h = some (mp_o 7 [.ref q1, .int 0, .int 0, .ref q2, .null, .null, .null, .null, .null, .null, .null, .int 0, .int 0, .int 0, .null]) := by rw [← eM4]; exact mp_s
  refine j_aload_n d_Mo_init_21 rfl 0 rfl ?_
  refine j_sipush (v := nI 201) d_Mo_init_22 (by decide) ?_
  refine j_newi w_77 (by omega) (by omega) (by omega) d_Mo_init_25 (fun q3 hq3 => ?_)
  generalize eM5 : mp_up M4 q3 (mp_i E 201 (fun _ => 0)) = M5
  have hM5_q1 : M5 q1 = some (mp_b E 1000 (fun _ => 0)) := by rw [← eM5, mp_n (mp_ne0 hM4_q1 hq3)]; exact hM4_q1
  have hM5_q2 : M5 q2 = some (mp_b E 51456 (fun _ => 0)) := by rw [← eM5, mp_n (mp_ne0 hM4_q2 hq3)]; exact hM4_q2
  have hM5_h : M5 h = some (mp_o 7 [.ref q1, .int 0, .int 0, .ref q2, .null, .null, .null, .null, .null, .null, .null, .int 0, .int 0, .int 0, .null]) := by rw [← eM5, mp_n (mp_ne0 hM4_h hq3)]; exact hM4_h
  have hM5_q3 : M5 q3 = some (mp_i E 201 (fun _ => 0)) := by rw [← eM5]; exact mp_s
  have F_q3 : M q3 = none := by
    cases hz : M q3 with
    | none => rfl
    | some e =>
      exfalso
      have z := hz
      have z0 : q3 ≠ h := Ne.symm (mp_ne0 hM4_h hq3)
      have zq3_1 := mp_kp eM1.symm (mp_ne0 z hq1) z
      have zq3_2 := mp_kp eM2.symm z0 zq3_1
      have zq3_3 := mp_kp eM3.symm (mp_ne0 zq3_2 hq2) zq3_2
      have zq3_4 := mp_kp eM4.symm z0 zq3_3
      rw [hq3] at zq3_4
      cases zq3_4
  refine j_putF F_Mo hM5_h 4 (by decide) w_947 (Or.inl rfl) rfl rfl rfl rfl rfl (Nat.le_of_ble_eq_true rfl) d_Mo_init_27 ?_
  show mp_J Γ m_Mo_init E κ (mp_up M5 h (mp_o 7 [.ref q1, .int 0, .int 0, .ref q2, .ref q3, .null, .null, .null, .null, .null, .null, .int 0, .int 0, .int 0, .null])) [(0, .ref h)] 30 [] (0 + 1 + 1 + 1) (0 + 1000 + 51456 + 201)
  generalize eM6 : mp_up M5 h (mp_o 7 [.ref q1, .int 0, .int 0, .ref q2, .ref q3, .null, .null, .null, .null, .null, .null, .int 0, .int 0, .int 0, .null]) = M6
  have hM6_q1 : M6 q1 = some (mp_b E 1000 (fun _ => 0)) := by rw [← eM6, mp_n (Ne.symm (mp_ne0 h0 hq1))]; exact hM5_q1
  have hM6_q2 : M6 q2 = some (mp_b E 51456 (fun _ => 0)) := by rw [← eM6, mp_n (Ne.symm (mp_ne0 hM2_h hq2))]; exact hM5_q2
  have hM6_q3 : M6 q3 = some (mp_i E 201 (fun _ => 0)) := by rw [← eM6, mp_n (Ne.symm (mp_ne0 hM4_h hq3))]; exact hM5_q3
  have hM6_h : M6 h = some (mp_o 7 [.ref q1, .int 0, .int 0, .ref q2, .ref q3, .null, .null, .null, .null, .null, .null, .int 0, .int 0, .int 0, .null]) := by rw [← eM6]; exact mp_s
  refine j_aload_n d_Mo_init_30 rfl 0 rfl ?_
  refine j_bipush (v := nI 8) d_Mo_init_31 (by decide) ?_
  refine j_newi w_77 (by omega) (by omega) (by omega) d_Mo_init_33 (fun q4 hq4 => ?_)
  generalize eM7 : mp_up M6 q4 (mp_i E 8 (fun _ => 0)) = M7
  have hM7_q1 : M7 q1 = some (mp_b E 1000 (fun _ => 0)) := by rw [← eM7, mp_n (mp_ne0 hM6_q1 hq4)]; exact hM6_q1
  have hM7_q2 : M7 q2 = some (mp_b E 51456 (fun _ => 0)) := by rw [← eM7, mp_n (mp_ne0 hM6_q2 hq4)]; exact hM6_q2
  have hM7_q3 : M7 q3 = some (mp_i E 201 (fun _ => 0)) := by rw [← eM7, mp_n (mp_ne0 hM6_q3 hq4)]; exact hM6_q3
  have hM7_h : M7 h = some (mp_o 7 [.ref q1, .int 0, .int 0, .ref q2, .ref q3, .null, .null, .null, .null, .null, .null, .int 0, .int 0, .int 0, .null]) := by rw [← eM7, mp_n (mp_ne0 hM6_h hq4)]; exact hM6_h
  have hM7_q4 : M7 q4 = some (mp_i E 8 (fun _ => 0)) := by rw [← eM7]; exact mp_s
  have F_q4 : M q4 = none := by
    cases hz : M q4 with
    | none => rfl
    | some e =>
      exfalso
      have z := hz
      have z0 : q4 ≠ h := Ne.symm (mp_ne0 hM6_h hq4)
      have zq4_1 := mp_kp eM1.symm (mp_ne0 z hq1) z
      have zq4_2 := mp_kp eM2.symm z0 zq4_1
      have zq4_3 := mp_kp eM3.symm (mp_ne0 zq4_2 hq2) zq4_2
      have zq4_4 := mp_kp eM4.symm z0 zq4_3
      have zq4_5 := mp_kp eM5.symm (mp_ne0 zq4_4 hq3) zq4_4
      have zq4_6 := mp_kp eM6.symm z0 zq4_5
      rw [hq4] at zq4_6
      cases zq4_6
  refine j_putF F_Mo hM7_h 5 (by decide) w_948 (Or.inl rfl) rfl rfl rfl rfl rfl (Nat.le_of_ble_eq_true rfl) d_Mo_init_35 ?_
  show mp_J Γ m_Mo_init E κ (mp_up M7 h (mp_o 7 [.ref q1, .int 0, .int 0, .ref q2, .ref q3, .ref q4, .null, .null, .null, .null, .null, .int 0, .int 0, .int 0, .null])) [(0, .ref h)] 38 [] (0 + 1 + 1 + 1 + 1) (0 + 1000 + 51456 + 201 + 8)
  generalize eM8 : mp_up M7 h (mp_o 7 [.ref q1, .int 0, .int 0, .ref q2, .ref q3, .ref q4, .null, .null, .null, .null, .null, .int 0, .int 0, .int 0, .null]) = M8
  have hM8_q1 : M8 q1 = some (mp_b E 1000 (fun _ => 0)) := by rw [← eM8, mp_n (Ne.symm (mp_ne0 h0 hq1))]; exact hM7_q1
  have hM8_q2 : M8 q2 = some (mp_b E 51456 (fun _ => 0)) := by rw [← eM8, mp_n (Ne.symm (mp_ne0 hM2_h hq2))]; exact hM7_q2
  have hM8_q3 : M8 q3 = some (mp_i E 201 (fun _ => 0)) := by rw [← eM8, mp_n (Ne.symm (mp_ne0 hM4_h hq3))]; exact hM7_q3
  have hM8_q4 : M8 q4 = some (mp_i E 8 (fun _ => 0)) := by rw [← eM8, mp_n (Ne.symm (mp_ne0 hM6_h hq4))]; exact hM7_q4
  have hM8_h : M8 h = some (mp_o 7 [.ref q1, .int 0, .int 0, .ref q2, .ref q3, .ref q4, .null, .null, .null, .null, .null, .int 0, .int 0, .int 0, .null]) := by rw [← eM8]; exact mp_s
  refine j_aload_n d_Mo_init_38 rfl 0 rfl ?_
  refine j_bipush (v := nI 64) d_Mo_init_39 (by decide) ?_
  refine j_newi w_77 (by omega) (by omega) (by omega) d_Mo_init_41 (fun q5 hq5 => ?_)
  generalize eM9 : mp_up M8 q5 (mp_i E 64 (fun _ => 0)) = M9
  have hM9_q1 : M9 q1 = some (mp_b E 1000 (fun _ => 0)) := by rw [← eM9, mp_n (mp_ne0 hM8_q1 hq5)]; exact hM8_q1
  have hM9_q2 : M9 q2 = some (mp_b E 51456 (fun _ => 0)) := by rw [← eM9, mp_n (mp_ne0 hM8_q2 hq5)]; exact hM8_q2
  have hM9_q3 : M9 q3 = some (mp_i E 201 (fun _ => 0)) := by rw [← eM9, mp_n (mp_ne0 hM8_q3 hq5)]; exact hM8_q3
  have hM9_q4 : M9 q4 = some (mp_i E 8 (fun _ => 0)) := by rw [← eM9, mp_n (mp_ne0 hM8_q4 hq5)]; exact hM8_q4
  have hM9_h : M9 h = some (mp_o 7 [.ref q1, .int 0, .int 0, .ref q2, .ref q3, .ref q4, .null, .null, .null, .null, .null, .int 0, .int 0, .int 0, .null]) := by rw [← eM9, mp_n (mp_ne0 hM8_h hq5)]; exact hM8_h
  have hM9_q5 : M9 q5 = some (mp_i E 64 (fun _ => 0)) := by rw [← eM9]; exact mp_s
  have F_q5 : M q5 = none := by
    cases hz : M q5 with
    | none => rfl
    | some e =>
      exfalso
      have z := hz
      have z0 : q5 ≠ h := Ne.symm (mp_ne0 hM8_h hq5)
      have zq5_1 := mp_kp eM1.symm (mp_ne0 z hq1) z
      have zq5_2 := mp_kp eM2.symm z0 zq5_1
      have zq5_3 := mp_kp eM3.symm (mp_ne0 zq5_2 hq2) zq5_2
      have zq5_4 := mp_kp eM4.symm z0 zq5_3
      have zq5_5 := mp_kp eM5.symm (mp_ne0 zq5_4 hq3) zq5_4
      have zq5_6 := mp_kp eM6.symm z0 zq5_5
      have zq5_7 := mp_kp eM7.symm (mp_ne0 zq5_6 hq4) zq5_6
      have zq5_8 := mp_kp eM8.symm z0 zq5_7
      rw [hq5] at zq5_8
      cases zq5_8
  refine j_putF F_Mo hM9_h 6 (by decide) w_949 (Or.inl rfl) rfl rfl rfl rfl rfl (Nat.le_of_ble_eq_true rfl) d_Mo_init_43 ?_
  show mp_J Γ m_Mo_init E κ (mp_up M9 h (mp_o 7 [.ref q1, .int 0, .int 0, .ref q2, .ref q3, .ref q4, .ref q5, .null, .null, .null, .null, .int 0, .int 0, .int 0, .null])) [(0, .ref h)] 46 [] (0 + 1 + 1 + 1 + 1 + 1) (0 + 1000 + 51456 + 201 + 8 + 64)
  generalize eM10 : mp_up M9 h (mp_o 7 [.ref q1, .int 0, .int 0, .ref q2, .ref q3, .ref q4, .ref q5, .null, .null, .null, .null, .int 0, .int 0, .int 0, .null]) = M10
  have hM10_q1 : M10 q1 = some (mp_b E 1000 (fun _ => 0)) := by rw [← eM10, mp_n (Ne.symm (mp_ne0 h0 hq1))]; exact hM9_q1
  have hM10_q2 : M10 q2 = some (mp_b E 51456 (fun _ => 0)) := by rw [← eM10, mp_n (Ne.symm (mp_ne0 hM2_h hq2))]; exact hM9_q2
  have hM10_q3 : M10 q3 = some (mp_i E 201 (fun _ => 0)) := by rw [← eM10, mp_n (Ne.symm (mp_ne0 hM4_h hq3))]; exact hM9_q3
  have hM10_q4 : M10 q4 = some (mp_i E 8 (fun _ => 0)) := by rw [← eM10, mp_n (Ne.symm (mp_ne0 hM6_h hq4))]; exact hM9_q4
  have hM10_q5 : M10 q5 = some (mp_i E 64 (fun _ => 0)) := by rw [← eM10, mp_n (Ne.symm (mp_ne0 hM8_h hq5))]; exact hM9_q5
  have hM10_h : M10 h = some (mp_o 7 [.ref q1, .int 0, .int 0, .ref q2, .ref q3, .ref q4, .ref q5, .null, .null, .null, .null, .int 0, .int 0, .int 0, .null]) := by rw [← eM10]; exact mp_s
  refine j_aload_n d_Mo_init_46 rfl 0 rfl ?_
  refine j_bipush (v := nI 32) d_Mo_init_47 (by decide) ?_
  refine j_newb w_76 (by omega) (by omega) (by omega) d_Mo_init_49 (fun q6 hq6 => ?_)
  generalize eM11 : mp_up M10 q6 (mp_b E 32 (fun _ => 0)) = M11
  have hM11_q1 : M11 q1 = some (mp_b E 1000 (fun _ => 0)) := by rw [← eM11, mp_n (mp_ne0 hM10_q1 hq6)]; exact hM10_q1
  have hM11_q2 : M11 q2 = some (mp_b E 51456 (fun _ => 0)) := by rw [← eM11, mp_n (mp_ne0 hM10_q2 hq6)]; exact hM10_q2
  have hM11_q3 : M11 q3 = some (mp_i E 201 (fun _ => 0)) := by rw [← eM11, mp_n (mp_ne0 hM10_q3 hq6)]; exact hM10_q3
  have hM11_q4 : M11 q4 = some (mp_i E 8 (fun _ => 0)) := by rw [← eM11, mp_n (mp_ne0 hM10_q4 hq6)]; exact hM10_q4
  have hM11_q5 : M11 q5 = some (mp_i E 64 (fun _ => 0)) := by rw [← eM11, mp_n (mp_ne0 hM10_q5 hq6)]; exact hM10_q5
  have hM11_h : M11 h = some (mp_o 7 [.ref q1, .int 0, .int 0, .ref q2, .ref q3, .ref q4, .ref q5, .null, .null, .null, .null, .int 0, .int 0, .int 0, .null]) := by rw [← eM11, mp_n (mp_ne0 hM10_h hq6)]; exact hM10_h
  have hM11_q6 : M11 q6 = some (mp_b E 32 (fun _ => 0)) := by rw [← eM11]; exact mp_s
  have F_q6 : M q6 = none := by
    cases hz : M q6 with
    | none => rfl
    | some e =>
      exfalso
      have z := hz
      have z0 : q6 ≠ h := Ne.symm (mp_ne0 hM10_h hq6)
      have zq6_1 := mp_kp eM1.symm (mp_ne0 z hq1) z
      have zq6_2 := mp_kp eM2.symm z0 zq6_1
      have zq6_3 := mp_kp eM3.symm (mp_ne0 zq6_2 hq2) zq6_2
      have zq6_4 := mp_kp eM4.symm z0 zq6_3
      have zq6_5 := mp_kp eM5.symm (mp_ne0 zq6_4 hq3) zq6_4
      have zq6_6 := mp_kp eM6.symm z0 zq6_5
      have zq6_7 := mp_kp eM7.symm (mp_ne0 zq6_6 hq4) zq6_6
      have zq6_8 := mp_kp eM8.symm z0 zq6_7
      have zq6_9 := mp_kp eM9.symm (mp_ne0 zq6_8 hq5) zq6_8
      have zq6_10 := mp_kp eM10.symm z0 zq6_9
      rw [hq6] at zq6_10
      cases zq6_10
  refine j_putF F_Mo hM11_h 7 (by decide) w_950 (Or.inl rfl) rfl rfl rfl rfl rfl (Nat.le_of_ble_eq_true rfl) d_Mo_init_51 ?_
  show mp_J Γ m_Mo_init E κ (mp_up M11 h (mp_o 7 [.ref q1, .int 0, .int 0, .ref q2, .ref q3, .ref q4, .ref q5, .ref q6, .null, .null, .null, .int 0, .int 0, .int 0, .null])) [(0, .ref h)] 54 [] (0 + 1 + 1 + 1 + 1 + 1 + 1) (0 + 1000 + 51456 + 201 + 8 + 64 + 32)
  generalize eM12 : mp_up M11 h (mp_o 7 [.ref q1, .int 0, .int 0, .ref q2, .ref q3, .ref q4, .ref q5, .ref q6, .null, .null, .null, .int 0, .int 0, .int 0, .null]) = M12
  have hM12_q1 : M12 q1 = some (mp_b E 1000 (fun _ => 0)) := by rw [← eM12, mp_n (Ne.symm (mp_ne0 h0 hq1))]; exact hM11_q1
  have hM12_q2 : M12 q2 = some (mp_b E 51456 (fun _ => 0)) := by rw [← eM12, mp_n (Ne.symm (mp_ne0 hM2_h hq2))]; exact hM11_q2
  have hM12_q3 : M12 q3 = some (mp_i E 201 (fun _ => 0)) := by rw [← eM12, mp_n (Ne.symm (mp_ne0 hM4_h hq3))]; exact hM11_q3
  have hM12_q4 : M12 q4 = some (mp_i E 8 (fun _ => 0)) := by rw [← eM12, mp_n (Ne.symm (mp_ne0 hM6_h hq4))]; exact hM11_q4
  have hM12_q5 : M12 q5 = some (mp_i E 64 (fun _ => 0)) := by rw [← eM12, mp_n (Ne.symm (mp_ne0 hM8_h hq5))]; exact hM11_q5
  have hM12_q6 : M12 q6 = some (mp_b E 32 (fun _ => 0)) := by rw [← eM12, mp_n (Ne.symm (mp_ne0 hM10_h hq6))]; exact hM11_q6
  have hM12_h : M12 h = some (mp_o 7 [.ref q1, .int 0, .int 0, .ref q2, .ref q3, .ref q4, .ref q5, .ref q6, .null, .null, .null, .int 0, .int 0, .int 0, .null]) := by rw [← eM12]; exact mp_s
  refine j_aload_n d_Mo_init_54 rfl 0 rfl ?_
  refine j_sipush (v := nI 1200) d_Mo_init_55 (by decide) ?_
  refine j_newb w_76 (by omega) (by omega) (by omega) d_Mo_init_58 (fun q7 hq7 => ?_)
  generalize eM13 : mp_up M12 q7 (mp_b E 1200 (fun _ => 0)) = M13
  have hM13_q1 : M13 q1 = some (mp_b E 1000 (fun _ => 0)) := by rw [← eM13, mp_n (mp_ne0 hM12_q1 hq7)]; exact hM12_q1
  have hM13_q2 : M13 q2 = some (mp_b E 51456 (fun _ => 0)) := by rw [← eM13, mp_n (mp_ne0 hM12_q2 hq7)]; exact hM12_q2
  have hM13_q3 : M13 q3 = some (mp_i E 201 (fun _ => 0)) := by rw [← eM13, mp_n (mp_ne0 hM12_q3 hq7)]; exact hM12_q3
  have hM13_q4 : M13 q4 = some (mp_i E 8 (fun _ => 0)) := by rw [← eM13, mp_n (mp_ne0 hM12_q4 hq7)]; exact hM12_q4
  have hM13_q5 : M13 q5 = some (mp_i E 64 (fun _ => 0)) := by rw [← eM13, mp_n (mp_ne0 hM12_q5 hq7)]; exact hM12_q5
  have hM13_q6 : M13 q6 = some (mp_b E 32 (fun _ => 0)) := by rw [← eM13, mp_n (mp_ne0 hM12_q6 hq7)]; exact hM12_q6
  have hM13_h : M13 h = some (mp_o 7 [.ref q1, .int 0, .int 0, .ref q2, .ref q3, .ref q4, .ref q5, .ref q6, .null, .null, .null, .int 0, .int 0, .int 0, .null]) := by rw [← eM13, mp_n (mp_ne0 hM12_h hq7)]; exact hM12_h
  have hM13_q7 : M13 q7 = some (mp_b E 1200 (fun _ => 0)) := by rw [← eM13]; exact mp_s
  have F_q7 : M q7 = none := by
    cases hz : M q7 with
    | none => rfl
    | some e =>
      exfalso
      have z := hz
      have z0 : q7 ≠ h := Ne.symm (mp_ne0 hM12_h hq7)
      have zq7_1 := mp_kp eM1.symm (mp_ne0 z hq1) z
      have zq7_2 := mp_kp eM2.symm z0 zq7_1
      have zq7_3 := mp_kp eM3.symm (mp_ne0 zq7_2 hq2) zq7_2
      have zq7_4 := mp_kp eM4.symm z0 zq7_3
      have zq7_5 := mp_kp eM5.symm (mp_ne0 zq7_4 hq3) zq7_4
      have zq7_6 := mp_kp eM6.symm z0 zq7_5
      have zq7_7 := mp_kp eM7.symm (mp_ne0 zq7_6 hq4) zq7_6
      have zq7_8 := mp_kp eM8.symm z0 zq7_7
      have zq7_9 := mp_kp eM9.symm (mp_ne0 zq7_8 hq5) zq7_8
      have zq7_10 := mp_kp eM10.symm z0 zq7_9
      have zq7_11 := mp_kp eM11.symm (mp_ne0 zq7_10 hq6) zq7_10
      have zq7_12 := mp_kp eM12.symm z0 zq7_11
      rw [hq7] at zq7_12
      cases zq7_12
  refine j_putF F_Mo hM13_h 8 (by decide) w_951 (Or.inl rfl) rfl rfl rfl rfl rfl (Nat.le_of_ble_eq_true rfl) d_Mo_init_60 ?_
  show mp_J Γ m_Mo_init E κ (mp_up M13 h (mp_o 7 [.ref q1, .int 0, .int 0, .ref q2, .ref q3, .ref q4, .ref q5, .ref q6, .ref q7, .null, .null, .int 0, .int 0, .int 0, .null])) [(0, .ref h)] 63 [] (0 + 1 + 1 + 1 + 1 + 1 + 1 + 1) (0 + 1000 + 51456 + 201 + 8 + 64 + 32 + 1200)
  generalize eM14 : mp_up M13 h (mp_o 7 [.ref q1, .int 0, .int 0, .ref q2, .ref q3, .ref q4, .ref q5, .ref q6, .ref q7, .null, .null, .int 0, .int 0, .int 0, .null]) = M14
  have hM14_q1 : M14 q1 = some (mp_b E 1000 (fun _ => 0)) := by rw [← eM14, mp_n (Ne.symm (mp_ne0 h0 hq1))]; exact hM13_q1
  have hM14_q2 : M14 q2 = some (mp_b E 51456 (fun _ => 0)) := by rw [← eM14, mp_n (Ne.symm (mp_ne0 hM2_h hq2))]; exact hM13_q2
  have hM14_q3 : M14 q3 = some (mp_i E 201 (fun _ => 0)) := by rw [← eM14, mp_n (Ne.symm (mp_ne0 hM4_h hq3))]; exact hM13_q3
  have hM14_q4 : M14 q4 = some (mp_i E 8 (fun _ => 0)) := by rw [← eM14, mp_n (Ne.symm (mp_ne0 hM6_h hq4))]; exact hM13_q4
  have hM14_q5 : M14 q5 = some (mp_i E 64 (fun _ => 0)) := by rw [← eM14, mp_n (Ne.symm (mp_ne0 hM8_h hq5))]; exact hM13_q5
  have hM14_q6 : M14 q6 = some (mp_b E 32 (fun _ => 0)) := by rw [← eM14, mp_n (Ne.symm (mp_ne0 hM10_h hq6))]; exact hM13_q6
  have hM14_q7 : M14 q7 = some (mp_b E 1200 (fun _ => 0)) := by rw [← eM14, mp_n (Ne.symm (mp_ne0 hM12_h hq7))]; exact hM13_q7
  have hM14_h : M14 h = some (mp_o 7 [.ref q1, .int 0, .int 0, .ref q2, .ref q3, .ref q4, .ref q5, .ref q6, .ref q7, .null, .null, .int 0, .int 0, .int 0, .null]) := by rw [← eM14]; exact mp_s
  refine j_aload_n d_Mo_init_63 rfl 0 rfl ?_
  refine j_ldc (v := nI 104448) w_942 d_Mo_init_64 ?_
  refine j_newb w_76 (by omega) (by omega) (by omega) d_Mo_init_66 (fun q8 hq8 => ?_)
  generalize eM15 : mp_up M14 q8 (mp_b E 104448 (fun _ => 0)) = M15
  have hM15_q1 : M15 q1 = some (mp_b E 1000 (fun _ => 0)) := by rw [← eM15, mp_n (mp_ne0 hM14_q1 hq8)]; exact hM14_q1
  have hM15_q2 : M15 q2 = some (mp_b E 51456 (fun _ => 0)) := by rw [← eM15, mp_n (mp_ne0 hM14_q2 hq8)]; exact hM14_q2
  have hM15_q3 : M15 q3 = some (mp_i E 201 (fun _ => 0)) := by rw [← eM15, mp_n (mp_ne0 hM14_q3 hq8)]; exact hM14_q3
  have hM15_q4 : M15 q4 = some (mp_i E 8 (fun _ => 0)) := by rw [← eM15, mp_n (mp_ne0 hM14_q4 hq8)]; exact hM14_q4
  have hM15_q5 : M15 q5 = some (mp_i E 64 (fun _ => 0)) := by rw [← eM15, mp_n (mp_ne0 hM14_q5 hq8)]; exact hM14_q5
  have hM15_q6 : M15 q6 = some (mp_b E 32 (fun _ => 0)) := by rw [← eM15, mp_n (mp_ne0 hM14_q6 hq8)]; exact hM14_q6
  have hM15_q7 : M15 q7 = some (mp_b E 1200 (fun _ => 0)) := by rw [← eM15, mp_n (mp_ne0 hM14_q7 hq8)]; exact hM14_q7
  have hM15_h : M15 h = some (mp_o 7 [.ref q1, .int 0, .int 0, .ref q2, .ref q3, .ref q4, .ref q5, .ref q6, .ref q7, .null, .null, .int 0, .int 0, .int 0, .null]) := by rw [← eM15, mp_n (mp_ne0 hM14_h hq8)]; exact hM14_h
  have hM15_q8 : M15 q8 = some (mp_b E 104448 (fun _ => 0)) := by rw [← eM15]; exact mp_s
  have F_q8 : M q8 = none := by
    cases hz : M q8 with
    | none => rfl
    | some e =>
      exfalso
      have z := hz
      have z0 : q8 ≠ h := Ne.symm (mp_ne0 hM14_h hq8)
      have zq8_1 := mp_kp eM1.symm (mp_ne0 z hq1) z
      have zq8_2 := mp_kp eM2.symm z0 zq8_1
      have zq8_3 := mp_kp eM3.symm (mp_ne0 zq8_2 hq2) zq8_2
      have zq8_4 := mp_kp eM4.symm z0 zq8_3
      have zq8_5 := mp_kp eM5.symm (mp_ne0 zq8_4 hq3) zq8_4
      have zq8_6 := mp_kp eM6.symm z0 zq8_5
      have zq8_7 := mp_kp eM7.symm (mp_ne0 zq8_6 hq4) zq8_6
      have zq8_8 := mp_kp eM8.symm z0 zq8_7
      have zq8_9 := mp_kp eM9.symm (mp_ne0 zq8_8 hq5) zq8_8
      have zq8_10 := mp_kp eM10.symm z0 zq8_9
      have zq8_11 := mp_kp eM11.symm (mp_ne0 zq8_10 hq6) zq8_10
      have zq8_12 := mp_kp eM12.symm z0 zq8_11
      have zq8_13 := mp_kp eM13.symm (mp_ne0 zq8_12 hq7) zq8_12
      have zq8_14 := mp_kp eM14.symm z0 zq8_13
      rw [hq8] at zq8_14
      cases zq8_14
  refine j_putF F_Mo hM15_h 9 (by decide) w_952 (Or.inl rfl) rfl rfl rfl rfl rfl (Nat.le_of_ble_eq_true rfl) d_Mo_init_68 ?_
  show mp_J Γ m_Mo_init E κ (mp_up M15 h (mp_o 7 [.ref q1, .int 0, .int 0, .ref q2, .ref q3, .ref q4, .ref q5, .ref q6, .ref q7, .ref q8, .null, .int 0, .int 0, .int 0, .null])) [(0, .ref h)] 71 [] (0 + 1 + 1 + 1 + 1 + 1 + 1 + 1 + 1) (0 + 1000 + 51456 + 201 + 8 + 64 + 32 + 1200 + 104448)
  generalize eM16 : mp_up M15 h (mp_o 7 [.ref q1, .int 0, .int 0, .ref q2, .ref q3, .ref q4, .ref q5, .ref q6, .ref q7, .ref q8, .null, .int 0, .int 0, .int 0, .null]) = M16
  have hM16_q1 : M16 q1 = some (mp_b E 1000 (fun _ => 0)) := by rw [← eM16, mp_n (Ne.symm (mp_ne0 h0 hq1))]; exact hM15_q1
  have hM16_q2 : M16 q2 = some (mp_b E 51456 (fun _ => 0)) := by rw [← eM16, mp_n (Ne.symm (mp_ne0 hM2_h hq2))]; exact hM15_q2
  have hM16_q3 : M16 q3 = some (mp_i E 201 (fun _ => 0)) := by rw [← eM16, mp_n (Ne.symm (mp_ne0 hM4_h hq3))]; exact hM15_q3
  have hM16_q4 : M16 q4 = some (mp_i E 8 (fun _ => 0)) := by rw [← eM16, mp_n (Ne.symm (mp_ne0 hM6_h hq4))]; exact hM15_q4
  have hM16_q5 : M16 q5 = some (mp_i E 64 (fun _ => 0)) := by rw [← eM16, mp_n (Ne.symm (mp_ne0 hM8_h hq5))]; exact hM15_q5
  have hM16_q6 : M16 q6 = some (mp_b E 32 (fun _ => 0)) := by rw [← eM16, mp_n (Ne.symm (mp_ne0 hM10_h hq6))]; exact hM15_q6
  have hM16_q7 : M16 q7 = some (mp_b E 1200 (fun _ => 0)) := by rw [← eM16, mp_n (Ne.symm (mp_ne0 hM12_h hq7))]; exact hM15_q7
  have hM16_q8 : M16 q8 = some (mp_b E 104448 (fun _ => 0)) := by rw [← eM16, mp_n (Ne.symm (mp_ne0 hM14_h hq8))]; exact hM15_q8
  have hM16_h : M16 h = some (mp_o 7 [.ref q1, .int 0, .int 0, .ref q2, .ref q3, .ref q4, .ref q5, .ref q6, .ref q7, .ref q8, .null, .int 0, .int 0, .int 0, .null]) := by rw [← eM16]; exact mp_s
  refine j_aload_n d_Mo_init_71 rfl 0 rfl ?_
  refine j_sipush (v := nI 408) d_Mo_init_72 (by decide) ?_
  refine j_newi w_77 (by omega) (by omega) (by omega) d_Mo_init_75 (fun q9 hq9 => ?_)
  generalize eM17 : mp_up M16 q9 (mp_i E 408 (fun _ => 0)) = M17
  have hM17_q1 : M17 q1 = some (mp_b E 1000 (fun _ => 0)) := by rw [← eM17, mp_n (mp_ne0 hM16_q1 hq9)]; exact hM16_q1
  have hM17_q2 : M17 q2 = some (mp_b E 51456 (fun _ => 0)) := by rw [← eM17, mp_n (mp_ne0 hM16_q2 hq9)]; exact hM16_q2
  have hM17_q3 : M17 q3 = some (mp_i E 201 (fun _ => 0)) := by rw [← eM17, mp_n (mp_ne0 hM16_q3 hq9)]; exact hM16_q3
  have hM17_q4 : M17 q4 = some (mp_i E 8 (fun _ => 0)) := by rw [← eM17, mp_n (mp_ne0 hM16_q4 hq9)]; exact hM16_q4
  have hM17_q5 : M17 q5 = some (mp_i E 64 (fun _ => 0)) := by rw [← eM17, mp_n (mp_ne0 hM16_q5 hq9)]; exact hM16_q5
  have hM17_q6 : M17 q6 = some (mp_b E 32 (fun _ => 0)) := by rw [← eM17, mp_n (mp_ne0 hM16_q6 hq9)]; exact hM16_q6
  have hM17_q7 : M17 q7 = some (mp_b E 1200 (fun _ => 0)) := by rw [← eM17, mp_n (mp_ne0 hM16_q7 hq9)]; exact hM16_q7
  have hM17_q8 : M17 q8 = some (mp_b E 104448 (fun _ => 0)) := by rw [← eM17, mp_n (mp_ne0 hM16_q8 hq9)]; exact hM16_q8
  have hM17_h : M17 h = some (mp_o 7 [.ref q1, .int 0, .int 0, .ref q2, .ref q3, .ref q4, .ref q5, .ref q6, .ref q7, .ref q8, .null, .int 0, .int 0, .int 0, .null]) := by rw [← eM17, mp_n (mp_ne0 hM16_h hq9)]; exact hM16_h
  have hM17_q9 : M17 q9 = some (mp_i E 408 (fun _ => 0)) := by rw [← eM17]; exact mp_s
  have F_q9 : M q9 = none := by
    cases hz : M q9 with
    | none => rfl
    | some e =>
      exfalso
      have z := hz
      have z0 : q9 ≠ h := Ne.symm (mp_ne0 hM16_h hq9)
      have zq9_1 := mp_kp eM1.symm (mp_ne0 z hq1) z
      have zq9_2 := mp_kp eM2.symm z0 zq9_1
      have zq9_3 := mp_kp eM3.symm (mp_ne0 zq9_2 hq2) zq9_2
      have zq9_4 := mp_kp eM4.symm z0 zq9_3
      have zq9_5 := mp_kp eM5.symm (mp_ne0 zq9_4 hq3) zq9_4
      have zq9_6 := mp_kp eM6.symm z0 zq9_5
      have zq9_7 := mp_kp eM7.symm (mp_ne0 zq9_6 hq4) zq9_6
      have zq9_8 := mp_kp eM8.symm z0 zq9_7
      have zq9_9 := mp_kp eM9.symm (mp_ne0 zq9_8 hq5) zq9_8
      have zq9_10 := mp_kp eM10.symm z0 zq9_9
      have zq9_11 := mp_kp eM11.symm (mp_ne0 zq9_10 hq6) zq9_10
      have zq9_12 := mp_kp eM12.symm z0 zq9_11
      have zq9_13 := mp_kp eM13.symm (mp_ne0 zq9_12 hq7) zq9_12
      have zq9_14 := mp_kp eM14.symm z0 zq9_13
      have zq9_15 := mp_kp eM15.symm (mp_ne0 zq9_14 hq8) zq9_14
      have zq9_16 := mp_kp eM16.symm z0 zq9_15
      rw [hq9] at zq9_16
      cases zq9_16
  refine j_putF F_Mo hM17_h 10 (by decide) w_953 (Or.inl rfl) rfl rfl rfl rfl rfl (Nat.le_of_ble_eq_true rfl) d_Mo_init_77 ?_
  show mp_J Γ m_Mo_init E κ (mp_up M17 h (mp_o 7 [.ref q1, .int 0, .int 0, .ref q2, .ref q3, .ref q4, .ref q5, .ref q6, .ref q7, .ref q8, .ref q9, .int 0, .int 0, .int 0, .null])) [(0, .ref h)] 80 [] (0 + 1 + 1 + 1 + 1 + 1 + 1 + 1 + 1 + 1) (0 + 1000 + 51456 + 201 + 8 + 64 + 32 + 1200 + 104448 + 408)
  generalize eM18 : mp_up M17 h (mp_o 7 [.ref q1, .int 0, .int 0, .ref q2, .ref q3, .ref q4, .ref q5, .ref q6, .ref q7, .ref q8, .ref q9, .int 0, .int 0, .int 0, .null]) = M18
  have hM18_q1 : M18 q1 = some (mp_b E 1000 (fun _ => 0)) := by rw [← eM18, mp_n (Ne.symm (mp_ne0 h0 hq1))]; exact hM17_q1
  have hM18_q2 : M18 q2 = some (mp_b E 51456 (fun _ => 0)) := by rw [← eM18, mp_n (Ne.symm (mp_ne0 hM2_h hq2))]; exact hM17_q2
  have hM18_q3 : M18 q3 = some (mp_i E 201 (fun _ => 0)) := by rw [← eM18, mp_n (Ne.symm (mp_ne0 hM4_h hq3))]; exact hM17_q3
  have hM18_q4 : M18 q4 = some (mp_i E 8 (fun _ => 0)) := by rw [← eM18, mp_n (Ne.symm (mp_ne0 hM6_h hq4))]; exact hM17_q4
  have hM18_q5 : M18 q5 = some (mp_i E 64 (fun _ => 0)) := by rw [← eM18, mp_n (Ne.symm (mp_ne0 hM8_h hq5))]; exact hM17_q5
  have hM18_q6 : M18 q6 = some (mp_b E 32 (fun _ => 0)) := by rw [← eM18, mp_n (Ne.symm (mp_ne0 hM10_h hq6))]; exact hM17_q6
  have hM18_q7 : M18 q7 = some (mp_b E 1200 (fun _ => 0)) := by rw [← eM18, mp_n (Ne.symm (mp_ne0 hM12_h hq7))]; exact hM17_q7
  have hM18_q8 : M18 q8 = some (mp_b E 104448 (fun _ => 0)) := by rw [← eM18, mp_n (Ne.symm (mp_ne0 hM14_h hq8))]; exact hM17_q8
  have hM18_q9 : M18 q9 = some (mp_i E 408 (fun _ => 0)) := by rw [← eM18, mp_n (Ne.symm (mp_ne0 hM16_h hq9))]; exact hM17_q9
  have hM18_h : M18 h = some (mp_o 7 [.ref q1, .int 0, .int 0, .ref q2, .ref q3, .ref q4, .ref q5, .ref q6, .ref q7, .ref q8, .ref q9, .int 0, .int 0, .int 0, .null]) := by rw [← eM18]; exact mp_s
  refine j_aload_n d_Mo_init_80 rfl 0 rfl ?_
  refine j_sipush (v := nI 1001) d_Mo_init_81 (by decide) ?_
  refine j_newz w_989 (by omega) (by omega) (by omega) d_Mo_init_84 (fun q10 hq10 => ?_)
  generalize eM19 : mp_up M18 q10 (mp_z E 1001 (fun _ => 0)) = M19
  have hM19_q1 : M19 q1 = some (mp_b E 1000 (fun _ => 0)) := by rw [← eM19, mp_n (mp_ne0 hM18_q1 hq10)]; exact hM18_q1
  have hM19_q2 : M19 q2 = some (mp_b E 51456 (fun _ => 0)) := by rw [← eM19, mp_n (mp_ne0 hM18_q2 hq10)]; exact hM18_q2
  have hM19_q3 : M19 q3 = some (mp_i E 201 (fun _ => 0)) := by rw [← eM19, mp_n (mp_ne0 hM18_q3 hq10)]; exact hM18_q3
  have hM19_q4 : M19 q4 = some (mp_i E 8 (fun _ => 0)) := by rw [← eM19, mp_n (mp_ne0 hM18_q4 hq10)]; exact hM18_q4
  have hM19_q5 : M19 q5 = some (mp_i E 64 (fun _ => 0)) := by rw [← eM19, mp_n (mp_ne0 hM18_q5 hq10)]; exact hM18_q5
  have hM19_q6 : M19 q6 = some (mp_b E 32 (fun _ => 0)) := by rw [← eM19, mp_n (mp_ne0 hM18_q6 hq10)]; exact hM18_q6
  have hM19_q7 : M19 q7 = some (mp_b E 1200 (fun _ => 0)) := by rw [← eM19, mp_n (mp_ne0 hM18_q7 hq10)]; exact hM18_q7
  have hM19_q8 : M19 q8 = some (mp_b E 104448 (fun _ => 0)) := by rw [← eM19, mp_n (mp_ne0 hM18_q8 hq10)]; exact hM18_q8
  have hM19_q9 : M19 q9 = some (mp_i E 408 (fun _ => 0)) := by rw [← eM19, mp_n (mp_ne0 hM18_q9 hq10)]; exact hM18_q9
  have hM19_h : M19 h = some (mp_o 7 [.ref q1, .int 0, .int 0, .ref q2, .ref q3, .ref q4, .ref q5, .ref q6, .ref q7, .ref q8, .ref q9, .int 0, .int 0, .int 0, .null]) := by rw [← eM19, mp_n (mp_ne0 hM18_h hq10)]; exact hM18_h
  have hM19_q10 : M19 q10 = some (mp_z E 1001 (fun _ => 0)) := by rw [← eM19]; exact mp_s
  have F_q10 : M q10 = none := by
    cases hz : M q10 with
    | none => rfl
    | some e =>
      exfalso
      have z := hz
      have z0 : q10 ≠ h := Ne.symm (mp_ne0 hM18_h hq10)
      have zq10_1 := mp_kp eM1.symm (mp_ne0 z hq1) z
      have zq10_2 := mp_kp eM2.symm z0 zq10_1
      have zq10_3 := mp_kp eM3.symm (mp_ne0 zq10_2 hq2) zq10_2
      have zq10_4 := mp_kp eM4.symm z0 zq10_3
      have zq10_5 := mp_kp eM5.symm (mp_ne0 zq10_4 hq3) zq10_4
      have zq10_6 := mp_kp eM6.symm z0 zq10_5
      have zq10_7 := mp_kp eM7.symm (mp_ne0 zq10_6 hq4) zq10_6
      have zq10_8 := mp_kp eM8.symm z0 zq10_7
      have zq10_9 := mp_kp eM9.symm (mp_ne0 zq10_8 hq5) zq10_8
      have zq10_10 := mp_kp eM10.symm z0 zq10_9
      have zq10_11 := mp_kp eM11.symm (mp_ne0 zq10_10 hq6) zq10_10
      have zq10_12 := mp_kp eM12.symm z0 zq10_11
      have zq10_13 := mp_kp eM13.symm (mp_ne0 zq10_12 hq7) zq10_12
      have zq10_14 := mp_kp eM14.symm z0 zq10_13
      have zq10_15 := mp_kp eM15.symm (mp_ne0 zq10_14 hq8) zq10_14
      have zq10_16 := mp_kp eM16.symm z0 zq10_15
      have zq10_17 := mp_kp eM17.symm (mp_ne0 zq10_16 hq9) zq10_16
      have zq10_18 := mp_kp eM18.symm z0 zq10_17
      rw [hq10] at zq10_18
      cases zq10_18
  refine j_putF F_Mo hM19_h 14 (by decide) w_957 (Or.inl rfl) rfl rfl rfl rfl rfl (Nat.le_of_ble_eq_true rfl) d_Mo_init_86 ?_
  show mp_J Γ m_Mo_init E κ (mp_up M19 h (mp_o 7 [.ref q1, .int 0, .int 0, .ref q2, .ref q3, .ref q4, .ref q5, .ref q6, .ref q7, .ref q8, .ref q9, .int 0, .int 0, .int 0, .ref q10])) [(0, .ref h)] 89 [] (0 + 1 + 1 + 1 + 1 + 1 + 1 + 1 + 1 + 1 + 1) (0 + 1000 + 51456 + 201 + 8 + 64 + 32 + 1200 + 104448 + 408 + 1001)
  generalize eM20 : mp_up M19 h (mp_o 7 [.ref q1, .int 0, .int 0, .ref q2, .ref q3, .ref q4, .ref q5, .ref q6, .ref q7, .ref q8, .ref q9, .int 0, .int 0, .int 0, .ref q10]) = M20
  have hM20_q1 : M20 q1 = some (mp_b E 1000 (fun _ => 0)) := by rw [← eM20, mp_n (Ne.symm (mp_ne0 h0 hq1))]; exact hM19_q1
  have hM20_q2 : M20 q2 = some (mp_b E 51456 (fun _ => 0)) := by rw [← eM20, mp_n (Ne.symm (mp_ne0 hM2_h hq2))]; exact hM19_q2
  have hM20_q3 : M20 q3 = some (mp_i E 201 (fun _ => 0)) := by rw [← eM20, mp_n (Ne.symm (mp_ne0 hM4_h hq3))]; exact hM19_q3
  have hM20_q4 : M20 q4 = some (mp_i E 8 (fun _ => 0)) := by rw [← eM20, mp_n (Ne.symm (mp_ne0 hM6_h hq4))]; exact hM19_q4
  have hM20_q5 : M20 q5 = some (mp_i E 64 (fun _ => 0)) := by rw [← eM20, mp_n (Ne.symm (mp_ne0 hM8_h hq5))]; exact hM19_q5
  have hM20_q6 : M20 q6 = some (mp_b E 32 (fun _ => 0)) := by rw [← eM20, mp_n (Ne.symm (mp_ne0 hM10_h hq6))]; exact hM19_q6
  have hM20_q7 : M20 q7 = some (mp_b E 1200 (fun _ => 0)) := by rw [← eM20, mp_n (Ne.symm (mp_ne0 hM12_h hq7))]; exact hM19_q7
  have hM20_q8 : M20 q8 = some (mp_b E 104448 (fun _ => 0)) := by rw [← eM20, mp_n (Ne.symm (mp_ne0 hM14_h hq8))]; exact hM19_q8
  have hM20_q9 : M20 q9 = some (mp_i E 408 (fun _ => 0)) := by rw [← eM20, mp_n (Ne.symm (mp_ne0 hM16_h hq9))]; exact hM19_q9
  have hM20_q10 : M20 q10 = some (mp_z E 1001 (fun _ => 0)) := by rw [← eM20, mp_n (Ne.symm (mp_ne0 hM18_h hq10))]; exact hM19_q10
  have hM20_h : M20 h = some (mp_o 7 [.ref q1, .int 0, .int 0, .ref q2, .ref q3, .ref q4, .ref q5, .ref q6, .ref q7, .ref q8, .ref q9, .int 0, .int 0, .int 0, .ref q10]) := by rw [← eM20]; exact mp_s
  have hRL : RL (am_L [h, q1, q2, q3, q4, q5, q6, q7, q8, q9, q10]) := am_RL rfl (by simp only [List.nodup_cons, List.mem_cons, List.not_mem_nil, or_false, not_or, List.nodup_nil, and_true, not_false_eq_true]; exact ⟨⟨(mp_ne0 h0 hq1), (mp_ne0 hM2_h hq2), (mp_ne0 hM4_h hq3), (mp_ne0 hM6_h hq4), (mp_ne0 hM8_h hq5), (mp_ne0 hM10_h hq6), (mp_ne0 hM12_h hq7), (mp_ne0 hM14_h hq8), (mp_ne0 hM16_h hq9), (mp_ne0 hM18_h hq10)⟩, ⟨(mp_ne0 hM2_q1 hq2), (mp_ne0 hM4_q1 hq3), (mp_ne0 hM6_q1 hq4), (mp_ne0 hM8_q1 hq5), (mp_ne0 hM10_q1 hq6), (mp_ne0 hM12_q1 hq7), (mp_ne0 hM14_q1 hq8), (mp_ne0 hM16_q1 hq9), (mp_ne0 hM18_q1 hq10)⟩, ⟨(mp_ne0 hM4_q2 hq3), (mp_ne0 hM6_q2 hq4), (mp_ne0 hM8_q2 hq5), (mp_ne0 hM10_q2 hq6), (mp_ne0 hM12_q2 hq7), (mp_ne0 hM14_q2 hq8), (mp_ne0 hM16_q2 hq9), (mp_ne0 hM18_q2 hq10)⟩, ⟨(mp_ne0 hM6_q3 hq4), (mp_ne0 hM8_q3 hq5), (mp_ne0 hM10_q3 hq6), (mp_ne0 hM12_q3 hq7), (mp_ne0 hM14_q3 hq8), (mp_ne0 hM16_q3 hq9), (mp_ne0 hM18_q3 hq10)⟩, ⟨(mp_ne0 hM8_q4 hq5), (mp_ne0 hM10_q4 hq6), (mp_ne0 hM12_q4 hq7), (mp_ne0 hM14_q4 hq8), (mp_ne0 hM16_q4 hq9), (mp_ne0 hM18_q4 hq10)⟩, ⟨(mp_ne0 hM10_q5 hq6), (mp_ne0 hM12_q5 hq7), (mp_ne0 hM14_q5 hq8), (mp_ne0 hM16_q5 hq9), (mp_ne0 hM18_q5 hq10)⟩, ⟨(mp_ne0 hM12_q6 hq7), (mp_ne0 hM14_q6 hq8), (mp_ne0 hM16_q6 hq9), (mp_ne0 hM18_q6 hq10)⟩, ⟨(mp_ne0 hM14_q7 hq8), (mp_ne0 hM16_q7 hq9), (mp_ne0 hM18_q7 hq10)⟩, ⟨(mp_ne0 hM16_q8 hq9), (mp_ne0 hM18_q8 hq10)⟩, (mp_ne0 hM18_q9 hq10)⟩)
  have hRI : RI E M20 (am_L [h, q1, q2, q3, q4, q5, q6, q7, q8, q9, q10]) 0 0 0 0 0 (fun _ => []) := ⟨hM20_h, ⟨_, hM20_q4⟩, ⟨_, hM20_q5⟩, ⟨_, hM20_q6, fun _ _ => (show fits .byte (.int 0) = true by decide)⟩, ⟨_, hM20_q7⟩, (fun _ => 0), (fun _ => 0), hM20_q8, hM20_q9, fun _ _ => (show fits .byte (.int 0) = true by decide), fun p hp => ⟨(show (0 : Int32) = nI 0 by decide), Nat.zero_le _, fun j hj => absurd hj (Nat.not_lt_zero _)⟩⟩
  have hF : ∀ i, 0 < i → i < 11 → M (am_L [h, q1, q2, q3, q4, q5, q6, q7, q8, q9, q10] i) = none := fun i h1 h2 => by
    rcases (show i = 1 ∨ i = 2 ∨ i = 3 ∨ i = 4 ∨ i = 5 ∨ i = 6 ∨ i = 7 ∨ i = 8 ∨ i = 9 ∨ i = 10 by omega) with rfl | rfl | rfl | rfl | rfl | rfl | rfl | rfl | rfl | rfl
    all_goals first | exact F_q1 | exact F_q2 | exact F_q3 | exact F_q4 | exact F_q5 | exact F_q6 | exact F_q7 | exact F_q8 | exact F_q9 | exact F_q10
  exact j_vret hκ rfl (by omega) (by omega) d_Mo_init_89 ⟨rfl, am_L [h, q1, q2, q3, q4, q5, q6, q7, q8, q9, q10], rfl, hRL, ⟨0, 0, hRI, hM20_q1, ⟨_, hM20_q2⟩, ⟨_, hM20_q3⟩, ⟨_, hM20_q10⟩⟩, hF, fun a e z z0 => by
    have z_1 := mp_kp eM1.symm (mp_ne0 z hq1) z
    have z_2 := mp_kp eM2.symm z0 z_1
    have z_3 := mp_kp eM3.symm (mp_ne0 z_2 hq2) z_2
    have z_4 := mp_kp eM4.symm z0 z_3
    have z_5 := mp_kp eM5.symm (mp_ne0 z_4 hq3) z_4
    have z_6 := mp_kp eM6.symm z0 z_5
    have z_7 := mp_kp eM7.symm (mp_ne0 z_6 hq4) z_6
    have z_8 := mp_kp eM8.symm z0 z_7
    have z_9 := mp_kp eM9.symm (mp_ne0 z_8 hq5) z_8
    have z_10 := mp_kp eM10.symm z0 z_9
    have z_11 := mp_kp eM11.symm (mp_ne0 z_10 hq6) z_10
    have z_12 := mp_kp eM12.symm z0 z_11
    have z_13 := mp_kp eM13.symm (mp_ne0 z_12 hq7) z_12
    have z_14 := mp_kp eM14.symm z0 z_13
    have z_15 := mp_kp eM15.symm (mp_ne0 z_14 hq8) z_14
    have z_16 := mp_kp eM16.symm z0 z_15
    have z_17 := mp_kp eM17.symm (mp_ne0 z_16 hq9) z_16
    have z_18 := mp_kp eM18.symm z0 z_17
    have z_19 := mp_kp eM19.symm (mp_ne0 z_18 hq10) z_18
    have z_20 := mp_kp eM20.symm z0 z_19
    exact z_20⟩
