set_option maxHeartbeats 4000000 in
set_option maxRecDepth 100000 in
theorem c_Ma_init (l : Launch) (E : mp_E) (M : mp_M) (h sh ri : Nat) (h0 : M h = some (mp_o 1 [.null, .null, .null, .null, .null, .null, .null, .int 0])) : mp_Cr l m_Ma_init E M 5 13 426 [.ref h, .ref sh, .ref ri] (fun v N => v = none ∧ ∃ so ao n1 c1 br y yb nn nb sm am n2 c2, (M so = none ∧ M ao = none ∧ M br = none ∧ M sm = none ∧ M am = none) ∧ N h = some (mp_o 1 [.ref sh, .ref ri, .ref so, .ref br, .ref y, .ref nn, .ref sm, .int (nI 0)]) ∧ N so = some (mp_o 4 [.ref ao, .ref n1, .int (nI 0)]) ∧ N ao = some (mp_q E 200 (fun _ => some n1)) ∧ N n1 = some (mp_o 5 [.ref c1]) ∧ N c1 = some (mp_b E 0 (fun _ => 0)) ∧ N br = some (mp_o 0 [.int (nI 0), .int (-1)]) ∧ N y = some (mp_o 5 [.ref yb]) ∧ N yb = some (mp_b E (bl 1) (gb (am_of 1))) ∧ N nn = some (mp_o 5 [.ref nb]) ∧ N nb = some (mp_b E (bl 0) (gb (am_of 0))) ∧ N sm = some (mp_o 4 [.ref am, .ref n2, .int (nI 0)]) ∧ N am = some (mp_q E 200 (fun _ => some n2)) ∧ N n2 = some (mp_o 5 [.ref c2]) ∧ N c2 = some (mp_b E 0 (fun _ => 0)) ∧ so ≠ sm ∧ ao ≠ am ∧ ∀ a e, M a = some e → a ≠ h → N a = some e) := by
  refine mp_Cr.of (by decide) (Nat.le_of_ble_eq_true rfl) fun Γ κ hl hκ => ?_
  subst hl
  obtain ⟨hκd, hκc, hκs, -⟩ := id hκ
  show mp_J Γ m_Ma_init E κ M [(0, .ref h), (1, .ref sh), (2, .ref ri)] 0 [] 0 0
  refine j_aload_n d_Ma_init_0 rfl 0 rfl ?_
  refine j_objInit w_102 w_36 w_37 (Nat.le_of_ble_eq_true rfl) (by omega) d_Ma_init_1 ?_
  refine j_aload_n d_Ma_init_4 rfl 0 rfl ?_
  refine j_aload_n d_Ma_init_5 rfl 1 rfl ?_
  refine j_putF F_Ma h0 0 (by decide) w_163 (Or.inl rfl) rfl rfl rfl rfl rfl (Nat.le_of_ble_eq_true rfl) d_Ma_init_6 ?_
  show mp_J Γ m_Ma_init E κ (mp_up M h (mp_o 1 [.ref sh, .null, .null, .null, .null, .null, .null, .int 0])) [(0, .ref h), (1, .ref sh), (2, .ref ri)] 9 [] 0 0
  generalize eM1 : mp_up M h (mp_o 1 [.ref sh, .null, .null, .null, .null, .null, .null, .int 0]) = M1
  have hM1_h : M1 h = some (mp_o 1 [.ref sh, .null, .null, .null, .null, .null, .null, .int 0]) := by rw [← eM1]; exact mp_s
  refine j_aload_n d_Ma_init_9 rfl 0 rfl ?_
  refine j_aload_n d_Ma_init_10 rfl 2 rfl ?_
  refine j_putF F_Ma hM1_h 1 (by decide) w_164 (Or.inl rfl) rfl rfl rfl rfl rfl (Nat.le_of_ble_eq_true rfl) d_Ma_init_11 ?_
  show mp_J Γ m_Ma_init E κ (mp_up M1 h (mp_o 1 [.ref sh, .ref ri, .null, .null, .null, .null, .null, .int 0])) [(0, .ref h), (1, .ref sh), (2, .ref ri)] 14 [] 0 0
  generalize eM2 : mp_up M1 h (mp_o 1 [.ref sh, .ref ri, .null, .null, .null, .null, .null, .int 0]) = M2
  have hM2_h : M2 h = some (mp_o 1 [.ref sh, .ref ri, .null, .null, .null, .null, .null, .int 0]) := by rw [← eM2]; exact mp_s
  refine j_aload_n d_Ma_init_14 rfl 0 rfl ?_
  refine j_new [.null, .null, .int 0] F_St w_103 w_104 w_7 (fun j hj => by rcases (show j = 0 ∨ j = 1 ∨ j = 2 by omega) with rfl | rfl | rfl <;> rfl) (by omega) (by omega) d_Ma_init_15 (fun so hso => ?_)
  generalize eM3 : mp_up M2 so (mp_o 4 [.null, .null, .int 0]) = M3
  have hM3_h : M3 h = some (mp_o 1 [.ref sh, .ref ri, .null, .null, .null, .null, .null, .int 0]) := by rw [← eM3, mp_n (mp_ne0 hM2_h hso)]; exact hM2_h
  have hM3_so : M3 so = some (mp_o 4 [.null, .null, .int 0]) := by rw [← eM3]; exact mp_s
  have F_so : M so = none := by
    cases hz : M so with
    | none => rfl
    | some e =>
      exfalso
      have z := hz
      have z0 : so ≠ h := Ne.symm (mp_ne0 hM2_h hso)
      have zso_1 := mp_kp eM1.symm z0 z
      have zso_2 := mp_kp eM2.symm z0 zso_1
      rw [hso] at zso_2
      cases zso_2
  refine j_dup d_Ma_init_18 rfl ?_
  refine j_callI (As := []) (rest := [.ref so, .ref h]) (c_St_init Γ.l E M3 so hM3_so) Y_St_init rfl rfl w_105 w_106 rfl rfl (Nat.le_of_ble_eq_true rfl) (by omega) (by omega) (by omega) d_Ma_init_19 (fun v19 N19 p19 => ?_)
  obtain ⟨rfl, ao, n1, c1, s191, s192, s193, s19a, s19b, s19c, s19d, s19f⟩ := p19
  show mp_J Γ m_Ma_init E κ N19 [(0, .ref h), (1, .ref sh), (2, .ref ri)] 22 [.ref so, .ref h] (0 + 1 + 3) (0 + 3 + 201)
  have hN19_h : N19 h = some (mp_o 1 [.ref sh, .ref ri, .null, .null, .null, .null, .null, .int 0]) := (s19f h (mp_ne0 hM2_h hso) (mp_ne0 hM3_h s191) (mp_ne0 hM3_h s192) (mp_ne0 hM3_h s193)).trans hM3_h
  have F_ao : M ao = none := by
    cases hz : M ao with
    | none => rfl
    | some e =>
      exfalso
      have z := hz
      have z0 : ao ≠ h := Ne.symm (mp_ne0 hM3_h s191)
      have zao_1 := mp_kp eM1.symm z0 z
      have zao_2 := mp_kp eM2.symm z0 zao_1
      have zao_3 := mp_kp eM3.symm (mp_ne0 zao_2 hso) zao_2
      rw [s191] at zao_3
      cases zao_3
  refine j_putF F_Ma hN19_h 2 (by decide) w_165 (Or.inl rfl) rfl rfl rfl rfl rfl (Nat.le_of_ble_eq_true rfl) d_Ma_init_22 ?_
  show mp_J Γ m_Ma_init E κ (mp_up N19 h (mp_o 1 [.ref sh, .ref ri, .ref so, .null, .null, .null, .null, .int 0])) [(0, .ref h), (1, .ref sh), (2, .ref ri)] 25 [] (0 + 1 + 3) (0 + 3 + 201)
  generalize eM4 : mp_up N19 h (mp_o 1 [.ref sh, .ref ri, .ref so, .null, .null, .null, .null, .int 0]) = M4
  have hM4_so : M4 so = some (mp_o 4 [.ref ao, .ref n1, .int (nI 0)]) := by rw [← eM4, mp_n (Ne.symm (mp_ne0 hM2_h hso))]; exact s19a
  have hM4_ao : M4 ao = some (mp_q E 200 (fun _ => some n1)) := by rw [← eM4, mp_n (Ne.symm (mp_ne0 hM3_h s191))]; exact s19b
  have hM4_n1 : M4 n1 = some (mp_o 5 [.ref c1]) := by rw [← eM4, mp_n (Ne.symm (mp_ne0 hM3_h s192))]; exact s19c
  have hM4_c1 : M4 c1 = some (mp_b E 0 (fun _ => 0)) := by rw [← eM4, mp_n (Ne.symm (mp_ne0 hM3_h s193))]; exact s19d
  have hM4_h : M4 h = some (mp_o 1 [.ref sh, .ref ri, .ref so, .null, .null, .null, .null, .int 0]) := by rw [← eM4]; exact mp_s
  refine j_aload_n d_Ma_init_25 rfl 0 rfl ?_
  refine j_new [.int 0, .int 0] F_Br w_132 w_133 w_9 (fun j hj => by rcases (show j = 0 ∨ j = 1 by omega) with rfl | rfl <;> rfl) (by omega) (by omega) d_Ma_init_26 (fun br hbr => ?_)
  generalize eM5 : mp_up M4 br (mp_o 0 [.int 0, .int 0]) = M5
  have hM5_so : M5 so = some (mp_o 4 [.ref ao, .ref n1, .int (nI 0)]) := by rw [← eM5, mp_n (mp_ne0 hM4_so hbr)]; exact hM4_so
  have hM5_ao : M5 ao = some (mp_q E 200 (fun _ => some n1)) := by rw [← eM5, mp_n (mp_ne0 hM4_ao hbr)]; exact hM4_ao
  have hM5_n1 : M5 n1 = some (mp_o 5 [.ref c1]) := by rw [← eM5, mp_n (mp_ne0 hM4_n1 hbr)]; exact hM4_n1
  have hM5_c1 : M5 c1 = some (mp_b E 0 (fun _ => 0)) := by rw [← eM5, mp_n (mp_ne0 hM4_c1 hbr)]; exact hM4_c1
  have hM5_h : M5 h = some (mp_o 1 [.ref sh, .ref ri, .ref so, .null, .null, .null, .null, .int 0]) := by rw [← eM5, mp_n (mp_ne0 hM4_h hbr)]; exact hM4_h
  have hM5_br : M5 br = some (mp_o 0 [.int 0, .int 0]) := by rw [← eM5]; exact mp_s
  have F_br : M br = none := by
    cases hz : M br with
    | none => rfl
    | some e =>
      exfalso
      have z := hz
      have z0 : br ≠ h := Ne.symm (mp_ne0 hM4_h hbr)
      have zbr_1 := mp_kp eM1.symm z0 z
      have zbr_2 := mp_kp eM2.symm z0 zbr_1
      have zbr_3 := mp_kp eM3.symm (mp_ne0 zbr_2 hso) zbr_2
      have zbr_4 := (s19f br (mp_ne0 zbr_2 hso) (mp_ne0 zbr_3 s191) (mp_ne0 zbr_3 s192) (mp_ne0 zbr_3 s193)).trans zbr_3
      have zbr_5 := mp_kp eM4.symm z0 zbr_4
      rw [hbr] at zbr_5
      cases zbr_5
  refine j_dup d_Ma_init_29 rfl ?_
  refine j_callI (As := []) (rest := [.ref br, .ref h]) (c_Br_init Γ.l E M5 br _ _ hM5_br) Y_Br_init rfl rfl w_134 w_135 rfl rfl (Nat.le_of_ble_eq_true rfl) (by omega) (by omega) (by omega) d_Ma_init_30 (fun v30 N30 p30 => ?_)
  obtain ⟨rfl, q30⟩ := p30
  show mp_J Γ m_Ma_init E κ N30 [(0, .ref h), (1, .ref sh), (2, .ref ri)] 33 [.ref br, .ref h] (0 + 1 + 3 + 1) (0 + 3 + 201 + 2)
  have hN30_so : N30 so = some (mp_o 4 [.ref ao, .ref n1, .int (nI 0)]) := by rw [q30, mp_n (mp_ne0 hM4_so hbr)]; exact hM5_so
  have hN30_ao : N30 ao = some (mp_q E 200 (fun _ => some n1)) := by rw [q30, mp_n (mp_ne0 hM4_ao hbr)]; exact hM5_ao
  have hN30_n1 : N30 n1 = some (mp_o 5 [.ref c1]) := by rw [q30, mp_n (mp_ne0 hM4_n1 hbr)]; exact hM5_n1
  have hN30_c1 : N30 c1 = some (mp_b E 0 (fun _ => 0)) := by rw [q30, mp_n (mp_ne0 hM4_c1 hbr)]; exact hM5_c1
  have hN30_h : N30 h = some (mp_o 1 [.ref sh, .ref ri, .ref so, .null, .null, .null, .null, .int 0]) := by rw [q30, mp_n (mp_ne0 hM4_h hbr)]; exact hM5_h
  have hN30_br : N30 br = some (mp_o 0 [.int (nI 0), .int (-1)]) := by rw [q30]; exact mp_s
  refine j_putF F_Ma hN30_h 3 (by decide) w_166 (Or.inl rfl) rfl rfl rfl rfl rfl (Nat.le_of_ble_eq_true rfl) d_Ma_init_33 ?_
  show mp_J Γ m_Ma_init E κ (mp_up N30 h (mp_o 1 [.ref sh, .ref ri, .ref so, .ref br, .null, .null, .null, .int 0])) [(0, .ref h), (1, .ref sh), (2, .ref ri)] 36 [] (0 + 1 + 3 + 1) (0 + 3 + 201 + 2)
  generalize eM6 : mp_up N30 h (mp_o 1 [.ref sh, .ref ri, .ref so, .ref br, .null, .null, .null, .int 0]) = M6
  have hM6_so : M6 so = some (mp_o 4 [.ref ao, .ref n1, .int (nI 0)]) := by rw [← eM6, mp_n (Ne.symm (mp_ne0 hM2_h hso))]; exact hN30_so
  have hM6_ao : M6 ao = some (mp_q E 200 (fun _ => some n1)) := by rw [← eM6, mp_n (Ne.symm (mp_ne0 hM3_h s191))]; exact hN30_ao
  have hM6_n1 : M6 n1 = some (mp_o 5 [.ref c1]) := by rw [← eM6, mp_n (Ne.symm (mp_ne0 hM3_h s192))]; exact hN30_n1
  have hM6_c1 : M6 c1 = some (mp_b E 0 (fun _ => 0)) := by rw [← eM6, mp_n (Ne.symm (mp_ne0 hM3_h s193))]; exact hN30_c1
  have hM6_br : M6 br = some (mp_o 0 [.int (nI 0), .int (-1)]) := by rw [← eM6, mp_n (Ne.symm (mp_ne0 hM4_h hbr))]; exact hN30_br
  have hM6_h : M6 h = some (mp_o 1 [.ref sh, .ref ri, .ref so, .ref br, .null, .null, .null, .int 0]) := by rw [← eM6]; exact mp_s
  refine j_aload_n d_Ma_init_36 rfl 0 rfl ?_
  refine j_lconst (v := 1) d_Ma_init_37 (by decide) ?_
  refine j_callS (As := [.long 1]) (rest := [.ref h]) (c_Th_ofNumber Γ.l E M6 1 1 (by decide) (by decide)) Y_Th_ofNumber w_145 w_146 rfl rfl (Nat.le_of_ble_eq_true rfl) (by omega) (by omega) (by omega) d_Ma_init_38 (fun v38 N38 p38 => ?_)
  obtain ⟨y, yb, rfl, o381, o382, o383, o38e⟩ := p38
  have o38a : N38 y = some (mp_o 5 [.ref yb]) := by rw [o38e]; exact mp_s
  have o38b : N38 yb = some (mp_b E (bl 1) (of_f (decide ((1 : Int64) < 0)) 1)) := by rw [o38e, mp_n (Ne.symm o383)]; exact mp_s
  show mp_J Γ m_Ma_init E κ N38 [(0, .ref h), (1, .ref sh), (2, .ref ri)] 41 [.ref y, .ref h] (0 + 1 + 3 + 1 + 2) (0 + 3 + 201 + 2 + 8)
  have hN38_so : N38 so = some (mp_o 4 [.ref ao, .ref n1, .int (nI 0)]) := (show N38 so = _ by rw [o38e, mp_n (mp_ne0 hM6_so o381), mp_n (mp_ne0 hM6_so o382)]).trans hM6_so
  have hN38_ao : N38 ao = some (mp_q E 200 (fun _ => some n1)) := (show N38 ao = _ by rw [o38e, mp_n (mp_ne0 hM6_ao o381), mp_n (mp_ne0 hM6_ao o382)]).trans hM6_ao
  have hN38_n1 : N38 n1 = some (mp_o 5 [.ref c1]) := (show N38 n1 = _ by rw [o38e, mp_n (mp_ne0 hM6_n1 o381), mp_n (mp_ne0 hM6_n1 o382)]).trans hM6_n1
  have hN38_c1 : N38 c1 = some (mp_b E 0 (fun _ => 0)) := (show N38 c1 = _ by rw [o38e, mp_n (mp_ne0 hM6_c1 o381), mp_n (mp_ne0 hM6_c1 o382)]).trans hM6_c1
  have hN38_br : N38 br = some (mp_o 0 [.int (nI 0), .int (-1)]) := (show N38 br = _ by rw [o38e, mp_n (mp_ne0 hM6_br o381), mp_n (mp_ne0 hM6_br o382)]).trans hM6_br
  have hN38_h : N38 h = some (mp_o 1 [.ref sh, .ref ri, .ref so, .ref br, .null, .null, .null, .int 0]) := (show N38 h = _ by rw [o38e, mp_n (mp_ne0 hM6_h o381), mp_n (mp_ne0 hM6_h o382)]).trans hM6_h
  refine j_canon (gb (am_of 1)) o38b (fun j hj => (gl_at hj).symm) ?_
  show mp_J Γ m_Ma_init E κ (mp_up N38 yb (mp_b E (bl 1) (gb (am_of 1)))) [(0, .ref h), (1, .ref sh), (2, .ref ri)] 41 [.ref y, .ref h] (0 + 1 + 3 + 1 + 2) (0 + 3 + 201 + 2 + 8)
  generalize eM7 : mp_up N38 yb (mp_b E (bl 1) (gb (am_of 1))) = M7
  have hM7_so : M7 so = some (mp_o 4 [.ref ao, .ref n1, .int (nI 0)]) := by rw [← eM7, mp_n (mp_ne0 hM6_so o382)]; exact hN38_so
  have hM7_ao : M7 ao = some (mp_q E 200 (fun _ => some n1)) := by rw [← eM7, mp_n (mp_ne0 hM6_ao o382)]; exact hN38_ao
  have hM7_n1 : M7 n1 = some (mp_o 5 [.ref c1]) := by rw [← eM7, mp_n (mp_ne0 hM6_n1 o382)]; exact hN38_n1
  have hM7_c1 : M7 c1 = some (mp_b E 0 (fun _ => 0)) := by rw [← eM7, mp_n (mp_ne0 hM6_c1 o382)]; exact hN38_c1
  have hM7_br : M7 br = some (mp_o 0 [.int (nI 0), .int (-1)]) := by rw [← eM7, mp_n (mp_ne0 hM6_br o382)]; exact hN38_br
  have hM7_h : M7 h = some (mp_o 1 [.ref sh, .ref ri, .ref so, .ref br, .null, .null, .null, .int 0]) := by rw [← eM7, mp_n (mp_ne0 hM6_h o382)]; exact hN38_h
  have hM7_y : M7 y = some (mp_o 5 [.ref yb]) := by rw [← eM7, mp_n o383]; exact o38a
  have hM7_yb : M7 yb = some (mp_b E (bl 1) (gb (am_of 1))) := by rw [← eM7]; exact mp_s
  refine j_putF F_Ma hM7_h 4 (by decide) w_167 (Or.inl rfl) rfl rfl rfl rfl rfl (Nat.le_of_ble_eq_true rfl) d_Ma_init_41 ?_
  show mp_J Γ m_Ma_init E κ (mp_up M7 h (mp_o 1 [.ref sh, .ref ri, .ref so, .ref br, .ref y, .null, .null, .int 0])) [(0, .ref h), (1, .ref sh), (2, .ref ri)] 44 [] (0 + 1 + 3 + 1 + 2) (0 + 3 + 201 + 2 + 8)
  generalize eM8 : mp_up M7 h (mp_o 1 [.ref sh, .ref ri, .ref so, .ref br, .ref y, .null, .null, .int 0]) = M8
  have hM8_so : M8 so = some (mp_o 4 [.ref ao, .ref n1, .int (nI 0)]) := by rw [← eM8, mp_n (Ne.symm (mp_ne0 hM2_h hso))]; exact hM7_so
  have hM8_ao : M8 ao = some (mp_q E 200 (fun _ => some n1)) := by rw [← eM8, mp_n (Ne.symm (mp_ne0 hM3_h s191))]; exact hM7_ao
  have hM8_n1 : M8 n1 = some (mp_o 5 [.ref c1]) := by rw [← eM8, mp_n (Ne.symm (mp_ne0 hM3_h s192))]; exact hM7_n1
  have hM8_c1 : M8 c1 = some (mp_b E 0 (fun _ => 0)) := by rw [← eM8, mp_n (Ne.symm (mp_ne0 hM3_h s193))]; exact hM7_c1
  have hM8_br : M8 br = some (mp_o 0 [.int (nI 0), .int (-1)]) := by rw [← eM8, mp_n (Ne.symm (mp_ne0 hM4_h hbr))]; exact hM7_br
  have hM8_y : M8 y = some (mp_o 5 [.ref yb]) := by rw [← eM8, mp_n (Ne.symm (mp_ne0 hM6_h o381))]; exact hM7_y
  have hM8_yb : M8 yb = some (mp_b E (bl 1) (gb (am_of 1))) := by rw [← eM8, mp_n (Ne.symm (mp_ne0 hM6_h o382))]; exact hM7_yb
  have hM8_h : M8 h = some (mp_o 1 [.ref sh, .ref ri, .ref so, .ref br, .ref y, .null, .null, .int 0]) := by rw [← eM8]; exact mp_s
  refine j_aload_n d_Ma_init_44 rfl 0 rfl ?_
  refine j_lconst (v := 0) d_Ma_init_45 (by decide) ?_
  refine j_callS (As := [.long 0]) (rest := [.ref h]) (c_Th_ofNumber Γ.l E M8 0 0 (by decide) (by decide)) Y_Th_ofNumber w_145 w_146 rfl rfl (Nat.le_of_ble_eq_true rfl) (by omega) (by omega) (by omega) d_Ma_init_46 (fun v46 N46 p46 => ?_)
  obtain ⟨nn, nb, rfl, o461, o462, o463, o46e⟩ := p46
  have o46a : N46 nn = some (mp_o 5 [.ref nb]) := by rw [o46e]; exact mp_s
  have o46b : N46 nb = some (mp_b E (bl 0) (of_f (decide ((0 : Int64) < 0)) 0)) := by rw [o46e, mp_n (Ne.symm o463)]; exact mp_s
  show mp_J Γ m_Ma_init E κ N46 [(0, .ref h), (1, .ref sh), (2, .ref ri)] 49 [.ref nn, .ref h] (0 + 1 + 3 + 1 + 2 + 2) (0 + 3 + 201 + 2 + 8 + 8)
  have hN46_so : N46 so = some (mp_o 4 [.ref ao, .ref n1, .int (nI 0)]) := (show N46 so = _ by rw [o46e, mp_n (mp_ne0 hM8_so o461), mp_n (mp_ne0 hM8_so o462)]).trans hM8_so
  have hN46_ao : N46 ao = some (mp_q E 200 (fun _ => some n1)) := (show N46 ao = _ by rw [o46e, mp_n (mp_ne0 hM8_ao o461), mp_n (mp_ne0 hM8_ao o462)]).trans hM8_ao
  have hN46_n1 : N46 n1 = some (mp_o 5 [.ref c1]) := (show N46 n1 = _ by rw [o46e, mp_n (mp_ne0 hM8_n1 o461), mp_n (mp_ne0 hM8_n1 o462)]).trans hM8_n1
  have hN46_c1 : N46 c1 = some (mp_b E 0 (fun _ => 0)) := (show N46 c1 = _ by rw [o46e, mp_n (mp_ne0 hM8_c1 o461), mp_n (mp_ne0 hM8_c1 o462)]).trans hM8_c1
  have hN46_br : N46 br = some (mp_o 0 [.int (nI 0), .int (-1)]) := (show N46 br = _ by rw [o46e, mp_n (mp_ne0 hM8_br o461), mp_n (mp_ne0 hM8_br o462)]).trans hM8_br
  have hN46_y : N46 y = some (mp_o 5 [.ref yb]) := (show N46 y = _ by rw [o46e, mp_n (mp_ne0 hM8_y o461), mp_n (mp_ne0 hM8_y o462)]).trans hM8_y
  have hN46_yb : N46 yb = some (mp_b E (bl 1) (gb (am_of 1))) := (show N46 yb = _ by rw [o46e, mp_n (mp_ne0 hM8_yb o461), mp_n (mp_ne0 hM8_yb o462)]).trans hM8_yb
  have hN46_h : N46 h = some (mp_o 1 [.ref sh, .ref ri, .ref so, .ref br, .ref y, .null, .null, .int 0]) := (show N46 h = _ by rw [o46e, mp_n (mp_ne0 hM8_h o461), mp_n (mp_ne0 hM8_h o462)]).trans hM8_h
  refine j_canon (gb (am_of 0)) o46b (fun j hj => (gl_at hj).symm) ?_
  show mp_J Γ m_Ma_init E κ (mp_up N46 nb (mp_b E (bl 0) (gb (am_of 0)))) [(0, .ref h), (1, .ref sh), (2, .ref ri)] 49 [.ref nn, .ref h] (0 + 1 + 3 + 1 + 2 + 2) (0 + 3 + 201 + 2 + 8 + 8)
  generalize eM9 : mp_up N46 nb (mp_b E (bl 0) (gb (am_of 0))) = M9
  have hM9_so : M9 so = some (mp_o 4 [.ref ao, .ref n1, .int (nI 0)]) := by rw [← eM9, mp_n (mp_ne0 hM8_so o462)]; exact hN46_so
  have hM9_ao : M9 ao = some (mp_q E 200 (fun _ => some n1)) := by rw [← eM9, mp_n (mp_ne0 hM8_ao o462)]; exact hN46_ao
  have hM9_n1 : M9 n1 = some (mp_o 5 [.ref c1]) := by rw [← eM9, mp_n (mp_ne0 hM8_n1 o462)]; exact hN46_n1
  have hM9_c1 : M9 c1 = some (mp_b E 0 (fun _ => 0)) := by rw [← eM9, mp_n (mp_ne0 hM8_c1 o462)]; exact hN46_c1
  have hM9_br : M9 br = some (mp_o 0 [.int (nI 0), .int (-1)]) := by rw [← eM9, mp_n (mp_ne0 hM8_br o462)]; exact hN46_br
  have hM9_y : M9 y = some (mp_o 5 [.ref yb]) := by rw [← eM9, mp_n (mp_ne0 hM8_y o462)]; exact hN46_y
  have hM9_yb : M9 yb = some (mp_b E (bl 1) (gb (am_of 1))) := by rw [← eM9, mp_n (mp_ne0 hM8_yb o462)]; exact hN46_yb
  have hM9_h : M9 h = some (mp_o 1 [.ref sh, .ref ri, .ref so, .ref br, .ref y, .null, .null, .int 0]) := by rw [← eM9, mp_n (mp_ne0 hM8_h o462)]; exact hN46_h
  have hM9_nn : M9 nn = some (mp_o 5 [.ref nb]) := by rw [← eM9, mp_n o463]; exact o46a
  have hM9_nb : M9 nb = some (mp_b E (bl 0) (gb (am_of 0))) := by rw [← eM9]; exact mp_s
  refine j_putF F_Ma hM9_h 5 (by decide) w_168 (Or.inl rfl) rfl rfl rfl rfl rfl (Nat.le_of_ble_eq_true rfl) d_Ma_init_49 ?_
  show mp_J Γ m_Ma_init E κ (mp_up M9 h (mp_o 1 [.ref sh, .ref ri, .ref so, .ref br, .ref y, .ref nn, .null, .int 0])) [(0, .ref h), (1, .ref sh), (2, .ref ri)] 52 [] (0 + 1 + 3 + 1 + 2 + 2) (0 + 3 + 201 + 2 + 8 + 8)
  generalize eM10 : mp_up M9 h (mp_o 1 [.ref sh, .ref ri, .ref so, .ref br, .ref y, .ref nn, .null, .int 0]) = M10
  have hM10_so : M10 so = some (mp_o 4 [.ref ao, .ref n1, .int (nI 0)]) := by rw [← eM10, mp_n (Ne.symm (mp_ne0 hM2_h hso))]; exact hM9_so
  have hM10_ao : M10 ao = some (mp_q E 200 (fun _ => some n1)) := by rw [← eM10, mp_n (Ne.symm (mp_ne0 hM3_h s191))]; exact hM9_ao
  have hM10_n1 : M10 n1 = some (mp_o 5 [.ref c1]) := by rw [← eM10, mp_n (Ne.symm (mp_ne0 hM3_h s192))]; exact hM9_n1
  have hM10_c1 : M10 c1 = some (mp_b E 0 (fun _ => 0)) := by rw [← eM10, mp_n (Ne.symm (mp_ne0 hM3_h s193))]; exact hM9_c1
  have hM10_br : M10 br = some (mp_o 0 [.int (nI 0), .int (-1)]) := by rw [← eM10, mp_n (Ne.symm (mp_ne0 hM4_h hbr))]; exact hM9_br
  have hM10_y : M10 y = some (mp_o 5 [.ref yb]) := by rw [← eM10, mp_n (Ne.symm (mp_ne0 hM6_h o381))]; exact hM9_y
  have hM10_yb : M10 yb = some (mp_b E (bl 1) (gb (am_of 1))) := by rw [← eM10, mp_n (Ne.symm (mp_ne0 hM6_h o382))]; exact hM9_yb
  have hM10_nn : M10 nn = some (mp_o 5 [.ref nb]) := by rw [← eM10, mp_n (Ne.symm (mp_ne0 hM8_h o461))]; exact hM9_nn
  have hM10_nb : M10 nb = some (mp_b E (bl 0) (gb (am_of 0))) := by rw [← eM10, mp_n (Ne.symm (mp_ne0 hM8_h o462))]; exact hM9_nb
  have hM10_h : M10 h = some (mp_o 1 [.ref sh, .ref ri, .ref so, .ref br, .ref y, .ref nn, .null, .int 0]) := by rw [← eM10]; exact mp_s
  refine j_aload_n d_Ma_init_52 rfl 0 rfl ?_
  refine j_new [.null, .null, .int 0] F_St w_103 w_104 w_7 (fun j hj => by rcases (show j = 0 ∨ j = 1 ∨ j = 2 by omega) with rfl | rfl | rfl <;> rfl) (by omega) (by omega) d_Ma_init_53 (fun sm hsm => ?_)
  generalize eM11 : mp_up M10 sm (mp_o 4 [.null, .null, .int 0]) = M11
  have hM11_so : M11 so = some (mp_o 4 [.ref ao, .ref n1, .int (nI 0)]) := by rw [← eM11, mp_n (mp_ne0 hM10_so hsm)]; exact hM10_so
  have hM11_ao : M11 ao = some (mp_q E 200 (fun _ => some n1)) := by rw [← eM11, mp_n (mp_ne0 hM10_ao hsm)]; exact hM10_ao
  have hM11_n1 : M11 n1 = some (mp_o 5 [.ref c1]) := by rw [← eM11, mp_n (mp_ne0 hM10_n1 hsm)]; exact hM10_n1
  have hM11_c1 : M11 c1 = some (mp_b E 0 (fun _ => 0)) := by rw [← eM11, mp_n (mp_ne0 hM10_c1 hsm)]; exact hM10_c1
  have hM11_br : M11 br = some (mp_o 0 [.int (nI 0), .int (-1)]) := by rw [← eM11, mp_n (mp_ne0 hM10_br hsm)]; exact hM10_br
  have hM11_y : M11 y = some (mp_o 5 [.ref yb]) := by rw [← eM11, mp_n (mp_ne0 hM10_y hsm)]; exact hM10_y
  have hM11_yb : M11 yb = some (mp_b E (bl 1) (gb (am_of 1))) := by rw [← eM11, mp_n (mp_ne0 hM10_yb hsm)]; exact hM10_yb
  have hM11_nn : M11 nn = some (mp_o 5 [.ref nb]) := by rw [← eM11, mp_n (mp_ne0 hM10_nn hsm)]; exact hM10_nn
  have hM11_nb : M11 nb = some (mp_b E (bl 0) (gb (am_of 0))) := by rw [← eM11, mp_n (mp_ne0 hM10_nb hsm)]; exact hM10_nb
  have hM11_h : M11 h = some (mp_o 1 [.ref sh, .ref ri, .ref so, .ref br, .ref y, .ref nn, .null, .int 0]) := by rw [← eM11, mp_n (mp_ne0 hM10_h hsm)]; exact hM10_h
  have hM11_sm : M11 sm = some (mp_o 4 [.null, .null, .int 0]) := by rw [← eM11]; exact mp_s
  have F_sm : M sm = none := by
    cases hz : M sm with
    | none => rfl
    | some e =>
      exfalso
      have z := hz
      have z0 : sm ≠ h := Ne.symm (mp_ne0 hM10_h hsm)
      have zsm_1 := mp_kp eM1.symm z0 z
      have zsm_2 := mp_kp eM2.symm z0 zsm_1
      have zsm_3 := mp_kp eM3.symm (mp_ne0 zsm_2 hso) zsm_2
      have zsm_4 := (s19f sm (mp_ne0 zsm_2 hso) (mp_ne0 zsm_3 s191) (mp_ne0 zsm_3 s192) (mp_ne0 zsm_3 s193)).trans zsm_3
      have zsm_5 := mp_kp eM4.symm z0 zsm_4
      have zsm_6 := mp_kp eM5.symm (mp_ne0 zsm_5 hbr) zsm_5
      have zsm_7 := mp_kp q30 (mp_ne0 zsm_5 hbr) zsm_6
      have zsm_8 := mp_kp eM6.symm z0 zsm_7
      have zsm_9 : N38 sm = some e := by rw [o38e, mp_n (mp_ne0 zsm_8 o381), mp_n (mp_ne0 zsm_8 o382)]; exact zsm_8
      have zsm_10 := mp_kp eM7.symm (mp_ne0 zsm_8 o382) zsm_9
      have zsm_11 := mp_kp eM8.symm z0 zsm_10
      have zsm_12 : N46 sm = some e := by rw [o46e, mp_n (mp_ne0 zsm_11 o461), mp_n (mp_ne0 zsm_11 o462)]; exact zsm_11
      have zsm_13 := mp_kp eM9.symm (mp_ne0 zsm_11 o462) zsm_12
      have zsm_14 := mp_kp eM10.symm z0 zsm_13
      rw [hsm] at zsm_14
      cases zsm_14
  refine j_dup d_Ma_init_56 rfl ?_
  refine j_callI (As := []) (rest := [.ref sm, .ref h]) (c_St_init Γ.l E M11 sm hM11_sm) Y_St_init rfl rfl w_105 w_106 rfl rfl (Nat.le_of_ble_eq_true rfl) (by omega) (by omega) (by omega) d_Ma_init_57 (fun v57 N57 p57 => ?_)
  obtain ⟨rfl, am, n2, c2, s571, s572, s573, s57a, s57b, s57c, s57d, s57f⟩ := p57
  show mp_J Γ m_Ma_init E κ N57 [(0, .ref h), (1, .ref sh), (2, .ref ri)] 60 [.ref sm, .ref h] (0 + 1 + 3 + 1 + 2 + 2 + 1 + 3) (0 + 3 + 201 + 2 + 8 + 8 + 3 + 201)
  have hN57_so : N57 so = some (mp_o 4 [.ref ao, .ref n1, .int (nI 0)]) := (s57f so (mp_ne0 hM10_so hsm) (mp_ne0 hM11_so s571) (mp_ne0 hM11_so s572) (mp_ne0 hM11_so s573)).trans hM11_so
  have hN57_ao : N57 ao = some (mp_q E 200 (fun _ => some n1)) := (s57f ao (mp_ne0 hM10_ao hsm) (mp_ne0 hM11_ao s571) (mp_ne0 hM11_ao s572) (mp_ne0 hM11_ao s573)).trans hM11_ao
  have hN57_n1 : N57 n1 = some (mp_o 5 [.ref c1]) := (s57f n1 (mp_ne0 hM10_n1 hsm) (mp_ne0 hM11_n1 s571) (mp_ne0 hM11_n1 s572) (mp_ne0 hM11_n1 s573)).trans hM11_n1
  have hN57_c1 : N57 c1 = some (mp_b E 0 (fun _ => 0)) := (s57f c1 (mp_ne0 hM10_c1 hsm) (mp_ne0 hM11_c1 s571) (mp_ne0 hM11_c1 s572) (mp_ne0 hM11_c1 s573)).trans hM11_c1
  have hN57_br : N57 br = some (mp_o 0 [.int (nI 0), .int (-1)]) := (s57f br (mp_ne0 hM10_br hsm) (mp_ne0 hM11_br s571) (mp_ne0 hM11_br s572) (mp_ne0 hM11_br s573)).trans hM11_br
  have hN57_y : N57 y = some (mp_o 5 [.ref yb]) := (s57f y (mp_ne0 hM10_y hsm) (mp_ne0 hM11_y s571) (mp_ne0 hM11_y s572) (mp_ne0 hM11_y s573)).trans hM11_y
  have hN57_yb : N57 yb = some (mp_b E (bl 1) (gb (am_of 1))) := (s57f yb (mp_ne0 hM10_yb hsm) (mp_ne0 hM11_yb s571) (mp_ne0 hM11_yb s572) (mp_ne0 hM11_yb s573)).trans hM11_yb
  have hN57_nn : N57 nn = some (mp_o 5 [.ref nb]) := (s57f nn (mp_ne0 hM10_nn hsm) (mp_ne0 hM11_nn s571) (mp_ne0 hM11_nn s572) (mp_ne0 hM11_nn s573)).trans hM11_nn
  have hN57_nb : N57 nb = some (mp_b E (bl 0) (gb (am_of 0))) := (s57f nb (mp_ne0 hM10_nb hsm) (mp_ne0 hM11_nb s571) (mp_ne0 hM11_nb s572) (mp_ne0 hM11_nb s573)).trans hM11_nb
  have hN57_h : N57 h = some (mp_o 1 [.ref sh, .ref ri, .ref so, .ref br, .ref y, .ref nn, .null, .int 0]) := (s57f h (mp_ne0 hM10_h hsm) (mp_ne0 hM11_h s571) (mp_ne0 hM11_h s572) (mp_ne0 hM11_h s573)).trans hM11_h
  have F_am : M am = none := by
    cases hz : M am with
    | none => rfl
    | some e =>
      exfalso
      have z := hz
      have z0 : am ≠ h := Ne.symm (mp_ne0 hM11_h s571)
      have zam_1 := mp_kp eM1.symm z0 z
      have zam_2 := mp_kp eM2.symm z0 zam_1
      have zam_3 := mp_kp eM3.symm (mp_ne0 zam_2 hso) zam_2
      have zam_4 := (s19f am (mp_ne0 zam_2 hso) (mp_ne0 zam_3 s191) (mp_ne0 zam_3 s192) (mp_ne0 zam_3 s193)).trans zam_3
      have zam_5 := mp_kp eM4.symm z0 zam_4
      have zam_6 := mp_kp eM5.symm (mp_ne0 zam_5 hbr) zam_5
      have zam_7 := mp_kp q30 (mp_ne0 zam_5 hbr) zam_6
      have zam_8 := mp_kp eM6.symm z0 zam_7
      have zam_9 : N38 am = some e := by rw [o38e, mp_n (mp_ne0 zam_8 o381), mp_n (mp_ne0 zam_8 o382)]; exact zam_8
      have zam_10 := mp_kp eM7.symm (mp_ne0 zam_8 o382) zam_9
      have zam_11 := mp_kp eM8.symm z0 zam_10
      have zam_12 : N46 am = some e := by rw [o46e, mp_n (mp_ne0 zam_11 o461), mp_n (mp_ne0 zam_11 o462)]; exact zam_11
      have zam_13 := mp_kp eM9.symm (mp_ne0 zam_11 o462) zam_12
      have zam_14 := mp_kp eM10.symm z0 zam_13
      have zam_15 := mp_kp eM11.symm (mp_ne0 zam_14 hsm) zam_14
      rw [s571] at zam_15
      cases zam_15
  refine j_put F_Ma hN57_h 6 (by decide) w_169 (Or.inl rfl) rfl rfl rfl (Nat.le_of_ble_eq_true rfl) d_Ma_init_60 ?_
  show mp_J Γ m_Ma_init E κ (mp_up N57 h (mp_o 1 [.ref sh, .ref ri, .ref so, .ref br, .ref y, .ref nn, .ref sm, .int 0])) [(0, .ref h), (1, .ref sh), (2, .ref ri)] 63 [] (0 + 1 + 3 + 1 + 2 + 2 + 1 + 3) (0 + 3 + 201 + 2 + 8 + 8 + 3 + 201)
  generalize eM12 : mp_up N57 h (mp_o 1 [.ref sh, .ref ri, .ref so, .ref br, .ref y, .ref nn, .ref sm, .int 0]) = M12
  have hM12_so : M12 so = some (mp_o 4 [.ref ao, .ref n1, .int (nI 0)]) := by rw [← eM12, mp_n (Ne.symm (mp_ne0 hM2_h hso))]; exact hN57_so
  have hM12_ao : M12 ao = some (mp_q E 200 (fun _ => some n1)) := by rw [← eM12, mp_n (Ne.symm (mp_ne0 hM3_h s191))]; exact hN57_ao
  have hM12_n1 : M12 n1 = some (mp_o 5 [.ref c1]) := by rw [← eM12, mp_n (Ne.symm (mp_ne0 hM3_h s192))]; exact hN57_n1
  have hM12_c1 : M12 c1 = some (mp_b E 0 (fun _ => 0)) := by rw [← eM12, mp_n (Ne.symm (mp_ne0 hM3_h s193))]; exact hN57_c1
  have hM12_br : M12 br = some (mp_o 0 [.int (nI 0), .int (-1)]) := by rw [← eM12, mp_n (Ne.symm (mp_ne0 hM4_h hbr))]; exact hN57_br
  have hM12_y : M12 y = some (mp_o 5 [.ref yb]) := by rw [← eM12, mp_n (Ne.symm (mp_ne0 hM6_h o381))]; exact hN57_y
  have hM12_yb : M12 yb = some (mp_b E (bl 1) (gb (am_of 1))) := by rw [← eM12, mp_n (Ne.symm (mp_ne0 hM6_h o382))]; exact hN57_yb
  have hM12_nn : M12 nn = some (mp_o 5 [.ref nb]) := by rw [← eM12, mp_n (Ne.symm (mp_ne0 hM8_h o461))]; exact hN57_nn
  have hM12_nb : M12 nb = some (mp_b E (bl 0) (gb (am_of 0))) := by rw [← eM12, mp_n (Ne.symm (mp_ne0 hM8_h o462))]; exact hN57_nb
  have hM12_sm : M12 sm = some (mp_o 4 [.ref am, .ref n2, .int (nI 0)]) := by rw [← eM12, mp_n (Ne.symm (mp_ne0 hM10_h hsm))]; exact s57a
  have hM12_am : M12 am = some (mp_q E 200 (fun _ => some n2)) := by rw [← eM12, mp_n (Ne.symm (mp_ne0 hM11_h s571))]; exact s57b
  have hM12_n2 : M12 n2 = some (mp_o 5 [.ref c2]) := by rw [← eM12, mp_n (Ne.symm (mp_ne0 hM11_h s572))]; exact s57c
  have hM12_c2 : M12 c2 = some (mp_b E 0 (fun _ => 0)) := by rw [← eM12, mp_n (Ne.symm (mp_ne0 hM11_h s573))]; exact s57d
  have hM12_h : M12 h = some (mp_o 1 [.ref sh, .ref ri, .ref so, .ref br, .ref y, .ref nn, .ref sm, .int 0]) := by rw [← eM12]; exact mp_s
  refine j_aload_n d_Ma_init_63 rfl 0 rfl ?_
  refine j_iconst (v := nI 0) d_Ma_init_64 (by decide) ?_
  refine j_put F_Ma hM12_h 7 (by decide) w_170 (Or.inl rfl) rfl rfl rfl (Nat.le_of_ble_eq_true rfl) d_Ma_init_65 ?_
  show mp_J Γ m_Ma_init E κ (mp_up M12 h (mp_o 1 [.ref sh, .ref ri, .ref so, .ref br, .ref y, .ref nn, .ref sm, .int (nI 0)])) [(0, .ref h), (1, .ref sh), (2, .ref ri)] 68 [] (0 + 1 + 3 + 1 + 2 + 2 + 1 + 3) (0 + 3 + 201 + 2 + 8 + 8 + 3 + 201)
  generalize eM13 : mp_up M12 h (mp_o 1 [.ref sh, .ref ri, .ref so, .ref br, .ref y, .ref nn, .ref sm, .int (nI 0)]) = M13
  have hM13_so : M13 so = some (mp_o 4 [.ref ao, .ref n1, .int (nI 0)]) := by rw [← eM13, mp_n (Ne.symm (mp_ne0 hM2_h hso))]; exact hM12_so
  have hM13_ao : M13 ao = some (mp_q E 200 (fun _ => some n1)) := by rw [← eM13, mp_n (Ne.symm (mp_ne0 hM3_h s191))]; exact hM12_ao
  have hM13_n1 : M13 n1 = some (mp_o 5 [.ref c1]) := by rw [← eM13, mp_n (Ne.symm (mp_ne0 hM3_h s192))]; exact hM12_n1
  have hM13_c1 : M13 c1 = some (mp_b E 0 (fun _ => 0)) := by rw [← eM13, mp_n (Ne.symm (mp_ne0 hM3_h s193))]; exact hM12_c1
  have hM13_br : M13 br = some (mp_o 0 [.int (nI 0), .int (-1)]) := by rw [← eM13, mp_n (Ne.symm (mp_ne0 hM4_h hbr))]; exact hM12_br
  have hM13_y : M13 y = some (mp_o 5 [.ref yb]) := by rw [← eM13, mp_n (Ne.symm (mp_ne0 hM6_h o381))]; exact hM12_y
  have hM13_yb : M13 yb = some (mp_b E (bl 1) (gb (am_of 1))) := by rw [← eM13, mp_n (Ne.symm (mp_ne0 hM6_h o382))]; exact hM12_yb
  have hM13_nn : M13 nn = some (mp_o 5 [.ref nb]) := by rw [← eM13, mp_n (Ne.symm (mp_ne0 hM8_h o461))]; exact hM12_nn
  have hM13_nb : M13 nb = some (mp_b E (bl 0) (gb (am_of 0))) := by rw [← eM13, mp_n (Ne.symm (mp_ne0 hM8_h o462))]; exact hM12_nb
  have hM13_sm : M13 sm = some (mp_o 4 [.ref am, .ref n2, .int (nI 0)]) := by rw [← eM13, mp_n (Ne.symm (mp_ne0 hM10_h hsm))]; exact hM12_sm
  have hM13_am : M13 am = some (mp_q E 200 (fun _ => some n2)) := by rw [← eM13, mp_n (Ne.symm (mp_ne0 hM11_h s571))]; exact hM12_am
  have hM13_n2 : M13 n2 = some (mp_o 5 [.ref c2]) := by rw [← eM13, mp_n (Ne.symm (mp_ne0 hM11_h s572))]; exact hM12_n2
  have hM13_c2 : M13 c2 = some (mp_b E 0 (fun _ => 0)) := by rw [← eM13, mp_n (Ne.symm (mp_ne0 hM11_h s573))]; exact hM12_c2
  have hM13_h : M13 h = some (mp_o 1 [.ref sh, .ref ri, .ref so, .ref br, .ref y, .ref nn, .ref sm, .int (nI 0)]) := by rw [← eM13]; exact mp_s
  exact j_vret hκ rfl (by omega) (by omega) d_Ma_init_68 ⟨rfl, so, ao, n1, c1, br, y, yb, nn, nb, sm, am, n2, c2, ⟨F_so, F_ao, F_br, F_sm, F_am⟩, hM13_h, hM13_so, hM13_ao, hM13_n1, hM13_c1, hM13_br, hM13_y, hM13_yb, hM13_nn, hM13_nb, hM13_sm, hM13_am, hM13_n2, hM13_c2, (mp_ne0 hM10_so hsm), (mp_ne0 hM11_ao s571), fun a e z z0 => by
    have z_1 := mp_kp eM1.symm z0 z
    have z_2 := mp_kp eM2.symm z0 z_1
    have z_3 := mp_kp eM3.symm (mp_ne0 z_2 hso) z_2
    have z_4 := (s19f a (mp_ne0 z_2 hso) (mp_ne0 z_3 s191) (mp_ne0 z_3 s192) (mp_ne0 z_3 s193)).trans z_3
    have z_5 := mp_kp eM4.symm z0 z_4
    have z_6 := mp_kp eM5.symm (mp_ne0 z_5 hbr) z_5
    have z_7 := mp_kp q30 (mp_ne0 z_5 hbr) z_6
    have z_8 := mp_kp eM6.symm z0 z_7
    have z_9 : N38 a = some e := by rw [o38e, mp_n (mp_ne0 z_8 o381), mp_n (mp_ne0 z_8 o382)]; exact z_8
    have z_10 := mp_kp eM7.symm (mp_ne0 z_8 o382) z_9
    have z_11 := mp_kp eM8.symm z0 z_10
    have z_12 : N46 a = some e := by rw [o46e, mp_n (mp_ne0 z_11 o461), mp_n (mp_ne0 z_11 o462)]; exact z_11
    have z_13 := mp_kp eM9.symm (mp_ne0 z_11 o462) z_12
    have z_14 := mp_kp eM10.symm z0 z_13
    have z_15 := mp_kp eM11.symm (mp_ne0 z_14 hsm) z_14
    have z_16 := (s57f a (mp_ne0 z_14 hsm) (mp_ne0 z_15 s571) (mp_ne0 z_15 s572) (mp_ne0 z_15 s573)).trans z_15
    have z_17 := mp_kp eM12.symm z0 z_16
    have z_18 := mp_kp eM13.symm z0 z_17
    exact z_18⟩
