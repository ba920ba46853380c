theorem mp_nsz {c c' : ClassId} {n m : Nat} {f g : Nat → Int32} (h : n ≠ m) : (.inl (c, n, .inl f) : va_E) ≠ .inl (c', m, .inl g) := fun e => h (by injection e with e; injection e with _ e; injection e)
def am_L (l : List Nat) : Nat → Nat := fun i => l.getD i 0
def am_X (l : List Nat) : Nat → Prop := fun a => ∃ i, i < 17 ∧ a = am_L l i
theorem am_Lm {l : List Nat} (hl : l.length = 17) {i : Nat} (hi : i < 17) : am_L l i ∈ l := by
  unfold am_L
  rw [List.getD_eq_getElem?_getD, List.getElem?_eq_getElem (by omega)]
  exact List.getElem_mem _
theorem am_LY {l : List Nat} (hl : l.length = 17) (hnd : l.Nodup) : LY (am_X l) (am_L l) := by
  refine ⟨fun a => Iff.rfl, fun i j hi hj e => ?_⟩
  unfold am_L at e
  rw [List.getD_eq_getElem?_getD, List.getD_eq_getElem?_getD, List.getElem?_eq_getElem (by omega), List.getElem?_eq_getElem (by omega)] at e
  have hp := List.pairwise_iff_getElem.mp hnd
  rcases Nat.lt_trichotomy i j with h | h | h
  · exact absurd (Option.some.inj (congrArg some e)) (hp i j (by omega) (by omega) h)
  · exact h
  · exact absurd (Option.some.inj (congrArg some e)).symm (hp j i (by omega) (by omega) h)
theorem am_nX {l : List Nat} (hl : l.length = 17) {t : Nat} (h : ¬ t ∈ l) : ¬ am_X l t := fun ⟨i, hi, e⟩ => h (e ▸ am_Lm hl hi)
theorem am_of1 : (am_of 1).length = bl 1 := by unfold am_of; rw [gl_len, show am_mag 1 = 1 by decide]
theorem am_of0 : (am_of 0).length = bl 0 := by unfold am_of; rw [gl_len, show am_mag 0 = 0 by decide]
set_option maxHeartbeats 4000000 in
set_option maxRecDepth 100000 in
theorem c_De_init (l : Launch) (E : mp_E) (M : mp_M) (h : Nat) (h0 : M h = some (mp_o 6 [.null, .int 0, .null, .null, .null, .null])) : mp_Cr l m_De_init E M 6 29 1800 [.ref h] (fun v N => v = none ∧ ∃ (X : Nat → Prop) (L : Nat → Nat) (y n ro : Nat), LY X L ∧ IV E X N L y n [] [] [] [] 0 ∧ N h = some (mp_o 6 [.ref ro, .int (nI 0), .ref (L 1), .ref (L 5), .ref (L 0), .ref (L 15)]) ∧ N ro = some (mp_b E 1000 (fun _ => 0)) ∧ ¬ X h ∧ ¬ X ro ∧ M ro = none ∧ (∀ a, X a → M a = none) ∧ ∀ a e, M a = some e → a ≠ h → N a = some e) := by
  refine mp_Cr.of (by decide) (Nat.le_of_ble_eq_true rfl) fun Γ κ hl hκ => ?_
  subst hl
  obtain ⟨hκd, hκc, hκs, -⟩ := id hκ
  show mp_J Γ m_De_init E κ M [(0, .ref h)] 0 [] 0 0
  refine j_aload_n d_De_init_0 rfl 0 rfl ?_
  refine j_objInit w_35 w_36 w_37 (Nat.le_of_ble_eq_true rfl) (by omega) d_De_init_1 ?_
  refine j_aload_n d_De_init_4 rfl 0 rfl ?_
  refine j_sipush (v := nI 1000) d_De_init_5 (by decide) ?_
  refine j_newb w_76 (by omega) (by omega) (by omega) d_De_init_8 (fun ro hro => ?_)
  generalize eM1 : mp_up M ro (mp_b E 1000 (fun _ => 0)) = M1
  have hM1_h : M1 h = some (mp_o 6 [.null, .int 0, .null, .null, .null, .null]) := by rw [← eM1, mp_n (mp_ne0 h0 hro)]; exact h0
  have hM1_ro : M1 ro = some (mp_b E 1000 (fun _ => 0)) := by rw [← eM1]; exact mp_s
  have F_ro : M ro = none := by
    cases hz : M ro with
    | none => rfl
    | some e =>
      exfalso
      have z := hz
      have z0 : ro ≠ h := Ne.symm (mp_ne0 h0 hro)
      skip
      rw [hro] at z
      cases z
  refine j_putF F_De hM1_h 0 (by decide) w_190 (Or.inl rfl) rfl rfl rfl rfl rfl (Nat.le_of_ble_eq_true rfl) d_De_init_10 ?_
  show mp_J Γ m_De_init E κ (mp_up M1 h (mp_o 6 [.ref ro, .int 0, .null, .null, .null, .null])) [(0, .ref h)] 13 [] (0 + 1) (0 + 1000)
  generalize eM2 : mp_up M1 h (mp_o 6 [.ref ro, .int 0, .null, .null, .null, .null]) = M2
  have hM2_ro : M2 ro = some (mp_b E 1000 (fun _ => 0)) := by rw [← eM2, mp_n (Ne.symm (mp_ne0 h0 hro))]; exact hM1_ro
  have hM2_h : M2 h = some (mp_o 6 [.ref ro, .int 0, .null, .null, .null, .null]) := by rw [← eM2]; exact mp_s
  refine j_aload_n d_De_init_13 rfl 0 rfl ?_
  refine j_iconst (v := nI 0) d_De_init_14 (by decide) ?_
  refine j_put F_De hM2_h 1 (by decide) w_191 (Or.inl rfl) rfl rfl rfl (Nat.le_of_ble_eq_true rfl) d_De_init_15 ?_
  show mp_J Γ m_De_init E κ (mp_up M2 h (mp_o 6 [.ref ro, .int (nI 0), .null, .null, .null, .null])) [(0, .ref h)] 18 [] (0 + 1) (0 + 1000)
  generalize eM3 : mp_up M2 h (mp_o 6 [.ref ro, .int (nI 0), .null, .null, .null, .null]) = M3
  have hM3_ro : M3 ro = some (mp_b E 1000 (fun _ => 0)) := by rw [← eM3, mp_n (Ne.symm (mp_ne0 h0 hro))]; exact hM2_ro
  have hM3_h : M3 h = some (mp_o 6 [.ref ro, .int (nI 0), .null, .null, .null, .null]) := by rw [← eM3]; exact mp_s
  refine j_aload_n d_De_init_18 rfl 0 rfl ?_
  refine j_new [.null, .null, .null, .null, .int 0] F_Sh w_38 w_39 w_3 (fun j hj => by rcases (show j = 0 ∨ j = 1 ∨ j = 2 ∨ j = 3 ∨ j = 4 by omega) with rfl | rfl | rfl | rfl | rfl <;> rfl) (by omega) (by omega) d_De_init_19 (fun sh hsh => ?_)
  generalize eM4 : mp_up M3 sh (mp_o 3 [.null, .null, .null, .null, .int 0]) = M4
  have hM4_ro : M4 ro = some (mp_b E 1000 (fun _ => 0)) := by rw [← eM4, mp_n (mp_ne0 hM3_ro hsh)]; exact hM3_ro
  have hM4_h : M4 h = some (mp_o 6 [.ref ro, .int (nI 0), .null, .null, .null, .null]) := by rw [← eM4, mp_n (mp_ne0 hM3_h hsh)]; exact hM3_h
  have hM4_sh : M4 sh = some (mp_o 3 [.null, .null, .null, .null, .int 0]) := by rw [← eM4]; exact mp_s
  have F_sh : M sh = none := by
    cases hz : M sh with
    | none => rfl
    | some e =>
      exfalso
      have z := hz
      have z0 : sh ≠ h := Ne.symm (mp_ne0 hM3_h hsh)
      have zsh_1 := mp_kp eM1.symm (mp_ne0 z hro) z
      have zsh_2 := mp_kp eM2.symm z0 zsh_1
      have zsh_3 := mp_kp eM3.symm z0 zsh_2
      rw [hsh] at zsh_3
      cases zsh_3
  refine j_dup d_De_init_22 rfl ?_
  refine j_callI (As := []) (rest := [.ref sh, .ref h]) (c_Sh_init Γ.l E M4 sh hM4_sh) Y_Sh_init rfl rfl w_40 w_41 rfl rfl (Nat.le_of_ble_eq_true rfl) (by omega) (by omega) (by omega) d_De_init_23 (fun v23 N23 p23 => ?_)
  obtain ⟨rfl, s8, w8, tu, x23f0, x23f1, x23f2, x23n01, x23n02, x23n12, x23h, x23v0, x23v1, x23v2, x23r⟩ := p23
  show mp_J Γ m_De_init E κ N23 [(0, .ref h)] 26 [.ref sh, .ref h] (0 + 1 + 1 + 3) (0 + 1000 + 5 + 80)
  have hN23_ro : N23 ro = some (mp_b E 1000 (fun _ => 0)) := (x23r ro (mp_ne0 hM3_ro hsh) (mp_ne0 hM4_ro x23f0) (mp_ne0 hM4_ro x23f1) (mp_ne0 hM4_ro x23f2)).trans hM4_ro
  have hN23_h : N23 h = some (mp_o 6 [.ref ro, .int (nI 0), .null, .null, .null, .null]) := (x23r h (mp_ne0 hM3_h hsh) (mp_ne0 hM4_h x23f0) (mp_ne0 hM4_h x23f1) (mp_ne0 hM4_h x23f2)).trans hM4_h
  have F_s8 : M s8 = none := by
    cases hz : M s8 with
    | none => rfl
    | some e =>
      exfalso
      have z := hz
      have z0 : s8 ≠ h := Ne.symm (mp_ne0 hM4_h x23f0)
      have zs8_1 := mp_kp eM1.symm (mp_ne0 z hro) z
      have zs8_2 := mp_kp eM2.symm z0 zs8_1
      have zs8_3 := mp_kp eM3.symm z0 zs8_2
      have zs8_4 := mp_kp eM4.symm (mp_ne0 zs8_3 hsh) zs8_3
      rw [x23f0] at zs8_4
      cases zs8_4
  have F_w8 : M w8 = none := by
    cases hz : M w8 with
    | none => rfl
    | some e =>
      exfalso
      have z := hz
      have z0 : w8 ≠ h := Ne.symm (mp_ne0 hM4_h x23f1)
      have zw8_1 := mp_kp eM1.symm (mp_ne0 z hro) z
      have zw8_2 := mp_kp eM2.symm z0 zw8_1
      have zw8_3 := mp_kp eM3.symm z0 zw8_2
      have zw8_4 := mp_kp eM4.symm (mp_ne0 zw8_3 hsh) zw8_3
      rw [x23f1] at zw8_4
      cases zw8_4
  have F_tu : M tu = none := by
    cases hz : M tu with
    | none => rfl
    | some e =>
      exfalso
      have z := hz
      have z0 : tu ≠ h := Ne.symm (mp_ne0 hM4_h x23f2)
      have ztu_1 := mp_kp eM1.symm (mp_ne0 z hro) z
      have ztu_2 := mp_kp eM2.symm z0 ztu_1
      have ztu_3 := mp_kp eM3.symm z0 ztu_2
      have ztu_4 := mp_kp eM4.symm (mp_ne0 ztu_3 hsh) ztu_3
      rw [x23f2] at ztu_4
      cases ztu_4
  refine j_putF F_De hN23_h 2 (by decide) w_192 (Or.inl rfl) rfl rfl rfl rfl rfl (Nat.le_of_ble_eq_true rfl) d_De_init_26 ?_
  show mp_J Γ m_De_init E κ (mp_up N23 h (mp_o 6 [.ref ro, .int (nI 0), .ref sh, .null, .null, .null])) [(0, .ref h)] 29 [] (0 + 1 + 1 + 3) (0 + 1000 + 5 + 80)
  generalize eM5 : mp_up N23 h (mp_o 6 [.ref ro, .int (nI 0), .ref sh, .null, .null, .null]) = M5
  have hM5_ro : M5 ro = some (mp_b E 1000 (fun _ => 0)) := by rw [← eM5, mp_n (Ne.symm (mp_ne0 h0 hro))]; exact hN23_ro
  have hM5_sh : M5 sh = some (mp_o 3 [.ref tu, .ref s8, .ref w8, .ref (E.2.2.2 8), .int (tf true)]) := by rw [← eM5, mp_n (Ne.symm (mp_ne0 hM3_h hsh))]; exact x23h
  have hM5_s8 : M5 s8 = some (mp_i E 8 (fun _ => 0)) := by rw [← eM5, mp_n (Ne.symm (mp_ne0 hM4_h x23f0))]; exact x23v0
  have hM5_w8 : M5 w8 = some (mp_i E 64 (fun _ => 0)) := by rw [← eM5, mp_n (Ne.symm (mp_ne0 hM4_h x23f1))]; exact x23v1
  have hM5_tu : M5 tu = some (mp_i E 8 (fun _ => 0)) := by rw [← eM5, mp_n (Ne.symm (mp_ne0 hM4_h x23f2))]; exact x23v2
  have hM5_h : M5 h = some (mp_o 6 [.ref ro, .int (nI 0), .ref sh, .null, .null, .null]) := by rw [← eM5]; exact mp_s
  refine j_aload_n d_De_init_29 rfl 0 rfl ?_
  refine j_new [.null, .null, .null, .null, .null, .int 0] F_Ri w_78 w_79 w_5 (fun j hj => by rcases (show j = 0 ∨ j = 1 ∨ j = 2 ∨ j = 3 ∨ j = 4 ∨ j = 5 by omega) with rfl | rfl | rfl | rfl | rfl | rfl <;> rfl) (by omega) (by omega) d_De_init_30 (fun ri hri => ?_)
  generalize eM6 : mp_up M5 ri (mp_o 2 [.null, .null, .null, .null, .null, .int 0]) = M6
  have hM6_ro : M6 ro = some (mp_b E 1000 (fun _ => 0)) := by rw [← eM6, mp_n (mp_ne0 hM5_ro hri)]; exact hM5_ro
  have hM6_sh : M6 sh = some (mp_o 3 [.ref tu, .ref s8, .ref w8, .ref (E.2.2.2 8), .int (tf true)]) := by rw [← eM6, mp_n (mp_ne0 hM5_sh hri)]; exact hM5_sh
  have hM6_s8 : M6 s8 = some (mp_i E 8 (fun _ => 0)) := by rw [← eM6, mp_n (mp_ne0 hM5_s8 hri)]; exact hM5_s8
  have hM6_w8 : M6 w8 = some (mp_i E 64 (fun _ => 0)) := by rw [← eM6, mp_n (mp_ne0 hM5_w8 hri)]; exact hM5_w8
  have hM6_tu : M6 tu = some (mp_i E 8 (fun _ => 0)) := by rw [← eM6, mp_n (mp_ne0 hM5_tu hri)]; exact hM5_tu
  have hM6_h : M6 h = some (mp_o 6 [.ref ro, .int (nI 0), .ref sh, .null, .null, .null]) := by rw [← eM6, mp_n (mp_ne0 hM5_h hri)]; exact hM5_h
  have hM6_ri : M6 ri = some (mp_o 2 [.null, .null, .null, .null, .null, .int 0]) := by rw [← eM6]; exact mp_s
  have F_ri : M ri = none := by
    cases hz : M ri with
    | none => rfl
    | some e =>
      exfalso
      have z := hz
      have z0 : ri ≠ h := Ne.symm (mp_ne0 hM5_h hri)
      have zri_1 := mp_kp eM1.symm (mp_ne0 z hro) z
      have zri_2 := mp_kp eM2.symm z0 zri_1
      have zri_3 := mp_kp eM3.symm z0 zri_2
      have zri_4 := mp_kp eM4.symm (mp_ne0 zri_3 hsh) zri_3
      have zri_5 := (x23r ri (mp_ne0 zri_3 hsh) (mp_ne0 zri_4 x23f0) (mp_ne0 zri_4 x23f1) (mp_ne0 zri_4 x23f2)).trans zri_4
      have zri_6 := mp_kp eM5.symm z0 zri_5
      rw [hri] at zri_6
      cases zri_6
  refine j_dup d_De_init_33 rfl ?_
  refine j_callI (As := []) (rest := [.ref ri, .ref h]) (c_Ri_init Γ.l E M6 ri hM6_ri) Y_Ri_init rfl rfl w_80 w_81 rfl rfl (Nat.le_of_ble_eq_true rfl) (by omega) (by omega) (by omega) d_De_init_34 (fun v34 N34 p34 => ?_)
  obtain ⟨rfl, s5, w5, lf, rt, x34f0, x34f1, x34f2, x34f3, x34n01, x34n02, x34n03, x34n12, x34n13, x34n23, x34h, x34v0, x34v1, x34v2, x34v3, x34r⟩ := p34
  show mp_J Γ m_De_init E κ N34 [(0, .ref h)] 37 [.ref ri, .ref h] (0 + 1 + 1 + 3 + 1 + 4) (0 + 1000 + 5 + 80 + 6 + 31)
  have hN34_ro : N34 ro = some (mp_b E 1000 (fun _ => 0)) := (x34r ro (mp_ne0 hM5_ro hri) (mp_ne0 hM6_ro x34f0) (mp_ne0 hM6_ro x34f1) (mp_ne0 hM6_ro x34f2) (mp_ne0 hM6_ro x34f3)).trans hM6_ro
  have hN34_sh : N34 sh = some (mp_o 3 [.ref tu, .ref s8, .ref w8, .ref (E.2.2.2 8), .int (tf true)]) := (x34r sh (mp_ne0 hM5_sh hri) (mp_ne0 hM6_sh x34f0) (mp_ne0 hM6_sh x34f1) (mp_ne0 hM6_sh x34f2) (mp_ne0 hM6_sh x34f3)).trans hM6_sh
  have hN34_s8 : N34 s8 = some (mp_i E 8 (fun _ => 0)) := (x34r s8 (mp_ne0 hM5_s8 hri) (mp_ne0 hM6_s8 x34f0) (mp_ne0 hM6_s8 x34f1) (mp_ne0 hM6_s8 x34f2) (mp_ne0 hM6_s8 x34f3)).trans hM6_s8
  have hN34_w8 : N34 w8 = some (mp_i E 64 (fun _ => 0)) := (x34r w8 (mp_ne0 hM5_w8 hri) (mp_ne0 hM6_w8 x34f0) (mp_ne0 hM6_w8 x34f1) (mp_ne0 hM6_w8 x34f2) (mp_ne0 hM6_w8 x34f3)).trans hM6_w8
  have hN34_tu : N34 tu = some (mp_i E 8 (fun _ => 0)) := (x34r tu (mp_ne0 hM5_tu hri) (mp_ne0 hM6_tu x34f0) (mp_ne0 hM6_tu x34f1) (mp_ne0 hM6_tu x34f2) (mp_ne0 hM6_tu x34f3)).trans hM6_tu
  have hN34_h : N34 h = some (mp_o 6 [.ref ro, .int (nI 0), .ref sh, .null, .null, .null]) := (x34r h (mp_ne0 hM5_h hri) (mp_ne0 hM6_h x34f0) (mp_ne0 hM6_h x34f1) (mp_ne0 hM6_h x34f2) (mp_ne0 hM6_h x34f3)).trans hM6_h
  have F_s5 : M s5 = none := by
    cases hz : M s5 with
    | none => rfl
    | some e =>
      exfalso
      have z := hz
      have z0 : s5 ≠ h := Ne.symm (mp_ne0 hM6_h x34f0)
      have zs5_1 := mp_kp eM1.symm (mp_ne0 z hro) z
      have zs5_2 := mp_kp eM2.symm z0 zs5_1
      have zs5_3 := mp_kp eM3.symm z0 zs5_2
      have zs5_4 := mp_kp eM4.symm (mp_ne0 zs5_3 hsh) zs5_3
      have zs5_5 := (x23r s5 (mp_ne0 zs5_3 hsh) (mp_ne0 zs5_4 x23f0) (mp_ne0 zs5_4 x23f1) (mp_ne0 zs5_4 x23f2)).trans zs5_4
      have zs5_6 := mp_kp eM5.symm z0 zs5_5
      have zs5_7 := mp_kp eM6.symm (mp_ne0 zs5_6 hri) zs5_6
      rw [x34f0] at zs5_7
      cases zs5_7
  have F_w5 : M w5 = none := by
    cases hz : M w5 with
    | none => rfl
    | some e =>
      exfalso
      have z := hz
      have z0 : w5 ≠ h := Ne.symm (mp_ne0 hM6_h x34f1)
      have zw5_1 := mp_kp eM1.symm (mp_ne0 z hro) z
      have zw5_2 := mp_kp eM2.symm z0 zw5_1
      have zw5_3 := mp_kp eM3.symm z0 zw5_2
      have zw5_4 := mp_kp eM4.symm (mp_ne0 zw5_3 hsh) zw5_3
      have zw5_5 := (x23r w5 (mp_ne0 zw5_3 hsh) (mp_ne0 zw5_4 x23f0) (mp_ne0 zw5_4 x23f1) (mp_ne0 zw5_4 x23f2)).trans zw5_4
      have zw5_6 := mp_kp eM5.symm z0 zw5_5
      have zw5_7 := mp_kp eM6.symm (mp_ne0 zw5_6 hri) zw5_6
      rw [x34f1] at zw5_7
      cases zw5_7
  have F_lf : M lf = none := by
    cases hz : M lf with
    | none => rfl
    | some e =>
      exfalso
      have z := hz
      have z0 : lf ≠ h := Ne.symm (mp_ne0 hM6_h x34f2)
      have zlf_1 := mp_kp eM1.symm (mp_ne0 z hro) z
      have zlf_2 := mp_kp eM2.symm z0 zlf_1
      have zlf_3 := mp_kp eM3.symm z0 zlf_2
      have zlf_4 := mp_kp eM4.symm (mp_ne0 zlf_3 hsh) zlf_3
      have zlf_5 := (x23r lf (mp_ne0 zlf_3 hsh) (mp_ne0 zlf_4 x23f0) (mp_ne0 zlf_4 x23f1) (mp_ne0 zlf_4 x23f2)).trans zlf_4
      have zlf_6 := mp_kp eM5.symm z0 zlf_5
      have zlf_7 := mp_kp eM6.symm (mp_ne0 zlf_6 hri) zlf_6
      rw [x34f2] at zlf_7
      cases zlf_7
  have F_rt : M rt = none := by
    cases hz : M rt with
    | none => rfl
    | some e =>
      exfalso
      have z := hz
      have z0 : rt ≠ h := Ne.symm (mp_ne0 hM6_h x34f3)
      have zrt_1 := mp_kp eM1.symm (mp_ne0 z hro) z
      have zrt_2 := mp_kp eM2.symm z0 zrt_1
      have zrt_3 := mp_kp eM3.symm z0 zrt_2
      have zrt_4 := mp_kp eM4.symm (mp_ne0 zrt_3 hsh) zrt_3
      have zrt_5 := (x23r rt (mp_ne0 zrt_3 hsh) (mp_ne0 zrt_4 x23f0) (mp_ne0 zrt_4 x23f1) (mp_ne0 zrt_4 x23f2)).trans zrt_4
      have zrt_6 := mp_kp eM5.symm z0 zrt_5
      have zrt_7 := mp_kp eM6.symm (mp_ne0 zrt_6 hri) zrt_6
      rw [x34f3] at zrt_7
      cases zrt_7
  refine j_putF F_De hN34_h 3 (by decide) w_193 (Or.inl rfl) rfl rfl rfl rfl rfl (Nat.le_of_ble_eq_true rfl) d_De_init_37 ?_
  show mp_J Γ m_De_init E κ (mp_up N34 h (mp_o 6 [.ref ro, .int (nI 0), .ref sh, .ref ri, .null, .null])) [(0, .ref h)] 40 [] (0 + 1 + 1 + 3 + 1 + 4) (0 + 1000 + 5 + 80 + 6 + 31)
  generalize eM7 : mp_up N34 h (mp_o 6 [.ref ro, .int (nI 0), .ref sh, .ref ri, .null, .null]) = M7
  have hM7_ro : M7 ro = some (mp_b E 1000 (fun _ => 0)) := by rw [← eM7, mp_n (Ne.symm (mp_ne0 h0 hro))]; exact hN34_ro
  have hM7_sh : M7 sh = some (mp_o 3 [.ref tu, .ref s8, .ref w8, .ref (E.2.2.2 8), .int (tf true)]) := by rw [← eM7, mp_n (Ne.symm (mp_ne0 hM3_h hsh))]; exact hN34_sh
  have hM7_s8 : M7 s8 = some (mp_i E 8 (fun _ => 0)) := by rw [← eM7, mp_n (Ne.symm (mp_ne0 hM4_h x23f0))]; exact hN34_s8
  have hM7_w8 : M7 w8 = some (mp_i E 64 (fun _ => 0)) := by rw [← eM7, mp_n (Ne.symm (mp_ne0 hM4_h x23f1))]; exact hN34_w8
  have hM7_tu : M7 tu = some (mp_i E 8 (fun _ => 0)) := by rw [← eM7, mp_n (Ne.symm (mp_ne0 hM4_h x23f2))]; exact hN34_tu
  have hM7_ri : M7 ri = some (mp_o 2 [.ref lf, .ref rt, .ref s5, .ref w5, .ref (E.2.2.2 6), .int (tf false)]) := by rw [← eM7, mp_n (Ne.symm (mp_ne0 hM5_h hri))]; exact x34h
  have hM7_s5 : M7 s5 = some (mp_i E 5 (fun _ => 0)) := by rw [← eM7, mp_n (Ne.symm (mp_ne0 hM6_h x34f0))]; exact x34v0
  have hM7_w5 : M7 w5 = some (mp_i E 16 (fun _ => 0)) := by rw [← eM7, mp_n (Ne.symm (mp_ne0 hM6_h x34f1))]; exact x34v1
  have hM7_lf : M7 lf = some (mp_i E 5 (fun _ => 0)) := by rw [← eM7, mp_n (Ne.symm (mp_ne0 hM6_h x34f2))]; exact x34v2
  have hM7_rt : M7 rt = some (mp_i E 5 (fun _ => 0)) := by rw [← eM7, mp_n (Ne.symm (mp_ne0 hM6_h x34f3))]; exact x34v3
  have hM7_h : M7 h = some (mp_o 6 [.ref ro, .int (nI 0), .ref sh, .ref ri, .null, .null]) := by rw [← eM7]; exact mp_s
  refine j_aload_n d_De_init_40 rfl 0 rfl ?_
  refine j_new [.null, .null, .null, .null, .null, .null, .null, .int 0] F_Ma w_97 w_98 w_6 (fun j hj => by rcases (show j = 0 ∨ j = 1 ∨ j = 2 ∨ j = 3 ∨ j = 4 ∨ j = 5 ∨ j = 6 ∨ j = 7 by omega) with rfl | rfl | rfl | rfl | rfl | rfl | rfl | rfl <;> rfl) (by omega) (by omega) d_De_init_41 (fun ma hma => ?_)
  generalize eM8 : mp_up M7 ma (mp_o 1 [.null, .null, .null, .null, .null, .null, .null, .int 0]) = M8
  have hM8_ro : M8 ro = some (mp_b E 1000 (fun _ => 0)) := by rw [← eM8, mp_n (mp_ne0 hM7_ro hma)]; exact hM7_ro
  have hM8_sh : M8 sh = some (mp_o 3 [.ref tu, .ref s8, .ref w8, .ref (E.2.2.2 8), .int (tf true)]) := by rw [← eM8, mp_n (mp_ne0 hM7_sh hma)]; exact hM7_sh
  have hM8_s8 : M8 s8 = some (mp_i E 8 (fun _ => 0)) := by rw [← eM8, mp_n (mp_ne0 hM7_s8 hma)]; exact hM7_s8
  have hM8_w8 : M8 w8 = some (mp_i E 64 (fun _ => 0)) := by rw [← eM8, mp_n (mp_ne0 hM7_w8 hma)]; exact hM7_w8
  have hM8_tu : M8 tu = some (mp_i E 8 (fun _ => 0)) := by rw [← eM8, mp_n (mp_ne0 hM7_tu hma)]; exact hM7_tu
  have hM8_ri : M8 ri = some (mp_o 2 [.ref lf, .ref rt, .ref s5, .ref w5, .ref (E.2.2.2 6), .int (tf false)]) := by rw [← eM8, mp_n (mp_ne0 hM7_ri hma)]; exact hM7_ri
  have hM8_s5 : M8 s5 = some (mp_i E 5 (fun _ => 0)) := by rw [← eM8, mp_n (mp_ne0 hM7_s5 hma)]; exact hM7_s5
  have hM8_w5 : M8 w5 = some (mp_i E 16 (fun _ => 0)) := by rw [← eM8, mp_n (mp_ne0 hM7_w5 hma)]; exact hM7_w5
  have hM8_lf : M8 lf = some (mp_i E 5 (fun _ => 0)) := by rw [← eM8, mp_n (mp_ne0 hM7_lf hma)]; exact hM7_lf
  have hM8_rt : M8 rt = some (mp_i E 5 (fun _ => 0)) := by rw [← eM8, mp_n (mp_ne0 hM7_rt hma)]; exact hM7_rt
  have hM8_h : M8 h = some (mp_o 6 [.ref ro, .int (nI 0), .ref sh, .ref ri, .null, .null]) := by rw [← eM8, mp_n (mp_ne0 hM7_h hma)]; exact hM7_h
  have hM8_ma : M8 ma = some (mp_o 1 [.null, .null, .null, .null, .null, .null, .null, .int 0]) := by rw [← eM8]; exact mp_s
  have F_ma : M ma = none := by
    cases hz : M ma with
    | none => rfl
    | some e =>
      exfalso
      have z := hz
      have z0 : ma ≠ h := Ne.symm (mp_ne0 hM7_h hma)
      have zma_1 := mp_kp eM1.symm (mp_ne0 z hro) z
      have zma_2 := mp_kp eM2.symm z0 zma_1
      have zma_3 := mp_kp eM3.symm z0 zma_2
      have zma_4 := mp_kp eM4.symm (mp_ne0 zma_3 hsh) zma_3
      have zma_5 := (x23r ma (mp_ne0 zma_3 hsh) (mp_ne0 zma_4 x23f0) (mp_ne0 zma_4 x23f1) (mp_ne0 zma_4 x23f2)).trans zma_4
      have zma_6 := mp_kp eM5.symm z0 zma_5
      have zma_7 := mp_kp eM6.symm (mp_ne0 zma_6 hri) zma_6
      have zma_8 := (x34r ma (mp_ne0 zma_6 hri) (mp_ne0 zma_7 x34f0) (mp_ne0 zma_7 x34f1) (mp_ne0 zma_7 x34f2) (mp_ne0 zma_7 x34f3)).trans zma_7
      have zma_9 := mp_kp eM7.symm z0 zma_8
      rw [hma] at zma_9
      cases zma_9
  refine j_dup d_De_init_44 rfl ?_
  refine j_aload_n d_De_init_45 rfl 0 rfl ?_
  refine j_get F_De hM8_h 2 (by decide) w_192 (Or.inl rfl) rfl d_De_init_46 ?_
  refine j_aload_n d_De_init_49 rfl 0 rfl ?_
  refine j_get F_De hM8_h 3 (by decide) w_193 (Or.inl rfl) rfl d_De_init_50 ?_
  refine j_callI (As := [.ref sh, .ref ri]) (rest := [.ref ma, .ref h]) (c_Ma_init Γ.l E M8 ma sh ri hM8_ma) Y_Ma_init rfl rfl w_99 w_100 rfl rfl (Nat.le_of_ble_eq_true rfl) (by omega) (by omega) (by omega) d_De_init_53 (fun v53 N53 p53 => ?_)
  obtain ⟨rfl, so, ao, n1, c1, br, y, yb, nn, nb, sm, am, n2, c2, ⟨w_so, w_ao, w_br, w_sm, w_am⟩, m_h, m_so, m_ao, m_n1, m_c1, m_br, m_y, m_yb, m_nn, m_nb, m_sm, m_am, m_n2, m_c2, n_s, n_a, fr53⟩ := p53
  show mp_J Γ m_De_init E κ N53 [(0, .ref h)] 56 [.ref ma, .ref h] (0 + 1 + 1 + 3 + 1 + 4 + 1 + 13) (0 + 1000 + 5 + 80 + 6 + 31 + 8 + 426)
  have hN53_ro : N53 ro = some (mp_b E 1000 (fun _ => 0)) := fr53 ro _ hM8_ro (mp_ne0 hM7_ro hma)
  have hN53_sh : N53 sh = some (mp_o 3 [.ref tu, .ref s8, .ref w8, .ref (E.2.2.2 8), .int (tf true)]) := fr53 sh _ hM8_sh (mp_ne0 hM7_sh hma)
  have hN53_s8 : N53 s8 = some (mp_i E 8 (fun _ => 0)) := fr53 s8 _ hM8_s8 (mp_ne0 hM7_s8 hma)
  have hN53_w8 : N53 w8 = some (mp_i E 64 (fun _ => 0)) := fr53 w8 _ hM8_w8 (mp_ne0 hM7_w8 hma)
  have hN53_tu : N53 tu = some (mp_i E 8 (fun _ => 0)) := fr53 tu _ hM8_tu (mp_ne0 hM7_tu hma)
  have hN53_ri : N53 ri = some (mp_o 2 [.ref lf, .ref rt, .ref s5, .ref w5, .ref (E.2.2.2 6), .int (tf false)]) := fr53 ri _ hM8_ri (mp_ne0 hM7_ri hma)
  have hN53_s5 : N53 s5 = some (mp_i E 5 (fun _ => 0)) := fr53 s5 _ hM8_s5 (mp_ne0 hM7_s5 hma)
  have hN53_w5 : N53 w5 = some (mp_i E 16 (fun _ => 0)) := fr53 w5 _ hM8_w5 (mp_ne0 hM7_w5 hma)
  have hN53_lf : N53 lf = some (mp_i E 5 (fun _ => 0)) := fr53 lf _ hM8_lf (mp_ne0 hM7_lf hma)
  have hN53_rt : N53 rt = some (mp_i E 5 (fun _ => 0)) := fr53 rt _ hM8_rt (mp_ne0 hM7_rt hma)
  have hN53_h : N53 h = some (mp_o 6 [.ref ro, .int (nI 0), .ref sh, .ref ri, .null, .null]) := fr53 h _ hM8_h (mp_ne0 hM7_h hma)
  have F_so : M so = none := by
    cases hz : M so with
    | none => rfl
    | some e =>
      exfalso
      have z := hz
      have z0 : so ≠ h := Ne.symm (mp_ne0 hM8_h w_so)
      have zso_1 := mp_kp eM1.symm (mp_ne0 z hro) z
      have zso_2 := mp_kp eM2.symm z0 zso_1
      have zso_3 := mp_kp eM3.symm z0 zso_2
      have zso_4 := mp_kp eM4.symm (mp_ne0 zso_3 hsh) zso_3
      have zso_5 := (x23r so (mp_ne0 zso_3 hsh) (mp_ne0 zso_4 x23f0) (mp_ne0 zso_4 x23f1) (mp_ne0 zso_4 x23f2)).trans zso_4
      have zso_6 := mp_kp eM5.symm z0 zso_5
      have zso_7 := mp_kp eM6.symm (mp_ne0 zso_6 hri) zso_6
      have zso_8 := (x34r so (mp_ne0 zso_6 hri) (mp_ne0 zso_7 x34f0) (mp_ne0 zso_7 x34f1) (mp_ne0 zso_7 x34f2) (mp_ne0 zso_7 x34f3)).trans zso_7
      have zso_9 := mp_kp eM7.symm z0 zso_8
      have zso_10 := mp_kp eM8.symm (mp_ne0 zso_9 hma) zso_9
      rw [w_so] at zso_10
      cases zso_10
  have F_ao : M ao = none := by
    cases hz : M ao with
    | none => rfl
    | some e =>
      exfalso
      have z := hz
      have z0 : ao ≠ h := Ne.symm (mp_ne0 hM8_h w_ao)
      have zao_1 := mp_kp eM1.symm (mp_ne0 z hro) z
      have zao_2 := mp_kp eM2.symm z0 zao_1
      have zao_3 := mp_kp eM3.symm z0 zao_2
      have zao_4 := mp_kp eM4.symm (mp_ne0 zao_3 hsh) zao_3
      have zao_5 := (x23r ao (mp_ne0 zao_3 hsh) (mp_ne0 zao_4 x23f0) (mp_ne0 zao_4 x23f1) (mp_ne0 zao_4 x23f2)).trans zao_4
      have zao_6 := mp_kp eM5.symm z0 zao_5
      have zao_7 := mp_kp eM6.symm (mp_ne0 zao_6 hri) zao_6
      have zao_8 := (x34r ao (mp_ne0 zao_6 hri) (mp_ne0 zao_7 x34f0) (mp_ne0 zao_7 x34f1) (mp_ne0 zao_7 x34f2) (mp_ne0 zao_7 x34f3)).trans zao_7
      have zao_9 := mp_kp eM7.symm z0 zao_8
      have zao_10 := mp_kp eM8.symm (mp_ne0 zao_9 hma) zao_9
      rw [w_ao] at zao_10
      cases zao_10
  have F_br : M br = none := by
    cases hz : M br with
    | none => rfl
    | some e =>
      exfalso
      have z := hz
      have z0 : br ≠ h := Ne.symm (mp_ne0 hM8_h w_br)
      have zbr_1 := mp_kp eM1.symm (mp_ne0 z hro) z
      have zbr_2 := mp_kp eM2.symm z0 zbr_1
      have zbr_3 := mp_kp eM3.symm z0 zbr_2
      have zbr_4 := mp_kp eM4.symm (mp_ne0 zbr_3 hsh) zbr_3
      have zbr_5 := (x23r br (mp_ne0 zbr_3 hsh) (mp_ne0 zbr_4 x23f0) (mp_ne0 zbr_4 x23f1) (mp_ne0 zbr_4 x23f2)).trans zbr_4
      have zbr_6 := mp_kp eM5.symm z0 zbr_5
      have zbr_7 := mp_kp eM6.symm (mp_ne0 zbr_6 hri) zbr_6
      have zbr_8 := (x34r br (mp_ne0 zbr_6 hri) (mp_ne0 zbr_7 x34f0) (mp_ne0 zbr_7 x34f1) (mp_ne0 zbr_7 x34f2) (mp_ne0 zbr_7 x34f3)).trans zbr_7
      have zbr_9 := mp_kp eM7.symm z0 zbr_8
      have zbr_10 := mp_kp eM8.symm (mp_ne0 zbr_9 hma) zbr_9
      rw [w_br] at zbr_10
      cases zbr_10
  have F_sm : M sm = none := by
    cases hz : M sm with
    | none => rfl
    | some e =>
      exfalso
      have z := hz
      have z0 : sm ≠ h := Ne.symm (mp_ne0 hM8_h w_sm)
      have zsm_1 := mp_kp eM1.symm (mp_ne0 z hro) z
      have zsm_2 := mp_kp eM2.symm z0 zsm_1
      have zsm_3 := mp_kp eM3.symm z0 zsm_2
      have zsm_4 := mp_kp eM4.symm (mp_ne0 zsm_3 hsh) zsm_3
      have zsm_5 := (x23r sm (mp_ne0 zsm_3 hsh) (mp_ne0 zsm_4 x23f0) (mp_ne0 zsm_4 x23f1) (mp_ne0 zsm_4 x23f2)).trans zsm_4
      have zsm_6 := mp_kp eM5.symm z0 zsm_5
      have zsm_7 := mp_kp eM6.symm (mp_ne0 zsm_6 hri) zsm_6
      have zsm_8 := (x34r sm (mp_ne0 zsm_6 hri) (mp_ne0 zsm_7 x34f0) (mp_ne0 zsm_7 x34f1) (mp_ne0 zsm_7 x34f2) (mp_ne0 zsm_7 x34f3)).trans zsm_7
      have zsm_9 := mp_kp eM7.symm z0 zsm_8
      have zsm_10 := mp_kp eM8.symm (mp_ne0 zsm_9 hma) zsm_9
      rw [w_sm] at zsm_10
      cases zsm_10
  have F_am : M am = none := by
    cases hz : M am with
    | none => rfl
    | some e =>
      exfalso
      have z := hz
      have z0 : am ≠ h := Ne.symm (mp_ne0 hM8_h w_am)
      have zam_1 := mp_kp eM1.symm (mp_ne0 z hro) z
      have zam_2 := mp_kp eM2.symm z0 zam_1
      have zam_3 := mp_kp eM3.symm z0 zam_2
      have zam_4 := mp_kp eM4.symm (mp_ne0 zam_3 hsh) zam_3
      have zam_5 := (x23r am (mp_ne0 zam_3 hsh) (mp_ne0 zam_4 x23f0) (mp_ne0 zam_4 x23f1) (mp_ne0 zam_4 x23f2)).trans zam_4
      have zam_6 := mp_kp eM5.symm z0 zam_5
      have zam_7 := mp_kp eM6.symm (mp_ne0 zam_6 hri) zam_6
      have zam_8 := (x34r am (mp_ne0 zam_6 hri) (mp_ne0 zam_7 x34f0) (mp_ne0 zam_7 x34f1) (mp_ne0 zam_7 x34f2) (mp_ne0 zam_7 x34f3)).trans zam_7
      have zam_9 := mp_kp eM7.symm z0 zam_8
      have zam_10 := mp_kp eM8.symm (mp_ne0 zam_9 hma) zam_9
      rw [w_am] at zam_10
      cases zam_10
  refine j_putF F_De hN53_h 4 (by decide) w_194 (Or.inl rfl) rfl rfl rfl rfl rfl (Nat.le_of_ble_eq_true rfl) d_De_init_56 ?_
  show mp_J Γ m_De_init E κ (mp_up N53 h (mp_o 6 [.ref ro, .int (nI 0), .ref sh, .ref ri, .ref ma, .null])) [(0, .ref h)] 59 [] (0 + 1 + 1 + 3 + 1 + 4 + 1 + 13) (0 + 1000 + 5 + 80 + 6 + 31 + 8 + 426)
  generalize eM9 : mp_up N53 h (mp_o 6 [.ref ro, .int (nI 0), .ref sh, .ref ri, .ref ma, .null]) = M9
  have hM9_ro : M9 ro = some (mp_b E 1000 (fun _ => 0)) := by rw [← eM9, mp_n (Ne.symm (mp_ne0 h0 hro))]; exact hN53_ro
  have hM9_sh : M9 sh = some (mp_o 3 [.ref tu, .ref s8, .ref w8, .ref (E.2.2.2 8), .int (tf true)]) := by rw [← eM9, mp_n (Ne.symm (mp_ne0 hM3_h hsh))]; exact hN53_sh
  have hM9_s8 : M9 s8 = some (mp_i E 8 (fun _ => 0)) := by rw [← eM9, mp_n (Ne.symm (mp_ne0 hM4_h x23f0))]; exact hN53_s8
  have hM9_w8 : M9 w8 = some (mp_i E 64 (fun _ => 0)) := by rw [← eM9, mp_n (Ne.symm (mp_ne0 hM4_h x23f1))]; exact hN53_w8
  have hM9_tu : M9 tu = some (mp_i E 8 (fun _ => 0)) := by rw [← eM9, mp_n (Ne.symm (mp_ne0 hM4_h x23f2))]; exact hN53_tu
  have hM9_ri : M9 ri = some (mp_o 2 [.ref lf, .ref rt, .ref s5, .ref w5, .ref (E.2.2.2 6), .int (tf false)]) := by rw [← eM9, mp_n (Ne.symm (mp_ne0 hM5_h hri))]; exact hN53_ri
  have hM9_s5 : M9 s5 = some (mp_i E 5 (fun _ => 0)) := by rw [← eM9, mp_n (Ne.symm (mp_ne0 hM6_h x34f0))]; exact hN53_s5
  have hM9_w5 : M9 w5 = some (mp_i E 16 (fun _ => 0)) := by rw [← eM9, mp_n (Ne.symm (mp_ne0 hM6_h x34f1))]; exact hN53_w5
  have hM9_lf : M9 lf = some (mp_i E 5 (fun _ => 0)) := by rw [← eM9, mp_n (Ne.symm (mp_ne0 hM6_h x34f2))]; exact hN53_lf
  have hM9_rt : M9 rt = some (mp_i E 5 (fun _ => 0)) := by rw [← eM9, mp_n (Ne.symm (mp_ne0 hM6_h x34f3))]; exact hN53_rt
  have hM9_ma : M9 ma = some (mp_o 1 [.ref sh, .ref ri, .ref so, .ref br, .ref y, .ref nn, .ref sm, .int (nI 0)]) := by rw [← eM9, mp_n (Ne.symm (mp_ne0 hM7_h hma))]; exact m_h
  have hM9_so : M9 so = some (mp_o 4 [.ref ao, .ref n1, .int (nI 0)]) := by rw [← eM9, mp_n (Ne.symm (mp_ne0 hM8_h w_so))]; exact m_so
  have hM9_ao : M9 ao = some (mp_q E 200 (fun _ => some n1)) := by rw [← eM9, mp_n (Ne.symm (mp_ne0 hM8_h w_ao))]; exact m_ao
  have hM9_n1 : M9 n1 = some (mp_o 5 [.ref c1]) := by rw [← eM9, mp_n (mp_ne m_n1 hN53_h (mp_noo (by decide)))]; exact m_n1
  have hM9_c1 : M9 c1 = some (mp_b E 0 (fun _ => 0)) := by rw [← eM9, mp_n (mp_ne m_c1 hN53_h mp_nao)]; exact m_c1
  have hM9_br : M9 br = some (mp_o 0 [.int (nI 0), .int (-1)]) := by rw [← eM9, mp_n (Ne.symm (mp_ne0 hM8_h w_br))]; exact m_br
  have hM9_y : M9 y = some (mp_o 5 [.ref yb]) := by rw [← eM9, mp_n (mp_ne m_y hN53_h (mp_noo (by decide)))]; exact m_y
  have hM9_yb : M9 yb = some (mp_b E (bl 1) (gb (am_of 1))) := by rw [← eM9, mp_n (mp_ne m_yb hN53_h mp_nao)]; exact m_yb
  have hM9_nn : M9 nn = some (mp_o 5 [.ref nb]) := by rw [← eM9, mp_n (mp_ne m_nn hN53_h (mp_noo (by decide)))]; exact m_nn
  have hM9_nb : M9 nb = some (mp_b E (bl 0) (gb (am_of 0))) := by rw [← eM9, mp_n (mp_ne m_nb hN53_h mp_nao)]; exact m_nb
  have hM9_sm : M9 sm = some (mp_o 4 [.ref am, .ref n2, .int (nI 0)]) := by rw [← eM9, mp_n (Ne.symm (mp_ne0 hM8_h w_sm))]; exact m_sm
  have hM9_am : M9 am = some (mp_q E 200 (fun _ => some n2)) := by rw [← eM9, mp_n (Ne.symm (mp_ne0 hM8_h w_am))]; exact m_am
  have hM9_n2 : M9 n2 = some (mp_o 5 [.ref c2]) := by rw [← eM9, mp_n (mp_ne m_n2 hN53_h (mp_noo (by decide)))]; exact m_n2
  have hM9_c2 : M9 c2 = some (mp_b E 0 (fun _ => 0)) := by rw [← eM9, mp_n (mp_ne m_c2 hN53_h mp_nao)]; exact m_c2
  have hM9_h : M9 h = some (mp_o 6 [.ref ro, .int (nI 0), .ref sh, .ref ri, .ref ma, .null]) := by rw [← eM9]; exact mp_s
  refine j_aload_n d_De_init_59 rfl 0 rfl ?_
  refine j_new [.null, .null, .int 0] F_St w_188 w_104 w_7 (fun j hj => by rcases (show j = 0 ∨ j = 1 ∨ j = 2 by omega) with rfl | rfl | rfl <;> rfl) (by omega) (by omega) d_De_init_60 (fun sd hsd => ?_)
  generalize eM10 : mp_up M9 sd (mp_o 4 [.null, .null, .int 0]) = M10
  have hM10_ro : M10 ro = some (mp_b E 1000 (fun _ => 0)) := by rw [← eM10, mp_n (mp_ne0 hM9_ro hsd)]; exact hM9_ro
  have hM10_sh : M10 sh = some (mp_o 3 [.ref tu, .ref s8, .ref w8, .ref (E.2.2.2 8), .int (tf true)]) := by rw [← eM10, mp_n (mp_ne0 hM9_sh hsd)]; exact hM9_sh
  have hM10_s8 : M10 s8 = some (mp_i E 8 (fun _ => 0)) := by rw [← eM10, mp_n (mp_ne0 hM9_s8 hsd)]; exact hM9_s8
  have hM10_w8 : M10 w8 = some (mp_i E 64 (fun _ => 0)) := by rw [← eM10, mp_n (mp_ne0 hM9_w8 hsd)]; exact hM9_w8
  have hM10_tu : M10 tu = some (mp_i E 8 (fun _ => 0)) := by rw [← eM10, mp_n (mp_ne0 hM9_tu hsd)]; exact hM9_tu
  have hM10_ri : M10 ri = some (mp_o 2 [.ref lf, .ref rt, .ref s5, .ref w5, .ref (E.2.2.2 6), .int (tf false)]) := by rw [← eM10, mp_n (mp_ne0 hM9_ri hsd)]; exact hM9_ri
  have hM10_s5 : M10 s5 = some (mp_i E 5 (fun _ => 0)) := by rw [← eM10, mp_n (mp_ne0 hM9_s5 hsd)]; exact hM9_s5
  have hM10_w5 : M10 w5 = some (mp_i E 16 (fun _ => 0)) := by rw [← eM10, mp_n (mp_ne0 hM9_w5 hsd)]; exact hM9_w5
  have hM10_lf : M10 lf = some (mp_i E 5 (fun _ => 0)) := by rw [← eM10, mp_n (mp_ne0 hM9_lf hsd)]; exact hM9_lf
  have hM10_rt : M10 rt = some (mp_i E 5 (fun _ => 0)) := by rw [← eM10, mp_n (mp_ne0 hM9_rt hsd)]; exact hM9_rt
  have hM10_ma : M10 ma = some (mp_o 1 [.ref sh, .ref ri, .ref so, .ref br, .ref y, .ref nn, .ref sm, .int (nI 0)]) := by rw [← eM10, mp_n (mp_ne0 hM9_ma hsd)]; exact hM9_ma
  have hM10_so : M10 so = some (mp_o 4 [.ref ao, .ref n1, .int (nI 0)]) := by rw [← eM10, mp_n (mp_ne0 hM9_so hsd)]; exact hM9_so
  have hM10_ao : M10 ao = some (mp_q E 200 (fun _ => some n1)) := by rw [← eM10, mp_n (mp_ne0 hM9_ao hsd)]; exact hM9_ao
  have hM10_n1 : M10 n1 = some (mp_o 5 [.ref c1]) := by rw [← eM10, mp_n (mp_ne0 hM9_n1 hsd)]; exact hM9_n1
  have hM10_c1 : M10 c1 = some (mp_b E 0 (fun _ => 0)) := by rw [← eM10, mp_n (mp_ne0 hM9_c1 hsd)]; exact hM9_c1
  have hM10_br : M10 br = some (mp_o 0 [.int (nI 0), .int (-1)]) := by rw [← eM10, mp_n (mp_ne0 hM9_br hsd)]; exact hM9_br
  have hM10_y : M10 y = some (mp_o 5 [.ref yb]) := by rw [← eM10, mp_n (mp_ne0 hM9_y hsd)]; exact hM9_y
  have hM10_yb : M10 yb = some (mp_b E (bl 1) (gb (am_of 1))) := by rw [← eM10, mp_n (mp_ne0 hM9_yb hsd)]; exact hM9_yb
  have hM10_nn : M10 nn = some (mp_o 5 [.ref nb]) := by rw [← eM10, mp_n (mp_ne0 hM9_nn hsd)]; exact hM9_nn
  have hM10_nb : M10 nb = some (mp_b E (bl 0) (gb (am_of 0))) := by rw [← eM10, mp_n (mp_ne0 hM9_nb hsd)]; exact hM9_nb
  have hM10_sm : M10 sm = some (mp_o 4 [.ref am, .ref n2, .int (nI 0)]) := by rw [← eM10, mp_n (mp_ne0 hM9_sm hsd)]; exact hM9_sm
  have hM10_am : M10 am = some (mp_q E 200 (fun _ => some n2)) := by rw [← eM10, mp_n (mp_ne0 hM9_am hsd)]; exact hM9_am
  have hM10_n2 : M10 n2 = some (mp_o 5 [.ref c2]) := by rw [← eM10, mp_n (mp_ne0 hM9_n2 hsd)]; exact hM9_n2
  have hM10_c2 : M10 c2 = some (mp_b E 0 (fun _ => 0)) := by rw [← eM10, mp_n (mp_ne0 hM9_c2 hsd)]; exact hM9_c2
  have hM10_h : M10 h = some (mp_o 6 [.ref ro, .int (nI 0), .ref sh, .ref ri, .ref ma, .null]) := by rw [← eM10, mp_n (mp_ne0 hM9_h hsd)]; exact hM9_h
  have hM10_sd : M10 sd = some (mp_o 4 [.null, .null, .int 0]) := by rw [← eM10]; exact mp_s
  have F_sd : M sd = none := by
    cases hz : M sd with
    | none => rfl
    | some e =>
      exfalso
      have z := hz
      have z0 : sd ≠ h := Ne.symm (mp_ne0 hM9_h hsd)
      have zsd_1 := mp_kp eM1.symm (mp_ne0 z hro) z
      have zsd_2 := mp_kp eM2.symm z0 zsd_1
      have zsd_3 := mp_kp eM3.symm z0 zsd_2
      have zsd_4 := mp_kp eM4.symm (mp_ne0 zsd_3 hsh) zsd_3
      have zsd_5 := (x23r sd (mp_ne0 zsd_3 hsh) (mp_ne0 zsd_4 x23f0) (mp_ne0 zsd_4 x23f1) (mp_ne0 zsd_4 x23f2)).trans zsd_4
      have zsd_6 := mp_kp eM5.symm z0 zsd_5
      have zsd_7 := mp_kp eM6.symm (mp_ne0 zsd_6 hri) zsd_6
      have zsd_8 := (x34r sd (mp_ne0 zsd_6 hri) (mp_ne0 zsd_7 x34f0) (mp_ne0 zsd_7 x34f1) (mp_ne0 zsd_7 x34f2) (mp_ne0 zsd_7 x34f3)).trans zsd_7
      have zsd_9 := mp_kp eM7.symm z0 zsd_8
      have zsd_10 := mp_kp eM8.symm (mp_ne0 zsd_9 hma) zsd_9
      have zsd_11 := fr53 sd _ zsd_10 (mp_ne0 zsd_9 hma)
      have zsd_12 := mp_kp eM9.symm z0 zsd_11
      rw [hsd] at zsd_12
      cases zsd_12
  refine j_dup d_De_init_63 rfl ?_
  refine j_callI (As := []) (rest := [.ref sd, .ref h]) (c_St_init Γ.l E M10 sd hM10_sd) Y_St_init rfl rfl w_189 w_106 rfl rfl (Nat.le_of_ble_eq_true rfl) (by omega) (by omega) (by omega) d_De_init_64 (fun v64 N64 p64 => ?_)
  obtain ⟨rfl, ad, n3, c3, g_ad, g_n3, g_c3, e_sd, e_ad, e_n3, e_c3, fr64⟩ := p64
  show mp_J Γ m_De_init E κ N64 [(0, .ref h)] 67 [.ref sd, .ref h] (0 + 1 + 1 + 3 + 1 + 4 + 1 + 13 + 1 + 3) (0 + 1000 + 5 + 80 + 6 + 31 + 8 + 426 + 3 + 201)
  have hN64_ro : N64 ro = some (mp_b E 1000 (fun _ => 0)) := (fr64 ro (mp_ne0 hM9_ro hsd) (mp_ne0 hM10_ro g_ad) (mp_ne0 hM10_ro g_n3) (mp_ne0 hM10_ro g_c3)).trans hM10_ro
  have hN64_sh : N64 sh = some (mp_o 3 [.ref tu, .ref s8, .ref w8, .ref (E.2.2.2 8), .int (tf true)]) := (fr64 sh (mp_ne0 hM9_sh hsd) (mp_ne0 hM10_sh g_ad) (mp_ne0 hM10_sh g_n3) (mp_ne0 hM10_sh g_c3)).trans hM10_sh
  have hN64_s8 : N64 s8 = some (mp_i E 8 (fun _ => 0)) := (fr64 s8 (mp_ne0 hM9_s8 hsd) (mp_ne0 hM10_s8 g_ad) (mp_ne0 hM10_s8 g_n3) (mp_ne0 hM10_s8 g_c3)).trans hM10_s8
  have hN64_w8 : N64 w8 = some (mp_i E 64 (fun _ => 0)) := (fr64 w8 (mp_ne0 hM9_w8 hsd) (mp_ne0 hM10_w8 g_ad) (mp_ne0 hM10_w8 g_n3) (mp_ne0 hM10_w8 g_c3)).trans hM10_w8
  have hN64_tu : N64 tu = some (mp_i E 8 (fun _ => 0)) := (fr64 tu (mp_ne0 hM9_tu hsd) (mp_ne0 hM10_tu g_ad) (mp_ne0 hM10_tu g_n3) (mp_ne0 hM10_tu g_c3)).trans hM10_tu
  have hN64_ri : N64 ri = some (mp_o 2 [.ref lf, .ref rt, .ref s5, .ref w5, .ref (E.2.2.2 6), .int (tf false)]) := (fr64 ri (mp_ne0 hM9_ri hsd) (mp_ne0 hM10_ri g_ad) (mp_ne0 hM10_ri g_n3) (mp_ne0 hM10_ri g_c3)).trans hM10_ri
  have hN64_s5 : N64 s5 = some (mp_i E 5 (fun _ => 0)) := (fr64 s5 (mp_ne0 hM9_s5 hsd) (mp_ne0 hM10_s5 g_ad) (mp_ne0 hM10_s5 g_n3) (mp_ne0 hM10_s5 g_c3)).trans hM10_s5
  have hN64_w5 : N64 w5 = some (mp_i E 16 (fun _ => 0)) := (fr64 w5 (mp_ne0 hM9_w5 hsd) (mp_ne0 hM10_w5 g_ad) (mp_ne0 hM10_w5 g_n3) (mp_ne0 hM10_w5 g_c3)).trans hM10_w5
  have hN64_lf : N64 lf = some (mp_i E 5 (fun _ => 0)) := (fr64 lf (mp_ne0 hM9_lf hsd) (mp_ne0 hM10_lf g_ad) (mp_ne0 hM10_lf g_n3) (mp_ne0 hM10_lf g_c3)).trans hM10_lf
  have hN64_rt : N64 rt = some (mp_i E 5 (fun _ => 0)) := (fr64 rt (mp_ne0 hM9_rt hsd) (mp_ne0 hM10_rt g_ad) (mp_ne0 hM10_rt g_n3) (mp_ne0 hM10_rt g_c3)).trans hM10_rt
  have hN64_ma : N64 ma = some (mp_o 1 [.ref sh, .ref ri, .ref so, .ref br, .ref y, .ref nn, .ref sm, .int (nI 0)]) := (fr64 ma (mp_ne0 hM9_ma hsd) (mp_ne0 hM10_ma g_ad) (mp_ne0 hM10_ma g_n3) (mp_ne0 hM10_ma g_c3)).trans hM10_ma
  have hN64_so : N64 so = some (mp_o 4 [.ref ao, .ref n1, .int (nI 0)]) := (fr64 so (mp_ne0 hM9_so hsd) (mp_ne0 hM10_so g_ad) (mp_ne0 hM10_so g_n3) (mp_ne0 hM10_so g_c3)).trans hM10_so
  have hN64_ao : N64 ao = some (mp_q E 200 (fun _ => some n1)) := (fr64 ao (mp_ne0 hM9_ao hsd) (mp_ne0 hM10_ao g_ad) (mp_ne0 hM10_ao g_n3) (mp_ne0 hM10_ao g_c3)).trans hM10_ao
  have hN64_n1 : N64 n1 = some (mp_o 5 [.ref c1]) := (fr64 n1 (mp_ne0 hM9_n1 hsd) (mp_ne0 hM10_n1 g_ad) (mp_ne0 hM10_n1 g_n3) (mp_ne0 hM10_n1 g_c3)).trans hM10_n1
  have hN64_c1 : N64 c1 = some (mp_b E 0 (fun _ => 0)) := (fr64 c1 (mp_ne0 hM9_c1 hsd) (mp_ne0 hM10_c1 g_ad) (mp_ne0 hM10_c1 g_n3) (mp_ne0 hM10_c1 g_c3)).trans hM10_c1
  have hN64_br : N64 br = some (mp_o 0 [.int (nI 0), .int (-1)]) := (fr64 br (mp_ne0 hM9_br hsd) (mp_ne0 hM10_br g_ad) (mp_ne0 hM10_br g_n3) (mp_ne0 hM10_br g_c3)).trans hM10_br
  have hN64_y : N64 y = some (mp_o 5 [.ref yb]) := (fr64 y (mp_ne0 hM9_y hsd) (mp_ne0 hM10_y g_ad) (mp_ne0 hM10_y g_n3) (mp_ne0 hM10_y g_c3)).trans hM10_y
  have hN64_yb : N64 yb = some (mp_b E (bl 1) (gb (am_of 1))) := (fr64 yb (mp_ne0 hM9_yb hsd) (mp_ne0 hM10_yb g_ad) (mp_ne0 hM10_yb g_n3) (mp_ne0 hM10_yb g_c3)).trans hM10_yb
  have hN64_nn : N64 nn = some (mp_o 5 [.ref nb]) := (fr64 nn (mp_ne0 hM9_nn hsd) (mp_ne0 hM10_nn g_ad) (mp_ne0 hM10_nn g_n3) (mp_ne0 hM10_nn g_c3)).trans hM10_nn
  have hN64_nb : N64 nb = some (mp_b E (bl 0) (gb (am_of 0))) := (fr64 nb (mp_ne0 hM9_nb hsd) (mp_ne0 hM10_nb g_ad) (mp_ne0 hM10_nb g_n3) (mp_ne0 hM10_nb g_c3)).trans hM10_nb
  have hN64_sm : N64 sm = some (mp_o 4 [.ref am, .ref n2, .int (nI 0)]) := (fr64 sm (mp_ne0 hM9_sm hsd) (mp_ne0 hM10_sm g_ad) (mp_ne0 hM10_sm g_n3) (mp_ne0 hM10_sm g_c3)).trans hM10_sm
  have hN64_am : N64 am = some (mp_q E 200 (fun _ => some n2)) := (fr64 am (mp_ne0 hM9_am hsd) (mp_ne0 hM10_am g_ad) (mp_ne0 hM10_am g_n3) (mp_ne0 hM10_am g_c3)).trans hM10_am
  have hN64_n2 : N64 n2 = some (mp_o 5 [.ref c2]) := (fr64 n2 (mp_ne0 hM9_n2 hsd) (mp_ne0 hM10_n2 g_ad) (mp_ne0 hM10_n2 g_n3) (mp_ne0 hM10_n2 g_c3)).trans hM10_n2
  have hN64_c2 : N64 c2 = some (mp_b E 0 (fun _ => 0)) := (fr64 c2 (mp_ne0 hM9_c2 hsd) (mp_ne0 hM10_c2 g_ad) (mp_ne0 hM10_c2 g_n3) (mp_ne0 hM10_c2 g_c3)).trans hM10_c2
  have hN64_h : N64 h = some (mp_o 6 [.ref ro, .int (nI 0), .ref sh, .ref ri, .ref ma, .null]) := (fr64 h (mp_ne0 hM9_h hsd) (mp_ne0 hM10_h g_ad) (mp_ne0 hM10_h g_n3) (mp_ne0 hM10_h g_c3)).trans hM10_h
  have F_ad : M ad = none := by
    cases hz : M ad with
    | none => rfl
    | some e =>
      exfalso
      have z := hz
      have z0 : ad ≠ h := Ne.symm (mp_ne0 hM10_h g_ad)
      have zad_1 := mp_kp eM1.symm (mp_ne0 z hro) z
      have zad_2 := mp_kp eM2.symm z0 zad_1
      have zad_3 := mp_kp eM3.symm z0 zad_2
      have zad_4 := mp_kp eM4.symm (mp_ne0 zad_3 hsh) zad_3
      have zad_5 := (x23r ad (mp_ne0 zad_3 hsh) (mp_ne0 zad_4 x23f0) (mp_ne0 zad_4 x23f1) (mp_ne0 zad_4 x23f2)).trans zad_4
      have zad_6 := mp_kp eM5.symm z0 zad_5
      have zad_7 := mp_kp eM6.symm (mp_ne0 zad_6 hri) zad_6
      have zad_8 := (x34r ad (mp_ne0 zad_6 hri) (mp_ne0 zad_7 x34f0) (mp_ne0 zad_7 x34f1) (mp_ne0 zad_7 x34f2) (mp_ne0 zad_7 x34f3)).trans zad_7
      have zad_9 := mp_kp eM7.symm z0 zad_8
      have zad_10 := mp_kp eM8.symm (mp_ne0 zad_9 hma) zad_9
      have zad_11 := fr53 ad _ zad_10 (mp_ne0 zad_9 hma)
      have zad_12 := mp_kp eM9.symm z0 zad_11
      have zad_13 := mp_kp eM10.symm (mp_ne0 zad_12 hsd) zad_12
      rw [g_ad] at zad_13
      cases zad_13
  have F_n3 : M n3 = none := by
    cases hz : M n3 with
    | none => rfl
    | some e =>
      exfalso
      have z := hz
      have z0 : n3 ≠ h := Ne.symm (mp_ne0 hM10_h g_n3)
      have zn3_1 := mp_kp eM1.symm (mp_ne0 z hro) z
      have zn3_2 := mp_kp eM2.symm z0 zn3_1
      have zn3_3 := mp_kp eM3.symm z0 zn3_2
      have zn3_4 := mp_kp eM4.symm (mp_ne0 zn3_3 hsh) zn3_3
      have zn3_5 := (x23r n3 (mp_ne0 zn3_3 hsh) (mp_ne0 zn3_4 x23f0) (mp_ne0 zn3_4 x23f1) (mp_ne0 zn3_4 x23f2)).trans zn3_4
      have zn3_6 := mp_kp eM5.symm z0 zn3_5
      have zn3_7 := mp_kp eM6.symm (mp_ne0 zn3_6 hri) zn3_6
      have zn3_8 := (x34r n3 (mp_ne0 zn3_6 hri) (mp_ne0 zn3_7 x34f0) (mp_ne0 zn3_7 x34f1) (mp_ne0 zn3_7 x34f2) (mp_ne0 zn3_7 x34f3)).trans zn3_7
      have zn3_9 := mp_kp eM7.symm z0 zn3_8
      have zn3_10 := mp_kp eM8.symm (mp_ne0 zn3_9 hma) zn3_9
      have zn3_11 := fr53 n3 _ zn3_10 (mp_ne0 zn3_9 hma)
      have zn3_12 := mp_kp eM9.symm z0 zn3_11
      have zn3_13 := mp_kp eM10.symm (mp_ne0 zn3_12 hsd) zn3_12
      rw [g_n3] at zn3_13
      cases zn3_13
  have F_c3 : M c3 = none := by
    cases hz : M c3 with
    | none => rfl
    | some e =>
      exfalso
      have z := hz
      have z0 : c3 ≠ h := Ne.symm (mp_ne0 hM10_h g_c3)
      have zc3_1 := mp_kp eM1.symm (mp_ne0 z hro) z
      have zc3_2 := mp_kp eM2.symm z0 zc3_1
      have zc3_3 := mp_kp eM3.symm z0 zc3_2
      have zc3_4 := mp_kp eM4.symm (mp_ne0 zc3_3 hsh) zc3_3
      have zc3_5 := (x23r c3 (mp_ne0 zc3_3 hsh) (mp_ne0 zc3_4 x23f0) (mp_ne0 zc3_4 x23f1) (mp_ne0 zc3_4 x23f2)).trans zc3_4
      have zc3_6 := mp_kp eM5.symm z0 zc3_5
      have zc3_7 := mp_kp eM6.symm (mp_ne0 zc3_6 hri) zc3_6
      have zc3_8 := (x34r c3 (mp_ne0 zc3_6 hri) (mp_ne0 zc3_7 x34f0) (mp_ne0 zc3_7 x34f1) (mp_ne0 zc3_7 x34f2) (mp_ne0 zc3_7 x34f3)).trans zc3_7
      have zc3_9 := mp_kp eM7.symm z0 zc3_8
      have zc3_10 := mp_kp eM8.symm (mp_ne0 zc3_9 hma) zc3_9
      have zc3_11 := fr53 c3 _ zc3_10 (mp_ne0 zc3_9 hma)
      have zc3_12 := mp_kp eM9.symm z0 zc3_11
      have zc3_13 := mp_kp eM10.symm (mp_ne0 zc3_12 hsd) zc3_12
      rw [g_c3] at zc3_13
      cases zc3_13
  refine j_put F_De hN64_h 5 (by decide) w_195 (Or.inl rfl) rfl rfl rfl (Nat.le_of_ble_eq_true rfl) d_De_init_67 ?_
  show mp_J Γ m_De_init E κ (mp_up N64 h (mp_o 6 [.ref ro, .int (nI 0), .ref sh, .ref ri, .ref ma, .ref sd])) [(0, .ref h)] 70 [] (0 + 1 + 1 + 3 + 1 + 4 + 1 + 13 + 1 + 3) (0 + 1000 + 5 + 80 + 6 + 31 + 8 + 426 + 3 + 201)
  generalize eM11 : mp_up N64 h (mp_o 6 [.ref ro, .int (nI 0), .ref sh, .ref ri, .ref ma, .ref sd]) = M11
  have hM11_ro : M11 ro = some (mp_b E 1000 (fun _ => 0)) := by rw [← eM11, mp_n (Ne.symm (mp_ne0 h0 hro))]; exact hN64_ro
  have hM11_sh : M11 sh = some (mp_o 3 [.ref tu, .ref s8, .ref w8, .ref (E.2.2.2 8), .int (tf true)]) := by rw [← eM11, mp_n (Ne.symm (mp_ne0 hM3_h hsh))]; exact hN64_sh
  have hM11_s8 : M11 s8 = some (mp_i E 8 (fun _ => 0)) := by rw [← eM11, mp_n (Ne.symm (mp_ne0 hM4_h x23f0))]; exact hN64_s8
  have hM11_w8 : M11 w8 = some (mp_i E 64 (fun _ => 0)) := by rw [← eM11, mp_n (Ne.symm (mp_ne0 hM4_h x23f1))]; exact hN64_w8
  have hM11_tu : M11 tu = some (mp_i E 8 (fun _ => 0)) := by rw [← eM11, mp_n (Ne.symm (mp_ne0 hM4_h x23f2))]; exact hN64_tu
  have hM11_ri : M11 ri = some (mp_o 2 [.ref lf, .ref rt, .ref s5, .ref w5, .ref (E.2.2.2 6), .int (tf false)]) := by rw [← eM11, mp_n (Ne.symm (mp_ne0 hM5_h hri))]; exact hN64_ri
  have hM11_s5 : M11 s5 = some (mp_i E 5 (fun _ => 0)) := by rw [← eM11, mp_n (Ne.symm (mp_ne0 hM6_h x34f0))]; exact hN64_s5
  have hM11_w5 : M11 w5 = some (mp_i E 16 (fun _ => 0)) := by rw [← eM11, mp_n (Ne.symm (mp_ne0 hM6_h x34f1))]; exact hN64_w5
  have hM11_lf : M11 lf = some (mp_i E 5 (fun _ => 0)) := by rw [← eM11, mp_n (Ne.symm (mp_ne0 hM6_h x34f2))]; exact hN64_lf
  have hM11_rt : M11 rt = some (mp_i E 5 (fun _ => 0)) := by rw [← eM11, mp_n (Ne.symm (mp_ne0 hM6_h x34f3))]; exact hN64_rt
  have hM11_ma : M11 ma = some (mp_o 1 [.ref sh, .ref ri, .ref so, .ref br, .ref y, .ref nn, .ref sm, .int (nI 0)]) := by rw [← eM11, mp_n (Ne.symm (mp_ne0 hM7_h hma))]; exact hN64_ma
  have hM11_so : M11 so = some (mp_o 4 [.ref ao, .ref n1, .int (nI 0)]) := by rw [← eM11, mp_n (Ne.symm (mp_ne0 hM8_h w_so))]; exact hN64_so
  have hM11_ao : M11 ao = some (mp_q E 200 (fun _ => some n1)) := by rw [← eM11, mp_n (Ne.symm (mp_ne0 hM8_h w_ao))]; exact hN64_ao
  have hM11_n1 : M11 n1 = some (mp_o 5 [.ref c1]) := by rw [← eM11, mp_n (mp_ne hN64_n1 hN64_h (mp_noo (by decide)))]; exact hN64_n1
  have hM11_c1 : M11 c1 = some (mp_b E 0 (fun _ => 0)) := by rw [← eM11, mp_n (mp_ne hN64_c1 hN64_h mp_nao)]; exact hN64_c1
  have hM11_br : M11 br = some (mp_o 0 [.int (nI 0), .int (-1)]) := by rw [← eM11, mp_n (Ne.symm (mp_ne0 hM8_h w_br))]; exact hN64_br
  have hM11_y : M11 y = some (mp_o 5 [.ref yb]) := by rw [← eM11, mp_n (mp_ne hN64_y hN64_h (mp_noo (by decide)))]; exact hN64_y
  have hM11_yb : M11 yb = some (mp_b E (bl 1) (gb (am_of 1))) := by rw [← eM11, mp_n (mp_ne hN64_yb hN64_h mp_nao)]; exact hN64_yb
  have hM11_nn : M11 nn = some (mp_o 5 [.ref nb]) := by rw [← eM11, mp_n (mp_ne hN64_nn hN64_h (mp_noo (by decide)))]; exact hN64_nn
  have hM11_nb : M11 nb = some (mp_b E (bl 0) (gb (am_of 0))) := by rw [← eM11, mp_n (mp_ne hN64_nb hN64_h mp_nao)]; exact hN64_nb
  have hM11_sm : M11 sm = some (mp_o 4 [.ref am, .ref n2, .int (nI 0)]) := by rw [← eM11, mp_n (Ne.symm (mp_ne0 hM8_h w_sm))]; exact hN64_sm
  have hM11_am : M11 am = some (mp_q E 200 (fun _ => some n2)) := by rw [← eM11, mp_n (Ne.symm (mp_ne0 hM8_h w_am))]; exact hN64_am
  have hM11_n2 : M11 n2 = some (mp_o 5 [.ref c2]) := by rw [← eM11, mp_n (mp_ne hN64_n2 hN64_h (mp_noo (by decide)))]; exact hN64_n2
  have hM11_c2 : M11 c2 = some (mp_b E 0 (fun _ => 0)) := by rw [← eM11, mp_n (mp_ne hN64_c2 hN64_h mp_nao)]; exact hN64_c2
  have hM11_sd : M11 sd = some (mp_o 4 [.ref ad, .ref n3, .int (nI 0)]) := by rw [← eM11, mp_n (Ne.symm (mp_ne0 hM9_h hsd))]; exact e_sd
  have hM11_ad : M11 ad = some (mp_q E 200 (fun _ => some n3)) := by rw [← eM11, mp_n (Ne.symm (mp_ne0 hM10_h g_ad))]; exact e_ad
  have hM11_n3 : M11 n3 = some (mp_o 5 [.ref c3]) := by rw [← eM11, mp_n (Ne.symm (mp_ne0 hM10_h g_n3))]; exact e_n3
  have hM11_c3 : M11 c3 = some (mp_b E 0 (fun _ => 0)) := by rw [← eM11, mp_n (Ne.symm (mp_ne0 hM10_h g_c3))]; exact e_c3
  have hM11_h : M11 h = some (mp_o 6 [.ref ro, .int (nI 0), .ref sh, .ref ri, .ref ma, .ref sd]) := by rw [← eM11]; exact mp_s
  have hLY : LY (am_X [ma, sh, tu, s8, w8, ri, lf, rt, s5, w5, br, so, ao, sm, am, sd, ad]) (am_L [ma, sh, tu, s8, w8, ri, lf, rt, s5, w5, br, so, ao, sm, am, sd, ad]) := am_LY rfl (by simp only [List.nodup_cons, List.mem_cons, List.not_mem_nil, or_false, not_or, List.nodup_nil, and_true, not_false_eq_true]; exact ⟨⟨(Ne.symm (mp_ne0 hM7_sh hma)), (Ne.symm (mp_ne0 hM7_tu hma)), (Ne.symm (mp_ne0 hM7_s8 hma)), (Ne.symm (mp_ne0 hM7_w8 hma)), (Ne.symm (mp_ne0 hM7_ri hma)), (Ne.symm (mp_ne0 hM7_lf hma)), (Ne.symm (mp_ne0 hM7_rt hma)), (Ne.symm (mp_ne0 hM7_s5 hma)), (Ne.symm (mp_ne0 hM7_w5 hma)), (mp_ne0 hM8_ma w_br), (mp_ne0 hM8_ma w_so), (mp_ne0 hM8_ma w_ao), (mp_ne0 hM8_ma w_sm), (mp_ne0 hM8_ma w_am), (mp_ne0 hM9_ma hsd), (mp_ne0 hM10_ma g_ad)⟩, ⟨(mp_ne0 hM4_sh x23f2), (mp_ne0 hM4_sh x23f0), (mp_ne0 hM4_sh x23f1), (mp_ne0 hM5_sh hri), (mp_ne0 hM6_sh x34f2), (mp_ne0 hM6_sh x34f3), (mp_ne0 hM6_sh x34f0), (mp_ne0 hM6_sh x34f1), (mp_ne0 hM8_sh w_br), (mp_ne0 hM8_sh w_so), (mp_ne0 hM8_sh w_ao), (mp_ne0 hM8_sh w_sm), (mp_ne0 hM8_sh w_am), (mp_ne0 hM9_sh hsd), (mp_ne0 hM10_sh g_ad)⟩, ⟨(Ne.symm x23n02), (Ne.symm x23n12), (mp_ne0 hM5_tu hri), (mp_ne0 hM6_tu x34f2), (mp_ne0 hM6_tu x34f3), (mp_ne0 hM6_tu x34f0), (mp_ne0 hM6_tu x34f1), (mp_ne0 hM8_tu w_br), (mp_ne0 hM8_tu w_so), (mp_ne0 hM8_tu w_ao), (mp_ne0 hM8_tu w_sm), (mp_ne0 hM8_tu w_am), (mp_ne0 hM9_tu hsd), (mp_ne0 hM10_tu g_ad)⟩, ⟨x23n01, (mp_ne0 hM5_s8 hri), (mp_ne0 hM6_s8 x34f2), (mp_ne0 hM6_s8 x34f3), (mp_ne0 hM6_s8 x34f0), (mp_ne0 hM6_s8 x34f1), (mp_ne0 hM8_s8 w_br), (mp_ne0 hM8_s8 w_so), (mp_ne0 hM8_s8 w_ao), (mp_ne0 hM8_s8 w_sm), (mp_ne0 hM8_s8 w_am), (mp_ne0 hM9_s8 hsd), (mp_ne0 hM10_s8 g_ad)⟩, ⟨(mp_ne0 hM5_w8 hri), (mp_ne0 hM6_w8 x34f2), (mp_ne0 hM6_w8 x34f3), (mp_ne0 hM6_w8 x34f0), (mp_ne0 hM6_w8 x34f1), (mp_ne0 hM8_w8 w_br), (mp_ne0 hM8_w8 w_so), (mp_ne0 hM8_w8 w_ao), (mp_ne0 hM8_w8 w_sm), (mp_ne0 hM8_w8 w_am), (mp_ne0 hM9_w8 hsd), (mp_ne0 hM10_w8 g_ad)⟩, ⟨(mp_ne0 hM6_ri x34f2), (mp_ne0 hM6_ri x34f3), (mp_ne0 hM6_ri x34f0), (mp_ne0 hM6_ri x34f1), (mp_ne0 hM8_ri w_br), (mp_ne0 hM8_ri w_so), (mp_ne0 hM8_ri w_ao), (mp_ne0 hM8_ri w_sm), (mp_ne0 hM8_ri w_am), (mp_ne0 hM9_ri hsd), (mp_ne0 hM10_ri g_ad)⟩, ⟨x34n23, (Ne.symm x34n02), (Ne.symm x34n12), (mp_ne0 hM8_lf w_br), (mp_ne0 hM8_lf w_so), (mp_ne0 hM8_lf w_ao), (mp_ne0 hM8_lf w_sm), (mp_ne0 hM8_lf w_am), (mp_ne0 hM9_lf hsd), (mp_ne0 hM10_lf g_ad)⟩, ⟨(Ne.symm x34n03), (Ne.symm x34n13), (mp_ne0 hM8_rt w_br), (mp_ne0 hM8_rt w_so), (mp_ne0 hM8_rt w_ao), (mp_ne0 hM8_rt w_sm), (mp_ne0 hM8_rt w_am), (mp_ne0 hM9_rt hsd), (mp_ne0 hM10_rt g_ad)⟩, ⟨x34n01, (mp_ne0 hM8_s5 w_br), (mp_ne0 hM8_s5 w_so), (mp_ne0 hM8_s5 w_ao), (mp_ne0 hM8_s5 w_sm), (mp_ne0 hM8_s5 w_am), (mp_ne0 hM9_s5 hsd), (mp_ne0 hM10_s5 g_ad)⟩, ⟨(mp_ne0 hM8_w5 w_br), (mp_ne0 hM8_w5 w_so), (mp_ne0 hM8_w5 w_ao), (mp_ne0 hM8_w5 w_sm), (mp_ne0 hM8_w5 w_am), (mp_ne0 hM9_w5 hsd), (mp_ne0 hM10_w5 g_ad)⟩, ⟨(mp_ne hM11_br hM11_so (mp_noo (by decide))), (mp_ne hM11_br hM11_ao mp_noa), (mp_ne hM11_br hM11_sm (mp_noo (by decide))), (mp_ne hM11_br hM11_am mp_noa), (mp_ne0 hM9_br hsd), (mp_ne0 hM10_br g_ad)⟩, ⟨(mp_ne hM11_so hM11_ao mp_noa), n_s, (mp_ne hM11_so hM11_am mp_noa), (mp_ne0 hM9_so hsd), (mp_ne0 hM10_so g_ad)⟩, ⟨(mp_ne hM11_ao hM11_sm mp_nao), n_a, (mp_ne0 hM9_ao hsd), (mp_ne0 hM10_ao g_ad)⟩, ⟨(mp_ne hM11_sm hM11_am mp_noa), (mp_ne0 hM9_sm hsd), (mp_ne0 hM10_sm g_ad)⟩, ⟨(mp_ne0 hM9_am hsd), (mp_ne0 hM10_am g_ad)⟩, (mp_ne0 hM10_sd g_ad)⟩)
  have X_n1 : ¬ am_X [ma, sh, tu, s8, w8, ri, lf, rt, s5, w5, br, so, ao, sm, am, sd, ad] n1 := (am_nX rfl (by simp only [List.mem_cons, List.not_mem_nil, or_false, not_or]; exact ⟨(mp_ne hM11_n1 hM11_ma (mp_noo (by decide))), (mp_ne hM11_n1 hM11_sh (mp_noo (by decide))), (mp_ne hM11_n1 hM11_tu mp_noa), (mp_ne hM11_n1 hM11_s8 mp_noa), (mp_ne hM11_n1 hM11_w8 mp_noa), (mp_ne hM11_n1 hM11_ri (mp_noo (by decide))), (mp_ne hM11_n1 hM11_lf mp_noa), (mp_ne hM11_n1 hM11_rt mp_noa), (mp_ne hM11_n1 hM11_s5 mp_noa), (mp_ne hM11_n1 hM11_w5 mp_noa), (mp_ne hM11_n1 hM11_br (mp_noo (by decide))), (mp_ne hM11_n1 hM11_so (mp_noo (by decide))), (mp_ne hM11_n1 hM11_ao mp_noa), (mp_ne hM11_n1 hM11_sm (mp_noo (by decide))), (mp_ne hM11_n1 hM11_am mp_noa), (mp_ne0 hM9_n1 hsd), (mp_ne0 hM10_n1 g_ad)⟩))
  have X_c1 : ¬ am_X [ma, sh, tu, s8, w8, ri, lf, rt, s5, w5, br, so, ao, sm, am, sd, ad] c1 := (am_nX rfl (by simp only [List.mem_cons, List.not_mem_nil, or_false, not_or]; exact ⟨(mp_ne hM11_c1 hM11_ma mp_nao), (mp_ne hM11_c1 hM11_sh mp_nao), (mp_ne hM11_c1 hM11_tu (mp_nsz (by decide))), (mp_ne hM11_c1 hM11_s8 (mp_nsz (by decide))), (mp_ne hM11_c1 hM11_w8 (mp_nsz (by decide))), (mp_ne hM11_c1 hM11_ri mp_nao), (mp_ne hM11_c1 hM11_lf (mp_nsz (by decide))), (mp_ne hM11_c1 hM11_rt (mp_nsz (by decide))), (mp_ne hM11_c1 hM11_s5 (mp_nsz (by decide))), (mp_ne hM11_c1 hM11_w5 (mp_nsz (by decide))), (mp_ne hM11_c1 hM11_br mp_nao), (mp_ne hM11_c1 hM11_so mp_nao), (mp_ne hM11_c1 hM11_ao mp_niq), (mp_ne hM11_c1 hM11_sm mp_nao), (mp_ne hM11_c1 hM11_am mp_niq), (mp_ne0 hM9_c1 hsd), (mp_ne0 hM10_c1 g_ad)⟩))
  have X_n2 : ¬ am_X [ma, sh, tu, s8, w8, ri, lf, rt, s5, w5, br, so, ao, sm, am, sd, ad] n2 := (am_nX rfl (by simp only [List.mem_cons, List.not_mem_nil, or_false, not_or]; exact ⟨(mp_ne hM11_n2 hM11_ma (mp_noo (by decide))), (mp_ne hM11_n2 hM11_sh (mp_noo (by decide))), (mp_ne hM11_n2 hM11_tu mp_noa), (mp_ne hM11_n2 hM11_s8 mp_noa), (mp_ne hM11_n2 hM11_w8 mp_noa), (mp_ne hM11_n2 hM11_ri (mp_noo (by decide))), (mp_ne hM11_n2 hM11_lf mp_noa), (mp_ne hM11_n2 hM11_rt mp_noa), (mp_ne hM11_n2 hM11_s5 mp_noa), (mp_ne hM11_n2 hM11_w5 mp_noa), (mp_ne hM11_n2 hM11_br (mp_noo (by decide))), (mp_ne hM11_n2 hM11_so (mp_noo (by decide))), (mp_ne hM11_n2 hM11_ao mp_noa), (mp_ne hM11_n2 hM11_sm (mp_noo (by decide))), (mp_ne hM11_n2 hM11_am mp_noa), (mp_ne0 hM9_n2 hsd), (mp_ne0 hM10_n2 g_ad)⟩))
  have X_c2 : ¬ am_X [ma, sh, tu, s8, w8, ri, lf, rt, s5, w5, br, so, ao, sm, am, sd, ad] c2 := (am_nX rfl (by simp only [List.mem_cons, List.not_mem_nil, or_false, not_or]; exact ⟨(mp_ne hM11_c2 hM11_ma mp_nao), (mp_ne hM11_c2 hM11_sh mp_nao), (mp_ne hM11_c2 hM11_tu (mp_nsz (by decide))), (mp_ne hM11_c2 hM11_s8 (mp_nsz (by decide))), (mp_ne hM11_c2 hM11_w8 (mp_nsz (by decide))), (mp_ne hM11_c2 hM11_ri mp_nao), (mp_ne hM11_c2 hM11_lf (mp_nsz (by decide))), (mp_ne hM11_c2 hM11_rt (mp_nsz (by decide))), (mp_ne hM11_c2 hM11_s5 (mp_nsz (by decide))), (mp_ne hM11_c2 hM11_w5 (mp_nsz (by decide))), (mp_ne hM11_c2 hM11_br mp_nao), (mp_ne hM11_c2 hM11_so mp_nao), (mp_ne hM11_c2 hM11_ao mp_niq), (mp_ne hM11_c2 hM11_sm mp_nao), (mp_ne hM11_c2 hM11_am mp_niq), (mp_ne0 hM9_c2 hsd), (mp_ne0 hM10_c2 g_ad)⟩))
  have X_n3 : ¬ am_X [ma, sh, tu, s8, w8, ri, lf, rt, s5, w5, br, so, ao, sm, am, sd, ad] n3 := (am_nX rfl (by simp only [List.mem_cons, List.not_mem_nil, or_false, not_or]; exact ⟨(Ne.symm (mp_ne0 hM10_ma g_n3)), (Ne.symm (mp_ne0 hM10_sh g_n3)), (Ne.symm (mp_ne0 hM10_tu g_n3)), (Ne.symm (mp_ne0 hM10_s8 g_n3)), (Ne.symm (mp_ne0 hM10_w8 g_n3)), (Ne.symm (mp_ne0 hM10_ri g_n3)), (Ne.symm (mp_ne0 hM10_lf g_n3)), (Ne.symm (mp_ne0 hM10_rt g_n3)), (Ne.symm (mp_ne0 hM10_s5 g_n3)), (Ne.symm (mp_ne0 hM10_w5 g_n3)), (Ne.symm (mp_ne0 hM10_br g_n3)), (Ne.symm (mp_ne0 hM10_so g_n3)), (Ne.symm (mp_ne0 hM10_ao g_n3)), (Ne.symm (mp_ne0 hM10_sm g_n3)), (Ne.symm (mp_ne0 hM10_am g_n3)), (Ne.symm (mp_ne0 hM10_sd g_n3)), (mp_ne hM11_n3 hM11_ad mp_noa)⟩))
  have X_c3 : ¬ am_X [ma, sh, tu, s8, w8, ri, lf, rt, s5, w5, br, so, ao, sm, am, sd, ad] c3 := (am_nX rfl (by simp only [List.mem_cons, List.not_mem_nil, or_false, not_or]; exact ⟨(Ne.symm (mp_ne0 hM10_ma g_c3)), (Ne.symm (mp_ne0 hM10_sh g_c3)), (Ne.symm (mp_ne0 hM10_tu g_c3)), (Ne.symm (mp_ne0 hM10_s8 g_c3)), (Ne.symm (mp_ne0 hM10_w8 g_c3)), (Ne.symm (mp_ne0 hM10_ri g_c3)), (Ne.symm (mp_ne0 hM10_lf g_c3)), (Ne.symm (mp_ne0 hM10_rt g_c3)), (Ne.symm (mp_ne0 hM10_s5 g_c3)), (Ne.symm (mp_ne0 hM10_w5 g_c3)), (Ne.symm (mp_ne0 hM10_br g_c3)), (Ne.symm (mp_ne0 hM10_so g_c3)), (Ne.symm (mp_ne0 hM10_ao g_c3)), (Ne.symm (mp_ne0 hM10_sm g_c3)), (Ne.symm (mp_ne0 hM10_am g_c3)), (Ne.symm (mp_ne0 hM10_sd g_c3)), (mp_ne hM11_c3 hM11_ad mp_niq)⟩))
  have X_y : ¬ am_X [ma, sh, tu, s8, w8, ri, lf, rt, s5, w5, br, so, ao, sm, am, sd, ad] y := (am_nX rfl (by simp only [List.mem_cons, List.not_mem_nil, or_false, not_or]; exact ⟨(mp_ne hM11_y hM11_ma (mp_noo (by decide))), (mp_ne hM11_y hM11_sh (mp_noo (by decide))), (mp_ne hM11_y hM11_tu mp_noa), (mp_ne hM11_y hM11_s8 mp_noa), (mp_ne hM11_y hM11_w8 mp_noa), (mp_ne hM11_y hM11_ri (mp_noo (by decide))), (mp_ne hM11_y hM11_lf mp_noa), (mp_ne hM11_y hM11_rt mp_noa), (mp_ne hM11_y hM11_s5 mp_noa), (mp_ne hM11_y hM11_w5 mp_noa), (mp_ne hM11_y hM11_br (mp_noo (by decide))), (mp_ne hM11_y hM11_so (mp_noo (by decide))), (mp_ne hM11_y hM11_ao mp_noa), (mp_ne hM11_y hM11_sm (mp_noo (by decide))), (mp_ne hM11_y hM11_am mp_noa), (mp_ne0 hM9_y hsd), (mp_ne0 hM10_y g_ad)⟩))
  have X_yb : ¬ am_X [ma, sh, tu, s8, w8, ri, lf, rt, s5, w5, br, so, ao, sm, am, sd, ad] yb := (am_nX rfl (by simp only [List.mem_cons, List.not_mem_nil, or_false, not_or]; exact ⟨(mp_ne hM11_yb hM11_ma mp_nao), (mp_ne hM11_yb hM11_sh mp_nao), (mp_ne hM11_yb hM11_tu (mp_nsz (by decide))), (mp_ne hM11_yb hM11_s8 (mp_nsz (by decide))), (mp_ne hM11_yb hM11_w8 (mp_nsz (by decide))), (mp_ne hM11_yb hM11_ri mp_nao), (mp_ne hM11_yb hM11_lf (mp_nsz (by decide))), (mp_ne hM11_yb hM11_rt (mp_nsz (by decide))), (mp_ne hM11_yb hM11_s5 (mp_nsz (by decide))), (mp_ne hM11_yb hM11_w5 (mp_nsz (by decide))), (mp_ne hM11_yb hM11_br mp_nao), (mp_ne hM11_yb hM11_so mp_nao), (mp_ne hM11_yb hM11_ao mp_niq), (mp_ne hM11_yb hM11_sm mp_nao), (mp_ne hM11_yb hM11_am mp_niq), (mp_ne0 hM9_yb hsd), (mp_ne0 hM10_yb g_ad)⟩))
  have X_nn : ¬ am_X [ma, sh, tu, s8, w8, ri, lf, rt, s5, w5, br, so, ao, sm, am, sd, ad] nn := (am_nX rfl (by simp only [List.mem_cons, List.not_mem_nil, or_false, not_or]; exact ⟨(mp_ne hM11_nn hM11_ma (mp_noo (by decide))), (mp_ne hM11_nn hM11_sh (mp_noo (by decide))), (mp_ne hM11_nn hM11_tu mp_noa), (mp_ne hM11_nn hM11_s8 mp_noa), (mp_ne hM11_nn hM11_w8 mp_noa), (mp_ne hM11_nn hM11_ri (mp_noo (by decide))), (mp_ne hM11_nn hM11_lf mp_noa), (mp_ne hM11_nn hM11_rt mp_noa), (mp_ne hM11_nn hM11_s5 mp_noa), (mp_ne hM11_nn hM11_w5 mp_noa), (mp_ne hM11_nn hM11_br (mp_noo (by decide))), (mp_ne hM11_nn hM11_so (mp_noo (by decide))), (mp_ne hM11_nn hM11_ao mp_noa), (mp_ne hM11_nn hM11_sm (mp_noo (by decide))), (mp_ne hM11_nn hM11_am mp_noa), (mp_ne0 hM9_nn hsd), (mp_ne0 hM10_nn g_ad)⟩))
  have X_nb : ¬ am_X [ma, sh, tu, s8, w8, ri, lf, rt, s5, w5, br, so, ao, sm, am, sd, ad] nb := (am_nX rfl (by simp only [List.mem_cons, List.not_mem_nil, or_false, not_or]; exact ⟨(mp_ne hM11_nb hM11_ma mp_nao), (mp_ne hM11_nb hM11_sh mp_nao), (mp_ne hM11_nb hM11_tu (mp_nsz (by decide))), (mp_ne hM11_nb hM11_s8 (mp_nsz (by decide))), (mp_ne hM11_nb hM11_w8 (mp_nsz (by decide))), (mp_ne hM11_nb hM11_ri mp_nao), (mp_ne hM11_nb hM11_lf (mp_nsz (by decide))), (mp_ne hM11_nb hM11_rt (mp_nsz (by decide))), (mp_ne hM11_nb hM11_s5 (mp_nsz (by decide))), (mp_ne hM11_nb hM11_w5 (mp_nsz (by decide))), (mp_ne hM11_nb hM11_br mp_nao), (mp_ne hM11_nb hM11_so mp_nao), (mp_ne hM11_nb hM11_ao mp_niq), (mp_ne hM11_nb hM11_sm mp_nao), (mp_ne hM11_nb hM11_am mp_niq), (mp_ne0 hM9_nb hsd), (mp_ne0 hM10_nb g_ad)⟩))
  have X_h : ¬ am_X [ma, sh, tu, s8, w8, ri, lf, rt, s5, w5, br, so, ao, sm, am, sd, ad] h := (am_nX rfl (by simp only [List.mem_cons, List.not_mem_nil, or_false, not_or]; exact ⟨(mp_ne0 hM7_h hma), (mp_ne0 hM3_h hsh), (mp_ne0 hM4_h x23f2), (mp_ne0 hM4_h x23f0), (mp_ne0 hM4_h x23f1), (mp_ne0 hM5_h hri), (mp_ne0 hM6_h x34f2), (mp_ne0 hM6_h x34f3), (mp_ne0 hM6_h x34f0), (mp_ne0 hM6_h x34f1), (mp_ne0 hM8_h w_br), (mp_ne0 hM8_h w_so), (mp_ne0 hM8_h w_ao), (mp_ne0 hM8_h w_sm), (mp_ne0 hM8_h w_am), (mp_ne0 hM9_h hsd), (mp_ne0 hM10_h g_ad)⟩))
  have X_ro : ¬ am_X [ma, sh, tu, s8, w8, ri, lf, rt, s5, w5, br, so, ao, sm, am, sd, ad] ro := (am_nX rfl (by simp only [List.mem_cons, List.not_mem_nil, or_false, not_or]; exact ⟨(mp_ne0 hM7_ro hma), (mp_ne0 hM3_ro hsh), (mp_ne0 hM4_ro x23f2), (mp_ne0 hM4_ro x23f0), (mp_ne0 hM4_ro x23f1), (mp_ne0 hM5_ro hri), (mp_ne0 hM6_ro x34f2), (mp_ne0 hM6_ro x34f3), (mp_ne0 hM6_ro x34f0), (mp_ne0 hM6_ro x34f1), (mp_ne0 hM8_ro w_br), (mp_ne0 hM8_ro w_so), (mp_ne0 hM8_ro w_ao), (mp_ne0 hM8_ro w_sm), (mp_ne0 hM8_ro w_am), (mp_ne0 hM9_ro hsd), (mp_ne0 hM10_ro g_ad)⟩))
  have T_n1 : TH E (am_X [ma, sh, tu, s8, w8, ri, lf, rt, s5, w5, br, so, ao, sm, am, sd, ad]) M11 n1 [] := ⟨X_n1, c1, X_c1, hM11_n1, hM11_c1, by decide⟩
  have T_n2 : TH E (am_X [ma, sh, tu, s8, w8, ri, lf, rt, s5, w5, br, so, ao, sm, am, sd, ad]) M11 n2 [] := ⟨X_n2, c2, X_c2, hM11_n2, hM11_c2, by decide⟩
  have T_n3 : TH E (am_X [ma, sh, tu, s8, w8, ri, lf, rt, s5, w5, br, so, ao, sm, am, sd, ad]) M11 n3 [] := ⟨X_n3, c3, X_c3, hM11_n3, hM11_c3, by decide⟩
  have T_y : TH E (am_X [ma, sh, tu, s8, w8, ri, lf, rt, s5, w5, br, so, ao, sm, am, sd, ad]) M11 y (am_of 1) := ⟨X_y, yb, X_yb, hM11_y, by rw [am_of1]; exact hM11_yb, by rw [am_of1]; decide⟩
  have T_nn : TH E (am_X [ma, sh, tu, s8, w8, ri, lf, rt, s5, w5, br, so, ao, sm, am, sd, ad]) M11 nn (am_of 0) := ⟨X_nn, nb, X_nb, hM11_nn, by rw [am_of0]; exact hM11_nb, by rw [am_of0]; decide⟩
  have hIV : IV E (am_X [ma, sh, tu, s8, w8, ri, lf, rt, s5, w5, br, so, ao, sm, am, sd, ad]) M11 (am_L [ma, sh, tu, s8, w8, ri, lf, rt, s5, w5, br, so, ao, sm, am, sd, ad]) y nn [] [] [] [] 0 := ⟨hM11_ma, T_y, T_nn, ⟨hM11_sh, hM11_ri, ⟨_, hM11_tu⟩, ⟨_, hM11_s8⟩, ⟨_, hM11_w8⟩, ⟨_, hM11_lf⟩, ⟨_, hM11_rt⟩, ⟨_, hM11_s5⟩, ⟨_, hM11_w5⟩⟩, hM11_br, ⟨n1, (fun _ => some n1), hM11_so, hM11_ao, trivial, by decide, T_n1⟩, ⟨n2, (fun _ => some n2), hM11_sm, hM11_am, trivial, by decide, T_n2⟩, ⟨n3, (fun _ => some n3), hM11_sd, hM11_ad, trivial, by decide, T_n3⟩⟩
  have hXM : ∀ a, am_X [ma, sh, tu, s8, w8, ri, lf, rt, s5, w5, br, so, ao, sm, am, sd, ad] a → M a = none := fun a ⟨i, hi, e⟩ => by
    have hm : a ∈ [ma, sh, tu, s8, w8, ri, lf, rt, s5, w5, br, so, ao, sm, am, sd, ad] := e ▸ am_Lm rfl hi
    simp only [List.mem_cons, List.not_mem_nil, or_false] at hm
    rcases hm with rfl | rfl | rfl | rfl | rfl | rfl | rfl | rfl | rfl | rfl | rfl | rfl | rfl | rfl | rfl | rfl | rfl
    all_goals first | exact F_ma | exact F_sh | exact F_tu | exact F_s8 | exact F_w8 | exact F_ri | exact F_lf | exact F_rt | exact F_s5 | exact F_w5 | exact F_br | exact F_so | exact F_ao | exact F_sm | exact F_am | exact F_sd | exact F_ad
  exact j_vret hκ rfl (by omega) (by omega) d_De_init_70 ⟨rfl, am_X [ma, sh, tu, s8, w8, ri, lf, rt, s5, w5, br, so, ao, sm, am, sd, ad], am_L [ma, sh, tu, s8, w8, ri, lf, rt, s5, w5, br, so, ao, sm, am, sd, ad], y, nn, ro, hLY, hIV, hM11_h, hM11_ro, X_h, X_ro, F_ro, hXM, fun a e z z0 => by
    have z_1 := mp_kp eM1.symm (mp_ne0 z hro) z
    have z_2 := mp_kp eM2.symm z0 z_1
    have z_3 := mp_kp eM3.symm z0 z_2
    have z_4 := mp_kp eM4.symm (mp_ne0 z_3 hsh) z_3
    have z_5 := (x23r a (mp_ne0 z_3 hsh) (mp_ne0 z_4 x23f0) (mp_ne0 z_4 x23f1) (mp_ne0 z_4 x23f2)).trans z_4
    have z_6 := mp_kp eM5.symm z0 z_5
    have z_7 := mp_kp eM6.symm (mp_ne0 z_6 hri) z_6
    have z_8 := (x34r a (mp_ne0 z_6 hri) (mp_ne0 z_7 x34f0) (mp_ne0 z_7 x34f1) (mp_ne0 z_7 x34f2) (mp_ne0 z_7 x34f3)).trans z_7
    have z_9 := mp_kp eM7.symm z0 z_8
    have z_10 := mp_kp eM8.symm (mp_ne0 z_9 hma) z_9
    have z_11 := fr53 a _ z_10 (mp_ne0 z_9 hma)
    have z_12 := mp_kp eM9.symm z0 z_11
    have z_13 := mp_kp eM10.symm (mp_ne0 z_12 hsd) z_12
    have z_14 := (fr64 a (mp_ne0 z_12 hsd) (mp_ne0 z_13 g_ad) (mp_ne0 z_13 g_n3) (mp_ne0 z_13 g_c3)).trans z_13
    have z_15 := mp_kp eM11.symm z0 z_14
    exact z_15⟩
