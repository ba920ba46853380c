def am_two (g : Nat → Int32) (j len : Nat) : Option (List am_T) := match am_run g j (j - 0 + 1) 0 ([], [], [], 0) with
  | none => none
  | some s1 => match am_run g len (len - j + 1) j (s1.1, [], [], 0) with
    | none => none
    | some s2 => some s2.1
def am_ans : Option (List am_T) → Nat
  | none => 0
  | some ms => if am_true (ms.getD 0 []) then 2 else 1
/-- the desk behind a run: its row is used up, the stack is the new one if there is one -/
def RN (E : mp_E) (X : Nat → Prop) (M : mp_M) (y n h ro : Nat) (g : Nat → Int32) (zs : List am_T) (r : Option (List am_T)) : mp_M → Prop := fun N =>
  ∃ (L : Nat → Nat) (m o : List am_T) (b : List Bool) (k : Nat), LY X L ∧ IV E X N L y n (match r with | none => zs | some ms => ms) m o b k ∧ N h = some (mp_o 6 [.ref ro, .int (nI 0), .ref (L 1), .ref (L 5), .ref (L 0), .ref (L 15)]) ∧ N ro = some (mp_b E 1000 g) ∧ ∀ a e, M a = some e → ¬ X a → a ≠ h → N a = some e
set_option maxHeartbeats 4000000 in
set_option maxRecDepth 100000 in
theorem c_De_run (l : Launch) (hl0 : l.stackTraces = false) (E : mp_E) (M : mp_M) (X : Nat → Prop) (L : Nat → Nat) (y n : Nat) (zs m o : List am_T) (b : List Bool) (k : Nat) (h ro len : Nat) (g : Nat → Int32) (i : Int32) (hI : IV E X M L y n zs m o b k) (hL : LY X L) (h0 : M h = some (mp_o 6 [.ref ro, .int (nI len), .ref (L 1), .ref (L 5), .ref (L 0), .ref (L 15)])) (h1 : M ro = some (mp_b E 1000 g)) (hXh : ¬ X h) (hXr : ¬ X ro) (hlen : len ≤ 1000) (hfit : ∀ i, i < 1000 → fits .byte (.int (g i)) = true) : mp_Ct l m_De_run E M 9 (4 * len + 1) (66 * len + 6) [.ref h, .int i] (mp_pq (fun v N => ∃ j, j ≤ len ∧ i = nI j ∧ v = some (.int (nI (am_ans (am_two g j len)))) ∧ RN E X M y n h ro g zs (am_two g j len) N) (fun x N => x = "java/lang/IllegalArgumentException" ∧ (¬ ∃ j, j ≤ len ∧ i = nI j) ∧ N = M)) := by
  refine mp_Ct.of (by decide) (Nat.le_of_ble_eq_true rfl) fun Γ κ hl hκ0 => ?_
  subst hl
  have hl := hl0
  obtain ⟨hκ, hX⟩ := mp_k2 hκ0
  obtain ⟨hκd, hκc, hκs, -⟩ := id hκ
  have hlm := hI.sm.le
  have hlo := hI.so.le
  obtain ⟨z0_m, u0_m⟩ := hI.sm.o
  obtain ⟨z0_o, u0_o⟩ := hI.so.o
  show mp_J Γ m_De_run E κ M [(0, .ref h), (1, .int i)] 0 [] 0 0
  refine j_aload_n d_De_run_0 rfl 0 rfl ?_
  refine j_iload_n d_De_run_1 rfl 1 rfl ?_
  refine j_callV (As := [.int i]) (rest := []) (c_De_rowHas Γ.l E M h ro len (L 1) (L 5) (L 0) (L 15) i h0) Y_De_rowHas w_302 w_304 ws_2 h0 rfl rfl rfl (Nat.le_of_ble_eq_true rfl) (by omega) (by omega) (by omega) d_De_run_2 (fun v2 N2 p2 => ?_)
  obtain ⟨rfl, q2⟩ := p2
  obtain rfl := q2.symm
  show mp_J Γ m_De_run E κ M [(0, .ref h), (1, .int i)] 5 [.int (tf (decide (¬ i < 0 ∧ i ≤ nI len)))] 0 0
  refine j_tif_ne 16 d_De_run_5 (by decide) (fun b5 => ?_) (fun b5 => ?_)
  · skip
    obtain ⟨j, hj, hij⟩ := (am_i32 hlen).mp (of_decide_eq_true b5)
    rw [hij]
    refine j_aload_n d_De_run_16 rfl 0 rfl ?_
    refine j_get F_De h0 1 (by decide) w_191 (Or.inl rfl) rfl d_De_run_17 ?_
    refine j_istore_n [(2, .int (nI len)), (0, .ref h), (1, .int (nI j))] d_De_run_20 rfl (by decide) rfl ?_
    refine j_aload_n d_De_run_21 rfl 1 rfl ?_
    refine j_iconst (v := nI 0) d_De_run_22 (by decide) ?_
    refine j_put F_De h0 1 (by decide) w_191 (Or.inl rfl) rfl rfl rfl (Nat.le_of_ble_eq_true rfl) d_De_run_23 ?_
    show mp_J Γ m_De_run E κ (mp_up M h (mp_o 6 [.ref ro, .int (nI 0), .ref (L 1), .ref (L 5), .ref (L 0), .ref (L 15)])) [(2, .int (nI len)), (0, .ref h), (1, .int (nI j))] 26 [] 0 0
    generalize eM1 : mp_up M h (mp_o 6 [.ref ro, .int (nI 0), .ref (L 1), .ref (L 5), .ref (L 0), .ref (L 15)]) = M1
    have hM1_h : M1 h = some (mp_o 6 [.ref ro, .int (nI 0), .ref (L 1), .ref (L 5), .ref (L 0), .ref (L 15)]) := by rw [← eM1]; exact mp_s
    have I23 : IV E X M1 L y n zs m o b k := by rw [← eM1]; exact hI.desk hL h0 hXh
    have d1_23 : M1 ro = some (mp_b E 1000 g) := by rw [← eM1, mp_n (mp_ne h1 h0 mp_nao)]; exact h1
    have fH : ∀ a e, M a = some e → ¬ X a → a ≠ h → M1 a = some e := fun a e z1 z2 z3 => by rw [← eM1, mp_n z3]; exact z1
    obtain ⟨z23_m, u23_m⟩ := I23.sm.o
    obtain ⟨z23_o, u23_o⟩ := I23.so.o
    refine j_aload_n d_De_run_26 rfl 1 rfl ?_
    refine j_get F_De hM1_h 4 (by decide) w_194 (Or.inl rfl) rfl d_De_run_27 ?_
    refine j_callV (As := []) (rest := []) (c_Ma_clear Γ.l E M1 X L y n zs m o b k I23 hL) Y_Ma_clear w_328 w_329 w_330 I23.mo rfl rfl rfl (Nat.le_of_ble_eq_true rfl) (by omega) (by omega) (by omega) d_De_run_30 (fun v30 N30 p30 => ?_)
    obtain ⟨rfl, I30, f30⟩ := p30
    obtain ⟨z30_2m, u30_2m⟩ := I30.sm.o
    obtain ⟨z30_2o, u30_2o⟩ := I30.so.o
    have d0_30 := f30 h _ hM1_h hXh
    have d1_30 := f30 ro _ d1_23 hXr
    show mp_J Γ m_De_run E κ N30 [(2, .int (nI len)), (0, .ref h), (1, .int (nI j))] 33 [] 0 0
    refine j_aload_n d_De_run_33 rfl 1 rfl ?_
    refine j_get F_De d0_30 4 (by decide) w_194 (Or.inl rfl) rfl d_De_run_34 ?_
    refine j_aload_n d_De_run_37 rfl 1 rfl ?_
    refine j_get F_De d0_30 0 (by decide) w_190 (Or.inl rfl) rfl d_De_run_38 ?_
    refine j_iconst (v := nI 0) d_De_run_41 (by decide) ?_
    refine j_iload_n d_De_run_42 rfl 2 rfl ?_
    refine j_callV (As := [.ref ro, .int (nI 0), .int (nI j)]) (rest := []) (c_Ma_play Γ.l E N30 X L y n zs ([]) o b k ro 1000 0 j g I30 hL d1_30 hfit (by decide) hXr (by omega) (by omega)) Y_Ma_play w_336 w_337 w_338 I30.mo rfl rfl rfl (Nat.le_of_ble_eq_true rfl) (by omega) (by omega) (by omega) d_De_run_43 (fun v43 N43 p43 => ?_)
    obtain ⟨w43, m43, o43, b43_, k43, rfl, I43, f43, T43, F43⟩ := p43
    obtain ⟨z43_3m, u43_3m⟩ := I43.sm.o
    obtain ⟨z43_3o, u43_3o⟩ := I43.so.o
    have d0_43 := (f30.trans f43) h _ hM1_h hXh
    have d1_43 := (f30.trans f43) ro _ d1_23 hXr
    show mp_J Γ m_De_run E κ N43 [(2, .int (nI len)), (0, .ref h), (1, .int (nI j))] 46 [.int (tf w43)] (0 + 4 * (j - 0)) (0 + 66 * (j - 0))
    refine j_tif_eq 65 d_De_run_46 (by decide) (fun b46 => ?_) (fun b46 => ?_)
    · skip
      refine j_iconst (v := nI 0) d_De_run_65 (by decide) ?_
      exact j_iret hκ rfl (by omega) (by omega) d_De_run_66 ⟨j, hj, hij, by rw [show am_two g j len = none from (by unfold am_two; rw [F43 b46])]; rfl, by rw [show am_two g j len = none from (by unfold am_two; rw [F43 b46])]; exact ⟨L, _, _, _, _, hL, I43, d0_43, d1_43, fun a e9 z1 z2 z3 => (f30.trans f43) a e9 (fH a e9 z1 z2 z3) z2⟩⟩
    · skip
      refine j_aload_n d_De_run_49 rfl 1 rfl ?_
      refine j_get F_De d0_43 4 (by decide) w_194 (Or.inl rfl) rfl d_De_run_50 ?_
      refine j_aload_n d_De_run_53 rfl 1 rfl ?_
      refine j_get F_De d0_43 0 (by decide) w_190 (Or.inl rfl) rfl d_De_run_54 ?_
      refine j_iload_n d_De_run_57 rfl 2 rfl ?_
      refine j_iload_n d_De_run_58 rfl 0 rfl ?_
      refine j_callV (As := [.ref ro, .int (nI j), .int (nI len)]) (rest := []) (c_Ma_play Γ.l E N43 X L y n zs m43 o43 b43_ k43 ro 1000 j len g I43 hL d1_43 hfit (by decide) hXr (by omega) (by omega)) Y_Ma_play w_336 w_337 w_338 I43.mo rfl rfl rfl (Nat.le_of_ble_eq_true rfl) (by omega) (by omega) (by omega) d_De_run_59 (fun v59 N59 p59 => ?_)
      obtain ⟨w59, m59, o59, b59_, k59, rfl, I59, f59, T59, F59⟩ := p59
      obtain ⟨z59_4m, u59_4m⟩ := I59.sm.o
      obtain ⟨z59_4o, u59_4o⟩ := I59.so.o
      have d0_59 := ((f30.trans f43).trans f59) h _ hM1_h hXh
      have d1_59 := ((f30.trans f43).trans f59) ro _ d1_23 hXr
      show mp_J Γ m_De_run E κ N59 [(2, .int (nI len)), (0, .ref h), (1, .int (nI j))] 62 [.int (tf w59)] (0 + 4 * (j - 0) + 4 * (len - j)) (0 + 66 * (j - 0) + 66 * (len - j))
      refine j_tif_ne 67 d_De_run_62 (by decide) (fun b62 => ?_) (fun b62 => ?_)
      · skip
        refine j_aload_n d_De_run_67 rfl 1 rfl ?_
        refine j_aload_n d_De_run_68 rfl 1 rfl ?_
        refine j_get F_De d0_59 4 (by decide) w_194 (Or.inl rfl) rfl d_De_run_69 ?_
        refine j_aload_n d_De_run_72 rfl 1 rfl ?_
        refine j_get F_De d0_59 5 (by decide) w_195 (Or.inl rfl) rfl d_De_run_73 ?_
        refine j_callV (As := [.ref (L 15)]) (rest := [.ref h]) (c_Ma_handOver Γ.l E N59 X L y n zs m59 o59 b59_ k59 I59 hL) Y_Ma_handOver w_844 w_845 w_846 I59.mo rfl rfl rfl (Nat.le_of_ble_eq_true rfl) (by omega) (by omega) (by omega) d_De_run_76 (fun v76 N76 p76 => ?_)
        obtain ⟨rfl, I76, f76⟩ := p76
        have d0_76 := (((f30.trans f43).trans f59).trans f76) h _ hM1_h hXh
        have d1_76 := (((f30.trans f43).trans f59).trans f76) ro _ d1_23 hXr
        show mp_J Γ m_De_run E κ N76 [(2, .int (nI len)), (0, .ref h), (1, .int (nI j))] 79 [.ref (L 13), .ref h] (0 + 4 * (j - 0) + 4 * (len - j)) (0 + 66 * (j - 0) + 66 * (len - j))
        refine j_put F_De d0_76 5 (by decide) w_195 (Or.inl rfl) rfl rfl rfl (Nat.le_of_ble_eq_true rfl) d_De_run_79 ?_
        show mp_J Γ m_De_run E κ (mp_up N76 h (mp_o 6 [.ref ro, .int (nI 0), .ref (L 1), .ref (L 5), .ref (L 0), .ref (L 13)])) [(2, .int (nI len)), (0, .ref h), (1, .int (nI j))] 82 [] (0 + 4 * (j - 0) + 4 * (len - j)) (0 + 66 * (j - 0) + 66 * (len - j))
        generalize eM5 : mp_up N76 h (mp_o 6 [.ref ro, .int (nI 0), .ref (L 1), .ref (L 5), .ref (L 0), .ref (L 13)]) = M5
        have hM5_h : M5 h = some (mp_o 6 [.ref ro, .int (nI 0), .ref (L 1), .ref (L 5), .ref (L 0), .ref (L 13)]) := by rw [← eM5]; exact mp_s
        have I79 : IV E X M5 (am_sw L) y n m59 zs o59 b59_ k59 := by rw [← eM5]; exact I76.desk hL.sw d0_76 hXh
        have s79 : SK E X M5 (L 13) (L 14) m59 := I79.sd
        obtain ⟨z82, u82⟩ := s79.o
        have R79 : RN E X M y n h ro g zs (some m59) M5 := ⟨am_sw L, zs, o59, b59_, k59, hL.sw, I79, hM5_h, by rw [← eM5, mp_n (mp_ne d1_76 d0_76 mp_nao)]; exact d1_76, fun a e9 z1 z2 z3 => by rw [← eM5, mp_n z3]; exact (((f30.trans f43).trans f59).trans f76) a e9 (fH a e9 z1 z2 z3) z2⟩
        refine j_aload_n d_De_run_82 rfl 1 rfl ?_
        refine j_get F_De hM5_h 5 (by decide) w_195 (Or.inl rfl) rfl d_De_run_83 ?_
        refine j_iconst (v := nI 0) d_De_run_86 (by decide) ?_
        refine j_callV (As := [.int (nI 0)]) (rest := []) (k_peek Γ.l s79 0 (by decide)) Y_St_peek w_848 w_686 w_687 u82 rfl rfl rfl (Nat.le_of_ble_eq_true rfl) (by omega) (by omega) (by omega) d_De_run_87 (fun v87 N87 p87 => ?_)
        obtain ⟨q87, t87, rfl, ht87⟩ := p87
        obtain rfl := q87.symm
        obtain ⟨zt87, ut87⟩ := ht87.o
        show mp_J Γ m_De_run E κ M5 [(2, .int (nI len)), (0, .ref h), (1, .int (nI j))] 90 [.ref t87] (0 + 4 * (j - 0) + 4 * (len - j)) (0 + 66 * (j - 0) + 66 * (len - j))
        refine j_callV (As := []) (rest := []) (t_true Γ.l ht87) Y_Th_isTrue w_849 w_379 w_380 ut87 rfl rfl rfl (Nat.le_of_ble_eq_true rfl) (by omega) (by omega) (by omega) d_De_run_90 (fun v90 N90 p90 => ?_)
        obtain ⟨rfl, q90⟩ := p90
        obtain rfl := q90.symm
        show mp_J Γ m_De_run E κ M5 [(2, .int (nI len)), (0, .ref h), (1, .int (nI j))] 93 [.int (tf (am_true (m59.getD 0 [])))] (0 + 4 * (j - 0) + 4 * (len - j)) (0 + 66 * (j - 0) + 66 * (len - j))
        refine j_tif_eq 100 d_De_run_93 (by decide) (fun b93 => ?_) (fun b93 => ?_)
        · skip
          refine j_iconst (v := nI 1) d_De_run_100 (by decide) ?_
          exact j_iret hκ rfl (by omega) (by omega) d_De_run_101 ⟨j, hj, hij, by rw [show am_two g j len = some m59 from by unfold am_two; rw [T43 b46]; simp only; rw [T59 b62]]; show _ = some (Value.int (nI (if am_true (m59.getD 0 []) = true then 2 else 1))); rw [b93]; rfl, by rw [show am_two g j len = some m59 from by unfold am_two; rw [T43 b46]; simp only; rw [T59 b62]]; exact R79⟩
        · skip
          refine j_iconst (v := nI 2) d_De_run_96 (by decide) ?_
          refine j_goto (tgt := 101) d_De_run_97 (by decide) ?_
          exact j_iret hκ rfl (by omega) (by omega) d_De_run_101 ⟨j, hj, hij, by rw [show am_two g j len = some m59 from by unfold am_two; rw [T43 b46]; simp only; rw [T59 b62]]; show _ = some (Value.int (nI (if am_true (m59.getD 0 []) = true then 2 else 1))); rw [b93]; rfl, by rw [show am_two g j len = some m59 from by unfold am_two; rw [T43 b46]; simp only; rw [T59 b62]]; exact R79⟩
      · skip
        refine j_iconst (v := nI 0) d_De_run_65 (by decide) ?_
        exact j_iret hκ rfl (by omega) (by omega) d_De_run_66 ⟨j, hj, hij, by rw [show am_two g j len = none from (by unfold am_two; rw [T43 b46]; simp only; rw [F59 b62])]; rfl, by rw [show am_two g j len = none from (by unfold am_two; rw [T43 b46]; simp only; rw [F59 b62])]; exact ⟨L, _, _, _, _, hL, I59, d0_59, d1_59, fun a e9 z1 z2 z3 => ((f30.trans f43).trans f59) a e9 (fH a e9 z1 z2 z3) z2⟩⟩
  · skip
    exact j_throw (names := ["java/lang/RuntimeException", "java/lang/Exception"]) hl (by decide) (by decide) w_306 w_17 x_IAE g_IAE d_De_run_8 d_De_run_11 d_De_run_12 d_De_run_15 (by decide) (Nat.le_of_ble_eq_true rfl) (by omega) rfl (by omega) (by omega) (hX _ _ ⟨rfl, fun hz => of_decide_eq_false b5 ((am_i32 hlen).mpr hz), rfl⟩)
