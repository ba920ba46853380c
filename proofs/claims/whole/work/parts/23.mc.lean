theorem i6_1 : (1 : Int64).toInt = 1 := by decide
theorem am_bd {p : Prop} [Decidable p] {w : Bool} (h : decide p = w) : am_bt (decide p) = am_of (if w then 1 else 0) := by rw [h]; rfl
set_option maxHeartbeats 4000000 in
set_option maxRecDepth 100000 in
theorem c_Ma_changeNumber (l : Launch) (E : mp_E) (M : mp_M) (X : Nat → Prop) (L : Nat → Nat) (y n : Nat) (zs m o : List am_T) (b : List Bool) (k : Nat) (c : Nat) (hI : IV E X M L y n zs m o b k) (hL : LY X L) (hc : c < 256) : mp_Cr l m_Ma_changeNumber E M 6 2 8 [.ref (L 0), .int (nI c)] (MP E X M L y n zs (a_chg c m o b k)) := by
  refine mp_Cr.of (by decide) (Nat.le_of_ble_eq_true rfl) fun Γ κ hl hκ => ?_
  subst hl
  obtain ⟨hκd, hκc, hκs, -⟩ := id hκ
  have hlm := hI.sm.le
  have hlo := hI.so.le
  obtain ⟨z0_m, u0_m⟩ := hI.sm.o
  obtain ⟨z0_o, u0_o⟩ := hI.so.o
  show mp_J Γ m_Ma_changeNumber E κ M [(0, .ref (L 0)), (1, .int (nI c))] 0 [] 0 0
  refine j_aload_n d_Ma_changeNumber_0 rfl 0 rfl ?_
  refine j_get F_Ma hI.mo 6 (by decide) w_169 (Or.inl rfl) rfl d_Ma_changeNumber_1 ?_
  refine j_iconst (v := nI 1) d_Ma_changeNumber_4 (by decide) ?_
  refine j_callV (As := [.int (nI 1)]) (rest := []) (k_nums Γ.l hI.sm 1 (by decide)) Y_St_holdsNumbers w_739 w_740 w_741 u0_m rfl rfl rfl (Nat.le_of_ble_eq_true rfl) (by omega) (by omega) (by omega) d_Ma_changeNumber_5 (fun v5 N5 p5 => ?_)
  obtain ⟨rfl, q5⟩ := p5
  obtain rfl := q5.symm
  show mp_J Γ m_Ma_changeNumber E κ M [(0, .ref (L 0)), (1, .int (nI c))] 8 [.int (tf (decide (am_ns m 1)))] 0 0
  refine j_tif_ne 13 d_Ma_changeNumber_8 (by decide) (fun b8 => ?_) (fun b8 => ?_)
  · skip
    have hn := of_decide_eq_true b8
    have hN : ¬ ¬ am_ns m 1 := fun h => h hn
    have hn1 := hn.1
    have l0 := hn.2 0 (by decide)
    have v0 := am_num_lim l0
    refine j_aload_n d_Ma_changeNumber_13 rfl 0 rfl ?_
    refine j_get F_Ma hI.mo 6 (by decide) w_169 (Or.inl rfl) rfl d_Ma_changeNumber_14 ?_
    refine j_callV (As := []) (rest := []) (i_popd Γ.l (j := 0) hI hL (by omega)) Y_St_pop w_374 w_375 w_376 u0_m rfl rfl rfl (Nat.le_of_ble_eq_true rfl) (by omega) (by omega) (by omega) d_Ma_changeNumber_17 (fun v17 N17 p17 => ?_)
    obtain ⟨t17, rfl, ht17, I17x, f17⟩ := p17
    have I17 : IV E X N17 L y n zs (m.drop 1) o b k := I17x
    obtain ⟨z17_1m, u17_1m⟩ := I17.sm.o
    obtain ⟨z17_1o, u17_1o⟩ := I17.so.o
    obtain ⟨z17_1_t17, u17_1_t17⟩ := ht17.o
    show mp_J Γ m_Ma_changeNumber E κ N17 [(0, .ref (L 0)), (1, .int (nI c))] 20 [.ref t17] 0 0
    refine j_callV (As := []) (rest := []) (t_num Γ.l ht17 l0) Y_Th_toNumber w_711 w_712 w_713 u17_1_t17 rfl rfl rfl (Nat.le_of_ble_eq_true rfl) (by omega) (by omega) (by omega) d_Ma_changeNumber_20 (fun v20 N20 p20 => ?_)
    obtain ⟨rfl, q20⟩ := p20
    obtain rfl := q20.symm
    show mp_J Γ m_Ma_changeNumber E κ N17 [(0, .ref (L 0)), (1, .int (nI c))] 23 [.long (am_num (m.getD 0 []))] 0 0
    refine j_lstore_n [(2, .long (am_num (m.getD 0 []))), (0, .ref (L 0)), (1, .int (nI c))] d_Ma_changeNumber_23 rfl (by decide) rfl ?_
    refine j_iload_n d_Ma_changeNumber_24 rfl 2 rfl ?_
    rcases (show c < 139 ∨ 146 < c ∨ c = 139 ∨ c = 140 ∨ c = 141 ∨ c = 142 ∨ c = 143 ∨ c = 144 ∨ c = 145 ∨ c = 146 by omega) with hz9 | hz9 | rfl | rfl | rfl | rfl | rfl | rfl | rfl | rfl
    · skip
      refine j_tableOut 148 d_Ma_changeNumber_25 (Or.inl (by rw [nI_toInt (by omega)]; omega)) (by decide) ?_
      refine j_iconst (v := nI 0) d_Ma_changeNumber_148 (by decide) ?_
      exact j_zret hκ rfl (by first | exact Or.inl rfl | exact Or.inr rfl) (by omega) (by omega) d_Ma_changeNumber_149 (MP.f I17 f17 (fun s hs => by unfold a_chg at hs; rw [if_neg hN, if_neg (by omega), if_neg (by omega), if_neg (by omega), if_neg (by omega), if_neg (by omega), if_neg (by omega)] at hs; cases hs))
    · skip
      refine j_tableOut 148 d_Ma_changeNumber_25 (Or.inr (by rw [nI_toInt (by omega)]; omega)) (by decide) ?_
      refine j_iconst (v := nI 0) d_Ma_changeNumber_148 (by decide) ?_
      exact j_zret hκ rfl (by first | exact Or.inl rfl | exact Or.inr rfl) (by omega) (by omega) d_Ma_changeNumber_149 (MP.f I17 f17 (fun s hs => by unfold a_chg at hs; rw [if_neg hN, if_neg (by omega), if_neg (by omega), if_neg (by omega), if_neg (by omega), if_neg (by omega), if_neg (by omega)] at hs; cases hs))
    · skip
      refine j_tableIn 72 d_Ma_changeNumber_25 (by decide) (by decide) rfl (by decide) ?_
      refine j_aload_n d_Ma_changeNumber_72 rfl 1 rfl ?_
      refine j_lload_n d_Ma_changeNumber_73 rfl 0 rfl ?_
      refine j_lconst (v := 1) d_Ma_changeNumber_74 (by decide) ?_
      refine j_ladd d_Ma_changeNumber_75 ?_
      refine j_callV (As := [.long ((am_num (m.getD 0 [])) + 1)]) (rest := []) (c_Ma_pushNumber Γ.l E N17 X L y n zs (m.drop 1) o b k ((am_num (m.getD 0 [])) + 1) I17 hL (am_mag_lt (by rw [i6_add (by rw [i6_1]; omega), i6_1]; omega))) Y_Ma_pushNumber w_669 w_671 ws_9 I17.mo rfl rfl rfl (Nat.le_of_ble_eq_true rfl) (by omega) (by omega) (by omega) d_Ma_changeNumber_76 (fun v76 N76 p76 => ?_)
      obtain ⟨w76, m76, o76, b76_, k76, rfl, I76, f76, T76, F76⟩ := p76
      have ht17_76_2 := ht17.keep f76
      obtain ⟨z76_2m, u76_2m⟩ := I76.sm.o
      obtain ⟨z76_2o, u76_2o⟩ := I76.so.o
      obtain ⟨z76_2_t17, u76_2_t17⟩ := ht17_76_2.o
      show mp_J Γ m_Ma_changeNumber E κ N76 [(2, .long (am_num (m.getD 0 []))), (0, .ref (L 0)), (1, .int (nI 139))] 79 [.int (tf w76)] (0 + 2) (0 + 8)
      refine j_goto (tgt := 149) d_Ma_changeNumber_79 (by decide) ?_
      exact j_zret hκ rfl (tf_01 _) (by omega) (by omega) d_Ma_changeNumber_149 (MP.k T76 F76 I76 (f17.trans f76) (by unfold a_chg; rw [if_neg hN, if_pos (by omega)]))
    · skip
      refine j_tableIn 82 d_Ma_changeNumber_25 (by decide) (by decide) rfl (by decide) ?_
      refine j_aload_n d_Ma_changeNumber_82 rfl 1 rfl ?_
      refine j_lload_n d_Ma_changeNumber_83 rfl 0 rfl ?_
      refine j_lconst (v := 1) d_Ma_changeNumber_84 (by decide) ?_
      refine j_lsub d_Ma_changeNumber_85 ?_
      refine j_callV (As := [.long ((am_num (m.getD 0 [])) - 1)]) (rest := []) (c_Ma_pushNumber Γ.l E N17 X L y n zs (m.drop 1) o b k ((am_num (m.getD 0 [])) - 1) I17 hL (am_mag_lt (by rw [i6_sub (by rw [i6_1]; omega), i6_1]; omega))) Y_Ma_pushNumber w_669 w_671 ws_9 I17.mo rfl rfl rfl (Nat.le_of_ble_eq_true rfl) (by omega) (by omega) (by omega) d_Ma_changeNumber_86 (fun v86 N86 p86 => ?_)
      obtain ⟨w86, m86, o86, b86_, k86, rfl, I86, f86, T86, F86⟩ := p86
      have ht17_86_3 := ht17.keep f86
      obtain ⟨z86_3m, u86_3m⟩ := I86.sm.o
      obtain ⟨z86_3o, u86_3o⟩ := I86.so.o
      obtain ⟨z86_3_t17, u86_3_t17⟩ := ht17_86_3.o
      show mp_J Γ m_Ma_changeNumber E κ N86 [(2, .long (am_num (m.getD 0 []))), (0, .ref (L 0)), (1, .int (nI 140))] 89 [.int (tf w86)] (0 + 2) (0 + 8)
      refine j_goto (tgt := 149) d_Ma_changeNumber_89 (by decide) ?_
      exact j_zret hκ rfl (tf_01 _) (by omega) (by omega) d_Ma_changeNumber_149 (MP.k T86 F86 I86 (f17.trans f86) (by unfold a_chg; rw [if_neg hN, if_neg (by omega), if_pos (by omega)]))
    · skip
      refine j_tableIn 148 d_Ma_changeNumber_25 (by decide) (by decide) rfl (by decide) ?_
      refine j_iconst (v := nI 0) d_Ma_changeNumber_148 (by decide) ?_
      exact j_zret hκ rfl (by first | exact Or.inl rfl | exact Or.inr rfl) (by omega) (by omega) d_Ma_changeNumber_149 (MP.f I17 f17 (fun s hs => by unfold a_chg at hs; rw [if_neg hN, if_neg (by omega), if_neg (by omega), if_neg (by omega), if_neg (by omega), if_neg (by omega), if_neg (by omega)] at hs; cases hs))
    · skip
      refine j_tableIn 148 d_Ma_changeNumber_25 (by decide) (by decide) rfl (by decide) ?_
      refine j_iconst (v := nI 0) d_Ma_changeNumber_148 (by decide) ?_
      exact j_zret hκ rfl (by first | exact Or.inl rfl | exact Or.inr rfl) (by omega) (by omega) d_Ma_changeNumber_149 (MP.f I17 f17 (fun s hs => by unfold a_chg at hs; rw [if_neg hN, if_neg (by omega), if_neg (by omega), if_neg (by omega), if_neg (by omega), if_neg (by omega), if_neg (by omega)] at hs; cases hs))
    · skip
      refine j_tableIn 92 d_Ma_changeNumber_25 (by decide) (by decide) rfl (by decide) ?_
      refine j_aload_n d_Ma_changeNumber_92 rfl 1 rfl ?_
      refine j_lload_n d_Ma_changeNumber_93 rfl 0 rfl ?_
      refine j_lneg d_Ma_changeNumber_94 ?_
      refine j_callV (As := [.long (-(am_num (m.getD 0 [])))]) (rest := []) (c_Ma_pushNumber Γ.l E N17 X L y n zs (m.drop 1) o b k (-(am_num (m.getD 0 []))) I17 hL (am_mag_lt (by rw [i6_neg (by omega)]; omega))) Y_Ma_pushNumber w_669 w_671 ws_9 I17.mo rfl rfl rfl (Nat.le_of_ble_eq_true rfl) (by omega) (by omega) (by omega) d_Ma_changeNumber_95 (fun v95 N95 p95 => ?_)
      obtain ⟨w95, m95, o95, b95_, k95, rfl, I95, f95, T95, F95⟩ := p95
      have ht17_95_4 := ht17.keep f95
      obtain ⟨z95_4m, u95_4m⟩ := I95.sm.o
      obtain ⟨z95_4o, u95_4o⟩ := I95.so.o
      obtain ⟨z95_4_t17, u95_4_t17⟩ := ht17_95_4.o
      show mp_J Γ m_Ma_changeNumber E κ N95 [(2, .long (am_num (m.getD 0 []))), (0, .ref (L 0)), (1, .int (nI 143))] 98 [.int (tf w95)] (0 + 2) (0 + 8)
      refine j_goto (tgt := 149) d_Ma_changeNumber_98 (by decide) ?_
      exact j_zret hκ rfl (tf_01 _) (by omega) (by omega) d_Ma_changeNumber_149 (MP.k T95 F95 I95 (f17.trans f95) (by unfold a_chg; rw [if_neg hN, if_neg (by omega), if_neg (by omega), if_pos (by omega)]))
    · skip
      refine j_tableIn 101 d_Ma_changeNumber_25 (by decide) (by decide) rfl (by decide) ?_
      refine j_aload_n d_Ma_changeNumber_101 rfl 1 rfl ?_
      refine j_lload_n d_Ma_changeNumber_102 rfl 0 rfl ?_
      refine j_absL w_744 (Nat.le_of_ble_eq_true rfl) (by omega) (by omega) (by omega) d_Ma_changeNumber_103 ?_
      refine j_callV (As := [.long (if 0 < (am_num (m.getD 0 [])) then (am_num (m.getD 0 [])) else -(am_num (m.getD 0 [])))]) (rest := []) (c_Ma_pushNumber Γ.l E N17 X L y n zs (m.drop 1) o b k (if 0 < (am_num (m.getD 0 [])) then (am_num (m.getD 0 [])) else -(am_num (m.getD 0 []))) I17 hL (am_mag_lt (by split <;> first | omega | (rw [i6_neg (by omega)]; omega)))) Y_Ma_pushNumber w_669 w_671 ws_9 I17.mo rfl rfl rfl (Nat.le_of_ble_eq_true rfl) (by omega) (by omega) (by omega) d_Ma_changeNumber_106 (fun v106 N106 p106 => ?_)
      obtain ⟨w106, m106, o106, b106_, k106, rfl, I106, f106, T106, F106⟩ := p106
      have ht17_106_5 := ht17.keep f106
      obtain ⟨z106_5m, u106_5m⟩ := I106.sm.o
      obtain ⟨z106_5o, u106_5o⟩ := I106.so.o
      obtain ⟨z106_5_t17, u106_5_t17⟩ := ht17_106_5.o
      show mp_J Γ m_Ma_changeNumber E κ N106 [(2, .long (am_num (m.getD 0 []))), (0, .ref (L 0)), (1, .int (nI 144))] 109 [.int (tf w106)] (0 + 2) (0 + 8)
      refine j_goto (tgt := 149) d_Ma_changeNumber_109 (by decide) ?_
      exact j_zret hκ rfl (tf_01 _) (by omega) (by omega) d_Ma_changeNumber_149 (MP.k T106 F106 I106 (f17.trans f106) (by unfold a_chg; rw [if_neg hN, if_neg (by omega), if_neg (by omega), if_neg (by omega), if_pos (by omega)]))
    · skip
      refine j_tableIn 112 d_Ma_changeNumber_25 (by decide) (by decide) rfl (by decide) ?_
      refine j_aload_n d_Ma_changeNumber_112 rfl 1 rfl ?_
      refine j_lload_n d_Ma_changeNumber_113 rfl 0 rfl ?_
      refine j_lconst (v := 0) d_Ma_changeNumber_114 (by decide) ?_
      refine j_lcmp d_Ma_changeNumber_115 ?_
      refine j_if_ne 123 d_Ma_changeNumber_116 (by decide) (fun b116 => ?_) (fun b116 => ?_)
      · skip
        refine j_iconst (v := nI 0) d_Ma_changeNumber_123 (by decide) ?_
        refine j_callV (As := [.int (nI 0)]) (rest := []) (c_Ma_pushTruth Γ.l E N17 X L y n zs (m.drop 1) o b k false I17 hL) Y_Ma_pushTruth w_731 w_733 ws_16 I17.mo rfl rfl rfl (Nat.le_of_ble_eq_true rfl) (by omega) (by omega) (by omega) d_Ma_changeNumber_124 (fun v124 N124 p124 => ?_)
        obtain ⟨w124, m124, o124, b124_, k124, rfl, I124, f124, T124, F124⟩ := p124
        have ht17_124_6 := ht17.keep f124
        obtain ⟨z124_6m, u124_6m⟩ := I124.sm.o
        obtain ⟨z124_6o, u124_6o⟩ := I124.so.o
        obtain ⟨z124_6_t17, u124_6_t17⟩ := ht17_124_6.o
        show mp_J Γ m_Ma_changeNumber E κ N124 [(2, .long (am_num (m.getD 0 []))), (0, .ref (L 0)), (1, .int (nI 145))] 127 [.int (tf w124)] (0 + 0) (0 + 0)
        refine j_goto (tgt := 149) d_Ma_changeNumber_127 (by decide) ?_
        exact j_zret hκ rfl (tf_01 _) (by omega) (by omega) d_Ma_changeNumber_149 (MP.k T124 F124 I124 (f17.trans f124) (by unfold a_chg; rw [if_neg hN, if_neg (by omega), if_neg (by omega), if_neg (by omega), if_neg (by omega), if_pos (by omega)]; first | exact congrArg (fun x => some (x :: m.drop 1, o, b, k)) (am_bd (decide_eq_true ((lg_cmp_eq _ _).mp b116))) | exact congrArg (fun x => some (x :: m.drop 1, o, b, k)) (am_bd (decide_eq_false (fun h => b116 ((lg_cmp_eq _ _).mpr h))))))
      · skip
        refine j_iconst (v := nI 1) d_Ma_changeNumber_119 (by decide) ?_
        refine j_goto (tgt := 124) d_Ma_changeNumber_120 (by decide) ?_
        refine j_callV (As := [.int (nI 1)]) (rest := []) (c_Ma_pushTruth Γ.l E N17 X L y n zs (m.drop 1) o b k true I17 hL) Y_Ma_pushTruth w_731 w_733 ws_16 I17.mo rfl rfl rfl (Nat.le_of_ble_eq_true rfl) (by omega) (by omega) (by omega) d_Ma_changeNumber_124 (fun v124 N124 p124 => ?_)
        obtain ⟨w124, m124, o124, b124_, k124, rfl, I124, f124, T124, F124⟩ := p124
        have ht17_124_7 := ht17.keep f124
        obtain ⟨z124_7m, u124_7m⟩ := I124.sm.o
        obtain ⟨z124_7o, u124_7o⟩ := I124.so.o
        obtain ⟨z124_7_t17, u124_7_t17⟩ := ht17_124_7.o
        show mp_J Γ m_Ma_changeNumber E κ N124 [(2, .long (am_num (m.getD 0 []))), (0, .ref (L 0)), (1, .int (nI 145))] 127 [.int (tf w124)] (0 + 0) (0 + 0)
        refine j_goto (tgt := 149) d_Ma_changeNumber_127 (by decide) ?_
        exact j_zret hκ rfl (tf_01 _) (by omega) (by omega) d_Ma_changeNumber_149 (MP.k T124 F124 I124 (f17.trans f124) (by unfold a_chg; rw [if_neg hN, if_neg (by omega), if_neg (by omega), if_neg (by omega), if_neg (by omega), if_pos (by omega)]; first | exact congrArg (fun x => some (x :: m.drop 1, o, b, k)) (am_bd (decide_eq_true ((lg_cmp_eq _ _).mp b116))) | exact congrArg (fun x => some (x :: m.drop 1, o, b, k)) (am_bd (decide_eq_false (fun h => b116 ((lg_cmp_eq _ _).mpr h))))))
    · skip
      refine j_tableIn 130 d_Ma_changeNumber_25 (by decide) (by decide) rfl (by decide) ?_
      refine j_aload_n d_Ma_changeNumber_130 rfl 1 rfl ?_
      refine j_lload_n d_Ma_changeNumber_131 rfl 0 rfl ?_
      refine j_lconst (v := 0) d_Ma_changeNumber_132 (by decide) ?_
      refine j_lcmp d_Ma_changeNumber_133 ?_
      refine j_if_eq 141 d_Ma_changeNumber_134 (by decide) (fun b134 => ?_) (fun b134 => ?_)
      · skip
        refine j_iconst (v := nI 0) d_Ma_changeNumber_141 (by decide) ?_
        refine j_callV (As := [.int (nI 0)]) (rest := []) (c_Ma_pushTruth Γ.l E N17 X L y n zs (m.drop 1) o b k false I17 hL) Y_Ma_pushTruth w_731 w_733 ws_16 I17.mo rfl rfl rfl (Nat.le_of_ble_eq_true rfl) (by omega) (by omega) (by omega) d_Ma_changeNumber_142 (fun v142 N142 p142 => ?_)
        obtain ⟨w142, m142, o142, b142_, k142, rfl, I142, f142, T142, F142⟩ := p142
        have ht17_142_8 := ht17.keep f142
        obtain ⟨z142_8m, u142_8m⟩ := I142.sm.o
        obtain ⟨z142_8o, u142_8o⟩ := I142.so.o
        obtain ⟨z142_8_t17, u142_8_t17⟩ := ht17_142_8.o
        show mp_J Γ m_Ma_changeNumber E κ N142 [(2, .long (am_num (m.getD 0 []))), (0, .ref (L 0)), (1, .int (nI 146))] 145 [.int (tf w142)] (0 + 0) (0 + 0)
        refine j_goto (tgt := 149) d_Ma_changeNumber_145 (by decide) ?_
        exact j_zret hκ rfl (tf_01 _) (by omega) (by omega) d_Ma_changeNumber_149 (MP.k T142 F142 I142 (f17.trans f142) (by unfold a_chg; rw [if_neg hN, if_neg (by omega), if_neg (by omega), if_neg (by omega), if_neg (by omega), if_neg (by omega), if_pos (by omega)]; first | exact congrArg (fun x => some (x :: m.drop 1, o, b, k)) (am_bd (decide_eq_true (fun h => b134 ((lg_cmp_eq _ _).mpr h)))) | exact congrArg (fun x => some (x :: m.drop 1, o, b, k)) (am_bd (decide_eq_false (fun h => h ((lg_cmp_eq _ _).mp b134))))))
      · skip
        refine j_iconst (v := nI 1) d_Ma_changeNumber_137 (by decide) ?_
        refine j_goto (tgt := 142) d_Ma_changeNumber_138 (by decide) ?_
        refine j_callV (As := [.int (nI 1)]) (rest := []) (c_Ma_pushTruth Γ.l E N17 X L y n zs (m.drop 1) o b k true I17 hL) Y_Ma_pushTruth w_731 w_733 ws_16 I17.mo rfl rfl rfl (Nat.le_of_ble_eq_true rfl) (by omega) (by omega) (by omega) d_Ma_changeNumber_142 (fun v142 N142 p142 => ?_)
        obtain ⟨w142, m142, o142, b142_, k142, rfl, I142, f142, T142, F142⟩ := p142
        have ht17_142_9 := ht17.keep f142
        obtain ⟨z142_9m, u142_9m⟩ := I142.sm.o
        obtain ⟨z142_9o, u142_9o⟩ := I142.so.o
        obtain ⟨z142_9_t17, u142_9_t17⟩ := ht17_142_9.o
        show mp_J Γ m_Ma_changeNumber E κ N142 [(2, .long (am_num (m.getD 0 []))), (0, .ref (L 0)), (1, .int (nI 146))] 145 [.int (tf w142)] (0 + 0) (0 + 0)
        refine j_goto (tgt := 149) d_Ma_changeNumber_145 (by decide) ?_
        exact j_zret hκ rfl (tf_01 _) (by omega) (by omega) d_Ma_changeNumber_149 (MP.k T142 F142 I142 (f17.trans f142) (by unfold a_chg; rw [if_neg hN, if_neg (by omega), if_neg (by omega), if_neg (by omega), if_neg (by omega), if_neg (by omega), if_pos (by omega)]; first | exact congrArg (fun x => some (x :: m.drop 1, o, b, k)) (am_bd (decide_eq_true (fun h => b134 ((lg_cmp_eq _ _).mpr h)))) | exact congrArg (fun x => some (x :: m.drop 1, o, b, k)) (am_bd (decide_eq_false (fun h => h ((lg_cmp_eq _ _).mp b134))))))
  · skip
    refine j_iconst (v := nI 0) d_Ma_changeNumber_11 (by decide) ?_
    exact j_zret hκ rfl (by first | exact Or.inl rfl | exact Or.inr rfl) (by omega) (by omega) d_Ma_changeNumber_12 (MP.f hI mp_Fr.refl (fun s hs => by unfold a_chg at hs; rw [if_pos (of_decide_eq_false b8)] at hs; cases hs))

set_option maxHeartbeats 4000000 in
set_option maxRecDepth 100000 in
theorem c_Ma_joinNumbers (l : Launch) (E : mp_E) (M : mp_M) (X : Nat → Prop) (L : Nat → Nat) (y n : Nat) (zs m o : List am_T) (b : List Bool) (k : Nat) (c : Nat) (hI : IV E X M L y n zs m o b k) (hL : LY X L) (hc : c < 256) : mp_Cr l m_Ma_joinNumbers E M 6 2 8 [.ref (L 0), .int (nI c)] (MP E X M L y n zs (a_join c m o b k)) := by
  refine mp_Cr.of (by decide) (Nat.le_of_ble_eq_true rfl) fun Γ κ hl hκ => ?_
  subst hl
  obtain ⟨hκd, hκc, hκs, -⟩ := id hκ
  have hlm := hI.sm.le
  have hlo := hI.so.le
  obtain ⟨z0_m, u0_m⟩ := hI.sm.o
  obtain ⟨z0_o, u0_o⟩ := hI.so.o
  show mp_J Γ m_Ma_joinNumbers E κ M [(0, .ref (L 0)), (1, .int (nI c))] 0 [] 0 0
  refine j_aload_n d_Ma_joinNumbers_0 rfl 0 rfl ?_
  refine j_get F_Ma hI.mo 6 (by decide) w_169 (Or.inl rfl) rfl d_Ma_joinNumbers_1 ?_
  refine j_iconst (v := nI 2) d_Ma_joinNumbers_4 (by decide) ?_
  refine j_callV (As := [.int (nI 2)]) (rest := []) (k_nums Γ.l hI.sm 2 (by decide)) Y_St_holdsNumbers w_739 w_740 w_741 u0_m rfl rfl rfl (Nat.le_of_ble_eq_true rfl) (by omega) (by omega) (by omega) d_Ma_joinNumbers_5 (fun v5 N5 p5 => ?_)
  obtain ⟨rfl, q5⟩ := p5
  obtain rfl := q5.symm
  show mp_J Γ m_Ma_joinNumbers E κ M [(0, .ref (L 0)), (1, .int (nI c))] 8 [.int (tf (decide (am_ns m 2)))] 0 0
  refine j_tif_ne 13 d_Ma_joinNumbers_8 (by decide) (fun b8 => ?_) (fun b8 => ?_)
  · skip
    have hn := of_decide_eq_true b8
    have hN : ¬ ¬ am_ns m 2 := fun h => h hn
    have hn1 := hn.1
    have l0 := hn.2 0 (by decide)
    have v0 := am_num_lim l0
    have l1 := hn.2 1 (by decide)
    have v1 := am_num_lim l1
    refine j_aload_n d_Ma_joinNumbers_13 rfl 0 rfl ?_
    refine j_get F_Ma hI.mo 6 (by decide) w_169 (Or.inl rfl) rfl d_Ma_joinNumbers_14 ?_
    refine j_callV (As := []) (rest := []) (i_popd Γ.l (j := 0) hI hL (by omega)) Y_St_pop w_374 w_375 w_376 u0_m rfl rfl rfl (Nat.le_of_ble_eq_true rfl) (by omega) (by omega) (by omega) d_Ma_joinNumbers_17 (fun v17 N17 p17 => ?_)
    obtain ⟨t17, rfl, ht17, I17x, f17⟩ := p17
    have I17 : IV E X N17 L y n zs (m.drop 1) o b k := I17x
    obtain ⟨z17_1m, u17_1m⟩ := I17.sm.o
    obtain ⟨z17_1o, u17_1o⟩ := I17.so.o
    obtain ⟨z17_1_t17, u17_1_t17⟩ := ht17.o
    show mp_J Γ m_Ma_joinNumbers E κ N17 [(0, .ref (L 0)), (1, .int (nI c))] 20 [.ref t17] 0 0
    refine j_callV (As := []) (rest := []) (t_num Γ.l ht17 l0) Y_Th_toNumber w_711 w_712 w_713 u17_1_t17 rfl rfl rfl (Nat.le_of_ble_eq_true rfl) (by omega) (by omega) (by omega) d_Ma_joinNumbers_20 (fun v20 N20 p20 => ?_)
    obtain ⟨rfl, q20⟩ := p20
    obtain rfl := q20.symm
    show mp_J Γ m_Ma_joinNumbers E κ N17 [(0, .ref (L 0)), (1, .int (nI c))] 23 [.long (am_num (m.getD 0 []))] 0 0
    refine j_lstore_n [(2, .long (am_num (m.getD 0 []))), (0, .ref (L 0)), (1, .int (nI c))] d_Ma_joinNumbers_23 rfl (by decide) rfl ?_
    refine j_aload_n d_Ma_joinNumbers_24 rfl 1 rfl ?_
    refine j_get F_Ma I17.mo 6 (by decide) w_169 (Or.inl rfl) rfl d_Ma_joinNumbers_25 ?_
    refine j_callV (As := []) (rest := []) (i_popd Γ.l (j := 1) I17 hL (by omega)) Y_St_pop w_374 w_375 w_376 u17_1m rfl rfl rfl (Nat.le_of_ble_eq_true rfl) (by omega) (by omega) (by omega) d_Ma_joinNumbers_28 (fun v28 N28 p28 => ?_)
    obtain ⟨t28, rfl, ht28, I28x, f28⟩ := p28
    have I28 : IV E X N28 L y n zs (m.drop 2) o b k := I28x
    have ht17_28_2 := ht17.keep f28
    obtain ⟨z28_2m, u28_2m⟩ := I28.sm.o
    obtain ⟨z28_2o, u28_2o⟩ := I28.so.o
    obtain ⟨z28_2_t17, u28_2_t17⟩ := ht17_28_2.o
    obtain ⟨z28_2_t28, u28_2_t28⟩ := ht28.o
    show mp_J Γ m_Ma_joinNumbers E κ N28 [(2, .long (am_num (m.getD 0 []))), (0, .ref (L 0)), (1, .int (nI c))] 31 [.ref t28] 0 0
    refine j_callV (As := []) (rest := []) (t_num Γ.l ht28 l1) Y_Th_toNumber w_711 w_712 w_713 u28_2_t28 rfl rfl rfl (Nat.le_of_ble_eq_true rfl) (by omega) (by omega) (by omega) d_Ma_joinNumbers_31 (fun v31 N31 p31 => ?_)
    obtain ⟨rfl, q31⟩ := p31
    obtain rfl := q31.symm
    show mp_J Γ m_Ma_joinNumbers E κ N28 [(2, .long (am_num (m.getD 0 []))), (0, .ref (L 0)), (1, .int (nI c))] 34 [.long (am_num (m.getD 1 []))] 0 0
    refine j_lstore [(4, .long (am_num (m.getD 1 []))), (2, .long (am_num (m.getD 0 []))), (0, .ref (L 0)), (1, .int (nI c))] d_Ma_joinNumbers_34 (by decide) rfl ?_
    refine j_iload_n d_Ma_joinNumbers_36 rfl 3 rfl ?_
    rcases (show c < 147 ∨ 158 < c ∨ c = 147 ∨ c = 148 ∨ c = 149 ∨ c = 150 ∨ c = 151 ∨ c = 152 ∨ c = 153 ∨ c = 154 ∨ c = 155 ∨ c = 156 ∨ c = 157 ∨ c = 158 by omega) with hz9 | hz9 | rfl | rfl | rfl | rfl | rfl | rfl | rfl | rfl | rfl | rfl | rfl | rfl
    · skip
      refine j_tableOut 225 d_Ma_joinNumbers_37 (Or.inl (by rw [nI_toInt (by omega)]; omega)) (by decide) ?_
      refine j_iconst (v := nI 0) d_Ma_joinNumbers_225 (by decide) ?_
      exact j_zret hκ rfl (by first | exact Or.inl rfl | exact Or.inr rfl) (by omega) (by omega) d_Ma_joinNumbers_226 (MP.f I28 (f17.trans f28) (fun s hs => by unfold a_join at hs; rw [if_neg hN, if_neg (by omega), if_neg (by omega), if_neg (by omega), if_neg (by omega), if_neg (by omega), if_neg (by omega), if_neg (by omega)] at hs; cases hs))
    · skip
      refine j_tableOut 225 d_Ma_joinNumbers_37 (Or.inr (by rw [nI_toInt (by omega)]; omega)) (by decide) ?_
      refine j_iconst (v := nI 0) d_Ma_joinNumbers_225 (by decide) ?_
      exact j_zret hκ rfl (by first | exact Or.inl rfl | exact Or.inr rfl) (by omega) (by omega) d_Ma_joinNumbers_226 (MP.f I28 (f17.trans f28) (fun s hs => by unfold a_join at hs; rw [if_neg hN, if_neg (by omega), if_neg (by omega), if_neg (by omega), if_neg (by omega), if_neg (by omega), if_neg (by omega), if_neg (by omega)] at hs; cases hs))
    · skip
      refine j_tableIn 100 d_Ma_joinNumbers_37 (by decide) (by decide) rfl (by decide) ?_
      refine j_aload_n d_Ma_joinNumbers_100 rfl 2 rfl ?_
      refine j_lload d_Ma_joinNumbers_101 0 rfl ?_
      refine j_lload_n d_Ma_joinNumbers_103 rfl 1 rfl ?_
      refine j_ladd d_Ma_joinNumbers_104 ?_
      refine j_callV (As := [.long ((am_num (m.getD 1 [])) + (am_num (m.getD 0 [])))]) (rest := []) (c_Ma_pushNumber Γ.l E N28 X L y n zs (m.drop 2) o b k ((am_num (m.getD 1 [])) + (am_num (m.getD 0 []))) I28 hL (am_mag_lt (by rw [i6_add (by omega)]; omega))) Y_Ma_pushNumber w_669 w_671 ws_9 I28.mo rfl rfl rfl (Nat.le_of_ble_eq_true rfl) (by omega) (by omega) (by omega) d_Ma_joinNumbers_105 (fun v105 N105 p105 => ?_)
      obtain ⟨w105, m105, o105, b105_, k105, rfl, I105, f105, T105, F105⟩ := p105
      have ht17_28_2_105_3 := ht17_28_2.keep f105
      have ht28_105_3 := ht28.keep f105
      obtain ⟨z105_3m, u105_3m⟩ := I105.sm.o
      obtain ⟨z105_3o, u105_3o⟩ := I105.so.o
      obtain ⟨z105_3_t17, u105_3_t17⟩ := ht17_28_2_105_3.o
      obtain ⟨z105_3_t28, u105_3_t28⟩ := ht28_105_3.o
      show mp_J Γ m_Ma_joinNumbers E κ N105 [(4, .long (am_num (m.getD 1 []))), (2, .long (am_num (m.getD 0 []))), (0, .ref (L 0)), (1, .int (nI 147))] 108 [.int (tf w105)] (0 + 2) (0 + 8)
      refine j_goto (tgt := 226) d_Ma_joinNumbers_108 (by decide) ?_
      exact j_zret hκ rfl (tf_01 _) (by omega) (by omega) d_Ma_joinNumbers_226 (MP.k T105 F105 I105 ((f17.trans f28).trans f105) (by unfold a_join; rw [if_neg hN, if_pos (by omega)]))
    · skip
      refine j_tableIn 111 d_Ma_joinNumbers_37 (by decide) (by decide) rfl (by decide) ?_
      refine j_aload_n d_Ma_joinNumbers_111 rfl 2 rfl ?_
      refine j_lload d_Ma_joinNumbers_112 0 rfl ?_
      refine j_lload_n d_Ma_joinNumbers_114 rfl 1 rfl ?_
      refine j_lsub d_Ma_joinNumbers_115 ?_
      refine j_callV (As := [.long ((am_num (m.getD 1 [])) - (am_num (m.getD 0 [])))]) (rest := []) (c_Ma_pushNumber Γ.l E N28 X L y n zs (m.drop 2) o b k ((am_num (m.getD 1 [])) - (am_num (m.getD 0 []))) I28 hL (am_mag_lt (by rw [i6_sub (by omega)]; omega))) Y_Ma_pushNumber w_669 w_671 ws_9 I28.mo rfl rfl rfl (Nat.le_of_ble_eq_true rfl) (by omega) (by omega) (by omega) d_Ma_joinNumbers_116 (fun v116 N116 p116 => ?_)
      obtain ⟨w116, m116, o116, b116_, k116, rfl, I116, f116, T116, F116⟩ := p116
      have ht17_28_2_116_4 := ht17_28_2.keep f116
      have ht28_116_4 := ht28.keep f116
      obtain ⟨z116_4m, u116_4m⟩ := I116.sm.o
      obtain ⟨z116_4o, u116_4o⟩ := I116.so.o
      obtain ⟨z116_4_t17, u116_4_t17⟩ := ht17_28_2_116_4.o
      obtain ⟨z116_4_t28, u116_4_t28⟩ := ht28_116_4.o
      show mp_J Γ m_Ma_joinNumbers E κ N116 [(4, .long (am_num (m.getD 1 []))), (2, .long (am_num (m.getD 0 []))), (0, .ref (L 0)), (1, .int (nI 148))] 119 [.int (tf w116)] (0 + 2) (0 + 8)
      refine j_goto (tgt := 226) d_Ma_joinNumbers_119 (by decide) ?_
      exact j_zret hκ rfl (tf_01 _) (by omega) (by omega) d_Ma_joinNumbers_226 (MP.k T116 F116 I116 ((f17.trans f28).trans f116) (by unfold a_join; rw [if_neg hN, if_neg (by omega), if_pos (by omega)]))
    · skip
      refine j_tableIn 225 d_Ma_joinNumbers_37 (by decide) (by decide) rfl (by decide) ?_
      refine j_iconst (v := nI 0) d_Ma_joinNumbers_225 (by decide) ?_
      exact j_zret hκ rfl (by first | exact Or.inl rfl | exact Or.inr rfl) (by omega) (by omega) d_Ma_joinNumbers_226 (MP.f I28 (f17.trans f28) (fun s hs => by unfold a_join at hs; rw [if_neg hN, if_neg (by omega), if_neg (by omega), if_neg (by omega), if_neg (by omega), if_neg (by omega), if_neg (by omega), if_neg (by omega)] at hs; cases hs))
    · skip
      refine j_tableIn 225 d_Ma_joinNumbers_37 (by decide) (by decide) rfl (by decide) ?_
      refine j_iconst (v := nI 0) d_Ma_joinNumbers_225 (by decide) ?_
      exact j_zret hκ rfl (by first | exact Or.inl rfl | exact Or.inr rfl) (by omega) (by omega) d_Ma_joinNumbers_226 (MP.f I28 (f17.trans f28) (fun s hs => by unfold a_join at hs; rw [if_neg hN, if_neg (by omega), if_neg (by omega), if_neg (by omega), if_neg (by omega), if_neg (by omega), if_neg (by omega), if_neg (by omega)] at hs; cases hs))
    · skip
      refine j_tableIn 225 d_Ma_joinNumbers_37 (by decide) (by decide) rfl (by decide) ?_
      refine j_iconst (v := nI 0) d_Ma_joinNumbers_225 (by decide) ?_
      exact j_zret hκ rfl (by first | exact Or.inl rfl | exact Or.inr rfl) (by omega) (by omega) d_Ma_joinNumbers_226 (MP.f I28 (f17.trans f28) (fun s hs => by unfold a_join at hs; rw [if_neg hN, if_neg (by omega), if_neg (by omega), if_neg (by omega), if_neg (by omega), if_neg (by omega), if_neg (by omega), if_neg (by omega)] at hs; cases hs))
    · skip
      refine j_tableIn 225 d_Ma_joinNumbers_37 (by decide) (by decide) rfl (by decide) ?_
      refine j_iconst (v := nI 0) d_Ma_joinNumbers_225 (by decide) ?_
      exact j_zret hκ rfl (by first | exact Or.inl rfl | exact Or.inr rfl) (by omega) (by omega) d_Ma_joinNumbers_226 (MP.f I28 (f17.trans f28) (fun s hs => by unfold a_join at hs; rw [if_neg hN, if_neg (by omega), if_neg (by omega), if_neg (by omega), if_neg (by omega), if_neg (by omega), if_neg (by omega), if_neg (by omega)] at hs; cases hs))
    · skip
      refine j_tableIn 225 d_Ma_joinNumbers_37 (by decide) (by decide) rfl (by decide) ?_
      refine j_iconst (v := nI 0) d_Ma_joinNumbers_225 (by decide) ?_
      exact j_zret hκ rfl (by first | exact Or.inl rfl | exact Or.inr rfl) (by omega) (by omega) d_Ma_joinNumbers_226 (MP.f I28 (f17.trans f28) (fun s hs => by unfold a_join at hs; rw [if_neg hN, if_neg (by omega), if_neg (by omega), if_neg (by omega), if_neg (by omega), if_neg (by omega), if_neg (by omega), if_neg (by omega)] at hs; cases hs))
    · skip
      refine j_tableIn 122 d_Ma_joinNumbers_37 (by decide) (by decide) rfl (by decide) ?_
      refine j_aload_n d_Ma_joinNumbers_122 rfl 2 rfl ?_
      refine j_lload d_Ma_joinNumbers_123 0 rfl ?_
      refine j_lconst (v := 0) d_Ma_joinNumbers_125 (by decide) ?_
      refine j_lcmp d_Ma_joinNumbers_126 ?_
      refine j_if_eq 140 d_Ma_joinNumbers_127 (by decide) (fun b127 => ?_) (fun b127 => ?_)
      · skip
        refine j_iconst (v := nI 0) d_Ma_joinNumbers_140 (by decide) ?_
        refine j_callV (As := [.int (nI 0)]) (rest := []) (c_Ma_pushTruth Γ.l E N28 X L y n zs (m.drop 2) o b k false I28 hL) Y_Ma_pushTruth w_731 w_733 ws_16 I28.mo rfl rfl rfl (Nat.le_of_ble_eq_true rfl) (by omega) (by omega) (by omega) d_Ma_joinNumbers_141 (fun v141 N141 p141 => ?_)
        obtain ⟨w141, m141, o141, b141_, k141, rfl, I141, f141, T141, F141⟩ := p141
        have ht17_28_2_141_5 := ht17_28_2.keep f141
        have ht28_141_5 := ht28.keep f141
        obtain ⟨z141_5m, u141_5m⟩ := I141.sm.o
        obtain ⟨z141_5o, u141_5o⟩ := I141.so.o
        obtain ⟨z141_5_t17, u141_5_t17⟩ := ht17_28_2_141_5.o
        obtain ⟨z141_5_t28, u141_5_t28⟩ := ht28_141_5.o
        show mp_J Γ m_Ma_joinNumbers E κ N141 [(4, .long (am_num (m.getD 1 []))), (2, .long (am_num (m.getD 0 []))), (0, .ref (L 0)), (1, .int (nI 154))] 144 [.int (tf w141)] (0 + 0) (0 + 0)
        refine j_goto (tgt := 226) d_Ma_joinNumbers_144 (by decide) ?_
        exact j_zret hκ rfl (tf_01 _) (by omega) (by omega) d_Ma_joinNumbers_226 (MP.k T141 F141 I141 ((f17.trans f28).trans f141) (by unfold a_join; rw [if_neg hN, if_neg (by omega), if_neg (by omega), if_pos (by omega)]; first | exact congrArg (fun x => some (x :: m.drop 2, o, b, k)) (am_bd (decide_eq_true ⟨(fun h => b127 ((lg_cmp_eq _ _).mpr h)), (fun h => b133 ((lg_cmp_eq _ _).mpr h))⟩)) | exact congrArg (fun x => some (x :: m.drop 2, o, b, k)) (am_bd (decide_eq_false (fun h => h.1 ((lg_cmp_eq _ _).mp b127)))) | exact congrArg (fun x => some (x :: m.drop 2, o, b, k)) (am_bd (decide_eq_false (fun h => h.2 ((lg_cmp_eq _ _).mp b133))))))
      · skip
        refine j_lload_n d_Ma_joinNumbers_130 rfl 1 rfl ?_
        refine j_lconst (v := 0) d_Ma_joinNumbers_131 (by decide) ?_
        refine j_lcmp d_Ma_joinNumbers_132 ?_
        refine j_if_eq 140 d_Ma_joinNumbers_133 (by decide) (fun b133 => ?_) (fun b133 => ?_)
        · skip
          refine j_iconst (v := nI 0) d_Ma_joinNumbers_140 (by decide) ?_
          refine j_callV (As := [.int (nI 0)]) (rest := []) (c_Ma_pushTruth Γ.l E N28 X L y n zs (m.drop 2) o b k false I28 hL) Y_Ma_pushTruth w_731 w_733 ws_16 I28.mo rfl rfl rfl (Nat.le_of_ble_eq_true rfl) (by omega) (by omega) (by omega) d_Ma_joinNumbers_141 (fun v141 N141 p141 => ?_)
          obtain ⟨w141, m141, o141, b141_, k141, rfl, I141, f141, T141, F141⟩ := p141
          have ht17_28_2_141_6 := ht17_28_2.keep f141
          have ht28_141_6 := ht28.keep f141
          obtain ⟨z141_6m, u141_6m⟩ := I141.sm.o
          obtain ⟨z141_6o, u141_6o⟩ := I141.so.o
          obtain ⟨z141_6_t17, u141_6_t17⟩ := ht17_28_2_141_6.o
          obtain ⟨z141_6_t28, u141_6_t28⟩ := ht28_141_6.o
          show mp_J Γ m_Ma_joinNumbers E κ N141 [(4, .long (am_num (m.getD 1 []))), (2, .long (am_num (m.getD 0 []))), (0, .ref (L 0)), (1, .int (nI 154))] 144 [.int (tf w141)] (0 + 0) (0 + 0)
          refine j_goto (tgt := 226) d_Ma_joinNumbers_144 (by decide) ?_
          exact j_zret hκ rfl (tf_01 _) (by omega) (by omega) d_Ma_joinNumbers_226 (MP.k T141 F141 I141 ((f17.trans f28).trans f141) (by unfold a_join; rw [if_neg hN, if_neg (by omega), if_neg (by omega), if_pos (by omega)]; first | exact congrArg (fun x => some (x :: m.drop 2, o, b, k)) (am_bd (decide_eq_true ⟨(fun h => b127 ((lg_cmp_eq _ _).mpr h)), (fun h => b133 ((lg_cmp_eq _ _).mpr h))⟩)) | exact congrArg (fun x => some (x :: m.drop 2, o, b, k)) (am_bd (decide_eq_false (fun h => h.1 ((lg_cmp_eq _ _).mp b127)))) | exact congrArg (fun x => some (x :: m.drop 2, o, b, k)) (am_bd (decide_eq_false (fun h => h.2 ((lg_cmp_eq _ _).mp b133))))))
        · skip
          refine j_iconst (v := nI 1) d_Ma_joinNumbers_136 (by decide) ?_
          refine j_goto (tgt := 141) d_Ma_joinNumbers_137 (by decide) ?_
          refine j_callV (As := [.int (nI 1)]) (rest := []) (c_Ma_pushTruth Γ.l E N28 X L y n zs (m.drop 2) o b k true I28 hL) Y_Ma_pushTruth w_731 w_733 ws_16 I28.mo rfl rfl rfl (Nat.le_of_ble_eq_true rfl) (by omega) (by omega) (by omega) d_Ma_joinNumbers_141 (fun v141 N141 p141 => ?_)
          obtain ⟨w141, m141, o141, b141_, k141, rfl, I141, f141, T141, F141⟩ := p141
          have ht17_28_2_141_7 := ht17_28_2.keep f141
          have ht28_141_7 := ht28.keep f141
          obtain ⟨z141_7m, u141_7m⟩ := I141.sm.o
          obtain ⟨z141_7o, u141_7o⟩ := I141.so.o
          obtain ⟨z141_7_t17, u141_7_t17⟩ := ht17_28_2_141_7.o
          obtain ⟨z141_7_t28, u141_7_t28⟩ := ht28_141_7.o
          show mp_J Γ m_Ma_joinNumbers E κ N141 [(4, .long (am_num (m.getD 1 []))), (2, .long (am_num (m.getD 0 []))), (0, .ref (L 0)), (1, .int (nI 154))] 144 [.int (tf w141)] (0 + 0) (0 + 0)
          refine j_goto (tgt := 226) d_Ma_joinNumbers_144 (by decide) ?_
          exact j_zret hκ rfl (tf_01 _) (by omega) (by omega) d_Ma_joinNumbers_226 (MP.k T141 F141 I141 ((f17.trans f28).trans f141) (by unfold a_join; rw [if_neg hN, if_neg (by omega), if_neg (by omega), if_pos (by omega)]; first | exact congrArg (fun x => some (x :: m.drop 2, o, b, k)) (am_bd (decide_eq_true ⟨(fun h => b127 ((lg_cmp_eq _ _).mpr h)), (fun h => b133 ((lg_cmp_eq _ _).mpr h))⟩)) | exact congrArg (fun x => some (x :: m.drop 2, o, b, k)) (am_bd (decide_eq_false (fun h => h.1 ((lg_cmp_eq _ _).mp b127)))) | exact congrArg (fun x => some (x :: m.drop 2, o, b, k)) (am_bd (decide_eq_false (fun h => h.2 ((lg_cmp_eq _ _).mp b133))))))
    · skip
      refine j_tableIn 147 d_Ma_joinNumbers_37 (by decide) (by decide) rfl (by decide) ?_
      refine j_aload_n d_Ma_joinNumbers_147 rfl 2 rfl ?_
      refine j_lload d_Ma_joinNumbers_148 0 rfl ?_
      refine j_lconst (v := 0) d_Ma_joinNumbers_150 (by decide) ?_
      refine j_lcmp d_Ma_joinNumbers_151 ?_
      refine j_if_ne 161 d_Ma_joinNumbers_152 (by decide) (fun b152 => ?_) (fun b152 => ?_)
      · skip
        refine j_iconst (v := nI 1) d_Ma_joinNumbers_161 (by decide) ?_
        refine j_goto (tgt := 166) d_Ma_joinNumbers_162 (by decide) ?_
        refine j_callV (As := [.int (nI 1)]) (rest := []) (c_Ma_pushTruth Γ.l E N28 X L y n zs (m.drop 2) o b k true I28 hL) Y_Ma_pushTruth w_731 w_733 ws_16 I28.mo rfl rfl rfl (Nat.le_of_ble_eq_true rfl) (by omega) (by omega) (by omega) d_Ma_joinNumbers_166 (fun v166 N166 p166 => ?_)
        obtain ⟨w166, m166, o166, b166_, k166, rfl, I166, f166, T166, F166⟩ := p166
        have ht17_28_2_166_8 := ht17_28_2.keep f166
        have ht28_166_8 := ht28.keep f166
        obtain ⟨z166_8m, u166_8m⟩ := I166.sm.o
        obtain ⟨z166_8o, u166_8o⟩ := I166.so.o
        obtain ⟨z166_8_t17, u166_8_t17⟩ := ht17_28_2_166_8.o
        obtain ⟨z166_8_t28, u166_8_t28⟩ := ht28_166_8.o
        show mp_J Γ m_Ma_joinNumbers E κ N166 [(4, .long (am_num (m.getD 1 []))), (2, .long (am_num (m.getD 0 []))), (0, .ref (L 0)), (1, .int (nI 155))] 169 [.int (tf w166)] (0 + 0) (0 + 0)
        refine j_goto (tgt := 226) d_Ma_joinNumbers_169 (by decide) ?_
        exact j_zret hκ rfl (tf_01 _) (by omega) (by omega) d_Ma_joinNumbers_226 (MP.k T166 F166 I166 ((f17.trans f28).trans f166) (by unfold a_join; rw [if_neg hN, if_neg (by omega), if_neg (by omega), if_neg (by omega), if_pos (by omega)]; first | exact congrArg (fun x => some (x :: m.drop 2, o, b, k)) (am_bd (decide_eq_true (Or.inl (fun h => b152 ((lg_cmp_eq _ _).mpr h))))) | exact congrArg (fun x => some (x :: m.drop 2, o, b, k)) (am_bd (decide_eq_true (Or.inr (fun h => b158 ((lg_cmp_eq _ _).mpr h))))) | exact congrArg (fun x => some (x :: m.drop 2, o, b, k)) (am_bd (decide_eq_false (fun h => h.elim (fun z => z ((lg_cmp_eq _ _).mp b152)) (fun z => z ((lg_cmp_eq _ _).mp b158)))))))
      · skip
        refine j_lload_n d_Ma_joinNumbers_155 rfl 1 rfl ?_
        refine j_lconst (v := 0) d_Ma_joinNumbers_156 (by decide) ?_
        refine j_lcmp d_Ma_joinNumbers_157 ?_
        refine j_if_eq 165 d_Ma_joinNumbers_158 (by decide) (fun b158 => ?_) (fun b158 => ?_)
        · skip
          refine j_iconst (v := nI 0) d_Ma_joinNumbers_165 (by decide) ?_
          refine j_callV (As := [.int (nI 0)]) (rest := []) (c_Ma_pushTruth Γ.l E N28 X L y n zs (m.drop 2) o b k false I28 hL) Y_Ma_pushTruth w_731 w_733 ws_16 I28.mo rfl rfl rfl (Nat.le_of_ble_eq_true rfl) (by omega) (by omega) (by omega) d_Ma_joinNumbers_166 (fun v166 N166 p166 => ?_)
          obtain ⟨w166, m166, o166, b166_, k166, rfl, I166, f166, T166, F166⟩ := p166
          have ht17_28_2_166_9 := ht17_28_2.keep f166
          have ht28_166_9 := ht28.keep f166
          obtain ⟨z166_9m, u166_9m⟩ := I166.sm.o
          obtain ⟨z166_9o, u166_9o⟩ := I166.so.o
          obtain ⟨z166_9_t17, u166_9_t17⟩ := ht17_28_2_166_9.o
          obtain ⟨z166_9_t28, u166_9_t28⟩ := ht28_166_9.o
          show mp_J Γ m_Ma_joinNumbers E κ N166 [(4, .long (am_num (m.getD 1 []))), (2, .long (am_num (m.getD 0 []))), (0, .ref (L 0)), (1, .int (nI 155))] 169 [.int (tf w166)] (0 + 0) (0 + 0)
          refine j_goto (tgt := 226) d_Ma_joinNumbers_169 (by decide) ?_
          exact j_zret hκ rfl (tf_01 _) (by omega) (by omega) d_Ma_joinNumbers_226 (MP.k T166 F166 I166 ((f17.trans f28).trans f166) (by unfold a_join; rw [if_neg hN, if_neg (by omega), if_neg (by omega), if_neg (by omega), if_pos (by omega)]; first | exact congrArg (fun x => some (x :: m.drop 2, o, b, k)) (am_bd (decide_eq_true (Or.inl (fun h => b152 ((lg_cmp_eq _ _).mpr h))))) | exact congrArg (fun x => some (x :: m.drop 2, o, b, k)) (am_bd (decide_eq_true (Or.inr (fun h => b158 ((lg_cmp_eq _ _).mpr h))))) | exact congrArg (fun x => some (x :: m.drop 2, o, b, k)) (am_bd (decide_eq_false (fun h => h.elim (fun z => z ((lg_cmp_eq _ _).mp b152)) (fun z => z ((lg_cmp_eq _ _).mp b158)))))))
        · skip
          refine j_iconst (v := nI 1) d_Ma_joinNumbers_161 (by decide) ?_
          refine j_goto (tgt := 166) d_Ma_joinNumbers_162 (by decide) ?_
          refine j_callV (As := [.int (nI 1)]) (rest := []) (c_Ma_pushTruth Γ.l E N28 X L y n zs (m.drop 2) o b k true I28 hL) Y_Ma_pushTruth w_731 w_733 ws_16 I28.mo rfl rfl rfl (Nat.le_of_ble_eq_true rfl) (by omega) (by omega) (by omega) d_Ma_joinNumbers_166 (fun v166 N166 p166 => ?_)
          obtain ⟨w166, m166, o166, b166_, k166, rfl, I166, f166, T166, F166⟩ := p166
          have ht17_28_2_166_10 := ht17_28_2.keep f166
          have ht28_166_10 := ht28.keep f166
          obtain ⟨z166_10m, u166_10m⟩ := I166.sm.o
          obtain ⟨z166_10o, u166_10o⟩ := I166.so.o
          obtain ⟨z166_10_t17, u166_10_t17⟩ := ht17_28_2_166_10.o
          obtain ⟨z166_10_t28, u166_10_t28⟩ := ht28_166_10.o
          show mp_J Γ m_Ma_joinNumbers E κ N166 [(4, .long (am_num (m.getD 1 []))), (2, .long (am_num (m.getD 0 []))), (0, .ref (L 0)), (1, .int (nI 155))] 169 [.int (tf w166)] (0 + 0) (0 + 0)
          refine j_goto (tgt := 226) d_Ma_joinNumbers_169 (by decide) ?_
          exact j_zret hκ rfl (tf_01 _) (by omega) (by omega) d_Ma_joinNumbers_226 (MP.k T166 F166 I166 ((f17.trans f28).trans f166) (by unfold a_join; rw [if_neg hN, if_neg (by omega), if_neg (by omega), if_neg (by omega), if_pos (by omega)]; first | exact congrArg (fun x => some (x :: m.drop 2, o, b, k)) (am_bd (decide_eq_true (Or.inl (fun h => b152 ((lg_cmp_eq _ _).mpr h))))) | exact congrArg (fun x => some (x :: m.drop 2, o, b, k)) (am_bd (decide_eq_true (Or.inr (fun h => b158 ((lg_cmp_eq _ _).mpr h))))) | exact congrArg (fun x => some (x :: m.drop 2, o, b, k)) (am_bd (decide_eq_false (fun h => h.elim (fun z => z ((lg_cmp_eq _ _).mp b152)) (fun z => z ((lg_cmp_eq _ _).mp b158)))))))
    · skip
      refine j_tableIn 172 d_Ma_joinNumbers_37 (by decide) (by decide) rfl (by decide) ?_
      refine j_aload_n d_Ma_joinNumbers_172 rfl 2 rfl ?_
      refine j_lload d_Ma_joinNumbers_173 0 rfl ?_
      refine j_lload_n d_Ma_joinNumbers_175 rfl 1 rfl ?_
      refine j_lcmp d_Ma_joinNumbers_176 ?_
      refine j_if_ne 184 d_Ma_joinNumbers_177 (by decide) (fun b177 => ?_) (fun b177 => ?_)
      · skip
        refine j_iconst (v := nI 0) d_Ma_joinNumbers_184 (by decide) ?_
        refine j_callV (As := [.int (nI 0)]) (rest := []) (c_Ma_pushTruth Γ.l E N28 X L y n zs (m.drop 2) o b k false I28 hL) Y_Ma_pushTruth w_731 w_733 ws_16 I28.mo rfl rfl rfl (Nat.le_of_ble_eq_true rfl) (by omega) (by omega) (by omega) d_Ma_joinNumbers_185 (fun v185 N185 p185 => ?_)
        obtain ⟨w185, m185, o185, b185_, k185, rfl, I185, f185, T185, F185⟩ := p185
        have ht17_28_2_185_11 := ht17_28_2.keep f185
        have ht28_185_11 := ht28.keep f185
        obtain ⟨z185_11m, u185_11m⟩ := I185.sm.o
        obtain ⟨z185_11o, u185_11o⟩ := I185.so.o
        obtain ⟨z185_11_t17, u185_11_t17⟩ := ht17_28_2_185_11.o
        obtain ⟨z185_11_t28, u185_11_t28⟩ := ht28_185_11.o
        show mp_J Γ m_Ma_joinNumbers E κ N185 [(4, .long (am_num (m.getD 1 []))), (2, .long (am_num (m.getD 0 []))), (0, .ref (L 0)), (1, .int (nI 156))] 188 [.int (tf w185)] (0 + 0) (0 + 0)
        refine j_goto (tgt := 226) d_Ma_joinNumbers_188 (by decide) ?_
        exact j_zret hκ rfl (tf_01 _) (by omega) (by omega) d_Ma_joinNumbers_226 (MP.k T185 F185 I185 ((f17.trans f28).trans f185) (by unfold a_join; rw [if_neg hN, if_neg (by omega), if_neg (by omega), if_neg (by omega), if_neg (by omega), if_pos (by omega)]; first | exact congrArg (fun x => some (x :: m.drop 2, o, b, k)) (am_bd (decide_eq_true ((lg_cmp_eq _ _).mp b177))) | exact congrArg (fun x => some (x :: m.drop 2, o, b, k)) (am_bd (decide_eq_false (fun h => b177 ((lg_cmp_eq _ _).mpr h))))))
      · skip
        refine j_iconst (v := nI 1) d_Ma_joinNumbers_180 (by decide) ?_
        refine j_goto (tgt := 185) d_Ma_joinNumbers_181 (by decide) ?_
        refine j_callV (As := [.int (nI 1)]) (rest := []) (c_Ma_pushTruth Γ.l E N28 X L y n zs (m.drop 2) o b k true I28 hL) Y_Ma_pushTruth w_731 w_733 ws_16 I28.mo rfl rfl rfl (Nat.le_of_ble_eq_true rfl) (by omega) (by omega) (by omega) d_Ma_joinNumbers_185 (fun v185 N185 p185 => ?_)
        obtain ⟨w185, m185, o185, b185_, k185, rfl, I185, f185, T185, F185⟩ := p185
        have ht17_28_2_185_12 := ht17_28_2.keep f185
        have ht28_185_12 := ht28.keep f185
        obtain ⟨z185_12m, u185_12m⟩ := I185.sm.o
        obtain ⟨z185_12o, u185_12o⟩ := I185.so.o
        obtain ⟨z185_12_t17, u185_12_t17⟩ := ht17_28_2_185_12.o
        obtain ⟨z185_12_t28, u185_12_t28⟩ := ht28_185_12.o
        show mp_J Γ m_Ma_joinNumbers E κ N185 [(4, .long (am_num (m.getD 1 []))), (2, .long (am_num (m.getD 0 []))), (0, .ref (L 0)), (1, .int (nI 156))] 188 [.int (tf w185)] (0 + 0) (0 + 0)
        refine j_goto (tgt := 226) d_Ma_joinNumbers_188 (by decide) ?_
        exact j_zret hκ rfl (tf_01 _) (by omega) (by omega) d_Ma_joinNumbers_226 (MP.k T185 F185 I185 ((f17.trans f28).trans f185) (by unfold a_join; rw [if_neg hN, if_neg (by omega), if_neg (by omega), if_neg (by omega), if_neg (by omega), if_pos (by omega)]; first | exact congrArg (fun x => some (x :: m.drop 2, o, b, k)) (am_bd (decide_eq_true ((lg_cmp_eq _ _).mp b177))) | exact congrArg (fun x => some (x :: m.drop 2, o, b, k)) (am_bd (decide_eq_false (fun h => b177 ((lg_cmp_eq _ _).mpr h))))))
    · skip
      refine j_tableIn 191 d_Ma_joinNumbers_37 (by decide) (by decide) rfl (by decide) ?_
      refine j_lload d_Ma_joinNumbers_191 0 rfl ?_
      refine j_lload_n d_Ma_joinNumbers_193 rfl 1 rfl ?_
      refine j_lcmp d_Ma_joinNumbers_194 ?_
      refine j_if_ne 202 d_Ma_joinNumbers_195 (by decide) (fun b195 => ?_) (fun b195 => ?_)
      · skip
        refine j_iconst (v := nI 0) d_Ma_joinNumbers_202 (by decide) ?_
        refine j_goto (tgt := 226) d_Ma_joinNumbers_203 (by decide) ?_
        exact j_zret hκ rfl (by first | exact Or.inl rfl | exact Or.inr rfl) (by omega) (by omega) d_Ma_joinNumbers_226 (MP.f I28 (f17.trans f28) (fun s hs => by unfold a_join at hs; rw [if_neg hN, if_neg (by omega), if_neg (by omega), if_neg (by omega), if_neg (by omega), if_neg (by omega), if_pos (by omega)] at hs; rw [if_neg (fun h => b195 ((lg_cmp_eq _ _).mpr h))] at hs; cases hs))
      · skip
        refine j_iconst (v := nI 1) d_Ma_joinNumbers_198 (by decide) ?_
        refine j_goto (tgt := 226) d_Ma_joinNumbers_199 (by decide) ?_
        exact j_zret hκ rfl (by first | exact Or.inl rfl | exact Or.inr rfl) (by omega) (by omega) d_Ma_joinNumbers_226 (MP.t I28 (f17.trans f28) (by unfold a_join; rw [if_neg hN, if_neg (by omega), if_neg (by omega), if_neg (by omega), if_neg (by omega), if_neg (by omega), if_pos (by omega)]; rw [if_pos ((lg_cmp_eq _ _).mp b195)]))
    · skip
      refine j_tableIn 206 d_Ma_joinNumbers_37 (by decide) (by decide) rfl (by decide) ?_
      refine j_aload_n d_Ma_joinNumbers_206 rfl 2 rfl ?_
      refine j_lload d_Ma_joinNumbers_207 0 rfl ?_
      refine j_lload_n d_Ma_joinNumbers_209 rfl 1 rfl ?_
      refine j_lcmp d_Ma_joinNumbers_210 ?_
      refine j_if_eq 218 d_Ma_joinNumbers_211 (by decide) (fun b211 => ?_) (fun b211 => ?_)
      · skip
        refine j_iconst (v := nI 0) d_Ma_joinNumbers_218 (by decide) ?_
        refine j_callV (As := [.int (nI 0)]) (rest := []) (c_Ma_pushTruth Γ.l E N28 X L y n zs (m.drop 2) o b k false I28 hL) Y_Ma_pushTruth w_731 w_733 ws_16 I28.mo rfl rfl rfl (Nat.le_of_ble_eq_true rfl) (by omega) (by omega) (by omega) d_Ma_joinNumbers_219 (fun v219 N219 p219 => ?_)
        obtain ⟨w219, m219, o219, b219_, k219, rfl, I219, f219, T219, F219⟩ := p219
        have ht17_28_2_219_13 := ht17_28_2.keep f219
        have ht28_219_13 := ht28.keep f219
        obtain ⟨z219_13m, u219_13m⟩ := I219.sm.o
        obtain ⟨z219_13o, u219_13o⟩ := I219.so.o
        obtain ⟨z219_13_t17, u219_13_t17⟩ := ht17_28_2_219_13.o
        obtain ⟨z219_13_t28, u219_13_t28⟩ := ht28_219_13.o
        show mp_J Γ m_Ma_joinNumbers E κ N219 [(4, .long (am_num (m.getD 1 []))), (2, .long (am_num (m.getD 0 []))), (0, .ref (L 0)), (1, .int (nI 158))] 222 [.int (tf w219)] (0 + 0) (0 + 0)
        refine j_goto (tgt := 226) d_Ma_joinNumbers_222 (by decide) ?_
        exact j_zret hκ rfl (tf_01 _) (by omega) (by omega) d_Ma_joinNumbers_226 (MP.k T219 F219 I219 ((f17.trans f28).trans f219) (by unfold a_join; rw [if_neg hN, if_neg (by omega), if_neg (by omega), if_neg (by omega), if_neg (by omega), if_neg (by omega), if_neg (by omega), if_pos (by omega)]; first | exact congrArg (fun x => some (x :: m.drop 2, o, b, k)) (am_bd (decide_eq_true (fun h => b211 ((lg_cmp_eq _ _).mpr h)))) | exact congrArg (fun x => some (x :: m.drop 2, o, b, k)) (am_bd (decide_eq_false (fun h => h ((lg_cmp_eq _ _).mp b211))))))
      · skip
        refine j_iconst (v := nI 1) d_Ma_joinNumbers_214 (by decide) ?_
        refine j_goto (tgt := 219) d_Ma_joinNumbers_215 (by decide) ?_
        refine j_callV (As := [.int (nI 1)]) (rest := []) (c_Ma_pushTruth Γ.l E N28 X L y n zs (m.drop 2) o b k true I28 hL) Y_Ma_pushTruth w_731 w_733 ws_16 I28.mo rfl rfl rfl (Nat.le_of_ble_eq_true rfl) (by omega) (by omega) (by omega) d_Ma_joinNumbers_219 (fun v219 N219 p219 => ?_)
        obtain ⟨w219, m219, o219, b219_, k219, rfl, I219, f219, T219, F219⟩ := p219
        have ht17_28_2_219_14 := ht17_28_2.keep f219
        have ht28_219_14 := ht28.keep f219
        obtain ⟨z219_14m, u219_14m⟩ := I219.sm.o
        obtain ⟨z219_14o, u219_14o⟩ := I219.so.o
        obtain ⟨z219_14_t17, u219_14_t17⟩ := ht17_28_2_219_14.o
        obtain ⟨z219_14_t28, u219_14_t28⟩ := ht28_219_14.o
        show mp_J Γ m_Ma_joinNumbers E κ N219 [(4, .long (am_num (m.getD 1 []))), (2, .long (am_num (m.getD 0 []))), (0, .ref (L 0)), (1, .int (nI 158))] 222 [.int (tf w219)] (0 + 0) (0 + 0)
        refine j_goto (tgt := 226) d_Ma_joinNumbers_222 (by decide) ?_
        exact j_zret hκ rfl (tf_01 _) (by omega) (by omega) d_Ma_joinNumbers_226 (MP.k T219 F219 I219 ((f17.trans f28).trans f219) (by unfold a_join; rw [if_neg hN, if_neg (by omega), if_neg (by omega), if_neg (by omega), if_neg (by omega), if_neg (by omega), if_neg (by omega), if_pos (by omega)]; first | exact congrArg (fun x => some (x :: m.drop 2, o, b, k)) (am_bd (decide_eq_true (fun h => b211 ((lg_cmp_eq _ _).mpr h)))) | exact congrArg (fun x => some (x :: m.drop 2, o, b, k)) (am_bd (decide_eq_false (fun h => h ((lg_cmp_eq _ _).mp b211))))))
  · skip
    refine j_iconst (v := nI 0) d_Ma_joinNumbers_11 (by decide) ?_
    exact j_zret hκ rfl (by first | exact Or.inl rfl | exact Or.inr rfl) (by omega) (by omega) d_Ma_joinNumbers_12 (MP.f hI mp_Fr.refl (fun s hs => by unfold a_join at hs; rw [if_pos (of_decide_eq_false b8)] at hs; cases hs))

set_option maxHeartbeats 4000000 in
set_option maxRecDepth 100000 in
theorem c_Ma_orderNumbers (l : Launch) (E : mp_E) (M : mp_M) (X : Nat → Prop) (L : Nat → Nat) (y n : Nat) (zs m o : List am_T) (b : List Bool) (k : Nat) (c : Nat) (hI : IV E X M L y n zs m o b k) (hL : LY X L) (hc : c < 256) : mp_Cr l m_Ma_orderNumbers E M 6 2 8 [.ref (L 0), .int (nI c)] (MP E X M L y n zs (a_ord c m o b k)) := by
  refine mp_Cr.of (by decide) (Nat.le_of_ble_eq_true rfl) fun Γ κ hl hκ => ?_
  subst hl
  obtain ⟨hκd, hκc, hκs, -⟩ := id hκ
  have hlm := hI.sm.le
  have hlo := hI.so.le
  obtain ⟨z0_m, u0_m⟩ := hI.sm.o
  obtain ⟨z0_o, u0_o⟩ := hI.so.o
  show mp_J Γ m_Ma_orderNumbers E κ M [(0, .ref (L 0)), (1, .int (nI c))] 0 [] 0 0
  refine j_aload_n d_Ma_orderNumbers_0 rfl 0 rfl ?_
  refine j_get F_Ma hI.mo 6 (by decide) w_169 (Or.inl rfl) rfl d_Ma_orderNumbers_1 ?_
  refine j_iconst (v := nI 2) d_Ma_orderNumbers_4 (by decide) ?_
  refine j_callV (As := [.int (nI 2)]) (rest := []) (k_nums Γ.l hI.sm 2 (by decide)) Y_St_holdsNumbers w_739 w_740 w_741 u0_m rfl rfl rfl (Nat.le_of_ble_eq_true rfl) (by omega) (by omega) (by omega) d_Ma_orderNumbers_5 (fun v5 N5 p5 => ?_)
  obtain ⟨rfl, q5⟩ := p5
  obtain rfl := q5.symm
  show mp_J Γ m_Ma_orderNumbers E κ M [(0, .ref (L 0)), (1, .int (nI c))] 8 [.int (tf (decide (am_ns m 2)))] 0 0
  refine j_tif_ne 13 d_Ma_orderNumbers_8 (by decide) (fun b8 => ?_) (fun b8 => ?_)
  · skip
    have hn := of_decide_eq_true b8
    have hN : ¬ ¬ am_ns m 2 := fun h => h hn
    have hn1 := hn.1
    have l0 := hn.2 0 (by decide)
    have v0 := am_num_lim l0
    have l1 := hn.2 1 (by decide)
    have v1 := am_num_lim l1
    refine j_aload_n d_Ma_orderNumbers_13 rfl 0 rfl ?_
    refine j_get F_Ma hI.mo 6 (by decide) w_169 (Or.inl rfl) rfl d_Ma_orderNumbers_14 ?_
    refine j_callV (As := []) (rest := []) (i_popd Γ.l (j := 0) hI hL (by omega)) Y_St_pop w_374 w_375 w_376 u0_m rfl rfl rfl (Nat.le_of_ble_eq_true rfl) (by omega) (by omega) (by omega) d_Ma_orderNumbers_17 (fun v17 N17 p17 => ?_)
    obtain ⟨t17, rfl, ht17, I17x, f17⟩ := p17
    have I17 : IV E X N17 L y n zs (m.drop 1) o b k := I17x
    obtain ⟨z17_1m, u17_1m⟩ := I17.sm.o
    obtain ⟨z17_1o, u17_1o⟩ := I17.so.o
    obtain ⟨z17_1_t17, u17_1_t17⟩ := ht17.o
    show mp_J Γ m_Ma_orderNumbers E κ N17 [(0, .ref (L 0)), (1, .int (nI c))] 20 [.ref t17] 0 0
    refine j_callV (As := []) (rest := []) (t_num Γ.l ht17 l0) Y_Th_toNumber w_711 w_712 w_713 u17_1_t17 rfl rfl rfl (Nat.le_of_ble_eq_true rfl) (by omega) (by omega) (by omega) d_Ma_orderNumbers_20 (fun v20 N20 p20 => ?_)
    obtain ⟨rfl, q20⟩ := p20
    obtain rfl := q20.symm
    show mp_J Γ m_Ma_orderNumbers E κ N17 [(0, .ref (L 0)), (1, .int (nI c))] 23 [.long (am_num (m.getD 0 []))] 0 0
    refine j_lstore_n [(2, .long (am_num (m.getD 0 []))), (0, .ref (L 0)), (1, .int (nI c))] d_Ma_orderNumbers_23 rfl (by decide) rfl ?_
    refine j_aload_n d_Ma_orderNumbers_24 rfl 1 rfl ?_
    refine j_get F_Ma I17.mo 6 (by decide) w_169 (Or.inl rfl) rfl d_Ma_orderNumbers_25 ?_
    refine j_callV (As := []) (rest := []) (i_popd Γ.l (j := 1) I17 hL (by omega)) Y_St_pop w_374 w_375 w_376 u17_1m rfl rfl rfl (Nat.le_of_ble_eq_true rfl) (by omega) (by omega) (by omega) d_Ma_orderNumbers_28 (fun v28 N28 p28 => ?_)
    obtain ⟨t28, rfl, ht28, I28x, f28⟩ := p28
    have I28 : IV E X N28 L y n zs (m.drop 2) o b k := I28x
    have ht17_28_2 := ht17.keep f28
    obtain ⟨z28_2m, u28_2m⟩ := I28.sm.o
    obtain ⟨z28_2o, u28_2o⟩ := I28.so.o
    obtain ⟨z28_2_t17, u28_2_t17⟩ := ht17_28_2.o
    obtain ⟨z28_2_t28, u28_2_t28⟩ := ht28.o
    show mp_J Γ m_Ma_orderNumbers E κ N28 [(2, .long (am_num (m.getD 0 []))), (0, .ref (L 0)), (1, .int (nI c))] 31 [.ref t28] 0 0
    refine j_callV (As := []) (rest := []) (t_num Γ.l ht28 l1) Y_Th_toNumber w_711 w_712 w_713 u28_2_t28 rfl rfl rfl (Nat.le_of_ble_eq_true rfl) (by omega) (by omega) (by omega) d_Ma_orderNumbers_31 (fun v31 N31 p31 => ?_)
    obtain ⟨rfl, q31⟩ := p31
    obtain rfl := q31.symm
    show mp_J Γ m_Ma_orderNumbers E κ N28 [(2, .long (am_num (m.getD 0 []))), (0, .ref (L 0)), (1, .int (nI c))] 34 [.long (am_num (m.getD 1 []))] 0 0
    refine j_lstore [(4, .long (am_num (m.getD 1 []))), (2, .long (am_num (m.getD 0 []))), (0, .ref (L 0)), (1, .int (nI c))] d_Ma_orderNumbers_34 (by decide) rfl ?_
    refine j_iload_n d_Ma_orderNumbers_36 rfl 3 rfl ?_
    rcases (show c < 159 ∨ 164 < c ∨ c = 159 ∨ c = 160 ∨ c = 161 ∨ c = 162 ∨ c = 163 ∨ c = 164 by omega) with hz9 | hz9 | rfl | rfl | rfl | rfl | rfl | rfl
    · skip
      refine j_tableOut 178 d_Ma_orderNumbers_37 (Or.inl (by rw [nI_toInt (by omega)]; omega)) (by decide) ?_
      refine j_iconst (v := nI 0) d_Ma_orderNumbers_178 (by decide) ?_
      exact j_zret hκ rfl (by first | exact Or.inl rfl | exact Or.inr rfl) (by omega) (by omega) d_Ma_orderNumbers_179 (MP.f I28 (f17.trans f28) (fun s hs => by unfold a_ord at hs; rw [if_neg hN, if_neg (by omega), if_neg (by omega), if_neg (by omega), if_neg (by omega), if_neg (by omega), if_neg (by omega)] at hs; cases hs))
    · skip
      refine j_tableOut 178 d_Ma_orderNumbers_37 (Or.inr (by rw [nI_toInt (by omega)]; omega)) (by decide) ?_
      refine j_iconst (v := nI 0) d_Ma_orderNumbers_178 (by decide) ?_
      exact j_zret hκ rfl (by first | exact Or.inl rfl | exact Or.inr rfl) (by omega) (by omega) d_Ma_orderNumbers_179 (MP.f I28 (f17.trans f28) (fun s hs => by unfold a_ord at hs; rw [if_neg hN, if_neg (by omega), if_neg (by omega), if_neg (by omega), if_neg (by omega), if_neg (by omega), if_neg (by omega)] at hs; cases hs))
    · skip
      refine j_tableIn 76 d_Ma_orderNumbers_37 (by decide) (by decide) rfl (by decide) ?_
      refine j_aload_n d_Ma_orderNumbers_76 rfl 2 rfl ?_
      refine j_lload d_Ma_orderNumbers_77 0 rfl ?_
      refine j_lload_n d_Ma_orderNumbers_79 rfl 1 rfl ?_
      refine j_lcmp d_Ma_orderNumbers_80 ?_
      refine j_if_ge 88 d_Ma_orderNumbers_81 (by decide) (fun b81 => ?_) (fun b81 => ?_)
      · skip
        refine j_iconst (v := nI 0) d_Ma_orderNumbers_88 (by decide) ?_
        refine j_callV (As := [.int (nI 0)]) (rest := []) (c_Ma_pushTruth Γ.l E N28 X L y n zs (m.drop 2) o b k false I28 hL) Y_Ma_pushTruth w_731 w_733 ws_16 I28.mo rfl rfl rfl (Nat.le_of_ble_eq_true rfl) (by omega) (by omega) (by omega) d_Ma_orderNumbers_89 (fun v89 N89 p89 => ?_)
        obtain ⟨w89, m89, o89, b89_, k89, rfl, I89, f89, T89, F89⟩ := p89
        have ht17_28_2_89_3 := ht17_28_2.keep f89
        have ht28_89_3 := ht28.keep f89
        obtain ⟨z89_3m, u89_3m⟩ := I89.sm.o
        obtain ⟨z89_3o, u89_3o⟩ := I89.so.o
        obtain ⟨z89_3_t17, u89_3_t17⟩ := ht17_28_2_89_3.o
        obtain ⟨z89_3_t28, u89_3_t28⟩ := ht28_89_3.o
        show mp_J Γ m_Ma_orderNumbers E κ N89 [(4, .long (am_num (m.getD 1 []))), (2, .long (am_num (m.getD 0 []))), (0, .ref (L 0)), (1, .int (nI 159))] 92 [.int (tf w89)] (0 + 0) (0 + 0)
        refine j_goto (tgt := 179) d_Ma_orderNumbers_92 (by decide) ?_
        exact j_zret hκ rfl (tf_01 _) (by omega) (by omega) d_Ma_orderNumbers_179 (MP.k T89 F89 I89 ((f17.trans f28).trans f89) (by unfold a_ord; rw [if_neg hN, if_pos (by omega)]; first | exact congrArg (fun x => some (x :: m.drop 2, o, b, k)) (am_bd (decide_eq_true (Int64.not_le.mp (fun h => b81 ((lg_cmp_ge _ _).mpr h))))) | exact congrArg (fun x => some (x :: m.drop 2, o, b, k)) (am_bd (decide_eq_false (Int64.not_lt.mpr ((lg_cmp_ge _ _).mp b81))))))
      · skip
        refine j_iconst (v := nI 1) d_Ma_orderNumbers_84 (by decide) ?_
        refine j_goto (tgt := 89) d_Ma_orderNumbers_85 (by decide) ?_
        refine j_callV (As := [.int (nI 1)]) (rest := []) (c_Ma_pushTruth Γ.l E N28 X L y n zs (m.drop 2) o b k true I28 hL) Y_Ma_pushTruth w_731 w_733 ws_16 I28.mo rfl rfl rfl (Nat.le_of_ble_eq_true rfl) (by omega) (by omega) (by omega) d_Ma_orderNumbers_89 (fun v89 N89 p89 => ?_)
        obtain ⟨w89, m89, o89, b89_, k89, rfl, I89, f89, T89, F89⟩ := p89
        have ht17_28_2_89_4 := ht17_28_2.keep f89
        have ht28_89_4 := ht28.keep f89
        obtain ⟨z89_4m, u89_4m⟩ := I89.sm.o
        obtain ⟨z89_4o, u89_4o⟩ := I89.so.o
        obtain ⟨z89_4_t17, u89_4_t17⟩ := ht17_28_2_89_4.o
        obtain ⟨z89_4_t28, u89_4_t28⟩ := ht28_89_4.o
        show mp_J Γ m_Ma_orderNumbers E κ N89 [(4, .long (am_num (m.getD 1 []))), (2, .long (am_num (m.getD 0 []))), (0, .ref (L 0)), (1, .int (nI 159))] 92 [.int (tf w89)] (0 + 0) (0 + 0)
        refine j_goto (tgt := 179) d_Ma_orderNumbers_92 (by decide) ?_
        exact j_zret hκ rfl (tf_01 _) (by omega) (by omega) d_Ma_orderNumbers_179 (MP.k T89 F89 I89 ((f17.trans f28).trans f89) (by unfold a_ord; rw [if_neg hN, if_pos (by omega)]; first | exact congrArg (fun x => some (x :: m.drop 2, o, b, k)) (am_bd (decide_eq_true (Int64.not_le.mp (fun h => b81 ((lg_cmp_ge _ _).mpr h))))) | exact congrArg (fun x => some (x :: m.drop 2, o, b, k)) (am_bd (decide_eq_false (Int64.not_lt.mpr ((lg_cmp_ge _ _).mp b81))))))
    · skip
      refine j_tableIn 95 d_Ma_orderNumbers_37 (by decide) (by decide) rfl (by decide) ?_
      refine j_aload_n d_Ma_orderNumbers_95 rfl 2 rfl ?_
      refine j_lload d_Ma_orderNumbers_96 0 rfl ?_
      refine j_lload_n d_Ma_orderNumbers_98 rfl 1 rfl ?_
      refine j_lcmp d_Ma_orderNumbers_99 ?_
      refine j_if_le 107 d_Ma_orderNumbers_100 (by decide) (fun b100 => ?_) (fun b100 => ?_)
      · skip
        refine j_iconst (v := nI 0) d_Ma_orderNumbers_107 (by decide) ?_
        refine j_callV (As := [.int (nI 0)]) (rest := []) (c_Ma_pushTruth Γ.l E N28 X L y n zs (m.drop 2) o b k false I28 hL) Y_Ma_pushTruth w_731 w_733 ws_16 I28.mo rfl rfl rfl (Nat.le_of_ble_eq_true rfl) (by omega) (by omega) (by omega) d_Ma_orderNumbers_108 (fun v108 N108 p108 => ?_)
        obtain ⟨w108, m108, o108, b108_, k108, rfl, I108, f108, T108, F108⟩ := p108
        have ht17_28_2_108_5 := ht17_28_2.keep f108
        have ht28_108_5 := ht28.keep f108
        obtain ⟨z108_5m, u108_5m⟩ := I108.sm.o
        obtain ⟨z108_5o, u108_5o⟩ := I108.so.o
        obtain ⟨z108_5_t17, u108_5_t17⟩ := ht17_28_2_108_5.o
        obtain ⟨z108_5_t28, u108_5_t28⟩ := ht28_108_5.o
        show mp_J Γ m_Ma_orderNumbers E κ N108 [(4, .long (am_num (m.getD 1 []))), (2, .long (am_num (m.getD 0 []))), (0, .ref (L 0)), (1, .int (nI 160))] 111 [.int (tf w108)] (0 + 0) (0 + 0)
        refine j_goto (tgt := 179) d_Ma_orderNumbers_111 (by decide) ?_
        exact j_zret hκ rfl (tf_01 _) (by omega) (by omega) d_Ma_orderNumbers_179 (MP.k T108 F108 I108 ((f17.trans f28).trans f108) (by unfold a_ord; rw [if_neg hN, if_neg (by omega), if_pos (by omega)]; first | exact congrArg (fun x => some (x :: m.drop 2, o, b, k)) (am_bd (decide_eq_true (Int64.not_le.mp (fun h => b100 ((lg_cmp_le _ _).mpr h))))) | exact congrArg (fun x => some (x :: m.drop 2, o, b, k)) (am_bd (decide_eq_false (Int64.not_lt.mpr ((lg_cmp_le _ _).mp b100))))))
      · skip
        refine j_iconst (v := nI 1) d_Ma_orderNumbers_103 (by decide) ?_
        refine j_goto (tgt := 108) d_Ma_orderNumbers_104 (by decide) ?_
        refine j_callV (As := [.int (nI 1)]) (rest := []) (c_Ma_pushTruth Γ.l E N28 X L y n zs (m.drop 2) o b k true I28 hL) Y_Ma_pushTruth w_731 w_733 ws_16 I28.mo rfl rfl rfl (Nat.le_of_ble_eq_true rfl) (by omega) (by omega) (by omega) d_Ma_orderNumbers_108 (fun v108 N108 p108 => ?_)
        obtain ⟨w108, m108, o108, b108_, k108, rfl, I108, f108, T108, F108⟩ := p108
        have ht17_28_2_108_6 := ht17_28_2.keep f108
        have ht28_108_6 := ht28.keep f108
        obtain ⟨z108_6m, u108_6m⟩ := I108.sm.o
        obtain ⟨z108_6o, u108_6o⟩ := I108.so.o
        obtain ⟨z108_6_t17, u108_6_t17⟩ := ht17_28_2_108_6.o
        obtain ⟨z108_6_t28, u108_6_t28⟩ := ht28_108_6.o
        show mp_J Γ m_Ma_orderNumbers E κ N108 [(4, .long (am_num (m.getD 1 []))), (2, .long (am_num (m.getD 0 []))), (0, .ref (L 0)), (1, .int (nI 160))] 111 [.int (tf w108)] (0 + 0) (0 + 0)
        refine j_goto (tgt := 179) d_Ma_orderNumbers_111 (by decide) ?_
        exact j_zret hκ rfl (tf_01 _) (by omega) (by omega) d_Ma_orderNumbers_179 (MP.k T108 F108 I108 ((f17.trans f28).trans f108) (by unfold a_ord; rw [if_neg hN, if_neg (by omega), if_pos (by omega)]; first | exact congrArg (fun x => some (x :: m.drop 2, o, b, k)) (am_bd (decide_eq_true (Int64.not_le.mp (fun h => b100 ((lg_cmp_le _ _).mpr h))))) | exact congrArg (fun x => some (x :: m.drop 2, o, b, k)) (am_bd (decide_eq_false (Int64.not_lt.mpr ((lg_cmp_le _ _).mp b100))))))
    · skip
      refine j_tableIn 114 d_Ma_orderNumbers_37 (by decide) (by decide) rfl (by decide) ?_
      refine j_aload_n d_Ma_orderNumbers_114 rfl 2 rfl ?_
      refine j_lload d_Ma_orderNumbers_115 0 rfl ?_
      refine j_lload_n d_Ma_orderNumbers_117 rfl 1 rfl ?_
      refine j_lcmp d_Ma_orderNumbers_118 ?_
      refine j_if_gt 126 d_Ma_orderNumbers_119 (by decide) (fun b119 => ?_) (fun b119 => ?_)
      · skip
        refine j_iconst (v := nI 0) d_Ma_orderNumbers_126 (by decide) ?_
        refine j_callV (As := [.int (nI 0)]) (rest := []) (c_Ma_pushTruth Γ.l E N28 X L y n zs (m.drop 2) o b k false I28 hL) Y_Ma_pushTruth w_731 w_733 ws_16 I28.mo rfl rfl rfl (Nat.le_of_ble_eq_true rfl) (by omega) (by omega) (by omega) d_Ma_orderNumbers_127 (fun v127 N127 p127 => ?_)
        obtain ⟨w127, m127, o127, b127_, k127, rfl, I127, f127, T127, F127⟩ := p127
        have ht17_28_2_127_7 := ht17_28_2.keep f127
        have ht28_127_7 := ht28.keep f127
        obtain ⟨z127_7m, u127_7m⟩ := I127.sm.o
        obtain ⟨z127_7o, u127_7o⟩ := I127.so.o
        obtain ⟨z127_7_t17, u127_7_t17⟩ := ht17_28_2_127_7.o
        obtain ⟨z127_7_t28, u127_7_t28⟩ := ht28_127_7.o
        show mp_J Γ m_Ma_orderNumbers E κ N127 [(4, .long (am_num (m.getD 1 []))), (2, .long (am_num (m.getD 0 []))), (0, .ref (L 0)), (1, .int (nI 161))] 130 [.int (tf w127)] (0 + 0) (0 + 0)
        refine j_goto (tgt := 179) d_Ma_orderNumbers_130 (by decide) ?_
        exact j_zret hκ rfl (tf_01 _) (by omega) (by omega) d_Ma_orderNumbers_179 (MP.k T127 F127 I127 ((f17.trans f28).trans f127) (by unfold a_ord; rw [if_neg hN, if_neg (by omega), if_neg (by omega), if_pos (by omega)]; first | exact congrArg (fun x => some (x :: m.drop 2, o, b, k)) (am_bd (decide_eq_true (Int64.not_lt.mp (fun h => b119 ((lg_cmp_gt _ _).mpr h))))) | exact congrArg (fun x => some (x :: m.drop 2, o, b, k)) (am_bd (decide_eq_false (Int64.not_le.mpr ((lg_cmp_gt _ _).mp b119))))))
      · skip
        refine j_iconst (v := nI 1) d_Ma_orderNumbers_122 (by decide) ?_
        refine j_goto (tgt := 127) d_Ma_orderNumbers_123 (by decide) ?_
        refine j_callV (As := [.int (nI 1)]) (rest := []) (c_Ma_pushTruth Γ.l E N28 X L y n zs (m.drop 2) o b k true I28 hL) Y_Ma_pushTruth w_731 w_733 ws_16 I28.mo rfl rfl rfl (Nat.le_of_ble_eq_true rfl) (by omega) (by omega) (by omega) d_Ma_orderNumbers_127 (fun v127 N127 p127 => ?_)
        obtain ⟨w127, m127, o127, b127_, k127, rfl, I127, f127, T127, F127⟩ := p127
        have ht17_28_2_127_8 := ht17_28_2.keep f127
        have ht28_127_8 := ht28.keep f127
        obtain ⟨z127_8m, u127_8m⟩ := I127.sm.o
        obtain ⟨z127_8o, u127_8o⟩ := I127.so.o
        obtain ⟨z127_8_t17, u127_8_t17⟩ := ht17_28_2_127_8.o
        obtain ⟨z127_8_t28, u127_8_t28⟩ := ht28_127_8.o
        show mp_J Γ m_Ma_orderNumbers E κ N127 [(4, .long (am_num (m.getD 1 []))), (2, .long (am_num (m.getD 0 []))), (0, .ref (L 0)), (1, .int (nI 161))] 130 [.int (tf w127)] (0 + 0) (0 + 0)
        refine j_goto (tgt := 179) d_Ma_orderNumbers_130 (by decide) ?_
        exact j_zret hκ rfl (tf_01 _) (by omega) (by omega) d_Ma_orderNumbers_179 (MP.k T127 F127 I127 ((f17.trans f28).trans f127) (by unfold a_ord; rw [if_neg hN, if_neg (by omega), if_neg (by omega), if_pos (by omega)]; first | exact congrArg (fun x => some (x :: m.drop 2, o, b, k)) (am_bd (decide_eq_true (Int64.not_lt.mp (fun h => b119 ((lg_cmp_gt _ _).mpr h))))) | exact congrArg (fun x => some (x :: m.drop 2, o, b, k)) (am_bd (decide_eq_false (Int64.not_le.mpr ((lg_cmp_gt _ _).mp b119))))))
    · skip
      refine j_tableIn 133 d_Ma_orderNumbers_37 (by decide) (by decide) rfl (by decide) ?_
      refine j_aload_n d_Ma_orderNumbers_133 rfl 2 rfl ?_
      refine j_lload d_Ma_orderNumbers_134 0 rfl ?_
      refine j_lload_n d_Ma_orderNumbers_136 rfl 1 rfl ?_
      refine j_lcmp d_Ma_orderNumbers_137 ?_
      refine j_if_lt 145 d_Ma_orderNumbers_138 (by decide) (fun b138 => ?_) (fun b138 => ?_)
      · skip
        refine j_iconst (v := nI 0) d_Ma_orderNumbers_145 (by decide) ?_
        refine j_callV (As := [.int (nI 0)]) (rest := []) (c_Ma_pushTruth Γ.l E N28 X L y n zs (m.drop 2) o b k false I28 hL) Y_Ma_pushTruth w_731 w_733 ws_16 I28.mo rfl rfl rfl (Nat.le_of_ble_eq_true rfl) (by omega) (by omega) (by omega) d_Ma_orderNumbers_146 (fun v146 N146 p146 => ?_)
        obtain ⟨w146, m146, o146, b146_, k146, rfl, I146, f146, T146, F146⟩ := p146
        have ht17_28_2_146_9 := ht17_28_2.keep f146
        have ht28_146_9 := ht28.keep f146
        obtain ⟨z146_9m, u146_9m⟩ := I146.sm.o
        obtain ⟨z146_9o, u146_9o⟩ := I146.so.o
        obtain ⟨z146_9_t17, u146_9_t17⟩ := ht17_28_2_146_9.o
        obtain ⟨z146_9_t28, u146_9_t28⟩ := ht28_146_9.o
        show mp_J Γ m_Ma_orderNumbers E κ N146 [(4, .long (am_num (m.getD 1 []))), (2, .long (am_num (m.getD 0 []))), (0, .ref (L 0)), (1, .int (nI 162))] 149 [.int (tf w146)] (0 + 0) (0 + 0)
        refine j_goto (tgt := 179) d_Ma_orderNumbers_149 (by decide) ?_
        exact j_zret hκ rfl (tf_01 _) (by omega) (by omega) d_Ma_orderNumbers_179 (MP.k T146 F146 I146 ((f17.trans f28).trans f146) (by unfold a_ord; rw [if_neg hN, if_neg (by omega), if_neg (by omega), if_neg (by omega), if_pos (by omega)]; first | exact congrArg (fun x => some (x :: m.drop 2, o, b, k)) (am_bd (decide_eq_true (Int64.not_lt.mp (fun h => b138 ((lg_cmp_lt _ _).mpr h))))) | exact congrArg (fun x => some (x :: m.drop 2, o, b, k)) (am_bd (decide_eq_false (Int64.not_le.mpr ((lg_cmp_lt _ _).mp b138))))))
      · skip
        refine j_iconst (v := nI 1) d_Ma_orderNumbers_141 (by decide) ?_
        refine j_goto (tgt := 146) d_Ma_orderNumbers_142 (by decide) ?_
        refine j_callV (As := [.int (nI 1)]) (rest := []) (c_Ma_pushTruth Γ.l E N28 X L y n zs (m.drop 2) o b k true I28 hL) Y_Ma_pushTruth w_731 w_733 ws_16 I28.mo rfl rfl rfl (Nat.le_of_ble_eq_true rfl) (by omega) (by omega) (by omega) d_Ma_orderNumbers_146 (fun v146 N146 p146 => ?_)
        obtain ⟨w146, m146, o146, b146_, k146, rfl, I146, f146, T146, F146⟩ := p146
        have ht17_28_2_146_10 := ht17_28_2.keep f146
        have ht28_146_10 := ht28.keep f146
        obtain ⟨z146_10m, u146_10m⟩ := I146.sm.o
        obtain ⟨z146_10o, u146_10o⟩ := I146.so.o
        obtain ⟨z146_10_t17, u146_10_t17⟩ := ht17_28_2_146_10.o
        obtain ⟨z146_10_t28, u146_10_t28⟩ := ht28_146_10.o
        show mp_J Γ m_Ma_orderNumbers E κ N146 [(4, .long (am_num (m.getD 1 []))), (2, .long (am_num (m.getD 0 []))), (0, .ref (L 0)), (1, .int (nI 162))] 149 [.int (tf w146)] (0 + 0) (0 + 0)
        refine j_goto (tgt := 179) d_Ma_orderNumbers_149 (by decide) ?_
        exact j_zret hκ rfl (tf_01 _) (by omega) (by omega) d_Ma_orderNumbers_179 (MP.k T146 F146 I146 ((f17.trans f28).trans f146) (by unfold a_ord; rw [if_neg hN, if_neg (by omega), if_neg (by omega), if_neg (by omega), if_pos (by omega)]; first | exact congrArg (fun x => some (x :: m.drop 2, o, b, k)) (am_bd (decide_eq_true (Int64.not_lt.mp (fun h => b138 ((lg_cmp_lt _ _).mpr h))))) | exact congrArg (fun x => some (x :: m.drop 2, o, b, k)) (am_bd (decide_eq_false (Int64.not_le.mpr ((lg_cmp_lt _ _).mp b138))))))
    · skip
      refine j_tableIn 152 d_Ma_orderNumbers_37 (by decide) (by decide) rfl (by decide) ?_
      refine j_aload_n d_Ma_orderNumbers_152 rfl 2 rfl ?_
      refine j_lload d_Ma_orderNumbers_153 0 rfl ?_
      refine j_lload_n d_Ma_orderNumbers_155 rfl 1 rfl ?_
      refine j_minL w_753 (Nat.le_of_ble_eq_true rfl) (by omega) (by omega) (by omega) d_Ma_orderNumbers_156 ?_
      refine j_callV (As := [.long (if (am_num (m.getD 0 [])) < (am_num (m.getD 1 [])) then (am_num (m.getD 0 [])) else (am_num (m.getD 1 [])))]) (rest := []) (c_Ma_pushNumber Γ.l E N28 X L y n zs (m.drop 2) o b k (if (am_num (m.getD 0 [])) < (am_num (m.getD 1 [])) then (am_num (m.getD 0 [])) else (am_num (m.getD 1 []))) I28 hL (am_mag_lt (by split <;> first | omega | (rw [i6_neg (by omega)]; omega)))) Y_Ma_pushNumber w_669 w_671 ws_9 I28.mo rfl rfl rfl (Nat.le_of_ble_eq_true rfl) (by omega) (by omega) (by omega) d_Ma_orderNumbers_159 (fun v159 N159 p159 => ?_)
      obtain ⟨w159, m159, o159, b159_, k159, rfl, I159, f159, T159, F159⟩ := p159
      have ht17_28_2_159_11 := ht17_28_2.keep f159
      have ht28_159_11 := ht28.keep f159
      obtain ⟨z159_11m, u159_11m⟩ := I159.sm.o
      obtain ⟨z159_11o, u159_11o⟩ := I159.so.o
      obtain ⟨z159_11_t17, u159_11_t17⟩ := ht17_28_2_159_11.o
      obtain ⟨z159_11_t28, u159_11_t28⟩ := ht28_159_11.o
      show mp_J Γ m_Ma_orderNumbers E κ N159 [(4, .long (am_num (m.getD 1 []))), (2, .long (am_num (m.getD 0 []))), (0, .ref (L 0)), (1, .int (nI 163))] 162 [.int (tf w159)] (0 + 2) (0 + 8)
      refine j_goto (tgt := 179) d_Ma_orderNumbers_162 (by decide) ?_
      exact j_zret hκ rfl (tf_01 _) (by omega) (by omega) d_Ma_orderNumbers_179 (MP.k T159 F159 I159 ((f17.trans f28).trans f159) (by unfold a_ord; rw [if_neg hN, if_neg (by omega), if_neg (by omega), if_neg (by omega), if_neg (by omega), if_pos (by omega)]))
    · skip
      refine j_tableIn 165 d_Ma_orderNumbers_37 (by decide) (by decide) rfl (by decide) ?_
      refine j_aload_n d_Ma_orderNumbers_165 rfl 2 rfl ?_
      refine j_lload d_Ma_orderNumbers_166 0 rfl ?_
      refine j_lload_n d_Ma_orderNumbers_168 rfl 1 rfl ?_
      refine j_maxL w_756 (Nat.le_of_ble_eq_true rfl) (by omega) (by omega) (by omega) d_Ma_orderNumbers_169 ?_
      refine j_callV (As := [.long (if (am_num (m.getD 0 [])) < (am_num (m.getD 1 [])) then (am_num (m.getD 1 [])) else (am_num (m.getD 0 [])))]) (rest := []) (c_Ma_pushNumber Γ.l E N28 X L y n zs (m.drop 2) o b k (if (am_num (m.getD 0 [])) < (am_num (m.getD 1 [])) then (am_num (m.getD 1 [])) else (am_num (m.getD 0 []))) I28 hL (am_mag_lt (by split <;> first | omega | (rw [i6_neg (by omega)]; omega)))) Y_Ma_pushNumber w_669 w_671 ws_9 I28.mo rfl rfl rfl (Nat.le_of_ble_eq_true rfl) (by omega) (by omega) (by omega) d_Ma_orderNumbers_172 (fun v172 N172 p172 => ?_)
      obtain ⟨w172, m172, o172, b172_, k172, rfl, I172, f172, T172, F172⟩ := p172
      have ht17_28_2_172_12 := ht17_28_2.keep f172
      have ht28_172_12 := ht28.keep f172
      obtain ⟨z172_12m, u172_12m⟩ := I172.sm.o
      obtain ⟨z172_12o, u172_12o⟩ := I172.so.o
      obtain ⟨z172_12_t17, u172_12_t17⟩ := ht17_28_2_172_12.o
      obtain ⟨z172_12_t28, u172_12_t28⟩ := ht28_172_12.o
      show mp_J Γ m_Ma_orderNumbers E κ N172 [(4, .long (am_num (m.getD 1 []))), (2, .long (am_num (m.getD 0 []))), (0, .ref (L 0)), (1, .int (nI 164))] 175 [.int (tf w172)] (0 + 2) (0 + 8)
      refine j_goto (tgt := 179) d_Ma_orderNumbers_175 (by decide) ?_
      exact j_zret hκ rfl (tf_01 _) (by omega) (by omega) d_Ma_orderNumbers_179 (MP.k T172 F172 I172 ((f17.trans f28).trans f172) (by unfold a_ord; rw [if_neg hN, if_neg (by omega), if_neg (by omega), if_neg (by omega), if_neg (by omega), if_neg (by omega), if_pos (by omega)]))
  · skip
    refine j_iconst (v := nI 0) d_Ma_orderNumbers_11 (by decide) ?_
    exact j_zret hκ rfl (by first | exact Or.inl rfl | exact Or.inr rfl) (by omega) (by omega) d_Ma_orderNumbers_12 (MP.f hI mp_Fr.refl (fun s hs => by unfold a_ord at hs; rw [if_pos (of_decide_eq_false b8)] at hs; cases hs))

set_option maxHeartbeats 4000000 in
set_option maxRecDepth 100000 in
theorem c_Ma_within (l : Launch) (E : mp_E) (M : mp_M) (X : Nat → Prop) (L : Nat → Nat) (y n : Nat) (zs m o : List am_T) (b : List Bool) (k : Nat)  (hI : IV E X M L y n zs m o b k) (hL : LY X L) : mp_Cr l m_Ma_within E M 4 0 0 [.ref (L 0)] (MP E X M L y n zs (a_with m o b k)) := by
  refine mp_Cr.of (by decide) (Nat.le_of_ble_eq_true rfl) fun Γ κ hl hκ => ?_
  subst hl
  obtain ⟨hκd, hκc, hκs, -⟩ := id hκ
  have hlm := hI.sm.le
  have hlo := hI.so.le
  obtain ⟨z0_m, u0_m⟩ := hI.sm.o
  obtain ⟨z0_o, u0_o⟩ := hI.so.o
  show mp_J Γ m_Ma_within E κ M [(0, .ref (L 0))] 0 [] 0 0
  refine j_aload_n d_Ma_within_0 rfl 0 rfl ?_
  refine j_get F_Ma hI.mo 6 (by decide) w_169 (Or.inl rfl) rfl d_Ma_within_1 ?_
  refine j_iconst (v := nI 3) d_Ma_within_4 (by decide) ?_
  refine j_callV (As := [.int (nI 3)]) (rest := []) (k_nums Γ.l hI.sm 3 (by decide)) Y_St_holdsNumbers w_739 w_740 w_741 u0_m rfl rfl rfl (Nat.le_of_ble_eq_true rfl) (by omega) (by omega) (by omega) d_Ma_within_5 (fun v5 N5 p5 => ?_)
  obtain ⟨rfl, q5⟩ := p5
  obtain rfl := q5.symm
  show mp_J Γ m_Ma_within E κ M [(0, .ref (L 0))] 8 [.int (tf (decide (am_ns m 3)))] 0 0
  refine j_tif_ne 13 d_Ma_within_8 (by decide) (fun b8 => ?_) (fun b8 => ?_)
  · skip
    have hn := of_decide_eq_true b8
    have hN : ¬ ¬ am_ns m 3 := fun h => h hn
    have hn1 := hn.1
    have l0 := hn.2 0 (by decide)
    have v0 := am_num_lim l0
    have l1 := hn.2 1 (by decide)
    have v1 := am_num_lim l1
    have l2 := hn.2 2 (by decide)
    have v2 := am_num_lim l2
    refine j_aload_n d_Ma_within_13 rfl 0 rfl ?_
    refine j_get F_Ma hI.mo 6 (by decide) w_169 (Or.inl rfl) rfl d_Ma_within_14 ?_
    refine j_callV (As := []) (rest := []) (i_popd Γ.l (j := 0) hI hL (by omega)) Y_St_pop w_374 w_375 w_376 u0_m rfl rfl rfl (Nat.le_of_ble_eq_true rfl) (by omega) (by omega) (by omega) d_Ma_within_17 (fun v17 N17 p17 => ?_)
    obtain ⟨t17, rfl, ht17, I17x, f17⟩ := p17
    have I17 : IV E X N17 L y n zs (m.drop 1) o b k := I17x
    obtain ⟨z17_1m, u17_1m⟩ := I17.sm.o
    obtain ⟨z17_1o, u17_1o⟩ := I17.so.o
    obtain ⟨z17_1_t17, u17_1_t17⟩ := ht17.o
    show mp_J Γ m_Ma_within E κ N17 [(0, .ref (L 0))] 20 [.ref t17] 0 0
    refine j_callV (As := []) (rest := []) (t_num Γ.l ht17 l0) Y_Th_toNumber w_711 w_712 w_713 u17_1_t17 rfl rfl rfl (Nat.le_of_ble_eq_true rfl) (by omega) (by omega) (by omega) d_Ma_within_20 (fun v20 N20 p20 => ?_)
    obtain ⟨rfl, q20⟩ := p20
    obtain rfl := q20.symm
    show mp_J Γ m_Ma_within E κ N17 [(0, .ref (L 0))] 23 [.long (am_num (m.getD 0 []))] 0 0
    refine j_lstore_n [(1, .long (am_num (m.getD 0 []))), (0, .ref (L 0))] d_Ma_within_23 rfl (by decide) rfl ?_
    refine j_aload_n d_Ma_within_24 rfl 1 rfl ?_
    refine j_get F_Ma I17.mo 6 (by decide) w_169 (Or.inl rfl) rfl d_Ma_within_25 ?_
    refine j_callV (As := []) (rest := []) (i_popd Γ.l (j := 1) I17 hL (by omega)) Y_St_pop w_374 w_375 w_376 u17_1m rfl rfl rfl (Nat.le_of_ble_eq_true rfl) (by omega) (by omega) (by omega) d_Ma_within_28 (fun v28 N28 p28 => ?_)
    obtain ⟨t28, rfl, ht28, I28x, f28⟩ := p28
    have I28 : IV E X N28 L y n zs (m.drop 2) o b k := I28x
    have ht17_28_2 := ht17.keep f28
    obtain ⟨z28_2m, u28_2m⟩ := I28.sm.o
    obtain ⟨z28_2o, u28_2o⟩ := I28.so.o
    obtain ⟨z28_2_t17, u28_2_t17⟩ := ht17_28_2.o
    obtain ⟨z28_2_t28, u28_2_t28⟩ := ht28.o
    show mp_J Γ m_Ma_within E κ N28 [(1, .long (am_num (m.getD 0 []))), (0, .ref (L 0))] 31 [.ref t28] 0 0
    refine j_callV (As := []) (rest := []) (t_num Γ.l ht28 l1) Y_Th_toNumber w_711 w_712 w_713 u28_2_t28 rfl rfl rfl (Nat.le_of_ble_eq_true rfl) (by omega) (by omega) (by omega) d_Ma_within_31 (fun v31 N31 p31 => ?_)
    obtain ⟨rfl, q31⟩ := p31
    obtain rfl := q31.symm
    show mp_J Γ m_Ma_within E κ N28 [(1, .long (am_num (m.getD 0 []))), (0, .ref (L 0))] 34 [.long (am_num (m.getD 1 []))] 0 0
    refine j_lstore_n [(3, .long (am_num (m.getD 1 []))), (1, .long (am_num (m.getD 0 []))), (0, .ref (L 0))] d_Ma_within_34 rfl (by decide) rfl ?_
    refine j_aload_n d_Ma_within_35 rfl 2 rfl ?_
    refine j_get F_Ma I28.mo 6 (by decide) w_169 (Or.inl rfl) rfl d_Ma_within_36 ?_
    refine j_callV (As := []) (rest := []) (i_popd Γ.l (j := 2) I28 hL (by omega)) Y_St_pop w_374 w_375 w_376 u28_2m rfl rfl rfl (Nat.le_of_ble_eq_true rfl) (by omega) (by omega) (by omega) d_Ma_within_39 (fun v39 N39 p39 => ?_)
    obtain ⟨t39, rfl, ht39, I39x, f39⟩ := p39
    have I39 : IV E X N39 L y n zs (m.drop 3) o b k := I39x
    have ht17_28_2_39_3 := ht17_28_2.keep f39
    have ht28_39_3 := ht28.keep f39
    obtain ⟨z39_3m, u39_3m⟩ := I39.sm.o
    obtain ⟨z39_3o, u39_3o⟩ := I39.so.o
    obtain ⟨z39_3_t17, u39_3_t17⟩ := ht17_28_2_39_3.o
    obtain ⟨z39_3_t28, u39_3_t28⟩ := ht28_39_3.o
    obtain ⟨z39_3_t39, u39_3_t39⟩ := ht39.o
    show mp_J Γ m_Ma_within E κ N39 [(3, .long (am_num (m.getD 1 []))), (1, .long (am_num (m.getD 0 []))), (0, .ref (L 0))] 42 [.ref t39] 0 0
    refine j_callV (As := []) (rest := []) (t_num Γ.l ht39 l2) Y_Th_toNumber w_711 w_712 w_713 u39_3_t39 rfl rfl rfl (Nat.le_of_ble_eq_true rfl) (by omega) (by omega) (by omega) d_Ma_within_42 (fun v42 N42 p42 => ?_)
    obtain ⟨rfl, q42⟩ := p42
    obtain rfl := q42.symm
    show mp_J Γ m_Ma_within E κ N39 [(3, .long (am_num (m.getD 1 []))), (1, .long (am_num (m.getD 0 []))), (0, .ref (L 0))] 45 [.long (am_num (m.getD 2 []))] 0 0
    refine j_lstore [(5, .long (am_num (m.getD 2 []))), (3, .long (am_num (m.getD 1 []))), (1, .long (am_num (m.getD 0 []))), (0, .ref (L 0))] d_Ma_within_45 (by decide) rfl ?_
    refine j_aload_n d_Ma_within_47 rfl 3 rfl ?_
    refine j_lload_n d_Ma_within_48 rfl 1 rfl ?_
    refine j_lload d_Ma_within_49 0 rfl ?_
    refine j_lcmp d_Ma_within_51 ?_
    refine j_if_gt 66 d_Ma_within_52 (by decide) (fun b52 => ?_) (fun b52 => ?_)
    · skip
      refine j_iconst (v := nI 0) d_Ma_within_66 (by decide) ?_
      refine j_callV (As := [.int (nI 0)]) (rest := []) (c_Ma_pushTruth Γ.l E N39 X L y n zs (m.drop 3) o b k false I39 hL) Y_Ma_pushTruth w_731 w_733 ws_16 I39.mo rfl rfl rfl (Nat.le_of_ble_eq_true rfl) (by omega) (by omega) (by omega) d_Ma_within_67 (fun v67 N67 p67 => ?_)
      obtain ⟨w67, m67, o67, b67_, k67, rfl, I67, f67, T67, F67⟩ := p67
      have ht17_28_2_39_3_67_4 := ht17_28_2_39_3.keep f67
      have ht28_39_3_67_4 := ht28_39_3.keep f67
      have ht39_67_4 := ht39.keep f67
      obtain ⟨z67_4m, u67_4m⟩ := I67.sm.o
      obtain ⟨z67_4o, u67_4o⟩ := I67.so.o
      obtain ⟨z67_4_t17, u67_4_t17⟩ := ht17_28_2_39_3_67_4.o
      obtain ⟨z67_4_t28, u67_4_t28⟩ := ht28_39_3_67_4.o
      obtain ⟨z67_4_t39, u67_4_t39⟩ := ht39_67_4.o
      show mp_J Γ m_Ma_within E κ N67 [(5, .long (am_num (m.getD 2 []))), (3, .long (am_num (m.getD 1 []))), (1, .long (am_num (m.getD 0 []))), (0, .ref (L 0))] 70 [.int (tf w67)] (0 + 0) (0 + 0)
      exact j_zret hκ rfl (tf_01 _) (by omega) (by omega) d_Ma_within_70 (MP.k T67 F67 I67 (((f17.trans f28).trans f39).trans f67) (by unfold a_with; rw [if_neg hN]; first | exact congrArg (fun x => some (x :: m.drop 3, o, b, k)) (am_bd (decide_eq_true ⟨Int64.not_lt.mp (fun h => b52 ((lg_cmp_gt _ _).mpr h)), Int64.not_le.mp (fun h => b59 ((lg_cmp_ge _ _).mpr h))⟩)) | exact congrArg (fun x => some (x :: m.drop 3, o, b, k)) (am_bd (decide_eq_false (fun h => absurd h.1 (Int64.not_le.mpr ((lg_cmp_gt _ _).mp b52))))) | exact congrArg (fun x => some (x :: m.drop 3, o, b, k)) (am_bd (decide_eq_false (fun h => absurd h.2 (Int64.not_lt.mpr ((lg_cmp_ge _ _).mp b59)))))))
    · skip
      refine j_lload d_Ma_within_55 0 rfl ?_
      refine j_lload_n d_Ma_within_57 rfl 2 rfl ?_
      refine j_lcmp d_Ma_within_58 ?_
      refine j_if_ge 66 d_Ma_within_59 (by decide) (fun b59 => ?_) (fun b59 => ?_)
      · skip
        refine j_iconst (v := nI 0) d_Ma_within_66 (by decide) ?_
        refine j_callV (As := [.int (nI 0)]) (rest := []) (c_Ma_pushTruth Γ.l E N39 X L y n zs (m.drop 3) o b k false I39 hL) Y_Ma_pushTruth w_731 w_733 ws_16 I39.mo rfl rfl rfl (Nat.le_of_ble_eq_true rfl) (by omega) (by omega) (by omega) d_Ma_within_67 (fun v67 N67 p67 => ?_)
        obtain ⟨w67, m67, o67, b67_, k67, rfl, I67, f67, T67, F67⟩ := p67
        have ht17_28_2_39_3_67_5 := ht17_28_2_39_3.keep f67
        have ht28_39_3_67_5 := ht28_39_3.keep f67
        have ht39_67_5 := ht39.keep f67
        obtain ⟨z67_5m, u67_5m⟩ := I67.sm.o
        obtain ⟨z67_5o, u67_5o⟩ := I67.so.o
        obtain ⟨z67_5_t17, u67_5_t17⟩ := ht17_28_2_39_3_67_5.o
        obtain ⟨z67_5_t28, u67_5_t28⟩ := ht28_39_3_67_5.o
        obtain ⟨z67_5_t39, u67_5_t39⟩ := ht39_67_5.o
        show mp_J Γ m_Ma_within E κ N67 [(5, .long (am_num (m.getD 2 []))), (3, .long (am_num (m.getD 1 []))), (1, .long (am_num (m.getD 0 []))), (0, .ref (L 0))] 70 [.int (tf w67)] (0 + 0) (0 + 0)
        exact j_zret hκ rfl (tf_01 _) (by omega) (by omega) d_Ma_within_70 (MP.k T67 F67 I67 (((f17.trans f28).trans f39).trans f67) (by unfold a_with; rw [if_neg hN]; first | exact congrArg (fun x => some (x :: m.drop 3, o, b, k)) (am_bd (decide_eq_true ⟨Int64.not_lt.mp (fun h => b52 ((lg_cmp_gt _ _).mpr h)), Int64.not_le.mp (fun h => b59 ((lg_cmp_ge _ _).mpr h))⟩)) | exact congrArg (fun x => some (x :: m.drop 3, o, b, k)) (am_bd (decide_eq_false (fun h => absurd h.1 (Int64.not_le.mpr ((lg_cmp_gt _ _).mp b52))))) | exact congrArg (fun x => some (x :: m.drop 3, o, b, k)) (am_bd (decide_eq_false (fun h => absurd h.2 (Int64.not_lt.mpr ((lg_cmp_ge _ _).mp b59)))))))
      · skip
        refine j_iconst (v := nI 1) d_Ma_within_62 (by decide) ?_
        refine j_goto (tgt := 67) d_Ma_within_63 (by decide) ?_
        refine j_callV (As := [.int (nI 1)]) (rest := []) (c_Ma_pushTruth Γ.l E N39 X L y n zs (m.drop 3) o b k true I39 hL) Y_Ma_pushTruth w_731 w_733 ws_16 I39.mo rfl rfl rfl (Nat.le_of_ble_eq_true rfl) (by omega) (by omega) (by omega) d_Ma_within_67 (fun v67 N67 p67 => ?_)
        obtain ⟨w67, m67, o67, b67_, k67, rfl, I67, f67, T67, F67⟩ := p67
        have ht17_28_2_39_3_67_6 := ht17_28_2_39_3.keep f67
        have ht28_39_3_67_6 := ht28_39_3.keep f67
        have ht39_67_6 := ht39.keep f67
        obtain ⟨z67_6m, u67_6m⟩ := I67.sm.o
        obtain ⟨z67_6o, u67_6o⟩ := I67.so.o
        obtain ⟨z67_6_t17, u67_6_t17⟩ := ht17_28_2_39_3_67_6.o
        obtain ⟨z67_6_t28, u67_6_t28⟩ := ht28_39_3_67_6.o
        obtain ⟨z67_6_t39, u67_6_t39⟩ := ht39_67_6.o
        show mp_J Γ m_Ma_within E κ N67 [(5, .long (am_num (m.getD 2 []))), (3, .long (am_num (m.getD 1 []))), (1, .long (am_num (m.getD 0 []))), (0, .ref (L 0))] 70 [.int (tf w67)] (0 + 0) (0 + 0)
        exact j_zret hκ rfl (tf_01 _) (by omega) (by omega) d_Ma_within_70 (MP.k T67 F67 I67 (((f17.trans f28).trans f39).trans f67) (by unfold a_with; rw [if_neg hN]; first | exact congrArg (fun x => some (x :: m.drop 3, o, b, k)) (am_bd (decide_eq_true ⟨Int64.not_lt.mp (fun h => b52 ((lg_cmp_gt _ _).mpr h)), Int64.not_le.mp (fun h => b59 ((lg_cmp_ge _ _).mpr h))⟩)) | exact congrArg (fun x => some (x :: m.drop 3, o, b, k)) (am_bd (decide_eq_false (fun h => absurd h.1 (Int64.not_le.mpr ((lg_cmp_gt _ _).mp b52))))) | exact congrArg (fun x => some (x :: m.drop 3, o, b, k)) (am_bd (decide_eq_false (fun h => absurd h.2 (Int64.not_lt.mpr ((lg_cmp_ge _ _).mp b59)))))))
  · skip
    refine j_iconst (v := nI 0) d_Ma_within_11 (by decide) ?_
    exact j_zret hκ rfl (by first | exact Or.inl rfl | exact Or.inr rfl) (by omega) (by omega) d_Ma_within_12 (MP.f hI mp_Fr.refl (fun s hs => by unfold a_with at hs; rw [if_pos (of_decide_eq_false b8)] at hs; cases hs))
