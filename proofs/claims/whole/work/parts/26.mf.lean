set_option maxHeartbeats 4000000 in
set_option maxRecDepth 100000 in
theorem c_Ma_checkMany (l : Launch) (E : mp_E) (M : mp_M) (X : Nat → Prop) (L : Nat → Nat) (y n : Nat) (zs m o : List am_T) (b : List Bool) (k : Nat) (vf : Bool) (hI : IV E X M L y n zs m o b k) (hL : LY X L) (hk : k ≤ 1000) : mp_Cr l m_Ma_checkMany E M 4 0 0 [.ref (L 0), .int (tf vf)] (MP E X M L y n zs (a_many vf m o b k)) := by
  refine mp_Cr.of (by decide) (Nat.le_of_ble_eq_true rfl) fun Γ κ hl hκ => ?_
  subst hl
  obtain ⟨hκd, hκc, hκs, -⟩ := id hκ
  have hlm := hI.sm.le
  have hlo := hI.so.le
  obtain ⟨z0_m, u0_m⟩ := hI.sm.o
  obtain ⟨z0_o, u0_o⟩ := hI.so.o
  show mp_J Γ m_Ma_checkMany E κ M [(0, .ref (L 0)), (1, .int (tf vf))] 0 [] 0 0
  refine j_aload_n d_Ma_checkMany_0 rfl 0 rfl ?_
  refine j_iconst (v := nI 0) d_Ma_checkMany_1 (by decide) ?_
  refine j_bipush (v := nI 20) d_Ma_checkMany_2 (by decide) ?_
  refine j_callV (As := [.int (nI 0), .int (nI 20)]) (rest := []) (c_Ma_countAt Γ.l E M X L y n zs m o b k 0 20 hI hL (by omega) (by omega)) Y_Ma_countAt w_703 w_705 ws_13 hI.mo rfl rfl rfl (Nat.le_of_ble_eq_true rfl) (by omega) (by omega) (by omega) d_Ma_checkMany_4 (fun v4 N4 p4 => ?_)
  obtain ⟨rfl, q4⟩ := p4
  obtain rfl := q4.symm
  show mp_J Γ m_Ma_checkMany E κ M [(0, .ref (L 0)), (1, .int (tf vf))] 7 [.int (am_cI (am_cnt m 0 20))] 0 0
  rcases hj : am_cnt m 0 20 with _ | j
  · skip
    refine j_eqi (y := (-1)) rfl ?_
    refine j_istore_n [(2, .int (-1)), (0, .ref (L 0)), (1, .int (tf vf))] d_Ma_checkMany_7 rfl (by decide) rfl ?_
    refine j_iload_n d_Ma_checkMany_8 rfl 0 rfl ?_
    refine j_if_lt 20 d_Ma_checkMany_9 (by decide) (fun b9 => ?_) (fun b9 => absurd (show (-1 : Int32) < 0 by decide) b9)
    refine j_iconst (v := nI 0) d_Ma_checkMany_20 (by decide) ?_
    exact j_zret hκ rfl (by first | exact Or.inl rfl | exact Or.inr rfl) (by omega) (by omega) d_Ma_checkMany_21 (MP.f hI mp_Fr.refl (fun s hs => by unfold a_many at hs; rw [hj] at hs; cases hs))
  · skip
    refine j_eqi (y := nI j) rfl ?_
    have qhj := am_cnt_le (by omega) hj
    refine j_istore_n [(2, .int (nI j)), (0, .ref (L 0)), (1, .int (tf vf))] d_Ma_checkMany_7 rfl (by decide) rfl ?_
    refine j_iload_n d_Ma_checkMany_8 rfl 0 rfl ?_
    refine j_nif_lt 20 j rfl (by omega) d_Ma_checkMany_9 (by decide) (fun b9 => (by first | exact b9.elim | exact absurd b9 (by omega))) (fun b9 => ?_)
    refine j_aload_n d_Ma_checkMany_12 rfl 1 rfl ?_
    refine j_iload_n d_Ma_checkMany_13 rfl 0 rfl ?_
    refine j_callV (As := [.int (nI j)]) (rest := []) (c_Ma_count Γ.l E M X L y n zs m o b k j hI hL (by omega) (by omega)) Y_Ma_count w_347 w_349 ws_3 hI.mo rfl rfl rfl (Nat.le_of_ble_eq_true rfl) (by omega) (by omega) (by omega) d_Ma_checkMany_14 (fun v14 N14 p14 => ?_)
    obtain ⟨rfl, I14, f14⟩ := p14
    obtain ⟨z14_1m, u14_1m⟩ := I14.sm.o
    obtain ⟨z14_1o, u14_1o⟩ := I14.so.o
    show mp_J Γ m_Ma_checkMany E κ N14 [(2, .int (nI j)), (0, .ref (L 0)), (1, .int (tf vf))] 17 [.int (tf (decide (k + j ≤ 201)))] 0 0
    refine j_tif_ne 22 d_Ma_checkMany_17 (by decide) (fun b17 => ?_) (fun b17 => ?_)
    · skip
      refine j_aload_n d_Ma_checkMany_22 rfl 1 rfl ?_
      refine j_iload_n d_Ma_checkMany_23 rfl 0 rfl ?_
      refine j_iconst (v := nI 1) d_Ma_checkMany_24 (by decide) ?_
      refine j_iadd d_Ma_checkMany_25 ?_
      refine j_eqi (y := nI (j + 1)) (nI_add j 1) ?_
      refine j_iload_n d_Ma_checkMany_26 rfl 0 rfl ?_
      refine j_callV (As := [.int (nI (j + 1)), .int (nI j)]) (rest := []) (c_Ma_countAt Γ.l E N14 X L y n zs m o b (k + j) (j + 1) j I14 hL (by omega) (by omega)) Y_Ma_countAt w_703 w_705 ws_13 I14.mo rfl rfl rfl (Nat.le_of_ble_eq_true rfl) (by omega) (by omega) (by omega) d_Ma_checkMany_27 (fun v27 N27 p27 => ?_)
      obtain ⟨rfl, q27⟩ := p27
      obtain rfl := q27.symm
      show mp_J Γ m_Ma_checkMany E κ N14 [(2, .int (nI j)), (0, .ref (L 0)), (1, .int (tf vf))] 30 [.int (am_cI (am_cnt m (j + 1) j))] 0 0
      rcases hg : am_cnt m (j + 1) j with _ | g
      · skip
        refine j_eqi (y := (-1)) rfl ?_
        refine j_istore_n [(3, .int (-1)), (2, .int (nI j)), (0, .ref (L 0)), (1, .int (tf vf))] d_Ma_checkMany_30 rfl (by decide) rfl ?_
        refine j_iload_n d_Ma_checkMany_31 rfl 0 rfl ?_
        refine j_if_lt 50 d_Ma_checkMany_32 (by decide) (fun b32 => ?_) (fun b32 => absurd (show (-1 : Int32) < 0 by decide) b32)
        refine j_iconst (v := nI 0) d_Ma_checkMany_50 (by decide) ?_
        exact j_zret hκ rfl (by first | exact Or.inl rfl | exact Or.inr rfl) (by omega) (by omega) d_Ma_checkMany_51 (MP.f I14 f14 (fun s hs => by unfold a_many at hs; rw [hj] at hs; simp only at hs; rw [if_neg (fun h => h (of_decide_eq_true b17)), hg] at hs; cases hs))
      · skip
        refine j_eqi (y := nI g) rfl ?_
        have qhg := am_cnt_le (by omega) hg
        refine j_istore_n [(3, .int (nI g)), (2, .int (nI j)), (0, .ref (L 0)), (1, .int (tf vf))] d_Ma_checkMany_30 rfl (by decide) rfl ?_
        refine j_iload_n d_Ma_checkMany_31 rfl 0 rfl ?_
        refine j_nif_lt 50 g rfl (by omega) d_Ma_checkMany_32 (by decide) (fun b32 => (by first | exact b32.elim | exact absurd b32 (by omega))) (fun b32 => ?_)
        refine j_aload_n d_Ma_checkMany_35 rfl 2 rfl ?_
        refine j_get F_Ma I14.mo 6 (by decide) w_169 (Or.inl rfl) rfl d_Ma_checkMany_36 ?_
        refine j_iload_n d_Ma_checkMany_39 rfl 1 rfl ?_
        refine j_iload_n d_Ma_checkMany_40 rfl 0 rfl ?_
        refine j_iadd d_Ma_checkMany_41 ?_
        refine j_eqi (y := nI (j + g)) (nI_add j g) ?_
        refine j_iconst (v := nI 3) d_Ma_checkMany_42 (by decide) ?_
        refine j_iadd d_Ma_checkMany_43 ?_
        refine j_eqi (y := nI ((j + g) + 3)) (nI_add (j + g) 3) ?_
        refine j_callV (As := [.int (nI ((j + g) + 3))]) (rest := []) (i_drop Γ.l I14 hL ((j + g) + 3) (by omega)) Y_St_drop w_681 w_682 w_683 u14_1m rfl rfl rfl (Nat.le_of_ble_eq_true rfl) (by omega) (by omega) (by omega) d_Ma_checkMany_44 (fun v44 N44 p44 => ?_)
        obtain ⟨rfl, I44, f44⟩ := p44
        obtain ⟨z44_2m, u44_2m⟩ := I44.sm.o
        obtain ⟨z44_2o, u44_2o⟩ := I44.so.o
        show mp_J Γ m_Ma_checkMany E κ N44 [(3, .int (nI g)), (2, .int (nI j)), (0, .ref (L 0)), (1, .int (tf vf))] 47 [.int (tf (decide (((j + g) + 3) ≤ m.length)))] 0 0
        refine j_tif_ne 52 d_Ma_checkMany_47 (by decide) (fun b47 => ?_) (fun b47 => ?_)
        · skip
          rw [if_pos (of_decide_eq_true b47)] at I44
          refine j_iload_n d_Ma_checkMany_52 rfl 0 rfl ?_
          refine j_nif_ne 60 g rfl (by omega) d_Ma_checkMany_53 (by decide) (fun b53 => ?_) (fun b53 => ?_)
          · skip
            refine j_iconst (v := nI 0) d_Ma_checkMany_60 (by decide) ?_
            refine j_istore [(4, .int (nI 0)), (3, .int (nI g)), (2, .int (nI j)), (0, .ref (L 0)), (1, .int (tf vf))] d_Ma_checkMany_61 (by decide) rfl ?_
            refine j_iload_n d_Ma_checkMany_63 rfl 4 rfl ?_
            refine j_tif_eq 72 d_Ma_checkMany_64 (by decide) (fun b64 => ?_) (fun b64 => ?_)
            · skip
              refine j_aload_n d_Ma_checkMany_72 rfl 3 rfl ?_
              refine j_iload d_Ma_checkMany_73 0 rfl ?_
              refine j_callV (As := [.int (nI 0)]) (rest := []) (c_Ma_pushTruth Γ.l E N44 X L y n zs (m.drop (j + g + 3)) o b (k + j) false I44 hL) Y_Ma_pushTruth w_731 w_733 ws_16 I44.mo rfl rfl rfl (Nat.le_of_ble_eq_true rfl) (by omega) (by omega) (by omega) d_Ma_checkMany_75 (fun v75 N75 p75 => ?_)
              obtain ⟨w75, m75, o75, b75_, k75, rfl, I75, f75, T75, F75⟩ := p75
              obtain ⟨z75_3m, u75_3m⟩ := I75.sm.o
              obtain ⟨z75_3o, u75_3o⟩ := I75.so.o
              show mp_J Γ m_Ma_checkMany E κ N75 [(4, .int (nI 0)), (3, .int (nI g)), (2, .int (nI j)), (0, .ref (L 0)), (1, .int (tf vf))] 78 [.int (tf w75)] (0 + 0) (0 + 0)
              exact j_zret hκ rfl (tf_01 _) (by omega) (by omega) d_Ma_checkMany_78 (MP.k T75 F75 I75 ((f14.trans f44).trans f75) (by unfold a_many; rw [hj]; simp only; rw [if_neg (fun h => h (of_decide_eq_true b17)), hg]; simp only; rw [if_neg (fun h => h (of_decide_eq_true b47)), if_neg (by rw [b64]; decide)]; first | exact congrArg (fun x => some (x :: m.drop (j + g + 3), o, b, k + j)) (am_bd (decide_eq_true b53)) | exact congrArg (fun x => some (x :: m.drop (j + g + 3), o, b, k + j)) (am_bd (decide_eq_false b53))))
            · skip
              refine j_iload d_Ma_checkMany_67 0 rfl ?_
              refine j_goto (tgt := 78) d_Ma_checkMany_69 (by decide) ?_
              exact j_zret hκ rfl (by first | exact Or.inl rfl | exact Or.inr rfl) (by omega) (by omega) d_Ma_checkMany_78 (MP.f I44 (f14.trans f44) (fun s hs => by unfold a_many at hs; rw [hj] at hs; simp only at hs; rw [if_neg (fun h => h (of_decide_eq_true b17)), hg] at hs; simp only at hs; rw [if_neg (fun h => h (of_decide_eq_true b47)), if_pos b64, if_neg b53] at hs; cases hs))
          · skip
            refine j_iconst (v := nI 1) d_Ma_checkMany_56 (by decide) ?_
            refine j_goto (tgt := 61) d_Ma_checkMany_57 (by decide) ?_
            refine j_istore [(4, .int (nI 1)), (3, .int (nI g)), (2, .int (nI j)), (0, .ref (L 0)), (1, .int (tf vf))] d_Ma_checkMany_61 (by decide) rfl ?_
            refine j_iload_n d_Ma_checkMany_63 rfl 4 rfl ?_
            refine j_tif_eq 72 d_Ma_checkMany_64 (by decide) (fun b64 => ?_) (fun b64 => ?_)
            · skip
              refine j_aload_n d_Ma_checkMany_72 rfl 3 rfl ?_
              refine j_iload d_Ma_checkMany_73 0 rfl ?_
              refine j_callV (As := [.int (nI 1)]) (rest := []) (c_Ma_pushTruth Γ.l E N44 X L y n zs (m.drop (j + g + 3)) o b (k + j) true I44 hL) Y_Ma_pushTruth w_731 w_733 ws_16 I44.mo rfl rfl rfl (Nat.le_of_ble_eq_true rfl) (by omega) (by omega) (by omega) d_Ma_checkMany_75 (fun v75 N75 p75 => ?_)
              obtain ⟨w75, m75, o75, b75_, k75, rfl, I75, f75, T75, F75⟩ := p75
              obtain ⟨z75_4m, u75_4m⟩ := I75.sm.o
              obtain ⟨z75_4o, u75_4o⟩ := I75.so.o
              show mp_J Γ m_Ma_checkMany E κ N75 [(4, .int (nI 1)), (3, .int (nI g)), (2, .int (nI j)), (0, .ref (L 0)), (1, .int (tf vf))] 78 [.int (tf w75)] (0 + 0) (0 + 0)
              exact j_zret hκ rfl (tf_01 _) (by omega) (by omega) d_Ma_checkMany_78 (MP.k T75 F75 I75 ((f14.trans f44).trans f75) (by unfold a_many; rw [hj]; simp only; rw [if_neg (fun h => h (of_decide_eq_true b17)), hg]; simp only; rw [if_neg (fun h => h (of_decide_eq_true b47)), if_neg (by rw [b64]; decide)]; first | exact congrArg (fun x => some (x :: m.drop (j + g + 3), o, b, k + j)) (am_bd (decide_eq_true b53)) | exact congrArg (fun x => some (x :: m.drop (j + g + 3), o, b, k + j)) (am_bd (decide_eq_false b53))))
            · skip
              refine j_iload d_Ma_checkMany_67 0 rfl ?_
              refine j_goto (tgt := 78) d_Ma_checkMany_69 (by decide) ?_
              exact j_zret hκ rfl (by first | exact Or.inl rfl | exact Or.inr rfl) (by omega) (by omega) d_Ma_checkMany_78 (MP.t I44 (f14.trans f44) (by unfold a_many; rw [hj]; simp only; rw [if_neg (fun h => h (of_decide_eq_true b17)), hg]; simp only; rw [if_neg (fun h => h (of_decide_eq_true b47)), if_pos b64, if_pos b53]))
        · skip
          refine j_iconst (v := nI 0) d_Ma_checkMany_50 (by decide) ?_
          exact j_zret hκ rfl (by first | exact Or.inl rfl | exact Or.inr rfl) (by omega) (by omega) d_Ma_checkMany_51 (MP.f I44 (f14.trans f44) (fun s hs => by unfold a_many at hs; rw [hj] at hs; simp only at hs; rw [if_neg (fun h => h (of_decide_eq_true b17)), hg] at hs; simp only at hs; rw [if_pos (of_decide_eq_false b47)] at hs; cases hs))
    · skip
      refine j_iconst (v := nI 0) d_Ma_checkMany_20 (by decide) ?_
      exact j_zret hκ rfl (by first | exact Or.inl rfl | exact Or.inr rfl) (by omega) (by omega) d_Ma_checkMany_21 (MP.f I14 f14 (fun s hs => by unfold a_many at hs; rw [hj] at hs; simp only at hs; rw [if_pos (of_decide_eq_false b17)] at hs; cases hs))

set_option maxHeartbeats 4000000 in
set_option maxRecDepth 100000 in
theorem c_Ma_checkSignatures (l : Launch) (E : mp_E) (M : mp_M) (X : Nat → Prop) (L : Nat → Nat) (y n : Nat) (zs m o : List am_T) (b : List Bool) (k : Nat) (c : Nat) (hI : IV E X M L y n zs m o b k) (hL : LY X L) (hk : k ≤ 1000) (hc : c < 256) : mp_Cr l m_Ma_checkSignatures E M 5 0 0 [.ref (L 0), .int (nI c)] (MP E X M L y n zs (a_sig c m o b k)) := by
  refine mp_Cr.of (by decide) (Nat.le_of_ble_eq_true rfl) fun Γ κ hl hκ => ?_
  subst hl
  obtain ⟨hκd, hκc, hκs, -⟩ := id hκ
  have hlm := hI.sm.le
  have hlo := hI.so.le
  obtain ⟨z0_m, u0_m⟩ := hI.sm.o
  obtain ⟨z0_o, u0_o⟩ := hI.so.o
  show mp_J Γ m_Ma_checkSignatures E κ M [(0, .ref (L 0)), (1, .int (nI c))] 0 [] 0 0
  refine j_iload_n d_Ma_checkSignatures_0 rfl 1 rfl ?_
  rcases (show c < 172 ∨ 175 < c ∨ c = 172 ∨ c = 173 ∨ c = 174 ∨ c = 175 by omega) with hz9 | hz9 | rfl | rfl | rfl | rfl
  · skip
    refine j_tableOut 75 d_Ma_checkSignatures_1 (Or.inl (by rw [nI_toInt (by omega)]; omega)) (by decide) ?_
    refine j_iconst (v := nI 0) d_Ma_checkSignatures_75 (by decide) ?_
    exact j_zret hκ rfl (by first | exact Or.inl rfl | exact Or.inr rfl) (by omega) (by omega) d_Ma_checkSignatures_76 (MP.f hI mp_Fr.refl (fun s hs => by unfold a_sig at hs; rw [if_neg (by omega), if_neg (by omega), if_neg (by omega)] at hs; cases hs))
  · skip
    refine j_tableOut 75 d_Ma_checkSignatures_1 (Or.inr (by rw [nI_toInt (by omega)]; omega)) (by decide) ?_
    refine j_iconst (v := nI 0) d_Ma_checkSignatures_75 (by decide) ?_
    exact j_zret hκ rfl (by first | exact Or.inl rfl | exact Or.inr rfl) (by omega) (by omega) d_Ma_checkSignatures_76 (MP.f hI mp_Fr.refl (fun s hs => by unfold a_sig at hs; rw [if_neg (by omega), if_neg (by omega), if_neg (by omega)] at hs; cases hs))
  · skip
    refine j_tableIn 32 d_Ma_checkSignatures_1 (by decide) (by decide) rfl (by decide) ?_
    refine j_aload_n d_Ma_checkSignatures_32 rfl 0 rfl ?_
    refine j_get F_Ma hI.mo 6 (by decide) w_169 (Or.inl rfl) rfl d_Ma_checkSignatures_33 ?_
    refine j_iconst (v := nI 2) d_Ma_checkSignatures_36 (by decide) ?_
    refine j_callV (As := [.int (nI 2)]) (rest := []) (i_drop Γ.l hI hL 2 (by omega)) Y_St_drop w_681 w_682 w_683 u0_m rfl rfl rfl (Nat.le_of_ble_eq_true rfl) (by omega) (by omega) (by omega) d_Ma_checkSignatures_37 (fun v37 N37 p37 => ?_)
    obtain ⟨rfl, I37, f37⟩ := p37
    obtain ⟨z37_1m, u37_1m⟩ := I37.sm.o
    obtain ⟨z37_1o, u37_1o⟩ := I37.so.o
    show mp_J Γ m_Ma_checkSignatures E κ N37 [(0, .ref (L 0)), (1, .int (nI 172))] 40 [.int (tf (decide (2 ≤ m.length)))] 0 0
    refine j_tif_eq 55 d_Ma_checkSignatures_40 (by decide) (fun b40 => ?_) (fun b40 => ?_)
    · skip
      refine j_iconst (v := nI 0) d_Ma_checkSignatures_55 (by decide) ?_
      refine j_goto (tgt := 76) d_Ma_checkSignatures_56 (by decide) ?_
      exact j_zret hκ rfl (by first | exact Or.inl rfl | exact Or.inr rfl) (by omega) (by omega) d_Ma_checkSignatures_76 (MP.f I37 f37 (fun s hs => by unfold a_sig at hs; rw [if_pos (by omega)] at hs; rw [if_neg (of_decide_eq_false b40)] at hs; cases hs))
    · skip
      rw [if_pos (of_decide_eq_true b40)] at I37
      refine j_aload_n d_Ma_checkSignatures_43 rfl 0 rfl ?_
      refine j_iconst (v := nI 0) d_Ma_checkSignatures_44 (by decide) ?_
      refine j_callV (As := [.int (nI 0)]) (rest := []) (c_Ma_pushTruth Γ.l E N37 X L y n zs (m.drop 2) o b k false I37 hL) Y_Ma_pushTruth w_731 w_733 ws_16 I37.mo rfl rfl rfl (Nat.le_of_ble_eq_true rfl) (by omega) (by omega) (by omega) d_Ma_checkSignatures_45 (fun v45 N45 p45 => ?_)
      obtain ⟨w45, m45, o45, b45_, k45, rfl, I45, f45, T45, F45⟩ := p45
      obtain ⟨z45_2m, u45_2m⟩ := I45.sm.o
      obtain ⟨z45_2o, u45_2o⟩ := I45.so.o
      show mp_J Γ m_Ma_checkSignatures E κ N45 [(0, .ref (L 0)), (1, .int (nI 172))] 48 [.int (tf w45)] (0 + 0) (0 + 0)
      refine j_tif_eq 55 d_Ma_checkSignatures_48 (by decide) (fun b48 => ?_) (fun b48 => ?_)
      · skip
        refine j_iconst (v := nI 0) d_Ma_checkSignatures_55 (by decide) ?_
        refine j_goto (tgt := 76) d_Ma_checkSignatures_56 (by decide) ?_
        exact j_zret hκ rfl (by first | exact Or.inl rfl | exact Or.inr rfl) (by omega) (by omega) d_Ma_checkSignatures_76 (MP.kf F45 I45 (f37.trans f45) b48 (by unfold a_sig; rw [if_pos (by omega)]; rw [if_pos (of_decide_eq_true b40)]; rfl))
      · skip
        refine j_iconst (v := nI 1) d_Ma_checkSignatures_51 (by decide) ?_
        refine j_goto (tgt := 76) d_Ma_checkSignatures_52 (by decide) ?_
        exact j_zret hκ rfl (by first | exact Or.inl rfl | exact Or.inr rfl) (by omega) (by omega) d_Ma_checkSignatures_76 (MP.kt T45 I45 (f37.trans f45) b48 (by unfold a_sig; rw [if_pos (by omega)]; rw [if_pos (of_decide_eq_true b40)]; rfl))
  · skip
    refine j_tableIn 75 d_Ma_checkSignatures_1 (by decide) (by decide) rfl (by decide) ?_
    refine j_iconst (v := nI 0) d_Ma_checkSignatures_75 (by decide) ?_
    exact j_zret hκ rfl (by first | exact Or.inl rfl | exact Or.inr rfl) (by omega) (by omega) d_Ma_checkSignatures_76 (MP.f hI mp_Fr.refl (fun s hs => by unfold a_sig at hs; rw [if_neg (by omega), if_neg (by omega), if_neg (by omega)] at hs; cases hs))
  · skip
    refine j_tableIn 59 d_Ma_checkSignatures_1 (by decide) (by decide) rfl (by decide) ?_
    refine j_aload_n d_Ma_checkSignatures_59 rfl 0 rfl ?_
    refine j_iconst (v := nI 0) d_Ma_checkSignatures_60 (by decide) ?_
    refine j_callV (As := [.int (nI 0)]) (rest := []) (c_Ma_checkMany Γ.l E M X L y n zs m o b k false hI hL hk) Y_Ma_checkMany w_840 w_842 ws_25 hI.mo rfl rfl rfl (Nat.le_of_ble_eq_true rfl) (by omega) (by omega) (by omega) d_Ma_checkSignatures_61 (fun v61 N61 p61 => ?_)
    obtain ⟨w61, m61, o61, b61_, k61, rfl, I61, f61, T61, F61⟩ := p61
    obtain ⟨z61_3m, u61_3m⟩ := I61.sm.o
    obtain ⟨z61_3o, u61_3o⟩ := I61.so.o
    show mp_J Γ m_Ma_checkSignatures E κ N61 [(0, .ref (L 0)), (1, .int (nI 174))] 64 [.int (tf w61)] (0 + 0) (0 + 0)
    refine j_goto (tgt := 76) d_Ma_checkSignatures_64 (by decide) ?_
    exact j_zret hκ rfl (tf_01 _) (by omega) (by omega) d_Ma_checkSignatures_76 (MP.k T61 F61 I61 f61 (by unfold a_sig; rw [if_neg (by omega), if_pos (by omega)]))
  · skip
    refine j_tableIn 67 d_Ma_checkSignatures_1 (by decide) (by decide) rfl (by decide) ?_
    refine j_aload_n d_Ma_checkSignatures_67 rfl 0 rfl ?_
    refine j_iconst (v := nI 1) d_Ma_checkSignatures_68 (by decide) ?_
    refine j_callV (As := [.int (nI 1)]) (rest := []) (c_Ma_checkMany Γ.l E M X L y n zs m o b k true hI hL hk) Y_Ma_checkMany w_840 w_842 ws_25 hI.mo rfl rfl rfl (Nat.le_of_ble_eq_true rfl) (by omega) (by omega) (by omega) d_Ma_checkSignatures_69 (fun v69 N69 p69 => ?_)
    obtain ⟨w69, m69, o69, b69_, k69, rfl, I69, f69, T69, F69⟩ := p69
    obtain ⟨z69_4m, u69_4m⟩ := I69.sm.o
    obtain ⟨z69_4o, u69_4o⟩ := I69.so.o
    show mp_J Γ m_Ma_checkSignatures E κ N69 [(0, .ref (L 0)), (1, .int (nI 175))] 72 [.int (tf w69)] (0 + 0) (0 + 0)
    refine j_goto (tgt := 76) d_Ma_checkSignatures_72 (by decide) ?_
    exact j_zret hκ rfl (tf_01 _) (by omega) (by omega) d_Ma_checkSignatures_76 (MP.k T69 F69 I69 f69 (by unfold a_sig; rw [if_neg (by omega), if_neg (by omega), if_pos (by omega)]))

set_option maxHeartbeats 4000000 in
set_option maxRecDepth 100000 in
theorem c_Ma_perform (l : Launch) (E : mp_E) (M : mp_M) (X : Nat → Prop) (L : Nat → Nat) (y n : Nat) (zs m o : List am_T) (b : List Bool) (k : Nat) (c : Nat) (hI : IV E X M L y n zs m o b k) (hL : LY X L) (hk : k ≤ 1000) (hc : c < 256) : mp_Cr l m_Ma_perform E M 7 4 66 [.ref (L 0), .int (nI c)] (MP E X M L y n zs (am_op c m o b k)) := by
  refine mp_Cr.of (by decide) (Nat.le_of_ble_eq_true rfl) fun Γ κ hl hκ => ?_
  subst hl
  obtain ⟨hκd, hκc, hκs, -⟩ := id hκ
  have hlm := hI.sm.le
  have hlo := hI.so.le
  obtain ⟨z0_m, u0_m⟩ := hI.sm.o
  obtain ⟨z0_o, u0_o⟩ := hI.so.o
  show mp_J Γ m_Ma_perform E κ M [(0, .ref (L 0)), (1, .int (nI c))] 0 [] 0 0
  refine j_iload_n d_Ma_perform_0 rfl 1 rfl ?_
  refine j_bipush (v := nI 96) d_Ma_perform_1 (by decide) ?_
  refine j_ncmp_gt 12 c 96 rfl rfl (by omega) (by omega) d_Ma_perform_3 (by decide) (fun b3 => ?_) (fun b3 => ?_)
  · skip
    refine j_iload_n d_Ma_perform_12 rfl 1 rfl ?_
    refine j_sipush (v := nI 130) d_Ma_perform_13 (by decide) ?_
    refine j_ncmp_gt 25 c 130 rfl rfl (by omega) (by omega) d_Ma_perform_16 (by decide) (fun b16 => ?_) (fun b16 => ?_)
    · skip
      refine j_iload_n d_Ma_perform_25 rfl 1 rfl ?_
      refine j_sipush (v := nI 136) d_Ma_perform_26 (by decide) ?_
      refine j_ncmp_gt 38 c 136 rfl rfl (by omega) (by omega) d_Ma_perform_29 (by decide) (fun b29 => ?_) (fun b29 => ?_)
      · skip
        refine j_iload_n d_Ma_perform_38 rfl 1 rfl ?_
        refine j_sipush (v := nI 146) d_Ma_perform_39 (by decide) ?_
        refine j_ncmp_gt 51 c 146 rfl rfl (by omega) (by omega) d_Ma_perform_42 (by decide) (fun b42 => ?_) (fun b42 => ?_)
        · skip
          refine j_iload_n d_Ma_perform_51 rfl 1 rfl ?_
          refine j_sipush (v := nI 158) d_Ma_perform_52 (by decide) ?_
          refine j_ncmp_gt 64 c 158 rfl rfl (by omega) (by omega) d_Ma_perform_55 (by decide) (fun b55 => ?_) (fun b55 => ?_)
          · skip
            refine j_iload_n d_Ma_perform_64 rfl 1 rfl ?_
            refine j_sipush (v := nI 164) d_Ma_perform_65 (by decide) ?_
            refine j_ncmp_gt 77 c 164 rfl rfl (by omega) (by omega) d_Ma_perform_68 (by decide) (fun b68 => ?_) (fun b68 => ?_)
            · skip
              refine j_iload_n d_Ma_perform_77 rfl 1 rfl ?_
              refine j_sipush (v := nI 165) d_Ma_perform_78 (by decide) ?_
              refine j_ncmp_ne 89 c 165 rfl rfl (by omega) (by omega) d_Ma_perform_81 (by decide) (fun b81 => ?_) (fun b81 => ?_)
              · skip
                refine j_iload_n d_Ma_perform_89 rfl 1 rfl ?_
                refine j_sipush (v := nI 170) d_Ma_perform_90 (by decide) ?_
                refine j_ncmp_gt 102 c 170 rfl rfl (by omega) (by omega) d_Ma_perform_93 (by decide) (fun b93 => ?_) (fun b93 => ?_)
                · skip
                  refine j_aload_n d_Ma_perform_102 rfl 0 rfl ?_
                  refine j_iload_n d_Ma_perform_103 rfl 1 rfl ?_
                  refine j_callV (As := [.int (nI c)]) (rest := []) (c_Ma_checkSignatures Γ.l E M X L y n zs m o b k c hI hL hk hc) Y_Ma_checkSignatures w_836 w_838 ws_24 hI.mo rfl rfl rfl (Nat.le_of_ble_eq_true rfl) (by omega) (by omega) (by omega) d_Ma_perform_104 (fun v104 N104 p104 => ?_)
                  obtain ⟨w104, m104, o104, b104_, k104, rfl, I104, f104, T104, F104⟩ := p104
                  obtain ⟨z104_1m, u104_1m⟩ := I104.sm.o
                  obtain ⟨z104_1o, u104_1o⟩ := I104.so.o
                  show mp_J Γ m_Ma_perform E κ N104 [(0, .ref (L 0)), (1, .int (nI c))] 107 [.int (tf w104)] (0 + 0) (0 + 0)
                  exact j_zret hκ rfl (tf_01 _) (by omega) (by omega) d_Ma_perform_107 (MP.k T104 F104 I104 f104 (by unfold am_op; rw [if_neg (by omega), if_neg (by omega), if_neg (by omega), if_neg (by omega), if_neg (by omega), if_neg (by omega), if_neg (by omega), if_neg (by omega)]))
                · skip
                  refine j_aload_n d_Ma_perform_96 rfl 0 rfl ?_
                  refine j_iload_n d_Ma_perform_97 rfl 1 rfl ?_
                  refine j_callV (As := [.int (nI c)]) (rest := []) (c_Ma_sum Γ.l E M X L y n zs m o b k c hI hL hc) Y_Ma_sum w_763 w_765 ws_21 hI.mo rfl rfl rfl (Nat.le_of_ble_eq_true rfl) (by omega) (by omega) (by omega) d_Ma_perform_98 (fun v98 N98 p98 => ?_)
                  obtain ⟨w98, m98, o98, b98_, k98, rfl, I98, f98, T98, F98⟩ := p98
                  obtain ⟨z98_2m, u98_2m⟩ := I98.sm.o
                  obtain ⟨z98_2o, u98_2o⟩ := I98.so.o
                  show mp_J Γ m_Ma_perform E κ N98 [(0, .ref (L 0)), (1, .int (nI c))] 101 [.int (tf w98)] (0 + 4) (0 + 66)
                  exact j_zret hκ rfl (tf_01 _) (by omega) (by omega) d_Ma_perform_101 (MP.k T98 F98 I98 f98 (by unfold am_op; rw [if_neg (by omega), if_neg (by omega), if_neg (by omega), if_neg (by omega), if_neg (by omega), if_neg (by omega), if_neg (by omega), if_pos (by omega)]))
              · skip
                refine j_aload_n d_Ma_perform_84 rfl 0 rfl ?_
                refine j_callV (As := []) (rest := []) (c_Ma_within Γ.l E M X L y n zs m o b k hI hL) Y_Ma_within w_759 w_761 ws_20 hI.mo rfl rfl rfl (Nat.le_of_ble_eq_true rfl) (by omega) (by omega) (by omega) d_Ma_perform_85 (fun v85 N85 p85 => ?_)
                obtain ⟨w85, m85, o85, b85_, k85, rfl, I85, f85, T85, F85⟩ := p85
                obtain ⟨z85_3m, u85_3m⟩ := I85.sm.o
                obtain ⟨z85_3o, u85_3o⟩ := I85.so.o
                show mp_J Γ m_Ma_perform E κ N85 [(0, .ref (L 0)), (1, .int (nI c))] 88 [.int (tf w85)] (0 + 0) (0 + 0)
                exact j_zret hκ rfl (tf_01 _) (by omega) (by omega) d_Ma_perform_88 (MP.k T85 F85 I85 f85 (by unfold am_op; rw [if_neg (by omega), if_neg (by omega), if_neg (by omega), if_neg (by omega), if_neg (by omega), if_neg (by omega), if_pos (by omega)]))
            · skip
              refine j_aload_n d_Ma_perform_71 rfl 0 rfl ?_
              refine j_iload_n d_Ma_perform_72 rfl 1 rfl ?_
              refine j_callV (As := [.int (nI c)]) (rest := []) (c_Ma_orderNumbers Γ.l E M X L y n zs m o b k c hI hL hc) Y_Ma_orderNumbers w_749 w_751 ws_19 hI.mo rfl rfl rfl (Nat.le_of_ble_eq_true rfl) (by omega) (by omega) (by omega) d_Ma_perform_73 (fun v73 N73 p73 => ?_)
              obtain ⟨w73, m73, o73, b73_, k73, rfl, I73, f73, T73, F73⟩ := p73
              obtain ⟨z73_4m, u73_4m⟩ := I73.sm.o
              obtain ⟨z73_4o, u73_4o⟩ := I73.so.o
              show mp_J Γ m_Ma_perform E κ N73 [(0, .ref (L 0)), (1, .int (nI c))] 76 [.int (tf w73)] (0 + 2) (0 + 8)
              exact j_zret hκ rfl (tf_01 _) (by omega) (by omega) d_Ma_perform_76 (MP.k T73 F73 I73 f73 (by unfold am_op; rw [if_neg (by omega), if_neg (by omega), if_neg (by omega), if_neg (by omega), if_neg (by omega), if_pos (by omega)]))
          · skip
            refine j_aload_n d_Ma_perform_58 rfl 0 rfl ?_
            refine j_iload_n d_Ma_perform_59 rfl 1 rfl ?_
            refine j_callV (As := [.int (nI c)]) (rest := []) (c_Ma_joinNumbers Γ.l E M X L y n zs m o b k c hI hL hc) Y_Ma_joinNumbers w_745 w_747 ws_18 hI.mo rfl rfl rfl (Nat.le_of_ble_eq_true rfl) (by omega) (by omega) (by omega) d_Ma_perform_60 (fun v60 N60 p60 => ?_)
            obtain ⟨w60, m60, o60, b60_, k60, rfl, I60, f60, T60, F60⟩ := p60
            obtain ⟨z60_5m, u60_5m⟩ := I60.sm.o
            obtain ⟨z60_5o, u60_5o⟩ := I60.so.o
            show mp_J Γ m_Ma_perform E κ N60 [(0, .ref (L 0)), (1, .int (nI c))] 63 [.int (tf w60)] (0 + 2) (0 + 8)
            exact j_zret hκ rfl (tf_01 _) (by omega) (by omega) d_Ma_perform_63 (MP.k T60 F60 I60 f60 (by unfold am_op; rw [if_neg (by omega), if_neg (by omega), if_neg (by omega), if_neg (by omega), if_pos (by omega)]))
        · skip
          refine j_aload_n d_Ma_perform_45 rfl 0 rfl ?_
          refine j_iload_n d_Ma_perform_46 rfl 1 rfl ?_
          refine j_callV (As := [.int (nI c)]) (rest := []) (c_Ma_changeNumber Γ.l E M X L y n zs m o b k c hI hL hc) Y_Ma_changeNumber w_735 w_737 ws_17 hI.mo rfl rfl rfl (Nat.le_of_ble_eq_true rfl) (by omega) (by omega) (by omega) d_Ma_perform_47 (fun v47 N47 p47 => ?_)
          obtain ⟨w47, m47, o47, b47_, k47, rfl, I47, f47, T47, F47⟩ := p47
          obtain ⟨z47_6m, u47_6m⟩ := I47.sm.o
          obtain ⟨z47_6o, u47_6o⟩ := I47.so.o
          show mp_J Γ m_Ma_perform E κ N47 [(0, .ref (L 0)), (1, .int (nI c))] 50 [.int (tf w47)] (0 + 2) (0 + 8)
          exact j_zret hκ rfl (tf_01 _) (by omega) (by omega) d_Ma_perform_50 (MP.k T47 F47 I47 f47 (by unfold am_op; rw [if_neg (by omega), if_neg (by omega), if_neg (by omega), if_pos (by omega)]))
      · skip
        refine j_aload_n d_Ma_perform_32 rfl 0 rfl ?_
        refine j_iload_n d_Ma_perform_33 rfl 1 rfl ?_
        refine j_callV (As := [.int (nI c)]) (rest := []) (c_Ma_compare Γ.l E M X L y n zs m o b k c hI hL hc) Y_Ma_compare w_723 w_725 ws_15 hI.mo rfl rfl rfl (Nat.le_of_ble_eq_true rfl) (by omega) (by omega) (by omega) d_Ma_perform_34 (fun v34 N34 p34 => ?_)
        obtain ⟨w34, m34, o34, b34_, k34, rfl, I34, f34, T34, F34⟩ := p34
        obtain ⟨z34_7m, u34_7m⟩ := I34.sm.o
        obtain ⟨z34_7o, u34_7o⟩ := I34.so.o
        show mp_J Γ m_Ma_perform E κ N34 [(0, .ref (L 0)), (1, .int (nI c))] 37 [.int (tf w34)] (0 + 0) (0 + 0)
        exact j_zret hκ rfl (tf_01 _) (by omega) (by omega) d_Ma_perform_37 (MP.k T34 F34 I34 f34 (by unfold am_op; rw [if_neg (by omega), if_neg (by omega), if_pos (by omega)]))
    · skip
      refine j_aload_n d_Ma_perform_19 rfl 0 rfl ?_
      refine j_iload_n d_Ma_perform_20 rfl 1 rfl ?_
      refine j_callV (As := [.int (nI c)]) (rest := []) (c_Ma_arrange Γ.l E M X L y n zs m o b k c hI hL hc) Y_Ma_arrange w_673 w_675 ws_10 hI.mo rfl rfl rfl (Nat.le_of_ble_eq_true rfl) (by omega) (by omega) (by omega) d_Ma_perform_21 (fun v21 N21 p21 => ?_)
      obtain ⟨w21, m21, o21, b21_, k21, rfl, I21, f21, T21, F21⟩ := p21
      obtain ⟨z21_8m, u21_8m⟩ := I21.sm.o
      obtain ⟨z21_8o, u21_8o⟩ := I21.so.o
      show mp_J Γ m_Ma_perform E κ N21 [(0, .ref (L 0)), (1, .int (nI c))] 24 [.int (tf w21)] (0 + 2) (0 + 8)
      exact j_zret hκ rfl (tf_01 _) (by omega) (by omega) d_Ma_perform_24 (MP.k T21 F21 I21 f21 (by unfold am_op; rw [if_neg (by omega), if_pos (by omega)]))
  · skip
    refine j_aload_n d_Ma_perform_6 rfl 0 rfl ?_
    refine j_iload_n d_Ma_perform_7 rfl 1 rfl ?_
    refine j_callV (As := [.int (nI c)]) (rest := []) (c_Ma_constant Γ.l E M X L y n zs m o b k c hI hL (by omega)) Y_Ma_constant w_664 w_666 ws_8 hI.mo rfl rfl rfl (Nat.le_of_ble_eq_true rfl) (by omega) (by omega) (by omega) d_Ma_perform_8 (fun v8 N8 p8 => ?_)
    obtain ⟨w8, m8, o8, b8_, k8, rfl, I8, f8, T8, F8⟩ := p8
    obtain ⟨z8_9m, u8_9m⟩ := I8.sm.o
    obtain ⟨z8_9o, u8_9o⟩ := I8.so.o
    show mp_J Γ m_Ma_perform E κ N8 [(0, .ref (L 0)), (1, .int (nI c))] 11 [.int (tf w8)] (0 + 2) (0 + 8)
    exact j_zret hκ rfl (tf_01 _) (by omega) (by omega) d_Ma_perform_11 (MP.k T8 F8 I8 f8 (by unfold am_op; rw [if_pos (by omega)]))
