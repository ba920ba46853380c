def am_hs (g : Nat → Int32) (len w : Nat) : am_T := if w = 2 then am_ripR g len else if w = 1 then am_sha (am_shaR g len) else am_shaR g len
set_option maxHeartbeats 4000000 in
set_option maxRecDepth 100000 in
theorem c_De_sumOfRow (l : Launch) (E : mp_E) (M : mp_M) (X : Nat → Prop) (L : Nat → Nat) (y n : Nat) (zs m o : List am_T) (b : List Bool) (k : Nat) (h ro len : Nat) (g : Nat → Int32) (hw : Nat) (hI : IV E X M L y n zs m o b k) (hL : LY X L) (h0 : M h = some (mp_o 6 [.ref ro, .int (nI len), .ref (L 1), .ref (L 5), .ref (L 0), .ref (L 15)])) (h1 : M ro = some (mp_b E 1000 g)) (hXh : ¬ X h) (hXr : ¬ X ro) (hlen : len ≤ 1000) (hhw : hw ≤ 2) : mp_Cr l m_De_sumOfRow E M 5 4 66 [.ref h, .int (nI hw)] (fun v N => ∃ t, v = some (.ref t) ∧ TH E X N t (am_hs g len hw) ∧ IV E X N L y n zs m o b k ∧ mp_Fr X M N) := by
  refine mp_Cr.of (by decide) (Nat.le_of_ble_eq_true rfl) fun Γ κ hl hκ => ?_
  subst hl
  obtain ⟨hκd, hκc, hκs, -⟩ := id hκ
  have hlm := hI.sm.le
  have hlo := hI.so.le
  obtain ⟨z0_m, u0_m⟩ := hI.sm.o
  obtain ⟨z0_o, u0_o⟩ := hI.so.o
  show mp_J Γ m_De_sumOfRow E κ M [(0, .ref h), (1, .int (nI hw))] 0 [] 0 0
  refine j_iload_n d_De_sumOfRow_0 rfl 1 rfl ?_
  refine j_iconst (v := nI 2) d_De_sumOfRow_1 (by decide) ?_
  refine j_ncmp_ne 21 hw 2 rfl rfl (by omega) (by omega) d_De_sumOfRow_2 (by decide) (fun b2 => ?_) (fun b2 => ?_)
  · skip
    refine j_aload_n d_De_sumOfRow_21 rfl 0 rfl ?_
    refine j_get F_De h0 2 (by decide) w_192 (Or.inl rfl) rfl d_De_sumOfRow_22 ?_
    refine j_aload_n d_De_sumOfRow_25 rfl 0 rfl ?_
    refine j_get F_De h0 0 (by decide) w_190 (Or.inl rfl) rfl d_De_sumOfRow_26 ?_
    refine j_aload_n d_De_sumOfRow_29 rfl 0 rfl ?_
    refine j_get F_De h0 1 (by decide) w_191 (Or.inl rfl) rfl d_De_sumOfRow_30 ?_
    refine j_callU (As := [.ref ro, .int (nI len)]) (rest := []) "ScriptDesk$Sum" (i_shaR Γ.l hI hL hXr h1 (by decide) hlen) Y_Su_of w_930 w_769 (Or.inr ⟨w_768, _, _, _, w_772⟩) (by decide) rfl w_768 w_771 hI.su.1 rfl rfl rfl (Nat.le_of_ble_eq_true rfl) (by omega) (by omega) (by omega) d_De_sumOfRow_33 (fun v33 N33 p33 => ?_)
    obtain ⟨t33, rfl, ht33, I33, f33⟩ := p33
    obtain ⟨z33_1m, u33_1m⟩ := I33.sm.o
    obtain ⟨z33_1o, u33_1o⟩ := I33.so.o
    obtain ⟨z33_1_t33, u33_1_t33⟩ := ht33.o
    have d0_33 := f33 h _ h0 hXh
    have d1_33 := f33 ro _ h1 hXr
    show mp_J Γ m_De_sumOfRow E κ N33 [(0, .ref h), (1, .int (nI hw))] 36 [.ref t33] (0 + 2) (0 + 33)
    refine j_astore_n [(2, .ref t33), (0, .ref h), (1, .int (nI hw))] d_De_sumOfRow_36 rfl (by decide) rfl ?_
    refine j_iload_n d_De_sumOfRow_37 rfl 2 rfl ?_
    refine j_iconst (v := nI 1) d_De_sumOfRow_38 (by decide) ?_
    refine j_ncmp_ne 61 hw 1 rfl rfl (by omega) (by omega) d_De_sumOfRow_39 (by decide) (fun b39 => ?_) (fun b39 => ?_)
    · skip
      refine j_aload_n d_De_sumOfRow_61 rfl 0 rfl ?_
      exact j_aret hκ rfl (by first | exact Or.inl ⟨_, rfl⟩ | exact Or.inr ⟨_, rfl⟩) (by omega) (by omega) d_De_sumOfRow_62 ⟨t33, rfl, by unfold am_hs; rw [if_neg b2, if_neg b39]; exact ht33, I33, f33⟩
    · skip
      refine j_aload_n d_De_sumOfRow_42 rfl 1 rfl ?_
      refine j_get F_De d0_33 2 (by decide) w_192 (Or.inl rfl) rfl d_De_sumOfRow_43 ?_
      refine j_aload_n d_De_sumOfRow_46 rfl 0 rfl ?_
      obtain ⟨x_t33, b_t33, y_t33, z_t33, c_t33, l_t33⟩ := id ht33
      refine j_getN F_Th z_t33 0 (by decide) w_117 (Or.inl rfl) rfl d_De_sumOfRow_47 ?_
      refine j_aload_n d_De_sumOfRow_50 rfl 0 rfl ?_
      refine j_getN F_Th z_t33 0 (by decide) w_117 (Or.inl rfl) rfl d_De_sumOfRow_51 ?_
      refine j_alen 0 c_t33 rfl d_De_sumOfRow_54 ?_
      show mp_J Γ m_De_sumOfRow E κ N33 [(2, .ref t33), (0, .ref h), (1, .int (nI hw))] 55 [.int (nI ((am_shaR g len).length)), .ref b_t33, .ref (L 1)] (0 + 2) (0 + 33)
      refine j_callU (As := [.ref b_t33, .int (nI ((am_shaR g len).length))]) (rest := []) "ScriptDesk$Sum" (i_sha Γ.l I33 hL y_t33 c_t33 l_t33) Y_Su_of w_930 w_769 (Or.inr ⟨w_768, _, _, _, w_772⟩) (by decide) rfl w_768 w_771 I33.su.1 rfl rfl rfl (Nat.le_of_ble_eq_true rfl) (by omega) (by omega) (by omega) d_De_sumOfRow_55 (fun v55 N55 p55 => ?_)
      obtain ⟨t55, rfl, ht55, I55, f55⟩ := p55
      have ht33_55_2 := ht33.keep f55
      obtain ⟨z55_2m, u55_2m⟩ := I55.sm.o
      obtain ⟨z55_2o, u55_2o⟩ := I55.so.o
      obtain ⟨z55_2_t33, u55_2_t33⟩ := ht33_55_2.o
      obtain ⟨z55_2_t55, u55_2_t55⟩ := ht55.o
      show mp_J Γ m_De_sumOfRow E κ N55 [(2, .ref t33), (0, .ref h), (1, .int (nI hw))] 58 [.ref t55] (0 + 2 + 2) (0 + 33 + 33)
      refine j_goto (tgt := 62) d_De_sumOfRow_58 (by decide) ?_
      exact j_aret hκ rfl (by first | exact Or.inl ⟨_, rfl⟩ | exact Or.inr ⟨_, rfl⟩) (by omega) (by omega) d_De_sumOfRow_62 ⟨t55, rfl, by unfold am_hs; rw [if_neg b2, if_pos b39]; exact ht55, I55, (f33.trans f55)⟩
  · skip
    refine j_aload_n d_De_sumOfRow_5 rfl 0 rfl ?_
    refine j_get F_De h0 3 (by decide) w_193 (Or.inl rfl) rfl d_De_sumOfRow_6 ?_
    refine j_aload_n d_De_sumOfRow_9 rfl 0 rfl ?_
    refine j_get F_De h0 0 (by decide) w_190 (Or.inl rfl) rfl d_De_sumOfRow_10 ?_
    refine j_aload_n d_De_sumOfRow_13 rfl 0 rfl ?_
    refine j_get F_De h0 1 (by decide) w_191 (Or.inl rfl) rfl d_De_sumOfRow_14 ?_
    refine j_callU (As := [.ref ro, .int (nI len)]) (rest := []) "ScriptDesk$Sum" (i_ripR Γ.l hI hL hXr h1 (by decide) hlen) Y_Su_of w_930 w_769 (Or.inr ⟨w_768, _, _, _, w_772⟩) (by decide) rfl w_768 w_770 hI.su.2.1 rfl rfl rfl (Nat.le_of_ble_eq_true rfl) (by omega) (by omega) (by omega) d_De_sumOfRow_17 (fun v17 N17 p17 => ?_)
    obtain ⟨t17, rfl, ht17, I17, f17⟩ := p17
    obtain ⟨z17_3m, u17_3m⟩ := I17.sm.o
    obtain ⟨z17_3o, u17_3o⟩ := I17.so.o
    obtain ⟨z17_3_t17, u17_3_t17⟩ := ht17.o
    have d0_17 := f17 h _ h0 hXh
    have d1_17 := f17 ro _ h1 hXr
    show mp_J Γ m_De_sumOfRow E κ N17 [(0, .ref h), (1, .int (nI hw))] 20 [.ref t17] (0 + 2) (0 + 21)
    exact j_aret hκ rfl (by first | exact Or.inl ⟨_, rfl⟩ | exact Or.inr ⟨_, rfl⟩) (by omega) (by omega) d_De_sumOfRow_20 ⟨t17, rfl, by unfold am_hs; rw [if_pos b2]; exact ht17, I17, f17⟩

set_option maxHeartbeats 4000000 in
set_option maxRecDepth 100000 in
theorem c_De_hash (l : Launch) (hl0 : l.stackTraces = false) (E : mp_E) (M : mp_M) (X : Nat → Prop) (L : Nat → Nat) (y n : Nat) (zs m o : List am_T) (b : List Bool) (k : Nat) (h ro len : Nat) (g : Nat → Int32) (a c : Int32) (hI : IV E X M L y n zs m o b k) (hL : LY X L) (h0 : M h = some (mp_o 6 [.ref ro, .int (nI len), .ref (L 1), .ref (L 5), .ref (L 0), .ref (L 15)])) (h1 : M ro = some (mp_b E 1000 g)) (hXh : ¬ X h) (hXr : ¬ X ro) (hlen : len ≤ 1000) : mp_Ct l m_De_hash E M 8 4 66 [.ref h, .int a, .int c] (mp_pq (fun v N => ∃ w q, w ≤ 2 ∧ a = nI w ∧ q ≤ (if w = 2 then 4 else 7) ∧ c = nI q ∧ v = some (.int (th_w (am_hs g len w).length (gb (am_hs g len w)) q 4)) ∧ IV E X N L y n zs m o b k ∧ mp_Fr X M N) (fun x N => x = "java/lang/IllegalArgumentException" ∧ (¬ ∃ w q, w ≤ 2 ∧ a = nI w ∧ q ≤ (if w = 2 then 4 else 7) ∧ c = nI q) ∧ N = M)) := by
  refine mp_Ct.of (by decide) (Nat.le_of_ble_eq_true rfl) fun Γ κ hl hκ0 => ?_
  subst hl
  have hl := hl0
  obtain ⟨hκ, hX⟩ := mp_k2 hκ0
  obtain ⟨hκd, hκc, hκs, -⟩ := id hκ
  have hlm := hI.sm.le
  have hlo := hI.so.le
  obtain ⟨z0_m, u0_m⟩ := hI.sm.o
  obtain ⟨z0_o, u0_o⟩ := hI.so.o
  show mp_J Γ m_De_hash E κ M [(0, .ref h), (1, .int a), (2, .int c)] 0 [] 0 0
  refine j_iload_n d_De_hash_0 rfl 1 rfl ?_
  refine j_if_lt 9 d_De_hash_1 (by decide) (fun b1 => ?_) (fun b1 => ?_)
  · skip
    exact j_throw (names := ["java/lang/RuntimeException", "java/lang/Exception"]) hl (by decide) (by decide) w_306 w_17 x_IAE g_IAE d_De_hash_9 d_De_hash_12 d_De_hash_13 d_De_hash_16 (by decide) (Nat.le_of_ble_eq_true rfl) (by omega) rfl (by omega) (by omega) (hX _ _ ⟨rfl, fun ⟨w9, q9, z1, z2, z3, z4⟩ => absurd ((am_i32 (i := a) (len := 2) (by decide)).mpr ⟨w9, z1, z2⟩) (fun z => by first | exact z.1 b1 | exact b6 z.2), rfl⟩)
  · skip
    refine j_iload_n d_De_hash_4 rfl 1 rfl ?_
    refine j_iconst (v := nI 2) d_De_hash_5 (by decide) ?_
    refine j_icmp_le 17 d_De_hash_6 (by decide) (fun b6 => ?_) (fun b6 => ?_)
    · skip
      obtain ⟨w, hw, haw⟩ := (am_i32 (len := 2) (by decide)).mp ⟨b1, b6⟩
      rw [haw]
      refine j_iload_n d_De_hash_17 rfl 2 rfl ?_
      refine j_if_lt 36 d_De_hash_18 (by decide) (fun b18 => ?_) (fun b18 => ?_)
      · skip
        exact j_throw (names := ["java/lang/RuntimeException", "java/lang/Exception"]) hl (by decide) (by decide) w_306 w_17 x_IAE g_IAE d_De_hash_36 d_De_hash_39 d_De_hash_40 d_De_hash_43 (by decide) (Nat.le_of_ble_eq_true rfl) (by omega) rfl (by omega) (by omega) (hX _ _ ⟨rfl, fun ⟨w9, q9, z1, z2, z3, z4⟩ => by
      have z5 : w = w9 := am_nIinj (by omega) (by omega) (haw.symm.trans z2)
      subst z5
      have z6 := (am_i32 (i := c) (len := if w = 2 then 4 else 7) (by split <;> omega)).mpr ⟨q9, z3, z4⟩
      first | exact z6.1 b18 | (rw [if_pos b24] at z6; exact b33 z6.2) | (rw [if_neg b24] at z6; exact b33 z6.2), rfl⟩)
      · skip
        refine j_iload_n d_De_hash_21 rfl 2 rfl ?_
        refine j_iload_n d_De_hash_22 rfl 1 rfl ?_
        refine j_iconst (v := nI 2) d_De_hash_23 (by decide) ?_
        refine j_ncmp_ne 31 w 2 rfl rfl (by omega) (by omega) d_De_hash_24 (by decide) (fun b24 => ?_) (fun b24 => ?_)
        · skip
          refine j_bipush (v := nI 7) d_De_hash_31 (by decide) ?_
          refine j_icmp_le 44 d_De_hash_33 (by decide) (fun b33 => ?_) (fun b33 => ?_)
          · skip
            obtain ⟨q, hq, hcq⟩ := (am_i32 (len := 7) (by decide)).mp ⟨b18, b33⟩
            rw [hcq]
            refine j_aload_n d_De_hash_44 rfl 0 rfl ?_
            refine j_iload_n d_De_hash_45 rfl 1 rfl ?_
            refine j_callV (As := [.int (nI w)]) (rest := []) (c_De_sumOfRow Γ.l E M X L y n zs m o b k h ro len g w hI hL h0 h1 hXh hXr hlen hw) Y_De_sumOfRow w_926 w_928 ws_26 h0 rfl rfl rfl (Nat.le_of_ble_eq_true rfl) (by omega) (by omega) (by omega) d_De_hash_46 (fun v46 N46 p46 => ?_)
            obtain ⟨t46, rfl, ht46, I46, f46⟩ := p46
            obtain ⟨z46_1m, u46_1m⟩ := I46.sm.o
            obtain ⟨z46_1o, u46_1o⟩ := I46.so.o
            obtain ⟨z46_1_t46, u46_1_t46⟩ := ht46.o
            have d0_46 := f46 h _ h0 hXh
            have d1_46 := f46 ro _ h1 hXr
            show mp_J Γ m_De_hash E κ N46 [(0, .ref h), (1, .int (nI w)), (2, .int (nI q))] 49 [.ref t46] (0 + 4) (0 + 66)
            refine j_iload_n d_De_hash_49 rfl 2 rfl ?_
            refine j_callV (As := [.int (nI q)]) (rest := []) (t_word Γ.l ht46 q (by omega)) Y_Th_word w_931 w_932 w_933 u46_1_t46 rfl rfl rfl (Nat.le_of_ble_eq_true rfl) (by omega) (by omega) (by omega) d_De_hash_50 (fun v50 N50 p50 => ?_)
            obtain ⟨rfl, q50⟩ := p50
            obtain rfl := q50.symm
            show mp_J Γ m_De_hash E κ N46 [(0, .ref h), (1, .int (nI w)), (2, .int (nI q))] 53 [.int (th_w (am_hs g len w).length (gb (am_hs g len w)) q 4)] (0 + 4) (0 + 66)
            exact j_iret hκ rfl (by omega) (by omega) d_De_hash_53 ⟨w, q, hw, haw, (by first | (rw [if_pos b24]; exact hq) | (rw [if_neg b24]; exact hq)), hcq, rfl, I46, f46⟩
          · skip
            exact j_throw (names := ["java/lang/RuntimeException", "java/lang/Exception"]) hl (by decide) (by decide) w_306 w_17 x_IAE g_IAE d_De_hash_36 d_De_hash_39 d_De_hash_40 d_De_hash_43 (by decide) (Nat.le_of_ble_eq_true rfl) (by omega) rfl (by omega) (by omega) (hX _ _ ⟨rfl, fun ⟨w9, q9, z1, z2, z3, z4⟩ => by
      have z5 : w = w9 := am_nIinj (by omega) (by omega) (haw.symm.trans z2)
      subst z5
      have z6 := (am_i32 (i := c) (len := if w = 2 then 4 else 7) (by split <;> omega)).mpr ⟨q9, z3, z4⟩
      first | exact z6.1 b18 | (rw [if_pos b24] at z6; exact b33 z6.2) | (rw [if_neg b24] at z6; exact b33 z6.2), rfl⟩)
        · skip
          refine j_iconst (v := nI 4) d_De_hash_27 (by decide) ?_
          refine j_goto (tgt := 33) d_De_hash_28 (by decide) ?_
          refine j_icmp_le 44 d_De_hash_33 (by decide) (fun b33 => ?_) (fun b33 => ?_)
          · skip
            obtain ⟨q, hq, hcq⟩ := (am_i32 (len := 4) (by decide)).mp ⟨b18, b33⟩
            rw [hcq]
            refine j_aload_n d_De_hash_44 rfl 0 rfl ?_
            refine j_iload_n d_De_hash_45 rfl 1 rfl ?_
            refine j_callV (As := [.int (nI w)]) (rest := []) (c_De_sumOfRow Γ.l E M X L y n zs m o b k h ro len g w hI hL h0 h1 hXh hXr hlen hw) Y_De_sumOfRow w_926 w_928 ws_26 h0 rfl rfl rfl (Nat.le_of_ble_eq_true rfl) (by omega) (by omega) (by omega) d_De_hash_46 (fun v46 N46 p46 => ?_)
            obtain ⟨t46, rfl, ht46, I46, f46⟩ := p46
            obtain ⟨z46_2m, u46_2m⟩ := I46.sm.o
            obtain ⟨z46_2o, u46_2o⟩ := I46.so.o
            obtain ⟨z46_2_t46, u46_2_t46⟩ := ht46.o
            have d0_46 := f46 h _ h0 hXh
            have d1_46 := f46 ro _ h1 hXr
            show mp_J Γ m_De_hash E κ N46 [(0, .ref h), (1, .int (nI w)), (2, .int (nI q))] 49 [.ref t46] (0 + 4) (0 + 66)
            refine j_iload_n d_De_hash_49 rfl 2 rfl ?_
            refine j_callV (As := [.int (nI q)]) (rest := []) (t_word Γ.l ht46 q (by omega)) Y_Th_word w_931 w_932 w_933 u46_2_t46 rfl rfl rfl (Nat.le_of_ble_eq_true rfl) (by omega) (by omega) (by omega) d_De_hash_50 (fun v50 N50 p50 => ?_)
            obtain ⟨rfl, q50⟩ := p50
            obtain rfl := q50.symm
            show mp_J Γ m_De_hash E κ N46 [(0, .ref h), (1, .int (nI w)), (2, .int (nI q))] 53 [.int (th_w (am_hs g len w).length (gb (am_hs g len w)) q 4)] (0 + 4) (0 + 66)
            exact j_iret hκ rfl (by omega) (by omega) d_De_hash_53 ⟨w, q, hw, haw, (by first | (rw [if_pos b24]; exact hq) | (rw [if_neg b24]; exact hq)), hcq, rfl, I46, f46⟩
          · skip
            exact j_throw (names := ["java/lang/RuntimeException", "java/lang/Exception"]) hl (by decide) (by decide) w_306 w_17 x_IAE g_IAE d_De_hash_36 d_De_hash_39 d_De_hash_40 d_De_hash_43 (by decide) (Nat.le_of_ble_eq_true rfl) (by omega) rfl (by omega) (by omega) (hX _ _ ⟨rfl, fun ⟨w9, q9, z1, z2, z3, z4⟩ => by
      have z5 : w = w9 := am_nIinj (by omega) (by omega) (haw.symm.trans z2)
      subst z5
      have z6 := (am_i32 (i := c) (len := if w = 2 then 4 else 7) (by split <;> omega)).mpr ⟨q9, z3, z4⟩
      first | exact z6.1 b18 | (rw [if_pos b24] at z6; exact b33 z6.2) | (rw [if_neg b24] at z6; exact b33 z6.2), rfl⟩)
    · skip
      exact j_throw (names := ["java/lang/RuntimeException", "java/lang/Exception"]) hl (by decide) (by decide) w_306 w_17 x_IAE g_IAE d_De_hash_9 d_De_hash_12 d_De_hash_13 d_De_hash_16 (by decide) (Nat.le_of_ble_eq_true rfl) (by omega) rfl (by omega) (by omega) (hX _ _ ⟨rfl, fun ⟨w9, q9, z1, z2, z3, z4⟩ => absurd ((am_i32 (i := a) (len := 2) (by decide)).mpr ⟨w9, z1, z2⟩) (fun z => by first | exact z.1 b1 | exact b6 z.2), rfl⟩)
