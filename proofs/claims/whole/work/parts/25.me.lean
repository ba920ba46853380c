def am_sha (x : am_T) : am_T := gl 32 (sm_sha (gb x) x.length)
def am_rip (x : am_T) : am_T := gl 20 (sm_rip (gb x) x.length)
theorem i_sha (l : Launch) {E : mp_E} {X : Nat → Prop} {M : mp_M} {L : Nat → Nat} {y n k : Nat} {zs m o : List am_T} {b : List Bool} {x : am_T} {q : Nat} (hI : IV E X M L y n zs m o b k) (hL : LY X L) (hq : ¬ X q) (hb : M q = some (mp_b E x.length (gb x))) (hx : x.length ≤ 256) : mp_Cr l m_Su_of E M 4 2 33 [.ref (L 1), .ref q, .int (nI x.length)] (fun v N => ∃ t, v = some (.ref t) ∧ TH E X N t (am_sha x) ∧ IV E X N L y n zs m o b k ∧ mp_Fr X M N) := by
  obtain ⟨s1, s2, ⟨_, s3⟩, ⟨_, s4⟩, ⟨_, s5⟩, ⟨_, s6⟩, ⟨_, s7⟩, ⟨_, s8⟩, ⟨_, s9⟩⟩ := id hI.su
  have hnb : ∀ {i : Nat}, i < 17 → L i ≠ q := fun hi z => hq (by rw [← z]; exact hL.x hi)
  refine (c_of_sh l E M (L 1) (L 2) (L 3) (L 4) q x.length x.length (gb x) _ _ _ s1 hb (by omega) (Nat.le_refl _) (hL.ne (by omega) (by omega) (by omega)) (hL.ne (by omega) (by omega) (by omega)) (hL.ne (by omega) (by omega) (by omega)) (hnb (by omega)) (hnb (by omega)) (hnb (by omega)) s4 s5 s3).canon fun v N ⟨q1, q2, a1, a2, a3, a4, a5, a6, ⟨g3, e3⟩, ⟨g4, e4⟩, ⟨g2, e2⟩, fr⟩ => ?_
  have kp : ∀ a e, M a = some e → a ≠ L 3 → a ≠ L 4 → a ≠ L 2 → mp_up N q2 (mp_b E 32 (gb (am_sha x))) a = some e := fun a e h n3 n4 n2 => by
    rw [mp_n (mp_ne0 h a3), fr a n3 n4 n2 (mp_ne0 h a2) (mp_ne0 h a3)]; exact h
  have kl : ∀ i e, i < 17 → i ≠ 3 → i ≠ 4 → i ≠ 2 → M (L i) = some e → mp_up N q2 (mp_b E 32 (gb (am_sha x))) (L i) = some e := fun i e hi n3 n4 n2 h => kp _ _ h (hL.ne hi (by omega) n3) (hL.ne hi (by omega) n4) (hL.ne hi (by omega) n2)
  have fX : mp_Fr X M (mp_up N q2 (mp_b E 32 (gb (am_sha x)))) := fun a e h hX => kp a e h (fun z => hX (by rw [z]; exact hL.x (by omega))) (fun z => hX (by rw [z]; exact hL.x (by omega))) (fun z => hX (by rw [z]; exact hL.x (by omega)))
  have sk : ∀ (i j : Nat) (xs : List am_T), 10 < i → i < 17 → 10 < j → j < 17 → SK E X M (L i) (L j) xs → SK E X (mp_up N q2 (mp_b E 32 (gb (am_sha x)))) (L i) (L j) xs := fun i j xs h1 h2 h3 h4 ⟨nn, f, b1, b2, b3, b4, b5⟩ => ⟨nn, f, kl i _ h2 (by omega) (by omega) (by omega) b1, kl j _ h4 (by omega) (by omega) (by omega) b2, b3.keep fX, b4, b5.keep fX⟩
  have X1 : ¬ X q1 := fun z => hI.xa hL _ z a2
  have X2 : ¬ X q2 := fun z => hI.xa hL _ z a3
  refine ⟨q2, 32, sm_sha (gb x) x.length, gb (am_sha x), a6, fun j hj => (gl_at hj).symm, q1, a1, ⟨X1, q2, X2, (mp_n a4).trans a5, ?_, ?_⟩, ?_, fX⟩
  · rw [mp_s]; unfold am_sha; rw [gl_len]
  · unfold am_sha; rw [gl_len]; omega
  · exact hI.gen fX (kl 0 _ (by omega) (by omega) (by omega) (by omega) hI.mo) ⟨kl 1 _ (by omega) (by omega) (by omega) (by omega) s1, kl 5 _ (by omega) (by omega) (by omega) (by omega) s2, ⟨g2, (mp_n (mp_ne0 s3 a3)).trans e2⟩, ⟨g3, (mp_n (mp_ne0 s4 a3)).trans e3⟩, ⟨g4, (mp_n (mp_ne0 s5 a3)).trans e4⟩, ⟨_, kl 6 _ (by omega) (by omega) (by omega) (by omega) s6⟩, ⟨_, kl 7 _ (by omega) (by omega) (by omega) (by omega) s7⟩, ⟨_, kl 8 _ (by omega) (by omega) (by omega) (by omega) s8⟩, ⟨_, kl 9 _ (by omega) (by omega) (by omega) (by omega) s9⟩⟩ (kl 10 _ (by omega) (by omega) (by omega) (by omega) hI.br) (sk 11 12 _ (by omega) (by omega) (by omega) (by omega) hI.so) (sk 13 14 _ (by omega) (by omega) (by omega) (by omega) hI.sm) (sk 15 16 _ (by omega) (by omega) (by omega) (by omega) hI.sd)
theorem i_rip (l : Launch) {E : mp_E} {X : Nat → Prop} {M : mp_M} {L : Nat → Nat} {y n k : Nat} {zs m o : List am_T} {b : List Bool} {x : am_T} {q : Nat} (hI : IV E X M L y n zs m o b k) (hL : LY X L) (hq : ¬ X q) (hb : M q = some (mp_b E x.length (gb x))) (hx : x.length ≤ 256) : mp_Cr l m_Su_of E M 4 2 21 [.ref (L 5), .ref q, .int (nI x.length)] (fun v N => ∃ t, v = some (.ref t) ∧ TH E X N t (am_rip x) ∧ IV E X N L y n zs m o b k ∧ mp_Fr X M N) := by
  obtain ⟨s1, s2, ⟨_, s3⟩, ⟨_, s4⟩, ⟨_, s5⟩, ⟨_, s6⟩, ⟨_, s7⟩, ⟨_, s8⟩, ⟨_, s9⟩⟩ := id hI.su
  have hnb : ∀ {i : Nat}, i < 17 → L i ≠ q := fun hi z => hq (by rw [← z]; exact hL.x hi)
  refine (c_of_ri l E M (L 5) (L 6) (L 7) (L 8) (L 9) q x.length x.length (gb x) _ _ _ _ s2 hb (by omega) (Nat.le_refl _) (hL.ne (by omega) (by omega) (by omega)) (hL.ne (by omega) (by omega) (by omega)) (hL.ne (by omega) (by omega) (by omega)) (hL.ne (by omega) (by omega) (by omega)) (hL.ne (by omega) (by omega) (by omega)) (hL.ne (by omega) (by omega) (by omega)) (hnb (by omega)) (hnb (by omega)) (hnb (by omega)) (hnb (by omega)) s8 s9 s6 s7).canon fun v N ⟨q1, q2, a1, a2, a3, a4, a5, a6, ⟨g8, e8⟩, ⟨g9, e9⟩, ⟨g6, e6⟩, ⟨g7, e7⟩, fr⟩ => ?_
  have kp : ∀ a e, M a = some e → a ≠ L 8 → a ≠ L 9 → a ≠ L 6 → a ≠ L 7 → mp_up N q2 (mp_b E 20 (gb (am_rip x))) a = some e := fun a e h n8 n9 n6 n7 => by
    rw [mp_n (mp_ne0 h a3), fr a n8 n9 n6 n7 (mp_ne0 h a2) (mp_ne0 h a3)]; exact h
  have kl : ∀ i e, i < 17 → i ≠ 8 → i ≠ 9 → i ≠ 6 → i ≠ 7 → M (L i) = some e → mp_up N q2 (mp_b E 20 (gb (am_rip x))) (L i) = some e := fun i e hi n8 n9 n6 n7 h => kp _ _ h (hL.ne hi (by omega) n8) (hL.ne hi (by omega) n9) (hL.ne hi (by omega) n6) (hL.ne hi (by omega) n7)
  have fX : mp_Fr X M (mp_up N q2 (mp_b E 20 (gb (am_rip x)))) := fun a e h hX => kp a e h (fun z => hX (by rw [z]; exact hL.x (by omega))) (fun z => hX (by rw [z]; exact hL.x (by omega))) (fun z => hX (by rw [z]; exact hL.x (by omega))) (fun z => hX (by rw [z]; exact hL.x (by omega)))
  have sk : ∀ (i j : Nat) (xs : List am_T), 10 < i → i < 17 → 10 < j → j < 17 → SK E X M (L i) (L j) xs → SK E X (mp_up N q2 (mp_b E 20 (gb (am_rip x)))) (L i) (L j) xs := fun i j xs h1 h2 h3 h4 ⟨nn, f, b1, b2, b3, b4, b5⟩ => ⟨nn, f, kl i _ h2 (by omega) (by omega) (by omega) (by omega) b1, kl j _ h4 (by omega) (by omega) (by omega) (by omega) b2, b3.keep fX, b4, b5.keep fX⟩
  have X1 : ¬ X q1 := fun z => hI.xa hL _ z a2
  have X2 : ¬ X q2 := fun z => hI.xa hL _ z a3
  refine ⟨q2, 20, sm_rip (gb x) x.length, gb (am_rip x), a6, fun j hj => (gl_at hj).symm, q1, a1, ⟨X1, q2, X2, (mp_n a4).trans a5, ?_, ?_⟩, ?_, fX⟩
  · rw [mp_s]; unfold am_rip; rw [gl_len]
  · unfold am_rip; rw [gl_len]; omega
  · exact hI.gen fX (kl 0 _ (by omega) (by omega) (by omega) (by omega) (by omega) hI.mo) ⟨kl 1 _ (by omega) (by omega) (by omega) (by omega) (by omega) s1, kl 5 _ (by omega) (by omega) (by omega) (by omega) (by omega) s2, ⟨_, kl 2 _ (by omega) (by omega) (by omega) (by omega) (by omega) s3⟩, ⟨_, kl 3 _ (by omega) (by omega) (by omega) (by omega) (by omega) s4⟩, ⟨_, kl 4 _ (by omega) (by omega) (by omega) (by omega) (by omega) s5⟩, ⟨g6, (mp_n (mp_ne0 s6 a3)).trans e6⟩, ⟨g7, (mp_n (mp_ne0 s7 a3)).trans e7⟩, ⟨g8, (mp_n (mp_ne0 s8 a3)).trans e8⟩, ⟨g9, (mp_n (mp_ne0 s9 a3)).trans e9⟩⟩ (kl 10 _ (by omega) (by omega) (by omega) (by omega) (by omega) hI.br) (sk 11 12 _ (by omega) (by omega) (by omega) (by omega) hI.so) (sk 13 14 _ (by omega) (by omega) (by omega) (by omega) hI.sm) (sk 15 16 _ (by omega) (by omega) (by omega) (by omega) hI.sd)
def a_sum (c : Nat) (m o : List am_T) (b : List Bool) (k : Nat) : Option am_St := if ¬ 0 < m.length then none
  else if c = 166 then some (am_rip (m.getD 0 []) :: m.drop 1, o, b, k)
  else if c = 168 then some (am_sha (m.getD 0 []) :: m.drop 1, o, b, k)
  else if c = 169 then some (am_rip (am_sha (m.getD 0 [])) :: m.drop 1, o, b, k)
  else if c = 170 then some (am_sha (am_sha (m.getD 0 [])) :: m.drop 1, o, b, k) else none
def a_many (vf : Bool) (m o : List am_T) (b : List Bool) (k : Nat) : Option am_St := match am_cnt m 0 20 with
  | none => none
  | some j => if ¬ k + j ≤ 201 then none else match am_cnt m (j + 1) j with
    | none => none
    | some g => if ¬ j + g + 3 ≤ m.length then none else if vf = true then (if g = 0 then some (m.drop (j + g + 3), o, b, k + j) else none) else some (am_bt (decide (g = 0)) :: m.drop (j + g + 3), o, b, k + j)
def a_sig (c : Nat) (m o : List am_T) (b : List Bool) (k : Nat) : Option am_St := if c = 172 then (if 2 ≤ m.length then some (am_bt false :: m.drop 2, o, b, k) else none) else if c = 174 then a_many false m o b k else if c = 175 then a_many true m o b k else none
def am_op (c : Nat) (m o : List am_T) (b : List Bool) (k : Nat) : Option am_St := if c ≤ 96 then a_const c m o b k else if c ≤ 130 then a_arr c m o b k else if c ≤ 136 then a_cmp c m o b k else if c ≤ 146 then a_chg c m o b k else if c ≤ 158 then a_join c m o b k else if c ≤ 164 then a_ord c m o b k else if c = 165 then a_with m o b k else if c ≤ 170 then a_sum c m o b k else a_sig c m o b k
set_option maxHeartbeats 4000000 in
set_option maxRecDepth 100000 in
theorem c_Ma_sum (l : Launch) (E : mp_E) (M : mp_M) (X : Nat → Prop) (L : Nat → Nat) (y n : Nat) (zs m o : List am_T) (b : List Bool) (k : Nat) (c : Nat) (hI : IV E X M L y n zs m o b k) (hL : LY X L) (hc : c < 256) : mp_Cr l m_Ma_sum E M 5 4 66 [.ref (L 0), .int (nI c)] (MP E X M L y n zs (a_sum c m o b k)) := by
  refine mp_Cr.of (by decide) (Nat.le_of_ble_eq_true rfl) fun Γ κ hl hκ => ?_
  subst hl
  obtain ⟨hκd, hκc, hκs, -⟩ := id hκ
  have hlm := hI.sm.le
  have hlo := hI.so.le
  obtain ⟨z0_m, u0_m⟩ := hI.sm.o
  obtain ⟨z0_o, u0_o⟩ := hI.so.o
  show mp_J Γ m_Ma_sum E κ M [(0, .ref (L 0)), (1, .int (nI c))] 0 [] 0 0
  refine j_aload_n d_Ma_sum_0 rfl 0 rfl ?_
  refine j_get F_Ma hI.mo 6 (by decide) w_169 (Or.inl rfl) rfl d_Ma_sum_1 ?_
  refine j_iconst (v := nI 0) d_Ma_sum_4 (by decide) ?_
  refine j_callV (As := [.int (nI 0)]) (rest := []) (k_holds Γ.l hI.sm 0 (by omega)) Y_St_holds w_370 w_371 w_372 u0_m rfl rfl rfl (Nat.le_of_ble_eq_true rfl) (by omega) (by omega) (by omega) d_Ma_sum_5 (fun v5 N5 p5 => ?_)
  obtain ⟨rfl, q5⟩ := p5
  obtain rfl := q5.symm
  show mp_J Γ m_Ma_sum E κ M [(0, .ref (L 0)), (1, .int (nI c))] 8 [.int (tf (decide (0 < m.length)))] 0 0
  refine j_tif_ne 13 d_Ma_sum_8 (by decide) (fun b8 => ?_) (fun b8 => ?_)
  · skip
    have hm0 := of_decide_eq_true b8
    refine j_aload_n d_Ma_sum_13 rfl 0 rfl ?_
    refine j_get F_Ma hI.mo 6 (by decide) w_169 (Or.inl rfl) rfl d_Ma_sum_14 ?_
    refine j_callV (As := []) (rest := []) (i_popd Γ.l (j := 0) hI hL (by omega)) Y_St_pop w_374 w_375 w_376 u0_m rfl rfl rfl (Nat.le_of_ble_eq_true rfl) (by omega) (by omega) (by omega) d_Ma_sum_17 (fun v17 N17 p17 => ?_)
    obtain ⟨t17, rfl, ht17, I17x, f17⟩ := p17
    have I17 : IV E X N17 L y n zs (m.drop 1) o b k := I17x
    obtain ⟨z17_1m, u17_1m⟩ := I17.sm.o
    obtain ⟨z17_1o, u17_1o⟩ := I17.so.o
    obtain ⟨z17_1_t17, u17_1_t17⟩ := ht17.o
    show mp_J Γ m_Ma_sum E κ N17 [(0, .ref (L 0)), (1, .int (nI c))] 20 [.ref t17] 0 0
    obtain ⟨x_t17, b_t17, y_t17, z_t17, c_t17, l_t17⟩ := id ht17
    refine j_getN F_Th z_t17 0 (by decide) w_118 (Or.inl rfl) rfl d_Ma_sum_20 ?_
    refine j_astore_n [(2, .ref b_t17), (0, .ref (L 0)), (1, .int (nI c))] d_Ma_sum_23 rfl (by decide) rfl ?_
    refine j_iload_n d_Ma_sum_24 rfl 2 rfl ?_
    refine j_sipush (v := nI 166) d_Ma_sum_25 (by decide) ?_
    refine j_ncmp_ne 49 c 166 rfl rfl (by omega) (by omega) d_Ma_sum_28 (by decide) (fun b28 => ?_) (fun b28 => ?_)
    · skip
      refine j_aload_n d_Ma_sum_49 rfl 1 rfl ?_
      refine j_get F_Ma I17.mo 0 (by decide) w_163 (Or.inl rfl) rfl d_Ma_sum_50 ?_
      refine j_aload_n d_Ma_sum_53 rfl 0 rfl ?_
      refine j_aload_n d_Ma_sum_54 rfl 0 rfl ?_
      refine j_alen 0 c_t17 rfl d_Ma_sum_55 ?_
      show mp_J Γ m_Ma_sum E κ N17 [(2, .ref b_t17), (0, .ref (L 0)), (1, .int (nI c))] 56 [.int (nI ((m.getD 0 []).length)), .ref b_t17, .ref (L 1)] 0 0
      refine j_callU (As := [.ref b_t17, .int (nI ((m.getD 0 []).length))]) (rest := []) "ScriptDesk$Sum" (i_sha Γ.l I17 hL y_t17 c_t17 l_t17) Y_Su_of w_767 w_769 (Or.inr ⟨w_768, _, _, _, w_772⟩) (by decide) rfl w_768 w_771 I17.su.1 rfl rfl rfl (Nat.le_of_ble_eq_true rfl) (by omega) (by omega) (by omega) d_Ma_sum_56 (fun v56 N56 p56 => ?_)
      obtain ⟨t56, rfl, ht56, I56, f56⟩ := p56
      have ht17_56_2 := ht17.keep f56
      obtain ⟨z56_2m, u56_2m⟩ := I56.sm.o
      obtain ⟨z56_2o, u56_2o⟩ := I56.so.o
      obtain ⟨z56_2_t17, u56_2_t17⟩ := ht17_56_2.o
      obtain ⟨z56_2_t56, u56_2_t56⟩ := ht56.o
      show mp_J Γ m_Ma_sum E κ N56 [(2, .ref b_t17), (0, .ref (L 0)), (1, .int (nI c))] 59 [.ref t56] (0 + 2) (0 + 33)
      refine j_astore_n [(3, .ref t56), (2, .ref b_t17), (0, .ref (L 0)), (1, .int (nI c))] d_Ma_sum_59 rfl (by decide) rfl ?_
      refine j_iload_n d_Ma_sum_60 rfl 3 rfl ?_
      rcases (show c < 168 ∨ 170 < c ∨ c = 168 ∨ c = 169 ∨ c = 170 by omega) with hz9 | hz9 | rfl | rfl | rfl
      · skip
        refine j_tableOut 151 d_Ma_sum_61 (Or.inl (by rw [nI_toInt (by omega)]; omega)) (by decide) ?_
        refine j_iconst (v := nI 0) d_Ma_sum_151 (by decide) ?_
        exact j_zret hκ rfl (by first | exact Or.inl rfl | exact Or.inr rfl) (by omega) (by omega) d_Ma_sum_152 (MP.f I56 (f17.trans f56) (fun s hs => by unfold a_sum at hs; rw [if_neg (fun h => h hm0), if_neg (by omega), if_neg (by omega), if_neg (by omega), if_neg (by omega)] at hs; cases hs))
      · skip
        refine j_tableOut 151 d_Ma_sum_61 (Or.inr (by rw [nI_toInt (by omega)]; omega)) (by decide) ?_
        refine j_iconst (v := nI 0) d_Ma_sum_151 (by decide) ?_
        exact j_zret hκ rfl (by first | exact Or.inl rfl | exact Or.inr rfl) (by omega) (by omega) d_Ma_sum_152 (MP.f I56 (f17.trans f56) (fun s hs => by unfold a_sum at hs; rw [if_neg (fun h => h hm0), if_neg (by omega), if_neg (by omega), if_neg (by omega), if_neg (by omega)] at hs; cases hs))
      · skip
        refine j_tableIn 88 d_Ma_sum_61 (by decide) (by decide) rfl (by decide) ?_
        refine j_aload_n d_Ma_sum_88 rfl 2 rfl ?_
        refine j_get F_Ma I56.mo 6 (by decide) w_169 (Or.inl rfl) rfl d_Ma_sum_89 ?_
        refine j_aload_n d_Ma_sum_92 rfl 0 rfl ?_
        refine j_callV (As := [.ref t56]) (rest := []) (i_push Γ.l I56 hL ht56) Y_St_push w_656 w_657 w_658 u56_2m rfl rfl rfl (Nat.le_of_ble_eq_true rfl) (by omega) (by omega) (by omega) d_Ma_sum_93 (fun v93 N93 p93 => ?_)
        obtain ⟨rfl, I93, f93⟩ := p93
        have ht17_56_2_93_3 := ht17_56_2.keep f93
        have ht56_93_3 := ht56.keep f93
        obtain ⟨z93_3m, u93_3m⟩ := I93.sm.o
        obtain ⟨z93_3o, u93_3o⟩ := I93.so.o
        obtain ⟨z93_3_t17, u93_3_t17⟩ := ht17_56_2_93_3.o
        obtain ⟨z93_3_t56, u93_3_t56⟩ := ht56_93_3.o
        show mp_J Γ m_Ma_sum E κ N93 [(3, .ref t56), (2, .ref b_t17), (0, .ref (L 0)), (1, .int (nI 168))] 96 [.int (tf (decide ((m.drop 1).length < 200)))] (0 + 2) (0 + 33)
        refine j_goto (tgt := 152) d_Ma_sum_96 (by decide) ?_
        exact j_zret hκ rfl (tf_01 _) (by omega) (by omega) d_Ma_sum_152 (MP.push I93 ((f17.trans f56).trans f93) (by unfold a_sum; rw [if_neg (fun h => h hm0), if_neg (by omega), if_pos (by omega)]))
      · skip
        refine j_tableIn 99 d_Ma_sum_61 (by decide) (by decide) rfl (by decide) ?_
        refine j_aload_n d_Ma_sum_99 rfl 2 rfl ?_
        refine j_get F_Ma I56.mo 6 (by decide) w_169 (Or.inl rfl) rfl d_Ma_sum_100 ?_
        refine j_aload_n d_Ma_sum_103 rfl 2 rfl ?_
        refine j_get F_Ma I56.mo 1 (by decide) w_164 (Or.inl rfl) rfl d_Ma_sum_104 ?_
        refine j_aload_n d_Ma_sum_107 rfl 0 rfl ?_
        obtain ⟨x_t56, b_t56, y_t56, z_t56, c_t56, l_t56⟩ := id ht56
        refine j_getN F_Th z_t56 0 (by decide) w_118 (Or.inl rfl) rfl d_Ma_sum_108 ?_
        refine j_aload_n d_Ma_sum_111 rfl 0 rfl ?_
        refine j_getN F_Th z_t56 0 (by decide) w_118 (Or.inl rfl) rfl d_Ma_sum_112 ?_
        refine j_alen 0 c_t56 rfl d_Ma_sum_115 ?_
        show mp_J Γ m_Ma_sum E κ N56 [(3, .ref t56), (2, .ref b_t17), (0, .ref (L 0)), (1, .int (nI 169))] 116 [.int (nI ((am_sha (m.getD 0 [])).length)), .ref b_t56, .ref (L 5), .ref (L 13)] (0 + 2) (0 + 33)
        refine j_callU (As := [.ref b_t56, .int (nI ((am_sha (m.getD 0 [])).length))]) (rest := [.ref (L 13)]) "ScriptDesk$Sum" (i_rip Γ.l I56 hL y_t56 c_t56 l_t56) Y_Su_of w_767 w_769 (Or.inr ⟨w_768, _, _, _, w_772⟩) (by decide) rfl w_768 w_770 I56.su.2.1 rfl rfl rfl (Nat.le_of_ble_eq_true rfl) (by omega) (by omega) (by omega) d_Ma_sum_116 (fun v116 N116 p116 => ?_)
        obtain ⟨t116, rfl, ht116, I116, f116⟩ := p116
        have ht17_56_2_116_4 := ht17_56_2.keep f116
        have ht56_116_4 := ht56.keep f116
        obtain ⟨z116_4m, u116_4m⟩ := I116.sm.o
        obtain ⟨z116_4o, u116_4o⟩ := I116.so.o
        obtain ⟨z116_4_t17, u116_4_t17⟩ := ht17_56_2_116_4.o
        obtain ⟨z116_4_t56, u116_4_t56⟩ := ht56_116_4.o
        obtain ⟨z116_4_t116, u116_4_t116⟩ := ht116.o
        show mp_J Γ m_Ma_sum E κ N116 [(3, .ref t56), (2, .ref b_t17), (0, .ref (L 0)), (1, .int (nI 169))] 119 [.ref t116, .ref (L 13)] (0 + 2 + 2) (0 + 33 + 21)
        refine j_callV (As := [.ref t116]) (rest := []) (i_push Γ.l I116 hL ht116) Y_St_push w_656 w_657 w_658 u116_4m rfl rfl rfl (Nat.le_of_ble_eq_true rfl) (by omega) (by omega) (by omega) d_Ma_sum_119 (fun v119 N119 p119 => ?_)
        obtain ⟨rfl, I119, f119⟩ := p119
        have ht17_56_2_116_4_119_5 := ht17_56_2_116_4.keep f119
        have ht56_116_4_119_5 := ht56_116_4.keep f119
        have ht116_119_5 := ht116.keep f119
        obtain ⟨z119_5m, u119_5m⟩ := I119.sm.o
        obtain ⟨z119_5o, u119_5o⟩ := I119.so.o
        obtain ⟨z119_5_t17, u119_5_t17⟩ := ht17_56_2_116_4_119_5.o
        obtain ⟨z119_5_t56, u119_5_t56⟩ := ht56_116_4_119_5.o
        obtain ⟨z119_5_t116, u119_5_t116⟩ := ht116_119_5.o
        show mp_J Γ m_Ma_sum E κ N119 [(3, .ref t56), (2, .ref b_t17), (0, .ref (L 0)), (1, .int (nI 169))] 122 [.int (tf (decide ((m.drop 1).length < 200)))] (0 + 2 + 2) (0 + 33 + 21)
        refine j_goto (tgt := 152) d_Ma_sum_122 (by decide) ?_
        exact j_zret hκ rfl (tf_01 _) (by omega) (by omega) d_Ma_sum_152 (MP.push I119 (((f17.trans f56).trans f116).trans f119) (by unfold a_sum; rw [if_neg (fun h => h hm0), if_neg (by omega), if_neg (by omega), if_pos (by omega)]))
      · skip
        refine j_tableIn 125 d_Ma_sum_61 (by decide) (by decide) rfl (by decide) ?_
        refine j_aload_n d_Ma_sum_125 rfl 2 rfl ?_
        refine j_get F_Ma I56.mo 6 (by decide) w_169 (Or.inl rfl) rfl d_Ma_sum_126 ?_
        refine j_aload_n d_Ma_sum_129 rfl 2 rfl ?_
        refine j_get F_Ma I56.mo 0 (by decide) w_163 (Or.inl rfl) rfl d_Ma_sum_130 ?_
        refine j_aload_n d_Ma_sum_133 rfl 0 rfl ?_
        obtain ⟨x_t56, b_t56, y_t56, z_t56, c_t56, l_t56⟩ := id ht56
        refine j_getN F_Th z_t56 0 (by decide) w_118 (Or.inl rfl) rfl d_Ma_sum_134 ?_
        refine j_aload_n d_Ma_sum_137 rfl 0 rfl ?_
        refine j_getN F_Th z_t56 0 (by decide) w_118 (Or.inl rfl) rfl d_Ma_sum_138 ?_
        refine j_alen 0 c_t56 rfl d_Ma_sum_141 ?_
        show mp_J Γ m_Ma_sum E κ N56 [(3, .ref t56), (2, .ref b_t17), (0, .ref (L 0)), (1, .int (nI 170))] 142 [.int (nI ((am_sha (m.getD 0 [])).length)), .ref b_t56, .ref (L 1), .ref (L 13)] (0 + 2) (0 + 33)
        refine j_callU (As := [.ref b_t56, .int (nI ((am_sha (m.getD 0 [])).length))]) (rest := [.ref (L 13)]) "ScriptDesk$Sum" (i_sha Γ.l I56 hL y_t56 c_t56 l_t56) Y_Su_of w_767 w_769 (Or.inr ⟨w_768, _, _, _, w_772⟩) (by decide) rfl w_768 w_771 I56.su.1 rfl rfl rfl (Nat.le_of_ble_eq_true rfl) (by omega) (by omega) (by omega) d_Ma_sum_142 (fun v142 N142 p142 => ?_)
        obtain ⟨t142, rfl, ht142, I142, f142⟩ := p142
        have ht17_56_2_142_6 := ht17_56_2.keep f142
        have ht56_142_6 := ht56.keep f142
        obtain ⟨z142_6m, u142_6m⟩ := I142.sm.o
        obtain ⟨z142_6o, u142_6o⟩ := I142.so.o
        obtain ⟨z142_6_t17, u142_6_t17⟩ := ht17_56_2_142_6.o
        obtain ⟨z142_6_t56, u142_6_t56⟩ := ht56_142_6.o
        obtain ⟨z142_6_t142, u142_6_t142⟩ := ht142.o
        show mp_J Γ m_Ma_sum E κ N142 [(3, .ref t56), (2, .ref b_t17), (0, .ref (L 0)), (1, .int (nI 170))] 145 [.ref t142, .ref (L 13)] (0 + 2 + 2) (0 + 33 + 33)
        refine j_callV (As := [.ref t142]) (rest := []) (i_push Γ.l I142 hL ht142) Y_St_push w_656 w_657 w_658 u142_6m rfl rfl rfl (Nat.le_of_ble_eq_true rfl) (by omega) (by omega) (by omega) d_Ma_sum_145 (fun v145 N145 p145 => ?_)
        obtain ⟨rfl, I145, f145⟩ := p145
        have ht17_56_2_142_6_145_7 := ht17_56_2_142_6.keep f145
        have ht56_142_6_145_7 := ht56_142_6.keep f145
        have ht142_145_7 := ht142.keep f145
        obtain ⟨z145_7m, u145_7m⟩ := I145.sm.o
        obtain ⟨z145_7o, u145_7o⟩ := I145.so.o
        obtain ⟨z145_7_t17, u145_7_t17⟩ := ht17_56_2_142_6_145_7.o
        obtain ⟨z145_7_t56, u145_7_t56⟩ := ht56_142_6_145_7.o
        obtain ⟨z145_7_t142, u145_7_t142⟩ := ht142_145_7.o
        show mp_J Γ m_Ma_sum E κ N145 [(3, .ref t56), (2, .ref b_t17), (0, .ref (L 0)), (1, .int (nI 170))] 148 [.int (tf (decide ((m.drop 1).length < 200)))] (0 + 2 + 2) (0 + 33 + 33)
        refine j_goto (tgt := 152) d_Ma_sum_148 (by decide) ?_
        exact j_zret hκ rfl (tf_01 _) (by omega) (by omega) d_Ma_sum_152 (MP.push I145 (((f17.trans f56).trans f142).trans f145) (by unfold a_sum; rw [if_neg (fun h => h hm0), if_neg (by omega), if_neg (by omega), if_neg (by omega), if_pos (by omega)]))
    · skip
      refine j_aload_n d_Ma_sum_31 rfl 1 rfl ?_
      refine j_get F_Ma I17.mo 6 (by decide) w_169 (Or.inl rfl) rfl d_Ma_sum_32 ?_
      refine j_aload_n d_Ma_sum_35 rfl 1 rfl ?_
      refine j_get F_Ma I17.mo 1 (by decide) w_164 (Or.inl rfl) rfl d_Ma_sum_36 ?_
      refine j_aload_n d_Ma_sum_39 rfl 0 rfl ?_
      refine j_aload_n d_Ma_sum_40 rfl 0 rfl ?_
      refine j_alen 0 c_t17 rfl d_Ma_sum_41 ?_
      show mp_J Γ m_Ma_sum E κ N17 [(2, .ref b_t17), (0, .ref (L 0)), (1, .int (nI c))] 42 [.int (nI ((m.getD 0 []).length)), .ref b_t17, .ref (L 5), .ref (L 13)] 0 0
      refine j_callU (As := [.ref b_t17, .int (nI ((m.getD 0 []).length))]) (rest := [.ref (L 13)]) "ScriptDesk$Sum" (i_rip Γ.l I17 hL y_t17 c_t17 l_t17) Y_Su_of w_767 w_769 (Or.inr ⟨w_768, _, _, _, w_772⟩) (by decide) rfl w_768 w_770 I17.su.2.1 rfl rfl rfl (Nat.le_of_ble_eq_true rfl) (by omega) (by omega) (by omega) d_Ma_sum_42 (fun v42 N42 p42 => ?_)
      obtain ⟨t42, rfl, ht42, I42, f42⟩ := p42
      have ht17_42_8 := ht17.keep f42
      obtain ⟨z42_8m, u42_8m⟩ := I42.sm.o
      obtain ⟨z42_8o, u42_8o⟩ := I42.so.o
      obtain ⟨z42_8_t17, u42_8_t17⟩ := ht17_42_8.o
      obtain ⟨z42_8_t42, u42_8_t42⟩ := ht42.o
      show mp_J Γ m_Ma_sum E κ N42 [(2, .ref b_t17), (0, .ref (L 0)), (1, .int (nI c))] 45 [.ref t42, .ref (L 13)] (0 + 2) (0 + 21)
      refine j_callV (As := [.ref t42]) (rest := []) (i_push Γ.l I42 hL ht42) Y_St_push w_656 w_657 w_658 u42_8m rfl rfl rfl (Nat.le_of_ble_eq_true rfl) (by omega) (by omega) (by omega) d_Ma_sum_45 (fun v45 N45 p45 => ?_)
      obtain ⟨rfl, I45, f45⟩ := p45
      have ht17_42_8_45_9 := ht17_42_8.keep f45
      have ht42_45_9 := ht42.keep f45
      obtain ⟨z45_9m, u45_9m⟩ := I45.sm.o
      obtain ⟨z45_9o, u45_9o⟩ := I45.so.o
      obtain ⟨z45_9_t17, u45_9_t17⟩ := ht17_42_8_45_9.o
      obtain ⟨z45_9_t42, u45_9_t42⟩ := ht42_45_9.o
      show mp_J Γ m_Ma_sum E κ N45 [(2, .ref b_t17), (0, .ref (L 0)), (1, .int (nI c))] 48 [.int (tf (decide ((m.drop 1).length < 200)))] (0 + 2) (0 + 21)
      exact j_zret hκ rfl (tf_01 _) (by omega) (by omega) d_Ma_sum_48 (MP.push I45 ((f17.trans f42).trans f45) (by unfold a_sum; rw [if_neg (fun h => h hm0), if_pos b28]))
  · skip
    refine j_iconst (v := nI 0) d_Ma_sum_11 (by decide) ?_
    exact j_zret hκ rfl (by first | exact Or.inl rfl | exact Or.inr rfl) (by omega) (by omega) d_Ma_sum_12 (MP.f hI mp_Fr.refl (fun s hs => by unfold a_sum at hs; rw [if_pos (of_decide_eq_false b8)] at hs; cases hs))
