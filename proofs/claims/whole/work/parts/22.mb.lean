theorem MP.k {E : mp_E} {X : Nat → Prop} {M N : mp_M} {L : Nat → Nat} {y n k : Nat} {zs m o : List am_T} {b : List Bool} {w : Bool} {r r' : Option am_St} (T : w = true → r' = some (m, o, b, k)) (F : w = false → ∀ s, r' = some s → 200 < s.1.length + s.2.1.length) (h : IV E X N L y n zs m o b k) (fr : mp_Fr X M N) (e : r = r') : MP E X M L y n zs r (some (.int (tf w))) N := by
  subst e
  exact ⟨w, m, o, b, k, rfl, h, fr, T, F⟩
theorem MP.kt {E : mp_E} {X : Nat → Prop} {M N : mp_M} {L : Nat → Nat} {y n k : Nat} {zs m o : List am_T} {b : List Bool} {w : Bool} {r r' : Option am_St} (T : w = true → r' = some (m, o, b, k)) (h : IV E X N L y n zs m o b k) (fr : mp_Fr X M N) (hw : w = true) (e : r = r') : MP E X M L y n zs r (some (.int (nI 1))) N := MP.t h fr (e.trans (T hw))
theorem MP.kf {E : mp_E} {X : Nat → Prop} {M N : mp_M} {L : Nat → Nat} {y n k : Nat} {zs m o : List am_T} {b : List Bool} {w : Bool} {r r' : Option am_St} (F : w = false → ∀ s, r' = some s → 200 < s.1.length + s.2.1.length) (h : IV E X N L y n zs m o b k) (fr : mp_Fr X M N) (hw : w = false) (e : r = r') : MP E X M L y n zs r (some (.int (nI 0))) N := MP.f h fr (fun s hs => F hw s (e.symm.trans hs))
theorem am_er {m : List am_T} (h : 2 ≤ m.length) (h' : m.length ≤ 200) : (m.eraseIdx 1).length < 200 := by
  rw [List.length_eraseIdx, if_pos (by omega)]; omega
def a_fetch (aw : Bool) (m o : List am_T) (b : List Bool) (k : Nat) : Option am_St := match am_cnt m 0 (m.length - 2) with
  | none => none
  | some j => some ((m.drop 1).getD j [] :: (if aw then (m.drop 1).eraseIdx j else m.drop 1), o, b, k)
def a_const (c : Nat) (m o : List am_T) (b : List Bool) (k : Nat) : Option am_St := if c = 79 then some (am_of (-1) :: m, o, b, k) else if 81 ≤ c then some (am_of (lN (c - 81 + 1)) :: m, o, b, k) else none
def a_cmp (c : Nat) (m o : List am_T) (b : List Bool) (k : Nat) : Option am_St := if ¬ 2 ≤ m.length then none else if c = 135 then some (am_of (if decide (m.getD 0 [] = m.getD 1 []) then 1 else 0) :: m.drop 2, o, b, k) else if c = 136 then (if decide (m.getD 0 [] = m.getD 1 []) then some (m.drop 2, o, b, k) else none) else none
abbrev am_ns (m : List am_T) (j : Nat) : Prop := j ≤ m.length ∧ ∀ p, p < j → (m.getD p []).length ≤ 4
def am_bt (w : Bool) : am_T := am_of (if w then 1 else 0)
def a_chg (c : Nat) (m o : List am_T) (b : List Bool) (k : Nat) : Option am_St := if ¬ am_ns m 1 then none
  else if c = 139 then some (am_of (am_num (m.getD 0 []) + 1) :: m.drop 1, o, b, k)
  else if c = 140 then some (am_of (am_num (m.getD 0 []) - 1) :: m.drop 1, o, b, k)
  else if c = 143 then some (am_of (-am_num (m.getD 0 [])) :: m.drop 1, o, b, k)
  else if c = 144 then some (am_of (if 0 < am_num (m.getD 0 []) then am_num (m.getD 0 []) else -am_num (m.getD 0 [])) :: m.drop 1, o, b, k)
  else if c = 145 then some (am_bt (decide (am_num (m.getD 0 []) = 0)) :: m.drop 1, o, b, k)
  else if c = 146 then some (am_bt (decide (am_num (m.getD 0 []) ≠ 0)) :: m.drop 1, o, b, k) else none
def a_join (c : Nat) (m o : List am_T) (b : List Bool) (k : Nat) : Option am_St := if ¬ am_ns m 2 then none
  else if c = 147 then some (am_of (am_num (m.getD 1 []) + am_num (m.getD 0 [])) :: m.drop 2, o, b, k)
  else if c = 148 then some (am_of (am_num (m.getD 1 []) - am_num (m.getD 0 [])) :: m.drop 2, o, b, k)
  else if c = 154 then some (am_bt (decide (am_num (m.getD 1 []) ≠ 0 ∧ am_num (m.getD 0 []) ≠ 0)) :: m.drop 2, o, b, k)
  else if c = 155 then some (am_bt (decide (am_num (m.getD 1 []) ≠ 0 ∨ am_num (m.getD 0 []) ≠ 0)) :: m.drop 2, o, b, k)
  else if c = 156 then some (am_bt (decide (am_num (m.getD 1 []) = am_num (m.getD 0 []))) :: m.drop 2, o, b, k)
  else if c = 157 then (if am_num (m.getD 1 []) = am_num (m.getD 0 []) then some (m.drop 2, o, b, k) else none)
  else if c = 158 then some (am_bt (decide (am_num (m.getD 1 []) ≠ am_num (m.getD 0 []))) :: m.drop 2, o, b, k) else none
def a_ord (c : Nat) (m o : List am_T) (b : List Bool) (k : Nat) : Option am_St := if ¬ am_ns m 2 then none
  else if c = 159 then some (am_bt (decide (am_num (m.getD 1 []) < am_num (m.getD 0 []))) :: m.drop 2, o, b, k)
  else if c = 160 then some (am_bt (decide (am_num (m.getD 0 []) < am_num (m.getD 1 []))) :: m.drop 2, o, b, k)
  else if c = 161 then some (am_bt (decide (am_num (m.getD 1 []) ≤ am_num (m.getD 0 []))) :: m.drop 2, o, b, k)
  else if c = 162 then some (am_bt (decide (am_num (m.getD 0 []) ≤ am_num (m.getD 1 []))) :: m.drop 2, o, b, k)
  else if c = 163 then some (am_of (if am_num (m.getD 0 []) < am_num (m.getD 1 []) then am_num (m.getD 0 []) else am_num (m.getD 1 [])) :: m.drop 2, o, b, k)
  else if c = 164 then some (am_of (if am_num (m.getD 0 []) < am_num (m.getD 1 []) then am_num (m.getD 1 []) else am_num (m.getD 0 [])) :: m.drop 2, o, b, k) else none
def a_with (m o : List am_T) (b : List Bool) (k : Nat) : Option am_St := if ¬ am_ns m 3 then none
  else some (am_bt (decide (am_num (m.getD 1 []) ≤ am_num (m.getD 2 []) ∧ am_num (m.getD 2 []) < am_num (m.getD 0 []))) :: m.drop 3, o, b, k)
set_option maxHeartbeats 4000000 in
set_option maxRecDepth 100000 in
theorem c_Ma_tuck (l : Launch) (E : mp_E) (M : mp_M) (X : Nat → Prop) (L : Nat → Nat) (y n : Nat) (zs m o : List am_T) (b : List Bool) (k : Nat)  (hI : IV E X M L y n zs m o b k) (hL : LY X L) (hm : 2 ≤ m.length) : mp_Cr l m_Ma_tuck E M 4 0 0 [.ref (L 0)] (MP E X M L y n zs (some (m.getD 0 [] :: m.getD 1 [] :: m.eraseIdx 1, o, b, k))) := by
  refine mp_Cr.of (by decide) (Nat.le_of_ble_eq_true rfl) fun Γ κ hl hκ => ?_
  subst hl
  obtain ⟨hκd, hκc, hκs, -⟩ := id hκ
  have hlm := hI.sm.le
  have hlo := hI.so.le
  obtain ⟨z0_m, u0_m⟩ := hI.sm.o
  obtain ⟨z0_o, u0_o⟩ := hI.so.o
  have hlen := am_er hm hlm
  show mp_J Γ m_Ma_tuck E κ M [(0, .ref (L 0))] 0 [] 0 0
  refine j_aload_n d_Ma_tuck_0 rfl 0 rfl ?_
  refine j_get F_Ma hI.mo 6 (by decide) w_169 (Or.inl rfl) rfl d_Ma_tuck_1 ?_
  refine j_iconst (v := nI 0) d_Ma_tuck_4 (by decide) ?_
  refine j_callV (As := [.int (nI 0)]) (rest := []) (i_peek Γ.l hI 0 (by omega)) Y_St_peek w_685 w_686 w_687 u0_m rfl rfl rfl (Nat.le_of_ble_eq_true rfl) (by omega) (by omega) (by omega) d_Ma_tuck_5 (fun v5 N5 p5 => ?_)
  obtain ⟨q5, t5, rfl, ht5⟩ := p5
  obtain rfl := q5.symm
  obtain ⟨zt5, ut5⟩ := ht5.o
  show mp_J Γ m_Ma_tuck E κ M [(0, .ref (L 0))] 8 [.ref t5] 0 0
  refine j_astore_n [(1, .ref t5), (0, .ref (L 0))] d_Ma_tuck_8 rfl (by decide) rfl ?_
  refine j_aload_n d_Ma_tuck_9 rfl 1 rfl ?_
  refine j_get F_Ma hI.mo 6 (by decide) w_169 (Or.inl rfl) rfl d_Ma_tuck_10 ?_
  refine j_aload_n d_Ma_tuck_13 rfl 1 rfl ?_
  refine j_get F_Ma hI.mo 6 (by decide) w_169 (Or.inl rfl) rfl d_Ma_tuck_14 ?_
  refine j_iconst (v := nI 1) d_Ma_tuck_17 (by decide) ?_
  refine j_callV (As := [.int (nI 1)]) (rest := [.ref (L 13)]) (i_take Γ.l hI hL 1 (by omega)) Y_St_take w_694 w_695 w_696 u0_m rfl rfl rfl (Nat.le_of_ble_eq_true rfl) (by omega) (by omega) (by omega) d_Ma_tuck_18 (fun v18 N18 p18 => ?_)
  obtain ⟨t18, rfl, ht18, I18, f18⟩ := p18
  have ht5_18_1 := ht5.keep f18
  obtain ⟨z18_1m, u18_1m⟩ := I18.sm.o
  obtain ⟨z18_1o, u18_1o⟩ := I18.so.o
  obtain ⟨z18_1_t5, u18_1_t5⟩ := ht5_18_1.o
  obtain ⟨z18_1_t18, u18_1_t18⟩ := ht18.o
  show mp_J Γ m_Ma_tuck E κ N18 [(1, .ref t5), (0, .ref (L 0))] 21 [.ref t18, .ref (L 13)] 0 0
  refine j_callV (As := [.ref t18]) (rest := []) (i_push Γ.l I18 hL ht18) Y_St_push w_656 w_657 w_658 u18_1m rfl rfl rfl (Nat.le_of_ble_eq_true rfl) (by omega) (by omega) (by omega) d_Ma_tuck_21 (fun v21 N21 p21 => ?_)
  obtain ⟨rfl, I21, f21⟩ := p21
  have ht5_18_1_21_2 := ht5_18_1.keep f21
  have ht18_21_2 := ht18.keep f21
  obtain ⟨z21_2m, u21_2m⟩ := I21.sm.o
  obtain ⟨z21_2o, u21_2o⟩ := I21.so.o
  obtain ⟨z21_2_t5, u21_2_t5⟩ := ht5_18_1_21_2.o
  obtain ⟨z21_2_t18, u21_2_t18⟩ := ht18_21_2.o
  show mp_J Γ m_Ma_tuck E κ N21 [(1, .ref t5), (0, .ref (L 0))] 24 [.int (tf (decide ((m.eraseIdx 1).length < 200)))] 0 0
  refine j_tif_eq 42 d_Ma_tuck_24 (by decide) (fun b24 => absurd hlen (of_decide_eq_false b24)) (fun b24 => ?_)
  rw [if_pos hlen] at I21
  refine j_aload_n d_Ma_tuck_27 rfl 1 rfl ?_
  refine j_get F_Ma I21.mo 6 (by decide) w_169 (Or.inl rfl) rfl d_Ma_tuck_28 ?_
  refine j_aload_n d_Ma_tuck_31 rfl 0 rfl ?_
  refine j_callV (As := [.ref t5]) (rest := []) (i_push Γ.l I21 hL ht5_18_1_21_2) Y_St_push w_656 w_657 w_658 u21_2m rfl rfl rfl (Nat.le_of_ble_eq_true rfl) (by omega) (by omega) (by omega) d_Ma_tuck_32 (fun v32 N32 p32 => ?_)
  obtain ⟨rfl, I32, f32⟩ := p32
  have ht5_18_1_21_2_32_3 := ht5_18_1_21_2.keep f32
  have ht18_21_2_32_3 := ht18_21_2.keep f32
  obtain ⟨z32_3m, u32_3m⟩ := I32.sm.o
  obtain ⟨z32_3o, u32_3o⟩ := I32.so.o
  obtain ⟨z32_3_t5, u32_3_t5⟩ := ht5_18_1_21_2_32_3.o
  obtain ⟨z32_3_t18, u32_3_t18⟩ := ht18_21_2_32_3.o
  show mp_J Γ m_Ma_tuck E κ N32 [(1, .ref t5), (0, .ref (L 0))] 35 [.int (tf (decide ((m.getD 1 [] :: m.eraseIdx 1).length < 200)))] 0 0
  refine j_tif_eq 42 d_Ma_tuck_35 (by decide) (fun b35 => ?_) (fun b35 => ?_)
  · skip
    refine j_iconst (v := nI 0) d_Ma_tuck_42 (by decide) ?_
    exact j_zret hκ rfl (by first | exact Or.inl rfl | exact Or.inr rfl) (by omega) (by omega) d_Ma_tuck_43 (MP.f I32 ((f18.trans f21).trans f32) (fun s hs => by cases hs; have h9 := of_decide_eq_false b35; simp only [List.length_cons] at h9 ⊢; omega))
  · skip
    refine j_iconst (v := nI 1) d_Ma_tuck_38 (by decide) ?_
    refine j_goto (tgt := 43) d_Ma_tuck_39 (by decide) ?_
    exact j_zret hκ rfl (by first | exact Or.inl rfl | exact Or.inr rfl) (by omega) (by omega) d_Ma_tuck_43 (MP.t I32 ((f18.trans f21).trans f32) (by rw [if_pos (of_decide_eq_true b35)]))

set_option maxHeartbeats 4000000 in
set_option maxRecDepth 100000 in
theorem c_Ma_fetch (l : Launch) (E : mp_E) (M : mp_M) (X : Nat → Prop) (L : Nat → Nat) (y n : Nat) (zs m o : List am_T) (b : List Bool) (k : Nat) (aw : Bool) (hI : IV E X M L y n zs m o b k) (hL : LY X L) (hm : 2 ≤ m.length) : mp_Cr l m_Ma_fetch E M 5 0 0 [.ref (L 0), .int (tf aw)] (MP E X M L y n zs (a_fetch aw m o b k)) := by
  refine mp_Cr.of (by decide) (Nat.le_of_ble_eq_true rfl) fun Γ κ hl hκ => ?_
  subst hl
  obtain ⟨hκd, hκc, hκs, -⟩ := id hκ
  have hlm := hI.sm.le
  have hlo := hI.so.le
  obtain ⟨z0_m, u0_m⟩ := hI.sm.o
  obtain ⟨z0_o, u0_o⟩ := hI.so.o
  have hd1 : (m.drop 1).length = m.length - 1 := by simp
  show mp_J Γ m_Ma_fetch E κ M [(0, .ref (L 0)), (1, .int (tf aw))] 0 [] 0 0
  refine j_aload_n d_Ma_fetch_0 rfl 0 rfl ?_
  refine j_iconst (v := nI 0) d_Ma_fetch_1 (by decide) ?_
  refine j_aload_n d_Ma_fetch_2 rfl 0 rfl ?_
  refine j_get F_Ma hI.mo 6 (by decide) w_169 (Or.inl rfl) rfl d_Ma_fetch_3 ?_
  refine j_callV (As := []) (rest := [.int (nI 0), .ref (L 0)]) (k_count Γ.l hI.sm) Y_St_count w_677 w_214 w_215 u0_m rfl rfl rfl (Nat.le_of_ble_eq_true rfl) (by omega) (by omega) (by omega) d_Ma_fetch_6 (fun v6 N6 p6 => ?_)
  obtain ⟨rfl, q6⟩ := p6
  obtain rfl := q6.symm
  show mp_J Γ m_Ma_fetch E κ M [(0, .ref (L 0)), (1, .int (tf aw))] 9 [.int (nI m.length), .int (nI 0), .ref (L 0)] 0 0
  refine j_iconst (v := nI 2) d_Ma_fetch_9 (by decide) ?_
  refine j_isub d_Ma_fetch_10 ?_
  refine j_eqi (y := nI (m.length - 2)) (pk_sub (by omega)) ?_
  refine j_callV (As := [.int (nI 0), .int (nI (m.length - 2))]) (rest := []) (c_Ma_countAt Γ.l E M X L y n zs m o b k 0 (m.length - 2) hI hL (by omega) (by omega)) Y_Ma_countAt w_703 w_705 ws_13 hI.mo rfl rfl rfl (Nat.le_of_ble_eq_true rfl) (by omega) (by omega) (by omega) d_Ma_fetch_11 (fun v11 N11 p11 => ?_)
  obtain ⟨rfl, q11⟩ := p11
  obtain rfl := q11.symm
  show mp_J Γ m_Ma_fetch E κ M [(0, .ref (L 0)), (1, .int (tf aw))] 14 [.int (am_cI (am_cnt m 0 (m.length - 2)))] 0 0
  rcases hc : am_cnt m 0 (m.length - 2) with _ | j
  · skip
    refine j_eqi (y := (-1)) rfl ?_
    refine j_istore_n [(2, .int (-1)), (0, .ref (L 0)), (1, .int (tf aw))] d_Ma_fetch_14 rfl (by decide) rfl ?_
    refine j_iload_n d_Ma_fetch_15 rfl 0 rfl ?_
    refine j_if_ge 21 d_Ma_fetch_16 (by decide) (fun b16 => absurd b16 (by decide)) (fun b16 => ?_)
    refine j_iconst (v := nI 0) d_Ma_fetch_19 (by decide) ?_
    exact j_zret hκ rfl (by first | exact Or.inl rfl | exact Or.inr rfl) (by omega) (by omega) d_Ma_fetch_20 (MP.f hI mp_Fr.refl (fun s hs => by unfold a_fetch at hs; rw [hc] at hs; cases hs))
  · skip
    refine j_eqi (y := nI j) rfl ?_
    have hj := am_cnt_le (by omega) hc
    refine j_istore_n [(2, .int (nI j)), (0, .ref (L 0)), (1, .int (tf aw))] d_Ma_fetch_14 rfl (by decide) rfl ?_
    refine j_iload_n d_Ma_fetch_15 rfl 0 rfl ?_
    refine j_nif_ge 21 j rfl (by omega) d_Ma_fetch_16 (by decide) (fun b16 => ?_) (fun b16 => (by first | exact b16.elim | exact absurd b16 (by omega)))
    refine j_aload_n d_Ma_fetch_21 rfl 1 rfl ?_
    refine j_get F_Ma hI.mo 6 (by decide) w_169 (Or.inl rfl) rfl d_Ma_fetch_22 ?_
    refine j_callV (As := []) (rest := []) (i_popd Γ.l (j := 0) hI hL (by omega)) Y_St_pop w_374 w_375 w_376 u0_m rfl rfl rfl (Nat.le_of_ble_eq_true rfl) (by omega) (by omega) (by omega) d_Ma_fetch_25 (fun v25 N25 p25 => ?_)
    obtain ⟨t25, rfl, ht25, I25x, f25⟩ := p25
    have I25 : IV E X N25 L y n zs (m.drop 1) o b k := I25x
    obtain ⟨z25_1m, u25_1m⟩ := I25.sm.o
    obtain ⟨z25_1o, u25_1o⟩ := I25.so.o
    obtain ⟨z25_1_t25, u25_1_t25⟩ := ht25.o
    show mp_J Γ m_Ma_fetch E κ N25 [(2, .int (nI j)), (0, .ref (L 0)), (1, .int (tf aw))] 28 [.ref t25] 0 0
    refine j_pop d_Ma_fetch_28 rfl ?_
    refine j_aload_n d_Ma_fetch_29 rfl 1 rfl ?_
    refine j_get F_Ma I25.mo 6 (by decide) w_169 (Or.inl rfl) rfl d_Ma_fetch_30 ?_
    refine j_iload_n d_Ma_fetch_33 rfl 2 rfl ?_
    refine j_tif_eq 48 d_Ma_fetch_34 (by decide) (fun b34 => ?_) (fun b34 => ?_)
    · skip
      refine j_aload_n d_Ma_fetch_48 rfl 1 rfl ?_
      refine j_get F_Ma I25.mo 6 (by decide) w_169 (Or.inl rfl) rfl d_Ma_fetch_49 ?_
      refine j_iload_n d_Ma_fetch_52 rfl 0 rfl ?_
      refine j_callV (As := [.int (nI j)]) (rest := [.ref (L 13)]) (i_peek Γ.l I25 j (by omega)) Y_St_peek w_685 w_686 w_687 u25_1m rfl rfl rfl (Nat.le_of_ble_eq_true rfl) (by omega) (by omega) (by omega) d_Ma_fetch_53 (fun v53 N53 p53 => ?_)
      obtain ⟨q53, t53, rfl, ht53⟩ := p53
      obtain rfl := q53.symm
      obtain ⟨zt53, ut53⟩ := ht53.o
      show mp_J Γ m_Ma_fetch E κ N25 [(2, .int (nI j)), (0, .ref (L 0)), (1, .int (tf aw))] 56 [.ref t53, .ref (L 13)] 0 0
      refine j_callV (As := [.ref t53]) (rest := []) (i_push Γ.l I25 hL ht53) Y_St_push w_656 w_657 w_658 u25_1m rfl rfl rfl (Nat.le_of_ble_eq_true rfl) (by omega) (by omega) (by omega) d_Ma_fetch_56 (fun v56 N56 p56 => ?_)
      obtain ⟨rfl, I56, f56⟩ := p56
      have ht25_56_2 := ht25.keep f56
      have ht53_56_2 := ht53.keep f56
      obtain ⟨z56_2m, u56_2m⟩ := I56.sm.o
      obtain ⟨z56_2o, u56_2o⟩ := I56.so.o
      obtain ⟨z56_2_t25, u56_2_t25⟩ := ht25_56_2.o
      obtain ⟨z56_2_t53, u56_2_t53⟩ := ht53_56_2.o
      show mp_J Γ m_Ma_fetch E κ N56 [(2, .int (nI j)), (0, .ref (L 0)), (1, .int (tf aw))] 59 [.int (tf (decide ((m.drop 1).length < 200)))] 0 0
      exact j_zret hκ rfl (tf_01 _) (by omega) (by omega) d_Ma_fetch_59 (MP.push I56 (f25.trans f56) (by unfold a_fetch; rw [hc, b34]; rfl))
    · skip
      refine j_aload_n d_Ma_fetch_37 rfl 1 rfl ?_
      refine j_get F_Ma I25.mo 6 (by decide) w_169 (Or.inl rfl) rfl d_Ma_fetch_38 ?_
      refine j_iload_n d_Ma_fetch_41 rfl 0 rfl ?_
      refine j_callV (As := [.int (nI j)]) (rest := [.ref (L 13)]) (i_take Γ.l I25 hL j (by omega)) Y_St_take w_694 w_695 w_696 u25_1m rfl rfl rfl (Nat.le_of_ble_eq_true rfl) (by omega) (by omega) (by omega) d_Ma_fetch_42 (fun v42 N42 p42 => ?_)
      obtain ⟨t42, rfl, ht42, I42, f42⟩ := p42
      have ht25_42_3 := ht25.keep f42
      obtain ⟨z42_3m, u42_3m⟩ := I42.sm.o
      obtain ⟨z42_3o, u42_3o⟩ := I42.so.o
      obtain ⟨z42_3_t25, u42_3_t25⟩ := ht25_42_3.o
      obtain ⟨z42_3_t42, u42_3_t42⟩ := ht42.o
      show mp_J Γ m_Ma_fetch E κ N42 [(2, .int (nI j)), (0, .ref (L 0)), (1, .int (tf aw))] 45 [.ref t42, .ref (L 13)] 0 0
      refine j_goto (tgt := 56) d_Ma_fetch_45 (by decide) ?_
      refine j_callV (As := [.ref t42]) (rest := []) (i_push Γ.l I42 hL ht42) Y_St_push w_656 w_657 w_658 u42_3m rfl rfl rfl (Nat.le_of_ble_eq_true rfl) (by omega) (by omega) (by omega) d_Ma_fetch_56 (fun v56 N56 p56 => ?_)
      obtain ⟨rfl, I56, f56⟩ := p56
      have ht25_42_3_56_4 := ht25_42_3.keep f56
      have ht42_56_4 := ht42.keep f56
      obtain ⟨z56_4m, u56_4m⟩ := I56.sm.o
      obtain ⟨z56_4o, u56_4o⟩ := I56.so.o
      obtain ⟨z56_4_t25, u56_4_t25⟩ := ht25_42_3_56_4.o
      obtain ⟨z56_4_t42, u56_4_t42⟩ := ht42_56_4.o
      show mp_J Γ m_Ma_fetch E κ N56 [(2, .int (nI j)), (0, .ref (L 0)), (1, .int (tf aw))] 59 [.int (tf (decide (((m.drop 1).eraseIdx j).length < 200)))] 0 0
      exact j_zret hκ rfl (tf_01 _) (by omega) (by omega) d_Ma_fetch_59 (MP.push I56 ((f25.trans f42).trans f56) (by unfold a_fetch; rw [hc, b34]; rfl))

set_option maxHeartbeats 4000000 in
set_option maxRecDepth 100000 in
theorem c_Ma_constant (l : Launch) (E : mp_E) (M : mp_M) (X : Nat → Prop) (L : Nat → Nat) (y n : Nat) (zs m o : List am_T) (b : List Bool) (k : Nat) (c : Nat) (hI : IV E X M L y n zs m o b k) (hL : LY X L) (hc : c ≤ 96) : mp_Cr l m_Ma_constant E M 6 2 8 [.ref (L 0), .int (nI c)] (MP E X M L y n zs (a_const c m o b k)) := by
  refine mp_Cr.of (by decide) (Nat.le_of_ble_eq_true rfl) fun Γ κ hl hκ => ?_
  subst hl
  obtain ⟨hκd, hκc, hκs, -⟩ := id hκ
  have hlm := hI.sm.le
  have hlo := hI.so.le
  obtain ⟨z0_m, u0_m⟩ := hI.sm.o
  obtain ⟨z0_o, u0_o⟩ := hI.so.o
  show mp_J Γ m_Ma_constant E κ M [(0, .ref (L 0)), (1, .int (nI c))] 0 [] 0 0
  refine j_iload_n d_Ma_constant_0 rfl 1 rfl ?_
  refine j_bipush (v := nI 79) d_Ma_constant_1 (by decide) ?_
  refine j_ncmp_ne 14 c 79 rfl rfl (by omega) (by omega) d_Ma_constant_3 (by decide) (fun b3 => ?_) (fun b3 => ?_)
  · skip
    refine j_iload_n d_Ma_constant_14 rfl 1 rfl ?_
    refine j_bipush (v := nI 81) d_Ma_constant_15 (by decide) ?_
    refine j_ncmp_lt 38 c 81 rfl rfl (by omega) (by omega) d_Ma_constant_17 (by decide) (fun b17 => ?_) (fun b17 => ?_)
    · skip
      refine j_iconst (v := nI 0) d_Ma_constant_38 (by decide) ?_
      exact j_zret hκ rfl (by first | exact Or.inl rfl | exact Or.inr rfl) (by omega) (by omega) d_Ma_constant_39 (MP.f hI mp_Fr.refl (fun s hs => by unfold a_const at hs; rw [if_neg b3, if_neg (by omega)] at hs; cases hs))
    · skip
      refine j_aload_n d_Ma_constant_20 rfl 0 rfl ?_
      refine j_iload_n d_Ma_constant_21 rfl 1 rfl ?_
      refine j_bipush (v := nI 81) d_Ma_constant_22 (by decide) ?_
      refine j_isub d_Ma_constant_24 ?_
      refine j_eqi (y := nI (c - 81)) (pk_sub (by omega)) ?_
      refine j_iconst (v := nI 1) d_Ma_constant_25 (by decide) ?_
      refine j_iadd d_Ma_constant_26 ?_
      refine j_eqi (y := nI ((c - 81) + 1)) (nI_add (c - 81) 1) ?_
      refine j_i2l d_Ma_constant_27 ?_
      refine j_eql (y := lN (c - 81 + 1)) (nI_l (by omega)) ?_
      refine j_callV (As := [.long (lN (c - 81 + 1))]) (rest := []) (c_Ma_pushNumber Γ.l E M X L y n zs m o b k (lN (c - 81 + 1)) hI hL (am_mag_lt (by rw [pk_lT (by omega)]; omega))) Y_Ma_pushNumber w_669 w_671 ws_9 hI.mo rfl rfl rfl (Nat.le_of_ble_eq_true rfl) (by omega) (by omega) (by omega) d_Ma_constant_28 (fun v28 N28 p28 => ?_)
      obtain ⟨w28, m28, o28, b28_, k28, rfl, I28, f28, T28, F28⟩ := p28
      obtain ⟨z28_1m, u28_1m⟩ := I28.sm.o
      obtain ⟨z28_1o, u28_1o⟩ := I28.so.o
      show mp_J Γ m_Ma_constant E κ N28 [(0, .ref (L 0)), (1, .int (nI c))] 31 [.int (tf w28)] (0 + 2) (0 + 8)
      refine j_tif_eq 38 d_Ma_constant_31 (by decide) (fun b31 => ?_) (fun b31 => ?_)
      · skip
        refine j_iconst (v := nI 0) d_Ma_constant_38 (by decide) ?_
        exact j_zret hκ rfl (by first | exact Or.inl rfl | exact Or.inr rfl) (by omega) (by omega) d_Ma_constant_39 (MP.kf F28 I28 f28 b31 (by unfold a_const; rw [if_neg b3, if_pos (by omega)]))
      · skip
        refine j_iconst (v := nI 1) d_Ma_constant_34 (by decide) ?_
        refine j_goto (tgt := 39) d_Ma_constant_35 (by decide) ?_
        exact j_zret hκ rfl (by first | exact Or.inl rfl | exact Or.inr rfl) (by omega) (by omega) d_Ma_constant_39 (MP.kt T28 I28 f28 b31 (by unfold a_const; rw [if_neg b3, if_pos (by omega)]))
  · skip
    refine j_aload_n d_Ma_constant_6 rfl 0 rfl ?_
    refine j_ldc2 (v := (-1)) w_668 d_Ma_constant_7 ?_
    refine j_callV (As := [.long (-1)]) (rest := []) (c_Ma_pushNumber Γ.l E M X L y n zs m o b k (-1) hI hL (am_mag_lt (by decide))) Y_Ma_pushNumber w_669 w_671 ws_9 hI.mo rfl rfl rfl (Nat.le_of_ble_eq_true rfl) (by omega) (by omega) (by omega) d_Ma_constant_10 (fun v10 N10 p10 => ?_)
    obtain ⟨w10, m10, o10, b10_, k10, rfl, I10, f10, T10, F10⟩ := p10
    obtain ⟨z10_2m, u10_2m⟩ := I10.sm.o
    obtain ⟨z10_2o, u10_2o⟩ := I10.so.o
    show mp_J Γ m_Ma_constant E κ N10 [(0, .ref (L 0)), (1, .int (nI c))] 13 [.int (tf w10)] (0 + 2) (0 + 8)
    exact j_zret hκ rfl (tf_01 _) (by omega) (by omega) d_Ma_constant_13 (MP.k T10 F10 I10 f10 (by unfold a_const; rw [if_pos b3]))

set_option maxHeartbeats 4000000 in
set_option maxRecDepth 100000 in
theorem c_Ma_compare (l : Launch) (E : mp_E) (M : mp_M) (X : Nat → Prop) (L : Nat → Nat) (y n : Nat) (zs m o : List am_T) (b : List Bool) (k : Nat) (c : Nat) (hI : IV E X M L y n zs m o b k) (hL : LY X L) (hc : c < 256) : mp_Cr l m_Ma_compare E M 3 0 0 [.ref (L 0), .int (nI c)] (MP E X M L y n zs (a_cmp c m o b k)) := by
  refine mp_Cr.of (by decide) (Nat.le_of_ble_eq_true rfl) fun Γ κ hl hκ => ?_
  subst hl
  obtain ⟨hκd, hκc, hκs, -⟩ := id hκ
  have hlm := hI.sm.le
  have hlo := hI.so.le
  obtain ⟨z0_m, u0_m⟩ := hI.sm.o
  obtain ⟨z0_o, u0_o⟩ := hI.so.o
  show mp_J Γ m_Ma_compare E κ M [(0, .ref (L 0)), (1, .int (nI c))] 0 [] 0 0
  refine j_aload_n d_Ma_compare_0 rfl 0 rfl ?_
  refine j_get F_Ma hI.mo 6 (by decide) w_169 (Or.inl rfl) rfl d_Ma_compare_1 ?_
  refine j_callV (As := []) (rest := []) (k_count Γ.l hI.sm) Y_St_count w_677 w_214 w_215 u0_m rfl rfl rfl (Nat.le_of_ble_eq_true rfl) (by omega) (by omega) (by omega) d_Ma_compare_4 (fun v4 N4 p4 => ?_)
  obtain ⟨rfl, q4⟩ := p4
  obtain rfl := q4.symm
  show mp_J Γ m_Ma_compare E κ M [(0, .ref (L 0)), (1, .int (nI c))] 7 [.int (nI m.length)] 0 0
  refine j_iconst (v := nI 2) d_Ma_compare_7 (by decide) ?_
  refine j_ncmp_ge 13 m.length 2 rfl rfl (by omega) (by omega) d_Ma_compare_8 (by decide) (fun b8 => ?_) (fun b8 => ?_)
  · skip
    refine j_aload_n d_Ma_compare_13 rfl 0 rfl ?_
    refine j_get F_Ma hI.mo 6 (by decide) w_169 (Or.inl rfl) rfl d_Ma_compare_14 ?_
    refine j_callV (As := []) (rest := []) (i_popd Γ.l (j := 0) hI hL (by omega)) Y_St_pop w_374 w_375 w_376 u0_m rfl rfl rfl (Nat.le_of_ble_eq_true rfl) (by omega) (by omega) (by omega) d_Ma_compare_17 (fun v17 N17 p17 => ?_)
    obtain ⟨t17, rfl, ht17, I17x, f17⟩ := p17
    have I17 : IV E X N17 L y n zs (m.drop 1) o b k := I17x
    obtain ⟨z17_1m, u17_1m⟩ := I17.sm.o
    obtain ⟨z17_1o, u17_1o⟩ := I17.so.o
    obtain ⟨z17_1_t17, u17_1_t17⟩ := ht17.o
    show mp_J Γ m_Ma_compare E κ N17 [(0, .ref (L 0)), (1, .int (nI c))] 20 [.ref t17] 0 0
    refine j_aload_n d_Ma_compare_20 rfl 0 rfl ?_
    refine j_get F_Ma I17.mo 6 (by decide) w_169 (Or.inl rfl) rfl d_Ma_compare_21 ?_
    refine j_callV (As := []) (rest := [.ref t17]) (i_popd Γ.l (j := 1) I17 hL (by omega)) Y_St_pop w_374 w_375 w_376 u17_1m rfl rfl rfl (Nat.le_of_ble_eq_true rfl) (by omega) (by omega) (by omega) d_Ma_compare_24 (fun v24 N24 p24 => ?_)
    obtain ⟨t24, rfl, ht24, I24x, f24⟩ := p24
    have I24 : IV E X N24 L y n zs (m.drop 2) o b k := I24x
    have ht17_24_2 := ht17.keep f24
    obtain ⟨z24_2m, u24_2m⟩ := I24.sm.o
    obtain ⟨z24_2o, u24_2o⟩ := I24.so.o
    obtain ⟨z24_2_t17, u24_2_t17⟩ := ht17_24_2.o
    obtain ⟨z24_2_t24, u24_2_t24⟩ := ht24.o
    show mp_J Γ m_Ma_compare E κ N24 [(0, .ref (L 0)), (1, .int (nI c))] 27 [.ref t24, .ref t17] 0 0
    refine j_callV (As := [.ref t24]) (rest := []) (t_same Γ.l ht17_24_2 ht24) Y_Th_same w_727 w_728 w_729 u24_2_t17 rfl rfl rfl (Nat.le_of_ble_eq_true rfl) (by omega) (by omega) (by omega) d_Ma_compare_27 (fun v27 N27 p27 => ?_)
    obtain ⟨rfl, q27⟩ := p27
    obtain rfl := q27.symm
    show mp_J Γ m_Ma_compare E κ N24 [(0, .ref (L 0)), (1, .int (nI c))] 30 [.int (tf (decide (m.getD 0 [] = m.getD 1 [])))] 0 0
    refine j_istore_n [(2, .int (tf (decide (m.getD 0 [] = m.getD 1 [])))), (0, .ref (L 0)), (1, .int (nI c))] d_Ma_compare_30 rfl (by decide) rfl ?_
    refine j_iload_n d_Ma_compare_31 rfl 2 rfl ?_
    rcases (show (c ≠ 135 ∧ c ≠ 136) ∨ c = 135 ∨ c = 136 by omega) with hz9 | rfl | rfl
    · skip
      refine j_lookup (off := 40) 72 d_Ma_compare_32 (by decide) (by rw [nI_toInt (by omega)]; simp only [Op.lookupswitch.offset]; repeat rw [if_neg (by omega)]) (by decide) ?_
      refine j_iconst (v := nI 0) d_Ma_compare_72 (by decide) ?_
      exact j_zret hκ rfl (by first | exact Or.inl rfl | exact Or.inr rfl) (by omega) (by omega) d_Ma_compare_73 (MP.f I24 (f17.trans f24) (fun s hs => by unfold a_cmp at hs; rw [if_neg (by omega), if_neg (by omega), if_neg (by omega)] at hs; cases hs))
    · skip
      refine j_lookup (off := 28) 60 d_Ma_compare_32 (by decide) (by decide) (by decide) ?_
      refine j_aload_n d_Ma_compare_60 rfl 1 rfl ?_
      refine j_iload_n d_Ma_compare_61 rfl 0 rfl ?_
      refine j_callV (As := [.int (tf (decide (m.getD 0 [] = m.getD 1 [])))]) (rest := []) (c_Ma_pushTruth Γ.l E N24 X L y n zs (m.drop 2) o b k (decide (m.getD 0 [] = m.getD 1 [])) I24 hL) Y_Ma_pushTruth w_731 w_733 ws_16 I24.mo rfl rfl rfl (Nat.le_of_ble_eq_true rfl) (by omega) (by omega) (by omega) d_Ma_compare_62 (fun v62 N62 p62 => ?_)
      obtain ⟨w62, m62, o62, b62_, k62, rfl, I62, f62, T62, F62⟩ := p62
      have ht17_24_2_62_3 := ht17_24_2.keep f62
      have ht24_62_3 := ht24.keep f62
      obtain ⟨z62_3m, u62_3m⟩ := I62.sm.o
      obtain ⟨z62_3o, u62_3o⟩ := I62.so.o
      obtain ⟨z62_3_t17, u62_3_t17⟩ := ht17_24_2_62_3.o
      obtain ⟨z62_3_t24, u62_3_t24⟩ := ht24_62_3.o
      show mp_J Γ m_Ma_compare E κ N62 [(2, .int (tf (decide (m.getD 0 [] = m.getD 1 [])))), (0, .ref (L 0)), (1, .int (nI 135))] 65 [.int (tf w62)] (0 + 0) (0 + 0)
      refine j_goto (tgt := 73) d_Ma_compare_65 (by decide) ?_
      exact j_zret hκ rfl (tf_01 _) (by omega) (by omega) d_Ma_compare_73 (MP.k T62 F62 I62 ((f17.trans f24).trans f62) (by unfold a_cmp; rw [if_neg (by omega), if_pos (by omega)]))
    · skip
      refine j_lookup (off := 36) 68 d_Ma_compare_32 (by decide) (by decide) (by decide) ?_
      refine j_iload_n d_Ma_compare_68 rfl 0 rfl ?_
      refine j_goto (tgt := 73) d_Ma_compare_69 (by decide) ?_
      exact j_zret hκ rfl (tf_01 _) (by omega) (by omega) d_Ma_compare_73 (MP.bool I24 (f17.trans f24) (by unfold a_cmp; rw [if_neg (by omega), if_neg (by omega), if_pos (by omega)]))
  · skip
    refine j_iconst (v := nI 0) d_Ma_compare_11 (by decide) ?_
    exact j_zret hκ rfl (by first | exact Or.inl rfl | exact Or.inr rfl) (by omega) (by omega) d_Ma_compare_12 (MP.f hI mp_Fr.refl (fun s hs => by unfold a_cmp at hs; rw [if_pos (by omega)] at hs; cases hs))
