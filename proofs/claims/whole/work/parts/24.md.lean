theorem TH.le {E : mp_E} {X : Nat → Prop} {M : mp_M} {t : Nat} {x : am_T} (h : TH E X M t x) : x.length ≤ 256 := by
  obtain ⟨-, b, -, -, -, a⟩ := h
  exact a
theorem cd_needs_le (c : Nat) : cd_needs c ≤ 3 := by
  unfold cd_needs
  split
  · omega
  · split
    · omega
    · split <;> omega
section AR
variable {E : mp_E} {X : Nat → Prop} {M N : mp_M} {L : Nat → Nat} {y n k : Nat} {zs m o : List am_T} {b : List Bool}
theorem MP.drop {j : Nat} {r : Option am_St} (h : IV E X N L y n zs (if j ≤ m.length then m.drop j else m) o b k) (fr : mp_Fr X M N) (hj : j ≤ m.length) (e : r = some (m.drop j, o, b, k)) : MP E X M L y n zs r (some (.int (tf (decide (j ≤ m.length))))) N := by
  rw [if_pos hj] at h
  exact ⟨true, _, _, _, _, by rw [decide_eq_true hj], h, fr, fun _ => e, fun z => by cases z⟩
theorem MP.opush {x : am_T} {r : Option am_St} (h : IV E X N L y n zs m (if o.length < 200 then x :: o else o) b k) (fr : mp_Fr X M N) (e : r = some (m, x :: o, b, k)) : MP E X M L y n zs r (some (.int (tf (decide (o.length < 200))))) N := by
  subst e
  by_cases hz : o.length < 200
  · rw [if_pos hz] at h
    exact ⟨true, _, _, _, _, by rw [decide_eq_true hz], h, fr, fun _ => rfl, fun z => by cases z⟩
  · rw [if_neg hz] at h
    exact ⟨false, _, _, _, _, by rw [decide_eq_false hz], h, fr, fun z => (by cases z), fun _ s hs => by cases hs; show 200 < m.length + (x :: o).length; simp; omega⟩
/-- a push, its answer as a constant -/
theorem MP.push1 {x : am_T} {r : Option am_St} (h : IV E X N L y n zs (if m.length < 200 then x :: m else m) o b k) (fr : mp_Fr X M N) (hb : decide (m.length < 200) = true) (e : r = some (x :: m, o, b, k)) : MP E X M L y n zs r (some (.int (nI 1))) N := by
  rw [if_pos (of_decide_eq_true hb)] at h
  exact MP.t h fr e
theorem MP.push0 {x : am_T} {r : Option am_St} (h : IV E X N L y n zs (if m.length < 200 then x :: m else m) o b k) (fr : mp_Fr X M N) (hb : decide (m.length < 200) = false) (e : r = some (x :: m, o, b, k)) : MP E X M L y n zs r (some (.int (nI 0))) N := by
  have hz := of_decide_eq_false hb
  exact MP.f h fr (fun s hs => by rw [e] at hs; cases hs; show 200 < (x :: m).length + o.length; simp; omega)
end AR
def a_arr (c : Nat) (m o : List am_T) (b : List Bool) (k : Nat) : Option am_St := if m.length < cd_needs c then none
  else if c = 97 then some (m, o, b, k)
  else if c = 105 then (if am_true (m.getD 0 []) then some (m.drop 1, o, b, k) else none)
  else if c = 107 then some (m.drop 1, m.getD 0 [] :: o, b, k)
  else if c = 108 then (if 0 < o.length then some (o.getD 0 [] :: m, o.drop 1, b, k) else none)
  else if c = 109 then some (m.drop 2, o, b, k)
  else if c = 110 then some (m.getD 0 [] :: m.getD 1 [] :: m, o, b, k)
  else if c = 115 then (if am_true (m.getD 0 []) then some (m.getD 0 [] :: m, o, b, k) else some (m, o, b, k))
  else if c = 116 then some (am_of (lN m.length) :: m, o, b, k)
  else if c = 117 then some (m.drop 1, o, b, k)
  else if c = 118 then some (m.getD 0 [] :: m, o, b, k)
  else if c = 119 then some (m.eraseIdx 1, o, b, k)
  else if c = 120 then some (m.getD 1 [] :: m, o, b, k)
  else if c = 121 then a_fetch false m o b k
  else if c = 122 then a_fetch true m o b k
  else if c = 123 then some (m.getD 2 [] :: m.eraseIdx 2, o, b, k)
  else if c = 124 then some (m.getD 1 [] :: m.eraseIdx 1, o, b, k)
  else if c = 125 then some (m.getD 0 [] :: m.getD 1 [] :: m.eraseIdx 1, o, b, k)
  else if c = 130 then some (am_of (lN (m.getD 0 []).length) :: m, o, b, k)
  else none
set_option maxHeartbeats 4000000 in
set_option maxRecDepth 100000 in
theorem c_Ma_arrange (l : Launch) (E : mp_E) (M : mp_M) (X : Nat → Prop) (L : Nat → Nat) (y n : Nat) (zs m o : List am_T) (b : List Bool) (k : Nat) (c : Nat) (hI : IV E X M L y n zs m o b k) (hL : LY X L) (hc : c < 256) : mp_Cr l m_Ma_arrange E M 6 2 8 [.ref (L 0), .int (nI c)] (MP E X M L y n zs (a_arr c m o b k)) := by
  refine mp_Cr.of (by decide) (Nat.le_of_ble_eq_true rfl) fun Γ κ hl hκ => ?_
  subst hl
  obtain ⟨hκd, hκc, hκs, -⟩ := id hκ
  have hlm := hI.sm.le
  have hlo := hI.so.le
  obtain ⟨z0_m, u0_m⟩ := hI.sm.o
  obtain ⟨z0_o, u0_o⟩ := hI.so.o
  have hnd := cd_needs_le c
  show mp_J Γ m_Ma_arrange E κ M [(0, .ref (L 0)), (1, .int (nI c))] 0 [] 0 0
  refine j_aload_n d_Ma_arrange_0 rfl 0 rfl ?_
  refine j_get F_Ma hI.mo 6 (by decide) w_169 (Or.inl rfl) rfl d_Ma_arrange_1 ?_
  refine j_callV (As := []) (rest := []) (k_count Γ.l hI.sm) Y_St_count w_677 w_214 w_215 u0_m rfl rfl rfl (Nat.le_of_ble_eq_true rfl) (by omega) (by omega) (by omega) d_Ma_arrange_4 (fun v4 N4 p4 => ?_)
  obtain ⟨rfl, q4⟩ := p4
  obtain rfl := q4.symm
  show mp_J Γ m_Ma_arrange E κ M [(0, .ref (L 0)), (1, .int (nI c))] 7 [.int (nI m.length)] 0 0
  refine j_iload_n d_Ma_arrange_7 rfl 1 rfl ?_
  refine j_callS (As := [.int (nI c)]) (rest := [.int (nI m.length)]) (c_Co_needs Γ.l E M c hc) Y_Co_needs w_678 w_679 rfl rfl (Nat.le_of_ble_eq_true rfl) (by omega) (by omega) (by omega) d_Ma_arrange_8 (fun v8 N8 p8 => ?_)
  obtain ⟨rfl, q8⟩ := p8
  obtain rfl := q8.symm
  show mp_J Γ m_Ma_arrange E κ M [(0, .ref (L 0)), (1, .int (nI c))] 11 [.int (nI (cd_needs c)), .int (nI m.length)] 0 0
  refine j_ncmp_ge 16 m.length (cd_needs c) rfl rfl (by omega) (by omega) d_Ma_arrange_11 (by decide) (fun b11 => ?_) (fun b11 => ?_)
  · skip
    refine j_iload_n d_Ma_arrange_16 rfl 1 rfl ?_
    rcases (show c < 97 ∨ 130 < c ∨ c = 97 ∨ c = 98 ∨ c = 99 ∨ c = 100 ∨ c = 101 ∨ c = 102 ∨ c = 103 ∨ c = 104 ∨ c = 105 ∨ c = 106 ∨ c = 107 ∨ c = 108 ∨ c = 109 ∨ c = 110 ∨ c = 111 ∨ c = 112 ∨ c = 113 ∨ c = 114 ∨ c = 115 ∨ c = 116 ∨ c = 117 ∨ c = 118 ∨ c = 119 ∨ c = 120 ∨ c = 121 ∨ c = 122 ∨ c = 123 ∨ c = 124 ∨ c = 125 ∨ c = 126 ∨ c = 127 ∨ c = 128 ∨ c = 129 ∨ c = 130 by omega) with hz9 | hz9 | rfl | rfl | rfl | rfl | rfl | rfl | rfl | rfl | rfl | rfl | rfl | rfl | rfl | rfl | rfl | rfl | rfl | rfl | rfl | rfl | rfl | rfl | rfl | rfl | rfl | rfl | rfl | rfl | rfl | rfl | rfl | rfl | rfl | rfl
    · skip
      refine j_tableOut 482 d_Ma_arrange_17 (Or.inl (by rw [nI_toInt (by omega)]; omega)) (by decide) ?_
      refine j_iconst (v := nI 0) d_Ma_arrange_482 (by decide) ?_
      exact j_zret hκ rfl (by first | exact Or.inl rfl | exact Or.inr rfl) (by omega) (by omega) d_Ma_arrange_483 (MP.f hI mp_Fr.refl (fun s hs => by unfold a_arr at hs; rw [if_neg (Nat.not_lt.mpr b11), if_neg (by omega), if_neg (by omega), if_neg (by omega), if_neg (by omega), if_neg (by omega), if_neg (by omega), if_neg (by omega), if_neg (by omega), if_neg (by omega), if_neg (by omega), if_neg (by omega), if_neg (by omega), if_neg (by omega), if_neg (by omega), if_neg (by omega), if_neg (by omega), if_neg (by omega), if_neg (by omega)] at hs; cases hs))
    · skip
      refine j_tableOut 482 d_Ma_arrange_17 (Or.inr (by rw [nI_toInt (by omega)]; omega)) (by decide) ?_
      refine j_iconst (v := nI 0) d_Ma_arrange_482 (by decide) ?_
      exact j_zret hκ rfl (by first | exact Or.inl rfl | exact Or.inr rfl) (by omega) (by omega) d_Ma_arrange_483 (MP.f hI mp_Fr.refl (fun s hs => by unfold a_arr at hs; rw [if_neg (Nat.not_lt.mpr b11), if_neg (by omega), if_neg (by omega), if_neg (by omega), if_neg (by omega), if_neg (by omega), if_neg (by omega), if_neg (by omega), if_neg (by omega), if_neg (by omega), if_neg (by omega), if_neg (by omega), if_neg (by omega), if_neg (by omega), if_neg (by omega), if_neg (by omega), if_neg (by omega), if_neg (by omega), if_neg (by omega)] at hs; cases hs))
    · skip
      refine j_tableIn 168 d_Ma_arrange_17 (by decide) (by decide) rfl (by decide) ?_
      refine j_iconst (v := nI 1) d_Ma_arrange_168 (by decide) ?_
      refine j_goto (tgt := 483) d_Ma_arrange_169 (by decide) ?_
      exact j_zret hκ rfl (by first | exact Or.inl rfl | exact Or.inr rfl) (by omega) (by omega) d_Ma_arrange_483 (MP.t hI mp_Fr.refl (by unfold a_arr; rw [if_neg (Nat.not_lt.mpr b11), if_pos (by omega)]; try rfl))
    · skip
      refine j_tableIn 482 d_Ma_arrange_17 (by decide) (by decide) rfl (by decide) ?_
      refine j_iconst (v := nI 0) d_Ma_arrange_482 (by decide) ?_
      exact j_zret hκ rfl (by first | exact Or.inl rfl | exact Or.inr rfl) (by omega) (by omega) d_Ma_arrange_483 (MP.f hI mp_Fr.refl (fun s hs => by unfold a_arr at hs; rw [if_neg (Nat.not_lt.mpr b11), if_neg (by omega), if_neg (by omega), if_neg (by omega), if_neg (by omega), if_neg (by omega), if_neg (by omega), if_neg (by omega), if_neg (by omega), if_neg (by omega), if_neg (by omega), if_neg (by omega), if_neg (by omega), if_neg (by omega), if_neg (by omega), if_neg (by omega), if_neg (by omega), if_neg (by omega), if_neg (by omega)] at hs; cases hs))
    · skip
      refine j_tableIn 482 d_Ma_arrange_17 (by decide) (by decide) rfl (by decide) ?_
      refine j_iconst (v := nI 0) d_Ma_arrange_482 (by decide) ?_
      exact j_zret hκ rfl (by first | exact Or.inl rfl | exact Or.inr rfl) (by omega) (by omega) d_Ma_arrange_483 (MP.f hI mp_Fr.refl (fun s hs => by unfold a_arr at hs; rw [if_neg (Nat.not_lt.mpr b11), if_neg (by omega), if_neg (by omega), if_neg (by omega), if_neg (by omega), if_neg (by omega), if_neg (by omega), if_neg (by omega), if_neg (by omega), if_neg (by omega), if_neg (by omega), if_neg (by omega), if_neg (by omega), if_neg (by omega), if_neg (by omega), if_neg (by omega), if_neg (by omega), if_neg (by omega), if_neg (by omega)] at hs; cases hs))
    · skip
      refine j_tableIn 482 d_Ma_arrange_17 (by decide) (by decide) rfl (by decide) ?_
      refine j_iconst (v := nI 0) d_Ma_arrange_482 (by decide) ?_
      exact j_zret hκ rfl (by first | exact Or.inl rfl | exact Or.inr rfl) (by omega) (by omega) d_Ma_arrange_483 (MP.f hI mp_Fr.refl (fun s hs => by unfold a_arr at hs; rw [if_neg (Nat.not_lt.mpr b11), if_neg (by omega), if_neg (by omega), if_neg (by omega), if_neg (by omega), if_neg (by omega), if_neg (by omega), if_neg (by omega), if_neg (by omega), if_neg (by omega), if_neg (by omega), if_neg (by omega), if_neg (by omega), if_neg (by omega), if_neg (by omega), if_neg (by omega), if_neg (by omega), if_neg (by omega), if_neg (by omega)] at hs; cases hs))
    · skip
      refine j_tableIn 482 d_Ma_arrange_17 (by decide) (by decide) rfl (by decide) ?_
      refine j_iconst (v := nI 0) d_Ma_arrange_482 (by decide) ?_
      exact j_zret hκ rfl (by first | exact Or.inl rfl | exact Or.inr rfl) (by omega) (by omega) d_Ma_arrange_483 (MP.f hI mp_Fr.refl (fun s hs => by unfold a_arr at hs; rw [if_neg (Nat.not_lt.mpr b11), if_neg (by omega), if_neg (by omega), if_neg (by omega), if_neg (by omega), if_neg (by omega), if_neg (by omega), if_neg (by omega), if_neg (by omega), if_neg (by omega), if_neg (by omega), if_neg (by omega), if_neg (by omega), if_neg (by omega), if_neg (by omega), if_neg (by omega), if_neg (by omega), if_neg (by omega), if_neg (by omega)] at hs; cases hs))
    · skip
      refine j_tableIn 482 d_Ma_arrange_17 (by decide) (by decide) rfl (by decide) ?_
      refine j_iconst (v := nI 0) d_Ma_arrange_482 (by decide) ?_
      exact j_zret hκ rfl (by first | exact Or.inl rfl | exact Or.inr rfl) (by omega) (by omega) d_Ma_arrange_483 (MP.f hI mp_Fr.refl (fun s hs => by unfold a_arr at hs; rw [if_neg (Nat.not_lt.mpr b11), if_neg (by omega), if_neg (by omega), if_neg (by omega), if_neg (by omega), if_neg (by omega), if_neg (by omega), if_neg (by omega), if_neg (by omega), if_neg (by omega), if_neg (by omega), if_neg (by omega), if_neg (by omega), if_neg (by omega), if_neg (by omega), if_neg (by omega), if_neg (by omega), if_neg (by omega), if_neg (by omega)] at hs; cases hs))
    · skip
      refine j_tableIn 482 d_Ma_arrange_17 (by decide) (by decide) rfl (by decide) ?_
      refine j_iconst (v := nI 0) d_Ma_arrange_482 (by decide) ?_
      exact j_zret hκ rfl (by first | exact Or.inl rfl | exact Or.inr rfl) (by omega) (by omega) d_Ma_arrange_483 (MP.f hI mp_Fr.refl (fun s hs => by unfold a_arr at hs; rw [if_neg (Nat.not_lt.mpr b11), if_neg (by omega), if_neg (by omega), if_neg (by omega), if_neg (by omega), if_neg (by omega), if_neg (by omega), if_neg (by omega), if_neg (by omega), if_neg (by omega), if_neg (by omega), if_neg (by omega), if_neg (by omega), if_neg (by omega), if_neg (by omega), if_neg (by omega), if_neg (by omega), if_neg (by omega), if_neg (by omega)] at hs; cases hs))
    · skip
      refine j_tableIn 482 d_Ma_arrange_17 (by decide) (by decide) rfl (by decide) ?_
      refine j_iconst (v := nI 0) d_Ma_arrange_482 (by decide) ?_
      exact j_zret hκ rfl (by first | exact Or.inl rfl | exact Or.inr rfl) (by omega) (by omega) d_Ma_arrange_483 (MP.f hI mp_Fr.refl (fun s hs => by unfold a_arr at hs; rw [if_neg (Nat.not_lt.mpr b11), if_neg (by omega), if_neg (by omega), if_neg (by omega), if_neg (by omega), if_neg (by omega), if_neg (by omega), if_neg (by omega), if_neg (by omega), if_neg (by omega), if_neg (by omega), if_neg (by omega), if_neg (by omega), if_neg (by omega), if_neg (by omega), if_neg (by omega), if_neg (by omega), if_neg (by omega), if_neg (by omega)] at hs; cases hs))
    · skip
      refine j_tableIn 172 d_Ma_arrange_17 (by decide) (by decide) rfl (by decide) ?_
      have hq : 1 ≤ m.length := b11
      refine j_aload_n d_Ma_arrange_172 rfl 0 rfl ?_
      refine j_get F_Ma hI.mo 6 (by decide) w_169 (Or.inl rfl) rfl d_Ma_arrange_173 ?_
      refine j_callV (As := []) (rest := []) (i_popd Γ.l (j := 0) hI hL (by omega)) Y_St_pop w_374 w_375 w_376 u0_m rfl rfl rfl (Nat.le_of_ble_eq_true rfl) (by omega) (by omega) (by omega) d_Ma_arrange_176 (fun v176 N176 p176 => ?_)
      obtain ⟨t176, rfl, ht176, I176x, f176⟩ := p176
      have I176 : IV E X N176 L y n zs (m.drop 1) o b k := I176x
      obtain ⟨z176_1m, u176_1m⟩ := I176.sm.o
      obtain ⟨z176_1o, u176_1o⟩ := I176.so.o
      obtain ⟨z176_1_t176, u176_1_t176⟩ := ht176.o
      show mp_J Γ m_Ma_arrange E κ N176 [(0, .ref (L 0)), (1, .int (nI 105))] 179 [.ref t176] 0 0
      refine j_callV (As := []) (rest := []) (t_true Γ.l ht176) Y_Th_isTrue w_378 w_379 w_380 u176_1_t176 rfl rfl rfl (Nat.le_of_ble_eq_true rfl) (by omega) (by omega) (by omega) d_Ma_arrange_179 (fun v179 N179 p179 => ?_)
      obtain ⟨rfl, q179⟩ := p179
      obtain rfl := q179.symm
      show mp_J Γ m_Ma_arrange E κ N176 [(0, .ref (L 0)), (1, .int (nI 105))] 182 [.int (tf (am_true (m.getD 0 [])))] 0 0
      refine j_goto (tgt := 483) d_Ma_arrange_182 (by decide) ?_
      exact j_zret hκ rfl (tf_01 _) (by omega) (by omega) d_Ma_arrange_483 (MP.bool I176 f176 (by unfold a_arr; rw [if_neg (Nat.not_lt.mpr b11), if_neg (by omega), if_pos (by omega)]; try rfl))
    · skip
      refine j_tableIn 482 d_Ma_arrange_17 (by decide) (by decide) rfl (by decide) ?_
      refine j_iconst (v := nI 0) d_Ma_arrange_482 (by decide) ?_
      exact j_zret hκ rfl (by first | exact Or.inl rfl | exact Or.inr rfl) (by omega) (by omega) d_Ma_arrange_483 (MP.f hI mp_Fr.refl (fun s hs => by unfold a_arr at hs; rw [if_neg (Nat.not_lt.mpr b11), if_neg (by omega), if_neg (by omega), if_neg (by omega), if_neg (by omega), if_neg (by omega), if_neg (by omega), if_neg (by omega), if_neg (by omega), if_neg (by omega), if_neg (by omega), if_neg (by omega), if_neg (by omega), if_neg (by omega), if_neg (by omega), if_neg (by omega), if_neg (by omega), if_neg (by omega), if_neg (by omega)] at hs; cases hs))
    · skip
      refine j_tableIn 185 d_Ma_arrange_17 (by decide) (by decide) rfl (by decide) ?_
      have hq : 1 ≤ m.length := b11
      refine j_aload_n d_Ma_arrange_185 rfl 0 rfl ?_
      refine j_get F_Ma hI.mo 2 (by decide) w_165 (Or.inl rfl) rfl d_Ma_arrange_186 ?_
      refine j_aload_n d_Ma_arrange_189 rfl 0 rfl ?_
      refine j_get F_Ma hI.mo 6 (by decide) w_169 (Or.inl rfl) rfl d_Ma_arrange_190 ?_
      refine j_callV (As := []) (rest := [.ref (L 11)]) (i_popd Γ.l (j := 0) hI hL (by omega)) Y_St_pop w_374 w_375 w_376 u0_m rfl rfl rfl (Nat.le_of_ble_eq_true rfl) (by omega) (by omega) (by omega) d_Ma_arrange_193 (fun v193 N193 p193 => ?_)
      obtain ⟨t193, rfl, ht193, I193x, f193⟩ := p193
      have I193 : IV E X N193 L y n zs (m.drop 1) o b k := I193x
      obtain ⟨z193_2m, u193_2m⟩ := I193.sm.o
      obtain ⟨z193_2o, u193_2o⟩ := I193.so.o
      obtain ⟨z193_2_t193, u193_2_t193⟩ := ht193.o
      show mp_J Γ m_Ma_arrange E κ N193 [(0, .ref (L 0)), (1, .int (nI 107))] 196 [.ref t193, .ref (L 11)] 0 0
      refine j_callV (As := [.ref t193]) (rest := []) (i_opush Γ.l I193 hL ht193) Y_St_push w_656 w_657 w_658 u193_2o rfl rfl rfl (Nat.le_of_ble_eq_true rfl) (by omega) (by omega) (by omega) d_Ma_arrange_196 (fun v196 N196 p196 => ?_)
      obtain ⟨rfl, I196, f196⟩ := p196
      have ht193_196_3 := ht193.keep f196
      obtain ⟨z196_3m, u196_3m⟩ := I196.sm.o
      obtain ⟨z196_3o, u196_3o⟩ := I196.so.o
      obtain ⟨z196_3_t193, u196_3_t193⟩ := ht193_196_3.o
      show mp_J Γ m_Ma_arrange E κ N196 [(0, .ref (L 0)), (1, .int (nI 107))] 199 [.int (tf (decide (o.length < 200)))] 0 0
      refine j_goto (tgt := 483) d_Ma_arrange_199 (by decide) ?_
      exact j_zret hκ rfl (tf_01 _) (by omega) (by omega) d_Ma_arrange_483 (MP.opush I196 (f193.trans f196) (by unfold a_arr; rw [if_neg (Nat.not_lt.mpr b11), if_neg (by omega), if_neg (by omega), if_pos (by omega)]; try rfl))
    · skip
      refine j_tableIn 202 d_Ma_arrange_17 (by decide) (by decide) rfl (by decide) ?_
      refine j_aload_n d_Ma_arrange_202 rfl 0 rfl ?_
      refine j_get F_Ma hI.mo 2 (by decide) w_165 (Or.inl rfl) rfl d_Ma_arrange_203 ?_
      refine j_iconst (v := nI 0) d_Ma_arrange_206 (by decide) ?_
      refine j_callV (As := [.int (nI 0)]) (rest := []) (k_holds Γ.l hI.so 0 (by omega)) Y_St_holds w_370 w_371 w_372 u0_o rfl rfl rfl (Nat.le_of_ble_eq_true rfl) (by omega) (by omega) (by omega) d_Ma_arrange_207 (fun v207 N207 p207 => ?_)
      obtain ⟨rfl, q207⟩ := p207
      obtain rfl := q207.symm
      show mp_J Γ m_Ma_arrange E κ M [(0, .ref (L 0)), (1, .int (nI 108))] 210 [.int (tf (decide (0 < o.length)))] 0 0
      refine j_tif_eq 234 d_Ma_arrange_210 (by decide) (fun b210 => ?_) (fun b210 => ?_)
      · skip
        refine j_iconst (v := nI 0) d_Ma_arrange_234 (by decide) ?_
        refine j_goto (tgt := 483) d_Ma_arrange_235 (by decide) ?_
        exact j_zret hκ rfl (by first | exact Or.inl rfl | exact Or.inr rfl) (by omega) (by omega) d_Ma_arrange_483 (MP.f hI mp_Fr.refl (fun s hs => by unfold a_arr at hs; rw [if_neg (Nat.not_lt.mpr b11), if_neg (by omega), if_neg (by omega), if_neg (by omega), if_pos (by omega)] at hs; rw [if_neg (of_decide_eq_false b210)] at hs; cases hs))
      · skip
        have hz := of_decide_eq_true b210
        refine j_aload_n d_Ma_arrange_213 rfl 0 rfl ?_
        refine j_get F_Ma hI.mo 6 (by decide) w_169 (Or.inl rfl) rfl d_Ma_arrange_214 ?_
        refine j_aload_n d_Ma_arrange_217 rfl 0 rfl ?_
        refine j_get F_Ma hI.mo 2 (by decide) w_165 (Or.inl rfl) rfl d_Ma_arrange_218 ?_
        refine j_callV (As := []) (rest := [.ref (L 13)]) (i_opopd Γ.l (j := 0) hI hL (by omega)) Y_St_pop w_374 w_375 w_376 u0_o rfl rfl rfl (Nat.le_of_ble_eq_true rfl) (by omega) (by omega) (by omega) d_Ma_arrange_221 (fun v221 N221 p221 => ?_)
        obtain ⟨t221, rfl, ht221, I221x, f221⟩ := p221
        have I221 : IV E X N221 L y n zs m (o.drop 1) b k := I221x
        obtain ⟨z221_4m, u221_4m⟩ := I221.sm.o
        obtain ⟨z221_4o, u221_4o⟩ := I221.so.o
        obtain ⟨z221_4_t221, u221_4_t221⟩ := ht221.o
        show mp_J Γ m_Ma_arrange E κ N221 [(0, .ref (L 0)), (1, .int (nI 108))] 224 [.ref t221, .ref (L 13)] 0 0
        refine j_callV (As := [.ref t221]) (rest := []) (i_push Γ.l I221 hL ht221) Y_St_push w_656 w_657 w_658 u221_4m rfl rfl rfl (Nat.le_of_ble_eq_true rfl) (by omega) (by omega) (by omega) d_Ma_arrange_224 (fun v224 N224 p224 => ?_)
        obtain ⟨rfl, I224, f224⟩ := p224
        have ht221_224_5 := ht221.keep f224
        obtain ⟨z224_5m, u224_5m⟩ := I224.sm.o
        obtain ⟨z224_5o, u224_5o⟩ := I224.so.o
        obtain ⟨z224_5_t221, u224_5_t221⟩ := ht221_224_5.o
        show mp_J Γ m_Ma_arrange E κ N224 [(0, .ref (L 0)), (1, .int (nI 108))] 227 [.int (tf (decide (m.length < 200)))] 0 0
        refine j_tif_eq 234 d_Ma_arrange_227 (by decide) (fun b227 => ?_) (fun b227 => ?_)
        · skip
          refine j_iconst (v := nI 0) d_Ma_arrange_234 (by decide) ?_
          refine j_goto (tgt := 483) d_Ma_arrange_235 (by decide) ?_
          exact j_zret hκ rfl (by first | exact Or.inl rfl | exact Or.inr rfl) (by omega) (by omega) d_Ma_arrange_483 (MP.push0 I224 (f221.trans f224) b227 (by unfold a_arr; rw [if_neg (Nat.not_lt.mpr b11), if_neg (by omega), if_neg (by omega), if_neg (by omega), if_pos (by omega)]; rw [if_pos (of_decide_eq_true b210)]))
        · skip
          refine j_iconst (v := nI 1) d_Ma_arrange_230 (by decide) ?_
          refine j_goto (tgt := 483) d_Ma_arrange_231 (by decide) ?_
          exact j_zret hκ rfl (by first | exact Or.inl rfl | exact Or.inr rfl) (by omega) (by omega) d_Ma_arrange_483 (MP.push1 I224 (f221.trans f224) b227 (by unfold a_arr; rw [if_neg (Nat.not_lt.mpr b11), if_neg (by omega), if_neg (by omega), if_neg (by omega), if_pos (by omega)]; rw [if_pos (of_decide_eq_true b210)]))
    · skip
      refine j_tableIn 238 d_Ma_arrange_17 (by decide) (by decide) rfl (by decide) ?_
      have hq : 2 ≤ m.length := b11
      refine j_aload_n d_Ma_arrange_238 rfl 0 rfl ?_
      refine j_get F_Ma hI.mo 6 (by decide) w_169 (Or.inl rfl) rfl d_Ma_arrange_239 ?_
      refine j_iconst (v := nI 2) d_Ma_arrange_242 (by decide) ?_
      refine j_callV (As := [.int (nI 2)]) (rest := []) (i_drop Γ.l hI hL 2 (by omega)) Y_St_drop w_681 w_682 w_683 u0_m rfl rfl rfl (Nat.le_of_ble_eq_true rfl) (by omega) (by omega) (by omega) d_Ma_arrange_243 (fun v243 N243 p243 => ?_)
      obtain ⟨rfl, I243, f243⟩ := p243
      obtain ⟨z243_6m, u243_6m⟩ := I243.sm.o
      obtain ⟨z243_6o, u243_6o⟩ := I243.so.o
      show mp_J Γ m_Ma_arrange E κ N243 [(0, .ref (L 0)), (1, .int (nI 109))] 246 [.int (tf (decide (2 ≤ m.length)))] 0 0
      refine j_goto (tgt := 483) d_Ma_arrange_246 (by decide) ?_
      exact j_zret hκ rfl (tf_01 _) (by omega) (by omega) d_Ma_arrange_483 (MP.drop I243 f243 hq (by unfold a_arr; rw [if_neg (Nat.not_lt.mpr b11), if_neg (by omega), if_neg (by omega), if_neg (by omega), if_neg (by omega), if_pos (by omega)]; try rfl))
    · skip
      refine j_tableIn 249 d_Ma_arrange_17 (by decide) (by decide) rfl (by decide) ?_
      have hq : 2 ≤ m.length := b11
      refine j_aload_n d_Ma_arrange_249 rfl 0 rfl ?_
      refine j_get F_Ma hI.mo 6 (by decide) w_169 (Or.inl rfl) rfl d_Ma_arrange_250 ?_
      refine j_aload_n d_Ma_arrange_253 rfl 0 rfl ?_
      refine j_get F_Ma hI.mo 6 (by decide) w_169 (Or.inl rfl) rfl d_Ma_arrange_254 ?_
      refine j_iconst (v := nI 1) d_Ma_arrange_257 (by decide) ?_
      refine j_callV (As := [.int (nI 1)]) (rest := [.ref (L 13)]) (i_peek Γ.l hI 1 (by omega)) Y_St_peek w_685 w_686 w_687 u0_m rfl rfl rfl (Nat.le_of_ble_eq_true rfl) (by omega) (by omega) (by omega) d_Ma_arrange_258 (fun v258 N258 p258 => ?_)
      obtain ⟨q258, t258, rfl, ht258⟩ := p258
      obtain rfl := q258.symm
      obtain ⟨zt258, ut258⟩ := ht258.o
      show mp_J Γ m_Ma_arrange E κ M [(0, .ref (L 0)), (1, .int (nI 110))] 261 [.ref t258, .ref (L 13)] 0 0
      refine j_callV (As := [.ref t258]) (rest := []) (i_push Γ.l hI hL ht258) Y_St_push w_656 w_657 w_658 u0_m rfl rfl rfl (Nat.le_of_ble_eq_true rfl) (by omega) (by omega) (by omega) d_Ma_arrange_261 (fun v261 N261 p261 => ?_)
      obtain ⟨rfl, I261, f261⟩ := p261
      have ht258_261_7 := ht258.keep f261
      obtain ⟨z261_7m, u261_7m⟩ := I261.sm.o
      obtain ⟨z261_7o, u261_7o⟩ := I261.so.o
      obtain ⟨z261_7_t258, u261_7_t258⟩ := ht258_261_7.o
      show mp_J Γ m_Ma_arrange E κ N261 [(0, .ref (L 0)), (1, .int (nI 110))] 264 [.int (tf (decide (m.length < 200)))] 0 0
      refine j_tif_eq 289 d_Ma_arrange_264 (by decide) (fun b264 => ?_) (fun b264 => ?_)
      · skip
        refine j_iconst (v := nI 0) d_Ma_arrange_289 (by decide) ?_
        refine j_goto (tgt := 483) d_Ma_arrange_290 (by decide) ?_
        exact j_zret hκ rfl (by first | exact Or.inl rfl | exact Or.inr rfl) (by omega) (by omega) d_Ma_arrange_483 (MP.f I261 f261 (fun s hs => by unfold a_arr at hs; rw [if_neg (Nat.not_lt.mpr b11), if_neg (by omega), if_neg (by omega), if_neg (by omega), if_neg (by omega), if_neg (by omega), if_pos (by omega)] at hs; cases hs; have h9 := of_decide_eq_false b264; simp only [List.length_cons]; omega))
      · skip
        rw [if_pos (of_decide_eq_true b264)] at I261
        refine j_aload_n d_Ma_arrange_267 rfl 0 rfl ?_
        refine j_get F_Ma I261.mo 6 (by decide) w_169 (Or.inl rfl) rfl d_Ma_arrange_268 ?_
        refine j_aload_n d_Ma_arrange_271 rfl 0 rfl ?_
        refine j_get F_Ma I261.mo 6 (by decide) w_169 (Or.inl rfl) rfl d_Ma_arrange_272 ?_
        refine j_iconst (v := nI 1) d_Ma_arrange_275 (by decide) ?_
        refine j_callV (As := [.int (nI 1)]) (rest := [.ref (L 13)]) (i_peek Γ.l I261 1 (by omega)) Y_St_peek w_685 w_686 w_687 u261_7m rfl rfl rfl (Nat.le_of_ble_eq_true rfl) (by omega) (by omega) (by omega) d_Ma_arrange_276 (fun v276 N276 p276 => ?_)
        obtain ⟨q276, t276, rfl, ht276⟩ := p276
        obtain rfl := q276.symm
        obtain ⟨zt276, ut276⟩ := ht276.o
        show mp_J Γ m_Ma_arrange E κ N261 [(0, .ref (L 0)), (1, .int (nI 110))] 279 [.ref t276, .ref (L 13)] 0 0
        refine j_callV (As := [.ref t276]) (rest := []) (i_push Γ.l I261 hL ht276) Y_St_push w_656 w_657 w_658 u261_7m rfl rfl rfl (Nat.le_of_ble_eq_true rfl) (by omega) (by omega) (by omega) d_Ma_arrange_279 (fun v279 N279 p279 => ?_)
        obtain ⟨rfl, I279, f279⟩ := p279
        have ht258_261_7_279_8 := ht258_261_7.keep f279
        have ht276_279_8 := ht276.keep f279
        obtain ⟨z279_8m, u279_8m⟩ := I279.sm.o
        obtain ⟨z279_8o, u279_8o⟩ := I279.so.o
        obtain ⟨z279_8_t258, u279_8_t258⟩ := ht258_261_7_279_8.o
        obtain ⟨z279_8_t276, u279_8_t276⟩ := ht276_279_8.o
        show mp_J Γ m_Ma_arrange E κ N279 [(0, .ref (L 0)), (1, .int (nI 110))] 282 [.int (tf (decide ((m.getD 1 [] :: m).length < 200)))] 0 0
        refine j_tif_eq 289 d_Ma_arrange_282 (by decide) (fun b282 => ?_) (fun b282 => ?_)
        · skip
          refine j_iconst (v := nI 0) d_Ma_arrange_289 (by decide) ?_
          refine j_goto (tgt := 483) d_Ma_arrange_290 (by decide) ?_
          exact j_zret hκ rfl (by first | exact Or.inl rfl | exact Or.inr rfl) (by omega) (by omega) d_Ma_arrange_483 (MP.push0 I279 (f261.trans f279) b282 (by unfold a_arr; rw [if_neg (Nat.not_lt.mpr b11), if_neg (by omega), if_neg (by omega), if_neg (by omega), if_neg (by omega), if_neg (by omega), if_pos (by omega)]; try rfl))
        · skip
          refine j_iconst (v := nI 1) d_Ma_arrange_285 (by decide) ?_
          refine j_goto (tgt := 483) d_Ma_arrange_286 (by decide) ?_
          exact j_zret hκ rfl (by first | exact Or.inl rfl | exact Or.inr rfl) (by omega) (by omega) d_Ma_arrange_483 (MP.push1 I279 (f261.trans f279) b282 (by unfold a_arr; rw [if_neg (Nat.not_lt.mpr b11), if_neg (by omega), if_neg (by omega), if_neg (by omega), if_neg (by omega), if_neg (by omega), if_pos (by omega)]; try rfl))
    · skip
      refine j_tableIn 482 d_Ma_arrange_17 (by decide) (by decide) rfl (by decide) ?_
      refine j_iconst (v := nI 0) d_Ma_arrange_482 (by decide) ?_
      exact j_zret hκ rfl (by first | exact Or.inl rfl | exact Or.inr rfl) (by omega) (by omega) d_Ma_arrange_483 (MP.f hI mp_Fr.refl (fun s hs => by unfold a_arr at hs; rw [if_neg (Nat.not_lt.mpr b11), if_neg (by omega), if_neg (by omega), if_neg (by omega), if_neg (by omega), if_neg (by omega), if_neg (by omega), if_neg (by omega), if_neg (by omega), if_neg (by omega), if_neg (by omega), if_neg (by omega), if_neg (by omega), if_neg (by omega), if_neg (by omega), if_neg (by omega), if_neg (by omega), if_neg (by omega), if_neg (by omega)] at hs; cases hs))
    · skip
      refine j_tableIn 482 d_Ma_arrange_17 (by decide) (by decide) rfl (by decide) ?_
      refine j_iconst (v := nI 0) d_Ma_arrange_482 (by decide) ?_
      exact j_zret hκ rfl (by first | exact Or.inl rfl | exact Or.inr rfl) (by omega) (by omega) d_Ma_arrange_483 (MP.f hI mp_Fr.refl (fun s hs => by unfold a_arr at hs; rw [if_neg (Nat.not_lt.mpr b11), if_neg (by omega), if_neg (by omega), if_neg (by omega), if_neg (by omega), if_neg (by omega), if_neg (by omega), if_neg (by omega), if_neg (by omega), if_neg (by omega), if_neg (by omega), if_neg (by omega), if_neg (by omega), if_neg (by omega), if_neg (by omega), if_neg (by omega), if_neg (by omega), if_neg (by omega), if_neg (by omega)] at hs; cases hs))
    · skip
      refine j_tableIn 482 d_Ma_arrange_17 (by decide) (by decide) rfl (by decide) ?_
      refine j_iconst (v := nI 0) d_Ma_arrange_482 (by decide) ?_
      exact j_zret hκ rfl (by first | exact Or.inl rfl | exact Or.inr rfl) (by omega) (by omega) d_Ma_arrange_483 (MP.f hI mp_Fr.refl (fun s hs => by unfold a_arr at hs; rw [if_neg (Nat.not_lt.mpr b11), if_neg (by omega), if_neg (by omega), if_neg (by omega), if_neg (by omega), if_neg (by omega), if_neg (by omega), if_neg (by omega), if_neg (by omega), if_neg (by omega), if_neg (by omega), if_neg (by omega), if_neg (by omega), if_neg (by omega), if_neg (by omega), if_neg (by omega), if_neg (by omega), if_neg (by omega), if_neg (by omega)] at hs; cases hs))
    · skip
      refine j_tableIn 482 d_Ma_arrange_17 (by decide) (by decide) rfl (by decide) ?_
      refine j_iconst (v := nI 0) d_Ma_arrange_482 (by decide) ?_
      exact j_zret hκ rfl (by first | exact Or.inl rfl | exact Or.inr rfl) (by omega) (by omega) d_Ma_arrange_483 (MP.f hI mp_Fr.refl (fun s hs => by unfold a_arr at hs; rw [if_neg (Nat.not_lt.mpr b11), if_neg (by omega), if_neg (by omega), if_neg (by omega), if_neg (by omega), if_neg (by omega), if_neg (by omega), if_neg (by omega), if_neg (by omega), if_neg (by omega), if_neg (by omega), if_neg (by omega), if_neg (by omega), if_neg (by omega), if_neg (by omega), if_neg (by omega), if_neg (by omega), if_neg (by omega), if_neg (by omega)] at hs; cases hs))
    · skip
      refine j_tableIn 293 d_Ma_arrange_17 (by decide) (by decide) rfl (by decide) ?_
      have hq : 1 ≤ m.length := b11
      refine j_aload_n d_Ma_arrange_293 rfl 0 rfl ?_
      refine j_get F_Ma hI.mo 6 (by decide) w_169 (Or.inl rfl) rfl d_Ma_arrange_294 ?_
      refine j_iconst (v := nI 0) d_Ma_arrange_297 (by decide) ?_
      refine j_callV (As := [.int (nI 0)]) (rest := []) (i_peek Γ.l hI 0 (by omega)) Y_St_peek w_685 w_686 w_687 u0_m rfl rfl rfl (Nat.le_of_ble_eq_true rfl) (by omega) (by omega) (by omega) d_Ma_arrange_298 (fun v298 N298 p298 => ?_)
      obtain ⟨q298, t298, rfl, ht298⟩ := p298
      obtain rfl := q298.symm
      obtain ⟨zt298, ut298⟩ := ht298.o
      show mp_J Γ m_Ma_arrange E κ M [(0, .ref (L 0)), (1, .int (nI 115))] 301 [.ref t298] 0 0
      refine j_callV (As := []) (rest := []) (t_true Γ.l ht298) Y_Th_isTrue w_378 w_379 w_380 ut298 rfl rfl rfl (Nat.le_of_ble_eq_true rfl) (by omega) (by omega) (by omega) d_Ma_arrange_301 (fun v301 N301 p301 => ?_)
      obtain ⟨rfl, q301⟩ := p301
      obtain rfl := q301.symm
      show mp_J Γ m_Ma_arrange E κ M [(0, .ref (L 0)), (1, .int (nI 115))] 304 [.int (tf (am_true (m.getD 0 [])))] 0 0
      refine j_tif_eq 325 d_Ma_arrange_304 (by decide) (fun b304 => ?_) (fun b304 => ?_)
      · skip
        refine j_iconst (v := nI 1) d_Ma_arrange_325 (by decide) ?_
        refine j_goto (tgt := 483) d_Ma_arrange_326 (by decide) ?_
        exact j_zret hκ rfl (by first | exact Or.inl rfl | exact Or.inr rfl) (by omega) (by omega) d_Ma_arrange_483 (MP.t hI mp_Fr.refl (by unfold a_arr; rw [if_neg (Nat.not_lt.mpr b11), if_neg (by omega), if_neg (by omega), if_neg (by omega), if_neg (by omega), if_neg (by omega), if_neg (by omega), if_pos (by omega)]; rw [b304]; rfl))
      · skip
        refine j_aload_n d_Ma_arrange_307 rfl 0 rfl ?_
        refine j_get F_Ma hI.mo 6 (by decide) w_169 (Or.inl rfl) rfl d_Ma_arrange_308 ?_
        refine j_aload_n d_Ma_arrange_311 rfl 0 rfl ?_
        refine j_get F_Ma hI.mo 6 (by decide) w_169 (Or.inl rfl) rfl d_Ma_arrange_312 ?_
        refine j_iconst (v := nI 0) d_Ma_arrange_315 (by decide) ?_
        refine j_callV (As := [.int (nI 0)]) (rest := [.ref (L 13)]) (i_peek Γ.l hI 0 (by omega)) Y_St_peek w_685 w_686 w_687 u0_m rfl rfl rfl (Nat.le_of_ble_eq_true rfl) (by omega) (by omega) (by omega) d_Ma_arrange_316 (fun v316 N316 p316 => ?_)
        obtain ⟨q316, t316, rfl, ht316⟩ := p316
        obtain rfl := q316.symm
        obtain ⟨zt316, ut316⟩ := ht316.o
        show mp_J Γ m_Ma_arrange E κ M [(0, .ref (L 0)), (1, .int (nI 115))] 319 [.ref t316, .ref (L 13)] 0 0
        refine j_callV (As := [.ref t316]) (rest := []) (i_push Γ.l hI hL ht316) Y_St_push w_656 w_657 w_658 u0_m rfl rfl rfl (Nat.le_of_ble_eq_true rfl) (by omega) (by omega) (by omega) d_Ma_arrange_319 (fun v319 N319 p319 => ?_)
        obtain ⟨rfl, I319, f319⟩ := p319
        have ht298_319_9 := ht298.keep f319
        have ht316_319_9 := ht316.keep f319
        obtain ⟨z319_9m, u319_9m⟩ := I319.sm.o
        obtain ⟨z319_9o, u319_9o⟩ := I319.so.o
        obtain ⟨z319_9_t298, u319_9_t298⟩ := ht298_319_9.o
        obtain ⟨z319_9_t316, u319_9_t316⟩ := ht316_319_9.o
        show mp_J Γ m_Ma_arrange E κ N319 [(0, .ref (L 0)), (1, .int (nI 115))] 322 [.int (tf (decide (m.length < 200)))] 0 0
        refine j_tif_eq 329 d_Ma_arrange_322 (by decide) (fun b322 => ?_) (fun b322 => ?_)
        · skip
          refine j_iconst (v := nI 0) d_Ma_arrange_329 (by decide) ?_
          refine j_goto (tgt := 483) d_Ma_arrange_330 (by decide) ?_
          exact j_zret hκ rfl (by first | exact Or.inl rfl | exact Or.inr rfl) (by omega) (by omega) d_Ma_arrange_483 (MP.push0 I319 f319 b322 (by unfold a_arr; rw [if_neg (Nat.not_lt.mpr b11), if_neg (by omega), if_neg (by omega), if_neg (by omega), if_neg (by omega), if_neg (by omega), if_neg (by omega), if_pos (by omega)]; rw [b304]; rfl))
        · skip
          refine j_iconst (v := nI 1) d_Ma_arrange_325 (by decide) ?_
          refine j_goto (tgt := 483) d_Ma_arrange_326 (by decide) ?_
          exact j_zret hκ rfl (by first | exact Or.inl rfl | exact Or.inr rfl) (by omega) (by omega) d_Ma_arrange_483 (MP.push1 I319 f319 b322 (by unfold a_arr; rw [if_neg (Nat.not_lt.mpr b11), if_neg (by omega), if_neg (by omega), if_neg (by omega), if_neg (by omega), if_neg (by omega), if_neg (by omega), if_pos (by omega)]; rw [b304]; rfl))
    · skip
      refine j_tableIn 333 d_Ma_arrange_17 (by decide) (by decide) rfl (by decide) ?_
      refine j_aload_n d_Ma_arrange_333 rfl 0 rfl ?_
      refine j_aload_n d_Ma_arrange_334 rfl 0 rfl ?_
      refine j_get F_Ma hI.mo 6 (by decide) w_169 (Or.inl rfl) rfl d_Ma_arrange_335 ?_
      refine j_callV (As := []) (rest := [.ref (L 0)]) (k_count Γ.l hI.sm) Y_St_count w_677 w_214 w_215 u0_m rfl rfl rfl (Nat.le_of_ble_eq_true rfl) (by omega) (by omega) (by omega) d_Ma_arrange_338 (fun v338 N338 p338 => ?_)
      obtain ⟨rfl, q338⟩ := p338
      obtain rfl := q338.symm
      show mp_J Γ m_Ma_arrange E κ M [(0, .ref (L 0)), (1, .int (nI 116))] 341 [.int (nI m.length), .ref (L 0)] 0 0
      refine j_i2l d_Ma_arrange_341 ?_
      refine j_eql (y := lN m.length) (nI_l (by omega)) ?_
      refine j_callV (As := [.long (lN m.length)]) (rest := []) (c_Ma_pushNumber Γ.l E M X L y n zs m o b k (lN m.length) hI hL (am_mag_lt (by rw [pk_lT (by omega)]; omega))) Y_Ma_pushNumber w_669 w_671 ws_9 hI.mo rfl rfl rfl (Nat.le_of_ble_eq_true rfl) (by omega) (by omega) (by omega) d_Ma_arrange_342 (fun v342 N342 p342 => ?_)
      obtain ⟨w342, m342, o342, b342_, k342, rfl, I342, f342, T342, F342⟩ := p342
      obtain ⟨z342_10m, u342_10m⟩ := I342.sm.o
      obtain ⟨z342_10o, u342_10o⟩ := I342.so.o
      show mp_J Γ m_Ma_arrange E κ N342 [(0, .ref (L 0)), (1, .int (nI 116))] 345 [.int (tf w342)] (0 + 2) (0 + 8)
      refine j_goto (tgt := 483) d_Ma_arrange_345 (by decide) ?_
      exact j_zret hκ rfl (tf_01 _) (by omega) (by omega) d_Ma_arrange_483 (MP.k T342 F342 I342 f342 (by unfold a_arr; rw [if_neg (Nat.not_lt.mpr b11), if_neg (by omega), if_neg (by omega), if_neg (by omega), if_neg (by omega), if_neg (by omega), if_neg (by omega), if_neg (by omega), if_pos (by omega)]; try rfl))
    · skip
      refine j_tableIn 348 d_Ma_arrange_17 (by decide) (by decide) rfl (by decide) ?_
      have hq : 1 ≤ m.length := b11
      refine j_aload_n d_Ma_arrange_348 rfl 0 rfl ?_
      refine j_get F_Ma hI.mo 6 (by decide) w_169 (Or.inl rfl) rfl d_Ma_arrange_349 ?_
      refine j_iconst (v := nI 1) d_Ma_arrange_352 (by decide) ?_
      refine j_callV (As := [.int (nI 1)]) (rest := []) (i_drop Γ.l hI hL 1 (by omega)) Y_St_drop w_681 w_682 w_683 u0_m rfl rfl rfl (Nat.le_of_ble_eq_true rfl) (by omega) (by omega) (by omega) d_Ma_arrange_353 (fun v353 N353 p353 => ?_)
      obtain ⟨rfl, I353, f353⟩ := p353
      obtain ⟨z353_11m, u353_11m⟩ := I353.sm.o
      obtain ⟨z353_11o, u353_11o⟩ := I353.so.o
      show mp_J Γ m_Ma_arrange E κ N353 [(0, .ref (L 0)), (1, .int (nI 117))] 356 [.int (tf (decide (1 ≤ m.length)))] 0 0
      refine j_goto (tgt := 483) d_Ma_arrange_356 (by decide) ?_
      exact j_zret hκ rfl (tf_01 _) (by omega) (by omega) d_Ma_arrange_483 (MP.drop I353 f353 hq (by unfold a_arr; rw [if_neg (Nat.not_lt.mpr b11), if_neg (by omega), if_neg (by omega), if_neg (by omega), if_neg (by omega), if_neg (by omega), if_neg (by omega), if_neg (by omega), if_neg (by omega), if_pos (by omega)]; try rfl))
    · skip
      refine j_tableIn 359 d_Ma_arrange_17 (by decide) (by decide) rfl (by decide) ?_
      have hq : 1 ≤ m.length := b11
      refine j_aload_n d_Ma_arrange_359 rfl 0 rfl ?_
      refine j_get F_Ma hI.mo 6 (by decide) w_169 (Or.inl rfl) rfl d_Ma_arrange_360 ?_
      refine j_aload_n d_Ma_arrange_363 rfl 0 rfl ?_
      refine j_get F_Ma hI.mo 6 (by decide) w_169 (Or.inl rfl) rfl d_Ma_arrange_364 ?_
      refine j_iconst (v := nI 0) d_Ma_arrange_367 (by decide) ?_
      refine j_callV (As := [.int (nI 0)]) (rest := [.ref (L 13)]) (i_peek Γ.l hI 0 (by omega)) Y_St_peek w_685 w_686 w_687 u0_m rfl rfl rfl (Nat.le_of_ble_eq_true rfl) (by omega) (by omega) (by omega) d_Ma_arrange_368 (fun v368 N368 p368 => ?_)
      obtain ⟨q368, t368, rfl, ht368⟩ := p368
      obtain rfl := q368.symm
      obtain ⟨zt368, ut368⟩ := ht368.o
      show mp_J Γ m_Ma_arrange E κ M [(0, .ref (L 0)), (1, .int (nI 118))] 371 [.ref t368, .ref (L 13)] 0 0
      refine j_callV (As := [.ref t368]) (rest := []) (i_push Γ.l hI hL ht368) Y_St_push w_656 w_657 w_658 u0_m rfl rfl rfl (Nat.le_of_ble_eq_true rfl) (by omega) (by omega) (by omega) d_Ma_arrange_371 (fun v371 N371 p371 => ?_)
      obtain ⟨rfl, I371, f371⟩ := p371
      have ht368_371_12 := ht368.keep f371
      obtain ⟨z371_12m, u371_12m⟩ := I371.sm.o
      obtain ⟨z371_12o, u371_12o⟩ := I371.so.o
      obtain ⟨z371_12_t368, u371_12_t368⟩ := ht368_371_12.o
      show mp_J Γ m_Ma_arrange E κ N371 [(0, .ref (L 0)), (1, .int (nI 118))] 374 [.int (tf (decide (m.length < 200)))] 0 0
      refine j_goto (tgt := 483) d_Ma_arrange_374 (by decide) ?_
      exact j_zret hκ rfl (tf_01 _) (by omega) (by omega) d_Ma_arrange_483 (MP.push I371 f371 (by unfold a_arr; rw [if_neg (Nat.not_lt.mpr b11), if_neg (by omega), if_neg (by omega), if_neg (by omega), if_neg (by omega), if_neg (by omega), if_neg (by omega), if_neg (by omega), if_neg (by omega), if_neg (by omega), if_pos (by omega)]; try rfl))
    · skip
      refine j_tableIn 377 d_Ma_arrange_17 (by decide) (by decide) rfl (by decide) ?_
      have hq : 2 ≤ m.length := b11
      refine j_aload_n d_Ma_arrange_377 rfl 0 rfl ?_
      refine j_callV (As := []) (rest := []) (c_Ma_nip Γ.l E M X L y n zs m o b k hI hL (by omega)) Y_Ma_nip w_690 w_692 ws_11 hI.mo rfl rfl rfl (Nat.le_of_ble_eq_true rfl) (by omega) (by omega) (by omega) d_Ma_arrange_378 (fun v378 N378 p378 => ?_)
      obtain ⟨w378, m378, o378, b378_, k378, rfl, I378, f378, T378, F378⟩ := p378
      obtain ⟨z378_13m, u378_13m⟩ := I378.sm.o
      obtain ⟨z378_13o, u378_13o⟩ := I378.so.o
      show mp_J Γ m_Ma_arrange E κ N378 [(0, .ref (L 0)), (1, .int (nI 119))] 381 [.int (tf w378)] (0 + 0) (0 + 0)
      refine j_goto (tgt := 483) d_Ma_arrange_381 (by decide) ?_
      exact j_zret hκ rfl (tf_01 _) (by omega) (by omega) d_Ma_arrange_483 (MP.k T378 F378 I378 f378 (by unfold a_arr; rw [if_neg (Nat.not_lt.mpr b11), if_neg (by omega), if_neg (by omega), if_neg (by omega), if_neg (by omega), if_neg (by omega), if_neg (by omega), if_neg (by omega), if_neg (by omega), if_neg (by omega), if_neg (by omega), if_pos (by omega)]; try rfl))
    · skip
      refine j_tableIn 384 d_Ma_arrange_17 (by decide) (by decide) rfl (by decide) ?_
      have hq : 2 ≤ m.length := b11
      refine j_aload_n d_Ma_arrange_384 rfl 0 rfl ?_
      refine j_get F_Ma hI.mo 6 (by decide) w_169 (Or.inl rfl) rfl d_Ma_arrange_385 ?_
      refine j_aload_n d_Ma_arrange_388 rfl 0 rfl ?_
      refine j_get F_Ma hI.mo 6 (by decide) w_169 (Or.inl rfl) rfl d_Ma_arrange_389 ?_
      refine j_iconst (v := nI 1) d_Ma_arrange_392 (by decide) ?_
      refine j_callV (As := [.int (nI 1)]) (rest := [.ref (L 13)]) (i_peek Γ.l hI 1 (by omega)) Y_St_peek w_685 w_686 w_687 u0_m rfl rfl rfl (Nat.le_of_ble_eq_true rfl) (by omega) (by omega) (by omega) d_Ma_arrange_393 (fun v393 N393 p393 => ?_)
      obtain ⟨q393, t393, rfl, ht393⟩ := p393
      obtain rfl := q393.symm
      obtain ⟨zt393, ut393⟩ := ht393.o
      show mp_J Γ m_Ma_arrange E κ M [(0, .ref (L 0)), (1, .int (nI 120))] 396 [.ref t393, .ref (L 13)] 0 0
      refine j_callV (As := [.ref t393]) (rest := []) (i_push Γ.l hI hL ht393) Y_St_push w_656 w_657 w_658 u0_m rfl rfl rfl (Nat.le_of_ble_eq_true rfl) (by omega) (by omega) (by omega) d_Ma_arrange_396 (fun v396 N396 p396 => ?_)
      obtain ⟨rfl, I396, f396⟩ := p396
      have ht393_396_14 := ht393.keep f396
      obtain ⟨z396_14m, u396_14m⟩ := I396.sm.o
      obtain ⟨z396_14o, u396_14o⟩ := I396.so.o
      obtain ⟨z396_14_t393, u396_14_t393⟩ := ht393_396_14.o
      show mp_J Γ m_Ma_arrange E κ N396 [(0, .ref (L 0)), (1, .int (nI 120))] 399 [.int (tf (decide (m.length < 200)))] 0 0
      refine j_goto (tgt := 483) d_Ma_arrange_399 (by decide) ?_
      exact j_zret hκ rfl (tf_01 _) (by omega) (by omega) d_Ma_arrange_483 (MP.push I396 f396 (by unfold a_arr; rw [if_neg (Nat.not_lt.mpr b11), if_neg (by omega), if_neg (by omega), if_neg (by omega), if_neg (by omega), if_neg (by omega), if_neg (by omega), if_neg (by omega), if_neg (by omega), if_neg (by omega), if_neg (by omega), if_neg (by omega), if_pos (by omega)]; try rfl))
    · skip
      refine j_tableIn 402 d_Ma_arrange_17 (by decide) (by decide) rfl (by decide) ?_
      have hq : 2 ≤ m.length := b11
      refine j_aload_n d_Ma_arrange_402 rfl 0 rfl ?_
      refine j_iload_n d_Ma_arrange_403 rfl 1 rfl ?_
      refine j_bipush (v := nI 122) d_Ma_arrange_404 (by decide) ?_
      refine j_ncmp_ne 413 121 122 rfl rfl (by omega) (by omega) d_Ma_arrange_406 (by decide) (fun b406 => ?_) (fun b406 => absurd b406 (by omega))
      refine j_iconst (v := nI 0) d_Ma_arrange_413 (by decide) ?_
      refine j_callV (As := [.int (nI 0)]) (rest := []) (c_Ma_fetch Γ.l E M X L y n zs m o b k false hI hL (by omega)) Y_Ma_fetch w_699 w_701 ws_12 hI.mo rfl rfl rfl (Nat.le_of_ble_eq_true rfl) (by omega) (by omega) (by omega) d_Ma_arrange_414 (fun v414 N414 p414 => ?_)
      obtain ⟨w414, m414, o414, b414_, k414, rfl, I414, f414, T414, F414⟩ := p414
      obtain ⟨z414_15m, u414_15m⟩ := I414.sm.o
      obtain ⟨z414_15o, u414_15o⟩ := I414.so.o
      show mp_J Γ m_Ma_arrange E κ N414 [(0, .ref (L 0)), (1, .int (nI 121))] 417 [.int (tf w414)] (0 + 0) (0 + 0)
      refine j_goto (tgt := 483) d_Ma_arrange_417 (by decide) ?_
      exact j_zret hκ rfl (tf_01 _) (by omega) (by omega) d_Ma_arrange_483 (MP.k T414 F414 I414 f414 (by unfold a_arr; rw [if_neg (Nat.not_lt.mpr b11), if_neg (by omega), if_neg (by omega), if_neg (by omega), if_neg (by omega), if_neg (by omega), if_neg (by omega), if_neg (by omega), if_neg (by omega), if_neg (by omega), if_neg (by omega), if_neg (by omega), if_neg (by omega), if_pos (by omega)]; try rfl))
    · skip
      refine j_tableIn 402 d_Ma_arrange_17 (by decide) (by decide) rfl (by decide) ?_
      have hq : 2 ≤ m.length := b11
      refine j_aload_n d_Ma_arrange_402 rfl 0 rfl ?_
      refine j_iload_n d_Ma_arrange_403 rfl 1 rfl ?_
      refine j_bipush (v := nI 122) d_Ma_arrange_404 (by decide) ?_
      refine j_ncmp_ne 413 122 122 rfl rfl (by omega) (by omega) d_Ma_arrange_406 (by decide) (fun b406 => absurd b406 (by omega)) (fun b406 => ?_)
      refine j_iconst (v := nI 1) d_Ma_arrange_409 (by decide) ?_
      refine j_goto (tgt := 414) d_Ma_arrange_410 (by decide) ?_
      refine j_callV (As := [.int (nI 1)]) (rest := []) (c_Ma_fetch Γ.l E M X L y n zs m o b k true hI hL (by omega)) Y_Ma_fetch w_699 w_701 ws_12 hI.mo rfl rfl rfl (Nat.le_of_ble_eq_true rfl) (by omega) (by omega) (by omega) d_Ma_arrange_414 (fun v414 N414 p414 => ?_)
      obtain ⟨w414, m414, o414, b414_, k414, rfl, I414, f414, T414, F414⟩ := p414
      obtain ⟨z414_16m, u414_16m⟩ := I414.sm.o
      obtain ⟨z414_16o, u414_16o⟩ := I414.so.o
      show mp_J Γ m_Ma_arrange E κ N414 [(0, .ref (L 0)), (1, .int (nI 122))] 417 [.int (tf w414)] (0 + 0) (0 + 0)
      refine j_goto (tgt := 483) d_Ma_arrange_417 (by decide) ?_
      exact j_zret hκ rfl (tf_01 _) (by omega) (by omega) d_Ma_arrange_483 (MP.k T414 F414 I414 f414 (by unfold a_arr; rw [if_neg (Nat.not_lt.mpr b11), if_neg (by omega), if_neg (by omega), if_neg (by omega), if_neg (by omega), if_neg (by omega), if_neg (by omega), if_neg (by omega), if_neg (by omega), if_neg (by omega), if_neg (by omega), if_neg (by omega), if_neg (by omega), if_neg (by omega), if_pos (by omega)]; try rfl))
    · skip
      refine j_tableIn 420 d_Ma_arrange_17 (by decide) (by decide) rfl (by decide) ?_
      have hq : 3 ≤ m.length := b11
      refine j_aload_n d_Ma_arrange_420 rfl 0 rfl ?_
      refine j_get F_Ma hI.mo 6 (by decide) w_169 (Or.inl rfl) rfl d_Ma_arrange_421 ?_
      refine j_aload_n d_Ma_arrange_424 rfl 0 rfl ?_
      refine j_get F_Ma hI.mo 6 (by decide) w_169 (Or.inl rfl) rfl d_Ma_arrange_425 ?_
      refine j_iconst (v := nI 2) d_Ma_arrange_428 (by decide) ?_
      refine j_callV (As := [.int (nI 2)]) (rest := [.ref (L 13)]) (i_take Γ.l hI hL 2 (by omega)) Y_St_take w_694 w_695 w_696 u0_m rfl rfl rfl (Nat.le_of_ble_eq_true rfl) (by omega) (by omega) (by omega) d_Ma_arrange_429 (fun v429 N429 p429 => ?_)
      obtain ⟨t429, rfl, ht429, I429, f429⟩ := p429
      obtain ⟨z429_17m, u429_17m⟩ := I429.sm.o
      obtain ⟨z429_17o, u429_17o⟩ := I429.so.o
      obtain ⟨z429_17_t429, u429_17_t429⟩ := ht429.o
      show mp_J Γ m_Ma_arrange E κ N429 [(0, .ref (L 0)), (1, .int (nI 123))] 432 [.ref t429, .ref (L 13)] 0 0
      refine j_callV (As := [.ref t429]) (rest := []) (i_push Γ.l I429 hL ht429) Y_St_push w_656 w_657 w_658 u429_17m rfl rfl rfl (Nat.le_of_ble_eq_true rfl) (by omega) (by omega) (by omega) d_Ma_arrange_432 (fun v432 N432 p432 => ?_)
      obtain ⟨rfl, I432, f432⟩ := p432
      have ht429_432_18 := ht429.keep f432
      obtain ⟨z432_18m, u432_18m⟩ := I432.sm.o
      obtain ⟨z432_18o, u432_18o⟩ := I432.so.o
      obtain ⟨z432_18_t429, u432_18_t429⟩ := ht429_432_18.o
      show mp_J Γ m_Ma_arrange E κ N432 [(0, .ref (L 0)), (1, .int (nI 123))] 435 [.int (tf (decide ((m.eraseIdx 2).length < 200)))] 0 0
      refine j_goto (tgt := 483) d_Ma_arrange_435 (by decide) ?_
      exact j_zret hκ rfl (tf_01 _) (by omega) (by omega) d_Ma_arrange_483 (MP.push I432 (f429.trans f432) (by unfold a_arr; rw [if_neg (Nat.not_lt.mpr b11), if_neg (by omega), if_neg (by omega), if_neg (by omega), if_neg (by omega), if_neg (by omega), if_neg (by omega), if_neg (by omega), if_neg (by omega), if_neg (by omega), if_neg (by omega), if_neg (by omega), if_neg (by omega), if_neg (by omega), if_neg (by omega), if_pos (by omega)]; try rfl))
    · skip
      refine j_tableIn 438 d_Ma_arrange_17 (by decide) (by decide) rfl (by decide) ?_
      have hq : 2 ≤ m.length := b11
      refine j_aload_n d_Ma_arrange_438 rfl 0 rfl ?_
      refine j_get F_Ma hI.mo 6 (by decide) w_169 (Or.inl rfl) rfl d_Ma_arrange_439 ?_
      refine j_aload_n d_Ma_arrange_442 rfl 0 rfl ?_
      refine j_get F_Ma hI.mo 6 (by decide) w_169 (Or.inl rfl) rfl d_Ma_arrange_443 ?_
      refine j_iconst (v := nI 1) d_Ma_arrange_446 (by decide) ?_
      refine j_callV (As := [.int (nI 1)]) (rest := [.ref (L 13)]) (i_take Γ.l hI hL 1 (by omega)) Y_St_take w_694 w_695 w_696 u0_m rfl rfl rfl (Nat.le_of_ble_eq_true rfl) (by omega) (by omega) (by omega) d_Ma_arrange_447 (fun v447 N447 p447 => ?_)
      obtain ⟨t447, rfl, ht447, I447, f447⟩ := p447
      obtain ⟨z447_19m, u447_19m⟩ := I447.sm.o
      obtain ⟨z447_19o, u447_19o⟩ := I447.so.o
      obtain ⟨z447_19_t447, u447_19_t447⟩ := ht447.o
      show mp_J Γ m_Ma_arrange E κ N447 [(0, .ref (L 0)), (1, .int (nI 124))] 450 [.ref t447, .ref (L 13)] 0 0
      refine j_callV (As := [.ref t447]) (rest := []) (i_push Γ.l I447 hL ht447) Y_St_push w_656 w_657 w_658 u447_19m rfl rfl rfl (Nat.le_of_ble_eq_true rfl) (by omega) (by omega) (by omega) d_Ma_arrange_450 (fun v450 N450 p450 => ?_)
      obtain ⟨rfl, I450, f450⟩ := p450
      have ht447_450_20 := ht447.keep f450
      obtain ⟨z450_20m, u450_20m⟩ := I450.sm.o
      obtain ⟨z450_20o, u450_20o⟩ := I450.so.o
      obtain ⟨z450_20_t447, u450_20_t447⟩ := ht447_450_20.o
      show mp_J Γ m_Ma_arrange E κ N450 [(0, .ref (L 0)), (1, .int (nI 124))] 453 [.int (tf (decide ((m.eraseIdx 1).length < 200)))] 0 0
      refine j_goto (tgt := 483) d_Ma_arrange_453 (by decide) ?_
      exact j_zret hκ rfl (tf_01 _) (by omega) (by omega) d_Ma_arrange_483 (MP.push I450 (f447.trans f450) (by unfold a_arr; rw [if_neg (Nat.not_lt.mpr b11), if_neg (by omega), if_neg (by omega), if_neg (by omega), if_neg (by omega), if_neg (by omega), if_neg (by omega), if_neg (by omega), if_neg (by omega), if_neg (by omega), if_neg (by omega), if_neg (by omega), if_neg (by omega), if_neg (by omega), if_neg (by omega), if_neg (by omega), if_pos (by omega)]; try rfl))
    · skip
      refine j_tableIn 456 d_Ma_arrange_17 (by decide) (by decide) rfl (by decide) ?_
      have hq : 2 ≤ m.length := b11
      refine j_aload_n d_Ma_arrange_456 rfl 0 rfl ?_
      refine j_callV (As := []) (rest := []) (c_Ma_tuck Γ.l E M X L y n zs m o b k hI hL (by omega)) Y_Ma_tuck w_715 w_717 ws_14 hI.mo rfl rfl rfl (Nat.le_of_ble_eq_true rfl) (by omega) (by omega) (by omega) d_Ma_arrange_457 (fun v457 N457 p457 => ?_)
      obtain ⟨w457, m457, o457, b457_, k457, rfl, I457, f457, T457, F457⟩ := p457
      obtain ⟨z457_21m, u457_21m⟩ := I457.sm.o
      obtain ⟨z457_21o, u457_21o⟩ := I457.so.o
      show mp_J Γ m_Ma_arrange E κ N457 [(0, .ref (L 0)), (1, .int (nI 125))] 460 [.int (tf w457)] (0 + 0) (0 + 0)
      refine j_goto (tgt := 483) d_Ma_arrange_460 (by decide) ?_
      exact j_zret hκ rfl (tf_01 _) (by omega) (by omega) d_Ma_arrange_483 (MP.k T457 F457 I457 f457 (by unfold a_arr; rw [if_neg (Nat.not_lt.mpr b11), if_neg (by omega), if_neg (by omega), if_neg (by omega), if_neg (by omega), if_neg (by omega), if_neg (by omega), if_neg (by omega), if_neg (by omega), if_neg (by omega), if_neg (by omega), if_neg (by omega), if_neg (by omega), if_neg (by omega), if_neg (by omega), if_neg (by omega), if_neg (by omega), if_pos (by omega)]; try rfl))
    · skip
      refine j_tableIn 482 d_Ma_arrange_17 (by decide) (by decide) rfl (by decide) ?_
      refine j_iconst (v := nI 0) d_Ma_arrange_482 (by decide) ?_
      exact j_zret hκ rfl (by first | exact Or.inl rfl | exact Or.inr rfl) (by omega) (by omega) d_Ma_arrange_483 (MP.f hI mp_Fr.refl (fun s hs => by unfold a_arr at hs; rw [if_neg (Nat.not_lt.mpr b11), if_neg (by omega), if_neg (by omega), if_neg (by omega), if_neg (by omega), if_neg (by omega), if_neg (by omega), if_neg (by omega), if_neg (by omega), if_neg (by omega), if_neg (by omega), if_neg (by omega), if_neg (by omega), if_neg (by omega), if_neg (by omega), if_neg (by omega), if_neg (by omega), if_neg (by omega), if_neg (by omega)] at hs; cases hs))
    · skip
      refine j_tableIn 482 d_Ma_arrange_17 (by decide) (by decide) rfl (by decide) ?_
      refine j_iconst (v := nI 0) d_Ma_arrange_482 (by decide) ?_
      exact j_zret hκ rfl (by first | exact Or.inl rfl | exact Or.inr rfl) (by omega) (by omega) d_Ma_arrange_483 (MP.f hI mp_Fr.refl (fun s hs => by unfold a_arr at hs; rw [if_neg (Nat.not_lt.mpr b11), if_neg (by omega), if_neg (by omega), if_neg (by omega), if_neg (by omega), if_neg (by omega), if_neg (by omega), if_neg (by omega), if_neg (by omega), if_neg (by omega), if_neg (by omega), if_neg (by omega), if_neg (by omega), if_neg (by omega), if_neg (by omega), if_neg (by omega), if_neg (by omega), if_neg (by omega), if_neg (by omega)] at hs; cases hs))
    · skip
      refine j_tableIn 482 d_Ma_arrange_17 (by decide) (by decide) rfl (by decide) ?_
      refine j_iconst (v := nI 0) d_Ma_arrange_482 (by decide) ?_
      exact j_zret hκ rfl (by first | exact Or.inl rfl | exact Or.inr rfl) (by omega) (by omega) d_Ma_arrange_483 (MP.f hI mp_Fr.refl (fun s hs => by unfold a_arr at hs; rw [if_neg (Nat.not_lt.mpr b11), if_neg (by omega), if_neg (by omega), if_neg (by omega), if_neg (by omega), if_neg (by omega), if_neg (by omega), if_neg (by omega), if_neg (by omega), if_neg (by omega), if_neg (by omega), if_neg (by omega), if_neg (by omega), if_neg (by omega), if_neg (by omega), if_neg (by omega), if_neg (by omega), if_neg (by omega), if_neg (by omega)] at hs; cases hs))
    · skip
      refine j_tableIn 482 d_Ma_arrange_17 (by decide) (by decide) rfl (by decide) ?_
      refine j_iconst (v := nI 0) d_Ma_arrange_482 (by decide) ?_
      exact j_zret hκ rfl (by first | exact Or.inl rfl | exact Or.inr rfl) (by omega) (by omega) d_Ma_arrange_483 (MP.f hI mp_Fr.refl (fun s hs => by unfold a_arr at hs; rw [if_neg (Nat.not_lt.mpr b11), if_neg (by omega), if_neg (by omega), if_neg (by omega), if_neg (by omega), if_neg (by omega), if_neg (by omega), if_neg (by omega), if_neg (by omega), if_neg (by omega), if_neg (by omega), if_neg (by omega), if_neg (by omega), if_neg (by omega), if_neg (by omega), if_neg (by omega), if_neg (by omega), if_neg (by omega), if_neg (by omega)] at hs; cases hs))
    · skip
      refine j_tableIn 463 d_Ma_arrange_17 (by decide) (by decide) rfl (by decide) ?_
      have hq : 1 ≤ m.length := b11
      refine j_aload_n d_Ma_arrange_463 rfl 0 rfl ?_
      refine j_aload_n d_Ma_arrange_464 rfl 0 rfl ?_
      refine j_get F_Ma hI.mo 6 (by decide) w_169 (Or.inl rfl) rfl d_Ma_arrange_465 ?_
      refine j_iconst (v := nI 0) d_Ma_arrange_468 (by decide) ?_
      refine j_callV (As := [.int (nI 0)]) (rest := [.ref (L 0)]) (i_peek Γ.l hI 0 (by omega)) Y_St_peek w_685 w_686 w_687 u0_m rfl rfl rfl (Nat.le_of_ble_eq_true rfl) (by omega) (by omega) (by omega) d_Ma_arrange_469 (fun v469 N469 p469 => ?_)
      obtain ⟨q469, t469, rfl, ht469⟩ := p469
      obtain rfl := q469.symm
      obtain ⟨zt469, ut469⟩ := ht469.o
      show mp_J Γ m_Ma_arrange E κ M [(0, .ref (L 0)), (1, .int (nI 130))] 472 [.ref t469, .ref (L 0)] 0 0
      refine j_callV (As := []) (rest := [.ref (L 0)]) (t_len Γ.l ht469) Y_Th_length w_719 w_720 w_721 ut469 rfl rfl rfl (Nat.le_of_ble_eq_true rfl) (by omega) (by omega) (by omega) d_Ma_arrange_472 (fun v472 N472 p472 => ?_)
      obtain ⟨rfl, q472⟩ := p472
      obtain rfl := q472.symm
      show mp_J Γ m_Ma_arrange E κ M [(0, .ref (L 0)), (1, .int (nI 130))] 475 [.int (nI (m.getD 0 []).length), .ref (L 0)] 0 0
      refine j_i2l d_Ma_arrange_475 ?_
      refine j_eql (y := lN (m.getD 0 []).length) (nI_l (by have h9 := ht469.le; omega)) ?_
      refine j_callV (As := [.long (lN (m.getD 0 []).length)]) (rest := []) (c_Ma_pushNumber Γ.l E M X L y n zs m o b k (lN (m.getD 0 []).length) hI hL (am_mag_lt (by have h9 := ht469.le; rw [pk_lT (by omega)]; omega))) Y_Ma_pushNumber w_669 w_671 ws_9 hI.mo rfl rfl rfl (Nat.le_of_ble_eq_true rfl) (by omega) (by omega) (by omega) d_Ma_arrange_476 (fun v476 N476 p476 => ?_)
      obtain ⟨w476, m476, o476, b476_, k476, rfl, I476, f476, T476, F476⟩ := p476
      have ht469_476_22 := ht469.keep f476
      obtain ⟨z476_22m, u476_22m⟩ := I476.sm.o
      obtain ⟨z476_22o, u476_22o⟩ := I476.so.o
      obtain ⟨z476_22_t469, u476_22_t469⟩ := ht469_476_22.o
      show mp_J Γ m_Ma_arrange E κ N476 [(0, .ref (L 0)), (1, .int (nI 130))] 479 [.int (tf w476)] (0 + 2) (0 + 8)
      refine j_goto (tgt := 483) d_Ma_arrange_479 (by decide) ?_
      exact j_zret hκ rfl (tf_01 _) (by omega) (by omega) d_Ma_arrange_483 (MP.k T476 F476 I476 f476 (by unfold a_arr; rw [if_neg (Nat.not_lt.mpr b11), if_neg (by omega), if_neg (by omega), if_neg (by omega), if_neg (by omega), if_neg (by omega), if_neg (by omega), if_neg (by omega), if_neg (by omega), if_neg (by omega), if_neg (by omega), if_neg (by omega), if_neg (by omega), if_neg (by omega), if_neg (by omega), if_neg (by omega), if_neg (by omega), if_neg (by omega), if_pos (by omega)]; try rfl))
  · skip
    refine j_iconst (v := nI 0) d_Ma_arrange_14 (by decide) ?_
    exact j_zret hκ rfl (by first | exact Or.inl rfl | exact Or.inr rfl) (by omega) (by omega) d_Ma_arrange_15 (MP.f hI mp_Fr.refl (fun s hs => by unfold a_arr at hs; rw [if_pos b11] at hs; cases hs))
