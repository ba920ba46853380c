theorem am_nn0 {b : List Bool} (h : 0 < b.length) : ∃ x bs, b = x :: bs := by
  cases b with
  | nil => exact absurd h (by simp)
  | cons x bs => exact ⟨x, bs, rfl⟩
theorem am_low_lt : ∀ b : List Bool, am_low b = -1 ∨ ∃ j, j < b.length ∧ am_low b = nI j := by
  intro b
  induction b with
  | nil => exact Or.inl rfl
  | cons x bs ih =>
    show (if x = false ∧ am_low bs = -1 then nI bs.length else am_low bs) = -1 ∨ ∃ j, j < (x :: bs).length ∧ (if x = false ∧ am_low bs = -1 then nI bs.length else am_low bs) = nI j
    by_cases hz : x = false ∧ am_low bs = -1
    · rw [if_pos hz]
      exact Or.inr ⟨bs.length, by simp, rfl⟩
    · rw [if_neg hz]
      rcases ih with h | ⟨j, h1, h2⟩
      · exact Or.inl h
      · exact Or.inr ⟨j, by simp; omega, h2⟩
theorem am_nm1 {j : Nat} (h : j < 2 ^ 31) : nI j ≠ -1 := fun e => by
  have h1 := nI_toInt h
  rw [e] at h1
  have h2 : (-1 : Int32).toInt = -1 := by decide
  omega
theorem am_nIinj {i j : Nat} (hi : i < 2 ^ 31) (hj : j < 2 ^ 31) (e : nI i = nI j) : i = j := by
  have h1 := nI_toInt hi
  have h2 := nI_toInt hj
  rw [e] at h1
  omega
theorem am_low_ne {b : List Bool} (h : b.length < 2 ^ 31) : am_low b ≠ nI b.length := by
  rcases am_low_lt b with h1 | ⟨j, h1, h2⟩
  · rw [h1]; exact fun e => am_nm1 h e.symm
  · rw [h2]; exact fun e => by have := am_nIinj (by omega) h e; omega
theorem am_turn {x : Bool} {bs : List Bool} (h : bs.length < 2 ^ 31) : (if am_low (x :: bs) = -1 then nI bs.length else if am_low (x :: bs) = nI bs.length then -1 else am_low (x :: bs)) = am_low ((!x) :: bs) := by
  have n1 := am_nm1 h
  have n2 := am_low_ne h
  show (if (if x = false ∧ am_low bs = -1 then nI bs.length else am_low bs) = -1 then nI bs.length else if (if x = false ∧ am_low bs = -1 then nI bs.length else am_low bs) = nI bs.length then -1 else (if x = false ∧ am_low bs = -1 then nI bs.length else am_low bs)) = (if (!x) = false ∧ am_low bs = -1 then nI bs.length else am_low bs)
  by_cases hz : am_low bs = -1
  · cases x <;> simp [hz, n1]
  · cases x <;> simp [hz, n2]
theorem am_leave {x : Bool} {bs : List Bool} (h : bs.length < 2 ^ 31) : (if am_low (x :: bs) = nI bs.length then -1 else am_low (x :: bs)) = am_low bs := by
  have n1 := am_nm1 h
  have n2 := am_low_ne h
  show (if (if x = false ∧ am_low bs = -1 then nI bs.length else am_low bs) = nI bs.length then -1 else (if x = false ∧ am_low bs = -1 then nI bs.length else am_low bs)) = am_low bs
  by_cases hz : am_low bs = -1
  · cases x
    · simp [hz]
    · simp [hz]
  · cases x <;> simp [hz, n2]
section BRI
variable (l : Launch) {E : mp_E} {X : Nat → Prop} {M : mp_M} {L : Nat → Nat} {y n k : Nat} {zs m o : List am_T} {b : List Bool}
theorem i_enter (w : Bool) (h : IV E X M L y n zs m o b k) (hL : LY X L) (hb : b.length < 1000) : mp_Cr l m_Br_enter E M 1 0 0 [.ref (L 10), .int (tf w)] (fun v N => v = none ∧ IV E X N L y n zs m o (w :: b) k ∧ mp_Fr X M N) :=
  (c_Br_enter l E M (L 10) b.length (am_low b) w h.br hb).mono fun v N ⟨h1, h2⟩ => ⟨h1, h.flags hL (w :: b) h2, by rw [h2]; exact mp_Fr.up (hL.x (by omega))⟩
theorem i_bclear (h : IV E X M L y n zs m o b k) (hL : LY X L) : mp_Cr l m_Br_clear E M 1 0 0 [.ref (L 10)] (fun v N => v = none ∧ IV E X N L y n zs m o [] k ∧ mp_Fr X M N) :=
  (c_Br_clear l E M (L 10) _ _ h.br).mono fun v N ⟨h1, h2⟩ => ⟨h1, h.flags hL [] h2, by rw [h2]; exact mp_Fr.up (hL.x (by omega))⟩
theorem i_turn {x : Bool} {bs : List Bool} (h : IV E X M L y n zs m o (x :: bs) k) (hL : LY X L) (hb : bs.length < 999) : mp_Cr l m_Br_turn E M 1 0 0 [.ref (L 10)] (fun v N => v = none ∧ IV E X N L y n zs m o ((!x) :: bs) k ∧ mp_Fr X M N) :=
  (c_Br_turn l E M (L 10) (x :: bs).length _ h.br ⟨by simp, by simp; omega⟩).mono fun v N ⟨h1, h2⟩ => by
    have h3 : N = mp_up M (L 10) (mp_o 0 [.int (nI ((!x) :: bs).length), .int (am_low ((!x) :: bs))]) := by
      rw [← am_turn (by omega)]
      exact h2
    exact ⟨h1, h.flags hL _ h3, by rw [h2]; exact mp_Fr.up (hL.x (by omega))⟩
theorem i_leave {x : Bool} {bs : List Bool} (h : IV E X M L y n zs m o (x :: bs) k) (hL : LY X L) (hb : bs.length < 999) : mp_Cr l m_Br_leave E M 1 0 0 [.ref (L 10)] (fun v N => v = none ∧ IV E X N L y n zs m o bs k ∧ mp_Fr X M N) :=
  (c_Br_leave l E M (L 10) (x :: bs).length _ h.br ⟨by simp, by simp; omega⟩).mono fun v N ⟨h1, h2⟩ => by
    have h3 : N = mp_up M (L 10) (mp_o 0 [.int (nI bs.length), .int (am_low bs)]) := by
      rw [← am_leave (x := x) (by omega)]
      exact h2
    exact ⟨h1, h.flags hL _ h3, by rw [h2]; exact mp_Fr.up (hL.x (by omega))⟩
end BRI
def a_enter (wt : Bool) (m o : List am_T) (b : List Bool) (k : Nat) : Option am_St := if ¬ am_low b = -1 then some (m, o, false :: b, k) else if 0 < m.length then some (m.drop 1, o, (am_true (m.getD 0 []) == wt) :: b, k) else none
def a_br (c : Nat) (m o : List am_T) (b : List Bool) (k : Nat) : Option am_St := if c = 99 then a_enter true m o b k else if c = 100 then a_enter false m o b k else match b with
  | [] => none
  | x :: bs => if c = 103 then some (m, o, (!x) :: bs, k) else some (m, o, bs, k)
theorem am_eqt {x z : Bool} (h : tf x = tf z) : (x == z) = true := by cases x <;> cases z <;> first | rfl | exact absurd h (by decide)
theorem am_eqf {x z : Bool} (h : tf x ≠ tf z) : (x == z) = false := by cases x <;> cases z <;> first | rfl | exact absurd rfl h
set_option maxHeartbeats 4000000 in
set_option maxRecDepth 100000 in
theorem c_Ma_enter (l : Launch) (E : mp_E) (M : mp_M) (X : Nat → Prop) (L : Nat → Nat) (y n : Nat) (zs m o : List am_T) (b : List Bool) (k : Nat) (wt : Bool) (hI : IV E X M L y n zs m o b k) (hL : LY X L) (hb : b.length < 1000) : mp_Cr l m_Ma_enter E M 3 0 0 [.ref (L 0), .int (tf wt)] (MP E X M L y n zs (a_enter wt m o b k)) := by
  refine mp_Cr.of (by decide) (Nat.le_of_ble_eq_true rfl) fun Γ κ hl hκ => ?_
  subst hl
  obtain ⟨hκd, hκc, hκs, -⟩ := id hκ
  have hlm := hI.sm.le
  have hlo := hI.so.le
  obtain ⟨z0_m, u0_m⟩ := hI.sm.o
  obtain ⟨z0_o, u0_o⟩ := hI.so.o
  show mp_J Γ m_Ma_enter E κ M [(0, .ref (L 0)), (1, .int (tf wt))] 0 [] 0 0
  refine j_aload_n d_Ma_enter_0 rfl 0 rfl ?_
  refine j_get F_Ma hI.mo 3 (by decide) w_166 (Or.inl rfl) rfl d_Ma_enter_1 ?_
  refine j_callV (As := []) (rest := []) (c_Br_taken Γ.l E M (L 10) _ _ hI.br) Y_Br_taken w_362 w_363 w_364 hI.br rfl rfl rfl (Nat.le_of_ble_eq_true rfl) (by omega) (by omega) (by omega) d_Ma_enter_4 (fun v4 N4 p4 => ?_)
  obtain ⟨rfl, q4⟩ := p4
  obtain rfl := q4.symm
  show mp_J Γ m_Ma_enter E κ M [(0, .ref (L 0)), (1, .int (tf wt))] 7 [.int (tf (decide (am_low b = -1)))] 0 0
  refine j_tif_ne 20 d_Ma_enter_7 (by decide) (fun b7 => ?_) (fun b7 => ?_)
  · skip
    refine j_aload_n d_Ma_enter_20 rfl 0 rfl ?_
    refine j_get F_Ma hI.mo 6 (by decide) w_169 (Or.inl rfl) rfl d_Ma_enter_21 ?_
    refine j_iconst (v := nI 0) d_Ma_enter_24 (by decide) ?_
    refine j_callV (As := [.int (nI 0)]) (rest := []) (k_holds Γ.l hI.sm 0 (by omega)) Y_St_holds w_370 w_371 w_372 u0_m rfl rfl rfl (Nat.le_of_ble_eq_true rfl) (by omega) (by omega) (by omega) d_Ma_enter_25 (fun v25 N25 p25 => ?_)
    obtain ⟨rfl, q25⟩ := p25
    obtain rfl := q25.symm
    show mp_J Γ m_Ma_enter E κ M [(0, .ref (L 0)), (1, .int (tf wt))] 28 [.int (tf (decide (0 < m.length)))] 0 0
    refine j_tif_ne 33 d_Ma_enter_28 (by decide) (fun b28 => ?_) (fun b28 => ?_)
    · skip
      have hm0 := of_decide_eq_true b28
      refine j_aload_n d_Ma_enter_33 rfl 0 rfl ?_
      refine j_get F_Ma hI.mo 3 (by decide) w_166 (Or.inl rfl) rfl d_Ma_enter_34 ?_
      refine j_aload_n d_Ma_enter_37 rfl 0 rfl ?_
      refine j_get F_Ma hI.mo 6 (by decide) w_169 (Or.inl rfl) rfl d_Ma_enter_38 ?_
      refine j_callV (As := []) (rest := [.ref (L 10)]) (i_popd Γ.l (j := 0) hI hL (by omega)) Y_St_pop w_374 w_375 w_376 u0_m rfl rfl rfl (Nat.le_of_ble_eq_true rfl) (by omega) (by omega) (by omega) d_Ma_enter_41 (fun v41 N41 p41 => ?_)
      obtain ⟨t41, rfl, ht41, I41x, f41⟩ := p41
      have I41 : IV E X N41 L y n zs (m.drop 1) o b k := I41x
      obtain ⟨z41_1m, u41_1m⟩ := I41.sm.o
      obtain ⟨z41_1o, u41_1o⟩ := I41.so.o
      obtain ⟨z41_1_t41, u41_1_t41⟩ := ht41.o
      show mp_J Γ m_Ma_enter E κ N41 [(0, .ref (L 0)), (1, .int (tf wt))] 44 [.ref t41, .ref (L 10)] 0 0
      refine j_callV (As := []) (rest := [.ref (L 10)]) (t_true Γ.l ht41) Y_Th_isTrue w_378 w_379 w_380 u41_1_t41 rfl rfl rfl (Nat.le_of_ble_eq_true rfl) (by omega) (by omega) (by omega) d_Ma_enter_44 (fun v44 N44 p44 => ?_)
      obtain ⟨rfl, q44⟩ := p44
      obtain rfl := q44.symm
      show mp_J Γ m_Ma_enter E κ N41 [(0, .ref (L 0)), (1, .int (tf wt))] 47 [.int (tf (am_true (m.getD 0 []))), .ref (L 10)] 0 0
      refine j_iload_n d_Ma_enter_47 rfl 1 rfl ?_
      refine j_icmp_ne 55 d_Ma_enter_48 (by decide) (fun b48 => ?_) (fun b48 => ?_)
      · skip
        refine j_iconst (v := nI 0) d_Ma_enter_55 (by decide) ?_
        refine j_callV (As := [.int (nI 0)]) (rest := []) (i_enter Γ.l false I41 hL hb) Y_Br_enter w_366 w_367 w_368 I41.br rfl rfl rfl (Nat.le_of_ble_eq_true rfl) (by omega) (by omega) (by omega) d_Ma_enter_56 (fun v56 N56 p56 => ?_)
        obtain ⟨rfl, I56, f56⟩ := p56
        have ht41_56_2 := ht41.keep f56
        obtain ⟨z56_2m, u56_2m⟩ := I56.sm.o
        obtain ⟨z56_2o, u56_2o⟩ := I56.so.o
        obtain ⟨z56_2_t41, u56_2_t41⟩ := ht41_56_2.o
        show mp_J Γ m_Ma_enter E κ N56 [(0, .ref (L 0)), (1, .int (tf wt))] 59 [] 0 0
        refine j_iconst (v := nI 1) d_Ma_enter_59 (by decide) ?_
        exact j_zret hκ rfl (by first | exact Or.inl rfl | exact Or.inr rfl) (by omega) (by omega) d_Ma_enter_60 (MP.t I56 (f41.trans f56) (by unfold a_enter; rw [if_neg (fun h => h (of_decide_eq_true b7)), if_pos (of_decide_eq_true b28)]; first | rw [am_eqt b48] | rw [am_eqf b48]))
      · skip
        refine j_iconst (v := nI 1) d_Ma_enter_51 (by decide) ?_
        refine j_goto (tgt := 56) d_Ma_enter_52 (by decide) ?_
        refine j_callV (As := [.int (nI 1)]) (rest := []) (i_enter Γ.l true I41 hL hb) Y_Br_enter w_366 w_367 w_368 I41.br rfl rfl rfl (Nat.le_of_ble_eq_true rfl) (by omega) (by omega) (by omega) d_Ma_enter_56 (fun v56 N56 p56 => ?_)
        obtain ⟨rfl, I56, f56⟩ := p56
        have ht41_56_3 := ht41.keep f56
        obtain ⟨z56_3m, u56_3m⟩ := I56.sm.o
        obtain ⟨z56_3o, u56_3o⟩ := I56.so.o
        obtain ⟨z56_3_t41, u56_3_t41⟩ := ht41_56_3.o
        show mp_J Γ m_Ma_enter E κ N56 [(0, .ref (L 0)), (1, .int (tf wt))] 59 [] 0 0
        refine j_iconst (v := nI 1) d_Ma_enter_59 (by decide) ?_
        exact j_zret hκ rfl (by first | exact Or.inl rfl | exact Or.inr rfl) (by omega) (by omega) d_Ma_enter_60 (MP.t I56 (f41.trans f56) (by unfold a_enter; rw [if_neg (fun h => h (of_decide_eq_true b7)), if_pos (of_decide_eq_true b28)]; first | rw [am_eqt b48] | rw [am_eqf b48]))
    · skip
      refine j_iconst (v := nI 0) d_Ma_enter_31 (by decide) ?_
      exact j_zret hκ rfl (by first | exact Or.inl rfl | exact Or.inr rfl) (by omega) (by omega) d_Ma_enter_32 (MP.f hI mp_Fr.refl (fun s hs => by unfold a_enter at hs; rw [if_neg (fun h => h (of_decide_eq_true b7)), if_neg (of_decide_eq_false b28)] at hs; cases hs))
  · skip
    refine j_aload_n d_Ma_enter_10 rfl 0 rfl ?_
    refine j_get F_Ma hI.mo 3 (by decide) w_166 (Or.inl rfl) rfl d_Ma_enter_11 ?_
    refine j_iconst (v := nI 0) d_Ma_enter_14 (by decide) ?_
    refine j_callV (As := [.int (nI 0)]) (rest := []) (i_enter Γ.l false hI hL hb) Y_Br_enter w_366 w_367 w_368 hI.br rfl rfl rfl (Nat.le_of_ble_eq_true rfl) (by omega) (by omega) (by omega) d_Ma_enter_15 (fun v15 N15 p15 => ?_)
    obtain ⟨rfl, I15, f15⟩ := p15
    obtain ⟨z15_4m, u15_4m⟩ := I15.sm.o
    obtain ⟨z15_4o, u15_4o⟩ := I15.so.o
    show mp_J Γ m_Ma_enter E κ N15 [(0, .ref (L 0)), (1, .int (tf wt))] 18 [] 0 0
    refine j_iconst (v := nI 1) d_Ma_enter_18 (by decide) ?_
    exact j_zret hκ rfl (by first | exact Or.inl rfl | exact Or.inr rfl) (by omega) (by omega) d_Ma_enter_19 (MP.t I15 f15 (by unfold a_enter; rw [if_pos (of_decide_eq_false b7)]))

set_option maxHeartbeats 4000000 in
set_option maxRecDepth 100000 in
theorem c_Ma_branch (l : Launch) (E : mp_E) (M : mp_M) (X : Nat → Prop) (L : Nat → Nat) (y n : Nat) (zs m o : List am_T) (b : List Bool) (k : Nat) (c : Nat) (hI : IV E X M L y n zs m o b k) (hL : LY X L) (hb : b.length < 1000) (hc : c = 99 ∨ c = 100 ∨ c = 103 ∨ c = 104) : mp_Cr l m_Ma_branch E M 4 0 0 [.ref (L 0), .int (nI c)] (MP E X M L y n zs (a_br c m o b k)) := by
  refine mp_Cr.of (by decide) (Nat.le_of_ble_eq_true rfl) fun Γ κ hl hκ => ?_
  subst hl
  obtain ⟨hκd, hκc, hκs, -⟩ := id hκ
  have hlm := hI.sm.le
  have hlo := hI.so.le
  obtain ⟨z0_m, u0_m⟩ := hI.sm.o
  obtain ⟨z0_o, u0_o⟩ := hI.so.o
  show mp_J Γ m_Ma_branch E κ M [(0, .ref (L 0)), (1, .int (nI c))] 0 [] 0 0
  refine j_iload_n d_Ma_branch_0 rfl 1 rfl ?_
  refine j_bipush (v := nI 99) d_Ma_branch_1 (by decide) ?_
  refine j_ncmp_eq 12 c 99 rfl rfl (by omega) (by omega) d_Ma_branch_3 (by decide) (fun b3 => ?_) (fun b3 => ?_)
  · skip
    refine j_aload_n d_Ma_branch_12 rfl 0 rfl ?_
    refine j_iload_n d_Ma_branch_13 rfl 1 rfl ?_
    refine j_bipush (v := nI 99) d_Ma_branch_14 (by decide) ?_
    refine j_ncmp_ne 23 c 99 rfl rfl (by omega) (by omega) d_Ma_branch_16 (by decide) (fun b16 => ?_) (fun b16 => ?_)
    · skip
      refine j_iconst (v := nI 0) d_Ma_branch_23 (by decide) ?_
      refine j_callV (As := [.int (nI 0)]) (rest := []) (c_Ma_enter Γ.l E M X L y n zs m o b k false hI hL hb) Y_Ma_enter w_358 w_360 ws_5 hI.mo rfl rfl rfl (Nat.le_of_ble_eq_true rfl) (by omega) (by omega) (by omega) d_Ma_branch_24 (fun v24 N24 p24 => ?_)
      obtain ⟨w24, m24, o24, b24_, k24, rfl, I24, f24, T24, F24⟩ := p24
      obtain ⟨z24_1m, u24_1m⟩ := I24.sm.o
      obtain ⟨z24_1o, u24_1o⟩ := I24.so.o
      show mp_J Γ m_Ma_branch E κ N24 [(0, .ref (L 0)), (1, .int (nI c))] 27 [.int (tf w24)] (0 + 0) (0 + 0)
      exact j_zret hκ rfl (tf_01 _) (by omega) (by omega) d_Ma_branch_27 (MP.k T24 F24 I24 f24 (by unfold a_br; first | exact absurd b3 b16 | rw [if_pos (by omega)] | rw [if_neg (by omega), if_pos (by omega)]))
    · skip
      refine j_iconst (v := nI 1) d_Ma_branch_19 (by decide) ?_
      refine j_goto (tgt := 24) d_Ma_branch_20 (by decide) ?_
      refine j_callV (As := [.int (nI 1)]) (rest := []) (c_Ma_enter Γ.l E M X L y n zs m o b k true hI hL hb) Y_Ma_enter w_358 w_360 ws_5 hI.mo rfl rfl rfl (Nat.le_of_ble_eq_true rfl) (by omega) (by omega) (by omega) d_Ma_branch_24 (fun v24 N24 p24 => ?_)
      obtain ⟨w24, m24, o24, b24_, k24, rfl, I24, f24, T24, F24⟩ := p24
      obtain ⟨z24_2m, u24_2m⟩ := I24.sm.o
      obtain ⟨z24_2o, u24_2o⟩ := I24.so.o
      show mp_J Γ m_Ma_branch E κ N24 [(0, .ref (L 0)), (1, .int (nI c))] 27 [.int (tf w24)] (0 + 0) (0 + 0)
      exact j_zret hκ rfl (tf_01 _) (by omega) (by omega) d_Ma_branch_27 (MP.k T24 F24 I24 f24 (by unfold a_br; first | exact absurd b3 b16 | rw [if_pos (by omega)] | rw [if_neg (by omega), if_pos (by omega)]))
  · skip
    refine j_iload_n d_Ma_branch_6 rfl 1 rfl ?_
    refine j_bipush (v := nI 100) d_Ma_branch_7 (by decide) ?_
    refine j_ncmp_ne 28 c 100 rfl rfl (by omega) (by omega) d_Ma_branch_9 (by decide) (fun b9 => ?_) (fun b9 => ?_)
    · skip
      refine j_aload_n d_Ma_branch_28 rfl 0 rfl ?_
      refine j_get F_Ma hI.mo 3 (by decide) w_166 (Or.inl rfl) rfl d_Ma_branch_29 ?_
      refine j_callV (As := []) (rest := []) (c_Br_anyOpen Γ.l E M (L 10) b.length _ hI.br (by omega)) Y_Br_anyOpen w_386 w_387 w_388 hI.br rfl rfl rfl (Nat.le_of_ble_eq_true rfl) (by omega) (by omega) (by omega) d_Ma_branch_32 (fun v32 N32 p32 => ?_)
      obtain ⟨rfl, q32⟩ := p32
      obtain rfl := q32.symm
      show mp_J Γ m_Ma_branch E κ M [(0, .ref (L 0)), (1, .int (nI c))] 35 [.int (tf (decide (0 < b.length)))] 0 0
      refine j_tif_ne 40 d_Ma_branch_35 (by decide) (fun b35 => ?_) (fun b35 => ?_)
      · skip
        obtain ⟨x, bs, rfl⟩ := am_nn0 (of_decide_eq_true b35)
        refine j_iload_n d_Ma_branch_40 rfl 1 rfl ?_
        refine j_bipush (v := nI 103) d_Ma_branch_41 (by decide) ?_
        refine j_ncmp_ne 56 c 103 rfl rfl (by omega) (by omega) d_Ma_branch_43 (by decide) (fun b43 => ?_) (fun b43 => ?_)
        · skip
          refine j_aload_n d_Ma_branch_56 rfl 0 rfl ?_
          refine j_get F_Ma hI.mo 3 (by decide) w_166 (Or.inl rfl) rfl d_Ma_branch_57 ?_
          refine j_callV (As := []) (rest := []) (i_leave Γ.l hI hL (by simp at hb ⊢; omega)) Y_Br_leave w_394 w_395 w_396 hI.br rfl rfl rfl (Nat.le_of_ble_eq_true rfl) (by omega) (by omega) (by omega) d_Ma_branch_60 (fun v60 N60 p60 => ?_)
          obtain ⟨rfl, I60, f60⟩ := p60
          obtain ⟨z60_3m, u60_3m⟩ := I60.sm.o
          obtain ⟨z60_3o, u60_3o⟩ := I60.so.o
          show mp_J Γ m_Ma_branch E κ N60 [(0, .ref (L 0)), (1, .int (nI c))] 63 [] 0 0
          refine j_iconst (v := nI 1) d_Ma_branch_63 (by decide) ?_
          exact j_zret hκ rfl (by first | exact Or.inl rfl | exact Or.inr rfl) (by omega) (by omega) d_Ma_branch_64 (MP.t I60 f60 (by unfold a_br; rw [if_neg (by omega), if_neg (by omega)]; simp only; rw [if_neg b43]))
        · skip
          refine j_aload_n d_Ma_branch_46 rfl 0 rfl ?_
          refine j_get F_Ma hI.mo 3 (by decide) w_166 (Or.inl rfl) rfl d_Ma_branch_47 ?_
          refine j_callV (As := []) (rest := []) (i_turn Γ.l hI hL (by simp at hb ⊢; omega)) Y_Br_turn w_390 w_391 w_392 hI.br rfl rfl rfl (Nat.le_of_ble_eq_true rfl) (by omega) (by omega) (by omega) d_Ma_branch_50 (fun v50 N50 p50 => ?_)
          obtain ⟨rfl, I50, f50⟩ := p50
          obtain ⟨z50_4m, u50_4m⟩ := I50.sm.o
          obtain ⟨z50_4o, u50_4o⟩ := I50.so.o
          show mp_J Γ m_Ma_branch E κ N50 [(0, .ref (L 0)), (1, .int (nI c))] 53 [] 0 0
          refine j_goto (tgt := 63) d_Ma_branch_53 (by decide) ?_
          refine j_iconst (v := nI 1) d_Ma_branch_63 (by decide) ?_
          exact j_zret hκ rfl (by first | exact Or.inl rfl | exact Or.inr rfl) (by omega) (by omega) d_Ma_branch_64 (MP.t I50 f50 (by unfold a_br; rw [if_neg (by omega), if_neg (by omega)]; simp only; rw [if_pos b43]))
      · skip
        refine j_iconst (v := nI 0) d_Ma_branch_38 (by decide) ?_
        exact j_zret hκ rfl (by first | exact Or.inl rfl | exact Or.inr rfl) (by omega) (by omega) d_Ma_branch_39 (MP.f hI mp_Fr.refl (fun s hs => by unfold a_br at hs; rw [if_neg (by omega), if_neg (by omega)] at hs; have h0 : b = [] := List.length_eq_zero_iff.mp (by have h9 := of_decide_eq_false b35; omega); rw [h0] at hs; cases hs))
    · skip
      refine j_aload_n d_Ma_branch_12 rfl 0 rfl ?_
      refine j_iload_n d_Ma_branch_13 rfl 1 rfl ?_
      refine j_bipush (v := nI 99) d_Ma_branch_14 (by decide) ?_
      refine j_ncmp_ne 23 c 99 rfl rfl (by omega) (by omega) d_Ma_branch_16 (by decide) (fun b16 => ?_) (fun b16 => ?_)
      · skip
        refine j_iconst (v := nI 0) d_Ma_branch_23 (by decide) ?_
        refine j_callV (As := [.int (nI 0)]) (rest := []) (c_Ma_enter Γ.l E M X L y n zs m o b k false hI hL hb) Y_Ma_enter w_358 w_360 ws_5 hI.mo rfl rfl rfl (Nat.le_of_ble_eq_true rfl) (by omega) (by omega) (by omega) d_Ma_branch_24 (fun v24 N24 p24 => ?_)
        obtain ⟨w24, m24, o24, b24_, k24, rfl, I24, f24, T24, F24⟩ := p24
        obtain ⟨z24_5m, u24_5m⟩ := I24.sm.o
        obtain ⟨z24_5o, u24_5o⟩ := I24.so.o
        show mp_J Γ m_Ma_branch E κ N24 [(0, .ref (L 0)), (1, .int (nI c))] 27 [.int (tf w24)] (0 + 0) (0 + 0)
        exact j_zret hκ rfl (tf_01 _) (by omega) (by omega) d_Ma_branch_27 (MP.k T24 F24 I24 f24 (by unfold a_br; first | exact absurd b3 b16 | rw [if_pos (by omega)] | rw [if_neg (by omega), if_pos (by omega)]))
      · skip
        refine j_iconst (v := nI 1) d_Ma_branch_19 (by decide) ?_
        refine j_goto (tgt := 24) d_Ma_branch_20 (by decide) ?_
        refine j_callV (As := [.int (nI 1)]) (rest := []) (c_Ma_enter Γ.l E M X L y n zs m o b k true hI hL hb) Y_Ma_enter w_358 w_360 ws_5 hI.mo rfl rfl rfl (Nat.le_of_ble_eq_true rfl) (by omega) (by omega) (by omega) d_Ma_branch_24 (fun v24 N24 p24 => ?_)
        obtain ⟨w24, m24, o24, b24_, k24, rfl, I24, f24, T24, F24⟩ := p24
        obtain ⟨z24_6m, u24_6m⟩ := I24.sm.o
        obtain ⟨z24_6o, u24_6o⟩ := I24.so.o
        show mp_J Γ m_Ma_branch E κ N24 [(0, .ref (L 0)), (1, .int (nI c))] 27 [.int (tf w24)] (0 + 0) (0 + 0)
        exact j_zret hκ rfl (tf_01 _) (by omega) (by omega) d_Ma_branch_27 (MP.k T24 F24 I24 f24 (by unfold a_br; first | exact absurd b3 b16 | rw [if_pos (by omega)] | rw [if_neg (by omega), if_pos (by omega)]))
