def th_p (m : Nat) (f : Nat → Int32) (i : Nat) : Bool := decide (¬ f i = 0 ∧ ¬ (i + 1 = m ∧ ub (f i) = 128))
def th_true (m : Nat) (f : Nat → Int32) : Bool := (List.range m).any (th_p m f)
theorem th_none {m : Nat} {f : Nat → Int32} (h : ∀ j, j < m → th_p m f j = false) : th_true m f = false := by
  unfold th_true
  rw [List.any_eq_false]
  intro j hj
  rw [h j (List.mem_range.mp hj)]
  decide
theorem th_some {m i : Nat} {f : Nat → Int32} (hi : i < m) (h : th_p m f i = true) : th_true m f = true := by
  unfold th_true
  rw [List.any_eq_true]
  exact ⟨i, List.mem_range.mpr hi, h⟩
theorem th_atI {m j : Nat} {f : Nat → Int32} (h : j < m) : th_at m f j = ub (f j) := if_pos h
theorem th_at_lt (m : Nat) (f : Nat → Int32) (j : Nat) : th_at m f j < 256 := by
  unfold th_at
  have := ub_lt (f j)
  split <;> omega

set_option maxHeartbeats 4000000 in
set_option maxRecDepth 100000 in
theorem lp_Th_isTrue {Γ : mp_G} {κ : mp_K} (E : mp_E) (M : mp_M) (h b m : Nat) (f : Nat → Int32) (h0 : M h = some (mp_o 5 [.ref b])) (h1 : M b = some (mp_b E m f)) (hm : m ≤ 1000) (hκ : mp_k κ 2 0 0 (fun v N => v = some (.int (tf (th_true m f))) ∧ N = M)) : ∀ (r : Nat) (i : Nat), m - i < r → (i ≤ m) → (∀ j, j < i → th_p m f j = false) → mp_J Γ m_Th_isTrue E κ M [(0, .ref h), (1, .int (nI i))] 2 [] 0 0 := by
  obtain ⟨hκd, hκc, hκs, -⟩ := id hκ
  intro r
  induction r with
  | zero => intro i hr; exact absurd hr (Nat.not_lt_zero _)
  | succ r ih =>
    intro i hr hi hq
    refine j_iload_n d_Th_isTrue_2 rfl 1 rfl ?_
    refine j_aload_n d_Th_isTrue_3 rfl 0 rfl ?_
    refine j_get F_Th h0 0 (by decide) w_116 (Or.inl rfl) rfl d_Th_isTrue_4 ?_
    refine j_alen 0 h1 rfl d_Th_isTrue_7 ?_
    show mp_J Γ m_Th_isTrue E κ M [(0, .ref h), (1, .int (nI i))] 8 [.int (nI m), .int (nI i)] 0 0
    refine j_ncmp_ge 60 i m rfl rfl (by omega) (by omega) d_Th_isTrue_8 (by decide) (fun b8 => ?_) (fun b8 => ?_)
    · skip
      refine j_iconst (v := nI 0) d_Th_isTrue_60 (by decide) ?_
      exact j_zret hκ rfl (by first | exact Or.inl rfl | exact Or.inr rfl) (by omega) (by omega) d_Th_isTrue_61 ⟨rb_0 (th_none (fun j hj => hq j (by omega))), rfl⟩
    · skip
      refine j_iload_n d_Th_isTrue_11 rfl 1 rfl ?_
      refine j_aload_n d_Th_isTrue_12 rfl 0 rfl ?_
      refine j_get F_Th h0 0 (by decide) w_116 (Or.inl rfl) rfl d_Th_isTrue_13 ?_
      refine j_alen 0 h1 rfl d_Th_isTrue_16 ?_
      show mp_J Γ m_Th_isTrue E κ M [(0, .ref h), (1, .int (nI i))] 17 [.int (nI m), .int (nI i)] 0 0
      refine j_iconst (v := nI 1) d_Th_isTrue_17 (by decide) ?_
      refine j_isub d_Th_isTrue_18 ?_
      refine j_eqi (y := nI (m - 1)) (pk_sub (by omega)) ?_
      refine j_ncmp_ne 26 i (m - 1) rfl rfl (by omega) (by omega) d_Th_isTrue_19 (by decide) (fun b19 => ?_) (fun b19 => ?_)
      · skip
        refine j_iconst (v := nI 0) d_Th_isTrue_26 (by decide) ?_
        refine j_istore_n [(2, .int (nI 0)), (0, .ref h), (1, .int (nI i))] d_Th_isTrue_27 rfl (by decide) rfl ?_
        refine j_aload_n d_Th_isTrue_28 rfl 1 rfl ?_
        refine j_get F_Th h0 0 (by decide) w_116 (Or.inl rfl) rfl d_Th_isTrue_29 ?_
        refine j_iload_n d_Th_isTrue_32 rfl 2 rfl ?_
        refine j_bald h1 i rfl (by omega) (by omega) d_Th_isTrue_33 ?_
        refine j_if_eq 54 d_Th_isTrue_34 (by decide) (fun b34 => ?_) (fun b34 => ?_)
        · skip
          refine j_iinc (v := nI (i + 1)) [(1, .int (nI (i + 1))), (2, .int (nI 0)), (0, .ref h)] d_Th_isTrue_54 2 rfl (nI_add i 1) (by decide) rfl ?_
          refine j_goto (tgt := 2) d_Th_isTrue_57 (by decide) ?_
          refine j_lv [2, 0] rfl ?_
          exact ih (i + 1) (by omega) (by omega) (lt_s hq (decide_eq_false (fun hz => by first | exact hz.1 b34 | exact hz.2 ⟨by omega, by omega⟩)))
        · skip
          refine j_iload_n d_Th_isTrue_37 rfl 0 rfl ?_
          refine j_nif_eq 52 0 rfl (by omega) d_Th_isTrue_38 (by decide) (fun b38 => ?_) (fun b38 => absurd rfl b38)
          refine j_iconst (v := nI 1) d_Th_isTrue_52 (by decide) ?_
          exact j_zret hκ rfl (by first | exact Or.inl rfl | exact Or.inr rfl) (by omega) (by omega) d_Th_isTrue_53 ⟨rb_1 (th_some (i := i) (by omega) (decide_eq_true ⟨by assumption, by omega⟩)), rfl⟩
      · skip
        refine j_iconst (v := nI 1) d_Th_isTrue_22 (by decide) ?_
        refine j_goto (tgt := 27) d_Th_isTrue_23 (by decide) ?_
        refine j_istore_n [(2, .int (nI 1)), (0, .ref h), (1, .int (nI i))] d_Th_isTrue_27 rfl (by decide) rfl ?_
        refine j_aload_n d_Th_isTrue_28 rfl 1 rfl ?_
        refine j_get F_Th h0 0 (by decide) w_116 (Or.inl rfl) rfl d_Th_isTrue_29 ?_
        refine j_iload_n d_Th_isTrue_32 rfl 2 rfl ?_
        refine j_bald h1 i rfl (by omega) (by omega) d_Th_isTrue_33 ?_
        refine j_if_eq 54 d_Th_isTrue_34 (by decide) (fun b34 => ?_) (fun b34 => ?_)
        · skip
          refine j_iinc (v := nI (i + 1)) [(1, .int (nI (i + 1))), (2, .int (nI 1)), (0, .ref h)] d_Th_isTrue_54 2 rfl (nI_add i 1) (by decide) rfl ?_
          refine j_goto (tgt := 2) d_Th_isTrue_57 (by decide) ?_
          refine j_lv [2, 0] rfl ?_
          exact ih (i + 1) (by omega) (by omega) (lt_s hq (decide_eq_false (fun hz => by first | exact hz.1 b34 | exact hz.2 ⟨by omega, by omega⟩)))
        · skip
          refine j_iload_n d_Th_isTrue_37 rfl 0 rfl ?_
          refine j_nif_eq 52 1 rfl (by omega) d_Th_isTrue_38 (by decide) (fun b38 => absurd b38 (by decide)) (fun b38 => ?_)
          refine j_aload_n d_Th_isTrue_41 rfl 1 rfl ?_
          refine j_iload_n d_Th_isTrue_42 rfl 2 rfl ?_
          refine j_callV (As := [.int (nI i)]) (rest := []) (c_Th_byteAt Γ.l E M h b m i f h0 h1 hm (by omega)) Y_Th_byteAt w_382 w_383 w_384 h0 rfl rfl rfl (Nat.le_of_ble_eq_true rfl) (by omega) (by omega) (by omega) d_Th_isTrue_43 (fun v43 N43 p43 => ?_)
          obtain ⟨rfl, q43⟩ := p43
          obtain rfl := q43.symm
          show mp_J Γ m_Th_isTrue E κ M [(2, .int (nI 1)), (0, .ref h), (1, .int (nI i))] 46 [.int (nI (th_at m f i))] 0 0
          have hu := th_at_lt m f i
          have hua : th_at m f i = ub (f i) := th_atI (by omega)
          refine j_sipush (v := nI 128) d_Th_isTrue_46 (by decide) ?_
          refine j_ncmp_eq 54 (th_at m f i) 128 rfl rfl (by omega) (by omega) d_Th_isTrue_49 (by decide) (fun b49 => ?_) (fun b49 => ?_)
          · skip
            refine j_iinc (v := nI (i + 1)) [(1, .int (nI (i + 1))), (2, .int (nI 1)), (0, .ref h)] d_Th_isTrue_54 2 rfl (nI_add i 1) (by decide) rfl ?_
            refine j_goto (tgt := 2) d_Th_isTrue_57 (by decide) ?_
            refine j_lv [2, 0] rfl ?_
            exact ih (i + 1) (by omega) (by omega) (lt_s hq (decide_eq_false (fun hz => by first | exact hz.1 b34 | exact hz.2 ⟨by omega, by omega⟩)))
          · skip
            refine j_iconst (v := nI 1) d_Th_isTrue_52 (by decide) ?_
            exact j_zret hκ rfl (by first | exact Or.inl rfl | exact Or.inr rfl) (by omega) (by omega) d_Th_isTrue_53 ⟨rb_1 (th_some (i := i) (by omega) (decide_eq_true ⟨by assumption, by omega⟩)), rfl⟩

set_option maxHeartbeats 4000000 in
set_option maxRecDepth 100000 in
theorem c_Th_isTrue (l : Launch) (E : mp_E) (M : mp_M) (h b m : Nat) (f : Nat → Int32) (h0 : M h = some (mp_o 5 [.ref b])) (h1 : M b = some (mp_b E m f)) (hm : m ≤ 1000) : mp_Cr l m_Th_isTrue E M 2 0 0 [.ref h] (fun v N => v = some (.int (tf (th_true m f))) ∧ N = M) := by
  refine mp_Cr.of (by decide) (Nat.le_of_ble_eq_true rfl) fun Γ κ hl hκ => ?_
  subst hl
  obtain ⟨hκd, hκc, hκs, -⟩ := id hκ
  show mp_J Γ m_Th_isTrue E κ M [(0, .ref h)] 0 [] 0 0
  refine j_iconst (v := nI 0) d_Th_isTrue_0 (by decide) ?_
  refine j_istore_n [(1, .int (nI 0)), (0, .ref h)] d_Th_isTrue_1 rfl (by decide) rfl ?_
  refine j_lv [1, 0] rfl ?_
  exact lp_Th_isTrue E M h b m f h0 h1 hm hκ (m + 1) 0 (by omega) (Nat.zero_le _) (fun j hj => absurd hj (Nat.not_lt_zero _))

def th_low (f : Nat → Int32) : Nat → Nat
  | 0 => 0
  | i + 1 => th_low f i + ub (f i) * 2 ^ (8 * i)
theorem th_low_lt (f : Nat → Int32) : ∀ i, th_low f i < 2 ^ (8 * i)
  | 0 => Nat.zero_lt_one
  | i + 1 => by
    have h1 := th_low_lt f i
    have h2 := ub_lt (f i)
    have h3 : 2 ^ (8 * (i + 1)) = 256 * 2 ^ (8 * i) := by rw [show 8 * (i + 1) = 8 * i + 8 by omega, Nat.pow_add]; omega
    have h4 : ub (f i) * 2 ^ (8 * i) ≤ 255 * 2 ^ (8 * i) := Nat.mul_le_mul_right _ (by omega)
    show th_low f i + ub (f i) * 2 ^ (8 * i) < _
    rw [h3]
    omega
def th_mag (m : Nat) (f : Nat → Int32) : Nat := if m = 0 then 0 else th_low f (m - 1) + ub (f (m - 1)) % 128 * 2 ^ (8 * (m - 1))
def th_neg (m : Nat) (f : Nat → Int32) : Bool := decide (0 < m ∧ 128 ≤ ub (f (m - 1)))
def th_num (m : Nat) (f : Nat → Int32) : Int64 := if th_neg m f = true then -(lN (th_mag m f)) else lN (th_mag m f)
theorem tn_or {a b k : Nat} (hk : k ≤ 24) (ha : a < 2 ^ k) (hb : b < 256) : lN a ||| ((nI b).toInt64 <<< ((nI k).toInt64 &&& 63)) = lN (a + b * 2 ^ k) := by
  have h2 : (2 : Nat) ^ k ≤ 2 ^ 24 := Nat.pow_le_pow_right (by decide) hk
  have h3 : b * 2 ^ k ≤ 255 * 2 ^ 24 := Nat.mul_le_mul (by omega) h2
  rw [nI_l (by omega), wb_shl b (by omega)]
  exact g_or' (k := k) rfl ha (by omega)
set_option maxRecDepth 100000 in
theorem tn_and : ∀ u, u < 256 → ((nI u &&& 128 = 0) ↔ u < 128) := by decide
theorem tn_127 {u : Nat} (h : u < 256) : nI u &&& 127 = nI (u % 128) := pk_andN (by omega) 7 (by decide)

set_option maxHeartbeats 4000000 in
set_option maxRecDepth 100000 in
theorem lp_Th_toNumber {Γ : mp_G} {κ : mp_K} (E : mp_E) (M : mp_M) (h b m t : Nat) (f : Nat → Int32) (h0 : M h = some (mp_o 5 [.ref b])) (h1 : M b = some (mp_b E m f)) (hm : m ≤ 1000) (ht : t + 1 = m ∧ m ≤ 4) (hκ : mp_k κ 2 0 0 (fun v N => v = some (.long (th_num m f)) ∧ N = M)) : ∀ (r : Nat) (i : Nat), m - i < r → (i ≤ t) → mp_J Γ m_Th_toNumber E κ M [(0, .ref h), (1, .int (nI t)), (2, .long (lN (th_low f i))), (4, .int (nI i))] 13 [] 0 0 := by
  obtain ⟨hκd, hκc, hκs, -⟩ := id hκ
  intro r
  induction r with
  | zero => intro i hr; exact absurd hr (Nat.not_lt_zero _)
  | succ r ih =>
    intro i hr hi
    refine j_iload d_Th_toNumber_13 3 rfl ?_
    refine j_iload_n d_Th_toNumber_15 rfl 1 rfl ?_
    refine j_ncmp_ge 41 i t rfl rfl (by omega) (by omega) d_Th_toNumber_16 (by decide) (fun b16 => ?_) (fun b16 => ?_)
    · skip
      refine j_iload_n d_Th_toNumber_41 rfl 1 rfl ?_
      refine j_nif_lt 62 t rfl (by omega) d_Th_toNumber_42 (by decide) (fun b42 => b42.elim) (fun b42 => ?_)
      refine j_lload_n d_Th_toNumber_45 rfl 2 rfl ?_
      refine j_aload_n d_Th_toNumber_46 rfl 0 rfl ?_
      refine j_iload_n d_Th_toNumber_47 rfl 1 rfl ?_
      refine j_callV (As := [.int (nI t)]) (rest := [.long (lN (th_low f i))]) (c_Th_byteAt Γ.l E M h b m t f h0 h1 hm (by omega)) Y_Th_byteAt w_382 w_383 w_384 h0 rfl rfl rfl (Nat.le_of_ble_eq_true rfl) (by omega) (by omega) (by omega) d_Th_toNumber_48 (fun v48 N48 p48 => ?_)
      obtain ⟨rfl, q48⟩ := p48
      obtain rfl := q48.symm
      show mp_J Γ m_Th_toNumber E κ M [(0, .ref h), (1, .int (nI t)), (2, .long (lN (th_low f i))), (4, .int (nI i))] 51 [.int (nI (th_at m f t)), .long (lN (th_low f i))] 0 0
      have hut : th_at m f t = ub (f t) := th_atI (by omega)
      have hul := ub_lt (f t)
      have hit : i = t := by omega
      have htm : m - 1 = t := by omega
      refine j_bipush (v := 127) d_Th_toNumber_51 (by decide) ?_
      refine j_iand d_Th_toNumber_53 ?_
      refine j_i2l d_Th_toNumber_54 ?_
      refine j_bipush (v := nI 8) d_Th_toNumber_55 (by decide) ?_
      refine j_iload_n d_Th_toNumber_57 rfl 1 rfl ?_
      refine j_imul d_Th_toNumber_58 ?_
      refine j_eqi (y := nI (8 * t)) (pk_mul 8 t) ?_
      refine j_lshl d_Th_toNumber_59 ?_
      refine j_lor d_Th_toNumber_60 ?_
      refine j_eql (y := lN (th_mag m f)) (by rw [hut, tn_127 hul, tn_or (by omega) (by rw [hit]; exact th_low_lt f t) (by omega), hit]; unfold th_mag; rw [if_neg (by omega), htm]) ?_
      refine j_lstore_n [(2, .long (lN (th_mag m f))), (0, .ref h), (1, .int (nI t)), (4, .int (nI i))] d_Th_toNumber_61 rfl (by decide) rfl ?_
      refine j_aload_n d_Th_toNumber_62 rfl 1 rfl ?_
      refine j_iload_n d_Th_toNumber_63 rfl 2 rfl ?_
      refine j_callV (As := [.int (nI t)]) (rest := []) (c_Th_byteAt Γ.l E M h b m t f h0 h1 hm (by omega)) Y_Th_byteAt w_382 w_383 w_384 h0 rfl rfl rfl (Nat.le_of_ble_eq_true rfl) (by omega) (by omega) (by omega) d_Th_toNumber_64 (fun v64 N64 p64 => ?_)
      obtain ⟨rfl, q64⟩ := p64
      obtain rfl := q64.symm
      show mp_J Γ m_Th_toNumber E κ M [(2, .long (lN (th_mag m f))), (0, .ref h), (1, .int (nI t)), (4, .int (nI i))] 67 [.int (nI (th_at m f t))] 0 0
      refine j_sipush (v := 128) d_Th_toNumber_67 (by decide) ?_
      refine j_iand d_Th_toNumber_70 ?_
      refine j_if_eq 79 d_Th_toNumber_71 (by decide) (fun b71 => ?_) (fun b71 => ?_)
      · skip
        rw [hut] at b71
        have hlt := (tn_and _ hul).mp b71
        rw [← htm] at hlt
        refine j_lload_n d_Th_toNumber_79 rfl 0 rfl ?_
        exact j_lret hκ rfl (by omega) (by omega) d_Th_toNumber_80 ⟨by rw [show th_num m f = lN (th_mag m f) from (if_neg (fun hz => absurd (of_decide_eq_true hz).2 (by omega)))], rfl⟩
      · skip
        rw [hut] at b71
        have hge : 128 ≤ ub (f t) := Nat.not_lt.mp (fun hz => b71 ((tn_and _ hul).mpr hz))
        rw [← htm] at hge
        refine j_lload_n d_Th_toNumber_74 rfl 0 rfl ?_
        refine j_lneg d_Th_toNumber_75 ?_
        refine j_goto (tgt := 80) d_Th_toNumber_76 (by decide) ?_
        exact j_lret hκ rfl (by omega) (by omega) d_Th_toNumber_80 ⟨by rw [show th_num m f = -(lN (th_mag m f)) from (if_pos (decide_eq_true ⟨by omega, by omega⟩))], rfl⟩
    · skip
      refine j_lload_n d_Th_toNumber_19 rfl 2 rfl ?_
      refine j_aload_n d_Th_toNumber_20 rfl 0 rfl ?_
      refine j_iload d_Th_toNumber_21 3 rfl ?_
      refine j_callV (As := [.int (nI i)]) (rest := [.long (lN (th_low f i))]) (c_Th_byteAt Γ.l E M h b m i f h0 h1 hm (by omega)) Y_Th_byteAt w_382 w_383 w_384 h0 rfl rfl rfl (Nat.le_of_ble_eq_true rfl) (by omega) (by omega) (by omega) d_Th_toNumber_23 (fun v23 N23 p23 => ?_)
      obtain ⟨rfl, q23⟩ := p23
      obtain rfl := q23.symm
      show mp_J Γ m_Th_toNumber E κ M [(0, .ref h), (1, .int (nI t)), (2, .long (lN (th_low f i))), (4, .int (nI i))] 26 [.int (nI (th_at m f i)), .long (lN (th_low f i))] 0 0
      have hua : th_at m f i = ub (f i) := th_atI (by omega)
      refine j_i2l d_Th_toNumber_26 ?_
      refine j_bipush (v := nI 8) d_Th_toNumber_27 (by decide) ?_
      refine j_iload d_Th_toNumber_29 3 rfl ?_
      refine j_imul d_Th_toNumber_31 ?_
      refine j_eqi (y := nI (8 * i)) (pk_mul 8 i) ?_
      refine j_lshl d_Th_toNumber_32 ?_
      refine j_lor d_Th_toNumber_33 ?_
      refine j_eql (y := lN (th_low f (i + 1))) (by rw [hua]; exact tn_or (by omega) (th_low_lt f i) (ub_lt _)) ?_
      refine j_lstore_n [(2, .long (lN (th_low f (i + 1)))), (0, .ref h), (1, .int (nI t)), (4, .int (nI i))] d_Th_toNumber_34 rfl (by decide) rfl ?_
      refine j_iinc (v := nI (i + 1)) [(4, .int (nI (i + 1))), (2, .long (lN (th_low f (i + 1)))), (0, .ref h), (1, .int (nI t))] d_Th_toNumber_35 3 rfl (nI_add i 1) (by decide) rfl ?_
      refine j_goto (tgt := 13) d_Th_toNumber_38 (by decide) ?_
      refine j_lv [2, 3, 1, 0] rfl ?_
      exact ih (i + 1) (by omega) (by omega)

set_option maxHeartbeats 4000000 in
set_option maxRecDepth 100000 in
theorem c_Th_toNumberP (l : Launch) (E : mp_E) (M : mp_M) (h b m t : Nat) (f : Nat → Int32) (h0 : M h = some (mp_o 5 [.ref b])) (h1 : M b = some (mp_b E m f)) (hm : m ≤ 1000) (ht : t + 1 = m ∧ m ≤ 4) : mp_Cr l m_Th_toNumber E M 2 0 0 [.ref h] (fun v N => v = some (.long (th_num m f)) ∧ N = M) := by
  refine mp_Cr.of (by decide) (Nat.le_of_ble_eq_true rfl) fun Γ κ hl hκ => ?_
  subst hl
  obtain ⟨hκd, hκc, hκs, -⟩ := id hκ
  show mp_J Γ m_Th_toNumber E κ M [(0, .ref h)] 0 [] 0 0
  refine j_aload_n d_Th_toNumber_0 rfl 0 rfl ?_
  refine j_get F_Th h0 0 (by decide) w_116 (Or.inl rfl) rfl d_Th_toNumber_1 ?_
  refine j_alen 0 h1 rfl d_Th_toNumber_4 ?_
  show mp_J Γ m_Th_toNumber E κ M [(0, .ref h)] 5 [.int (nI m)] 0 0
  refine j_iconst (v := nI 1) d_Th_toNumber_5 (by decide) ?_
  refine j_isub d_Th_toNumber_6 ?_
  refine j_eqi (y := nI (m - 1)) (pk_sub (by omega)) ?_
  refine j_eqi (y := nI t) (by rw [show m - 1 = t by omega]) ?_
  refine j_istore_n [(1, .int (nI t)), (0, .ref h)] d_Th_toNumber_7 rfl (by decide) rfl ?_
  refine j_lconst (v := 0) d_Th_toNumber_8 (by decide) ?_
  refine j_lstore_n [(2, .long 0), (1, .int (nI t)), (0, .ref h)] d_Th_toNumber_9 rfl (by decide) rfl ?_
  refine j_iconst (v := nI 0) d_Th_toNumber_10 (by decide) ?_
  refine j_istore [(4, .int (nI 0)), (2, .long 0), (1, .int (nI t)), (0, .ref h)] d_Th_toNumber_11 (by decide) rfl ?_
  refine j_lv [3, 2, 1, 0] rfl ?_
  exact lp_Th_toNumber E M h b m t f h0 h1 hm ht hκ (m + 1) 0 (by omega) (Nat.zero_le _)

set_option maxHeartbeats 4000000 in
set_option maxRecDepth 100000 in
theorem c_Th_toNumber0 (l : Launch) (E : mp_E) (M : mp_M) (h b : Nat) (f : Nat → Int32) (h0 : M h = some (mp_o 5 [.ref b])) (h1 : M b = some (mp_b E 0 f)) : mp_Cr l m_Th_toNumber E M 2 0 0 [.ref h] (fun v N => v = some (.long (th_num 0 f)) ∧ N = M) := by
  refine mp_Cr.of (by decide) (Nat.le_of_ble_eq_true rfl) fun Γ κ hl hκ => ?_
  subst hl
  obtain ⟨hκd, hκc, hκs, -⟩ := id hκ
  show mp_J Γ m_Th_toNumber E κ M [(0, .ref h)] 0 [] 0 0
  refine j_aload_n d_Th_toNumber_0 rfl 0 rfl ?_
  refine j_get F_Th h0 0 (by decide) w_116 (Or.inl rfl) rfl d_Th_toNumber_1 ?_
  refine j_alen 0 h1 rfl d_Th_toNumber_4 ?_
  show mp_J Γ m_Th_toNumber E κ M [(0, .ref h)] 5 [.int (nI 0)] 0 0
  refine j_iconst (v := nI 1) d_Th_toNumber_5 (by decide) ?_
  refine j_isub d_Th_toNumber_6 ?_
  refine j_eqi (y := (-1)) (by decide) ?_
  refine j_istore_n [(1, .int (-1)), (0, .ref h)] d_Th_toNumber_7 rfl (by decide) rfl ?_
  refine j_lconst (v := 0) d_Th_toNumber_8 (by decide) ?_
  refine j_lstore_n [(2, .long 0), (1, .int (-1)), (0, .ref h)] d_Th_toNumber_9 rfl (by decide) rfl ?_
  refine j_iconst (v := nI 0) d_Th_toNumber_10 (by decide) ?_
  refine j_istore [(4, .int (nI 0)), (2, .long 0), (1, .int (-1)), (0, .ref h)] d_Th_toNumber_11 (by decide) rfl ?_
  refine j_iload d_Th_toNumber_13 0 rfl ?_
  refine j_iload_n d_Th_toNumber_15 rfl 2 rfl ?_
  refine j_icmp_ge 41 d_Th_toNumber_16 (by decide) (fun b16 => ?_) (fun b16 => absurd (by decide) b16)
  refine j_iload_n d_Th_toNumber_41 rfl 2 rfl ?_
  refine j_if_lt 62 d_Th_toNumber_42 (by decide) (fun b42 => ?_) (fun b42 => absurd (by decide) b42)
  refine j_aload_n d_Th_toNumber_62 rfl 3 rfl ?_
  refine j_iload_n d_Th_toNumber_63 rfl 2 rfl ?_
  refine j_callV (As := [.int (-1)]) (rest := []) (c_Th_byteAtN Γ.l E M h b 0 (-1) f h0 h1 (by omega) (by decide)) Y_Th_byteAt w_382 w_383 w_384 h0 rfl rfl rfl (Nat.le_of_ble_eq_true rfl) (by omega) (by omega) (by omega) d_Th_toNumber_64 (fun v64 N64 p64 => ?_)
  obtain ⟨rfl, q64⟩ := p64
  obtain rfl := q64.symm
  show mp_J Γ m_Th_toNumber E κ M [(4, .int (nI 0)), (2, .long 0), (1, .int (-1)), (0, .ref h)] 67 [.int (nI 0)] 0 0
  refine j_sipush (v := 128) d_Th_toNumber_67 (by decide) ?_
  refine j_iand d_Th_toNumber_70 ?_
  refine j_if_eq 79 d_Th_toNumber_71 (by decide) (fun b71 => ?_) (fun b71 => absurd (by decide) b71)
  refine j_lload_n d_Th_toNumber_79 rfl 1 rfl ?_
  exact j_lret hκ rfl (by omega) (by omega) d_Th_toNumber_80 ⟨rfl, rfl⟩

theorem c_Th_toNumber (l : Launch) (E : mp_E) (M : mp_M) (h b m : Nat) (f : Nat → Int32) (h0 : M h = some (mp_o 5 [.ref b])) (h1 : M b = some (mp_b E m f)) (hm : m ≤ 4) : mp_Cr l m_Th_toNumber E M 2 0 0 [.ref h] (fun v N => v = some (.long (th_num m f)) ∧ N = M) := by
  cases m with
  | zero => exact c_Th_toNumber0 l E M h b f h0 h1
  | succ t => exact c_Th_toNumberP l E M h b (t + 1) t f h0 h1 (by omega) ⟨rfl, hm⟩
