def th_same (m : Nat) (f : Nat → Int32) (m2 : Nat) (g : Nat → Int32) : Bool := decide (m = m2 ∧ ∀ i, i < m → f i = g i)
set_option maxHeartbeats 4000000 in
set_option maxRecDepth 100000 in
theorem lp_Th_same {Γ : mp_G} {κ : mp_K} (E : mp_E) (M : mp_M) (h b m h2a b2 m2 : Nat) (f g : Nat → Int32) (h0 : M h = some (mp_o 5 [.ref b])) (h1 : M b = some (mp_b E m f)) (hm : m ≤ 1000) (h2 : M h2a = some (mp_o 5 [.ref b2])) (h3 : M b2 = some (mp_b E m2 g)) (hm2 : m2 ≤ 1000) (he : m = m2) (hκ : mp_k κ 1 0 0 (fun v N => v = some (.int (tf (th_same m f m2 g))) ∧ N = M)) : ∀ (r : Nat) (i : Nat), m - i < r → (i ≤ m) → (∀ j, j < i → f j = g j) → mp_J Γ m_Th_same E κ M [(0, .ref h), (1, .ref h2a), (2, .int (nI i))] 17 [] 0 0 := by
  obtain ⟨hκd, hκc, hκs, -⟩ := id hκ
  intro r
  induction r with
  | zero => intro i hr; exact absurd hr (Nat.not_lt_zero _)
  | succ r ih =>
    intro i hr hi hq
    refine j_iload_n d_Th_same_17 rfl 2 rfl ?_
    refine j_aload_n d_Th_same_18 rfl 0 rfl ?_
    refine j_get F_Th h0 0 (by decide) w_116 (Or.inl rfl) rfl d_Th_same_19 ?_
    refine j_alen 0 h1 rfl d_Th_same_22 ?_
    show mp_J Γ m_Th_same E κ M [(0, .ref h), (1, .ref h2a), (2, .int (nI i))] 23 [.int (nI m), .int (nI i)] 0 0
    refine j_ncmp_ge 49 i m rfl rfl (by omega) (by omega) d_Th_same_23 (by decide) (fun b23 => ?_) (fun b23 => ?_)
    · skip
      refine j_iconst (v := nI 1) d_Th_same_49 (by decide) ?_
      exact j_zret hκ rfl (by first | exact Or.inl rfl | exact Or.inr rfl) (by omega) (by omega) d_Th_same_50 ⟨rv_1 ⟨he, fun j hj => hq j (by omega)⟩, rfl⟩
    · skip
      refine j_aload_n d_Th_same_26 rfl 0 rfl ?_
      refine j_get F_Th h0 0 (by decide) w_116 (Or.inl rfl) rfl d_Th_same_27 ?_
      refine j_iload_n d_Th_same_30 rfl 2 rfl ?_
      refine j_bald h1 i rfl (by omega) (by omega) d_Th_same_31 ?_
      refine j_aload_n d_Th_same_32 rfl 1 rfl ?_
      refine j_get F_Th h2 0 (by decide) w_116 (Or.inl rfl) rfl d_Th_same_33 ?_
      refine j_iload_n d_Th_same_36 rfl 2 rfl ?_
      refine j_bald h3 i rfl (by omega) (by omega) d_Th_same_37 ?_
      refine j_icmp_eq 43 d_Th_same_38 (by decide) (fun b38 => ?_) (fun b38 => ?_)
      · skip
        refine j_iinc (v := nI (i + 1)) [(2, .int (nI (i + 1))), (0, .ref h), (1, .ref h2a)] d_Th_same_43 2 rfl (nI_add i 1) (by decide) rfl ?_
        refine j_goto (tgt := 17) d_Th_same_46 (by decide) ?_
        refine j_lv [1, 2, 0] rfl ?_
        exact ih (i + 1) (by omega) (by omega) (lt_s hq b38)
      · skip
        refine j_iconst (v := nI 0) d_Th_same_41 (by decide) ?_
        exact j_zret hκ rfl (by first | exact Or.inl rfl | exact Or.inr rfl) (by omega) (by omega) d_Th_same_42 ⟨rv_0 (fun hz => b38 (hz.2 i (by omega))), rfl⟩

set_option maxHeartbeats 4000000 in
set_option maxRecDepth 100000 in
theorem c_Th_same (l : Launch) (E : mp_E) (M : mp_M) (h b m h2a b2 m2 : Nat) (f g : Nat → Int32) (h0 : M h = some (mp_o 5 [.ref b])) (h1 : M b = some (mp_b E m f)) (hm : m ≤ 1000) (h2 : M h2a = some (mp_o 5 [.ref b2])) (h3 : M b2 = some (mp_b E m2 g)) (hm2 : m2 ≤ 1000) : mp_Cr l m_Th_same E M 1 0 0 [.ref h, .ref h2a] (fun v N => v = some (.int (tf (th_same m f m2 g))) ∧ N = M) := by
  refine mp_Cr.of (by decide) (Nat.le_of_ble_eq_true rfl) fun Γ κ hl hκ => ?_
  subst hl
  obtain ⟨hκd, hκc, hκs, -⟩ := id hκ
  show mp_J Γ m_Th_same E κ M [(0, .ref h), (1, .ref h2a)] 0 [] 0 0
  refine j_aload_n d_Th_same_0 rfl 0 rfl ?_
  refine j_get F_Th h0 0 (by decide) w_116 (Or.inl rfl) rfl d_Th_same_1 ?_
  refine j_alen 0 h1 rfl d_Th_same_4 ?_
  show mp_J Γ m_Th_same E κ M [(0, .ref h), (1, .ref h2a)] 5 [.int (nI m)] 0 0
  refine j_aload_n d_Th_same_5 rfl 1 rfl ?_
  refine j_get F_Th h2 0 (by decide) w_116 (Or.inl rfl) rfl d_Th_same_6 ?_
  refine j_alen 0 h3 rfl d_Th_same_9 ?_
  show mp_J Γ m_Th_same E κ M [(0, .ref h), (1, .ref h2a)] 10 [.int (nI m2), .int (nI m)] 0 0
  refine j_ncmp_eq 15 m m2 rfl rfl (by omega) (by omega) d_Th_same_10 (by decide) (fun b10 => ?_) (fun b10 => ?_)
  · skip
    refine j_iconst (v := nI 0) d_Th_same_15 (by decide) ?_
    refine j_istore_n [(2, .int (nI 0)), (0, .ref h), (1, .ref h2a)] d_Th_same_16 rfl (by decide) rfl ?_
    refine j_lv [1, 2, 0] rfl ?_
    exact lp_Th_same E M h b m h2a b2 m2 f g h0 h1 hm h2 h3 hm2 b10 hκ (m + 1) 0 (by omega) (Nat.zero_le _) (fun j hj => absurd hj (Nat.not_lt_zero _))
  · skip
    refine j_iconst (v := nI 0) d_Th_same_13 (by decide) ?_
    exact j_zret hκ rfl (by first | exact Or.inl rfl | exact Or.inr rfl) (by omega) (by omega) d_Th_same_14 ⟨rv_0 (fun hz => b10 hz.1), rfl⟩

def th_w (m : Nat) (f : Nat → Int32) (k : Nat) : Nat → Int32
  | 0 => nI 0
  | i + 1 => th_w m f k i ||| (nI (th_at m f (4 * k + i)) <<< (nI (8 * i) &&& 31))
set_option maxHeartbeats 4000000 in
set_option maxRecDepth 100000 in
theorem lp_Th_word {Γ : mp_G} {κ : mp_K} (E : mp_E) (M : mp_M) (h b m k : Nat) (f : Nat → Int32) (h0 : M h = some (mp_o 5 [.ref b])) (h1 : M b = some (mp_b E m f)) (hm : m ≤ 1000) (hk : k ≤ 10) (hκ : mp_k κ 2 0 0 (fun v N => v = some (.int (th_w m f k 4)) ∧ N = M)) : ∀ (r : Nat) (i : Nat), 4 - i < r → (i ≤ 4) → mp_J Γ m_Th_word E κ M [(0, .ref h), (1, .int (nI k)), (2, .int (th_w m f k i)), (3, .int (nI i))] 4 [] 0 0 := by
  obtain ⟨hκd, hκc, hκs, -⟩ := id hκ
  intro r
  induction r with
  | zero => intro i hr; exact absurd hr (Nat.not_lt_zero _)
  | succ r ih =>
    intro i hr hi
    refine j_iload_n d_Th_word_4 rfl 3 rfl ?_
    refine j_iconst (v := nI 4) d_Th_word_5 (by decide) ?_
    refine j_ncmp_ge 32 i 4 rfl rfl (by omega) (by omega) d_Th_word_6 (by decide) (fun b6 => ?_) (fun b6 => ?_)
    · skip
      refine j_iload_n d_Th_word_32 rfl 2 rfl ?_
      exact j_iret hκ rfl (by omega) (by omega) d_Th_word_33 ⟨by rw [show i = 4 by omega], rfl⟩
    · skip
      refine j_iload_n d_Th_word_9 rfl 2 rfl ?_
      refine j_aload_n d_Th_word_10 rfl 0 rfl ?_
      refine j_iconst (v := nI 4) d_Th_word_11 (by decide) ?_
      refine j_iload_n d_Th_word_12 rfl 1 rfl ?_
      refine j_imul d_Th_word_13 ?_
      refine j_eqi (y := nI (4 * k)) (pk_mul 4 k) ?_
      refine j_iload_n d_Th_word_14 rfl 3 rfl ?_
      refine j_iadd d_Th_word_15 ?_
      refine j_eqi (y := nI ((4 * k) + i)) (nI_add (4 * k) i) ?_
      refine j_callV (As := [.int (nI ((4 * k) + i))]) (rest := [.int (th_w m f k i)]) (c_Th_byteAt Γ.l E M h b m (4 * k + i) f h0 h1 hm (by omega)) Y_Th_byteAt w_382 w_383 w_384 h0 rfl rfl rfl (Nat.le_of_ble_eq_true rfl) (by omega) (by omega) (by omega) d_Th_word_16 (fun v16 N16 p16 => ?_)
      obtain ⟨rfl, q16⟩ := p16
      obtain rfl := q16.symm
      show mp_J Γ m_Th_word E κ M [(0, .ref h), (1, .int (nI k)), (2, .int (th_w m f k i)), (3, .int (nI i))] 19 [.int (nI (th_at m f (4 * k + i))), .int (th_w m f k i)] 0 0
      refine j_bipush (v := nI 8) d_Th_word_19 (by decide) ?_
      refine j_iload_n d_Th_word_21 rfl 3 rfl ?_
      refine j_imul d_Th_word_22 ?_
      refine j_eqi (y := nI (8 * i)) (pk_mul 8 i) ?_
      refine j_ishl d_Th_word_23 ?_
      refine j_ior d_Th_word_24 ?_
      refine j_eqi (y := th_w m f k (i + 1)) rfl ?_
      refine j_istore_n [(2, .int (th_w m f k (i + 1))), (0, .ref h), (1, .int (nI k)), (3, .int (nI i))] d_Th_word_25 rfl (by decide) rfl ?_
      refine j_iinc (v := nI (i + 1)) [(3, .int (nI (i + 1))), (2, .int (th_w m f k (i + 1))), (0, .ref h), (1, .int (nI k))] d_Th_word_26 3 rfl (nI_add i 1) (by decide) rfl ?_
      refine j_goto (tgt := 4) d_Th_word_29 (by decide) ?_
      refine j_lv [2, 3, 1, 0] rfl ?_
      exact ih (i + 1) (by omega) (by omega)

set_option maxHeartbeats 4000000 in
set_option maxRecDepth 100000 in
theorem c_Th_word (l : Launch) (E : mp_E) (M : mp_M) (h b m k : Nat) (f : Nat → Int32) (h0 : M h = some (mp_o 5 [.ref b])) (h1 : M b = some (mp_b E m f)) (hm : m ≤ 1000) (hk : k ≤ 10) : mp_Cr l m_Th_word E M 2 0 0 [.ref h, .int (nI k)] (fun v N => v = some (.int (th_w m f k 4)) ∧ N = M) := by
  refine mp_Cr.of (by decide) (Nat.le_of_ble_eq_true rfl) fun Γ κ hl hκ => ?_
  subst hl
  obtain ⟨hκd, hκc, hκs, -⟩ := id hκ
  show mp_J Γ m_Th_word E κ M [(0, .ref h), (1, .int (nI k))] 0 [] 0 0
  refine j_iconst (v := nI 0) d_Th_word_0 (by decide) ?_
  refine j_istore_n [(2, .int (nI 0)), (0, .ref h), (1, .int (nI k))] d_Th_word_1 rfl (by decide) rfl ?_
  refine j_iconst (v := nI 0) d_Th_word_2 (by decide) ?_
  refine j_istore_n [(3, .int (nI 0)), (2, .int (nI 0)), (0, .ref h), (1, .int (nI k))] d_Th_word_3 rfl (by decide) rfl ?_
  refine j_lv [2, 3, 1, 0] rfl ?_
  exact lp_Th_word E M h b m k f h0 h1 hm hk hκ 5 0 (by omega) (by omega)

theorem nz_log {a k : Nat} (h1 : 2 ^ k ≤ a) (h2 : a < 2 ^ (k + 1)) : Nat.log2 a = k := by
  have h0 : a ≠ 0 := fun h => by rw [h] at h1; exact absurd h1 (Nat.not_le.mpr (Nat.pow_pos (by decide)))
  have h3 : Nat.log2 a < k + 1 := (Nat.log2_lt h0).mpr h2
  have h4 : ¬ Nat.log2 a < k := fun h => absurd ((Nat.log2_lt h0).mp h) (Nat.not_lt.mpr h1)
  omega
theorem nz_f {N y a : Nat} (hN : N ≤ 31) (h1 : 2 ^ (31 - N + y) ≤ a) (h2 : a < 2 ^ (31 - N + y + 1)) (hy : y ≤ N) : some (Value.int (nI (N - y))) = some (Value.int (nI (31 - Nat.log2 a))) := by
  rw [nz_log h1 h2, show 31 - (31 - N + y) = N - y by omega]
set_option maxHeartbeats 4000000 in
set_option maxRecDepth 100000 in
theorem c_In_nlz (l : Launch) (E : mp_E) (M : mp_M) (a : Nat) (ha : 0 < a ∧ a < 2 ^ 31) : mp_Cr l m_In_numberOfLeadingZeros E M 1 0 0 [.int (nI a)] (fun v N => v = some (.int (nI (31 - Nat.log2 a))) ∧ N = M) := by
  refine mp_Cr.of (by decide) (Nat.le_of_ble_eq_true rfl) fun Γ κ hl hκ => ?_
  subst hl
  obtain ⟨hκd, hκc, hκs, -⟩ := id hκ
  show mp_J Γ m_In_numberOfLeadingZeros E κ M [(0, .int (nI a))] 0 [] 0 0
  refine j_iload_n d_In_numberOfLeadingZeros_0 rfl 0 rfl ?_
  refine j_nif_gt 15 a rfl (by omega) d_In_numberOfLeadingZeros_1 (by decide) (fun b1 => ?_) (fun b1 => absurd b1 (by omega))
  refine j_bipush (v := nI 31) d_In_numberOfLeadingZeros_15 (by decide) ?_
  refine j_istore_n [(1, .int (nI 31)), (0, .int (nI a))] d_In_numberOfLeadingZeros_17 rfl (by decide) rfl ?_
  refine j_iload_n d_In_numberOfLeadingZeros_18 rfl 1 rfl ?_
  refine j_ldcw (v := nI 65536) w_160 d_In_numberOfLeadingZeros_19 ?_
  refine j_ncmp_lt 33 a 65536 rfl rfl (by omega) (by omega) d_In_numberOfLeadingZeros_22 (by decide) (fun b22 => ?_) (fun b22 => ?_)
  · skip
    refine j_iload_n d_In_numberOfLeadingZeros_33 rfl 1 rfl ?_
    refine j_sipush (v := nI 256) d_In_numberOfLeadingZeros_34 (by decide) ?_
    refine j_ncmp_lt 48 a 256 rfl rfl (by omega) (by omega) d_In_numberOfLeadingZeros_37 (by decide) (fun b37 => ?_) (fun b37 => ?_)
    · skip
      refine j_iload_n d_In_numberOfLeadingZeros_48 rfl 1 rfl ?_
      refine j_bipush (v := nI 16) d_In_numberOfLeadingZeros_49 (by decide) ?_
      refine j_ncmp_lt 61 a 16 rfl rfl (by omega) (by omega) d_In_numberOfLeadingZeros_51 (by decide) (fun b51 => ?_) (fun b51 => ?_)
      · skip
        refine j_iload_n d_In_numberOfLeadingZeros_61 rfl 1 rfl ?_
        refine j_iconst (v := nI 4) d_In_numberOfLeadingZeros_62 (by decide) ?_
        refine j_ncmp_lt 73 a 4 rfl rfl (by omega) (by omega) d_In_numberOfLeadingZeros_63 (by decide) (fun b63 => ?_) (fun b63 => ?_)
        · skip
          refine j_iload_n d_In_numberOfLeadingZeros_73 rfl 0 rfl ?_
          refine j_iload_n d_In_numberOfLeadingZeros_74 rfl 1 rfl ?_
          refine j_iconst (v := nI 1) d_In_numberOfLeadingZeros_75 (by decide) ?_
          refine j_iushr d_In_numberOfLeadingZeros_76 ?_
          refine j_eqi (y := nI (a / 2)) (pk_ushrN (by omega) _ 1 (by decide)) ?_
          refine j_isub d_In_numberOfLeadingZeros_77 ?_
          refine j_eqi (y := nI (31 - (a / 2))) (pk_sub (by omega)) ?_
          exact j_iret hκ rfl (by omega) (by omega) d_In_numberOfLeadingZeros_78 ⟨nz_f (by decide) (by rcases (show a / 2 = 0 ∨ a / 2 = 1 by omega) with e9 | e9 <;> rw [e9] <;> simp only [Nat.reduceSub, Nat.reduceAdd, Nat.reducePow] <;> omega) (by rcases (show a / 2 = 0 ∨ a / 2 = 1 by omega) with e9 | e9 <;> rw [e9] <;> simp only [Nat.reduceSub, Nat.reduceAdd, Nat.reducePow] <;> omega) (by omega), rfl⟩
        · skip
          refine j_iinc (v := nI 29) [(1, .int (nI 29)), (0, .int (nI a))] d_In_numberOfLeadingZeros_66 0 rfl (by decide) (by decide) rfl ?_
          refine j_iload_n d_In_numberOfLeadingZeros_69 rfl 1 rfl ?_
          refine j_iconst (v := nI 2) d_In_numberOfLeadingZeros_70 (by decide) ?_
          refine j_iushr d_In_numberOfLeadingZeros_71 ?_
          refine j_eqi (y := nI (a / 4)) (pk_ushrN (by omega) _ 2 (by decide)) ?_
          refine j_istore_n [(0, .int (nI (a / 4))), (1, .int (nI 29))] d_In_numberOfLeadingZeros_72 rfl (by decide) rfl ?_
          refine j_iload_n d_In_numberOfLeadingZeros_73 rfl 1 rfl ?_
          refine j_iload_n d_In_numberOfLeadingZeros_74 rfl 0 rfl ?_
          refine j_iconst (v := nI 1) d_In_numberOfLeadingZeros_75 (by decide) ?_
          refine j_iushr d_In_numberOfLeadingZeros_76 ?_
          refine j_eqi (y := nI ((a / 4) / 2)) (pk_ushrN (by omega) _ 1 (by decide)) ?_
          refine j_isub d_In_numberOfLeadingZeros_77 ?_
          refine j_eqi (y := nI (29 - ((a / 4) / 2))) (pk_sub (by omega)) ?_
          exact j_iret hκ rfl (by omega) (by omega) d_In_numberOfLeadingZeros_78 ⟨nz_f (by decide) (by rcases (show (a / 4) / 2 = 0 ∨ (a / 4) / 2 = 1 by omega) with e9 | e9 <;> rw [e9] <;> simp only [Nat.reduceSub, Nat.reduceAdd, Nat.reducePow] <;> omega) (by rcases (show (a / 4) / 2 = 0 ∨ (a / 4) / 2 = 1 by omega) with e9 | e9 <;> rw [e9] <;> simp only [Nat.reduceSub, Nat.reduceAdd, Nat.reducePow] <;> omega) (by omega), rfl⟩
      · skip
        refine j_iinc (v := nI 27) [(1, .int (nI 27)), (0, .int (nI a))] d_In_numberOfLeadingZeros_54 0 rfl (by decide) (by decide) rfl ?_
        refine j_iload_n d_In_numberOfLeadingZeros_57 rfl 1 rfl ?_
        refine j_iconst (v := nI 4) d_In_numberOfLeadingZeros_58 (by decide) ?_
        refine j_iushr d_In_numberOfLeadingZeros_59 ?_
        refine j_eqi (y := nI (a / 16)) (pk_ushrN (by omega) _ 4 (by decide)) ?_
        refine j_istore_n [(0, .int (nI (a / 16))), (1, .int (nI 27))] d_In_numberOfLeadingZeros_60 rfl (by decide) rfl ?_
        refine j_iload_n d_In_numberOfLeadingZeros_61 rfl 0 rfl ?_
        refine j_iconst (v := nI 4) d_In_numberOfLeadingZeros_62 (by decide) ?_
        refine j_ncmp_lt 73 (a / 16) 4 rfl rfl (by omega) (by omega) d_In_numberOfLeadingZeros_63 (by decide) (fun b63 => ?_) (fun b63 => ?_)
        · skip
          refine j_iload_n d_In_numberOfLeadingZeros_73 rfl 1 rfl ?_
          refine j_iload_n d_In_numberOfLeadingZeros_74 rfl 0 rfl ?_
          refine j_iconst (v := nI 1) d_In_numberOfLeadingZeros_75 (by decide) ?_
          refine j_iushr d_In_numberOfLeadingZeros_76 ?_
          refine j_eqi (y := nI ((a / 16) / 2)) (pk_ushrN (by omega) _ 1 (by decide)) ?_
          refine j_isub d_In_numberOfLeadingZeros_77 ?_
          refine j_eqi (y := nI (27 - ((a / 16) / 2))) (pk_sub (by omega)) ?_
          exact j_iret hκ rfl (by omega) (by omega) d_In_numberOfLeadingZeros_78 ⟨nz_f (by decide) (by rcases (show (a / 16) / 2 = 0 ∨ (a / 16) / 2 = 1 by omega) with e9 | e9 <;> rw [e9] <;> simp only [Nat.reduceSub, Nat.reduceAdd, Nat.reducePow] <;> omega) (by rcases (show (a / 16) / 2 = 0 ∨ (a / 16) / 2 = 1 by omega) with e9 | e9 <;> rw [e9] <;> simp only [Nat.reduceSub, Nat.reduceAdd, Nat.reducePow] <;> omega) (by omega), rfl⟩
        · skip
          refine j_iinc (v := nI 25) [(1, .int (nI 25)), (0, .int (nI (a / 16)))] d_In_numberOfLeadingZeros_66 1 rfl (by decide) (by decide) rfl ?_
          refine j_iload_n d_In_numberOfLeadingZeros_69 rfl 1 rfl ?_
          refine j_iconst (v := nI 2) d_In_numberOfLeadingZeros_70 (by decide) ?_
          refine j_iushr d_In_numberOfLeadingZeros_71 ?_
          refine j_eqi (y := nI ((a / 16) / 4)) (pk_ushrN (by omega) _ 2 (by decide)) ?_
          refine j_istore_n [(0, .int (nI ((a / 16) / 4))), (1, .int (nI 25))] d_In_numberOfLeadingZeros_72 rfl (by decide) rfl ?_
          refine j_iload_n d_In_numberOfLeadingZeros_73 rfl 1 rfl ?_
          refine j_iload_n d_In_numberOfLeadingZeros_74 rfl 0 rfl ?_
          refine j_iconst (v := nI 1) d_In_numberOfLeadingZeros_75 (by decide) ?_
          refine j_iushr d_In_numberOfLeadingZeros_76 ?_
          refine j_eqi (y := nI (((a / 16) / 4) / 2)) (pk_ushrN (by omega) _ 1 (by decide)) ?_
          refine j_isub d_In_numberOfLeadingZeros_77 ?_
          refine j_eqi (y := nI (25 - (((a / 16) / 4) / 2))) (pk_sub (by omega)) ?_
          exact j_iret hκ rfl (by omega) (by omega) d_In_numberOfLeadingZeros_78 ⟨nz_f (by decide) (by rcases (show ((a / 16) / 4) / 2 = 0 ∨ ((a / 16) / 4) / 2 = 1 by omega) with e9 | e9 <;> rw [e9] <;> simp only [Nat.reduceSub, Nat.reduceAdd, Nat.reducePow] <;> omega) (by rcases (show ((a / 16) / 4) / 2 = 0 ∨ ((a / 16) / 4) / 2 = 1 by omega) with e9 | e9 <;> rw [e9] <;> simp only [Nat.reduceSub, Nat.reduceAdd, Nat.reducePow] <;> omega) (by omega), rfl⟩
    · skip
      refine j_iinc (v := nI 23) [(1, .int (nI 23)), (0, .int (nI a))] d_In_numberOfLeadingZeros_40 0 rfl (by decide) (by decide) rfl ?_
      refine j_iload_n d_In_numberOfLeadingZeros_43 rfl 1 rfl ?_
      refine j_bipush (v := nI 8) d_In_numberOfLeadingZeros_44 (by decide) ?_
      refine j_iushr d_In_numberOfLeadingZeros_46 ?_
      refine j_eqi (y := nI (a / 256)) (pk_ushrN (by omega) _ 8 (by decide)) ?_
      refine j_istore_n [(0, .int (nI (a / 256))), (1, .int (nI 23))] d_In_numberOfLeadingZeros_47 rfl (by decide) rfl ?_
      refine j_iload_n d_In_numberOfLeadingZeros_48 rfl 0 rfl ?_
      refine j_bipush (v := nI 16) d_In_numberOfLeadingZeros_49 (by decide) ?_
      refine j_ncmp_lt 61 (a / 256) 16 rfl rfl (by omega) (by omega) d_In_numberOfLeadingZeros_51 (by decide) (fun b51 => ?_) (fun b51 => ?_)
      · skip
        refine j_iload_n d_In_numberOfLeadingZeros_61 rfl 0 rfl ?_
        refine j_iconst (v := nI 4) d_In_numberOfLeadingZeros_62 (by decide) ?_
        refine j_ncmp_lt 73 (a / 256) 4 rfl rfl (by omega) (by omega) d_In_numberOfLeadingZeros_63 (by decide) (fun b63 => ?_) (fun b63 => ?_)
        · skip
          refine j_iload_n d_In_numberOfLeadingZeros_73 rfl 1 rfl ?_
          refine j_iload_n d_In_numberOfLeadingZeros_74 rfl 0 rfl ?_
          refine j_iconst (v := nI 1) d_In_numberOfLeadingZeros_75 (by decide) ?_
          refine j_iushr d_In_numberOfLeadingZeros_76 ?_
          refine j_eqi (y := nI ((a / 256) / 2)) (pk_ushrN (by omega) _ 1 (by decide)) ?_
          refine j_isub d_In_numberOfLeadingZeros_77 ?_
          refine j_eqi (y := nI (23 - ((a / 256) / 2))) (pk_sub (by omega)) ?_
          exact j_iret hκ rfl (by omega) (by omega) d_In_numberOfLeadingZeros_78 ⟨nz_f (by decide) (by rcases (show (a / 256) / 2 = 0 ∨ (a / 256) / 2 = 1 by omega) with e9 | e9 <;> rw [e9] <;> simp only [Nat.reduceSub, Nat.reduceAdd, Nat.reducePow] <;> omega) (by rcases (show (a / 256) / 2 = 0 ∨ (a / 256) / 2 = 1 by omega) with e9 | e9 <;> rw [e9] <;> simp only [Nat.reduceSub, Nat.reduceAdd, Nat.reducePow] <;> omega) (by omega), rfl⟩
        · skip
          refine j_iinc (v := nI 21) [(1, .int (nI 21)), (0, .int (nI (a / 256)))] d_In_numberOfLeadingZeros_66 1 rfl (by decide) (by decide) rfl ?_
          refine j_iload_n d_In_numberOfLeadingZeros_69 rfl 1 rfl ?_
          refine j_iconst (v := nI 2) d_In_numberOfLeadingZeros_70 (by decide) ?_
          refine j_iushr d_In_numberOfLeadingZeros_71 ?_
          refine j_eqi (y := nI ((a / 256) / 4)) (pk_ushrN (by omega) _ 2 (by decide)) ?_
          refine j_istore_n [(0, .int (nI ((a / 256) / 4))), (1, .int (nI 21))] d_In_numberOfLeadingZeros_72 rfl (by decide) rfl ?_
          refine j_iload_n d_In_numberOfLeadingZeros_73 rfl 1 rfl ?_
          refine j_iload_n d_In_numberOfLeadingZeros_74 rfl 0 rfl ?_
          refine j_iconst (v := nI 1) d_In_numberOfLeadingZeros_75 (by decide) ?_
          refine j_iushr d_In_numberOfLeadingZeros_76 ?_
          refine j_eqi (y := nI (((a / 256) / 4) / 2)) (pk_ushrN (by omega) _ 1 (by decide)) ?_
          refine j_isub d_In_numberOfLeadingZeros_77 ?_
          refine j_eqi (y := nI (21 - (((a / 256) / 4) / 2))) (pk_sub (by omega)) ?_
          exact j_iret hκ rfl (by omega) (by omega) d_In_numberOfLeadingZeros_78 ⟨nz_f (by decide) (by rcases (show ((a / 256) / 4) / 2 = 0 ∨ ((a / 256) / 4) / 2 = 1 by omega) with e9 | e9 <;> rw [e9] <;> simp only [Nat.reduceSub, Nat.reduceAdd, Nat.reducePow] <;> omega) (by rcases (show ((a / 256) / 4) / 2 = 0 ∨ ((a / 256) / 4) / 2 = 1 by omega) with e9 | e9 <;> rw [e9] <;> simp only [Nat.reduceSub, Nat.reduceAdd, Nat.reducePow] <;> omega) (by omega), rfl⟩
      · skip
        refine j_iinc (v := nI 19) [(1, .int (nI 19)), (0, .int (nI (a / 256)))] d_In_numberOfLeadingZeros_54 1 rfl (by decide) (by decide) rfl ?_
        refine j_iload_n d_In_numberOfLeadingZeros_57 rfl 1 rfl ?_
        refine j_iconst (v := nI 4) d_In_numberOfLeadingZeros_58 (by decide) ?_
        refine j_iushr d_In_numberOfLeadingZeros_59 ?_
        refine j_eqi (y := nI ((a / 256) / 16)) (pk_ushrN (by omega) _ 4 (by decide)) ?_
        refine j_istore_n [(0, .int (nI ((a / 256) / 16))), (1, .int (nI 19))] d_In_numberOfLeadingZeros_60 rfl (by decide) rfl ?_
        refine j_iload_n d_In_numberOfLeadingZeros_61 rfl 0 rfl ?_
        refine j_iconst (v := nI 4) d_In_numberOfLeadingZeros_62 (by decide) ?_
        refine j_ncmp_lt 73 ((a / 256) / 16) 4 rfl rfl (by omega) (by omega) d_In_numberOfLeadingZeros_63 (by decide) (fun b63 => ?_) (fun b63 => ?_)
        · skip
          refine j_iload_n d_In_numberOfLeadingZeros_73 rfl 1 rfl ?_
          refine j_iload_n d_In_numberOfLeadingZeros_74 rfl 0 rfl ?_
          refine j_iconst (v := nI 1) d_In_numberOfLeadingZeros_75 (by decide) ?_
          refine j_iushr d_In_numberOfLeadingZeros_76 ?_
          refine j_eqi (y := nI (((a / 256) / 16) / 2)) (pk_ushrN (by omega) _ 1 (by decide)) ?_
          refine j_isub d_In_numberOfLeadingZeros_77 ?_
          refine j_eqi (y := nI (19 - (((a / 256) / 16) / 2))) (pk_sub (by omega)) ?_
          exact j_iret hκ rfl (by omega) (by omega) d_In_numberOfLeadingZeros_78 ⟨nz_f (by decide) (by rcases (show ((a / 256) / 16) / 2 = 0 ∨ ((a / 256) / 16) / 2 = 1 by omega) with e9 | e9 <;> rw [e9] <;> simp only [Nat.reduceSub, Nat.reduceAdd, Nat.reducePow] <;> omega) (by rcases (show ((a / 256) / 16) / 2 = 0 ∨ ((a / 256) / 16) / 2 = 1 by omega) with e9 | e9 <;> rw [e9] <;> simp only [Nat.reduceSub, Nat.reduceAdd, Nat.reducePow] <;> omega) (by omega), rfl⟩
        · skip
          refine j_iinc (v := nI 17) [(1, .int (nI 17)), (0, .int (nI ((a / 256) / 16)))] d_In_numberOfLeadingZeros_66 1 rfl (by decide) (by decide) rfl ?_
          refine j_iload_n d_In_numberOfLeadingZeros_69 rfl 1 rfl ?_
          refine j_iconst (v := nI 2) d_In_numberOfLeadingZeros_70 (by decide) ?_
          refine j_iushr d_In_numberOfLeadingZeros_71 ?_
          refine j_eqi (y := nI (((a / 256) / 16) / 4)) (pk_ushrN (by omega) _ 2 (by decide)) ?_
          refine j_istore_n [(0, .int (nI (((a / 256) / 16) / 4))), (1, .int (nI 17))] d_In_numberOfLeadingZeros_72 rfl (by decide) rfl ?_
          refine j_iload_n d_In_numberOfLeadingZeros_73 rfl 1 rfl ?_
          refine j_iload_n d_In_numberOfLeadingZeros_74 rfl 0 rfl ?_
          refine j_iconst (v := nI 1) d_In_numberOfLeadingZeros_75 (by decide) ?_
          refine j_iushr d_In_numberOfLeadingZeros_76 ?_
          refine j_eqi (y := nI ((((a / 256) / 16) / 4) / 2)) (pk_ushrN (by omega) _ 1 (by decide)) ?_
          refine j_isub d_In_numberOfLeadingZeros_77 ?_
          refine j_eqi (y := nI (17 - ((((a / 256) / 16) / 4) / 2))) (pk_sub (by omega)) ?_
          exact j_iret hκ rfl (by omega) (by omega) d_In_numberOfLeadingZeros_78 ⟨nz_f (by decide) (by rcases (show (((a / 256) / 16) / 4) / 2 = 0 ∨ (((a / 256) / 16) / 4) / 2 = 1 by omega) with e9 | e9 <;> rw [e9] <;> simp only [Nat.reduceSub, Nat.reduceAdd, Nat.reducePow] <;> omega) (by rcases (show (((a / 256) / 16) / 4) / 2 = 0 ∨ (((a / 256) / 16) / 4) / 2 = 1 by omega) with e9 | e9 <;> rw [e9] <;> simp only [Nat.reduceSub, Nat.reduceAdd, Nat.reducePow] <;> omega) (by omega), rfl⟩
  · skip
    refine j_iinc (v := nI 15) [(1, .int (nI 15)), (0, .int (nI a))] d_In_numberOfLeadingZeros_25 0 rfl (by decide) (by decide) rfl ?_
    refine j_iload_n d_In_numberOfLeadingZeros_28 rfl 1 rfl ?_
    refine j_bipush (v := nI 16) d_In_numberOfLeadingZeros_29 (by decide) ?_
    refine j_iushr d_In_numberOfLeadingZeros_31 ?_
    refine j_eqi (y := nI (a / 65536)) (pk_ushrN (by omega) _ 16 (by decide)) ?_
    refine j_istore_n [(0, .int (nI (a / 65536))), (1, .int (nI 15))] d_In_numberOfLeadingZeros_32 rfl (by decide) rfl ?_
    refine j_iload_n d_In_numberOfLeadingZeros_33 rfl 0 rfl ?_
    refine j_sipush (v := nI 256) d_In_numberOfLeadingZeros_34 (by decide) ?_
    refine j_ncmp_lt 48 (a / 65536) 256 rfl rfl (by omega) (by omega) d_In_numberOfLeadingZeros_37 (by decide) (fun b37 => ?_) (fun b37 => ?_)
    · skip
      refine j_iload_n d_In_numberOfLeadingZeros_48 rfl 0 rfl ?_
      refine j_bipush (v := nI 16) d_In_numberOfLeadingZeros_49 (by decide) ?_
      refine j_ncmp_lt 61 (a / 65536) 16 rfl rfl (by omega) (by omega) d_In_numberOfLeadingZeros_51 (by decide) (fun b51 => ?_) (fun b51 => ?_)
      · skip
        refine j_iload_n d_In_numberOfLeadingZeros_61 rfl 0 rfl ?_
        refine j_iconst (v := nI 4) d_In_numberOfLeadingZeros_62 (by decide) ?_
        refine j_ncmp_lt 73 (a / 65536) 4 rfl rfl (by omega) (by omega) d_In_numberOfLeadingZeros_63 (by decide) (fun b63 => ?_) (fun b63 => ?_)
        · skip
          refine j_iload_n d_In_numberOfLeadingZeros_73 rfl 1 rfl ?_
          refine j_iload_n d_In_numberOfLeadingZeros_74 rfl 0 rfl ?_
          refine j_iconst (v := nI 1) d_In_numberOfLeadingZeros_75 (by decide) ?_
          refine j_iushr d_In_numberOfLeadingZeros_76 ?_
          refine j_eqi (y := nI ((a / 65536) / 2)) (pk_ushrN (by omega) _ 1 (by decide)) ?_
          refine j_isub d_In_numberOfLeadingZeros_77 ?_
          refine j_eqi (y := nI (15 - ((a / 65536) / 2))) (pk_sub (by omega)) ?_
          exact j_iret hκ rfl (by omega) (by omega) d_In_numberOfLeadingZeros_78 ⟨nz_f (by decide) (by rcases (show (a / 65536) / 2 = 0 ∨ (a / 65536) / 2 = 1 by omega) with e9 | e9 <;> rw [e9] <;> simp only [Nat.reduceSub, Nat.reduceAdd, Nat.reducePow] <;> omega) (by rcases (show (a / 65536) / 2 = 0 ∨ (a / 65536) / 2 = 1 by omega) with e9 | e9 <;> rw [e9] <;> simp only [Nat.reduceSub, Nat.reduceAdd, Nat.reducePow] <;> omega) (by omega), rfl⟩
        · skip
          refine j_iinc (v := nI 13) [(1, .int (nI 13)), (0, .int (nI (a / 65536)))] d_In_numberOfLeadingZeros_66 1 rfl (by decide) (by decide) rfl ?_
          refine j_iload_n d_In_numberOfLeadingZeros_69 rfl 1 rfl ?_
          refine j_iconst (v := nI 2) d_In_numberOfLeadingZeros_70 (by decide) ?_
          refine j_iushr d_In_numberOfLeadingZeros_71 ?_
          refine j_eqi (y := nI ((a / 65536) / 4)) (pk_ushrN (by omega) _ 2 (by decide)) ?_
          refine j_istore_n [(0, .int (nI ((a / 65536) / 4))), (1, .int (nI 13))] d_In_numberOfLeadingZeros_72 rfl (by decide) rfl ?_
          refine j_iload_n d_In_numberOfLeadingZeros_73 rfl 1 rfl ?_
          refine j_iload_n d_In_numberOfLeadingZeros_74 rfl 0 rfl ?_
          refine j_iconst (v := nI 1) d_In_numberOfLeadingZeros_75 (by decide) ?_
          refine j_iushr d_In_numberOfLeadingZeros_76 ?_
          refine j_eqi (y := nI (((a / 65536) / 4) / 2)) (pk_ushrN (by omega) _ 1 (by decide)) ?_
          refine j_isub d_In_numberOfLeadingZeros_77 ?_
          refine j_eqi (y := nI (13 - (((a / 65536) / 4) / 2))) (pk_sub (by omega)) ?_
          exact j_iret hκ rfl (by omega) (by omega) d_In_numberOfLeadingZeros_78 ⟨nz_f (by decide) (by rcases (show ((a / 65536) / 4) / 2 = 0 ∨ ((a / 65536) / 4) / 2 = 1 by omega) with e9 | e9 <;> rw [e9] <;> simp only [Nat.reduceSub, Nat.reduceAdd, Nat.reducePow] <;> omega) (by rcases (show ((a / 65536) / 4) / 2 = 0 ∨ ((a / 65536) / 4) / 2 = 1 by omega) with e9 | e9 <;> rw [e9] <;> simp only [Nat.reduceSub, Nat.reduceAdd, Nat.reducePow] <;> omega) (by omega), rfl⟩
      · skip
        refine j_iinc (v := nI 11) [(1, .int (nI 11)), (0, .int (nI (a / 65536)))] d_In_numberOfLeadingZeros_54 1 rfl (by decide) (by decide) rfl ?_
        refine j_iload_n d_In_numberOfLeadingZeros_57 rfl 1 rfl ?_
        refine j_iconst (v := nI 4) d_In_numberOfLeadingZeros_58 (by decide) ?_
        refine j_iushr d_In_numberOfLeadingZeros_59 ?_
        refine j_eqi (y := nI ((a / 65536) / 16)) (pk_ushrN (by omega) _ 4 (by decide)) ?_
        refine j_istore_n [(0, .int (nI ((a / 65536) / 16))), (1, .int (nI 11))] d_In_numberOfLeadingZeros_60 rfl (by decide) rfl ?_
        refine j_iload_n d_In_numberOfLeadingZeros_61 rfl 0 rfl ?_
        refine j_iconst (v := nI 4) d_In_numberOfLeadingZeros_62 (by decide) ?_
        refine j_ncmp_lt 73 ((a / 65536) / 16) 4 rfl rfl (by omega) (by omega) d_In_numberOfLeadingZeros_63 (by decide) (fun b63 => ?_) (fun b63 => ?_)
        · skip
          refine j_iload_n d_In_numberOfLeadingZeros_73 rfl 1 rfl ?_
          refine j_iload_n d_In_numberOfLeadingZeros_74 rfl 0 rfl ?_
          refine j_iconst (v := nI 1) d_In_numberOfLeadingZeros_75 (by decide) ?_
          refine j_iushr d_In_numberOfLeadingZeros_76 ?_
          refine j_eqi (y := nI (((a / 65536) / 16) / 2)) (pk_ushrN (by omega) _ 1 (by decide)) ?_
          refine j_isub d_In_numberOfLeadingZeros_77 ?_
          refine j_eqi (y := nI (11 - (((a / 65536) / 16) / 2))) (pk_sub (by omega)) ?_
          exact j_iret hκ rfl (by omega) (by omega) d_In_numberOfLeadingZeros_78 ⟨nz_f (by decide) (by rcases (show ((a / 65536) / 16) / 2 = 0 ∨ ((a / 65536) / 16) / 2 = 1 by omega) with e9 | e9 <;> rw [e9] <;> simp only [Nat.reduceSub, Nat.reduceAdd, Nat.reducePow] <;> omega) (by rcases (show ((a / 65536) / 16) / 2 = 0 ∨ ((a / 65536) / 16) / 2 = 1 by omega) with e9 | e9 <;> rw [e9] <;> simp only [Nat.reduceSub, Nat.reduceAdd, Nat.reducePow] <;> omega) (by omega), rfl⟩
        · skip
          refine j_iinc (v := nI 9) [(1, .int (nI 9)), (0, .int (nI ((a / 65536) / 16)))] d_In_numberOfLeadingZeros_66 1 rfl (by decide) (by decide) rfl ?_
          refine j_iload_n d_In_numberOfLeadingZeros_69 rfl 1 rfl ?_
          refine j_iconst (v := nI 2) d_In_numberOfLeadingZeros_70 (by decide) ?_
          refine j_iushr d_In_numberOfLeadingZeros_71 ?_
          refine j_eqi (y := nI (((a / 65536) / 16) / 4)) (pk_ushrN (by omega) _ 2 (by decide)) ?_
          refine j_istore_n [(0, .int (nI (((a / 65536) / 16) / 4))), (1, .int (nI 9))] d_In_numberOfLeadingZeros_72 rfl (by decide) rfl ?_
          refine j_iload_n d_In_numberOfLeadingZeros_73 rfl 1 rfl ?_
          refine j_iload_n d_In_numberOfLeadingZeros_74 rfl 0 rfl ?_
          refine j_iconst (v := nI 1) d_In_numberOfLeadingZeros_75 (by decide) ?_
          refine j_iushr d_In_numberOfLeadingZeros_76 ?_
          refine j_eqi (y := nI ((((a / 65536) / 16) / 4) / 2)) (pk_ushrN (by omega) _ 1 (by decide)) ?_
          refine j_isub d_In_numberOfLeadingZeros_77 ?_
          refine j_eqi (y := nI (9 - ((((a / 65536) / 16) / 4) / 2))) (pk_sub (by omega)) ?_
          exact j_iret hκ rfl (by omega) (by omega) d_In_numberOfLeadingZeros_78 ⟨nz_f (by decide) (by rcases (show (((a / 65536) / 16) / 4) / 2 = 0 ∨ (((a / 65536) / 16) / 4) / 2 = 1 by omega) with e9 | e9 <;> rw [e9] <;> simp only [Nat.reduceSub, Nat.reduceAdd, Nat.reducePow] <;> omega) (by rcases (show (((a / 65536) / 16) / 4) / 2 = 0 ∨ (((a / 65536) / 16) / 4) / 2 = 1 by omega) with e9 | e9 <;> rw [e9] <;> simp only [Nat.reduceSub, Nat.reduceAdd, Nat.reducePow] <;> omega) (by omega), rfl⟩
    · skip
      refine j_iinc (v := nI 7) [(1, .int (nI 7)), (0, .int (nI (a / 65536)))] d_In_numberOfLeadingZeros_40 1 rfl (by decide) (by decide) rfl ?_
      refine j_iload_n d_In_numberOfLeadingZeros_43 rfl 1 rfl ?_
      refine j_bipush (v := nI 8) d_In_numberOfLeadingZeros_44 (by decide) ?_
      refine j_iushr d_In_numberOfLeadingZeros_46 ?_
      refine j_eqi (y := nI ((a / 65536) / 256)) (pk_ushrN (by omega) _ 8 (by decide)) ?_
      refine j_istore_n [(0, .int (nI ((a / 65536) / 256))), (1, .int (nI 7))] d_In_numberOfLeadingZeros_47 rfl (by decide) rfl ?_
      refine j_iload_n d_In_numberOfLeadingZeros_48 rfl 0 rfl ?_
      refine j_bipush (v := nI 16) d_In_numberOfLeadingZeros_49 (by decide) ?_
      refine j_ncmp_lt 61 ((a / 65536) / 256) 16 rfl rfl (by omega) (by omega) d_In_numberOfLeadingZeros_51 (by decide) (fun b51 => ?_) (fun b51 => ?_)
      · skip
        refine j_iload_n d_In_numberOfLeadingZeros_61 rfl 0 rfl ?_
        refine j_iconst (v := nI 4) d_In_numberOfLeadingZeros_62 (by decide) ?_
        refine j_ncmp_lt 73 ((a / 65536) / 256) 4 rfl rfl (by omega) (by omega) d_In_numberOfLeadingZeros_63 (by decide) (fun b63 => ?_) (fun b63 => ?_)
        · skip
          refine j_iload_n d_In_numberOfLeadingZeros_73 rfl 1 rfl ?_
          refine j_iload_n d_In_numberOfLeadingZeros_74 rfl 0 rfl ?_
          refine j_iconst (v := nI 1) d_In_numberOfLeadingZeros_75 (by decide) ?_
          refine j_iushr d_In_numberOfLeadingZeros_76 ?_
          refine j_eqi (y := nI (((a / 65536) / 256) / 2)) (pk_ushrN (by omega) _ 1 (by decide)) ?_
          refine j_isub d_In_numberOfLeadingZeros_77 ?_
          refine j_eqi (y := nI (7 - (((a / 65536) / 256) / 2))) (pk_sub (by omega)) ?_
          exact j_iret hκ rfl (by omega) (by omega) d_In_numberOfLeadingZeros_78 ⟨nz_f (by decide) (by rcases (show ((a / 65536) / 256) / 2 = 0 ∨ ((a / 65536) / 256) / 2 = 1 by omega) with e9 | e9 <;> rw [e9] <;> simp only [Nat.reduceSub, Nat.reduceAdd, Nat.reducePow] <;> omega) (by rcases (show ((a / 65536) / 256) / 2 = 0 ∨ ((a / 65536) / 256) / 2 = 1 by omega) with e9 | e9 <;> rw [e9] <;> simp only [Nat.reduceSub, Nat.reduceAdd, Nat.reducePow] <;> omega) (by omega), rfl⟩
        · skip
          refine j_iinc (v := nI 5) [(1, .int (nI 5)), (0, .int (nI ((a / 65536) / 256)))] d_In_numberOfLeadingZeros_66 1 rfl (by decide) (by decide) rfl ?_
          refine j_iload_n d_In_numberOfLeadingZeros_69 rfl 1 rfl ?_
          refine j_iconst (v := nI 2) d_In_numberOfLeadingZeros_70 (by decide) ?_
          refine j_iushr d_In_numberOfLeadingZeros_71 ?_
          refine j_eqi (y := nI (((a / 65536) / 256) / 4)) (pk_ushrN (by omega) _ 2 (by decide)) ?_
          refine j_istore_n [(0, .int (nI (((a / 65536) / 256) / 4))), (1, .int (nI 5))] d_In_numberOfLeadingZeros_72 rfl (by decide) rfl ?_
          refine j_iload_n d_In_numberOfLeadingZeros_73 rfl 1 rfl ?_
          refine j_iload_n d_In_numberOfLeadingZeros_74 rfl 0 rfl ?_
          refine j_iconst (v := nI 1) d_In_numberOfLeadingZeros_75 (by decide) ?_
          refine j_iushr d_In_numberOfLeadingZeros_76 ?_
          refine j_eqi (y := nI ((((a / 65536) / 256) / 4) / 2)) (pk_ushrN (by omega) _ 1 (by decide)) ?_
          refine j_isub d_In_numberOfLeadingZeros_77 ?_
          refine j_eqi (y := nI (5 - ((((a / 65536) / 256) / 4) / 2))) (pk_sub (by omega)) ?_
          exact j_iret hκ rfl (by omega) (by omega) d_In_numberOfLeadingZeros_78 ⟨nz_f (by decide) (by rcases (show (((a / 65536) / 256) / 4) / 2 = 0 ∨ (((a / 65536) / 256) / 4) / 2 = 1 by omega) with e9 | e9 <;> rw [e9] <;> simp only [Nat.reduceSub, Nat.reduceAdd, Nat.reducePow] <;> omega) (by rcases (show (((a / 65536) / 256) / 4) / 2 = 0 ∨ (((a / 65536) / 256) / 4) / 2 = 1 by omega) with e9 | e9 <;> rw [e9] <;> simp only [Nat.reduceSub, Nat.reduceAdd, Nat.reducePow] <;> omega) (by omega), rfl⟩
      · skip
        refine j_iinc (v := nI 3) [(1, .int (nI 3)), (0, .int (nI ((a / 65536) / 256)))] d_In_numberOfLeadingZeros_54 1 rfl (by decide) (by decide) rfl ?_
        refine j_iload_n d_In_numberOfLeadingZeros_57 rfl 1 rfl ?_
        refine j_iconst (v := nI 4) d_In_numberOfLeadingZeros_58 (by decide) ?_
        refine j_iushr d_In_numberOfLeadingZeros_59 ?_
        refine j_eqi (y := nI (((a / 65536) / 256) / 16)) (pk_ushrN (by omega) _ 4 (by decide)) ?_
        refine j_istore_n [(0, .int (nI (((a / 65536) / 256) / 16))), (1, .int (nI 3))] d_In_numberOfLeadingZeros_60 rfl (by decide) rfl ?_
        refine j_iload_n d_In_numberOfLeadingZeros_61 rfl 0 rfl ?_
        refine j_iconst (v := nI 4) d_In_numberOfLeadingZeros_62 (by decide) ?_
        refine j_ncmp_lt 73 (((a / 65536) / 256) / 16) 4 rfl rfl (by omega) (by omega) d_In_numberOfLeadingZeros_63 (by decide) (fun b63 => ?_) (fun b63 => ?_)
        · skip
          refine j_iload_n d_In_numberOfLeadingZeros_73 rfl 1 rfl ?_
          refine j_iload_n d_In_numberOfLeadingZeros_74 rfl 0 rfl ?_
          refine j_iconst (v := nI 1) d_In_numberOfLeadingZeros_75 (by decide) ?_
          refine j_iushr d_In_numberOfLeadingZeros_76 ?_
          refine j_eqi (y := nI ((((a / 65536) / 256) / 16) / 2)) (pk_ushrN (by omega) _ 1 (by decide)) ?_
          refine j_isub d_In_numberOfLeadingZeros_77 ?_
          refine j_eqi (y := nI (3 - ((((a / 65536) / 256) / 16) / 2))) (pk_sub (by omega)) ?_
          exact j_iret hκ rfl (by omega) (by omega) d_In_numberOfLeadingZeros_78 ⟨nz_f (by decide) (by rcases (show (((a / 65536) / 256) / 16) / 2 = 0 ∨ (((a / 65536) / 256) / 16) / 2 = 1 by omega) with e9 | e9 <;> rw [e9] <;> simp only [Nat.reduceSub, Nat.reduceAdd, Nat.reducePow] <;> omega) (by rcases (show (((a / 65536) / 256) / 16) / 2 = 0 ∨ (((a / 65536) / 256) / 16) / 2 = 1 by omega) with e9 | e9 <;> rw [e9] <;> simp only [Nat.reduceSub, Nat.reduceAdd, Nat.reducePow] <;> omega) (by omega), rfl⟩
        · skip
          refine j_iinc (v := nI 1) [(1, .int (nI 1)), (0, .int (nI (((a / 65536) / 256) / 16)))] d_In_numberOfLeadingZeros_66 1 rfl (by decide) (by decide) rfl ?_
          refine j_iload_n d_In_numberOfLeadingZeros_69 rfl 1 rfl ?_
          refine j_iconst (v := nI 2) d_In_numberOfLeadingZeros_70 (by decide) ?_
          refine j_iushr d_In_numberOfLeadingZeros_71 ?_
          refine j_eqi (y := nI ((((a / 65536) / 256) / 16) / 4)) (pk_ushrN (by omega) _ 2 (by decide)) ?_
          refine j_istore_n [(0, .int (nI ((((a / 65536) / 256) / 16) / 4))), (1, .int (nI 1))] d_In_numberOfLeadingZeros_72 rfl (by decide) rfl ?_
          refine j_iload_n d_In_numberOfLeadingZeros_73 rfl 1 rfl ?_
          refine j_iload_n d_In_numberOfLeadingZeros_74 rfl 0 rfl ?_
          refine j_iconst (v := nI 1) d_In_numberOfLeadingZeros_75 (by decide) ?_
          refine j_iushr d_In_numberOfLeadingZeros_76 ?_
          refine j_eqi (y := nI (((((a / 65536) / 256) / 16) / 4) / 2)) (pk_ushrN (by omega) _ 1 (by decide)) ?_
          refine j_isub d_In_numberOfLeadingZeros_77 ?_
          refine j_eqi (y := nI (1 - (((((a / 65536) / 256) / 16) / 4) / 2))) (pk_sub (by omega)) ?_
          exact j_iret hκ rfl (by omega) (by omega) d_In_numberOfLeadingZeros_78 ⟨nz_f (by decide) (by rcases (show ((((a / 65536) / 256) / 16) / 4) / 2 = 0 ∨ ((((a / 65536) / 256) / 16) / 4) / 2 = 1 by omega) with e9 | e9 <;> rw [e9] <;> simp only [Nat.reduceSub, Nat.reduceAdd, Nat.reducePow] <;> omega) (by rcases (show ((((a / 65536) / 256) / 16) / 4) / 2 = 0 ∨ ((((a / 65536) / 256) / 16) / 4) / 2 = 1 by omega) with e9 | e9 <;> rw [e9] <;> simp only [Nat.reduceSub, Nat.reduceAdd, Nat.reducePow] <;> omega) (by omega), rfl⟩

theorem nz_neg {a : Nat} (h1 : 2 ^ 31 ≤ a) (h2 : a < 2 ^ 32) : ¬ 0 < nI a ∧ ¬ nI a = 0 := by
  have e : (nI a).toInt = (a : Int) - 4294967296 := by
    have h := Int32.toInt_ofNat' (n := a)
    unfold nI
    rw [h]
    simp only [Int.bmod, show Int32.size = 4294967296 from rfl]
    split <;> omega
  refine ⟨fun h => ?_, fun h => ?_⟩
  · have := Int32.lt_iff_toInt_lt.mp h
    rw [e] at this
    simp at this
    omega
  · rw [h] at e
    simp at e
    omega
set_option maxHeartbeats 4000000 in
set_option maxRecDepth 100000 in
theorem c_In_nlzN (l : Launch) (E : mp_E) (M : mp_M) (a : Nat) (ha : 2 ^ 31 ≤ a ∧ a < 2 ^ 32) : mp_Cr l m_In_numberOfLeadingZeros E M 1 0 0 [.int (nI a)] (fun v N => v = some (.int (nI 0)) ∧ N = M) := by
  refine mp_Cr.of (by decide) (Nat.le_of_ble_eq_true rfl) fun Γ κ hl hκ => ?_
  subst hl
  obtain ⟨hκd, hκc, hκs, -⟩ := id hκ
  show mp_J Γ m_In_numberOfLeadingZeros E κ M [(0, .int (nI a))] 0 [] 0 0
  refine j_iload_n d_In_numberOfLeadingZeros_0 rfl 0 rfl ?_
  refine j_if_gt 15 d_In_numberOfLeadingZeros_1 (by decide) (fun b1 => absurd b1 (nz_neg ha.1 ha.2).1) (fun b1 => ?_)
  refine j_iload_n d_In_numberOfLeadingZeros_4 rfl 0 rfl ?_
  refine j_if_ne 13 d_In_numberOfLeadingZeros_5 (by decide) (fun b5 => ?_) (fun b5 => absurd b5 (nz_neg ha.1 ha.2).2)
  refine j_iconst (v := nI 0) d_In_numberOfLeadingZeros_13 (by decide) ?_
  exact j_iret hκ rfl (by omega) (by omega) d_In_numberOfLeadingZeros_14 ⟨rfl, rfl⟩

set_option maxHeartbeats 4000000 in
set_option maxRecDepth 100000 in
theorem c_Lo_nlzA (l : Launch) (E : mp_E) (M : mp_M) (r : Nat) (hr : 0 < r ∧ r < 2 ^ 31) : mp_Cr l m_Lo_numberOfLeadingZeros E M 2 0 0 [.long (lN r)] (fun v N => v = some (.int (nI (63 - Nat.log2 r))) ∧ N = M) := by
  refine mp_Cr.of (by decide) (Nat.le_of_ble_eq_true rfl) fun Γ κ hl hκ => ?_
  subst hl
  obtain ⟨hκd, hκc, hκs, -⟩ := id hκ
  show mp_J Γ m_Lo_numberOfLeadingZeros E κ M [(0, .long (lN r))] 0 [] 0 0
  refine j_lload_n d_Lo_numberOfLeadingZeros_0 rfl 0 rfl ?_
  refine j_bipush (v := nI 32) d_Lo_numberOfLeadingZeros_1 (by decide) ?_
  refine j_lushr d_Lo_numberOfLeadingZeros_3 ?_
  refine j_eql (y := lN (r / 2 ^ 32)) (wb_shr (by omega) (by decide)) ?_
  refine j_l2i d_Lo_numberOfLeadingZeros_4 ?_
  refine j_eqi (y := nI (r / 2 ^ 32)) (lN_i _) ?_
  refine j_istore_n [(2, .int (nI (r / 2 ^ 32))), (0, .long (lN r))] d_Lo_numberOfLeadingZeros_5 rfl (by decide) rfl ?_
  refine j_iload_n d_Lo_numberOfLeadingZeros_6 rfl 0 rfl ?_
  refine j_nif_ne 21 (r / 2 ^ 32) rfl (by omega) d_Lo_numberOfLeadingZeros_7 (by decide) (fun b7 => absurd b7 (by omega)) (fun b7 => ?_)
  refine j_bipush (v := nI 32) d_Lo_numberOfLeadingZeros_10 (by decide) ?_
  refine j_lload_n d_Lo_numberOfLeadingZeros_12 rfl 1 rfl ?_
  refine j_l2i d_Lo_numberOfLeadingZeros_13 ?_
  refine j_eqi (y := nI r) (lN_i _) ?_
  refine j_callS (As := [.int (nI r)]) (rest := [.int (nI 32)]) (c_In_nlz Γ.l E M r hr) Y_In_numberOfLeadingZeros w_157 w_158 rfl rfl (Nat.le_of_ble_eq_true rfl) (by omega) (by omega) (by omega) d_Lo_numberOfLeadingZeros_14 (fun v14 N14 p14 => ?_)
  obtain ⟨rfl, q14⟩ := p14
  obtain rfl := q14.symm
  show mp_J Γ m_Lo_numberOfLeadingZeros E κ M [(2, .int (nI (r / 2 ^ 32))), (0, .long (lN r))] 17 [.int (nI (31 - Nat.log2 r)), .int (nI 32)] 0 0
  refine j_iadd d_Lo_numberOfLeadingZeros_17 ?_
  refine j_eqi (y := nI (32 + (31 - Nat.log2 r))) (nI_add 32 (31 - Nat.log2 r)) ?_
  refine j_goto (tgt := 25) d_Lo_numberOfLeadingZeros_18 (by decide) ?_
  exact j_iret hκ rfl (by omega) (by omega) d_Lo_numberOfLeadingZeros_25 ⟨by have h9 : Nat.log2 r < 31 := (Nat.log2_lt (by omega)).mpr hr.2; rw [show 32 + (31 - Nat.log2 r) = 63 - Nat.log2 r by omega], rfl⟩

set_option maxHeartbeats 4000000 in
set_option maxRecDepth 100000 in
theorem c_Lo_nlzB (l : Launch) (E : mp_E) (M : mp_M) (r : Nat) (hr : 2 ^ 31 ≤ r ∧ r < 2 ^ 32) : mp_Cr l m_Lo_numberOfLeadingZeros E M 2 0 0 [.long (lN r)] (fun v N => v = some (.int (nI (63 - Nat.log2 r))) ∧ N = M) := by
  refine mp_Cr.of (by decide) (Nat.le_of_ble_eq_true rfl) fun Γ κ hl hκ => ?_
  subst hl
  obtain ⟨hκd, hκc, hκs, -⟩ := id hκ
  show mp_J Γ m_Lo_numberOfLeadingZeros E κ M [(0, .long (lN r))] 0 [] 0 0
  refine j_lload_n d_Lo_numberOfLeadingZeros_0 rfl 0 rfl ?_
  refine j_bipush (v := nI 32) d_Lo_numberOfLeadingZeros_1 (by decide) ?_
  refine j_lushr d_Lo_numberOfLeadingZeros_3 ?_
  refine j_eql (y := lN (r / 2 ^ 32)) (wb_shr (by omega) (by decide)) ?_
  refine j_l2i d_Lo_numberOfLeadingZeros_4 ?_
  refine j_eqi (y := nI (r / 2 ^ 32)) (lN_i _) ?_
  refine j_istore_n [(2, .int (nI (r / 2 ^ 32))), (0, .long (lN r))] d_Lo_numberOfLeadingZeros_5 rfl (by decide) rfl ?_
  refine j_iload_n d_Lo_numberOfLeadingZeros_6 rfl 0 rfl ?_
  refine j_nif_ne 21 (r / 2 ^ 32) rfl (by omega) d_Lo_numberOfLeadingZeros_7 (by decide) (fun b7 => absurd b7 (by omega)) (fun b7 => ?_)
  refine j_bipush (v := nI 32) d_Lo_numberOfLeadingZeros_10 (by decide) ?_
  refine j_lload_n d_Lo_numberOfLeadingZeros_12 rfl 1 rfl ?_
  refine j_l2i d_Lo_numberOfLeadingZeros_13 ?_
  refine j_eqi (y := nI r) (lN_i _) ?_
  refine j_callS (As := [.int (nI r)]) (rest := [.int (nI 32)]) (c_In_nlzN Γ.l E M r hr) Y_In_numberOfLeadingZeros w_157 w_158 rfl rfl (Nat.le_of_ble_eq_true rfl) (by omega) (by omega) (by omega) d_Lo_numberOfLeadingZeros_14 (fun v14 N14 p14 => ?_)
  obtain ⟨rfl, q14⟩ := p14
  obtain rfl := q14.symm
  show mp_J Γ m_Lo_numberOfLeadingZeros E κ M [(2, .int (nI (r / 2 ^ 32))), (0, .long (lN r))] 17 [.int (nI 0), .int (nI 32)] 0 0
  refine j_iadd d_Lo_numberOfLeadingZeros_17 ?_
  refine j_eqi (y := nI (32 + 0)) (nI_add 32 0) ?_
  refine j_goto (tgt := 25) d_Lo_numberOfLeadingZeros_18 (by decide) ?_
  exact j_iret hκ rfl (by omega) (by omega) d_Lo_numberOfLeadingZeros_25 ⟨by rw [nz_log (k := 31) hr.1 hr.2], rfl⟩

theorem nz_div {r : Nat} (h1 : 2 ^ 32 ≤ r) (h2 : r < 2 ^ 40) : Nat.log2 (r / 2 ^ 32) = Nat.log2 r - 32 ∧ 32 ≤ Nat.log2 r ∧ Nat.log2 r < 40 := by
  have h0 : r ≠ 0 := by omega
  have a1 : ¬ Nat.log2 r < 32 := fun h => absurd ((Nat.log2_lt h0).mp h) (by omega)
  have a2 : Nat.log2 r < 40 := (Nat.log2_lt h0).mpr h2
  refine ⟨?_, by omega, a2⟩
  have b1 : 2 ^ Nat.log2 r ≤ r := Nat.log2_self_le h0
  have b2 : r < 2 ^ (Nat.log2 r + 1) := (Nat.log2_lt h0).mp (Nat.lt_succ_self _)
  generalize hk : Nat.log2 r = k at *
  have e1 : (2 : Nat) ^ k = 2 ^ (k - 32) * 2 ^ 32 := by rw [← Nat.pow_add]; congr 1; omega
  have e2 : (2 : Nat) ^ (k + 1) = 2 ^ (k - 32 + 1) * 2 ^ 32 := by rw [← Nat.pow_add]; congr 1; omega
  apply nz_log
  · rw [Nat.le_div_iff_mul_le (by decide)]; omega
  · rw [Nat.div_lt_iff_lt_mul (by decide)]; omega
set_option maxHeartbeats 4000000 in
set_option maxRecDepth 100000 in
theorem c_Lo_nlzC (l : Launch) (E : mp_E) (M : mp_M) (r : Nat) (hr : 2 ^ 32 ≤ r ∧ r < 2 ^ 40) : mp_Cr l m_Lo_numberOfLeadingZeros E M 2 0 0 [.long (lN r)] (fun v N => v = some (.int (nI (63 - Nat.log2 r))) ∧ N = M) := by
  refine mp_Cr.of (by decide) (Nat.le_of_ble_eq_true rfl) fun Γ κ hl hκ => ?_
  subst hl
  obtain ⟨hκd, hκc, hκs, -⟩ := id hκ
  show mp_J Γ m_Lo_numberOfLeadingZeros E κ M [(0, .long (lN r))] 0 [] 0 0
  refine j_lload_n d_Lo_numberOfLeadingZeros_0 rfl 0 rfl ?_
  refine j_bipush (v := nI 32) d_Lo_numberOfLeadingZeros_1 (by decide) ?_
  refine j_lushr d_Lo_numberOfLeadingZeros_3 ?_
  refine j_eql (y := lN (r / 2 ^ 32)) (wb_shr (by omega) (by decide)) ?_
  refine j_l2i d_Lo_numberOfLeadingZeros_4 ?_
  refine j_eqi (y := nI (r / 2 ^ 32)) (lN_i _) ?_
  refine j_istore_n [(2, .int (nI (r / 2 ^ 32))), (0, .long (lN r))] d_Lo_numberOfLeadingZeros_5 rfl (by decide) rfl ?_
  refine j_iload_n d_Lo_numberOfLeadingZeros_6 rfl 0 rfl ?_
  refine j_nif_ne 21 (r / 2 ^ 32) rfl (by omega) d_Lo_numberOfLeadingZeros_7 (by decide) (fun b7 => ?_) (fun b7 => absurd b7 (by omega))
  refine j_iload_n d_Lo_numberOfLeadingZeros_21 rfl 0 rfl ?_
  refine j_callS (As := [.int (nI (r / 2 ^ 32))]) (rest := []) (c_In_nlz Γ.l E M (r / 2 ^ 32) (by omega)) Y_In_numberOfLeadingZeros w_157 w_158 rfl rfl (Nat.le_of_ble_eq_true rfl) (by omega) (by omega) (by omega) d_Lo_numberOfLeadingZeros_22 (fun v22 N22 p22 => ?_)
  obtain ⟨rfl, q22⟩ := p22
  obtain rfl := q22.symm
  show mp_J Γ m_Lo_numberOfLeadingZeros E κ M [(2, .int (nI (r / 2 ^ 32))), (0, .long (lN r))] 25 [.int (nI (31 - Nat.log2 (r / 2 ^ 32)))] 0 0
  exact j_iret hκ rfl (by omega) (by omega) d_Lo_numberOfLeadingZeros_25 ⟨by obtain ⟨e1, e2, e3⟩ := nz_div hr.1 hr.2; rw [e1, show 31 - (Nat.log2 r - 32) = 63 - Nat.log2 r by omega], rfl⟩

theorem c_Lo_nlz (l : Launch) (E : mp_E) (M : mp_M) (r : Nat) (hr : 0 < r ∧ r < 2 ^ 40) : mp_Cr l m_Lo_numberOfLeadingZeros E M 2 0 0 [.long (lN r)] (fun v N => v = some (.int (nI (63 - Nat.log2 r))) ∧ N = M) := by
  by_cases h1 : r < 2 ^ 31
  · exact c_Lo_nlzA l E M r ⟨hr.1, h1⟩
  by_cases h2 : r < 2 ^ 32
  · exact c_Lo_nlzB l E M r ⟨by omega, h2⟩
  · exact c_Lo_nlzC l E M r ⟨by omega, hr.2⟩
def bl (r : Nat) : Nat := if r = 0 then 0 else (64 - (63 - Nat.log2 r)) / 8 + 1
theorem bl_le {r : Nat} (h : r < 2 ^ 40) : bl r ≤ 6 := by
  unfold bl
  split
  · omega
  · have : Nat.log2 r < 40 := (Nat.log2_lt (by assumption)).mpr h
    omega
theorem lg_cmp0 {r : Nat} (h : r < 2 ^ 40) : lg_cmp (lN r) 0 = 0 ↔ r = 0 := by
  rw [lg_cmp_eq]
  exact pk_lEQ (b := 0) (by omega) (by omega)
set_option maxHeartbeats 4000000 in
set_option maxRecDepth 100000 in
theorem c_Th_bytesFor (l : Launch) (E : mp_E) (M : mp_M) (r : Nat) (hr : r < 2 ^ 40) : mp_Cr l m_Th_bytesFor E M 3 0 0 [.long (lN r)] (fun v N => v = some (.int (nI (bl r))) ∧ N = M) := by
  refine mp_Cr.of (by decide) (Nat.le_of_ble_eq_true rfl) fun Γ κ hl hκ => ?_
  subst hl
  obtain ⟨hκd, hκc, hκs, -⟩ := id hκ
  show mp_J Γ m_Th_bytesFor E κ M [(0, .long (lN r))] 0 [] 0 0
  refine j_lload_n d_Th_bytesFor_0 rfl 0 rfl ?_
  refine j_lconst (v := 0) d_Th_bytesFor_1 (by decide) ?_
  refine j_lcmp d_Th_bytesFor_2 ?_
  refine j_if_ne 10 d_Th_bytesFor_3 (by decide) (fun b3 => ?_) (fun b3 => ?_)
  · skip
    have hne : r ≠ 0 := fun hz => b3 ((lg_cmp0 hr).mpr hz)
    have hlg : Nat.log2 r < 40 := (Nat.log2_lt hne).mpr hr
    refine j_bipush (v := nI 64) d_Th_bytesFor_10 (by decide) ?_
    refine j_lload_n d_Th_bytesFor_12 rfl 0 rfl ?_
    refine j_callS (As := [.long (lN r)]) (rest := [.int (nI 64)]) (c_Lo_nlz Γ.l E M r ⟨by omega, hr⟩) Y_Lo_numberOfLeadingZeros w_154 w_155 rfl rfl (Nat.le_of_ble_eq_true rfl) (by omega) (by omega) (by omega) d_Th_bytesFor_13 (fun v13 N13 p13 => ?_)
    obtain ⟨rfl, q13⟩ := p13
    obtain rfl := q13.symm
    show mp_J Γ m_Th_bytesFor E κ M [(0, .long (lN r))] 16 [.int (nI (63 - Nat.log2 r)), .int (nI 64)] 0 0
    refine j_isub d_Th_bytesFor_16 ?_
    refine j_eqi (y := nI (64 - (63 - Nat.log2 r))) (pk_sub (by omega)) ?_
    refine j_bipush (v := nI 8) d_Th_bytesFor_17 (by decide) ?_
    refine j_idiv (by decide) d_Th_bytesFor_19 ?_
    refine j_eqi (y := nI ((64 - (63 - Nat.log2 r)) / 8)) (pk_div (by omega) (by decide) (by decide)) ?_
    refine j_iconst (v := nI 1) d_Th_bytesFor_20 (by decide) ?_
    refine j_iadd d_Th_bytesFor_21 ?_
    refine j_eqi (y := nI (((64 - (63 - Nat.log2 r)) / 8) + 1)) (nI_add ((64 - (63 - Nat.log2 r)) / 8) 1) ?_
    exact j_iret hκ rfl (by omega) (by omega) d_Th_bytesFor_22 ⟨by unfold bl; rw [if_neg hne], rfl⟩
  · skip
    have heq : r = 0 := (lg_cmp0 hr).mp b3
    refine j_iconst (v := nI 0) d_Th_bytesFor_6 (by decide) ?_
    refine j_goto (tgt := 22) d_Th_bytesFor_7 (by decide) ?_
    exact j_iret hκ rfl (by omega) (by omega) d_Th_bytesFor_22 ⟨by unfold bl; rw [if_pos heq], rfl⟩

theorem j_absL {Γ : mp_G} {μ : mp_D} {E : mp_E} {κ : mp_K} {M : mp_M} {lv : List (Nat × Value)} {pc : Nat} {st : List Value} {k n ix : Nat} {x : Int64} (hw : mp_w (.methodLink μ.2.2.2.cls ix ⟨"java/lang/Math", "abs", "(J)J"⟩)) (hst : (st.map fun v => v.category).sum ≤ 8) (hd : 1 ≤ κ.2.1) (hk : k ≤ κ.2.2.1) (hn : n ≤ κ.2.2.2.1) (d : decode μ.1 pc = .ok (.invokestatic ix, 3)) (kk : mp_J Γ μ E κ M lv (pc + 3) (.long (if 0 < x then x else -x) :: st) k n) : mp_J Γ μ E κ M lv pc (.long x :: st) k n := fun hC H locs ls hH hl => by
  obtain ⟨hx, hb, hml, hown, hr, hlk, hnm, hTB, hK, hSt, hZ, hrm, hfin⟩ := id hC
  have hw3 : mp_w (.code Lib.MathLoose.abs_long.x Lib.MathLoose.abs_long.code 2 (some .long)) := w_150
  have hw4 : mp_w (.static Lib.MathLoose.abs_long.x) := w_149
  refine va_mabs_long hx hb (by rw [hml]; exact hl.1.symm) hown (mp_TB.use hTB hw) (mp_TB.use hTB hw4) (mp_TB.use hTB w_4) (mp_TB.use hTB hw3) (Nat.le_trans hd hrm.1) (by have := hrm.2.1; omega) (Nat.le_trans hk hrm.2.2.1) (Nat.le_trans hn hrm.2.2.2) d (kk hC H locs ls hH hl)
theorem j_maxI {Γ : mp_G} {μ : mp_D} {E : mp_E} {κ : mp_K} {M : mp_M} {lv : List (Nat × Value)} {pc : Nat} {st : List Value} {k n ix : Nat} {x y : Int32} (hw : mp_w (.methodLink μ.2.2.2.cls ix ⟨"java/lang/Math", "max", "(II)I"⟩)) (hst : (st.map fun v => v.category).sum ≤ 8) (hd : 1 ≤ κ.2.1) (hk : k ≤ κ.2.2.1) (hn : n ≤ κ.2.2.2.1) (d : decode μ.1 pc = .ok (.invokestatic ix, 3)) (kk : mp_J Γ μ E κ M lv (pc + 3) (.int (if x < y then y else x) :: st) k n) : mp_J Γ μ E κ M lv pc (.int y :: .int x :: st) k n := fun hC H locs ls hH hl => by
  obtain ⟨hx, hb, hml, hown, hr, hlk, hnm, hTB, hK, hSt, hZ, hrm, hfin⟩ := id hC
  have hw3 : mp_w (.code Lib.Math.max.name Lib.Math.max.code 2 (some .int)) := w_51
  have hw4 : mp_w (.static Lib.Math.max.name) := w_50
  refine va_mmax hx hb (by rw [hml]; exact hl.1.symm) hown (mp_TB.use hTB hw) (mp_TB.use hTB hw4) (mp_TB.use hTB w_4) (mp_TB.use hTB hw3) (Nat.le_trans hd hrm.1) (by have := hrm.2.1; omega) (Nat.le_trans hk hrm.2.2.1) (Nat.le_trans hn hrm.2.2.2) d (kk hC H locs ls hH hl)
theorem j_minI {Γ : mp_G} {μ : mp_D} {E : mp_E} {κ : mp_K} {M : mp_M} {lv : List (Nat × Value)} {pc : Nat} {st : List Value} {k n ix : Nat} {x y : Int32} (hw : mp_w (.methodLink μ.2.2.2.cls ix ⟨"java/lang/Math", "min", "(II)I"⟩)) (hst : (st.map fun v => v.category).sum ≤ 8) (hd : 1 ≤ κ.2.1) (hk : k ≤ κ.2.2.1) (hn : n ≤ κ.2.2.2.1) (d : decode μ.1 pc = .ok (.invokestatic ix, 3)) (kk : mp_J Γ μ E κ M lv (pc + 3) (.int (if y < x then y else x) :: st) k n) : mp_J Γ μ E κ M lv pc (.int y :: .int x :: st) k n := fun hC H locs ls hH hl => by
  obtain ⟨hx, hb, hml, hown, hr, hlk, hnm, hTB, hK, hSt, hZ, hrm, hfin⟩ := id hC
  have hw3 : mp_w (.code Lib.Math.min.name Lib.Math.min.code 2 (some .int)) := w_486
  have hw4 : mp_w (.static Lib.Math.min.name) := w_485
  refine va_mmin hx hb (by rw [hml]; exact hl.1.symm) hown (mp_TB.use hTB hw) (mp_TB.use hTB hw4) (mp_TB.use hTB w_4) (mp_TB.use hTB hw3) (Nat.le_trans hd hrm.1) (by have := hrm.2.1; omega) (Nat.le_trans hk hrm.2.2.1) (Nat.le_trans hn hrm.2.2.2) d (kk hC H locs ls hH hl)
theorem j_maxL {Γ : mp_G} {μ : mp_D} {E : mp_E} {κ : mp_K} {M : mp_M} {lv : List (Nat × Value)} {pc : Nat} {st : List Value} {k n ix : Nat} {x y : Int64} (hw : mp_w (.methodLink μ.2.2.2.cls ix ⟨"java/lang/Math", "max", "(JJ)J"⟩)) (hst : (st.map fun v => v.category).sum ≤ 8) (hd : 1 ≤ κ.2.1) (hk : k ≤ κ.2.2.1) (hn : n ≤ κ.2.2.2.1) (d : decode μ.1 pc = .ok (.invokestatic ix, 3)) (kk : mp_J Γ μ E κ M lv (pc + 3) (.long (if y < x then x else y) :: st) k n) : mp_J Γ μ E κ M lv pc (.long y :: .long x :: st) k n := fun hC H locs ls hH hl => by
  obtain ⟨hx, hb, hml, hown, hr, hlk, hnm, hTB, hK, hSt, hZ, hrm, hfin⟩ := id hC
  have hw3 : mp_w (.code Lib.MathLoose.max_long.x Lib.MathLoose.max_long.code 4 (some .long)) := w_758
  have hw4 : mp_w (.static Lib.MathLoose.max_long.x) := w_757
  refine va_mmax_long hx hb (by rw [hml]; exact hl.1.symm) hown (mp_TB.use hTB hw) (mp_TB.use hTB hw4) (mp_TB.use hTB w_4) (mp_TB.use hTB hw3) (Nat.le_trans hd hrm.1) (by have := hrm.2.1; omega) (Nat.le_trans hk hrm.2.2.1) (Nat.le_trans hn hrm.2.2.2) d (kk hC H locs ls hH hl)
theorem j_minL {Γ : mp_G} {μ : mp_D} {E : mp_E} {κ : mp_K} {M : mp_M} {lv : List (Nat × Value)} {pc : Nat} {st : List Value} {k n ix : Nat} {x y : Int64} (hw : mp_w (.methodLink μ.2.2.2.cls ix ⟨"java/lang/Math", "min", "(JJ)J"⟩)) (hst : (st.map fun v => v.category).sum ≤ 8) (hd : 1 ≤ κ.2.1) (hk : k ≤ κ.2.2.1) (hn : n ≤ κ.2.2.2.1) (d : decode μ.1 pc = .ok (.invokestatic ix, 3)) (kk : mp_J Γ μ E κ M lv (pc + 3) (.long (if y < x then y else x) :: st) k n) : mp_J Γ μ E κ M lv pc (.long y :: .long x :: st) k n := fun hC H locs ls hH hl => by
  obtain ⟨hx, hb, hml, hown, hr, hlk, hnm, hTB, hK, hSt, hZ, hrm, hfin⟩ := id hC
  have hw3 : mp_w (.code Lib.MathLoose.min_long.x Lib.MathLoose.min_long.code 4 (some .long)) := w_755
  have hw4 : mp_w (.static Lib.MathLoose.min_long.x) := w_754
  refine va_mmin_long hx hb (by rw [hml]; exact hl.1.symm) hown (mp_TB.use hTB hw) (mp_TB.use hTB hw4) (mp_TB.use hTB w_4) (mp_TB.use hTB hw3) (Nat.le_trans hd hrm.1) (by have := hrm.2.1; omega) (Nat.le_trans hk hrm.2.2.1) (Nat.le_trans hn hrm.2.2.2) d (kk hC H locs ls hH hl)
def bq (r i : Nat) : Int32 := (lN r >>> ((nI (8 * i)).toInt64 &&& 63)).toInt32.toInt8.toInt32
def of_f (neg : Bool) (r : Nat) : Nat → Int32 := fun i => if neg = true ∧ i + 1 = bl r then (bq r i ||| (-128)).toInt8.toInt32 else bq r i
set_option maxHeartbeats 4000000 in
set_option maxRecDepth 100000 in
theorem lp_Th_ofNumber {Γ : mp_G} {κ : mp_K} (E : mp_E) (M : mp_M) (x : Int64) (r0 qb k0 n0 : Nat) (hr : r0 < 2 ^ 40) (hx : ∀ (Mx : mp_M) (g : Nat → Int32), Mx = mp_up M qb (mp_b E (bl r0) g) → (∀ j, j < bl r0 → g j = bq r0 j) → mp_J Γ m_Th_ofNumber E κ Mx [(0, .long x), (2, .long (lN r0)), (4, .ref qb), (5, .int (nI (bl r0)))] 44 [] k0 n0)  : ∀ (r : Nat) (Mx : mp_M) (g : Nat → Int32) (i : Nat), bl r0 - i < r → (Mx = mp_up M qb (mp_b E (bl r0) g)) → (i ≤ bl r0) → (∀ j, j < i → g j = bq r0 j) → mp_J Γ m_Th_ofNumber E κ Mx [(0, .long x), (2, .long (lN r0)), (4, .ref qb), (5, .int (nI i))] 16 [] k0 n0 := by
  have hbl := bl_le hr
  intro r
  induction r with
  | zero => intro Mx g i hr; exact absurd hr (Nat.not_lt_zero _)
  | succ r ih =>
    intro Mx g i hr eX hi hg
    have hX : Mx qb = some (mp_b E (bl r0) g) := by rw [eX]; exact mp_s
    refine j_iload d_Th_ofNumber_16 3 rfl ?_
    refine j_aload d_Th_ofNumber_18 2 rfl ?_
    refine j_alen 0 hX rfl d_Th_ofNumber_20 ?_
    show mp_J Γ m_Th_ofNumber E κ Mx [(0, .long x), (2, .long (lN r0)), (4, .ref qb), (5, .int (nI i))] 21 [.int (nI (bl r0)), .int (nI i)] k0 n0
    refine j_ncmp_ge 44 i (bl r0) rfl rfl (by omega) (by omega) d_Th_ofNumber_21 (by decide) (fun b21 => ?_) (fun b21 => ?_)
    · skip
      refine j_lv [0, 1, 2, 3] rfl ?_
      (rw [show i = bl r0 by omega]; exact hx Mx g eX (fun j hj => hg j (by omega)))
    · skip
      refine j_aload d_Th_ofNumber_24 2 rfl ?_
      refine j_iload d_Th_ofNumber_26 3 rfl ?_
      refine j_lload_n d_Th_ofNumber_28 rfl 1 rfl ?_
      refine j_bipush (v := nI 8) d_Th_ofNumber_29 (by decide) ?_
      refine j_iload d_Th_ofNumber_31 3 rfl ?_
      refine j_imul d_Th_ofNumber_33 ?_
      refine j_eqi (y := nI (8 * i)) (pk_mul 8 i) ?_
      refine j_lshr d_Th_ofNumber_34 ?_
      refine j_l2i d_Th_ofNumber_35 ?_
      refine j_i2b d_Th_ofNumber_36 ?_
      refine j_eqi (y := bq r0 i) rfl ?_
      refine j_bast (y := bq r0 i) hX i rfl (by omega) (by omega) (pk_vb _) d_Th_ofNumber_37 ?_
      generalize eM1 : mp_up Mx qb (mp_b E (bl r0) (upd g i (bq r0 i))) = M1
      have hM1_qb : M1 qb = some (mp_b E (bl r0) (upd g i (bq r0 i))) := by rw [← eM1]; exact mp_s
      refine j_iinc (v := nI (i + 1)) [(5, .int (nI (i + 1))), (0, .long x), (2, .long (lN r0)), (4, .ref qb)] d_Th_ofNumber_38 3 rfl (nI_add i 1) (by decide) rfl ?_
      refine j_goto (tgt := 16) d_Th_ofNumber_41 (by decide) ?_
      refine j_lv [1, 2, 3, 0] rfl ?_
      exact ih M1 (upd g i (bq r0 i)) (i + 1) (by omega) (by rw [← eM1, eX, mp_uu]) (by omega) (lt_s (fun j hj => by rw [pk_un (by omega)]; exact hg j hj) pk_us)

theorem ab_2 {x : Int64} (h : 0 ≤ lg_cmp x 0) : ¬ x < 0 := Int64.not_lt.mpr ((lg_cmp_ge x 0).mp h)
theorem ab_1 {x : Int64} (h : ¬ 0 ≤ lg_cmp x 0) : x < 0 := Int64.not_le.mp (fun q => h ((lg_cmp_ge x 0).mpr q))
set_option maxHeartbeats 4000000 in
set_option maxRecDepth 100000 in
theorem en_Th_ofNumber {Γ : mp_G} {κ : mp_K} (E : mp_E) (M Mx : mp_M) (x : Int64) (r0 qb : Nat) (g : Nat → Int32) (hκ : mp_k κ 4 2 8 (fun v N => ∃ q1 q2, v = some (.ref q1) ∧ M q1 = none ∧ M q2 = none ∧ q1 ≠ q2 ∧ N = mp_up (mp_up M q2 (mp_b E (bl r0) (of_f (decide (x < 0)) r0))) q1 (mp_o 5 [.ref q2]))) (hr : r0 < 2 ^ 40) (hqb : M qb = none) (eX : Mx = mp_up M qb (mp_b E (bl r0) g)) (hg : ∀ j, j < bl r0 → g j = bq r0 j) : mp_J Γ m_Th_ofNumber E κ Mx [(0, .long x), (2, .long (lN r0)), (4, .ref qb), (5, .int (nI (bl r0)))] 44 [] (0 + 1) (0 + bl r0) := by
  obtain ⟨hκd, hκc, hκs, -⟩ := id hκ
  have hbl := bl_le hr
  have hX : Mx qb = some (mp_b E (bl r0) g) := by rw [eX]; exact mp_s
  refine j_lload_n d_Th_ofNumber_44 rfl 0 rfl ?_
  refine j_lconst (v := 0) d_Th_ofNumber_45 (by decide) ?_
  refine j_lcmp d_Th_ofNumber_46 ?_
  refine j_if_ge 70 d_Th_ofNumber_47 (by decide) (fun b47 => ?_) (fun b47 => ?_)
  · skip
    refine j_canon (of_f (decide (x < 0)) r0) hX (fun j hj => by rw [hg j hj]; unfold of_f; rw [if_neg (fun hz => by first | exact absurd (of_decide_eq_true hz.1) (ab_2 b47) | omega)]) ?_
    show mp_J Γ m_Th_ofNumber E κ (mp_up Mx qb (mp_b E (bl r0) (of_f (decide (x < 0)) r0))) [(0, .long x), (2, .long (lN r0)), (4, .ref qb), (5, .int (nI (bl r0)))] 70 [] (0 + 1) (0 + bl r0)
    generalize eM1 : mp_up Mx qb (mp_b E (bl r0) (of_f (decide (x < 0)) r0)) = M1
    have hM1_qb : M1 qb = some (mp_b E (bl r0) (of_f (decide (x < 0)) r0)) := by rw [← eM1]; exact mp_s
    refine j_new [.null] F_Th w_161 w_111 w_8 (fun j hj => by rcases (show j = 0 by omega) with rfl <;> rfl) (by omega) (by omega) d_Th_ofNumber_70 (fun q1 hq1 => ?_)
    generalize eM2 : mp_up M1 q1 (mp_o 5 [.null]) = M2
    have hM2_qb : M2 qb = some (mp_b E (bl r0) (of_f (decide (x < 0)) r0)) := by rw [← eM2, mp_n (mp_ne0 hM1_qb hq1)]; exact hM1_qb
    have hM2_q1 : M2 q1 = some (mp_o 5 [.null]) := by rw [← eM2]; exact mp_s
    have hne1 : q1 ≠ qb := fun e9 => by rw [e9] at hq1; simp_all
    have hq1M : M q1 = none := by subst_vars; simpa [mp_up, hne1] using hq1
    refine j_dup d_Th_ofNumber_73 rfl ?_
    refine j_aload d_Th_ofNumber_74 2 rfl ?_
    refine j_callI (As := [.ref qb]) (rest := [.ref q1]) (c_Th_init Γ.l E M2 q1 qb hM2_q1) Y_Th_init rfl rfl w_162 w_113 rfl rfl (Nat.le_of_ble_eq_true rfl) (by omega) (by omega) (by omega) d_Th_ofNumber_76 (fun v76 N76 p76 => ?_)
    obtain ⟨rfl, q76⟩ := p76
    show mp_J Γ m_Th_ofNumber E κ N76 [(0, .long x), (2, .long (lN r0)), (4, .ref qb), (5, .int (nI (bl r0)))] 79 [.ref q1] (0 + 1 + 1) (0 + bl r0 + 1)
    exact j_aret hκ rfl (by first | exact Or.inl ⟨_, rfl⟩ | exact Or.inr ⟨_, rfl⟩) (by omega) (by omega) d_Th_ofNumber_79 ⟨q1, qb, rfl, hq1M, hqb, hne1, by subst_vars; simp only [mp_uu]⟩
  · skip
    refine j_aload d_Th_ofNumber_50 2 rfl ?_
    refine j_alen 0 hX rfl d_Th_ofNumber_52 ?_
    show mp_J Γ m_Th_ofNumber E κ Mx [(0, .long x), (2, .long (lN r0)), (4, .ref qb), (5, .int (nI (bl r0)))] 53 [.int (nI (bl r0))] (0 + 1) (0 + bl r0)
    refine j_nif_le 70 (bl r0) rfl (by omega) d_Th_ofNumber_53 (by decide) (fun b53 => ?_) (fun b53 => ?_)
    · skip
      refine j_canon (of_f (decide (x < 0)) r0) hX (fun j hj => by rw [hg j hj]; unfold of_f; rw [if_neg (fun hz => by first | exact absurd (of_decide_eq_true hz.1) (ab_2 b47) | omega)]) ?_
      show mp_J Γ m_Th_ofNumber E κ (mp_up Mx qb (mp_b E (bl r0) (of_f (decide (x < 0)) r0))) [(0, .long x), (2, .long (lN r0)), (4, .ref qb), (5, .int (nI (bl r0)))] 70 [] (0 + 1) (0 + bl r0)
      generalize eM3 : mp_up Mx qb (mp_b E (bl r0) (of_f (decide (x < 0)) r0)) = M3
      have hM3_qb : M3 qb = some (mp_b E (bl r0) (of_f (decide (x < 0)) r0)) := by rw [← eM3]; exact mp_s
      refine j_new [.null] F_Th w_161 w_111 w_8 (fun j hj => by rcases (show j = 0 by omega) with rfl <;> rfl) (by omega) (by omega) d_Th_ofNumber_70 (fun q1 hq1 => ?_)
      generalize eM4 : mp_up M3 q1 (mp_o 5 [.null]) = M4
      have hM4_qb : M4 qb = some (mp_b E (bl r0) (of_f (decide (x < 0)) r0)) := by rw [← eM4, mp_n (mp_ne0 hM3_qb hq1)]; exact hM3_qb
      have hM4_q1 : M4 q1 = some (mp_o 5 [.null]) := by rw [← eM4]; exact mp_s
      have hne1 : q1 ≠ qb := fun e9 => by rw [e9] at hq1; simp_all
      have hq1M : M q1 = none := by subst_vars; simpa [mp_up, hne1] using hq1
      refine j_dup d_Th_ofNumber_73 rfl ?_
      refine j_aload d_Th_ofNumber_74 2 rfl ?_
      refine j_callI (As := [.ref qb]) (rest := [.ref q1]) (c_Th_init Γ.l E M4 q1 qb hM4_q1) Y_Th_init rfl rfl w_162 w_113 rfl rfl (Nat.le_of_ble_eq_true rfl) (by omega) (by omega) (by omega) d_Th_ofNumber_76 (fun v76 N76 p76 => ?_)
      obtain ⟨rfl, q76⟩ := p76
      show mp_J Γ m_Th_ofNumber E κ N76 [(0, .long x), (2, .long (lN r0)), (4, .ref qb), (5, .int (nI (bl r0)))] 79 [.ref q1] (0 + 1 + 1) (0 + bl r0 + 1)
      exact j_aret hκ rfl (by first | exact Or.inl ⟨_, rfl⟩ | exact Or.inr ⟨_, rfl⟩) (by omega) (by omega) d_Th_ofNumber_79 ⟨q1, qb, rfl, hq1M, hqb, hne1, by subst_vars; simp only [mp_uu]⟩
    · skip
      refine j_aload d_Th_ofNumber_56 2 rfl ?_
      refine j_aload d_Th_ofNumber_58 2 rfl ?_
      refine j_alen 0 hX rfl d_Th_ofNumber_60 ?_
      show mp_J Γ m_Th_ofNumber E κ Mx [(0, .long x), (2, .long (lN r0)), (4, .ref qb), (5, .int (nI (bl r0)))] 61 [.int (nI (bl r0)), .ref qb] (0 + 1) (0 + bl r0)
      refine j_iconst (v := nI 1) d_Th_ofNumber_61 (by decide) ?_
      refine j_isub d_Th_ofNumber_62 ?_
      refine j_eqi (y := nI ((bl r0) - 1)) (pk_sub (by omega)) ?_
      refine j_dup2_11 d_Th_ofNumber_63 rfl rfl ?_
      refine j_bald hX ((bl r0) - 1) rfl (by omega) (by omega) d_Th_ofNumber_64 ?_
      refine j_bipush (v := (-128)) d_Th_ofNumber_65 (by decide) ?_
      refine j_ior d_Th_ofNumber_67 ?_
      refine j_i2b d_Th_ofNumber_68 ?_
      refine j_bast (y := ((g ((bl r0) - 1)) ||| (-128)).toInt8.toInt32) hX ((bl r0) - 1) rfl (by omega) (by omega) (pk_vb _) d_Th_ofNumber_69 ?_
      generalize eM5 : mp_up Mx qb (mp_b E (bl r0) (upd g ((bl r0) - 1) (((g ((bl r0) - 1)) ||| (-128)).toInt8.toInt32))) = M5
      have hM5_qb : M5 qb = some (mp_b E (bl r0) (upd g ((bl r0) - 1) (((g ((bl r0) - 1)) ||| (-128)).toInt8.toInt32))) := by rw [← eM5]; exact mp_s
      refine j_canon (of_f (decide (x < 0)) r0) hM5_qb (fun j hj => (Classical.em (j + 1 = bl r0)).elim (fun hz => by unfold of_f; rw [if_pos ⟨decide_eq_true (ab_1 b47), hz⟩, show bl r0 - 1 = j by omega, pk_us, hg j hj]) (fun hz => by unfold of_f; rw [if_neg (fun h9 => hz h9.2), pk_un (by omega), hg j hj])) ?_
      show mp_J Γ m_Th_ofNumber E κ (mp_up M5 qb (mp_b E (bl r0) (of_f (decide (x < 0)) r0))) [(0, .long x), (2, .long (lN r0)), (4, .ref qb), (5, .int (nI (bl r0)))] 70 [] (0 + 1) (0 + bl r0)
      generalize eM6 : mp_up M5 qb (mp_b E (bl r0) (of_f (decide (x < 0)) r0)) = M6
      have hM6_qb : M6 qb = some (mp_b E (bl r0) (of_f (decide (x < 0)) r0)) := by rw [← eM6]; exact mp_s
      refine j_new [.null] F_Th w_161 w_111 w_8 (fun j hj => by rcases (show j = 0 by omega) with rfl <;> rfl) (by omega) (by omega) d_Th_ofNumber_70 (fun q1 hq1 => ?_)
      generalize eM7 : mp_up M6 q1 (mp_o 5 [.null]) = M7
      have hM7_qb : M7 qb = some (mp_b E (bl r0) (of_f (decide (x < 0)) r0)) := by rw [← eM7, mp_n (mp_ne0 hM6_qb hq1)]; exact hM6_qb
      have hM7_q1 : M7 q1 = some (mp_o 5 [.null]) := by rw [← eM7]; exact mp_s
      have hne1 : q1 ≠ qb := fun e9 => by rw [e9] at hq1; simp_all
      have hq1M : M q1 = none := by subst_vars; simpa [mp_up, hne1] using hq1
      refine j_dup d_Th_ofNumber_73 rfl ?_
      refine j_aload d_Th_ofNumber_74 2 rfl ?_
      refine j_callI (As := [.ref qb]) (rest := [.ref q1]) (c_Th_init Γ.l E M7 q1 qb hM7_q1) Y_Th_init rfl rfl w_162 w_113 rfl rfl (Nat.le_of_ble_eq_true rfl) (by omega) (by omega) (by omega) d_Th_ofNumber_76 (fun v76 N76 p76 => ?_)
      obtain ⟨rfl, q76⟩ := p76
      show mp_J Γ m_Th_ofNumber E κ N76 [(0, .long x), (2, .long (lN r0)), (4, .ref qb), (5, .int (nI (bl r0)))] 79 [.ref q1] (0 + 1 + 1) (0 + bl r0 + 1)
      exact j_aret hκ rfl (by first | exact Or.inl ⟨_, rfl⟩ | exact Or.inr ⟨_, rfl⟩) (by omega) (by omega) d_Th_ofNumber_79 ⟨q1, qb, rfl, hq1M, hqb, hne1, by subst_vars; simp only [mp_uu]⟩
set_option maxHeartbeats 4000000 in
set_option maxRecDepth 100000 in
theorem c_Th_ofNumber (l : Launch) (E : mp_E) (M : mp_M) (x : Int64) (r0 : Nat) (hr : r0 < 2 ^ 40) (hx : (if 0 < x then x else -x) = lN r0) : mp_Cr l m_Th_ofNumber E M 4 2 8 [.long x] (fun v N => ∃ q1 q2, v = some (.ref q1) ∧ M q1 = none ∧ M q2 = none ∧ q1 ≠ q2 ∧ N = mp_up (mp_up M q2 (mp_b E (bl r0) (of_f (decide (x < 0)) r0))) q1 (mp_o 5 [.ref q2])) := by
  refine mp_Cr.of (by decide) (Nat.le_of_ble_eq_true rfl) fun Γ κ hl hκ => ?_
  subst hl
  obtain ⟨hκd, hκc, hκs, -⟩ := id hκ
  have hbl := bl_le hr
  show mp_J Γ m_Th_ofNumber E κ M [(0, .long x)] 0 [] 0 0
  refine j_lload_n d_Th_ofNumber_0 rfl 0 rfl ?_
  refine j_absL w_148 (Nat.le_of_ble_eq_true rfl) (by omega) (by omega) (by omega) d_Th_ofNumber_1 ?_
  refine j_eql (y := lN r0) hx ?_
  refine j_lstore_n [(2, .long (lN r0)), (0, .long x)] d_Th_ofNumber_4 rfl (by decide) rfl ?_
  refine j_lload_n d_Th_ofNumber_5 rfl 0 rfl ?_
  refine j_callS (As := [.long (lN r0)]) (rest := []) (c_Th_bytesFor Γ.l E M r0 hr) Y_Th_bytesFor w_151 w_152 rfl rfl (Nat.le_of_ble_eq_true rfl) (by omega) (by omega) (by omega) d_Th_ofNumber_6 (fun v6 N6 p6 => ?_)
  obtain ⟨rfl, q6⟩ := p6
  obtain rfl := q6.symm
  show mp_J Γ m_Th_ofNumber E κ M [(2, .long (lN r0)), (0, .long x)] 9 [.int (nI (bl r0))] 0 0
  refine j_newb w_76 (by omega) (by omega) (by omega) d_Th_ofNumber_9 (fun qb hqb => ?_)
  generalize eM1 : mp_up M qb (mp_b E (bl r0) (fun _ => 0)) = M1
  have hM1_qb : M1 qb = some (mp_b E (bl r0) (fun _ => 0)) := by rw [← eM1]; exact mp_s
  refine j_astore [(4, .ref qb), (2, .long (lN r0)), (0, .long x)] d_Th_ofNumber_11 (by decide) rfl ?_
  refine j_iconst (v := nI 0) d_Th_ofNumber_13 (by decide) ?_
  refine j_istore [(5, .int (nI 0)), (4, .ref qb), (2, .long (lN r0)), (0, .long x)] d_Th_ofNumber_14 (by decide) rfl ?_
  refine j_lv [3, 2, 1, 0] rfl ?_
  exact lp_Th_ofNumber E M x r0 qb _ _ hr (fun Mx g eX hg => en_Th_ofNumber E M Mx x r0 qb g hκ hr hqb eX hg) (bl r0 + 1) M1 (fun _ => 0) 0 (by omega) eM1.symm (Nat.zero_le _) (fun j hj => absurd hj (Nat.not_lt_zero _))
