set_option maxHeartbeats 4000000 in
set_option maxRecDepth 100000 in
theorem lp_Mo_numberAt {Γ : mp_G} {κ : mp_K} (E : mp_E) (M : mp_M) (h ro rows kp ks st8 w64 ha pa tg sz dp as_ ops tk : Nat) (thr : Int32) (j z t : Nat) (T Z : Nat → Int32) (h0 : M h = some (mp_o 7 [.ref ro, .int (nI rows), .int thr, .ref kp, .ref ks, .ref st8, .ref w64, .ref ha, .ref pa, .ref tg, .ref sz, .int (nI dp), .int (nI as_), .int (nI ops), .ref tk])) (hz : M sz = some (mp_i E 408 Z)) (ht : M tg = some (mp_b E 104448 T)) (hj : j < 408) (hjz : Z j = nI z) (ht1 : t + 1 = z) (hz4 : z ≤ 4) (hκ : mp_k κ 1 0 0 (fun v N => v = some (.long (th_num z (fun e => T (256 * j + e)))) ∧ N = M)) : ∀ (r : Nat) (i : Nat), z - i < r → (i ≤ z) → mp_J Γ m_Mo_numberAt E κ M [(0, .ref h), (1, .int (nI j)), (2, .long (lN (th_low (fun e => T (256 * j + e)) i))), (4, .int (nI z)), (5, .int (nI i))] 20 [] 0 0 := by
  obtain ⟨hκd, hκc, hκs, -⟩ := id hκ
  intro r
  induction r with
  | zero => intro i hr; exact absurd hr (Nat.not_lt_zero _)
  | succ r ih =>
    intro i hr hi
    refine j_iload d_Mo_numberAt_20 4 rfl ?_
    refine j_iload d_Mo_numberAt_22 3 rfl ?_
    refine j_ncmp_ge 60 i z rfl rfl (by omega) (by omega) d_Mo_numberAt_24 (by decide) (fun b24 => ?_) (fun b24 => ?_)
    · skip
      have hlo : th_low (fun e => T (256 * j + e)) z < 2 ^ 32 := Nat.lt_of_lt_of_le (th_low_lt (fun e => T (256 * j + e)) z) (Nat.pow_le_pow_right (by decide) (by omega))
      have hul := ub_lt (T (256 * j + t))
      have hdv := Nat.div_le_self (th_low (fun e => T (256 * j + e)) z) (2 ^ (8 * z - 1))
      refine j_lload_n d_Mo_numberAt_60 rfl 2 rfl ?_
      refine j_eql (y := lN (th_low (fun e => T (256 * j + e)) z)) (by rw [show i = z by omega]) ?_
      refine j_bipush (v := nI 8) d_Mo_numberAt_61 (by decide) ?_
      refine j_iload d_Mo_numberAt_63 3 rfl ?_
      refine j_imul d_Mo_numberAt_65 ?_
      refine j_eqi (y := nI (8 * z)) (pk_mul 8 z) ?_
      refine j_iconst (v := nI 1) d_Mo_numberAt_66 (by decide) ?_
      refine j_isub d_Mo_numberAt_67 ?_
      refine j_eqi (y := nI ((8 * z) - 1)) (pk_sub (by omega)) ?_
      refine j_lshr d_Mo_numberAt_68 ?_
      refine j_eql (y := lN (th_low (fun e => T (256 * j + e)) z / 2 ^ (8 * z - 1))) (nb_sar (by omega) (by omega)) ?_
      refine j_lconst (v := 1) d_Mo_numberAt_69 (by decide) ?_
      refine j_land d_Mo_numberAt_70 ?_
      refine j_eql (y := lN (ub (T (256 * j + t)) / 128)) (by rw [g_and1 (by omega), show 8 * z - 1 = 8 * t + 7 by omega, ← ht1, nb_top]) ?_
      refine j_lconst (v := 1) d_Mo_numberAt_71 (by decide) ?_
      refine j_lcmp d_Mo_numberAt_72 ?_
      refine j_if_ne 95 d_Mo_numberAt_73 (by decide) (fun b73 => ?_) (fun b73 => ?_)
      · skip
        have hlt : ub (T (256 * j + t)) < 128 := Nat.not_le.mp (fun hz9 => b73 ((lg_cmp_eq _ _).mpr (by rw [show ub (T (256 * j + t)) / 128 = 1 by omega]; rfl)))
        refine j_lload_n d_Mo_numberAt_95 rfl 2 rfl ?_
        refine j_eql (y := lN (th_low (fun e => T (256 * j + e)) z)) (by rw [show i = z by omega]) ?_
        exact j_lret hκ rfl (by omega) (by omega) d_Mo_numberAt_96 ⟨by rw [show th_num z (fun e => T (256 * j + e)) = lN (th_mag z (fun e => T (256 * j + e))) from if_neg (fun hz9 => absurd (of_decide_eq_true hz9).2 (by show ¬ 128 ≤ ub (T (256 * j + (z - 1))); rw [show z - 1 = t by omega]; omega)), ← ht1, ← nb_mag0 (f := (fun e => T (256 * j + e))) (t := t) hlt]; try rfl, rfl⟩
      · skip
        have hq1 : lN (ub (T (256 * j + t)) / 128) = lN 1 := (lg_cmp_eq _ _).mp b73
        have hge : 128 ≤ ub (T (256 * j + t)) := by have := (pk_lEQ (by omega) (by omega)).mp hq1; omega
        refine j_lload_n d_Mo_numberAt_76 rfl 2 rfl ?_
        refine j_eql (y := lN (th_low (fun e => T (256 * j + e)) z)) (by rw [show i = z by omega]) ?_
        refine j_lconst (v := 1) d_Mo_numberAt_77 (by decide) ?_
        refine j_bipush (v := nI 8) d_Mo_numberAt_78 (by decide) ?_
        refine j_iload d_Mo_numberAt_80 3 rfl ?_
        refine j_imul d_Mo_numberAt_82 ?_
        refine j_eqi (y := nI (8 * z)) (pk_mul 8 z) ?_
        refine j_iconst (v := nI 1) d_Mo_numberAt_83 (by decide) ?_
        refine j_isub d_Mo_numberAt_84 ?_
        refine j_eqi (y := nI ((8 * z) - 1)) (pk_sub (by omega)) ?_
        refine j_lshl d_Mo_numberAt_85 ?_
        refine j_ldc2 (v := (-1)) w_1052 d_Mo_numberAt_86 ?_
        refine j_lxor d_Mo_numberAt_89 ?_
        refine j_land d_Mo_numberAt_90 ?_
        refine j_eql (y := lN (th_mag z (fun e => T (256 * j + e)))) (by obtain ⟨q1, q2, q3⟩ := nb_mag (f := (fun e => T (256 * j + e))) (t := t) hge; rw [show 8 * z - 1 = 8 * t + 7 by omega, ← ht1, ← q1]; exact nb_clr (by omega) q2 q3) ?_
        refine j_lneg d_Mo_numberAt_91 ?_
        refine j_goto (tgt := 96) d_Mo_numberAt_92 (by decide) ?_
        exact j_lret hκ rfl (by omega) (by omega) d_Mo_numberAt_96 ⟨by rw [show th_num z (fun e => T (256 * j + e)) = -(lN (th_mag z (fun e => T (256 * j + e)))) from if_pos (decide_eq_true ⟨by omega, by show 128 ≤ ub (T (256 * j + (z - 1))); rw [show z - 1 = t by omega]; exact hge⟩)], rfl⟩
    · skip
      refine j_lload_n d_Mo_numberAt_27 rfl 2 rfl ?_
      refine j_aload_n d_Mo_numberAt_28 rfl 0 rfl ?_
      refine j_get F_Mo h0 9 (by decide) w_952 (Or.inl rfl) rfl d_Mo_numberAt_29 ?_
      refine j_sipush (v := nI 256) d_Mo_numberAt_32 (by decide) ?_
      refine j_iload_n d_Mo_numberAt_35 rfl 1 rfl ?_
      refine j_imul d_Mo_numberAt_36 ?_
      refine j_eqi (y := nI (256 * j)) (pk_mul 256 j) ?_
      refine j_iload d_Mo_numberAt_37 4 rfl ?_
      refine j_iadd d_Mo_numberAt_39 ?_
      refine j_eqi (y := nI ((256 * j) + i)) (nI_add (256 * j) i) ?_
      refine j_bald ht ((256 * j) + i) rfl (by omega) (by omega) d_Mo_numberAt_40 ?_
      refine j_i2l d_Mo_numberAt_41 ?_
      refine j_ldc2 (v := 255) w_1051 d_Mo_numberAt_42 ?_
      refine j_land d_Mo_numberAt_45 ?_
      refine j_eql (y := lN (ub (T (256 * j + i)))) (nb_255 _) ?_
      refine j_bipush (v := nI 8) d_Mo_numberAt_46 (by decide) ?_
      refine j_iload d_Mo_numberAt_48 4 rfl ?_
      refine j_imul d_Mo_numberAt_50 ?_
      refine j_eqi (y := nI (8 * i)) (pk_mul 8 i) ?_
      refine j_lshl d_Mo_numberAt_51 ?_
      refine j_lor d_Mo_numberAt_52 ?_
      refine j_eql (y := lN (th_low (fun e => T (256 * j + e)) (i + 1))) (nb_or (by omega) (th_low_lt (fun e => T (256 * j + e)) i) (ub_lt _)) ?_
      refine j_lstore_n [(2, .long (lN (th_low (fun e => T (256 * j + e)) (i + 1)))), (0, .ref h), (1, .int (nI j)), (4, .int (nI z)), (5, .int (nI i))] d_Mo_numberAt_53 rfl (by decide) rfl ?_
      refine j_iinc (v := nI (i + 1)) [(5, .int (nI (i + 1))), (2, .long (lN (th_low (fun e => T (256 * j + e)) (i + 1)))), (0, .ref h), (1, .int (nI j)), (4, .int (nI z))] d_Mo_numberAt_54 4 rfl (nI_add i 1) (by decide) rfl ?_
      refine j_goto (tgt := 20) d_Mo_numberAt_57 (by decide) ?_
      refine j_lv [2, 3, 1, 4, 0] rfl ?_
      exact ih (i + 1) (by omega) (by omega)

set_option maxHeartbeats 4000000 in
set_option maxRecDepth 100000 in
theorem c_Mo_numberAt (l : Launch) (E : mp_E) (M : mp_M) (h ro rows kp ks st8 w64 ha pa tg sz dp as_ ops tk : Nat) (thr : Int32) (j z : Nat) (T Z : Nat → Int32) (h0 : M h = some (mp_o 7 [.ref ro, .int (nI rows), .int thr, .ref kp, .ref ks, .ref st8, .ref w64, .ref ha, .ref pa, .ref tg, .ref sz, .int (nI dp), .int (nI as_), .int (nI ops), .ref tk])) (hz : M sz = some (mp_i E 408 Z)) (ht : M tg = some (mp_b E 104448 T)) (hj : j < 408) (hjz : Z j = nI z) (hz4 : z ≤ 4) : mp_Cr l m_Mo_numberAt E M 1 0 0 [.ref h, .int (nI j)] (fun v N => v = some (.long (th_num z (fun e => T (256 * j + e)))) ∧ N = M) := by
  refine mp_Cr.of (by decide) (Nat.le_of_ble_eq_true rfl) fun Γ κ hl hκ => ?_
  subst hl
  obtain ⟨hκd, hκc, hκs, -⟩ := id hκ
  show mp_J Γ m_Mo_numberAt E κ M [(0, .ref h), (1, .int (nI j))] 0 [] 0 0
  refine j_lconst (v := 0) d_Mo_numberAt_0 (by decide) ?_
  refine j_lstore_n [(2, .long 0), (0, .ref h), (1, .int (nI j))] d_Mo_numberAt_1 rfl (by decide) rfl ?_
  refine j_aload_n d_Mo_numberAt_2 rfl 1 rfl ?_
  refine j_get F_Mo h0 10 (by decide) w_953 (Or.inl rfl) rfl d_Mo_numberAt_3 ?_
  refine j_iload_n d_Mo_numberAt_6 rfl 2 rfl ?_
  refine j_iald hz j rfl (by omega) (by omega) d_Mo_numberAt_7 ?_
  refine j_eqi (y := nI z) hjz ?_
  refine j_istore [(4, .int (nI z)), (2, .long 0), (0, .ref h), (1, .int (nI j))] d_Mo_numberAt_8 (by decide) rfl ?_
  refine j_iload d_Mo_numberAt_10 0 rfl ?_
  refine j_nif_ne 17 z rfl (by omega) d_Mo_numberAt_12 (by decide) (fun b12 => ?_) (fun b12 => ?_)
  · skip
    refine j_iconst (v := nI 0) d_Mo_numberAt_17 (by decide) ?_
    refine j_istore [(5, .int (nI 0)), (4, .int (nI z)), (2, .long 0), (0, .ref h), (1, .int (nI j))] d_Mo_numberAt_18 (by decide) rfl ?_
    refine j_lv [3, 4, 2, 1, 0] rfl ?_
    exact lp_Mo_numberAt E M h ro rows kp ks st8 w64 ha pa tg sz dp as_ ops tk thr j z (z - 1) T Z h0 hz ht hj hjz (by omega) hz4 hκ (z + 1) 0 (by omega) (Nat.zero_le _)
  · skip
    refine j_lconst (v := 0) d_Mo_numberAt_15 (by decide) ?_
    exact j_lret hκ rfl (by omega) (by omega) d_Mo_numberAt_16 (by subst b12; exact ⟨rfl, rfl⟩)

set_option maxHeartbeats 4000000 in
set_option maxRecDepth 100000 in
theorem lp_Mo_isTrue {Γ : mp_G} {κ : mp_K} (E : mp_E) (M : mp_M) (h ro rows kp ks st8 w64 ha pa tg sz dp as_ ops tk : Nat) (thr : Int32) (j z : Nat) (T Z : Nat → Int32) (h0 : M h = some (mp_o 7 [.ref ro, .int (nI rows), .int thr, .ref kp, .ref ks, .ref st8, .ref w64, .ref ha, .ref pa, .ref tg, .ref sz, .int (nI dp), .int (nI as_), .int (nI ops), .ref tk])) (hz : M sz = some (mp_i E 408 Z)) (ht : M tg = some (mp_b E 104448 T)) (hj : j < 408) (hjz : Z j = nI z) (hft : ∀ i, i < 104448 → fits .byte (.int (T i)) = true) (hzz : z ≤ 256) (hκ : mp_k κ 1 0 0 (fun v N => v = some (.int (tf (th_true z (fun e => T (256 * j + e))))) ∧ N = M)) : ∀ (r : Nat) (i : Nat), z - i < r → (i ≤ z) → (∀ q, q < i → th_p z (fun e => T (256 * j + e)) q = false) → mp_J Γ m_Mo_isTrue E κ M [(0, .ref h), (1, .int (nI j)), (2, .int (nI i))] 2 [] 0 0 := by
  obtain ⟨hκd, hκc, hκs, -⟩ := id hκ
  intro r
  induction r with
  | zero => intro i hr; exact absurd hr (Nat.not_lt_zero _)
  | succ r ih =>
    intro i hr hi hq
    refine j_iload_n d_Mo_isTrue_2 rfl 2 rfl ?_
    refine j_aload_n d_Mo_isTrue_3 rfl 0 rfl ?_
    refine j_get F_Mo h0 10 (by decide) w_953 (Or.inl rfl) rfl d_Mo_isTrue_4 ?_
    refine j_iload_n d_Mo_isTrue_7 rfl 1 rfl ?_
    refine j_iald hz j rfl (by omega) (by omega) d_Mo_isTrue_8 ?_
    refine j_eqi (y := nI z) hjz ?_
    refine j_ncmp_ge 64 i z rfl rfl (by omega) (by omega) d_Mo_isTrue_9 (by decide) (fun b9 => ?_) (fun b9 => ?_)
    · skip
      refine j_iconst (v := nI 0) d_Mo_isTrue_64 (by decide) ?_
      exact j_zret hκ rfl (by first | exact Or.inl rfl | exact Or.inr rfl) (by omega) (by omega) d_Mo_isTrue_65 ⟨rb_0 (th_none (fun q hq9 => hq q (by omega))), rfl⟩
    · skip
      refine j_aload_n d_Mo_isTrue_12 rfl 0 rfl ?_
      refine j_get F_Mo h0 9 (by decide) w_952 (Or.inl rfl) rfl d_Mo_isTrue_13 ?_
      refine j_sipush (v := nI 256) d_Mo_isTrue_16 (by decide) ?_
      refine j_iload_n d_Mo_isTrue_19 rfl 1 rfl ?_
      refine j_imul d_Mo_isTrue_20 ?_
      refine j_eqi (y := nI (256 * j)) (pk_mul 256 j) ?_
      refine j_iload_n d_Mo_isTrue_21 rfl 2 rfl ?_
      refine j_iadd d_Mo_isTrue_22 ?_
      refine j_eqi (y := nI ((256 * j) + i)) (nI_add (256 * j) i) ?_
      refine j_bald ht ((256 * j) + i) rfl (by omega) (by omega) d_Mo_isTrue_23 ?_
      refine j_if_eq 58 d_Mo_isTrue_24 (by decide) (fun b24 => ?_) (fun b24 => ?_)
      · skip
        refine j_iinc (v := nI (i + 1)) [(2, .int (nI (i + 1))), (0, .ref h), (1, .int (nI j))] d_Mo_isTrue_58 2 rfl (nI_add i 1) (by decide) rfl ?_
        refine j_goto (tgt := 2) d_Mo_isTrue_61 (by decide) ?_
        refine j_lv [1, 2, 0] rfl ?_
        exact ih (i + 1) (by omega) (by omega) (lt_s hq (decide_eq_false (fun hz9 => by first | exact hz9.1 b24 | exact hz9.2 ⟨by omega, (nb_f (hft _ (by omega))).mp b53⟩)))
      · skip
        refine j_iload_n d_Mo_isTrue_27 rfl 2 rfl ?_
        refine j_aload_n d_Mo_isTrue_28 rfl 0 rfl ?_
        refine j_get F_Mo h0 10 (by decide) w_953 (Or.inl rfl) rfl d_Mo_isTrue_29 ?_
        refine j_iload_n d_Mo_isTrue_32 rfl 1 rfl ?_
        refine j_iald hz j rfl (by omega) (by omega) d_Mo_isTrue_33 ?_
        refine j_eqi (y := nI z) hjz ?_
        refine j_iconst (v := nI 1) d_Mo_isTrue_34 (by decide) ?_
        refine j_isub d_Mo_isTrue_35 ?_
        refine j_eqi (y := nI (z - 1)) (pk_sub (by omega)) ?_
        refine j_ncmp_ne 56 i (z - 1) rfl rfl (by omega) (by omega) d_Mo_isTrue_36 (by decide) (fun b36 => ?_) (fun b36 => ?_)
        · skip
          refine j_iconst (v := nI 1) d_Mo_isTrue_56 (by decide) ?_
          exact j_zret hκ rfl (by first | exact Or.inl rfl | exact Or.inr rfl) (by omega) (by omega) d_Mo_isTrue_57 ⟨rb_1 (th_some (i := i) (by omega) (decide_eq_true ⟨b24, fun hz9 => by first | omega | exact b53 ((nb_f (hft _ (by omega))).mpr hz9.2)⟩)), rfl⟩
        · skip
          refine j_aload_n d_Mo_isTrue_39 rfl 0 rfl ?_
          refine j_get F_Mo h0 9 (by decide) w_952 (Or.inl rfl) rfl d_Mo_isTrue_40 ?_
          refine j_sipush (v := nI 256) d_Mo_isTrue_43 (by decide) ?_
          refine j_iload_n d_Mo_isTrue_46 rfl 1 rfl ?_
          refine j_imul d_Mo_isTrue_47 ?_
          refine j_eqi (y := nI (256 * j)) (pk_mul 256 j) ?_
          refine j_iload_n d_Mo_isTrue_48 rfl 2 rfl ?_
          refine j_iadd d_Mo_isTrue_49 ?_
          refine j_eqi (y := nI ((256 * j) + i)) (nI_add (256 * j) i) ?_
          refine j_bald ht ((256 * j) + i) rfl (by omega) (by omega) d_Mo_isTrue_50 ?_
          refine j_bipush (v := (-128)) d_Mo_isTrue_51 (by decide) ?_
          refine j_icmp_eq 58 d_Mo_isTrue_53 (by decide) (fun b53 => ?_) (fun b53 => ?_)
          · skip
            refine j_iinc (v := nI (i + 1)) [(2, .int (nI (i + 1))), (0, .ref h), (1, .int (nI j))] d_Mo_isTrue_58 2 rfl (nI_add i 1) (by decide) rfl ?_
            refine j_goto (tgt := 2) d_Mo_isTrue_61 (by decide) ?_
            refine j_lv [1, 2, 0] rfl ?_
            exact ih (i + 1) (by omega) (by omega) (lt_s hq (decide_eq_false (fun hz9 => by first | exact hz9.1 b24 | exact hz9.2 ⟨by omega, (nb_f (hft _ (by omega))).mp b53⟩)))
          · skip
            refine j_iconst (v := nI 1) d_Mo_isTrue_56 (by decide) ?_
            exact j_zret hκ rfl (by first | exact Or.inl rfl | exact Or.inr rfl) (by omega) (by omega) d_Mo_isTrue_57 ⟨rb_1 (th_some (i := i) (by omega) (decide_eq_true ⟨b24, fun hz9 => by first | omega | exact b53 ((nb_f (hft _ (by omega))).mpr hz9.2)⟩)), rfl⟩

set_option maxHeartbeats 4000000 in
set_option maxRecDepth 100000 in
theorem c_Mo_isTrue (l : Launch) (E : mp_E) (M : mp_M) (h ro rows kp ks st8 w64 ha pa tg sz dp as_ ops tk : Nat) (thr : Int32) (j z : Nat) (T Z : Nat → Int32) (h0 : M h = some (mp_o 7 [.ref ro, .int (nI rows), .int thr, .ref kp, .ref ks, .ref st8, .ref w64, .ref ha, .ref pa, .ref tg, .ref sz, .int (nI dp), .int (nI as_), .int (nI ops), .ref tk])) (hz : M sz = some (mp_i E 408 Z)) (ht : M tg = some (mp_b E 104448 T)) (hj : j < 408) (hjz : Z j = nI z) (hft : ∀ i, i < 104448 → fits .byte (.int (T i)) = true) (hzz : z ≤ 256) : mp_Cr l m_Mo_isTrue E M 1 0 0 [.ref h, .int (nI j)] (fun v N => v = some (.int (tf (th_true z (fun e => T (256 * j + e))))) ∧ N = M) := by
  refine mp_Cr.of (by decide) (Nat.le_of_ble_eq_true rfl) fun Γ κ hl hκ => ?_
  subst hl
  obtain ⟨hκd, hκc, hκs, -⟩ := id hκ
  show mp_J Γ m_Mo_isTrue E κ M [(0, .ref h), (1, .int (nI j))] 0 [] 0 0
  refine j_iconst (v := nI 0) d_Mo_isTrue_0 (by decide) ?_
  refine j_istore_n [(2, .int (nI 0)), (0, .ref h), (1, .int (nI j))] d_Mo_isTrue_1 rfl (by decide) rfl ?_
  refine j_lv [1, 2, 0] rfl ?_
  exact lp_Mo_isTrue E M h ro rows kp ks st8 w64 ha pa tg sz dp as_ ops tk thr j z T Z h0 hz ht hj hjz hft hzz hκ (z + 1) 0 (by omega) (Nat.zero_le _) (fun q hq9 => absurd hq9 (Nat.not_lt_zero _))

set_option maxHeartbeats 4000000 in
set_option maxRecDepth 100000 in
theorem lp_Mo_isSame {Γ : mp_G} {κ : mp_K} (E : mp_E) (M : mp_M) (h ro rows kp ks st8 w64 ha pa tg sz dp as_ ops tk : Nat) (thr : Int32) (a c za zc : Nat) (T Z : Nat → Int32) (h0 : M h = some (mp_o 7 [.ref ro, .int (nI rows), .int thr, .ref kp, .ref ks, .ref st8, .ref w64, .ref ha, .ref pa, .ref tg, .ref sz, .int (nI dp), .int (nI as_), .int (nI ops), .ref tk])) (hz : M sz = some (mp_i E 408 Z)) (ht : M tg = some (mp_b E 104448 T)) (hla : a < 408) (hlc : c < 408) (hza : Z a = nI za) (hzc : Z c = nI zc) (hzz : za ≤ 256 ∧ zc ≤ 256) (he : za = zc) (hκ : mp_k κ 1 0 0 (fun v N => v = some (.int (tf (decide (za = zc ∧ ∀ i, i < za → T (256 * a + i) = T (256 * c + i))))) ∧ N = M)) : ∀ (r : Nat) (i : Nat), za - i < r → (i ≤ za) → (∀ q, q < i → T (256 * a + q) = T (256 * c + q)) → mp_J Γ m_Mo_isSame E κ M [(0, .ref h), (1, .int (nI a)), (2, .int (nI c)), (3, .int (nI i))] 19 [] 0 0 := by
  obtain ⟨hκd, hκc, hκs, -⟩ := id hκ
  intro r
  induction r with
  | zero => intro i hr; exact absurd hr (Nat.not_lt_zero _)
  | succ r ih =>
    intro i hr hi hq
    refine j_iload_n d_Mo_isSame_19 rfl 3 rfl ?_
    refine j_aload_n d_Mo_isSame_20 rfl 0 rfl ?_
    refine j_get F_Mo h0 10 (by decide) w_953 (Or.inl rfl) rfl d_Mo_isSame_21 ?_
    refine j_iload_n d_Mo_isSame_24 rfl 1 rfl ?_
    refine j_iald hz a rfl (by omega) (by omega) d_Mo_isSame_25 ?_
    refine j_eqi (y := nI za) hza ?_
    refine j_ncmp_ge 64 i za rfl rfl (by omega) (by omega) d_Mo_isSame_26 (by decide) (fun b26 => ?_) (fun b26 => ?_)
    · skip
      refine j_iconst (v := nI 1) d_Mo_isSame_64 (by decide) ?_
      exact j_zret hκ rfl (by first | exact Or.inl rfl | exact Or.inr rfl) (by omega) (by omega) d_Mo_isSame_65 ⟨rv_1 ⟨he, fun q hq9 => hq q (by omega)⟩, rfl⟩
    · skip
      refine j_aload_n d_Mo_isSame_29 rfl 0 rfl ?_
      refine j_get F_Mo h0 9 (by decide) w_952 (Or.inl rfl) rfl d_Mo_isSame_30 ?_
      refine j_sipush (v := nI 256) d_Mo_isSame_33 (by decide) ?_
      refine j_iload_n d_Mo_isSame_36 rfl 1 rfl ?_
      refine j_imul d_Mo_isSame_37 ?_
      refine j_eqi (y := nI (256 * a)) (pk_mul 256 a) ?_
      refine j_iload_n d_Mo_isSame_38 rfl 3 rfl ?_
      refine j_iadd d_Mo_isSame_39 ?_
      refine j_eqi (y := nI ((256 * a) + i)) (nI_add (256 * a) i) ?_
      refine j_bald ht ((256 * a) + i) rfl (by omega) (by omega) d_Mo_isSame_40 ?_
      refine j_aload_n d_Mo_isSame_41 rfl 0 rfl ?_
      refine j_get F_Mo h0 9 (by decide) w_952 (Or.inl rfl) rfl d_Mo_isSame_42 ?_
      refine j_sipush (v := nI 256) d_Mo_isSame_45 (by decide) ?_
      refine j_iload_n d_Mo_isSame_48 rfl 2 rfl ?_
      refine j_imul d_Mo_isSame_49 ?_
      refine j_eqi (y := nI (256 * c)) (pk_mul 256 c) ?_
      refine j_iload_n d_Mo_isSame_50 rfl 3 rfl ?_
      refine j_iadd d_Mo_isSame_51 ?_
      refine j_eqi (y := nI ((256 * c) + i)) (nI_add (256 * c) i) ?_
      refine j_bald ht ((256 * c) + i) rfl (by omega) (by omega) d_Mo_isSame_52 ?_
      refine j_icmp_eq 58 d_Mo_isSame_53 (by decide) (fun b53 => ?_) (fun b53 => ?_)
      · skip
        refine j_iinc (v := nI (i + 1)) [(3, .int (nI (i + 1))), (0, .ref h), (1, .int (nI a)), (2, .int (nI c))] d_Mo_isSame_58 3 rfl (nI_add i 1) (by decide) rfl ?_
        refine j_goto (tgt := 19) d_Mo_isSame_61 (by decide) ?_
        refine j_lv [1, 2, 3, 0] rfl ?_
        exact ih (i + 1) (by omega) (by omega) (lt_s hq b53)
      · skip
        refine j_iconst (v := nI 0) d_Mo_isSame_56 (by decide) ?_
        exact j_zret hκ rfl (by first | exact Or.inl rfl | exact Or.inr rfl) (by omega) (by omega) d_Mo_isSame_57 ⟨rv_0 (fun hz9 => b53 (hz9.2 i (by omega))), rfl⟩

set_option maxHeartbeats 4000000 in
set_option maxRecDepth 100000 in
theorem c_Mo_isSame (l : Launch) (E : mp_E) (M : mp_M) (h ro rows kp ks st8 w64 ha pa tg sz dp as_ ops tk : Nat) (thr : Int32) (a c za zc : Nat) (T Z : Nat → Int32) (h0 : M h = some (mp_o 7 [.ref ro, .int (nI rows), .int thr, .ref kp, .ref ks, .ref st8, .ref w64, .ref ha, .ref pa, .ref tg, .ref sz, .int (nI dp), .int (nI as_), .int (nI ops), .ref tk])) (hz : M sz = some (mp_i E 408 Z)) (ht : M tg = some (mp_b E 104448 T)) (hla : a < 408) (hlc : c < 408) (hza : Z a = nI za) (hzc : Z c = nI zc) (hzz : za ≤ 256 ∧ zc ≤ 256) : mp_Cr l m_Mo_isSame E M 1 0 0 [.ref h, .int (nI a), .int (nI c)] (fun v N => v = some (.int (tf (decide (za = zc ∧ ∀ i, i < za → T (256 * a + i) = T (256 * c + i))))) ∧ N = M) := by
  refine mp_Cr.of (by decide) (Nat.le_of_ble_eq_true rfl) fun Γ κ hl hκ => ?_
  subst hl
  obtain ⟨hκd, hκc, hκs, -⟩ := id hκ
  show mp_J Γ m_Mo_isSame E κ M [(0, .ref h), (1, .int (nI a)), (2, .int (nI c))] 0 [] 0 0
  refine j_aload_n d_Mo_isSame_0 rfl 0 rfl ?_
  refine j_get F_Mo h0 10 (by decide) w_953 (Or.inl rfl) rfl d_Mo_isSame_1 ?_
  refine j_iload_n d_Mo_isSame_4 rfl 1 rfl ?_
  refine j_iald hz a rfl (by omega) (by omega) d_Mo_isSame_5 ?_
  refine j_eqi (y := nI za) hza ?_
  refine j_aload_n d_Mo_isSame_6 rfl 0 rfl ?_
  refine j_get F_Mo h0 10 (by decide) w_953 (Or.inl rfl) rfl d_Mo_isSame_7 ?_
  refine j_iload_n d_Mo_isSame_10 rfl 2 rfl ?_
  refine j_iald hz c rfl (by omega) (by omega) d_Mo_isSame_11 ?_
  refine j_eqi (y := nI zc) hzc ?_
  refine j_ncmp_eq 17 za zc rfl rfl (by omega) (by omega) d_Mo_isSame_12 (by decide) (fun b12 => ?_) (fun b12 => ?_)
  · skip
    refine j_iconst (v := nI 0) d_Mo_isSame_17 (by decide) ?_
    refine j_istore_n [(3, .int (nI 0)), (0, .ref h), (1, .int (nI a)), (2, .int (nI c))] d_Mo_isSame_18 rfl (by decide) rfl ?_
    refine j_lv [1, 2, 3, 0] rfl ?_
    exact lp_Mo_isSame E M h ro rows kp ks st8 w64 ha pa tg sz dp as_ ops tk thr a c za zc T Z h0 hz ht hla hlc hza hzc hzz b12 hκ (za + 1) 0 (by omega) (Nat.zero_le _) (fun q hq9 => absurd hq9 (Nat.not_lt_zero _))
  · skip
    refine j_iconst (v := nI 0) d_Mo_isSame_15 (by decide) ?_
    exact j_zret hκ rfl (by first | exact Or.inl rfl | exact Or.inr rfl) (by omega) (by omega) d_Mo_isSame_16 ⟨rv_0 (fun hz9 => b12 hz9.1), rfl⟩

section RMET
variable (l : Launch) {E : mp_E} {M : mp_M} {R : Nat → Nat} {rows dp as_ ops : Nat} {thr : Int32} {A : Nat → am_T}
theorem r_isNumber (h : RI E M R rows thr dp as_ ops A) (j : Nat) (hj : j < 408) : mp_Cr l m_Mo_isNumber E M 1 0 0 [.ref (R 0), .int (nI j)] (fun v N => v = some (.int (tf (decide ((A j).length ≤ 4)))) ∧ N = M) := by
  obtain ⟨c0, -, -, -, -, T, Z, t1, t2, t3, t4⟩ := h
  exact c_Mo_isNumber l E M (R 0) (R 1) rows (R 2) (R 3) (R 4) (R 5) (R 6) (R 7) (R 8) (R 9) dp as_ ops (R 10) thr j (A j).length Z c0 t2 hj (t4 j hj).1 (Nat.le_trans (t4 j hj).2.1 (by decide))
theorem r_numberAt (h : RI E M R rows thr dp as_ ops A) (j : Nat) (hj : j < 408) (h4 : (A j).length ≤ 4) : mp_Cr l m_Mo_numberAt E M 1 0 0 [.ref (R 0), .int (nI j)] (fun v N => v = some (.long (am_num (A j))) ∧ N = M) := by
  obtain ⟨c0, -, -, -, -, T, Z, t1, t2, t3, t4⟩ := h
  refine (c_Mo_numberAt l E M (R 0) (R 1) rows (R 2) (R 3) (R 4) (R 5) (R 6) (R 7) (R 8) (R 9) dp as_ ops (R 10) thr j (A j).length T Z c0 t2 t1 hj (t4 j hj).1 h4).mono fun v N ⟨h1, h2⟩ => ⟨?_, h2⟩
  rw [h1]
  show _ = some (Value.long (th_num (A j).length (gb (A j))))
  rw [th_num_c (t4 j hj).2.2]
theorem r_isTrue (h : RI E M R rows thr dp as_ ops A) (j : Nat) (hj : j < 408) : mp_Cr l m_Mo_isTrue E M 1 0 0 [.ref (R 0), .int (nI j)] (fun v N => v = some (.int (tf (am_true (A j)))) ∧ N = M) := by
  obtain ⟨c0, -, -, -, -, T, Z, t1, t2, t3, t4⟩ := h
  refine (c_Mo_isTrue l E M (R 0) (R 1) rows (R 2) (R 3) (R 4) (R 5) (R 6) (R 7) (R 8) (R 9) dp as_ ops (R 10) thr j (A j).length T Z c0 t2 t1 hj (t4 j hj).1 t3 (t4 j hj).2.1).mono fun v N ⟨h1, h2⟩ => ⟨?_, h2⟩
  rw [h1]
  show _ = some (Value.int (tf (th_true (A j).length (gb (A j)))))
  rw [th_true_c (t4 j hj).2.2]
theorem r_isSame (h : RI E M R rows thr dp as_ ops A) (a c : Nat) (ha : a < 408) (hc : c < 408) : mp_Cr l m_Mo_isSame E M 1 0 0 [.ref (R 0), .int (nI a), .int (nI c)] (fun v N => v = some (.int (tf (decide (A a = A c)))) ∧ N = M) := by
  obtain ⟨c0, -, -, -, -, T, Z, t1, t2, t3, t4⟩ := h
  refine (c_Mo_isSame l E M (R 0) (R 1) rows (R 2) (R 3) (R 4) (R 5) (R 6) (R 7) (R 8) (R 9) dp as_ ops (R 10) thr a c (A a).length (A c).length T Z c0 t2 t1 ha hc (t4 a ha).1 (t4 c hc).1 ⟨(t4 a ha).2.1, (t4 c hc).2.1⟩).mono fun v N ⟨h1, h2⟩ => ⟨?_, h2⟩
  rw [h1, ← th_same_e]
  unfold th_same
  congr 3
  rw [decide_eq_decide]
  constructor
  · intro ⟨q1, q2⟩
    exact ⟨q1, fun i hi => by rw [← (t4 a ha).2.2 i hi, ← (t4 c hc).2.2 i (by omega)]; exact q2 i hi⟩
  · intro ⟨q1, q2⟩
    exact ⟨q1, fun i hi => by rw [(t4 a ha).2.2 i hi, (t4 c hc).2.2 i (by omega)]; exact q2 i hi⟩
theorem r_move (h : RI E M R rows thr dp as_ ops A) (hR : RL R) (a c : Nat) (ha : a < 408) (hc : c < 408) : mp_Cr l m_Mo_move E M 2 0 0 [.ref (R 0), .int (nI a), .int (nI c)] (fun v N => v = none ∧ RI E N R rows thr dp as_ ops (upA A c (A a)) ∧ RFr R M N) := by
  have h' := h
  obtain ⟨c0, -, -, -, -, T, Z, t1, t2, t3, t4⟩ := h'
  refine (c_Mo_move l E M (R 0) (R 1) rows (R 2) (R 3) (R 4) (R 5) (R 6) (R 7) (R 8) (R 9) dp as_ ops (R 10) thr a c (A a).length T Z c0 t2 t1 t3 ha hc (t4 a ha).1 (t4 a ha).2.1).mono fun v N ⟨h1, h2⟩ => ⟨h1, h.put hR ?_ ?_ h2, RFr.put h2⟩
  · exact ft_cpy (fun i hi => t3 _ (by have := (t4 a ha).2.1; omega)) t3
  · exact TA_cpy (t4 a ha).2.1 (t4 a ha).2.2 t4
theorem r_again (h : RI E M R rows thr dp as_ ops A) (hR : RL R) (k : Nat) (hk : 0 < k ∧ k ≤ 1000) (hd : dp < 408) : mp_Cr l m_Mo_again E M 3 0 0 [.ref (R 0), .int (nI k)] (fun v N => ∃ (d : Nat) (B : Nat → am_T), v = some (.int (tf (decide (k ≤ dp)))) ∧ RI E N R rows thr d as_ ops B ∧ RFr R M N ∧ (k ≤ dp → d = dp + 1 ∧ B = upA A dp (A (dp - k))) ∧ d ≤ dp + 1) := by
  have h' := h
  obtain ⟨c0, -, -, -, -, T, Z, t1, t2, t3, t4⟩ := h'
  have t5 := t4 (dp - k) (by omega)
  refine (c_Mo_again l E M (R 0) (R 1) rows (R 2) (R 3) (R 4) (R 5) (R 6) (R 7) (R 8) (R 9) dp as_ ops (R 10) thr k (A (dp - k)).length T Z c0 t2 t1 t3 hk hd (fun _ => t5.1) t5.2.1).mono fun v N hv => ?_
  rcases hv with ⟨q1, q2, q3⟩ | ⟨q1, q2, q3⟩
  · have I1 := h.put hR (ft_cpy (fun i hi => t3 _ (by have := t5.2.1; omega)) t3) (TA_cpy (c := dp) t5.2.1 t5.2.2 t4) rfl
    exact ⟨dp + 1, _, by rw [q2, decide_eq_true q1]; rfl, I1.set hR q3.symm, (RFr.put rfl).trans (RFr.s0 q3.symm), fun _ => ⟨rfl, rfl⟩, Nat.le_refl _⟩
  · exact ⟨dp, A, by rw [q2, decide_eq_false (by omega)]; rfl, by rw [q3]; exact h, by rw [q3]; exact RFr.refl, fun z => absurd z (by omega), Nat.le_succ _⟩
theorem r_push (h : RI E M R rows thr dp as_ ops A) (hR : RL R) (sb sn p q : Nat) (x : am_T) (G : Nat → Int32) (hq : x.length = q) (hs : M sb = some (mp_b E sn G)) (hsn : sn ≤ 104448) (hfs : ∀ i, i < sn → fits .byte (.int (G i)) = true) (hpq : p + q ≤ sn) (hx : q ≤ 256) (hd : dp < 408) (n8 : sb ≠ R 8) (n9 : sb ≠ R 9) (hG : ∀ j, j < q → G (p + j) = gb x j) : mp_Cr l m_Mo_push E M 2 0 0 [.ref (R 0), .ref sb, .int (nI p), .int (nI q)] (fun v N => v = none ∧ RI E N R rows thr (dp + 1) as_ ops (upA A dp x) ∧ RFr R M N) := by
  subst hq
  have h' := h
  obtain ⟨c0, -, -, -, -, T, Z, t1, t2, t3, t4⟩ := h'
  refine (c_Mo_push l E M (R 0) (R 1) rows (R 2) (R 3) (R 4) (R 5) (R 6) (R 7) (R 8) (R 9) dp as_ ops (R 10) thr sb sn p x.length G T Z c0 t2 t1 hs hsn hfs hpq hx hd n8 n9).mono fun v N ⟨q2, q3⟩ => ?_
  have I1 := h.put hR (ft_cpy (fun i hi => hfs _ (by omega)) t3) (TA_cpy (c := dp) hx hG t4) rfl
  exact ⟨q2, I1.set hR q3.symm, (RFr.put rfl).trans (RFr.s0 q3.symm)⟩
end RMET