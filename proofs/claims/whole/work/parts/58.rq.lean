theorem nb_x0 {x : Int64} {r : Nat} (hx : (if 0 < x then x else -x) = lN r) (h : 0 ≤ lg_cmp x 0) : x = lN r := by
  have h1 : ¬ x < 0 := ab_2 h
  by_cases hz : 0 < x
  · rw [if_pos hz] at hx; exact hx
  · rw [if_neg hz] at hx
    have h2 : x = 0 := Int64.le_antisymm (Int64.not_lt.mp hz) (Int64.not_lt.mp h1)
    rw [h2] at hx ⊢
    exact hx
theorem nb_x1 {x : Int64} {r : Nat} (hx : (if 0 < x then x else -x) = lN r) (h : ¬ 0 ≤ lg_cmp x 0) : -x = lN r := by
  have h1 : x < 0 := ab_1 h
  rw [if_neg (fun z => Int64.lt_irrefl (Int64.lt_trans z h1))] at hx
  exact hx
theorem nb_n0 {x : Int64} {r : Nat} (hx : (if 0 < x then x else -x) = lN r) (hr : r < 2 ^ 40) (h : ¬ 0 ≤ lg_cmp x 0) : r ≠ 0 := fun e => by
  have h1 : x < 0 := ab_1 h
  have h2 := nb_x1 hx h
  rw [e] at h2
  have h3 : x = 0 := by
    have h4 : -(-x) = -(lN 0) := by rw [h2]
    rw [Int64.neg_neg] at h4
    rw [h4]
    decide
  rw [h3] at h1
  exact absurd h1 (by decide)
theorem ft_bq {r j : Nat} : fits .byte (.int (bq r j)) = true := pk_fb _
theorem nb_1 {r i : Nat} (h : ¬ lg_cmp (lN (r / 2 ^ (8 * i))) 0 ≤ 0) (hr : r < 2 ^ 40) : 2 ^ (8 * i) ≤ r ∧ i ≤ 4 := by
  have h1 := Nat.div_le_self r (2 ^ (8 * i))
  have h2 : ¬ lN (r / 2 ^ (8 * i)) ≤ lN 0 := fun z => h ((lg_cmp_le _ _).mpr z)
  rw [pk_lLE (by omega) (by omega)] at h2
  have h3 : 2 ^ (8 * i) ≤ r := Nat.not_lt.mp (fun z => h2 (by rw [Nat.div_eq_of_lt z]; exact Nat.le_refl _))
  refine ⟨h3, Nat.not_lt.mp (fun z => ?_)⟩
  have h4 : (2 : Nat) ^ (8 * 5) ≤ 2 ^ (8 * i) := Nat.pow_le_pow_right (by decide) (by omega)
  omega
theorem nb_2 {r i : Nat} (h : lg_cmp (lN (r / 2 ^ (8 * i))) 0 ≤ 0) (hr : r < 2 ^ 40) : r < 2 ^ (8 * i) := by
  have h1 := Nat.div_le_self r (2 ^ (8 * i))
  have h2 : lN (r / 2 ^ (8 * i)) ≤ lN 0 := (lg_cmp_le _ _).mp h
  rw [pk_lLE (by omega) (by omega)] at h2
  exact nb_z (Nat.le_zero.mp h2)
set_option maxHeartbeats 4000000 in
set_option maxRecDepth 100000 in
theorem lp_Mo_pushNumber {Γ : mp_G} {κ : mp_K} (E : mp_E) (M : mp_M) (h ro rows kp ks st8 w64 ha pa tg sz dp as_ ops tk : Nat) (thr : Int32) (x : Int64) (r0 : Nat) (T Z : Nat → Int32) (h0 : M h = some (mp_o 7 [.ref ro, .int (nI rows), .int thr, .ref kp, .ref ks, .ref st8, .ref w64, .ref ha, .ref pa, .ref tg, .ref sz, .int (nI dp), .int (nI as_), .int (nI ops), .ref tk])) (hz : M sz = some (mp_i E 408 Z)) (ht : M tg = some (mp_b E 104448 T)) (hft : ∀ i, i < 104448 → fits .byte (.int (T i)) = true) (hd : dp < 408) (hr0 : r0 < 2 ^ 40) (hx : (if 0 < x then x else -x) = lN r0) (hκ : mp_k κ 1 0 0 (fun v N => v = none ∧ ∃ T2 : Nat → Int32, (∀ q, q < bl r0 → T2 (256 * dp + q) = of_f (decide (x < 0)) r0 q) ∧ (∀ q, q < 256 * dp ∨ 256 * dp + 256 ≤ q → T2 q = T q) ∧ (∀ q, q < 104448 → fits .byte (.int (T2 q)) = true) ∧ N = mp_up (mp_up (mp_up M tg (mp_b E 104448 T2)) sz (mp_i E 408 (upd Z dp (nI (bl r0))))) h (mp_o 7 [.ref ro, .int (nI rows), .int thr, .ref kp, .ref ks, .ref st8, .ref w64, .ref ha, .ref pa, .ref tg, .ref sz, .int (nI (dp + 1)), .int (nI as_), .int (nI ops), .ref tk]))) : ∀ (r : Nat) (Mx : mp_M) (Tx : Nat → Int32) (i : Nat), 6 - i < r → (Mx = mp_up M tg (mp_b E 104448 Tx)) → (∀ q, q < i → Tx (256 * dp + q) = bq r0 q) → (∀ q, q < 256 * dp ∨ 256 * dp + 256 ≤ q → Tx q = T q) → (∀ q, q < 104448 → fits .byte (.int (Tx q)) = true) → (i ≤ 5) → (i = 0 ∨ (0 < i ∧ 2 ^ (8 * (i - 1)) ≤ r0)) → mp_J Γ m_Mo_pushNumber E κ Mx [(0, .ref h), (1, .long x), (3, .long (lN (r0 / 2 ^ (8 * i)))), (5, .int (nI i)), (6, .int (nI (256 * dp)))] 26 [] 0 0 := by
  obtain ⟨hκd, hκc, hκs, -⟩ := id hκ
  have nzt : sz ≠ tg := mp_ne hz ht (mp_nsz (by decide))
  intro r
  induction r with
  | zero => intro Mx Tx i hr; exact absurd hr (Nat.not_lt_zero _)
  | succ r ih =>
    intro Mx Tx i hr eX hT1 hT2 hT3 hi hi2
    have hX0 := mp_kp eX (mp_ne h0 ht mp_noa) h0
    have hXz := mp_kp eX nzt hz
    have hXt : Mx tg = some (mp_b E 104448 Tx) := by rw [eX]; exact mp_s
    refine j_lload_n d_Mo_pushNumber_26 rfl 2 rfl ?_
    refine j_lconst (v := 0) d_Mo_pushNumber_27 (by decide) ?_
    refine j_lcmp d_Mo_pushNumber_28 ?_
    refine j_if_le 56 d_Mo_pushNumber_29 (by decide) (fun b29 => ?_) (fun b29 => ?_)
    · skip
      refine j_iload d_Mo_pushNumber_56 3 rfl ?_
      refine j_nif_le 90 i rfl (by omega) d_Mo_pushNumber_58 (by decide) (fun b58 => ?_) (fun b58 => ?_)
      · skip
        refine j_lload_n d_Mo_pushNumber_90 rfl 1 rfl ?_
        refine j_lconst (v := 0) d_Mo_pushNumber_91 (by decide) ?_
        refine j_lcmp d_Mo_pushNumber_92 ?_
        refine j_if_ge 114 d_Mo_pushNumber_93 (by decide) (fun b93 => ?_) (fun b93 => absurd (by have h9 := nb_2 b29 hr0; rw [b58] at h9; simpa using h9) (nb_n0 hx hr0 b93))
        refine j_aload_n d_Mo_pushNumber_114 rfl 0 rfl ?_
        refine j_get F_Mo hX0 10 (by decide) w_953 (Or.inl rfl) rfl d_Mo_pushNumber_115 ?_
        refine j_aload_n d_Mo_pushNumber_118 rfl 0 rfl ?_
        refine j_get F_Mo hX0 11 (by decide) w_954 (Or.inl rfl) rfl d_Mo_pushNumber_119 ?_
        refine j_iload d_Mo_pushNumber_122 3 rfl ?_
        refine j_iast hXz dp rfl (by omega) (by omega) d_Mo_pushNumber_124 ?_
        generalize eM1 : mp_up Mx sz (mp_i E 408 (upd Z dp (nI i))) = M1
        have hM1_h : M1 h = some (mp_o 7 [.ref ro, .int (nI rows), .int thr, .ref kp, .ref ks, .ref st8, .ref w64, .ref ha, .ref pa, .ref tg, .ref sz, .int (nI dp), .int (nI as_), .int (nI ops), .ref tk]) := by rw [← eM1, mp_n (mp_ne hX0 hXz mp_noa)]; exact hX0
        have hM1_tg : M1 tg = some (mp_b E 104448 Tx) := by rw [← eM1, mp_n (Ne.symm nzt)]; exact hXt
        have hM1_sz : M1 sz = some (mp_i E 408 (upd Z dp (nI i))) := by rw [← eM1]; exact mp_s
        refine j_aload_n d_Mo_pushNumber_125 rfl 0 rfl ?_
        refine j_dup d_Mo_pushNumber_126 rfl ?_
        refine j_get F_Mo hM1_h 11 (by decide) w_954 (Or.inl rfl) rfl d_Mo_pushNumber_127 ?_
        refine j_iconst (v := nI 1) d_Mo_pushNumber_130 (by decide) ?_
        refine j_iadd d_Mo_pushNumber_131 ?_
        refine j_eqi (y := nI (dp + 1)) (nI_add dp 1) ?_
        refine j_put F_Mo hM1_h 11 (by decide) w_954 (Or.inl rfl) rfl rfl rfl (Nat.le_of_ble_eq_true rfl) d_Mo_pushNumber_132 ?_
        show mp_J Γ m_Mo_pushNumber E κ (mp_up M1 h (mp_o 7 [.ref ro, .int (nI rows), .int thr, .ref kp, .ref ks, .ref st8, .ref w64, .ref ha, .ref pa, .ref tg, .ref sz, .int (nI (dp + 1)), .int (nI as_), .int (nI ops), .ref tk])) [(0, .ref h), (1, .long x), (3, .long (lN (r0 / 2 ^ (8 * i)))), (5, .int (nI i)), (6, .int (nI (256 * dp)))] 135 [] 0 0
        generalize eM2 : mp_up M1 h (mp_o 7 [.ref ro, .int (nI rows), .int thr, .ref kp, .ref ks, .ref st8, .ref w64, .ref ha, .ref pa, .ref tg, .ref sz, .int (nI (dp + 1)), .int (nI as_), .int (nI ops), .ref tk]) = M2
        have hM2_tg : M2 tg = some (mp_b E 104448 Tx) := by rw [← eM2, mp_n (mp_ne hM1_tg hM1_h mp_nao)]; exact hM1_tg
        have hM2_sz : M2 sz = some (mp_i E 408 (upd Z dp (nI i))) := by rw [← eM2, mp_n (mp_ne hM1_sz hM1_h mp_nao)]; exact hM1_sz
        have hM2_h : M2 h = some (mp_o 7 [.ref ro, .int (nI rows), .int thr, .ref kp, .ref ks, .ref st8, .ref w64, .ref ha, .ref pa, .ref tg, .ref sz, .int (nI (dp + 1)), .int (nI as_), .int (nI ops), .ref tk]) := by rw [← eM2]; exact mp_s
        exact j_vret hκ rfl (by omega) (by omega) d_Mo_pushNumber_135 (by
      have ebl : bl r0 = i := by rw [show r0 = 0 by have h9 := nb_2 b29 hr0; rw [b58] at h9; simpa using h9, b58]; rfl
      refine ⟨rfl, Tx, ?_, ?_, hT3, ?_⟩
      · rw [ebl]; exact fun q hq => by unfold of_f; rw [if_neg (fun hz9 => absurd (of_decide_eq_true hz9.1) (ab_2 b93))]; exact hT1 q (by omega)
      · exact hT2
      · rw [← eM2, ← eM1, eX]; simp only [mp_uu, ebl])
      · skip
        refine j_aload_n d_Mo_pushNumber_61 rfl 0 rfl ?_
        refine j_get F_Mo hX0 9 (by decide) w_952 (Or.inl rfl) rfl d_Mo_pushNumber_62 ?_
        refine j_iload d_Mo_pushNumber_65 4 rfl ?_
        refine j_iload d_Mo_pushNumber_67 3 rfl ?_
        refine j_iadd d_Mo_pushNumber_69 ?_
        refine j_eqi (y := nI ((256 * dp) + i)) (nI_add (256 * dp) i) ?_
        refine j_iconst (v := nI 1) d_Mo_pushNumber_70 (by decide) ?_
        refine j_isub d_Mo_pushNumber_71 ?_
        refine j_eqi (y := nI (((256 * dp) + i) - 1)) (pk_sub (by omega)) ?_
        refine j_bald hXt (((256 * dp) + i) - 1) rfl (by omega) (by omega) d_Mo_pushNumber_72 ?_
        refine j_eqi (y := bq r0 (i - 1)) (by rw [show 256 * dp + i - 1 = 256 * dp + (i - 1) by omega]; exact hT1 _ (by omega)) ?_
        refine j_if_ge 90 d_Mo_pushNumber_73 (by decide) (fun b73 => ?_) (fun b73 => ?_)
        · skip
          refine j_lload_n d_Mo_pushNumber_90 rfl 1 rfl ?_
          refine j_lconst (v := 0) d_Mo_pushNumber_91 (by decide) ?_
          refine j_lcmp d_Mo_pushNumber_92 ?_
          refine j_if_ge 114 d_Mo_pushNumber_93 (by decide) (fun b93 => ?_) (fun b93 => ?_)
          · skip
            refine j_aload_n d_Mo_pushNumber_114 rfl 0 rfl ?_
            refine j_get F_Mo hX0 10 (by decide) w_953 (Or.inl rfl) rfl d_Mo_pushNumber_115 ?_
            refine j_aload_n d_Mo_pushNumber_118 rfl 0 rfl ?_
            refine j_get F_Mo hX0 11 (by decide) w_954 (Or.inl rfl) rfl d_Mo_pushNumber_119 ?_
            refine j_iload d_Mo_pushNumber_122 3 rfl ?_
            refine j_iast hXz dp rfl (by omega) (by omega) d_Mo_pushNumber_124 ?_
            generalize eM3 : mp_up Mx sz (mp_i E 408 (upd Z dp (nI i))) = M3
            have hM3_h : M3 h = some (mp_o 7 [.ref ro, .int (nI rows), .int thr, .ref kp, .ref ks, .ref st8, .ref w64, .ref ha, .ref pa, .ref tg, .ref sz, .int (nI dp), .int (nI as_), .int (nI ops), .ref tk]) := by rw [← eM3, mp_n (mp_ne hX0 hXz mp_noa)]; exact hX0
            have hM3_tg : M3 tg = some (mp_b E 104448 Tx) := by rw [← eM3, mp_n (Ne.symm nzt)]; exact hXt
            have hM3_sz : M3 sz = some (mp_i E 408 (upd Z dp (nI i))) := by rw [← eM3]; exact mp_s
            refine j_aload_n d_Mo_pushNumber_125 rfl 0 rfl ?_
            refine j_dup d_Mo_pushNumber_126 rfl ?_
            refine j_get F_Mo hM3_h 11 (by decide) w_954 (Or.inl rfl) rfl d_Mo_pushNumber_127 ?_
            refine j_iconst (v := nI 1) d_Mo_pushNumber_130 (by decide) ?_
            refine j_iadd d_Mo_pushNumber_131 ?_
            refine j_eqi (y := nI (dp + 1)) (nI_add dp 1) ?_
            refine j_put F_Mo hM3_h 11 (by decide) w_954 (Or.inl rfl) rfl rfl rfl (Nat.le_of_ble_eq_true rfl) d_Mo_pushNumber_132 ?_
            show mp_J Γ m_Mo_pushNumber E κ (mp_up M3 h (mp_o 7 [.ref ro, .int (nI rows), .int thr, .ref kp, .ref ks, .ref st8, .ref w64, .ref ha, .ref pa, .ref tg, .ref sz, .int (nI (dp + 1)), .int (nI as_), .int (nI ops), .ref tk])) [(0, .ref h), (1, .long x), (3, .long (lN (r0 / 2 ^ (8 * i)))), (5, .int (nI i)), (6, .int (nI (256 * dp)))] 135 [] 0 0
            generalize eM4 : mp_up M3 h (mp_o 7 [.ref ro, .int (nI rows), .int thr, .ref kp, .ref ks, .ref st8, .ref w64, .ref ha, .ref pa, .ref tg, .ref sz, .int (nI (dp + 1)), .int (nI as_), .int (nI ops), .ref tk]) = M4
            have hM4_tg : M4 tg = some (mp_b E 104448 Tx) := by rw [← eM4, mp_n (mp_ne hM3_tg hM3_h mp_nao)]; exact hM3_tg
            have hM4_sz : M4 sz = some (mp_i E 408 (upd Z dp (nI i))) := by rw [← eM4, mp_n (mp_ne hM3_sz hM3_h mp_nao)]; exact hM3_sz
            have hM4_h : M4 h = some (mp_o 7 [.ref ro, .int (nI rows), .int thr, .ref kp, .ref ks, .ref st8, .ref w64, .ref ha, .ref pa, .ref tg, .ref sz, .int (nI (dp + 1)), .int (nI as_), .int (nI ops), .ref tk]) := by rw [← eM4]; exact mp_s
            exact j_vret hκ rfl (by omega) (by omega) d_Mo_pushNumber_135 (by
      have ebl : bl r0 = i := by obtain ⟨i9, rfl⟩ : ∃ i9, i = i9 + 1 := ⟨i - 1, by omega⟩; exact nb_bl1 (nb_2 b29 hr0) (by omega) (by simpa using (hi2.resolve_left (by omega)).2) (by have h9 := (nb_sg hr0 (by omega)).mp b73; simpa using h9)
      refine ⟨rfl, Tx, ?_, ?_, hT3, ?_⟩
      · rw [ebl]; exact fun q hq => by unfold of_f; rw [if_neg (fun hz9 => absurd (of_decide_eq_true hz9.1) (ab_2 b93))]; exact hT1 q (by omega)
      · exact hT2
      · rw [← eM4, ← eM3, eX]; simp only [mp_uu, ebl])
          · skip
            refine j_aload_n d_Mo_pushNumber_96 rfl 0 rfl ?_
            refine j_get F_Mo hX0 9 (by decide) w_952 (Or.inl rfl) rfl d_Mo_pushNumber_97 ?_
            refine j_iload d_Mo_pushNumber_100 4 rfl ?_
            refine j_iload d_Mo_pushNumber_102 3 rfl ?_
            refine j_iadd d_Mo_pushNumber_104 ?_
            refine j_eqi (y := nI ((256 * dp) + i)) (nI_add (256 * dp) i) ?_
            refine j_iconst (v := nI 1) d_Mo_pushNumber_105 (by decide) ?_
            refine j_isub d_Mo_pushNumber_106 ?_
            refine j_eqi (y := nI (((256 * dp) + i) - 1)) (pk_sub (by omega)) ?_
            refine j_dup2_11 d_Mo_pushNumber_107 rfl rfl ?_
            refine j_bald hXt (((256 * dp) + i) - 1) rfl (by omega) (by omega) d_Mo_pushNumber_108 ?_
            refine j_bipush (v := (-128)) d_Mo_pushNumber_109 (by decide) ?_
            refine j_ior d_Mo_pushNumber_111 ?_
            refine j_i2b d_Mo_pushNumber_112 ?_
            refine j_bast (y := ((Tx (((256 * dp) + i) - 1)) ||| (-128)).toInt8.toInt32) hXt (((256 * dp) + i) - 1) rfl (by omega) (by omega) (pk_vb _) d_Mo_pushNumber_113 ?_
            generalize eM5 : mp_up Mx tg (mp_b E 104448 (upd Tx (((256 * dp) + i) - 1) (((Tx (((256 * dp) + i) - 1)) ||| (-128)).toInt8.toInt32))) = M5
            have hM5_h : M5 h = some (mp_o 7 [.ref ro, .int (nI rows), .int thr, .ref kp, .ref ks, .ref st8, .ref w64, .ref ha, .ref pa, .ref tg, .ref sz, .int (nI dp), .int (nI as_), .int (nI ops), .ref tk]) := by rw [← eM5, mp_n (mp_ne hX0 hXt mp_noa)]; exact hX0
            have hM5_sz : M5 sz = some (mp_i E 408 Z) := by rw [← eM5, mp_n nzt]; exact hXz
            have hM5_tg : M5 tg = some (mp_b E 104448 (upd Tx (((256 * dp) + i) - 1) (((Tx (((256 * dp) + i) - 1)) ||| (-128)).toInt8.toInt32))) := by rw [← eM5]; exact mp_s
            refine j_aload_n d_Mo_pushNumber_114 rfl 0 rfl ?_
            refine j_get F_Mo hM5_h 10 (by decide) w_953 (Or.inl rfl) rfl d_Mo_pushNumber_115 ?_
            refine j_aload_n d_Mo_pushNumber_118 rfl 0 rfl ?_
            refine j_get F_Mo hM5_h 11 (by decide) w_954 (Or.inl rfl) rfl d_Mo_pushNumber_119 ?_
            refine j_iload d_Mo_pushNumber_122 3 rfl ?_
            refine j_iast hM5_sz dp rfl (by omega) (by omega) d_Mo_pushNumber_124 ?_
            generalize eM6 : mp_up M5 sz (mp_i E 408 (upd Z dp (nI i))) = M6
            have hM6_h : M6 h = some (mp_o 7 [.ref ro, .int (nI rows), .int thr, .ref kp, .ref ks, .ref st8, .ref w64, .ref ha, .ref pa, .ref tg, .ref sz, .int (nI dp), .int (nI as_), .int (nI ops), .ref tk]) := by rw [← eM6, mp_n (mp_ne hM5_h hM5_sz mp_noa)]; exact hM5_h
            have hM6_tg : M6 tg = some (mp_b E 104448 (upd Tx (((256 * dp) + i) - 1) (((Tx (((256 * dp) + i) - 1)) ||| (-128)).toInt8.toInt32))) := by rw [← eM6, mp_n (Ne.symm nzt)]; exact hM5_tg
            have hM6_sz : M6 sz = some (mp_i E 408 (upd Z dp (nI i))) := by rw [← eM6]; exact mp_s
            refine j_aload_n d_Mo_pushNumber_125 rfl 0 rfl ?_
            refine j_dup d_Mo_pushNumber_126 rfl ?_
            refine j_get F_Mo hM6_h 11 (by decide) w_954 (Or.inl rfl) rfl d_Mo_pushNumber_127 ?_
            refine j_iconst (v := nI 1) d_Mo_pushNumber_130 (by decide) ?_
            refine j_iadd d_Mo_pushNumber_131 ?_
            refine j_eqi (y := nI (dp + 1)) (nI_add dp 1) ?_
            refine j_put F_Mo hM6_h 11 (by decide) w_954 (Or.inl rfl) rfl rfl rfl (Nat.le_of_ble_eq_true rfl) d_Mo_pushNumber_132 ?_
            show mp_J Γ m_Mo_pushNumber E κ (mp_up M6 h (mp_o 7 [.ref ro, .int (nI rows), .int thr, .ref kp, .ref ks, .ref st8, .ref w64, .ref ha, .ref pa, .ref tg, .ref sz, .int (nI (dp + 1)), .int (nI as_), .int (nI ops), .ref tk])) [(0, .ref h), (1, .long x), (3, .long (lN (r0 / 2 ^ (8 * i)))), (5, .int (nI i)), (6, .int (nI (256 * dp)))] 135 [] 0 0
            generalize eM7 : mp_up M6 h (mp_o 7 [.ref ro, .int (nI rows), .int thr, .ref kp, .ref ks, .ref st8, .ref w64, .ref ha, .ref pa, .ref tg, .ref sz, .int (nI (dp + 1)), .int (nI as_), .int (nI ops), .ref tk]) = M7
            have hM7_tg : M7 tg = some (mp_b E 104448 (upd Tx (((256 * dp) + i) - 1) (((Tx (((256 * dp) + i) - 1)) ||| (-128)).toInt8.toInt32))) := by rw [← eM7, mp_n (mp_ne hM6_tg hM6_h mp_nao)]; exact hM6_tg
            have hM7_sz : M7 sz = some (mp_i E 408 (upd Z dp (nI i))) := by rw [← eM7, mp_n (mp_ne hM6_sz hM6_h mp_nao)]; exact hM6_sz
            have hM7_h : M7 h = some (mp_o 7 [.ref ro, .int (nI rows), .int thr, .ref kp, .ref ks, .ref st8, .ref w64, .ref ha, .ref pa, .ref tg, .ref sz, .int (nI (dp + 1)), .int (nI as_), .int (nI ops), .ref tk]) := by rw [← eM7]; exact mp_s
            exact j_vret hκ rfl (by omega) (by omega) d_Mo_pushNumber_135 (by
      have ebl : bl r0 = i := by obtain ⟨i9, rfl⟩ : ∃ i9, i = i9 + 1 := ⟨i - 1, by omega⟩; exact nb_bl1 (nb_2 b29 hr0) (by omega) (by simpa using (hi2.resolve_left (by omega)).2) (by have h9 := (nb_sg hr0 (by omega)).mp b73; simpa using h9)
      refine ⟨rfl, (upd Tx (((256 * dp) + i) - 1) (((Tx (((256 * dp) + i) - 1)) ||| (-128)).toInt8.toInt32)), ?_, ?_, (ft_upd (pk_fb _) hT3), ?_⟩
      · rw [ebl]; exact fun q hq => by
            unfold of_f
            by_cases h8 : q + 1 = i
            · rw [if_pos ⟨decide_eq_true (ab_1 b93), by rw [ebl]; exact h8⟩, show 256 * dp + q = 256 * dp + (i) - 1 by omega, pk_us]
              congr 3
              rw [show 256 * dp + i - 1 = 256 * dp + (i - 1) by omega, hT1 _ (by omega), show q = i - 1 by omega]
            · rw [if_neg (fun hz9 => h8 (by rw [← ebl]; exact hz9.2)), pk_un (by omega)]
              exact hT1 q (by omega)
      · exact fun q hq => by rw [pk_un (by omega)]; exact hT2 q hq
      · rw [← eM7, ← eM6, ← eM5, eX]; simp only [mp_uu, ebl])
        · skip
          refine j_aload_n d_Mo_pushNumber_76 rfl 0 rfl ?_
          refine j_get F_Mo hX0 9 (by decide) w_952 (Or.inl rfl) rfl d_Mo_pushNumber_77 ?_
          refine j_iload d_Mo_pushNumber_80 4 rfl ?_
          refine j_iload d_Mo_pushNumber_82 3 rfl ?_
          refine j_iinc (v := nI (i + 1)) [(5, .int (nI (i + 1))), (0, .ref h), (1, .long x), (3, .long (lN (r0 / 2 ^ (8 * i)))), (6, .int (nI (256 * dp)))] d_Mo_pushNumber_84 3 rfl (nI_add i 1) (by decide) rfl ?_
          refine j_iadd d_Mo_pushNumber_87 ?_
          refine j_eqi (y := nI ((256 * dp) + i)) (nI_add (256 * dp) i) ?_
          refine j_iconst (v := nI 0) d_Mo_pushNumber_88 (by decide) ?_
          refine j_bast (y := nI 0) hXt ((256 * dp) + i) rfl (by omega) (by omega) rfl d_Mo_pushNumber_89 ?_
          generalize eM8 : mp_up Mx tg (mp_b E 104448 (upd Tx ((256 * dp) + i) (nI 0))) = M8
          have hM8_h : M8 h = some (mp_o 7 [.ref ro, .int (nI rows), .int thr, .ref kp, .ref ks, .ref st8, .ref w64, .ref ha, .ref pa, .ref tg, .ref sz, .int (nI dp), .int (nI as_), .int (nI ops), .ref tk]) := by rw [← eM8, mp_n (mp_ne hX0 hXt mp_noa)]; exact hX0
          have hM8_sz : M8 sz = some (mp_i E 408 Z) := by rw [← eM8, mp_n nzt]; exact hXz
          have hM8_tg : M8 tg = some (mp_b E 104448 (upd Tx ((256 * dp) + i) (nI 0))) := by rw [← eM8]; exact mp_s
          refine j_lload_n d_Mo_pushNumber_90 rfl 2 rfl ?_
          refine j_lconst (v := 0) d_Mo_pushNumber_91 (by decide) ?_
          refine j_lcmp d_Mo_pushNumber_92 ?_
          refine j_if_ge 114 d_Mo_pushNumber_93 (by decide) (fun b93 => ?_) (fun b93 => ?_)
          · skip
            refine j_aload_n d_Mo_pushNumber_114 rfl 1 rfl ?_
            refine j_get F_Mo hM8_h 10 (by decide) w_953 (Or.inl rfl) rfl d_Mo_pushNumber_115 ?_
            refine j_aload_n d_Mo_pushNumber_118 rfl 1 rfl ?_
            refine j_get F_Mo hM8_h 11 (by decide) w_954 (Or.inl rfl) rfl d_Mo_pushNumber_119 ?_
            refine j_iload d_Mo_pushNumber_122 0 rfl ?_
            refine j_iast hM8_sz dp rfl (by omega) (by omega) d_Mo_pushNumber_124 ?_
            generalize eM9 : mp_up M8 sz (mp_i E 408 (upd Z dp (nI (i + 1)))) = M9
            have hM9_h : M9 h = some (mp_o 7 [.ref ro, .int (nI rows), .int thr, .ref kp, .ref ks, .ref st8, .ref w64, .ref ha, .ref pa, .ref tg, .ref sz, .int (nI dp), .int (nI as_), .int (nI ops), .ref tk]) := by rw [← eM9, mp_n (mp_ne hM8_h hM8_sz mp_noa)]; exact hM8_h
            have hM9_tg : M9 tg = some (mp_b E 104448 (upd Tx ((256 * dp) + i) (nI 0))) := by rw [← eM9, mp_n (Ne.symm nzt)]; exact hM8_tg
            have hM9_sz : M9 sz = some (mp_i E 408 (upd Z dp (nI (i + 1)))) := by rw [← eM9]; exact mp_s
            refine j_aload_n d_Mo_pushNumber_125 rfl 1 rfl ?_
            refine j_dup d_Mo_pushNumber_126 rfl ?_
            refine j_get F_Mo hM9_h 11 (by decide) w_954 (Or.inl rfl) rfl d_Mo_pushNumber_127 ?_
            refine j_iconst (v := nI 1) d_Mo_pushNumber_130 (by decide) ?_
            refine j_iadd d_Mo_pushNumber_131 ?_
            refine j_eqi (y := nI (dp + 1)) (nI_add dp 1) ?_
            refine j_put F_Mo hM9_h 11 (by decide) w_954 (Or.inl rfl) rfl rfl rfl (Nat.le_of_ble_eq_true rfl) d_Mo_pushNumber_132 ?_
            show mp_J Γ m_Mo_pushNumber E κ (mp_up M9 h (mp_o 7 [.ref ro, .int (nI rows), .int thr, .ref kp, .ref ks, .ref st8, .ref w64, .ref ha, .ref pa, .ref tg, .ref sz, .int (nI (dp + 1)), .int (nI as_), .int (nI ops), .ref tk])) [(5, .int (nI (i + 1))), (0, .ref h), (1, .long x), (3, .long (lN (r0 / 2 ^ (8 * i)))), (6, .int (nI (256 * dp)))] 135 [] 0 0
            generalize eM10 : mp_up M9 h (mp_o 7 [.ref ro, .int (nI rows), .int thr, .ref kp, .ref ks, .ref st8, .ref w64, .ref ha, .ref pa, .ref tg, .ref sz, .int (nI (dp + 1)), .int (nI as_), .int (nI ops), .ref tk]) = M10
            have hM10_tg : M10 tg = some (mp_b E 104448 (upd Tx ((256 * dp) + i) (nI 0))) := by rw [← eM10, mp_n (mp_ne hM9_tg hM9_h mp_nao)]; exact hM9_tg
            have hM10_sz : M10 sz = some (mp_i E 408 (upd Z dp (nI (i + 1)))) := by rw [← eM10, mp_n (mp_ne hM9_sz hM9_h mp_nao)]; exact hM9_sz
            have hM10_h : M10 h = some (mp_o 7 [.ref ro, .int (nI rows), .int thr, .ref kp, .ref ks, .ref st8, .ref w64, .ref ha, .ref pa, .ref tg, .ref sz, .int (nI (dp + 1)), .int (nI as_), .int (nI ops), .ref tk]) := by rw [← eM10]; exact mp_s
            exact j_vret hκ rfl (by omega) (by omega) d_Mo_pushNumber_135 (by
      have ebl : bl r0 = i + 1 := by obtain ⟨i9, rfl⟩ : ∃ i9, i = i9 + 1 := ⟨i - 1, by omega⟩; exact nb_bl2 (nb_2 b29 hr0) (by omega) (by simpa using (hi2.resolve_left (by omega)).2) (fun z => b73 ((nb_sg hr0 (by omega)).mpr (by simpa using z)))
      refine ⟨rfl, (upd Tx ((256 * dp) + i) (nI 0)), ?_, ?_, (ft_upd (by decide) hT3), ?_⟩
      · rw [ebl]; exact fun q hq => by
            unfold of_f; rw [if_neg (fun hz9 => absurd (of_decide_eq_true hz9.1) (ab_2 b93))]
            by_cases h9 : q = i
            · rw [h9, pk_us, (show bq r0 i = nI 0 from by rw [nb_bq hr0 (by omega), Nat.div_eq_of_lt (nb_2 b29 hr0)]; decide)]
            · rw [pk_un (by omega)]; exact hT1 q (by omega)
      · exact fun q hq => by rw [pk_un (by omega)]; exact hT2 q hq
      · rw [← eM10, ← eM9, ← eM8, eX]; simp only [mp_uu, ebl])
          · skip
            refine j_aload_n d_Mo_pushNumber_96 rfl 1 rfl ?_
            refine j_get F_Mo hM8_h 9 (by decide) w_952 (Or.inl rfl) rfl d_Mo_pushNumber_97 ?_
            refine j_iload d_Mo_pushNumber_100 4 rfl ?_
            refine j_iload d_Mo_pushNumber_102 0 rfl ?_
            refine j_iadd d_Mo_pushNumber_104 ?_
            refine j_eqi (y := nI ((256 * dp) + (i + 1))) (nI_add (256 * dp) (i + 1)) ?_
            refine j_iconst (v := nI 1) d_Mo_pushNumber_105 (by decide) ?_
            refine j_isub d_Mo_pushNumber_106 ?_
            refine j_eqi (y := nI (((256 * dp) + (i + 1)) - 1)) (pk_sub (by omega)) ?_
            refine j_dup2_11 d_Mo_pushNumber_107 rfl rfl ?_
            refine j_bald hM8_tg (((256 * dp) + (i + 1)) - 1) rfl (by omega) (by omega) d_Mo_pushNumber_108 ?_
            refine j_bipush (v := (-128)) d_Mo_pushNumber_109 (by decide) ?_
            refine j_ior d_Mo_pushNumber_111 ?_
            refine j_i2b d_Mo_pushNumber_112 ?_
            refine j_bast (y := (((upd Tx ((256 * dp) + i) (nI 0)) (((256 * dp) + (i + 1)) - 1)) ||| (-128)).toInt8.toInt32) hM8_tg (((256 * dp) + (i + 1)) - 1) rfl (by omega) (by omega) (pk_vb _) d_Mo_pushNumber_113 ?_
            generalize eM11 : mp_up M8 tg (mp_b E 104448 (upd (upd Tx ((256 * dp) + i) (nI 0)) (((256 * dp) + (i + 1)) - 1) ((((upd Tx ((256 * dp) + i) (nI 0)) (((256 * dp) + (i + 1)) - 1)) ||| (-128)).toInt8.toInt32))) = M11
            have hM11_h : M11 h = some (mp_o 7 [.ref ro, .int (nI rows), .int thr, .ref kp, .ref ks, .ref st8, .ref w64, .ref ha, .ref pa, .ref tg, .ref sz, .int (nI dp), .int (nI as_), .int (nI ops), .ref tk]) := by rw [← eM11, mp_n (mp_ne hM8_h hM8_tg mp_noa)]; exact hM8_h
            have hM11_sz : M11 sz = some (mp_i E 408 Z) := by rw [← eM11, mp_n nzt]; exact hM8_sz
            have hM11_tg : M11 tg = some (mp_b E 104448 (upd (upd Tx ((256 * dp) + i) (nI 0)) (((256 * dp) + (i + 1)) - 1) ((((upd Tx ((256 * dp) + i) (nI 0)) (((256 * dp) + (i + 1)) - 1)) ||| (-128)).toInt8.toInt32))) := by rw [← eM11]; exact mp_s
            refine j_aload_n d_Mo_pushNumber_114 rfl 1 rfl ?_
            refine j_get F_Mo hM11_h 10 (by decide) w_953 (Or.inl rfl) rfl d_Mo_pushNumber_115 ?_
            refine j_aload_n d_Mo_pushNumber_118 rfl 1 rfl ?_
            refine j_get F_Mo hM11_h 11 (by decide) w_954 (Or.inl rfl) rfl d_Mo_pushNumber_119 ?_
            refine j_iload d_Mo_pushNumber_122 0 rfl ?_
            refine j_iast hM11_sz dp rfl (by omega) (by omega) d_Mo_pushNumber_124 ?_
            generalize eM12 : mp_up M11 sz (mp_i E 408 (upd Z dp (nI (i + 1)))) = M12
            have hM12_h : M12 h = some (mp_o 7 [.ref ro, .int (nI rows), .int thr, .ref kp, .ref ks, .ref st8, .ref w64, .ref ha, .ref pa, .ref tg, .ref sz, .int (nI dp), .int (nI as_), .int (nI ops), .ref tk]) := by rw [← eM12, mp_n (mp_ne hM11_h hM11_sz mp_noa)]; exact hM11_h
            have hM12_tg : M12 tg = some (mp_b E 104448 (upd (upd Tx ((256 * dp) + i) (nI 0)) (((256 * dp) + (i + 1)) - 1) ((((upd Tx ((256 * dp) + i) (nI 0)) (((256 * dp) + (i + 1)) - 1)) ||| (-128)).toInt8.toInt32))) := by rw [← eM12, mp_n (Ne.symm nzt)]; exact hM11_tg
            have hM12_sz : M12 sz = some (mp_i E 408 (upd Z dp (nI (i + 1)))) := by rw [← eM12]; exact mp_s
            refine j_aload_n d_Mo_pushNumber_125 rfl 1 rfl ?_
            refine j_dup d_Mo_pushNumber_126 rfl ?_
            refine j_get F_Mo hM12_h 11 (by decide) w_954 (Or.inl rfl) rfl d_Mo_pushNumber_127 ?_
            refine j_iconst (v := nI 1) d_Mo_pushNumber_130 (by decide) ?_
            refine j_iadd d_Mo_pushNumber_131 ?_
            refine j_eqi (y := nI (dp + 1)) (nI_add dp 1) ?_
            refine j_put F_Mo hM12_h 11 (by decide) w_954 (Or.inl rfl) rfl rfl rfl (Nat.le_of_ble_eq_true rfl) d_Mo_pushNumber_132 ?_
            show mp_J Γ m_Mo_pushNumber E κ (mp_up M12 h (mp_o 7 [.ref ro, .int (nI rows), .int thr, .ref kp, .ref ks, .ref st8, .ref w64, .ref ha, .ref pa, .ref tg, .ref sz, .int (nI (dp + 1)), .int (nI as_), .int (nI ops), .ref tk])) [(5, .int (nI (i + 1))), (0, .ref h), (1, .long x), (3, .long (lN (r0 / 2 ^ (8 * i)))), (6, .int (nI (256 * dp)))] 135 [] 0 0
            generalize eM13 : mp_up M12 h (mp_o 7 [.ref ro, .int (nI rows), .int thr, .ref kp, .ref ks, .ref st8, .ref w64, .ref ha, .ref pa, .ref tg, .ref sz, .int (nI (dp + 1)), .int (nI as_), .int (nI ops), .ref tk]) = M13
            have hM13_tg : M13 tg = some (mp_b E 104448 (upd (upd Tx ((256 * dp) + i) (nI 0)) (((256 * dp) + (i + 1)) - 1) ((((upd Tx ((256 * dp) + i) (nI 0)) (((256 * dp) + (i + 1)) - 1)) ||| (-128)).toInt8.toInt32))) := by rw [← eM13, mp_n (mp_ne hM12_tg hM12_h mp_nao)]; exact hM12_tg
            have hM13_sz : M13 sz = some (mp_i E 408 (upd Z dp (nI (i + 1)))) := by rw [← eM13, mp_n (mp_ne hM12_sz hM12_h mp_nao)]; exact hM12_sz
            have hM13_h : M13 h = some (mp_o 7 [.ref ro, .int (nI rows), .int thr, .ref kp, .ref ks, .ref st8, .ref w64, .ref ha, .ref pa, .ref tg, .ref sz, .int (nI (dp + 1)), .int (nI as_), .int (nI ops), .ref tk]) := by rw [← eM13]; exact mp_s
            exact j_vret hκ rfl (by omega) (by omega) d_Mo_pushNumber_135 (by
      have ebl : bl r0 = i + 1 := by obtain ⟨i9, rfl⟩ : ∃ i9, i = i9 + 1 := ⟨i - 1, by omega⟩; exact nb_bl2 (nb_2 b29 hr0) (by omega) (by simpa using (hi2.resolve_left (by omega)).2) (fun z => b73 ((nb_sg hr0 (by omega)).mpr (by simpa using z)))
      refine ⟨rfl, (upd (upd Tx ((256 * dp) + i) (nI 0)) (((256 * dp) + (i + 1)) - 1) ((((upd Tx ((256 * dp) + i) (nI 0)) (((256 * dp) + (i + 1)) - 1)) ||| (-128)).toInt8.toInt32)), ?_, ?_, (ft_upd (pk_fb _) (ft_upd (by decide) hT3)), ?_⟩
      · rw [ebl]; exact fun q hq => by
            unfold of_f
            by_cases h8 : q + 1 = i + 1
            · rw [if_pos ⟨decide_eq_true (ab_1 b93), by rw [ebl]; exact h8⟩, show 256 * dp + q = 256 * dp + (i + 1) - 1 by omega, pk_us]
              congr 3
              rw [show 256 * dp + (i + 1) - 1 = 256 * dp + i by omega, pk_us, show q = i by omega, (show bq r0 i = nI 0 from by rw [nb_bq hr0 (by omega), Nat.div_eq_of_lt (nb_2 b29 hr0)]; decide)]
            · rw [if_neg (fun hz9 => h8 (by rw [← ebl]; exact hz9.2)), pk_un (by omega)]
              rw [pk_un (by omega)]; exact hT1 q (by omega)
      · exact fun q hq => by rw [pk_un (by omega), pk_un (by omega)]; exact hT2 q hq
      · rw [← eM13, ← eM12, ← eM11, ← eM8, eX]; simp only [mp_uu, ebl])
    · skip
      obtain ⟨hle, hi4⟩ := nb_1 b29 hr0
      refine j_aload_n d_Mo_pushNumber_32 rfl 0 rfl ?_
      refine j_get F_Mo hX0 9 (by decide) w_952 (Or.inl rfl) rfl d_Mo_pushNumber_33 ?_
      refine j_iload d_Mo_pushNumber_36 4 rfl ?_
      refine j_iload d_Mo_pushNumber_38 3 rfl ?_
      refine j_iinc (v := nI (i + 1)) [(5, .int (nI (i + 1))), (0, .ref h), (1, .long x), (3, .long (lN (r0 / 2 ^ (8 * i)))), (6, .int (nI (256 * dp)))] d_Mo_pushNumber_40 3 rfl (nI_add i 1) (by decide) rfl ?_
      refine j_iadd d_Mo_pushNumber_43 ?_
      refine j_eqi (y := nI ((256 * dp) + i)) (nI_add (256 * dp) i) ?_
      refine j_lload_n d_Mo_pushNumber_44 rfl 3 rfl ?_
      refine j_l2i d_Mo_pushNumber_45 ?_
      refine j_i2b d_Mo_pushNumber_46 ?_
      refine j_eqi (y := bq r0 i) (nb_bq hr0 (by omega)).symm ?_
      refine j_bast (y := bq r0 i) hXt ((256 * dp) + i) rfl (by omega) (by omega) (pk_vb _) d_Mo_pushNumber_47 ?_
      generalize eM14 : mp_up Mx tg (mp_b E 104448 (upd Tx ((256 * dp) + i) (bq r0 i))) = M14
      have hM14_h : M14 h = some (mp_o 7 [.ref ro, .int (nI rows), .int thr, .ref kp, .ref ks, .ref st8, .ref w64, .ref ha, .ref pa, .ref tg, .ref sz, .int (nI dp), .int (nI as_), .int (nI ops), .ref tk]) := by rw [← eM14, mp_n (mp_ne hX0 hXt mp_noa)]; exact hX0
      have hM14_sz : M14 sz = some (mp_i E 408 Z) := by rw [← eM14, mp_n nzt]; exact hXz
      have hM14_tg : M14 tg = some (mp_b E 104448 (upd Tx ((256 * dp) + i) (bq r0 i))) := by rw [← eM14]; exact mp_s
      refine j_lload_n d_Mo_pushNumber_48 rfl 3 rfl ?_
      refine j_bipush (v := nI 8) d_Mo_pushNumber_49 (by decide) ?_
      refine j_lshr d_Mo_pushNumber_51 ?_
      refine j_eql (y := lN (r0 / 2 ^ (8 * (i + 1)))) (nb_nx hr0) ?_
      refine j_lstore_n [(3, .long (lN (r0 / 2 ^ (8 * (i + 1))))), (5, .int (nI (i + 1))), (0, .ref h), (1, .long x), (6, .int (nI (256 * dp)))] d_Mo_pushNumber_52 rfl (by decide) rfl ?_
      refine j_goto (tgt := 26) d_Mo_pushNumber_53 (by decide) ?_
      refine j_lv [2, 3, 0, 1, 4] rfl ?_
      exact ih M14 (upd Tx (256 * dp + i) (bq r0 i)) (i + 1) (by omega) (by rw [← eM14, eX, mp_uu]) (lt_s (fun q hq => by rw [pk_un (by omega)]; exact hT1 q hq) pk_us) (fun q hq => by rw [pk_un (by omega)]; exact hT2 q hq) (ft_upd ft_bq hT3) (by omega) (Or.inr ⟨by omega, by simpa using hle⟩)

set_option maxHeartbeats 4000000 in
set_option maxRecDepth 100000 in
theorem c_Mo_pushNumber (l : Launch) (E : mp_E) (M : mp_M) (h ro rows kp ks st8 w64 ha pa tg sz dp as_ ops tk : Nat) (thr : Int32) (x : Int64) (r0 : Nat) (T Z : Nat → Int32) (h0 : M h = some (mp_o 7 [.ref ro, .int (nI rows), .int thr, .ref kp, .ref ks, .ref st8, .ref w64, .ref ha, .ref pa, .ref tg, .ref sz, .int (nI dp), .int (nI as_), .int (nI ops), .ref tk])) (hz : M sz = some (mp_i E 408 Z)) (ht : M tg = some (mp_b E 104448 T)) (hft : ∀ i, i < 104448 → fits .byte (.int (T i)) = true) (hd : dp < 408) (hr0 : r0 < 2 ^ 40) (hx : (if 0 < x then x else -x) = lN r0) : mp_Cr l m_Mo_pushNumber E M 1 0 0 [.ref h, .long x] (fun v N => v = none ∧ ∃ T2 : Nat → Int32, (∀ q, q < bl r0 → T2 (256 * dp + q) = of_f (decide (x < 0)) r0 q) ∧ (∀ q, q < 256 * dp ∨ 256 * dp + 256 ≤ q → T2 q = T q) ∧ (∀ q, q < 104448 → fits .byte (.int (T2 q)) = true) ∧ N = mp_up (mp_up (mp_up M tg (mp_b E 104448 T2)) sz (mp_i E 408 (upd Z dp (nI (bl r0))))) h (mp_o 7 [.ref ro, .int (nI rows), .int thr, .ref kp, .ref ks, .ref st8, .ref w64, .ref ha, .ref pa, .ref tg, .ref sz, .int (nI (dp + 1)), .int (nI as_), .int (nI ops), .ref tk])) := by
  refine mp_Cr.of (by decide) (Nat.le_of_ble_eq_true rfl) fun Γ κ hl hκ => ?_
  subst hl
  obtain ⟨hκd, hκc, hκs, -⟩ := id hκ
  show mp_J Γ m_Mo_pushNumber E κ M [(0, .ref h), (1, .long x)] 0 [] 0 0
  refine j_lload_n d_Mo_pushNumber_0 rfl 1 rfl ?_
  refine j_lconst (v := 0) d_Mo_pushNumber_1 (by decide) ?_
  refine j_lcmp d_Mo_pushNumber_2 ?_
  refine j_if_ge 11 d_Mo_pushNumber_3 (by decide) (fun b3 => ?_) (fun b3 => ?_)
  · skip
    refine j_lload_n d_Mo_pushNumber_11 rfl 1 rfl ?_
    refine j_lstore_n [(3, .long x), (0, .ref h), (1, .long x)] d_Mo_pushNumber_12 rfl (by decide) rfl ?_
    refine j_iconst (v := nI 0) d_Mo_pushNumber_13 (by decide) ?_
    refine j_istore [(5, .int (nI 0)), (3, .long x), (0, .ref h), (1, .long x)] d_Mo_pushNumber_14 (by decide) rfl ?_
    refine j_sipush (v := nI 256) d_Mo_pushNumber_16 (by decide) ?_
    refine j_aload_n d_Mo_pushNumber_19 rfl 2 rfl ?_
    refine j_get F_Mo h0 11 (by decide) w_954 (Or.inl rfl) rfl d_Mo_pushNumber_20 ?_
    refine j_imul d_Mo_pushNumber_23 ?_
    refine j_eqi (y := nI (256 * dp)) (pk_mul 256 dp) ?_
    refine j_istore [(6, .int (nI (256 * dp))), (5, .int (nI 0)), (3, .long x), (0, .ref h), (1, .long x)] d_Mo_pushNumber_24 (by decide) rfl ?_
    refine j_lv [3, 4, 2, 1, 0] rfl ?_
    have e26 : x = lN (r0 / 2 ^ (8 * 0)) := by rw [nb_x0 hx b3]; simp
    have key := lp_Mo_pushNumber (Γ := Γ) E M h ro rows kp ks st8 w64 ha pa tg sz dp as_ ops tk thr x r0 T Z h0 hz ht hft hd hr0 hx hκ 7 M T 0 (by omega) (mp_same ht).symm (fun q hq => absurd hq (Nat.not_lt_zero _)) (fun _ _ => rfl) hft (by omega) (Or.inl rfl)
    rw [← e26] at key
    exact key
  · skip
    refine j_lload_n d_Mo_pushNumber_6 rfl 1 rfl ?_
    refine j_lneg d_Mo_pushNumber_7 ?_
    refine j_goto (tgt := 12) d_Mo_pushNumber_8 (by decide) ?_
    refine j_lstore_n [(3, .long (-x)), (0, .ref h), (1, .long x)] d_Mo_pushNumber_12 rfl (by decide) rfl ?_
    refine j_iconst (v := nI 0) d_Mo_pushNumber_13 (by decide) ?_
    refine j_istore [(5, .int (nI 0)), (3, .long (-x)), (0, .ref h), (1, .long x)] d_Mo_pushNumber_14 (by decide) rfl ?_
    refine j_sipush (v := nI 256) d_Mo_pushNumber_16 (by decide) ?_
    refine j_aload_n d_Mo_pushNumber_19 rfl 2 rfl ?_
    refine j_get F_Mo h0 11 (by decide) w_954 (Or.inl rfl) rfl d_Mo_pushNumber_20 ?_
    refine j_imul d_Mo_pushNumber_23 ?_
    refine j_eqi (y := nI (256 * dp)) (pk_mul 256 dp) ?_
    refine j_istore [(6, .int (nI (256 * dp))), (5, .int (nI 0)), (3, .long (-x)), (0, .ref h), (1, .long x)] d_Mo_pushNumber_24 (by decide) rfl ?_
    refine j_lv [3, 4, 2, 1, 0] rfl ?_
    have e26 : -x = lN (r0 / 2 ^ (8 * 0)) := by rw [nb_x1 hx b3]; simp
    have key := lp_Mo_pushNumber (Γ := Γ) E M h ro rows kp ks st8 w64 ha pa tg sz dp as_ ops tk thr x r0 T Z h0 hz ht hft hd hr0 hx hκ 7 M T 0 (by omega) (mp_same ht).symm (fun q hq => absurd hq (Nat.not_lt_zero _)) (fun _ _ => rfl) hft (by omega) (Or.inl rfl)
    rw [← e26] at key
    exact key

section RMET2
variable (l : Launch) {E : mp_E} {M : mp_M} {R : Nat → Nat} {rows dp as_ ops : Nat} {thr : Int32} {A : Nat → am_T}
theorem r_pushNumber (h : RI E M R rows thr dp as_ ops A) (hR : RL R) (v : Int64) (hv : am_mag v < 2 ^ 40) (hd : dp < 408) : mp_Cr l m_Mo_pushNumber E M 1 0 0 [.ref (R 0), .long v] (fun w N => w = none ∧ RI E N R rows thr (dp + 1) as_ ops (upA A dp (am_of v)) ∧ RFr R M N) := by
  have h' := h
  obtain ⟨c0, -, -, -, -, T, Z, t1, t2, t3, t4⟩ := h'
  have hbl := bl_le hv
  refine (c_Mo_pushNumber l E M (R 0) (R 1) rows (R 2) (R 3) (R 4) (R 5) (R 6) (R 7) (R 8) (R 9) dp as_ ops (R 10) thr v (am_mag v) T Z c0 t2 t1 t3 hd hv (am_mag_e v)).mono fun w N ⟨q1, T2, q2, q3, q4, q5⟩ => ?_
  have hl : (am_of v).length = bl (am_mag v) := gl_len
  rw [← hl] at q5
  have I1 := h.put hR q4 (TA_put (x := am_of v) (c := dp) (by rw [hl]; omega) (fun j hj => by rw [hl] at hj; rw [q2 j hj]; exact (gl_at hj).symm) q3 t4) rfl
  exact ⟨q1, I1.set hR q5.symm, (RFr.put rfl).trans (RFr.s0 q5.symm)⟩
end RMET2
set_option maxHeartbeats 4000000 in
set_option maxRecDepth 100000 in
theorem r_pushTruth (l : Launch) (E : mp_E) (M : mp_M) (R : Nat → Nat) (rows : Nat) (thr : Int32) (dp as_ ops : Nat) (A : Nat → am_T) (t : Bool) (hI : RI E M R rows thr dp as_ ops A) (hR : RL R) (hd : dp < 408) : mp_Cr l m_Mo_pushTruth E M 2 0 0 [.ref (R 0), .int (tf t)] (fun v N => v = none ∧ RI E N R rows thr (dp + 1) as_ ops (upA A dp (am_bt t)) ∧ RFr R M N) := by
  refine mp_Cr.of (by decide) (Nat.le_of_ble_eq_true rfl) fun Γ κ hl hκ => ?_
  subst hl
  obtain ⟨hκd, hκc, hκs, -⟩ := id hκ
  show mp_J Γ m_Mo_pushTruth E κ M [(0, .ref (R 0)), (1, .int (tf t))] 0 [] 0 0
  refine j_aload_n d_Mo_pushTruth_0 rfl 0 rfl ?_
  refine j_iload_n d_Mo_pushTruth_1 rfl 1 rfl ?_
  refine j_tif_eq 9 d_Mo_pushTruth_2 (by decide) (fun b2 => ?_) (fun b2 => ?_)
  · skip
    refine j_lconst (v := 0) d_Mo_pushTruth_9 (by decide) ?_
    refine j_callV (As := [.long 0]) (rest := []) (r_pushNumber Γ.l hI hR 0 (am_mag_lt (by decide)) (by omega)) Y_Mo_pushNumber w_1031 w_1033 ws_33 hI.1 rfl rfl rfl (Nat.le_of_ble_eq_true rfl) (by omega) (by omega) (by omega) d_Mo_pushTruth_10 (fun v10 N10 p10 => ?_)
    obtain ⟨rfl, I10, f10⟩ := p10
    show mp_J Γ m_Mo_pushTruth E κ N10 [(0, .ref (R 0)), (1, .int (tf t))] 13 [] 0 0
    exact j_vret hκ rfl (by omega) (by omega) d_Mo_pushTruth_13 ⟨rfl, by rw [b2]; exact I10, f10⟩
  · skip
    refine j_lconst (v := 1) d_Mo_pushTruth_5 (by decide) ?_
    refine j_goto (tgt := 10) d_Mo_pushTruth_6 (by decide) ?_
    refine j_callV (As := [.long 1]) (rest := []) (r_pushNumber Γ.l hI hR 1 (am_mag_lt (by decide)) (by omega)) Y_Mo_pushNumber w_1031 w_1033 ws_33 hI.1 rfl rfl rfl (Nat.le_of_ble_eq_true rfl) (by omega) (by omega) (by omega) d_Mo_pushTruth_10 (fun v10 N10 p10 => ?_)
    obtain ⟨rfl, I10, f10⟩ := p10
    show mp_J Γ m_Mo_pushTruth E κ N10 [(0, .ref (R 0)), (1, .int (tf t))] 13 [] 0 0
    exact j_vret hκ rfl (by omega) (by omega) d_Mo_pushTruth_13 ⟨rfl, by rw [b2]; exact I10, f10⟩

set_option maxHeartbeats 4000000 in
set_option maxRecDepth 100000 in
theorem lp_Mo_takes {Γ : mp_G} {κ : mp_K} (E : mp_E) (M : mp_M) (R : Nat → Nat) (rows : Nat) (thr : Int32) (dp as_ ops : Nat) (A : Nat → am_T) (k : Nat) (bk : Bool) (hR : RL R) (hk : 0 < k ∧ k ≤ dp) (hd : dp < 408) (hκ : mp_k κ 3 0 0 (fun v N => v = some (.int (nI 1)) ∧ RI E N R rows thr (if bk = true then dp else dp - 1) as_ ops (tkA A dp k) ∧ RFr R M N)) : ∀ (r : Nat) (Mx : mp_M) (i : Nat), dp - i < r → (RI E Mx R rows thr dp as_ ops (tk2 A dp k i)) → (RFr R M Mx) → (dp - k ≤ i) → (i + 1 ≤ dp) → mp_J Γ m_Mo_takes E κ Mx [(0, .ref (R 0)), (1, .int (nI k)), (2, .int (tf bk)), (3, .int (nI i))] 21 [] 0 0 := by
  obtain ⟨hκd, hκc, hκs, -⟩ := id hκ
  intro r
  induction r with
  | zero => intro Mx i hr; exact absurd hr (Nat.not_lt_zero _)
  | succ r ih =>
    intro Mx i hr hJ fr hi1 hi2
    refine j_iload_n d_Mo_takes_21 rfl 3 rfl ?_
    refine j_aload_n d_Mo_takes_22 rfl 0 rfl ?_
    refine j_get F_Mo hJ.1 11 (by decide) w_954 (Or.inl rfl) rfl d_Mo_takes_23 ?_
    refine j_iconst (v := nI 1) d_Mo_takes_26 (by decide) ?_
    refine j_isub d_Mo_takes_27 ?_
    refine j_eqi (y := nI (dp - 1)) (pk_sub (by omega)) ?_
    refine j_ncmp_ge 45 i (dp - 1) rfl rfl (by omega) (by omega) d_Mo_takes_28 (by decide) (fun b28 => ?_) (fun b28 => ?_)
    · skip
      have hie : i = dp - 1 := by omega
      have hJ2 : RI E Mx R rows thr dp as_ ops (tk2 A dp k (dp - 1)) := by rw [← hie]; exact hJ
      refine j_aload_n d_Mo_takes_45 rfl 0 rfl ?_
      refine j_aload_n d_Mo_takes_46 rfl 0 rfl ?_
      refine j_get F_Mo hJ.1 11 (by decide) w_954 (Or.inl rfl) rfl d_Mo_takes_47 ?_
      refine j_aload_n d_Mo_takes_50 rfl 0 rfl ?_
      refine j_get F_Mo hJ.1 11 (by decide) w_954 (Or.inl rfl) rfl d_Mo_takes_51 ?_
      refine j_iconst (v := nI 1) d_Mo_takes_54 (by decide) ?_
      refine j_isub d_Mo_takes_55 ?_
      refine j_eqi (y := nI (dp - 1)) (pk_sub (by omega)) ?_
      refine j_callV (As := [.int (nI dp), .int (nI (dp - 1))]) (rest := []) (r_move Γ.l hJ2 hR dp (dp - 1) (by omega) (by omega)) Y_Mo_move w_1056 w_1058 ws_38 hJ.1 rfl rfl rfl (Nat.le_of_ble_eq_true rfl) (by omega) (by omega) (by omega) d_Mo_takes_56 (fun v56 N56 p56 => ?_)
      obtain ⟨rfl, I56, f56⟩ := p56
      show mp_J Γ m_Mo_takes E κ N56 [(0, .ref (R 0)), (1, .int (nI k)), (2, .int (tf bk)), (3, .int (nI i))] 59 [] 0 0
      refine j_iload_n d_Mo_takes_59 rfl 2 rfl ?_
      refine j_tif_ne 73 d_Mo_takes_60 (by decide) (fun b60 => ?_) (fun b60 => ?_)
      · skip
        refine j_iconst (v := nI 1) d_Mo_takes_73 (by decide) ?_
        exact j_zret hκ rfl (by first | exact Or.inl rfl | exact Or.inr rfl) (by omega) (by omega) d_Mo_takes_74 ⟨rfl, by rw [b60]; rw [← tk2_e hk.1 hk.2]; exact I56, (fr.trans f56)⟩
      · skip
        refine j_aload_n d_Mo_takes_63 rfl 0 rfl ?_
        refine j_dup d_Mo_takes_64 rfl ?_
        refine j_get F_Mo I56.1 11 (by decide) w_954 (Or.inl rfl) rfl d_Mo_takes_65 ?_
        refine j_iconst (v := nI 1) d_Mo_takes_68 (by decide) ?_
        refine j_isub d_Mo_takes_69 ?_
        refine j_eqi (y := nI (dp - 1)) (pk_sub (by omega)) ?_
        refine j_put F_Mo I56.1 11 (by decide) w_954 (Or.inl rfl) rfl rfl rfl (Nat.le_of_ble_eq_true rfl) d_Mo_takes_70 ?_
        show mp_J Γ m_Mo_takes E κ (mp_up N56 (R 0) (mp_o 7 [.ref (R 1), .int (nI rows), .int thr, .ref (R 2), .ref (R 3), .ref (R 4), .ref (R 5), .ref (R 6), .ref (R 7), .ref (R 8), .ref (R 9), .int (nI (dp - 1)), .int (nI as_), .int (nI ops), .ref (R 10)])) [(0, .ref (R 0)), (1, .int (nI k)), (2, .int (tf bk)), (3, .int (nI i))] 73 [] 0 0
        generalize eM1 : mp_up N56 (R 0) (mp_o 7 [.ref (R 1), .int (nI rows), .int thr, .ref (R 2), .ref (R 3), .ref (R 4), .ref (R 5), .ref (R 6), .ref (R 7), .ref (R 8), .ref (R 9), .int (nI (dp - 1)), .int (nI as_), .int (nI ops), .ref (R 10)]) = M1
        have hM1__R_0_ : M1 (R 0) = some (mp_o 7 [.ref (R 1), .int (nI rows), .int thr, .ref (R 2), .ref (R 3), .ref (R 4), .ref (R 5), .ref (R 6), .ref (R 7), .ref (R 8), .ref (R 9), .int (nI (dp - 1)), .int (nI as_), .int (nI ops), .ref (R 10)]) := by rw [← eM1]; exact mp_s
        have JM1 : RI E M1 R rows thr (dp - 1) as_ ops (upA (tk2 A dp k (dp - 1)) (dp - 1) ((tk2 A dp k (dp - 1)) dp)) := I56.set hR eM1
        have fM1 : RFr R N56 M1 := RFr.s0 eM1
        refine j_iconst (v := nI 1) d_Mo_takes_73 (by decide) ?_
        exact j_zret hκ rfl (by first | exact Or.inl rfl | exact Or.inr rfl) (by omega) (by omega) d_Mo_takes_74 ⟨rfl, by rw [b60]; rw [← tk2_e hk.1 hk.2]; exact JM1, ((fr.trans f56).trans fM1)⟩
    · skip
      refine j_aload_n d_Mo_takes_31 rfl 0 rfl ?_
      refine j_iload_n d_Mo_takes_32 rfl 3 rfl ?_
      refine j_iconst (v := nI 1) d_Mo_takes_33 (by decide) ?_
      refine j_iadd d_Mo_takes_34 ?_
      refine j_eqi (y := nI (i + 1)) (nI_add i 1) ?_
      refine j_iload_n d_Mo_takes_35 rfl 3 rfl ?_
      refine j_callV (As := [.int (nI (i + 1)), .int (nI i)]) (rest := []) (r_move Γ.l hJ hR (i + 1) i (by omega) (by omega)) Y_Mo_move w_1056 w_1058 ws_38 hJ.1 rfl rfl rfl (Nat.le_of_ble_eq_true rfl) (by omega) (by omega) (by omega) d_Mo_takes_36 (fun v36 N36 p36 => ?_)
      obtain ⟨rfl, I36, f36⟩ := p36
      show mp_J Γ m_Mo_takes E κ N36 [(0, .ref (R 0)), (1, .int (nI k)), (2, .int (tf bk)), (3, .int (nI i))] 39 [] 0 0
      refine j_iinc (v := nI (i + 1)) [(3, .int (nI (i + 1))), (0, .ref (R 0)), (1, .int (nI k)), (2, .int (tf bk))] d_Mo_takes_39 3 rfl (nI_add i 1) (by decide) rfl ?_
      refine j_goto (tgt := 21) d_Mo_takes_42 (by decide) ?_
      refine j_lv [1, 2, 3, 0] rfl ?_
      exact ih N36 (i + 1) (by omega) (by rw [← tk2_s (by omega) (by omega)]; exact I36) (fr.trans f36) (by omega) (by omega)

set_option maxHeartbeats 4000000 in
set_option maxRecDepth 100000 in
theorem r_takes (l : Launch) (E : mp_E) (M : mp_M) (R : Nat → Nat) (rows : Nat) (thr : Int32) (dp as_ ops : Nat) (A : Nat → am_T) (k : Nat) (bk : Bool) (hI : RI E M R rows thr dp as_ ops A) (hR : RL R) (hk : 0 < k ∧ k ≤ dp) (hd : dp < 408) : mp_Cr l m_Mo_takes E M 3 0 0 [.ref (R 0), .int (nI k), .int (tf bk)] (fun v N => v = some (.int (nI 1)) ∧ RI E N R rows thr (if bk = true then dp else dp - 1) as_ ops (tkA A dp k) ∧ RFr R M N) := by
  refine mp_Cr.of (by decide) (Nat.le_of_ble_eq_true rfl) fun Γ κ hl hκ => ?_
  subst hl
  obtain ⟨hκd, hκc, hκs, -⟩ := id hκ
  show mp_J Γ m_Mo_takes E κ M [(0, .ref (R 0)), (1, .int (nI k)), (2, .int (tf bk))] 0 [] 0 0
  refine j_aload_n d_Mo_takes_0 rfl 0 rfl ?_
  refine j_aload_n d_Mo_takes_1 rfl 0 rfl ?_
  refine j_get F_Mo hI.1 11 (by decide) w_954 (Or.inl rfl) rfl d_Mo_takes_2 ?_
  refine j_iload_n d_Mo_takes_5 rfl 1 rfl ?_
  refine j_isub d_Mo_takes_6 ?_
  refine j_eqi (y := nI (dp - k)) (pk_sub (by omega)) ?_
  refine j_aload_n d_Mo_takes_7 rfl 0 rfl ?_
  refine j_get F_Mo hI.1 11 (by decide) w_954 (Or.inl rfl) rfl d_Mo_takes_8 ?_
  refine j_callV (As := [.int (nI (dp - k)), .int (nI dp)]) (rest := []) (r_move Γ.l hI hR (dp - k) dp (by omega) (by omega)) Y_Mo_move w_1056 w_1058 ws_38 hI.1 rfl rfl rfl (Nat.le_of_ble_eq_true rfl) (by omega) (by omega) (by omega) d_Mo_takes_11 (fun v11 N11 p11 => ?_)
  obtain ⟨rfl, I11, f11⟩ := p11
  show mp_J Γ m_Mo_takes E κ N11 [(0, .ref (R 0)), (1, .int (nI k)), (2, .int (tf bk))] 14 [] 0 0
  refine j_aload_n d_Mo_takes_14 rfl 0 rfl ?_
  refine j_get F_Mo I11.1 11 (by decide) w_954 (Or.inl rfl) rfl d_Mo_takes_15 ?_
  refine j_iload_n d_Mo_takes_18 rfl 1 rfl ?_
  refine j_isub d_Mo_takes_19 ?_
  refine j_eqi (y := nI (dp - k)) (pk_sub (by omega)) ?_
  refine j_istore_n [(3, .int (nI (dp - k))), (0, .ref (R 0)), (1, .int (nI k)), (2, .int (tf bk))] d_Mo_takes_20 rfl (by decide) rfl ?_
  refine j_lv [1, 2, 3, 0] rfl ?_
  exact lp_Mo_takes E M R rows thr dp as_ ops A k bk hR hk hd hκ (dp + 1) N11 (dp - k) (by omega) (by rw [← tk2_0]; exact I11) f11 (by omega) (by omega)
