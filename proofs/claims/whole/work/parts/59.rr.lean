theorem tb_S0 : tb_Mo_START = tb_Sh_START := by decide +kernel
theorem tb_K0 : tb_Mo_K = tb_Sh_ADDENDS := by decide +kernel
def SFr (R : Nat → Nat) (M N : mp_M) : Prop := ∀ a, a ≠ R 4 → a ≠ R 5 → a ≠ R 6 → a ≠ R 7 → N a = M a
theorem SFr.r {R : Nat → Nat} {M N : mp_M} (h : SFr R M N) : RFr R M N := fun a q => h a (q 4 (by omega)) (q 5 (by omega)) (q 6 (by omega)) (q 7 (by omega))
theorem SFr.k {R : Nat → Nat} {M N : mp_M} (h : SFr R M N) (hR : RL R) {i : Nat} (hi : i < 11) (h4 : i < 4 ∨ 7 < i) : N (R i) = M (R i) := h _ (hR.ne hi (by omega) (by omega)) (hR.ne hi (by omega) (by omega)) (hR.ne hi (by omega) (by omega)) (hR.ne hi (by omega) (by omega))
theorem sr_1 {K w t : Nat → Int32} {k : Nat} : sh_rds K w t k 0 = sh_rds K w t (k + 1) 1 := rfl
theorem sr_2 {K w t : Nat → Int32} {k : Nat} : sh_rds K w t k 1 = sh_rds K w t (k + 1) 2 := rfl
theorem sr_3 {K w t : Nat → Int32} {k : Nat} : sh_rds K w t k 2 = sh_rds K w t (k + 1) 3 := rfl
theorem sr_4 {K w t : Nat → Int32} {k : Nat} : sh_rds K w t k 3 + sh_fresh (sh_rds K w t k) (K k + w k) = sh_rds K w t (k + 1) 4 := rfl
theorem sr_5 {K w t : Nat → Int32} {k : Nat} : sh_rds K w t k 4 = sh_rds K w t (k + 1) 5 := rfl
theorem sr_6 {K w t : Nat → Int32} {k : Nat} : sh_rds K w t k 5 = sh_rds K w t (k + 1) 6 := rfl
theorem sr_7 {K w t : Nat → Int32} {k : Nat} : sh_rds K w t k 6 = sh_rds K w t (k + 1) 7 := rfl
theorem pd_bl9 {n : Nat} (h : n ≤ 1000) : 1 ≤ pd_blocks n ∧ pd_blocks n ≤ 16 ∧ n + 9 ≤ 64 * pd_blocks n := by unfold pd_blocks; omega
set_option maxHeartbeats 4000000 in
set_option maxRecDepth 100000 in
theorem lp1_sh {Γ : mp_G} {κ : mp_K} (E : mp_E) (M : mp_M) (R : Nat → Nat) (rows : Nat) (thr : Int32) (dp as_ ops b p n : Nat) (g : Nat → Int32) (f4 f5 f6 : Nat → Int32) (hR : RL R) (hn : n ≤ 1000) (hκd : κ.2.1 = 2) (hx : ∀ (Mx : mp_M) (F : Nat → Int32), (Mx (R 0) = some (mp_o 7 [.ref (R 1), .int (nI rows), .int thr, .ref (R 2), .ref (R 3), .ref (R 4), .ref (R 5), .ref (R 6), .ref (R 7), .ref (R 8), .ref (R 9), .int (nI dp), .int (nI as_), .int (nI ops), .ref (R 10)])) → (Mx (R 4) = some (mp_i E 8 f4)) → (Mx (R 5) = some (mp_i E 64 f5)) → (Mx (R 6) = some (mp_b E 32 f6)) → (Mx (R 7) = some (mp_b E 1200 F)) → (SFr R M Mx) → (∀ q, q < 64 * pd_blocks n → F q = if q < n then g q else nI 0) → mp_J Γ m_Mo_sha E κ Mx [(0, .ref (R 0)), (1, .ref b), (2, .int (nI p)), (3, .int (nI n)), (4, .int (nI (pd_blocks n))), (5, .int (nI (64 * pd_blocks n)))] 54 [] 0 0)  : ∀ (r : Nat) (Mx : mp_M) (F : Nat → Int32) (i : Nat), 64 * pd_blocks n - i < r → (Mx (R 0) = some (mp_o 7 [.ref (R 1), .int (nI rows), .int thr, .ref (R 2), .ref (R 3), .ref (R 4), .ref (R 5), .ref (R 6), .ref (R 7), .ref (R 8), .ref (R 9), .int (nI dp), .int (nI as_), .int (nI ops), .ref (R 10)])) → (Mx (R 4) = some (mp_i E 8 f4)) → (Mx (R 5) = some (mp_i E 64 f5)) → (Mx (R 6) = some (mp_b E 32 f6)) → (Mx (R 7) = some (mp_b E 1200 F)) → (SFr R M Mx) → (∀ q, q < i → F q = if q < n then g q else nI 0) → (n ≤ i ∧ i ≤ 64 * pd_blocks n) → mp_J Γ m_Mo_sha E κ Mx [(0, .ref (R 0)), (1, .ref b), (2, .int (nI p)), (3, .int (nI n)), (4, .int (nI (pd_blocks n))), (5, .int (nI (64 * pd_blocks n))), (6, .int (nI i))] 33 [] 0 0 := by
  have hB := pd_bl9 hn
  intro r
  induction r with
  | zero => intro Mx F i hr; exact absurd hr (Nat.not_lt_zero _)
  | succ r ih =>
    intro Mx F i hr x0 x4 x5 x6 x7 fS hF hi
    refine j_iload d_Mo_sha_33 6 rfl ?_
    refine j_iload d_Mo_sha_35 5 rfl ?_
    refine j_ncmp_ge 54 i (64 * pd_blocks n) rfl rfl (by omega) (by omega) d_Mo_sha_37 (by decide) (fun b37 => ?_) (fun b37 => ?_)
    · skip
      refine j_lv [0, 1, 2, 3, 4, 5] rfl ?_
      exact hx Mx F x0 x4 x5 x6 x7 fS (fun q hq => hF q (by omega))
    · skip
      refine j_aload_n d_Mo_sha_40 rfl 0 rfl ?_
      refine j_get F_Mo x0 8 (by decide) w_951 (Or.inl rfl) rfl d_Mo_sha_41 ?_
      refine j_iload d_Mo_sha_44 6 rfl ?_
      refine j_iconst (v := nI 0) d_Mo_sha_46 (by decide) ?_
      refine j_bast (y := nI 0) x7 i rfl (by omega) (by omega) rfl d_Mo_sha_47 ?_
      generalize eM1 : mp_up Mx (R 7) (mp_b E 1200 (upd F i (nI 0))) = M1
      have hM1__R_0_ : M1 (R 0) = some (mp_o 7 [.ref (R 1), .int (nI rows), .int thr, .ref (R 2), .ref (R 3), .ref (R 4), .ref (R 5), .ref (R 6), .ref (R 7), .ref (R 8), .ref (R 9), .int (nI dp), .int (nI as_), .int (nI ops), .ref (R 10)]) := by rw [← eM1, mp_n (hR.ne (by decide) (by decide) (by decide))]; exact x0
      have hM1__R_4_ : M1 (R 4) = some (mp_i E 8 f4) := by rw [← eM1, mp_n (hR.ne (by decide) (by decide) (by decide))]; exact x4
      have hM1__R_5_ : M1 (R 5) = some (mp_i E 64 f5) := by rw [← eM1, mp_n (hR.ne (by decide) (by decide) (by decide))]; exact x5
      have hM1__R_6_ : M1 (R 6) = some (mp_b E 32 f6) := by rw [← eM1, mp_n (hR.ne (by decide) (by decide) (by decide))]; exact x6
      have hM1__R_7_ : M1 (R 7) = some (mp_b E 1200 (upd F i (nI 0))) := by rw [← eM1]; exact mp_s
      refine j_iinc (v := nI (i + 1)) [(6, .int (nI (i + 1))), (0, .ref (R 0)), (1, .ref b), (2, .int (nI p)), (3, .int (nI n)), (4, .int (nI (pd_blocks n))), (5, .int (nI (64 * pd_blocks n)))] d_Mo_sha_48 6 rfl (nI_add i 1) (by decide) rfl ?_
      refine j_goto (tgt := 33) d_Mo_sha_51 (by decide) ?_
      refine j_lv [1, 2, 3, 4, 5, 6, 0] rfl ?_
      exact ih M1 (upd F i (nI 0)) (i + 1) (by omega) hM1__R_0_ hM1__R_4_ hM1__R_5_ hM1__R_6_ hM1__R_7_ (fun a h4 h5 h6 h7 => by rw [← eM1, mp_n h7]; try exact fS a h4 h5 h6 h7) (lt_s (fun q hq => by rw [pk_un (by omega)]; exact hF q hq) (by rw [pk_us, if_neg (by omega)])) (by omega)

set_option maxHeartbeats 4000000 in
set_option maxRecDepth 100000 in
theorem lp2_sh {Γ : mp_G} {κ : mp_K} (E : mp_E) (M : mp_M) (R : Nat → Nat) (rows : Nat) (thr : Int32) (dp as_ ops b p n : Nat) (g : Nat → Int32) (f4 f5 f6 : Nat → Int32) (hR : RL R) (hn : n ≤ 1000) (hκd : κ.2.1 = 2) (hx : ∀ (Mx : mp_M) (F : Nat → Int32), (Mx (R 0) = some (mp_o 7 [.ref (R 1), .int (nI rows), .int thr, .ref (R 2), .ref (R 3), .ref (R 4), .ref (R 5), .ref (R 6), .ref (R 7), .ref (R 8), .ref (R 9), .int (nI dp), .int (nI as_), .int (nI ops), .ref (R 10)])) → (Mx (R 4) = some (mp_i E 8 f4)) → (Mx (R 5) = some (mp_i E 64 f5)) → (Mx (R 6) = some (mp_b E 32 f6)) → (Mx (R 7) = some (mp_b E 1200 F)) → (SFr R M Mx) → (∀ q, q < 64 * pd_blocks n → F q = pdG true g n 8 q) → mp_J Γ m_Mo_sha E κ Mx [(0, .ref (R 0)), (1, .ref b), (2, .int (nI p)), (3, .int (nI n)), (4, .int (nI (pd_blocks n))), (5, .int (nI (64 * pd_blocks n)))] 104 [] 0 0)  : ∀ (r : Nat) (Mx : mp_M) (F : Nat → Int32) (i : Nat), 8 - i < r → (Mx (R 0) = some (mp_o 7 [.ref (R 1), .int (nI rows), .int thr, .ref (R 2), .ref (R 3), .ref (R 4), .ref (R 5), .ref (R 6), .ref (R 7), .ref (R 8), .ref (R 9), .int (nI dp), .int (nI as_), .int (nI ops), .ref (R 10)])) → (Mx (R 4) = some (mp_i E 8 f4)) → (Mx (R 5) = some (mp_i E 64 f5)) → (Mx (R 6) = some (mp_b E 32 f6)) → (Mx (R 7) = some (mp_b E 1200 F)) → (SFr R M Mx) → (∀ q, q < 64 * pd_blocks n → F q = pdG true g n i q) → (i ≤ 8) → mp_J Γ m_Mo_sha E κ Mx [(0, .ref (R 0)), (1, .ref b), (2, .int (nI p)), (3, .int (nI n)), (4, .int (nI (pd_blocks n))), (5, .int (nI (64 * pd_blocks n))), (6, .int (nI i))] 65 [] 0 0 := by
  have hB := pd_bl9 hn
  intro r
  induction r with
  | zero => intro Mx F i hr; exact absurd hr (Nat.not_lt_zero _)
  | succ r ih =>
    intro Mx F i hr x0 x4 x5 x6 x7 fS hF hi
    refine j_iload d_Mo_sha_65 6 rfl ?_
    refine j_bipush (v := nI 8) d_Mo_sha_67 (by decide) ?_
    refine j_ncmp_ge 104 i 8 rfl rfl (by omega) (by omega) d_Mo_sha_69 (by decide) (fun b69 => ?_) (fun b69 => ?_)
    · skip
      refine j_lv [0, 1, 2, 3, 4, 5] rfl ?_
      exact hx Mx F x0 x4 x5 x6 x7 fS (by rw [← show i = 8 by omega]; exact hF)
    · skip
      refine j_aload_n d_Mo_sha_72 rfl 0 rfl ?_
      refine j_get F_Mo x0 8 (by decide) w_951 (Or.inl rfl) rfl d_Mo_sha_73 ?_
      refine j_iload d_Mo_sha_76 5 rfl ?_
      refine j_iconst (v := nI 1) d_Mo_sha_78 (by decide) ?_
      refine j_isub d_Mo_sha_79 ?_
      refine j_eqi (y := nI ((64 * pd_blocks n) - 1)) (pk_sub (by omega)) ?_
      refine j_iload d_Mo_sha_80 6 rfl ?_
      refine j_isub d_Mo_sha_82 ?_
      refine j_eqi (y := nI (((64 * pd_blocks n) - 1) - i)) (pk_sub (by omega)) ?_
      refine j_ldc2 (v := 8) w_1084 d_Mo_sha_83 ?_
      refine j_iload_n d_Mo_sha_86 rfl 3 rfl ?_
      refine j_i2l d_Mo_sha_87 ?_
      refine j_lmul d_Mo_sha_88 ?_
      refine j_eql (y := lN (8 * n)) (by rw [nI_l (by omega)]; exact lN_mul 8 n) ?_
      refine j_bipush (v := nI 8) d_Mo_sha_89 (by decide) ?_
      refine j_iload d_Mo_sha_91 6 rfl ?_
      refine j_imul d_Mo_sha_93 ?_
      refine j_eqi (y := nI (8 * i)) (pk_mul 8 i) ?_
      refine j_lshr d_Mo_sha_94 ?_
      refine j_l2i d_Mo_sha_95 ?_
      refine j_i2b d_Mo_sha_96 ?_
      refine j_eqi (y := bq (8 * n) i) rfl ?_
      refine j_bast (y := bq (8 * n) i) x7 (((64 * pd_blocks n) - 1) - i) rfl (by omega) (by omega) (pk_vb _) d_Mo_sha_97 ?_
      generalize eM1 : mp_up Mx (R 7) (mp_b E 1200 (upd F (((64 * pd_blocks n) - 1) - i) (bq (8 * n) i))) = M1
      have hM1__R_0_ : M1 (R 0) = some (mp_o 7 [.ref (R 1), .int (nI rows), .int thr, .ref (R 2), .ref (R 3), .ref (R 4), .ref (R 5), .ref (R 6), .ref (R 7), .ref (R 8), .ref (R 9), .int (nI dp), .int (nI as_), .int (nI ops), .ref (R 10)]) := by rw [← eM1, mp_n (hR.ne (by decide) (by decide) (by decide))]; exact x0
      have hM1__R_4_ : M1 (R 4) = some (mp_i E 8 f4) := by rw [← eM1, mp_n (hR.ne (by decide) (by decide) (by decide))]; exact x4
      have hM1__R_5_ : M1 (R 5) = some (mp_i E 64 f5) := by rw [← eM1, mp_n (hR.ne (by decide) (by decide) (by decide))]; exact x5
      have hM1__R_6_ : M1 (R 6) = some (mp_b E 32 f6) := by rw [← eM1, mp_n (hR.ne (by decide) (by decide) (by decide))]; exact x6
      have hM1__R_7_ : M1 (R 7) = some (mp_b E 1200 (upd F (((64 * pd_blocks n) - 1) - i) (bq (8 * n) i))) := by rw [← eM1]; exact mp_s
      refine j_iinc (v := nI (i + 1)) [(6, .int (nI (i + 1))), (0, .ref (R 0)), (1, .ref b), (2, .int (nI p)), (3, .int (nI n)), (4, .int (nI (pd_blocks n))), (5, .int (nI (64 * pd_blocks n)))] d_Mo_sha_98 6 rfl (nI_add i 1) (by decide) rfl ?_
      refine j_goto (tgt := 65) d_Mo_sha_101 (by decide) ?_
      refine j_lv [1, 2, 3, 4, 5, 6, 0] rfl ?_
      exact ih M1 (upd F (((64 * pd_blocks n) - 1) - i) (bq (8 * n) i)) (i + 1) (by omega) hM1__R_0_ hM1__R_4_ hM1__R_5_ hM1__R_6_ hM1__R_7_ (fun a h4 h5 h6 h7 => by rw [← eM1, mp_n h7]; try exact fS a h4 h5 h6 h7) (pdG_s (by omega) hF) (by omega)

set_option maxHeartbeats 4000000 in
set_option maxRecDepth 100000 in
theorem lp3_sh {Γ : mp_G} {κ : mp_K} (E : mp_E) (M : mp_M) (R : Nat → Nat) (rows : Nat) (thr : Int32) (dp as_ ops b p n : Nat) (g : Nat → Int32) (f4 f6 F : Nat → Int32) (q : Nat) (hR : RL R) (hn : n ≤ 1000) (hκd : κ.2.1 = 2) (hF : ∀ q, q < 64 * pd_blocks n → F q = pdG true g n 8 q) (hq : q < pd_blocks n) (hx : ∀ (Mx : mp_M) (W : Nat → Int32), (Mx (R 0) = some (mp_o 7 [.ref (R 1), .int (nI rows), .int thr, .ref (R 2), .ref (R 3), .ref (R 4), .ref (R 5), .ref (R 6), .ref (R 7), .ref (R 8), .ref (R 9), .int (nI dp), .int (nI as_), .int (nI ops), .ref (R 10)])) → (Mx (R 4) = some (mp_i E 8 f4)) → (Mx (R 5) = some (mp_i E 64 W)) → (Mx (R 6) = some (mp_b E 32 f6)) → (Mx (R 7) = some (mp_b E 1200 F)) → (SFr R M Mx) → (∀ e, e < 16 → W e = pd_blk true g n q e) → mp_J Γ m_Mo_sha E κ Mx [(0, .ref (R 0)), (1, .ref b), (2, .int (nI p)), (3, .int (nI n)), (4, .int (nI (pd_blocks n))), (5, .int (nI (64 * pd_blocks n))), (6, .int (nI q))] 168 [] 0 0)  : ∀ (r : Nat) (Mx : mp_M) (W : Nat → Int32) (i : Nat), 16 - i < r → (Mx (R 0) = some (mp_o 7 [.ref (R 1), .int (nI rows), .int thr, .ref (R 2), .ref (R 3), .ref (R 4), .ref (R 5), .ref (R 6), .ref (R 7), .ref (R 8), .ref (R 9), .int (nI dp), .int (nI as_), .int (nI ops), .ref (R 10)])) → (Mx (R 4) = some (mp_i E 8 f4)) → (Mx (R 5) = some (mp_i E 64 W)) → (Mx (R 6) = some (mp_b E 32 f6)) → (Mx (R 7) = some (mp_b E 1200 F)) → (SFr R M Mx) → (∀ e, e < i → W e = pd_blk true g n q e) → (i ≤ 16) → mp_J Γ m_Mo_sha E κ Mx [(0, .ref (R 0)), (1, .ref b), (2, .int (nI p)), (3, .int (nI n)), (4, .int (nI (pd_blocks n))), (5, .int (nI (64 * pd_blocks n))), (6, .int (nI q)), (7, .int (nI i))] 131 [] 0 0 := by
  have hB := pd_bl9 hn
  intro r
  induction r with
  | zero => intro Mx W i hr; exact absurd hr (Nat.not_lt_zero _)
  | succ r ih =>
    intro Mx W i hr x0 x4 x5 x6 x7 fS hW hi
    refine j_iload d_Mo_sha_131 7 rfl ?_
    refine j_bipush (v := nI 16) d_Mo_sha_133 (by decide) ?_
    refine j_ncmp_ge 168 i 16 rfl rfl (by omega) (by omega) d_Mo_sha_135 (by decide) (fun b135 => ?_) (fun b135 => ?_)
    · skip
      refine j_lv [0, 1, 2, 3, 4, 5, 6] rfl ?_
      exact hx Mx W x0 x4 x5 x6 x7 fS (fun e he => hW e (by omega))
    · skip
      refine j_aload_n d_Mo_sha_138 rfl 0 rfl ?_
      refine j_get F_Mo x0 6 (by decide) w_949 (Or.inl rfl) rfl d_Mo_sha_139 ?_
      refine j_iload d_Mo_sha_142 7 rfl ?_
      refine j_aload_n d_Mo_sha_144 rfl 0 rfl ?_
      refine j_get F_Mo x0 8 (by decide) w_951 (Or.inl rfl) rfl d_Mo_sha_145 ?_
      refine j_bipush (v := nI 64) d_Mo_sha_148 (by decide) ?_
      refine j_iload d_Mo_sha_150 6 rfl ?_
      refine j_imul d_Mo_sha_152 ?_
      refine j_eqi (y := nI (64 * q)) (pk_mul 64 q) ?_
      refine j_iconst (v := nI 4) d_Mo_sha_153 (by decide) ?_
      refine j_iload d_Mo_sha_154 7 rfl ?_
      refine j_imul d_Mo_sha_156 ?_
      refine j_eqi (y := nI (4 * i)) (pk_mul 4 i) ?_
      refine j_iadd d_Mo_sha_157 ?_
      refine j_eqi (y := nI ((64 * q) + (4 * i))) (nI_add (64 * q) (4 * i)) ?_
      refine j_callS (As := [.ref (R 7), .int (nI ((64 * q) + (4 * i)))]) (rest := [.int (nI i), .ref (R 5)]) (c_Mo_big Γ.l E Mx (R 7) 1200 (64 * q + 4 * i) F x7 (by omega) (by omega)) Y_Mo_big w_1114 w_1115 rfl rfl (Nat.le_of_ble_eq_true rfl) (by omega) (by omega) (by omega) d_Mo_sha_158 (fun v158 N158 p158 => ?_)
      obtain ⟨rfl, q158⟩ := p158
      obtain rfl := q158.symm
      show mp_J Γ m_Mo_sha E κ Mx [(0, .ref (R 0)), (1, .ref b), (2, .int (nI p)), (3, .int (nI n)), (4, .int (nI (pd_blocks n))), (5, .int (nI (64 * pd_blocks n))), (6, .int (nI q)), (7, .int (nI i))] 161 [.int (bg_at F (64 * q + 4 * i)), .int (nI i), .ref (R 5)] 0 0
      refine j_iast x5 i rfl (by omega) (by omega) d_Mo_sha_161 ?_
      generalize eM1 : mp_up Mx (R 5) (mp_i E 64 (upd W i (bg_at F (64 * q + 4 * i)))) = M1
      have hM1__R_0_ : M1 (R 0) = some (mp_o 7 [.ref (R 1), .int (nI rows), .int thr, .ref (R 2), .ref (R 3), .ref (R 4), .ref (R 5), .ref (R 6), .ref (R 7), .ref (R 8), .ref (R 9), .int (nI dp), .int (nI as_), .int (nI ops), .ref (R 10)]) := by rw [← eM1, mp_n (hR.ne (by decide) (by decide) (by decide))]; exact x0
      have hM1__R_4_ : M1 (R 4) = some (mp_i E 8 f4) := by rw [← eM1, mp_n (hR.ne (by decide) (by decide) (by decide))]; exact x4
      have hM1__R_6_ : M1 (R 6) = some (mp_b E 32 f6) := by rw [← eM1, mp_n (hR.ne (by decide) (by decide) (by decide))]; exact x6
      have hM1__R_7_ : M1 (R 7) = some (mp_b E 1200 F) := by rw [← eM1, mp_n (hR.ne (by decide) (by decide) (by decide))]; exact x7
      have hM1__R_5_ : M1 (R 5) = some (mp_i E 64 (upd W i (bg_at F (64 * q + 4 * i)))) := by rw [← eM1]; exact mp_s
      refine j_iinc (v := nI (i + 1)) [(7, .int (nI (i + 1))), (0, .ref (R 0)), (1, .ref b), (2, .int (nI p)), (3, .int (nI n)), (4, .int (nI (pd_blocks n))), (5, .int (nI (64 * pd_blocks n))), (6, .int (nI q))] d_Mo_sha_162 7 rfl (nI_add i 1) (by decide) rfl ?_
      refine j_goto (tgt := 131) d_Mo_sha_165 (by decide) ?_
      refine j_lv [1, 2, 3, 4, 5, 6, 7, 0] rfl ?_
      exact ih M1 (upd W i (bg_at F (64 * q + 4 * i))) (i + 1) (by omega) hM1__R_0_ hM1__R_4_ hM1__R_5_ hM1__R_6_ hM1__R_7_ (fun a h4 h5 h6 h7 => by rw [← eM1, mp_n h5]; try exact fS a h4 h5 h6 h7) (lt_s (fun e he => by rw [pk_un (by omega)]; exact hW e he) (by rw [pk_us]; exact PD_big hn hF hq (by omega))) (by omega)

set_option maxHeartbeats 4000000 in
set_option maxRecDepth 100000 in
theorem lp4_sh {Γ : mp_G} {κ : mp_K} (E : mp_E) (M : mp_M) (R : Nat → Nat) (rows : Nat) (thr : Int32) (dp as_ ops b p n : Nat) (g : Nat → Int32) (f4 f6 F W : Nat → Int32) (q : Nat) (hR : RL R) (hn : n ≤ 1000) (hκd : κ.2.1 = 2) (hq : q < pd_blocks n) (hx : ∀ (Mx : mp_M), (Mx (R 0) = some (mp_o 7 [.ref (R 1), .int (nI rows), .int thr, .ref (R 2), .ref (R 3), .ref (R 4), .ref (R 5), .ref (R 6), .ref (R 7), .ref (R 8), .ref (R 9), .int (nI dp), .int (nI as_), .int (nI ops), .ref (R 10)])) → (Mx (R 4) = some (mp_i E 8 f4)) → (Mx (R 5) = some (mp_i E 64 (sh_ext W 48))) → (Mx (R 6) = some (mp_b E 32 f6)) → (Mx (R 7) = some (mp_b E 1200 F)) → (SFr R M Mx) → mp_J Γ m_Mo_sha E κ Mx [(0, .ref (R 0)), (1, .ref b), (2, .int (nI p)), (3, .int (nI n)), (4, .int (nI (pd_blocks n))), (5, .int (nI (64 * pd_blocks n))), (6, .int (nI q))] 279 [] 0 0)  : ∀ (r : Nat) (Mx : mp_M) (i : Nat), 48 - i < r → (Mx (R 0) = some (mp_o 7 [.ref (R 1), .int (nI rows), .int thr, .ref (R 2), .ref (R 3), .ref (R 4), .ref (R 5), .ref (R 6), .ref (R 7), .ref (R 8), .ref (R 9), .int (nI dp), .int (nI as_), .int (nI ops), .ref (R 10)])) → (Mx (R 4) = some (mp_i E 8 f4)) → (Mx (R 5) = some (mp_i E 64 (sh_ext W i))) → (Mx (R 6) = some (mp_b E 32 f6)) → (Mx (R 7) = some (mp_b E 1200 F)) → (SFr R M Mx) → (i ≤ 48) → mp_J Γ m_Mo_sha E κ Mx [(0, .ref (R 0)), (1, .ref b), (2, .int (nI p)), (3, .int (nI n)), (4, .int (nI (pd_blocks n))), (5, .int (nI (64 * pd_blocks n))), (6, .int (nI q)), (7, .int (nI (16 + i)))] 172 [] 0 0 := by
  have hB := pd_bl9 hn
  intro r
  induction r with
  | zero => intro Mx i hr; exact absurd hr (Nat.not_lt_zero _)
  | succ r ih =>
    intro Mx i hr x0 x4 x5 x6 x7 fS hi
    refine j_iload d_Mo_sha_172 7 rfl ?_
    refine j_bipush (v := nI 64) d_Mo_sha_174 (by decide) ?_
    refine j_ncmp_ge 279 (16 + i) 64 rfl rfl (by omega) (by omega) d_Mo_sha_176 (by decide) (fun b176 => ?_) (fun b176 => ?_)
    · skip
      refine j_lv [0, 1, 2, 3, 4, 5, 6] rfl ?_
      exact hx Mx x0 x4 (by rw [← show i = 48 by omega]; exact x5) x6 x7 fS
    · skip
      refine j_aload_n d_Mo_sha_179 rfl 0 rfl ?_
      refine j_get F_Mo x0 6 (by decide) w_949 (Or.inl rfl) rfl d_Mo_sha_180 ?_
      refine j_iload d_Mo_sha_183 7 rfl ?_
      refine j_bipush (v := nI 15) d_Mo_sha_185 (by decide) ?_
      refine j_isub d_Mo_sha_187 ?_
      refine j_eqi (y := nI ((16 + i) - 15)) (pk_sub (by omega)) ?_
      refine j_iald x5 ((16 + i) - 15) rfl (by omega) (by omega) d_Mo_sha_188 ?_
      refine j_istore [(8, .int ((sh_ext W i) ((16 + i) - 15))), (0, .ref (R 0)), (1, .ref b), (2, .int (nI p)), (3, .int (nI n)), (4, .int (nI (pd_blocks n))), (5, .int (nI (64 * pd_blocks n))), (6, .int (nI q)), (7, .int (nI (16 + i)))] d_Mo_sha_189 (by decide) rfl ?_
      refine j_aload_n d_Mo_sha_191 rfl 1 rfl ?_
      refine j_get F_Mo x0 6 (by decide) w_949 (Or.inl rfl) rfl d_Mo_sha_192 ?_
      refine j_iload d_Mo_sha_195 8 rfl ?_
      refine j_iconst (v := nI 2) d_Mo_sha_197 (by decide) ?_
      refine j_isub d_Mo_sha_198 ?_
      refine j_eqi (y := nI ((16 + i) - 2)) (pk_sub (by omega)) ?_
      refine j_iald x5 ((16 + i) - 2) rfl (by omega) (by omega) d_Mo_sha_199 ?_
      refine j_istore [(9, .int ((sh_ext W i) ((16 + i) - 2))), (8, .int ((sh_ext W i) ((16 + i) - 15))), (0, .ref (R 0)), (1, .ref b), (2, .int (nI p)), (3, .int (nI n)), (4, .int (nI (pd_blocks n))), (5, .int (nI (64 * pd_blocks n))), (6, .int (nI q)), (7, .int (nI (16 + i)))] d_Mo_sha_200 (by decide) rfl ?_
      refine j_aload_n d_Mo_sha_202 rfl 2 rfl ?_
      refine j_get F_Mo x0 6 (by decide) w_949 (Or.inl rfl) rfl d_Mo_sha_203 ?_
      refine j_iload d_Mo_sha_206 9 rfl ?_
      refine j_aload_n d_Mo_sha_208 rfl 2 rfl ?_
      refine j_get F_Mo x0 6 (by decide) w_949 (Or.inl rfl) rfl d_Mo_sha_209 ?_
      refine j_iload d_Mo_sha_212 9 rfl ?_
      refine j_bipush (v := nI 16) d_Mo_sha_214 (by decide) ?_
      refine j_isub d_Mo_sha_216 ?_
      refine j_eqi (y := nI ((16 + i) - 16)) (pk_sub (by omega)) ?_
      refine j_iald x5 ((16 + i) - 16) rfl (by omega) (by omega) d_Mo_sha_217 ?_
      refine j_iload d_Mo_sha_218 1 rfl ?_
      refine j_bipush (v := nI 7) d_Mo_sha_220 (by decide) ?_
      refine j_callS (As := [.int ((sh_ext W i) ((16 + i) - 15)), .int (nI 7)]) (rest := [.int ((sh_ext W i) ((16 + i) - 16)), .int (nI (16 + i)), .ref (R 5)]) (c_Mo_turn Γ.l E Mx ((sh_ext W i) ((16 + i) - 15)) 7 (by decide)) Y_Mo_turn w_1117 w_1118 rfl rfl (Nat.le_of_ble_eq_true rfl) (by omega) (by omega) (by omega) d_Mo_sha_222 (fun v222 N222 p222 => ?_)
      obtain ⟨rfl, q222⟩ := p222
      obtain rfl := q222.symm
      show mp_J Γ m_Mo_sha E κ Mx [(9, .int ((sh_ext W i) ((16 + i) - 2))), (8, .int ((sh_ext W i) ((16 + i) - 15))), (0, .ref (R 0)), (1, .ref b), (2, .int (nI p)), (3, .int (nI n)), (4, .int (nI (pd_blocks n))), (5, .int (nI (64 * pd_blocks n))), (6, .int (nI q)), (7, .int (nI (16 + i)))] 225 [.int (sh_rr ((sh_ext W i) ((16 + i) - 15)) (nI 7)), .int ((sh_ext W i) ((16 + i) - 16)), .int (nI (16 + i)), .ref (R 5)] 0 0
      refine j_iload d_Mo_sha_225 1 rfl ?_
      refine j_bipush (v := nI 18) d_Mo_sha_227 (by decide) ?_
      refine j_callS (As := [.int ((sh_ext W i) ((16 + i) - 15)), .int (nI 18)]) (rest := [.int (sh_rr ((sh_ext W i) ((16 + i) - 15)) (nI 7)), .int ((sh_ext W i) ((16 + i) - 16)), .int (nI (16 + i)), .ref (R 5)]) (c_Mo_turn Γ.l E Mx ((sh_ext W i) ((16 + i) - 15)) 18 (by decide)) Y_Mo_turn w_1117 w_1118 rfl rfl (Nat.le_of_ble_eq_true rfl) (by omega) (by omega) (by omega) d_Mo_sha_229 (fun v229 N229 p229 => ?_)
      obtain ⟨rfl, q229⟩ := p229
      obtain rfl := q229.symm
      show mp_J Γ m_Mo_sha E κ Mx [(9, .int ((sh_ext W i) ((16 + i) - 2))), (8, .int ((sh_ext W i) ((16 + i) - 15))), (0, .ref (R 0)), (1, .ref b), (2, .int (nI p)), (3, .int (nI n)), (4, .int (nI (pd_blocks n))), (5, .int (nI (64 * pd_blocks n))), (6, .int (nI q)), (7, .int (nI (16 + i)))] 232 [.int (sh_rr ((sh_ext W i) ((16 + i) - 15)) (nI 18)), .int (sh_rr ((sh_ext W i) ((16 + i) - 15)) (nI 7)), .int ((sh_ext W i) ((16 + i) - 16)), .int (nI (16 + i)), .ref (R 5)] 0 0
      refine j_ixor d_Mo_sha_232 ?_
      refine j_iload d_Mo_sha_233 1 rfl ?_
      refine j_iconst (v := nI 3) d_Mo_sha_235 (by decide) ?_
      refine j_iushr d_Mo_sha_236 ?_
      refine j_ixor d_Mo_sha_237 ?_
      refine j_eqi (y := sh_s0 (sh_ext W i (16 + i - 15))) rfl ?_
      refine j_iadd d_Mo_sha_238 ?_
      refine j_aload_n d_Mo_sha_239 rfl 2 rfl ?_
      refine j_get F_Mo x0 6 (by decide) w_949 (Or.inl rfl) rfl d_Mo_sha_240 ?_
      refine j_iload d_Mo_sha_243 9 rfl ?_
      refine j_bipush (v := nI 7) d_Mo_sha_245 (by decide) ?_
      refine j_isub d_Mo_sha_247 ?_
      refine j_eqi (y := nI ((16 + i) - 7)) (pk_sub (by omega)) ?_
      refine j_iald x5 ((16 + i) - 7) rfl (by omega) (by omega) d_Mo_sha_248 ?_
      refine j_iadd d_Mo_sha_249 ?_
      refine j_iload d_Mo_sha_250 0 rfl ?_
      refine j_bipush (v := nI 17) d_Mo_sha_252 (by decide) ?_
      refine j_callS (As := [.int ((sh_ext W i) ((16 + i) - 2)), .int (nI 17)]) (rest := [.int ((((sh_ext W i) ((16 + i) - 16)) + (sh_s0 (sh_ext W i (16 + i - 15)))) + ((sh_ext W i) ((16 + i) - 7))), .int (nI (16 + i)), .ref (R 5)]) (c_Mo_turn Γ.l E Mx ((sh_ext W i) ((16 + i) - 2)) 17 (by decide)) Y_Mo_turn w_1117 w_1118 rfl rfl (Nat.le_of_ble_eq_true rfl) (by omega) (by omega) (by omega) d_Mo_sha_254 (fun v254 N254 p254 => ?_)
      obtain ⟨rfl, q254⟩ := p254
      obtain rfl := q254.symm
      show mp_J Γ m_Mo_sha E κ Mx [(9, .int ((sh_ext W i) ((16 + i) - 2))), (8, .int ((sh_ext W i) ((16 + i) - 15))), (0, .ref (R 0)), (1, .ref b), (2, .int (nI p)), (3, .int (nI n)), (4, .int (nI (pd_blocks n))), (5, .int (nI (64 * pd_blocks n))), (6, .int (nI q)), (7, .int (nI (16 + i)))] 257 [.int (sh_rr ((sh_ext W i) ((16 + i) - 2)) (nI 17)), .int ((((sh_ext W i) ((16 + i) - 16)) + (sh_s0 (sh_ext W i (16 + i - 15)))) + ((sh_ext W i) ((16 + i) - 7))), .int (nI (16 + i)), .ref (R 5)] 0 0
      refine j_iload d_Mo_sha_257 0 rfl ?_
      refine j_bipush (v := nI 19) d_Mo_sha_259 (by decide) ?_
      refine j_callS (As := [.int ((sh_ext W i) ((16 + i) - 2)), .int (nI 19)]) (rest := [.int (sh_rr ((sh_ext W i) ((16 + i) - 2)) (nI 17)), .int ((((sh_ext W i) ((16 + i) - 16)) + (sh_s0 (sh_ext W i (16 + i - 15)))) + ((sh_ext W i) ((16 + i) - 7))), .int (nI (16 + i)), .ref (R 5)]) (c_Mo_turn Γ.l E Mx ((sh_ext W i) ((16 + i) - 2)) 19 (by decide)) Y_Mo_turn w_1117 w_1118 rfl rfl (Nat.le_of_ble_eq_true rfl) (by omega) (by omega) (by omega) d_Mo_sha_261 (fun v261 N261 p261 => ?_)
      obtain ⟨rfl, q261⟩ := p261
      obtain rfl := q261.symm
      show mp_J Γ m_Mo_sha E κ Mx [(9, .int ((sh_ext W i) ((16 + i) - 2))), (8, .int ((sh_ext W i) ((16 + i) - 15))), (0, .ref (R 0)), (1, .ref b), (2, .int (nI p)), (3, .int (nI n)), (4, .int (nI (pd_blocks n))), (5, .int (nI (64 * pd_blocks n))), (6, .int (nI q)), (7, .int (nI (16 + i)))] 264 [.int (sh_rr ((sh_ext W i) ((16 + i) - 2)) (nI 19)), .int (sh_rr ((sh_ext W i) ((16 + i) - 2)) (nI 17)), .int ((((sh_ext W i) ((16 + i) - 16)) + (sh_s0 (sh_ext W i (16 + i - 15)))) + ((sh_ext W i) ((16 + i) - 7))), .int (nI (16 + i)), .ref (R 5)] 0 0
      refine j_ixor d_Mo_sha_264 ?_
      refine j_iload d_Mo_sha_265 0 rfl ?_
      refine j_bipush (v := nI 10) d_Mo_sha_267 (by decide) ?_
      refine j_iushr d_Mo_sha_269 ?_
      refine j_ixor d_Mo_sha_270 ?_
      refine j_eqi (y := sh_s1 (sh_ext W i (16 + i - 2))) rfl ?_
      refine j_iadd d_Mo_sha_271 ?_
      refine j_eqi (y := sh_next (sh_ext W i) (16 + i)) rfl ?_
      refine j_iast x5 (16 + i) rfl (by omega) (by omega) d_Mo_sha_272 ?_
      generalize eM1 : mp_up Mx (R 5) (mp_i E 64 (upd (sh_ext W i) (16 + i) (sh_next (sh_ext W i) (16 + i)))) = M1
      have hM1__R_0_ : M1 (R 0) = some (mp_o 7 [.ref (R 1), .int (nI rows), .int thr, .ref (R 2), .ref (R 3), .ref (R 4), .ref (R 5), .ref (R 6), .ref (R 7), .ref (R 8), .ref (R 9), .int (nI dp), .int (nI as_), .int (nI ops), .ref (R 10)]) := by rw [← eM1, mp_n (hR.ne (by decide) (by decide) (by decide))]; exact x0
      have hM1__R_4_ : M1 (R 4) = some (mp_i E 8 f4) := by rw [← eM1, mp_n (hR.ne (by decide) (by decide) (by decide))]; exact x4
      have hM1__R_6_ : M1 (R 6) = some (mp_b E 32 f6) := by rw [← eM1, mp_n (hR.ne (by decide) (by decide) (by decide))]; exact x6
      have hM1__R_7_ : M1 (R 7) = some (mp_b E 1200 F) := by rw [← eM1, mp_n (hR.ne (by decide) (by decide) (by decide))]; exact x7
      have hM1__R_5_ : M1 (R 5) = some (mp_i E 64 (upd (sh_ext W i) (16 + i) (sh_next (sh_ext W i) (16 + i)))) := by rw [← eM1]; exact mp_s
      refine j_iinc (v := nI ((16 + i) + 1)) [(7, .int (nI ((16 + i) + 1))), (9, .int ((sh_ext W i) ((16 + i) - 2))), (8, .int ((sh_ext W i) ((16 + i) - 15))), (0, .ref (R 0)), (1, .ref b), (2, .int (nI p)), (3, .int (nI n)), (4, .int (nI (pd_blocks n))), (5, .int (nI (64 * pd_blocks n))), (6, .int (nI q))] d_Mo_sha_273 9 rfl (nI_add (16 + i) 1) (by decide) rfl ?_
      refine j_goto (tgt := 172) d_Mo_sha_276 (by decide) ?_
      refine j_lv [3, 4, 5, 6, 7, 8, 9, 0] rfl ?_
      exact ih M1 (i + 1) (by omega) hM1__R_0_ hM1__R_4_ hM1__R_5_ hM1__R_6_ hM1__R_7_ (fun a h4 h5 h6 h7 => by rw [← eM1, mp_n h5]; try exact fS a h4 h5 h6 h7) (by omega)

set_option maxHeartbeats 4000000 in
set_option maxRecDepth 100000 in
theorem lp6_sh {Γ : mp_G} {κ : mp_K} (E : mp_E) (M : mp_M) (R : Nat → Nat) (rows : Nat) (thr : Int32) (dp as_ ops b p n : Nat) (g : Nat → Int32) (f4 V : Nat → Int32) (q : Nat) (hR : RL R) (hn : n ≤ 1000) (hκd : κ.2.1 = 2) (hM0 : M (R 0) = some (mp_o 7 [.ref (R 1), .int (nI rows), .int thr, .ref (R 2), .ref (R 3), .ref (R 4), .ref (R 5), .ref (R 6), .ref (R 7), .ref (R 8), .ref (R 9), .int (nI dp), .int (nI as_), .int (nI ops), .ref (R 10)])) (hM5 : M (R 5) = some (mp_i E 64 V)) (hx : mp_J Γ m_Mo_sha E κ M [(0, .ref (R 0)), (1, .ref b), (2, .int (nI p)), (3, .int (nI n)), (4, .int (nI (pd_blocks n))), (5, .int (nI (64 * pd_blocks n))), (6, .int (nI q)), (7, .int (sh_rds (fun i => tb_Sh_ADDENDS.getD i 0) V f4 64 0)), (8, .int (sh_rds (fun i => tb_Sh_ADDENDS.getD i 0) V f4 64 1)), (9, .int (sh_rds (fun i => tb_Sh_ADDENDS.getD i 0) V f4 64 2)), (10, .int (sh_rds (fun i => tb_Sh_ADDENDS.getD i 0) V f4 64 3)), (11, .int (sh_rds (fun i => tb_Sh_ADDENDS.getD i 0) V f4 64 4)), (12, .int (sh_rds (fun i => tb_Sh_ADDENDS.getD i 0) V f4 64 5)), (13, .int (sh_rds (fun i => tb_Sh_ADDENDS.getD i 0) V f4 64 6)), (14, .int (sh_rds (fun i => tb_Sh_ADDENDS.getD i 0) V f4 64 7))] 498 [] 0 0)  : ∀ (r : Nat) (k : Nat), 64 - k < r → (k ≤ 64) → mp_J Γ m_Mo_sha E κ M [(0, .ref (R 0)), (1, .ref b), (2, .int (nI p)), (3, .int (nI n)), (4, .int (nI (pd_blocks n))), (5, .int (nI (64 * pd_blocks n))), (6, .int (nI q)), (7, .int (sh_rds (fun i => tb_Sh_ADDENDS.getD i 0) V f4 k 0)), (8, .int (sh_rds (fun i => tb_Sh_ADDENDS.getD i 0) V f4 k 1)), (9, .int (sh_rds (fun i => tb_Sh_ADDENDS.getD i 0) V f4 k 2)), (10, .int (sh_rds (fun i => tb_Sh_ADDENDS.getD i 0) V f4 k 3)), (11, .int (sh_rds (fun i => tb_Sh_ADDENDS.getD i 0) V f4 k 4)), (12, .int (sh_rds (fun i => tb_Sh_ADDENDS.getD i 0) V f4 k 5)), (13, .int (sh_rds (fun i => tb_Sh_ADDENDS.getD i 0) V f4 k 6)), (14, .int (sh_rds (fun i => tb_Sh_ADDENDS.getD i 0) V f4 k 7)), (15, .int (nI k))] 348 [] 0 0 := by
  intro r
  induction r with
  | zero => intro k hr; exact absurd hr (Nat.not_lt_zero _)
  | succ r ih =>
    intro k hr hk
    refine j_iload d_Mo_sha_348 15 rfl ?_
    refine j_bipush (v := nI 64) d_Mo_sha_350 (by decide) ?_
    refine j_ncmp_ge 498 k 64 rfl rfl (by omega) (by omega) d_Mo_sha_352 (by decide) (fun b352 => ?_) (fun b352 => ?_)
    · skip
      refine j_lv [0, 1, 2, 3, 4, 5, 6, 7, 8, 9, 10, 11, 12, 13, 14] rfl ?_
      (rw [show k = 64 by omega]; exact hx)
    · skip
      refine j_iload d_Mo_sha_355 14 rfl ?_
      refine j_iload d_Mo_sha_357 11 rfl ?_
      refine j_bipush (v := nI 6) d_Mo_sha_359 (by decide) ?_
      refine j_callS (As := [.int (sh_rds (fun i => tb_Sh_ADDENDS.getD i 0) V f4 k 4), .int (nI 6)]) (rest := [.int (sh_rds (fun i => tb_Sh_ADDENDS.getD i 0) V f4 k 7)]) (c_Mo_turn Γ.l E M (sh_rds (fun i => tb_Sh_ADDENDS.getD i 0) V f4 k 4) 6 (by decide)) Y_Mo_turn w_1117 w_1118 rfl rfl (Nat.le_of_ble_eq_true rfl) (by omega) (by omega) (by omega) d_Mo_sha_361 (fun v361 N361 p361 => ?_)
      obtain ⟨rfl, q361⟩ := p361
      obtain rfl := q361.symm
      show mp_J Γ m_Mo_sha E κ M [(0, .ref (R 0)), (1, .ref b), (2, .int (nI p)), (3, .int (nI n)), (4, .int (nI (pd_blocks n))), (5, .int (nI (64 * pd_blocks n))), (6, .int (nI q)), (7, .int (sh_rds (fun i => tb_Sh_ADDENDS.getD i 0) V f4 k 0)), (8, .int (sh_rds (fun i => tb_Sh_ADDENDS.getD i 0) V f4 k 1)), (9, .int (sh_rds (fun i => tb_Sh_ADDENDS.getD i 0) V f4 k 2)), (10, .int (sh_rds (fun i => tb_Sh_ADDENDS.getD i 0) V f4 k 3)), (11, .int (sh_rds (fun i => tb_Sh_ADDENDS.getD i 0) V f4 k 4)), (12, .int (sh_rds (fun i => tb_Sh_ADDENDS.getD i 0) V f4 k 5)), (13, .int (sh_rds (fun i => tb_Sh_ADDENDS.getD i 0) V f4 k 6)), (14, .int (sh_rds (fun i => tb_Sh_ADDENDS.getD i 0) V f4 k 7)), (15, .int (nI k))] 364 [.int (sh_rr (sh_rds (fun i => tb_Sh_ADDENDS.getD i 0) V f4 k 4) (nI 6)), .int (sh_rds (fun i => tb_Sh_ADDENDS.getD i 0) V f4 k 7)] 0 0
      refine j_iload d_Mo_sha_364 11 rfl ?_
      refine j_bipush (v := nI 11) d_Mo_sha_366 (by decide) ?_
      refine j_callS (As := [.int (sh_rds (fun i => tb_Sh_ADDENDS.getD i 0) V f4 k 4), .int (nI 11)]) (rest := [.int (sh_rr (sh_rds (fun i => tb_Sh_ADDENDS.getD i 0) V f4 k 4) (nI 6)), .int (sh_rds (fun i => tb_Sh_ADDENDS.getD i 0) V f4 k 7)]) (c_Mo_turn Γ.l E M (sh_rds (fun i => tb_Sh_ADDENDS.getD i 0) V f4 k 4) 11 (by decide)) Y_Mo_turn w_1117 w_1118 rfl rfl (Nat.le_of_ble_eq_true rfl) (by omega) (by omega) (by omega) d_Mo_sha_368 (fun v368 N368 p368 => ?_)
      obtain ⟨rfl, q368⟩ := p368
      obtain rfl := q368.symm
      show mp_J Γ m_Mo_sha E κ M [(0, .ref (R 0)), (1, .ref b), (2, .int (nI p)), (3, .int (nI n)), (4, .int (nI (pd_blocks n))), (5, .int (nI (64 * pd_blocks n))), (6, .int (nI q)), (7, .int (sh_rds (fun i => tb_Sh_ADDENDS.getD i 0) V f4 k 0)), (8, .int (sh_rds (fun i => tb_Sh_ADDENDS.getD i 0) V f4 k 1)), (9, .int (sh_rds (fun i => tb_Sh_ADDENDS.getD i 0) V f4 k 2)), (10, .int (sh_rds (fun i => tb_Sh_ADDENDS.getD i 0) V f4 k 3)), (11, .int (sh_rds (fun i => tb_Sh_ADDENDS.getD i 0) V f4 k 4)), (12, .int (sh_rds (fun i => tb_Sh_ADDENDS.getD i 0) V f4 k 5)), (13, .int (sh_rds (fun i => tb_Sh_ADDENDS.getD i 0) V f4 k 6)), (14, .int (sh_rds (fun i => tb_Sh_ADDENDS.getD i 0) V f4 k 7)), (15, .int (nI k))] 371 [.int (sh_rr (sh_rds (fun i => tb_Sh_ADDENDS.getD i 0) V f4 k 4) (nI 11)), .int (sh_rr (sh_rds (fun i => tb_Sh_ADDENDS.getD i 0) V f4 k 4) (nI 6)), .int (sh_rds (fun i => tb_Sh_ADDENDS.getD i 0) V f4 k 7)] 0 0
      refine j_ixor d_Mo_sha_371 ?_
      refine j_iload d_Mo_sha_372 11 rfl ?_
      refine j_bipush (v := nI 25) d_Mo_sha_374 (by decide) ?_
      refine j_callS (As := [.int (sh_rds (fun i => tb_Sh_ADDENDS.getD i 0) V f4 k 4), .int (nI 25)]) (rest := [.int ((sh_rr (sh_rds (fun i => tb_Sh_ADDENDS.getD i 0) V f4 k 4) (nI 6)) ^^^ (sh_rr (sh_rds (fun i => tb_Sh_ADDENDS.getD i 0) V f4 k 4) (nI 11))), .int (sh_rds (fun i => tb_Sh_ADDENDS.getD i 0) V f4 k 7)]) (c_Mo_turn Γ.l E M (sh_rds (fun i => tb_Sh_ADDENDS.getD i 0) V f4 k 4) 25 (by decide)) Y_Mo_turn w_1117 w_1118 rfl rfl (Nat.le_of_ble_eq_true rfl) (by omega) (by omega) (by omega) d_Mo_sha_376 (fun v376 N376 p376 => ?_)
      obtain ⟨rfl, q376⟩ := p376
      obtain rfl := q376.symm
      show mp_J Γ m_Mo_sha E κ M [(0, .ref (R 0)), (1, .ref b), (2, .int (nI p)), (3, .int (nI n)), (4, .int (nI (pd_blocks n))), (5, .int (nI (64 * pd_blocks n))), (6, .int (nI q)), (7, .int (sh_rds (fun i => tb_Sh_ADDENDS.getD i 0) V f4 k 0)), (8, .int (sh_rds (fun i => tb_Sh_ADDENDS.getD i 0) V f4 k 1)), (9, .int (sh_rds (fun i => tb_Sh_ADDENDS.getD i 0) V f4 k 2)), (10, .int (sh_rds (fun i => tb_Sh_ADDENDS.getD i 0) V f4 k 3)), (11, .int (sh_rds (fun i => tb_Sh_ADDENDS.getD i 0) V f4 k 4)), (12, .int (sh_rds (fun i => tb_Sh_ADDENDS.getD i 0) V f4 k 5)), (13, .int (sh_rds (fun i => tb_Sh_ADDENDS.getD i 0) V f4 k 6)), (14, .int (sh_rds (fun i => tb_Sh_ADDENDS.getD i 0) V f4 k 7)), (15, .int (nI k))] 379 [.int (sh_rr (sh_rds (fun i => tb_Sh_ADDENDS.getD i 0) V f4 k 4) (nI 25)), .int ((sh_rr (sh_rds (fun i => tb_Sh_ADDENDS.getD i 0) V f4 k 4) (nI 6)) ^^^ (sh_rr (sh_rds (fun i => tb_Sh_ADDENDS.getD i 0) V f4 k 4) (nI 11))), .int (sh_rds (fun i => tb_Sh_ADDENDS.getD i 0) V f4 k 7)] 0 0
      refine j_ixor d_Mo_sha_379 ?_
      refine j_eqi (y := sh_v (sh_rds (fun i => tb_Sh_ADDENDS.getD i 0) V f4 k 4)) rfl ?_
      refine j_iadd d_Mo_sha_380 ?_
      refine j_iload d_Mo_sha_381 11 rfl ?_
      refine j_iload d_Mo_sha_383 12 rfl ?_
      refine j_iand d_Mo_sha_385 ?_
      refine j_iload d_Mo_sha_386 11 rfl ?_
      refine j_iconst (v := (-1)) d_Mo_sha_388 (by decide) ?_
      refine j_ixor d_Mo_sha_389 ?_
      refine j_iload d_Mo_sha_390 13 rfl ?_
      refine j_iand d_Mo_sha_392 ?_
      refine j_ixor d_Mo_sha_393 ?_
      refine j_eqi (y := sh_ch (sh_rds (fun i => tb_Sh_ADDENDS.getD i 0) V f4 k 4) (sh_rds (fun i => tb_Sh_ADDENDS.getD i 0) V f4 k 5) (sh_rds (fun i => tb_Sh_ADDENDS.getD i 0) V f4 k 6)) rfl ?_
      refine j_iadd d_Mo_sha_394 ?_
      refine j_gets 9 rfl w_1120 rfl d_Mo_sha_395 ?_
      refine j_iload d_Mo_sha_398 15 rfl ?_
      refine j_tald 9 rfl k rfl (by show _ < 64; omega) (by decide) d_Mo_sha_400 ?_
      refine j_eqi (y := tb_Sh_ADDENDS.getD k 0) (by rw [tb_K0]) ?_
      refine j_iadd d_Mo_sha_401 ?_
      refine j_aload_n d_Mo_sha_402 rfl 0 rfl ?_
      refine j_get F_Mo hM0 6 (by decide) w_949 (Or.inl rfl) rfl d_Mo_sha_403 ?_
      refine j_iload d_Mo_sha_406 15 rfl ?_
      refine j_iald hM5 k rfl (by omega) (by omega) d_Mo_sha_408 ?_
      refine j_iadd d_Mo_sha_409 ?_
      refine j_eqi (y := sh_fresh (sh_rds (fun i => tb_Sh_ADDENDS.getD i 0) V f4 k) (tb_Sh_ADDENDS.getD k 0 + V k)) sh_fr' ?_
      refine j_istore [(16, .int (sh_fresh (sh_rds (fun i => tb_Sh_ADDENDS.getD i 0) V f4 k) (tb_Sh_ADDENDS.getD k 0 + V k))), (0, .ref (R 0)), (1, .ref b), (2, .int (nI p)), (3, .int (nI n)), (4, .int (nI (pd_blocks n))), (5, .int (nI (64 * pd_blocks n))), (6, .int (nI q)), (7, .int (sh_rds (fun i => tb_Sh_ADDENDS.getD i 0) V f4 k 0)), (8, .int (sh_rds (fun i => tb_Sh_ADDENDS.getD i 0) V f4 k 1)), (9, .int (sh_rds (fun i => tb_Sh_ADDENDS.getD i 0) V f4 k 2)), (10, .int (sh_rds (fun i => tb_Sh_ADDENDS.getD i 0) V f4 k 3)), (11, .int (sh_rds (fun i => tb_Sh_ADDENDS.getD i 0) V f4 k 4)), (12, .int (sh_rds (fun i => tb_Sh_ADDENDS.getD i 0) V f4 k 5)), (13, .int (sh_rds (fun i => tb_Sh_ADDENDS.getD i 0) V f4 k 6)), (14, .int (sh_rds (fun i => tb_Sh_ADDENDS.getD i 0) V f4 k 7)), (15, .int (nI k))] d_Mo_sha_410 (by decide) rfl ?_
      refine j_iload d_Mo_sha_412 8 rfl ?_
      refine j_iconst (v := nI 2) d_Mo_sha_414 (by decide) ?_
      refine j_callS (As := [.int (sh_rds (fun i => tb_Sh_ADDENDS.getD i 0) V f4 k 0), .int (nI 2)]) (rest := []) (c_Mo_turn Γ.l E M (sh_rds (fun i => tb_Sh_ADDENDS.getD i 0) V f4 k 0) 2 (by decide)) Y_Mo_turn w_1117 w_1118 rfl rfl (Nat.le_of_ble_eq_true rfl) (by omega) (by omega) (by omega) d_Mo_sha_415 (fun v415 N415 p415 => ?_)
      obtain ⟨rfl, q415⟩ := p415
      obtain rfl := q415.symm
      show mp_J Γ m_Mo_sha E κ M [(16, .int (sh_fresh (sh_rds (fun i => tb_Sh_ADDENDS.getD i 0) V f4 k) (tb_Sh_ADDENDS.getD k 0 + V k))), (0, .ref (R 0)), (1, .ref b), (2, .int (nI p)), (3, .int (nI n)), (4, .int (nI (pd_blocks n))), (5, .int (nI (64 * pd_blocks n))), (6, .int (nI q)), (7, .int (sh_rds (fun i => tb_Sh_ADDENDS.getD i 0) V f4 k 0)), (8, .int (sh_rds (fun i => tb_Sh_ADDENDS.getD i 0) V f4 k 1)), (9, .int (sh_rds (fun i => tb_Sh_ADDENDS.getD i 0) V f4 k 2)), (10, .int (sh_rds (fun i => tb_Sh_ADDENDS.getD i 0) V f4 k 3)), (11, .int (sh_rds (fun i => tb_Sh_ADDENDS.getD i 0) V f4 k 4)), (12, .int (sh_rds (fun i => tb_Sh_ADDENDS.getD i 0) V f4 k 5)), (13, .int (sh_rds (fun i => tb_Sh_ADDENDS.getD i 0) V f4 k 6)), (14, .int (sh_rds (fun i => tb_Sh_ADDENDS.getD i 0) V f4 k 7)), (15, .int (nI k))] 418 [.int (sh_rr (sh_rds (fun i => tb_Sh_ADDENDS.getD i 0) V f4 k 0) (nI 2))] 0 0
      refine j_iload d_Mo_sha_418 8 rfl ?_
      refine j_bipush (v := nI 13) d_Mo_sha_420 (by decide) ?_
      refine j_callS (As := [.int (sh_rds (fun i => tb_Sh_ADDENDS.getD i 0) V f4 k 0), .int (nI 13)]) (rest := [.int (sh_rr (sh_rds (fun i => tb_Sh_ADDENDS.getD i 0) V f4 k 0) (nI 2))]) (c_Mo_turn Γ.l E M (sh_rds (fun i => tb_Sh_ADDENDS.getD i 0) V f4 k 0) 13 (by decide)) Y_Mo_turn w_1117 w_1118 rfl rfl (Nat.le_of_ble_eq_true rfl) (by omega) (by omega) (by omega) d_Mo_sha_422 (fun v422 N422 p422 => ?_)
      obtain ⟨rfl, q422⟩ := p422
      obtain rfl := q422.symm
      show mp_J Γ m_Mo_sha E κ M [(16, .int (sh_fresh (sh_rds (fun i => tb_Sh_ADDENDS.getD i 0) V f4 k) (tb_Sh_ADDENDS.getD k 0 + V k))), (0, .ref (R 0)), (1, .ref b), (2, .int (nI p)), (3, .int (nI n)), (4, .int (nI (pd_blocks n))), (5, .int (nI (64 * pd_blocks n))), (6, .int (nI q)), (7, .int (sh_rds (fun i => tb_Sh_ADDENDS.getD i 0) V f4 k 0)), (8, .int (sh_rds (fun i => tb_Sh_ADDENDS.getD i 0) V f4 k 1)), (9, .int (sh_rds (fun i => tb_Sh_ADDENDS.getD i 0) V f4 k 2)), (10, .int (sh_rds (fun i => tb_Sh_ADDENDS.getD i 0) V f4 k 3)), (11, .int (sh_rds (fun i => tb_Sh_ADDENDS.getD i 0) V f4 k 4)), (12, .int (sh_rds (fun i => tb_Sh_ADDENDS.getD i 0) V f4 k 5)), (13, .int (sh_rds (fun i => tb_Sh_ADDENDS.getD i 0) V f4 k 6)), (14, .int (sh_rds (fun i => tb_Sh_ADDENDS.getD i 0) V f4 k 7)), (15, .int (nI k))] 425 [.int (sh_rr (sh_rds (fun i => tb_Sh_ADDENDS.getD i 0) V f4 k 0) (nI 13)), .int (sh_rr (sh_rds (fun i => tb_Sh_ADDENDS.getD i 0) V f4 k 0) (nI 2))] 0 0
      refine j_ixor d_Mo_sha_425 ?_
      refine j_iload d_Mo_sha_426 8 rfl ?_
      refine j_bipush (v := nI 22) d_Mo_sha_428 (by decide) ?_
      refine j_callS (As := [.int (sh_rds (fun i => tb_Sh_ADDENDS.getD i 0) V f4 k 0), .int (nI 22)]) (rest := [.int ((sh_rr (sh_rds (fun i => tb_Sh_ADDENDS.getD i 0) V f4 k 0) (nI 2)) ^^^ (sh_rr (sh_rds (fun i => tb_Sh_ADDENDS.getD i 0) V f4 k 0) (nI 13)))]) (c_Mo_turn Γ.l E M (sh_rds (fun i => tb_Sh_ADDENDS.getD i 0) V f4 k 0) 22 (by decide)) Y_Mo_turn w_1117 w_1118 rfl rfl (Nat.le_of_ble_eq_true rfl) (by omega) (by omega) (by omega) d_Mo_sha_430 (fun v430 N430 p430 => ?_)
      obtain ⟨rfl, q430⟩ := p430
      obtain rfl := q430.symm
      show mp_J Γ m_Mo_sha E κ M [(16, .int (sh_fresh (sh_rds (fun i => tb_Sh_ADDENDS.getD i 0) V f4 k) (tb_Sh_ADDENDS.getD k 0 + V k))), (0, .ref (R 0)), (1, .ref b), (2, .int (nI p)), (3, .int (nI n)), (4, .int (nI (pd_blocks n))), (5, .int (nI (64 * pd_blocks n))), (6, .int (nI q)), (7, .int (sh_rds (fun i => tb_Sh_ADDENDS.getD i 0) V f4 k 0)), (8, .int (sh_rds (fun i => tb_Sh_ADDENDS.getD i 0) V f4 k 1)), (9, .int (sh_rds (fun i => tb_Sh_ADDENDS.getD i 0) V f4 k 2)), (10, .int (sh_rds (fun i => tb_Sh_ADDENDS.getD i 0) V f4 k 3)), (11, .int (sh_rds (fun i => tb_Sh_ADDENDS.getD i 0) V f4 k 4)), (12, .int (sh_rds (fun i => tb_Sh_ADDENDS.getD i 0) V f4 k 5)), (13, .int (sh_rds (fun i => tb_Sh_ADDENDS.getD i 0) V f4 k 6)), (14, .int (sh_rds (fun i => tb_Sh_ADDENDS.getD i 0) V f4 k 7)), (15, .int (nI k))] 433 [.int (sh_rr (sh_rds (fun i => tb_Sh_ADDENDS.getD i 0) V f4 k 0) (nI 22)), .int ((sh_rr (sh_rds (fun i => tb_Sh_ADDENDS.getD i 0) V f4 k 0) (nI 2)) ^^^ (sh_rr (sh_rds (fun i => tb_Sh_ADDENDS.getD i 0) V f4 k 0) (nI 13)))] 0 0
      refine j_ixor d_Mo_sha_433 ?_
      refine j_eqi (y := sh_u (sh_rds (fun i => tb_Sh_ADDENDS.getD i 0) V f4 k 0)) rfl ?_
      refine j_iload d_Mo_sha_434 8 rfl ?_
      refine j_iload d_Mo_sha_436 9 rfl ?_
      refine j_iand d_Mo_sha_438 ?_
      refine j_iload d_Mo_sha_439 8 rfl ?_
      refine j_iload d_Mo_sha_441 10 rfl ?_
      refine j_iand d_Mo_sha_443 ?_
      refine j_ixor d_Mo_sha_444 ?_
      refine j_iload d_Mo_sha_445 9 rfl ?_
      refine j_iload d_Mo_sha_447 10 rfl ?_
      refine j_iand d_Mo_sha_449 ?_
      refine j_ixor d_Mo_sha_450 ?_
      refine j_eqi (y := sh_mj (sh_rds (fun i => tb_Sh_ADDENDS.getD i 0) V f4 k 0) (sh_rds (fun i => tb_Sh_ADDENDS.getD i 0) V f4 k 1) (sh_rds (fun i => tb_Sh_ADDENDS.getD i 0) V f4 k 2)) rfl ?_
      refine j_iadd d_Mo_sha_451 ?_
      refine j_istore [(17, .int ((sh_u (sh_rds (fun i => tb_Sh_ADDENDS.getD i 0) V f4 k 0)) + (sh_mj (sh_rds (fun i => tb_Sh_ADDENDS.getD i 0) V f4 k 0) (sh_rds (fun i => tb_Sh_ADDENDS.getD i 0) V f4 k 1) (sh_rds (fun i => tb_Sh_ADDENDS.getD i 0) V f4 k 2)))), (16, .int (sh_fresh (sh_rds (fun i => tb_Sh_ADDENDS.getD i 0) V f4 k) (tb_Sh_ADDENDS.getD k 0 + V k))), (0, .ref (R 0)), (1, .ref b), (2, .int (nI p)), (3, .int (nI n)), (4, .int (nI (pd_blocks n))), (5, .int (nI (64 * pd_blocks n))), (6, .int (nI q)), (7, .int (sh_rds (fun i => tb_Sh_ADDENDS.getD i 0) V f4 k 0)), (8, .int (sh_rds (fun i => tb_Sh_ADDENDS.getD i 0) V f4 k 1)), (9, .int (sh_rds (fun i => tb_Sh_ADDENDS.getD i 0) V f4 k 2)), (10, .int (sh_rds (fun i => tb_Sh_ADDENDS.getD i 0) V f4 k 3)), (11, .int (sh_rds (fun i => tb_Sh_ADDENDS.getD i 0) V f4 k 4)), (12, .int (sh_rds (fun i => tb_Sh_ADDENDS.getD i 0) V f4 k 5)), (13, .int (sh_rds (fun i => tb_Sh_ADDENDS.getD i 0) V f4 k 6)), (14, .int (sh_rds (fun i => tb_Sh_ADDENDS.getD i 0) V f4 k 7)), (15, .int (nI k))] d_Mo_sha_452 (by decide) rfl ?_
      refine j_iload d_Mo_sha_454 15 rfl ?_
      refine j_eqi (y := sh_rds (fun i => tb_Sh_ADDENDS.getD i 0) V f4 (k + 1) 7) sr_7 ?_
      refine j_istore [(14, .int (sh_rds (fun i => tb_Sh_ADDENDS.getD i 0) V f4 (k + 1) 7)), (17, .int ((sh_u (sh_rds (fun i => tb_Sh_ADDENDS.getD i 0) V f4 k 0)) + (sh_mj (sh_rds (fun i => tb_Sh_ADDENDS.getD i 0) V f4 k 0) (sh_rds (fun i => tb_Sh_ADDENDS.getD i 0) V f4 k 1) (sh_rds (fun i => tb_Sh_ADDENDS.getD i 0) V f4 k 2)))), (16, .int (sh_fresh (sh_rds (fun i => tb_Sh_ADDENDS.getD i 0) V f4 k) (tb_Sh_ADDENDS.getD k 0 + V k))), (0, .ref (R 0)), (1, .ref b), (2, .int (nI p)), (3, .int (nI n)), (4, .int (nI (pd_blocks n))), (5, .int (nI (64 * pd_blocks n))), (6, .int (nI q)), (7, .int (sh_rds (fun i => tb_Sh_ADDENDS.getD i 0) V f4 k 0)), (8, .int (sh_rds (fun i => tb_Sh_ADDENDS.getD i 0) V f4 k 1)), (9, .int (sh_rds (fun i => tb_Sh_ADDENDS.getD i 0) V f4 k 2)), (10, .int (sh_rds (fun i => tb_Sh_ADDENDS.getD i 0) V f4 k 3)), (11, .int (sh_rds (fun i => tb_Sh_ADDENDS.getD i 0) V f4 k 4)), (12, .int (sh_rds (fun i => tb_Sh_ADDENDS.getD i 0) V f4 k 5)), (13, .int (sh_rds (fun i => tb_Sh_ADDENDS.getD i 0) V f4 k 6)), (15, .int (nI k))] d_Mo_sha_456 (by decide) rfl ?_
      refine j_iload d_Mo_sha_458 15 rfl ?_
      refine j_eqi (y := sh_rds (fun i => tb_Sh_ADDENDS.getD i 0) V f4 (k + 1) 6) sr_6 ?_
      refine j_istore [(13, .int (sh_rds (fun i => tb_Sh_ADDENDS.getD i 0) V f4 (k + 1) 6)), (14, .int (sh_rds (fun i => tb_Sh_ADDENDS.getD i 0) V f4 (k + 1) 7)), (17, .int ((sh_u (sh_rds (fun i => tb_Sh_ADDENDS.getD i 0) V f4 k 0)) + (sh_mj (sh_rds (fun i => tb_Sh_ADDENDS.getD i 0) V f4 k 0) (sh_rds (fun i => tb_Sh_ADDENDS.getD i 0) V f4 k 1) (sh_rds (fun i => tb_Sh_ADDENDS.getD i 0) V f4 k 2)))), (16, .int (sh_fresh (sh_rds (fun i => tb_Sh_ADDENDS.getD i 0) V f4 k) (tb_Sh_ADDENDS.getD k 0 + V k))), (0, .ref (R 0)), (1, .ref b), (2, .int (nI p)), (3, .int (nI n)), (4, .int (nI (pd_blocks n))), (5, .int (nI (64 * pd_blocks n))), (6, .int (nI q)), (7, .int (sh_rds (fun i => tb_Sh_ADDENDS.getD i 0) V f4 k 0)), (8, .int (sh_rds (fun i => tb_Sh_ADDENDS.getD i 0) V f4 k 1)), (9, .int (sh_rds (fun i => tb_Sh_ADDENDS.getD i 0) V f4 k 2)), (10, .int (sh_rds (fun i => tb_Sh_ADDENDS.getD i 0) V f4 k 3)), (11, .int (sh_rds (fun i => tb_Sh_ADDENDS.getD i 0) V f4 k 4)), (12, .int (sh_rds (fun i => tb_Sh_ADDENDS.getD i 0) V f4 k 5)), (15, .int (nI k))] d_Mo_sha_460 (by decide) rfl ?_
      refine j_iload d_Mo_sha_462 15 rfl ?_
      refine j_eqi (y := sh_rds (fun i => tb_Sh_ADDENDS.getD i 0) V f4 (k + 1) 5) sr_5 ?_
      refine j_istore [(12, .int (sh_rds (fun i => tb_Sh_ADDENDS.getD i 0) V f4 (k + 1) 5)), (13, .int (sh_rds (fun i => tb_Sh_ADDENDS.getD i 0) V f4 (k + 1) 6)), (14, .int (sh_rds (fun i => tb_Sh_ADDENDS.getD i 0) V f4 (k + 1) 7)), (17, .int ((sh_u (sh_rds (fun i => tb_Sh_ADDENDS.getD i 0) V f4 k 0)) + (sh_mj (sh_rds (fun i => tb_Sh_ADDENDS.getD i 0) V f4 k 0) (sh_rds (fun i => tb_Sh_ADDENDS.getD i 0) V f4 k 1) (sh_rds (fun i => tb_Sh_ADDENDS.getD i 0) V f4 k 2)))), (16, .int (sh_fresh (sh_rds (fun i => tb_Sh_ADDENDS.getD i 0) V f4 k) (tb_Sh_ADDENDS.getD k 0 + V k))), (0, .ref (R 0)), (1, .ref b), (2, .int (nI p)), (3, .int (nI n)), (4, .int (nI (pd_blocks n))), (5, .int (nI (64 * pd_blocks n))), (6, .int (nI q)), (7, .int (sh_rds (fun i => tb_Sh_ADDENDS.getD i 0) V f4 k 0)), (8, .int (sh_rds (fun i => tb_Sh_ADDENDS.getD i 0) V f4 k 1)), (9, .int (sh_rds (fun i => tb_Sh_ADDENDS.getD i 0) V f4 k 2)), (10, .int (sh_rds (fun i => tb_Sh_ADDENDS.getD i 0) V f4 k 3)), (11, .int (sh_rds (fun i => tb_Sh_ADDENDS.getD i 0) V f4 k 4)), (15, .int (nI k))] d_Mo_sha_464 (by decide) rfl ?_
      refine j_iload d_Mo_sha_466 15 rfl ?_
      refine j_iload d_Mo_sha_468 4 rfl ?_
      refine j_iadd d_Mo_sha_470 ?_
      refine j_eqi (y := sh_rds (fun i => tb_Sh_ADDENDS.getD i 0) V f4 (k + 1) 4) sr_4 ?_
      refine j_istore [(11, .int (sh_rds (fun i => tb_Sh_ADDENDS.getD i 0) V f4 (k + 1) 4)), (12, .int (sh_rds (fun i => tb_Sh_ADDENDS.getD i 0) V f4 (k + 1) 5)), (13, .int (sh_rds (fun i => tb_Sh_ADDENDS.getD i 0) V f4 (k + 1) 6)), (14, .int (sh_rds (fun i => tb_Sh_ADDENDS.getD i 0) V f4 (k + 1) 7)), (17, .int ((sh_u (sh_rds (fun i => tb_Sh_ADDENDS.getD i 0) V f4 k 0)) + (sh_mj (sh_rds (fun i => tb_Sh_ADDENDS.getD i 0) V f4 k 0) (sh_rds (fun i => tb_Sh_ADDENDS.getD i 0) V f4 k 1) (sh_rds (fun i => tb_Sh_ADDENDS.getD i 0) V f4 k 2)))), (16, .int (sh_fresh (sh_rds (fun i => tb_Sh_ADDENDS.getD i 0) V f4 k) (tb_Sh_ADDENDS.getD k 0 + V k))), (0, .ref (R 0)), (1, .ref b), (2, .int (nI p)), (3, .int (nI n)), (4, .int (nI (pd_blocks n))), (5, .int (nI (64 * pd_blocks n))), (6, .int (nI q)), (7, .int (sh_rds (fun i => tb_Sh_ADDENDS.getD i 0) V f4 k 0)), (8, .int (sh_rds (fun i => tb_Sh_ADDENDS.getD i 0) V f4 k 1)), (9, .int (sh_rds (fun i => tb_Sh_ADDENDS.getD i 0) V f4 k 2)), (10, .int (sh_rds (fun i => tb_Sh_ADDENDS.getD i 0) V f4 k 3)), (15, .int (nI k))] d_Mo_sha_471 (by decide) rfl ?_
      refine j_iload d_Mo_sha_473 15 rfl ?_
      refine j_eqi (y := sh_rds (fun i => tb_Sh_ADDENDS.getD i 0) V f4 (k + 1) 3) sr_3 ?_
      refine j_istore [(10, .int (sh_rds (fun i => tb_Sh_ADDENDS.getD i 0) V f4 (k + 1) 3)), (11, .int (sh_rds (fun i => tb_Sh_ADDENDS.getD i 0) V f4 (k + 1) 4)), (12, .int (sh_rds (fun i => tb_Sh_ADDENDS.getD i 0) V f4 (k + 1) 5)), (13, .int (sh_rds (fun i => tb_Sh_ADDENDS.getD i 0) V f4 (k + 1) 6)), (14, .int (sh_rds (fun i => tb_Sh_ADDENDS.getD i 0) V f4 (k + 1) 7)), (17, .int ((sh_u (sh_rds (fun i => tb_Sh_ADDENDS.getD i 0) V f4 k 0)) + (sh_mj (sh_rds (fun i => tb_Sh_ADDENDS.getD i 0) V f4 k 0) (sh_rds (fun i => tb_Sh_ADDENDS.getD i 0) V f4 k 1) (sh_rds (fun i => tb_Sh_ADDENDS.getD i 0) V f4 k 2)))), (16, .int (sh_fresh (sh_rds (fun i => tb_Sh_ADDENDS.getD i 0) V f4 k) (tb_Sh_ADDENDS.getD k 0 + V k))), (0, .ref (R 0)), (1, .ref b), (2, .int (nI p)), (3, .int (nI n)), (4, .int (nI (pd_blocks n))), (5, .int (nI (64 * pd_blocks n))), (6, .int (nI q)), (7, .int (sh_rds (fun i => tb_Sh_ADDENDS.getD i 0) V f4 k 0)), (8, .int (sh_rds (fun i => tb_Sh_ADDENDS.getD i 0) V f4 k 1)), (9, .int (sh_rds (fun i => tb_Sh_ADDENDS.getD i 0) V f4 k 2)), (15, .int (nI k))] d_Mo_sha_475 (by decide) rfl ?_
      refine j_iload d_Mo_sha_477 15 rfl ?_
      refine j_eqi (y := sh_rds (fun i => tb_Sh_ADDENDS.getD i 0) V f4 (k + 1) 2) sr_2 ?_
      refine j_istore [(9, .int (sh_rds (fun i => tb_Sh_ADDENDS.getD i 0) V f4 (k + 1) 2)), (10, .int (sh_rds (fun i => tb_Sh_ADDENDS.getD i 0) V f4 (k + 1) 3)), (11, .int (sh_rds (fun i => tb_Sh_ADDENDS.getD i 0) V f4 (k + 1) 4)), (12, .int (sh_rds (fun i => tb_Sh_ADDENDS.getD i 0) V f4 (k + 1) 5)), (13, .int (sh_rds (fun i => tb_Sh_ADDENDS.getD i 0) V f4 (k + 1) 6)), (14, .int (sh_rds (fun i => tb_Sh_ADDENDS.getD i 0) V f4 (k + 1) 7)), (17, .int ((sh_u (sh_rds (fun i => tb_Sh_ADDENDS.getD i 0) V f4 k 0)) + (sh_mj (sh_rds (fun i => tb_Sh_ADDENDS.getD i 0) V f4 k 0) (sh_rds (fun i => tb_Sh_ADDENDS.getD i 0) V f4 k 1) (sh_rds (fun i => tb_Sh_ADDENDS.getD i 0) V f4 k 2)))), (16, .int (sh_fresh (sh_rds (fun i => tb_Sh_ADDENDS.getD i 0) V f4 k) (tb_Sh_ADDENDS.getD k 0 + V k))), (0, .ref (R 0)), (1, .ref b), (2, .int (nI p)), (3, .int (nI n)), (4, .int (nI (pd_blocks n))), (5, .int (nI (64 * pd_blocks n))), (6, .int (nI q)), (7, .int (sh_rds (fun i => tb_Sh_ADDENDS.getD i 0) V f4 k 0)), (8, .int (sh_rds (fun i => tb_Sh_ADDENDS.getD i 0) V f4 k 1)), (15, .int (nI k))] d_Mo_sha_479 (by decide) rfl ?_
      refine j_iload d_Mo_sha_481 15 rfl ?_
      refine j_eqi (y := sh_rds (fun i => tb_Sh_ADDENDS.getD i 0) V f4 (k + 1) 1) sr_1 ?_
      refine j_istore [(8, .int (sh_rds (fun i => tb_Sh_ADDENDS.getD i 0) V f4 (k + 1) 1)), (9, .int (sh_rds (fun i => tb_Sh_ADDENDS.getD i 0) V f4 (k + 1) 2)), (10, .int (sh_rds (fun i => tb_Sh_ADDENDS.getD i 0) V f4 (k + 1) 3)), (11, .int (sh_rds (fun i => tb_Sh_ADDENDS.getD i 0) V f4 (k + 1) 4)), (12, .int (sh_rds (fun i => tb_Sh_ADDENDS.getD i 0) V f4 (k + 1) 5)), (13, .int (sh_rds (fun i => tb_Sh_ADDENDS.getD i 0) V f4 (k + 1) 6)), (14, .int (sh_rds (fun i => tb_Sh_ADDENDS.getD i 0) V f4 (k + 1) 7)), (17, .int ((sh_u (sh_rds (fun i => tb_Sh_ADDENDS.getD i 0) V f4 k 0)) + (sh_mj (sh_rds (fun i => tb_Sh_ADDENDS.getD i 0) V f4 k 0) (sh_rds (fun i => tb_Sh_ADDENDS.getD i 0) V f4 k 1) (sh_rds (fun i => tb_Sh_ADDENDS.getD i 0) V f4 k 2)))), (16, .int (sh_fresh (sh_rds (fun i => tb_Sh_ADDENDS.getD i 0) V f4 k) (tb_Sh_ADDENDS.getD k 0 + V k))), (0, .ref (R 0)), (1, .ref b), (2, .int (nI p)), (3, .int (nI n)), (4, .int (nI (pd_blocks n))), (5, .int (nI (64 * pd_blocks n))), (6, .int (nI q)), (7, .int (sh_rds (fun i => tb_Sh_ADDENDS.getD i 0) V f4 k 0)), (15, .int (nI k))] d_Mo_sha_483 (by decide) rfl ?_
      refine j_iload d_Mo_sha_485 8 rfl ?_
      refine j_iload d_Mo_sha_487 7 rfl ?_
      refine j_iadd d_Mo_sha_489 ?_
      refine j_eqi (y := sh_rds (fun i => tb_Sh_ADDENDS.getD i 0) V f4 (k + 1) 0) sh_r0 ?_
      refine j_istore [(7, .int (sh_rds (fun i => tb_Sh_ADDENDS.getD i 0) V f4 (k + 1) 0)), (8, .int (sh_rds (fun i => tb_Sh_ADDENDS.getD i 0) V f4 (k + 1) 1)), (9, .int (sh_rds (fun i => tb_Sh_ADDENDS.getD i 0) V f4 (k + 1) 2)), (10, .int (sh_rds (fun i => tb_Sh_ADDENDS.getD i 0) V f4 (k + 1) 3)), (11, .int (sh_rds (fun i => tb_Sh_ADDENDS.getD i 0) V f4 (k + 1) 4)), (12, .int (sh_rds (fun i => tb_Sh_ADDENDS.getD i 0) V f4 (k + 1) 5)), (13, .int (sh_rds (fun i => tb_Sh_ADDENDS.getD i 0) V f4 (k + 1) 6)), (14, .int (sh_rds (fun i => tb_Sh_ADDENDS.getD i 0) V f4 (k + 1) 7)), (17, .int ((sh_u (sh_rds (fun i => tb_Sh_ADDENDS.getD i 0) V f4 k 0)) + (sh_mj (sh_rds (fun i => tb_Sh_ADDENDS.getD i 0) V f4 k 0) (sh_rds (fun i => tb_Sh_ADDENDS.getD i 0) V f4 k 1) (sh_rds (fun i => tb_Sh_ADDENDS.getD i 0) V f4 k 2)))), (16, .int (sh_fresh (sh_rds (fun i => tb_Sh_ADDENDS.getD i 0) V f4 k) (tb_Sh_ADDENDS.getD k 0 + V k))), (0, .ref (R 0)), (1, .ref b), (2, .int (nI p)), (3, .int (nI n)), (4, .int (nI (pd_blocks n))), (5, .int (nI (64 * pd_blocks n))), (6, .int (nI q)), (15, .int (nI k))] d_Mo_sha_490 (by decide) rfl ?_
      refine j_iinc (v := nI (k + 1)) [(15, .int (nI (k + 1))), (7, .int (sh_rds (fun i => tb_Sh_ADDENDS.getD i 0) V f4 (k + 1) 0)), (8, .int (sh_rds (fun i => tb_Sh_ADDENDS.getD i 0) V f4 (k + 1) 1)), (9, .int (sh_rds (fun i => tb_Sh_ADDENDS.getD i 0) V f4 (k + 1) 2)), (10, .int (sh_rds (fun i => tb_Sh_ADDENDS.getD i 0) V f4 (k + 1) 3)), (11, .int (sh_rds (fun i => tb_Sh_ADDENDS.getD i 0) V f4 (k + 1) 4)), (12, .int (sh_rds (fun i => tb_Sh_ADDENDS.getD i 0) V f4 (k + 1) 5)), (13, .int (sh_rds (fun i => tb_Sh_ADDENDS.getD i 0) V f4 (k + 1) 6)), (14, .int (sh_rds (fun i => tb_Sh_ADDENDS.getD i 0) V f4 (k + 1) 7)), (17, .int ((sh_u (sh_rds (fun i => tb_Sh_ADDENDS.getD i 0) V f4 k 0)) + (sh_mj (sh_rds (fun i => tb_Sh_ADDENDS.getD i 0) V f4 k 0) (sh_rds (fun i => tb_Sh_ADDENDS.getD i 0) V f4 k 1) (sh_rds (fun i => tb_Sh_ADDENDS.getD i 0) V f4 k 2)))), (16, .int (sh_fresh (sh_rds (fun i => tb_Sh_ADDENDS.getD i 0) V f4 k) (tb_Sh_ADDENDS.getD k 0 + V k))), (0, .ref (R 0)), (1, .ref b), (2, .int (nI p)), (3, .int (nI n)), (4, .int (nI (pd_blocks n))), (5, .int (nI (64 * pd_blocks n))), (6, .int (nI q))] d_Mo_sha_492 17 rfl (nI_add k 1) (by decide) rfl ?_
      refine j_goto (tgt := 348) d_Mo_sha_495 (by decide) ?_
      refine j_lv [11, 12, 13, 14, 15, 16, 17, 1, 2, 3, 4, 5, 6, 7, 8, 0] rfl ?_
      exact ih (k + 1) (by omega) (by omega)

set_option maxHeartbeats 4000000 in
set_option maxRecDepth 100000 in
theorem lp5_sh {Γ : mp_G} {κ : mp_K} (E : mp_E) (M : mp_M) (R : Nat → Nat) (rows : Nat) (thr : Int32) (dp as_ ops b p n : Nat) (g : Nat → Int32) (f6 F : Nat → Int32) (hR : RL R) (hn : n ≤ 1000) (hκd : κ.2.1 = 2) (hF : ∀ q, q < 64 * pd_blocks n → F q = pdG true g n 8 q) (hx : ∀ (Mx : mp_M) (f5 : Nat → Int32), (Mx (R 0) = some (mp_o 7 [.ref (R 1), .int (nI rows), .int thr, .ref (R 2), .ref (R 3), .ref (R 4), .ref (R 5), .ref (R 6), .ref (R 7), .ref (R 8), .ref (R 9), .int (nI dp), .int (nI as_), .int (nI ops), .ref (R 10)])) → (Mx (R 4) = some (mp_i E 8 (pd_fold (sh_mix (fun i => tb_Sh_ADDENDS.getD i 0)) true g n (fun j => tb_Sh_START.getD j 0) (pd_blocks n)))) → (Mx (R 5) = some (mp_i E 64 f5)) → (Mx (R 6) = some (mp_b E 32 f6)) → (Mx (R 7) = some (mp_b E 1200 F)) → (SFr R M Mx) → mp_J Γ m_Mo_sha E κ Mx [(0, .ref (R 0)), (1, .ref b), (2, .int (nI p)), (3, .int (nI n)), (4, .int (nI (pd_blocks n))), (5, .int (nI (64 * pd_blocks n)))] 594 [] 0 0)  : ∀ (r : Nat) (Mx : mp_M) (f5 : Nat → Int32) (q : Nat), pd_blocks n - q < r → (Mx (R 0) = some (mp_o 7 [.ref (R 1), .int (nI rows), .int thr, .ref (R 2), .ref (R 3), .ref (R 4), .ref (R 5), .ref (R 6), .ref (R 7), .ref (R 8), .ref (R 9), .int (nI dp), .int (nI as_), .int (nI ops), .ref (R 10)])) → (Mx (R 4) = some (mp_i E 8 (pd_fold (sh_mix (fun i => tb_Sh_ADDENDS.getD i 0)) true g n (fun j => tb_Sh_START.getD j 0) q))) → (Mx (R 5) = some (mp_i E 64 f5)) → (Mx (R 6) = some (mp_b E 32 f6)) → (Mx (R 7) = some (mp_b E 1200 F)) → (SFr R M Mx) → (q ≤ pd_blocks n) → mp_J Γ m_Mo_sha E κ Mx [(0, .ref (R 0)), (1, .ref b), (2, .int (nI p)), (3, .int (nI n)), (4, .int (nI (pd_blocks n))), (5, .int (nI (64 * pd_blocks n))), (6, .int (nI q))] 121 [] 0 0 := by
  have hB := pd_bl9 hn
  intro r
  induction r with
  | zero => intro Mx f5 q hr; exact absurd hr (Nat.not_lt_zero _)
  | succ r ih =>
    intro Mx f5 q hr x0 x4 x5 x6 x7 fS hq
    refine j_iload d_Mo_sha_121 6 rfl ?_
    refine j_iload d_Mo_sha_123 4 rfl ?_
    refine j_ncmp_ge 594 q (pd_blocks n) rfl rfl (by omega) (by omega) d_Mo_sha_125 (by decide) (fun b125 => ?_) (fun b125 => ?_)
    · skip
      refine j_lv [0, 1, 2, 3, 4, 5] rfl ?_
      exact hx Mx f5 x0 (by rw [← show q = pd_blocks n by omega]; exact x4) x5 x6 x7 fS
    · skip
      refine j_iconst (v := nI 0) d_Mo_sha_128 (by decide) ?_
      refine j_istore [(7, .int (nI 0)), (0, .ref (R 0)), (1, .ref b), (2, .int (nI p)), (3, .int (nI n)), (4, .int (nI (pd_blocks n))), (5, .int (nI (64 * pd_blocks n))), (6, .int (nI q))] d_Mo_sha_129 (by decide) rfl ?_
      refine j_lv [1, 2, 3, 4, 5, 6, 7, 0] rfl ?_
      refine lp3_sh E M R rows thr dp as_ ops b p n g (pd_fold (sh_mix (fun i => tb_Sh_ADDENDS.getD i 0)) true g n (fun j => tb_Sh_START.getD j 0) q) f6 F q hR hn hκd hF (by omega) ?_ 17 Mx f5 0 (by omega) x0 x4 x5 x6 x7 fS (fun e he => absurd he (Nat.not_lt_zero _)) (by omega)
      intro Mx_1 W_1 x0_1 x4_1 x5_1 x6_1 x7_1 fS_1 hW_1
      refine j_bipush (v := nI 16) d_Mo_sha_168 (by decide) ?_
      refine j_istore [(7, .int (nI 16)), (0, .ref (R 0)), (1, .ref b), (2, .int (nI p)), (3, .int (nI n)), (4, .int (nI (pd_blocks n))), (5, .int (nI (64 * pd_blocks n))), (6, .int (nI q))] d_Mo_sha_170 (by decide) rfl ?_
      refine j_lv [1, 2, 3, 4, 5, 6, 7, 0] rfl ?_
      refine lp4_sh E M R rows thr dp as_ ops b p n g (pd_fold (sh_mix (fun i => tb_Sh_ADDENDS.getD i 0)) true g n (fun j => tb_Sh_START.getD j 0) q) f6 F W_1 q hR hn hκd (by omega) ?_ 49 Mx_1 0 (by omega) x0_1 x4_1 x5_1 x6_1 x7_1 fS_1 (by omega)
      intro Mx_2  x0_2 x4_2 x5_2 x6_2 x7_2 fS_2 
      refine j_aload_n d_Mo_sha_279 rfl 0 rfl ?_
      refine j_get F_Mo x0_2 5 (by decide) w_948 (Or.inl rfl) rfl d_Mo_sha_280 ?_
      refine j_iconst (v := nI 0) d_Mo_sha_283 (by decide) ?_
      refine j_iald x4_2 0 rfl (by omega) (by omega) d_Mo_sha_284 ?_
      refine j_istore [(7, .int ((pd_fold (sh_mix (fun i => tb_Sh_ADDENDS.getD i 0)) true g n (fun j => tb_Sh_START.getD j 0) q) 0)), (0, .ref (R 0)), (1, .ref b), (2, .int (nI p)), (3, .int (nI n)), (4, .int (nI (pd_blocks n))), (5, .int (nI (64 * pd_blocks n))), (6, .int (nI q))] d_Mo_sha_285 (by decide) rfl ?_
      refine j_aload_n d_Mo_sha_287 rfl 1 rfl ?_
      refine j_get F_Mo x0_2 5 (by decide) w_948 (Or.inl rfl) rfl d_Mo_sha_288 ?_
      refine j_iconst (v := nI 1) d_Mo_sha_291 (by decide) ?_
      refine j_iald x4_2 1 rfl (by omega) (by omega) d_Mo_sha_292 ?_
      refine j_istore [(8, .int ((pd_fold (sh_mix (fun i => tb_Sh_ADDENDS.getD i 0)) true g n (fun j => tb_Sh_START.getD j 0) q) 1)), (7, .int ((pd_fold (sh_mix (fun i => tb_Sh_ADDENDS.getD i 0)) true g n (fun j => tb_Sh_START.getD j 0) q) 0)), (0, .ref (R 0)), (1, .ref b), (2, .int (nI p)), (3, .int (nI n)), (4, .int (nI (pd_blocks n))), (5, .int (nI (64 * pd_blocks n))), (6, .int (nI q))] d_Mo_sha_293 (by decide) rfl ?_
      refine j_aload_n d_Mo_sha_295 rfl 2 rfl ?_
      refine j_get F_Mo x0_2 5 (by decide) w_948 (Or.inl rfl) rfl d_Mo_sha_296 ?_
      refine j_iconst (v := nI 2) d_Mo_sha_299 (by decide) ?_
      refine j_iald x4_2 2 rfl (by omega) (by omega) d_Mo_sha_300 ?_
      refine j_istore [(9, .int ((pd_fold (sh_mix (fun i => tb_Sh_ADDENDS.getD i 0)) true g n (fun j => tb_Sh_START.getD j 0) q) 2)), (8, .int ((pd_fold (sh_mix (fun i => tb_Sh_ADDENDS.getD i 0)) true g n (fun j => tb_Sh_START.getD j 0) q) 1)), (7, .int ((pd_fold (sh_mix (fun i => tb_Sh_ADDENDS.getD i 0)) true g n (fun j => tb_Sh_START.getD j 0) q) 0)), (0, .ref (R 0)), (1, .ref b), (2, .int (nI p)), (3, .int (nI n)), (4, .int (nI (pd_blocks n))), (5, .int (nI (64 * pd_blocks n))), (6, .int (nI q))] d_Mo_sha_301 (by decide) rfl ?_
      refine j_aload_n d_Mo_sha_303 rfl 3 rfl ?_
      refine j_get F_Mo x0_2 5 (by decide) w_948 (Or.inl rfl) rfl d_Mo_sha_304 ?_
      refine j_iconst (v := nI 3) d_Mo_sha_307 (by decide) ?_
      refine j_iald x4_2 3 rfl (by omega) (by omega) d_Mo_sha_308 ?_
      refine j_istore [(10, .int ((pd_fold (sh_mix (fun i => tb_Sh_ADDENDS.getD i 0)) true g n (fun j => tb_Sh_START.getD j 0) q) 3)), (9, .int ((pd_fold (sh_mix (fun i => tb_Sh_ADDENDS.getD i 0)) true g n (fun j => tb_Sh_START.getD j 0) q) 2)), (8, .int ((pd_fold (sh_mix (fun i => tb_Sh_ADDENDS.getD i 0)) true g n (fun j => tb_Sh_START.getD j 0) q) 1)), (7, .int ((pd_fold (sh_mix (fun i => tb_Sh_ADDENDS.getD i 0)) true g n (fun j => tb_Sh_START.getD j 0) q) 0)), (0, .ref (R 0)), (1, .ref b), (2, .int (nI p)), (3, .int (nI n)), (4, .int (nI (pd_blocks n))), (5, .int (nI (64 * pd_blocks n))), (6, .int (nI q))] d_Mo_sha_309 (by decide) rfl ?_
      refine j_aload_n d_Mo_sha_311 rfl 4 rfl ?_
      refine j_get F_Mo x0_2 5 (by decide) w_948 (Or.inl rfl) rfl d_Mo_sha_312 ?_
      refine j_iconst (v := nI 4) d_Mo_sha_315 (by decide) ?_
      refine j_iald x4_2 4 rfl (by omega) (by omega) d_Mo_sha_316 ?_
      refine j_istore [(11, .int ((pd_fold (sh_mix (fun i => tb_Sh_ADDENDS.getD i 0)) true g n (fun j => tb_Sh_START.getD j 0) q) 4)), (10, .int ((pd_fold (sh_mix (fun i => tb_Sh_ADDENDS.getD i 0)) true g n (fun j => tb_Sh_START.getD j 0) q) 3)), (9, .int ((pd_fold (sh_mix (fun i => tb_Sh_ADDENDS.getD i 0)) true g n (fun j => tb_Sh_START.getD j 0) q) 2)), (8, .int ((pd_fold (sh_mix (fun i => tb_Sh_ADDENDS.getD i 0)) true g n (fun j => tb_Sh_START.getD j 0) q) 1)), (7, .int ((pd_fold (sh_mix (fun i => tb_Sh_ADDENDS.getD i 0)) true g n (fun j => tb_Sh_START.getD j 0) q) 0)), (0, .ref (R 0)), (1, .ref b), (2, .int (nI p)), (3, .int (nI n)), (4, .int (nI (pd_blocks n))), (5, .int (nI (64 * pd_blocks n))), (6, .int (nI q))] d_Mo_sha_317 (by decide) rfl ?_
      refine j_aload_n d_Mo_sha_319 rfl 5 rfl ?_
      refine j_get F_Mo x0_2 5 (by decide) w_948 (Or.inl rfl) rfl d_Mo_sha_320 ?_
      refine j_iconst (v := nI 5) d_Mo_sha_323 (by decide) ?_
      refine j_iald x4_2 5 rfl (by omega) (by omega) d_Mo_sha_324 ?_
      refine j_istore [(12, .int ((pd_fold (sh_mix (fun i => tb_Sh_ADDENDS.getD i 0)) true g n (fun j => tb_Sh_START.getD j 0) q) 5)), (11, .int ((pd_fold (sh_mix (fun i => tb_Sh_ADDENDS.getD i 0)) true g n (fun j => tb_Sh_START.getD j 0) q) 4)), (10, .int ((pd_fold (sh_mix (fun i => tb_Sh_ADDENDS.getD i 0)) true g n (fun j => tb_Sh_START.getD j 0) q) 3)), (9, .int ((pd_fold (sh_mix (fun i => tb_Sh_ADDENDS.getD i 0)) true g n (fun j => tb_Sh_START.getD j 0) q) 2)), (8, .int ((pd_fold (sh_mix (fun i => tb_Sh_ADDENDS.getD i 0)) true g n (fun j => tb_Sh_START.getD j 0) q) 1)), (7, .int ((pd_fold (sh_mix (fun i => tb_Sh_ADDENDS.getD i 0)) true g n (fun j => tb_Sh_START.getD j 0) q) 0)), (0, .ref (R 0)), (1, .ref b), (2, .int (nI p)), (3, .int (nI n)), (4, .int (nI (pd_blocks n))), (5, .int (nI (64 * pd_blocks n))), (6, .int (nI q))] d_Mo_sha_325 (by decide) rfl ?_
      refine j_aload_n d_Mo_sha_327 rfl 6 rfl ?_
      refine j_get F_Mo x0_2 5 (by decide) w_948 (Or.inl rfl) rfl d_Mo_sha_328 ?_
      refine j_bipush (v := nI 6) d_Mo_sha_331 (by decide) ?_
      refine j_iald x4_2 6 rfl (by omega) (by omega) d_Mo_sha_333 ?_
      refine j_istore [(13, .int ((pd_fold (sh_mix (fun i => tb_Sh_ADDENDS.getD i 0)) true g n (fun j => tb_Sh_START.getD j 0) q) 6)), (12, .int ((pd_fold (sh_mix (fun i => tb_Sh_ADDENDS.getD i 0)) true g n (fun j => tb_Sh_START.getD j 0) q) 5)), (11, .int ((pd_fold (sh_mix (fun i => tb_Sh_ADDENDS.getD i 0)) true g n (fun j => tb_Sh_START.getD j 0) q) 4)), (10, .int ((pd_fold (sh_mix (fun i => tb_Sh_ADDENDS.getD i 0)) true g n (fun j => tb_Sh_START.getD j 0) q) 3)), (9, .int ((pd_fold (sh_mix (fun i => tb_Sh_ADDENDS.getD i 0)) true g n (fun j => tb_Sh_START.getD j 0) q) 2)), (8, .int ((pd_fold (sh_mix (fun i => tb_Sh_ADDENDS.getD i 0)) true g n (fun j => tb_Sh_START.getD j 0) q) 1)), (7, .int ((pd_fold (sh_mix (fun i => tb_Sh_ADDENDS.getD i 0)) true g n (fun j => tb_Sh_START.getD j 0) q) 0)), (0, .ref (R 0)), (1, .ref b), (2, .int (nI p)), (3, .int (nI n)), (4, .int (nI (pd_blocks n))), (5, .int (nI (64 * pd_blocks n))), (6, .int (nI q))] d_Mo_sha_334 (by decide) rfl ?_
      refine j_aload_n d_Mo_sha_336 rfl 7 rfl ?_
      refine j_get F_Mo x0_2 5 (by decide) w_948 (Or.inl rfl) rfl d_Mo_sha_337 ?_
      refine j_bipush (v := nI 7) d_Mo_sha_340 (by decide) ?_
      refine j_iald x4_2 7 rfl (by omega) (by omega) d_Mo_sha_342 ?_
      refine j_istore [(14, .int ((pd_fold (sh_mix (fun i => tb_Sh_ADDENDS.getD i 0)) true g n (fun j => tb_Sh_START.getD j 0) q) 7)), (13, .int ((pd_fold (sh_mix (fun i => tb_Sh_ADDENDS.getD i 0)) true g n (fun j => tb_Sh_START.getD j 0) q) 6)), (12, .int ((pd_fold (sh_mix (fun i => tb_Sh_ADDENDS.getD i 0)) true g n (fun j => tb_Sh_START.getD j 0) q) 5)), (11, .int ((pd_fold (sh_mix (fun i => tb_Sh_ADDENDS.getD i 0)) true g n (fun j => tb_Sh_START.getD j 0) q) 4)), (10, .int ((pd_fold (sh_mix (fun i => tb_Sh_ADDENDS.getD i 0)) true g n (fun j => tb_Sh_START.getD j 0) q) 3)), (9, .int ((pd_fold (sh_mix (fun i => tb_Sh_ADDENDS.getD i 0)) true g n (fun j => tb_Sh_START.getD j 0) q) 2)), (8, .int ((pd_fold (sh_mix (fun i => tb_Sh_ADDENDS.getD i 0)) true g n (fun j => tb_Sh_START.getD j 0) q) 1)), (7, .int ((pd_fold (sh_mix (fun i => tb_Sh_ADDENDS.getD i 0)) true g n (fun j => tb_Sh_START.getD j 0) q) 0)), (0, .ref (R 0)), (1, .ref b), (2, .int (nI p)), (3, .int (nI n)), (4, .int (nI (pd_blocks n))), (5, .int (nI (64 * pd_blocks n))), (6, .int (nI q))] d_Mo_sha_343 (by decide) rfl ?_
      refine j_iconst (v := nI 0) d_Mo_sha_345 (by decide) ?_
      refine j_istore [(15, .int (nI 0)), (14, .int ((pd_fold (sh_mix (fun i => tb_Sh_ADDENDS.getD i 0)) true g n (fun j => tb_Sh_START.getD j 0) q) 7)), (13, .int ((pd_fold (sh_mix (fun i => tb_Sh_ADDENDS.getD i 0)) true g n (fun j => tb_Sh_START.getD j 0) q) 6)), (12, .int ((pd_fold (sh_mix (fun i => tb_Sh_ADDENDS.getD i 0)) true g n (fun j => tb_Sh_START.getD j 0) q) 5)), (11, .int ((pd_fold (sh_mix (fun i => tb_Sh_ADDENDS.getD i 0)) true g n (fun j => tb_Sh_START.getD j 0) q) 4)), (10, .int ((pd_fold (sh_mix (fun i => tb_Sh_ADDENDS.getD i 0)) true g n (fun j => tb_Sh_START.getD j 0) q) 3)), (9, .int ((pd_fold (sh_mix (fun i => tb_Sh_ADDENDS.getD i 0)) true g n (fun j => tb_Sh_START.getD j 0) q) 2)), (8, .int ((pd_fold (sh_mix (fun i => tb_Sh_ADDENDS.getD i 0)) true g n (fun j => tb_Sh_START.getD j 0) q) 1)), (7, .int ((pd_fold (sh_mix (fun i => tb_Sh_ADDENDS.getD i 0)) true g n (fun j => tb_Sh_START.getD j 0) q) 0)), (0, .ref (R 0)), (1, .ref b), (2, .int (nI p)), (3, .int (nI n)), (4, .int (nI (pd_blocks n))), (5, .int (nI (64 * pd_blocks n))), (6, .int (nI q))] d_Mo_sha_346 (by decide) rfl ?_
      refine j_lv [9, 10, 11, 12, 13, 14, 15, 8, 7, 6, 5, 4, 3, 2, 1, 0] rfl ?_
      refine lp6_sh E Mx_2 R rows thr dp as_ ops b p n g (pd_fold (sh_mix (fun i => tb_Sh_ADDENDS.getD i 0)) true g n (fun j => tb_Sh_START.getD j 0) q) (sh_ext W_1 48) q hR hn hκd x0_2 x5_2 ?_ 65 0 (by omega) (by omega)
      show mp_J Γ m_Mo_sha E κ Mx_2 [(0, .ref (R 0)), (1, .ref b), (2, .int (nI p)), (3, .int (nI n)), (4, .int (nI (pd_blocks n))), (5, .int (nI (64 * pd_blocks n))), (6, .int (nI q)), (7, .int (sh_rds (fun i => tb_Sh_ADDENDS.getD i 0) (sh_ext W_1 48) (pd_fold (sh_mix (fun i => tb_Sh_ADDENDS.getD i 0)) true g n (fun j => tb_Sh_START.getD j 0) q) 64 0)), (8, .int (sh_rds (fun i => tb_Sh_ADDENDS.getD i 0) (sh_ext W_1 48) (pd_fold (sh_mix (fun i => tb_Sh_ADDENDS.getD i 0)) true g n (fun j => tb_Sh_START.getD j 0) q) 64 1)), (9, .int (sh_rds (fun i => tb_Sh_ADDENDS.getD i 0) (sh_ext W_1 48) (pd_fold (sh_mix (fun i => tb_Sh_ADDENDS.getD i 0)) true g n (fun j => tb_Sh_START.getD j 0) q) 64 2)), (10, .int (sh_rds (fun i => tb_Sh_ADDENDS.getD i 0) (sh_ext W_1 48) (pd_fold (sh_mix (fun i => tb_Sh_ADDENDS.getD i 0)) true g n (fun j => tb_Sh_START.getD j 0) q) 64 3)), (11, .int (sh_rds (fun i => tb_Sh_ADDENDS.getD i 0) (sh_ext W_1 48) (pd_fold (sh_mix (fun i => tb_Sh_ADDENDS.getD i 0)) true g n (fun j => tb_Sh_START.getD j 0) q) 64 4)), (12, .int (sh_rds (fun i => tb_Sh_ADDENDS.getD i 0) (sh_ext W_1 48) (pd_fold (sh_mix (fun i => tb_Sh_ADDENDS.getD i 0)) true g n (fun j => tb_Sh_START.getD j 0) q) 64 5)), (13, .int (sh_rds (fun i => tb_Sh_ADDENDS.getD i 0) (sh_ext W_1 48) (pd_fold (sh_mix (fun i => tb_Sh_ADDENDS.getD i 0)) true g n (fun j => tb_Sh_START.getD j 0) q) 64 6)), (14, .int (sh_rds (fun i => tb_Sh_ADDENDS.getD i 0) (sh_ext W_1 48) (pd_fold (sh_mix (fun i => tb_Sh_ADDENDS.getD i 0)) true g n (fun j => tb_Sh_START.getD j 0) q) 64 7))] 498 [] 0 0
      refine j_aload_n d_Mo_sha_498 rfl 0 rfl ?_
      refine j_get F_Mo x0_2 5 (by decide) w_948 (Or.inl rfl) rfl d_Mo_sha_499 ?_
      refine j_iconst (v := nI 0) d_Mo_sha_502 (by decide) ?_
      refine j_dup2_11 d_Mo_sha_503 rfl rfl ?_
      refine j_iald x4_2 0 rfl (by omega) (by omega) d_Mo_sha_504 ?_
      refine j_eqi (y := pd_fold (sh_mix (fun i => tb_Sh_ADDENDS.getD i 0)) true g n (fun j => tb_Sh_START.getD j 0) q 0) rfl ?_
      refine j_iload d_Mo_sha_505 7 rfl ?_
      refine j_iadd d_Mo_sha_507 ?_
      refine j_iast x4_2 0 rfl (by omega) (by omega) d_Mo_sha_508 ?_
      generalize eM1 : mp_up Mx_2 (R 4) (mp_i E 8 (upd (pd_fold (sh_mix (fun i => tb_Sh_ADDENDS.getD i 0)) true g n (fun j => tb_Sh_START.getD j 0) q) 0 ((pd_fold (sh_mix (fun i => tb_Sh_ADDENDS.getD i 0)) true g n (fun j => tb_Sh_START.getD j 0) q 0) + (sh_rds (fun i => tb_Sh_ADDENDS.getD i 0) (sh_ext W_1 48) (pd_fold (sh_mix (fun i => tb_Sh_ADDENDS.getD i 0)) true g n (fun j => tb_Sh_START.getD j 0) q) 64 0)))) = M1
      have hM1__R_0_ : M1 (R 0) = some (mp_o 7 [.ref (R 1), .int (nI rows), .int thr, .ref (R 2), .ref (R 3), .ref (R 4), .ref (R 5), .ref (R 6), .ref (R 7), .ref (R 8), .ref (R 9), .int (nI dp), .int (nI as_), .int (nI ops), .ref (R 10)]) := by rw [← eM1, mp_n (hR.ne (by decide) (by decide) (by decide))]; exact x0_2
      have hM1__R_5_ : M1 (R 5) = some (mp_i E 64 (sh_ext W_1 48)) := by rw [← eM1, mp_n (hR.ne (by decide) (by decide) (by decide))]; exact x5_2
      have hM1__R_6_ : M1 (R 6) = some (mp_b E 32 f6) := by rw [← eM1, mp_n (hR.ne (by decide) (by decide) (by decide))]; exact x6_2
      have hM1__R_7_ : M1 (R 7) = some (mp_b E 1200 F) := by rw [← eM1, mp_n (hR.ne (by decide) (by decide) (by decide))]; exact x7_2
      have hM1__R_4_ : M1 (R 4) = some (mp_i E 8 (upd (pd_fold (sh_mix (fun i => tb_Sh_ADDENDS.getD i 0)) true g n (fun j => tb_Sh_START.getD j 0) q) 0 ((pd_fold (sh_mix (fun i => tb_Sh_ADDENDS.getD i 0)) true g n (fun j => tb_Sh_START.getD j 0) q 0) + (sh_rds (fun i => tb_Sh_ADDENDS.getD i 0) (sh_ext W_1 48) (pd_fold (sh_mix (fun i => tb_Sh_ADDENDS.getD i 0)) true g n (fun j => tb_Sh_START.getD j 0) q) 64 0)))) := by rw [← eM1]; exact mp_s
      refine j_aload_n d_Mo_sha_509 rfl 0 rfl ?_
      refine j_get F_Mo hM1__R_0_ 5 (by decide) w_948 (Or.inl rfl) rfl d_Mo_sha_510 ?_
      refine j_iconst (v := nI 1) d_Mo_sha_513 (by decide) ?_
      refine j_dup2_11 d_Mo_sha_514 rfl rfl ?_
      refine j_iald hM1__R_4_ 1 rfl (by omega) (by omega) d_Mo_sha_515 ?_
      refine j_eqi (y := pd_fold (sh_mix (fun i => tb_Sh_ADDENDS.getD i 0)) true g n (fun j => tb_Sh_START.getD j 0) q 1) rfl ?_
      refine j_iload d_Mo_sha_516 8 rfl ?_
      refine j_iadd d_Mo_sha_518 ?_
      refine j_iast hM1__R_4_ 1 rfl (by omega) (by omega) d_Mo_sha_519 ?_
      generalize eM2 : mp_up M1 (R 4) (mp_i E 8 (upd (upd (pd_fold (sh_mix (fun i => tb_Sh_ADDENDS.getD i 0)) true g n (fun j => tb_Sh_START.getD j 0) q) 0 ((pd_fold (sh_mix (fun i => tb_Sh_ADDENDS.getD i 0)) true g n (fun j => tb_Sh_START.getD j 0) q 0) + (sh_rds (fun i => tb_Sh_ADDENDS.getD i 0) (sh_ext W_1 48) (pd_fold (sh_mix (fun i => tb_Sh_ADDENDS.getD i 0)) true g n (fun j => tb_Sh_START.getD j 0) q) 64 0))) 1 ((pd_fold (sh_mix (fun i => tb_Sh_ADDENDS.getD i 0)) true g n (fun j => tb_Sh_START.getD j 0) q 1) + (sh_rds (fun i => tb_Sh_ADDENDS.getD i 0) (sh_ext W_1 48) (pd_fold (sh_mix (fun i => tb_Sh_ADDENDS.getD i 0)) true g n (fun j => tb_Sh_START.getD j 0) q) 64 1)))) = M2
      have hM2__R_0_ : M2 (R 0) = some (mp_o 7 [.ref (R 1), .int (nI rows), .int thr, .ref (R 2), .ref (R 3), .ref (R 4), .ref (R 5), .ref (R 6), .ref (R 7), .ref (R 8), .ref (R 9), .int (nI dp), .int (nI as_), .int (nI ops), .ref (R 10)]) := by rw [← eM2, mp_n (hR.ne (by decide) (by decide) (by decide))]; exact hM1__R_0_
      have hM2__R_5_ : M2 (R 5) = some (mp_i E 64 (sh_ext W_1 48)) := by rw [← eM2, mp_n (hR.ne (by decide) (by decide) (by decide))]; exact hM1__R_5_
      have hM2__R_6_ : M2 (R 6) = some (mp_b E 32 f6) := by rw [← eM2, mp_n (hR.ne (by decide) (by decide) (by decide))]; exact hM1__R_6_
      have hM2__R_7_ : M2 (R 7) = some (mp_b E 1200 F) := by rw [← eM2, mp_n (hR.ne (by decide) (by decide) (by decide))]; exact hM1__R_7_
      have hM2__R_4_ : M2 (R 4) = some (mp_i E 8 (upd (upd (pd_fold (sh_mix (fun i => tb_Sh_ADDENDS.getD i 0)) true g n (fun j => tb_Sh_START.getD j 0) q) 0 ((pd_fold (sh_mix (fun i => tb_Sh_ADDENDS.getD i 0)) true g n (fun j => tb_Sh_START.getD j 0) q 0) + (sh_rds (fun i => tb_Sh_ADDENDS.getD i 0) (sh_ext W_1 48) (pd_fold (sh_mix (fun i => tb_Sh_ADDENDS.getD i 0)) true g n (fun j => tb_Sh_START.getD j 0) q) 64 0))) 1 ((pd_fold (sh_mix (fun i => tb_Sh_ADDENDS.getD i 0)) true g n (fun j => tb_Sh_START.getD j 0) q 1) + (sh_rds (fun i => tb_Sh_ADDENDS.getD i 0) (sh_ext W_1 48) (pd_fold (sh_mix (fun i => tb_Sh_ADDENDS.getD i 0)) true g n (fun j => tb_Sh_START.getD j 0) q) 64 1)))) := by rw [← eM2]; exact mp_s
      refine j_aload_n d_Mo_sha_520 rfl 0 rfl ?_
      refine j_get F_Mo hM2__R_0_ 5 (by decide) w_948 (Or.inl rfl) rfl d_Mo_sha_521 ?_
      refine j_iconst (v := nI 2) d_Mo_sha_524 (by decide) ?_
      refine j_dup2_11 d_Mo_sha_525 rfl rfl ?_
      refine j_iald hM2__R_4_ 2 rfl (by omega) (by omega) d_Mo_sha_526 ?_
      refine j_eqi (y := pd_fold (sh_mix (fun i => tb_Sh_ADDENDS.getD i 0)) true g n (fun j => tb_Sh_START.getD j 0) q 2) rfl ?_
      refine j_iload d_Mo_sha_527 9 rfl ?_
      refine j_iadd d_Mo_sha_529 ?_
      refine j_iast hM2__R_4_ 2 rfl (by omega) (by omega) d_Mo_sha_530 ?_
      generalize eM3 : mp_up M2 (R 4) (mp_i E 8 (upd (upd (upd (pd_fold (sh_mix (fun i => tb_Sh_ADDENDS.getD i 0)) true g n (fun j => tb_Sh_START.getD j 0) q) 0 ((pd_fold (sh_mix (fun i => tb_Sh_ADDENDS.getD i 0)) true g n (fun j => tb_Sh_START.getD j 0) q 0) + (sh_rds (fun i => tb_Sh_ADDENDS.getD i 0) (sh_ext W_1 48) (pd_fold (sh_mix (fun i => tb_Sh_ADDENDS.getD i 0)) true g n (fun j => tb_Sh_START.getD j 0) q) 64 0))) 1 ((pd_fold (sh_mix (fun i => tb_Sh_ADDENDS.getD i 0)) true g n (fun j => tb_Sh_START.getD j 0) q 1) + (sh_rds (fun i => tb_Sh_ADDENDS.getD i 0) (sh_ext W_1 48) (pd_fold (sh_mix (fun i => tb_Sh_ADDENDS.getD i 0)) true g n (fun j => tb_Sh_START.getD j 0) q) 64 1))) 2 ((pd_fold (sh_mix (fun i => tb_Sh_ADDENDS.getD i 0)) true g n (fun j => tb_Sh_START.getD j 0) q 2) + (sh_rds (fun i => tb_Sh_ADDENDS.getD i 0) (sh_ext W_1 48) (pd_fold (sh_mix (fun i => tb_Sh_ADDENDS.getD i 0)) true g n (fun j => tb_Sh_START.getD j 0) q) 64 2)))) = M3
      have hM3__R_0_ : M3 (R 0) = some (mp_o 7 [.ref (R 1), .int (nI rows), .int thr, .ref (R 2), .ref (R 3), .ref (R 4), .ref (R 5), .ref (R 6), .ref (R 7), .ref (R 8), .ref (R 9), .int (nI dp), .int (nI as_), .int (nI ops), .ref (R 10)]) := by rw [← eM3, mp_n (hR.ne (by decide) (by decide) (by decide))]; exact hM2__R_0_
      have hM3__R_5_ : M3 (R 5) = some (mp_i E 64 (sh_ext W_1 48)) := by rw [← eM3, mp_n (hR.ne (by decide) (by decide) (by decide))]; exact hM2__R_5_
      have hM3__R_6_ : M3 (R 6) = some (mp_b E 32 f6) := by rw [← eM3, mp_n (hR.ne (by decide) (by decide) (by decide))]; exact hM2__R_6_
      have hM3__R_7_ : M3 (R 7) = some (mp_b E 1200 F) := by rw [← eM3, mp_n (hR.ne (by decide) (by decide) (by decide))]; exact hM2__R_7_
      have hM3__R_4_ : M3 (R 4) = some (mp_i E 8 (upd (upd (upd (pd_fold (sh_mix (fun i => tb_Sh_ADDENDS.getD i 0)) true g n (fun j => tb_Sh_START.getD j 0) q) 0 ((pd_fold (sh_mix (fun i => tb_Sh_ADDENDS.getD i 0)) true g n (fun j => tb_Sh_START.getD j 0) q 0) + (sh_rds (fun i => tb_Sh_ADDENDS.getD i 0) (sh_ext W_1 48) (pd_fold (sh_mix (fun i => tb_Sh_ADDENDS.getD i 0)) true g n (fun j => tb_Sh_START.getD j 0) q) 64 0))) 1 ((pd_fold (sh_mix (fun i => tb_Sh_ADDENDS.getD i 0)) true g n (fun j => tb_Sh_START.getD j 0) q 1) + (sh_rds (fun i => tb_Sh_ADDENDS.getD i 0) (sh_ext W_1 48) (pd_fold (sh_mix (fun i => tb_Sh_ADDENDS.getD i 0)) true g n (fun j => tb_Sh_START.getD j 0) q) 64 1))) 2 ((pd_fold (sh_mix (fun i => tb_Sh_ADDENDS.getD i 0)) true g n (fun j => tb_Sh_START.getD j 0) q 2) + (sh_rds (fun i => tb_Sh_ADDENDS.getD i 0) (sh_ext W_1 48) (pd_fold (sh_mix (fun i => tb_Sh_ADDENDS.getD i 0)) true g n (fun j => tb_Sh_START.getD j 0) q) 64 2)))) := by rw [← eM3]; exact mp_s
      refine j_aload_n d_Mo_sha_531 rfl 0 rfl ?_
      refine j_get F_Mo hM3__R_0_ 5 (by decide) w_948 (Or.inl rfl) rfl d_Mo_sha_532 ?_
      refine j_iconst (v := nI 3) d_Mo_sha_535 (by decide) ?_
      refine j_dup2_11 d_Mo_sha_536 rfl rfl ?_
      refine j_iald hM3__R_4_ 3 rfl (by omega) (by omega) d_Mo_sha_537 ?_
      refine j_eqi (y := pd_fold (sh_mix (fun i => tb_Sh_ADDENDS.getD i 0)) true g n (fun j => tb_Sh_START.getD j 0) q 3) rfl ?_
      refine j_iload d_Mo_sha_538 10 rfl ?_
      refine j_iadd d_Mo_sha_540 ?_
      refine j_iast hM3__R_4_ 3 rfl (by omega) (by omega) d_Mo_sha_541 ?_
      generalize eM4 : mp_up M3 (R 4) (mp_i E 8 (upd (upd (upd (upd (pd_fold (sh_mix (fun i => tb_Sh_ADDENDS.getD i 0)) true g n (fun j => tb_Sh_START.getD j 0) q) 0 ((pd_fold (sh_mix (fun i => tb_Sh_ADDENDS.getD i 0)) true g n (fun j => tb_Sh_START.getD j 0) q 0) + (sh_rds (fun i => tb_Sh_ADDENDS.getD i 0) (sh_ext W_1 48) (pd_fold (sh_mix (fun i => tb_Sh_ADDENDS.getD i 0)) true g n (fun j => tb_Sh_START.getD j 0) q) 64 0))) 1 ((pd_fold (sh_mix (fun i => tb_Sh_ADDENDS.getD i 0)) true g n (fun j => tb_Sh_START.getD j 0) q 1) + (sh_rds (fun i => tb_Sh_ADDENDS.getD i 0) (sh_ext W_1 48) (pd_fold (sh_mix (fun i => tb_Sh_ADDENDS.getD i 0)) true g n (fun j => tb_Sh_START.getD j 0) q) 64 1))) 2 ((pd_fold (sh_mix (fun i => tb_Sh_ADDENDS.getD i 0)) true g n (fun j => tb_Sh_START.getD j 0) q 2) + (sh_rds (fun i => tb_Sh_ADDENDS.getD i 0) (sh_ext W_1 48) (pd_fold (sh_mix (fun i => tb_Sh_ADDENDS.getD i 0)) true g n (fun j => tb_Sh_START.getD j 0) q) 64 2))) 3 ((pd_fold (sh_mix (fun i => tb_Sh_ADDENDS.getD i 0)) true g n (fun j => tb_Sh_START.getD j 0) q 3) + (sh_rds (fun i => tb_Sh_ADDENDS.getD i 0) (sh_ext W_1 48) (pd_fold (sh_mix (fun i => tb_Sh_ADDENDS.getD i 0)) true g n (fun j => tb_Sh_START.getD j 0) q) 64 3)))) = M4
      have hM4__R_0_ : M4 (R 0) = some (mp_o 7 [.ref (R 1), .int (nI rows), .int thr, .ref (R 2), .ref (R 3), .ref (R 4), .ref (R 5), .ref (R 6), .ref (R 7), .ref (R 8), .ref (R 9), .int (nI dp), .int (nI as_), .int (nI ops), .ref (R 10)]) := by rw [← eM4, mp_n (hR.ne (by decide) (by decide) (by decide))]; exact hM3__R_0_
      have hM4__R_5_ : M4 (R 5) = some (mp_i E 64 (sh_ext W_1 48)) := by rw [← eM4, mp_n (hR.ne (by decide) (by decide) (by decide))]; exact hM3__R_5_
      have hM4__R_6_ : M4 (R 6) = some (mp_b E 32 f6) := by rw [← eM4, mp_n (hR.ne (by decide) (by decide) (by decide))]; exact hM3__R_6_
      have hM4__R_7_ : M4 (R 7) = some (mp_b E 1200 F) := by rw [← eM4, mp_n (hR.ne (by decide) (by decide) (by decide))]; exact hM3__R_7_
      have hM4__R_4_ : M4 (R 4) = some (mp_i E 8 (upd (upd (upd (upd (pd_fold (sh_mix (fun i => tb_Sh_ADDENDS.getD i 0)) true g n (fun j => tb_Sh_START.getD j 0) q) 0 ((pd_fold (sh_mix (fun i => tb_Sh_ADDENDS.getD i 0)) true g n (fun j => tb_Sh_START.getD j 0) q 0) + (sh_rds (fun i => tb_Sh_ADDENDS.getD i 0) (sh_ext W_1 48) (pd_fold (sh_mix (fun i => tb_Sh_ADDENDS.getD i 0)) true g n (fun j => tb_Sh_START.getD j 0) q) 64 0))) 1 ((pd_fold (sh_mix (fun i => tb_Sh_ADDENDS.getD i 0)) true g n (fun j => tb_Sh_START.getD j 0) q 1) + (sh_rds (fun i => tb_Sh_ADDENDS.getD i 0) (sh_ext W_1 48) (pd_fold (sh_mix (fun i => tb_Sh_ADDENDS.getD i 0)) true g n (fun j => tb_Sh_START.getD j 0) q) 64 1))) 2 ((pd_fold (sh_mix (fun i => tb_Sh_ADDENDS.getD i 0)) true g n (fun j => tb_Sh_START.getD j 0) q 2) + (sh_rds (fun i => tb_Sh_ADDENDS.getD i 0) (sh_ext W_1 48) (pd_fold (sh_mix (fun i => tb_Sh_ADDENDS.getD i 0)) true g n (fun j => tb_Sh_START.getD j 0) q) 64 2))) 3 ((pd_fold (sh_mix (fun i => tb_Sh_ADDENDS.getD i 0)) true g n (fun j => tb_Sh_START.getD j 0) q 3) + (sh_rds (fun i => tb_Sh_ADDENDS.getD i 0) (sh_ext W_1 48) (pd_fold (sh_mix (fun i => tb_Sh_ADDENDS.getD i 0)) true g n (fun j => tb_Sh_START.getD j 0) q) 64 3)))) := by rw [← eM4]; exact mp_s
      refine j_aload_n d_Mo_sha_542 rfl 0 rfl ?_
      refine j_get F_Mo hM4__R_0_ 5 (by decide) w_948 (Or.inl rfl) rfl d_Mo_sha_543 ?_
      refine j_iconst (v := nI 4) d_Mo_sha_546 (by decide) ?_
      refine j_dup2_11 d_Mo_sha_547 rfl rfl ?_
      refine j_iald hM4__R_4_ 4 rfl (by omega) (by omega) d_Mo_sha_548 ?_
      refine j_eqi (y := pd_fold (sh_mix (fun i => tb_Sh_ADDENDS.getD i 0)) true g n (fun j => tb_Sh_START.getD j 0) q 4) rfl ?_
      refine j_iload d_Mo_sha_549 11 rfl ?_
      refine j_iadd d_Mo_sha_551 ?_
      refine j_iast hM4__R_4_ 4 rfl (by omega) (by omega) d_Mo_sha_552 ?_
      generalize eM5 : mp_up M4 (R 4) (mp_i E 8 (upd (upd (upd (upd (upd (pd_fold (sh_mix (fun i => tb_Sh_ADDENDS.getD i 0)) true g n (fun j => tb_Sh_START.getD j 0) q) 0 ((pd_fold (sh_mix (fun i => tb_Sh_ADDENDS.getD i 0)) true g n (fun j => tb_Sh_START.getD j 0) q 0) + (sh_rds (fun i => tb_Sh_ADDENDS.getD i 0) (sh_ext W_1 48) (pd_fold (sh_mix (fun i => tb_Sh_ADDENDS.getD i 0)) true g n (fun j => tb_Sh_START.getD j 0) q) 64 0))) 1 ((pd_fold (sh_mix (fun i => tb_Sh_ADDENDS.getD i 0)) true g n (fun j => tb_Sh_START.getD j 0) q 1) + (sh_rds (fun i => tb_Sh_ADDENDS.getD i 0) (sh_ext W_1 48) (pd_fold (sh_mix (fun i => tb_Sh_ADDENDS.getD i 0)) true g n (fun j => tb_Sh_START.getD j 0) q) 64 1))) 2 ((pd_fold (sh_mix (fun i => tb_Sh_ADDENDS.getD i 0)) true g n (fun j => tb_Sh_START.getD j 0) q 2) + (sh_rds (fun i => tb_Sh_ADDENDS.getD i 0) (sh_ext W_1 48) (pd_fold (sh_mix (fun i => tb_Sh_ADDENDS.getD i 0)) true g n (fun j => tb_Sh_START.getD j 0) q) 64 2))) 3 ((pd_fold (sh_mix (fun i => tb_Sh_ADDENDS.getD i 0)) true g n (fun j => tb_Sh_START.getD j 0) q 3) + (sh_rds (fun i => tb_Sh_ADDENDS.getD i 0) (sh_ext W_1 48) (pd_fold (sh_mix (fun i => tb_Sh_ADDENDS.getD i 0)) true g n (fun j => tb_Sh_START.getD j 0) q) 64 3))) 4 ((pd_fold (sh_mix (fun i => tb_Sh_ADDENDS.getD i 0)) true g n (fun j => tb_Sh_START.getD j 0) q 4) + (sh_rds (fun i => tb_Sh_ADDENDS.getD i 0) (sh_ext W_1 48) (pd_fold (sh_mix (fun i => tb_Sh_ADDENDS.getD i 0)) true g n (fun j => tb_Sh_START.getD j 0) q) 64 4)))) = M5
      have hM5__R_0_ : M5 (R 0) = some (mp_o 7 [.ref (R 1), .int (nI rows), .int thr, .ref (R 2), .ref (R 3), .ref (R 4), .ref (R 5), .ref (R 6), .ref (R 7), .ref (R 8), .ref (R 9), .int (nI dp), .int (nI as_), .int (nI ops), .ref (R 10)]) := by rw [← eM5, mp_n (hR.ne (by decide) (by decide) (by decide))]; exact hM4__R_0_
      have hM5__R_5_ : M5 (R 5) = some (mp_i E 64 (sh_ext W_1 48)) := by rw [← eM5, mp_n (hR.ne (by decide) (by decide) (by decide))]; exact hM4__R_5_
      have hM5__R_6_ : M5 (R 6) = some (mp_b E 32 f6) := by rw [← eM5, mp_n (hR.ne (by decide) (by decide) (by decide))]; exact hM4__R_6_
      have hM5__R_7_ : M5 (R 7) = some (mp_b E 1200 F) := by rw [← eM5, mp_n (hR.ne (by decide) (by decide) (by decide))]; exact hM4__R_7_
      have hM5__R_4_ : M5 (R 4) = some (mp_i E 8 (upd (upd (upd (upd (upd (pd_fold (sh_mix (fun i => tb_Sh_ADDENDS.getD i 0)) true g n (fun j => tb_Sh_START.getD j 0) q) 0 ((pd_fold (sh_mix (fun i => tb_Sh_ADDENDS.getD i 0)) true g n (fun j => tb_Sh_START.getD j 0) q 0) + (sh_rds (fun i => tb_Sh_ADDENDS.getD i 0) (sh_ext W_1 48) (pd_fold (sh_mix (fun i => tb_Sh_ADDENDS.getD i 0)) true g n (fun j => tb_Sh_START.getD j 0) q) 64 0))) 1 ((pd_fold (sh_mix (fun i => tb_Sh_ADDENDS.getD i 0)) true g n (fun j => tb_Sh_START.getD j 0) q 1) + (sh_rds (fun i => tb_Sh_ADDENDS.getD i 0) (sh_ext W_1 48) (pd_fold (sh_mix (fun i => tb_Sh_ADDENDS.getD i 0)) true g n (fun j => tb_Sh_START.getD j 0) q) 64 1))) 2 ((pd_fold (sh_mix (fun i => tb_Sh_ADDENDS.getD i 0)) true g n (fun j => tb_Sh_START.getD j 0) q 2) + (sh_rds (fun i => tb_Sh_ADDENDS.getD i 0) (sh_ext W_1 48) (pd_fold (sh_mix (fun i => tb_Sh_ADDENDS.getD i 0)) true g n (fun j => tb_Sh_START.getD j 0) q) 64 2))) 3 ((pd_fold (sh_mix (fun i => tb_Sh_ADDENDS.getD i 0)) true g n (fun j => tb_Sh_START.getD j 0) q 3) + (sh_rds (fun i => tb_Sh_ADDENDS.getD i 0) (sh_ext W_1 48) (pd_fold (sh_mix (fun i => tb_Sh_ADDENDS.getD i 0)) true g n (fun j => tb_Sh_START.getD j 0) q) 64 3))) 4 ((pd_fold (sh_mix (fun i => tb_Sh_ADDENDS.getD i 0)) true g n (fun j => tb_Sh_START.getD j 0) q 4) + (sh_rds (fun i => tb_Sh_ADDENDS.getD i 0) (sh_ext W_1 48) (pd_fold (sh_mix (fun i => tb_Sh_ADDENDS.getD i 0)) true g n (fun j => tb_Sh_START.getD j 0) q) 64 4)))) := by rw [← eM5]; exact mp_s
      refine j_aload_n d_Mo_sha_553 rfl 0 rfl ?_
      refine j_get F_Mo hM5__R_0_ 5 (by decide) w_948 (Or.inl rfl) rfl d_Mo_sha_554 ?_
      refine j_iconst (v := nI 5) d_Mo_sha_557 (by decide) ?_
      refine j_dup2_11 d_Mo_sha_558 rfl rfl ?_
      refine j_iald hM5__R_4_ 5 rfl (by omega) (by omega) d_Mo_sha_559 ?_
      refine j_eqi (y := pd_fold (sh_mix (fun i => tb_Sh_ADDENDS.getD i 0)) true g n (fun j => tb_Sh_START.getD j 0) q 5) rfl ?_
      refine j_iload d_Mo_sha_560 12 rfl ?_
      refine j_iadd d_Mo_sha_562 ?_
      refine j_iast hM5__R_4_ 5 rfl (by omega) (by omega) d_Mo_sha_563 ?_
      generalize eM6 : mp_up M5 (R 4) (mp_i E 8 (upd (upd (upd (upd (upd (upd (pd_fold (sh_mix (fun i => tb_Sh_ADDENDS.getD i 0)) true g n (fun j => tb_Sh_START.getD j 0) q) 0 ((pd_fold (sh_mix (fun i => tb_Sh_ADDENDS.getD i 0)) true g n (fun j => tb_Sh_START.getD j 0) q 0) + (sh_rds (fun i => tb_Sh_ADDENDS.getD i 0) (sh_ext W_1 48) (pd_fold (sh_mix (fun i => tb_Sh_ADDENDS.getD i 0)) true g n (fun j => tb_Sh_START.getD j 0) q) 64 0))) 1 ((pd_fold (sh_mix (fun i => tb_Sh_ADDENDS.getD i 0)) true g n (fun j => tb_Sh_START.getD j 0) q 1) + (sh_rds (fun i => tb_Sh_ADDENDS.getD i 0) (sh_ext W_1 48) (pd_fold (sh_mix (fun i => tb_Sh_ADDENDS.getD i 0)) true g n (fun j => tb_Sh_START.getD j 0) q) 64 1))) 2 ((pd_fold (sh_mix (fun i => tb_Sh_ADDENDS.getD i 0)) true g n (fun j => tb_Sh_START.getD j 0) q 2) + (sh_rds (fun i => tb_Sh_ADDENDS.getD i 0) (sh_ext W_1 48) (pd_fold (sh_mix (fun i => tb_Sh_ADDENDS.getD i 0)) true g n (fun j => tb_Sh_START.getD j 0) q) 64 2))) 3 ((pd_fold (sh_mix (fun i => tb_Sh_ADDENDS.getD i 0)) true g n (fun j => tb_Sh_START.getD j 0) q 3) + (sh_rds (fun i => tb_Sh_ADDENDS.getD i 0) (sh_ext W_1 48) (pd_fold (sh_mix (fun i => tb_Sh_ADDENDS.getD i 0)) true g n (fun j => tb_Sh_START.getD j 0) q) 64 3))) 4 ((pd_fold (sh_mix (fun i => tb_Sh_ADDENDS.getD i 0)) true g n (fun j => tb_Sh_START.getD j 0) q 4) + (sh_rds (fun i => tb_Sh_ADDENDS.getD i 0) (sh_ext W_1 48) (pd_fold (sh_mix (fun i => tb_Sh_ADDENDS.getD i 0)) true g n (fun j => tb_Sh_START.getD j 0) q) 64 4))) 5 ((pd_fold (sh_mix (fun i => tb_Sh_ADDENDS.getD i 0)) true g n (fun j => tb_Sh_START.getD j 0) q 5) + (sh_rds (fun i => tb_Sh_ADDENDS.getD i 0) (sh_ext W_1 48) (pd_fold (sh_mix (fun i => tb_Sh_ADDENDS.getD i 0)) true g n (fun j => tb_Sh_START.getD j 0) q) 64 5)))) = M6
      have hM6__R_0_ : M6 (R 0) = some (mp_o 7 [.ref (R 1), .int (nI rows), .int thr, .ref (R 2), .ref (R 3), .ref (R 4), .ref (R 5), .ref (R 6), .ref (R 7), .ref (R 8), .ref (R 9), .int (nI dp), .int (nI as_), .int (nI ops), .ref (R 10)]) := by rw [← eM6, mp_n (hR.ne (by decide) (by decide) (by decide))]; exact hM5__R_0_
      have hM6__R_5_ : M6 (R 5) = some (mp_i E 64 (sh_ext W_1 48)) := by rw [← eM6, mp_n (hR.ne (by decide) (by decide) (by decide))]; exact hM5__R_5_
      have hM6__R_6_ : M6 (R 6) = some (mp_b E 32 f6) := by rw [← eM6, mp_n (hR.ne (by decide) (by decide) (by decide))]; exact hM5__R_6_
      have hM6__R_7_ : M6 (R 7) = some (mp_b E 1200 F) := by rw [← eM6, mp_n (hR.ne (by decide) (by decide) (by decide))]; exact hM5__R_7_
      have hM6__R_4_ : M6 (R 4) = some (mp_i E 8 (upd (upd (upd (upd (upd (upd (pd_fold (sh_mix (fun i => tb_Sh_ADDENDS.getD i 0)) true g n (fun j => tb_Sh_START.getD j 0) q) 0 ((pd_fold (sh_mix (fun i => tb_Sh_ADDENDS.getD i 0)) true g n (fun j => tb_Sh_START.getD j 0) q 0) + (sh_rds (fun i => tb_Sh_ADDENDS.getD i 0) (sh_ext W_1 48) (pd_fold (sh_mix (fun i => tb_Sh_ADDENDS.getD i 0)) true g n (fun j => tb_Sh_START.getD j 0) q) 64 0))) 1 ((pd_fold (sh_mix (fun i => tb_Sh_ADDENDS.getD i 0)) true g n (fun j => tb_Sh_START.getD j 0) q 1) + (sh_rds (fun i => tb_Sh_ADDENDS.getD i 0) (sh_ext W_1 48) (pd_fold (sh_mix (fun i => tb_Sh_ADDENDS.getD i 0)) true g n (fun j => tb_Sh_START.getD j 0) q) 64 1))) 2 ((pd_fold (sh_mix (fun i => tb_Sh_ADDENDS.getD i 0)) true g n (fun j => tb_Sh_START.getD j 0) q 2) + (sh_rds (fun i => tb_Sh_ADDENDS.getD i 0) (sh_ext W_1 48) (pd_fold (sh_mix (fun i => tb_Sh_ADDENDS.getD i 0)) true g n (fun j => tb_Sh_START.getD j 0) q) 64 2))) 3 ((pd_fold (sh_mix (fun i => tb_Sh_ADDENDS.getD i 0)) true g n (fun j => tb_Sh_START.getD j 0) q 3) + (sh_rds (fun i => tb_Sh_ADDENDS.getD i 0) (sh_ext W_1 48) (pd_fold (sh_mix (fun i => tb_Sh_ADDENDS.getD i 0)) true g n (fun j => tb_Sh_START.getD j 0) q) 64 3))) 4 ((pd_fold (sh_mix (fun i => tb_Sh_ADDENDS.getD i 0)) true g n (fun j => tb_Sh_START.getD j 0) q 4) + (sh_rds (fun i => tb_Sh_ADDENDS.getD i 0) (sh_ext W_1 48) (pd_fold (sh_mix (fun i => tb_Sh_ADDENDS.getD i 0)) true g n (fun j => tb_Sh_START.getD j 0) q) 64 4))) 5 ((pd_fold (sh_mix (fun i => tb_Sh_ADDENDS.getD i 0)) true g n (fun j => tb_Sh_START.getD j 0) q 5) + (sh_rds (fun i => tb_Sh_ADDENDS.getD i 0) (sh_ext W_1 48) (pd_fold (sh_mix (fun i => tb_Sh_ADDENDS.getD i 0)) true g n (fun j => tb_Sh_START.getD j 0) q) 64 5)))) := by rw [← eM6]; exact mp_s
      refine j_aload_n d_Mo_sha_564 rfl 0 rfl ?_
      refine j_get F_Mo hM6__R_0_ 5 (by decide) w_948 (Or.inl rfl) rfl d_Mo_sha_565 ?_
      refine j_bipush (v := nI 6) d_Mo_sha_568 (by decide) ?_
      refine j_dup2_11 d_Mo_sha_570 rfl rfl ?_
      refine j_iald hM6__R_4_ 6 rfl (by omega) (by omega) d_Mo_sha_571 ?_
      refine j_eqi (y := pd_fold (sh_mix (fun i => tb_Sh_ADDENDS.getD i 0)) true g n (fun j => tb_Sh_START.getD j 0) q 6) rfl ?_
      refine j_iload d_Mo_sha_572 13 rfl ?_
      refine j_iadd d_Mo_sha_574 ?_
      refine j_iast hM6__R_4_ 6 rfl (by omega) (by omega) d_Mo_sha_575 ?_
      generalize eM7 : mp_up M6 (R 4) (mp_i E 8 (upd (upd (upd (upd (upd (upd (upd (pd_fold (sh_mix (fun i => tb_Sh_ADDENDS.getD i 0)) true g n (fun j => tb_Sh_START.getD j 0) q) 0 ((pd_fold (sh_mix (fun i => tb_Sh_ADDENDS.getD i 0)) true g n (fun j => tb_Sh_START.getD j 0) q 0) + (sh_rds (fun i => tb_Sh_ADDENDS.getD i 0) (sh_ext W_1 48) (pd_fold (sh_mix (fun i => tb_Sh_ADDENDS.getD i 0)) true g n (fun j => tb_Sh_START.getD j 0) q) 64 0))) 1 ((pd_fold (sh_mix (fun i => tb_Sh_ADDENDS.getD i 0)) true g n (fun j => tb_Sh_START.getD j 0) q 1) + (sh_rds (fun i => tb_Sh_ADDENDS.getD i 0) (sh_ext W_1 48) (pd_fold (sh_mix (fun i => tb_Sh_ADDENDS.getD i 0)) true g n (fun j => tb_Sh_START.getD j 0) q) 64 1))) 2 ((pd_fold (sh_mix (fun i => tb_Sh_ADDENDS.getD i 0)) true g n (fun j => tb_Sh_START.getD j 0) q 2) + (sh_rds (fun i => tb_Sh_ADDENDS.getD i 0) (sh_ext W_1 48) (pd_fold (sh_mix (fun i => tb_Sh_ADDENDS.getD i 0)) true g n (fun j => tb_Sh_START.getD j 0) q) 64 2))) 3 ((pd_fold (sh_mix (fun i => tb_Sh_ADDENDS.getD i 0)) true g n (fun j => tb_Sh_START.getD j 0) q 3) + (sh_rds (fun i => tb_Sh_ADDENDS.getD i 0) (sh_ext W_1 48) (pd_fold (sh_mix (fun i => tb_Sh_ADDENDS.getD i 0)) true g n (fun j => tb_Sh_START.getD j 0) q) 64 3))) 4 ((pd_fold (sh_mix (fun i => tb_Sh_ADDENDS.getD i 0)) true g n (fun j => tb_Sh_START.getD j 0) q 4) + (sh_rds (fun i => tb_Sh_ADDENDS.getD i 0) (sh_ext W_1 48) (pd_fold (sh_mix (fun i => tb_Sh_ADDENDS.getD i 0)) true g n (fun j => tb_Sh_START.getD j 0) q) 64 4))) 5 ((pd_fold (sh_mix (fun i => tb_Sh_ADDENDS.getD i 0)) true g n (fun j => tb_Sh_START.getD j 0) q 5) + (sh_rds (fun i => tb_Sh_ADDENDS.getD i 0) (sh_ext W_1 48) (pd_fold (sh_mix (fun i => tb_Sh_ADDENDS.getD i 0)) true g n (fun j => tb_Sh_START.getD j 0) q) 64 5))) 6 ((pd_fold (sh_mix (fun i => tb_Sh_ADDENDS.getD i 0)) true g n (fun j => tb_Sh_START.getD j 0) q 6) + (sh_rds (fun i => tb_Sh_ADDENDS.getD i 0) (sh_ext W_1 48) (pd_fold (sh_mix (fun i => tb_Sh_ADDENDS.getD i 0)) true g n (fun j => tb_Sh_START.getD j 0) q) 64 6)))) = M7
      have hM7__R_0_ : M7 (R 0) = some (mp_o 7 [.ref (R 1), .int (nI rows), .int thr, .ref (R 2), .ref (R 3), .ref (R 4), .ref (R 5), .ref (R 6), .ref (R 7), .ref (R 8), .ref (R 9), .int (nI dp), .int (nI as_), .int (nI ops), .ref (R 10)]) := by rw [← eM7, mp_n (hR.ne (by decide) (by decide) (by decide))]; exact hM6__R_0_
      have hM7__R_5_ : M7 (R 5) = some (mp_i E 64 (sh_ext W_1 48)) := by rw [← eM7, mp_n (hR.ne (by decide) (by decide) (by decide))]; exact hM6__R_5_
      have hM7__R_6_ : M7 (R 6) = some (mp_b E 32 f6) := by rw [← eM7, mp_n (hR.ne (by decide) (by decide) (by decide))]; exact hM6__R_6_
      have hM7__R_7_ : M7 (R 7) = some (mp_b E 1200 F) := by rw [← eM7, mp_n (hR.ne (by decide) (by decide) (by decide))]; exact hM6__R_7_
      have hM7__R_4_ : M7 (R 4) = some (mp_i E 8 (upd (upd (upd (upd (upd (upd (upd (pd_fold (sh_mix (fun i => tb_Sh_ADDENDS.getD i 0)) true g n (fun j => tb_Sh_START.getD j 0) q) 0 ((pd_fold (sh_mix (fun i => tb_Sh_ADDENDS.getD i 0)) true g n (fun j => tb_Sh_START.getD j 0) q 0) + (sh_rds (fun i => tb_Sh_ADDENDS.getD i 0) (sh_ext W_1 48) (pd_fold (sh_mix (fun i => tb_Sh_ADDENDS.getD i 0)) true g n (fun j => tb_Sh_START.getD j 0) q) 64 0))) 1 ((pd_fold (sh_mix (fun i => tb_Sh_ADDENDS.getD i 0)) true g n (fun j => tb_Sh_START.getD j 0) q 1) + (sh_rds (fun i => tb_Sh_ADDENDS.getD i 0) (sh_ext W_1 48) (pd_fold (sh_mix (fun i => tb_Sh_ADDENDS.getD i 0)) true g n (fun j => tb_Sh_START.getD j 0) q) 64 1))) 2 ((pd_fold (sh_mix (fun i => tb_Sh_ADDENDS.getD i 0)) true g n (fun j => tb_Sh_START.getD j 0) q 2) + (sh_rds (fun i => tb_Sh_ADDENDS.getD i 0) (sh_ext W_1 48) (pd_fold (sh_mix (fun i => tb_Sh_ADDENDS.getD i 0)) true g n (fun j => tb_Sh_START.getD j 0) q) 64 2))) 3 ((pd_fold (sh_mix (fun i => tb_Sh_ADDENDS.getD i 0)) true g n (fun j => tb_Sh_START.getD j 0) q 3) + (sh_rds (fun i => tb_Sh_ADDENDS.getD i 0) (sh_ext W_1 48) (pd_fold (sh_mix (fun i => tb_Sh_ADDENDS.getD i 0)) true g n (fun j => tb_Sh_START.getD j 0) q) 64 3))) 4 ((pd_fold (sh_mix (fun i => tb_Sh_ADDENDS.getD i 0)) true g n (fun j => tb_Sh_START.getD j 0) q 4) + (sh_rds (fun i => tb_Sh_ADDENDS.getD i 0) (sh_ext W_1 48) (pd_fold (sh_mix (fun i => tb_Sh_ADDENDS.getD i 0)) true g n (fun j => tb_Sh_START.getD j 0) q) 64 4))) 5 ((pd_fold (sh_mix (fun i => tb_Sh_ADDENDS.getD i 0)) true g n (fun j => tb_Sh_START.getD j 0) q 5) + (sh_rds (fun i => tb_Sh_ADDENDS.getD i 0) (sh_ext W_1 48) (pd_fold (sh_mix (fun i => tb_Sh_ADDENDS.getD i 0)) true g n (fun j => tb_Sh_START.getD j 0) q) 64 5))) 6 ((pd_fold (sh_mix (fun i => tb_Sh_ADDENDS.getD i 0)) true g n (fun j => tb_Sh_START.getD j 0) q 6) + (sh_rds (fun i => tb_Sh_ADDENDS.getD i 0) (sh_ext W_1 48) (pd_fold (sh_mix (fun i => tb_Sh_ADDENDS.getD i 0)) true g n (fun j => tb_Sh_START.getD j 0) q) 64 6)))) := by rw [← eM7]; exact mp_s
      refine j_aload_n d_Mo_sha_576 rfl 0 rfl ?_
      refine j_get F_Mo hM7__R_0_ 5 (by decide) w_948 (Or.inl rfl) rfl d_Mo_sha_577 ?_
      refine j_bipush (v := nI 7) d_Mo_sha_580 (by decide) ?_
      refine j_dup2_11 d_Mo_sha_582 rfl rfl ?_
      refine j_iald hM7__R_4_ 7 rfl (by omega) (by omega) d_Mo_sha_583 ?_
      refine j_eqi (y := pd_fold (sh_mix (fun i => tb_Sh_ADDENDS.getD i 0)) true g n (fun j => tb_Sh_START.getD j 0) q 7) rfl ?_
      refine j_iload d_Mo_sha_584 14 rfl ?_
      refine j_iadd d_Mo_sha_586 ?_
      refine j_iast hM7__R_4_ 7 rfl (by omega) (by omega) d_Mo_sha_587 ?_
      generalize eM8 : mp_up M7 (R 4) (mp_i E 8 (upd (upd (upd (upd (upd (upd (upd (upd (pd_fold (sh_mix (fun i => tb_Sh_ADDENDS.getD i 0)) true g n (fun j => tb_Sh_START.getD j 0) q) 0 ((pd_fold (sh_mix (fun i => tb_Sh_ADDENDS.getD i 0)) true g n (fun j => tb_Sh_START.getD j 0) q 0) + (sh_rds (fun i => tb_Sh_ADDENDS.getD i 0) (sh_ext W_1 48) (pd_fold (sh_mix (fun i => tb_Sh_ADDENDS.getD i 0)) true g n (fun j => tb_Sh_START.getD j 0) q) 64 0))) 1 ((pd_fold (sh_mix (fun i => tb_Sh_ADDENDS.getD i 0)) true g n (fun j => tb_Sh_START.getD j 0) q 1) + (sh_rds (fun i => tb_Sh_ADDENDS.getD i 0) (sh_ext W_1 48) (pd_fold (sh_mix (fun i => tb_Sh_ADDENDS.getD i 0)) true g n (fun j => tb_Sh_START.getD j 0) q) 64 1))) 2 ((pd_fold (sh_mix (fun i => tb_Sh_ADDENDS.getD i 0)) true g n (fun j => tb_Sh_START.getD j 0) q 2) + (sh_rds (fun i => tb_Sh_ADDENDS.getD i 0) (sh_ext W_1 48) (pd_fold (sh_mix (fun i => tb_Sh_ADDENDS.getD i 0)) true g n (fun j => tb_Sh_START.getD j 0) q) 64 2))) 3 ((pd_fold (sh_mix (fun i => tb_Sh_ADDENDS.getD i 0)) true g n (fun j => tb_Sh_START.getD j 0) q 3) + (sh_rds (fun i => tb_Sh_ADDENDS.getD i 0) (sh_ext W_1 48) (pd_fold (sh_mix (fun i => tb_Sh_ADDENDS.getD i 0)) true g n (fun j => tb_Sh_START.getD j 0) q) 64 3))) 4 ((pd_fold (sh_mix (fun i => tb_Sh_ADDENDS.getD i 0)) true g n (fun j => tb_Sh_START.getD j 0) q 4) + (sh_rds (fun i => tb_Sh_ADDENDS.getD i 0) (sh_ext W_1 48) (pd_fold (sh_mix (fun i => tb_Sh_ADDENDS.getD i 0)) true g n (fun j => tb_Sh_START.getD j 0) q) 64 4))) 5 ((pd_fold (sh_mix (fun i => tb_Sh_ADDENDS.getD i 0)) true g n (fun j => tb_Sh_START.getD j 0) q 5) + (sh_rds (fun i => tb_Sh_ADDENDS.getD i 0) (sh_ext W_1 48) (pd_fold (sh_mix (fun i => tb_Sh_ADDENDS.getD i 0)) true g n (fun j => tb_Sh_START.getD j 0) q) 64 5))) 6 ((pd_fold (sh_mix (fun i => tb_Sh_ADDENDS.getD i 0)) true g n (fun j => tb_Sh_START.getD j 0) q 6) + (sh_rds (fun i => tb_Sh_ADDENDS.getD i 0) (sh_ext W_1 48) (pd_fold (sh_mix (fun i => tb_Sh_ADDENDS.getD i 0)) true g n (fun j => tb_Sh_START.getD j 0) q) 64 6))) 7 ((pd_fold (sh_mix (fun i => tb_Sh_ADDENDS.getD i 0)) true g n (fun j => tb_Sh_START.getD j 0) q 7) + (sh_rds (fun i => tb_Sh_ADDENDS.getD i 0) (sh_ext W_1 48) (pd_fold (sh_mix (fun i => tb_Sh_ADDENDS.getD i 0)) true g n (fun j => tb_Sh_START.getD j 0) q) 64 7)))) = M8
      have hM8__R_0_ : M8 (R 0) = some (mp_o 7 [.ref (R 1), .int (nI rows), .int thr, .ref (R 2), .ref (R 3), .ref (R 4), .ref (R 5), .ref (R 6), .ref (R 7), .ref (R 8), .ref (R 9), .int (nI dp), .int (nI as_), .int (nI ops), .ref (R 10)]) := by rw [← eM8, mp_n (hR.ne (by decide) (by decide) (by decide))]; exact hM7__R_0_
      have hM8__R_5_ : M8 (R 5) = some (mp_i E 64 (sh_ext W_1 48)) := by rw [← eM8, mp_n (hR.ne (by decide) (by decide) (by decide))]; exact hM7__R_5_
      have hM8__R_6_ : M8 (R 6) = some (mp_b E 32 f6) := by rw [← eM8, mp_n (hR.ne (by decide) (by decide) (by decide))]; exact hM7__R_6_
      have hM8__R_7_ : M8 (R 7) = some (mp_b E 1200 F) := by rw [← eM8, mp_n (hR.ne (by decide) (by decide) (by decide))]; exact hM7__R_7_
      have hM8__R_4_ : M8 (R 4) = some (mp_i E 8 (upd (upd (upd (upd (upd (upd (upd (upd (pd_fold (sh_mix (fun i => tb_Sh_ADDENDS.getD i 0)) true g n (fun j => tb_Sh_START.getD j 0) q) 0 ((pd_fold (sh_mix (fun i => tb_Sh_ADDENDS.getD i 0)) true g n (fun j => tb_Sh_START.getD j 0) q 0) + (sh_rds (fun i => tb_Sh_ADDENDS.getD i 0) (sh_ext W_1 48) (pd_fold (sh_mix (fun i => tb_Sh_ADDENDS.getD i 0)) true g n (fun j => tb_Sh_START.getD j 0) q) 64 0))) 1 ((pd_fold (sh_mix (fun i => tb_Sh_ADDENDS.getD i 0)) true g n (fun j => tb_Sh_START.getD j 0) q 1) + (sh_rds (fun i => tb_Sh_ADDENDS.getD i 0) (sh_ext W_1 48) (pd_fold (sh_mix (fun i => tb_Sh_ADDENDS.getD i 0)) true g n (fun j => tb_Sh_START.getD j 0) q) 64 1))) 2 ((pd_fold (sh_mix (fun i => tb_Sh_ADDENDS.getD i 0)) true g n (fun j => tb_Sh_START.getD j 0) q 2) + (sh_rds (fun i => tb_Sh_ADDENDS.getD i 0) (sh_ext W_1 48) (pd_fold (sh_mix (fun i => tb_Sh_ADDENDS.getD i 0)) true g n (fun j => tb_Sh_START.getD j 0) q) 64 2))) 3 ((pd_fold (sh_mix (fun i => tb_Sh_ADDENDS.getD i 0)) true g n (fun j => tb_Sh_START.getD j 0) q 3) + (sh_rds (fun i => tb_Sh_ADDENDS.getD i 0) (sh_ext W_1 48) (pd_fold (sh_mix (fun i => tb_Sh_ADDENDS.getD i 0)) true g n (fun j => tb_Sh_START.getD j 0) q) 64 3))) 4 ((pd_fold (sh_mix (fun i => tb_Sh_ADDENDS.getD i 0)) true g n (fun j => tb_Sh_START.getD j 0) q 4) + (sh_rds (fun i => tb_Sh_ADDENDS.getD i 0) (sh_ext W_1 48) (pd_fold (sh_mix (fun i => tb_Sh_ADDENDS.getD i 0)) true g n (fun j => tb_Sh_START.getD j 0) q) 64 4))) 5 ((pd_fold (sh_mix (fun i => tb_Sh_ADDENDS.getD i 0)) true g n (fun j => tb_Sh_START.getD j 0) q 5) + (sh_rds (fun i => tb_Sh_ADDENDS.getD i 0) (sh_ext W_1 48) (pd_fold (sh_mix (fun i => tb_Sh_ADDENDS.getD i 0)) true g n (fun j => tb_Sh_START.getD j 0) q) 64 5))) 6 ((pd_fold (sh_mix (fun i => tb_Sh_ADDENDS.getD i 0)) true g n (fun j => tb_Sh_START.getD j 0) q 6) + (sh_rds (fun i => tb_Sh_ADDENDS.getD i 0) (sh_ext W_1 48) (pd_fold (sh_mix (fun i => tb_Sh_ADDENDS.getD i 0)) true g n (fun j => tb_Sh_START.getD j 0) q) 64 6))) 7 ((pd_fold (sh_mix (fun i => tb_Sh_ADDENDS.getD i 0)) true g n (fun j => tb_Sh_START.getD j 0) q 7) + (sh_rds (fun i => tb_Sh_ADDENDS.getD i 0) (sh_ext W_1 48) (pd_fold (sh_mix (fun i => tb_Sh_ADDENDS.getD i 0)) true g n (fun j => tb_Sh_START.getD j 0) q) 64 7)))) := by rw [← eM8]; exact mp_s
      refine j_canon (pd_fold (sh_mix (fun i => tb_Sh_ADDENDS.getD i 0)) true g n (fun j => tb_Sh_START.getD j 0) (q + 1)) hM8__R_4_ (fun j hj => by rw [show pd_fold (sh_mix (fun i => tb_Sh_ADDENDS.getD i 0)) true g n (fun j => tb_Sh_START.getD j 0) (q + 1) = sh_mix (fun i => tb_Sh_ADDENDS.getD i 0) (pd_fold (sh_mix (fun i => tb_Sh_ADDENDS.getD i 0)) true g n (fun j => tb_Sh_START.getD j 0) q) W_1 from (sh_mix_c (K := (fun i => tb_Sh_ADDENDS.getD i 0)) (S := pd_fold (sh_mix (fun i => tb_Sh_ADDENDS.getD i 0)) true g n (fun j => tb_Sh_START.getD j 0) q) hW_1).symm]; rcases (show j = 0 ∨ j = 1 ∨ j = 2 ∨ j = 3 ∨ j = 4 ∨ j = 5 ∨ j = 6 ∨ j = 7 by omega) with rfl | rfl | rfl | rfl | rfl | rfl | rfl | rfl <;> rfl) ?_
      show mp_J Γ m_Mo_sha E κ (mp_up M8 (R 4) (mp_i E 8 (pd_fold (sh_mix (fun i => tb_Sh_ADDENDS.getD i 0)) true g n (fun j => tb_Sh_START.getD j 0) (q + 1)))) [(0, .ref (R 0)), (1, .ref b), (2, .int (nI p)), (3, .int (nI n)), (4, .int (nI (pd_blocks n))), (5, .int (nI (64 * pd_blocks n))), (6, .int (nI q)), (7, .int (sh_rds (fun i => tb_Sh_ADDENDS.getD i 0) (sh_ext W_1 48) (pd_fold (sh_mix (fun i => tb_Sh_ADDENDS.getD i 0)) true g n (fun j => tb_Sh_START.getD j 0) q) 64 0)), (8, .int (sh_rds (fun i => tb_Sh_ADDENDS.getD i 0) (sh_ext W_1 48) (pd_fold (sh_mix (fun i => tb_Sh_ADDENDS.getD i 0)) true g n (fun j => tb_Sh_START.getD j 0) q) 64 1)), (9, .int (sh_rds (fun i => tb_Sh_ADDENDS.getD i 0) (sh_ext W_1 48) (pd_fold (sh_mix (fun i => tb_Sh_ADDENDS.getD i 0)) true g n (fun j => tb_Sh_START.getD j 0) q) 64 2)), (10, .int (sh_rds (fun i => tb_Sh_ADDENDS.getD i 0) (sh_ext W_1 48) (pd_fold (sh_mix (fun i => tb_Sh_ADDENDS.getD i 0)) true g n (fun j => tb_Sh_START.getD j 0) q) 64 3)), (11, .int (sh_rds (fun i => tb_Sh_ADDENDS.getD i 0) (sh_ext W_1 48) (pd_fold (sh_mix (fun i => tb_Sh_ADDENDS.getD i 0)) true g n (fun j => tb_Sh_START.getD j 0) q) 64 4)), (12, .int (sh_rds (fun i => tb_Sh_ADDENDS.getD i 0) (sh_ext W_1 48) (pd_fold (sh_mix (fun i => tb_Sh_ADDENDS.getD i 0)) true g n (fun j => tb_Sh_START.getD j 0) q) 64 5)), (13, .int (sh_rds (fun i => tb_Sh_ADDENDS.getD i 0) (sh_ext W_1 48) (pd_fold (sh_mix (fun i => tb_Sh_ADDENDS.getD i 0)) true g n (fun j => tb_Sh_START.getD j 0) q) 64 6)), (14, .int (sh_rds (fun i => tb_Sh_ADDENDS.getD i 0) (sh_ext W_1 48) (pd_fold (sh_mix (fun i => tb_Sh_ADDENDS.getD i 0)) true g n (fun j => tb_Sh_START.getD j 0) q) 64 7))] 588 [] 0 0
      generalize eM9 : mp_up M8 (R 4) (mp_i E 8 (pd_fold (sh_mix (fun i => tb_Sh_ADDENDS.getD i 0)) true g n (fun j => tb_Sh_START.getD j 0) (q + 1))) = M9
      have hM9__R_0_ : M9 (R 0) = some (mp_o 7 [.ref (R 1), .int (nI rows), .int thr, .ref (R 2), .ref (R 3), .ref (R 4), .ref (R 5), .ref (R 6), .ref (R 7), .ref (R 8), .ref (R 9), .int (nI dp), .int (nI as_), .int (nI ops), .ref (R 10)]) := by rw [← eM9, mp_n (hR.ne (by decide) (by decide) (by decide))]; exact hM8__R_0_
      have hM9__R_5_ : M9 (R 5) = some (mp_i E 64 (sh_ext W_1 48)) := by rw [← eM9, mp_n (hR.ne (by decide) (by decide) (by decide))]; exact hM8__R_5_
      have hM9__R_6_ : M9 (R 6) = some (mp_b E 32 f6) := by rw [← eM9, mp_n (hR.ne (by decide) (by decide) (by decide))]; exact hM8__R_6_
      have hM9__R_7_ : M9 (R 7) = some (mp_b E 1200 F) := by rw [← eM9, mp_n (hR.ne (by decide) (by decide) (by decide))]; exact hM8__R_7_
      have hM9__R_4_ : M9 (R 4) = some (mp_i E 8 (pd_fold (sh_mix (fun i => tb_Sh_ADDENDS.getD i 0)) true g n (fun j => tb_Sh_START.getD j 0) (q + 1))) := by rw [← eM9]; exact mp_s
      refine j_iinc (v := nI (q + 1)) [(6, .int (nI (q + 1))), (0, .ref (R 0)), (1, .ref b), (2, .int (nI p)), (3, .int (nI n)), (4, .int (nI (pd_blocks n))), (5, .int (nI (64 * pd_blocks n))), (7, .int (sh_rds (fun i => tb_Sh_ADDENDS.getD i 0) (sh_ext W_1 48) (pd_fold (sh_mix (fun i => tb_Sh_ADDENDS.getD i 0)) true g n (fun j => tb_Sh_START.getD j 0) q) 64 0)), (8, .int (sh_rds (fun i => tb_Sh_ADDENDS.getD i 0) (sh_ext W_1 48) (pd_fold (sh_mix (fun i => tb_Sh_ADDENDS.getD i 0)) true g n (fun j => tb_Sh_START.getD j 0) q) 64 1)), (9, .int (sh_rds (fun i => tb_Sh_ADDENDS.getD i 0) (sh_ext W_1 48) (pd_fold (sh_mix (fun i => tb_Sh_ADDENDS.getD i 0)) true g n (fun j => tb_Sh_START.getD j 0) q) 64 2)), (10, .int (sh_rds (fun i => tb_Sh_ADDENDS.getD i 0) (sh_ext W_1 48) (pd_fold (sh_mix (fun i => tb_Sh_ADDENDS.getD i 0)) true g n (fun j => tb_Sh_START.getD j 0) q) 64 3)), (11, .int (sh_rds (fun i => tb_Sh_ADDENDS.getD i 0) (sh_ext W_1 48) (pd_fold (sh_mix (fun i => tb_Sh_ADDENDS.getD i 0)) true g n (fun j => tb_Sh_START.getD j 0) q) 64 4)), (12, .int (sh_rds (fun i => tb_Sh_ADDENDS.getD i 0) (sh_ext W_1 48) (pd_fold (sh_mix (fun i => tb_Sh_ADDENDS.getD i 0)) true g n (fun j => tb_Sh_START.getD j 0) q) 64 5)), (13, .int (sh_rds (fun i => tb_Sh_ADDENDS.getD i 0) (sh_ext W_1 48) (pd_fold (sh_mix (fun i => tb_Sh_ADDENDS.getD i 0)) true g n (fun j => tb_Sh_START.getD j 0) q) 64 6)), (14, .int (sh_rds (fun i => tb_Sh_ADDENDS.getD i 0) (sh_ext W_1 48) (pd_fold (sh_mix (fun i => tb_Sh_ADDENDS.getD i 0)) true g n (fun j => tb_Sh_START.getD j 0) q) 64 7))] d_Mo_sha_588 6 rfl (nI_add q 1) (by decide) rfl ?_
      refine j_goto (tgt := 121) d_Mo_sha_591 (by decide) ?_
      refine j_lv [1, 2, 3, 4, 5, 6, 0] rfl ?_
      exact ih M9 (sh_ext W_1 48) (q + 1) (by omega) hM9__R_0_ hM9__R_4_ hM9__R_5_ hM9__R_6_ hM9__R_7_ (fun a h4 h5 h6 h7 => by rw [← eM9, mp_n h4, ← eM8, mp_n h4, ← eM7, mp_n h4, ← eM6, mp_n h4, ← eM5, mp_n h4, ← eM4, mp_n h4, ← eM3, mp_n h4, ← eM2, mp_n h4, ← eM1, mp_n h4]; try exact fS_2 a h4 h5 h6 h7) (by omega)

set_option maxHeartbeats 4000000 in
set_option maxRecDepth 100000 in
theorem lp8_sh {Γ : mp_G} {κ : mp_K} (E : mp_E) (M : mp_M) (R : Nat → Nat) (rows : Nat) (thr : Int32) (dp as_ ops b p n : Nat) (g : Nat → Int32) (S f5 f7 : Nat → Int32) (k : Nat) (hR : RL R) (hn : n ≤ 1000) (hκd : κ.2.1 = 2) (hk : k < 8) (hx : ∀ (Mx : mp_M) (H : Nat → Int32), (Mx (R 0) = some (mp_o 7 [.ref (R 1), .int (nI rows), .int thr, .ref (R 2), .ref (R 3), .ref (R 4), .ref (R 5), .ref (R 6), .ref (R 7), .ref (R 8), .ref (R 9), .int (nI dp), .int (nI as_), .int (nI ops), .ref (R 10)])) → (Mx (R 4) = some (mp_i E 8 S)) → (Mx (R 5) = some (mp_i E 64 f5)) → (Mx (R 6) = some (mp_b E 32 H)) → (Mx (R 7) = some (mp_b E 1200 f7)) → (SFr R M Mx) → (∀ e, e < 4 * k + 4 → H e = pd_byte true S e) → mp_J Γ m_Mo_sha E κ Mx [(0, .ref (R 0)), (1, .ref b), (2, .int (nI p)), (3, .int (nI n)), (4, .int (nI (pd_blocks n))), (5, .int (nI (64 * pd_blocks n))), (6, .int (nI k))] 648 [] 0 0)  : ∀ (r : Nat) (Mx : mp_M) (H : Nat → Int32) (j : Nat), 4 - j < r → (Mx (R 0) = some (mp_o 7 [.ref (R 1), .int (nI rows), .int thr, .ref (R 2), .ref (R 3), .ref (R 4), .ref (R 5), .ref (R 6), .ref (R 7), .ref (R 8), .ref (R 9), .int (nI dp), .int (nI as_), .int (nI ops), .ref (R 10)])) → (Mx (R 4) = some (mp_i E 8 S)) → (Mx (R 5) = some (mp_i E 64 f5)) → (Mx (R 6) = some (mp_b E 32 H)) → (Mx (R 7) = some (mp_b E 1200 f7)) → (SFr R M Mx) → (∀ e, e < 4 * k + j → H e = pd_byte true S e) → (j ≤ 4) → mp_J Γ m_Mo_sha E κ Mx [(0, .ref (R 0)), (1, .ref b), (2, .int (nI p)), (3, .int (nI n)), (4, .int (nI (pd_blocks n))), (5, .int (nI (64 * pd_blocks n))), (6, .int (nI k)), (7, .int (nI j))] 607 [] 0 0 := by
  intro r
  induction r with
  | zero => intro Mx H j hr; exact absurd hr (Nat.not_lt_zero _)
  | succ r ih =>
    intro Mx H j hr x0 x4 x5 x6 x7 fS hH hj
    refine j_iload d_Mo_sha_607 7 rfl ?_
    refine j_iconst (v := nI 4) d_Mo_sha_609 (by decide) ?_
    refine j_ncmp_ge 648 j 4 rfl rfl (by omega) (by omega) d_Mo_sha_610 (by decide) (fun b610 => ?_) (fun b610 => ?_)
    · skip
      refine j_lv [0, 1, 2, 3, 4, 5, 6] rfl ?_
      exact hx Mx H x0 x4 x5 x6 x7 fS (fun e he => hH e (by omega))
    · skip
      refine j_aload_n d_Mo_sha_613 rfl 0 rfl ?_
      refine j_get F_Mo x0 7 (by decide) w_950 (Or.inl rfl) rfl d_Mo_sha_614 ?_
      refine j_iconst (v := nI 4) d_Mo_sha_617 (by decide) ?_
      refine j_iload d_Mo_sha_618 6 rfl ?_
      refine j_imul d_Mo_sha_620 ?_
      refine j_eqi (y := nI (4 * k)) (pk_mul 4 k) ?_
      refine j_iload d_Mo_sha_621 7 rfl ?_
      refine j_iadd d_Mo_sha_623 ?_
      refine j_eqi (y := nI ((4 * k) + j)) (nI_add (4 * k) j) ?_
      refine j_aload_n d_Mo_sha_624 rfl 0 rfl ?_
      refine j_get F_Mo x0 5 (by decide) w_948 (Or.inl rfl) rfl d_Mo_sha_625 ?_
      refine j_iload d_Mo_sha_628 6 rfl ?_
      refine j_iald x4 k rfl (by omega) (by omega) d_Mo_sha_630 ?_
      refine j_bipush (v := nI 24) d_Mo_sha_631 (by decide) ?_
      refine j_bipush (v := nI 8) d_Mo_sha_633 (by decide) ?_
      refine j_iload d_Mo_sha_635 7 rfl ?_
      refine j_imul d_Mo_sha_637 ?_
      refine j_eqi (y := nI (8 * j)) (pk_mul 8 j) ?_
      refine j_isub d_Mo_sha_638 ?_
      refine j_eqi (y := nI (24 - (8 * j))) (pk_sub (by omega)) ?_
      refine j_ishr d_Mo_sha_639 ?_
      refine j_i2b d_Mo_sha_640 ?_
      refine j_eqi (y := pd_byte true S (4 * k + j)) (by unfold pd_byte; rw [show (4 * k + j) / 4 = k by omega, show (4 * k + j) % 4 = j by omega]; rfl) ?_
      refine j_bast (y := pd_byte true S (4 * k + j)) x6 ((4 * k) + j) rfl (by omega) (by omega) (pk_vb _) d_Mo_sha_641 ?_
      generalize eM1 : mp_up Mx (R 6) (mp_b E 32 (upd H ((4 * k) + j) (pd_byte true S (4 * k + j)))) = M1
      have hM1__R_0_ : M1 (R 0) = some (mp_o 7 [.ref (R 1), .int (nI rows), .int thr, .ref (R 2), .ref (R 3), .ref (R 4), .ref (R 5), .ref (R 6), .ref (R 7), .ref (R 8), .ref (R 9), .int (nI dp), .int (nI as_), .int (nI ops), .ref (R 10)]) := by rw [← eM1, mp_n (hR.ne (by decide) (by decide) (by decide))]; exact x0
      have hM1__R_4_ : M1 (R 4) = some (mp_i E 8 S) := by rw [← eM1, mp_n (hR.ne (by decide) (by decide) (by decide))]; exact x4
      have hM1__R_5_ : M1 (R 5) = some (mp_i E 64 f5) := by rw [← eM1, mp_n (hR.ne (by decide) (by decide) (by decide))]; exact x5
      have hM1__R_7_ : M1 (R 7) = some (mp_b E 1200 f7) := by rw [← eM1, mp_n (hR.ne (by decide) (by decide) (by decide))]; exact x7
      have hM1__R_6_ : M1 (R 6) = some (mp_b E 32 (upd H ((4 * k) + j) (pd_byte true S (4 * k + j)))) := by rw [← eM1]; exact mp_s
      refine j_iinc (v := nI (j + 1)) [(7, .int (nI (j + 1))), (0, .ref (R 0)), (1, .ref b), (2, .int (nI p)), (3, .int (nI n)), (4, .int (nI (pd_blocks n))), (5, .int (nI (64 * pd_blocks n))), (6, .int (nI k))] d_Mo_sha_642 7 rfl (nI_add j 1) (by decide) rfl ?_
      refine j_goto (tgt := 607) d_Mo_sha_645 (by decide) ?_
      refine j_lv [1, 2, 3, 4, 5, 6, 7, 0] rfl ?_
      exact ih M1 (upd H (4 * k + j) (pd_byte true S (4 * k + j))) (j + 1) (by omega) hM1__R_0_ hM1__R_4_ hM1__R_5_ hM1__R_6_ hM1__R_7_ (fun a h4 h5 h6 h7 => by rw [← eM1, mp_n h6]; try exact fS a h4 h5 h6 h7) (fun e he => (Classical.em (e = 4 * k + j)).elim (fun z => by rw [z, pk_us]) (fun z => by rw [pk_un z]; exact hH e (by omega))) (by omega)

set_option maxHeartbeats 4000000 in
set_option maxRecDepth 100000 in
theorem lp7_sh {Γ : mp_G} {κ : mp_K} (E : mp_E) (M : mp_M) (R : Nat → Nat) (rows : Nat) (thr : Int32) (dp as_ ops b p n : Nat) (g : Nat → Int32) (S f5 f7 : Nat → Int32) (P : Option Value → mp_M → Prop) (hR : RL R) (hn : n ≤ 1000) (hP : ∀ (Mx : mp_M) (H : Nat → Int32), (Mx (R 0) = some (mp_o 7 [.ref (R 1), .int (nI rows), .int thr, .ref (R 2), .ref (R 3), .ref (R 4), .ref (R 5), .ref (R 6), .ref (R 7), .ref (R 8), .ref (R 9), .int (nI dp), .int (nI as_), .int (nI ops), .ref (R 10)])) → (Mx (R 4) = some (mp_i E 8 S)) → (Mx (R 5) = some (mp_i E 64 f5)) → (Mx (R 6) = some (mp_b E 32 H)) → (Mx (R 7) = some (mp_b E 1200 f7)) → (SFr R M Mx) → (∀ e, e < 32 → H e = pd_byte true S e) → P none (mp_up Mx (R 6) (mp_b E 32 (pd_byte true S)))) (hκ : mp_k κ 2 0 0 (P)) : ∀ (r : Nat) (Mx : mp_M) (H : Nat → Int32) (k : Nat), 8 - k < r → (Mx (R 0) = some (mp_o 7 [.ref (R 1), .int (nI rows), .int thr, .ref (R 2), .ref (R 3), .ref (R 4), .ref (R 5), .ref (R 6), .ref (R 7), .ref (R 8), .ref (R 9), .int (nI dp), .int (nI as_), .int (nI ops), .ref (R 10)])) → (Mx (R 4) = some (mp_i E 8 S)) → (Mx (R 5) = some (mp_i E 64 f5)) → (Mx (R 6) = some (mp_b E 32 H)) → (Mx (R 7) = some (mp_b E 1200 f7)) → (SFr R M Mx) → (∀ e, e < 4 * k → H e = pd_byte true S e) → (k ≤ 8) → mp_J Γ m_Mo_sha E κ Mx [(0, .ref (R 0)), (1, .ref b), (2, .int (nI p)), (3, .int (nI n)), (4, .int (nI (pd_blocks n))), (5, .int (nI (64 * pd_blocks n))), (6, .int (nI k))] 597 [] 0 0 := by
  obtain ⟨hκd, hκc, hκs, -⟩ := id hκ
  intro r
  induction r with
  | zero => intro Mx H k hr; exact absurd hr (Nat.not_lt_zero _)
  | succ r ih =>
    intro Mx H k hr x0 x4 x5 x6 x7 fS hH hk
    refine j_iload d_Mo_sha_597 6 rfl ?_
    refine j_bipush (v := nI 8) d_Mo_sha_599 (by decide) ?_
    refine j_ncmp_ge 654 k 8 rfl rfl (by omega) (by omega) d_Mo_sha_601 (by decide) (fun b601 => ?_) (fun b601 => ?_)
    · skip
      refine j_canon (pd_byte true S) x6 (fun j hj => hH j (by omega)) ?_
      show mp_J Γ m_Mo_sha E κ (mp_up Mx (R 6) (mp_b E 32 (pd_byte true S))) [(0, .ref (R 0)), (1, .ref b), (2, .int (nI p)), (3, .int (nI n)), (4, .int (nI (pd_blocks n))), (5, .int (nI (64 * pd_blocks n))), (6, .int (nI k))] 654 [] 0 0
      generalize eM1 : mp_up Mx (R 6) (mp_b E 32 (pd_byte true S)) = M1
      have hM1__R_0_ : M1 (R 0) = some (mp_o 7 [.ref (R 1), .int (nI rows), .int thr, .ref (R 2), .ref (R 3), .ref (R 4), .ref (R 5), .ref (R 6), .ref (R 7), .ref (R 8), .ref (R 9), .int (nI dp), .int (nI as_), .int (nI ops), .ref (R 10)]) := by rw [← eM1, mp_n (hR.ne (by decide) (by decide) (by decide))]; exact x0
      have hM1__R_4_ : M1 (R 4) = some (mp_i E 8 S) := by rw [← eM1, mp_n (hR.ne (by decide) (by decide) (by decide))]; exact x4
      have hM1__R_5_ : M1 (R 5) = some (mp_i E 64 f5) := by rw [← eM1, mp_n (hR.ne (by decide) (by decide) (by decide))]; exact x5
      have hM1__R_7_ : M1 (R 7) = some (mp_b E 1200 f7) := by rw [← eM1, mp_n (hR.ne (by decide) (by decide) (by decide))]; exact x7
      have hM1__R_6_ : M1 (R 6) = some (mp_b E 32 (pd_byte true S)) := by rw [← eM1]; exact mp_s
      exact j_vret hκ rfl (by omega) (by omega) d_Mo_sha_654 (by rw [← eM1]; exact hP Mx H x0 x4 x5 x6 x7 fS (fun e he => hH e (by omega)))
    · skip
      refine j_iconst (v := nI 0) d_Mo_sha_604 (by decide) ?_
      refine j_istore [(7, .int (nI 0)), (0, .ref (R 0)), (1, .ref b), (2, .int (nI p)), (3, .int (nI n)), (4, .int (nI (pd_blocks n))), (5, .int (nI (64 * pd_blocks n))), (6, .int (nI k))] d_Mo_sha_605 (by decide) rfl ?_
      refine j_lv [1, 2, 3, 4, 5, 6, 7, 0] rfl ?_
      refine lp8_sh E M R rows thr dp as_ ops b p n g S f5 f7 k hR hn hκd (by omega) ?_ 5 Mx H 0 (by omega) x0 x4 x5 x6 x7 fS (fun e he => hH e (by omega)) (by omega)
      intro Mx_3 H_3 x0_3 x4_3 x5_3 x6_3 x7_3 fS_3 hH_3
      refine j_iinc (v := nI (k + 1)) [(6, .int (nI (k + 1))), (0, .ref (R 0)), (1, .ref b), (2, .int (nI p)), (3, .int (nI n)), (4, .int (nI (pd_blocks n))), (5, .int (nI (64 * pd_blocks n)))] d_Mo_sha_648 6 rfl (nI_add k 1) (by decide) rfl ?_
      refine j_goto (tgt := 597) d_Mo_sha_651 (by decide) ?_
      refine j_lv [1, 2, 3, 4, 5, 6, 0] rfl ?_
      exact ih Mx_3 H_3 (k + 1) (by omega) x0_3 x4_3 x5_3 x6_3 x7_3 fS_3 (fun e he => hH_3 e (by omega)) (by omega)

set_option maxHeartbeats 4000000 in
set_option maxRecDepth 100000 in
theorem c_Mo_sha (l : Launch) (E : mp_E) (M : mp_M) (R : Nat → Nat) (rows : Nat) (thr : Int32) (dp as_ ops : Nat) (A : Nat → am_T) (b m p n : Nat) (f : Nat → Int32) (hI : RI E M R rows thr dp as_ ops A) (hR : RL R) (hb : M b = some (mp_b E m f)) (hm : m ≤ 104448) (hpn : p + n ≤ m) (hn : n ≤ 1000) (hfit : ∀ i, i < m → fits .byte (.int (f i)) = true) (hbp : b ≠ R 7) : mp_Cr l m_Mo_sha E M 2 0 0 [.ref (R 0), .ref b, .int (nI p), .int (nI n)] (fun v N => v = none ∧ RI E N R rows thr dp as_ ops A ∧ N (R 6) = some (mp_b E 32 (sm_sha (fun e => f (p + e)) n)) ∧ RFr R M N) := by
  refine mp_Cr.of (by decide) (Nat.le_of_ble_eq_true rfl) fun Γ κ hl hκ => ?_
  subst hl
  obtain ⟨hκd, hκc, hκs, -⟩ := id hκ
  obtain ⟨x0, ⟨f4, x4⟩, ⟨f5, x5⟩, ⟨f6, x6, y6⟩, ⟨f7, x7⟩, ra⟩ := id hI
  have hB := pd_bl9 hn
  have fS : SFr R M M := fun _ _ _ _ _ => rfl
  show mp_J Γ m_Mo_sha E κ M [(0, .ref (R 0)), (1, .ref b), (2, .int (nI p)), (3, .int (nI n))] 0 [] 0 0
  refine j_iload_n d_Mo_sha_0 rfl 3 rfl ?_
  refine j_bipush (v := nI 9) d_Mo_sha_1 (by decide) ?_
  refine j_iadd d_Mo_sha_3 ?_
  refine j_eqi (y := nI (n + 9)) (nI_add n 9) ?_
  refine j_bipush (v := nI 63) d_Mo_sha_4 (by decide) ?_
  refine j_iadd d_Mo_sha_6 ?_
  refine j_eqi (y := nI ((n + 9) + 63)) (nI_add (n + 9) 63) ?_
  refine j_bipush (v := nI 64) d_Mo_sha_7 (by decide) ?_
  refine j_idiv (by decide) d_Mo_sha_9 ?_
  refine j_eqi (y := nI (((n + 9) + 63) / 64)) (pk_div (by omega) (by decide) (by decide)) ?_
  refine j_eqi (y := nI (pd_blocks n)) (by rw [pd_all]) ?_
  refine j_istore [(4, .int (nI (pd_blocks n))), (0, .ref (R 0)), (1, .ref b), (2, .int (nI p)), (3, .int (nI n))] d_Mo_sha_10 (by decide) rfl ?_
  refine j_bipush (v := nI 64) d_Mo_sha_12 (by decide) ?_
  refine j_iload d_Mo_sha_14 0 rfl ?_
  refine j_imul d_Mo_sha_16 ?_
  refine j_eqi (y := nI (64 * (pd_blocks n))) (pk_mul 64 (pd_blocks n)) ?_
  refine j_istore [(5, .int (nI (64 * (pd_blocks n)))), (4, .int (nI (pd_blocks n))), (0, .ref (R 0)), (1, .ref b), (2, .int (nI p)), (3, .int (nI n))] d_Mo_sha_17 (by decide) rfl ?_
  refine j_aload_n d_Mo_sha_19 rfl 3 rfl ?_
  refine j_iload_n d_Mo_sha_20 rfl 4 rfl ?_
  refine j_aload_n d_Mo_sha_21 rfl 2 rfl ?_
  refine j_get F_Mo x0 8 (by decide) w_951 (Or.inl rfl) rfl d_Mo_sha_22 ?_
  refine j_iconst (v := nI 0) d_Mo_sha_25 (by decide) ?_
  refine j_iload_n d_Mo_sha_26 rfl 5 rfl ?_
  refine j_copy 0 rfl rfl w_1014 w_489 w_488 w_25 hb x7 p 0 n rfl rfl rfl hpn (by omega) (by omega) (by omega) (fun i hi => hfit _ (by omega)) (by omega) (Nat.le_of_ble_eq_true rfl) d_Mo_sha_27 ?_
  generalize eM1 : mp_up M (R 7) (mp_b E 1200 (va_cpy f f7 p 0 n)) = M1
  have hM1__R_0_ : M1 (R 0) = some (mp_o 7 [.ref (R 1), .int (nI rows), .int thr, .ref (R 2), .ref (R 3), .ref (R 4), .ref (R 5), .ref (R 6), .ref (R 7), .ref (R 8), .ref (R 9), .int (nI dp), .int (nI as_), .int (nI ops), .ref (R 10)]) := by rw [← eM1, mp_n (hR.ne (by decide) (by decide) (by decide))]; exact x0
  have hM1__R_4_ : M1 (R 4) = some (mp_i E 8 f4) := by rw [← eM1, mp_n (hR.ne (by decide) (by decide) (by decide))]; exact x4
  have hM1__R_5_ : M1 (R 5) = some (mp_i E 64 f5) := by rw [← eM1, mp_n (hR.ne (by decide) (by decide) (by decide))]; exact x5
  have hM1__R_6_ : M1 (R 6) = some (mp_b E 32 f6) := by rw [← eM1, mp_n (hR.ne (by decide) (by decide) (by decide))]; exact x6
  have hM1_b : M1 b = some (mp_b E m f) := by rw [← eM1, mp_n hbp]; exact hb
  have hM1__R_7_ : M1 (R 7) = some (mp_b E 1200 (va_cpy f f7 p 0 n)) := by rw [← eM1]; exact mp_s
  refine j_iload_n d_Mo_sha_30 rfl 5 rfl ?_
  refine j_istore [(6, .int (nI n)), (5, .int (nI (64 * (pd_blocks n)))), (4, .int (nI (pd_blocks n))), (0, .ref (R 0)), (1, .ref b), (2, .int (nI p)), (3, .int (nI n))] d_Mo_sha_31 (by decide) rfl ?_
  refine j_lv [3, 4, 5, 6, 2, 1, 0] rfl ?_
  refine lp1_sh E M R rows thr dp as_ ops b p n (fun e => f (p + e)) f4 f5 f6 hR hn hκd ?_ (64 * pd_blocks n + 1) M1 (va_cpy f f7 p 0 n) n (by omega) hM1__R_0_ hM1__R_4_ hM1__R_5_ hM1__R_6_ hM1__R_7_ (fun a h4 h5 h6 h7 => by rw [← eM1, mp_n h7]; try exact fS a h4 h5 h6 h7) (fun q hq => (va_cpyo hq).trans (if_pos hq).symm) (by omega)
  intro Mx_4 F_4 x0_4 x4_4 x5_4 x6_4 x7_4 fS_4 hF_4
  refine j_aload_n d_Mo_sha_54 rfl 0 rfl ?_
  refine j_get F_Mo x0_4 8 (by decide) w_951 (Or.inl rfl) rfl d_Mo_sha_55 ?_
  refine j_iload_n d_Mo_sha_58 rfl 3 rfl ?_
  refine j_bipush (v := (-128)) d_Mo_sha_59 (by decide) ?_
  refine j_bast (y := (-128)) x7_4 n rfl (by omega) (by omega) rfl d_Mo_sha_61 ?_
  generalize eM2 : mp_up Mx_4 (R 7) (mp_b E 1200 (upd F_4 n (-128))) = M2
  have hM2__R_0_ : M2 (R 0) = some (mp_o 7 [.ref (R 1), .int (nI rows), .int thr, .ref (R 2), .ref (R 3), .ref (R 4), .ref (R 5), .ref (R 6), .ref (R 7), .ref (R 8), .ref (R 9), .int (nI dp), .int (nI as_), .int (nI ops), .ref (R 10)]) := by rw [← eM2, mp_n (hR.ne (by decide) (by decide) (by decide))]; exact x0_4
  have hM2__R_4_ : M2 (R 4) = some (mp_i E 8 f4) := by rw [← eM2, mp_n (hR.ne (by decide) (by decide) (by decide))]; exact x4_4
  have hM2__R_5_ : M2 (R 5) = some (mp_i E 64 f5) := by rw [← eM2, mp_n (hR.ne (by decide) (by decide) (by decide))]; exact x5_4
  have hM2__R_6_ : M2 (R 6) = some (mp_b E 32 f6) := by rw [← eM2, mp_n (hR.ne (by decide) (by decide) (by decide))]; exact x6_4
  have hM2__R_7_ : M2 (R 7) = some (mp_b E 1200 (upd F_4 n (-128))) := by rw [← eM2]; exact mp_s
  refine j_iconst (v := nI 0) d_Mo_sha_62 (by decide) ?_
  refine j_istore [(6, .int (nI 0)), (0, .ref (R 0)), (1, .ref b), (2, .int (nI p)), (3, .int (nI n)), (4, .int (nI (pd_blocks n))), (5, .int (nI (64 * pd_blocks n)))] d_Mo_sha_63 (by decide) rfl ?_
  refine j_lv [1, 2, 3, 4, 5, 6, 0] rfl ?_
  refine lp2_sh E M R rows thr dp as_ ops b p n (fun e => f (p + e)) f4 f5 f6 hR hn hκd ?_ 9 M2 (upd F_4 n (-128)) 0 (by omega) hM2__R_0_ hM2__R_4_ hM2__R_5_ hM2__R_6_ hM2__R_7_ (fun a h4 h5 h6 h7 => by rw [← eM2, mp_n h7]; try exact fS_4 a h4 h5 h6 h7) (pdG_0 hF_4) (by omega)
  intro Mx_5 F_5 x0_5 x4_5 x5_5 x6_5 x7_5 fS_5 hG_5
  refine j_gets 16 rfl w_1112 rfl d_Mo_sha_104 ?_
  refine j_iconst (v := nI 0) d_Mo_sha_107 (by decide) ?_
  refine j_aload_n d_Mo_sha_108 rfl 0 rfl ?_
  refine j_get F_Mo x0_5 5 (by decide) w_948 (Or.inl rfl) rfl d_Mo_sha_109 ?_
  refine j_iconst (v := nI 0) d_Mo_sha_112 (by decide) ?_
  refine j_bipush (v := nI 8) d_Mo_sha_113 (by decide) ?_
  refine j_copyx 16 rfl w_1014 w_489 w_488 w_25 x4_5 8 rfl rfl rfl (by show _ ≤ 8; omega) (by omega) (by decide) (by omega) (by omega) (Nat.le_of_ble_eq_true rfl) d_Mo_sha_115 ?_
  generalize eM3 : mp_up Mx_5 (R 4) (mp_i E 8 (va_cpy (fun j => tb_Mo_START.getD j 0) f4 0 0 8)) = M3
  have hM3__R_0_ : M3 (R 0) = some (mp_o 7 [.ref (R 1), .int (nI rows), .int thr, .ref (R 2), .ref (R 3), .ref (R 4), .ref (R 5), .ref (R 6), .ref (R 7), .ref (R 8), .ref (R 9), .int (nI dp), .int (nI as_), .int (nI ops), .ref (R 10)]) := by rw [← eM3, mp_n (hR.ne (by decide) (by decide) (by decide))]; exact x0_5
  have hM3__R_5_ : M3 (R 5) = some (mp_i E 64 f5) := by rw [← eM3, mp_n (hR.ne (by decide) (by decide) (by decide))]; exact x5_5
  have hM3__R_6_ : M3 (R 6) = some (mp_b E 32 f6) := by rw [← eM3, mp_n (hR.ne (by decide) (by decide) (by decide))]; exact x6_5
  have hM3__R_7_ : M3 (R 7) = some (mp_b E 1200 F_5) := by rw [← eM3, mp_n (hR.ne (by decide) (by decide) (by decide))]; exact x7_5
  have hM3__R_4_ : M3 (R 4) = some (mp_i E 8 (va_cpy (fun j => tb_Mo_START.getD j 0) f4 0 0 8)) := by rw [← eM3]; exact mp_s
  refine j_canon (fun j => tb_Sh_START.getD j 0) hM3__R_4_ (fun j hj => (va_cpy0 hj).trans (by show tb_Mo_START.getD j 0 = _; rw [tb_S0])) ?_
  show mp_J Γ m_Mo_sha E κ (mp_up M3 (R 4) (mp_i E 8 (fun j => tb_Sh_START.getD j 0))) [(0, .ref (R 0)), (1, .ref b), (2, .int (nI p)), (3, .int (nI n)), (4, .int (nI (pd_blocks n))), (5, .int (nI (64 * pd_blocks n)))] 118 [] 0 0
  generalize eM4 : mp_up M3 (R 4) (mp_i E 8 (fun j => tb_Sh_START.getD j 0)) = M4
  have hM4__R_0_ : M4 (R 0) = some (mp_o 7 [.ref (R 1), .int (nI rows), .int thr, .ref (R 2), .ref (R 3), .ref (R 4), .ref (R 5), .ref (R 6), .ref (R 7), .ref (R 8), .ref (R 9), .int (nI dp), .int (nI as_), .int (nI ops), .ref (R 10)]) := by rw [← eM4, mp_n (hR.ne (by decide) (by decide) (by decide))]; exact hM3__R_0_
  have hM4__R_5_ : M4 (R 5) = some (mp_i E 64 f5) := by rw [← eM4, mp_n (hR.ne (by decide) (by decide) (by decide))]; exact hM3__R_5_
  have hM4__R_6_ : M4 (R 6) = some (mp_b E 32 f6) := by rw [← eM4, mp_n (hR.ne (by decide) (by decide) (by decide))]; exact hM3__R_6_
  have hM4__R_7_ : M4 (R 7) = some (mp_b E 1200 F_5) := by rw [← eM4, mp_n (hR.ne (by decide) (by decide) (by decide))]; exact hM3__R_7_
  have hM4__R_4_ : M4 (R 4) = some (mp_i E 8 (fun j => tb_Sh_START.getD j 0)) := by rw [← eM4]; exact mp_s
  refine j_iconst (v := nI 0) d_Mo_sha_118 (by decide) ?_
  refine j_istore [(6, .int (nI 0)), (0, .ref (R 0)), (1, .ref b), (2, .int (nI p)), (3, .int (nI n)), (4, .int (nI (pd_blocks n))), (5, .int (nI (64 * pd_blocks n)))] d_Mo_sha_119 (by decide) rfl ?_
  refine j_lv [1, 2, 3, 4, 5, 6, 0] rfl ?_
  refine lp5_sh E M R rows thr dp as_ ops b p n (fun e => f (p + e)) f6 F_5 hR hn hκd hG_5 ?_ 17 M4 f5 0 (by omega) hM4__R_0_ hM4__R_4_ hM4__R_5_ hM4__R_6_ hM4__R_7_ (fun a h4 h5 h6 h7 => by rw [← eM4, mp_n h4, ← eM3, mp_n h4]; try exact fS_5 a h4 h5 h6 h7) (by omega)
  intro Mx_6 f5_6 x0_6 x4_6 x5_6 x6_6 x7_6 fS_6 
  refine j_iconst (v := nI 0) d_Mo_sha_594 (by decide) ?_
  refine j_istore [(6, .int (nI 0)), (0, .ref (R 0)), (1, .ref b), (2, .int (nI p)), (3, .int (nI n)), (4, .int (nI (pd_blocks n))), (5, .int (nI (64 * pd_blocks n)))] d_Mo_sha_595 (by decide) rfl ?_
  refine j_lv [1, 2, 3, 4, 5, 6, 0] rfl ?_
  refine lp7_sh E M R rows thr dp as_ ops b p n (fun e => f (p + e)) (pd_fold (sh_mix (fun i => tb_Sh_ADDENDS.getD i 0)) true (fun e => f (p + e)) n (fun j => tb_Sh_START.getD j 0) (pd_blocks n)) f5_6 F_5 _ hR hn (fun Mx H z0 z4 z5 z6 z7 zS hH => ⟨rfl, ⟨(mp_n (hR.ne (by decide) (by decide) (by decide))).trans z0, ⟨_, (mp_n (hR.ne (by decide) (by decide) (by decide))).trans z4⟩, ⟨_, (mp_n (hR.ne (by decide) (by decide) (by decide))).trans z5⟩, ⟨_, mp_s, fun i hi => pk_fb _⟩, ⟨_, (mp_n (hR.ne (by decide) (by decide) (by decide))).trans z7⟩, ?_⟩, mp_s, zS.r.trans (RFr.up (Or.inr (by omega)))⟩) hκ 9 Mx_6 f6 0 (by omega) x0_6 x4_6 x5_6 x6_6 x7_6 fS_6 (fun e he => absurd he (by omega)) (by omega)
  obtain ⟨T, Z, t1, t2, t3, t4⟩ := ra
  exact ⟨T, Z, ((mp_n (hR.ne (by decide) (by decide) (by decide))).trans (zS.k hR (by decide) (by decide))).trans t1, ((mp_n (hR.ne (by decide) (by decide) (by decide))).trans (zS.k hR (by decide) (by decide))).trans t2, t3, t4⟩
