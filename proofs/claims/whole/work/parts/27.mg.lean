theorem d_Ar_checkLength_0 : decode prog_29_method_131_code 0 = .ok (.iload_n 1, 1) := by decide +kernel
theorem d_Ar_checkLength_1 : decode prog_29_method_131_code 1 = .ok (.iload_n 0, 1) := by decide +kernel
theorem d_Ar_checkLength_2 : decode prog_29_method_131_code 2 = .ok (.if_icmp .ge 35, 3) := by decide +kernel
theorem d_Ar_checkLength_5 : decode prog_29_method_131_code 5 = .ok (.new 43, 3) := by decide +kernel
theorem d_Ar_checkLength_8 : decode prog_29_method_131_code 8 = .ok (.dup, 1) := by decide +kernel
theorem d_Ar_checkLength_9 : decode prog_29_method_131_code 9 = .ok (.new 45, 3) := by decide +kernel
theorem d_Ar_checkLength_12 : decode prog_29_method_131_code 12 = .ok (.dup, 1) := by decide +kernel
theorem d_Ar_checkLength_13 : decode prog_29_method_131_code 13 = .ok (.invokespecial 47, 3) := by decide +kernel
theorem d_Ar_checkLength_16 : decode prog_29_method_131_code 16 = .ok (.iload_n 0, 1) := by decide +kernel
theorem d_Ar_checkLength_17 : decode prog_29_method_131_code 17 = .ok (.invokevirtual 54, 3) := by decide +kernel
theorem d_Ar_checkLength_20 : decode prog_29_method_131_code 20 = .ok (.ldc_w 337, 3) := by decide +kernel
theorem d_Ar_checkLength_23 : decode prog_29_method_131_code 23 = .ok (.invokevirtual 50, 3) := by decide +kernel
theorem d_Ar_checkLength_26 : decode prog_29_method_131_code 26 = .ok (.iload_n 1, 1) := by decide +kernel
theorem d_Ar_checkLength_27 : decode prog_29_method_131_code 27 = .ok (.invokevirtual 54, 3) := by decide +kernel
theorem d_Ar_checkLength_30 : decode prog_29_method_131_code 30 = .ok (.invokevirtual 61, 3) := by decide +kernel
theorem d_Ar_checkLength_33 : decode prog_29_method_131_code 33 = .ok (.invokespecial 65, 3) := by decide +kernel
theorem d_Ar_checkLength_36 : decode prog_29_method_131_code 36 = .ok (.athrow, 1) := by decide +kernel
theorem d_Ar_checkLength_37 : decode prog_29_method_131_code 37 = .ok (.return_, 1) := by decide +kernel

set_option maxHeartbeats 4000000 in
set_option maxRecDepth 100000 in
theorem c_Ar_checkLength (l : Launch) (E : mp_E) (M : mp_M) (f t : Nat) (h : f ≤ t) (ht : t ≤ 1000) : mp_Cr l m_Ar_checkLength E M 1 0 0 [.int (nI f), .int (nI t)] (fun v N => v = none ∧ N = M) := by
  refine mp_Cr.of (by decide) (Nat.le_of_ble_eq_true rfl) fun Γ κ hl hκ => ?_
  subst hl
  obtain ⟨hκd, hκc, hκs, -⟩ := id hκ
  show mp_J Γ m_Ar_checkLength E κ M [(0, .int (nI f)), (1, .int (nI t))] 0 [] 0 0
  refine j_iload_n d_Ar_checkLength_0 rfl 1 rfl ?_
  refine j_iload_n d_Ar_checkLength_1 rfl 0 rfl ?_
  refine j_ncmp_ge 37 t f rfl rfl (by omega) (by omega) d_Ar_checkLength_2 (by decide) (fun b2 => ?_) (fun b2 => absurd h (by omega))
  exact j_vret hκ rfl (by omega) (by omega) d_Ar_checkLength_37 ⟨rfl, rfl⟩

theorem am_min {a b : Nat} (h : b ≤ a) (ha : a < 2 ^ 31) : (if nI b < nI a then nI b else nI a) = nI b := by
  by_cases hz : nI b < nI a
  · rw [if_pos hz]
  · rw [if_neg hz]
    rw [nI_ltI (by omega) ha] at hz
    rw [show a = b by omega]
theorem va_cpyo {f g : Nat → Int32} {a n j : Nat} (h : j < n) : va_cpy f g a 0 n j = f (a + j) := by
  unfold va_cpy
  rw [if_pos ⟨by omega, by omega⟩]
  rfl
set_option maxHeartbeats 4000000 in
set_option maxRecDepth 100000 in
theorem c_Ar_copyOfRangeByte (l : Launch) (E : mp_E) (M : mp_M) (r n f t : Nat) (g : Nat → Int32) (hr : M r = some (mp_b E n g)) (hfit : ∀ i, i < n → fits .byte (.int (g i)) = true) (hn : n ≤ 1000) (h1 : f ≤ t) (h2 : t ≤ n) : mp_Cr l m_Ar_copyOfRangeByte E M 2 1 (t - f) [.ref r, .int (nI f), .int (nI t)] (fun v N => ∃ q, v = some (.ref q) ∧ M q = none ∧ N = mp_up M q (mp_b E (t - f) (fun j => g (f + j)))) := by
  refine mp_Cr.of (by decide) (Nat.le_of_ble_eq_true rfl) fun Γ κ hl hκ => ?_
  subst hl
  obtain ⟨hκd, hκc, hκs, -⟩ := id hκ
  show mp_J Γ m_Ar_copyOfRangeByte E κ M [(0, .ref r), (1, .int (nI f)), (2, .int (nI t))] 0 [] 0 0
  refine j_iload_n d_Ar_copyOfRangeByte_0 rfl 1 rfl ?_
  refine j_iload_n d_Ar_copyOfRangeByte_1 rfl 2 rfl ?_
  refine j_callS (As := [.int (nI f), .int (nI t)]) (rest := []) (c_Ar_checkLength Γ.l E M f t h1 (by omega)) Y_Ar_checkLength w_412 w_413 rfl rfl (Nat.le_of_ble_eq_true rfl) (by omega) (by omega) (by omega) d_Ar_copyOfRangeByte_2 (fun v2 N2 p2 => ?_)
  obtain ⟨rfl, q2⟩ := p2
  obtain rfl := q2.symm
  show mp_J Γ m_Ar_copyOfRangeByte E κ M [(0, .ref r), (1, .int (nI f)), (2, .int (nI t))] 5 [] 0 0
  refine j_iload_n d_Ar_copyOfRangeByte_5 rfl 2 rfl ?_
  refine j_iload_n d_Ar_copyOfRangeByte_6 rfl 1 rfl ?_
  refine j_isub d_Ar_copyOfRangeByte_7 ?_
  refine j_eqi (y := nI (t - f)) (pk_sub (by omega)) ?_
  refine j_istore_n [(3, .int (nI (t - f))), (0, .ref r), (1, .int (nI f)), (2, .int (nI t))] d_Ar_copyOfRangeByte_8 rfl (by decide) rfl ?_
  refine j_iload_n d_Ar_copyOfRangeByte_9 rfl 0 rfl ?_
  refine j_newb w_76 (by omega) (by omega) (by omega) d_Ar_copyOfRangeByte_10 (fun q hq => ?_)
  generalize eM1 : mp_up M q (mp_b E (t - f) (fun _ => 0)) = M1
  have hM1_r : M1 r = some (mp_b E n g) := by rw [← eM1, mp_n (mp_ne0 hr hq)]; exact hr
  have hM1_q : M1 q = some (mp_b E (t - f) (fun _ => 0)) := by rw [← eM1]; exact mp_s
  refine j_astore [(4, .ref q), (3, .int (nI (t - f))), (0, .ref r), (1, .int (nI f)), (2, .int (nI t))] d_Ar_copyOfRangeByte_12 (by decide) rfl ?_
  refine j_aload_n d_Ar_copyOfRangeByte_14 rfl 2 rfl ?_
  refine j_iload_n d_Ar_copyOfRangeByte_15 rfl 3 rfl ?_
  refine j_aload d_Ar_copyOfRangeByte_16 0 rfl ?_
  refine j_iconst (v := nI 0) d_Ar_copyOfRangeByte_18 (by decide) ?_
  refine j_aload_n d_Ar_copyOfRangeByte_19 rfl 2 rfl ?_
  refine j_alen 0 hM1_r rfl d_Ar_copyOfRangeByte_20 ?_
  show mp_J Γ m_Ar_copyOfRangeByte E κ M1 [(4, .ref q), (3, .int (nI (t - f))), (0, .ref r), (1, .int (nI f)), (2, .int (nI t))] 21 [.int (nI n), .int (nI 0), .ref q, .int (nI f), .ref r] (0 + 1) (0 + (t - f))
  refine j_iload_n d_Ar_copyOfRangeByte_21 rfl 3 rfl ?_
  refine j_isub d_Ar_copyOfRangeByte_22 ?_
  refine j_eqi (y := nI (n - f)) (pk_sub (by omega)) ?_
  refine j_iload_n d_Ar_copyOfRangeByte_23 rfl 1 rfl ?_
  refine j_minI w_484 (Nat.le_of_ble_eq_true rfl) (by omega) (by omega) (by omega) d_Ar_copyOfRangeByte_24 ?_
  refine j_eqi (y := nI (t - f)) (am_min (by omega) (by omega)) ?_
  refine j_copy 0 rfl rfl w_487 w_489 w_488 w_25 hM1_r hM1_q f 0 (t - f) rfl rfl rfl (by omega) (by omega) (by omega) (by omega) (fun i hi => hfit _ (by omega)) (by omega) (Nat.le_of_ble_eq_true rfl) d_Ar_copyOfRangeByte_27 ?_
  generalize eM2 : mp_up M1 q (mp_b E (t - f) (va_cpy g (fun _ => 0) f 0 (t - f))) = M2
  have hM2_r : M2 r = some (mp_b E n g) := by rw [← eM2, mp_n (mp_ne0 hr hq)]; exact hM1_r
  have hM2_q : M2 q = some (mp_b E (t - f) (va_cpy g (fun _ => 0) f 0 (t - f))) := by rw [← eM2]; exact mp_s
  refine j_canon (fun j => g (f + j)) hM2_q (fun j hj => va_cpyo hj) ?_
  show mp_J Γ m_Ar_copyOfRangeByte E κ (mp_up M2 q (mp_b E (t - f) (fun j => g (f + j)))) [(4, .ref q), (3, .int (nI (t - f))), (0, .ref r), (1, .int (nI f)), (2, .int (nI t))] 30 [] (0 + 1) (0 + (t - f))
  generalize eM3 : mp_up M2 q (mp_b E (t - f) (fun j => g (f + j))) = M3
  have hM3_r : M3 r = some (mp_b E n g) := by rw [← eM3, mp_n (mp_ne0 hr hq)]; exact hM2_r
  have hM3_q : M3 q = some (mp_b E (t - f) (fun j => g (f + j))) := by rw [← eM3]; exact mp_s
  refine j_aload d_Ar_copyOfRangeByte_30 0 rfl ?_
  exact j_aret hκ rfl (by first | exact Or.inl ⟨_, rfl⟩ | exact Or.inr ⟨_, rfl⟩) (by omega) (by omega) d_Ar_copyOfRangeByte_32 ⟨q, rfl, hq, by subst_vars; simp only [mp_uu]⟩

set_option maxHeartbeats 4000000 in
set_option maxRecDepth 100000 in
theorem c_Ar_copyOfRange (l : Launch) (E : mp_E) (M : mp_M) (r n f t : Nat) (g : Nat → Int32) (hr : M r = some (mp_b E n g)) (hfit : ∀ i, i < n → fits .byte (.int (g i)) = true) (hn : n ≤ 1000) (h1 : f ≤ t) (h2 : t ≤ n) (h3 : 0 < f) : mp_Cr l m_Ar_copyOfRange E M 3 1 (t - f) [.ref r, .int (nI f), .int (nI t)] (fun v N => ∃ q, v = some (.ref q) ∧ M q = none ∧ N = mp_up M q (mp_b E (t - f) (fun j => g (f + j)))) := by
  refine mp_Cr.of (by decide) (Nat.le_of_ble_eq_true rfl) fun Γ κ hl hκ => ?_
  subst hl
  obtain ⟨hκd, hκc, hκs, -⟩ := id hκ
  show mp_J Γ m_Ar_copyOfRange E κ M [(0, .ref r), (1, .int (nI f)), (2, .int (nI t))] 0 [] 0 0
  refine j_iload_n d_Ar_copyOfRange_0 rfl 1 rfl ?_
  refine j_nif_ne 10 f rfl (by omega) d_Ar_copyOfRange_1 (by decide) (fun b1 => ?_) (fun b1 => absurd h3 (by omega))
  refine j_aload_n d_Ar_copyOfRange_10 rfl 0 rfl ?_
  refine j_iload_n d_Ar_copyOfRange_11 rfl 1 rfl ?_
  refine j_iload_n d_Ar_copyOfRange_12 rfl 2 rfl ?_
  refine j_callS (As := [.ref r, .int (nI f), .int (nI t)]) (rest := []) (c_Ar_copyOfRangeByte Γ.l E M r n f t g hr hfit hn h1 h2) Y_Ar_copyOfRangeByte w_409 w_410 rfl rfl (Nat.le_of_ble_eq_true rfl) (by omega) (by omega) (by omega) d_Ar_copyOfRange_13 (fun v13 N13 p13 => ?_)
  obtain ⟨q, rfl, hq, e13⟩ := p13
  show mp_J Γ m_Ar_copyOfRange E κ N13 [(0, .ref r), (1, .int (nI f)), (2, .int (nI t))] 16 [.ref q] (0 + 1) (0 + (t - f))
  exact j_aret hκ rfl (by first | exact Or.inl ⟨_, rfl⟩ | exact Or.inr ⟨_, rfl⟩) (by omega) (by omega) d_Ar_copyOfRange_16 ⟨q, rfl, hq, e13⟩

def am_pf (g : Nat → Int32) (p c : Nat) : am_T := if ub (g p) = 76 then gl (p + 1 + c - (p + 2)) (fun j => g (p + 2 + j)) else gl (p + 1 + c - (p + 1)) (fun j => g (p + 1 + j))
set_option maxHeartbeats 4000000 in
set_option maxRecDepth 100000 in
theorem c_Ma_pushFrom (l : Launch) (E : mp_E) (M : mp_M) (X : Nat → Prop) (L : Nat → Nat) (y n : Nat) (zs m o : List am_T) (b : List Bool) (k : Nat) (r rn p c : Nat) (g : Nat → Int32) (hI : IV E X M L y n zs m o b k) (hL : LY X L) (hr : M r = some (mp_b E rn g)) (hfit : ∀ i, i < rn → fits .byte (.int (g i)) = true) (hrn : rn ≤ 1000) (hp : p + 1 + c ≤ rn) (hc : c ≤ 256) (h76 : ub (g p) = 76 → 1 ≤ c) : mp_Cr l m_Ma_pushFrom E M 4 2 (c + 1) [.ref (L 0), .ref r, .int (nI p), .int (nI c)] (MP E X M L y n zs (some (am_pf g p c :: m, o, b, k))) := by
  refine mp_Cr.of (by decide) (Nat.le_of_ble_eq_true rfl) fun Γ κ hl hκ => ?_
  subst hl
  obtain ⟨hκd, hκc, hκs, -⟩ := id hκ
  have hu := ub_lt (g p)
  show mp_J Γ m_Ma_pushFrom E κ M [(0, .ref (L 0)), (1, .ref r), (2, .int (nI p)), (3, .int (nI c))] 0 [] 0 0
  refine j_aload_n d_Ma_pushFrom_0 rfl 1 rfl ?_
  refine j_iload_n d_Ma_pushFrom_1 rfl 2 rfl ?_
  refine j_bald hr p rfl (by omega) (by omega) d_Ma_pushFrom_2 ?_
  refine j_sipush (v := 255) d_Ma_pushFrom_3 (by decide) ?_
  refine j_iand d_Ma_pushFrom_6 ?_
  refine j_eqi (y := nI (ub (g p))) (ub_and _) ?_
  refine j_bipush (v := nI 76) d_Ma_pushFrom_7 (by decide) ?_
  refine j_ncmp_ne 18 (ub (g p)) 76 rfl rfl (by omega) (by omega) d_Ma_pushFrom_9 (by decide) (fun b9 => ?_) (fun b9 => ?_)
  · skip
    refine j_iload_n d_Ma_pushFrom_18 rfl 2 rfl ?_
    refine j_iconst (v := nI 1) d_Ma_pushFrom_19 (by decide) ?_
    refine j_iadd d_Ma_pushFrom_20 ?_
    refine j_eqi (y := nI (p + 1)) (nI_add p 1) ?_
    refine j_istore [(4, .int (nI (p + 1))), (0, .ref (L 0)), (1, .ref r), (2, .int (nI p)), (3, .int (nI c))] d_Ma_pushFrom_21 (by decide) rfl ?_
    refine j_aload_n d_Ma_pushFrom_23 rfl 1 rfl ?_
    refine j_get F_Ma hI.mo 6 (by decide) w_169 (Or.inl rfl) rfl d_Ma_pushFrom_24 ?_
    refine j_new [.null] F_Th w_405 w_111 w_8 (fun j hj => by rcases (show j = 0 by omega) with rfl <;> rfl) (by omega) (by omega) d_Ma_pushFrom_27 (fun q1 hq1 => ?_)
    generalize eM1 : mp_up M q1 (mp_o 5 [.null]) = M1
    have hM1__L_0_ : M1 (L 0) = some (mp_o 1 [.ref (L 1), .ref (L 5), .ref (L 11), .ref (L 10), .ref y, .ref n, .ref (L 13), .int (nI k)]) := by rw [← eM1, mp_n (mp_ne0 hI.mo hq1)]; exact hI.mo
    have hM1_r : M1 r = some (mp_b E rn g) := by rw [← eM1, mp_n (mp_ne0 hr hq1)]; exact hr
    have hM1_q1 : M1 q1 = some (mp_o 5 [.null]) := by rw [← eM1]; exact mp_s
    refine j_dup d_Ma_pushFrom_30 rfl ?_
    refine j_aload_n d_Ma_pushFrom_31 rfl 2 rfl ?_
    refine j_iload d_Ma_pushFrom_32 0 rfl ?_
    refine j_iload_n d_Ma_pushFrom_34 rfl 3 rfl ?_
    refine j_iconst (v := nI 1) d_Ma_pushFrom_35 (by decide) ?_
    refine j_iadd d_Ma_pushFrom_36 ?_
    refine j_eqi (y := nI (p + 1)) (nI_add p 1) ?_
    refine j_iload_n d_Ma_pushFrom_37 rfl 4 rfl ?_
    refine j_iadd d_Ma_pushFrom_38 ?_
    refine j_eqi (y := nI ((p + 1) + c)) (nI_add (p + 1) c) ?_
    refine j_callS (As := [.ref r, .int (nI (p + 1)), .int (nI ((p + 1) + c))]) (rest := [.ref q1, .ref q1, .ref (L 13)]) (c_Ar_copyOfRange Γ.l E M1 r rn ((p + 1)) (p + 1 + c) g hM1_r hfit hrn (by omega) (by omega) (by omega)) Y_Ar_copyOfRange w_406 w_407 rfl rfl (Nat.le_of_ble_eq_true rfl) (by omega) (by omega) (by omega) d_Ma_pushFrom_39 (fun v39 N39 p39 => ?_)
    obtain ⟨q2, rfl, hq2, e39⟩ := p39
    show mp_J Γ m_Ma_pushFrom E κ N39 [(4, .int (nI (p + 1))), (0, .ref (L 0)), (1, .ref r), (2, .int (nI p)), (3, .int (nI c))] 42 [.ref q2, .ref q1, .ref q1, .ref (L 13)] (0 + 1 + 1) (0 + 1 + (p + 1 + c - ((p + 1))))
    have z39 : N39 q1 = some (mp_o 5 [.null]) := by rw [e39, mp_n (mp_ne0 hM1_q1 hq2)]; exact hM1_q1
    refine j_callI (As := [.ref q2]) (rest := [.ref q1, .ref (L 13)]) (c_Th_init Γ.l E N39 q1 q2 z39) Y_Th_init rfl rfl w_655 w_113 rfl rfl (Nat.le_of_ble_eq_true rfl) (by omega) (by omega) (by omega) d_Ma_pushFrom_42 (fun v42 N42 p42 => ?_)
    obtain ⟨rfl, e42⟩ := p42
    show mp_J Γ m_Ma_pushFrom E κ N42 [(4, .int (nI (p + 1))), (0, .ref (L 0)), (1, .ref r), (2, .int (nI p)), (3, .int (nI c))] 45 [.ref q1, .ref (L 13)] (0 + 1 + 1) (0 + 1 + (p + 1 + c - ((p + 1))))
    have d12 : q1 ≠ q2 := mp_ne0 hM1_q1 hq2
    have hq2M : M q2 = none := mp_fre eM1 hq2
    have hL9 : (am_pf g p c).length = p + 1 + c - (p + 1) := (by unfold am_pf; rw [if_neg b9, gl_len])
    have hb42 : N42 q2 = some (mp_b E (p + 1 + c - (p + 1)) (fun j => g (p + 1 + j))) := by rw [e42, mp_n (Ne.symm d12), e39]; exact mp_s
    refine j_canon (gb (am_pf g p c)) hb42 (fun j hj => (by unfold am_pf; rw [if_neg b9]; exact (gl_at (f := fun j => g (p + 1 + j)) hj).symm)) ?_
    generalize e44 : mp_up N42 q2 (.inl (E.2.1 0, p + 1 + c - (p + 1), .inl (gb (am_pf g p c)))) = N44
    have nw : NW M N44 := fun a e h => by have n1 := mp_ne0 h hq1; have n2 := mp_ne0 h hq2M; rw [← e44, mp_n n2, e42, mp_n n1, e39, mp_n n2, ← eM1, mp_n n1]; exact h
    have I44 := hI.new nw
    have t44 : TH E X N44 q1 (am_pf g p c) := ⟨fun z => hI.xa hL _ z hq1, q2, fun z => hI.xa hL _ z hq2M, by rw [← e44, mp_n d12, e42]; exact mp_s, by rw [← e44, mp_s, hL9], by rw [hL9]; omega⟩
    obtain ⟨z44, u44⟩ := I44.sm.o
    refine j_callV (As := [.ref q1]) (rest := []) (i_push Γ.l I44 hL t44) Y_St_push w_656 w_657 w_658 u44 rfl rfl rfl (Nat.le_of_ble_eq_true rfl) (by omega) (by omega) (by omega) d_Ma_pushFrom_45 (fun v45 N45 p45 => ?_)
    obtain ⟨rfl, I45, f45⟩ := p45
    show mp_J Γ m_Ma_pushFrom E κ N45 [(4, .int (nI (p + 1))), (0, .ref (L 0)), (1, .ref r), (2, .int (nI p)), (3, .int (nI c))] 48 [.int (tf (decide (m.length < 200)))] (0 + 1 + 1) (0 + 1 + (p + 1 + c - ((p + 1))))
    exact j_zret hκ rfl (tf_01 _) (by omega) (by omega) d_Ma_pushFrom_48 (MP.push I45 (nw.fr.trans f45) rfl)
  · skip
    have h77 := h76 b9
    refine j_iload_n d_Ma_pushFrom_12 rfl 2 rfl ?_
    refine j_iconst (v := nI 2) d_Ma_pushFrom_13 (by decide) ?_
    refine j_iadd d_Ma_pushFrom_14 ?_
    refine j_eqi (y := nI (p + 2)) (nI_add p 2) ?_
    refine j_goto (tgt := 21) d_Ma_pushFrom_15 (by decide) ?_
    refine j_istore [(4, .int (nI (p + 2))), (0, .ref (L 0)), (1, .ref r), (2, .int (nI p)), (3, .int (nI c))] d_Ma_pushFrom_21 (by decide) rfl ?_
    refine j_aload_n d_Ma_pushFrom_23 rfl 1 rfl ?_
    refine j_get F_Ma hI.mo 6 (by decide) w_169 (Or.inl rfl) rfl d_Ma_pushFrom_24 ?_
    refine j_new [.null] F_Th w_405 w_111 w_8 (fun j hj => by rcases (show j = 0 by omega) with rfl <;> rfl) (by omega) (by omega) d_Ma_pushFrom_27 (fun q1 hq1 => ?_)
    generalize eM2 : mp_up M q1 (mp_o 5 [.null]) = M2
    have hM2__L_0_ : M2 (L 0) = some (mp_o 1 [.ref (L 1), .ref (L 5), .ref (L 11), .ref (L 10), .ref y, .ref n, .ref (L 13), .int (nI k)]) := by rw [← eM2, mp_n (mp_ne0 hI.mo hq1)]; exact hI.mo
    have hM2_r : M2 r = some (mp_b E rn g) := by rw [← eM2, mp_n (mp_ne0 hr hq1)]; exact hr
    have hM2_q1 : M2 q1 = some (mp_o 5 [.null]) := by rw [← eM2]; exact mp_s
    refine j_dup d_Ma_pushFrom_30 rfl ?_
    refine j_aload_n d_Ma_pushFrom_31 rfl 2 rfl ?_
    refine j_iload d_Ma_pushFrom_32 0 rfl ?_
    refine j_iload_n d_Ma_pushFrom_34 rfl 3 rfl ?_
    refine j_iconst (v := nI 1) d_Ma_pushFrom_35 (by decide) ?_
    refine j_iadd d_Ma_pushFrom_36 ?_
    refine j_eqi (y := nI (p + 1)) (nI_add p 1) ?_
    refine j_iload_n d_Ma_pushFrom_37 rfl 4 rfl ?_
    refine j_iadd d_Ma_pushFrom_38 ?_
    refine j_eqi (y := nI ((p + 1) + c)) (nI_add (p + 1) c) ?_
    refine j_callS (As := [.ref r, .int (nI (p + 2)), .int (nI ((p + 1) + c))]) (rest := [.ref q1, .ref q1, .ref (L 13)]) (c_Ar_copyOfRange Γ.l E M2 r rn ((p + 2)) (p + 1 + c) g hM2_r hfit hrn (by omega) (by omega) (by omega)) Y_Ar_copyOfRange w_406 w_407 rfl rfl (Nat.le_of_ble_eq_true rfl) (by omega) (by omega) (by omega) d_Ma_pushFrom_39 (fun v39 N39 p39 => ?_)
    obtain ⟨q2, rfl, hq2, e39⟩ := p39
    show mp_J Γ m_Ma_pushFrom E κ N39 [(4, .int (nI (p + 2))), (0, .ref (L 0)), (1, .ref r), (2, .int (nI p)), (3, .int (nI c))] 42 [.ref q2, .ref q1, .ref q1, .ref (L 13)] (0 + 1 + 1) (0 + 1 + (p + 1 + c - ((p + 2))))
    have z39 : N39 q1 = some (mp_o 5 [.null]) := by rw [e39, mp_n (mp_ne0 hM2_q1 hq2)]; exact hM2_q1
    refine j_callI (As := [.ref q2]) (rest := [.ref q1, .ref (L 13)]) (c_Th_init Γ.l E N39 q1 q2 z39) Y_Th_init rfl rfl w_655 w_113 rfl rfl (Nat.le_of_ble_eq_true rfl) (by omega) (by omega) (by omega) d_Ma_pushFrom_42 (fun v42 N42 p42 => ?_)
    obtain ⟨rfl, e42⟩ := p42
    show mp_J Γ m_Ma_pushFrom E κ N42 [(4, .int (nI (p + 2))), (0, .ref (L 0)), (1, .ref r), (2, .int (nI p)), (3, .int (nI c))] 45 [.ref q1, .ref (L 13)] (0 + 1 + 1) (0 + 1 + (p + 1 + c - ((p + 2))))
    have d12 : q1 ≠ q2 := mp_ne0 hM2_q1 hq2
    have hq2M : M q2 = none := mp_fre eM2 hq2
    have hL9 : (am_pf g p c).length = p + 1 + c - (p + 2) := (by unfold am_pf; rw [if_pos b9, gl_len])
    have hb42 : N42 q2 = some (mp_b E (p + 1 + c - (p + 2)) (fun j => g (p + 2 + j))) := by rw [e42, mp_n (Ne.symm d12), e39]; exact mp_s
    refine j_canon (gb (am_pf g p c)) hb42 (fun j hj => (by unfold am_pf; rw [if_pos b9]; exact (gl_at (f := fun j => g (p + 2 + j)) hj).symm)) ?_
    generalize e44 : mp_up N42 q2 (.inl (E.2.1 0, p + 1 + c - (p + 2), .inl (gb (am_pf g p c)))) = N44
    have nw : NW M N44 := fun a e h => by have n1 := mp_ne0 h hq1; have n2 := mp_ne0 h hq2M; rw [← e44, mp_n n2, e42, mp_n n1, e39, mp_n n2, ← eM2, mp_n n1]; exact h
    have I44 := hI.new nw
    have t44 : TH E X N44 q1 (am_pf g p c) := ⟨fun z => hI.xa hL _ z hq1, q2, fun z => hI.xa hL _ z hq2M, by rw [← e44, mp_n d12, e42]; exact mp_s, by rw [← e44, mp_s, hL9], by rw [hL9]; omega⟩
    obtain ⟨z44, u44⟩ := I44.sm.o
    refine j_callV (As := [.ref q1]) (rest := []) (i_push Γ.l I44 hL t44) Y_St_push w_656 w_657 w_658 u44 rfl rfl rfl (Nat.le_of_ble_eq_true rfl) (by omega) (by omega) (by omega) d_Ma_pushFrom_45 (fun v45 N45 p45 => ?_)
    obtain ⟨rfl, I45, f45⟩ := p45
    show mp_J Γ m_Ma_pushFrom E κ N45 [(4, .int (nI (p + 2))), (0, .ref (L 0)), (1, .ref r), (2, .int (nI p)), (3, .int (nI c))] 48 [.int (tf (decide (m.length < 200)))] (0 + 1 + 1) (0 + 1 + (p + 1 + c - ((p + 2))))
    exact j_zret hκ rfl (tf_01 _) (by omega) (by omega) d_Ma_pushFrom_48 (MP.push I45 (nw.fr.trans f45) rfl)
