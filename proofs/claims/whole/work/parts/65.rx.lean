def rsA (A B : Nat → am_T) (dp : Nat) : Nat → am_T := fun p => if p < dp then A p else B p
theorem rs_LM {A B : Nat → am_T} {dp : Nat} : LM (rsA A B dp) dp = LM A dp := LM_c fun p hp => if_pos hp
theorem rs_TA {T Z T' Z' f2 f3 : Nat → Int32} {A B : Nat → am_T} {dp : Nat} (h : ∀ p, p < 408 → TA T Z p (A p)) (h' : ∀ p, p < 408 → TA T' Z' p (B p)) : ∀ p, p < 408 → TA (va_cpy (va_cpy T f2 0 0 (256 * dp)) T' 0 0 (256 * dp)) (va_cpy (va_cpy Z f3 0 0 dp) Z' 0 0 dp) p (rsA A B dp p) := by
  intro p hp
  unfold rsA
  by_cases hz : p < dp
  · rw [if_pos hz]
    obtain ⟨h1, h2, h3⟩ := h p hp
    refine ⟨?_, h2, fun j hj => ?_⟩
    · rw [pk_cpy_in (by omega) (by omega), pk_cpy_in (by omega) (by omega)]
      simpa using h1
    · rw [pk_cpy_in (by omega) (by omega), pk_cpy_in (by omega) (by omega)]
      simpa using h3 j hj
  · rw [if_neg hz]
    obtain ⟨h1, h2, h3⟩ := h' p hp
    refine ⟨?_, h2, fun j hj => ?_⟩
    · rw [pk_cpy_out (by omega)]; exact h1
    · rw [pk_cpy_out (by omega)]; exact h3 j hj
theorem rs_ft {T T' f2 : Nat → Int32} {n m : Nat} (hn : n ≤ m) (h : ∀ i, i < m → fits .byte (.int (T i)) = true) (h' : ∀ i, i < m → fits .byte (.int (T' i)) = true) : ∀ i, i < m → fits .byte (.int (va_cpy (va_cpy T f2 0 0 n) T' 0 0 n i)) = true := by
  intro i hi
  by_cases hz : i < n
  · rw [pk_cpy_in (by omega) (by omega), pk_cpy_in (by omega) (by omega)]
    exact h _ (by omega)
  · rw [pk_cpy_out (by omega)]; exact h' i hi
theorem hw_e {H : Nat → Int32} {x : am_T} {q : Nat} (h : ∀ j, j < x.length → H (0 + j) = gb x j) (hq : 4 * q + 4 ≤ x.length) : sm_at H (4 * q) = th_w x.length (gb x) q 4 := by
  have e : ∀ j, j < x.length → nI (th_at x.length (gb x) j) = nI (ub (H j)) := fun j hj => by
    unfold th_at
    rw [if_pos hj, ← h j hj, Nat.zero_add]
  show _ = (((nI 0 ||| (nI (th_at x.length (gb x) (4 * q + 0)) <<< (nI 0 &&& 31))) ||| (nI (th_at x.length (gb x) (4 * q + 1)) <<< (nI 8 &&& 31))) ||| (nI (th_at x.length (gb x) (4 * q + 2)) <<< (nI 16 &&& 31))) ||| (nI (th_at x.length (gb x) (4 * q + 3)) <<< (nI 24 &&& 31))
  rw [or_n0, sl_n0, e _ (by omega), e _ (by omega), e _ (by omega), e _ (by omega)]
  rfl

def RFo (R : Nat → Nat) (M N : mp_M) : Prop := ∀ a, (∀ i, i < 11 → a ≠ R i) → N a = M a
theorem RFr.o {R : Nat → Nat} {M N : mp_M} (h : RFr R M N) : RFo R M N := fun a q => h a fun i hi => q i (by omega)
theorem RFz.o {R : Nat → Nat} {M N : mp_M} (h : RFz R M N) : RFo R M N := fun a q => h a fun i hi => q i (by omega)
theorem RFo.refl {R : Nat → Nat} {M : mp_M} : RFo R M M := fun _ _ => rfl
theorem RFo.trans {R : Nat → Nat} {M N O : mp_M} (h : RFo R M N) (h' : RFo R N O) : RFo R M O := fun a q => (h' a q).trans (h a q)
theorem RFo.up {R : Nat → Nat} {M N : mp_M} {i : Nat} {e : va_E} (hi : i < 11) (hN : mp_up M (R i) e = N) : RFo R M N := by subst hN; exact fun a q => mp_n (q i hi)
theorem RI.oth {E : mp_E} {M N : mp_M} {R : Nat → Nat} {rows dp as_ ops : Nat} {thr : Int32} {A : Nat → am_T} {e : va_E} {i : Nat} (h : RI E M R rows thr dp as_ ops A) (hR : RL R) (hi : 0 < i ∧ i < 4) (hN : mp_up M (R i) e = N) : RI E N R rows thr dp as_ ops A := by
  subst hN
  exact h.keep ((mp_n (hR.ne (by omega) (by omega) (by omega))).trans h.1) fun i h1 h2 => mp_n (hR.ne (by omega) (by omega) (by omega))
/-- the reference with its row -/
def RW (E : mp_E) (M : mp_M) (R : Nat → Nat) (rows : Nat) (thr : Int32) (g : Nat → Int32) (dp : Nat) (A : Nat → am_T) : Prop := ∃ as_ ops, RI E M R rows thr dp as_ ops A ∧ M (R 1) = some (mp_b E 1000 g) ∧ (∃ f, M (R 2) = some (mp_b E 51456 f)) ∧ (∃ f, M (R 3) = some (mp_i E 201 f)) ∧ ∃ f, M (R 10) = some (mp_z E 1001 f)

set_option maxHeartbeats 4000000 in
set_option maxRecDepth 100000 in
theorem c_Mo_run (l : Launch) (E : mp_E) (M : mp_M) (R : Nat → Nat) (rows : Nat) (thr : Int32) (dp as_ ops : Nat) (A : Nat → am_T) (g f2 f3 f10 : Nat → Int32) (i : Int32) (hI : RI E M R rows thr dp as_ ops A) (hR : RL R) (h1 : M (R 1) = some (mp_b E 1000 g)) (h2 : M (R 2) = some (mp_b E 51456 f2)) (h3 : M (R 3) = some (mp_i E 201 f3)) (h10 : M (R 10) = some (mp_z E 1001 f10)) (hfit : ∀ i, i < 1000 → fits .byte (.int (g i)) = true) (hrw : rows ≤ 1000) (hd : dp ≤ 200) : mp_Cr l m_Mo_run E M 6 0 0 [.ref (R 0), .int i] (fun v N => (∃ j, j ≤ rows ∧ i = nI j ∧ v = some (.int (nI (am_ans (am_two g j rows)))) ∧ ∃ (d : Nat) (B : Nat → am_T), RW E N R 0 (tf false) g d B ∧ d ≤ 200 ∧ LM B d = (match am_two g j rows with | none => LM A dp | some ms => ms) ∧ RFo R M N) ∨ ((¬ ∃ j, j ≤ rows ∧ i = nI j) ∧ v = some (.int (nI 0)) ∧ N = mp_up M (R 0) (mp_o 7 [.ref (R 1), .int (nI rows), .int (tf true), .ref (R 2), .ref (R 3), .ref (R 4), .ref (R 5), .ref (R 6), .ref (R 7), .ref (R 8), .ref (R 9), .int (nI dp), .int (nI as_), .int (nI ops), .ref (R 10)]))) := by
  refine mp_Cr.of (by decide) (Nat.le_of_ble_eq_true rfl) fun Γ κ hl hκ => ?_
  subst hl
  obtain ⟨hκd, hκc, hκs, -⟩ := id hκ
  obtain ⟨T, Z, t1, t2, t3, t4⟩ := hI.ra
  show mp_J Γ m_Mo_run E κ M [(0, .ref (R 0)), (1, .int i)] 0 [] 0 0
  refine j_aload_n d_Mo_run_0 rfl 0 rfl ?_
  refine j_iload_n d_Mo_run_1 rfl 1 rfl ?_
  refine j_callV (As := [.int i]) (rest := []) (c_Mo_isLength Γ.l E M (R 0) (R 1) rows (R 2) (R 3) (R 4) (R 5) (R 6) (R 7) (R 8) (R 9) dp as_ ops (R 10) thr i hI.1) Y_Mo_isLength w_1006 w_1008 ws_28 hI.1 rfl rfl rfl (Nat.le_of_ble_eq_true rfl) (by omega) (by omega) (by omega) d_Mo_run_2 (fun v2 N2 p2 => ?_)
  obtain ⟨rfl, q2⟩ := p2
  show mp_J Γ m_Mo_run E κ N2 [(0, .ref (R 0)), (1, .int i)] 5 [.int (tf (decide (¬ i < 0 ∧ i ≤ nI rows)))] 0 0
  have hN2__R_0_ : N2 (R 0) = some (mp_o 7 [.ref (R 1), .int (nI rows), .int (tf (!decide (¬ i < 0 ∧ i ≤ nI rows))), .ref (R 2), .ref (R 3), .ref (R 4), .ref (R 5), .ref (R 6), .ref (R 7), .ref (R 8), .ref (R 9), .int (nI dp), .int (nI as_), .int (nI ops), .ref (R 10)]) := by rw [q2]; exact mp_s
  have hN2__R_1_ : N2 (R 1) = some (mp_b E 1000 g) := by rw [q2, mp_n (hR.ne (by decide) (by decide) (by decide))]; exact h1
  have hN2__R_2_ : N2 (R 2) = some (mp_b E 51456 f2) := by rw [q2, mp_n (hR.ne (by decide) (by decide) (by decide))]; exact h2
  have hN2__R_3_ : N2 (R 3) = some (mp_i E 201 f3) := by rw [q2, mp_n (hR.ne (by decide) (by decide) (by decide))]; exact h3
  have hN2__R_8_ : N2 (R 8) = some (mp_b E 104448 T) := by rw [q2, mp_n (hR.ne (by decide) (by decide) (by decide))]; exact t1
  have hN2__R_9_ : N2 (R 9) = some (mp_i E 408 Z) := by rw [q2, mp_n (hR.ne (by decide) (by decide) (by decide))]; exact t2
  have hN2__R_10_ : N2 (R 10) = some (mp_z E 1001 f10) := by rw [q2, mp_n (hR.ne (by decide) (by decide) (by decide))]; exact h10
  have I2 : RI E N2 R rows (tf (!decide (¬ i < 0 ∧ i ≤ nI rows))) dp as_ ops A := hI.set hR q2.symm
  refine j_tif_ne 10 d_Mo_run_5 (by decide) (fun b5 => ?_) (fun b5 => ?_)
  · skip
    obtain ⟨j, hj, hij⟩ := (am_i32 hrw).mp (of_decide_eq_true b5)
    have I5 := I2
    rw [b5] at I5
    have c5 := I5.1
    rw [hij]
    refine j_aload_n d_Mo_run_10 rfl 0 rfl ?_
    refine j_get F_Mo c5 1 (by decide) w_944 (Or.inl rfl) rfl d_Mo_run_11 ?_
    refine j_iload_n d_Mo_run_14 rfl 1 rfl ?_
    refine j_isub d_Mo_run_15 ?_
    refine j_eqi (y := nI (rows - j)) (pk_sub (by omega)) ?_
    refine j_istore_n [(2, .int (nI (rows - j))), (0, .ref (R 0)), (1, .int (nI j))] d_Mo_run_16 rfl (by decide) rfl ?_
    refine j_aload_n d_Mo_run_17 rfl 1 rfl ?_
    refine j_get F_Mo c5 11 (by decide) w_954 (Or.inl rfl) rfl d_Mo_run_18 ?_
    refine j_istore_n [(3, .int (nI dp)), (2, .int (nI (rows - j))), (0, .ref (R 0)), (1, .int (nI j))] d_Mo_run_21 rfl (by decide) rfl ?_
    refine j_aload_n d_Mo_run_22 rfl 2 rfl ?_
    refine j_iconst (v := nI 0) d_Mo_run_23 (by decide) ?_
    refine j_put F_Mo c5 1 (by decide) w_944 (Or.inl rfl) rfl rfl rfl (Nat.le_of_ble_eq_true rfl) d_Mo_run_24 ?_
    show mp_J Γ m_Mo_run E κ (mp_up N2 (R 0) (mp_o 7 [.ref (R 1), .int (nI 0), .int (tf false), .ref (R 2), .ref (R 3), .ref (R 4), .ref (R 5), .ref (R 6), .ref (R 7), .ref (R 8), .ref (R 9), .int (nI dp), .int (nI as_), .int (nI ops), .ref (R 10)])) [(3, .int (nI dp)), (2, .int (nI (rows - j))), (0, .ref (R 0)), (1, .int (nI j))] 27 [] 0 0
    generalize eM1 : mp_up N2 (R 0) (mp_o 7 [.ref (R 1), .int (nI 0), .int (tf false), .ref (R 2), .ref (R 3), .ref (R 4), .ref (R 5), .ref (R 6), .ref (R 7), .ref (R 8), .ref (R 9), .int (nI dp), .int (nI as_), .int (nI ops), .ref (R 10)]) = M1
    have hM1__R_1_ : M1 (R 1) = some (mp_b E 1000 g) := by rw [← eM1, mp_n (hR.ne (by decide) (by decide) (by decide))]; exact hN2__R_1_
    have hM1__R_2_ : M1 (R 2) = some (mp_b E 51456 f2) := by rw [← eM1, mp_n (hR.ne (by decide) (by decide) (by decide))]; exact hN2__R_2_
    have hM1__R_3_ : M1 (R 3) = some (mp_i E 201 f3) := by rw [← eM1, mp_n (hR.ne (by decide) (by decide) (by decide))]; exact hN2__R_3_
    have hM1__R_8_ : M1 (R 8) = some (mp_b E 104448 T) := by rw [← eM1, mp_n (hR.ne (by decide) (by decide) (by decide))]; exact hN2__R_8_
    have hM1__R_9_ : M1 (R 9) = some (mp_i E 408 Z) := by rw [← eM1, mp_n (hR.ne (by decide) (by decide) (by decide))]; exact hN2__R_9_
    have hM1__R_10_ : M1 (R 10) = some (mp_z E 1001 f10) := by rw [← eM1, mp_n (hR.ne (by decide) (by decide) (by decide))]; exact hN2__R_10_
    have hM1__R_0_ : M1 (R 0) = some (mp_o 7 [.ref (R 1), .int (nI 0), .int (tf false), .ref (R 2), .ref (R 3), .ref (R 4), .ref (R 5), .ref (R 6), .ref (R 7), .ref (R 8), .ref (R 9), .int (nI dp), .int (nI as_), .int (nI ops), .ref (R 10)]) := by rw [← eM1]; exact mp_s
    have JM1 : RI E M1 R 0 (tf false) dp as_ ops A := I5.set hR eM1
    have fM1 : RFr R N2 M1 := RFr.s0 eM1
    refine j_aload_n d_Mo_run_27 rfl 2 rfl ?_
    refine j_get F_Mo hM1__R_0_ 9 (by decide) w_952 (Or.inl rfl) rfl d_Mo_run_28 ?_
    refine j_iconst (v := nI 0) d_Mo_run_31 (by decide) ?_
    refine j_aload_n d_Mo_run_32 rfl 2 rfl ?_
    refine j_get F_Mo hM1__R_0_ 3 (by decide) w_946 (Or.inl rfl) rfl d_Mo_run_33 ?_
    refine j_iconst (v := nI 0) d_Mo_run_36 (by decide) ?_
    refine j_sipush (v := nI 256) d_Mo_run_37 (by decide) ?_
    refine j_iload_n d_Mo_run_40 rfl 0 rfl ?_
    refine j_imul d_Mo_run_41 ?_
    refine j_eqi (y := nI (256 * dp)) (pk_mul 256 dp) ?_
    refine j_copy 0 rfl rfl w_1014 w_489 w_488 w_25 hM1__R_8_ hM1__R_2_ 0 0 (256 * dp) rfl rfl rfl (by omega) (by omega) (by omega) (by omega) (fun i hi => t3 _ (by omega)) (by omega) (Nat.le_of_ble_eq_true rfl) d_Mo_run_42 ?_
    generalize eM2 : mp_up M1 (R 2) (mp_b E 51456 (va_cpy T f2 0 0 (256 * dp))) = M2
    have hM2__R_1_ : M2 (R 1) = some (mp_b E 1000 g) := by rw [← eM2, mp_n (hR.ne (by decide) (by decide) (by decide))]; exact hM1__R_1_
    have hM2__R_3_ : M2 (R 3) = some (mp_i E 201 f3) := by rw [← eM2, mp_n (hR.ne (by decide) (by decide) (by decide))]; exact hM1__R_3_
    have hM2__R_8_ : M2 (R 8) = some (mp_b E 104448 T) := by rw [← eM2, mp_n (hR.ne (by decide) (by decide) (by decide))]; exact hM1__R_8_
    have hM2__R_9_ : M2 (R 9) = some (mp_i E 408 Z) := by rw [← eM2, mp_n (hR.ne (by decide) (by decide) (by decide))]; exact hM1__R_9_
    have hM2__R_10_ : M2 (R 10) = some (mp_z E 1001 f10) := by rw [← eM2, mp_n (hR.ne (by decide) (by decide) (by decide))]; exact hM1__R_10_
    have hM2__R_0_ : M2 (R 0) = some (mp_o 7 [.ref (R 1), .int (nI 0), .int (tf false), .ref (R 2), .ref (R 3), .ref (R 4), .ref (R 5), .ref (R 6), .ref (R 7), .ref (R 8), .ref (R 9), .int (nI dp), .int (nI as_), .int (nI ops), .ref (R 10)]) := by rw [← eM2, mp_n (hR.ne (by decide) (by decide) (by decide))]; exact hM1__R_0_
    have hM2__R_2_ : M2 (R 2) = some (mp_b E 51456 (va_cpy T f2 0 0 (256 * dp))) := by rw [← eM2]; exact mp_s
    have K45 : RI E M2 R 0 (tf false) dp as_ ops A := JM1.oth hR (by decide) eM2
    refine j_aload_n d_Mo_run_45 rfl 2 rfl ?_
    refine j_get F_Mo hM2__R_0_ 10 (by decide) w_953 (Or.inl rfl) rfl d_Mo_run_46 ?_
    refine j_iconst (v := nI 0) d_Mo_run_49 (by decide) ?_
    refine j_aload_n d_Mo_run_50 rfl 2 rfl ?_
    refine j_get F_Mo hM2__R_0_ 4 (by decide) w_947 (Or.inl rfl) rfl d_Mo_run_51 ?_
    refine j_iconst (v := nI 0) d_Mo_run_54 (by decide) ?_
    refine j_iload_n d_Mo_run_55 rfl 0 rfl ?_
    refine j_copy 1 rfl rfl w_1014 w_489 w_488 w_25 hM2__R_9_ hM2__R_3_ 0 0 dp rfl rfl rfl (by omega) (by omega) (by omega) (by omega) (fun _ _ => rfl) (by omega) (Nat.le_of_ble_eq_true rfl) d_Mo_run_56 ?_
    generalize eM3 : mp_up M2 (R 3) (mp_i E 201 (va_cpy Z f3 0 0 dp)) = M3
    have hM3__R_1_ : M3 (R 1) = some (mp_b E 1000 g) := by rw [← eM3, mp_n (hR.ne (by decide) (by decide) (by decide))]; exact hM2__R_1_
    have hM3__R_8_ : M3 (R 8) = some (mp_b E 104448 T) := by rw [← eM3, mp_n (hR.ne (by decide) (by decide) (by decide))]; exact hM2__R_8_
    have hM3__R_9_ : M3 (R 9) = some (mp_i E 408 Z) := by rw [← eM3, mp_n (hR.ne (by decide) (by decide) (by decide))]; exact hM2__R_9_
    have hM3__R_10_ : M3 (R 10) = some (mp_z E 1001 f10) := by rw [← eM3, mp_n (hR.ne (by decide) (by decide) (by decide))]; exact hM2__R_10_
    have hM3__R_0_ : M3 (R 0) = some (mp_o 7 [.ref (R 1), .int (nI 0), .int (tf false), .ref (R 2), .ref (R 3), .ref (R 4), .ref (R 5), .ref (R 6), .ref (R 7), .ref (R 8), .ref (R 9), .int (nI dp), .int (nI as_), .int (nI ops), .ref (R 10)]) := by rw [← eM3, mp_n (hR.ne (by decide) (by decide) (by decide))]; exact hM2__R_0_
    have hM3__R_2_ : M3 (R 2) = some (mp_b E 51456 (va_cpy T f2 0 0 (256 * dp))) := by rw [← eM3, mp_n (hR.ne (by decide) (by decide) (by decide))]; exact hM2__R_2_
    have hM3__R_3_ : M3 (R 3) = some (mp_i E 201 (va_cpy Z f3 0 0 dp)) := by rw [← eM3]; exact mp_s
    have K59 : RI E M3 R 0 (tf false) dp as_ ops A := K45.oth hR (by decide) eM3
    refine j_aload_n d_Mo_run_59 rfl 2 rfl ?_
    refine j_iconst (v := nI 0) d_Mo_run_60 (by decide) ?_
    refine j_put F_Mo hM3__R_0_ 11 (by decide) w_954 (Or.inl rfl) rfl rfl rfl (Nat.le_of_ble_eq_true rfl) d_Mo_run_61 ?_
    show mp_J Γ m_Mo_run E κ (mp_up M3 (R 0) (mp_o 7 [.ref (R 1), .int (nI 0), .int (tf false), .ref (R 2), .ref (R 3), .ref (R 4), .ref (R 5), .ref (R 6), .ref (R 7), .ref (R 8), .ref (R 9), .int (nI 0), .int (nI as_), .int (nI ops), .ref (R 10)])) [(3, .int (nI dp)), (2, .int (nI (rows - j))), (0, .ref (R 0)), (1, .int (nI j))] 64 [] 0 0
    generalize eM4 : mp_up M3 (R 0) (mp_o 7 [.ref (R 1), .int (nI 0), .int (tf false), .ref (R 2), .ref (R 3), .ref (R 4), .ref (R 5), .ref (R 6), .ref (R 7), .ref (R 8), .ref (R 9), .int (nI 0), .int (nI as_), .int (nI ops), .ref (R 10)]) = M4
    have hM4__R_1_ : M4 (R 1) = some (mp_b E 1000 g) := by rw [← eM4, mp_n (hR.ne (by decide) (by decide) (by decide))]; exact hM3__R_1_
    have hM4__R_8_ : M4 (R 8) = some (mp_b E 104448 T) := by rw [← eM4, mp_n (hR.ne (by decide) (by decide) (by decide))]; exact hM3__R_8_
    have hM4__R_9_ : M4 (R 9) = some (mp_i E 408 Z) := by rw [← eM4, mp_n (hR.ne (by decide) (by decide) (by decide))]; exact hM3__R_9_
    have hM4__R_10_ : M4 (R 10) = some (mp_z E 1001 f10) := by rw [← eM4, mp_n (hR.ne (by decide) (by decide) (by decide))]; exact hM3__R_10_
    have hM4__R_2_ : M4 (R 2) = some (mp_b E 51456 (va_cpy T f2 0 0 (256 * dp))) := by rw [← eM4, mp_n (hR.ne (by decide) (by decide) (by decide))]; exact hM3__R_2_
    have hM4__R_3_ : M4 (R 3) = some (mp_i E 201 (va_cpy Z f3 0 0 dp)) := by rw [← eM4, mp_n (hR.ne (by decide) (by decide) (by decide))]; exact hM3__R_3_
    have hM4__R_0_ : M4 (R 0) = some (mp_o 7 [.ref (R 1), .int (nI 0), .int (tf false), .ref (R 2), .ref (R 3), .ref (R 4), .ref (R 5), .ref (R 6), .ref (R 7), .ref (R 8), .ref (R 9), .int (nI 0), .int (nI as_), .int (nI ops), .ref (R 10)]) := by rw [← eM4]; exact mp_s
    have JM4 : RI E M4 R 0 (tf false) 0 as_ ops A := K59.set hR eM4
    have fM4 : RFr R M3 M4 := RFr.s0 eM4
    refine j_aload_n d_Mo_run_64 rfl 2 rfl ?_
    refine j_aload_n d_Mo_run_65 rfl 2 rfl ?_
    refine j_get F_Mo hM4__R_0_ 0 (by decide) w_943 (Or.inl rfl) rfl d_Mo_run_66 ?_
    refine j_iconst (v := nI 0) d_Mo_run_69 (by decide) ?_
    refine j_iload_n d_Mo_run_70 rfl 3 rfl ?_
    refine j_callV (As := [.ref (R 1), .int (nI 0), .int (nI j)]) (rest := []) (c_Mo_run2 Γ.l E M4 R 0 (tf false) 0 as_ ops A 0 j g f10 JM4 hR hM4__R_1_ hM4__R_10_ hfit (by omega) (by omega)) Y_Mo_run2 w_1015 w_1017 ws_29 hM4__R_0_ rfl rfl rfl (Nat.le_of_ble_eq_true rfl) (by omega) (by omega) (by omega) d_Mo_run_71 (fun v71 N71 p71 => ?_)
    obtain ⟨w71, d71, a71, k71, B71, rfl, I71, r1_71, ⟨f71, r10_71⟩, z71, T71, F71⟩ := p71
    have k71__R_2_ : N71 (R 2) = some (mp_b E 51456 (va_cpy T f2 0 0 (256 * dp))) := (z71.k hR (by decide) (by decide)).trans hM4__R_2_
    have k71__R_3_ : N71 (R 3) = some (mp_i E 201 (va_cpy Z f3 0 0 dp)) := (z71.k hR (by decide) (by decide)).trans hM4__R_3_
    show mp_J Γ m_Mo_run E κ N71 [(3, .int (nI dp)), (2, .int (nI (rows - j))), (0, .ref (R 0)), (1, .int (nI j))] 74 [.int (tf w71)] 0 0
    refine j_tif_eq 116 d_Mo_run_74 (by decide) (fun b74 => ?_) (fun b74 => ?_)
    · skip
      have e71 : am_run g (0 + j) (0 + j - 0 + 1) 0 (LM A 0, [], [], 0) = am_run g j (j - 0 + 1) 0 ([], [], [], 0) := by rw [Nat.zero_add]; rfl
      have no : am_two g j rows = none := by unfold am_two; rw [← e71, F71 b74]
      obtain ⟨T', Z', u1, u2, u3, u4⟩ := I71.ra
      refine j_aload_n d_Mo_run_116 rfl 2 rfl ?_
      refine j_get F_Mo I71.1 3 (by decide) w_946 (Or.inl rfl) rfl d_Mo_run_117 ?_
      refine j_iconst (v := nI 0) d_Mo_run_120 (by decide) ?_
      refine j_aload_n d_Mo_run_121 rfl 2 rfl ?_
      refine j_get F_Mo I71.1 9 (by decide) w_952 (Or.inl rfl) rfl d_Mo_run_122 ?_
      refine j_iconst (v := nI 0) d_Mo_run_125 (by decide) ?_
      refine j_sipush (v := nI 256) d_Mo_run_126 (by decide) ?_
      refine j_iload_n d_Mo_run_129 rfl 0 rfl ?_
      refine j_imul d_Mo_run_130 ?_
      refine j_eqi (y := nI (256 * dp)) (pk_mul 256 dp) ?_
      refine j_copy 0 rfl rfl w_1014 w_489 w_488 w_25 k71__R_2_ u1 0 0 (256 * dp) rfl rfl rfl (by omega) (by omega) (by omega) (by omega) (fun i hi => by rw [Nat.zero_add, va_cpy0 hi]; exact t3 i (by omega)) (by omega) (Nat.le_of_ble_eq_true rfl) d_Mo_run_131 ?_
      generalize eM5 : mp_up N71 (R 8) (mp_b E 104448 (va_cpy (va_cpy T f2 0 0 (256 * dp)) T' 0 0 (256 * dp))) = M5
      have hM5__R_2_ : M5 (R 2) = some (mp_b E 51456 (va_cpy T f2 0 0 (256 * dp))) := by rw [← eM5, mp_n (hR.ne (by decide) (by decide) (by decide))]; exact k71__R_2_
      have hM5__R_3_ : M5 (R 3) = some (mp_i E 201 (va_cpy Z f3 0 0 dp)) := by rw [← eM5, mp_n (hR.ne (by decide) (by decide) (by decide))]; exact k71__R_3_
      have hM5__R_1_ : M5 (R 1) = some (mp_b E 1000 g) := by rw [← eM5, mp_n (hR.ne (by decide) (by decide) (by decide))]; exact r1_71
      have hM5__R_10_ : M5 (R 10) = some (mp_z E 1001 f71) := by rw [← eM5, mp_n (hR.ne (by decide) (by decide) (by decide))]; exact r10_71
      have hM5__R_0_ : M5 (R 0) = some (mp_o 7 [.ref (R 1), .int (nI 0), .int (tf false), .ref (R 2), .ref (R 3), .ref (R 4), .ref (R 5), .ref (R 6), .ref (R 7), .ref (R 8), .ref (R 9), .int (nI d71), .int (nI a71), .int (nI k71), .ref (R 10)]) := by rw [← eM5, mp_n (hR.ne (by decide) (by decide) (by decide))]; exact I71.1
      have hM5__R_9_ : M5 (R 9) = some (mp_i E 408 Z') := by rw [← eM5, mp_n (hR.ne (by decide) (by decide) (by decide))]; exact u2
      have hM5__R_8_ : M5 (R 8) = some (mp_b E 104448 (va_cpy (va_cpy T f2 0 0 (256 * dp)) T' 0 0 (256 * dp))) := by rw [← eM5]; exact mp_s
      refine j_aload_n d_Mo_run_134 rfl 2 rfl ?_
      refine j_get F_Mo hM5__R_0_ 4 (by decide) w_947 (Or.inl rfl) rfl d_Mo_run_135 ?_
      refine j_iconst (v := nI 0) d_Mo_run_138 (by decide) ?_
      refine j_aload_n d_Mo_run_139 rfl 2 rfl ?_
      refine j_get F_Mo hM5__R_0_ 10 (by decide) w_953 (Or.inl rfl) rfl d_Mo_run_140 ?_
      refine j_iconst (v := nI 0) d_Mo_run_143 (by decide) ?_
      refine j_iload_n d_Mo_run_144 rfl 0 rfl ?_
      refine j_copy 1 rfl rfl w_1014 w_489 w_488 w_25 hM5__R_3_ hM5__R_9_ 0 0 dp rfl rfl rfl (by omega) (by omega) (by omega) (by omega) (fun _ _ => rfl) (by omega) (Nat.le_of_ble_eq_true rfl) d_Mo_run_145 ?_
      generalize eM6 : mp_up M5 (R 9) (mp_i E 408 (va_cpy (va_cpy Z f3 0 0 dp) Z' 0 0 dp)) = M6
      have hM6__R_2_ : M6 (R 2) = some (mp_b E 51456 (va_cpy T f2 0 0 (256 * dp))) := by rw [← eM6, mp_n (hR.ne (by decide) (by decide) (by decide))]; exact hM5__R_2_
      have hM6__R_3_ : M6 (R 3) = some (mp_i E 201 (va_cpy Z f3 0 0 dp)) := by rw [← eM6, mp_n (hR.ne (by decide) (by decide) (by decide))]; exact hM5__R_3_
      have hM6__R_1_ : M6 (R 1) = some (mp_b E 1000 g) := by rw [← eM6, mp_n (hR.ne (by decide) (by decide) (by decide))]; exact hM5__R_1_
      have hM6__R_10_ : M6 (R 10) = some (mp_z E 1001 f71) := by rw [← eM6, mp_n (hR.ne (by decide) (by decide) (by decide))]; exact hM5__R_10_
      have hM6__R_0_ : M6 (R 0) = some (mp_o 7 [.ref (R 1), .int (nI 0), .int (tf false), .ref (R 2), .ref (R 3), .ref (R 4), .ref (R 5), .ref (R 6), .ref (R 7), .ref (R 8), .ref (R 9), .int (nI d71), .int (nI a71), .int (nI k71), .ref (R 10)]) := by rw [← eM6, mp_n (hR.ne (by decide) (by decide) (by decide))]; exact hM5__R_0_
      have hM6__R_8_ : M6 (R 8) = some (mp_b E 104448 (va_cpy (va_cpy T f2 0 0 (256 * dp)) T' 0 0 (256 * dp))) := by rw [← eM6, mp_n (hR.ne (by decide) (by decide) (by decide))]; exact hM5__R_8_
      have hM6__R_9_ : M6 (R 9) = some (mp_i E 408 (va_cpy (va_cpy Z f3 0 0 dp) Z' 0 0 dp)) := by rw [← eM6]; exact mp_s
      have K148 : RI E M6 R 0 (tf false) d71 a71 k71 (rsA A B71 dp) := I71.put hR (rs_ft (by omega) t3 u3) (rs_TA t4 u4) (by rw [eM5, eM6])
      refine j_aload_n d_Mo_run_148 rfl 2 rfl ?_
      refine j_iload_n d_Mo_run_149 rfl 0 rfl ?_
      refine j_put F_Mo hM6__R_0_ 11 (by decide) w_954 (Or.inl rfl) rfl rfl rfl (Nat.le_of_ble_eq_true rfl) d_Mo_run_150 ?_
      show mp_J Γ m_Mo_run E κ (mp_up M6 (R 0) (mp_o 7 [.ref (R 1), .int (nI 0), .int (tf false), .ref (R 2), .ref (R 3), .ref (R 4), .ref (R 5), .ref (R 6), .ref (R 7), .ref (R 8), .ref (R 9), .int (nI dp), .int (nI a71), .int (nI k71), .ref (R 10)])) [(3, .int (nI dp)), (2, .int (nI (rows - j))), (0, .ref (R 0)), (1, .int (nI j))] 153 [] 0 0
      generalize eM7 : mp_up M6 (R 0) (mp_o 7 [.ref (R 1), .int (nI 0), .int (tf false), .ref (R 2), .ref (R 3), .ref (R 4), .ref (R 5), .ref (R 6), .ref (R 7), .ref (R 8), .ref (R 9), .int (nI dp), .int (nI a71), .int (nI k71), .ref (R 10)]) = M7
      have hM7__R_2_ : M7 (R 2) = some (mp_b E 51456 (va_cpy T f2 0 0 (256 * dp))) := by rw [← eM7, mp_n (hR.ne (by decide) (by decide) (by decide))]; exact hM6__R_2_
      have hM7__R_3_ : M7 (R 3) = some (mp_i E 201 (va_cpy Z f3 0 0 dp)) := by rw [← eM7, mp_n (hR.ne (by decide) (by decide) (by decide))]; exact hM6__R_3_
      have hM7__R_1_ : M7 (R 1) = some (mp_b E 1000 g) := by rw [← eM7, mp_n (hR.ne (by decide) (by decide) (by decide))]; exact hM6__R_1_
      have hM7__R_10_ : M7 (R 10) = some (mp_z E 1001 f71) := by rw [← eM7, mp_n (hR.ne (by decide) (by decide) (by decide))]; exact hM6__R_10_
      have hM7__R_8_ : M7 (R 8) = some (mp_b E 104448 (va_cpy (va_cpy T f2 0 0 (256 * dp)) T' 0 0 (256 * dp))) := by rw [← eM7, mp_n (hR.ne (by decide) (by decide) (by decide))]; exact hM6__R_8_
      have hM7__R_9_ : M7 (R 9) = some (mp_i E 408 (va_cpy (va_cpy Z f3 0 0 dp) Z' 0 0 dp)) := by rw [← eM7, mp_n (hR.ne (by decide) (by decide) (by decide))]; exact hM6__R_9_
      have hM7__R_0_ : M7 (R 0) = some (mp_o 7 [.ref (R 1), .int (nI 0), .int (tf false), .ref (R 2), .ref (R 3), .ref (R 4), .ref (R 5), .ref (R 6), .ref (R 7), .ref (R 8), .ref (R 9), .int (nI dp), .int (nI a71), .int (nI k71), .ref (R 10)]) := by rw [← eM7]; exact mp_s
      have JM7 : RI E M7 R 0 (tf false) dp a71 k71 (rsA A B71 dp) := K148.set hR eM7
      have fM7 : RFr R M6 M7 := RFr.s0 eM7
      refine j_iconst (v := nI 0) d_Mo_run_153 (by decide) ?_
      exact j_iret hκ rfl (by omega) (by omega) d_Mo_run_154 (Or.inl ⟨j, hj, hij, by rw [no]; rfl, dp, _, ⟨_, _, JM7, hM7__R_1_, ⟨_, hM7__R_2_⟩, ⟨_, hM7__R_3_⟩, ⟨_, hM7__R_10_⟩⟩, hd, by rw [no]; exact rs_LM, ((((((((RFo.up (by decide) q2.symm).trans fM1.o).trans (RFo.up (by decide) eM2)).trans (RFo.up (by decide) eM3)).trans fM4.o).trans z71.o).trans ((RFo.up (by decide) eM5).trans (RFo.up (by decide) eM6))).trans fM7.o)⟩)
    · skip
      have e71 : am_run g (0 + j) (0 + j - 0 + 1) 0 (LM A 0, [], [], 0) = am_run g j (j - 0 + 1) 0 ([], [], [], 0) := by rw [Nat.zero_add]; rfl
      obtain ⟨t71, g71⟩ := T71 b74
      rw [e71] at t71
      refine j_aload_n d_Mo_run_77 rfl 2 rfl ?_
      refine j_aload_n d_Mo_run_78 rfl 2 rfl ?_
      refine j_get F_Mo I71.1 0 (by decide) w_943 (Or.inl rfl) rfl d_Mo_run_79 ?_
      refine j_iload_n d_Mo_run_82 rfl 3 rfl ?_
      refine j_iload_n d_Mo_run_83 rfl 1 rfl ?_
      refine j_callV (As := [.ref (R 1), .int (nI j), .int (nI (rows - j))]) (rest := []) (c_Mo_run2 Γ.l E N71 R 0 (tf false) d71 a71 k71 B71 j (rows - j) g f71 I71 hR r1_71 r10_71 hfit (by omega) (by omega)) Y_Mo_run2 w_1015 w_1017 ws_29 I71.1 rfl rfl rfl (Nat.le_of_ble_eq_true rfl) (by omega) (by omega) (by omega) d_Mo_run_84 (fun v84 N84 p84 => ?_)
      obtain ⟨w84, d84, a84, k84, B84, rfl, I84, r1_84, ⟨f84, r10_84⟩, z84, T84, F84⟩ := p84
      have k84__R_2_ : N84 (R 2) = some (mp_b E 51456 (va_cpy T f2 0 0 (256 * dp))) := (z84.k hR (by decide) (by decide)).trans k71__R_2_
      have k84__R_3_ : N84 (R 3) = some (mp_i E 201 (va_cpy Z f3 0 0 dp)) := (z84.k hR (by decide) (by decide)).trans k71__R_3_
      show mp_J Γ m_Mo_run E κ N84 [(3, .int (nI dp)), (2, .int (nI (rows - j))), (0, .ref (R 0)), (1, .int (nI j))] 87 [.int (tf w84)] 0 0
      refine j_tif_eq 116 d_Mo_run_87 (by decide) (fun b87 => ?_) (fun b87 => ?_)
      · skip
        have e84 : am_run g (j + (rows - j)) (j + (rows - j) - j + 1) j (LM B71 d71, [], [], 0) = am_run g rows (rows - j + 1) j (LM B71 d71, [], [], 0) := by rw [show j + (rows - j) = rows by omega]
        have no : am_two g j rows = none := by unfold am_two; rw [t71]; simp only; rw [← e84, F84 b87]
        obtain ⟨T', Z', u1, u2, u3, u4⟩ := I84.ra
        refine j_aload_n d_Mo_run_116 rfl 2 rfl ?_
        refine j_get F_Mo I84.1 3 (by decide) w_946 (Or.inl rfl) rfl d_Mo_run_117 ?_
        refine j_iconst (v := nI 0) d_Mo_run_120 (by decide) ?_
        refine j_aload_n d_Mo_run_121 rfl 2 rfl ?_
        refine j_get F_Mo I84.1 9 (by decide) w_952 (Or.inl rfl) rfl d_Mo_run_122 ?_
        refine j_iconst (v := nI 0) d_Mo_run_125 (by decide) ?_
        refine j_sipush (v := nI 256) d_Mo_run_126 (by decide) ?_
        refine j_iload_n d_Mo_run_129 rfl 0 rfl ?_
        refine j_imul d_Mo_run_130 ?_
        refine j_eqi (y := nI (256 * dp)) (pk_mul 256 dp) ?_
        refine j_copy 0 rfl rfl w_1014 w_489 w_488 w_25 k84__R_2_ u1 0 0 (256 * dp) rfl rfl rfl (by omega) (by omega) (by omega) (by omega) (fun i hi => by rw [Nat.zero_add, va_cpy0 hi]; exact t3 i (by omega)) (by omega) (Nat.le_of_ble_eq_true rfl) d_Mo_run_131 ?_
        generalize eM8 : mp_up N84 (R 8) (mp_b E 104448 (va_cpy (va_cpy T f2 0 0 (256 * dp)) T' 0 0 (256 * dp))) = M8
        have hM8__R_2_ : M8 (R 2) = some (mp_b E 51456 (va_cpy T f2 0 0 (256 * dp))) := by rw [← eM8, mp_n (hR.ne (by decide) (by decide) (by decide))]; exact k84__R_2_
        have hM8__R_3_ : M8 (R 3) = some (mp_i E 201 (va_cpy Z f3 0 0 dp)) := by rw [← eM8, mp_n (hR.ne (by decide) (by decide) (by decide))]; exact k84__R_3_
        have hM8__R_1_ : M8 (R 1) = some (mp_b E 1000 g) := by rw [← eM8, mp_n (hR.ne (by decide) (by decide) (by decide))]; exact r1_84
        have hM8__R_10_ : M8 (R 10) = some (mp_z E 1001 f84) := by rw [← eM8, mp_n (hR.ne (by decide) (by decide) (by decide))]; exact r10_84
        have hM8__R_0_ : M8 (R 0) = some (mp_o 7 [.ref (R 1), .int (nI 0), .int (tf false), .ref (R 2), .ref (R 3), .ref (R 4), .ref (R 5), .ref (R 6), .ref (R 7), .ref (R 8), .ref (R 9), .int (nI d84), .int (nI a84), .int (nI k84), .ref (R 10)]) := by rw [← eM8, mp_n (hR.ne (by decide) (by decide) (by decide))]; exact I84.1
        have hM8__R_9_ : M8 (R 9) = some (mp_i E 408 Z') := by rw [← eM8, mp_n (hR.ne (by decide) (by decide) (by decide))]; exact u2
        have hM8__R_8_ : M8 (R 8) = some (mp_b E 104448 (va_cpy (va_cpy T f2 0 0 (256 * dp)) T' 0 0 (256 * dp))) := by rw [← eM8]; exact mp_s
        refine j_aload_n d_Mo_run_134 rfl 2 rfl ?_
        refine j_get F_Mo hM8__R_0_ 4 (by decide) w_947 (Or.inl rfl) rfl d_Mo_run_135 ?_
        refine j_iconst (v := nI 0) d_Mo_run_138 (by decide) ?_
        refine j_aload_n d_Mo_run_139 rfl 2 rfl ?_
        refine j_get F_Mo hM8__R_0_ 10 (by decide) w_953 (Or.inl rfl) rfl d_Mo_run_140 ?_
        refine j_iconst (v := nI 0) d_Mo_run_143 (by decide) ?_
        refine j_iload_n d_Mo_run_144 rfl 0 rfl ?_
        refine j_copy 1 rfl rfl w_1014 w_489 w_488 w_25 hM8__R_3_ hM8__R_9_ 0 0 dp rfl rfl rfl (by omega) (by omega) (by omega) (by omega) (fun _ _ => rfl) (by omega) (Nat.le_of_ble_eq_true rfl) d_Mo_run_145 ?_
        generalize eM9 : mp_up M8 (R 9) (mp_i E 408 (va_cpy (va_cpy Z f3 0 0 dp) Z' 0 0 dp)) = M9
        have hM9__R_2_ : M9 (R 2) = some (mp_b E 51456 (va_cpy T f2 0 0 (256 * dp))) := by rw [← eM9, mp_n (hR.ne (by decide) (by decide) (by decide))]; exact hM8__R_2_
        have hM9__R_3_ : M9 (R 3) = some (mp_i E 201 (va_cpy Z f3 0 0 dp)) := by rw [← eM9, mp_n (hR.ne (by decide) (by decide) (by decide))]; exact hM8__R_3_
        have hM9__R_1_ : M9 (R 1) = some (mp_b E 1000 g) := by rw [← eM9, mp_n (hR.ne (by decide) (by decide) (by decide))]; exact hM8__R_1_
        have hM9__R_10_ : M9 (R 10) = some (mp_z E 1001 f84) := by rw [← eM9, mp_n (hR.ne (by decide) (by decide) (by decide))]; exact hM8__R_10_
        have hM9__R_0_ : M9 (R 0) = some (mp_o 7 [.ref (R 1), .int (nI 0), .int (tf false), .ref (R 2), .ref (R 3), .ref (R 4), .ref (R 5), .ref (R 6), .ref (R 7), .ref (R 8), .ref (R 9), .int (nI d84), .int (nI a84), .int (nI k84), .ref (R 10)]) := by rw [← eM9, mp_n (hR.ne (by decide) (by decide) (by decide))]; exact hM8__R_0_
        have hM9__R_8_ : M9 (R 8) = some (mp_b E 104448 (va_cpy (va_cpy T f2 0 0 (256 * dp)) T' 0 0 (256 * dp))) := by rw [← eM9, mp_n (hR.ne (by decide) (by decide) (by decide))]; exact hM8__R_8_
        have hM9__R_9_ : M9 (R 9) = some (mp_i E 408 (va_cpy (va_cpy Z f3 0 0 dp) Z' 0 0 dp)) := by rw [← eM9]; exact mp_s
        have K148 : RI E M9 R 0 (tf false) d84 a84 k84 (rsA A B84 dp) := I84.put hR (rs_ft (by omega) t3 u3) (rs_TA t4 u4) (by rw [eM8, eM9])
        refine j_aload_n d_Mo_run_148 rfl 2 rfl ?_
        refine j_iload_n d_Mo_run_149 rfl 0 rfl ?_
        refine j_put F_Mo hM9__R_0_ 11 (by decide) w_954 (Or.inl rfl) rfl rfl rfl (Nat.le_of_ble_eq_true rfl) d_Mo_run_150 ?_
        show mp_J Γ m_Mo_run E κ (mp_up M9 (R 0) (mp_o 7 [.ref (R 1), .int (nI 0), .int (tf false), .ref (R 2), .ref (R 3), .ref (R 4), .ref (R 5), .ref (R 6), .ref (R 7), .ref (R 8), .ref (R 9), .int (nI dp), .int (nI a84), .int (nI k84), .ref (R 10)])) [(3, .int (nI dp)), (2, .int (nI (rows - j))), (0, .ref (R 0)), (1, .int (nI j))] 153 [] 0 0
        generalize eM10 : mp_up M9 (R 0) (mp_o 7 [.ref (R 1), .int (nI 0), .int (tf false), .ref (R 2), .ref (R 3), .ref (R 4), .ref (R 5), .ref (R 6), .ref (R 7), .ref (R 8), .ref (R 9), .int (nI dp), .int (nI a84), .int (nI k84), .ref (R 10)]) = M10
        have hM10__R_2_ : M10 (R 2) = some (mp_b E 51456 (va_cpy T f2 0 0 (256 * dp))) := by rw [← eM10, mp_n (hR.ne (by decide) (by decide) (by decide))]; exact hM9__R_2_
        have hM10__R_3_ : M10 (R 3) = some (mp_i E 201 (va_cpy Z f3 0 0 dp)) := by rw [← eM10, mp_n (hR.ne (by decide) (by decide) (by decide))]; exact hM9__R_3_
        have hM10__R_1_ : M10 (R 1) = some (mp_b E 1000 g) := by rw [← eM10, mp_n (hR.ne (by decide) (by decide) (by decide))]; exact hM9__R_1_
        have hM10__R_10_ : M10 (R 10) = some (mp_z E 1001 f84) := by rw [← eM10, mp_n (hR.ne (by decide) (by decide) (by decide))]; exact hM9__R_10_
        have hM10__R_8_ : M10 (R 8) = some (mp_b E 104448 (va_cpy (va_cpy T f2 0 0 (256 * dp)) T' 0 0 (256 * dp))) := by rw [← eM10, mp_n (hR.ne (by decide) (by decide) (by decide))]; exact hM9__R_8_
        have hM10__R_9_ : M10 (R 9) = some (mp_i E 408 (va_cpy (va_cpy Z f3 0 0 dp) Z' 0 0 dp)) := by rw [← eM10, mp_n (hR.ne (by decide) (by decide) (by decide))]; exact hM9__R_9_
        have hM10__R_0_ : M10 (R 0) = some (mp_o 7 [.ref (R 1), .int (nI 0), .int (tf false), .ref (R 2), .ref (R 3), .ref (R 4), .ref (R 5), .ref (R 6), .ref (R 7), .ref (R 8), .ref (R 9), .int (nI dp), .int (nI a84), .int (nI k84), .ref (R 10)]) := by rw [← eM10]; exact mp_s
        have JM10 : RI E M10 R 0 (tf false) dp a84 k84 (rsA A B84 dp) := K148.set hR eM10
        have fM10 : RFr R M9 M10 := RFr.s0 eM10
        refine j_iconst (v := nI 0) d_Mo_run_153 (by decide) ?_
        exact j_iret hκ rfl (by omega) (by omega) d_Mo_run_154 (Or.inl ⟨j, hj, hij, by rw [no]; rfl, dp, _, ⟨_, _, JM10, hM10__R_1_, ⟨_, hM10__R_2_⟩, ⟨_, hM10__R_3_⟩, ⟨_, hM10__R_10_⟩⟩, hd, by rw [no]; exact rs_LM, (((((((((RFo.up (by decide) q2.symm).trans fM1.o).trans (RFo.up (by decide) eM2)).trans (RFo.up (by decide) eM3)).trans fM4.o).trans z71.o).trans z84.o).trans ((RFo.up (by decide) eM8).trans (RFo.up (by decide) eM9))).trans fM10.o)⟩)
      · skip
        have e84 : am_run g (j + (rows - j)) (j + (rows - j) - j + 1) j (LM B71 d71, [], [], 0) = am_run g rows (rows - j + 1) j (LM B71 d71, [], [], 0) := by rw [show j + (rows - j) = rows by omega]
        obtain ⟨t84, g84⟩ := T84 b87
        have yes : am_two g j rows = some (LM B84 d84) := by unfold am_two; rw [t71]; simp only; rw [← e84, t84]
        refine j_aload_n d_Mo_run_90 rfl 2 rfl ?_
        refine j_get F_Mo I84.1 11 (by decide) w_954 (Or.inl rfl) rfl d_Mo_run_91 ?_
        refine j_nif_le 114 d84 rfl (by omega) d_Mo_run_94 (by decide) (fun b94 => ?_) (fun b94 => ?_)
        · skip
          refine j_iconst (v := nI 1) d_Mo_run_114 (by decide) ?_
          exact j_iret hκ rfl (by omega) (by omega) d_Mo_run_115 (Or.inl ⟨j, hj, hij, by rw [yes]; show _ = some (Value.int (nI (if am_true ((LM B84 d84).getD 0 []) = true then 2 else 1))); rw [b94]; rfl, d84, _, ⟨_, _, I84, r1_84, ⟨_, k84__R_2_⟩, ⟨_, k84__R_3_⟩, ⟨_, r10_84⟩⟩, by omega, by rw [yes], (((((((RFo.up (by decide) q2.symm).trans fM1.o).trans (RFo.up (by decide) eM2)).trans (RFo.up (by decide) eM3)).trans fM4.o).trans z71.o).trans z84.o)⟩)
        · skip
          refine j_aload_n d_Mo_run_97 rfl 2 rfl ?_
          refine j_aload_n d_Mo_run_98 rfl 2 rfl ?_
          refine j_get F_Mo I84.1 11 (by decide) w_954 (Or.inl rfl) rfl d_Mo_run_99 ?_
          refine j_iconst (v := nI 1) d_Mo_run_102 (by decide) ?_
          refine j_isub d_Mo_run_103 ?_
          refine j_eqi (y := nI (d84 - 1)) (pk_sub (by omega)) ?_
          refine j_callV (As := [.int (nI (d84 - 1))]) (rest := []) (r_isTrue Γ.l I84 (d84 - 1) (by omega)) Y_Mo_isTrue w_1023 w_1025 ws_31 I84.1 rfl rfl rfl (Nat.le_of_ble_eq_true rfl) (by omega) (by omega) (by omega) d_Mo_run_104 (fun v104 N104 p104 => ?_)
          obtain ⟨rfl, q104⟩ := p104
          obtain rfl := q104.symm
          show mp_J Γ m_Mo_run E κ N84 [(3, .int (nI dp)), (2, .int (nI (rows - j))), (0, .ref (R 0)), (1, .int (nI j))] 107 [.int (tf (am_true (B84 (d84 - 1))))] 0 0
          refine j_tif_eq 114 d_Mo_run_107 (by decide) (fun b107 => ?_) (fun b107 => ?_)
          · skip
            refine j_iconst (v := nI 1) d_Mo_run_114 (by decide) ?_
            exact j_iret hκ rfl (by omega) (by omega) d_Mo_run_115 (Or.inl ⟨j, hj, hij, by rw [yes]; show _ = some (Value.int (nI (if am_true ((LM B84 d84).getD 0 []) = true then 2 else 1))); rw [g0 (by omega), b107]; rfl, d84, _, ⟨_, _, I84, r1_84, ⟨_, k84__R_2_⟩, ⟨_, k84__R_3_⟩, ⟨_, r10_84⟩⟩, by omega, by rw [yes], (((((((RFo.up (by decide) q2.symm).trans fM1.o).trans (RFo.up (by decide) eM2)).trans (RFo.up (by decide) eM3)).trans fM4.o).trans z71.o).trans z84.o)⟩)
          · skip
            refine j_iconst (v := nI 2) d_Mo_run_110 (by decide) ?_
            refine j_goto (tgt := 115) d_Mo_run_111 (by decide) ?_
            exact j_iret hκ rfl (by omega) (by omega) d_Mo_run_115 (Or.inl ⟨j, hj, hij, by rw [yes]; show _ = some (Value.int (nI (if am_true ((LM B84 d84).getD 0 []) = true then 2 else 1))); rw [g0 (by omega), b107]; rfl, d84, _, ⟨_, _, I84, r1_84, ⟨_, k84__R_2_⟩, ⟨_, k84__R_3_⟩, ⟨_, r10_84⟩⟩, by omega, by rw [yes], (((((((RFo.up (by decide) q2.symm).trans fM1.o).trans (RFo.up (by decide) eM2)).trans (RFo.up (by decide) eM3)).trans fM4.o).trans z71.o).trans z84.o)⟩)
  · skip
    refine j_iconst (v := nI 0) d_Mo_run_8 (by decide) ?_
    exact j_iret hκ rfl (by omega) (by omega) d_Mo_run_9 (Or.inr ⟨fun hz => of_decide_eq_false b5 ((am_i32 hrw).mpr hz), rfl, by rw [q2, b5]; rfl⟩)

set_option maxHeartbeats 4000000 in
set_option maxRecDepth 100000 in
theorem c_Mo_number (l : Launch) (E : mp_E) (M : mp_M) (R : Nat → Nat) (rows : Nat) (thr : Int32) (dp as_ ops : Nat) (A : Nat → am_T) (i : Int32) (hI : RI E M R rows thr dp as_ ops A) (hR : RL R) (hd : dp ≤ 200) : mp_Cr l m_Mo_number E M 2 0 0 [.ref (R 0), .int i] (fun v N => (∃ j, j < dp ∧ i = nI j ∧ (((A (dp - 1 - j)).length ≤ 4 ∧ v = some (.int (am_num (A (dp - 1 - j))).toInt32) ∧ RI E N R rows (nI 0) dp as_ ops A) ∨ (¬ (A (dp - 1 - j)).length ≤ 4 ∧ v = some (.int (nI 0)) ∧ RI E N R rows (nI 2) dp as_ ops A)) ∧ RFr R M N) ∨ ((¬ ∃ j, j < dp ∧ i = nI j) ∧ v = some (.int (nI 0)) ∧ RI E N R rows (tf true) dp as_ ops A ∧ RFr R M N)) := by
  refine mp_Cr.of (by decide) (Nat.le_of_ble_eq_true rfl) fun Γ κ hl hκ => ?_
  subst hl
  obtain ⟨hκd, hκc, hκs, -⟩ := id hκ
  show mp_J Γ m_Mo_number E κ M [(0, .ref (R 0)), (1, .int i)] 0 [] 0 0
  refine j_aload_n d_Mo_number_0 rfl 0 rfl ?_
  refine j_iload_n d_Mo_number_1 rfl 1 rfl ?_
  refine j_callV (As := [.int i]) (rest := []) (c_Mo_isThing Γ.l E M (R 0) (R 1) rows (R 2) (R 3) (R 4) (R 5) (R 6) (R 7) (R 8) (R 9) dp as_ ops (R 10) thr i hI.1) Y_Mo_isThing w_1135 w_1137 ws_47 hI.1 rfl rfl rfl (Nat.le_of_ble_eq_true rfl) (by omega) (by omega) (by omega) d_Mo_number_2 (fun v2 N2 p2 => ?_)
  obtain ⟨rfl, q2⟩ := p2
  show mp_J Γ m_Mo_number E κ N2 [(0, .ref (R 0)), (1, .int i)] 5 [.int (tf (decide (¬ i < 0 ∧ i < nI dp)))] 0 0
  have hN2__R_0_ : N2 (R 0) = some (mp_o 7 [.ref (R 1), .int (nI rows), .int (tf (!decide (¬ i < 0 ∧ i < nI dp))), .ref (R 2), .ref (R 3), .ref (R 4), .ref (R 5), .ref (R 6), .ref (R 7), .ref (R 8), .ref (R 9), .int (nI dp), .int (nI as_), .int (nI ops), .ref (R 10)]) := by rw [q2]; exact mp_s
  have I2 : RI E N2 R rows (tf (!decide (¬ i < 0 ∧ i < nI dp))) dp as_ ops A := hI.set hR q2.symm
  refine j_tif_ne 10 d_Mo_number_5 (by decide) (fun b5 => ?_) (fun b5 => ?_)
  · skip
    obtain ⟨j, hj, hij⟩ := (am_i32s (by omega)).mp (of_decide_eq_true b5)
    rw [hij]
    refine j_aload_n d_Mo_number_10 rfl 0 rfl ?_
    refine j_get F_Mo hN2__R_0_ 11 (by decide) w_954 (Or.inl rfl) rfl d_Mo_number_11 ?_
    refine j_iconst (v := nI 1) d_Mo_number_14 (by decide) ?_
    refine j_isub d_Mo_number_15 ?_
    refine j_eqi (y := nI (dp - 1)) (pk_sub (by omega)) ?_
    refine j_iload_n d_Mo_number_16 rfl 1 rfl ?_
    refine j_isub d_Mo_number_17 ?_
    refine j_eqi (y := nI ((dp - 1) - j)) (pk_sub (by omega)) ?_
    refine j_istore_n [(2, .int (nI ((dp - 1) - j))), (0, .ref (R 0)), (1, .int (nI j))] d_Mo_number_18 rfl (by decide) rfl ?_
    refine j_aload_n d_Mo_number_19 rfl 1 rfl ?_
    refine j_aload_n d_Mo_number_20 rfl 1 rfl ?_
    refine j_iload_n d_Mo_number_21 rfl 0 rfl ?_
    refine j_callV (As := [.int (nI ((dp - 1) - j))]) (rest := [.ref (R 0)]) (r_isNumber Γ.l I2 ((dp - 1) - j) (by omega)) Y_Mo_isNumber w_1043 w_1045 ws_36 hN2__R_0_ rfl rfl rfl (Nat.le_of_ble_eq_true rfl) (by omega) (by omega) (by omega) d_Mo_number_22 (fun v22 N22 p22 => ?_)
    obtain ⟨rfl, q22⟩ := p22
    obtain rfl := q22.symm
    show mp_J Γ m_Mo_number E κ N2 [(2, .int (nI ((dp - 1) - j))), (0, .ref (R 0)), (1, .int (nI j))] 25 [.int (tf (decide ((A ((dp - 1) - j)).length ≤ 4))), .ref (R 0)] 0 0
    refine j_tif_eq 32 d_Mo_number_25 (by decide) (fun b25 => ?_) (fun b25 => ?_)
    · skip
      have d25 := of_decide_eq_false b25
      refine j_iconst (v := nI 2) d_Mo_number_32 (by decide) ?_
      refine j_put F_Mo hN2__R_0_ 2 (by decide) w_945 (Or.inl rfl) rfl rfl rfl (Nat.le_of_ble_eq_true rfl) d_Mo_number_33 ?_
      show mp_J Γ m_Mo_number E κ (mp_up N2 (R 0) (mp_o 7 [.ref (R 1), .int (nI rows), .int (nI 2), .ref (R 2), .ref (R 3), .ref (R 4), .ref (R 5), .ref (R 6), .ref (R 7), .ref (R 8), .ref (R 9), .int (nI dp), .int (nI as_), .int (nI ops), .ref (R 10)])) [(2, .int (nI ((dp - 1) - j))), (0, .ref (R 0)), (1, .int (nI j))] 36 [] 0 0
      generalize eM1 : mp_up N2 (R 0) (mp_o 7 [.ref (R 1), .int (nI rows), .int (nI 2), .ref (R 2), .ref (R 3), .ref (R 4), .ref (R 5), .ref (R 6), .ref (R 7), .ref (R 8), .ref (R 9), .int (nI dp), .int (nI as_), .int (nI ops), .ref (R 10)]) = M1
      have hM1__R_0_ : M1 (R 0) = some (mp_o 7 [.ref (R 1), .int (nI rows), .int (nI 2), .ref (R 2), .ref (R 3), .ref (R 4), .ref (R 5), .ref (R 6), .ref (R 7), .ref (R 8), .ref (R 9), .int (nI dp), .int (nI as_), .int (nI ops), .ref (R 10)]) := by rw [← eM1]; exact mp_s
      have JM1 : RI E M1 R rows (nI 2) dp as_ ops A := I2.set hR eM1
      have fM1 : RFr R N2 M1 := RFr.s0 eM1
      refine j_aload_n d_Mo_number_36 rfl 1 rfl ?_
      refine j_get F_Mo hM1__R_0_ 2 (by decide) w_945 (Or.inl rfl) rfl d_Mo_number_37 ?_
      refine j_nif_le 47 2 rfl (by omega) d_Mo_number_40 (by decide) (fun b40 => (by first | exact b40.elim | exact absurd b40 (by omega))) (fun b40 => ?_)
      refine j_iconst (v := nI 0) d_Mo_number_43 (by decide) ?_
      refine j_goto (tgt := 53) d_Mo_number_44 (by decide) ?_
      exact j_iret hκ rfl (by omega) (by omega) d_Mo_number_53 (Or.inl ⟨j, hj, hij, Or.inr ⟨d25, rfl, JM1⟩, ((RFr.s0 q2.symm).trans fM1)⟩)
    · skip
      have d25 := of_decide_eq_true b25
      refine j_iconst (v := nI 0) d_Mo_number_28 (by decide) ?_
      refine j_goto (tgt := 33) d_Mo_number_29 (by decide) ?_
      refine j_put F_Mo hN2__R_0_ 2 (by decide) w_945 (Or.inl rfl) rfl rfl rfl (Nat.le_of_ble_eq_true rfl) d_Mo_number_33 ?_
      show mp_J Γ m_Mo_number E κ (mp_up N2 (R 0) (mp_o 7 [.ref (R 1), .int (nI rows), .int (nI 0), .ref (R 2), .ref (R 3), .ref (R 4), .ref (R 5), .ref (R 6), .ref (R 7), .ref (R 8), .ref (R 9), .int (nI dp), .int (nI as_), .int (nI ops), .ref (R 10)])) [(2, .int (nI ((dp - 1) - j))), (0, .ref (R 0)), (1, .int (nI j))] 36 [] 0 0
      generalize eM2 : mp_up N2 (R 0) (mp_o 7 [.ref (R 1), .int (nI rows), .int (nI 0), .ref (R 2), .ref (R 3), .ref (R 4), .ref (R 5), .ref (R 6), .ref (R 7), .ref (R 8), .ref (R 9), .int (nI dp), .int (nI as_), .int (nI ops), .ref (R 10)]) = M2
      have hM2__R_0_ : M2 (R 0) = some (mp_o 7 [.ref (R 1), .int (nI rows), .int (nI 0), .ref (R 2), .ref (R 3), .ref (R 4), .ref (R 5), .ref (R 6), .ref (R 7), .ref (R 8), .ref (R 9), .int (nI dp), .int (nI as_), .int (nI ops), .ref (R 10)]) := by rw [← eM2]; exact mp_s
      have JM2 : RI E M2 R rows (nI 0) dp as_ ops A := I2.set hR eM2
      have fM2 : RFr R N2 M2 := RFr.s0 eM2
      refine j_aload_n d_Mo_number_36 rfl 1 rfl ?_
      refine j_get F_Mo hM2__R_0_ 2 (by decide) w_945 (Or.inl rfl) rfl d_Mo_number_37 ?_
      refine j_nif_le 47 0 rfl (by omega) d_Mo_number_40 (by decide) (fun b40 => ?_) (fun b40 => (by first | exact b40.elim | exact absurd b40 (by omega)))
      refine j_aload_n d_Mo_number_47 rfl 1 rfl ?_
      refine j_iload_n d_Mo_number_48 rfl 0 rfl ?_
      refine j_callV (As := [.int (nI ((dp - 1) - j))]) (rest := []) (r_numberAt Γ.l JM2 ((dp - 1) - j) (by omega) d25) Y_Mo_numberAt w_1047 w_1049 ws_37 hM2__R_0_ rfl rfl rfl (Nat.le_of_ble_eq_true rfl) (by omega) (by omega) (by omega) d_Mo_number_49 (fun v49 N49 p49 => ?_)
      obtain ⟨rfl, q49⟩ := p49
      obtain rfl := q49.symm
      show mp_J Γ m_Mo_number E κ M2 [(2, .int (nI ((dp - 1) - j))), (0, .ref (R 0)), (1, .int (nI j))] 52 [.long (am_num (A ((dp - 1) - j)))] 0 0
      refine j_l2i d_Mo_number_52 ?_
      exact j_iret hκ rfl (by omega) (by omega) d_Mo_number_53 (Or.inl ⟨j, hj, hij, Or.inl ⟨d25, rfl, JM2⟩, ((RFr.s0 q2.symm).trans fM2)⟩)
  · skip
    refine j_iconst (v := nI 0) d_Mo_number_8 (by decide) ?_
    exact j_iret hκ rfl (by omega) (by omega) d_Mo_number_9 (Or.inr ⟨fun hz => of_decide_eq_false b5 ((am_i32s (by omega)).mpr hz), rfl, by rw [b5] at I2; exact I2, RFr.s0 q2.symm⟩)

theorem nh_1 {a c : Int32} (h : a < 0 ∨ nI 2 < a) : ¬ ∃ w q, w ≤ 2 ∧ a = nI w ∧ q ≤ (if w = 2 then 4 else 7) ∧ c = nI q := fun ⟨w9, q9, z1, z2, z3, z4⟩ => by
  have z := (am_i32 (i := a) (len := 2) (by decide)).mpr ⟨w9, z1, z2⟩
  rcases h with h | h
  · exact z.1 h
  · exact Int32.not_lt.mpr z.2 h
theorem nh_2 {a c : Int32} {w m : Nat} (hw : w ≤ 2) (haw : a = nI w) (hm : m = if w = 2 then 4 else 7) (h : c < 0 ∨ ¬ c ≤ nI m) : ¬ ∃ w q, w ≤ 2 ∧ a = nI w ∧ q ≤ (if w = 2 then 4 else 7) ∧ c = nI q := fun ⟨w9, q9, z1, z2, z3, z4⟩ => by
  have z5 : w = w9 := am_nIinj (by omega) (by omega) (haw.symm.trans z2)
  subst z5
  rw [← hm] at z3
  have z6 := (am_i32 (i := c) (len := m) (by rw [hm]; split <;> omega)).mpr ⟨q9, z3, z4⟩
  rcases h with h | h
  · exact z6.1 h
  · exact h z6.2
theorem am_shaR_l {g : Nat → Int32} {n : Nat} : (am_shaR g n).length = 32 := gl_len
theorem am_ripR_l {g : Nat → Int32} {n : Nat} : (am_ripR g n).length = 20 := gl_len
set_option maxHeartbeats 4000000 in
set_option maxRecDepth 100000 in
theorem c_Mo_hash (l : Launch) (E : mp_E) (M : mp_M) (R : Nat → Nat) (rows : Nat) (thr : Int32) (dp as_ ops : Nat) (A : Nat → am_T) (g : Nat → Int32) (a c : Int32) (hI : RI E M R rows thr dp as_ ops A) (hR : RL R) (h1 : M (R 1) = some (mp_b E 1000 g)) (hfit : ∀ i, i < 1000 → fits .byte (.int (g i)) = true) (hrw : rows ≤ 1000) : mp_Cr l m_Mo_hash E M 3 0 0 [.ref (R 0), .int a, .int c] (fun v N => (∃ w q, w ≤ 2 ∧ a = nI w ∧ q ≤ (if w = 2 then 4 else 7) ∧ c = nI q ∧ v = some (.int (th_w (am_hs g rows w).length (gb (am_hs g rows w)) q 4)) ∧ RI E N R rows (nI 0) dp as_ ops A ∧ RFr R M N) ∨ ((¬ ∃ w q, w ≤ 2 ∧ a = nI w ∧ q ≤ (if w = 2 then 4 else 7) ∧ c = nI q) ∧ v = some (.int (nI 0)) ∧ RI E N R rows (nI 1) dp as_ ops A ∧ RFr R M N)) := by
  refine mp_Cr.of (by decide) (Nat.le_of_ble_eq_true rfl) fun Γ κ hl hκ => ?_
  subst hl
  obtain ⟨hκd, hκc, hκs, -⟩ := id hκ
  show mp_J Γ m_Mo_hash E κ M [(0, .ref (R 0)), (1, .int a), (2, .int c)] 0 [] 0 0
  refine j_aload_n d_Mo_hash_0 rfl 0 rfl ?_
  refine j_iload_n d_Mo_hash_1 rfl 1 rfl ?_
  refine j_if_lt 29 d_Mo_hash_2 (by decide) (fun b2 => ?_) (fun b2 => ?_)
  · skip
    refine j_iconst (v := nI 1) d_Mo_hash_29 (by decide) ?_
    refine j_goto (tgt := 34) d_Mo_hash_30 (by decide) ?_
    refine j_put F_Mo hI.1 2 (by decide) w_945 (Or.inl rfl) rfl rfl rfl (Nat.le_of_ble_eq_true rfl) d_Mo_hash_34 ?_
    show mp_J Γ m_Mo_hash E κ (mp_up M (R 0) (mp_o 7 [.ref (R 1), .int (nI rows), .int (nI 1), .ref (R 2), .ref (R 3), .ref (R 4), .ref (R 5), .ref (R 6), .ref (R 7), .ref (R 8), .ref (R 9), .int (nI dp), .int (nI as_), .int (nI ops), .ref (R 10)])) [(0, .ref (R 0)), (1, .int a), (2, .int c)] 37 [] 0 0
    generalize eM1 : mp_up M (R 0) (mp_o 7 [.ref (R 1), .int (nI rows), .int (nI 1), .ref (R 2), .ref (R 3), .ref (R 4), .ref (R 5), .ref (R 6), .ref (R 7), .ref (R 8), .ref (R 9), .int (nI dp), .int (nI as_), .int (nI ops), .ref (R 10)]) = M1
    have hM1__R_1_ : M1 (R 1) = some (mp_b E 1000 g) := by rw [← eM1, mp_n (hR.ne (by decide) (by decide) (by decide))]; exact h1
    have hM1__R_0_ : M1 (R 0) = some (mp_o 7 [.ref (R 1), .int (nI rows), .int (nI 1), .ref (R 2), .ref (R 3), .ref (R 4), .ref (R 5), .ref (R 6), .ref (R 7), .ref (R 8), .ref (R 9), .int (nI dp), .int (nI as_), .int (nI ops), .ref (R 10)]) := by rw [← eM1]; exact mp_s
    have JM1 : RI E M1 R rows (nI 1) dp as_ ops A := hI.set hR eM1
    have fM1 : RFr R M M1 := RFr.s0 eM1
    refine j_aload_n d_Mo_hash_37 rfl 0 rfl ?_
    refine j_get F_Mo hM1__R_0_ 2 (by decide) w_945 (Or.inl rfl) rfl d_Mo_hash_38 ?_
    refine j_nif_le 46 1 rfl (by omega) d_Mo_hash_41 (by decide) (fun b41 => (by first | exact b41.elim | exact absurd b41 (by omega))) (fun b41 => ?_)
    refine j_iconst (v := nI 0) d_Mo_hash_44 (by decide) ?_
    exact j_iret hκ rfl (by omega) (by omega) d_Mo_hash_45 (Or.inr ⟨(by first | exact nh_1 (Or.inl b2) | exact nh_1 (Or.inr b7) | exact nh_2 hw haw rfl (Or.inl b11) | exact nh_2 hw haw (if_neg b17).symm (Or.inr b26) | exact nh_2 hw haw (if_pos b17).symm (Or.inr b26)), rfl, JM1, fM1⟩)
  · skip
    refine j_iload_n d_Mo_hash_5 rfl 1 rfl ?_
    refine j_iconst (v := nI 2) d_Mo_hash_6 (by decide) ?_
    refine j_icmp_gt 29 d_Mo_hash_7 (by decide) (fun b7 => ?_) (fun b7 => ?_)
    · skip
      refine j_iconst (v := nI 1) d_Mo_hash_29 (by decide) ?_
      refine j_goto (tgt := 34) d_Mo_hash_30 (by decide) ?_
      refine j_put F_Mo hI.1 2 (by decide) w_945 (Or.inl rfl) rfl rfl rfl (Nat.le_of_ble_eq_true rfl) d_Mo_hash_34 ?_
      show mp_J Γ m_Mo_hash E κ (mp_up M (R 0) (mp_o 7 [.ref (R 1), .int (nI rows), .int (nI 1), .ref (R 2), .ref (R 3), .ref (R 4), .ref (R 5), .ref (R 6), .ref (R 7), .ref (R 8), .ref (R 9), .int (nI dp), .int (nI as_), .int (nI ops), .ref (R 10)])) [(0, .ref (R 0)), (1, .int a), (2, .int c)] 37 [] 0 0
      generalize eM2 : mp_up M (R 0) (mp_o 7 [.ref (R 1), .int (nI rows), .int (nI 1), .ref (R 2), .ref (R 3), .ref (R 4), .ref (R 5), .ref (R 6), .ref (R 7), .ref (R 8), .ref (R 9), .int (nI dp), .int (nI as_), .int (nI ops), .ref (R 10)]) = M2
      have hM2__R_1_ : M2 (R 1) = some (mp_b E 1000 g) := by rw [← eM2, mp_n (hR.ne (by decide) (by decide) (by decide))]; exact h1
      have hM2__R_0_ : M2 (R 0) = some (mp_o 7 [.ref (R 1), .int (nI rows), .int (nI 1), .ref (R 2), .ref (R 3), .ref (R 4), .ref (R 5), .ref (R 6), .ref (R 7), .ref (R 8), .ref (R 9), .int (nI dp), .int (nI as_), .int (nI ops), .ref (R 10)]) := by rw [← eM2]; exact mp_s
      have JM2 : RI E M2 R rows (nI 1) dp as_ ops A := hI.set hR eM2
      have fM2 : RFr R M M2 := RFr.s0 eM2
      refine j_aload_n d_Mo_hash_37 rfl 0 rfl ?_
      refine j_get F_Mo hM2__R_0_ 2 (by decide) w_945 (Or.inl rfl) rfl d_Mo_hash_38 ?_
      refine j_nif_le 46 1 rfl (by omega) d_Mo_hash_41 (by decide) (fun b41 => (by first | exact b41.elim | exact absurd b41 (by omega))) (fun b41 => ?_)
      refine j_iconst (v := nI 0) d_Mo_hash_44 (by decide) ?_
      exact j_iret hκ rfl (by omega) (by omega) d_Mo_hash_45 (Or.inr ⟨(by first | exact nh_1 (Or.inl b2) | exact nh_1 (Or.inr b7) | exact nh_2 hw haw rfl (Or.inl b11) | exact nh_2 hw haw (if_neg b17).symm (Or.inr b26) | exact nh_2 hw haw (if_pos b17).symm (Or.inr b26)), rfl, JM2, fM2⟩)
    · skip
      obtain ⟨w, hw, haw⟩ := (am_i32 (len := 2) (by decide)).mp ⟨b2, Int32.not_lt.mp b7⟩
      rw [haw]
      refine j_iload_n d_Mo_hash_10 rfl 2 rfl ?_
      refine j_if_lt 29 d_Mo_hash_11 (by decide) (fun b11 => ?_) (fun b11 => ?_)
      · skip
        refine j_iconst (v := nI 1) d_Mo_hash_29 (by decide) ?_
        refine j_goto (tgt := 34) d_Mo_hash_30 (by decide) ?_
        refine j_put F_Mo hI.1 2 (by decide) w_945 (Or.inl rfl) rfl rfl rfl (Nat.le_of_ble_eq_true rfl) d_Mo_hash_34 ?_
        show mp_J Γ m_Mo_hash E κ (mp_up M (R 0) (mp_o 7 [.ref (R 1), .int (nI rows), .int (nI 1), .ref (R 2), .ref (R 3), .ref (R 4), .ref (R 5), .ref (R 6), .ref (R 7), .ref (R 8), .ref (R 9), .int (nI dp), .int (nI as_), .int (nI ops), .ref (R 10)])) [(0, .ref (R 0)), (1, .int (nI w)), (2, .int c)] 37 [] 0 0
        generalize eM3 : mp_up M (R 0) (mp_o 7 [.ref (R 1), .int (nI rows), .int (nI 1), .ref (R 2), .ref (R 3), .ref (R 4), .ref (R 5), .ref (R 6), .ref (R 7), .ref (R 8), .ref (R 9), .int (nI dp), .int (nI as_), .int (nI ops), .ref (R 10)]) = M3
        have hM3__R_1_ : M3 (R 1) = some (mp_b E 1000 g) := by rw [← eM3, mp_n (hR.ne (by decide) (by decide) (by decide))]; exact h1
        have hM3__R_0_ : M3 (R 0) = some (mp_o 7 [.ref (R 1), .int (nI rows), .int (nI 1), .ref (R 2), .ref (R 3), .ref (R 4), .ref (R 5), .ref (R 6), .ref (R 7), .ref (R 8), .ref (R 9), .int (nI dp), .int (nI as_), .int (nI ops), .ref (R 10)]) := by rw [← eM3]; exact mp_s
        have JM3 : RI E M3 R rows (nI 1) dp as_ ops A := hI.set hR eM3
        have fM3 : RFr R M M3 := RFr.s0 eM3
        refine j_aload_n d_Mo_hash_37 rfl 0 rfl ?_
        refine j_get F_Mo hM3__R_0_ 2 (by decide) w_945 (Or.inl rfl) rfl d_Mo_hash_38 ?_
        refine j_nif_le 46 1 rfl (by omega) d_Mo_hash_41 (by decide) (fun b41 => (by first | exact b41.elim | exact absurd b41 (by omega))) (fun b41 => ?_)
        refine j_iconst (v := nI 0) d_Mo_hash_44 (by decide) ?_
        exact j_iret hκ rfl (by omega) (by omega) d_Mo_hash_45 (Or.inr ⟨(by first | exact nh_1 (Or.inl b2) | exact nh_1 (Or.inr b7) | exact nh_2 hw haw rfl (Or.inl b11) | exact nh_2 hw haw (if_neg b17).symm (Or.inr b26) | exact nh_2 hw haw (if_pos b17).symm (Or.inr b26)), rfl, JM3, fM3⟩)
      · skip
        refine j_iload_n d_Mo_hash_14 rfl 2 rfl ?_
        refine j_iload_n d_Mo_hash_15 rfl 1 rfl ?_
        refine j_iconst (v := nI 2) d_Mo_hash_16 (by decide) ?_
        refine j_ncmp_ne 24 w 2 rfl rfl (by omega) (by omega) d_Mo_hash_17 (by decide) (fun b17 => ?_) (fun b17 => ?_)
        · skip
          refine j_bipush (v := nI 7) d_Mo_hash_24 (by decide) ?_
          refine j_icmp_le 33 d_Mo_hash_26 (by decide) (fun b26 => ?_) (fun b26 => ?_)
          · skip
            obtain ⟨q, hq, hcq⟩ := (am_i32 (len := 7) (by decide)).mp ⟨b11, b26⟩
            rw [hcq]
            refine j_iconst (v := nI 0) d_Mo_hash_33 (by decide) ?_
            refine j_put F_Mo hI.1 2 (by decide) w_945 (Or.inl rfl) rfl rfl rfl (Nat.le_of_ble_eq_true rfl) d_Mo_hash_34 ?_
            show mp_J Γ m_Mo_hash E κ (mp_up M (R 0) (mp_o 7 [.ref (R 1), .int (nI rows), .int (nI 0), .ref (R 2), .ref (R 3), .ref (R 4), .ref (R 5), .ref (R 6), .ref (R 7), .ref (R 8), .ref (R 9), .int (nI dp), .int (nI as_), .int (nI ops), .ref (R 10)])) [(0, .ref (R 0)), (1, .int (nI w)), (2, .int (nI q))] 37 [] 0 0
            generalize eM4 : mp_up M (R 0) (mp_o 7 [.ref (R 1), .int (nI rows), .int (nI 0), .ref (R 2), .ref (R 3), .ref (R 4), .ref (R 5), .ref (R 6), .ref (R 7), .ref (R 8), .ref (R 9), .int (nI dp), .int (nI as_), .int (nI ops), .ref (R 10)]) = M4
            have hM4__R_1_ : M4 (R 1) = some (mp_b E 1000 g) := by rw [← eM4, mp_n (hR.ne (by decide) (by decide) (by decide))]; exact h1
            have hM4__R_0_ : M4 (R 0) = some (mp_o 7 [.ref (R 1), .int (nI rows), .int (nI 0), .ref (R 2), .ref (R 3), .ref (R 4), .ref (R 5), .ref (R 6), .ref (R 7), .ref (R 8), .ref (R 9), .int (nI dp), .int (nI as_), .int (nI ops), .ref (R 10)]) := by rw [← eM4]; exact mp_s
            have JM4 : RI E M4 R rows (nI 0) dp as_ ops A := hI.set hR eM4
            have fM4 : RFr R M M4 := RFr.s0 eM4
            refine j_aload_n d_Mo_hash_37 rfl 0 rfl ?_
            refine j_get F_Mo hM4__R_0_ 2 (by decide) w_945 (Or.inl rfl) rfl d_Mo_hash_38 ?_
            refine j_nif_le 46 0 rfl (by omega) d_Mo_hash_41 (by decide) (fun b41 => ?_) (fun b41 => (by first | exact b41.elim | exact absurd b41 (by omega)))
            refine j_iload_n d_Mo_hash_46 rfl 1 rfl ?_
            refine j_iconst (v := nI 2) d_Mo_hash_47 (by decide) ?_
            refine j_ncmp_ne 67 w 2 rfl rfl (by omega) (by omega) d_Mo_hash_48 (by decide) (fun b48 => ?_) (fun b48 => ?_)
            · skip
              refine j_aload_n d_Mo_hash_67 rfl 0 rfl ?_
              refine j_aload_n d_Mo_hash_68 rfl 0 rfl ?_
              refine j_get F_Mo hM4__R_0_ 0 (by decide) w_943 (Or.inl rfl) rfl d_Mo_hash_69 ?_
              refine j_iconst (v := nI 0) d_Mo_hash_72 (by decide) ?_
              refine j_aload_n d_Mo_hash_73 rfl 0 rfl ?_
              refine j_get F_Mo hM4__R_0_ 1 (by decide) w_944 (Or.inl rfl) rfl d_Mo_hash_74 ?_
              refine j_callV (As := [.ref (R 1), .int (nI 0), .int (nI rows)]) (rest := []) (c_Mo_sha Γ.l E M4 R rows (nI 0) dp as_ ops A (R 1) 1000 0 rows g JM4 hR hM4__R_1_ (by decide) (by omega) (by omega) hfit (hR.ne (by decide) (by decide) (by decide))) Y_Mo_sha w_1108 w_1110 ws_45 hM4__R_0_ rfl rfl rfl (Nat.le_of_ble_eq_true rfl) (by omega) (by omega) (by omega) d_Mo_hash_77 (fun v77 N77 p77 => ?_)
              obtain ⟨rfl, I77, z77, f77⟩ := p77
              have y77 : ∀ j, j < 32 → (sm_sha (fun e => g (0 + e)) rows) (0 + j) = gb (am_shaR g rows) j := fun j hj => by rw [Nat.zero_add, sm_sha_c (g := g) (fun e he => by rw [Nat.zero_add])]; exact (gl_at hj).symm
              have k77__R_1_ : N77 (R 1) = some (mp_b E 1000 g) := (f77.k hR (by decide) (by decide) (by decide)).trans hM4__R_1_
              show mp_J Γ m_Mo_hash E κ N77 [(0, .ref (R 0)), (1, .int (nI w)), (2, .int (nI q))] 80 [] 0 0
              refine j_iload_n d_Mo_hash_80 rfl 1 rfl ?_
              refine j_iconst (v := nI 1) d_Mo_hash_81 (by decide) ?_
              refine j_ncmp_ne 96 w 1 rfl rfl (by omega) (by omega) d_Mo_hash_82 (by decide) (fun b82 => ?_) (fun b82 => ?_)
              · skip
                refine j_aload_n d_Mo_hash_96 rfl 0 rfl ?_
                refine j_get F_Mo I77.1 7 (by decide) w_950 (Or.inl rfl) rfl d_Mo_hash_97 ?_
                refine j_iconst (v := nI 4) d_Mo_hash_100 (by decide) ?_
                refine j_iload_n d_Mo_hash_101 rfl 2 rfl ?_
                refine j_imul d_Mo_hash_102 ?_
                refine j_eqi (y := nI (4 * q)) (pk_mul 4 q) ?_
                refine j_callS (As := [.ref (R 6), .int (nI (4 * q))]) (rest := []) (c_Mo_small Γ.l E N77 (R 6) 32 (4 * q) (sm_sha (fun e => g (0 + e)) rows) z77 (by decide) (by omega)) Y_Mo_small w_1095 w_1096 rfl rfl (Nat.le_of_ble_eq_true rfl) (by omega) (by omega) (by omega) d_Mo_hash_103 (fun v103 N103 p103 => ?_)
                obtain ⟨rfl, q103⟩ := p103
                obtain rfl := q103.symm
                show mp_J Γ m_Mo_hash E κ N77 [(0, .ref (R 0)), (1, .int (nI w)), (2, .int (nI q))] 106 [.int (sm_at (sm_sha (fun e => g (0 + e)) rows) (4 * q))] 0 0
                exact j_iret hκ rfl (by omega) (by omega) d_Mo_hash_106 (Or.inl ⟨w, q, hw, haw, (by first | (rw [if_pos (by omega)]; omega) | (rw [if_neg (by omega)]; omega)), hcq, by rw [show am_hs g rows w = am_shaR g rows from by unfold am_hs; rw [if_neg b48, if_neg b82], hw_e (x := am_shaR g rows) (by rw [am_shaR_l]; exact y77) (by rw [am_shaR_l]; omega)], I77, (fM4.trans f77)⟩)
              · skip
                refine j_aload_n d_Mo_hash_85 rfl 0 rfl ?_
                refine j_aload_n d_Mo_hash_86 rfl 0 rfl ?_
                refine j_get F_Mo I77.1 7 (by decide) w_950 (Or.inl rfl) rfl d_Mo_hash_87 ?_
                refine j_iconst (v := nI 0) d_Mo_hash_90 (by decide) ?_
                refine j_bipush (v := nI 32) d_Mo_hash_91 (by decide) ?_
                refine j_callV (As := [.ref (R 6), .int (nI 0), .int (nI 32)]) (rest := []) (c_Mo_sha Γ.l E N77 R rows (nI 0) dp as_ ops A (R 6) 32 0 32 (sm_sha (fun e => g (0 + e)) rows) I77 hR z77 (by decide) (by decide) (by decide) (fun i hi => pk_fb _) (hR.ne (by decide) (by decide) (by decide))) Y_Mo_sha w_1108 w_1110 ws_45 I77.1 rfl rfl rfl (Nat.le_of_ble_eq_true rfl) (by omega) (by omega) (by omega) d_Mo_hash_93 (fun v93 N93 p93 => ?_)
                obtain ⟨rfl, I93, z93, f93⟩ := p93
                have y93 : ∀ j, j < 32 → (sm_sha (fun e => (sm_sha (fun e => g (0 + e)) rows) (0 + e)) 32) (0 + j) = gb (am_sha (am_shaR g rows)) j := fun j hj => by rw [Nat.zero_add, sm_sha_c (g := gb (am_shaR g rows)) y77]; exact ((gl_at hj).symm.trans (by unfold am_sha; rw [am_shaR_l]))
                have k93__R_1_ : N93 (R 1) = some (mp_b E 1000 g) := (f93.k hR (by decide) (by decide) (by decide)).trans k77__R_1_
                show mp_J Γ m_Mo_hash E κ N93 [(0, .ref (R 0)), (1, .int (nI w)), (2, .int (nI q))] 96 [] 0 0
                refine j_aload_n d_Mo_hash_96 rfl 0 rfl ?_
                refine j_get F_Mo I93.1 7 (by decide) w_950 (Or.inl rfl) rfl d_Mo_hash_97 ?_
                refine j_iconst (v := nI 4) d_Mo_hash_100 (by decide) ?_
                refine j_iload_n d_Mo_hash_101 rfl 2 rfl ?_
                refine j_imul d_Mo_hash_102 ?_
                refine j_eqi (y := nI (4 * q)) (pk_mul 4 q) ?_
                refine j_callS (As := [.ref (R 6), .int (nI (4 * q))]) (rest := []) (c_Mo_small Γ.l E N93 (R 6) 32 (4 * q) (sm_sha (fun e => (sm_sha (fun e => g (0 + e)) rows) (0 + e)) 32) z93 (by decide) (by omega)) Y_Mo_small w_1095 w_1096 rfl rfl (Nat.le_of_ble_eq_true rfl) (by omega) (by omega) (by omega) d_Mo_hash_103 (fun v103 N103 p103 => ?_)
                obtain ⟨rfl, q103⟩ := p103
                obtain rfl := q103.symm
                show mp_J Γ m_Mo_hash E κ N93 [(0, .ref (R 0)), (1, .int (nI w)), (2, .int (nI q))] 106 [.int (sm_at (sm_sha (fun e => (sm_sha (fun e => g (0 + e)) rows) (0 + e)) 32) (4 * q))] 0 0
                exact j_iret hκ rfl (by omega) (by omega) d_Mo_hash_106 (Or.inl ⟨w, q, hw, haw, (by first | (rw [if_pos (by omega)]; omega) | (rw [if_neg (by omega)]; omega)), hcq, by rw [show am_hs g rows w = am_sha (am_shaR g rows) from by unfold am_hs; rw [if_neg b48, if_pos b82], hw_e (x := am_sha (am_shaR g rows)) (by rw [am_sha_l]; exact y93) (by rw [am_sha_l]; omega)], I93, ((fM4.trans f77).trans f93)⟩)
            · skip
              refine j_aload_n d_Mo_hash_51 rfl 0 rfl ?_
              refine j_aload_n d_Mo_hash_52 rfl 0 rfl ?_
              refine j_get F_Mo hM4__R_0_ 0 (by decide) w_943 (Or.inl rfl) rfl d_Mo_hash_53 ?_
              refine j_iconst (v := nI 0) d_Mo_hash_56 (by decide) ?_
              refine j_aload_n d_Mo_hash_57 rfl 0 rfl ?_
              refine j_get F_Mo hM4__R_0_ 1 (by decide) w_944 (Or.inl rfl) rfl d_Mo_hash_58 ?_
              refine j_callV (As := [.ref (R 1), .int (nI 0), .int (nI rows)]) (rest := []) (c_Mo_ripemd Γ.l E M4 R rows (nI 0) dp as_ ops A (R 1) 1000 0 rows g JM4 hR hM4__R_1_ (by decide) (by omega) (by omega) hfit (hR.ne (by decide) (by decide) (by decide))) Y_Mo_ripemd w_1080 w_1082 ws_44 hM4__R_0_ rfl rfl rfl (Nat.le_of_ble_eq_true rfl) (by omega) (by omega) (by omega) d_Mo_hash_61 (fun v61 N61 p61 => ?_)
              obtain ⟨rfl, I61, ⟨H61, z61, r61, u61⟩, f61⟩ := p61
              have y61 : ∀ j, j < 20 → H61 (0 + j) = gb (am_ripR g rows) j := fun j hj => by rw [Nat.zero_add, r61 j hj, sm_rip_c (g := g) (fun e he => by rw [Nat.zero_add])]; exact (gl_at hj).symm
              have k61__R_1_ : N61 (R 1) = some (mp_b E 1000 g) := (f61.k hR (by decide) (by decide) (by decide)).trans hM4__R_1_
              show mp_J Γ m_Mo_hash E κ N61 [(0, .ref (R 0)), (1, .int (nI w)), (2, .int (nI q))] 64 [] 0 0
              refine j_goto (tgt := 80) d_Mo_hash_64 (by decide) ?_
              refine j_iload_n d_Mo_hash_80 rfl 1 rfl ?_
              refine j_iconst (v := nI 1) d_Mo_hash_81 (by decide) ?_
              refine j_ncmp_ne 96 w 1 rfl rfl (by omega) (by omega) d_Mo_hash_82 (by decide) (fun b82 => ?_) (fun b82 => absurd b82 (by omega))
              refine j_aload_n d_Mo_hash_96 rfl 0 rfl ?_
              refine j_get F_Mo I61.1 7 (by decide) w_950 (Or.inl rfl) rfl d_Mo_hash_97 ?_
              refine j_iconst (v := nI 4) d_Mo_hash_100 (by decide) ?_
              refine j_iload_n d_Mo_hash_101 rfl 2 rfl ?_
              refine j_imul d_Mo_hash_102 ?_
              refine j_eqi (y := nI (4 * q)) (pk_mul 4 q) ?_
              refine j_callS (As := [.ref (R 6), .int (nI (4 * q))]) (rest := []) (c_Mo_small Γ.l E N61 (R 6) 32 (4 * q) H61 z61 (by decide) (by omega)) Y_Mo_small w_1095 w_1096 rfl rfl (Nat.le_of_ble_eq_true rfl) (by omega) (by omega) (by omega) d_Mo_hash_103 (fun v103 N103 p103 => ?_)
              obtain ⟨rfl, q103⟩ := p103
              obtain rfl := q103.symm
              show mp_J Γ m_Mo_hash E κ N61 [(0, .ref (R 0)), (1, .int (nI w)), (2, .int (nI q))] 106 [.int (sm_at H61 (4 * q))] 0 0
              exact j_iret hκ rfl (by omega) (by omega) d_Mo_hash_106 (Or.inl ⟨w, q, hw, haw, (by first | (rw [if_pos (by omega)]; omega) | (rw [if_neg (by omega)]; omega)), hcq, by rw [show am_hs g rows w = am_ripR g rows from by unfold am_hs; rw [if_pos b48], hw_e (x := am_ripR g rows) (by rw [am_ripR_l]; exact y61) (by rw [am_ripR_l]; omega)], I61, (fM4.trans f61)⟩)
          · skip
            refine j_iconst (v := nI 1) d_Mo_hash_29 (by decide) ?_
            refine j_goto (tgt := 34) d_Mo_hash_30 (by decide) ?_
            refine j_put F_Mo hI.1 2 (by decide) w_945 (Or.inl rfl) rfl rfl rfl (Nat.le_of_ble_eq_true rfl) d_Mo_hash_34 ?_
            show mp_J Γ m_Mo_hash E κ (mp_up M (R 0) (mp_o 7 [.ref (R 1), .int (nI rows), .int (nI 1), .ref (R 2), .ref (R 3), .ref (R 4), .ref (R 5), .ref (R 6), .ref (R 7), .ref (R 8), .ref (R 9), .int (nI dp), .int (nI as_), .int (nI ops), .ref (R 10)])) [(0, .ref (R 0)), (1, .int (nI w)), (2, .int c)] 37 [] 0 0
            generalize eM5 : mp_up M (R 0) (mp_o 7 [.ref (R 1), .int (nI rows), .int (nI 1), .ref (R 2), .ref (R 3), .ref (R 4), .ref (R 5), .ref (R 6), .ref (R 7), .ref (R 8), .ref (R 9), .int (nI dp), .int (nI as_), .int (nI ops), .ref (R 10)]) = M5
            have hM5__R_1_ : M5 (R 1) = some (mp_b E 1000 g) := by rw [← eM5, mp_n (hR.ne (by decide) (by decide) (by decide))]; exact h1
            have hM5__R_0_ : M5 (R 0) = some (mp_o 7 [.ref (R 1), .int (nI rows), .int (nI 1), .ref (R 2), .ref (R 3), .ref (R 4), .ref (R 5), .ref (R 6), .ref (R 7), .ref (R 8), .ref (R 9), .int (nI dp), .int (nI as_), .int (nI ops), .ref (R 10)]) := by rw [← eM5]; exact mp_s
            have JM5 : RI E M5 R rows (nI 1) dp as_ ops A := hI.set hR eM5
            have fM5 : RFr R M M5 := RFr.s0 eM5
            refine j_aload_n d_Mo_hash_37 rfl 0 rfl ?_
            refine j_get F_Mo hM5__R_0_ 2 (by decide) w_945 (Or.inl rfl) rfl d_Mo_hash_38 ?_
            refine j_nif_le 46 1 rfl (by omega) d_Mo_hash_41 (by decide) (fun b41 => (by first | exact b41.elim | exact absurd b41 (by omega))) (fun b41 => ?_)
            refine j_iconst (v := nI 0) d_Mo_hash_44 (by decide) ?_
            exact j_iret hκ rfl (by omega) (by omega) d_Mo_hash_45 (Or.inr ⟨(by first | exact nh_1 (Or.inl b2) | exact nh_1 (Or.inr b7) | exact nh_2 hw haw rfl (Or.inl b11) | exact nh_2 hw haw (if_neg b17).symm (Or.inr b26) | exact nh_2 hw haw (if_pos b17).symm (Or.inr b26)), rfl, JM5, fM5⟩)
        · skip
          refine j_iconst (v := nI 4) d_Mo_hash_20 (by decide) ?_
          refine j_goto (tgt := 26) d_Mo_hash_21 (by decide) ?_
          refine j_icmp_le 33 d_Mo_hash_26 (by decide) (fun b26 => ?_) (fun b26 => ?_)
          · skip
            obtain ⟨q, hq, hcq⟩ := (am_i32 (len := 4) (by decide)).mp ⟨b11, b26⟩
            rw [hcq]
            refine j_iconst (v := nI 0) d_Mo_hash_33 (by decide) ?_
            refine j_put F_Mo hI.1 2 (by decide) w_945 (Or.inl rfl) rfl rfl rfl (Nat.le_of_ble_eq_true rfl) d_Mo_hash_34 ?_
            show mp_J Γ m_Mo_hash E κ (mp_up M (R 0) (mp_o 7 [.ref (R 1), .int (nI rows), .int (nI 0), .ref (R 2), .ref (R 3), .ref (R 4), .ref (R 5), .ref (R 6), .ref (R 7), .ref (R 8), .ref (R 9), .int (nI dp), .int (nI as_), .int (nI ops), .ref (R 10)])) [(0, .ref (R 0)), (1, .int (nI w)), (2, .int (nI q))] 37 [] 0 0
            generalize eM6 : mp_up M (R 0) (mp_o 7 [.ref (R 1), .int (nI rows), .int (nI 0), .ref (R 2), .ref (R 3), .ref (R 4), .ref (R 5), .ref (R 6), .ref (R 7), .ref (R 8), .ref (R 9), .int (nI dp), .int (nI as_), .int (nI ops), .ref (R 10)]) = M6
            have hM6__R_1_ : M6 (R 1) = some (mp_b E 1000 g) := by rw [← eM6, mp_n (hR.ne (by decide) (by decide) (by decide))]; exact h1
            have hM6__R_0_ : M6 (R 0) = some (mp_o 7 [.ref (R 1), .int (nI rows), .int (nI 0), .ref (R 2), .ref (R 3), .ref (R 4), .ref (R 5), .ref (R 6), .ref (R 7), .ref (R 8), .ref (R 9), .int (nI dp), .int (nI as_), .int (nI ops), .ref (R 10)]) := by rw [← eM6]; exact mp_s
            have JM6 : RI E M6 R rows (nI 0) dp as_ ops A := hI.set hR eM6
            have fM6 : RFr R M M6 := RFr.s0 eM6
            refine j_aload_n d_Mo_hash_37 rfl 0 rfl ?_
            refine j_get F_Mo hM6__R_0_ 2 (by decide) w_945 (Or.inl rfl) rfl d_Mo_hash_38 ?_
            refine j_nif_le 46 0 rfl (by omega) d_Mo_hash_41 (by decide) (fun b41 => ?_) (fun b41 => (by first | exact b41.elim | exact absurd b41 (by omega)))
            refine j_iload_n d_Mo_hash_46 rfl 1 rfl ?_
            refine j_iconst (v := nI 2) d_Mo_hash_47 (by decide) ?_
            refine j_ncmp_ne 67 w 2 rfl rfl (by omega) (by omega) d_Mo_hash_48 (by decide) (fun b48 => ?_) (fun b48 => ?_)
            · skip
              refine j_aload_n d_Mo_hash_67 rfl 0 rfl ?_
              refine j_aload_n d_Mo_hash_68 rfl 0 rfl ?_
              refine j_get F_Mo hM6__R_0_ 0 (by decide) w_943 (Or.inl rfl) rfl d_Mo_hash_69 ?_
              refine j_iconst (v := nI 0) d_Mo_hash_72 (by decide) ?_
              refine j_aload_n d_Mo_hash_73 rfl 0 rfl ?_
              refine j_get F_Mo hM6__R_0_ 1 (by decide) w_944 (Or.inl rfl) rfl d_Mo_hash_74 ?_
              refine j_callV (As := [.ref (R 1), .int (nI 0), .int (nI rows)]) (rest := []) (c_Mo_sha Γ.l E M6 R rows (nI 0) dp as_ ops A (R 1) 1000 0 rows g JM6 hR hM6__R_1_ (by decide) (by omega) (by omega) hfit (hR.ne (by decide) (by decide) (by decide))) Y_Mo_sha w_1108 w_1110 ws_45 hM6__R_0_ rfl rfl rfl (Nat.le_of_ble_eq_true rfl) (by omega) (by omega) (by omega) d_Mo_hash_77 (fun v77 N77 p77 => ?_)
              obtain ⟨rfl, I77, z77, f77⟩ := p77
              have y77 : ∀ j, j < 32 → (sm_sha (fun e => g (0 + e)) rows) (0 + j) = gb (am_shaR g rows) j := fun j hj => by rw [Nat.zero_add, sm_sha_c (g := g) (fun e he => by rw [Nat.zero_add])]; exact (gl_at hj).symm
              have k77__R_1_ : N77 (R 1) = some (mp_b E 1000 g) := (f77.k hR (by decide) (by decide) (by decide)).trans hM6__R_1_
              show mp_J Γ m_Mo_hash E κ N77 [(0, .ref (R 0)), (1, .int (nI w)), (2, .int (nI q))] 80 [] 0 0
              refine j_iload_n d_Mo_hash_80 rfl 1 rfl ?_
              refine j_iconst (v := nI 1) d_Mo_hash_81 (by decide) ?_
              refine j_ncmp_ne 96 w 1 rfl rfl (by omega) (by omega) d_Mo_hash_82 (by decide) (fun b82 => ?_) (fun b82 => ?_)
              · skip
                refine j_aload_n d_Mo_hash_96 rfl 0 rfl ?_
                refine j_get F_Mo I77.1 7 (by decide) w_950 (Or.inl rfl) rfl d_Mo_hash_97 ?_
                refine j_iconst (v := nI 4) d_Mo_hash_100 (by decide) ?_
                refine j_iload_n d_Mo_hash_101 rfl 2 rfl ?_
                refine j_imul d_Mo_hash_102 ?_
                refine j_eqi (y := nI (4 * q)) (pk_mul 4 q) ?_
                refine j_callS (As := [.ref (R 6), .int (nI (4 * q))]) (rest := []) (c_Mo_small Γ.l E N77 (R 6) 32 (4 * q) (sm_sha (fun e => g (0 + e)) rows) z77 (by decide) (by omega)) Y_Mo_small w_1095 w_1096 rfl rfl (Nat.le_of_ble_eq_true rfl) (by omega) (by omega) (by omega) d_Mo_hash_103 (fun v103 N103 p103 => ?_)
                obtain ⟨rfl, q103⟩ := p103
                obtain rfl := q103.symm
                show mp_J Γ m_Mo_hash E κ N77 [(0, .ref (R 0)), (1, .int (nI w)), (2, .int (nI q))] 106 [.int (sm_at (sm_sha (fun e => g (0 + e)) rows) (4 * q))] 0 0
                exact j_iret hκ rfl (by omega) (by omega) d_Mo_hash_106 (Or.inl ⟨w, q, hw, haw, (by first | (rw [if_pos (by omega)]; omega) | (rw [if_neg (by omega)]; omega)), hcq, by rw [show am_hs g rows w = am_shaR g rows from by unfold am_hs; rw [if_neg b48, if_neg b82], hw_e (x := am_shaR g rows) (by rw [am_shaR_l]; exact y77) (by rw [am_shaR_l]; omega)], I77, (fM6.trans f77)⟩)
              · skip
                refine j_aload_n d_Mo_hash_85 rfl 0 rfl ?_
                refine j_aload_n d_Mo_hash_86 rfl 0 rfl ?_
                refine j_get F_Mo I77.1 7 (by decide) w_950 (Or.inl rfl) rfl d_Mo_hash_87 ?_
                refine j_iconst (v := nI 0) d_Mo_hash_90 (by decide) ?_
                refine j_bipush (v := nI 32) d_Mo_hash_91 (by decide) ?_
                refine j_callV (As := [.ref (R 6), .int (nI 0), .int (nI 32)]) (rest := []) (c_Mo_sha Γ.l E N77 R rows (nI 0) dp as_ ops A (R 6) 32 0 32 (sm_sha (fun e => g (0 + e)) rows) I77 hR z77 (by decide) (by decide) (by decide) (fun i hi => pk_fb _) (hR.ne (by decide) (by decide) (by decide))) Y_Mo_sha w_1108 w_1110 ws_45 I77.1 rfl rfl rfl (Nat.le_of_ble_eq_true rfl) (by omega) (by omega) (by omega) d_Mo_hash_93 (fun v93 N93 p93 => ?_)
                obtain ⟨rfl, I93, z93, f93⟩ := p93
                have y93 : ∀ j, j < 32 → (sm_sha (fun e => (sm_sha (fun e => g (0 + e)) rows) (0 + e)) 32) (0 + j) = gb (am_sha (am_shaR g rows)) j := fun j hj => by rw [Nat.zero_add, sm_sha_c (g := gb (am_shaR g rows)) y77]; exact ((gl_at hj).symm.trans (by unfold am_sha; rw [am_shaR_l]))
                have k93__R_1_ : N93 (R 1) = some (mp_b E 1000 g) := (f93.k hR (by decide) (by decide) (by decide)).trans k77__R_1_
                show mp_J Γ m_Mo_hash E κ N93 [(0, .ref (R 0)), (1, .int (nI w)), (2, .int (nI q))] 96 [] 0 0
                refine j_aload_n d_Mo_hash_96 rfl 0 rfl ?_
                refine j_get F_Mo I93.1 7 (by decide) w_950 (Or.inl rfl) rfl d_Mo_hash_97 ?_
                refine j_iconst (v := nI 4) d_Mo_hash_100 (by decide) ?_
                refine j_iload_n d_Mo_hash_101 rfl 2 rfl ?_
                refine j_imul d_Mo_hash_102 ?_
                refine j_eqi (y := nI (4 * q)) (pk_mul 4 q) ?_
                refine j_callS (As := [.ref (R 6), .int (nI (4 * q))]) (rest := []) (c_Mo_small Γ.l E N93 (R 6) 32 (4 * q) (sm_sha (fun e => (sm_sha (fun e => g (0 + e)) rows) (0 + e)) 32) z93 (by decide) (by omega)) Y_Mo_small w_1095 w_1096 rfl rfl (Nat.le_of_ble_eq_true rfl) (by omega) (by omega) (by omega) d_Mo_hash_103 (fun v103 N103 p103 => ?_)
                obtain ⟨rfl, q103⟩ := p103
                obtain rfl := q103.symm
                show mp_J Γ m_Mo_hash E κ N93 [(0, .ref (R 0)), (1, .int (nI w)), (2, .int (nI q))] 106 [.int (sm_at (sm_sha (fun e => (sm_sha (fun e => g (0 + e)) rows) (0 + e)) 32) (4 * q))] 0 0
                exact j_iret hκ rfl (by omega) (by omega) d_Mo_hash_106 (Or.inl ⟨w, q, hw, haw, (by first | (rw [if_pos (by omega)]; omega) | (rw [if_neg (by omega)]; omega)), hcq, by rw [show am_hs g rows w = am_sha (am_shaR g rows) from by unfold am_hs; rw [if_neg b48, if_pos b82], hw_e (x := am_sha (am_shaR g rows)) (by rw [am_sha_l]; exact y93) (by rw [am_sha_l]; omega)], I93, ((fM6.trans f77).trans f93)⟩)
            · skip
              refine j_aload_n d_Mo_hash_51 rfl 0 rfl ?_
              refine j_aload_n d_Mo_hash_52 rfl 0 rfl ?_
              refine j_get F_Mo hM6__R_0_ 0 (by decide) w_943 (Or.inl rfl) rfl d_Mo_hash_53 ?_
              refine j_iconst (v := nI 0) d_Mo_hash_56 (by decide) ?_
              refine j_aload_n d_Mo_hash_57 rfl 0 rfl ?_
              refine j_get F_Mo hM6__R_0_ 1 (by decide) w_944 (Or.inl rfl) rfl d_Mo_hash_58 ?_
              refine j_callV (As := [.ref (R 1), .int (nI 0), .int (nI rows)]) (rest := []) (c_Mo_ripemd Γ.l E M6 R rows (nI 0) dp as_ ops A (R 1) 1000 0 rows g JM6 hR hM6__R_1_ (by decide) (by omega) (by omega) hfit (hR.ne (by decide) (by decide) (by decide))) Y_Mo_ripemd w_1080 w_1082 ws_44 hM6__R_0_ rfl rfl rfl (Nat.le_of_ble_eq_true rfl) (by omega) (by omega) (by omega) d_Mo_hash_61 (fun v61 N61 p61 => ?_)
              obtain ⟨rfl, I61, ⟨H61, z61, r61, u61⟩, f61⟩ := p61
              have y61 : ∀ j, j < 20 → H61 (0 + j) = gb (am_ripR g rows) j := fun j hj => by rw [Nat.zero_add, r61 j hj, sm_rip_c (g := g) (fun e he => by rw [Nat.zero_add])]; exact (gl_at hj).symm
              have k61__R_1_ : N61 (R 1) = some (mp_b E 1000 g) := (f61.k hR (by decide) (by decide) (by decide)).trans hM6__R_1_
              show mp_J Γ m_Mo_hash E κ N61 [(0, .ref (R 0)), (1, .int (nI w)), (2, .int (nI q))] 64 [] 0 0
              refine j_goto (tgt := 80) d_Mo_hash_64 (by decide) ?_
              refine j_iload_n d_Mo_hash_80 rfl 1 rfl ?_
              refine j_iconst (v := nI 1) d_Mo_hash_81 (by decide) ?_
              refine j_ncmp_ne 96 w 1 rfl rfl (by omega) (by omega) d_Mo_hash_82 (by decide) (fun b82 => ?_) (fun b82 => absurd b82 (by omega))
              refine j_aload_n d_Mo_hash_96 rfl 0 rfl ?_
              refine j_get F_Mo I61.1 7 (by decide) w_950 (Or.inl rfl) rfl d_Mo_hash_97 ?_
              refine j_iconst (v := nI 4) d_Mo_hash_100 (by decide) ?_
              refine j_iload_n d_Mo_hash_101 rfl 2 rfl ?_
              refine j_imul d_Mo_hash_102 ?_
              refine j_eqi (y := nI (4 * q)) (pk_mul 4 q) ?_
              refine j_callS (As := [.ref (R 6), .int (nI (4 * q))]) (rest := []) (c_Mo_small Γ.l E N61 (R 6) 32 (4 * q) H61 z61 (by decide) (by omega)) Y_Mo_small w_1095 w_1096 rfl rfl (Nat.le_of_ble_eq_true rfl) (by omega) (by omega) (by omega) d_Mo_hash_103 (fun v103 N103 p103 => ?_)
              obtain ⟨rfl, q103⟩ := p103
              obtain rfl := q103.symm
              show mp_J Γ m_Mo_hash E κ N61 [(0, .ref (R 0)), (1, .int (nI w)), (2, .int (nI q))] 106 [.int (sm_at H61 (4 * q))] 0 0
              exact j_iret hκ rfl (by omega) (by omega) d_Mo_hash_106 (Or.inl ⟨w, q, hw, haw, (by first | (rw [if_pos (by omega)]; omega) | (rw [if_neg (by omega)]; omega)), hcq, by rw [show am_hs g rows w = am_ripR g rows from by unfold am_hs; rw [if_pos b48], hw_e (x := am_ripR g rows) (by rw [am_ripR_l]; exact y61) (by rw [am_ripR_l]; omega)], I61, (fM6.trans f61)⟩)
          · skip
            refine j_iconst (v := nI 1) d_Mo_hash_29 (by decide) ?_
            refine j_goto (tgt := 34) d_Mo_hash_30 (by decide) ?_
            refine j_put F_Mo hI.1 2 (by decide) w_945 (Or.inl rfl) rfl rfl rfl (Nat.le_of_ble_eq_true rfl) d_Mo_hash_34 ?_
            show mp_J Γ m_Mo_hash E κ (mp_up M (R 0) (mp_o 7 [.ref (R 1), .int (nI rows), .int (nI 1), .ref (R 2), .ref (R 3), .ref (R 4), .ref (R 5), .ref (R 6), .ref (R 7), .ref (R 8), .ref (R 9), .int (nI dp), .int (nI as_), .int (nI ops), .ref (R 10)])) [(0, .ref (R 0)), (1, .int (nI w)), (2, .int c)] 37 [] 0 0
            generalize eM7 : mp_up M (R 0) (mp_o 7 [.ref (R 1), .int (nI rows), .int (nI 1), .ref (R 2), .ref (R 3), .ref (R 4), .ref (R 5), .ref (R 6), .ref (R 7), .ref (R 8), .ref (R 9), .int (nI dp), .int (nI as_), .int (nI ops), .ref (R 10)]) = M7
            have hM7__R_1_ : M7 (R 1) = some (mp_b E 1000 g) := by rw [← eM7, mp_n (hR.ne (by decide) (by decide) (by decide))]; exact h1
            have hM7__R_0_ : M7 (R 0) = some (mp_o 7 [.ref (R 1), .int (nI rows), .int (nI 1), .ref (R 2), .ref (R 3), .ref (R 4), .ref (R 5), .ref (R 6), .ref (R 7), .ref (R 8), .ref (R 9), .int (nI dp), .int (nI as_), .int (nI ops), .ref (R 10)]) := by rw [← eM7]; exact mp_s
            have JM7 : RI E M7 R rows (nI 1) dp as_ ops A := hI.set hR eM7
            have fM7 : RFr R M M7 := RFr.s0 eM7
            refine j_aload_n d_Mo_hash_37 rfl 0 rfl ?_
            refine j_get F_Mo hM7__R_0_ 2 (by decide) w_945 (Or.inl rfl) rfl d_Mo_hash_38 ?_
            refine j_nif_le 46 1 rfl (by omega) d_Mo_hash_41 (by decide) (fun b41 => (by first | exact b41.elim | exact absurd b41 (by omega))) (fun b41 => ?_)
            refine j_iconst (v := nI 0) d_Mo_hash_44 (by decide) ?_
            exact j_iret hκ rfl (by omega) (by omega) d_Mo_hash_45 (Or.inr ⟨(by first | exact nh_1 (Or.inl b2) | exact nh_1 (Or.inr b7) | exact nh_2 hw haw rfl (Or.inl b11) | exact nh_2 hw haw (if_neg b17).symm (Or.inr b26) | exact nh_2 hw haw (if_pos b17).symm (Or.inr b26)), rfl, JM7, fM7⟩)
