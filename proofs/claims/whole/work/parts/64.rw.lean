def RFz (R : Nat → Nat) (M N : mp_M) : Prop := ∀ a, (∀ i, i = 0 ∨ (4 ≤ i ∧ i ≤ 10) → a ≠ R i) → N a = M a
theorem RFr.z {R : Nat → Nat} {M N : mp_M} (h : RFr R M N) : RFz R M N := fun a q => h a fun i hi => q i (by omega)
theorem RFz.refl {R : Nat → Nat} {M : mp_M} : RFz R M M := fun _ _ => rfl
theorem RFz.trans {R : Nat → Nat} {M N O : mp_M} (h : RFz R M N) (h' : RFz R N O) : RFz R M O := fun a q => (h' a q).trans (h a q)
theorem RFz.up {R : Nat → Nat} {M N : mp_M} {e : va_E} (hN : mp_up M (R 10) e = N) : RFz R M N := by subst hN; exact fun a q => mp_n (q 10 (by omega))
theorem RFz.k {R : Nat → Nat} {M N : mp_M} (f : RFz R M N) (hR : RL R) {j : Nat} (hj : j < 4) (h0 : j ≠ 0) : N (R j) = M (R j) := f _ fun i hi => hR.ne (by omega) (by omega) (by omega)
theorem RI.tk {E : mp_E} {M N : mp_M} {R : Nat → Nat} {rows dp as_ ops : Nat} {thr : Int32} {A : Nat → am_T} {e : va_E} (h : RI E M R rows thr dp as_ ops A) (hR : RL R) (hN : mp_up M (R 10) e = N) : RI E N R rows thr dp as_ ops A := by
  subst hN
  exact h.keep ((mp_n (hR.ne (by omega) (by omega) (by omega))).trans h.1) fun i h1 h2 => mp_n (hR.ne (by omega) (by omega) (by omega))
/-- what a script's run answers -/
def RP (E : mp_E) (R : Nat → Nat) (M : mp_M) (rows : Nat) (thr : Int32) (g : Nat → Int32) (Rr : Option am_St) : Option Value → mp_M → Prop := fun v N => ∃ (w : Bool) (dp as_ k : Nat) (A : Nat → am_T), v = some (.int (tf w)) ∧ RI E N R rows thr dp as_ k A ∧ N (R 1) = some (mp_b E 1000 g) ∧ (∃ f, N (R 10) = some (mp_z E 1001 f)) ∧ RFz R M N ∧ (w = true → Rr = some (LM A dp, LO A as_, [], k) ∧ dp + as_ ≤ 200) ∧ (w = false → Rr = none)
section RPS
variable {E : mp_E} {M N : mp_M} {R : Nat → Nat} {rows dp as_ k : Nat} {thr : Int32} {A : Nat → am_T} {g fk : Nat → Int32} {Rr : Option am_St}
theorem RP.f (h : RI E N R rows thr dp as_ k A) (h1 : N (R 1) = some (mp_b E 1000 g)) (h10 : N (R 10) = some (mp_z E 1001 fk)) (fr : RFz R M N) (e : Rr = none) : RP E R M rows thr g Rr (some (.int (nI 0))) N := ⟨false, dp, as_, k, A, rfl, h, h1, ⟨_, h10⟩, fr, fun z => (by cases z), fun _ => e⟩
theorem RP.t (h : RI E N R rows thr dp as_ k A) (h1 : N (R 1) = some (mp_b E 1000 g)) (h10 : N (R 10) = some (mp_z E 1001 fk)) (fr : RFz R M N) (e : Rr = some (LM A dp, LO A as_, [], k)) (hd : dp + as_ ≤ 200) : RP E R M rows thr g Rr (some (.int (nI 1))) N := ⟨true, dp, as_, k, A, rfl, h, h1, ⟨_, h10⟩, fr, fun _ => ⟨e, hd⟩, fun z => by cases z⟩
end RPS
theorem pf_1 {g : Nat → Int32} {p c : Nat} (h : ¬ ub (g p) = 76) : (am_pf g p c).length = c ∧ ∀ j, j < c → g (p + 1 + j) = gb (am_pf g p c) j := by
  have e : am_pf g p c = gl c (fun j => g (p + 1 + j)) := by unfold am_pf; rw [if_neg h, show p + 1 + c - (p + 1) = c by omega]
  rw [e]
  exact ⟨gl_len, fun j hj => (gl_at (f := fun j => g (p + 1 + j)) hj).symm⟩
theorem pf_2 {g : Nat → Int32} {p c : Nat} (h : ub (g p) = 76) : (am_pf g p (1 + c)).length = c ∧ ∀ j, j < c → g (p + 1 + 1 + j) = gb (am_pf g p (1 + c)) j := by
  have e : am_pf g p (1 + c) = gl c (fun j => g (p + 2 + j)) := by unfold am_pf; rw [if_pos h, show p + 1 + (1 + c) - (p + 2) = c by omega]
  rw [e]
  exact ⟨gl_len, fun j hj => (gl_at (f := fun j => g (p + 2 + j)) hj).symm⟩
set_option maxHeartbeats 4000000 in
set_option maxRecDepth 100000 in
theorem lp_Mo_run2 {Γ : mp_G} {κ : mp_K} (E : mp_E) (M : mp_M) (R : Nat → Nat) (rows : Nat) (thr : Int32) (f q : Nat) (g : Nat → Int32) (Rr : Option am_St) (hR : RL R) (hfit : ∀ i, i < 1000 → fits .byte (.int (g i)) = true) (hfq : f + q ≤ 1000) (hκ : mp_k κ 5 0 0 (RP E R M rows thr g Rr)) : ∀ (r : Nat) (Mx : mp_M) (fk : Nat → Int32) (dp as_ k : Nat) (A : Nat → am_T) (b : List Bool) (p : Nat), f + q - p < r → (RI E Mx R rows thr dp as_ k A) → (Mx (R 1) = some (mp_b E 1000 g)) → (Mx (R 10) = some (mp_z E 1001 fk)) → (TK fk b) → (RFz R M Mx) → (dp + as_ ≤ 200) → (b.length ≤ k ∧ k ≤ 201) → (f ≤ p) → (p ≤ f + q) → (am_run g (f + q) r p (LM A dp, LO A as_, b, k) = Rr) → mp_J Γ m_Mo_run2 E κ Mx [(0, .ref (R 0)), (1, .ref (R 1)), (2, .int (nI f)), (3, .int (nI q)), (4, .int (nI b.length)), (5, .int (nI (offs b))), (6, .int (nI p))] 19 [] 0 0 := by
  obtain ⟨hκd, hκc, hκs, -⟩ := id hκ
  intro r
  induction r with
  | zero => intro Mx fk dp as_ k A b p hr; exact absurd hr (Nat.not_lt_zero _)
  | succ r ih =>
    intro Mx fk dp as_ k A b p hr hI hr1 hr10 htk fr htot hbk hfp hpt he
    have hu := ub_lt (g p)
    have hof := offs_le b
    refine j_iload d_Mo_run2_19 6 rfl ?_
    refine j_iload_n d_Mo_run2_21 rfl 2 rfl ?_
    refine j_iload_n d_Mo_run2_22 rfl 3 rfl ?_
    refine j_iadd d_Mo_run2_23 ?_
    refine j_eqi (y := nI (f + q)) (nI_add f q) ?_
    refine j_ncmp_ge 371 p (f + q) rfl rfl (by omega) (by omega) d_Mo_run2_24 (by decide) (fun b24 => ?_) (fun b24 => ?_)
    · skip
      refine j_iload d_Mo_run2_371 4 rfl ?_
      refine j_nif_ne 380 b.length rfl (by omega) d_Mo_run2_373 (by decide) (fun b373 => ?_) (fun b373 => ?_)
      · skip
        refine j_iconst (v := nI 0) d_Mo_run2_380 (by decide) ?_
        exact j_zret hκ rfl (by first | exact Or.inl rfl | exact Or.inr rfl) (by omega) (by omega) d_Mo_run2_381 (RP.f hI hr1 hr10 fr (he.symm.trans (by show (if _ then _ else _) = _; rw [if_pos (by omega), if_pos (show 0 < b.length by omega)])))
      · skip
        refine j_iconst (v := nI 1) d_Mo_run2_376 (by decide) ?_
        refine j_goto (tgt := 381) d_Mo_run2_377 (by decide) ?_
        exact j_zret hκ rfl (by first | exact Or.inl rfl | exact Or.inr rfl) (by omega) (by omega) d_Mo_run2_381 (RP.t hI hr1 hr10 fr (he.symm.trans (by show (if _ then _ else _) = _; rw [if_pos (by omega), if_neg (show ¬ 0 < b.length by omega), List.length_eq_zero_iff.mp b373])) htot)
    · skip
      refine j_aload_n d_Mo_run2_27 rfl 1 rfl ?_
      refine j_iload d_Mo_run2_28 6 rfl ?_
      refine j_bald hr1 p rfl (by omega) (by omega) d_Mo_run2_30 ?_
      refine j_sipush (v := 255) d_Mo_run2_31 (by decide) ?_
      refine j_iand d_Mo_run2_34 ?_
      refine j_eqi (y := nI (ub (g p))) (ub_and _) ?_
      refine j_istore [(7, .int (nI (ub (g p)))), (0, .ref (R 0)), (1, .ref (R 1)), (2, .int (nI f)), (3, .int (nI q)), (4, .int (nI b.length)), (5, .int (nI (offs b))), (6, .int (nI p))] d_Mo_run2_35 (by decide) rfl ?_
      refine j_iinc (v := nI (p + 1)) [(6, .int (nI (p + 1))), (7, .int (nI (ub (g p)))), (0, .ref (R 0)), (1, .ref (R 1)), (2, .int (nI f)), (3, .int (nI q)), (4, .int (nI b.length)), (5, .int (nI (offs b)))] d_Mo_run2_37 7 rfl (nI_add p 1) (by decide) rfl ?_
      refine j_iload d_Mo_run2_40 1 rfl ?_
      refine j_bipush (v := nI 76) d_Mo_run2_42 (by decide) ?_
      refine j_ncmp_gt 118 (ub (g p)) 76 rfl rfl (by omega) (by omega) d_Mo_run2_44 (by decide) (fun b44 => ?_) (fun b44 => ?_)
      · skip
        have hcar : cd_car g p (f + q) = 0 := ca_4 (by omega)
        refine j_iload d_Mo_run2_118 1 rfl ?_
        refine j_bipush (v := nI 96) d_Mo_run2_120 (by decide) ?_
        refine j_ncmp_le 144 (ub (g p)) 96 rfl rfl (by omega) (by omega) d_Mo_run2_122 (by decide) (fun b122 => ?_) (fun b122 => ?_)
        · skip
          have hkp : am_kp g p k = k := by unfold am_kp; rw [if_neg (by omega)]; rfl
          refine j_iload d_Mo_run2_144 1 rfl ?_
          refine j_bipush (v := nI 99) d_Mo_run2_146 (by decide) ?_
          refine j_ncmp_lt 335 (ub (g p)) 99 rfl rfl (by omega) (by omega) d_Mo_run2_148 (by decide) (fun b148 => ?_) (fun b148 => ?_)
          · skip
            refine j_iload d_Mo_run2_335 7 rfl ?_
            refine j_nif_ne 351 (offs b) rfl (by omega) d_Mo_run2_337 (by decide) (fun b337 => ?_) (fun b337 => ?_)
            · skip
              refine j_aload_n d_Mo_run2_351 rfl 2 rfl ?_
              refine j_get F_Mo hI.1 11 (by decide) w_954 (Or.inl rfl) rfl d_Mo_run2_352 ?_
              refine j_aload_n d_Mo_run2_355 rfl 2 rfl ?_
              refine j_get F_Mo hI.1 12 (by decide) w_955 (Or.inl rfl) rfl d_Mo_run2_356 ?_
              have h1 : am_one g (f + q) p (LM A dp) (LO A as_) b (am_kp g p k) = some (LM A dp, LO A as_, b, k) := by unfold am_one; rw [if_neg (by omega), if_neg (fun z => b337 ((offs_low b (by omega)).mp z)), hkp]
              refine j_iadd d_Mo_run2_359 ?_
              refine j_eqi (y := nI (dp + as_)) (nI_add dp as_) ?_
              refine j_sipush (v := nI 200) d_Mo_run2_360 (by decide) ?_
              refine j_ncmp_le 368 (dp + as_) 200 rfl rfl (by omega) (by omega) d_Mo_run2_363 (by decide) (fun b363 => ?_) (fun b363 => ?_)
              · skip
                refine j_goto (tgt := 19) d_Mo_run2_368 (by decide) ?_
                refine j_lv [2, 3, 4, 5, 6, 7, 0] rfl ?_
                have h3 : dp + as_ ≤ 200 := by omega
                have h2 : b.length ≤ k ∧ k ≤ 201 := by first | omega | (simp only [List.length_cons]; omega) | (simp only [List.length_cons] at *; omega)
                exact ih Mx fk dp as_ k A b (p + 1) (by omega) hI hr1 hr10 htk fr h3 h2 (by omega) (by omega) (by rw [show (p + 1) = p + cd_car g p (f + q) + 1 by omega]; exact (am_run_s (by omega) (am_step_t (m := LM A dp) (o := LO A as_) (b := b) (k := k) (by omega) (by omega) h1 (by show (LM _ _).length + (LO _ _).length ≤ 200; rw [LM_len, LO_len]; exact h3))).symm.trans he)
              · skip
                refine j_iconst (v := nI 0) d_Mo_run2_366 (by decide) ?_
                exact j_zret hκ rfl (by first | exact Or.inl rfl | exact Or.inr rfl) (by omega) (by omega) d_Mo_run2_367 (RP.f hI hr1 hr10 fr (he.symm.trans (am_run_n (by omega) (am_step_f (m := LM A dp) (o := LO A as_) (b := b) (k := k) (Or.inr (Or.inr (fun s hs => by rw [h1] at hs; cases hs; show 200 < (LM _ _).length + (LO _ _).length; rw [LM_len, LO_len]; omega)))))))
            · skip
              refine j_aload_n d_Mo_run2_340 rfl 2 rfl ?_
              refine j_iload d_Mo_run2_341 1 rfl ?_
              refine j_callV (As := [.int (nI (ub (g p)))]) (rest := []) (c_Mo_isDone Γ.l E Mx R rows thr dp as_ k A b (ub (g p)) hI hR (by omega) (by omega) (by omega)) Y_Mo_isDone w_1027 w_1029 ws_32 hI.1 rfl rfl rfl (Nat.le_of_ble_eq_true rfl) (by omega) (by omega) (by omega) d_Mo_run2_343 (fun v343 N343 p343 => ?_)
              obtain ⟨w343, d343, a343, k343, B343, rfl, I343, f343, g343, T343, F343⟩ := p343
              have k343__R_1_ : N343 (R 1) = some (mp_b E 1000 g) := (f343.k hR (by decide) (by decide) (by decide)).trans hr1
              have k343__R_10_ : N343 (R 10) = some (mp_z E 1001 fk) := (f343.k hR (by decide) (by decide) (by decide)).trans hr10
              show mp_J Γ m_Mo_run2 E κ N343 [(6, .int (nI (p + 1))), (7, .int (nI (ub (g p)))), (0, .ref (R 0)), (1, .ref (R 1)), (2, .int (nI f)), (3, .int (nI q)), (4, .int (nI b.length)), (5, .int (nI (offs b)))] 346 [.int (tf w343)] 0 0
              refine j_tif_ne 351 d_Mo_run2_346 (by decide) (fun b346 => ?_) (fun b346 => ?_)
              · skip
                refine j_aload_n d_Mo_run2_351 rfl 2 rfl ?_
                refine j_get F_Mo I343.1 11 (by decide) w_954 (Or.inl rfl) rfl d_Mo_run2_352 ?_
                refine j_aload_n d_Mo_run2_355 rfl 2 rfl ?_
                refine j_get F_Mo I343.1 12 (by decide) w_955 (Or.inl rfl) rfl d_Mo_run2_356 ?_
                have h1 : am_one g (f + q) p (LM A dp) (LO A as_) b (am_kp g p k) = some (LM B343 d343, LO B343 a343, b, k343) := by unfold am_one; rw [if_neg (by omega), if_pos ((offs_low b (by omega)).mpr b337), if_neg (by omega), hkp]; exact T343 b346
                refine j_iadd d_Mo_run2_359 ?_
                refine j_eqi (y := nI (d343 + a343)) (nI_add d343 a343) ?_
                refine j_sipush (v := nI 200) d_Mo_run2_360 (by decide) ?_
                refine j_ncmp_le 368 (d343 + a343) 200 rfl rfl (by omega) (by omega) d_Mo_run2_363 (by decide) (fun b363 => ?_) (fun b363 => ?_)
                · skip
                  refine j_goto (tgt := 19) d_Mo_run2_368 (by decide) ?_
                  refine j_lv [2, 3, 4, 5, 6, 7, 0] rfl ?_
                  have h3 : d343 + a343 ≤ 200 := by omega
                  have h9 := am_op_bk (T343 b346)
                  unfold am_bk at h9
                  simp only at h9
                  have h2 : b.length ≤ k343 ∧ k343 ≤ 201 := by first | omega | (simp only [List.length_cons]; omega) | (simp only [List.length_cons] at *; omega)
                  exact ih N343 fk d343 a343 k343 B343 b (p + 1) (by omega) I343 k343__R_1_ k343__R_10_ htk (fr.trans f343.z) h3 h2 (by omega) (by omega) (by rw [show (p + 1) = p + cd_car g p (f + q) + 1 by omega]; exact (am_run_s (by omega) (am_step_t (m := LM A dp) (o := LO A as_) (b := b) (k := k) (by omega) (by omega) h1 (by show (LM _ _).length + (LO _ _).length ≤ 200; rw [LM_len, LO_len]; exact h3))).symm.trans he)
                · skip
                  refine j_iconst (v := nI 0) d_Mo_run2_366 (by decide) ?_
                  exact j_zret hκ rfl (by first | exact Or.inl rfl | exact Or.inr rfl) (by omega) (by omega) d_Mo_run2_367 (RP.f I343 k343__R_1_ k343__R_10_ (fr.trans f343.z) (he.symm.trans (am_run_n (by omega) (am_step_f (m := LM A dp) (o := LO A as_) (b := b) (k := k) (Or.inr (Or.inr (fun s hs => by rw [h1] at hs; cases hs; show 200 < (LM _ _).length + (LO _ _).length; rw [LM_len, LO_len]; omega)))))))
              · skip
                refine j_iconst (v := nI 0) d_Mo_run2_349 (by decide) ?_
                exact j_zret hκ rfl (by first | exact Or.inl rfl | exact Or.inr rfl) (by omega) (by omega) d_Mo_run2_350 (RP.f I343 k343__R_1_ k343__R_10_ (fr.trans f343.z) (he.symm.trans (am_run_n (by omega) (am_step_f (m := LM A dp) (o := LO A as_) (b := b) (k := k) (Or.inr (Or.inr (fun s hs => by exfalso; unfold am_one at hs; rw [if_neg (by omega), if_pos ((offs_low b (by omega)).mpr b337), if_neg (by omega), hkp, F343 b346] at hs; cases hs)))))))
          · skip
            refine j_iload d_Mo_run2_151 1 rfl ?_
            refine j_bipush (v := nI 104) d_Mo_run2_153 (by decide) ?_
            refine j_ncmp_gt 335 (ub (g p)) 104 rfl rfl (by omega) (by omega) d_Mo_run2_155 (by decide) (fun b155 => ?_) (fun b155 => ?_)
            · skip
              refine j_iload d_Mo_run2_335 7 rfl ?_
              refine j_nif_ne 351 (offs b) rfl (by omega) d_Mo_run2_337 (by decide) (fun b337 => ?_) (fun b337 => ?_)
              · skip
                refine j_aload_n d_Mo_run2_351 rfl 2 rfl ?_
                refine j_get F_Mo hI.1 11 (by decide) w_954 (Or.inl rfl) rfl d_Mo_run2_352 ?_
                refine j_aload_n d_Mo_run2_355 rfl 2 rfl ?_
                refine j_get F_Mo hI.1 12 (by decide) w_955 (Or.inl rfl) rfl d_Mo_run2_356 ?_
                have h1 : am_one g (f + q) p (LM A dp) (LO A as_) b (am_kp g p k) = some (LM A dp, LO A as_, b, k) := by unfold am_one; rw [if_neg (by omega), if_neg (fun z => b337 ((offs_low b (by omega)).mp z)), hkp]
                refine j_iadd d_Mo_run2_359 ?_
                refine j_eqi (y := nI (dp + as_)) (nI_add dp as_) ?_
                refine j_sipush (v := nI 200) d_Mo_run2_360 (by decide) ?_
                refine j_ncmp_le 368 (dp + as_) 200 rfl rfl (by omega) (by omega) d_Mo_run2_363 (by decide) (fun b363 => ?_) (fun b363 => ?_)
                · skip
                  refine j_goto (tgt := 19) d_Mo_run2_368 (by decide) ?_
                  refine j_lv [2, 3, 4, 5, 6, 7, 0] rfl ?_
                  have h3 : dp + as_ ≤ 200 := by omega
                  have h2 : b.length ≤ k ∧ k ≤ 201 := by first | omega | (simp only [List.length_cons]; omega) | (simp only [List.length_cons] at *; omega)
                  exact ih Mx fk dp as_ k A b (p + 1) (by omega) hI hr1 hr10 htk fr h3 h2 (by omega) (by omega) (by rw [show (p + 1) = p + cd_car g p (f + q) + 1 by omega]; exact (am_run_s (by omega) (am_step_t (m := LM A dp) (o := LO A as_) (b := b) (k := k) (by omega) (by omega) h1 (by show (LM _ _).length + (LO _ _).length ≤ 200; rw [LM_len, LO_len]; exact h3))).symm.trans he)
                · skip
                  refine j_iconst (v := nI 0) d_Mo_run2_366 (by decide) ?_
                  exact j_zret hκ rfl (by first | exact Or.inl rfl | exact Or.inr rfl) (by omega) (by omega) d_Mo_run2_367 (RP.f hI hr1 hr10 fr (he.symm.trans (am_run_n (by omega) (am_step_f (m := LM A dp) (o := LO A as_) (b := b) (k := k) (Or.inr (Or.inr (fun s hs => by rw [h1] at hs; cases hs; show 200 < (LM _ _).length + (LO _ _).length; rw [LM_len, LO_len]; omega)))))))
              · skip
                refine j_aload_n d_Mo_run2_340 rfl 2 rfl ?_
                refine j_iload d_Mo_run2_341 1 rfl ?_
                refine j_callV (As := [.int (nI (ub (g p)))]) (rest := []) (c_Mo_isDone Γ.l E Mx R rows thr dp as_ k A b (ub (g p)) hI hR (by omega) (by omega) (by omega)) Y_Mo_isDone w_1027 w_1029 ws_32 hI.1 rfl rfl rfl (Nat.le_of_ble_eq_true rfl) (by omega) (by omega) (by omega) d_Mo_run2_343 (fun v343 N343 p343 => ?_)
                obtain ⟨w343, d343, a343, k343, B343, rfl, I343, f343, g343, T343, F343⟩ := p343
                have k343__R_1_ : N343 (R 1) = some (mp_b E 1000 g) := (f343.k hR (by decide) (by decide) (by decide)).trans hr1
                have k343__R_10_ : N343 (R 10) = some (mp_z E 1001 fk) := (f343.k hR (by decide) (by decide) (by decide)).trans hr10
                show mp_J Γ m_Mo_run2 E κ N343 [(6, .int (nI (p + 1))), (7, .int (nI (ub (g p)))), (0, .ref (R 0)), (1, .ref (R 1)), (2, .int (nI f)), (3, .int (nI q)), (4, .int (nI b.length)), (5, .int (nI (offs b)))] 346 [.int (tf w343)] 0 0
                refine j_tif_ne 351 d_Mo_run2_346 (by decide) (fun b346 => ?_) (fun b346 => ?_)
                · skip
                  refine j_aload_n d_Mo_run2_351 rfl 2 rfl ?_
                  refine j_get F_Mo I343.1 11 (by decide) w_954 (Or.inl rfl) rfl d_Mo_run2_352 ?_
                  refine j_aload_n d_Mo_run2_355 rfl 2 rfl ?_
                  refine j_get F_Mo I343.1 12 (by decide) w_955 (Or.inl rfl) rfl d_Mo_run2_356 ?_
                  have h1 : am_one g (f + q) p (LM A dp) (LO A as_) b (am_kp g p k) = some (LM B343 d343, LO B343 a343, b, k343) := by unfold am_one; rw [if_neg (by omega), if_pos ((offs_low b (by omega)).mpr b337), if_neg (by omega), hkp]; exact T343 b346
                  refine j_iadd d_Mo_run2_359 ?_
                  refine j_eqi (y := nI (d343 + a343)) (nI_add d343 a343) ?_
                  refine j_sipush (v := nI 200) d_Mo_run2_360 (by decide) ?_
                  refine j_ncmp_le 368 (d343 + a343) 200 rfl rfl (by omega) (by omega) d_Mo_run2_363 (by decide) (fun b363 => ?_) (fun b363 => ?_)
                  · skip
                    refine j_goto (tgt := 19) d_Mo_run2_368 (by decide) ?_
                    refine j_lv [2, 3, 4, 5, 6, 7, 0] rfl ?_
                    have h3 : d343 + a343 ≤ 200 := by omega
                    have h9 := am_op_bk (T343 b346)
                    unfold am_bk at h9
                    simp only at h9
                    have h2 : b.length ≤ k343 ∧ k343 ≤ 201 := by first | omega | (simp only [List.length_cons]; omega) | (simp only [List.length_cons] at *; omega)
                    exact ih N343 fk d343 a343 k343 B343 b (p + 1) (by omega) I343 k343__R_1_ k343__R_10_ htk (fr.trans f343.z) h3 h2 (by omega) (by omega) (by rw [show (p + 1) = p + cd_car g p (f + q) + 1 by omega]; exact (am_run_s (by omega) (am_step_t (m := LM A dp) (o := LO A as_) (b := b) (k := k) (by omega) (by omega) h1 (by show (LM _ _).length + (LO _ _).length ≤ 200; rw [LM_len, LO_len]; exact h3))).symm.trans he)
                  · skip
                    refine j_iconst (v := nI 0) d_Mo_run2_366 (by decide) ?_
                    exact j_zret hκ rfl (by first | exact Or.inl rfl | exact Or.inr rfl) (by omega) (by omega) d_Mo_run2_367 (RP.f I343 k343__R_1_ k343__R_10_ (fr.trans f343.z) (he.symm.trans (am_run_n (by omega) (am_step_f (m := LM A dp) (o := LO A as_) (b := b) (k := k) (Or.inr (Or.inr (fun s hs => by rw [h1] at hs; cases hs; show 200 < (LM _ _).length + (LO _ _).length; rw [LM_len, LO_len]; omega)))))))
                · skip
                  refine j_iconst (v := nI 0) d_Mo_run2_349 (by decide) ?_
                  exact j_zret hκ rfl (by first | exact Or.inl rfl | exact Or.inr rfl) (by omega) (by omega) d_Mo_run2_350 (RP.f I343 k343__R_1_ k343__R_10_ (fr.trans f343.z) (he.symm.trans (am_run_n (by omega) (am_step_f (m := LM A dp) (o := LO A as_) (b := b) (k := k) (Or.inr (Or.inr (fun s hs => by exfalso; unfold am_one at hs; rw [if_neg (by omega), if_pos ((offs_low b (by omega)).mpr b337), if_neg (by omega), hkp, F343 b346] at hs; cases hs)))))))
            · skip
              refine j_iload d_Mo_run2_158 1 rfl ?_
              refine j_bipush (v := nI 101) d_Mo_run2_160 (by decide) ?_
              refine j_ncmp_eq 335 (ub (g p)) 101 rfl rfl (by omega) (by omega) d_Mo_run2_162 (by decide) (fun b162 => ?_) (fun b162 => ?_)
              · skip
                refine j_iload d_Mo_run2_335 7 rfl ?_
                refine j_nif_ne 351 (offs b) rfl (by omega) d_Mo_run2_337 (by decide) (fun b337 => ?_) (fun b337 => ?_)
                · skip
                  refine j_aload_n d_Mo_run2_351 rfl 2 rfl ?_
                  refine j_get F_Mo hI.1 11 (by decide) w_954 (Or.inl rfl) rfl d_Mo_run2_352 ?_
                  refine j_aload_n d_Mo_run2_355 rfl 2 rfl ?_
                  refine j_get F_Mo hI.1 12 (by decide) w_955 (Or.inl rfl) rfl d_Mo_run2_356 ?_
                  have h1 : am_one g (f + q) p (LM A dp) (LO A as_) b (am_kp g p k) = some (LM A dp, LO A as_, b, k) := by unfold am_one; rw [if_neg (by omega), if_neg (fun z => b337 ((offs_low b (by omega)).mp z)), hkp]
                  refine j_iadd d_Mo_run2_359 ?_
                  refine j_eqi (y := nI (dp + as_)) (nI_add dp as_) ?_
                  refine j_sipush (v := nI 200) d_Mo_run2_360 (by decide) ?_
                  refine j_ncmp_le 368 (dp + as_) 200 rfl rfl (by omega) (by omega) d_Mo_run2_363 (by decide) (fun b363 => ?_) (fun b363 => ?_)
                  · skip
                    refine j_goto (tgt := 19) d_Mo_run2_368 (by decide) ?_
                    refine j_lv [2, 3, 4, 5, 6, 7, 0] rfl ?_
                    have h3 : dp + as_ ≤ 200 := by omega
                    have h2 : b.length ≤ k ∧ k ≤ 201 := by first | omega | (simp only [List.length_cons]; omega) | (simp only [List.length_cons] at *; omega)
                    exact ih Mx fk dp as_ k A b (p + 1) (by omega) hI hr1 hr10 htk fr h3 h2 (by omega) (by omega) (by rw [show (p + 1) = p + cd_car g p (f + q) + 1 by omega]; exact (am_run_s (by omega) (am_step_t (m := LM A dp) (o := LO A as_) (b := b) (k := k) (by omega) (by omega) h1 (by show (LM _ _).length + (LO _ _).length ≤ 200; rw [LM_len, LO_len]; exact h3))).symm.trans he)
                  · skip
                    refine j_iconst (v := nI 0) d_Mo_run2_366 (by decide) ?_
                    exact j_zret hκ rfl (by first | exact Or.inl rfl | exact Or.inr rfl) (by omega) (by omega) d_Mo_run2_367 (RP.f hI hr1 hr10 fr (he.symm.trans (am_run_n (by omega) (am_step_f (m := LM A dp) (o := LO A as_) (b := b) (k := k) (Or.inr (Or.inr (fun s hs => by rw [h1] at hs; cases hs; show 200 < (LM _ _).length + (LO _ _).length; rw [LM_len, LO_len]; omega)))))))
                · skip
                  refine j_aload_n d_Mo_run2_340 rfl 2 rfl ?_
                  refine j_iload d_Mo_run2_341 1 rfl ?_
                  refine j_callV (As := [.int (nI (ub (g p)))]) (rest := []) (c_Mo_isDone Γ.l E Mx R rows thr dp as_ k A b (ub (g p)) hI hR (by omega) (by omega) (by omega)) Y_Mo_isDone w_1027 w_1029 ws_32 hI.1 rfl rfl rfl (Nat.le_of_ble_eq_true rfl) (by omega) (by omega) (by omega) d_Mo_run2_343 (fun v343 N343 p343 => ?_)
                  obtain ⟨w343, d343, a343, k343, B343, rfl, I343, f343, g343, T343, F343⟩ := p343
                  have k343__R_1_ : N343 (R 1) = some (mp_b E 1000 g) := (f343.k hR (by decide) (by decide) (by decide)).trans hr1
                  have k343__R_10_ : N343 (R 10) = some (mp_z E 1001 fk) := (f343.k hR (by decide) (by decide) (by decide)).trans hr10
                  show mp_J Γ m_Mo_run2 E κ N343 [(6, .int (nI (p + 1))), (7, .int (nI (ub (g p)))), (0, .ref (R 0)), (1, .ref (R 1)), (2, .int (nI f)), (3, .int (nI q)), (4, .int (nI b.length)), (5, .int (nI (offs b)))] 346 [.int (tf w343)] 0 0
                  refine j_tif_ne 351 d_Mo_run2_346 (by decide) (fun b346 => ?_) (fun b346 => ?_)
                  · skip
                    refine j_aload_n d_Mo_run2_351 rfl 2 rfl ?_
                    refine j_get F_Mo I343.1 11 (by decide) w_954 (Or.inl rfl) rfl d_Mo_run2_352 ?_
                    refine j_aload_n d_Mo_run2_355 rfl 2 rfl ?_
                    refine j_get F_Mo I343.1 12 (by decide) w_955 (Or.inl rfl) rfl d_Mo_run2_356 ?_
                    have h1 : am_one g (f + q) p (LM A dp) (LO A as_) b (am_kp g p k) = some (LM B343 d343, LO B343 a343, b, k343) := by unfold am_one; rw [if_neg (by omega), if_pos ((offs_low b (by omega)).mpr b337), if_neg (by omega), hkp]; exact T343 b346
                    refine j_iadd d_Mo_run2_359 ?_
                    refine j_eqi (y := nI (d343 + a343)) (nI_add d343 a343) ?_
                    refine j_sipush (v := nI 200) d_Mo_run2_360 (by decide) ?_
                    refine j_ncmp_le 368 (d343 + a343) 200 rfl rfl (by omega) (by omega) d_Mo_run2_363 (by decide) (fun b363 => ?_) (fun b363 => ?_)
                    · skip
                      refine j_goto (tgt := 19) d_Mo_run2_368 (by decide) ?_
                      refine j_lv [2, 3, 4, 5, 6, 7, 0] rfl ?_
                      have h3 : d343 + a343 ≤ 200 := by omega
                      have h9 := am_op_bk (T343 b346)
                      unfold am_bk at h9
                      simp only at h9
                      have h2 : b.length ≤ k343 ∧ k343 ≤ 201 := by first | omega | (simp only [List.length_cons]; omega) | (simp only [List.length_cons] at *; omega)
                      exact ih N343 fk d343 a343 k343 B343 b (p + 1) (by omega) I343 k343__R_1_ k343__R_10_ htk (fr.trans f343.z) h3 h2 (by omega) (by omega) (by rw [show (p + 1) = p + cd_car g p (f + q) + 1 by omega]; exact (am_run_s (by omega) (am_step_t (m := LM A dp) (o := LO A as_) (b := b) (k := k) (by omega) (by omega) h1 (by show (LM _ _).length + (LO _ _).length ≤ 200; rw [LM_len, LO_len]; exact h3))).symm.trans he)
                    · skip
                      refine j_iconst (v := nI 0) d_Mo_run2_366 (by decide) ?_
                      exact j_zret hκ rfl (by first | exact Or.inl rfl | exact Or.inr rfl) (by omega) (by omega) d_Mo_run2_367 (RP.f I343 k343__R_1_ k343__R_10_ (fr.trans f343.z) (he.symm.trans (am_run_n (by omega) (am_step_f (m := LM A dp) (o := LO A as_) (b := b) (k := k) (Or.inr (Or.inr (fun s hs => by rw [h1] at hs; cases hs; show 200 < (LM _ _).length + (LO _ _).length; rw [LM_len, LO_len]; omega)))))))
                  · skip
                    refine j_iconst (v := nI 0) d_Mo_run2_349 (by decide) ?_
                    exact j_zret hκ rfl (by first | exact Or.inl rfl | exact Or.inr rfl) (by omega) (by omega) d_Mo_run2_350 (RP.f I343 k343__R_1_ k343__R_10_ (fr.trans f343.z) (he.symm.trans (am_run_n (by omega) (am_step_f (m := LM A dp) (o := LO A as_) (b := b) (k := k) (Or.inr (Or.inr (fun s hs => by exfalso; unfold am_one at hs; rw [if_neg (by omega), if_pos ((offs_low b (by omega)).mpr b337), if_neg (by omega), hkp, F343 b346] at hs; cases hs)))))))
              · skip
                refine j_iload d_Mo_run2_165 1 rfl ?_
                refine j_bipush (v := nI 102) d_Mo_run2_167 (by decide) ?_
                refine j_ncmp_eq 335 (ub (g p)) 102 rfl rfl (by omega) (by omega) d_Mo_run2_169 (by decide) (fun b169 => ?_) (fun b169 => ?_)
                · skip
                  refine j_iload d_Mo_run2_335 7 rfl ?_
                  refine j_nif_ne 351 (offs b) rfl (by omega) d_Mo_run2_337 (by decide) (fun b337 => ?_) (fun b337 => ?_)
                  · skip
                    refine j_aload_n d_Mo_run2_351 rfl 2 rfl ?_
                    refine j_get F_Mo hI.1 11 (by decide) w_954 (Or.inl rfl) rfl d_Mo_run2_352 ?_
                    refine j_aload_n d_Mo_run2_355 rfl 2 rfl ?_
                    refine j_get F_Mo hI.1 12 (by decide) w_955 (Or.inl rfl) rfl d_Mo_run2_356 ?_
                    have h1 : am_one g (f + q) p (LM A dp) (LO A as_) b (am_kp g p k) = some (LM A dp, LO A as_, b, k) := by unfold am_one; rw [if_neg (by omega), if_neg (fun z => b337 ((offs_low b (by omega)).mp z)), hkp]
                    refine j_iadd d_Mo_run2_359 ?_
                    refine j_eqi (y := nI (dp + as_)) (nI_add dp as_) ?_
                    refine j_sipush (v := nI 200) d_Mo_run2_360 (by decide) ?_
                    refine j_ncmp_le 368 (dp + as_) 200 rfl rfl (by omega) (by omega) d_Mo_run2_363 (by decide) (fun b363 => ?_) (fun b363 => ?_)
                    · skip
                      refine j_goto (tgt := 19) d_Mo_run2_368 (by decide) ?_
                      refine j_lv [2, 3, 4, 5, 6, 7, 0] rfl ?_
                      have h3 : dp + as_ ≤ 200 := by omega
                      have h2 : b.length ≤ k ∧ k ≤ 201 := by first | omega | (simp only [List.length_cons]; omega) | (simp only [List.length_cons] at *; omega)
                      exact ih Mx fk dp as_ k A b (p + 1) (by omega) hI hr1 hr10 htk fr h3 h2 (by omega) (by omega) (by rw [show (p + 1) = p + cd_car g p (f + q) + 1 by omega]; exact (am_run_s (by omega) (am_step_t (m := LM A dp) (o := LO A as_) (b := b) (k := k) (by omega) (by omega) h1 (by show (LM _ _).length + (LO _ _).length ≤ 200; rw [LM_len, LO_len]; exact h3))).symm.trans he)
                    · skip
                      refine j_iconst (v := nI 0) d_Mo_run2_366 (by decide) ?_
                      exact j_zret hκ rfl (by first | exact Or.inl rfl | exact Or.inr rfl) (by omega) (by omega) d_Mo_run2_367 (RP.f hI hr1 hr10 fr (he.symm.trans (am_run_n (by omega) (am_step_f (m := LM A dp) (o := LO A as_) (b := b) (k := k) (Or.inr (Or.inr (fun s hs => by rw [h1] at hs; cases hs; show 200 < (LM _ _).length + (LO _ _).length; rw [LM_len, LO_len]; omega)))))))
                  · skip
                    refine j_aload_n d_Mo_run2_340 rfl 2 rfl ?_
                    refine j_iload d_Mo_run2_341 1 rfl ?_
                    refine j_callV (As := [.int (nI (ub (g p)))]) (rest := []) (c_Mo_isDone Γ.l E Mx R rows thr dp as_ k A b (ub (g p)) hI hR (by omega) (by omega) (by omega)) Y_Mo_isDone w_1027 w_1029 ws_32 hI.1 rfl rfl rfl (Nat.le_of_ble_eq_true rfl) (by omega) (by omega) (by omega) d_Mo_run2_343 (fun v343 N343 p343 => ?_)
                    obtain ⟨w343, d343, a343, k343, B343, rfl, I343, f343, g343, T343, F343⟩ := p343
                    have k343__R_1_ : N343 (R 1) = some (mp_b E 1000 g) := (f343.k hR (by decide) (by decide) (by decide)).trans hr1
                    have k343__R_10_ : N343 (R 10) = some (mp_z E 1001 fk) := (f343.k hR (by decide) (by decide) (by decide)).trans hr10
                    show mp_J Γ m_Mo_run2 E κ N343 [(6, .int (nI (p + 1))), (7, .int (nI (ub (g p)))), (0, .ref (R 0)), (1, .ref (R 1)), (2, .int (nI f)), (3, .int (nI q)), (4, .int (nI b.length)), (5, .int (nI (offs b)))] 346 [.int (tf w343)] 0 0
                    refine j_tif_ne 351 d_Mo_run2_346 (by decide) (fun b346 => ?_) (fun b346 => ?_)
                    · skip
                      refine j_aload_n d_Mo_run2_351 rfl 2 rfl ?_
                      refine j_get F_Mo I343.1 11 (by decide) w_954 (Or.inl rfl) rfl d_Mo_run2_352 ?_
                      refine j_aload_n d_Mo_run2_355 rfl 2 rfl ?_
                      refine j_get F_Mo I343.1 12 (by decide) w_955 (Or.inl rfl) rfl d_Mo_run2_356 ?_
                      have h1 : am_one g (f + q) p (LM A dp) (LO A as_) b (am_kp g p k) = some (LM B343 d343, LO B343 a343, b, k343) := by unfold am_one; rw [if_neg (by omega), if_pos ((offs_low b (by omega)).mpr b337), if_neg (by omega), hkp]; exact T343 b346
                      refine j_iadd d_Mo_run2_359 ?_
                      refine j_eqi (y := nI (d343 + a343)) (nI_add d343 a343) ?_
                      refine j_sipush (v := nI 200) d_Mo_run2_360 (by decide) ?_
                      refine j_ncmp_le 368 (d343 + a343) 200 rfl rfl (by omega) (by omega) d_Mo_run2_363 (by decide) (fun b363 => ?_) (fun b363 => ?_)
                      · skip
                        refine j_goto (tgt := 19) d_Mo_run2_368 (by decide) ?_
                        refine j_lv [2, 3, 4, 5, 6, 7, 0] rfl ?_
                        have h3 : d343 + a343 ≤ 200 := by omega
                        have h9 := am_op_bk (T343 b346)
                        unfold am_bk at h9
                        simp only at h9
                        have h2 : b.length ≤ k343 ∧ k343 ≤ 201 := by first | omega | (simp only [List.length_cons]; omega) | (simp only [List.length_cons] at *; omega)
                        exact ih N343 fk d343 a343 k343 B343 b (p + 1) (by omega) I343 k343__R_1_ k343__R_10_ htk (fr.trans f343.z) h3 h2 (by omega) (by omega) (by rw [show (p + 1) = p + cd_car g p (f + q) + 1 by omega]; exact (am_run_s (by omega) (am_step_t (m := LM A dp) (o := LO A as_) (b := b) (k := k) (by omega) (by omega) h1 (by show (LM _ _).length + (LO _ _).length ≤ 200; rw [LM_len, LO_len]; exact h3))).symm.trans he)
                      · skip
                        refine j_iconst (v := nI 0) d_Mo_run2_366 (by decide) ?_
                        exact j_zret hκ rfl (by first | exact Or.inl rfl | exact Or.inr rfl) (by omega) (by omega) d_Mo_run2_367 (RP.f I343 k343__R_1_ k343__R_10_ (fr.trans f343.z) (he.symm.trans (am_run_n (by omega) (am_step_f (m := LM A dp) (o := LO A as_) (b := b) (k := k) (Or.inr (Or.inr (fun s hs => by rw [h1] at hs; cases hs; show 200 < (LM _ _).length + (LO _ _).length; rw [LM_len, LO_len]; omega)))))))
                    · skip
                      refine j_iconst (v := nI 0) d_Mo_run2_349 (by decide) ?_
                      exact j_zret hκ rfl (by first | exact Or.inl rfl | exact Or.inr rfl) (by omega) (by omega) d_Mo_run2_350 (RP.f I343 k343__R_1_ k343__R_10_ (fr.trans f343.z) (he.symm.trans (am_run_n (by omega) (am_step_f (m := LM A dp) (o := LO A as_) (b := b) (k := k) (Or.inr (Or.inr (fun s hs => by exfalso; unfold am_one at hs; rw [if_neg (by omega), if_pos ((offs_low b (by omega)).mpr b337), if_neg (by omega), hkp, F343 b346] at hs; cases hs)))))))
                · skip
                  refine j_iload d_Mo_run2_172 1 rfl ?_
                  refine j_bipush (v := nI 103) d_Mo_run2_174 (by decide) ?_
                  refine j_ncmp_ge 259 (ub (g p)) 103 rfl rfl (by omega) (by omega) d_Mo_run2_176 (by decide) (fun b176 => ?_) (fun b176 => ?_)
                  · skip
                    refine j_iload d_Mo_run2_259 6 rfl ?_
                    refine j_nif_ne 266 b.length rfl (by omega) d_Mo_run2_261 (by decide) (fun b261 => ?_) (fun b261 => ?_)
                    · skip
                      obtain ⟨x, bs, rfl⟩ := am_nn0 (show 0 < b.length by omega)
                      have hlx : (x :: bs).length = bs.length + 1 := rfl
                      refine j_aload_n d_Mo_run2_266 rfl 2 rfl ?_
                      refine j_get F_Mo hI.1 14 (by decide) w_957 (Or.inl rfl) rfl d_Mo_run2_267 ?_
                      refine j_iload d_Mo_run2_270 6 rfl ?_
                      refine j_iconst (v := nI 1) d_Mo_run2_272 (by decide) ?_
                      refine j_isub d_Mo_run2_273 ?_
                      refine j_eqi (y := nI ((x :: bs).length - 1)) (pk_sub (by omega)) ?_
                      refine j_eqi (y := nI bs.length) rfl ?_
                      refine j_zald hr10 bs.length rfl (by omega) (by omega) d_Mo_run2_274 ?_
                      refine j_eqi (y := tf x) htk.1 ?_
                      refine j_istore [(8, .int (tf x)), (6, .int (nI (p + 1))), (7, .int (nI (ub (g p)))), (0, .ref (R 0)), (1, .ref (R 1)), (2, .int (nI f)), (3, .int (nI q)), (4, .int (nI (x :: bs).length)), (5, .int (nI (offs (x :: bs))))] d_Mo_run2_275 (by decide) rfl ?_
                      refine j_iload d_Mo_run2_277 2 rfl ?_
                      refine j_bipush (v := nI 104) d_Mo_run2_279 (by decide) ?_
                      refine j_ncmp_ne 298 (ub (g p)) 104 rfl rfl (by omega) (by omega) d_Mo_run2_281 (by decide) (fun b281 => ?_) (fun b281 => ?_)
                      · skip
                        refine j_aload_n d_Mo_run2_298 rfl 3 rfl ?_
                        refine j_get F_Mo hI.1 14 (by decide) w_957 (Or.inl rfl) rfl d_Mo_run2_299 ?_
                        refine j_iload d_Mo_run2_302 7 rfl ?_
                        refine j_iconst (v := nI 1) d_Mo_run2_304 (by decide) ?_
                        refine j_isub d_Mo_run2_305 ?_
                        refine j_eqi (y := nI ((x :: bs).length - 1)) (pk_sub (by omega)) ?_
                        refine j_eqi (y := nI bs.length) rfl ?_
                        refine j_iload d_Mo_run2_306 0 rfl ?_
                        refine j_tif_ne 315 d_Mo_run2_308 (by decide) (fun b308 => ?_) (fun b308 => ?_)
                        · skip
                          subst b308
                          refine j_iconst (v := nI 0) d_Mo_run2_315 (by decide) ?_
                          refine j_zast (y := nI 0) hr10 bs.length rfl (by omega) (by omega) rfl d_Mo_run2_316 ?_
                          generalize eM1 : mp_up Mx (R 10) (mp_z E 1001 (upd fk bs.length (nI 0))) = M1
                          have hM1__R_0_ : M1 (R 0) = some (mp_o 7 [.ref (R 1), .int (nI rows), .int thr, .ref (R 2), .ref (R 3), .ref (R 4), .ref (R 5), .ref (R 6), .ref (R 7), .ref (R 8), .ref (R 9), .int (nI dp), .int (nI as_), .int (nI k), .ref (R 10)]) := by rw [← eM1, mp_n (hR.ne (by decide) (by decide) (by decide))]; exact hI.1
                          have hM1__R_1_ : M1 (R 1) = some (mp_b E 1000 g) := by rw [← eM1, mp_n (hR.ne (by decide) (by decide) (by decide))]; exact hr1
                          have hM1__R_10_ : M1 (R 10) = some (mp_z E 1001 (upd fk bs.length (nI 0))) := by rw [← eM1]; exact mp_s
                          have JM1 : RI E M1 R rows thr dp as_ k A := hI.tk hR eM1
                          refine j_iload d_Mo_run2_317 8 rfl ?_
                          refine j_iload d_Mo_run2_319 0 rfl ?_
                          refine j_tif_eq 328 d_Mo_run2_321 (by decide) (fun b321 => (by cases b321)) (fun b321 => ?_)
                          refine j_iconst (v := nI 1) d_Mo_run2_324 (by decide) ?_
                          refine j_goto (tgt := 329) d_Mo_run2_325 (by decide) ?_
                          refine j_iadd d_Mo_run2_329 ?_
                          refine j_eqi (y := nI ((offs (true :: bs)) + 1)) (nI_add (offs (true :: bs)) 1) ?_
                          refine j_istore [(5, .int (nI ((offs (true :: bs)) + 1))), (8, .int (tf true)), (6, .int (nI (p + 1))), (7, .int (nI (ub (g p)))), (0, .ref (R 0)), (1, .ref (R 1)), (2, .int (nI f)), (3, .int (nI q)), (4, .int (nI (true :: bs).length))] d_Mo_run2_330 (by decide) rfl ?_
                          refine j_goto (tgt := 351) d_Mo_run2_332 (by decide) ?_
                          refine j_aload_n d_Mo_run2_351 rfl 4 rfl ?_
                          refine j_get F_Mo hM1__R_0_ 11 (by decide) w_954 (Or.inl rfl) rfl d_Mo_run2_352 ?_
                          refine j_aload_n d_Mo_run2_355 rfl 4 rfl ?_
                          refine j_get F_Mo hM1__R_0_ 12 (by decide) w_955 (Or.inl rfl) rfl d_Mo_run2_356 ?_
                          have h1 : am_one g (f + q) p (LM A dp) (LO A as_) (true :: bs) (am_kp g p k) = some (LM A dp, LO A as_, (false :: bs), k) := by unfold am_one; rw [if_pos (by omega)]; unfold a_br; rw [if_neg (by omega), if_neg (by omega)]; simp only; rw [if_pos (by omega), hkp]; rfl
                          refine j_iadd d_Mo_run2_359 ?_
                          refine j_eqi (y := nI (dp + as_)) (nI_add dp as_) ?_
                          refine j_sipush (v := nI 200) d_Mo_run2_360 (by decide) ?_
                          refine j_ncmp_le 368 (dp + as_) 200 rfl rfl (by omega) (by omega) d_Mo_run2_363 (by decide) (fun b363 => ?_) (fun b363 => ?_)
                          · skip
                            refine j_goto (tgt := 19) d_Mo_run2_368 (by decide) ?_
                            refine j_lv [4, 5, 6, 7, 8, 0, 2] rfl ?_
                            have h3 : dp + as_ ≤ 200 := by omega
                            have h2 : (false :: bs).length ≤ k ∧ k ≤ 201 := by first | omega | (simp only [List.length_cons]; omega) | (simp only [List.length_cons] at *; omega)
                            exact ih M1 (upd fk bs.length (nI 0)) dp as_ k A (false :: bs) (p + 1) (by omega) JM1 hM1__R_1_ hM1__R_10_ ⟨(by rw [pk_us]; rfl), TK_up (Nat.le_refl _) htk.2⟩ (fr.trans (RFz.up eM1)) h3 h2 (by omega) (by omega) (by rw [show (p + 1) = p + cd_car g p (f + q) + 1 by omega]; exact (am_run_s (by omega) (am_step_t (m := LM A dp) (o := LO A as_) (b := (true :: bs)) (k := k) (by omega) (by omega) h1 (by show (LM _ _).length + (LO _ _).length ≤ 200; rw [LM_len, LO_len]; exact h3))).symm.trans he)
                          · skip
                            refine j_iconst (v := nI 0) d_Mo_run2_366 (by decide) ?_
                            exact j_zret hκ rfl (by first | exact Or.inl rfl | exact Or.inr rfl) (by omega) (by omega) d_Mo_run2_367 (RP.f JM1 hM1__R_1_ hM1__R_10_ (fr.trans (RFz.up eM1)) (he.symm.trans (am_run_n (by omega) (am_step_f (m := LM A dp) (o := LO A as_) (b := (true :: bs)) (k := k) (Or.inr (Or.inr (fun s hs => by rw [h1] at hs; cases hs; show 200 < (LM _ _).length + (LO _ _).length; rw [LM_len, LO_len]; omega)))))))
                        · skip
                          subst b308
                          refine j_iconst (v := nI 1) d_Mo_run2_311 (by decide) ?_
                          refine j_goto (tgt := 316) d_Mo_run2_312 (by decide) ?_
                          refine j_zast (y := nI 1) hr10 bs.length rfl (by omega) (by omega) rfl d_Mo_run2_316 ?_
                          generalize eM2 : mp_up Mx (R 10) (mp_z E 1001 (upd fk bs.length (nI 1))) = M2
                          have hM2__R_0_ : M2 (R 0) = some (mp_o 7 [.ref (R 1), .int (nI rows), .int thr, .ref (R 2), .ref (R 3), .ref (R 4), .ref (R 5), .ref (R 6), .ref (R 7), .ref (R 8), .ref (R 9), .int (nI dp), .int (nI as_), .int (nI k), .ref (R 10)]) := by rw [← eM2, mp_n (hR.ne (by decide) (by decide) (by decide))]; exact hI.1
                          have hM2__R_1_ : M2 (R 1) = some (mp_b E 1000 g) := by rw [← eM2, mp_n (hR.ne (by decide) (by decide) (by decide))]; exact hr1
                          have hM2__R_10_ : M2 (R 10) = some (mp_z E 1001 (upd fk bs.length (nI 1))) := by rw [← eM2]; exact mp_s
                          have JM2 : RI E M2 R rows thr dp as_ k A := hI.tk hR eM2
                          refine j_iload d_Mo_run2_317 8 rfl ?_
                          refine j_iload d_Mo_run2_319 0 rfl ?_
                          refine j_tif_eq 328 d_Mo_run2_321 (by decide) (fun b321 => ?_) (fun b321 => (by cases b321))
                          refine j_iconst (v := (-1)) d_Mo_run2_328 (by decide) ?_
                          refine j_iadd d_Mo_run2_329 ?_
                          refine j_eqi (y := nI (offs bs)) (pk_m1 (offs bs)) ?_
                          refine j_istore [(5, .int (nI (offs bs))), (8, .int (tf false)), (6, .int (nI (p + 1))), (7, .int (nI (ub (g p)))), (0, .ref (R 0)), (1, .ref (R 1)), (2, .int (nI f)), (3, .int (nI q)), (4, .int (nI (false :: bs).length))] d_Mo_run2_330 (by decide) rfl ?_
                          refine j_goto (tgt := 351) d_Mo_run2_332 (by decide) ?_
                          refine j_aload_n d_Mo_run2_351 rfl 4 rfl ?_
                          refine j_get F_Mo hM2__R_0_ 11 (by decide) w_954 (Or.inl rfl) rfl d_Mo_run2_352 ?_
                          refine j_aload_n d_Mo_run2_355 rfl 4 rfl ?_
                          refine j_get F_Mo hM2__R_0_ 12 (by decide) w_955 (Or.inl rfl) rfl d_Mo_run2_356 ?_
                          have h1 : am_one g (f + q) p (LM A dp) (LO A as_) (false :: bs) (am_kp g p k) = some (LM A dp, LO A as_, (true :: bs), k) := by unfold am_one; rw [if_pos (by omega)]; unfold a_br; rw [if_neg (by omega), if_neg (by omega)]; simp only; rw [if_pos (by omega), hkp]; rfl
                          refine j_iadd d_Mo_run2_359 ?_
                          refine j_eqi (y := nI (dp + as_)) (nI_add dp as_) ?_
                          refine j_sipush (v := nI 200) d_Mo_run2_360 (by decide) ?_
                          refine j_ncmp_le 368 (dp + as_) 200 rfl rfl (by omega) (by omega) d_Mo_run2_363 (by decide) (fun b363 => ?_) (fun b363 => ?_)
                          · skip
                            refine j_goto (tgt := 19) d_Mo_run2_368 (by decide) ?_
                            refine j_lv [4, 5, 6, 7, 8, 0, 2] rfl ?_
                            have h3 : dp + as_ ≤ 200 := by omega
                            have h2 : (true :: bs).length ≤ k ∧ k ≤ 201 := by first | omega | (simp only [List.length_cons]; omega) | (simp only [List.length_cons] at *; omega)
                            exact ih M2 (upd fk bs.length (nI 1)) dp as_ k A (true :: bs) (p + 1) (by omega) JM2 hM2__R_1_ hM2__R_10_ ⟨(by rw [pk_us]; rfl), TK_up (Nat.le_refl _) htk.2⟩ (fr.trans (RFz.up eM2)) h3 h2 (by omega) (by omega) (by rw [show (p + 1) = p + cd_car g p (f + q) + 1 by omega]; exact (am_run_s (by omega) (am_step_t (m := LM A dp) (o := LO A as_) (b := (false :: bs)) (k := k) (by omega) (by omega) h1 (by show (LM _ _).length + (LO _ _).length ≤ 200; rw [LM_len, LO_len]; exact h3))).symm.trans he)
                          · skip
                            refine j_iconst (v := nI 0) d_Mo_run2_366 (by decide) ?_
                            exact j_zret hκ rfl (by first | exact Or.inl rfl | exact Or.inr rfl) (by omega) (by omega) d_Mo_run2_367 (RP.f JM2 hM2__R_1_ hM2__R_10_ (fr.trans (RFz.up eM2)) (he.symm.trans (am_run_n (by omega) (am_step_f (m := LM A dp) (o := LO A as_) (b := (false :: bs)) (k := k) (Or.inr (Or.inr (fun s hs => by rw [h1] at hs; cases hs; show 200 < (LM _ _).length + (LO _ _).length; rw [LM_len, LO_len]; omega)))))))
                      · skip
                        refine j_iinc (v := nI bs.length) [(4, .int (nI bs.length)), (8, .int (tf x)), (6, .int (nI (p + 1))), (7, .int (nI (ub (g p)))), (0, .ref (R 0)), (1, .ref (R 1)), (2, .int (nI f)), (3, .int (nI q)), (5, .int (nI (offs (x :: bs))))] d_Mo_run2_284 7 rfl (pk_m1 bs.length) (by decide) rfl ?_
                        refine j_iload d_Mo_run2_287 1 rfl ?_
                        refine j_tif_ne 332 d_Mo_run2_289 (by decide) (fun b289 => ?_) (fun b289 => ?_)
                        · skip
                          subst b289
                          refine j_goto (tgt := 351) d_Mo_run2_332 (by decide) ?_
                          refine j_aload_n d_Mo_run2_351 rfl 4 rfl ?_
                          refine j_get F_Mo hI.1 11 (by decide) w_954 (Or.inl rfl) rfl d_Mo_run2_352 ?_
                          refine j_aload_n d_Mo_run2_355 rfl 4 rfl ?_
                          refine j_get F_Mo hI.1 12 (by decide) w_955 (Or.inl rfl) rfl d_Mo_run2_356 ?_
                          have h1 : am_one g (f + q) p (LM A dp) (LO A as_) (true :: bs) (am_kp g p k) = some (LM A dp, LO A as_, bs, k) := by unfold am_one; rw [if_pos (by omega)]; unfold a_br; rw [if_neg (by omega), if_neg (by omega)]; simp only; rw [if_neg (by omega), hkp]
                          refine j_iadd d_Mo_run2_359 ?_
                          refine j_eqi (y := nI (dp + as_)) (nI_add dp as_) ?_
                          refine j_sipush (v := nI 200) d_Mo_run2_360 (by decide) ?_
                          refine j_ncmp_le 368 (dp + as_) 200 rfl rfl (by omega) (by omega) d_Mo_run2_363 (by decide) (fun b363 => ?_) (fun b363 => ?_)
                          · skip
                            refine j_goto (tgt := 19) d_Mo_run2_368 (by decide) ?_
                            refine j_lv [4, 5, 6, 7, 0, 8, 2] rfl ?_
                            have h3 : dp + as_ ≤ 200 := by omega
                            have h2 : bs.length ≤ k ∧ k ≤ 201 := by first | omega | (simp only [List.length_cons]; omega) | (simp only [List.length_cons] at *; omega)
                            exact ih Mx fk dp as_ k A bs (p + 1) (by omega) hI hr1 hr10 htk.2 fr h3 h2 (by omega) (by omega) (by rw [show (p + 1) = p + cd_car g p (f + q) + 1 by omega]; exact (am_run_s (by omega) (am_step_t (m := LM A dp) (o := LO A as_) (b := (true :: bs)) (k := k) (by omega) (by omega) h1 (by show (LM _ _).length + (LO _ _).length ≤ 200; rw [LM_len, LO_len]; exact h3))).symm.trans he)
                          · skip
                            refine j_iconst (v := nI 0) d_Mo_run2_366 (by decide) ?_
                            exact j_zret hκ rfl (by first | exact Or.inl rfl | exact Or.inr rfl) (by omega) (by omega) d_Mo_run2_367 (RP.f hI hr1 hr10 fr (he.symm.trans (am_run_n (by omega) (am_step_f (m := LM A dp) (o := LO A as_) (b := (true :: bs)) (k := k) (Or.inr (Or.inr (fun s hs => by rw [h1] at hs; cases hs; show 200 < (LM _ _).length + (LO _ _).length; rw [LM_len, LO_len]; omega)))))))
                        · skip
                          subst b289
                          refine j_iinc (v := nI (offs bs)) [(5, .int (nI (offs bs))), (4, .int (nI bs.length)), (8, .int (tf false)), (6, .int (nI (p + 1))), (7, .int (nI (ub (g p)))), (0, .ref (R 0)), (1, .ref (R 1)), (2, .int (nI f)), (3, .int (nI q))] d_Mo_run2_292 8 rfl (pk_m1 (offs bs)) (by decide) rfl ?_
                          refine j_goto (tgt := 332) d_Mo_run2_295 (by decide) ?_
                          refine j_goto (tgt := 351) d_Mo_run2_332 (by decide) ?_
                          refine j_aload_n d_Mo_run2_351 rfl 5 rfl ?_
                          refine j_get F_Mo hI.1 11 (by decide) w_954 (Or.inl rfl) rfl d_Mo_run2_352 ?_
                          refine j_aload_n d_Mo_run2_355 rfl 5 rfl ?_
                          refine j_get F_Mo hI.1 12 (by decide) w_955 (Or.inl rfl) rfl d_Mo_run2_356 ?_
                          have h1 : am_one g (f + q) p (LM A dp) (LO A as_) (false :: bs) (am_kp g p k) = some (LM A dp, LO A as_, bs, k) := by unfold am_one; rw [if_pos (by omega)]; unfold a_br; rw [if_neg (by omega), if_neg (by omega)]; simp only; rw [if_neg (by omega), hkp]
                          refine j_iadd d_Mo_run2_359 ?_
                          refine j_eqi (y := nI (dp + as_)) (nI_add dp as_) ?_
                          refine j_sipush (v := nI 200) d_Mo_run2_360 (by decide) ?_
                          refine j_ncmp_le 368 (dp + as_) 200 rfl rfl (by omega) (by omega) d_Mo_run2_363 (by decide) (fun b363 => ?_) (fun b363 => ?_)
                          · skip
                            refine j_goto (tgt := 19) d_Mo_run2_368 (by decide) ?_
                            refine j_lv [5, 6, 7, 8, 1, 0, 3] rfl ?_
                            have h3 : dp + as_ ≤ 200 := by omega
                            have h2 : bs.length ≤ k ∧ k ≤ 201 := by first | omega | (simp only [List.length_cons]; omega) | (simp only [List.length_cons] at *; omega)
                            exact ih Mx fk dp as_ k A bs (p + 1) (by omega) hI hr1 hr10 htk.2 fr h3 h2 (by omega) (by omega) (by rw [show (p + 1) = p + cd_car g p (f + q) + 1 by omega]; exact (am_run_s (by omega) (am_step_t (m := LM A dp) (o := LO A as_) (b := (false :: bs)) (k := k) (by omega) (by omega) h1 (by show (LM _ _).length + (LO _ _).length ≤ 200; rw [LM_len, LO_len]; exact h3))).symm.trans he)
                          · skip
                            refine j_iconst (v := nI 0) d_Mo_run2_366 (by decide) ?_
                            exact j_zret hκ rfl (by first | exact Or.inl rfl | exact Or.inr rfl) (by omega) (by omega) d_Mo_run2_367 (RP.f hI hr1 hr10 fr (he.symm.trans (am_run_n (by omega) (am_step_f (m := LM A dp) (o := LO A as_) (b := (false :: bs)) (k := k) (Or.inr (Or.inr (fun s hs => by rw [h1] at hs; cases hs; show 200 < (LM _ _).length + (LO _ _).length; rw [LM_len, LO_len]; omega)))))))
                    · skip
                      refine j_iconst (v := nI 0) d_Mo_run2_264 (by decide) ?_
                      exact j_zret hκ rfl (by first | exact Or.inl rfl | exact Or.inr rfl) (by omega) (by omega) d_Mo_run2_265 (RP.f hI hr1 hr10 fr (he.symm.trans (am_run_n (by omega) (am_step_f (m := LM A dp) (o := LO A as_) (b := b) (k := k) (Or.inr (Or.inr (fun s hs => by exfalso; have h0 : b = [] := List.length_eq_zero_iff.mp (by omega); unfold am_one at hs; rw [if_pos (by omega)] at hs; unfold a_br at hs; rw [if_neg (by omega), if_neg (by omega), h0] at hs; cases hs)))))))
                  · skip
                    refine j_iconst (v := nI 0) d_Mo_run2_179 (by decide) ?_
                    refine j_istore [(8, .int (nI 0)), (6, .int (nI (p + 1))), (7, .int (nI (ub (g p)))), (0, .ref (R 0)), (1, .ref (R 1)), (2, .int (nI f)), (3, .int (nI q)), (4, .int (nI b.length)), (5, .int (nI (offs b)))] d_Mo_run2_180 (by decide) rfl ?_
                    refine j_iload d_Mo_run2_182 8 rfl ?_
                    refine j_nif_ne 236 (offs b) rfl (by omega) d_Mo_run2_184 (by decide) (fun b184 => ?_) (fun b184 => ?_)
                    · skip
                      refine j_aload_n d_Mo_run2_236 rfl 3 rfl ?_
                      refine j_get F_Mo hI.1 14 (by decide) w_957 (Or.inl rfl) rfl d_Mo_run2_237 ?_
                      refine j_iload d_Mo_run2_240 7 rfl ?_
                      refine j_iload d_Mo_run2_242 0 rfl ?_
                      refine j_zast (y := nI 0) hr10 b.length rfl (by omega) (by omega) rfl d_Mo_run2_244 ?_
                      generalize eM3 : mp_up Mx (R 10) (mp_z E 1001 (upd fk b.length (nI 0))) = M3
                      have hM3__R_0_ : M3 (R 0) = some (mp_o 7 [.ref (R 1), .int (nI rows), .int thr, .ref (R 2), .ref (R 3), .ref (R 4), .ref (R 5), .ref (R 6), .ref (R 7), .ref (R 8), .ref (R 9), .int (nI dp), .int (nI as_), .int (nI k), .ref (R 10)]) := by rw [← eM3, mp_n (hR.ne (by decide) (by decide) (by decide))]; exact hI.1
                      have hM3__R_1_ : M3 (R 1) = some (mp_b E 1000 g) := by rw [← eM3, mp_n (hR.ne (by decide) (by decide) (by decide))]; exact hr1
                      have hM3__R_10_ : M3 (R 10) = some (mp_z E 1001 (upd fk b.length (nI 0))) := by rw [← eM3]; exact mp_s
                      have JM3 : RI E M3 R rows thr dp as_ k A := hI.tk hR eM3
                      refine j_iinc (v := nI (b.length + 1)) [(4, .int (nI (b.length + 1))), (8, .int (nI 0)), (6, .int (nI (p + 1))), (7, .int (nI (ub (g p)))), (0, .ref (R 0)), (1, .ref (R 1)), (2, .int (nI f)), (3, .int (nI q)), (5, .int (nI (offs b)))] d_Mo_run2_245 7 rfl (nI_add b.length 1) (by decide) rfl ?_
                      refine j_iload d_Mo_run2_248 1 rfl ?_
                      refine j_nif_ne 256 0 rfl (by omega) d_Mo_run2_250 (by decide) (fun b250 => (by first | exact b250.elim | exact absurd b250 (by omega))) (fun b250 => ?_)
                      refine j_iinc (v := nI ((offs b) + 1)) [(5, .int (nI ((offs b) + 1))), (4, .int (nI (b.length + 1))), (8, .int (nI 0)), (6, .int (nI (p + 1))), (7, .int (nI (ub (g p)))), (0, .ref (R 0)), (1, .ref (R 1)), (2, .int (nI f)), (3, .int (nI q))] d_Mo_run2_253 8 rfl (nI_add (offs b) 1) (by decide) rfl ?_
                      refine j_goto (tgt := 351) d_Mo_run2_256 (by decide) ?_
                      refine j_aload_n d_Mo_run2_351 rfl 5 rfl ?_
                      refine j_get F_Mo hM3__R_0_ 11 (by decide) w_954 (Or.inl rfl) rfl d_Mo_run2_352 ?_
                      refine j_aload_n d_Mo_run2_355 rfl 5 rfl ?_
                      refine j_get F_Mo hM3__R_0_ 12 (by decide) w_955 (Or.inl rfl) rfl d_Mo_run2_356 ?_
                      have h1 : am_one g (f + q) p (LM A dp) (LO A as_) b (am_kp g p k) = some (LM A dp, LO A as_, (false :: b), k) := by rcases (show ub (g p) = 99 ∨ ub (g p) = 100 by omega) with h9 | h9 <;> (unfold am_one; rw [if_pos (by omega)]; unfold a_br; (first | rw [if_pos (show ub (g p) = 99 from h9)] | rw [if_neg (show ¬ ub (g p) = 99 by omega), if_pos h9]); unfold a_enter; rw [if_pos (fun z => b184 ((offs_low b (by omega)).mp z)), hkp])
                      refine j_iadd d_Mo_run2_359 ?_
                      refine j_eqi (y := nI (dp + as_)) (nI_add dp as_) ?_
                      refine j_sipush (v := nI 200) d_Mo_run2_360 (by decide) ?_
                      refine j_ncmp_le 368 (dp + as_) 200 rfl rfl (by omega) (by omega) d_Mo_run2_363 (by decide) (fun b363 => ?_) (fun b363 => ?_)
                      · skip
                        refine j_goto (tgt := 19) d_Mo_run2_368 (by decide) ?_
                        refine j_lv [5, 6, 7, 8, 1, 0, 3] rfl ?_
                        have h3 : dp + as_ ≤ 200 := by omega
                        have h2 : (false :: b).length ≤ k ∧ k ≤ 201 := by first | omega | (simp only [List.length_cons]; omega) | (simp only [List.length_cons] at *; omega)
                        exact ih M3 (upd fk b.length (nI 0)) dp as_ k A (false :: b) (p + 1) (by omega) JM3 hM3__R_1_ hM3__R_10_ ⟨(by rw [pk_us]; rfl), TK_up (Nat.le_refl _) htk⟩ (fr.trans (RFz.up eM3)) h3 h2 (by omega) (by omega) (by rw [show (p + 1) = p + cd_car g p (f + q) + 1 by omega]; exact (am_run_s (by omega) (am_step_t (m := LM A dp) (o := LO A as_) (b := b) (k := k) (by omega) (by omega) h1 (by show (LM _ _).length + (LO _ _).length ≤ 200; rw [LM_len, LO_len]; exact h3))).symm.trans he)
                      · skip
                        refine j_iconst (v := nI 0) d_Mo_run2_366 (by decide) ?_
                        exact j_zret hκ rfl (by first | exact Or.inl rfl | exact Or.inr rfl) (by omega) (by omega) d_Mo_run2_367 (RP.f JM3 hM3__R_1_ hM3__R_10_ (fr.trans (RFz.up eM3)) (he.symm.trans (am_run_n (by omega) (am_step_f (m := LM A dp) (o := LO A as_) (b := b) (k := k) (Or.inr (Or.inr (fun s hs => by rw [h1] at hs; cases hs; show 200 < (LM _ _).length + (LO _ _).length; rw [LM_len, LO_len]; omega)))))))
                    · skip
                      refine j_aload_n d_Mo_run2_187 rfl 3 rfl ?_
                      refine j_get F_Mo hI.1 11 (by decide) w_954 (Or.inl rfl) rfl d_Mo_run2_188 ?_
                      refine j_nif_ne 196 dp rfl (by omega) d_Mo_run2_191 (by decide) (fun b191 => ?_) (fun b191 => ?_)
                      · skip
                        refine j_aload_n d_Mo_run2_196 rfl 3 rfl ?_
                        refine j_dup d_Mo_run2_197 rfl ?_
                        refine j_get F_Mo hI.1 11 (by decide) w_954 (Or.inl rfl) rfl d_Mo_run2_198 ?_
                        refine j_iconst (v := nI 1) d_Mo_run2_201 (by decide) ?_
                        refine j_isub d_Mo_run2_202 ?_
                        refine j_eqi (y := nI (dp - 1)) (pk_sub (by omega)) ?_
                        refine j_put F_Mo hI.1 11 (by decide) w_954 (Or.inl rfl) rfl rfl rfl (Nat.le_of_ble_eq_true rfl) d_Mo_run2_203 ?_
                        show mp_J Γ m_Mo_run2 E κ (mp_up Mx (R 0) (mp_o 7 [.ref (R 1), .int (nI rows), .int thr, .ref (R 2), .ref (R 3), .ref (R 4), .ref (R 5), .ref (R 6), .ref (R 7), .ref (R 8), .ref (R 9), .int (nI (dp - 1)), .int (nI as_), .int (nI k), .ref (R 10)])) [(8, .int (nI 0)), (6, .int (nI (p + 1))), (7, .int (nI (ub (g p)))), (0, .ref (R 0)), (1, .ref (R 1)), (2, .int (nI f)), (3, .int (nI q)), (4, .int (nI b.length)), (5, .int (nI (offs b)))] 206 [] 0 0
                        generalize eM4 : mp_up Mx (R 0) (mp_o 7 [.ref (R 1), .int (nI rows), .int thr, .ref (R 2), .ref (R 3), .ref (R 4), .ref (R 5), .ref (R 6), .ref (R 7), .ref (R 8), .ref (R 9), .int (nI (dp - 1)), .int (nI as_), .int (nI k), .ref (R 10)]) = M4
                        have hM4__R_1_ : M4 (R 1) = some (mp_b E 1000 g) := by rw [← eM4, mp_n (hR.ne (by decide) (by decide) (by decide))]; exact hr1
                        have hM4__R_10_ : M4 (R 10) = some (mp_z E 1001 fk) := by rw [← eM4, mp_n (hR.ne (by decide) (by decide) (by decide))]; exact hr10
                        have hM4__R_0_ : M4 (R 0) = some (mp_o 7 [.ref (R 1), .int (nI rows), .int thr, .ref (R 2), .ref (R 3), .ref (R 4), .ref (R 5), .ref (R 6), .ref (R 7), .ref (R 8), .ref (R 9), .int (nI (dp - 1)), .int (nI as_), .int (nI k), .ref (R 10)]) := by rw [← eM4]; exact mp_s
                        have JM4 : RI E M4 R rows thr (dp - 1) as_ k A := hI.set hR eM4
                        have fM4 : RFr R Mx M4 := RFr.s0 eM4
                        refine j_aload_n d_Mo_run2_206 rfl 3 rfl ?_
                        refine j_aload_n d_Mo_run2_207 rfl 3 rfl ?_
                        refine j_get F_Mo hM4__R_0_ 11 (by decide) w_954 (Or.inl rfl) rfl d_Mo_run2_208 ?_
                        refine j_callV (As := [.int (nI (dp - 1))]) (rest := []) (r_isTrue Γ.l JM4 (dp - 1) (by omega)) Y_Mo_isTrue w_1023 w_1025 ws_31 hM4__R_0_ rfl rfl rfl (Nat.le_of_ble_eq_true rfl) (by omega) (by omega) (by omega) d_Mo_run2_211 (fun v211 N211 p211 => ?_)
                        obtain ⟨rfl, q211⟩ := p211
                        obtain rfl := q211.symm
                        show mp_J Γ m_Mo_run2 E κ M4 [(8, .int (nI 0)), (6, .int (nI (p + 1))), (7, .int (nI (ub (g p)))), (0, .ref (R 0)), (1, .ref (R 1)), (2, .int (nI f)), (3, .int (nI q)), (4, .int (nI b.length)), (5, .int (nI (offs b)))] 214 [.int (tf (am_true (A (dp - 1))))] 0 0
                        refine j_iload d_Mo_run2_214 2 rfl ?_
                        refine j_bipush (v := nI 99) d_Mo_run2_216 (by decide) ?_
                        refine j_ncmp_ne 225 (ub (g p)) 99 rfl rfl (by omega) (by omega) d_Mo_run2_218 (by decide) (fun b218 => ?_) (fun b218 => ?_)
                        · skip
                          refine j_iconst (v := nI 0) d_Mo_run2_225 (by decide) ?_
                          refine j_icmp_ne 233 d_Mo_run2_226 (by decide) (fun b226 => ?_) (fun b226 => ?_)
                          · skip
                            refine j_iconst (v := nI 0) d_Mo_run2_233 (by decide) ?_
                            refine j_istore [(8, .int (nI 0)), (6, .int (nI (p + 1))), (7, .int (nI (ub (g p)))), (0, .ref (R 0)), (1, .ref (R 1)), (2, .int (nI f)), (3, .int (nI q)), (4, .int (nI b.length)), (5, .int (nI (offs b)))] d_Mo_run2_234 (by decide) rfl ?_
                            refine j_aload_n d_Mo_run2_236 rfl 3 rfl ?_
                            refine j_get F_Mo hM4__R_0_ 14 (by decide) w_957 (Or.inl rfl) rfl d_Mo_run2_237 ?_
                            refine j_iload d_Mo_run2_240 7 rfl ?_
                            refine j_iload d_Mo_run2_242 0 rfl ?_
                            refine j_zast (y := nI 0) hM4__R_10_ b.length rfl (by omega) (by omega) rfl d_Mo_run2_244 ?_
                            generalize eM5 : mp_up M4 (R 10) (mp_z E 1001 (upd fk b.length (nI 0))) = M5
                            have hM5__R_1_ : M5 (R 1) = some (mp_b E 1000 g) := by rw [← eM5, mp_n (hR.ne (by decide) (by decide) (by decide))]; exact hM4__R_1_
                            have hM5__R_0_ : M5 (R 0) = some (mp_o 7 [.ref (R 1), .int (nI rows), .int thr, .ref (R 2), .ref (R 3), .ref (R 4), .ref (R 5), .ref (R 6), .ref (R 7), .ref (R 8), .ref (R 9), .int (nI (dp - 1)), .int (nI as_), .int (nI k), .ref (R 10)]) := by rw [← eM5, mp_n (hR.ne (by decide) (by decide) (by decide))]; exact hM4__R_0_
                            have hM5__R_10_ : M5 (R 10) = some (mp_z E 1001 (upd fk b.length (nI 0))) := by rw [← eM5]; exact mp_s
                            have JM5 : RI E M5 R rows thr (dp - 1) as_ k A := JM4.tk hR eM5
                            refine j_iinc (v := nI (b.length + 1)) [(4, .int (nI (b.length + 1))), (8, .int (nI 0)), (6, .int (nI (p + 1))), (7, .int (nI (ub (g p)))), (0, .ref (R 0)), (1, .ref (R 1)), (2, .int (nI f)), (3, .int (nI q)), (5, .int (nI (offs b)))] d_Mo_run2_245 7 rfl (nI_add b.length 1) (by decide) rfl ?_
                            refine j_iload d_Mo_run2_248 1 rfl ?_
                            refine j_nif_ne 256 0 rfl (by omega) d_Mo_run2_250 (by decide) (fun b250 => (by first | exact b250.elim | exact absurd b250 (by omega))) (fun b250 => ?_)
                            refine j_iinc (v := nI ((offs b) + 1)) [(5, .int (nI ((offs b) + 1))), (4, .int (nI (b.length + 1))), (8, .int (nI 0)), (6, .int (nI (p + 1))), (7, .int (nI (ub (g p)))), (0, .ref (R 0)), (1, .ref (R 1)), (2, .int (nI f)), (3, .int (nI q))] d_Mo_run2_253 8 rfl (nI_add (offs b) 1) (by decide) rfl ?_
                            refine j_goto (tgt := 351) d_Mo_run2_256 (by decide) ?_
                            refine j_aload_n d_Mo_run2_351 rfl 5 rfl ?_
                            refine j_get F_Mo hM5__R_0_ 11 (by decide) w_954 (Or.inl rfl) rfl d_Mo_run2_352 ?_
                            refine j_aload_n d_Mo_run2_355 rfl 5 rfl ?_
                            refine j_get F_Mo hM5__R_0_ 12 (by decide) w_955 (Or.inl rfl) rfl d_Mo_run2_356 ?_
                            have h1 : am_one g (f + q) p (LM A dp) (LO A as_) b (am_kp g p k) = some (LM A (dp - 1), LO A as_, (false :: b), k) := by unfold am_one; rw [if_pos (by omega)]; unfold a_br; rw [if_neg b218, if_pos (by omega)]; unfold a_enter; rw [if_neg (fun z => z ((offs_low b (by omega)).mpr b184)), if_pos (by rw [LM_len]; omega), g0 (by omega), LM_drop (by omega), am_eqf (z := false) b226, hkp]
                            refine j_iadd d_Mo_run2_359 ?_
                            refine j_eqi (y := nI ((dp - 1) + as_)) (nI_add (dp - 1) as_) ?_
                            refine j_sipush (v := nI 200) d_Mo_run2_360 (by decide) ?_
                            refine j_ncmp_le 368 ((dp - 1) + as_) 200 rfl rfl (by omega) (by omega) d_Mo_run2_363 (by decide) (fun b363 => ?_) (fun b363 => ?_)
                            · skip
                              refine j_goto (tgt := 19) d_Mo_run2_368 (by decide) ?_
                              refine j_lv [5, 6, 7, 8, 1, 0, 3] rfl ?_
                              have h3 : dp - 1 + as_ ≤ 200 := by omega
                              have h2 : (false :: b).length ≤ k ∧ k ≤ 201 := by first | omega | (simp only [List.length_cons]; omega) | (simp only [List.length_cons] at *; omega)
                              exact ih M5 (upd fk b.length (nI 0)) (dp - 1) as_ k A (false :: b) (p + 1) (by omega) JM5 hM5__R_1_ hM5__R_10_ ⟨(by rw [pk_us]; rfl), TK_up (Nat.le_refl _) htk⟩ ((fr.trans fM4.z).trans (RFz.up eM5)) h3 h2 (by omega) (by omega) (by rw [show (p + 1) = p + cd_car g p (f + q) + 1 by omega]; exact (am_run_s (by omega) (am_step_t (m := LM A dp) (o := LO A as_) (b := b) (k := k) (by omega) (by omega) h1 (by show (LM _ _).length + (LO _ _).length ≤ 200; rw [LM_len, LO_len]; exact h3))).symm.trans he)
                            · skip
                              refine j_iconst (v := nI 0) d_Mo_run2_366 (by decide) ?_
                              exact j_zret hκ rfl (by first | exact Or.inl rfl | exact Or.inr rfl) (by omega) (by omega) d_Mo_run2_367 (RP.f JM5 hM5__R_1_ hM5__R_10_ ((fr.trans fM4.z).trans (RFz.up eM5)) (he.symm.trans (am_run_n (by omega) (am_step_f (m := LM A dp) (o := LO A as_) (b := b) (k := k) (Or.inr (Or.inr (fun s hs => by rw [h1] at hs; cases hs; show 200 < (LM _ _).length + (LO _ _).length; rw [LM_len, LO_len]; omega)))))))
                          · skip
                            refine j_iconst (v := nI 1) d_Mo_run2_229 (by decide) ?_
                            refine j_goto (tgt := 234) d_Mo_run2_230 (by decide) ?_
                            refine j_istore [(8, .int (nI 1)), (6, .int (nI (p + 1))), (7, .int (nI (ub (g p)))), (0, .ref (R 0)), (1, .ref (R 1)), (2, .int (nI f)), (3, .int (nI q)), (4, .int (nI b.length)), (5, .int (nI (offs b)))] d_Mo_run2_234 (by decide) rfl ?_
                            refine j_aload_n d_Mo_run2_236 rfl 3 rfl ?_
                            refine j_get F_Mo hM4__R_0_ 14 (by decide) w_957 (Or.inl rfl) rfl d_Mo_run2_237 ?_
                            refine j_iload d_Mo_run2_240 7 rfl ?_
                            refine j_iload d_Mo_run2_242 0 rfl ?_
                            refine j_zast (y := nI 1) hM4__R_10_ b.length rfl (by omega) (by omega) rfl d_Mo_run2_244 ?_
                            generalize eM6 : mp_up M4 (R 10) (mp_z E 1001 (upd fk b.length (nI 1))) = M6
                            have hM6__R_1_ : M6 (R 1) = some (mp_b E 1000 g) := by rw [← eM6, mp_n (hR.ne (by decide) (by decide) (by decide))]; exact hM4__R_1_
                            have hM6__R_0_ : M6 (R 0) = some (mp_o 7 [.ref (R 1), .int (nI rows), .int thr, .ref (R 2), .ref (R 3), .ref (R 4), .ref (R 5), .ref (R 6), .ref (R 7), .ref (R 8), .ref (R 9), .int (nI (dp - 1)), .int (nI as_), .int (nI k), .ref (R 10)]) := by rw [← eM6, mp_n (hR.ne (by decide) (by decide) (by decide))]; exact hM4__R_0_
                            have hM6__R_10_ : M6 (R 10) = some (mp_z E 1001 (upd fk b.length (nI 1))) := by rw [← eM6]; exact mp_s
                            have JM6 : RI E M6 R rows thr (dp - 1) as_ k A := JM4.tk hR eM6
                            refine j_iinc (v := nI (b.length + 1)) [(4, .int (nI (b.length + 1))), (8, .int (nI 1)), (6, .int (nI (p + 1))), (7, .int (nI (ub (g p)))), (0, .ref (R 0)), (1, .ref (R 1)), (2, .int (nI f)), (3, .int (nI q)), (5, .int (nI (offs b)))] d_Mo_run2_245 7 rfl (nI_add b.length 1) (by decide) rfl ?_
                            refine j_iload d_Mo_run2_248 1 rfl ?_
                            refine j_nif_ne 256 1 rfl (by omega) d_Mo_run2_250 (by decide) (fun b250 => ?_) (fun b250 => (by first | exact b250.elim | exact absurd b250 (by omega)))
                            refine j_goto (tgt := 351) d_Mo_run2_256 (by decide) ?_
                            refine j_aload_n d_Mo_run2_351 rfl 4 rfl ?_
                            refine j_get F_Mo hM6__R_0_ 11 (by decide) w_954 (Or.inl rfl) rfl d_Mo_run2_352 ?_
                            refine j_aload_n d_Mo_run2_355 rfl 4 rfl ?_
                            refine j_get F_Mo hM6__R_0_ 12 (by decide) w_955 (Or.inl rfl) rfl d_Mo_run2_356 ?_
                            have h1 : am_one g (f + q) p (LM A dp) (LO A as_) b (am_kp g p k) = some (LM A (dp - 1), LO A as_, (true :: b), k) := by unfold am_one; rw [if_pos (by omega)]; unfold a_br; rw [if_neg b218, if_pos (by omega)]; unfold a_enter; rw [if_neg (fun z => z ((offs_low b (by omega)).mpr b184)), if_pos (by rw [LM_len]; omega), g0 (by omega), LM_drop (by omega), am_eqt (z := false) b226, hkp]
                            refine j_iadd d_Mo_run2_359 ?_
                            refine j_eqi (y := nI ((dp - 1) + as_)) (nI_add (dp - 1) as_) ?_
                            refine j_sipush (v := nI 200) d_Mo_run2_360 (by decide) ?_
                            refine j_ncmp_le 368 ((dp - 1) + as_) 200 rfl rfl (by omega) (by omega) d_Mo_run2_363 (by decide) (fun b363 => ?_) (fun b363 => ?_)
                            · skip
                              refine j_goto (tgt := 19) d_Mo_run2_368 (by decide) ?_
                              refine j_lv [4, 5, 6, 7, 0, 8, 2] rfl ?_
                              have h3 : dp - 1 + as_ ≤ 200 := by omega
                              have h2 : (true :: b).length ≤ k ∧ k ≤ 201 := by first | omega | (simp only [List.length_cons]; omega) | (simp only [List.length_cons] at *; omega)
                              exact ih M6 (upd fk b.length (nI 1)) (dp - 1) as_ k A (true :: b) (p + 1) (by omega) JM6 hM6__R_1_ hM6__R_10_ ⟨(by rw [pk_us]; rfl), TK_up (Nat.le_refl _) htk⟩ ((fr.trans fM4.z).trans (RFz.up eM6)) h3 h2 (by omega) (by omega) (by rw [show (p + 1) = p + cd_car g p (f + q) + 1 by omega]; exact (am_run_s (by omega) (am_step_t (m := LM A dp) (o := LO A as_) (b := b) (k := k) (by omega) (by omega) h1 (by show (LM _ _).length + (LO _ _).length ≤ 200; rw [LM_len, LO_len]; exact h3))).symm.trans he)
                            · skip
                              refine j_iconst (v := nI 0) d_Mo_run2_366 (by decide) ?_
                              exact j_zret hκ rfl (by first | exact Or.inl rfl | exact Or.inr rfl) (by omega) (by omega) d_Mo_run2_367 (RP.f JM6 hM6__R_1_ hM6__R_10_ ((fr.trans fM4.z).trans (RFz.up eM6)) (he.symm.trans (am_run_n (by omega) (am_step_f (m := LM A dp) (o := LO A as_) (b := b) (k := k) (Or.inr (Or.inr (fun s hs => by rw [h1] at hs; cases hs; show 200 < (LM _ _).length + (LO _ _).length; rw [LM_len, LO_len]; omega)))))))
                        · skip
                          refine j_iconst (v := nI 1) d_Mo_run2_221 (by decide) ?_
                          refine j_goto (tgt := 226) d_Mo_run2_222 (by decide) ?_
                          refine j_icmp_ne 233 d_Mo_run2_226 (by decide) (fun b226 => ?_) (fun b226 => ?_)
                          · skip
                            refine j_iconst (v := nI 0) d_Mo_run2_233 (by decide) ?_
                            refine j_istore [(8, .int (nI 0)), (6, .int (nI (p + 1))), (7, .int (nI (ub (g p)))), (0, .ref (R 0)), (1, .ref (R 1)), (2, .int (nI f)), (3, .int (nI q)), (4, .int (nI b.length)), (5, .int (nI (offs b)))] d_Mo_run2_234 (by decide) rfl ?_
                            refine j_aload_n d_Mo_run2_236 rfl 3 rfl ?_
                            refine j_get F_Mo hM4__R_0_ 14 (by decide) w_957 (Or.inl rfl) rfl d_Mo_run2_237 ?_
                            refine j_iload d_Mo_run2_240 7 rfl ?_
                            refine j_iload d_Mo_run2_242 0 rfl ?_
                            refine j_zast (y := nI 0) hM4__R_10_ b.length rfl (by omega) (by omega) rfl d_Mo_run2_244 ?_
                            generalize eM7 : mp_up M4 (R 10) (mp_z E 1001 (upd fk b.length (nI 0))) = M7
                            have hM7__R_1_ : M7 (R 1) = some (mp_b E 1000 g) := by rw [← eM7, mp_n (hR.ne (by decide) (by decide) (by decide))]; exact hM4__R_1_
                            have hM7__R_0_ : M7 (R 0) = some (mp_o 7 [.ref (R 1), .int (nI rows), .int thr, .ref (R 2), .ref (R 3), .ref (R 4), .ref (R 5), .ref (R 6), .ref (R 7), .ref (R 8), .ref (R 9), .int (nI (dp - 1)), .int (nI as_), .int (nI k), .ref (R 10)]) := by rw [← eM7, mp_n (hR.ne (by decide) (by decide) (by decide))]; exact hM4__R_0_
                            have hM7__R_10_ : M7 (R 10) = some (mp_z E 1001 (upd fk b.length (nI 0))) := by rw [← eM7]; exact mp_s
                            have JM7 : RI E M7 R rows thr (dp - 1) as_ k A := JM4.tk hR eM7
                            refine j_iinc (v := nI (b.length + 1)) [(4, .int (nI (b.length + 1))), (8, .int (nI 0)), (6, .int (nI (p + 1))), (7, .int (nI (ub (g p)))), (0, .ref (R 0)), (1, .ref (R 1)), (2, .int (nI f)), (3, .int (nI q)), (5, .int (nI (offs b)))] d_Mo_run2_245 7 rfl (nI_add b.length 1) (by decide) rfl ?_
                            refine j_iload d_Mo_run2_248 1 rfl ?_
                            refine j_nif_ne 256 0 rfl (by omega) d_Mo_run2_250 (by decide) (fun b250 => (by first | exact b250.elim | exact absurd b250 (by omega))) (fun b250 => ?_)
                            refine j_iinc (v := nI ((offs b) + 1)) [(5, .int (nI ((offs b) + 1))), (4, .int (nI (b.length + 1))), (8, .int (nI 0)), (6, .int (nI (p + 1))), (7, .int (nI (ub (g p)))), (0, .ref (R 0)), (1, .ref (R 1)), (2, .int (nI f)), (3, .int (nI q))] d_Mo_run2_253 8 rfl (nI_add (offs b) 1) (by decide) rfl ?_
                            refine j_goto (tgt := 351) d_Mo_run2_256 (by decide) ?_
                            refine j_aload_n d_Mo_run2_351 rfl 5 rfl ?_
                            refine j_get F_Mo hM7__R_0_ 11 (by decide) w_954 (Or.inl rfl) rfl d_Mo_run2_352 ?_
                            refine j_aload_n d_Mo_run2_355 rfl 5 rfl ?_
                            refine j_get F_Mo hM7__R_0_ 12 (by decide) w_955 (Or.inl rfl) rfl d_Mo_run2_356 ?_
                            have h1 : am_one g (f + q) p (LM A dp) (LO A as_) b (am_kp g p k) = some (LM A (dp - 1), LO A as_, (false :: b), k) := by unfold am_one; rw [if_pos (by omega)]; unfold a_br; rw [if_pos b218]; unfold a_enter; rw [if_neg (fun z => z ((offs_low b (by omega)).mpr b184)), if_pos (by rw [LM_len]; omega), g0 (by omega), LM_drop (by omega), am_eqf (z := true) b226, hkp]
                            refine j_iadd d_Mo_run2_359 ?_
                            refine j_eqi (y := nI ((dp - 1) + as_)) (nI_add (dp - 1) as_) ?_
                            refine j_sipush (v := nI 200) d_Mo_run2_360 (by decide) ?_
                            refine j_ncmp_le 368 ((dp - 1) + as_) 200 rfl rfl (by omega) (by omega) d_Mo_run2_363 (by decide) (fun b363 => ?_) (fun b363 => ?_)
                            · skip
                              refine j_goto (tgt := 19) d_Mo_run2_368 (by decide) ?_
                              refine j_lv [5, 6, 7, 8, 1, 0, 3] rfl ?_
                              have h3 : dp - 1 + as_ ≤ 200 := by omega
                              have h2 : (false :: b).length ≤ k ∧ k ≤ 201 := by first | omega | (simp only [List.length_cons]; omega) | (simp only [List.length_cons] at *; omega)
                              exact ih M7 (upd fk b.length (nI 0)) (dp - 1) as_ k A (false :: b) (p + 1) (by omega) JM7 hM7__R_1_ hM7__R_10_ ⟨(by rw [pk_us]; rfl), TK_up (Nat.le_refl _) htk⟩ ((fr.trans fM4.z).trans (RFz.up eM7)) h3 h2 (by omega) (by omega) (by rw [show (p + 1) = p + cd_car g p (f + q) + 1 by omega]; exact (am_run_s (by omega) (am_step_t (m := LM A dp) (o := LO A as_) (b := b) (k := k) (by omega) (by omega) h1 (by show (LM _ _).length + (LO _ _).length ≤ 200; rw [LM_len, LO_len]; exact h3))).symm.trans he)
                            · skip
                              refine j_iconst (v := nI 0) d_Mo_run2_366 (by decide) ?_
                              exact j_zret hκ rfl (by first | exact Or.inl rfl | exact Or.inr rfl) (by omega) (by omega) d_Mo_run2_367 (RP.f JM7 hM7__R_1_ hM7__R_10_ ((fr.trans fM4.z).trans (RFz.up eM7)) (he.symm.trans (am_run_n (by omega) (am_step_f (m := LM A dp) (o := LO A as_) (b := b) (k := k) (Or.inr (Or.inr (fun s hs => by rw [h1] at hs; cases hs; show 200 < (LM _ _).length + (LO _ _).length; rw [LM_len, LO_len]; omega)))))))
                          · skip
                            refine j_iconst (v := nI 1) d_Mo_run2_229 (by decide) ?_
                            refine j_goto (tgt := 234) d_Mo_run2_230 (by decide) ?_
                            refine j_istore [(8, .int (nI 1)), (6, .int (nI (p + 1))), (7, .int (nI (ub (g p)))), (0, .ref (R 0)), (1, .ref (R 1)), (2, .int (nI f)), (3, .int (nI q)), (4, .int (nI b.length)), (5, .int (nI (offs b)))] d_Mo_run2_234 (by decide) rfl ?_
                            refine j_aload_n d_Mo_run2_236 rfl 3 rfl ?_
                            refine j_get F_Mo hM4__R_0_ 14 (by decide) w_957 (Or.inl rfl) rfl d_Mo_run2_237 ?_
                            refine j_iload d_Mo_run2_240 7 rfl ?_
                            refine j_iload d_Mo_run2_242 0 rfl ?_
                            refine j_zast (y := nI 1) hM4__R_10_ b.length rfl (by omega) (by omega) rfl d_Mo_run2_244 ?_
                            generalize eM8 : mp_up M4 (R 10) (mp_z E 1001 (upd fk b.length (nI 1))) = M8
                            have hM8__R_1_ : M8 (R 1) = some (mp_b E 1000 g) := by rw [← eM8, mp_n (hR.ne (by decide) (by decide) (by decide))]; exact hM4__R_1_
                            have hM8__R_0_ : M8 (R 0) = some (mp_o 7 [.ref (R 1), .int (nI rows), .int thr, .ref (R 2), .ref (R 3), .ref (R 4), .ref (R 5), .ref (R 6), .ref (R 7), .ref (R 8), .ref (R 9), .int (nI (dp - 1)), .int (nI as_), .int (nI k), .ref (R 10)]) := by rw [← eM8, mp_n (hR.ne (by decide) (by decide) (by decide))]; exact hM4__R_0_
                            have hM8__R_10_ : M8 (R 10) = some (mp_z E 1001 (upd fk b.length (nI 1))) := by rw [← eM8]; exact mp_s
                            have JM8 : RI E M8 R rows thr (dp - 1) as_ k A := JM4.tk hR eM8
                            refine j_iinc (v := nI (b.length + 1)) [(4, .int (nI (b.length + 1))), (8, .int (nI 1)), (6, .int (nI (p + 1))), (7, .int (nI (ub (g p)))), (0, .ref (R 0)), (1, .ref (R 1)), (2, .int (nI f)), (3, .int (nI q)), (5, .int (nI (offs b)))] d_Mo_run2_245 7 rfl (nI_add b.length 1) (by decide) rfl ?_
                            refine j_iload d_Mo_run2_248 1 rfl ?_
                            refine j_nif_ne 256 1 rfl (by omega) d_Mo_run2_250 (by decide) (fun b250 => ?_) (fun b250 => (by first | exact b250.elim | exact absurd b250 (by omega)))
                            refine j_goto (tgt := 351) d_Mo_run2_256 (by decide) ?_
                            refine j_aload_n d_Mo_run2_351 rfl 4 rfl ?_
                            refine j_get F_Mo hM8__R_0_ 11 (by decide) w_954 (Or.inl rfl) rfl d_Mo_run2_352 ?_
                            refine j_aload_n d_Mo_run2_355 rfl 4 rfl ?_
                            refine j_get F_Mo hM8__R_0_ 12 (by decide) w_955 (Or.inl rfl) rfl d_Mo_run2_356 ?_
                            have h1 : am_one g (f + q) p (LM A dp) (LO A as_) b (am_kp g p k) = some (LM A (dp - 1), LO A as_, (true :: b), k) := by unfold am_one; rw [if_pos (by omega)]; unfold a_br; rw [if_pos b218]; unfold a_enter; rw [if_neg (fun z => z ((offs_low b (by omega)).mpr b184)), if_pos (by rw [LM_len]; omega), g0 (by omega), LM_drop (by omega), am_eqt (z := true) b226, hkp]
                            refine j_iadd d_Mo_run2_359 ?_
                            refine j_eqi (y := nI ((dp - 1) + as_)) (nI_add (dp - 1) as_) ?_
                            refine j_sipush (v := nI 200) d_Mo_run2_360 (by decide) ?_
                            refine j_ncmp_le 368 ((dp - 1) + as_) 200 rfl rfl (by omega) (by omega) d_Mo_run2_363 (by decide) (fun b363 => ?_) (fun b363 => ?_)
                            · skip
                              refine j_goto (tgt := 19) d_Mo_run2_368 (by decide) ?_
                              refine j_lv [4, 5, 6, 7, 0, 8, 2] rfl ?_
                              have h3 : dp - 1 + as_ ≤ 200 := by omega
                              have h2 : (true :: b).length ≤ k ∧ k ≤ 201 := by first | omega | (simp only [List.length_cons]; omega) | (simp only [List.length_cons] at *; omega)
                              exact ih M8 (upd fk b.length (nI 1)) (dp - 1) as_ k A (true :: b) (p + 1) (by omega) JM8 hM8__R_1_ hM8__R_10_ ⟨(by rw [pk_us]; rfl), TK_up (Nat.le_refl _) htk⟩ ((fr.trans fM4.z).trans (RFz.up eM8)) h3 h2 (by omega) (by omega) (by rw [show (p + 1) = p + cd_car g p (f + q) + 1 by omega]; exact (am_run_s (by omega) (am_step_t (m := LM A dp) (o := LO A as_) (b := b) (k := k) (by omega) (by omega) h1 (by show (LM _ _).length + (LO _ _).length ≤ 200; rw [LM_len, LO_len]; exact h3))).symm.trans he)
                            · skip
                              refine j_iconst (v := nI 0) d_Mo_run2_366 (by decide) ?_
                              exact j_zret hκ rfl (by first | exact Or.inl rfl | exact Or.inr rfl) (by omega) (by omega) d_Mo_run2_367 (RP.f JM8 hM8__R_1_ hM8__R_10_ ((fr.trans fM4.z).trans (RFz.up eM8)) (he.symm.trans (am_run_n (by omega) (am_step_f (m := LM A dp) (o := LO A as_) (b := b) (k := k) (Or.inr (Or.inr (fun s hs => by rw [h1] at hs; cases hs; show 200 < (LM _ _).length + (LO _ _).length; rw [LM_len, LO_len]; omega)))))))
                      · skip
                        refine j_iconst (v := nI 0) d_Mo_run2_194 (by decide) ?_
                        exact j_zret hκ rfl (by first | exact Or.inl rfl | exact Or.inr rfl) (by omega) (by omega) d_Mo_run2_195 (RP.f hI hr1 hr10 fr (he.symm.trans (am_run_n (by omega) (am_step_f (m := LM A dp) (o := LO A as_) (b := b) (k := k) (Or.inr (Or.inr (fun s hs => by exfalso; rcases (show ub (g p) = 99 ∨ ub (g p) = 100 by omega) with h9 | h9 <;> (unfold am_one at hs; rw [if_pos (by omega)] at hs; unfold a_br at hs; (first | rw [if_pos (show ub (g p) = 99 from h9)] at hs | rw [if_neg (show ¬ ub (g p) = 99 by omega), if_pos h9] at hs); unfold a_enter at hs; rw [if_neg (fun z => z ((offs_low b (by omega)).mpr b184)), if_neg (by rw [LM_len]; omega)] at hs; cases hs))))))))
        · skip
          have hkp : am_kp g p k = k + 1 := by unfold am_kp; rw [if_pos (by omega)]
          refine j_aload_n d_Mo_run2_125 rfl 2 rfl ?_
          refine j_dup d_Mo_run2_126 rfl ?_
          refine j_get F_Mo hI.1 13 (by decide) w_956 (Or.inl rfl) rfl d_Mo_run2_127 ?_
          refine j_iconst (v := nI 1) d_Mo_run2_130 (by decide) ?_
          refine j_iadd d_Mo_run2_131 ?_
          refine j_eqi (y := nI (k + 1)) (nI_add k 1) ?_
          refine j_dup_x1 d_Mo_run2_132 rfl rfl ?_
          refine j_put F_Mo hI.1 13 (by decide) w_956 (Or.inl rfl) rfl rfl rfl (Nat.le_of_ble_eq_true rfl) d_Mo_run2_133 ?_
          show mp_J Γ m_Mo_run2 E κ (mp_up Mx (R 0) (mp_o 7 [.ref (R 1), .int (nI rows), .int thr, .ref (R 2), .ref (R 3), .ref (R 4), .ref (R 5), .ref (R 6), .ref (R 7), .ref (R 8), .ref (R 9), .int (nI dp), .int (nI as_), .int (nI (k + 1)), .ref (R 10)])) [(6, .int (nI (p + 1))), (7, .int (nI (ub (g p)))), (0, .ref (R 0)), (1, .ref (R 1)), (2, .int (nI f)), (3, .int (nI q)), (4, .int (nI b.length)), (5, .int (nI (offs b)))] 136 [.int (nI (k + 1))] 0 0
          generalize eM9 : mp_up Mx (R 0) (mp_o 7 [.ref (R 1), .int (nI rows), .int thr, .ref (R 2), .ref (R 3), .ref (R 4), .ref (R 5), .ref (R 6), .ref (R 7), .ref (R 8), .ref (R 9), .int (nI dp), .int (nI as_), .int (nI (k + 1)), .ref (R 10)]) = M9
          have hM9__R_1_ : M9 (R 1) = some (mp_b E 1000 g) := by rw [← eM9, mp_n (hR.ne (by decide) (by decide) (by decide))]; exact hr1
          have hM9__R_10_ : M9 (R 10) = some (mp_z E 1001 fk) := by rw [← eM9, mp_n (hR.ne (by decide) (by decide) (by decide))]; exact hr10
          have hM9__R_0_ : M9 (R 0) = some (mp_o 7 [.ref (R 1), .int (nI rows), .int thr, .ref (R 2), .ref (R 3), .ref (R 4), .ref (R 5), .ref (R 6), .ref (R 7), .ref (R 8), .ref (R 9), .int (nI dp), .int (nI as_), .int (nI (k + 1)), .ref (R 10)]) := by rw [← eM9]; exact mp_s
          have JM9 : RI E M9 R rows thr dp as_ (k + 1) A := hI.set hR eM9
          have fM9 : RFr R Mx M9 := RFr.s0 eM9
          refine j_sipush (v := nI 201) d_Mo_run2_136 (by decide) ?_
          refine j_ncmp_le 144 (k + 1) 201 rfl rfl (by omega) (by omega) d_Mo_run2_139 (by decide) (fun b139 => ?_) (fun b139 => ?_)
          · skip
            refine j_iload d_Mo_run2_144 1 rfl ?_
            refine j_bipush (v := nI 99) d_Mo_run2_146 (by decide) ?_
            refine j_ncmp_lt 335 (ub (g p)) 99 rfl rfl (by omega) (by omega) d_Mo_run2_148 (by decide) (fun b148 => ?_) (fun b148 => ?_)
            · skip
              refine j_iload d_Mo_run2_335 7 rfl ?_
              refine j_nif_ne 351 (offs b) rfl (by omega) d_Mo_run2_337 (by decide) (fun b337 => ?_) (fun b337 => ?_)
              · skip
                refine j_aload_n d_Mo_run2_351 rfl 2 rfl ?_
                refine j_get F_Mo hM9__R_0_ 11 (by decide) w_954 (Or.inl rfl) rfl d_Mo_run2_352 ?_
                refine j_aload_n d_Mo_run2_355 rfl 2 rfl ?_
                refine j_get F_Mo hM9__R_0_ 12 (by decide) w_955 (Or.inl rfl) rfl d_Mo_run2_356 ?_
                have h1 : am_one g (f + q) p (LM A dp) (LO A as_) b (am_kp g p k) = some (LM A dp, LO A as_, b, k + 1) := by unfold am_one; rw [if_neg (by omega), if_neg (fun z => b337 ((offs_low b (by omega)).mp z)), hkp]
                refine j_iadd d_Mo_run2_359 ?_
                refine j_eqi (y := nI (dp + as_)) (nI_add dp as_) ?_
                refine j_sipush (v := nI 200) d_Mo_run2_360 (by decide) ?_
                refine j_ncmp_le 368 (dp + as_) 200 rfl rfl (by omega) (by omega) d_Mo_run2_363 (by decide) (fun b363 => ?_) (fun b363 => ?_)
                · skip
                  refine j_goto (tgt := 19) d_Mo_run2_368 (by decide) ?_
                  refine j_lv [2, 3, 4, 5, 6, 7, 0] rfl ?_
                  have h3 : dp + as_ ≤ 200 := by omega
                  have h2 : b.length ≤ k + 1 ∧ k + 1 ≤ 201 := by first | omega | (simp only [List.length_cons]; omega) | (simp only [List.length_cons] at *; omega)
                  exact ih M9 fk dp as_ (k + 1) A b (p + 1) (by omega) JM9 hM9__R_1_ hM9__R_10_ htk (fr.trans fM9.z) h3 h2 (by omega) (by omega) (by rw [show (p + 1) = p + cd_car g p (f + q) + 1 by omega]; exact (am_run_s (by omega) (am_step_t (m := LM A dp) (o := LO A as_) (b := b) (k := k) (by omega) (by omega) h1 (by show (LM _ _).length + (LO _ _).length ≤ 200; rw [LM_len, LO_len]; exact h3))).symm.trans he)
                · skip
                  refine j_iconst (v := nI 0) d_Mo_run2_366 (by decide) ?_
                  exact j_zret hκ rfl (by first | exact Or.inl rfl | exact Or.inr rfl) (by omega) (by omega) d_Mo_run2_367 (RP.f JM9 hM9__R_1_ hM9__R_10_ (fr.trans fM9.z) (he.symm.trans (am_run_n (by omega) (am_step_f (m := LM A dp) (o := LO A as_) (b := b) (k := k) (Or.inr (Or.inr (fun s hs => by rw [h1] at hs; cases hs; show 200 < (LM _ _).length + (LO _ _).length; rw [LM_len, LO_len]; omega)))))))
              · skip
                refine j_aload_n d_Mo_run2_340 rfl 2 rfl ?_
                refine j_iload d_Mo_run2_341 1 rfl ?_
                refine j_callV (As := [.int (nI (ub (g p)))]) (rest := []) (c_Mo_isDone Γ.l E M9 R rows thr dp as_ (k + 1) A b (ub (g p)) JM9 hR (by omega) (by omega) (by omega)) Y_Mo_isDone w_1027 w_1029 ws_32 hM9__R_0_ rfl rfl rfl (Nat.le_of_ble_eq_true rfl) (by omega) (by omega) (by omega) d_Mo_run2_343 (fun v343 N343 p343 => ?_)
                obtain ⟨w343, d343, a343, k343, B343, rfl, I343, f343, g343, T343, F343⟩ := p343
                have k343__R_1_ : N343 (R 1) = some (mp_b E 1000 g) := (f343.k hR (by decide) (by decide) (by decide)).trans hM9__R_1_
                have k343__R_10_ : N343 (R 10) = some (mp_z E 1001 fk) := (f343.k hR (by decide) (by decide) (by decide)).trans hM9__R_10_
                show mp_J Γ m_Mo_run2 E κ N343 [(6, .int (nI (p + 1))), (7, .int (nI (ub (g p)))), (0, .ref (R 0)), (1, .ref (R 1)), (2, .int (nI f)), (3, .int (nI q)), (4, .int (nI b.length)), (5, .int (nI (offs b)))] 346 [.int (tf w343)] 0 0
                refine j_tif_ne 351 d_Mo_run2_346 (by decide) (fun b346 => ?_) (fun b346 => ?_)
                · skip
                  refine j_aload_n d_Mo_run2_351 rfl 2 rfl ?_
                  refine j_get F_Mo I343.1 11 (by decide) w_954 (Or.inl rfl) rfl d_Mo_run2_352 ?_
                  refine j_aload_n d_Mo_run2_355 rfl 2 rfl ?_
                  refine j_get F_Mo I343.1 12 (by decide) w_955 (Or.inl rfl) rfl d_Mo_run2_356 ?_
                  have h1 : am_one g (f + q) p (LM A dp) (LO A as_) b (am_kp g p k) = some (LM B343 d343, LO B343 a343, b, k343) := by unfold am_one; rw [if_neg (by omega), if_pos ((offs_low b (by omega)).mpr b337), if_neg (by omega), hkp]; exact T343 b346
                  refine j_iadd d_Mo_run2_359 ?_
                  refine j_eqi (y := nI (d343 + a343)) (nI_add d343 a343) ?_
                  refine j_sipush (v := nI 200) d_Mo_run2_360 (by decide) ?_
                  refine j_ncmp_le 368 (d343 + a343) 200 rfl rfl (by omega) (by omega) d_Mo_run2_363 (by decide) (fun b363 => ?_) (fun b363 => ?_)
                  · skip
                    refine j_goto (tgt := 19) d_Mo_run2_368 (by decide) ?_
                    refine j_lv [2, 3, 4, 5, 6, 7, 0] rfl ?_
                    have h3 : d343 + a343 ≤ 200 := by omega
                    have h9 := am_op_bk (T343 b346)
                    unfold am_bk at h9
                    simp only at h9
                    have h2 : b.length ≤ k343 ∧ k343 ≤ 201 := by first | omega | (simp only [List.length_cons]; omega) | (simp only [List.length_cons] at *; omega)
                    exact ih N343 fk d343 a343 k343 B343 b (p + 1) (by omega) I343 k343__R_1_ k343__R_10_ htk ((fr.trans fM9.z).trans f343.z) h3 h2 (by omega) (by omega) (by rw [show (p + 1) = p + cd_car g p (f + q) + 1 by omega]; exact (am_run_s (by omega) (am_step_t (m := LM A dp) (o := LO A as_) (b := b) (k := k) (by omega) (by omega) h1 (by show (LM _ _).length + (LO _ _).length ≤ 200; rw [LM_len, LO_len]; exact h3))).symm.trans he)
                  · skip
                    refine j_iconst (v := nI 0) d_Mo_run2_366 (by decide) ?_
                    exact j_zret hκ rfl (by first | exact Or.inl rfl | exact Or.inr rfl) (by omega) (by omega) d_Mo_run2_367 (RP.f I343 k343__R_1_ k343__R_10_ ((fr.trans fM9.z).trans f343.z) (he.symm.trans (am_run_n (by omega) (am_step_f (m := LM A dp) (o := LO A as_) (b := b) (k := k) (Or.inr (Or.inr (fun s hs => by rw [h1] at hs; cases hs; show 200 < (LM _ _).length + (LO _ _).length; rw [LM_len, LO_len]; omega)))))))
                · skip
                  refine j_iconst (v := nI 0) d_Mo_run2_349 (by decide) ?_
                  exact j_zret hκ rfl (by first | exact Or.inl rfl | exact Or.inr rfl) (by omega) (by omega) d_Mo_run2_350 (RP.f I343 k343__R_1_ k343__R_10_ ((fr.trans fM9.z).trans f343.z) (he.symm.trans (am_run_n (by omega) (am_step_f (m := LM A dp) (o := LO A as_) (b := b) (k := k) (Or.inr (Or.inr (fun s hs => by exfalso; unfold am_one at hs; rw [if_neg (by omega), if_pos ((offs_low b (by omega)).mpr b337), if_neg (by omega), hkp, F343 b346] at hs; cases hs)))))))
            · skip
              refine j_iload d_Mo_run2_151 1 rfl ?_
              refine j_bipush (v := nI 104) d_Mo_run2_153 (by decide) ?_
              refine j_ncmp_gt 335 (ub (g p)) 104 rfl rfl (by omega) (by omega) d_Mo_run2_155 (by decide) (fun b155 => ?_) (fun b155 => ?_)
              · skip
                refine j_iload d_Mo_run2_335 7 rfl ?_
                refine j_nif_ne 351 (offs b) rfl (by omega) d_Mo_run2_337 (by decide) (fun b337 => ?_) (fun b337 => ?_)
                · skip
                  refine j_aload_n d_Mo_run2_351 rfl 2 rfl ?_
                  refine j_get F_Mo hM9__R_0_ 11 (by decide) w_954 (Or.inl rfl) rfl d_Mo_run2_352 ?_
                  refine j_aload_n d_Mo_run2_355 rfl 2 rfl ?_
                  refine j_get F_Mo hM9__R_0_ 12 (by decide) w_955 (Or.inl rfl) rfl d_Mo_run2_356 ?_
                  have h1 : am_one g (f + q) p (LM A dp) (LO A as_) b (am_kp g p k) = some (LM A dp, LO A as_, b, k + 1) := by unfold am_one; rw [if_neg (by omega), if_neg (fun z => b337 ((offs_low b (by omega)).mp z)), hkp]
                  refine j_iadd d_Mo_run2_359 ?_
                  refine j_eqi (y := nI (dp + as_)) (nI_add dp as_) ?_
                  refine j_sipush (v := nI 200) d_Mo_run2_360 (by decide) ?_
                  refine j_ncmp_le 368 (dp + as_) 200 rfl rfl (by omega) (by omega) d_Mo_run2_363 (by decide) (fun b363 => ?_) (fun b363 => ?_)
                  · skip
                    refine j_goto (tgt := 19) d_Mo_run2_368 (by decide) ?_
                    refine j_lv [2, 3, 4, 5, 6, 7, 0] rfl ?_
                    have h3 : dp + as_ ≤ 200 := by omega
                    have h2 : b.length ≤ k + 1 ∧ k + 1 ≤ 201 := by first | omega | (simp only [List.length_cons]; omega) | (simp only [List.length_cons] at *; omega)
                    exact ih M9 fk dp as_ (k + 1) A b (p + 1) (by omega) JM9 hM9__R_1_ hM9__R_10_ htk (fr.trans fM9.z) h3 h2 (by omega) (by omega) (by rw [show (p + 1) = p + cd_car g p (f + q) + 1 by omega]; exact (am_run_s (by omega) (am_step_t (m := LM A dp) (o := LO A as_) (b := b) (k := k) (by omega) (by omega) h1 (by show (LM _ _).length + (LO _ _).length ≤ 200; rw [LM_len, LO_len]; exact h3))).symm.trans he)
                  · skip
                    refine j_iconst (v := nI 0) d_Mo_run2_366 (by decide) ?_
                    exact j_zret hκ rfl (by first | exact Or.inl rfl | exact Or.inr rfl) (by omega) (by omega) d_Mo_run2_367 (RP.f JM9 hM9__R_1_ hM9__R_10_ (fr.trans fM9.z) (he.symm.trans (am_run_n (by omega) (am_step_f (m := LM A dp) (o := LO A as_) (b := b) (k := k) (Or.inr (Or.inr (fun s hs => by rw [h1] at hs; cases hs; show 200 < (LM _ _).length + (LO _ _).length; rw [LM_len, LO_len]; omega)))))))
                · skip
                  refine j_aload_n d_Mo_run2_340 rfl 2 rfl ?_
                  refine j_iload d_Mo_run2_341 1 rfl ?_
                  refine j_callV (As := [.int (nI (ub (g p)))]) (rest := []) (c_Mo_isDone Γ.l E M9 R rows thr dp as_ (k + 1) A b (ub (g p)) JM9 hR (by omega) (by omega) (by omega)) Y_Mo_isDone w_1027 w_1029 ws_32 hM9__R_0_ rfl rfl rfl (Nat.le_of_ble_eq_true rfl) (by omega) (by omega) (by omega) d_Mo_run2_343 (fun v343 N343 p343 => ?_)
                  obtain ⟨w343, d343, a343, k343, B343, rfl, I343, f343, g343, T343, F343⟩ := p343
                  have k343__R_1_ : N343 (R 1) = some (mp_b E 1000 g) := (f343.k hR (by decide) (by decide) (by decide)).trans hM9__R_1_
                  have k343__R_10_ : N343 (R 10) = some (mp_z E 1001 fk) := (f343.k hR (by decide) (by decide) (by decide)).trans hM9__R_10_
                  show mp_J Γ m_Mo_run2 E κ N343 [(6, .int (nI (p + 1))), (7, .int (nI (ub (g p)))), (0, .ref (R 0)), (1, .ref (R 1)), (2, .int (nI f)), (3, .int (nI q)), (4, .int (nI b.length)), (5, .int (nI (offs b)))] 346 [.int (tf w343)] 0 0
                  refine j_tif_ne 351 d_Mo_run2_346 (by decide) (fun b346 => ?_) (fun b346 => ?_)
                  · skip
                    refine j_aload_n d_Mo_run2_351 rfl 2 rfl ?_
                    refine j_get F_Mo I343.1 11 (by decide) w_954 (Or.inl rfl) rfl d_Mo_run2_352 ?_
                    refine j_aload_n d_Mo_run2_355 rfl 2 rfl ?_
                    refine j_get F_Mo I343.1 12 (by decide) w_955 (Or.inl rfl) rfl d_Mo_run2_356 ?_
                    have h1 : am_one g (f + q) p (LM A dp) (LO A as_) b (am_kp g p k) = some (LM B343 d343, LO B343 a343, b, k343) := by unfold am_one; rw [if_neg (by omega), if_pos ((offs_low b (by omega)).mpr b337), if_neg (by omega), hkp]; exact T343 b346
                    refine j_iadd d_Mo_run2_359 ?_
                    refine j_eqi (y := nI (d343 + a343)) (nI_add d343 a343) ?_
                    refine j_sipush (v := nI 200) d_Mo_run2_360 (by decide) ?_
                    refine j_ncmp_le 368 (d343 + a343) 200 rfl rfl (by omega) (by omega) d_Mo_run2_363 (by decide) (fun b363 => ?_) (fun b363 => ?_)
                    · skip
                      refine j_goto (tgt := 19) d_Mo_run2_368 (by decide) ?_
                      refine j_lv [2, 3, 4, 5, 6, 7, 0] rfl ?_
                      have h3 : d343 + a343 ≤ 200 := by omega
                      have h9 := am_op_bk (T343 b346)
                      unfold am_bk at h9
                      simp only at h9
                      have h2 : b.length ≤ k343 ∧ k343 ≤ 201 := by first | omega | (simp only [List.length_cons]; omega) | (simp only [List.length_cons] at *; omega)
                      exact ih N343 fk d343 a343 k343 B343 b (p + 1) (by omega) I343 k343__R_1_ k343__R_10_ htk ((fr.trans fM9.z).trans f343.z) h3 h2 (by omega) (by omega) (by rw [show (p + 1) = p + cd_car g p (f + q) + 1 by omega]; exact (am_run_s (by omega) (am_step_t (m := LM A dp) (o := LO A as_) (b := b) (k := k) (by omega) (by omega) h1 (by show (LM _ _).length + (LO _ _).length ≤ 200; rw [LM_len, LO_len]; exact h3))).symm.trans he)
                    · skip
                      refine j_iconst (v := nI 0) d_Mo_run2_366 (by decide) ?_
                      exact j_zret hκ rfl (by first | exact Or.inl rfl | exact Or.inr rfl) (by omega) (by omega) d_Mo_run2_367 (RP.f I343 k343__R_1_ k343__R_10_ ((fr.trans fM9.z).trans f343.z) (he.symm.trans (am_run_n (by omega) (am_step_f (m := LM A dp) (o := LO A as_) (b := b) (k := k) (Or.inr (Or.inr (fun s hs => by rw [h1] at hs; cases hs; show 200 < (LM _ _).length + (LO _ _).length; rw [LM_len, LO_len]; omega)))))))
                  · skip
                    refine j_iconst (v := nI 0) d_Mo_run2_349 (by decide) ?_
                    exact j_zret hκ rfl (by first | exact Or.inl rfl | exact Or.inr rfl) (by omega) (by omega) d_Mo_run2_350 (RP.f I343 k343__R_1_ k343__R_10_ ((fr.trans fM9.z).trans f343.z) (he.symm.trans (am_run_n (by omega) (am_step_f (m := LM A dp) (o := LO A as_) (b := b) (k := k) (Or.inr (Or.inr (fun s hs => by exfalso; unfold am_one at hs; rw [if_neg (by omega), if_pos ((offs_low b (by omega)).mpr b337), if_neg (by omega), hkp, F343 b346] at hs; cases hs)))))))
              · skip
                refine j_iload d_Mo_run2_158 1 rfl ?_
                refine j_bipush (v := nI 101) d_Mo_run2_160 (by decide) ?_
                refine j_ncmp_eq 335 (ub (g p)) 101 rfl rfl (by omega) (by omega) d_Mo_run2_162 (by decide) (fun b162 => ?_) (fun b162 => ?_)
                · skip
                  refine j_iload d_Mo_run2_335 7 rfl ?_
                  refine j_nif_ne 351 (offs b) rfl (by omega) d_Mo_run2_337 (by decide) (fun b337 => ?_) (fun b337 => ?_)
                  · skip
                    refine j_aload_n d_Mo_run2_351 rfl 2 rfl ?_
                    refine j_get F_Mo hM9__R_0_ 11 (by decide) w_954 (Or.inl rfl) rfl d_Mo_run2_352 ?_
                    refine j_aload_n d_Mo_run2_355 rfl 2 rfl ?_
                    refine j_get F_Mo hM9__R_0_ 12 (by decide) w_955 (Or.inl rfl) rfl d_Mo_run2_356 ?_
                    have h1 : am_one g (f + q) p (LM A dp) (LO A as_) b (am_kp g p k) = some (LM A dp, LO A as_, b, k + 1) := by unfold am_one; rw [if_neg (by omega), if_neg (fun z => b337 ((offs_low b (by omega)).mp z)), hkp]
                    refine j_iadd d_Mo_run2_359 ?_
                    refine j_eqi (y := nI (dp + as_)) (nI_add dp as_) ?_
                    refine j_sipush (v := nI 200) d_Mo_run2_360 (by decide) ?_
                    refine j_ncmp_le 368 (dp + as_) 200 rfl rfl (by omega) (by omega) d_Mo_run2_363 (by decide) (fun b363 => ?_) (fun b363 => ?_)
                    · skip
                      refine j_goto (tgt := 19) d_Mo_run2_368 (by decide) ?_
                      refine j_lv [2, 3, 4, 5, 6, 7, 0] rfl ?_
                      have h3 : dp + as_ ≤ 200 := by omega
                      have h2 : b.length ≤ k + 1 ∧ k + 1 ≤ 201 := by first | omega | (simp only [List.length_cons]; omega) | (simp only [List.length_cons] at *; omega)
                      exact ih M9 fk dp as_ (k + 1) A b (p + 1) (by omega) JM9 hM9__R_1_ hM9__R_10_ htk (fr.trans fM9.z) h3 h2 (by omega) (by omega) (by rw [show (p + 1) = p + cd_car g p (f + q) + 1 by omega]; exact (am_run_s (by omega) (am_step_t (m := LM A dp) (o := LO A as_) (b := b) (k := k) (by omega) (by omega) h1 (by show (LM _ _).length + (LO _ _).length ≤ 200; rw [LM_len, LO_len]; exact h3))).symm.trans he)
                    · skip
                      refine j_iconst (v := nI 0) d_Mo_run2_366 (by decide) ?_
                      exact j_zret hκ rfl (by first | exact Or.inl rfl | exact Or.inr rfl) (by omega) (by omega) d_Mo_run2_367 (RP.f JM9 hM9__R_1_ hM9__R_10_ (fr.trans fM9.z) (he.symm.trans (am_run_n (by omega) (am_step_f (m := LM A dp) (o := LO A as_) (b := b) (k := k) (Or.inr (Or.inr (fun s hs => by rw [h1] at hs; cases hs; show 200 < (LM _ _).length + (LO _ _).length; rw [LM_len, LO_len]; omega)))))))
                  · skip
                    refine j_aload_n d_Mo_run2_340 rfl 2 rfl ?_
                    refine j_iload d_Mo_run2_341 1 rfl ?_
                    refine j_callV (As := [.int (nI (ub (g p)))]) (rest := []) (c_Mo_isDone Γ.l E M9 R rows thr dp as_ (k + 1) A b (ub (g p)) JM9 hR (by omega) (by omega) (by omega)) Y_Mo_isDone w_1027 w_1029 ws_32 hM9__R_0_ rfl rfl rfl (Nat.le_of_ble_eq_true rfl) (by omega) (by omega) (by omega) d_Mo_run2_343 (fun v343 N343 p343 => ?_)
                    obtain ⟨w343, d343, a343, k343, B343, rfl, I343, f343, g343, T343, F343⟩ := p343
                    have k343__R_1_ : N343 (R 1) = some (mp_b E 1000 g) := (f343.k hR (by decide) (by decide) (by decide)).trans hM9__R_1_
                    have k343__R_10_ : N343 (R 10) = some (mp_z E 1001 fk) := (f343.k hR (by decide) (by decide) (by decide)).trans hM9__R_10_
                    show mp_J Γ m_Mo_run2 E κ N343 [(6, .int (nI (p + 1))), (7, .int (nI (ub (g p)))), (0, .ref (R 0)), (1, .ref (R 1)), (2, .int (nI f)), (3, .int (nI q)), (4, .int (nI b.length)), (5, .int (nI (offs b)))] 346 [.int (tf w343)] 0 0
                    refine j_tif_ne 351 d_Mo_run2_346 (by decide) (fun b346 => ?_) (fun b346 => ?_)
                    · skip
                      refine j_aload_n d_Mo_run2_351 rfl 2 rfl ?_
                      refine j_get F_Mo I343.1 11 (by decide) w_954 (Or.inl rfl) rfl d_Mo_run2_352 ?_
                      refine j_aload_n d_Mo_run2_355 rfl 2 rfl ?_
                      refine j_get F_Mo I343.1 12 (by decide) w_955 (Or.inl rfl) rfl d_Mo_run2_356 ?_
                      have h1 : am_one g (f + q) p (LM A dp) (LO A as_) b (am_kp g p k) = some (LM B343 d343, LO B343 a343, b, k343) := by unfold am_one; rw [if_neg (by omega), if_pos ((offs_low b (by omega)).mpr b337), if_neg (by omega), hkp]; exact T343 b346
                      refine j_iadd d_Mo_run2_359 ?_
                      refine j_eqi (y := nI (d343 + a343)) (nI_add d343 a343) ?_
                      refine j_sipush (v := nI 200) d_Mo_run2_360 (by decide) ?_
                      refine j_ncmp_le 368 (d343 + a343) 200 rfl rfl (by omega) (by omega) d_Mo_run2_363 (by decide) (fun b363 => ?_) (fun b363 => ?_)
                      · skip
                        refine j_goto (tgt := 19) d_Mo_run2_368 (by decide) ?_
                        refine j_lv [2, 3, 4, 5, 6, 7, 0] rfl ?_
                        have h3 : d343 + a343 ≤ 200 := by omega
                        have h9 := am_op_bk (T343 b346)
                        unfold am_bk at h9
                        simp only at h9
                        have h2 : b.length ≤ k343 ∧ k343 ≤ 201 := by first | omega | (simp only [List.length_cons]; omega) | (simp only [List.length_cons] at *; omega)
                        exact ih N343 fk d343 a343 k343 B343 b (p + 1) (by omega) I343 k343__R_1_ k343__R_10_ htk ((fr.trans fM9.z).trans f343.z) h3 h2 (by omega) (by omega) (by rw [show (p + 1) = p + cd_car g p (f + q) + 1 by omega]; exact (am_run_s (by omega) (am_step_t (m := LM A dp) (o := LO A as_) (b := b) (k := k) (by omega) (by omega) h1 (by show (LM _ _).length + (LO _ _).length ≤ 200; rw [LM_len, LO_len]; exact h3))).symm.trans he)
                      · skip
                        refine j_iconst (v := nI 0) d_Mo_run2_366 (by decide) ?_
                        exact j_zret hκ rfl (by first | exact Or.inl rfl | exact Or.inr rfl) (by omega) (by omega) d_Mo_run2_367 (RP.f I343 k343__R_1_ k343__R_10_ ((fr.trans fM9.z).trans f343.z) (he.symm.trans (am_run_n (by omega) (am_step_f (m := LM A dp) (o := LO A as_) (b := b) (k := k) (Or.inr (Or.inr (fun s hs => by rw [h1] at hs; cases hs; show 200 < (LM _ _).length + (LO _ _).length; rw [LM_len, LO_len]; omega)))))))
                    · skip
                      refine j_iconst (v := nI 0) d_Mo_run2_349 (by decide) ?_
                      exact j_zret hκ rfl (by first | exact Or.inl rfl | exact Or.inr rfl) (by omega) (by omega) d_Mo_run2_350 (RP.f I343 k343__R_1_ k343__R_10_ ((fr.trans fM9.z).trans f343.z) (he.symm.trans (am_run_n (by omega) (am_step_f (m := LM A dp) (o := LO A as_) (b := b) (k := k) (Or.inr (Or.inr (fun s hs => by exfalso; unfold am_one at hs; rw [if_neg (by omega), if_pos ((offs_low b (by omega)).mpr b337), if_neg (by omega), hkp, F343 b346] at hs; cases hs)))))))
                · skip
                  refine j_iload d_Mo_run2_165 1 rfl ?_
                  refine j_bipush (v := nI 102) d_Mo_run2_167 (by decide) ?_
                  refine j_ncmp_eq 335 (ub (g p)) 102 rfl rfl (by omega) (by omega) d_Mo_run2_169 (by decide) (fun b169 => ?_) (fun b169 => ?_)
                  · skip
                    refine j_iload d_Mo_run2_335 7 rfl ?_
                    refine j_nif_ne 351 (offs b) rfl (by omega) d_Mo_run2_337 (by decide) (fun b337 => ?_) (fun b337 => ?_)
                    · skip
                      refine j_aload_n d_Mo_run2_351 rfl 2 rfl ?_
                      refine j_get F_Mo hM9__R_0_ 11 (by decide) w_954 (Or.inl rfl) rfl d_Mo_run2_352 ?_
                      refine j_aload_n d_Mo_run2_355 rfl 2 rfl ?_
                      refine j_get F_Mo hM9__R_0_ 12 (by decide) w_955 (Or.inl rfl) rfl d_Mo_run2_356 ?_
                      have h1 : am_one g (f + q) p (LM A dp) (LO A as_) b (am_kp g p k) = some (LM A dp, LO A as_, b, k + 1) := by unfold am_one; rw [if_neg (by omega), if_neg (fun z => b337 ((offs_low b (by omega)).mp z)), hkp]
                      refine j_iadd d_Mo_run2_359 ?_
                      refine j_eqi (y := nI (dp + as_)) (nI_add dp as_) ?_
                      refine j_sipush (v := nI 200) d_Mo_run2_360 (by decide) ?_
                      refine j_ncmp_le 368 (dp + as_) 200 rfl rfl (by omega) (by omega) d_Mo_run2_363 (by decide) (fun b363 => ?_) (fun b363 => ?_)
                      · skip
                        refine j_goto (tgt := 19) d_Mo_run2_368 (by decide) ?_
                        refine j_lv [2, 3, 4, 5, 6, 7, 0] rfl ?_
                        have h3 : dp + as_ ≤ 200 := by omega
                        have h2 : b.length ≤ k + 1 ∧ k + 1 ≤ 201 := by first | omega | (simp only [List.length_cons]; omega) | (simp only [List.length_cons] at *; omega)
                        exact ih M9 fk dp as_ (k + 1) A b (p + 1) (by omega) JM9 hM9__R_1_ hM9__R_10_ htk (fr.trans fM9.z) h3 h2 (by omega) (by omega) (by rw [show (p + 1) = p + cd_car g p (f + q) + 1 by omega]; exact (am_run_s (by omega) (am_step_t (m := LM A dp) (o := LO A as_) (b := b) (k := k) (by omega) (by omega) h1 (by show (LM _ _).length + (LO _ _).length ≤ 200; rw [LM_len, LO_len]; exact h3))).symm.trans he)
                      · skip
                        refine j_iconst (v := nI 0) d_Mo_run2_366 (by decide) ?_
                        exact j_zret hκ rfl (by first | exact Or.inl rfl | exact Or.inr rfl) (by omega) (by omega) d_Mo_run2_367 (RP.f JM9 hM9__R_1_ hM9__R_10_ (fr.trans fM9.z) (he.symm.trans (am_run_n (by omega) (am_step_f (m := LM A dp) (o := LO A as_) (b := b) (k := k) (Or.inr (Or.inr (fun s hs => by rw [h1] at hs; cases hs; show 200 < (LM _ _).length + (LO _ _).length; rw [LM_len, LO_len]; omega)))))))
                    · skip
                      refine j_aload_n d_Mo_run2_340 rfl 2 rfl ?_
                      refine j_iload d_Mo_run2_341 1 rfl ?_
                      refine j_callV (As := [.int (nI (ub (g p)))]) (rest := []) (c_Mo_isDone Γ.l E M9 R rows thr dp as_ (k + 1) A b (ub (g p)) JM9 hR (by omega) (by omega) (by omega)) Y_Mo_isDone w_1027 w_1029 ws_32 hM9__R_0_ rfl rfl rfl (Nat.le_of_ble_eq_true rfl) (by omega) (by omega) (by omega) d_Mo_run2_343 (fun v343 N343 p343 => ?_)
                      obtain ⟨w343, d343, a343, k343, B343, rfl, I343, f343, g343, T343, F343⟩ := p343
                      have k343__R_1_ : N343 (R 1) = some (mp_b E 1000 g) := (f343.k hR (by decide) (by decide) (by decide)).trans hM9__R_1_
                      have k343__R_10_ : N343 (R 10) = some (mp_z E 1001 fk) := (f343.k hR (by decide) (by decide) (by decide)).trans hM9__R_10_
                      show mp_J Γ m_Mo_run2 E κ N343 [(6, .int (nI (p + 1))), (7, .int (nI (ub (g p)))), (0, .ref (R 0)), (1, .ref (R 1)), (2, .int (nI f)), (3, .int (nI q)), (4, .int (nI b.length)), (5, .int (nI (offs b)))] 346 [.int (tf w343)] 0 0
                      refine j_tif_ne 351 d_Mo_run2_346 (by decide) (fun b346 => ?_) (fun b346 => ?_)
                      · skip
                        refine j_aload_n d_Mo_run2_351 rfl 2 rfl ?_
                        refine j_get F_Mo I343.1 11 (by decide) w_954 (Or.inl rfl) rfl d_Mo_run2_352 ?_
                        refine j_aload_n d_Mo_run2_355 rfl 2 rfl ?_
                        refine j_get F_Mo I343.1 12 (by decide) w_955 (Or.inl rfl) rfl d_Mo_run2_356 ?_
                        have h1 : am_one g (f + q) p (LM A dp) (LO A as_) b (am_kp g p k) = some (LM B343 d343, LO B343 a343, b, k343) := by unfold am_one; rw [if_neg (by omega), if_pos ((offs_low b (by omega)).mpr b337), if_neg (by omega), hkp]; exact T343 b346
                        refine j_iadd d_Mo_run2_359 ?_
                        refine j_eqi (y := nI (d343 + a343)) (nI_add d343 a343) ?_
                        refine j_sipush (v := nI 200) d_Mo_run2_360 (by decide) ?_
                        refine j_ncmp_le 368 (d343 + a343) 200 rfl rfl (by omega) (by omega) d_Mo_run2_363 (by decide) (fun b363 => ?_) (fun b363 => ?_)
                        · skip
                          refine j_goto (tgt := 19) d_Mo_run2_368 (by decide) ?_
                          refine j_lv [2, 3, 4, 5, 6, 7, 0] rfl ?_
                          have h3 : d343 + a343 ≤ 200 := by omega
                          have h9 := am_op_bk (T343 b346)
                          unfold am_bk at h9
                          simp only at h9
                          have h2 : b.length ≤ k343 ∧ k343 ≤ 201 := by first | omega | (simp only [List.length_cons]; omega) | (simp only [List.length_cons] at *; omega)
                          exact ih N343 fk d343 a343 k343 B343 b (p + 1) (by omega) I343 k343__R_1_ k343__R_10_ htk ((fr.trans fM9.z).trans f343.z) h3 h2 (by omega) (by omega) (by rw [show (p + 1) = p + cd_car g p (f + q) + 1 by omega]; exact (am_run_s (by omega) (am_step_t (m := LM A dp) (o := LO A as_) (b := b) (k := k) (by omega) (by omega) h1 (by show (LM _ _).length + (LO _ _).length ≤ 200; rw [LM_len, LO_len]; exact h3))).symm.trans he)
                        · skip
                          refine j_iconst (v := nI 0) d_Mo_run2_366 (by decide) ?_
                          exact j_zret hκ rfl (by first | exact Or.inl rfl | exact Or.inr rfl) (by omega) (by omega) d_Mo_run2_367 (RP.f I343 k343__R_1_ k343__R_10_ ((fr.trans fM9.z).trans f343.z) (he.symm.trans (am_run_n (by omega) (am_step_f (m := LM A dp) (o := LO A as_) (b := b) (k := k) (Or.inr (Or.inr (fun s hs => by rw [h1] at hs; cases hs; show 200 < (LM _ _).length + (LO _ _).length; rw [LM_len, LO_len]; omega)))))))
                      · skip
                        refine j_iconst (v := nI 0) d_Mo_run2_349 (by decide) ?_
                        exact j_zret hκ rfl (by first | exact Or.inl rfl | exact Or.inr rfl) (by omega) (by omega) d_Mo_run2_350 (RP.f I343 k343__R_1_ k343__R_10_ ((fr.trans fM9.z).trans f343.z) (he.symm.trans (am_run_n (by omega) (am_step_f (m := LM A dp) (o := LO A as_) (b := b) (k := k) (Or.inr (Or.inr (fun s hs => by exfalso; unfold am_one at hs; rw [if_neg (by omega), if_pos ((offs_low b (by omega)).mpr b337), if_neg (by omega), hkp, F343 b346] at hs; cases hs)))))))
                  · skip
                    refine j_iload d_Mo_run2_172 1 rfl ?_
                    refine j_bipush (v := nI 103) d_Mo_run2_174 (by decide) ?_
                    refine j_ncmp_ge 259 (ub (g p)) 103 rfl rfl (by omega) (by omega) d_Mo_run2_176 (by decide) (fun b176 => ?_) (fun b176 => ?_)
                    · skip
                      refine j_iload d_Mo_run2_259 6 rfl ?_
                      refine j_nif_ne 266 b.length rfl (by omega) d_Mo_run2_261 (by decide) (fun b261 => ?_) (fun b261 => ?_)
                      · skip
                        obtain ⟨x, bs, rfl⟩ := am_nn0 (show 0 < b.length by omega)
                        have hlx : (x :: bs).length = bs.length + 1 := rfl
                        refine j_aload_n d_Mo_run2_266 rfl 2 rfl ?_
                        refine j_get F_Mo hM9__R_0_ 14 (by decide) w_957 (Or.inl rfl) rfl d_Mo_run2_267 ?_
                        refine j_iload d_Mo_run2_270 6 rfl ?_
                        refine j_iconst (v := nI 1) d_Mo_run2_272 (by decide) ?_
                        refine j_isub d_Mo_run2_273 ?_
                        refine j_eqi (y := nI ((x :: bs).length - 1)) (pk_sub (by omega)) ?_
                        refine j_eqi (y := nI bs.length) rfl ?_
                        refine j_zald hM9__R_10_ bs.length rfl (by omega) (by omega) d_Mo_run2_274 ?_
                        refine j_eqi (y := tf x) htk.1 ?_
                        refine j_istore [(8, .int (tf x)), (6, .int (nI (p + 1))), (7, .int (nI (ub (g p)))), (0, .ref (R 0)), (1, .ref (R 1)), (2, .int (nI f)), (3, .int (nI q)), (4, .int (nI (x :: bs).length)), (5, .int (nI (offs (x :: bs))))] d_Mo_run2_275 (by decide) rfl ?_
                        refine j_iload d_Mo_run2_277 2 rfl ?_
                        refine j_bipush (v := nI 104) d_Mo_run2_279 (by decide) ?_
                        refine j_ncmp_ne 298 (ub (g p)) 104 rfl rfl (by omega) (by omega) d_Mo_run2_281 (by decide) (fun b281 => ?_) (fun b281 => ?_)
                        · skip
                          refine j_aload_n d_Mo_run2_298 rfl 3 rfl ?_
                          refine j_get F_Mo hM9__R_0_ 14 (by decide) w_957 (Or.inl rfl) rfl d_Mo_run2_299 ?_
                          refine j_iload d_Mo_run2_302 7 rfl ?_
                          refine j_iconst (v := nI 1) d_Mo_run2_304 (by decide) ?_
                          refine j_isub d_Mo_run2_305 ?_
                          refine j_eqi (y := nI ((x :: bs).length - 1)) (pk_sub (by omega)) ?_
                          refine j_eqi (y := nI bs.length) rfl ?_
                          refine j_iload d_Mo_run2_306 0 rfl ?_
                          refine j_tif_ne 315 d_Mo_run2_308 (by decide) (fun b308 => ?_) (fun b308 => ?_)
                          · skip
                            subst b308
                            refine j_iconst (v := nI 0) d_Mo_run2_315 (by decide) ?_
                            refine j_zast (y := nI 0) hM9__R_10_ bs.length rfl (by omega) (by omega) rfl d_Mo_run2_316 ?_
                            generalize eM10 : mp_up M9 (R 10) (mp_z E 1001 (upd fk bs.length (nI 0))) = M10
                            have hM10__R_1_ : M10 (R 1) = some (mp_b E 1000 g) := by rw [← eM10, mp_n (hR.ne (by decide) (by decide) (by decide))]; exact hM9__R_1_
                            have hM10__R_0_ : M10 (R 0) = some (mp_o 7 [.ref (R 1), .int (nI rows), .int thr, .ref (R 2), .ref (R 3), .ref (R 4), .ref (R 5), .ref (R 6), .ref (R 7), .ref (R 8), .ref (R 9), .int (nI dp), .int (nI as_), .int (nI (k + 1)), .ref (R 10)]) := by rw [← eM10, mp_n (hR.ne (by decide) (by decide) (by decide))]; exact hM9__R_0_
                            have hM10__R_10_ : M10 (R 10) = some (mp_z E 1001 (upd fk bs.length (nI 0))) := by rw [← eM10]; exact mp_s
                            have JM10 : RI E M10 R rows thr dp as_ (k + 1) A := JM9.tk hR eM10
                            refine j_iload d_Mo_run2_317 8 rfl ?_
                            refine j_iload d_Mo_run2_319 0 rfl ?_
                            refine j_tif_eq 328 d_Mo_run2_321 (by decide) (fun b321 => (by cases b321)) (fun b321 => ?_)
                            refine j_iconst (v := nI 1) d_Mo_run2_324 (by decide) ?_
                            refine j_goto (tgt := 329) d_Mo_run2_325 (by decide) ?_
                            refine j_iadd d_Mo_run2_329 ?_
                            refine j_eqi (y := nI ((offs (true :: bs)) + 1)) (nI_add (offs (true :: bs)) 1) ?_
                            refine j_istore [(5, .int (nI ((offs (true :: bs)) + 1))), (8, .int (tf true)), (6, .int (nI (p + 1))), (7, .int (nI (ub (g p)))), (0, .ref (R 0)), (1, .ref (R 1)), (2, .int (nI f)), (3, .int (nI q)), (4, .int (nI (true :: bs).length))] d_Mo_run2_330 (by decide) rfl ?_
                            refine j_goto (tgt := 351) d_Mo_run2_332 (by decide) ?_
                            refine j_aload_n d_Mo_run2_351 rfl 4 rfl ?_
                            refine j_get F_Mo hM10__R_0_ 11 (by decide) w_954 (Or.inl rfl) rfl d_Mo_run2_352 ?_
                            refine j_aload_n d_Mo_run2_355 rfl 4 rfl ?_
                            refine j_get F_Mo hM10__R_0_ 12 (by decide) w_955 (Or.inl rfl) rfl d_Mo_run2_356 ?_
                            have h1 : am_one g (f + q) p (LM A dp) (LO A as_) (true :: bs) (am_kp g p k) = some (LM A dp, LO A as_, (false :: bs), k + 1) := by unfold am_one; rw [if_pos (by omega)]; unfold a_br; rw [if_neg (by omega), if_neg (by omega)]; simp only; rw [if_pos (by omega), hkp]; rfl
                            refine j_iadd d_Mo_run2_359 ?_
                            refine j_eqi (y := nI (dp + as_)) (nI_add dp as_) ?_
                            refine j_sipush (v := nI 200) d_Mo_run2_360 (by decide) ?_
                            refine j_ncmp_le 368 (dp + as_) 200 rfl rfl (by omega) (by omega) d_Mo_run2_363 (by decide) (fun b363 => ?_) (fun b363 => ?_)
                            · skip
                              refine j_goto (tgt := 19) d_Mo_run2_368 (by decide) ?_
                              refine j_lv [4, 5, 6, 7, 8, 0, 2] rfl ?_
                              have h3 : dp + as_ ≤ 200 := by omega
                              have h2 : (false :: bs).length ≤ k + 1 ∧ k + 1 ≤ 201 := by first | omega | (simp only [List.length_cons]; omega) | (simp only [List.length_cons] at *; omega)
                              exact ih M10 (upd fk bs.length (nI 0)) dp as_ (k + 1) A (false :: bs) (p + 1) (by omega) JM10 hM10__R_1_ hM10__R_10_ ⟨(by rw [pk_us]; rfl), TK_up (Nat.le_refl _) htk.2⟩ ((fr.trans fM9.z).trans (RFz.up eM10)) h3 h2 (by omega) (by omega) (by rw [show (p + 1) = p + cd_car g p (f + q) + 1 by omega]; exact (am_run_s (by omega) (am_step_t (m := LM A dp) (o := LO A as_) (b := (true :: bs)) (k := k) (by omega) (by omega) h1 (by show (LM _ _).length + (LO _ _).length ≤ 200; rw [LM_len, LO_len]; exact h3))).symm.trans he)
                            · skip
                              refine j_iconst (v := nI 0) d_Mo_run2_366 (by decide) ?_
                              exact j_zret hκ rfl (by first | exact Or.inl rfl | exact Or.inr rfl) (by omega) (by omega) d_Mo_run2_367 (RP.f JM10 hM10__R_1_ hM10__R_10_ ((fr.trans fM9.z).trans (RFz.up eM10)) (he.symm.trans (am_run_n (by omega) (am_step_f (m := LM A dp) (o := LO A as_) (b := (true :: bs)) (k := k) (Or.inr (Or.inr (fun s hs => by rw [h1] at hs; cases hs; show 200 < (LM _ _).length + (LO _ _).length; rw [LM_len, LO_len]; omega)))))))
                          · skip
                            subst b308
                            refine j_iconst (v := nI 1) d_Mo_run2_311 (by decide) ?_
                            refine j_goto (tgt := 316) d_Mo_run2_312 (by decide) ?_
                            refine j_zast (y := nI 1) hM9__R_10_ bs.length rfl (by omega) (by omega) rfl d_Mo_run2_316 ?_
                            generalize eM11 : mp_up M9 (R 10) (mp_z E 1001 (upd fk bs.length (nI 1))) = M11
                            have hM11__R_1_ : M11 (R 1) = some (mp_b E 1000 g) := by rw [← eM11, mp_n (hR.ne (by decide) (by decide) (by decide))]; exact hM9__R_1_
                            have hM11__R_0_ : M11 (R 0) = some (mp_o 7 [.ref (R 1), .int (nI rows), .int thr, .ref (R 2), .ref (R 3), .ref (R 4), .ref (R 5), .ref (R 6), .ref (R 7), .ref (R 8), .ref (R 9), .int (nI dp), .int (nI as_), .int (nI (k + 1)), .ref (R 10)]) := by rw [← eM11, mp_n (hR.ne (by decide) (by decide) (by decide))]; exact hM9__R_0_
                            have hM11__R_10_ : M11 (R 10) = some (mp_z E 1001 (upd fk bs.length (nI 1))) := by rw [← eM11]; exact mp_s
                            have JM11 : RI E M11 R rows thr dp as_ (k + 1) A := JM9.tk hR eM11
                            refine j_iload d_Mo_run2_317 8 rfl ?_
                            refine j_iload d_Mo_run2_319 0 rfl ?_
                            refine j_tif_eq 328 d_Mo_run2_321 (by decide) (fun b321 => ?_) (fun b321 => (by cases b321))
                            refine j_iconst (v := (-1)) d_Mo_run2_328 (by decide) ?_
                            refine j_iadd d_Mo_run2_329 ?_
                            refine j_eqi (y := nI (offs bs)) (pk_m1 (offs bs)) ?_
                            refine j_istore [(5, .int (nI (offs bs))), (8, .int (tf false)), (6, .int (nI (p + 1))), (7, .int (nI (ub (g p)))), (0, .ref (R 0)), (1, .ref (R 1)), (2, .int (nI f)), (3, .int (nI q)), (4, .int (nI (false :: bs).length))] d_Mo_run2_330 (by decide) rfl ?_
                            refine j_goto (tgt := 351) d_Mo_run2_332 (by decide) ?_
                            refine j_aload_n d_Mo_run2_351 rfl 4 rfl ?_
                            refine j_get F_Mo hM11__R_0_ 11 (by decide) w_954 (Or.inl rfl) rfl d_Mo_run2_352 ?_
                            refine j_aload_n d_Mo_run2_355 rfl 4 rfl ?_
                            refine j_get F_Mo hM11__R_0_ 12 (by decide) w_955 (Or.inl rfl) rfl d_Mo_run2_356 ?_
                            have h1 : am_one g (f + q) p (LM A dp) (LO A as_) (false :: bs) (am_kp g p k) = some (LM A dp, LO A as_, (true :: bs), k + 1) := by unfold am_one; rw [if_pos (by omega)]; unfold a_br; rw [if_neg (by omega), if_neg (by omega)]; simp only; rw [if_pos (by omega), hkp]; rfl
                            refine j_iadd d_Mo_run2_359 ?_
                            refine j_eqi (y := nI (dp + as_)) (nI_add dp as_) ?_
                            refine j_sipush (v := nI 200) d_Mo_run2_360 (by decide) ?_
                            refine j_ncmp_le 368 (dp + as_) 200 rfl rfl (by omega) (by omega) d_Mo_run2_363 (by decide) (fun b363 => ?_) (fun b363 => ?_)
                            · skip
                              refine j_goto (tgt := 19) d_Mo_run2_368 (by decide) ?_
                              refine j_lv [4, 5, 6, 7, 8, 0, 2] rfl ?_
                              have h3 : dp + as_ ≤ 200 := by omega
                              have h2 : (true :: bs).length ≤ k + 1 ∧ k + 1 ≤ 201 := by first | omega | (simp only [List.length_cons]; omega) | (simp only [List.length_cons] at *; omega)
                              exact ih M11 (upd fk bs.length (nI 1)) dp as_ (k + 1) A (true :: bs) (p + 1) (by omega) JM11 hM11__R_1_ hM11__R_10_ ⟨(by rw [pk_us]; rfl), TK_up (Nat.le_refl _) htk.2⟩ ((fr.trans fM9.z).trans (RFz.up eM11)) h3 h2 (by omega) (by omega) (by rw [show (p + 1) = p + cd_car g p (f + q) + 1 by omega]; exact (am_run_s (by omega) (am_step_t (m := LM A dp) (o := LO A as_) (b := (false :: bs)) (k := k) (by omega) (by omega) h1 (by show (LM _ _).length + (LO _ _).length ≤ 200; rw [LM_len, LO_len]; exact h3))).symm.trans he)
                            · skip
                              refine j_iconst (v := nI 0) d_Mo_run2_366 (by decide) ?_
                              exact j_zret hκ rfl (by first | exact Or.inl rfl | exact Or.inr rfl) (by omega) (by omega) d_Mo_run2_367 (RP.f JM11 hM11__R_1_ hM11__R_10_ ((fr.trans fM9.z).trans (RFz.up eM11)) (he.symm.trans (am_run_n (by omega) (am_step_f (m := LM A dp) (o := LO A as_) (b := (false :: bs)) (k := k) (Or.inr (Or.inr (fun s hs => by rw [h1] at hs; cases hs; show 200 < (LM _ _).length + (LO _ _).length; rw [LM_len, LO_len]; omega)))))))
                        · skip
                          refine j_iinc (v := nI bs.length) [(4, .int (nI bs.length)), (8, .int (tf x)), (6, .int (nI (p + 1))), (7, .int (nI (ub (g p)))), (0, .ref (R 0)), (1, .ref (R 1)), (2, .int (nI f)), (3, .int (nI q)), (5, .int (nI (offs (x :: bs))))] d_Mo_run2_284 7 rfl (pk_m1 bs.length) (by decide) rfl ?_
                          refine j_iload d_Mo_run2_287 1 rfl ?_
                          refine j_tif_ne 332 d_Mo_run2_289 (by decide) (fun b289 => ?_) (fun b289 => ?_)
                          · skip
                            subst b289
                            refine j_goto (tgt := 351) d_Mo_run2_332 (by decide) ?_
                            refine j_aload_n d_Mo_run2_351 rfl 4 rfl ?_
                            refine j_get F_Mo hM9__R_0_ 11 (by decide) w_954 (Or.inl rfl) rfl d_Mo_run2_352 ?_
                            refine j_aload_n d_Mo_run2_355 rfl 4 rfl ?_
                            refine j_get F_Mo hM9__R_0_ 12 (by decide) w_955 (Or.inl rfl) rfl d_Mo_run2_356 ?_
                            have h1 : am_one g (f + q) p (LM A dp) (LO A as_) (true :: bs) (am_kp g p k) = some (LM A dp, LO A as_, bs, k + 1) := by unfold am_one; rw [if_pos (by omega)]; unfold a_br; rw [if_neg (by omega), if_neg (by omega)]; simp only; rw [if_neg (by omega), hkp]
                            refine j_iadd d_Mo_run2_359 ?_
                            refine j_eqi (y := nI (dp + as_)) (nI_add dp as_) ?_
                            refine j_sipush (v := nI 200) d_Mo_run2_360 (by decide) ?_
                            refine j_ncmp_le 368 (dp + as_) 200 rfl rfl (by omega) (by omega) d_Mo_run2_363 (by decide) (fun b363 => ?_) (fun b363 => ?_)
                            · skip
                              refine j_goto (tgt := 19) d_Mo_run2_368 (by decide) ?_
                              refine j_lv [4, 5, 6, 7, 0, 8, 2] rfl ?_
                              have h3 : dp + as_ ≤ 200 := by omega
                              have h2 : bs.length ≤ k + 1 ∧ k + 1 ≤ 201 := by first | omega | (simp only [List.length_cons]; omega) | (simp only [List.length_cons] at *; omega)
                              exact ih M9 fk dp as_ (k + 1) A bs (p + 1) (by omega) JM9 hM9__R_1_ hM9__R_10_ htk.2 (fr.trans fM9.z) h3 h2 (by omega) (by omega) (by rw [show (p + 1) = p + cd_car g p (f + q) + 1 by omega]; exact (am_run_s (by omega) (am_step_t (m := LM A dp) (o := LO A as_) (b := (true :: bs)) (k := k) (by omega) (by omega) h1 (by show (LM _ _).length + (LO _ _).length ≤ 200; rw [LM_len, LO_len]; exact h3))).symm.trans he)
                            · skip
                              refine j_iconst (v := nI 0) d_Mo_run2_366 (by decide) ?_
                              exact j_zret hκ rfl (by first | exact Or.inl rfl | exact Or.inr rfl) (by omega) (by omega) d_Mo_run2_367 (RP.f JM9 hM9__R_1_ hM9__R_10_ (fr.trans fM9.z) (he.symm.trans (am_run_n (by omega) (am_step_f (m := LM A dp) (o := LO A as_) (b := (true :: bs)) (k := k) (Or.inr (Or.inr (fun s hs => by rw [h1] at hs; cases hs; show 200 < (LM _ _).length + (LO _ _).length; rw [LM_len, LO_len]; omega)))))))
                          · skip
                            subst b289
                            refine j_iinc (v := nI (offs bs)) [(5, .int (nI (offs bs))), (4, .int (nI bs.length)), (8, .int (tf false)), (6, .int (nI (p + 1))), (7, .int (nI (ub (g p)))), (0, .ref (R 0)), (1, .ref (R 1)), (2, .int (nI f)), (3, .int (nI q))] d_Mo_run2_292 8 rfl (pk_m1 (offs bs)) (by decide) rfl ?_
                            refine j_goto (tgt := 332) d_Mo_run2_295 (by decide) ?_
                            refine j_goto (tgt := 351) d_Mo_run2_332 (by decide) ?_
                            refine j_aload_n d_Mo_run2_351 rfl 5 rfl ?_
                            refine j_get F_Mo hM9__R_0_ 11 (by decide) w_954 (Or.inl rfl) rfl d_Mo_run2_352 ?_
                            refine j_aload_n d_Mo_run2_355 rfl 5 rfl ?_
                            refine j_get F_Mo hM9__R_0_ 12 (by decide) w_955 (Or.inl rfl) rfl d_Mo_run2_356 ?_
                            have h1 : am_one g (f + q) p (LM A dp) (LO A as_) (false :: bs) (am_kp g p k) = some (LM A dp, LO A as_, bs, k + 1) := by unfold am_one; rw [if_pos (by omega)]; unfold a_br; rw [if_neg (by omega), if_neg (by omega)]; simp only; rw [if_neg (by omega), hkp]
                            refine j_iadd d_Mo_run2_359 ?_
                            refine j_eqi (y := nI (dp + as_)) (nI_add dp as_) ?_
                            refine j_sipush (v := nI 200) d_Mo_run2_360 (by decide) ?_
                            refine j_ncmp_le 368 (dp + as_) 200 rfl rfl (by omega) (by omega) d_Mo_run2_363 (by decide) (fun b363 => ?_) (fun b363 => ?_)
                            · skip
                              refine j_goto (tgt := 19) d_Mo_run2_368 (by decide) ?_
                              refine j_lv [5, 6, 7, 8, 1, 0, 3] rfl ?_
                              have h3 : dp + as_ ≤ 200 := by omega
                              have h2 : bs.length ≤ k + 1 ∧ k + 1 ≤ 201 := by first | omega | (simp only [List.length_cons]; omega) | (simp only [List.length_cons] at *; omega)
                              exact ih M9 fk dp as_ (k + 1) A bs (p + 1) (by omega) JM9 hM9__R_1_ hM9__R_10_ htk.2 (fr.trans fM9.z) h3 h2 (by omega) (by omega) (by rw [show (p + 1) = p + cd_car g p (f + q) + 1 by omega]; exact (am_run_s (by omega) (am_step_t (m := LM A dp) (o := LO A as_) (b := (false :: bs)) (k := k) (by omega) (by omega) h1 (by show (LM _ _).length + (LO _ _).length ≤ 200; rw [LM_len, LO_len]; exact h3))).symm.trans he)
                            · skip
                              refine j_iconst (v := nI 0) d_Mo_run2_366 (by decide) ?_
                              exact j_zret hκ rfl (by first | exact Or.inl rfl | exact Or.inr rfl) (by omega) (by omega) d_Mo_run2_367 (RP.f JM9 hM9__R_1_ hM9__R_10_ (fr.trans fM9.z) (he.symm.trans (am_run_n (by omega) (am_step_f (m := LM A dp) (o := LO A as_) (b := (false :: bs)) (k := k) (Or.inr (Or.inr (fun s hs => by rw [h1] at hs; cases hs; show 200 < (LM _ _).length + (LO _ _).length; rw [LM_len, LO_len]; omega)))))))
                      · skip
                        refine j_iconst (v := nI 0) d_Mo_run2_264 (by decide) ?_
                        exact j_zret hκ rfl (by first | exact Or.inl rfl | exact Or.inr rfl) (by omega) (by omega) d_Mo_run2_265 (RP.f JM9 hM9__R_1_ hM9__R_10_ (fr.trans fM9.z) (he.symm.trans (am_run_n (by omega) (am_step_f (m := LM A dp) (o := LO A as_) (b := b) (k := k) (Or.inr (Or.inr (fun s hs => by exfalso; have h0 : b = [] := List.length_eq_zero_iff.mp (by omega); unfold am_one at hs; rw [if_pos (by omega)] at hs; unfold a_br at hs; rw [if_neg (by omega), if_neg (by omega), h0] at hs; cases hs)))))))
                    · skip
                      refine j_iconst (v := nI 0) d_Mo_run2_179 (by decide) ?_
                      refine j_istore [(8, .int (nI 0)), (6, .int (nI (p + 1))), (7, .int (nI (ub (g p)))), (0, .ref (R 0)), (1, .ref (R 1)), (2, .int (nI f)), (3, .int (nI q)), (4, .int (nI b.length)), (5, .int (nI (offs b)))] d_Mo_run2_180 (by decide) rfl ?_
                      refine j_iload d_Mo_run2_182 8 rfl ?_
                      refine j_nif_ne 236 (offs b) rfl (by omega) d_Mo_run2_184 (by decide) (fun b184 => ?_) (fun b184 => ?_)
                      · skip
                        refine j_aload_n d_Mo_run2_236 rfl 3 rfl ?_
                        refine j_get F_Mo hM9__R_0_ 14 (by decide) w_957 (Or.inl rfl) rfl d_Mo_run2_237 ?_
                        refine j_iload d_Mo_run2_240 7 rfl ?_
                        refine j_iload d_Mo_run2_242 0 rfl ?_
                        refine j_zast (y := nI 0) hM9__R_10_ b.length rfl (by omega) (by omega) rfl d_Mo_run2_244 ?_
                        generalize eM12 : mp_up M9 (R 10) (mp_z E 1001 (upd fk b.length (nI 0))) = M12
                        have hM12__R_1_ : M12 (R 1) = some (mp_b E 1000 g) := by rw [← eM12, mp_n (hR.ne (by decide) (by decide) (by decide))]; exact hM9__R_1_
                        have hM12__R_0_ : M12 (R 0) = some (mp_o 7 [.ref (R 1), .int (nI rows), .int thr, .ref (R 2), .ref (R 3), .ref (R 4), .ref (R 5), .ref (R 6), .ref (R 7), .ref (R 8), .ref (R 9), .int (nI dp), .int (nI as_), .int (nI (k + 1)), .ref (R 10)]) := by rw [← eM12, mp_n (hR.ne (by decide) (by decide) (by decide))]; exact hM9__R_0_
                        have hM12__R_10_ : M12 (R 10) = some (mp_z E 1001 (upd fk b.length (nI 0))) := by rw [← eM12]; exact mp_s
                        have JM12 : RI E M12 R rows thr dp as_ (k + 1) A := JM9.tk hR eM12
                        refine j_iinc (v := nI (b.length + 1)) [(4, .int (nI (b.length + 1))), (8, .int (nI 0)), (6, .int (nI (p + 1))), (7, .int (nI (ub (g p)))), (0, .ref (R 0)), (1, .ref (R 1)), (2, .int (nI f)), (3, .int (nI q)), (5, .int (nI (offs b)))] d_Mo_run2_245 7 rfl (nI_add b.length 1) (by decide) rfl ?_
                        refine j_iload d_Mo_run2_248 1 rfl ?_
                        refine j_nif_ne 256 0 rfl (by omega) d_Mo_run2_250 (by decide) (fun b250 => (by first | exact b250.elim | exact absurd b250 (by omega))) (fun b250 => ?_)
                        refine j_iinc (v := nI ((offs b) + 1)) [(5, .int (nI ((offs b) + 1))), (4, .int (nI (b.length + 1))), (8, .int (nI 0)), (6, .int (nI (p + 1))), (7, .int (nI (ub (g p)))), (0, .ref (R 0)), (1, .ref (R 1)), (2, .int (nI f)), (3, .int (nI q))] d_Mo_run2_253 8 rfl (nI_add (offs b) 1) (by decide) rfl ?_
                        refine j_goto (tgt := 351) d_Mo_run2_256 (by decide) ?_
                        refine j_aload_n d_Mo_run2_351 rfl 5 rfl ?_
                        refine j_get F_Mo hM12__R_0_ 11 (by decide) w_954 (Or.inl rfl) rfl d_Mo_run2_352 ?_
                        refine j_aload_n d_Mo_run2_355 rfl 5 rfl ?_
                        refine j_get F_Mo hM12__R_0_ 12 (by decide) w_955 (Or.inl rfl) rfl d_Mo_run2_356 ?_
                        have h1 : am_one g (f + q) p (LM A dp) (LO A as_) b (am_kp g p k) = some (LM A dp, LO A as_, (false :: b), k + 1) := by rcases (show ub (g p) = 99 ∨ ub (g p) = 100 by omega) with h9 | h9 <;> (unfold am_one; rw [if_pos (by omega)]; unfold a_br; (first | rw [if_pos (show ub (g p) = 99 from h9)] | rw [if_neg (show ¬ ub (g p) = 99 by omega), if_pos h9]); unfold a_enter; rw [if_pos (fun z => b184 ((offs_low b (by omega)).mp z)), hkp])
                        refine j_iadd d_Mo_run2_359 ?_
                        refine j_eqi (y := nI (dp + as_)) (nI_add dp as_) ?_
                        refine j_sipush (v := nI 200) d_Mo_run2_360 (by decide) ?_
                        refine j_ncmp_le 368 (dp + as_) 200 rfl rfl (by omega) (by omega) d_Mo_run2_363 (by decide) (fun b363 => ?_) (fun b363 => ?_)
                        · skip
                          refine j_goto (tgt := 19) d_Mo_run2_368 (by decide) ?_
                          refine j_lv [5, 6, 7, 8, 1, 0, 3] rfl ?_
                          have h3 : dp + as_ ≤ 200 := by omega
                          have h2 : (false :: b).length ≤ k + 1 ∧ k + 1 ≤ 201 := by first | omega | (simp only [List.length_cons]; omega) | (simp only [List.length_cons] at *; omega)
                          exact ih M12 (upd fk b.length (nI 0)) dp as_ (k + 1) A (false :: b) (p + 1) (by omega) JM12 hM12__R_1_ hM12__R_10_ ⟨(by rw [pk_us]; rfl), TK_up (Nat.le_refl _) htk⟩ ((fr.trans fM9.z).trans (RFz.up eM12)) h3 h2 (by omega) (by omega) (by rw [show (p + 1) = p + cd_car g p (f + q) + 1 by omega]; exact (am_run_s (by omega) (am_step_t (m := LM A dp) (o := LO A as_) (b := b) (k := k) (by omega) (by omega) h1 (by show (LM _ _).length + (LO _ _).length ≤ 200; rw [LM_len, LO_len]; exact h3))).symm.trans he)
                        · skip
                          refine j_iconst (v := nI 0) d_Mo_run2_366 (by decide) ?_
                          exact j_zret hκ rfl (by first | exact Or.inl rfl | exact Or.inr rfl) (by omega) (by omega) d_Mo_run2_367 (RP.f JM12 hM12__R_1_ hM12__R_10_ ((fr.trans fM9.z).trans (RFz.up eM12)) (he.symm.trans (am_run_n (by omega) (am_step_f (m := LM A dp) (o := LO A as_) (b := b) (k := k) (Or.inr (Or.inr (fun s hs => by rw [h1] at hs; cases hs; show 200 < (LM _ _).length + (LO _ _).length; rw [LM_len, LO_len]; omega)))))))
                      · skip
                        refine j_aload_n d_Mo_run2_187 rfl 3 rfl ?_
                        refine j_get F_Mo hM9__R_0_ 11 (by decide) w_954 (Or.inl rfl) rfl d_Mo_run2_188 ?_
                        refine j_nif_ne 196 dp rfl (by omega) d_Mo_run2_191 (by decide) (fun b191 => ?_) (fun b191 => ?_)
                        · skip
                          refine j_aload_n d_Mo_run2_196 rfl 3 rfl ?_
                          refine j_dup d_Mo_run2_197 rfl ?_
                          refine j_get F_Mo hM9__R_0_ 11 (by decide) w_954 (Or.inl rfl) rfl d_Mo_run2_198 ?_
                          refine j_iconst (v := nI 1) d_Mo_run2_201 (by decide) ?_
                          refine j_isub d_Mo_run2_202 ?_
                          refine j_eqi (y := nI (dp - 1)) (pk_sub (by omega)) ?_
                          refine j_put F_Mo hM9__R_0_ 11 (by decide) w_954 (Or.inl rfl) rfl rfl rfl (Nat.le_of_ble_eq_true rfl) d_Mo_run2_203 ?_
                          show mp_J Γ m_Mo_run2 E κ (mp_up M9 (R 0) (mp_o 7 [.ref (R 1), .int (nI rows), .int thr, .ref (R 2), .ref (R 3), .ref (R 4), .ref (R 5), .ref (R 6), .ref (R 7), .ref (R 8), .ref (R 9), .int (nI (dp - 1)), .int (nI as_), .int (nI (k + 1)), .ref (R 10)])) [(8, .int (nI 0)), (6, .int (nI (p + 1))), (7, .int (nI (ub (g p)))), (0, .ref (R 0)), (1, .ref (R 1)), (2, .int (nI f)), (3, .int (nI q)), (4, .int (nI b.length)), (5, .int (nI (offs b)))] 206 [] 0 0
                          generalize eM13 : mp_up M9 (R 0) (mp_o 7 [.ref (R 1), .int (nI rows), .int thr, .ref (R 2), .ref (R 3), .ref (R 4), .ref (R 5), .ref (R 6), .ref (R 7), .ref (R 8), .ref (R 9), .int (nI (dp - 1)), .int (nI as_), .int (nI (k + 1)), .ref (R 10)]) = M13
                          have hM13__R_1_ : M13 (R 1) = some (mp_b E 1000 g) := by rw [← eM13, mp_n (hR.ne (by decide) (by decide) (by decide))]; exact hM9__R_1_
                          have hM13__R_10_ : M13 (R 10) = some (mp_z E 1001 fk) := by rw [← eM13, mp_n (hR.ne (by decide) (by decide) (by decide))]; exact hM9__R_10_
                          have hM13__R_0_ : M13 (R 0) = some (mp_o 7 [.ref (R 1), .int (nI rows), .int thr, .ref (R 2), .ref (R 3), .ref (R 4), .ref (R 5), .ref (R 6), .ref (R 7), .ref (R 8), .ref (R 9), .int (nI (dp - 1)), .int (nI as_), .int (nI (k + 1)), .ref (R 10)]) := by rw [← eM13]; exact mp_s
                          have JM13 : RI E M13 R rows thr (dp - 1) as_ (k + 1) A := JM9.set hR eM13
                          have fM13 : RFr R M9 M13 := RFr.s0 eM13
                          refine j_aload_n d_Mo_run2_206 rfl 3 rfl ?_
                          refine j_aload_n d_Mo_run2_207 rfl 3 rfl ?_
                          refine j_get F_Mo hM13__R_0_ 11 (by decide) w_954 (Or.inl rfl) rfl d_Mo_run2_208 ?_
                          refine j_callV (As := [.int (nI (dp - 1))]) (rest := []) (r_isTrue Γ.l JM13 (dp - 1) (by omega)) Y_Mo_isTrue w_1023 w_1025 ws_31 hM13__R_0_ rfl rfl rfl (Nat.le_of_ble_eq_true rfl) (by omega) (by omega) (by omega) d_Mo_run2_211 (fun v211 N211 p211 => ?_)
                          obtain ⟨rfl, q211⟩ := p211
                          obtain rfl := q211.symm
                          show mp_J Γ m_Mo_run2 E κ M13 [(8, .int (nI 0)), (6, .int (nI (p + 1))), (7, .int (nI (ub (g p)))), (0, .ref (R 0)), (1, .ref (R 1)), (2, .int (nI f)), (3, .int (nI q)), (4, .int (nI b.length)), (5, .int (nI (offs b)))] 214 [.int (tf (am_true (A (dp - 1))))] 0 0
                          refine j_iload d_Mo_run2_214 2 rfl ?_
                          refine j_bipush (v := nI 99) d_Mo_run2_216 (by decide) ?_
                          refine j_ncmp_ne 225 (ub (g p)) 99 rfl rfl (by omega) (by omega) d_Mo_run2_218 (by decide) (fun b218 => ?_) (fun b218 => ?_)
                          · skip
                            refine j_iconst (v := nI 0) d_Mo_run2_225 (by decide) ?_
                            refine j_icmp_ne 233 d_Mo_run2_226 (by decide) (fun b226 => ?_) (fun b226 => ?_)
                            · skip
                              refine j_iconst (v := nI 0) d_Mo_run2_233 (by decide) ?_
                              refine j_istore [(8, .int (nI 0)), (6, .int (nI (p + 1))), (7, .int (nI (ub (g p)))), (0, .ref (R 0)), (1, .ref (R 1)), (2, .int (nI f)), (3, .int (nI q)), (4, .int (nI b.length)), (5, .int (nI (offs b)))] d_Mo_run2_234 (by decide) rfl ?_
                              refine j_aload_n d_Mo_run2_236 rfl 3 rfl ?_
                              refine j_get F_Mo hM13__R_0_ 14 (by decide) w_957 (Or.inl rfl) rfl d_Mo_run2_237 ?_
                              refine j_iload d_Mo_run2_240 7 rfl ?_
                              refine j_iload d_Mo_run2_242 0 rfl ?_
                              refine j_zast (y := nI 0) hM13__R_10_ b.length rfl (by omega) (by omega) rfl d_Mo_run2_244 ?_
                              generalize eM14 : mp_up M13 (R 10) (mp_z E 1001 (upd fk b.length (nI 0))) = M14
                              have hM14__R_1_ : M14 (R 1) = some (mp_b E 1000 g) := by rw [← eM14, mp_n (hR.ne (by decide) (by decide) (by decide))]; exact hM13__R_1_
                              have hM14__R_0_ : M14 (R 0) = some (mp_o 7 [.ref (R 1), .int (nI rows), .int thr, .ref (R 2), .ref (R 3), .ref (R 4), .ref (R 5), .ref (R 6), .ref (R 7), .ref (R 8), .ref (R 9), .int (nI (dp - 1)), .int (nI as_), .int (nI (k + 1)), .ref (R 10)]) := by rw [← eM14, mp_n (hR.ne (by decide) (by decide) (by decide))]; exact hM13__R_0_
                              have hM14__R_10_ : M14 (R 10) = some (mp_z E 1001 (upd fk b.length (nI 0))) := by rw [← eM14]; exact mp_s
                              have JM14 : RI E M14 R rows thr (dp - 1) as_ (k + 1) A := JM13.tk hR eM14
                              refine j_iinc (v := nI (b.length + 1)) [(4, .int (nI (b.length + 1))), (8, .int (nI 0)), (6, .int (nI (p + 1))), (7, .int (nI (ub (g p)))), (0, .ref (R 0)), (1, .ref (R 1)), (2, .int (nI f)), (3, .int (nI q)), (5, .int (nI (offs b)))] d_Mo_run2_245 7 rfl (nI_add b.length 1) (by decide) rfl ?_
                              refine j_iload d_Mo_run2_248 1 rfl ?_
                              refine j_nif_ne 256 0 rfl (by omega) d_Mo_run2_250 (by decide) (fun b250 => (by first | exact b250.elim | exact absurd b250 (by omega))) (fun b250 => ?_)
                              refine j_iinc (v := nI ((offs b) + 1)) [(5, .int (nI ((offs b) + 1))), (4, .int (nI (b.length + 1))), (8, .int (nI 0)), (6, .int (nI (p + 1))), (7, .int (nI (ub (g p)))), (0, .ref (R 0)), (1, .ref (R 1)), (2, .int (nI f)), (3, .int (nI q))] d_Mo_run2_253 8 rfl (nI_add (offs b) 1) (by decide) rfl ?_
                              refine j_goto (tgt := 351) d_Mo_run2_256 (by decide) ?_
                              refine j_aload_n d_Mo_run2_351 rfl 5 rfl ?_
                              refine j_get F_Mo hM14__R_0_ 11 (by decide) w_954 (Or.inl rfl) rfl d_Mo_run2_352 ?_
                              refine j_aload_n d_Mo_run2_355 rfl 5 rfl ?_
                              refine j_get F_Mo hM14__R_0_ 12 (by decide) w_955 (Or.inl rfl) rfl d_Mo_run2_356 ?_
                              have h1 : am_one g (f + q) p (LM A dp) (LO A as_) b (am_kp g p k) = some (LM A (dp - 1), LO A as_, (false :: b), k + 1) := by unfold am_one; rw [if_pos (by omega)]; unfold a_br; rw [if_neg b218, if_pos (by omega)]; unfold a_enter; rw [if_neg (fun z => z ((offs_low b (by omega)).mpr b184)), if_pos (by rw [LM_len]; omega), g0 (by omega), LM_drop (by omega), am_eqf (z := false) b226, hkp]
                              refine j_iadd d_Mo_run2_359 ?_
                              refine j_eqi (y := nI ((dp - 1) + as_)) (nI_add (dp - 1) as_) ?_
                              refine j_sipush (v := nI 200) d_Mo_run2_360 (by decide) ?_
                              refine j_ncmp_le 368 ((dp - 1) + as_) 200 rfl rfl (by omega) (by omega) d_Mo_run2_363 (by decide) (fun b363 => ?_) (fun b363 => ?_)
                              · skip
                                refine j_goto (tgt := 19) d_Mo_run2_368 (by decide) ?_
                                refine j_lv [5, 6, 7, 8, 1, 0, 3] rfl ?_
                                have h3 : dp - 1 + as_ ≤ 200 := by omega
                                have h2 : (false :: b).length ≤ k + 1 ∧ k + 1 ≤ 201 := by first | omega | (simp only [List.length_cons]; omega) | (simp only [List.length_cons] at *; omega)
                                exact ih M14 (upd fk b.length (nI 0)) (dp - 1) as_ (k + 1) A (false :: b) (p + 1) (by omega) JM14 hM14__R_1_ hM14__R_10_ ⟨(by rw [pk_us]; rfl), TK_up (Nat.le_refl _) htk⟩ (((fr.trans fM9.z).trans fM13.z).trans (RFz.up eM14)) h3 h2 (by omega) (by omega) (by rw [show (p + 1) = p + cd_car g p (f + q) + 1 by omega]; exact (am_run_s (by omega) (am_step_t (m := LM A dp) (o := LO A as_) (b := b) (k := k) (by omega) (by omega) h1 (by show (LM _ _).length + (LO _ _).length ≤ 200; rw [LM_len, LO_len]; exact h3))).symm.trans he)
                              · skip
                                refine j_iconst (v := nI 0) d_Mo_run2_366 (by decide) ?_
                                exact j_zret hκ rfl (by first | exact Or.inl rfl | exact Or.inr rfl) (by omega) (by omega) d_Mo_run2_367 (RP.f JM14 hM14__R_1_ hM14__R_10_ (((fr.trans fM9.z).trans fM13.z).trans (RFz.up eM14)) (he.symm.trans (am_run_n (by omega) (am_step_f (m := LM A dp) (o := LO A as_) (b := b) (k := k) (Or.inr (Or.inr (fun s hs => by rw [h1] at hs; cases hs; show 200 < (LM _ _).length + (LO _ _).length; rw [LM_len, LO_len]; omega)))))))
                            · skip
                              refine j_iconst (v := nI 1) d_Mo_run2_229 (by decide) ?_
                              refine j_goto (tgt := 234) d_Mo_run2_230 (by decide) ?_
                              refine j_istore [(8, .int (nI 1)), (6, .int (nI (p + 1))), (7, .int (nI (ub (g p)))), (0, .ref (R 0)), (1, .ref (R 1)), (2, .int (nI f)), (3, .int (nI q)), (4, .int (nI b.length)), (5, .int (nI (offs b)))] d_Mo_run2_234 (by decide) rfl ?_
                              refine j_aload_n d_Mo_run2_236 rfl 3 rfl ?_
                              refine j_get F_Mo hM13__R_0_ 14 (by decide) w_957 (Or.inl rfl) rfl d_Mo_run2_237 ?_
                              refine j_iload d_Mo_run2_240 7 rfl ?_
                              refine j_iload d_Mo_run2_242 0 rfl ?_
                              refine j_zast (y := nI 1) hM13__R_10_ b.length rfl (by omega) (by omega) rfl d_Mo_run2_244 ?_
                              generalize eM15 : mp_up M13 (R 10) (mp_z E 1001 (upd fk b.length (nI 1))) = M15
                              have hM15__R_1_ : M15 (R 1) = some (mp_b E 1000 g) := by rw [← eM15, mp_n (hR.ne (by decide) (by decide) (by decide))]; exact hM13__R_1_
                              have hM15__R_0_ : M15 (R 0) = some (mp_o 7 [.ref (R 1), .int (nI rows), .int thr, .ref (R 2), .ref (R 3), .ref (R 4), .ref (R 5), .ref (R 6), .ref (R 7), .ref (R 8), .ref (R 9), .int (nI (dp - 1)), .int (nI as_), .int (nI (k + 1)), .ref (R 10)]) := by rw [← eM15, mp_n (hR.ne (by decide) (by decide) (by decide))]; exact hM13__R_0_
                              have hM15__R_10_ : M15 (R 10) = some (mp_z E 1001 (upd fk b.length (nI 1))) := by rw [← eM15]; exact mp_s
                              have JM15 : RI E M15 R rows thr (dp - 1) as_ (k + 1) A := JM13.tk hR eM15
                              refine j_iinc (v := nI (b.length + 1)) [(4, .int (nI (b.length + 1))), (8, .int (nI 1)), (6, .int (nI (p + 1))), (7, .int (nI (ub (g p)))), (0, .ref (R 0)), (1, .ref (R 1)), (2, .int (nI f)), (3, .int (nI q)), (5, .int (nI (offs b)))] d_Mo_run2_245 7 rfl (nI_add b.length 1) (by decide) rfl ?_
                              refine j_iload d_Mo_run2_248 1 rfl ?_
                              refine j_nif_ne 256 1 rfl (by omega) d_Mo_run2_250 (by decide) (fun b250 => ?_) (fun b250 => (by first | exact b250.elim | exact absurd b250 (by omega)))
                              refine j_goto (tgt := 351) d_Mo_run2_256 (by decide) ?_
                              refine j_aload_n d_Mo_run2_351 rfl 4 rfl ?_
                              refine j_get F_Mo hM15__R_0_ 11 (by decide) w_954 (Or.inl rfl) rfl d_Mo_run2_352 ?_
                              refine j_aload_n d_Mo_run2_355 rfl 4 rfl ?_
                              refine j_get F_Mo hM15__R_0_ 12 (by decide) w_955 (Or.inl rfl) rfl d_Mo_run2_356 ?_
                              have h1 : am_one g (f + q) p (LM A dp) (LO A as_) b (am_kp g p k) = some (LM A (dp - 1), LO A as_, (true :: b), k + 1) := by unfold am_one; rw [if_pos (by omega)]; unfold a_br; rw [if_neg b218, if_pos (by omega)]; unfold a_enter; rw [if_neg (fun z => z ((offs_low b (by omega)).mpr b184)), if_pos (by rw [LM_len]; omega), g0 (by omega), LM_drop (by omega), am_eqt (z := false) b226, hkp]
                              refine j_iadd d_Mo_run2_359 ?_
                              refine j_eqi (y := nI ((dp - 1) + as_)) (nI_add (dp - 1) as_) ?_
                              refine j_sipush (v := nI 200) d_Mo_run2_360 (by decide) ?_
                              refine j_ncmp_le 368 ((dp - 1) + as_) 200 rfl rfl (by omega) (by omega) d_Mo_run2_363 (by decide) (fun b363 => ?_) (fun b363 => ?_)
                              · skip
                                refine j_goto (tgt := 19) d_Mo_run2_368 (by decide) ?_
                                refine j_lv [4, 5, 6, 7, 0, 8, 2] rfl ?_
                                have h3 : dp - 1 + as_ ≤ 200 := by omega
                                have h2 : (true :: b).length ≤ k + 1 ∧ k + 1 ≤ 201 := by first | omega | (simp only [List.length_cons]; omega) | (simp only [List.length_cons] at *; omega)
                                exact ih M15 (upd fk b.length (nI 1)) (dp - 1) as_ (k + 1) A (true :: b) (p + 1) (by omega) JM15 hM15__R_1_ hM15__R_10_ ⟨(by rw [pk_us]; rfl), TK_up (Nat.le_refl _) htk⟩ (((fr.trans fM9.z).trans fM13.z).trans (RFz.up eM15)) h3 h2 (by omega) (by omega) (by rw [show (p + 1) = p + cd_car g p (f + q) + 1 by omega]; exact (am_run_s (by omega) (am_step_t (m := LM A dp) (o := LO A as_) (b := b) (k := k) (by omega) (by omega) h1 (by show (LM _ _).length + (LO _ _).length ≤ 200; rw [LM_len, LO_len]; exact h3))).symm.trans he)
                              · skip
                                refine j_iconst (v := nI 0) d_Mo_run2_366 (by decide) ?_
                                exact j_zret hκ rfl (by first | exact Or.inl rfl | exact Or.inr rfl) (by omega) (by omega) d_Mo_run2_367 (RP.f JM15 hM15__R_1_ hM15__R_10_ (((fr.trans fM9.z).trans fM13.z).trans (RFz.up eM15)) (he.symm.trans (am_run_n (by omega) (am_step_f (m := LM A dp) (o := LO A as_) (b := b) (k := k) (Or.inr (Or.inr (fun s hs => by rw [h1] at hs; cases hs; show 200 < (LM _ _).length + (LO _ _).length; rw [LM_len, LO_len]; omega)))))))
                          · skip
                            refine j_iconst (v := nI 1) d_Mo_run2_221 (by decide) ?_
                            refine j_goto (tgt := 226) d_Mo_run2_222 (by decide) ?_
                            refine j_icmp_ne 233 d_Mo_run2_226 (by decide) (fun b226 => ?_) (fun b226 => ?_)
                            · skip
                              refine j_iconst (v := nI 0) d_Mo_run2_233 (by decide) ?_
                              refine j_istore [(8, .int (nI 0)), (6, .int (nI (p + 1))), (7, .int (nI (ub (g p)))), (0, .ref (R 0)), (1, .ref (R 1)), (2, .int (nI f)), (3, .int (nI q)), (4, .int (nI b.length)), (5, .int (nI (offs b)))] d_Mo_run2_234 (by decide) rfl ?_
                              refine j_aload_n d_Mo_run2_236 rfl 3 rfl ?_
                              refine j_get F_Mo hM13__R_0_ 14 (by decide) w_957 (Or.inl rfl) rfl d_Mo_run2_237 ?_
                              refine j_iload d_Mo_run2_240 7 rfl ?_
                              refine j_iload d_Mo_run2_242 0 rfl ?_
                              refine j_zast (y := nI 0) hM13__R_10_ b.length rfl (by omega) (by omega) rfl d_Mo_run2_244 ?_
                              generalize eM16 : mp_up M13 (R 10) (mp_z E 1001 (upd fk b.length (nI 0))) = M16
                              have hM16__R_1_ : M16 (R 1) = some (mp_b E 1000 g) := by rw [← eM16, mp_n (hR.ne (by decide) (by decide) (by decide))]; exact hM13__R_1_
                              have hM16__R_0_ : M16 (R 0) = some (mp_o 7 [.ref (R 1), .int (nI rows), .int thr, .ref (R 2), .ref (R 3), .ref (R 4), .ref (R 5), .ref (R 6), .ref (R 7), .ref (R 8), .ref (R 9), .int (nI (dp - 1)), .int (nI as_), .int (nI (k + 1)), .ref (R 10)]) := by rw [← eM16, mp_n (hR.ne (by decide) (by decide) (by decide))]; exact hM13__R_0_
                              have hM16__R_10_ : M16 (R 10) = some (mp_z E 1001 (upd fk b.length (nI 0))) := by rw [← eM16]; exact mp_s
                              have JM16 : RI E M16 R rows thr (dp - 1) as_ (k + 1) A := JM13.tk hR eM16
                              refine j_iinc (v := nI (b.length + 1)) [(4, .int (nI (b.length + 1))), (8, .int (nI 0)), (6, .int (nI (p + 1))), (7, .int (nI (ub (g p)))), (0, .ref (R 0)), (1, .ref (R 1)), (2, .int (nI f)), (3, .int (nI q)), (5, .int (nI (offs b)))] d_Mo_run2_245 7 rfl (nI_add b.length 1) (by decide) rfl ?_
                              refine j_iload d_Mo_run2_248 1 rfl ?_
                              refine j_nif_ne 256 0 rfl (by omega) d_Mo_run2_250 (by decide) (fun b250 => (by first | exact b250.elim | exact absurd b250 (by omega))) (fun b250 => ?_)
                              refine j_iinc (v := nI ((offs b) + 1)) [(5, .int (nI ((offs b) + 1))), (4, .int (nI (b.length + 1))), (8, .int (nI 0)), (6, .int (nI (p + 1))), (7, .int (nI (ub (g p)))), (0, .ref (R 0)), (1, .ref (R 1)), (2, .int (nI f)), (3, .int (nI q))] d_Mo_run2_253 8 rfl (nI_add (offs b) 1) (by decide) rfl ?_
                              refine j_goto (tgt := 351) d_Mo_run2_256 (by decide) ?_
                              refine j_aload_n d_Mo_run2_351 rfl 5 rfl ?_
                              refine j_get F_Mo hM16__R_0_ 11 (by decide) w_954 (Or.inl rfl) rfl d_Mo_run2_352 ?_
                              refine j_aload_n d_Mo_run2_355 rfl 5 rfl ?_
                              refine j_get F_Mo hM16__R_0_ 12 (by decide) w_955 (Or.inl rfl) rfl d_Mo_run2_356 ?_
                              have h1 : am_one g (f + q) p (LM A dp) (LO A as_) b (am_kp g p k) = some (LM A (dp - 1), LO A as_, (false :: b), k + 1) := by unfold am_one; rw [if_pos (by omega)]; unfold a_br; rw [if_pos b218]; unfold a_enter; rw [if_neg (fun z => z ((offs_low b (by omega)).mpr b184)), if_pos (by rw [LM_len]; omega), g0 (by omega), LM_drop (by omega), am_eqf (z := true) b226, hkp]
                              refine j_iadd d_Mo_run2_359 ?_
                              refine j_eqi (y := nI ((dp - 1) + as_)) (nI_add (dp - 1) as_) ?_
                              refine j_sipush (v := nI 200) d_Mo_run2_360 (by decide) ?_
                              refine j_ncmp_le 368 ((dp - 1) + as_) 200 rfl rfl (by omega) (by omega) d_Mo_run2_363 (by decide) (fun b363 => ?_) (fun b363 => ?_)
                              · skip
                                refine j_goto (tgt := 19) d_Mo_run2_368 (by decide) ?_
                                refine j_lv [5, 6, 7, 8, 1, 0, 3] rfl ?_
                                have h3 : dp - 1 + as_ ≤ 200 := by omega
                                have h2 : (false :: b).length ≤ k + 1 ∧ k + 1 ≤ 201 := by first | omega | (simp only [List.length_cons]; omega) | (simp only [List.length_cons] at *; omega)
                                exact ih M16 (upd fk b.length (nI 0)) (dp - 1) as_ (k + 1) A (false :: b) (p + 1) (by omega) JM16 hM16__R_1_ hM16__R_10_ ⟨(by rw [pk_us]; rfl), TK_up (Nat.le_refl _) htk⟩ (((fr.trans fM9.z).trans fM13.z).trans (RFz.up eM16)) h3 h2 (by omega) (by omega) (by rw [show (p + 1) = p + cd_car g p (f + q) + 1 by omega]; exact (am_run_s (by omega) (am_step_t (m := LM A dp) (o := LO A as_) (b := b) (k := k) (by omega) (by omega) h1 (by show (LM _ _).length + (LO _ _).length ≤ 200; rw [LM_len, LO_len]; exact h3))).symm.trans he)
                              · skip
                                refine j_iconst (v := nI 0) d_Mo_run2_366 (by decide) ?_
                                exact j_zret hκ rfl (by first | exact Or.inl rfl | exact Or.inr rfl) (by omega) (by omega) d_Mo_run2_367 (RP.f JM16 hM16__R_1_ hM16__R_10_ (((fr.trans fM9.z).trans fM13.z).trans (RFz.up eM16)) (he.symm.trans (am_run_n (by omega) (am_step_f (m := LM A dp) (o := LO A as_) (b := b) (k := k) (Or.inr (Or.inr (fun s hs => by rw [h1] at hs; cases hs; show 200 < (LM _ _).length + (LO _ _).length; rw [LM_len, LO_len]; omega)))))))
                            · skip
                              refine j_iconst (v := nI 1) d_Mo_run2_229 (by decide) ?_
                              refine j_goto (tgt := 234) d_Mo_run2_230 (by decide) ?_
                              refine j_istore [(8, .int (nI 1)), (6, .int (nI (p + 1))), (7, .int (nI (ub (g p)))), (0, .ref (R 0)), (1, .ref (R 1)), (2, .int (nI f)), (3, .int (nI q)), (4, .int (nI b.length)), (5, .int (nI (offs b)))] d_Mo_run2_234 (by decide) rfl ?_
                              refine j_aload_n d_Mo_run2_236 rfl 3 rfl ?_
                              refine j_get F_Mo hM13__R_0_ 14 (by decide) w_957 (Or.inl rfl) rfl d_Mo_run2_237 ?_
                              refine j_iload d_Mo_run2_240 7 rfl ?_
                              refine j_iload d_Mo_run2_242 0 rfl ?_
                              refine j_zast (y := nI 1) hM13__R_10_ b.length rfl (by omega) (by omega) rfl d_Mo_run2_244 ?_
                              generalize eM17 : mp_up M13 (R 10) (mp_z E 1001 (upd fk b.length (nI 1))) = M17
                              have hM17__R_1_ : M17 (R 1) = some (mp_b E 1000 g) := by rw [← eM17, mp_n (hR.ne (by decide) (by decide) (by decide))]; exact hM13__R_1_
                              have hM17__R_0_ : M17 (R 0) = some (mp_o 7 [.ref (R 1), .int (nI rows), .int thr, .ref (R 2), .ref (R 3), .ref (R 4), .ref (R 5), .ref (R 6), .ref (R 7), .ref (R 8), .ref (R 9), .int (nI (dp - 1)), .int (nI as_), .int (nI (k + 1)), .ref (R 10)]) := by rw [← eM17, mp_n (hR.ne (by decide) (by decide) (by decide))]; exact hM13__R_0_
                              have hM17__R_10_ : M17 (R 10) = some (mp_z E 1001 (upd fk b.length (nI 1))) := by rw [← eM17]; exact mp_s
                              have JM17 : RI E M17 R rows thr (dp - 1) as_ (k + 1) A := JM13.tk hR eM17
                              refine j_iinc (v := nI (b.length + 1)) [(4, .int (nI (b.length + 1))), (8, .int (nI 1)), (6, .int (nI (p + 1))), (7, .int (nI (ub (g p)))), (0, .ref (R 0)), (1, .ref (R 1)), (2, .int (nI f)), (3, .int (nI q)), (5, .int (nI (offs b)))] d_Mo_run2_245 7 rfl (nI_add b.length 1) (by decide) rfl ?_
                              refine j_iload d_Mo_run2_248 1 rfl ?_
                              refine j_nif_ne 256 1 rfl (by omega) d_Mo_run2_250 (by decide) (fun b250 => ?_) (fun b250 => (by first | exact b250.elim | exact absurd b250 (by omega)))
                              refine j_goto (tgt := 351) d_Mo_run2_256 (by decide) ?_
                              refine j_aload_n d_Mo_run2_351 rfl 4 rfl ?_
                              refine j_get F_Mo hM17__R_0_ 11 (by decide) w_954 (Or.inl rfl) rfl d_Mo_run2_352 ?_
                              refine j_aload_n d_Mo_run2_355 rfl 4 rfl ?_
                              refine j_get F_Mo hM17__R_0_ 12 (by decide) w_955 (Or.inl rfl) rfl d_Mo_run2_356 ?_
                              have h1 : am_one g (f + q) p (LM A dp) (LO A as_) b (am_kp g p k) = some (LM A (dp - 1), LO A as_, (true :: b), k + 1) := by unfold am_one; rw [if_pos (by omega)]; unfold a_br; rw [if_pos b218]; unfold a_enter; rw [if_neg (fun z => z ((offs_low b (by omega)).mpr b184)), if_pos (by rw [LM_len]; omega), g0 (by omega), LM_drop (by omega), am_eqt (z := true) b226, hkp]
                              refine j_iadd d_Mo_run2_359 ?_
                              refine j_eqi (y := nI ((dp - 1) + as_)) (nI_add (dp - 1) as_) ?_
                              refine j_sipush (v := nI 200) d_Mo_run2_360 (by decide) ?_
                              refine j_ncmp_le 368 ((dp - 1) + as_) 200 rfl rfl (by omega) (by omega) d_Mo_run2_363 (by decide) (fun b363 => ?_) (fun b363 => ?_)
                              · skip
                                refine j_goto (tgt := 19) d_Mo_run2_368 (by decide) ?_
                                refine j_lv [4, 5, 6, 7, 0, 8, 2] rfl ?_
                                have h3 : dp - 1 + as_ ≤ 200 := by omega
                                have h2 : (true :: b).length ≤ k + 1 ∧ k + 1 ≤ 201 := by first | omega | (simp only [List.length_cons]; omega) | (simp only [List.length_cons] at *; omega)
                                exact ih M17 (upd fk b.length (nI 1)) (dp - 1) as_ (k + 1) A (true :: b) (p + 1) (by omega) JM17 hM17__R_1_ hM17__R_10_ ⟨(by rw [pk_us]; rfl), TK_up (Nat.le_refl _) htk⟩ (((fr.trans fM9.z).trans fM13.z).trans (RFz.up eM17)) h3 h2 (by omega) (by omega) (by rw [show (p + 1) = p + cd_car g p (f + q) + 1 by omega]; exact (am_run_s (by omega) (am_step_t (m := LM A dp) (o := LO A as_) (b := b) (k := k) (by omega) (by omega) h1 (by show (LM _ _).length + (LO _ _).length ≤ 200; rw [LM_len, LO_len]; exact h3))).symm.trans he)
                              · skip
                                refine j_iconst (v := nI 0) d_Mo_run2_366 (by decide) ?_
                                exact j_zret hκ rfl (by first | exact Or.inl rfl | exact Or.inr rfl) (by omega) (by omega) d_Mo_run2_367 (RP.f JM17 hM17__R_1_ hM17__R_10_ (((fr.trans fM9.z).trans fM13.z).trans (RFz.up eM17)) (he.symm.trans (am_run_n (by omega) (am_step_f (m := LM A dp) (o := LO A as_) (b := b) (k := k) (Or.inr (Or.inr (fun s hs => by rw [h1] at hs; cases hs; show 200 < (LM _ _).length + (LO _ _).length; rw [LM_len, LO_len]; omega)))))))
                        · skip
                          refine j_iconst (v := nI 0) d_Mo_run2_194 (by decide) ?_
                          exact j_zret hκ rfl (by first | exact Or.inl rfl | exact Or.inr rfl) (by omega) (by omega) d_Mo_run2_195 (RP.f JM9 hM9__R_1_ hM9__R_10_ (fr.trans fM9.z) (he.symm.trans (am_run_n (by omega) (am_step_f (m := LM A dp) (o := LO A as_) (b := b) (k := k) (Or.inr (Or.inr (fun s hs => by exfalso; rcases (show ub (g p) = 99 ∨ ub (g p) = 100 by omega) with h9 | h9 <;> (unfold am_one at hs; rw [if_pos (by omega)] at hs; unfold a_br at hs; (first | rw [if_pos (show ub (g p) = 99 from h9)] at hs | rw [if_neg (show ¬ ub (g p) = 99 by omega), if_pos h9] at hs); unfold a_enter at hs; rw [if_neg (fun z => z ((offs_low b (by omega)).mpr b184)), if_neg (by rw [LM_len]; omega)] at hs; cases hs))))))))
          · skip
            refine j_iconst (v := nI 0) d_Mo_run2_142 (by decide) ?_
            exact j_zret hκ rfl (by first | exact Or.inl rfl | exact Or.inr rfl) (by omega) (by omega) d_Mo_run2_143 (RP.f JM9 hM9__R_1_ hM9__R_10_ (fr.trans fM9.z) (he.symm.trans (am_run_n (by omega) (am_step_f (m := LM A dp) (o := LO A as_) (b := b) (k := k) (Or.inr (Or.inl (by omega)))))))
      · skip
        have hkp : am_kp g p k = k := by unfold am_kp; rw [if_neg (by omega)]; rfl
        refine j_iload d_Mo_run2_47 1 rfl ?_
        refine j_istore [(8, .int (nI (ub (g p)))), (6, .int (nI (p + 1))), (7, .int (nI (ub (g p)))), (0, .ref (R 0)), (1, .ref (R 1)), (2, .int (nI f)), (3, .int (nI q)), (4, .int (nI b.length)), (5, .int (nI (offs b)))] d_Mo_run2_49 (by decide) rfl ?_
        refine j_iload d_Mo_run2_51 2 rfl ?_
        refine j_bipush (v := nI 76) d_Mo_run2_53 (by decide) ?_
        refine j_ncmp_ne 81 (ub (g p)) 76 rfl rfl (by omega) (by omega) d_Mo_run2_55 (by decide) (fun b55 => ?_) (fun b55 => ?_)
        · skip
          have hcar : cd_car g p (f + q) = ub (g p) := ca_1 (by omega)
          refine j_iload d_Mo_run2_81 0 rfl ?_
          refine j_iload_n d_Mo_run2_83 rfl 5 rfl ?_
          refine j_iload_n d_Mo_run2_84 rfl 6 rfl ?_
          refine j_iadd d_Mo_run2_85 ?_
          refine j_eqi (y := nI (f + q)) (nI_add f q) ?_
          refine j_iload d_Mo_run2_86 1 rfl ?_
          refine j_isub d_Mo_run2_88 ?_
          refine j_eqi (y := nI ((f + q) - (p + 1))) (pk_sub (by omega)) ?_
          refine j_ncmp_le 94 (ub (g p)) ((f + q) - (p + 1)) rfl rfl (by omega) (by omega) d_Mo_run2_89 (by decide) (fun b89 => ?_) (fun b89 => ?_)
          · skip
            refine j_iload d_Mo_run2_94 8 rfl ?_
            refine j_nif_ne 108 (offs b) rfl (by omega) d_Mo_run2_96 (by decide) (fun b96 => ?_) (fun b96 => ?_)
            · skip
              refine j_iload d_Mo_run2_108 1 rfl ?_
              refine j_iload d_Mo_run2_110 0 rfl ?_
              refine j_iadd d_Mo_run2_112 ?_
              refine j_eqi (y := nI ((p + 1) + (ub (g p)))) (nI_add (p + 1) (ub (g p))) ?_
              refine j_istore [(6, .int (nI ((p + 1) + (ub (g p))))), (8, .int (nI (ub (g p)))), (7, .int (nI (ub (g p)))), (0, .ref (R 0)), (1, .ref (R 1)), (2, .int (nI f)), (3, .int (nI q)), (4, .int (nI b.length)), (5, .int (nI (offs b)))] d_Mo_run2_113 (by decide) rfl ?_
              refine j_goto (tgt := 351) d_Mo_run2_115 (by decide) ?_
              refine j_aload_n d_Mo_run2_351 rfl 3 rfl ?_
              refine j_get F_Mo hI.1 11 (by decide) w_954 (Or.inl rfl) rfl d_Mo_run2_352 ?_
              refine j_aload_n d_Mo_run2_355 rfl 3 rfl ?_
              refine j_get F_Mo hI.1 12 (by decide) w_955 (Or.inl rfl) rfl d_Mo_run2_356 ?_
              have h1 : am_one g (f + q) p (LM A dp) (LO A as_) b (am_kp g p k) = some (LM A dp, LO A as_, b, k) := by unfold am_one; rw [if_neg (by omega), if_neg (fun z => b96 ((offs_low b (by omega)).mp z)), hkp]
              refine j_iadd d_Mo_run2_359 ?_
              refine j_eqi (y := nI (dp + as_)) (nI_add dp as_) ?_
              refine j_sipush (v := nI 200) d_Mo_run2_360 (by decide) ?_
              refine j_ncmp_le 368 (dp + as_) 200 rfl rfl (by omega) (by omega) d_Mo_run2_363 (by decide) (fun b363 => ?_) (fun b363 => ?_)
              · skip
                refine j_goto (tgt := 19) d_Mo_run2_368 (by decide) ?_
                refine j_lv [3, 4, 5, 6, 7, 8, 0] rfl ?_
                have h3 : dp + as_ ≤ 200 := by omega
                have h2 : b.length ≤ k ∧ k ≤ 201 := by first | omega | (simp only [List.length_cons]; omega) | (simp only [List.length_cons] at *; omega)
                exact ih Mx fk dp as_ k A b ((p + 1) + (ub (g p))) (by omega) hI hr1 hr10 htk fr h3 h2 (by omega) (by omega) (by rw [show ((p + 1) + (ub (g p))) = p + cd_car g p (f + q) + 1 by omega]; exact (am_run_s (by omega) (am_step_t (m := LM A dp) (o := LO A as_) (b := b) (k := k) (by omega) (by omega) h1 (by show (LM _ _).length + (LO _ _).length ≤ 200; rw [LM_len, LO_len]; exact h3))).symm.trans he)
              · skip
                refine j_iconst (v := nI 0) d_Mo_run2_366 (by decide) ?_
                exact j_zret hκ rfl (by first | exact Or.inl rfl | exact Or.inr rfl) (by omega) (by omega) d_Mo_run2_367 (RP.f hI hr1 hr10 fr (he.symm.trans (am_run_n (by omega) (am_step_f (m := LM A dp) (o := LO A as_) (b := b) (k := k) (Or.inr (Or.inr (fun s hs => by rw [h1] at hs; cases hs; show 200 < (LM _ _).length + (LO _ _).length; rw [LM_len, LO_len]; omega)))))))
            · skip
              refine j_aload_n d_Mo_run2_99 rfl 3 rfl ?_
              refine j_aload_n d_Mo_run2_100 rfl 4 rfl ?_
              refine j_iload d_Mo_run2_101 1 rfl ?_
              refine j_iload d_Mo_run2_103 0 rfl ?_
              refine j_callV (As := [.ref (R 1), .int (nI (p + 1)), .int (nI (ub (g p)))]) (rest := []) (r_push Γ.l hI hR (R 1) 1000 (p + 1) (ub (g p)) (am_pf g p (ub (g p))) g (pf_1 (c := ub (g p)) (by omega)).1 hr1 (by decide) hfit (by omega) (by omega) (by omega) (hR.ne (by decide) (by decide) (by decide)) (hR.ne (by decide) (by decide) (by decide)) (pf_1 (c := ub (g p)) (by omega)).2) Y_Mo_push w_1019 w_1021 ws_30 hI.1 rfl rfl rfl (Nat.le_of_ble_eq_true rfl) (by omega) (by omega) (by omega) d_Mo_run2_105 (fun v105 N105 p105 => ?_)
              obtain ⟨rfl, I105, f105⟩ := p105
              have k105__R_1_ : N105 (R 1) = some (mp_b E 1000 g) := (f105.k hR (by decide) (by decide) (by decide)).trans hr1
              have k105__R_10_ : N105 (R 10) = some (mp_z E 1001 fk) := (f105.k hR (by decide) (by decide) (by decide)).trans hr10
              show mp_J Γ m_Mo_run2 E κ N105 [(8, .int (nI (ub (g p)))), (6, .int (nI (p + 1))), (7, .int (nI (ub (g p)))), (0, .ref (R 0)), (1, .ref (R 1)), (2, .int (nI f)), (3, .int (nI q)), (4, .int (nI b.length)), (5, .int (nI (offs b)))] 108 [] 0 0
              refine j_iload d_Mo_run2_108 1 rfl ?_
              refine j_iload d_Mo_run2_110 0 rfl ?_
              refine j_iadd d_Mo_run2_112 ?_
              refine j_eqi (y := nI ((p + 1) + (ub (g p)))) (nI_add (p + 1) (ub (g p))) ?_
              refine j_istore [(6, .int (nI ((p + 1) + (ub (g p))))), (8, .int (nI (ub (g p)))), (7, .int (nI (ub (g p)))), (0, .ref (R 0)), (1, .ref (R 1)), (2, .int (nI f)), (3, .int (nI q)), (4, .int (nI b.length)), (5, .int (nI (offs b)))] d_Mo_run2_113 (by decide) rfl ?_
              refine j_goto (tgt := 351) d_Mo_run2_115 (by decide) ?_
              refine j_aload_n d_Mo_run2_351 rfl 3 rfl ?_
              refine j_get F_Mo I105.1 11 (by decide) w_954 (Or.inl rfl) rfl d_Mo_run2_352 ?_
              refine j_aload_n d_Mo_run2_355 rfl 3 rfl ?_
              refine j_get F_Mo I105.1 12 (by decide) w_955 (Or.inl rfl) rfl d_Mo_run2_356 ?_
              have h1 : am_one g (f + q) p (LM A dp) (LO A as_) b (am_kp g p k) = some (LM (upA A dp (am_pf g p (ub (g p)))) (dp + 1), LO (upA A dp (am_pf g p (ub (g p)))) as_, b, k) := by unfold am_one; rw [if_neg (by omega), if_pos ((offs_low b (by omega)).mpr b96), if_pos (by omega), hkp, hcar, LM_push, LO_up (by omega)]
              refine j_iadd d_Mo_run2_359 ?_
              refine j_eqi (y := nI ((dp + 1) + as_)) (nI_add (dp + 1) as_) ?_
              refine j_sipush (v := nI 200) d_Mo_run2_360 (by decide) ?_
              refine j_ncmp_le 368 ((dp + 1) + as_) 200 rfl rfl (by omega) (by omega) d_Mo_run2_363 (by decide) (fun b363 => ?_) (fun b363 => ?_)
              · skip
                refine j_goto (tgt := 19) d_Mo_run2_368 (by decide) ?_
                refine j_lv [3, 4, 5, 6, 7, 8, 0] rfl ?_
                have h3 : dp + 1 + as_ ≤ 200 := by omega
                have h2 : b.length ≤ k ∧ k ≤ 201 := by first | omega | (simp only [List.length_cons]; omega) | (simp only [List.length_cons] at *; omega)
                exact ih N105 fk (dp + 1) as_ k (upA A dp (am_pf g p (ub (g p)))) b ((p + 1) + (ub (g p))) (by omega) I105 k105__R_1_ k105__R_10_ htk (fr.trans f105.z) h3 h2 (by omega) (by omega) (by rw [show ((p + 1) + (ub (g p))) = p + cd_car g p (f + q) + 1 by omega]; exact (am_run_s (by omega) (am_step_t (m := LM A dp) (o := LO A as_) (b := b) (k := k) (by omega) (by omega) h1 (by show (LM _ _).length + (LO _ _).length ≤ 200; rw [LM_len, LO_len]; exact h3))).symm.trans he)
              · skip
                refine j_iconst (v := nI 0) d_Mo_run2_366 (by decide) ?_
                exact j_zret hκ rfl (by first | exact Or.inl rfl | exact Or.inr rfl) (by omega) (by omega) d_Mo_run2_367 (RP.f I105 k105__R_1_ k105__R_10_ (fr.trans f105.z) (he.symm.trans (am_run_n (by omega) (am_step_f (m := LM A dp) (o := LO A as_) (b := b) (k := k) (Or.inr (Or.inr (fun s hs => by rw [h1] at hs; cases hs; show 200 < (LM _ _).length + (LO _ _).length; rw [LM_len, LO_len]; omega)))))))
          · skip
            refine j_iconst (v := nI 0) d_Mo_run2_92 (by decide) ?_
            exact j_zret hκ rfl (by first | exact Or.inl rfl | exact Or.inr rfl) (by omega) (by omega) d_Mo_run2_93 (RP.f hI hr1 hr10 fr (he.symm.trans (am_run_n (by omega) (am_step_f (m := LM A dp) (o := LO A as_) (b := b) (k := k) (Or.inl (by omega))))))
        · skip
          refine j_iload d_Mo_run2_58 1 rfl ?_
          refine j_iload_n d_Mo_run2_60 rfl 5 rfl ?_
          refine j_iload_n d_Mo_run2_61 rfl 6 rfl ?_
          refine j_iadd d_Mo_run2_62 ?_
          refine j_eqi (y := nI (f + q)) (nI_add f q) ?_
          refine j_ncmp_ne 68 (p + 1) (f + q) rfl rfl (by omega) (by omega) d_Mo_run2_63 (by decide) (fun b63 => ?_) (fun b63 => ?_)
          · skip
            have hcar : cd_car g p (f + q) = 1 + ub (g (p + 1)) := ca_2 (by omega) (by omega)
            have hu2 := ub_lt (g (p + 1))
            refine j_aload_n d_Mo_run2_68 rfl 4 rfl ?_
            refine j_iload d_Mo_run2_69 1 rfl ?_
            refine j_bald hr1 (p + 1) rfl (by omega) (by omega) d_Mo_run2_71 ?_
            refine j_sipush (v := 255) d_Mo_run2_72 (by decide) ?_
            refine j_iand d_Mo_run2_75 ?_
            refine j_eqi (y := nI (ub (g (p + 1)))) (ub_and _) ?_
            refine j_istore [(8, .int (nI (ub (g (p + 1))))), (6, .int (nI (p + 1))), (7, .int (nI (ub (g p)))), (0, .ref (R 0)), (1, .ref (R 1)), (2, .int (nI f)), (3, .int (nI q)), (4, .int (nI b.length)), (5, .int (nI (offs b)))] d_Mo_run2_76 (by decide) rfl ?_
            refine j_iinc (v := nI ((p + 1) + 1)) [(6, .int (nI ((p + 1) + 1))), (8, .int (nI (ub (g (p + 1))))), (7, .int (nI (ub (g p)))), (0, .ref (R 0)), (1, .ref (R 1)), (2, .int (nI f)), (3, .int (nI q)), (4, .int (nI b.length)), (5, .int (nI (offs b)))] d_Mo_run2_78 1 rfl (nI_add (p + 1) 1) (by decide) rfl ?_
            refine j_iload d_Mo_run2_81 1 rfl ?_
            refine j_iload_n d_Mo_run2_83 rfl 5 rfl ?_
            refine j_iload_n d_Mo_run2_84 rfl 6 rfl ?_
            refine j_iadd d_Mo_run2_85 ?_
            refine j_eqi (y := nI (f + q)) (nI_add f q) ?_
            refine j_iload d_Mo_run2_86 0 rfl ?_
            refine j_isub d_Mo_run2_88 ?_
            refine j_eqi (y := nI ((f + q) - ((p + 1) + 1))) (pk_sub (by omega)) ?_
            refine j_ncmp_le 94 (ub (g (p + 1))) ((f + q) - ((p + 1) + 1)) rfl rfl (by omega) (by omega) d_Mo_run2_89 (by decide) (fun b89 => ?_) (fun b89 => ?_)
            · skip
              refine j_iload d_Mo_run2_94 8 rfl ?_
              refine j_nif_ne 108 (offs b) rfl (by omega) d_Mo_run2_96 (by decide) (fun b96 => ?_) (fun b96 => ?_)
              · skip
                refine j_iload d_Mo_run2_108 0 rfl ?_
                refine j_iload d_Mo_run2_110 1 rfl ?_
                refine j_iadd d_Mo_run2_112 ?_
                refine j_eqi (y := nI (((p + 1) + 1) + (ub (g (p + 1))))) (nI_add ((p + 1) + 1) (ub (g (p + 1)))) ?_
                refine j_istore [(6, .int (nI (((p + 1) + 1) + (ub (g (p + 1)))))), (8, .int (nI (ub (g (p + 1))))), (7, .int (nI (ub (g p)))), (0, .ref (R 0)), (1, .ref (R 1)), (2, .int (nI f)), (3, .int (nI q)), (4, .int (nI b.length)), (5, .int (nI (offs b)))] d_Mo_run2_113 (by decide) rfl ?_
                refine j_goto (tgt := 351) d_Mo_run2_115 (by decide) ?_
                refine j_aload_n d_Mo_run2_351 rfl 3 rfl ?_
                refine j_get F_Mo hI.1 11 (by decide) w_954 (Or.inl rfl) rfl d_Mo_run2_352 ?_
                refine j_aload_n d_Mo_run2_355 rfl 3 rfl ?_
                refine j_get F_Mo hI.1 12 (by decide) w_955 (Or.inl rfl) rfl d_Mo_run2_356 ?_
                have h1 : am_one g (f + q) p (LM A dp) (LO A as_) b (am_kp g p k) = some (LM A dp, LO A as_, b, k) := by unfold am_one; rw [if_neg (by omega), if_neg (fun z => b96 ((offs_low b (by omega)).mp z)), hkp]
                refine j_iadd d_Mo_run2_359 ?_
                refine j_eqi (y := nI (dp + as_)) (nI_add dp as_) ?_
                refine j_sipush (v := nI 200) d_Mo_run2_360 (by decide) ?_
                refine j_ncmp_le 368 (dp + as_) 200 rfl rfl (by omega) (by omega) d_Mo_run2_363 (by decide) (fun b363 => ?_) (fun b363 => ?_)
                · skip
                  refine j_goto (tgt := 19) d_Mo_run2_368 (by decide) ?_
                  refine j_lv [3, 4, 5, 6, 7, 8, 0] rfl ?_
                  have h3 : dp + as_ ≤ 200 := by omega
                  have h2 : b.length ≤ k ∧ k ≤ 201 := by first | omega | (simp only [List.length_cons]; omega) | (simp only [List.length_cons] at *; omega)
                  exact ih Mx fk dp as_ k A b (((p + 1) + 1) + (ub (g (p + 1)))) (by omega) hI hr1 hr10 htk fr h3 h2 (by omega) (by omega) (by rw [show (((p + 1) + 1) + (ub (g (p + 1)))) = p + cd_car g p (f + q) + 1 by omega]; exact (am_run_s (by omega) (am_step_t (m := LM A dp) (o := LO A as_) (b := b) (k := k) (by omega) (by omega) h1 (by show (LM _ _).length + (LO _ _).length ≤ 200; rw [LM_len, LO_len]; exact h3))).symm.trans he)
                · skip
                  refine j_iconst (v := nI 0) d_Mo_run2_366 (by decide) ?_
                  exact j_zret hκ rfl (by first | exact Or.inl rfl | exact Or.inr rfl) (by omega) (by omega) d_Mo_run2_367 (RP.f hI hr1 hr10 fr (he.symm.trans (am_run_n (by omega) (am_step_f (m := LM A dp) (o := LO A as_) (b := b) (k := k) (Or.inr (Or.inr (fun s hs => by rw [h1] at hs; cases hs; show 200 < (LM _ _).length + (LO _ _).length; rw [LM_len, LO_len]; omega)))))))
              · skip
                refine j_aload_n d_Mo_run2_99 rfl 3 rfl ?_
                refine j_aload_n d_Mo_run2_100 rfl 4 rfl ?_
                refine j_iload d_Mo_run2_101 0 rfl ?_
                refine j_iload d_Mo_run2_103 1 rfl ?_
                refine j_callV (As := [.ref (R 1), .int (nI ((p + 1) + 1)), .int (nI (ub (g (p + 1))))]) (rest := []) (r_push Γ.l hI hR (R 1) 1000 ((p + 1) + 1) (ub (g (p + 1))) (am_pf g p (1 + ub (g (p + 1)))) g (pf_2 (c := ub (g (p + 1))) (by omega)).1 hr1 (by decide) hfit (by omega) (by omega) (by omega) (hR.ne (by decide) (by decide) (by decide)) (hR.ne (by decide) (by decide) (by decide)) (pf_2 (c := ub (g (p + 1))) (by omega)).2) Y_Mo_push w_1019 w_1021 ws_30 hI.1 rfl rfl rfl (Nat.le_of_ble_eq_true rfl) (by omega) (by omega) (by omega) d_Mo_run2_105 (fun v105 N105 p105 => ?_)
                obtain ⟨rfl, I105, f105⟩ := p105
                have k105__R_1_ : N105 (R 1) = some (mp_b E 1000 g) := (f105.k hR (by decide) (by decide) (by decide)).trans hr1
                have k105__R_10_ : N105 (R 10) = some (mp_z E 1001 fk) := (f105.k hR (by decide) (by decide) (by decide)).trans hr10
                show mp_J Γ m_Mo_run2 E κ N105 [(6, .int (nI ((p + 1) + 1))), (8, .int (nI (ub (g (p + 1))))), (7, .int (nI (ub (g p)))), (0, .ref (R 0)), (1, .ref (R 1)), (2, .int (nI f)), (3, .int (nI q)), (4, .int (nI b.length)), (5, .int (nI (offs b)))] 108 [] 0 0
                refine j_iload d_Mo_run2_108 0 rfl ?_
                refine j_iload d_Mo_run2_110 1 rfl ?_
                refine j_iadd d_Mo_run2_112 ?_
                refine j_eqi (y := nI (((p + 1) + 1) + (ub (g (p + 1))))) (nI_add ((p + 1) + 1) (ub (g (p + 1)))) ?_
                refine j_istore [(6, .int (nI (((p + 1) + 1) + (ub (g (p + 1)))))), (8, .int (nI (ub (g (p + 1))))), (7, .int (nI (ub (g p)))), (0, .ref (R 0)), (1, .ref (R 1)), (2, .int (nI f)), (3, .int (nI q)), (4, .int (nI b.length)), (5, .int (nI (offs b)))] d_Mo_run2_113 (by decide) rfl ?_
                refine j_goto (tgt := 351) d_Mo_run2_115 (by decide) ?_
                refine j_aload_n d_Mo_run2_351 rfl 3 rfl ?_
                refine j_get F_Mo I105.1 11 (by decide) w_954 (Or.inl rfl) rfl d_Mo_run2_352 ?_
                refine j_aload_n d_Mo_run2_355 rfl 3 rfl ?_
                refine j_get F_Mo I105.1 12 (by decide) w_955 (Or.inl rfl) rfl d_Mo_run2_356 ?_
                have h1 : am_one g (f + q) p (LM A dp) (LO A as_) b (am_kp g p k) = some (LM (upA A dp (am_pf g p (1 + ub (g (p + 1))))) (dp + 1), LO (upA A dp (am_pf g p (1 + ub (g (p + 1))))) as_, b, k) := by unfold am_one; rw [if_neg (by omega), if_pos ((offs_low b (by omega)).mpr b96), if_pos (by omega), hkp, hcar, LM_push, LO_up (by omega)]
                refine j_iadd d_Mo_run2_359 ?_
                refine j_eqi (y := nI ((dp + 1) + as_)) (nI_add (dp + 1) as_) ?_
                refine j_sipush (v := nI 200) d_Mo_run2_360 (by decide) ?_
                refine j_ncmp_le 368 ((dp + 1) + as_) 200 rfl rfl (by omega) (by omega) d_Mo_run2_363 (by decide) (fun b363 => ?_) (fun b363 => ?_)
                · skip
                  refine j_goto (tgt := 19) d_Mo_run2_368 (by decide) ?_
                  refine j_lv [3, 4, 5, 6, 7, 8, 0] rfl ?_
                  have h3 : dp + 1 + as_ ≤ 200 := by omega
                  have h2 : b.length ≤ k ∧ k ≤ 201 := by first | omega | (simp only [List.length_cons]; omega) | (simp only [List.length_cons] at *; omega)
                  exact ih N105 fk (dp + 1) as_ k (upA A dp (am_pf g p (1 + ub (g (p + 1))))) b (((p + 1) + 1) + (ub (g (p + 1)))) (by omega) I105 k105__R_1_ k105__R_10_ htk (fr.trans f105.z) h3 h2 (by omega) (by omega) (by rw [show (((p + 1) + 1) + (ub (g (p + 1)))) = p + cd_car g p (f + q) + 1 by omega]; exact (am_run_s (by omega) (am_step_t (m := LM A dp) (o := LO A as_) (b := b) (k := k) (by omega) (by omega) h1 (by show (LM _ _).length + (LO _ _).length ≤ 200; rw [LM_len, LO_len]; exact h3))).symm.trans he)
                · skip
                  refine j_iconst (v := nI 0) d_Mo_run2_366 (by decide) ?_
                  exact j_zret hκ rfl (by first | exact Or.inl rfl | exact Or.inr rfl) (by omega) (by omega) d_Mo_run2_367 (RP.f I105 k105__R_1_ k105__R_10_ (fr.trans f105.z) (he.symm.trans (am_run_n (by omega) (am_step_f (m := LM A dp) (o := LO A as_) (b := b) (k := k) (Or.inr (Or.inr (fun s hs => by rw [h1] at hs; cases hs; show 200 < (LM _ _).length + (LO _ _).length; rw [LM_len, LO_len]; omega)))))))
            · skip
              refine j_iconst (v := nI 0) d_Mo_run2_92 (by decide) ?_
              exact j_zret hκ rfl (by first | exact Or.inl rfl | exact Or.inr rfl) (by omega) (by omega) d_Mo_run2_93 (RP.f hI hr1 hr10 fr (he.symm.trans (am_run_n (by omega) (am_step_f (m := LM A dp) (o := LO A as_) (b := b) (k := k) (Or.inl (by omega))))))
          · skip
            have hcar : cd_car g p (f + q) = 1 := ca_3 (by omega) (by omega)
            refine j_iconst (v := nI 0) d_Mo_run2_66 (by decide) ?_
            exact j_zret hκ rfl (by first | exact Or.inl rfl | exact Or.inr rfl) (by omega) (by omega) d_Mo_run2_67 (RP.f hI hr1 hr10 fr (he.symm.trans (am_run_n (by omega) (am_step_f (m := LM A dp) (o := LO A as_) (b := b) (k := k) (Or.inl (by omega))))))

set_option maxHeartbeats 4000000 in
set_option maxRecDepth 100000 in
theorem c_Mo_run2 (l : Launch) (E : mp_E) (M : mp_M) (R : Nat → Nat) (rows : Nat) (thr : Int32) (dp as_ ops : Nat) (A : Nat → am_T) (f q : Nat) (g fk : Nat → Int32) (hI : RI E M R rows thr dp as_ ops A) (hR : RL R) (hr1 : M (R 1) = some (mp_b E 1000 g)) (hr10 : M (R 10) = some (mp_z E 1001 fk)) (hfit : ∀ i, i < 1000 → fits .byte (.int (g i)) = true) (hfq : f + q ≤ 1000) (hd : dp ≤ 200) : mp_Cr l m_Mo_run2 E M 5 0 0 [.ref (R 0), .ref (R 1), .int (nI f), .int (nI q)] (RP E R M rows thr g (am_run g (f + q) (f + q - f + 1) f (LM A dp, [], [], 0))) := by
  refine mp_Cr.of (by decide) (Nat.le_of_ble_eq_true rfl) fun Γ κ hl hκ => ?_
  subst hl
  obtain ⟨hκd, hκc, hκs, -⟩ := id hκ
  show mp_J Γ m_Mo_run2 E κ M [(0, .ref (R 0)), (1, .ref (R 1)), (2, .int (nI f)), (3, .int (nI q))] 0 [] 0 0
  refine j_iconst (v := nI 0) d_Mo_run2_0 (by decide) ?_
  refine j_istore [(4, .int (nI 0)), (0, .ref (R 0)), (1, .ref (R 1)), (2, .int (nI f)), (3, .int (nI q))] d_Mo_run2_1 (by decide) rfl ?_
  refine j_iconst (v := nI 0) d_Mo_run2_3 (by decide) ?_
  refine j_istore [(5, .int (nI 0)), (4, .int (nI 0)), (0, .ref (R 0)), (1, .ref (R 1)), (2, .int (nI f)), (3, .int (nI q))] d_Mo_run2_4 (by decide) rfl ?_
  refine j_aload_n d_Mo_run2_6 rfl 2 rfl ?_
  refine j_iconst (v := nI 0) d_Mo_run2_7 (by decide) ?_
  refine j_put F_Mo hI.1 12 (by decide) w_955 (Or.inl rfl) rfl rfl rfl (Nat.le_of_ble_eq_true rfl) d_Mo_run2_8 ?_
  show mp_J Γ m_Mo_run2 E κ (mp_up M (R 0) (mp_o 7 [.ref (R 1), .int (nI rows), .int thr, .ref (R 2), .ref (R 3), .ref (R 4), .ref (R 5), .ref (R 6), .ref (R 7), .ref (R 8), .ref (R 9), .int (nI dp), .int (nI 0), .int (nI ops), .ref (R 10)])) [(5, .int (nI 0)), (4, .int (nI 0)), (0, .ref (R 0)), (1, .ref (R 1)), (2, .int (nI f)), (3, .int (nI q))] 11 [] 0 0
  generalize eM1 : mp_up M (R 0) (mp_o 7 [.ref (R 1), .int (nI rows), .int thr, .ref (R 2), .ref (R 3), .ref (R 4), .ref (R 5), .ref (R 6), .ref (R 7), .ref (R 8), .ref (R 9), .int (nI dp), .int (nI 0), .int (nI ops), .ref (R 10)]) = M1
  have hM1__R_1_ : M1 (R 1) = some (mp_b E 1000 g) := by rw [← eM1, mp_n (hR.ne (by decide) (by decide) (by decide))]; exact hr1
  have hM1__R_10_ : M1 (R 10) = some (mp_z E 1001 fk) := by rw [← eM1, mp_n (hR.ne (by decide) (by decide) (by decide))]; exact hr10
  have hM1__R_0_ : M1 (R 0) = some (mp_o 7 [.ref (R 1), .int (nI rows), .int thr, .ref (R 2), .ref (R 3), .ref (R 4), .ref (R 5), .ref (R 6), .ref (R 7), .ref (R 8), .ref (R 9), .int (nI dp), .int (nI 0), .int (nI ops), .ref (R 10)]) := by rw [← eM1]; exact mp_s
  have JM1 : RI E M1 R rows thr dp 0 ops A := hI.set hR eM1
  have fM1 : RFr R M M1 := RFr.s0 eM1
  refine j_aload_n d_Mo_run2_11 rfl 2 rfl ?_
  refine j_iconst (v := nI 0) d_Mo_run2_12 (by decide) ?_
  refine j_put F_Mo hM1__R_0_ 13 (by decide) w_956 (Or.inl rfl) rfl rfl rfl (Nat.le_of_ble_eq_true rfl) d_Mo_run2_13 ?_
  show mp_J Γ m_Mo_run2 E κ (mp_up M1 (R 0) (mp_o 7 [.ref (R 1), .int (nI rows), .int thr, .ref (R 2), .ref (R 3), .ref (R 4), .ref (R 5), .ref (R 6), .ref (R 7), .ref (R 8), .ref (R 9), .int (nI dp), .int (nI 0), .int (nI 0), .ref (R 10)])) [(5, .int (nI 0)), (4, .int (nI 0)), (0, .ref (R 0)), (1, .ref (R 1)), (2, .int (nI f)), (3, .int (nI q))] 16 [] 0 0
  generalize eM2 : mp_up M1 (R 0) (mp_o 7 [.ref (R 1), .int (nI rows), .int thr, .ref (R 2), .ref (R 3), .ref (R 4), .ref (R 5), .ref (R 6), .ref (R 7), .ref (R 8), .ref (R 9), .int (nI dp), .int (nI 0), .int (nI 0), .ref (R 10)]) = M2
  have hM2__R_1_ : M2 (R 1) = some (mp_b E 1000 g) := by rw [← eM2, mp_n (hR.ne (by decide) (by decide) (by decide))]; exact hM1__R_1_
  have hM2__R_10_ : M2 (R 10) = some (mp_z E 1001 fk) := by rw [← eM2, mp_n (hR.ne (by decide) (by decide) (by decide))]; exact hM1__R_10_
  have hM2__R_0_ : M2 (R 0) = some (mp_o 7 [.ref (R 1), .int (nI rows), .int thr, .ref (R 2), .ref (R 3), .ref (R 4), .ref (R 5), .ref (R 6), .ref (R 7), .ref (R 8), .ref (R 9), .int (nI dp), .int (nI 0), .int (nI 0), .ref (R 10)]) := by rw [← eM2]; exact mp_s
  have JM2 : RI E M2 R rows thr dp 0 0 A := JM1.set hR eM2
  have fM2 : RFr R M1 M2 := RFr.s0 eM2
  refine j_iload_n d_Mo_run2_16 rfl 4 rfl ?_
  refine j_istore [(6, .int (nI f)), (5, .int (nI 0)), (4, .int (nI 0)), (0, .ref (R 0)), (1, .ref (R 1)), (2, .int (nI f)), (3, .int (nI q))] d_Mo_run2_17 (by decide) rfl ?_
  refine j_lv [3, 4, 5, 6, 2, 1, 0] rfl ?_
  exact lp_Mo_run2 E M R rows thr f q g _ hR hfit hfq hκ (f + q - f + 1) M2 fk dp 0 0 A [] f (by omega) JM2 hM2__R_1_ hM2__R_10_ trivial ((RFz.refl.trans fM1.z).trans fM2.z) (by omega) ⟨by simp, by omega⟩ (Nat.le_refl _) (by omega) rfl
