section CLR
variable (l : Launch) {E : mp_E} {X : Nat → Prop} {M : mp_M} {L : Nat → Nat} {y n k : Nat} {zs m o : List am_T} {b : List Bool}
theorem i_clear (h : IV E X M L y n zs m o b k) (hL : LY X L) : mp_Cr l m_St_clear E M 1 0 0 [.ref (L 13)] (fun v N => v = none ∧ IV E X N L y n zs [] o b k ∧ mp_Fr X M N) :=
  (k_clear l h.sm (hL.x (by omega)) (hL.x (by omega))).mono fun v N ⟨h1, h3, h4⟩ => ⟨h1, h.main hL h4 h3, h4.fr (hL.x (by omega)) (hL.x (by omega))⟩
theorem i_oclear (h : IV E X M L y n zs m o b k) (hL : LY X L) : mp_Cr l m_St_clear E M 1 0 0 [.ref (L 11)] (fun v N => v = none ∧ IV E X N L y n zs m [] b k ∧ mp_Fr X M N) :=
  (k_clear l h.so (hL.x (by omega)) (hL.x (by omega))).mono fun v N ⟨h1, h3, h4⟩ => ⟨h1, h.oth hL h4 h3, h4.fr (hL.x (by omega)) (hL.x (by omega))⟩
end CLR
set_option maxHeartbeats 4000000 in
set_option maxRecDepth 100000 in
theorem lp_play {Γ : mp_G} {κ : mp_K} (E : mp_E) (M : mp_M) (X : Nat → Prop) (L : Nat → Nat) (y n ro rn f t : Nat) (zs : List am_T) (g : Nat → Int32) (R : Option am_St) (hL : LY X L) (hro : M ro = some (mp_b E rn g)) (hfit : ∀ i, i < rn → fits .byte (.int (g i)) = true) (hrn : rn ≤ 1000) (hXr : ¬ X ro) (ht : t ≤ rn) (hκ : mp_k κ 8 (4 * (t - f)) (66 * (t - f)) (PL E X M L y n zs R)) : ∀ (r : Nat) (Mx : mp_M) (m o : List am_T) (b : List Bool) (k p : Nat), t - p < r → (IV E X Mx L y n zs m o b k) → (mp_Fr X M Mx) → (m.length + o.length ≤ 200) → (b.length ≤ k ∧ k ≤ 201) → (f ≤ p) → (p ≤ t) → (am_run g t r p (m, o, b, k) = R) → mp_J Γ m_Ma_play E κ Mx [(0, .ref (L 0)), (1, .ref ro), (2, .int (nI f)), (3, .int (nI t)), (4, .int (nI p))] 22 [] (4 * (p - f)) (66 * (p - f)) := by
  obtain ⟨hκd, hκc, hκs, -⟩ := id hκ
  intro r
  induction r with
  | zero => intro Mx m o b k p hr; exact absurd hr (Nat.not_lt_zero _)
  | succ r ih =>
    intro Mx m o b k p hr hI fr htot hbk hfp hpt he
    have hrx := fr ro _ hro hXr
    have hu := ub_lt (g p)
    have hcr := cd_car_le (f := g) (p := p) (t := t)
    obtain ⟨z0_m, u0_m⟩ := hI.sm.o
    obtain ⟨z0_o, u0_o⟩ := hI.so.o
    refine j_iload d_Ma_play_22 4 rfl ?_
    refine j_iload_n d_Ma_play_24 rfl 3 rfl ?_
    refine j_ncmp_ge 175 p t rfl rfl (by omega) (by omega) d_Ma_play_25 (by decide) (fun b25 => ?_) (fun b25 => ?_)
    · skip
      refine j_aload_n d_Ma_play_175 rfl 0 rfl ?_
      refine j_get F_Ma hI.mo 3 (by decide) w_166 (Or.inl rfl) rfl d_Ma_play_176 ?_
      refine j_callV (As := []) (rest := []) (c_Br_anyOpen Γ.l E Mx (L 10) b.length _ hI.br (by omega)) Y_Br_anyOpen w_386 w_387 w_388 hI.br rfl rfl rfl (Nat.le_of_ble_eq_true rfl) (by omega) (by omega) (by omega) d_Ma_play_179 (fun v179 N179 p179 => ?_)
      obtain ⟨rfl, q179⟩ := p179
      obtain rfl := q179.symm
      show mp_J Γ m_Ma_play E κ Mx [(0, .ref (L 0)), (1, .ref ro), (2, .int (nI f)), (3, .int (nI t)), (4, .int (nI p))] 182 [.int (tf (decide (0 < b.length)))] (4 * (p - f)) (66 * (p - f))
      refine j_tif_ne 189 d_Ma_play_182 (by decide) (fun b182 => ?_) (fun b182 => ?_)
      · skip
        refine j_iconst (v := nI 0) d_Ma_play_189 (by decide) ?_
        exact j_zret hκ rfl (by first | exact Or.inl rfl | exact Or.inr rfl) (by omega) (by omega) d_Ma_play_190 (PL.f hI fr (he.symm.trans (by show (if _ then _ else _) = _; rw [if_pos (by omega), if_pos (of_decide_eq_true b182)])))
      · skip
        refine j_iconst (v := nI 1) d_Ma_play_185 (by decide) ?_
        refine j_goto (tgt := 190) d_Ma_play_186 (by decide) ?_
        exact j_zret hκ rfl (by first | exact Or.inl rfl | exact Or.inr rfl) (by omega) (by omega) d_Ma_play_190 (PL.t hI fr (he.symm.trans (by show (if _ then _ else _) = _; rw [if_pos (by omega), if_neg (of_decide_eq_false b182)])))
    · skip
      refine j_aload_n d_Ma_play_28 rfl 1 rfl ?_
      refine j_iload d_Ma_play_29 4 rfl ?_
      refine j_bald hrx p rfl (by omega) (by omega) d_Ma_play_31 ?_
      refine j_sipush (v := 255) d_Ma_play_32 (by decide) ?_
      refine j_iand d_Ma_play_35 ?_
      refine j_eqi (y := nI (ub (g p))) (ub_and _) ?_
      refine j_istore [(5, .int (nI (ub (g p)))), (0, .ref (L 0)), (1, .ref ro), (2, .int (nI f)), (3, .int (nI t)), (4, .int (nI p))] d_Ma_play_36 (by decide) rfl ?_
      refine j_aload_n d_Ma_play_38 rfl 2 rfl ?_
      refine j_iload d_Ma_play_39 5 rfl ?_
      refine j_iload_n d_Ma_play_41 rfl 4 rfl ?_
      refine j_callS (As := [.ref ro, .int (nI p), .int (nI t)]) (rest := []) (c_Co_carried Γ.l E Mx ro rn p t g hrx hrn ht (by omega)) Y_Co_carried w_344 w_345 rfl rfl (Nat.le_of_ble_eq_true rfl) (by omega) (by omega) (by omega) d_Ma_play_42 (fun v42 N42 p42 => ?_)
      obtain ⟨rfl, q42⟩ := p42
      obtain rfl := q42.symm
      show mp_J Γ m_Ma_play E κ Mx [(5, .int (nI (ub (g p)))), (0, .ref (L 0)), (1, .ref ro), (2, .int (nI f)), (3, .int (nI t)), (4, .int (nI p))] 45 [.int (nI (cd_car g p t))] (4 * (p - f)) (66 * (p - f))
      refine j_istore [(6, .int (nI (cd_car g p t))), (5, .int (nI (ub (g p)))), (0, .ref (L 0)), (1, .ref ro), (2, .int (nI f)), (3, .int (nI t)), (4, .int (nI p))] d_Ma_play_45 (by decide) rfl ?_
      refine j_iload d_Ma_play_47 0 rfl ?_
      refine j_iload_n d_Ma_play_49 rfl 5 rfl ?_
      refine j_iload d_Ma_play_50 6 rfl ?_
      refine j_isub d_Ma_play_52 ?_
      refine j_eqi (y := nI (t - p)) (pk_sub (by omega)) ?_
      refine j_ncmp_ge 75 (cd_car g p t) (t - p) rfl rfl (by omega) (by omega) d_Ma_play_53 (by decide) (fun b53 => ?_) (fun b53 => ?_)
      · skip
        refine j_iconst (v := nI 0) d_Ma_play_75 (by decide) ?_
        exact j_zret hκ rfl (by first | exact Or.inl rfl | exact Or.inr rfl) (by omega) (by omega) d_Ma_play_76 (PL.f hI fr (he.symm.trans (am_run_n (by omega) (am_step_f (Or.inl (by omega))))))
      · skip
        refine j_aload_n d_Ma_play_56 rfl 2 rfl ?_
        refine j_iload d_Ma_play_57 1 rfl ?_
        refine j_bipush (v := nI 96) d_Ma_play_59 (by decide) ?_
        refine j_ncmp_le 68 (ub (g p)) 96 rfl rfl (by omega) (by omega) d_Ma_play_61 (by decide) (fun b61 => ?_) (fun b61 => ?_)
        · skip
          refine j_iconst (v := nI 0) d_Ma_play_68 (by decide) ?_
          have hkp : am_kp g p k = k + 0 := by unfold am_kp; rw [if_neg (by omega)]
          refine j_callV (As := [.int (nI 0)]) (rest := []) (c_Ma_count Γ.l E Mx X L y n zs m o b k 0 hI hL (by omega) (by omega)) Y_Ma_count w_347 w_349 ws_3 hI.mo rfl rfl rfl (Nat.le_of_ble_eq_true rfl) (by omega) (by omega) (by omega) d_Ma_play_69 (fun v69 N69 p69 => ?_)
          obtain ⟨rfl, I69, f69⟩ := p69
          obtain ⟨z69_1m, u69_1m⟩ := I69.sm.o
          obtain ⟨z69_1o, u69_1o⟩ := I69.so.o
          show mp_J Γ m_Ma_play E κ N69 [(6, .int (nI (cd_car g p t))), (5, .int (nI (ub (g p)))), (0, .ref (L 0)), (1, .ref ro), (2, .int (nI f)), (3, .int (nI t)), (4, .int (nI p))] 72 [.int (tf (decide (k + 0 ≤ 201)))] (4 * (p - f)) (66 * (p - f))
          refine j_tif_ne 77 d_Ma_play_72 (by decide) (fun b72 => ?_) (fun b72 => ?_)
          · skip
            have hk2 := of_decide_eq_true b72
            refine j_iload d_Ma_play_77 1 rfl ?_
            refine j_callS (As := [.int (nI (ub (g p)))]) (rest := []) (c_Co_isBranch Γ.l E N69 (ub (g p)) hu) Y_Co_isBranch w_351 w_352 rfl rfl (Nat.le_of_ble_eq_true rfl) (by omega) (by omega) (by omega) d_Ma_play_79 (fun v79 N79 p79 => ?_)
            obtain ⟨rfl, q79⟩ := p79
            obtain rfl := q79.symm
            show mp_J Γ m_Ma_play E κ N69 [(6, .int (nI (cd_car g p t))), (5, .int (nI (ub (g p)))), (0, .ref (L 0)), (1, .ref ro), (2, .int (nI f)), (3, .int (nI t)), (4, .int (nI p))] 82 [.int (tf (decide (ub (g p) = 99 ∨ ub (g p) = 100 ∨ ub (g p) = 103 ∨ ub (g p) = 104)))] (4 * (p - f)) (66 * (p - f))
            refine j_tif_eq 96 d_Ma_play_82 (by decide) (fun b82 => ?_) (fun b82 => ?_)
            · skip
              refine j_aload_n d_Ma_play_96 rfl 2 rfl ?_
              refine j_get F_Ma I69.mo 3 (by decide) w_166 (Or.inl rfl) rfl d_Ma_play_97 ?_
              refine j_callV (As := []) (rest := []) (c_Br_taken Γ.l E N69 (L 10) _ _ I69.br) Y_Br_taken w_362 w_363 w_364 I69.br rfl rfl rfl (Nat.le_of_ble_eq_true rfl) (by omega) (by omega) (by omega) d_Ma_play_100 (fun v100 N100 p100 => ?_)
              obtain ⟨rfl, q100⟩ := p100
              obtain rfl := q100.symm
              show mp_J Γ m_Ma_play E κ N69 [(6, .int (nI (cd_car g p t))), (5, .int (nI (ub (g p)))), (0, .ref (L 0)), (1, .ref ro), (2, .int (nI f)), (3, .int (nI t)), (4, .int (nI p))] 103 [.int (tf (decide (am_low b = -1)))] (4 * (p - f)) (66 * (p - f))
              refine j_tif_eq 162 d_Ma_play_103 (by decide) (fun b103 => ?_) (fun b103 => ?_)
              · skip
                refine j_iload d_Ma_play_162 6 rfl ?_
                refine j_iload d_Ma_play_164 0 rfl ?_
                refine j_iadd d_Ma_play_166 ?_
                refine j_eqi (y := nI (p + (cd_car g p t))) (nI_add p (cd_car g p t)) ?_
                refine j_istore [(4, .int (nI (p + (cd_car g p t)))), (6, .int (nI (cd_car g p t))), (5, .int (nI (ub (g p)))), (0, .ref (L 0)), (1, .ref ro), (2, .int (nI f)), (3, .int (nI t))] d_Ma_play_167 (by decide) rfl ?_
                refine j_iinc (v := nI ((p + (cd_car g p t)) + 1)) [(4, .int (nI ((p + (cd_car g p t)) + 1))), (6, .int (nI (cd_car g p t))), (5, .int (nI (ub (g p)))), (0, .ref (L 0)), (1, .ref ro), (2, .int (nI f)), (3, .int (nI t))] d_Ma_play_169 0 rfl (nI_add (p + (cd_car g p t)) 1) (by decide) rfl ?_
                refine j_goto (tgt := 22) d_Ma_play_172 (by decide) ?_
                have h1 : am_one g t p m o b (am_kp g p k) = some (m, o, b, k + 0) := by unfold am_one; rw [if_neg (of_decide_eq_false b82), if_neg (of_decide_eq_false b103), hkp]
                have h2 : b.length ≤ k + 0 ∧ k + 0 ≤ 201 := by omega
                have h3 : m.length + o.length ≤ 200 := htot
                have hk8 : am_kp g p k ≤ 201 := by omega
                refine j_lv [3, 4, 5, 6, 0] rfl ?_
                refine j_widen (k' := 4 * (p + cd_car g p t + 1 - f)) (n' := 66 * (p + cd_car g p t + 1 - f)) (by omega) (by omega) ?_
                exact ih N69 m o b (k + 0) (p + cd_car g p t + 1) (by omega) I69 (fr.trans f69) h3 h2 (by omega) (by omega) ((am_run_s (by omega) (am_step_t (by omega) hk8 h1 h3)).symm.trans he)
              · skip
                refine j_iload d_Ma_play_106 1 rfl ?_
                refine j_callS (As := [.int (nI (ub (g p)))]) (rest := []) (c_Co_isPush Γ.l E N69 (ub (g p)) hu) Y_Co_isPush w_398 w_399 rfl rfl (Nat.le_of_ble_eq_true rfl) (by omega) (by omega) (by omega) d_Ma_play_108 (fun v108 N108 p108 => ?_)
                obtain ⟨rfl, q108⟩ := p108
                obtain rfl := q108.symm
                show mp_J Γ m_Ma_play E κ N69 [(6, .int (nI (cd_car g p t))), (5, .int (nI (ub (g p)))), (0, .ref (L 0)), (1, .ref ro), (2, .int (nI f)), (3, .int (nI t)), (4, .int (nI p))] 111 [.int (tf (decide (ub (g p) ≤ 76)))] (4 * (p - f)) (66 * (p - f))
                refine j_tif_eq 126 d_Ma_play_111 (by decide) (fun b111 => ?_) (fun b111 => ?_)
                · skip
                  refine j_aload_n d_Ma_play_126 rfl 2 rfl ?_
                  refine j_iload d_Ma_play_127 1 rfl ?_
                  refine j_callV (As := [.int (nI (ub (g p)))]) (rest := []) (c_Ma_perform Γ.l E N69 X L y n zs m o b (k + 0) (ub (g p)) I69 hL (by omega) hu) Y_Ma_perform w_660 w_662 ws_7 I69.mo rfl rfl rfl (Nat.le_of_ble_eq_true rfl) (by omega) (by omega) (by omega) d_Ma_play_129 (fun v129 N129 p129 => ?_)
                  obtain ⟨w129, m129, o129, b129_, k129, rfl, I129, f129, T129, F129⟩ := p129
                  obtain ⟨z129_2m, u129_2m⟩ := I129.sm.o
                  obtain ⟨z129_2o, u129_2o⟩ := I129.so.o
                  show mp_J Γ m_Ma_play E κ N129 [(6, .int (nI (cd_car g p t))), (5, .int (nI (ub (g p)))), (0, .ref (L 0)), (1, .ref ro), (2, .int (nI f)), (3, .int (nI t)), (4, .int (nI p))] 132 [.int (tf w129)] (4 * (p - f) + 4) (66 * (p - f) + 66)
                  refine j_istore [(7, .int (tf w129)), (6, .int (nI (cd_car g p t))), (5, .int (nI (ub (g p)))), (0, .ref (L 0)), (1, .ref ro), (2, .int (nI f)), (3, .int (nI t)), (4, .int (nI p))] d_Ma_play_132 (by decide) rfl ?_
                  refine j_iload d_Ma_play_134 0 rfl ?_
                  refine j_tif_eq 160 d_Ma_play_136 (by decide) (fun b136 => ?_) (fun b136 => ?_)
                  · skip
                    refine j_iconst (v := nI 0) d_Ma_play_160 (by decide) ?_
                    exact j_zret hκ rfl (by first | exact Or.inl rfl | exact Or.inr rfl) (by omega) (by omega) d_Ma_play_161 (PL.f I129 ((fr.trans f69).trans f129) (he.symm.trans (am_run_n (by omega) (am_step_f (Or.inr (Or.inr (fun s hs => F129 b136 s (by unfold am_one at hs; rw [if_neg (of_decide_eq_false b82), if_pos (of_decide_eq_true b103), if_neg (of_decide_eq_false b111), hkp] at hs; exact hs))))))))
                  · skip
                    have hl1 := I129.sm.le
                    have hl2 := I129.so.le
                    refine j_aload_n d_Ma_play_139 rfl 3 rfl ?_
                    refine j_get F_Ma I129.mo 6 (by decide) w_169 (Or.inl rfl) rfl d_Ma_play_140 ?_
                    refine j_callV (As := []) (rest := []) (k_count Γ.l I129.sm) Y_St_count w_677 w_214 w_215 u129_2m rfl rfl rfl (Nat.le_of_ble_eq_true rfl) (by omega) (by omega) (by omega) d_Ma_play_143 (fun v143 N143 p143 => ?_)
                    obtain ⟨rfl, q143⟩ := p143
                    obtain rfl := q143.symm
                    show mp_J Γ m_Ma_play E κ N129 [(7, .int (tf w129)), (6, .int (nI (cd_car g p t))), (5, .int (nI (ub (g p)))), (0, .ref (L 0)), (1, .ref ro), (2, .int (nI f)), (3, .int (nI t)), (4, .int (nI p))] 146 [.int (nI m129.length)] (4 * (p - f) + 4) (66 * (p - f) + 66)
                    refine j_aload_n d_Ma_play_146 rfl 3 rfl ?_
                    refine j_get F_Ma I129.mo 2 (by decide) w_165 (Or.inl rfl) rfl d_Ma_play_147 ?_
                    refine j_callV (As := []) (rest := [.int (nI m129.length)]) (k_count Γ.l I129.so) Y_St_count w_677 w_214 w_215 u129_2o rfl rfl rfl (Nat.le_of_ble_eq_true rfl) (by omega) (by omega) (by omega) d_Ma_play_150 (fun v150 N150 p150 => ?_)
                    obtain ⟨rfl, q150⟩ := p150
                    obtain rfl := q150.symm
                    show mp_J Γ m_Ma_play E κ N129 [(7, .int (tf w129)), (6, .int (nI (cd_car g p t))), (5, .int (nI (ub (g p)))), (0, .ref (L 0)), (1, .ref ro), (2, .int (nI f)), (3, .int (nI t)), (4, .int (nI p))] 153 [.int (nI o129.length), .int (nI m129.length)] (4 * (p - f) + 4) (66 * (p - f) + 66)
                    refine j_iadd d_Ma_play_153 ?_
                    refine j_eqi (y := nI (m129.length + o129.length)) (nI_add m129.length o129.length) ?_
                    refine j_sipush (v := nI 200) d_Ma_play_154 (by decide) ?_
                    refine j_ncmp_le 162 (m129.length + o129.length) 200 rfl rfl (by omega) (by omega) d_Ma_play_157 (by decide) (fun b157 => ?_) (fun b157 => ?_)
                    · skip
                      refine j_iload d_Ma_play_162 7 rfl ?_
                      refine j_iload d_Ma_play_164 1 rfl ?_
                      refine j_iadd d_Ma_play_166 ?_
                      refine j_eqi (y := nI (p + (cd_car g p t))) (nI_add p (cd_car g p t)) ?_
                      refine j_istore [(4, .int (nI (p + (cd_car g p t)))), (7, .int (tf w129)), (6, .int (nI (cd_car g p t))), (5, .int (nI (ub (g p)))), (0, .ref (L 0)), (1, .ref ro), (2, .int (nI f)), (3, .int (nI t))] d_Ma_play_167 (by decide) rfl ?_
                      refine j_iinc (v := nI ((p + (cd_car g p t)) + 1)) [(4, .int (nI ((p + (cd_car g p t)) + 1))), (7, .int (tf w129)), (6, .int (nI (cd_car g p t))), (5, .int (nI (ub (g p)))), (0, .ref (L 0)), (1, .ref ro), (2, .int (nI f)), (3, .int (nI t))] d_Ma_play_169 0 rfl (nI_add (p + (cd_car g p t)) 1) (by decide) rfl ?_
                      refine j_goto (tgt := 22) d_Ma_play_172 (by decide) ?_
                      have h1 : am_one g t p m o b (am_kp g p k) = some (m129, o129, b129_, k129) := by unfold am_one; rw [if_neg (of_decide_eq_false b82), if_pos (of_decide_eq_true b103), if_neg (of_decide_eq_false b111), hkp]; exact T129 b136
                      have h9 := am_op_bk (T129 b136)
                      unfold am_bk at h9
                      simp only at h9
                      have h2 : b129_.length ≤ k129 ∧ k129 ≤ 201 := by rw [h9.1]; omega
                      have h3 : m129.length + o129.length ≤ 200 := by omega
                      have hk8 : am_kp g p k ≤ 201 := by omega
                      refine j_lv [4, 5, 6, 7, 0] rfl ?_
                      refine j_widen (k' := 4 * (p + cd_car g p t + 1 - f)) (n' := 66 * (p + cd_car g p t + 1 - f)) (by omega) (by omega) ?_
                      exact ih N129 m129 o129 b129_ k129 (p + cd_car g p t + 1) (by omega) I129 ((fr.trans f69).trans f129) h3 h2 (by omega) (by omega) ((am_run_s (by omega) (am_step_t (by omega) hk8 h1 h3)).symm.trans he)
                    · skip
                      refine j_iconst (v := nI 0) d_Ma_play_160 (by decide) ?_
                      exact j_zret hκ rfl (by first | exact Or.inl rfl | exact Or.inr rfl) (by omega) (by omega) d_Ma_play_161 (PL.f I129 ((fr.trans f69).trans f129) (he.symm.trans (am_run_n (by omega) (am_step_f (Or.inr (Or.inr (fun s hs => by unfold am_one at hs; rw [if_neg (of_decide_eq_false b82), if_pos (of_decide_eq_true b103), if_neg (of_decide_eq_false b111), hkp] at hs; have h8 := T129 b136; rw [hs] at h8; cases h8; omega)))))))
                · skip
                  refine j_aload_n d_Ma_play_114 rfl 2 rfl ?_
                  refine j_aload_n d_Ma_play_115 rfl 3 rfl ?_
                  refine j_iload d_Ma_play_116 6 rfl ?_
                  refine j_iload d_Ma_play_118 0 rfl ?_
                  refine j_callV (As := [.ref ro, .int (nI p), .int (nI (cd_car g p t))]) (rest := []) (c_Ma_pushFrom Γ.l E N69 X L y n zs m o b (k + 0) ro rn p (cd_car g p t) g I69 hL ((fr.trans f69) ro _ hro hXr) hfit hrn (by omega) hcr (fun h => cd_car_76 h)) Y_Ma_pushFrom w_401 w_403 ws_6 I69.mo rfl rfl rfl (Nat.le_of_ble_eq_true rfl) (by omega) (by omega) (by omega) d_Ma_play_120 (fun v120 N120 p120 => ?_)
                  obtain ⟨w120, m120, o120, b120_, k120, rfl, I120, f120, T120, F120⟩ := p120
                  obtain ⟨z120_3m, u120_3m⟩ := I120.sm.o
                  obtain ⟨z120_3o, u120_3o⟩ := I120.so.o
                  show mp_J Γ m_Ma_play E κ N120 [(6, .int (nI (cd_car g p t))), (5, .int (nI (ub (g p)))), (0, .ref (L 0)), (1, .ref ro), (2, .int (nI f)), (3, .int (nI t)), (4, .int (nI p))] 123 [.int (tf w120)] (4 * (p - f) + 2) (66 * (p - f) + (cd_car g p t + 1))
                  refine j_goto (tgt := 132) d_Ma_play_123 (by decide) ?_
                  refine j_istore [(7, .int (tf w120)), (6, .int (nI (cd_car g p t))), (5, .int (nI (ub (g p)))), (0, .ref (L 0)), (1, .ref ro), (2, .int (nI f)), (3, .int (nI t)), (4, .int (nI p))] d_Ma_play_132 (by decide) rfl ?_
                  refine j_iload d_Ma_play_134 0 rfl ?_
                  refine j_tif_eq 160 d_Ma_play_136 (by decide) (fun b136 => ?_) (fun b136 => ?_)
                  · skip
                    refine j_iconst (v := nI 0) d_Ma_play_160 (by decide) ?_
                    exact j_zret hκ rfl (by first | exact Or.inl rfl | exact Or.inr rfl) (by omega) (by omega) d_Ma_play_161 (PL.f I120 ((fr.trans f69).trans f120) (he.symm.trans (am_run_n (by omega) (am_step_f (Or.inr (Or.inr (fun s hs => F120 b136 s (by unfold am_one at hs; rw [if_neg (of_decide_eq_false b82), if_pos (of_decide_eq_true b103), if_pos (of_decide_eq_true b111), hkp] at hs; exact hs))))))))
                  · skip
                    have hl1 := I120.sm.le
                    have hl2 := I120.so.le
                    refine j_aload_n d_Ma_play_139 rfl 3 rfl ?_
                    refine j_get F_Ma I120.mo 6 (by decide) w_169 (Or.inl rfl) rfl d_Ma_play_140 ?_
                    refine j_callV (As := []) (rest := []) (k_count Γ.l I120.sm) Y_St_count w_677 w_214 w_215 u120_3m rfl rfl rfl (Nat.le_of_ble_eq_true rfl) (by omega) (by omega) (by omega) d_Ma_play_143 (fun v143 N143 p143 => ?_)
                    obtain ⟨rfl, q143⟩ := p143
                    obtain rfl := q143.symm
                    show mp_J Γ m_Ma_play E κ N120 [(7, .int (tf w120)), (6, .int (nI (cd_car g p t))), (5, .int (nI (ub (g p)))), (0, .ref (L 0)), (1, .ref ro), (2, .int (nI f)), (3, .int (nI t)), (4, .int (nI p))] 146 [.int (nI m120.length)] (4 * (p - f) + 2) (66 * (p - f) + (cd_car g p t + 1))
                    refine j_aload_n d_Ma_play_146 rfl 3 rfl ?_
                    refine j_get F_Ma I120.mo 2 (by decide) w_165 (Or.inl rfl) rfl d_Ma_play_147 ?_
                    refine j_callV (As := []) (rest := [.int (nI m120.length)]) (k_count Γ.l I120.so) Y_St_count w_677 w_214 w_215 u120_3o rfl rfl rfl (Nat.le_of_ble_eq_true rfl) (by omega) (by omega) (by omega) d_Ma_play_150 (fun v150 N150 p150 => ?_)
                    obtain ⟨rfl, q150⟩ := p150
                    obtain rfl := q150.symm
                    show mp_J Γ m_Ma_play E κ N120 [(7, .int (tf w120)), (6, .int (nI (cd_car g p t))), (5, .int (nI (ub (g p)))), (0, .ref (L 0)), (1, .ref ro), (2, .int (nI f)), (3, .int (nI t)), (4, .int (nI p))] 153 [.int (nI o120.length), .int (nI m120.length)] (4 * (p - f) + 2) (66 * (p - f) + (cd_car g p t + 1))
                    refine j_iadd d_Ma_play_153 ?_
                    refine j_eqi (y := nI (m120.length + o120.length)) (nI_add m120.length o120.length) ?_
                    refine j_sipush (v := nI 200) d_Ma_play_154 (by decide) ?_
                    refine j_ncmp_le 162 (m120.length + o120.length) 200 rfl rfl (by omega) (by omega) d_Ma_play_157 (by decide) (fun b157 => ?_) (fun b157 => ?_)
                    · skip
                      refine j_iload d_Ma_play_162 7 rfl ?_
                      refine j_iload d_Ma_play_164 1 rfl ?_
                      refine j_iadd d_Ma_play_166 ?_
                      refine j_eqi (y := nI (p + (cd_car g p t))) (nI_add p (cd_car g p t)) ?_
                      refine j_istore [(4, .int (nI (p + (cd_car g p t)))), (7, .int (tf w120)), (6, .int (nI (cd_car g p t))), (5, .int (nI (ub (g p)))), (0, .ref (L 0)), (1, .ref ro), (2, .int (nI f)), (3, .int (nI t))] d_Ma_play_167 (by decide) rfl ?_
                      refine j_iinc (v := nI ((p + (cd_car g p t)) + 1)) [(4, .int (nI ((p + (cd_car g p t)) + 1))), (7, .int (tf w120)), (6, .int (nI (cd_car g p t))), (5, .int (nI (ub (g p)))), (0, .ref (L 0)), (1, .ref ro), (2, .int (nI f)), (3, .int (nI t))] d_Ma_play_169 0 rfl (nI_add (p + (cd_car g p t)) 1) (by decide) rfl ?_
                      refine j_goto (tgt := 22) d_Ma_play_172 (by decide) ?_
                      have h1 : am_one g t p m o b (am_kp g p k) = some (m120, o120, b120_, k120) := by unfold am_one; rw [if_neg (of_decide_eq_false b82), if_pos (of_decide_eq_true b103), if_pos (of_decide_eq_true b111), hkp]; exact T120 b136
                      have h9 := T120 b136
                      simp only [Option.some.injEq, Prod.mk.injEq] at h9
                      have h2 : b120_.length ≤ k120 ∧ k120 ≤ 201 := by rw [← h9.2.2.1, ← h9.2.2.2]; omega
                      have h3 : m120.length + o120.length ≤ 200 := by omega
                      have hk8 : am_kp g p k ≤ 201 := by omega
                      refine j_lv [4, 5, 6, 7, 0] rfl ?_
                      refine j_widen (k' := 4 * (p + cd_car g p t + 1 - f)) (n' := 66 * (p + cd_car g p t + 1 - f)) (by omega) (by omega) ?_
                      exact ih N120 m120 o120 b120_ k120 (p + cd_car g p t + 1) (by omega) I120 ((fr.trans f69).trans f120) h3 h2 (by omega) (by omega) ((am_run_s (by omega) (am_step_t (by omega) hk8 h1 h3)).symm.trans he)
                    · skip
                      refine j_iconst (v := nI 0) d_Ma_play_160 (by decide) ?_
                      exact j_zret hκ rfl (by first | exact Or.inl rfl | exact Or.inr rfl) (by omega) (by omega) d_Ma_play_161 (PL.f I120 ((fr.trans f69).trans f120) (he.symm.trans (am_run_n (by omega) (am_step_f (Or.inr (Or.inr (fun s hs => by unfold am_one at hs; rw [if_neg (of_decide_eq_false b82), if_pos (of_decide_eq_true b103), if_pos (of_decide_eq_true b111), hkp] at hs; have h8 := T120 b136; rw [hs] at h8; cases h8; omega)))))))
            · skip
              refine j_aload_n d_Ma_play_85 rfl 2 rfl ?_
              refine j_iload d_Ma_play_86 1 rfl ?_
              refine j_callV (As := [.int (nI (ub (g p)))]) (rest := []) (c_Ma_branch Γ.l E N69 X L y n zs m o b (k + 0) (ub (g p)) I69 hL (by omega) (of_decide_eq_true b82)) Y_Ma_branch w_354 w_356 ws_4 I69.mo rfl rfl rfl (Nat.le_of_ble_eq_true rfl) (by omega) (by omega) (by omega) d_Ma_play_88 (fun v88 N88 p88 => ?_)
              obtain ⟨w88, m88, o88, b88_, k88, rfl, I88, f88, T88, F88⟩ := p88
              obtain ⟨z88_4m, u88_4m⟩ := I88.sm.o
              obtain ⟨z88_4o, u88_4o⟩ := I88.so.o
              show mp_J Γ m_Ma_play E κ N88 [(6, .int (nI (cd_car g p t))), (5, .int (nI (ub (g p)))), (0, .ref (L 0)), (1, .ref ro), (2, .int (nI f)), (3, .int (nI t)), (4, .int (nI p))] 91 [.int (tf w88)] (4 * (p - f) + 0) (66 * (p - f) + 0)
              refine j_tif_ne 162 d_Ma_play_91 (by decide) (fun b91 => ?_) (fun b91 => ?_)
              · skip
                refine j_iload d_Ma_play_162 6 rfl ?_
                refine j_iload d_Ma_play_164 0 rfl ?_
                refine j_iadd d_Ma_play_166 ?_
                refine j_eqi (y := nI (p + (cd_car g p t))) (nI_add p (cd_car g p t)) ?_
                refine j_istore [(4, .int (nI (p + (cd_car g p t)))), (6, .int (nI (cd_car g p t))), (5, .int (nI (ub (g p)))), (0, .ref (L 0)), (1, .ref ro), (2, .int (nI f)), (3, .int (nI t))] d_Ma_play_167 (by decide) rfl ?_
                refine j_iinc (v := nI ((p + (cd_car g p t)) + 1)) [(4, .int (nI ((p + (cd_car g p t)) + 1))), (6, .int (nI (cd_car g p t))), (5, .int (nI (ub (g p)))), (0, .ref (L 0)), (1, .ref ro), (2, .int (nI f)), (3, .int (nI t))] d_Ma_play_169 0 rfl (nI_add (p + (cd_car g p t)) 1) (by decide) rfl ?_
                refine j_goto (tgt := 22) d_Ma_play_172 (by decide) ?_
                have h1 : am_one g t p m o b (am_kp g p k) = some (m88, o88, b88_, k88) := by unfold am_one; rw [if_pos (of_decide_eq_true b82), hkp]; exact T88 b91
                have h9 := a_br_ok (T88 b91)
                simp only at h9
                have hc9 := of_decide_eq_true b82
                have hk9 : am_kp g p k = k + 1 := by unfold am_kp; rw [if_pos (by omega)]
                have h2 : b88_.length ≤ k88 ∧ k88 ≤ 201 := by omega
                have h3 : m88.length + o88.length ≤ 200 := by omega
                have hk8 : am_kp g p k ≤ 201 := by omega
                refine j_lv [3, 4, 5, 6, 0] rfl ?_
                refine j_widen (k' := 4 * (p + cd_car g p t + 1 - f)) (n' := 66 * (p + cd_car g p t + 1 - f)) (by omega) (by omega) ?_
                exact ih N88 m88 o88 b88_ k88 (p + cd_car g p t + 1) (by omega) I88 ((fr.trans f69).trans f88) h3 h2 (by omega) (by omega) ((am_run_s (by omega) (am_step_t (by omega) hk8 h1 h3)).symm.trans he)
              · skip
                refine j_iconst (v := nI 0) d_Ma_play_94 (by decide) ?_
                exact j_zret hκ rfl (by first | exact Or.inl rfl | exact Or.inr rfl) (by omega) (by omega) d_Ma_play_95 (PL.f I88 ((fr.trans f69).trans f88) (he.symm.trans (am_run_n (by omega) (am_step_f (Or.inr (Or.inr (fun s hs => F88 b91 s (by unfold am_one at hs; rw [if_pos (of_decide_eq_true b82), hkp] at hs; exact hs))))))))
          · skip
            refine j_iconst (v := nI 0) d_Ma_play_75 (by decide) ?_
            exact j_zret hκ rfl (by first | exact Or.inl rfl | exact Or.inr rfl) (by omega) (by omega) d_Ma_play_76 (PL.f I69 (fr.trans f69) (he.symm.trans (am_run_n (by omega) (am_step_f (Or.inr (Or.inl (by rw [hkp]; exact of_decide_eq_false b72)))))))
        · skip
          refine j_iconst (v := nI 1) d_Ma_play_64 (by decide) ?_
          refine j_goto (tgt := 69) d_Ma_play_65 (by decide) ?_
          have hkp : am_kp g p k = k + 1 := by unfold am_kp; rw [if_pos (by omega)]
          refine j_callV (As := [.int (nI 1)]) (rest := []) (c_Ma_count Γ.l E Mx X L y n zs m o b k 1 hI hL (by omega) (by omega)) Y_Ma_count w_347 w_349 ws_3 hI.mo rfl rfl rfl (Nat.le_of_ble_eq_true rfl) (by omega) (by omega) (by omega) d_Ma_play_69 (fun v69 N69 p69 => ?_)
          obtain ⟨rfl, I69, f69⟩ := p69
          obtain ⟨z69_5m, u69_5m⟩ := I69.sm.o
          obtain ⟨z69_5o, u69_5o⟩ := I69.so.o
          show mp_J Γ m_Ma_play E κ N69 [(6, .int (nI (cd_car g p t))), (5, .int (nI (ub (g p)))), (0, .ref (L 0)), (1, .ref ro), (2, .int (nI f)), (3, .int (nI t)), (4, .int (nI p))] 72 [.int (tf (decide (k + 1 ≤ 201)))] (4 * (p - f)) (66 * (p - f))
          refine j_tif_ne 77 d_Ma_play_72 (by decide) (fun b72 => ?_) (fun b72 => ?_)
          · skip
            have hk2 := of_decide_eq_true b72
            refine j_iload d_Ma_play_77 1 rfl ?_
            refine j_callS (As := [.int (nI (ub (g p)))]) (rest := []) (c_Co_isBranch Γ.l E N69 (ub (g p)) hu) Y_Co_isBranch w_351 w_352 rfl rfl (Nat.le_of_ble_eq_true rfl) (by omega) (by omega) (by omega) d_Ma_play_79 (fun v79 N79 p79 => ?_)
            obtain ⟨rfl, q79⟩ := p79
            obtain rfl := q79.symm
            show mp_J Γ m_Ma_play E κ N69 [(6, .int (nI (cd_car g p t))), (5, .int (nI (ub (g p)))), (0, .ref (L 0)), (1, .ref ro), (2, .int (nI f)), (3, .int (nI t)), (4, .int (nI p))] 82 [.int (tf (decide (ub (g p) = 99 ∨ ub (g p) = 100 ∨ ub (g p) = 103 ∨ ub (g p) = 104)))] (4 * (p - f)) (66 * (p - f))
            refine j_tif_eq 96 d_Ma_play_82 (by decide) (fun b82 => ?_) (fun b82 => ?_)
            · skip
              refine j_aload_n d_Ma_play_96 rfl 2 rfl ?_
              refine j_get F_Ma I69.mo 3 (by decide) w_166 (Or.inl rfl) rfl d_Ma_play_97 ?_
              refine j_callV (As := []) (rest := []) (c_Br_taken Γ.l E N69 (L 10) _ _ I69.br) Y_Br_taken w_362 w_363 w_364 I69.br rfl rfl rfl (Nat.le_of_ble_eq_true rfl) (by omega) (by omega) (by omega) d_Ma_play_100 (fun v100 N100 p100 => ?_)
              obtain ⟨rfl, q100⟩ := p100
              obtain rfl := q100.symm
              show mp_J Γ m_Ma_play E κ N69 [(6, .int (nI (cd_car g p t))), (5, .int (nI (ub (g p)))), (0, .ref (L 0)), (1, .ref ro), (2, .int (nI f)), (3, .int (nI t)), (4, .int (nI p))] 103 [.int (tf (decide (am_low b = -1)))] (4 * (p - f)) (66 * (p - f))
              refine j_tif_eq 162 d_Ma_play_103 (by decide) (fun b103 => ?_) (fun b103 => ?_)
              · skip
                refine j_iload d_Ma_play_162 6 rfl ?_
                refine j_iload d_Ma_play_164 0 rfl ?_
                refine j_iadd d_Ma_play_166 ?_
                refine j_eqi (y := nI (p + (cd_car g p t))) (nI_add p (cd_car g p t)) ?_
                refine j_istore [(4, .int (nI (p + (cd_car g p t)))), (6, .int (nI (cd_car g p t))), (5, .int (nI (ub (g p)))), (0, .ref (L 0)), (1, .ref ro), (2, .int (nI f)), (3, .int (nI t))] d_Ma_play_167 (by decide) rfl ?_
                refine j_iinc (v := nI ((p + (cd_car g p t)) + 1)) [(4, .int (nI ((p + (cd_car g p t)) + 1))), (6, .int (nI (cd_car g p t))), (5, .int (nI (ub (g p)))), (0, .ref (L 0)), (1, .ref ro), (2, .int (nI f)), (3, .int (nI t))] d_Ma_play_169 0 rfl (nI_add (p + (cd_car g p t)) 1) (by decide) rfl ?_
                refine j_goto (tgt := 22) d_Ma_play_172 (by decide) ?_
                have h1 : am_one g t p m o b (am_kp g p k) = some (m, o, b, k + 1) := by unfold am_one; rw [if_neg (of_decide_eq_false b82), if_neg (of_decide_eq_false b103), hkp]
                have h2 : b.length ≤ k + 1 ∧ k + 1 ≤ 201 := by omega
                have h3 : m.length + o.length ≤ 200 := htot
                have hk8 : am_kp g p k ≤ 201 := by omega
                refine j_lv [3, 4, 5, 6, 0] rfl ?_
                refine j_widen (k' := 4 * (p + cd_car g p t + 1 - f)) (n' := 66 * (p + cd_car g p t + 1 - f)) (by omega) (by omega) ?_
                exact ih N69 m o b (k + 1) (p + cd_car g p t + 1) (by omega) I69 (fr.trans f69) h3 h2 (by omega) (by omega) ((am_run_s (by omega) (am_step_t (by omega) hk8 h1 h3)).symm.trans he)
              · skip
                refine j_iload d_Ma_play_106 1 rfl ?_
                refine j_callS (As := [.int (nI (ub (g p)))]) (rest := []) (c_Co_isPush Γ.l E N69 (ub (g p)) hu) Y_Co_isPush w_398 w_399 rfl rfl (Nat.le_of_ble_eq_true rfl) (by omega) (by omega) (by omega) d_Ma_play_108 (fun v108 N108 p108 => ?_)
                obtain ⟨rfl, q108⟩ := p108
                obtain rfl := q108.symm
                show mp_J Γ m_Ma_play E κ N69 [(6, .int (nI (cd_car g p t))), (5, .int (nI (ub (g p)))), (0, .ref (L 0)), (1, .ref ro), (2, .int (nI f)), (3, .int (nI t)), (4, .int (nI p))] 111 [.int (tf (decide (ub (g p) ≤ 76)))] (4 * (p - f)) (66 * (p - f))
                refine j_tif_eq 126 d_Ma_play_111 (by decide) (fun b111 => ?_) (fun b111 => ?_)
                · skip
                  refine j_aload_n d_Ma_play_126 rfl 2 rfl ?_
                  refine j_iload d_Ma_play_127 1 rfl ?_
                  refine j_callV (As := [.int (nI (ub (g p)))]) (rest := []) (c_Ma_perform Γ.l E N69 X L y n zs m o b (k + 1) (ub (g p)) I69 hL (by omega) hu) Y_Ma_perform w_660 w_662 ws_7 I69.mo rfl rfl rfl (Nat.le_of_ble_eq_true rfl) (by omega) (by omega) (by omega) d_Ma_play_129 (fun v129 N129 p129 => ?_)
                  obtain ⟨w129, m129, o129, b129_, k129, rfl, I129, f129, T129, F129⟩ := p129
                  obtain ⟨z129_6m, u129_6m⟩ := I129.sm.o
                  obtain ⟨z129_6o, u129_6o⟩ := I129.so.o
                  show mp_J Γ m_Ma_play E κ N129 [(6, .int (nI (cd_car g p t))), (5, .int (nI (ub (g p)))), (0, .ref (L 0)), (1, .ref ro), (2, .int (nI f)), (3, .int (nI t)), (4, .int (nI p))] 132 [.int (tf w129)] (4 * (p - f) + 4) (66 * (p - f) + 66)
                  refine j_istore [(7, .int (tf w129)), (6, .int (nI (cd_car g p t))), (5, .int (nI (ub (g p)))), (0, .ref (L 0)), (1, .ref ro), (2, .int (nI f)), (3, .int (nI t)), (4, .int (nI p))] d_Ma_play_132 (by decide) rfl ?_
                  refine j_iload d_Ma_play_134 0 rfl ?_
                  refine j_tif_eq 160 d_Ma_play_136 (by decide) (fun b136 => ?_) (fun b136 => ?_)
                  · skip
                    refine j_iconst (v := nI 0) d_Ma_play_160 (by decide) ?_
                    exact j_zret hκ rfl (by first | exact Or.inl rfl | exact Or.inr rfl) (by omega) (by omega) d_Ma_play_161 (PL.f I129 ((fr.trans f69).trans f129) (he.symm.trans (am_run_n (by omega) (am_step_f (Or.inr (Or.inr (fun s hs => F129 b136 s (by unfold am_one at hs; rw [if_neg (of_decide_eq_false b82), if_pos (of_decide_eq_true b103), if_neg (of_decide_eq_false b111), hkp] at hs; exact hs))))))))
                  · skip
                    have hl1 := I129.sm.le
                    have hl2 := I129.so.le
                    refine j_aload_n d_Ma_play_139 rfl 3 rfl ?_
                    refine j_get F_Ma I129.mo 6 (by decide) w_169 (Or.inl rfl) rfl d_Ma_play_140 ?_
                    refine j_callV (As := []) (rest := []) (k_count Γ.l I129.sm) Y_St_count w_677 w_214 w_215 u129_6m rfl rfl rfl (Nat.le_of_ble_eq_true rfl) (by omega) (by omega) (by omega) d_Ma_play_143 (fun v143 N143 p143 => ?_)
                    obtain ⟨rfl, q143⟩ := p143
                    obtain rfl := q143.symm
                    show mp_J Γ m_Ma_play E κ N129 [(7, .int (tf w129)), (6, .int (nI (cd_car g p t))), (5, .int (nI (ub (g p)))), (0, .ref (L 0)), (1, .ref ro), (2, .int (nI f)), (3, .int (nI t)), (4, .int (nI p))] 146 [.int (nI m129.length)] (4 * (p - f) + 4) (66 * (p - f) + 66)
                    refine j_aload_n d_Ma_play_146 rfl 3 rfl ?_
                    refine j_get F_Ma I129.mo 2 (by decide) w_165 (Or.inl rfl) rfl d_Ma_play_147 ?_
                    refine j_callV (As := []) (rest := [.int (nI m129.length)]) (k_count Γ.l I129.so) Y_St_count w_677 w_214 w_215 u129_6o rfl rfl rfl (Nat.le_of_ble_eq_true rfl) (by omega) (by omega) (by omega) d_Ma_play_150 (fun v150 N150 p150 => ?_)
                    obtain ⟨rfl, q150⟩ := p150
                    obtain rfl := q150.symm
                    show mp_J Γ m_Ma_play E κ N129 [(7, .int (tf w129)), (6, .int (nI (cd_car g p t))), (5, .int (nI (ub (g p)))), (0, .ref (L 0)), (1, .ref ro), (2, .int (nI f)), (3, .int (nI t)), (4, .int (nI p))] 153 [.int (nI o129.length), .int (nI m129.length)] (4 * (p - f) + 4) (66 * (p - f) + 66)
                    refine j_iadd d_Ma_play_153 ?_
                    refine j_eqi (y := nI (m129.length + o129.length)) (nI_add m129.length o129.length) ?_
                    refine j_sipush (v := nI 200) d_Ma_play_154 (by decide) ?_
                    refine j_ncmp_le 162 (m129.length + o129.length) 200 rfl rfl (by omega) (by omega) d_Ma_play_157 (by decide) (fun b157 => ?_) (fun b157 => ?_)
                    · skip
                      refine j_iload d_Ma_play_162 7 rfl ?_
                      refine j_iload d_Ma_play_164 1 rfl ?_
                      refine j_iadd d_Ma_play_166 ?_
                      refine j_eqi (y := nI (p + (cd_car g p t))) (nI_add p (cd_car g p t)) ?_
                      refine j_istore [(4, .int (nI (p + (cd_car g p t)))), (7, .int (tf w129)), (6, .int (nI (cd_car g p t))), (5, .int (nI (ub (g p)))), (0, .ref (L 0)), (1, .ref ro), (2, .int (nI f)), (3, .int (nI t))] d_Ma_play_167 (by decide) rfl ?_
                      refine j_iinc (v := nI ((p + (cd_car g p t)) + 1)) [(4, .int (nI ((p + (cd_car g p t)) + 1))), (7, .int (tf w129)), (6, .int (nI (cd_car g p t))), (5, .int (nI (ub (g p)))), (0, .ref (L 0)), (1, .ref ro), (2, .int (nI f)), (3, .int (nI t))] d_Ma_play_169 0 rfl (nI_add (p + (cd_car g p t)) 1) (by decide) rfl ?_
                      refine j_goto (tgt := 22) d_Ma_play_172 (by decide) ?_
                      have h1 : am_one g t p m o b (am_kp g p k) = some (m129, o129, b129_, k129) := by unfold am_one; rw [if_neg (of_decide_eq_false b82), if_pos (of_decide_eq_true b103), if_neg (of_decide_eq_false b111), hkp]; exact T129 b136
                      have h9 := am_op_bk (T129 b136)
                      unfold am_bk at h9
                      simp only at h9
                      have h2 : b129_.length ≤ k129 ∧ k129 ≤ 201 := by rw [h9.1]; omega
                      have h3 : m129.length + o129.length ≤ 200 := by omega
                      have hk8 : am_kp g p k ≤ 201 := by omega
                      refine j_lv [4, 5, 6, 7, 0] rfl ?_
                      refine j_widen (k' := 4 * (p + cd_car g p t + 1 - f)) (n' := 66 * (p + cd_car g p t + 1 - f)) (by omega) (by omega) ?_
                      exact ih N129 m129 o129 b129_ k129 (p + cd_car g p t + 1) (by omega) I129 ((fr.trans f69).trans f129) h3 h2 (by omega) (by omega) ((am_run_s (by omega) (am_step_t (by omega) hk8 h1 h3)).symm.trans he)
                    · skip
                      refine j_iconst (v := nI 0) d_Ma_play_160 (by decide) ?_
                      exact j_zret hκ rfl (by first | exact Or.inl rfl | exact Or.inr rfl) (by omega) (by omega) d_Ma_play_161 (PL.f I129 ((fr.trans f69).trans f129) (he.symm.trans (am_run_n (by omega) (am_step_f (Or.inr (Or.inr (fun s hs => by unfold am_one at hs; rw [if_neg (of_decide_eq_false b82), if_pos (of_decide_eq_true b103), if_neg (of_decide_eq_false b111), hkp] at hs; have h8 := T129 b136; rw [hs] at h8; cases h8; omega)))))))
                · skip
                  refine j_aload_n d_Ma_play_114 rfl 2 rfl ?_
                  refine j_aload_n d_Ma_play_115 rfl 3 rfl ?_
                  refine j_iload d_Ma_play_116 6 rfl ?_
                  refine j_iload d_Ma_play_118 0 rfl ?_
                  refine j_callV (As := [.ref ro, .int (nI p), .int (nI (cd_car g p t))]) (rest := []) (c_Ma_pushFrom Γ.l E N69 X L y n zs m o b (k + 1) ro rn p (cd_car g p t) g I69 hL ((fr.trans f69) ro _ hro hXr) hfit hrn (by omega) hcr (fun h => cd_car_76 h)) Y_Ma_pushFrom w_401 w_403 ws_6 I69.mo rfl rfl rfl (Nat.le_of_ble_eq_true rfl) (by omega) (by omega) (by omega) d_Ma_play_120 (fun v120 N120 p120 => ?_)
                  obtain ⟨w120, m120, o120, b120_, k120, rfl, I120, f120, T120, F120⟩ := p120
                  obtain ⟨z120_7m, u120_7m⟩ := I120.sm.o
                  obtain ⟨z120_7o, u120_7o⟩ := I120.so.o
                  show mp_J Γ m_Ma_play E κ N120 [(6, .int (nI (cd_car g p t))), (5, .int (nI (ub (g p)))), (0, .ref (L 0)), (1, .ref ro), (2, .int (nI f)), (3, .int (nI t)), (4, .int (nI p))] 123 [.int (tf w120)] (4 * (p - f) + 2) (66 * (p - f) + (cd_car g p t + 1))
                  refine j_goto (tgt := 132) d_Ma_play_123 (by decide) ?_
                  refine j_istore [(7, .int (tf w120)), (6, .int (nI (cd_car g p t))), (5, .int (nI (ub (g p)))), (0, .ref (L 0)), (1, .ref ro), (2, .int (nI f)), (3, .int (nI t)), (4, .int (nI p))] d_Ma_play_132 (by decide) rfl ?_
                  refine j_iload d_Ma_play_134 0 rfl ?_
                  refine j_tif_eq 160 d_Ma_play_136 (by decide) (fun b136 => ?_) (fun b136 => ?_)
                  · skip
                    refine j_iconst (v := nI 0) d_Ma_play_160 (by decide) ?_
                    exact j_zret hκ rfl (by first | exact Or.inl rfl | exact Or.inr rfl) (by omega) (by omega) d_Ma_play_161 (PL.f I120 ((fr.trans f69).trans f120) (he.symm.trans (am_run_n (by omega) (am_step_f (Or.inr (Or.inr (fun s hs => F120 b136 s (by unfold am_one at hs; rw [if_neg (of_decide_eq_false b82), if_pos (of_decide_eq_true b103), if_pos (of_decide_eq_true b111), hkp] at hs; exact hs))))))))
                  · skip
                    have hl1 := I120.sm.le
                    have hl2 := I120.so.le
                    refine j_aload_n d_Ma_play_139 rfl 3 rfl ?_
                    refine j_get F_Ma I120.mo 6 (by decide) w_169 (Or.inl rfl) rfl d_Ma_play_140 ?_
                    refine j_callV (As := []) (rest := []) (k_count Γ.l I120.sm) Y_St_count w_677 w_214 w_215 u120_7m rfl rfl rfl (Nat.le_of_ble_eq_true rfl) (by omega) (by omega) (by omega) d_Ma_play_143 (fun v143 N143 p143 => ?_)
                    obtain ⟨rfl, q143⟩ := p143
                    obtain rfl := q143.symm
                    show mp_J Γ m_Ma_play E κ N120 [(7, .int (tf w120)), (6, .int (nI (cd_car g p t))), (5, .int (nI (ub (g p)))), (0, .ref (L 0)), (1, .ref ro), (2, .int (nI f)), (3, .int (nI t)), (4, .int (nI p))] 146 [.int (nI m120.length)] (4 * (p - f) + 2) (66 * (p - f) + (cd_car g p t + 1))
                    refine j_aload_n d_Ma_play_146 rfl 3 rfl ?_
                    refine j_get F_Ma I120.mo 2 (by decide) w_165 (Or.inl rfl) rfl d_Ma_play_147 ?_
                    refine j_callV (As := []) (rest := [.int (nI m120.length)]) (k_count Γ.l I120.so) Y_St_count w_677 w_214 w_215 u120_7o rfl rfl rfl (Nat.le_of_ble_eq_true rfl) (by omega) (by omega) (by omega) d_Ma_play_150 (fun v150 N150 p150 => ?_)
                    obtain ⟨rfl, q150⟩ := p150
                    obtain rfl := q150.symm
                    show mp_J Γ m_Ma_play E κ N120 [(7, .int (tf w120)), (6, .int (nI (cd_car g p t))), (5, .int (nI (ub (g p)))), (0, .ref (L 0)), (1, .ref ro), (2, .int (nI f)), (3, .int (nI t)), (4, .int (nI p))] 153 [.int (nI o120.length), .int (nI m120.length)] (4 * (p - f) + 2) (66 * (p - f) + (cd_car g p t + 1))
                    refine j_iadd d_Ma_play_153 ?_
                    refine j_eqi (y := nI (m120.length + o120.length)) (nI_add m120.length o120.length) ?_
                    refine j_sipush (v := nI 200) d_Ma_play_154 (by decide) ?_
                    refine j_ncmp_le 162 (m120.length + o120.length) 200 rfl rfl (by omega) (by omega) d_Ma_play_157 (by decide) (fun b157 => ?_) (fun b157 => ?_)
                    · skip
                      refine j_iload d_Ma_play_162 7 rfl ?_
                      refine j_iload d_Ma_play_164 1 rfl ?_
                      refine j_iadd d_Ma_play_166 ?_
                      refine j_eqi (y := nI (p + (cd_car g p t))) (nI_add p (cd_car g p t)) ?_
                      refine j_istore [(4, .int (nI (p + (cd_car g p t)))), (7, .int (tf w120)), (6, .int (nI (cd_car g p t))), (5, .int (nI (ub (g p)))), (0, .ref (L 0)), (1, .ref ro), (2, .int (nI f)), (3, .int (nI t))] d_Ma_play_167 (by decide) rfl ?_
                      refine j_iinc (v := nI ((p + (cd_car g p t)) + 1)) [(4, .int (nI ((p + (cd_car g p t)) + 1))), (7, .int (tf w120)), (6, .int (nI (cd_car g p t))), (5, .int (nI (ub (g p)))), (0, .ref (L 0)), (1, .ref ro), (2, .int (nI f)), (3, .int (nI t))] d_Ma_play_169 0 rfl (nI_add (p + (cd_car g p t)) 1) (by decide) rfl ?_
                      refine j_goto (tgt := 22) d_Ma_play_172 (by decide) ?_
                      have h1 : am_one g t p m o b (am_kp g p k) = some (m120, o120, b120_, k120) := by unfold am_one; rw [if_neg (of_decide_eq_false b82), if_pos (of_decide_eq_true b103), if_pos (of_decide_eq_true b111), hkp]; exact T120 b136
                      have h9 := T120 b136
                      simp only [Option.some.injEq, Prod.mk.injEq] at h9
                      have h2 : b120_.length ≤ k120 ∧ k120 ≤ 201 := by rw [← h9.2.2.1, ← h9.2.2.2]; omega
                      have h3 : m120.length + o120.length ≤ 200 := by omega
                      have hk8 : am_kp g p k ≤ 201 := by omega
                      refine j_lv [4, 5, 6, 7, 0] rfl ?_
                      refine j_widen (k' := 4 * (p + cd_car g p t + 1 - f)) (n' := 66 * (p + cd_car g p t + 1 - f)) (by omega) (by omega) ?_
                      exact ih N120 m120 o120 b120_ k120 (p + cd_car g p t + 1) (by omega) I120 ((fr.trans f69).trans f120) h3 h2 (by omega) (by omega) ((am_run_s (by omega) (am_step_t (by omega) hk8 h1 h3)).symm.trans he)
                    · skip
                      refine j_iconst (v := nI 0) d_Ma_play_160 (by decide) ?_
                      exact j_zret hκ rfl (by first | exact Or.inl rfl | exact Or.inr rfl) (by omega) (by omega) d_Ma_play_161 (PL.f I120 ((fr.trans f69).trans f120) (he.symm.trans (am_run_n (by omega) (am_step_f (Or.inr (Or.inr (fun s hs => by unfold am_one at hs; rw [if_neg (of_decide_eq_false b82), if_pos (of_decide_eq_true b103), if_pos (of_decide_eq_true b111), hkp] at hs; have h8 := T120 b136; rw [hs] at h8; cases h8; omega)))))))
            · skip
              refine j_aload_n d_Ma_play_85 rfl 2 rfl ?_
              refine j_iload d_Ma_play_86 1 rfl ?_
              refine j_callV (As := [.int (nI (ub (g p)))]) (rest := []) (c_Ma_branch Γ.l E N69 X L y n zs m o b (k + 1) (ub (g p)) I69 hL (by omega) (of_decide_eq_true b82)) Y_Ma_branch w_354 w_356 ws_4 I69.mo rfl rfl rfl (Nat.le_of_ble_eq_true rfl) (by omega) (by omega) (by omega) d_Ma_play_88 (fun v88 N88 p88 => ?_)
              obtain ⟨w88, m88, o88, b88_, k88, rfl, I88, f88, T88, F88⟩ := p88
              obtain ⟨z88_8m, u88_8m⟩ := I88.sm.o
              obtain ⟨z88_8o, u88_8o⟩ := I88.so.o
              show mp_J Γ m_Ma_play E κ N88 [(6, .int (nI (cd_car g p t))), (5, .int (nI (ub (g p)))), (0, .ref (L 0)), (1, .ref ro), (2, .int (nI f)), (3, .int (nI t)), (4, .int (nI p))] 91 [.int (tf w88)] (4 * (p - f) + 0) (66 * (p - f) + 0)
              refine j_tif_ne 162 d_Ma_play_91 (by decide) (fun b91 => ?_) (fun b91 => ?_)
              · skip
                refine j_iload d_Ma_play_162 6 rfl ?_
                refine j_iload d_Ma_play_164 0 rfl ?_
                refine j_iadd d_Ma_play_166 ?_
                refine j_eqi (y := nI (p + (cd_car g p t))) (nI_add p (cd_car g p t)) ?_
                refine j_istore [(4, .int (nI (p + (cd_car g p t)))), (6, .int (nI (cd_car g p t))), (5, .int (nI (ub (g p)))), (0, .ref (L 0)), (1, .ref ro), (2, .int (nI f)), (3, .int (nI t))] d_Ma_play_167 (by decide) rfl ?_
                refine j_iinc (v := nI ((p + (cd_car g p t)) + 1)) [(4, .int (nI ((p + (cd_car g p t)) + 1))), (6, .int (nI (cd_car g p t))), (5, .int (nI (ub (g p)))), (0, .ref (L 0)), (1, .ref ro), (2, .int (nI f)), (3, .int (nI t))] d_Ma_play_169 0 rfl (nI_add (p + (cd_car g p t)) 1) (by decide) rfl ?_
                refine j_goto (tgt := 22) d_Ma_play_172 (by decide) ?_
                have h1 : am_one g t p m o b (am_kp g p k) = some (m88, o88, b88_, k88) := by unfold am_one; rw [if_pos (of_decide_eq_true b82), hkp]; exact T88 b91
                have h9 := a_br_ok (T88 b91)
                simp only at h9
                have hc9 := of_decide_eq_true b82
                have hk9 : am_kp g p k = k + 1 := by unfold am_kp; rw [if_pos (by omega)]
                have h2 : b88_.length ≤ k88 ∧ k88 ≤ 201 := by omega
                have h3 : m88.length + o88.length ≤ 200 := by omega
                have hk8 : am_kp g p k ≤ 201 := by omega
                refine j_lv [3, 4, 5, 6, 0] rfl ?_
                refine j_widen (k' := 4 * (p + cd_car g p t + 1 - f)) (n' := 66 * (p + cd_car g p t + 1 - f)) (by omega) (by omega) ?_
                exact ih N88 m88 o88 b88_ k88 (p + cd_car g p t + 1) (by omega) I88 ((fr.trans f69).trans f88) h3 h2 (by omega) (by omega) ((am_run_s (by omega) (am_step_t (by omega) hk8 h1 h3)).symm.trans he)
              · skip
                refine j_iconst (v := nI 0) d_Ma_play_94 (by decide) ?_
                exact j_zret hκ rfl (by first | exact Or.inl rfl | exact Or.inr rfl) (by omega) (by omega) d_Ma_play_95 (PL.f I88 ((fr.trans f69).trans f88) (he.symm.trans (am_run_n (by omega) (am_step_f (Or.inr (Or.inr (fun s hs => F88 b91 s (by unfold am_one at hs; rw [if_pos (of_decide_eq_true b82), hkp] at hs; exact hs))))))))
          · skip
            refine j_iconst (v := nI 0) d_Ma_play_75 (by decide) ?_
            exact j_zret hκ rfl (by first | exact Or.inl rfl | exact Or.inr rfl) (by omega) (by omega) d_Ma_play_76 (PL.f I69 (fr.trans f69) (he.symm.trans (am_run_n (by omega) (am_step_f (Or.inr (Or.inl (by rw [hkp]; exact of_decide_eq_false b72)))))))
