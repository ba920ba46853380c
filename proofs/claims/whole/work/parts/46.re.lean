theorem sg_end {g : Nat → Int32} {n p acc : Nat} (hp : n ≤ p) : ∀ r, sg_run g n r p acc = acc := by
  intro r
  cases r with
  | zero => rfl
  | succ r => show (if _ then _ else _) = _; rw [if_pos hp]
theorem ca_1 {g : Nat → Int32} {p t : Nat} (h : ub (g p) < 76) : cd_car g p t = ub (g p) := by unfold cd_car; rw [if_neg (by omega), if_pos h]
theorem ca_2 {g : Nat → Int32} {p t : Nat} (h : ub (g p) = 76) (h' : p + 1 < t) : cd_car g p t = 1 + ub (g (p + 1)) := by unfold cd_car; rw [if_neg (by omega), if_neg (by omega), if_pos h']
theorem ca_3 {g : Nat → Int32} {p t : Nat} (h : ub (g p) = 76) (h' : ¬ p + 1 < t) : cd_car g p t = 1 := by unfold cd_car; rw [if_neg (by omega), if_neg (by omega), if_neg h']
theorem ca_4 {g : Nat → Int32} {p t : Nat} (h : 76 < ub (g p)) : cd_car g p t = 0 := by unfold cd_car; rw [if_pos h]
theorem sg_0 {c : Nat} (h : c < 172 ∨ 175 < c) : sg_of c = 0 := by unfold sg_of; rw [if_neg (by omega), if_neg (by omega)]
theorem sg_1 {c : Nat} (h : 172 ≤ c ∧ c < 174) : sg_of c = 1 := by unfold sg_of; rw [if_pos (by omega)]
theorem sg_20 {c : Nat} (h : 174 ≤ c ∧ c ≤ 175) : sg_of c = 20 := by unfold sg_of; rw [if_neg (by omega), if_pos (by omega)]
set_option maxHeartbeats 4000000 in
set_option maxRecDepth 100000 in
theorem lp_Mo_sigs {Γ : mp_G} {κ : mp_K} (E : mp_E) (M : mp_M) (h ro rows kp ks st8 w64 ha pa tg sz dp as_ ops tk : Nat) (thr : Int32) (g : Nat → Int32) (j R : Nat) (P : Option Value → mp_M → Prop) (h0 : M h = some (mp_o 7 [.ref ro, .int (nI rows), .int thr, .ref kp, .ref ks, .ref st8, .ref w64, .ref ha, .ref pa, .ref tg, .ref sz, .int (nI dp), .int (nI as_), .int (nI ops), .ref tk])) (h1 : M ro = some (mp_b E 1000 g)) (hj : j ≤ 1000) (hP : P (some (.int (nI R))) M) (hκ : mp_k κ 2 0 0 (P)) : ∀ (r : Nat) (p acc : Nat), j - p < r → (acc ≤ 20 * p) → (p ≤ j) → (sg_run g j r p acc = R) → mp_J Γ m_Mo_sigs E κ M [(0, .ref h), (1, .int (nI j)), (2, .int (nI acc)), (3, .int (nI p))] 14 [] 0 0 := by
  obtain ⟨hκd, hκc, hκs, -⟩ := id hκ
  intro r
  induction r with
  | zero => intro p acc hr; exact absurd hr (Nat.not_lt_zero _)
  | succ r ih =>
    intro p acc hr hacc hp2 he
    have hu := ub_lt (g p)
    have hu1 := ub_lt (g (p + 1))
    refine j_iload_n d_Mo_sigs_14 rfl 3 rfl ?_
    refine j_iload_n d_Mo_sigs_15 rfl 1 rfl ?_
    refine j_ncmp_ge 134 p j rfl rfl (by omega) (by omega) d_Mo_sigs_16 (by decide) (fun b16 => ?_) (fun b16 => ?_)
    · skip
      refine j_iload_n d_Mo_sigs_134 rfl 2 rfl ?_
      exact j_iret hκ rfl (by omega) (by omega) d_Mo_sigs_135 (sg_fin (by omega) he ▸ hP)
    · skip
      refine j_aload_n d_Mo_sigs_19 rfl 0 rfl ?_
      refine j_get F_Mo h0 0 (by decide) w_943 (Or.inl rfl) rfl d_Mo_sigs_20 ?_
      refine j_iload_n d_Mo_sigs_23 rfl 3 rfl ?_
      refine j_bald h1 p rfl (by omega) (by omega) d_Mo_sigs_24 ?_
      refine j_sipush (v := 255) d_Mo_sigs_25 (by decide) ?_
      refine j_iand d_Mo_sigs_28 ?_
      refine j_eqi (y := nI (ub (g p))) (ub_and _) ?_
      refine j_istore [(4, .int (nI (ub (g p)))), (0, .ref h), (1, .int (nI j)), (2, .int (nI acc)), (3, .int (nI p))] d_Mo_sigs_29 (by decide) rfl ?_
      refine j_iconst (v := nI 0) d_Mo_sigs_31 (by decide) ?_
      refine j_istore [(5, .int (nI 0)), (4, .int (nI (ub (g p)))), (0, .ref h), (1, .int (nI j)), (2, .int (nI acc)), (3, .int (nI p))] d_Mo_sigs_32 (by decide) rfl ?_
      refine j_iinc (v := nI (p + 1)) [(3, .int (nI (p + 1))), (5, .int (nI 0)), (4, .int (nI (ub (g p)))), (0, .ref h), (1, .int (nI j)), (2, .int (nI acc))] d_Mo_sigs_34 5 rfl (nI_add p 1) (by decide) rfl ?_
      refine j_iload d_Mo_sigs_37 2 rfl ?_
      refine j_bipush (v := nI 76) d_Mo_sigs_39 (by decide) ?_
      refine j_ncmp_ge 51 (ub (g p)) 76 rfl rfl (by omega) (by omega) d_Mo_sigs_41 (by decide) (fun b41 => ?_) (fun b41 => ?_)
      · skip
        refine j_iload d_Mo_sigs_51 2 rfl ?_
        refine j_bipush (v := nI 76) d_Mo_sigs_53 (by decide) ?_
        refine j_ncmp_ne 83 (ub (g p)) 76 rfl rfl (by omega) (by omega) d_Mo_sigs_55 (by decide) (fun b55 => ?_) (fun b55 => ?_)
        · skip
          refine j_iload d_Mo_sigs_83 2 rfl ?_
          refine j_sipush (v := nI 172) d_Mo_sigs_85 (by decide) ?_
          refine j_ncmp_lt 116 (ub (g p)) 172 rfl rfl (by omega) (by omega) d_Mo_sigs_88 (by decide) (fun b88 => ?_) (fun b88 => ?_)
          · skip
            refine j_iload d_Mo_sigs_116 1 rfl ?_
            refine j_iload_n d_Mo_sigs_118 rfl 4 rfl ?_
            refine j_iload_n d_Mo_sigs_119 rfl 0 rfl ?_
            refine j_isub d_Mo_sigs_120 ?_
            refine j_eqi (y := nI (j - (p + 1))) (pk_sub (by omega)) ?_
            refine j_ncmp_le 126 0 (j - (p + 1)) rfl rfl (by omega) (by omega) d_Mo_sigs_121 (by decide) (fun b121 => ?_) (fun b121 => ?_)
            · skip
              refine j_iload_n d_Mo_sigs_126 rfl 0 rfl ?_
              refine j_iload d_Mo_sigs_127 1 rfl ?_
              refine j_iadd d_Mo_sigs_129 ?_
              refine j_eqi (y := nI ((p + 1) + 0)) (nI_add (p + 1) 0) ?_
              refine j_istore_n [(3, .int (nI ((p + 1) + 0))), (5, .int (nI 0)), (4, .int (nI (ub (g p)))), (0, .ref h), (1, .int (nI j)), (2, .int (nI acc))] d_Mo_sigs_130 rfl (by decide) rfl ?_
              refine j_goto (tgt := 14) d_Mo_sigs_131 (by decide) ?_
              refine j_lv [3, 4, 5, 0] rfl ?_
              have h9 := sg_nxt (by omega) he
              rw [ca_4 (by omega), sg_0 (by omega)] at h9
              exact ih ((p + 1) + 0) acc (by omega) (by omega) (by omega) (by first | exact h9 | (rw [← h9]; congr 1 <;> omega))
            · skip
              refine j_iload_n d_Mo_sigs_124 rfl 5 rfl ?_
              exact j_iret hκ rfl (by omega) (by omega) d_Mo_sigs_125 ((by have h9 := sg_nxt (by omega) he; rw [ca_4 (by omega), sg_0 (by omega), sg_end (by omega)] at h9; omega : R = acc) ▸ hP)
          · skip
            refine j_iload d_Mo_sigs_91 2 rfl ?_
            refine j_sipush (v := nI 175) d_Mo_sigs_93 (by decide) ?_
            refine j_ncmp_gt 116 (ub (g p)) 175 rfl rfl (by omega) (by omega) d_Mo_sigs_96 (by decide) (fun b96 => ?_) (fun b96 => ?_)
            · skip
              refine j_iload d_Mo_sigs_116 1 rfl ?_
              refine j_iload_n d_Mo_sigs_118 rfl 4 rfl ?_
              refine j_iload_n d_Mo_sigs_119 rfl 0 rfl ?_
              refine j_isub d_Mo_sigs_120 ?_
              refine j_eqi (y := nI (j - (p + 1))) (pk_sub (by omega)) ?_
              refine j_ncmp_le 126 0 (j - (p + 1)) rfl rfl (by omega) (by omega) d_Mo_sigs_121 (by decide) (fun b121 => ?_) (fun b121 => ?_)
              · skip
                refine j_iload_n d_Mo_sigs_126 rfl 0 rfl ?_
                refine j_iload d_Mo_sigs_127 1 rfl ?_
                refine j_iadd d_Mo_sigs_129 ?_
                refine j_eqi (y := nI ((p + 1) + 0)) (nI_add (p + 1) 0) ?_
                refine j_istore_n [(3, .int (nI ((p + 1) + 0))), (5, .int (nI 0)), (4, .int (nI (ub (g p)))), (0, .ref h), (1, .int (nI j)), (2, .int (nI acc))] d_Mo_sigs_130 rfl (by decide) rfl ?_
                refine j_goto (tgt := 14) d_Mo_sigs_131 (by decide) ?_
                refine j_lv [3, 4, 5, 0] rfl ?_
                have h9 := sg_nxt (by omega) he
                rw [ca_4 (by omega), sg_0 (by omega)] at h9
                exact ih ((p + 1) + 0) acc (by omega) (by omega) (by omega) (by first | exact h9 | (rw [← h9]; congr 1 <;> omega))
              · skip
                refine j_iload_n d_Mo_sigs_124 rfl 5 rfl ?_
                exact j_iret hκ rfl (by omega) (by omega) d_Mo_sigs_125 ((by have h9 := sg_nxt (by omega) he; rw [ca_4 (by omega), sg_0 (by omega), sg_end (by omega)] at h9; omega : R = acc) ▸ hP)
            · skip
              refine j_iload_n d_Mo_sigs_99 rfl 5 rfl ?_
              refine j_iload d_Mo_sigs_100 2 rfl ?_
              refine j_sipush (v := nI 174) d_Mo_sigs_102 (by decide) ?_
              refine j_ncmp_ge 112 (ub (g p)) 174 rfl rfl (by omega) (by omega) d_Mo_sigs_105 (by decide) (fun b105 => ?_) (fun b105 => ?_)
              · skip
                refine j_bipush (v := nI 20) d_Mo_sigs_112 (by decide) ?_
                refine j_iadd d_Mo_sigs_114 ?_
                refine j_eqi (y := nI (acc + 20)) (nI_add acc 20) ?_
                refine j_istore_n [(2, .int (nI (acc + 20))), (3, .int (nI (p + 1))), (5, .int (nI 0)), (4, .int (nI (ub (g p)))), (0, .ref h), (1, .int (nI j))] d_Mo_sigs_115 rfl (by decide) rfl ?_
                refine j_iload d_Mo_sigs_116 2 rfl ?_
                refine j_iload_n d_Mo_sigs_118 rfl 5 rfl ?_
                refine j_iload_n d_Mo_sigs_119 rfl 1 rfl ?_
                refine j_isub d_Mo_sigs_120 ?_
                refine j_eqi (y := nI (j - (p + 1))) (pk_sub (by omega)) ?_
                refine j_ncmp_le 126 0 (j - (p + 1)) rfl rfl (by omega) (by omega) d_Mo_sigs_121 (by decide) (fun b121 => ?_) (fun b121 => ?_)
                · skip
                  refine j_iload_n d_Mo_sigs_126 rfl 1 rfl ?_
                  refine j_iload d_Mo_sigs_127 2 rfl ?_
                  refine j_iadd d_Mo_sigs_129 ?_
                  refine j_eqi (y := nI ((p + 1) + 0)) (nI_add (p + 1) 0) ?_
                  refine j_istore_n [(3, .int (nI ((p + 1) + 0))), (2, .int (nI (acc + 20))), (5, .int (nI 0)), (4, .int (nI (ub (g p)))), (0, .ref h), (1, .int (nI j))] d_Mo_sigs_130 rfl (by decide) rfl ?_
                  refine j_goto (tgt := 14) d_Mo_sigs_131 (by decide) ?_
                  refine j_lv [4, 5, 1, 0] rfl ?_
                  have h9 := sg_nxt (by omega) he
                  rw [ca_4 (by omega), sg_20 (by omega)] at h9
                  exact ih ((p + 1) + 0) (acc + 20) (by omega) (by omega) (by omega) (by first | exact h9 | (rw [← h9]; congr 1 <;> omega))
                · skip
                  refine j_iload_n d_Mo_sigs_124 rfl 0 rfl ?_
                  exact j_iret hκ rfl (by omega) (by omega) d_Mo_sigs_125 ((by have h9 := sg_nxt (by omega) he; rw [ca_4 (by omega), sg_20 (by omega), sg_end (by omega)] at h9; omega : R = (acc + 20)) ▸ hP)
              · skip
                refine j_iconst (v := nI 1) d_Mo_sigs_108 (by decide) ?_
                refine j_goto (tgt := 114) d_Mo_sigs_109 (by decide) ?_
                refine j_iadd d_Mo_sigs_114 ?_
                refine j_eqi (y := nI (acc + 1)) (nI_add acc 1) ?_
                refine j_istore_n [(2, .int (nI (acc + 1))), (3, .int (nI (p + 1))), (5, .int (nI 0)), (4, .int (nI (ub (g p)))), (0, .ref h), (1, .int (nI j))] d_Mo_sigs_115 rfl (by decide) rfl ?_
                refine j_iload d_Mo_sigs_116 2 rfl ?_
                refine j_iload_n d_Mo_sigs_118 rfl 5 rfl ?_
                refine j_iload_n d_Mo_sigs_119 rfl 1 rfl ?_
                refine j_isub d_Mo_sigs_120 ?_
                refine j_eqi (y := nI (j - (p + 1))) (pk_sub (by omega)) ?_
                refine j_ncmp_le 126 0 (j - (p + 1)) rfl rfl (by omega) (by omega) d_Mo_sigs_121 (by decide) (fun b121 => ?_) (fun b121 => ?_)
                · skip
                  refine j_iload_n d_Mo_sigs_126 rfl 1 rfl ?_
                  refine j_iload d_Mo_sigs_127 2 rfl ?_
                  refine j_iadd d_Mo_sigs_129 ?_
                  refine j_eqi (y := nI ((p + 1) + 0)) (nI_add (p + 1) 0) ?_
                  refine j_istore_n [(3, .int (nI ((p + 1) + 0))), (2, .int (nI (acc + 1))), (5, .int (nI 0)), (4, .int (nI (ub (g p)))), (0, .ref h), (1, .int (nI j))] d_Mo_sigs_130 rfl (by decide) rfl ?_
                  refine j_goto (tgt := 14) d_Mo_sigs_131 (by decide) ?_
                  refine j_lv [4, 5, 1, 0] rfl ?_
                  have h9 := sg_nxt (by omega) he
                  rw [ca_4 (by omega), sg_1 (by omega)] at h9
                  exact ih ((p + 1) + 0) (acc + 1) (by omega) (by omega) (by omega) (by first | exact h9 | (rw [← h9]; congr 1 <;> omega))
                · skip
                  refine j_iload_n d_Mo_sigs_124 rfl 0 rfl ?_
                  exact j_iret hκ rfl (by omega) (by omega) d_Mo_sigs_125 ((by have h9 := sg_nxt (by omega) he; rw [ca_4 (by omega), sg_1 (by omega), sg_end (by omega)] at h9; omega : R = (acc + 1)) ▸ hP)
        · skip
          refine j_iload_n d_Mo_sigs_58 rfl 0 rfl ?_
          refine j_iload_n d_Mo_sigs_59 rfl 4 rfl ?_
          refine j_ncmp_ne 65 (p + 1) j rfl rfl (by omega) (by omega) d_Mo_sigs_60 (by decide) (fun b60 => ?_) (fun b60 => ?_)
          · skip
            refine j_aload_n d_Mo_sigs_65 rfl 3 rfl ?_
            refine j_get F_Mo h0 0 (by decide) w_943 (Or.inl rfl) rfl d_Mo_sigs_66 ?_
            refine j_iload_n d_Mo_sigs_69 rfl 0 rfl ?_
            refine j_bald h1 (p + 1) rfl (by omega) (by omega) d_Mo_sigs_70 ?_
            refine j_sipush (v := 255) d_Mo_sigs_71 (by decide) ?_
            refine j_iand d_Mo_sigs_74 ?_
            refine j_eqi (y := nI (ub (g (p + 1)))) (ub_and _) ?_
            refine j_istore [(5, .int (nI (ub (g (p + 1))))), (3, .int (nI (p + 1))), (4, .int (nI (ub (g p)))), (0, .ref h), (1, .int (nI j)), (2, .int (nI acc))] d_Mo_sigs_75 (by decide) rfl ?_
            refine j_iinc (v := nI ((p + 1) + 1)) [(3, .int (nI ((p + 1) + 1))), (5, .int (nI (ub (g (p + 1))))), (4, .int (nI (ub (g p)))), (0, .ref h), (1, .int (nI j)), (2, .int (nI acc))] d_Mo_sigs_77 1 rfl (nI_add (p + 1) 1) (by decide) rfl ?_
            refine j_goto (tgt := 116) d_Mo_sigs_80 (by decide) ?_
            refine j_iload d_Mo_sigs_116 1 rfl ?_
            refine j_iload_n d_Mo_sigs_118 rfl 4 rfl ?_
            refine j_iload_n d_Mo_sigs_119 rfl 0 rfl ?_
            refine j_isub d_Mo_sigs_120 ?_
            refine j_eqi (y := nI (j - ((p + 1) + 1))) (pk_sub (by omega)) ?_
            refine j_ncmp_le 126 (ub (g (p + 1))) (j - ((p + 1) + 1)) rfl rfl (by omega) (by omega) d_Mo_sigs_121 (by decide) (fun b121 => ?_) (fun b121 => ?_)
            · skip
              refine j_iload_n d_Mo_sigs_126 rfl 0 rfl ?_
              refine j_iload d_Mo_sigs_127 1 rfl ?_
              refine j_iadd d_Mo_sigs_129 ?_
              refine j_eqi (y := nI (((p + 1) + 1) + (ub (g (p + 1))))) (nI_add ((p + 1) + 1) (ub (g (p + 1)))) ?_
              refine j_istore_n [(3, .int (nI (((p + 1) + 1) + (ub (g (p + 1)))))), (5, .int (nI (ub (g (p + 1))))), (4, .int (nI (ub (g p)))), (0, .ref h), (1, .int (nI j)), (2, .int (nI acc))] d_Mo_sigs_130 rfl (by decide) rfl ?_
              refine j_goto (tgt := 14) d_Mo_sigs_131 (by decide) ?_
              refine j_lv [3, 4, 5, 0] rfl ?_
              have h9 := sg_nxt (by omega) he
              rw [ca_2 (by omega) (by omega), sg_0 (by omega)] at h9
              exact ih (((p + 1) + 1) + (ub (g (p + 1)))) acc (by omega) (by omega) (by omega) (by first | exact h9 | (rw [← h9]; congr 1 <;> omega))
            · skip
              refine j_iload_n d_Mo_sigs_124 rfl 5 rfl ?_
              exact j_iret hκ rfl (by omega) (by omega) d_Mo_sigs_125 ((by have h9 := sg_nxt (by omega) he; rw [ca_2 (by omega) (by omega), sg_0 (by omega), sg_end (by omega)] at h9; omega : R = acc) ▸ hP)
          · skip
            refine j_iload_n d_Mo_sigs_63 rfl 5 rfl ?_
            exact j_iret hκ rfl (by omega) (by omega) d_Mo_sigs_64 ((by have h9 := sg_nxt (by omega) he; rw [ca_3 (by omega) (by omega), sg_0 (by omega), sg_end (by omega)] at h9; omega : R = acc) ▸ hP)
      · skip
        refine j_iload d_Mo_sigs_44 2 rfl ?_
        refine j_istore [(5, .int (nI (ub (g p)))), (3, .int (nI (p + 1))), (4, .int (nI (ub (g p)))), (0, .ref h), (1, .int (nI j)), (2, .int (nI acc))] d_Mo_sigs_46 (by decide) rfl ?_
        refine j_goto (tgt := 116) d_Mo_sigs_48 (by decide) ?_
        refine j_iload d_Mo_sigs_116 0 rfl ?_
        refine j_iload_n d_Mo_sigs_118 rfl 4 rfl ?_
        refine j_iload_n d_Mo_sigs_119 rfl 1 rfl ?_
        refine j_isub d_Mo_sigs_120 ?_
        refine j_eqi (y := nI (j - (p + 1))) (pk_sub (by omega)) ?_
        refine j_ncmp_le 126 (ub (g p)) (j - (p + 1)) rfl rfl (by omega) (by omega) d_Mo_sigs_121 (by decide) (fun b121 => ?_) (fun b121 => ?_)
        · skip
          refine j_iload_n d_Mo_sigs_126 rfl 1 rfl ?_
          refine j_iload d_Mo_sigs_127 0 rfl ?_
          refine j_iadd d_Mo_sigs_129 ?_
          refine j_eqi (y := nI ((p + 1) + (ub (g p)))) (nI_add (p + 1) (ub (g p))) ?_
          refine j_istore_n [(3, .int (nI ((p + 1) + (ub (g p))))), (5, .int (nI (ub (g p)))), (4, .int (nI (ub (g p)))), (0, .ref h), (1, .int (nI j)), (2, .int (nI acc))] d_Mo_sigs_130 rfl (by decide) rfl ?_
          refine j_goto (tgt := 14) d_Mo_sigs_131 (by decide) ?_
          refine j_lv [3, 4, 5, 0] rfl ?_
          have h9 := sg_nxt (by omega) he
          rw [ca_1 (by omega), sg_0 (by omega)] at h9
          exact ih ((p + 1) + (ub (g p))) acc (by omega) (by omega) (by omega) (by first | exact h9 | (rw [← h9]; congr 1 <;> omega))
        · skip
          refine j_iload_n d_Mo_sigs_124 rfl 5 rfl ?_
          exact j_iret hκ rfl (by omega) (by omega) d_Mo_sigs_125 ((by have h9 := sg_nxt (by omega) he; rw [ca_1 (by omega), sg_0 (by omega), sg_end (by omega)] at h9; omega : R = acc) ▸ hP)
