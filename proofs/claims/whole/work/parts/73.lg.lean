theorem mp_Cr.frame {l : Launch} {μ : mp_D} {E : mp_E} {D M : mp_M} {d mc ms : Nat} {av : List Value} {P : Option Value → mp_M → Prop} (h : mp_Cr l μ E D d mc ms av P) (hs : NW D M) : mp_Cr l μ E M d mc ms av (fun v N => ∃ ND, P v ND ∧ (∀ a e, ND a = some e → D a = none → M a = none) ∧ N = mg M D ND) :=
  (mp_Ct.frame h hs).mono fun oc N ⟨ND, hp, hn, e⟩ => by
    cases oc with
    | inl v => exact ⟨ND, hp, hn, e⟩
    | inr x => exact hp.elim
set_option maxHeartbeats 4000000 in
set_option maxRecDepth 100000 in
theorem law_start {Γ : mp_G} {κ : mp_K} (E : mp_E) (b L : Nat) (xs : Nat → Int32) (hl0 : Γ.l.stackTraces = false) (hL : L ≤ 3072) (hX : va_X b L xs Γ.s Γ.s.heap) (hbl : b < Γ.s.heap.size) (hbA : ¬ mp_A κ.1 Γ.s.heap.size b) (hκd : κ.2.1 = 100) (hκc : κ.2.2.1 = 601024) (hκs : κ.2.2.2.1 = 7293034) (hend : ∀ (N : mp_M) (lv : List (Nat × Value)) (k n : Nat), k ≤ 601024 → n ≤ 7293034 → mp_J Γ m_La_law E κ N lv 632 [.int (nI 1)] k n) : mp_J Γ m_La_law E κ (fun _ => none) [(0, .ref b)] 0 [] 0 0 := by
  show mp_J Γ m_La_law E κ (fun _ => none) [(0, .ref b)] 0 [] 0 0
  refine j_new [.null, .int 0, .null, .null, .null, .null] F_De w_30 w_31 w_1 (fun j hj => by rcases (show j = 0 ∨ j = 1 ∨ j = 2 ∨ j = 3 ∨ j = 4 ∨ j = 5 by omega) with rfl | rfl | rfl | rfl | rfl | rfl <;> rfl) (by omega) (by omega) d_La_law_0 (fun q1 hq1 => ?_)
  generalize eM1 : mp_up (fun _ => none) q1 (mp_o 6 [.null, .int 0, .null, .null, .null, .null]) = M1
  have hM1_q1 : M1 q1 = some (mp_o 6 [.null, .int 0, .null, .null, .null, .null]) := by rw [← eM1]; exact mp_s
  refine j_dup d_La_law_3 rfl ?_
  refine j_callI (As := []) (rest := [.ref q1]) (c_De_init Γ.l E M1 q1 hM1_q1) Y_De_init rfl rfl w_32 w_33 rfl rfl (Nat.le_of_ble_eq_true rfl) (by omega) (by omega) (by omega) d_La_law_4 (fun v4 N4 p4 => ?_)
  obtain ⟨rfl, X, L4, y4, n4, ro, hLY, hIV, hH, hro, hXh, hXro, Fro, hXM, fr4⟩ := p4
  show mp_J Γ m_La_law E κ N4 [(0, .ref b)] 7 [.ref q1] (0 + 1 + 29) (0 + 6 + 1800)
  refine j_astore_n [(1, .ref q1), (0, .ref b)] d_La_law_7 rfl (by decide) rfl ?_
  refine j_new [.null, .int 0, .int 0, .null, .null, .null, .null, .null, .null, .null, .null, .int 0, .int 0, .int 0, .null] F_Mo w_935 w_936 w_12 (fun j hj => by rcases (show j = 0 ∨ j = 1 ∨ j = 2 ∨ j = 3 ∨ j = 4 ∨ j = 5 ∨ j = 6 ∨ j = 7 ∨ j = 8 ∨ j = 9 ∨ j = 10 ∨ j = 11 ∨ j = 12 ∨ j = 13 ∨ j = 14 by omega) with rfl | rfl | rfl | rfl | rfl | rfl | rfl | rfl | rfl | rfl | rfl | rfl | rfl | rfl | rfl <;> rfl) (by omega) (by omega) d_La_law_8 (fun q2 hq2 => ?_)
  generalize eM2 : mp_up N4 q2 (mp_o 7 [.null, .int 0, .int 0, .null, .null, .null, .null, .null, .null, .null, .null, .int 0, .int 0, .int 0, .null]) = M2
  have hM2_q2 : M2 q2 = some (mp_o 7 [.null, .int 0, .int 0, .null, .null, .null, .null, .null, .null, .null, .null, .int 0, .int 0, .int 0, .null]) := by rw [← eM2]; exact mp_s
  refine j_dup d_La_law_11 rfl ?_
  have hF0 : NW (mp_up (fun _ => none) q2 (mp_o 7 [.null, .int 0, .int 0, .null, .null, .null, .null, .null, .null, .null, .null, .int 0, .int 0, .int 0, .null])) M2 := fun a e9 h9 => by
    by_cases z9 : a = q2
    · rw [z9, mp_s] at h9; cases h9; rw [z9]; exact hM2_q2
    · rw [mp_n z9] at h9; cases h9
  refine j_callI (As := []) (rest := [.ref q2]) (mp_Cr.frame (c_Mo_init Γ.l E (mp_up (fun _ => none) q2 (mp_o 7 [.null, .int 0, .int 0, .null, .null, .null, .null, .null, .null, .null, .null, .int 0, .int 0, .int 0, .null])) q2 mp_s) hF0) Y_Mo_init rfl rfl w_937 w_938 rfl rfl (Nat.le_of_ble_eq_true rfl) (by omega) (by omega) (by omega) d_La_law_12 (fun v12 N12 p12 => ?_)
  obtain ⟨NF, ⟨rfl, R, hR0, hRL, hRW, hRn, frF⟩, hnF, eN⟩ := p12
  show mp_J Γ m_La_law E κ N12 [(1, .ref q1), (0, .ref b)] 15 [.ref q2] (0 + 1 + 29 + 1 + 10) (0 + 6 + 1800 + 15 + 159818)
  refine j_astore_n [(2, .ref q2), (1, .ref q1), (0, .ref b)] d_La_law_15 rfl (by decide) rfl ?_
  refine j_iconst (v := nI 1) d_La_law_16 (by decide) ?_
  refine j_newl w_1155 (by omega) (by omega) (by omega) d_La_law_17 (fun q3 hq3 => ?_)
  generalize eM3 : mp_up N12 q3 (mp_l E 1 (fun _ => 0)) = M3
  have hM3_q3 : M3 q3 = some (mp_l E 1 (fun _ => 0)) := by rw [← eM3]; exact mp_s
  refine j_astore_n [(3, .ref q3), (2, .ref q2), (1, .ref q1), (0, .ref b)] d_La_law_19 rfl (by decide) rfl ?_
  refine j_iconst (v := nI 0) d_La_law_20 (by decide) ?_
  refine j_istore [(4, .int (nI 0)), (3, .ref q3), (2, .ref q2), (1, .ref q1), (0, .ref b)] d_La_law_21 (by decide) rfl ?_
  have k2 : ∀ a e9, N4 a = some e9 → M2 a = some e9 := fun a e9 h9 => by rw [← eM2, mp_n (mp_ne0 h9 hq2)]; exact h9
  have d2 : ∀ a e9, N4 a = some e9 → mp_up (fun _ => none : mp_M) q2 (mp_o 7 [.null, .int 0, .int 0, .null, .null, .null, .null, .null, .null, .null, .null, .int 0, .int 0, .int 0, .null]) a = none := fun a e9 h9 => mp_n (mp_ne0 h9 hq2)
  have k12 : ∀ a e9, N4 a = some e9 → N12 a = some e9 := fun a e9 h9 => by rw [eN]; exact mg_old (d2 a e9 h9) (fun e8 h8 => hnF a e8 h8 (d2 a e9 h9)) (k2 a e9 h9)
  have f12 : ∀ a e9, NF a = some e9 → N12 a = some e9 := fun a e9 h9 => by rw [eN]; exact mg_new a e9 h9
  have hLS : LwS E M3 q1 q3 R (fun _ => 0) 0 (fun _ => 0) [] 0 0 (fun _ => 0) [] := by
    refine ⟨N4, NF, fun a e9 h9 => ?_, fun a e9 h9 => ?_, fun a e9 h9 => ?_, ?_, ?_, ?_, ⟨X, L4, y4, n4, ro, 0, [], [], [], hLY, hIV, hH, hro, hXh, hXro, by omega, fun _ _ => (show fits .byte (.int 0) = true by decide)⟩, hRL, by omega, fun _ _ => (show fits .byte (.int 0) = true by decide), 0, fun _ => [], hRW, by omega, rfl⟩
    · rw [← eM3, mp_n (mp_ne0 (k12 a e9 h9) hq3)]; exact k12 a e9 h9
    · rw [← eM3, mp_n (mp_ne0 (f12 a e9 h9) hq3)]; exact f12 a e9 h9
    · cases hz : NF a with
      | none => rfl
      | some e8 =>
        have h8 := hnF a e8 hz (d2 a e9 h9)
        rw [k2 a e9 h9] at h8
        cases h8
    · cases hz : N4 q3 with
      | none => rfl
      | some e8 =>
        have h8 := k12 q3 e8 hz
        rw [hq3] at h8
        cases h8
    · cases hz : NF q3 with
      | none => rfl
      | some e8 =>
        have h8 := f12 q3 e8 hz
        rw [hq3] at h8
        cases h8
    · rw [← eM3]; exact mp_s
  refine j_lv [4, 3, 2, 1, 0] rfl ?_
  rw [← hR0]
  exact lp_law E (fun _ => none) q1 q3 b L R xs hl0 hL hX hbl hbA hκd hκc hκs hend (L + 7) M3 (fun _ => 0) 0 (fun _ => 0) [] 0 0 (0 + 1 + 29 + 1 + 10 + 1) (0 + 6 + 1800 + 15 + 159818 + 1) (by omega) hLS (by omega) (by omega)