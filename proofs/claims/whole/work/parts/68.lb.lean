/-! the reference's methods, in the desk's words -/
section RKM
variable (l : Launch) {E : mp_E} {F N : mp_M} {R : Nat → Nat} {len dp as_ ops : Nat} {thr : Int32} {g f2 f3 f10 : Nat → Int32} {zs : List am_T} {A : Nat → am_T}
theorem RK.cell {len' : Nat} {thr' : Int32} (hR : RL R) (hlen : len' ≤ 1000) (hfit : ∀ i, i < 1000 → fits .byte (.int (g i)) = true) (hI : RI E F R len thr dp as_ ops A) (h1 : F (R 1) = some (mp_b E 1000 g)) (h2 : F (R 2) = some (mp_b E 51456 f2)) (h3 : F (R 3) = some (mp_i E 201 f3)) (h10 : F (R 10) = some (mp_z E 1001 f10)) (hd : dp ≤ 200) (hz : LM A dp = zs) (hN : N = mp_up F (R 0) (mp_o 7 [.ref (R 1), .int (nI len'), .int thr', .ref (R 2), .ref (R 3), .ref (R 4), .ref (R 5), .ref (R 6), .ref (R 7), .ref (R 8), .ref (R 9), .int (nI dp), .int (nI as_), .int (nI ops), .ref (R 10)])) : RK E N R len' thr' g zs := by
  have k : ∀ i, 0 < i → i < 11 → N (R i) = F (R i) := fun i h h' => by rw [hN]; exact mp_n (hR.ne h' (by omega) (by omega))
  exact ⟨hR, hlen, hfit, dp, A, ⟨as_, ops, hI.set hR hN.symm, (k 1 (by omega) (by omega)).trans h1, ⟨f2, (k 2 (by omega) (by omega)).trans h2⟩, ⟨f3, (k 3 (by omega) (by omega)).trans h3⟩, ⟨f10, (k 10 (by omega) (by omega)).trans h10⟩⟩, hd, hz⟩
theorem RK.fr {thr' : Int32} (hR : RL R) (hlen : len ≤ 1000) (hfit : ∀ i, i < 1000 → fits .byte (.int (g i)) = true) (hI : RI E N R len thr' dp as_ ops A) (h1 : F (R 1) = some (mp_b E 1000 g)) (h2 : F (R 2) = some (mp_b E 51456 f2)) (h3 : F (R 3) = some (mp_i E 201 f3)) (h10 : F (R 10) = some (mp_z E 1001 f10)) (hd : dp ≤ 200) (hz : LM A dp = zs) (f : RFr R F N) : RK E N R len thr' g zs :=
  ⟨hR, hlen, hfit, dp, A, ⟨as_, ops, hI, (f.k hR (by decide) (by decide) (by decide)).trans h1, ⟨f2, (f.k hR (by decide) (by decide) (by decide)).trans h2⟩, ⟨f3, (f.k hR (by decide) (by decide) (by decide)).trans h3⟩, ⟨f10, (f.k hR (by decide) (by decide) (by decide)).trans h10⟩⟩, hd, hz⟩
theorem rk_feed (q : RK E F R len thr g zs) (a b c d e : Int32) : mp_Cr l m_Mo_feed E F 2 0 0 [.ref (R 0), .int a, .int b, .int c, .int d, .int e] (fun v N => (len ≤ 980 ∧ v = some (.int (nI (len + 20))) ∧ RK E N R (len + 20) (nI 0) (ap_5 g len a b c d e) zs) ∨ (980 < len ∧ v = some (.int (nI 0)) ∧ RK E N R len (nI 1) g zs)) := by
  obtain ⟨hR, hlen, hfit, dp, A, ⟨as_, ops, hI, h1, ⟨f2, h2⟩, ⟨f3, h3⟩, ⟨f10, h10⟩⟩, hd, hz⟩ := q
  refine (c_Mo_feed l E F (R 0) (R 1) len (R 2) (R 3) (R 4) (R 5) (R 6) (R 7) (R 8) (R 9) dp as_ ops (R 10) thr g a b c d e hI.1 h1 hlen).mono fun v N hp => ?_
  rcases hp with ⟨e1, e2, e3, e4, e5⟩ | ⟨e1, e2, e3⟩
  · have k : ∀ i, 1 < i → i < 11 → N (R i) = F (R i) := fun i h h' => e5 _ (hR.ne h' (by omega) (by omega)) (hR.ne h' (by omega) (by omega))
    exact Or.inl ⟨e1, e2, hR, by omega, ap_ft5 hfit, dp, A, ⟨as_, ops, hI.keep e3 fun i h h' => k i (by omega) (by omega), e4, ⟨f2, (k 2 (by omega) (by omega)).trans h2⟩, ⟨f3, (k 3 (by omega) (by omega)).trans h3⟩, ⟨f10, (k 10 (by omega) (by omega)).trans h10⟩⟩, hd, hz⟩
  · exact Or.inr ⟨e1, e2, RK.cell hR hlen hfit hI h1 h2 h3 h10 hd hz e3⟩
theorem rk_end (q : RK E F R len thr g zs) (i : Int32) : mp_Cr l m_Mo_end E F 2 0 0 [.ref (R 0), .int i] (fun v N => (∃ j, j ≤ len ∧ i = nI j ∧ v = some (.int (nI j)) ∧ RK E N R j (nI 0) g zs) ∨ ((¬ ∃ j, j ≤ len ∧ i = nI j) ∧ v = some (.int (nI 0)) ∧ RK E N R len (nI 1) g zs)) := by
  obtain ⟨hR, hlen, hfit, dp, A, ⟨as_, ops, hI, h1, ⟨f2, h2⟩, ⟨f3, h3⟩, ⟨f10, h10⟩⟩, hd, hz⟩ := q
  refine (c_Mo_end l E F (R 0) (R 1) len (R 2) (R 3) (R 4) (R 5) (R 6) (R 7) (R 8) (R 9) dp as_ ops (R 10) thr i hI.1 hlen).mono fun v N hp => ?_
  rcases hp with ⟨j, e1, e2, e3, e4⟩ | ⟨e1, e2, e3⟩
  · exact Or.inl ⟨j, e1, e2, e3, RK.cell (thr' := nI 0) hR (by omega) hfit hI h1 h2 h3 h10 hd hz e4⟩
  · exact Or.inr ⟨e1, e2, RK.cell (thr' := nI 1) hR hlen hfit hI h1 h2 h3 h10 hd hz e3⟩
theorem rk_sigs (q : RK E F R len thr g zs) (i : Int32) : mp_Cr l m_Mo_sigs E F 2 0 0 [.ref (R 0), .int i] (fun v N => (∃ j, j ≤ len ∧ i = nI j ∧ v = some (.int (nI (sg_run g j (j + 1) 0 0))) ∧ RK E N R len (nI 0) g zs) ∨ ((¬ ∃ j, j ≤ len ∧ i = nI j) ∧ v = some (.int (nI 0)) ∧ RK E N R len (nI 1) g zs)) := by
  obtain ⟨hR, hlen, hfit, dp, A, ⟨as_, ops, hI, h1, ⟨f2, h2⟩, ⟨f3, h3⟩, ⟨f10, h10⟩⟩, hd, hz⟩ := q
  refine (c_Mo_sigs l E F (R 0) (R 1) len (R 2) (R 3) (R 4) (R 5) (R 6) (R 7) (R 8) (R 9) dp as_ ops (R 10) thr g i hI.1 h1 hlen).mono fun v N hp => ?_
  rcases hp with ⟨j, e1, e2, e3, e4⟩ | ⟨e1, e2, e3⟩
  · exact Or.inl ⟨j, e1, e2, e3, RK.cell (thr' := nI 0) hR hlen hfit hI h1 h2 h3 h10 hd hz e4⟩
  · exact Or.inr ⟨e1, e2, RK.cell (thr' := nI 1) hR hlen hfit hI h1 h2 h3 h10 hd hz e3⟩
theorem rk_depth (q : RK E F R len thr g zs) : mp_Cr l m_Mo_depth E F 1 0 0 [.ref (R 0)] (fun v N => v = some (.int (nI zs.length)) ∧ RK E N R len (nI 0) g zs) := by
  obtain ⟨hR, hlen, hfit, dp, A, ⟨as_, ops, hI, h1, ⟨f2, h2⟩, ⟨f3, h3⟩, ⟨f10, h10⟩⟩, hd, hz⟩ := q
  refine (c_Mo_depth l E F (R 0) (R 1) len (R 2) (R 3) (R 4) (R 5) (R 6) (R 7) (R 8) (R 9) dp as_ ops (R 10) thr hI.1).mono fun v N ⟨e1, e2⟩ => ⟨?_, RK.cell (thr' := nI 0) hR hlen hfit hI h1 h2 h3 h10 hd hz e2⟩
  rw [e1, ← hz, LM_len]
theorem rk_thrown (q : RK E F R len thr g zs) : mp_Cr l m_Mo_thrown E F 1 0 0 [.ref (R 0)] (fun v N => v = some (.int thr) ∧ RK E N R len thr g zs) := by
  have q' := q
  obtain ⟨hR, hlen, hfit, dp, A, ⟨as_, ops, hI, h1, ⟨f2, h2⟩, ⟨f3, h3⟩, ⟨f10, h10⟩⟩, hd, hz⟩ := q
  exact (c_Mo_thrown l E F (R 0) (R 1) len (R 2) (R 3) (R 4) (R 5) (R 6) (R 7) (R 8) (R 9) dp as_ ops (R 10) thr hI.1).mono fun v N ⟨e1, e2⟩ => ⟨e1, by rw [e2]; exact q'⟩
theorem rk_size (q : RK E F R len thr g zs) (i : Int32) : mp_Cr l m_Mo_size E F 2 0 0 [.ref (R 0), .int i] (fun v N => (∃ j, j < zs.length ∧ i = nI j ∧ v = some (.int (nI (zs.getD j []).length)) ∧ RK E N R len (nI 0) g zs) ∨ ((¬ ∃ j, j < zs.length ∧ i = nI j) ∧ v = some (.int (nI 0)) ∧ RK E N R len (nI 1) g zs)) := by
  obtain ⟨hR, hlen, hfit, dp, A, ⟨as_, ops, hI, h1, ⟨f2, h2⟩, ⟨f3, h3⟩, ⟨f10, h10⟩⟩, hd, hz⟩ := q
  have hzl : zs.length = dp := by rw [← hz, LM_len]
  obtain ⟨T, Z, t1, t2, t3, t4⟩ := hI.ra
  refine (c_Mo_size l E F (R 0) (R 1) len (R 2) (R 3) (R 4) (R 5) (R 6) (R 7) (R 8) (R 9) dp as_ ops (R 10) thr i Z hI.1 t2 hd).mono fun v N hp => ?_
  rw [hzl]
  rcases hp with ⟨j, e1, e2, e3, e4⟩ | ⟨e1, e2, e3⟩
  · exact Or.inl ⟨j, e1, e2, by rw [e3, (t4 (dp - 1 - j) (by omega)).1, ← hz, LM_get e1], RK.cell (thr' := nI 0) hR hlen hfit hI h1 h2 h3 h10 hd hz e4⟩
  · exact Or.inr ⟨e1, e2, RK.cell (thr' := nI 1) hR hlen hfit hI h1 h2 h3 h10 hd hz e3⟩
theorem rk_at (q : RK E F R len thr g zs) (i c : Int32) : mp_Cr l m_Mo_at E F 2 0 0 [.ref (R 0), .int i, .int c] (fun v N => (∃ j e, j < zs.length ∧ i = nI j ∧ e < (zs.getD j []).length ∧ c = nI e ∧ v = some (.int (nI (th_at (zs.getD j []).length (gb (zs.getD j [])) e))) ∧ RK E N R len (nI 0) g zs) ∨ ((¬ ∃ j e, j < zs.length ∧ i = nI j ∧ e < (zs.getD j []).length ∧ c = nI e) ∧ v = some (.int (nI 0)) ∧ RK E N R len (nI 1) g zs)) := by
  obtain ⟨hR, hlen, hfit, dp, A, ⟨as_, ops, hI, h1, ⟨f2, h2⟩, ⟨f3, h3⟩, ⟨f10, h10⟩⟩, hd, hz⟩ := q
  have hzl : zs.length = dp := by rw [← hz, LM_len]
  obtain ⟨T, Z, t1, t2, t3, t4⟩ := hI.ra
  have hg : ∀ j, j < dp → zs.getD j [] = A (dp - 1 - j) := fun j hj => by rw [← hz, LM_get hj]
  refine (c_Mo_at l E F (R 0) (R 1) len (R 2) (R 3) (R 4) (R 5) (R 6) (R 7) (R 8) (R 9) dp as_ ops (R 10) thr i c T Z (fun p => (A p).length) hI.1 t2 t1 (fun p hp => ⟨(t4 p (by omega)).1, (t4 p (by omega)).2.1⟩) hd).mono fun v N hp => ?_
  rw [hzl]
  rcases hp with ⟨j, e, e1, e2, e3, e4, e5, e6⟩ | ⟨e1, e2, e3⟩
  · refine Or.inl ⟨j, e, e1, e2, by rw [hg j e1]; exact e3, e4, ?_, RK.cell (thr' := nI 0) hR hlen hfit hI h1 h2 h3 h10 hd hz e6⟩
    rw [e5, hg j e1, th_atI e3, (t4 (dp - 1 - j) (by omega)).2.2 e e3]
  · exact Or.inr ⟨fun ⟨j, e, z1, z2, z3, z4⟩ => e1 ⟨j, e, z1, z2, by rw [hg j z1] at z3; exact z3, z4⟩, e2, RK.cell (thr' := nI 1) hR hlen hfit hI h1 h2 h3 h10 hd hz e3⟩
theorem rk_number (q : RK E F R len thr g zs) (i : Int32) : mp_Cr l m_Mo_number E F 2 0 0 [.ref (R 0), .int i] (fun v N => (∃ j, j < zs.length ∧ i = nI j ∧ (((zs.getD j []).length ≤ 4 ∧ v = some (.int (am_num (zs.getD j [])).toInt32) ∧ RK E N R len (nI 0) g zs) ∨ (¬ (zs.getD j []).length ≤ 4 ∧ v = some (.int (nI 0)) ∧ RK E N R len (nI 2) g zs))) ∨ ((¬ ∃ j, j < zs.length ∧ i = nI j) ∧ v = some (.int (nI 0)) ∧ RK E N R len (nI 1) g zs)) := by
  obtain ⟨hR, hlen, hfit, dp, A, ⟨as_, ops, hI, h1, ⟨f2, h2⟩, ⟨f3, h3⟩, ⟨f10, h10⟩⟩, hd, hz⟩ := q
  have hzl : zs.length = dp := by rw [← hz, LM_len]
  have hg : ∀ j, j < dp → zs.getD j [] = A (dp - 1 - j) := fun j hj => by rw [← hz, LM_get hj]
  refine (c_Mo_number l E F R len thr dp as_ ops A i hI hR hd).mono fun v N hp => ?_
  rw [hzl]
  rcases hp with ⟨j, e1, e2, e3, e4⟩ | ⟨e1, e2, e3, e4⟩
  · refine Or.inl ⟨j, e1, e2, ?_⟩
    rw [hg j e1]
    rcases e3 with ⟨z1, z2, z3⟩ | ⟨z1, z2, z3⟩
    · exact Or.inl ⟨z1, z2, RK.fr hR hlen hfit z3 h1 h2 h3 h10 hd hz e4⟩
    · exact Or.inr ⟨z1, z2, RK.fr hR hlen hfit z3 h1 h2 h3 h10 hd hz e4⟩
  · exact Or.inr ⟨e1, e2, RK.fr (thr' := nI 1) hR hlen hfit e3 h1 h2 h3 h10 hd hz e4⟩
theorem rk_hash (q : RK E F R len thr g zs) (a c : Int32) : mp_Cr l m_Mo_hash E F 3 0 0 [.ref (R 0), .int a, .int c] (fun v N => (∃ w r, w ≤ 2 ∧ a = nI w ∧ r ≤ (if w = 2 then 4 else 7) ∧ c = nI r ∧ v = some (.int (th_w (am_hs g len w).length (gb (am_hs g len w)) r 4)) ∧ RK E N R len (nI 0) g zs) ∨ ((¬ ∃ w r, w ≤ 2 ∧ a = nI w ∧ r ≤ (if w = 2 then 4 else 7) ∧ c = nI r) ∧ v = some (.int (nI 0)) ∧ RK E N R len (nI 1) g zs)) := by
  obtain ⟨hR, hlen, hfit, dp, A, ⟨as_, ops, hI, h1, ⟨f2, h2⟩, ⟨f3, h3⟩, ⟨f10, h10⟩⟩, hd, hz⟩ := q
  refine (c_Mo_hash l E F R len thr dp as_ ops A g a c hI hR h1 hfit hlen).mono fun v N hp => ?_
  rcases hp with ⟨w, r, e1, e2, e3, e4, e5, e6, e7⟩ | ⟨e1, e2, e3, e4⟩
  · exact Or.inl ⟨w, r, e1, e2, e3, e4, e5, RK.fr hR hlen hfit e6 h1 h2 h3 h10 hd hz e7⟩
  · exact Or.inr ⟨e1, e2, RK.fr hR hlen hfit e3 h1 h2 h3 h10 hd hz e4⟩
theorem rk_run (q : RK E F R len thr g zs) (i : Int32) : mp_Cr l m_Mo_run E F 6 0 0 [.ref (R 0), .int i] (fun v N => (∃ j, j ≤ len ∧ i = nI j ∧ v = some (.int (nI (am_ans (am_two g j len)))) ∧ RK E N R 0 (nI 0) g (match am_two g j len with | none => zs | some ms => ms)) ∨ ((¬ ∃ j, j ≤ len ∧ i = nI j) ∧ v = some (.int (nI 0)) ∧ RK E N R len (nI 1) g zs)) := by
  obtain ⟨hR, hlen, hfit, dp, A, ⟨as_, ops, hI, h1, ⟨f2, h2⟩, ⟨f3, h3⟩, ⟨f10, h10⟩⟩, hd, hz⟩ := q
  refine (c_Mo_run l E F R len thr dp as_ ops A g f2 f3 f10 i hI hR h1 h2 h3 h10 hfit hlen hd).mono fun v N hp => ?_
  rcases hp with ⟨j, e1, e2, e3, d, B, e4, e5, e6, e7⟩ | ⟨e1, e2, e3⟩
  · refine Or.inl ⟨j, e1, e2, e3, hR, by omega, hfit, d, B, e4, e5, ?_⟩
    rw [e6, hz]
    cases am_two g j len <;> rfl
  · exact Or.inr ⟨e1, e2, RK.cell (thr' := nI 1) hR hlen hfit hI h1 h2 h3 h10 hd hz e3⟩
end RKM
