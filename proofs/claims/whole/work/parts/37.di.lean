def am_sw (L : Nat → Nat) : Nat → Nat := fun i => if i = 13 then L 15 else if i = 14 then L 16 else if i = 15 then L 13 else if i = 16 then L 14 else L i
theorem LY.sw {X : Nat → Prop} {L : Nat → Nat} (h : LY X L) : LY X (am_sw L) := by
  have key : ∀ i, i < 17 → ∃ j, j < 17 ∧ am_sw L i = L j ∧ (j = if i = 13 then 15 else if i = 14 then 16 else if i = 15 then 13 else if i = 16 then 14 else i) := by
    intro i hi
    unfold am_sw
    by_cases h1 : i = 13
    · exact ⟨15, by omega, by rw [if_pos h1], by rw [if_pos h1]⟩
    by_cases h2 : i = 14
    · exact ⟨16, by omega, by rw [if_neg h1, if_pos h2], by rw [if_neg h1, if_pos h2]⟩
    by_cases h3 : i = 15
    · exact ⟨13, by omega, by rw [if_neg h1, if_neg h2, if_pos h3], by rw [if_neg h1, if_neg h2, if_pos h3]⟩
    by_cases h4 : i = 16
    · exact ⟨14, by omega, by rw [if_neg h1, if_neg h2, if_neg h3, if_pos h4], by rw [if_neg h1, if_neg h2, if_neg h3, if_pos h4]⟩
    · exact ⟨i, hi, by rw [if_neg h1, if_neg h2, if_neg h3, if_neg h4], by rw [if_neg h1, if_neg h2, if_neg h3, if_neg h4]⟩
  constructor
  · intro a
    rw [h.1 a]
    constructor
    · intro ⟨i, hi, e⟩
      by_cases h1 : i = 13
      · exact ⟨15, by omega, by rw [e, h1]; rfl⟩
      by_cases h2 : i = 14
      · exact ⟨16, by omega, by rw [e, h2]; rfl⟩
      by_cases h3 : i = 15
      · exact ⟨13, by omega, by rw [e, h3]; rfl⟩
      by_cases h4 : i = 16
      · exact ⟨14, by omega, by rw [e, h4]; rfl⟩
      · exact ⟨i, hi, by rw [e]; unfold am_sw; rw [if_neg h1, if_neg h2, if_neg h3, if_neg h4]⟩
    · intro ⟨i, hi, e⟩
      obtain ⟨j, hj, e2, -⟩ := key i hi
      exact ⟨j, hj, e.trans e2⟩
  · intro i j hi hj e
    obtain ⟨i', hi', e1, e2⟩ := key i hi
    obtain ⟨j', hj', e3, e4⟩ := key j hj
    have e5 := h.2 i' j' hi' hj' (e1.symm.trans (e.trans e3))
    rw [e2, e4] at e5
    split at e5 <;> split at e5 <;> first | omega | (repeat' split at e5) <;> omega
section DSK
variable {E : mp_E} {X : Nat → Prop} {M N : mp_M} {L : Nat → Nat} {y n k h : Nat} {zs m o : List am_T} {b : List Bool} {fs : List Value} {e : va_E}
theorem TH.off {t : Nat} {x : am_T} (q : TH E X M t x) (hh : M h = some (mp_o 6 fs)) : TH E X (mp_up M h e) t x := by
  obtain ⟨h1, b, h2, h3, h4, h5⟩ := q
  exact ⟨h1, b, h2, by rw [mp_n (mp_ne h3 hh (mp_noo (by decide)))]; exact h3, by rw [mp_n (mp_ne h4 hh mp_nao)]; exact h4, h5⟩
theorem SL.off {f : Nat → Option Nat} (hh : M h = some (mp_o 6 fs)) : ∀ {xs : List am_T}, SL E X M f xs → SL E X (mp_up M h e) f xs := by
  intro xs
  induction xs with
  | nil => intro _; trivial
  | cons x xs ih =>
    intro ⟨⟨t, h1, h2⟩, h3⟩
    exact ⟨⟨t, h1, h2.off hh⟩, ih h3⟩
theorem SK.off {s ar : Nat} {xs : List am_T} (q : SK E X M s ar xs) (hh : M h = some (mp_o 6 fs)) : SK E X (mp_up M h e) s ar xs := by
  obtain ⟨nn, f, a1, a2, a3, a4, a5⟩ := q
  exact ⟨nn, f, by rw [mp_n (mp_ne a1 hh (mp_noo (by decide)))]; exact a1, by rw [mp_n (mp_ne a2 hh mp_nao)]; exact a2, a3.off hh, a4, a5.off hh⟩
theorem IV.desk (q : IV E X M L y n zs m o b k) (hL : LY X L) (hh : M h = some (mp_o 6 fs)) (hX : ¬ X h) : IV E X (mp_up M h e) L y n zs m o b k := by
  have kl : ∀ i, i < 17 → mp_up M h e (L i) = M (L i) := fun i hi => mp_n (fun z => hX (by rw [← z]; exact hL.x hi))
  exact ⟨(kl 0 (by omega)).trans q.mo, q.ty.off hh, q.tn.off hh, q.su.keep (fun i _ _ => kl i (by omega)), (kl 10 (by omega)).trans q.br, q.so.off hh, q.sm.off hh, q.sd.off hh⟩
theorem IV.swap (q : IV E X M L y n zs m o b k) (hL : LY X L) (hN : N = mp_up M (L 0) (mp_o 1 [.ref (L 1), .ref (L 5), .ref (L 11), .ref (L 10), .ref y, .ref n, .ref (L 15), .int (nI k)])) : IV E X N (am_sw L) y n m zs o b k := by
  have fr : mp_Fr X M N := by rw [hN]; exact mp_Fr.up (hL.x (by omega))
  have kl : ∀ i, i < 17 → i ≠ 0 → N (L i) = M (L i) := fun i hi h1 => by rw [hN]; exact mp_n (hL.ne hi (by omega) h1)
  have c0 : N (L 0) = some (mp_o 1 [.ref (L 1), .ref (L 5), .ref (L 11), .ref (L 10), .ref y, .ref n, .ref (L 15), .int (nI k)]) := by rw [hN]; exact mp_s
  have su : SU E N L := q.su.keep fun i _ _ => kl i (by omega) (by omega)
  exact ⟨c0, q.ty.keep fr, q.tn.keep fr, su, (kl 10 (by omega) (by omega)).trans q.br, q.so.keep fr (kl 11 (by omega) (by omega)) (kl 12 (by omega) (by omega)), q.sd.keep fr (kl 15 (by omega) (by omega)) (kl 16 (by omega) (by omega)), q.sm.keep fr (kl 13 (by omega) (by omega)) (kl 14 (by omega) (by omega))⟩
end DSK
set_option maxHeartbeats 4000000 in
set_option maxRecDepth 100000 in
theorem c_Ma_handOver (l : Launch) (E : mp_E) (M : mp_M) (X : Nat → Prop) (L : Nat → Nat) (y n : Nat) (zs m o : List am_T) (b : List Bool) (k : Nat) (hI : IV E X M L y n zs m o b k) (hL : LY X L) : mp_Cr l m_Ma_handOver E M 1 0 0 [.ref (L 0), .ref (L 15)] (fun v N => v = some (.ref (L 13)) ∧ IV E X N (am_sw L) y n m zs o b k ∧ mp_Fr X M N) := by
  refine mp_Cr.of (by decide) (Nat.le_of_ble_eq_true rfl) fun Γ κ hl hκ => ?_
  subst hl
  obtain ⟨hκd, hκc, hκs, -⟩ := id hκ
  show mp_J Γ m_Ma_handOver E κ M [(0, .ref (L 0)), (1, .ref (L 15))] 0 [] 0 0
  refine j_aload_n d_Ma_handOver_0 rfl 0 rfl ?_
  refine j_get F_Ma hI.mo 6 (by decide) w_169 (Or.inl rfl) rfl d_Ma_handOver_1 ?_
  refine j_astore_n [(2, .ref (L 13)), (0, .ref (L 0)), (1, .ref (L 15))] d_Ma_handOver_4 rfl (by decide) rfl ?_
  refine j_aload_n d_Ma_handOver_5 rfl 1 rfl ?_
  refine j_aload_n d_Ma_handOver_6 rfl 2 rfl ?_
  refine j_put F_Ma hI.mo 6 (by decide) w_169 (Or.inl rfl) rfl rfl rfl (Nat.le_of_ble_eq_true rfl) d_Ma_handOver_7 ?_
  show mp_J Γ m_Ma_handOver E κ (mp_up M (L 0) (mp_o 1 [.ref (L 1), .ref (L 5), .ref (L 11), .ref (L 10), .ref y, .ref n, .ref (L 15), .int (nI k)])) [(2, .ref (L 13)), (0, .ref (L 0)), (1, .ref (L 15))] 10 [] 0 0
  generalize eM1 : mp_up M (L 0) (mp_o 1 [.ref (L 1), .ref (L 5), .ref (L 11), .ref (L 10), .ref y, .ref n, .ref (L 15), .int (nI k)]) = M1
  have hM1__L_0_ : M1 (L 0) = some (mp_o 1 [.ref (L 1), .ref (L 5), .ref (L 11), .ref (L 10), .ref y, .ref n, .ref (L 15), .int (nI k)]) := by rw [← eM1]; exact mp_s
  refine j_aload_n d_Ma_handOver_10 rfl 0 rfl ?_
  exact j_aret hκ rfl (by first | exact Or.inl ⟨_, rfl⟩ | exact Or.inr ⟨_, rfl⟩) (by omega) (by omega) d_Ma_handOver_11 ⟨rfl, hI.swap hL eM1.symm, by rw [← eM1]; exact mp_Fr.up (hL.x (by omega))⟩
