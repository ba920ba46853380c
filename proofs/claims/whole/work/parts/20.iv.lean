theorem mp_Cr.canon {l : Launch} {μ : mp_D} {E : mp_E} {M0 : mp_M} {d mc ms : Nat} {av : List Value} {P Q : Option Value → mp_M → Prop} (h : mp_Cr l μ E M0 d mc ms av P) (hpq : ∀ v N, P v N → ∃ (q m : Nat) (f g : Nat → Int32), N q = some (mp_b E m f) ∧ (∀ j, j < m → f j = g j) ∧ Q v (mp_up N q (mp_b E m g))) : mp_Cr l μ E M0 d mc ms av Q := by
  intro sz p e ha hc hk s m args below hf happ hP hK
  obtain ⟨n, o, h1, h2, h3, hW, hL, hF, M', hM, hA, ho⟩ := h sz p e ha hc hk s m args below hf happ hP hK
  cases o with
  | returned v =>
    obtain ⟨q, m, f, g, g1, g2, g3⟩ := hpq v M' ho
    refine ⟨n, _, h1, h2, h3, hW, hL, hF, _, ?_, ?_, g3⟩
    · intro a x hx
      by_cases hz : a = q
      · subst hz
        rw [mp_s] at hx
        cases hx
        have h9 := hM a _ g1
        show _ = some (vp_cell (E.2.1 0) (m, .inl g))
        rw [vp_cell_i, ← mp_arrV (f := fun j => .int (f j)) (fun j hj => by rw [g2 j hj])]
        exact h9
      · rw [mp_n hz] at hx
        exact hM a x hx
    · intro a x hx
      by_cases hz : a = q
      · subst hz; exact hA a _ g1
      · rw [mp_n hz] at hx; exact hA a x hx
  | threw r =>
    obtain ⟨X, hX, -⟩ := ho
    exact hX.elim
def am_true (x : am_T) : Bool := th_true x.length (gb x)
def am_num (x : am_T) : Int64 := th_num x.length (gb x)
def am_mag (v : Int64) : Nat := (if 0 < v then v else -v).toUInt64.toNat
def am_of (v : Int64) : am_T := gl (bl (am_mag v)) (of_f (decide (v < 0)) (am_mag v))
theorem am_mag_e (v : Int64) : (if 0 < v then v else -v) = lN (am_mag v) := by
  unfold am_mag lN
  generalize (if 0 < v then v else -v) = w
  show w = Int64.ofNat w.toUInt64.toNat
  rw [← Int64.toBitVec_inj]
  simp [Int64.ofNat]
theorem th_same_e (x y : am_T) : th_same x.length (gb x) y.length (gb y) = decide (x = y) := by
  unfold th_same
  apply decide_eq_decide.mpr
  constructor
  · intro ⟨h1, h2⟩
    apply List.ext_getElem h1
    intro i h3 h4
    have := h2 i h3
    simpa [gb, List.getD, h3, h4] using this
  · intro h
    subst h
    exact ⟨rfl, fun _ _ => rfl⟩
section THK
variable (l : Launch) {E : mp_E} {X : Nat → Prop} {M : mp_M} {t : Nat} {x : am_T}
theorem t_true (h : TH E X M t x) : mp_Cr l m_Th_isTrue E M 2 0 0 [.ref t] (fun v N => v = some (.int (tf (am_true x))) ∧ N = M) := by
  obtain ⟨-, b, -, h3, h4, h5⟩ := h
  exact c_Th_isTrue l E M t b _ _ h3 h4 (by omega)
theorem t_len (h : TH E X M t x) : mp_Cr l m_Th_length E M 1 0 0 [.ref t] (fun v N => v = some (.int (nI x.length)) ∧ N = M) := by
  obtain ⟨-, b, -, h3, h4, h5⟩ := h
  exact c_Th_length l E M t b _ _ h3 h4 (by omega)
theorem t_isnum (h : TH E X M t x) : mp_Cr l m_Th_isNumber E M 1 0 0 [.ref t] (fun v N => v = some (.int (tf (decide (x.length ≤ 4)))) ∧ N = M) := by
  obtain ⟨-, b, -, h3, h4, h5⟩ := h
  exact c_Th_isNumber l E M t b _ _ h3 h4 (by omega)
theorem t_num (h : TH E X M t x) (hx : x.length ≤ 4) : mp_Cr l m_Th_toNumber E M 2 0 0 [.ref t] (fun v N => v = some (.long (am_num x)) ∧ N = M) := by
  obtain ⟨-, b, -, h3, h4, h5⟩ := h
  exact c_Th_toNumber l E M t b _ _ h3 h4 hx
theorem t_same {t' : Nat} {y : am_T} (h : TH E X M t x) (h' : TH E X M t' y) : mp_Cr l m_Th_same E M 1 0 0 [.ref t, .ref t'] (fun v N => v = some (.int (tf (decide (x = y)))) ∧ N = M) := by
  obtain ⟨-, b, -, h3, h4, h5⟩ := h
  obtain ⟨-, b', -, h3', h4', h5'⟩ := h'
  have := c_Th_same l E M t b _ t' b' _ _ _ h3 h4 (by omega) h3' h4' (by omega)
  rwa [th_same_e] at this
/-- old cells stay -/
def NW (M N : mp_M) : Prop := ∀ a e, M a = some e → N a = some e
theorem NW.fr {N : mp_M} (h : NW M N) : mp_Fr X M N := fun a e q _ => h a e q
theorem t_of (v : Int64) (hv : am_mag v < 2 ^ 40) (hX : ∀ a, X a → M a ≠ none) : mp_Cr l m_Th_ofNumber E M 4 2 8 [.long v] (fun w N => ∃ t, w = some (.ref t) ∧ TH E X N t (am_of v) ∧ NW M N) := by
  refine (c_Th_ofNumber l E M v (am_mag v) hv (am_mag_e v)).canon fun w N ⟨q1, q2, e1, e2, e3, e4, e5⟩ => ?_
  have hbl := bl_le hv
  refine ⟨q2, bl (am_mag v), of_f (decide (v < 0)) (am_mag v), gb (am_of v), by rw [e5, mp_n (Ne.symm e4)]; exact mp_s, fun j hj => (gl_at hj).symm, q1, e1, ⟨fun z => hX _ z e2, q2, fun z => hX _ z e3, ?_, ?_, ?_⟩, ?_⟩
  · rw [mp_n e4, e5]; exact mp_s
  · rw [mp_s]; unfold am_of; rw [gl_len]
  · unfold am_of; rw [gl_len]; omega
  · intro a e q
    have n1 : a ≠ q1 := mp_ne0 q e2
    have n2 : a ≠ q2 := mp_ne0 q e3
    rw [mp_n n2, e5, mp_n n1, mp_n n2]
    exact q
end THK
/-- the flags of the open branches, top first, and the lowest that is off -/
def am_low : List Bool → Int32
  | [] => -1
  | b :: bs => if b = false ∧ am_low bs = -1 then nI bs.length else am_low bs
def SU (E : mp_E) (M : mp_M) (L : Nat → Nat) : Prop := M (L 1) = some (mp_o 3 [.ref (L 2), .ref (L 3), .ref (L 4), .ref (E.2.2.2 8), .int (tf true)]) ∧ M (L 5) = some (mp_o 2 [.ref (L 6), .ref (L 7), .ref (L 8), .ref (L 9), .ref (E.2.2.2 6), .int (tf false)]) ∧ (∃ g, M (L 2) = some (mp_i E 8 g)) ∧ (∃ g, M (L 3) = some (mp_i E 8 g)) ∧ (∃ g, M (L 4) = some (mp_i E 64 g)) ∧ (∃ g, M (L 6) = some (mp_i E 5 g)) ∧ (∃ g, M (L 7) = some (mp_i E 5 g)) ∧ (∃ g, M (L 8) = some (mp_i E 5 g)) ∧ (∃ g, M (L 9) = some (mp_i E 16 g))
def LY (X : Nat → Prop) (L : Nat → Nat) : Prop := (∀ a, X a ↔ ∃ i, i < 17 ∧ a = L i) ∧ ∀ i j, i < 17 → j < 17 → L i = L j → i = j
theorem LY.x {X : Nat → Prop} {L : Nat → Nat} (h : LY X L) {i : Nat} (hi : i < 17) : X (L i) := (h.1 _).mpr ⟨i, hi, rfl⟩
theorem LY.ne {X : Nat → Prop} {L : Nat → Nat} (h : LY X L) {i j : Nat} (hi : i < 17) (hj : j < 17) (hij : i ≠ j) : L i ≠ L j := fun e => hij (h.2 i j hi hj e)
def IV (E : mp_E) (X : Nat → Prop) (M : mp_M) (L : Nat → Nat) (y n : Nat) (zs m o : List am_T) (b : List Bool) (k : Nat) : Prop := (M (L 0) = some (mp_o 1 [.ref (L 1), .ref (L 5), .ref (L 11), .ref (L 10), .ref y, .ref n, .ref (L 13), .int (nI k)])) ∧ (TH E X M y (am_of 1)) ∧ (TH E X M n (am_of 0)) ∧ (SU E M L) ∧ (M (L 10) = some (mp_o 0 [.int (nI b.length), .int (am_low b)])) ∧ (SK E X M (L 11) (L 12) o) ∧ (SK E X M (L 13) (L 14) m) ∧ (SK E X M (L 15) (L 16) zs)
theorem IV.mo {E : mp_E} {X : Nat → Prop} {M : mp_M} {L : Nat → Nat} {y n : Nat} {zs m o : List am_T} {b : List Bool} {k : Nat} (h : IV E X M L y n zs m o b k) : M (L 0) = some (mp_o 1 [.ref (L 1), .ref (L 5), .ref (L 11), .ref (L 10), .ref y, .ref n, .ref (L 13), .int (nI k)]) := h.1
theorem IV.ty {E : mp_E} {X : Nat → Prop} {M : mp_M} {L : Nat → Nat} {y n : Nat} {zs m o : List am_T} {b : List Bool} {k : Nat} (h : IV E X M L y n zs m o b k) : TH E X M y (am_of 1) := h.2.1
theorem IV.tn {E : mp_E} {X : Nat → Prop} {M : mp_M} {L : Nat → Nat} {y n : Nat} {zs m o : List am_T} {b : List Bool} {k : Nat} (h : IV E X M L y n zs m o b k) : TH E X M n (am_of 0) := h.2.2.1
theorem IV.su {E : mp_E} {X : Nat → Prop} {M : mp_M} {L : Nat → Nat} {y n : Nat} {zs m o : List am_T} {b : List Bool} {k : Nat} (h : IV E X M L y n zs m o b k) : SU E M L := h.2.2.2.1
theorem IV.br {E : mp_E} {X : Nat → Prop} {M : mp_M} {L : Nat → Nat} {y n : Nat} {zs m o : List am_T} {b : List Bool} {k : Nat} (h : IV E X M L y n zs m o b k) : M (L 10) = some (mp_o 0 [.int (nI b.length), .int (am_low b)]) := h.2.2.2.2.1
theorem IV.so {E : mp_E} {X : Nat → Prop} {M : mp_M} {L : Nat → Nat} {y n : Nat} {zs m o : List am_T} {b : List Bool} {k : Nat} (h : IV E X M L y n zs m o b k) : SK E X M (L 11) (L 12) o := h.2.2.2.2.2.1
theorem IV.sm {E : mp_E} {X : Nat → Prop} {M : mp_M} {L : Nat → Nat} {y n : Nat} {zs m o : List am_T} {b : List Bool} {k : Nat} (h : IV E X M L y n zs m o b k) : SK E X M (L 13) (L 14) m := h.2.2.2.2.2.2.1
theorem IV.sd {E : mp_E} {X : Nat → Prop} {M : mp_M} {L : Nat → Nat} {y n : Nat} {zs m o : List am_T} {b : List Bool} {k : Nat} (h : IV E X M L y n zs m o b k) : SK E X M (L 15) (L 16) zs := h.2.2.2.2.2.2.2
section IVS
variable {E : mp_E} {X : Nat → Prop} {M N : mp_M} {L : Nat → Nat} {y n k : Nat} {zs m o : List am_T} {b : List Bool}
theorem SU.keep (h : SU E M L) (hk : ∀ i, 1 ≤ i → i ≤ 9 → N (L i) = M (L i)) : SU E N L := by
  unfold SU at *
  rw [hk 1 (by omega) (by omega), hk 2 (by omega) (by omega), hk 3 (by omega) (by omega), hk 4 (by omega) (by omega), hk 5 (by omega) (by omega), hk 6 (by omega) (by omega), hk 7 (by omega) (by omega), hk 8 (by omega) (by omega), hk 9 (by omega) (by omega)]
  exact h
theorem IV.xa (h : IV E X M L y n zs m o b k) (hL : LY X L) : ∀ a, X a → M a ≠ none := by
  intro a ha he
  obtain ⟨i, hi, rfl⟩ := (hL.1 a).mp ha
  obtain ⟨s1, s2, ⟨_, s3⟩, ⟨_, s4⟩, ⟨_, s5⟩, ⟨_, s6⟩, ⟨_, s7⟩, ⟨_, s8⟩, ⟨_, s9⟩⟩ := h.su
  obtain ⟨_, _, o1, o2, -⟩ := h.so
  obtain ⟨_, _, m1, m2, -⟩ := h.sm
  obtain ⟨_, _, d1, d2, -⟩ := h.sd
  have h0 := h.mo
  have h10 := h.br
  rcases (show i = 0 ∨ i = 1 ∨ i = 2 ∨ i = 3 ∨ i = 4 ∨ i = 5 ∨ i = 6 ∨ i = 7 ∨ i = 8 ∨ i = 9 ∨ i = 10 ∨ i = 11 ∨ i = 12 ∨ i = 13 ∨ i = 14 ∨ i = 15 ∨ i = 16 by omega) with rfl | rfl | rfl | rfl | rfl | rfl | rfl | rfl | rfl | rfl | rfl | rfl | rfl | rfl | rfl | rfl | rfl <;> simp_all
/-- all but the things stay as they are on the fixed cells -/
theorem IV.gen (h : IV E X M L y n zs m o b k) (fr : mp_Fr X M N) {m' o' : List am_T} {b' : List Bool} {k' : Nat} (c0 : N (L 0) = some (mp_o 1 [.ref (L 1), .ref (L 5), .ref (L 11), .ref (L 10), .ref y, .ref n, .ref (L 13), .int (nI k')])) (c1 : SU E N L) (c2 : N (L 10) = some (mp_o 0 [.int (nI b'.length), .int (am_low b')])) (c3 : SK E X N (L 11) (L 12) o') (c4 : SK E X N (L 13) (L 14) m') (c5 : SK E X N (L 15) (L 16) zs) : IV E X N L y n zs m' o' b' k' := ⟨c0, h.ty.keep fr, h.tn.keep fr, c1, c2, c3, c4, c5⟩
theorem IV.new (h : IV E X M L y n zs m o b k) (hw : NW M N) : IV E X N L y n zs m o b k := by
  have fr : mp_Fr X M N := hw.fr
  have sk : ∀ {s ar : Nat} {xs : List am_T}, SK E X M s ar xs → SK E X N s ar xs := fun ⟨nn, f, a1, a2, a3, a4, a5⟩ => ⟨nn, f, hw _ _ a1, hw _ _ a2, a3.keep fr, a4, a5.keep fr⟩
  obtain ⟨s1, s2, ⟨_, s3⟩, ⟨_, s4⟩, ⟨_, s5⟩, ⟨_, s6⟩, ⟨_, s7⟩, ⟨_, s8⟩, ⟨_, s9⟩⟩ := h.su
  exact h.gen fr (hw _ _ h.mo) ⟨hw _ _ s1, hw _ _ s2, ⟨_, hw _ _ s3⟩, ⟨_, hw _ _ s4⟩, ⟨_, hw _ _ s5⟩, ⟨_, hw _ _ s6⟩, ⟨_, hw _ _ s7⟩, ⟨_, hw _ _ s8⟩, ⟨_, hw _ _ s9⟩⟩ (hw _ _ h.br) (sk h.so) (sk h.sm) (sk h.sd)
theorem IV.main (h : IV E X M L y n zs m o b k) (hL : LY X L) {m' : List am_T} (ha : AO (L 13) (L 14) M N) (hs : SK E X N (L 13) (L 14) m') : IV E X N L y n zs m' o b k := by
  have fr : mp_Fr X M N := ha.fr (hL.x (by omega)) (hL.x (by omega))
  have q : ∀ i, i < 17 → i ≠ 13 → i ≠ 14 → N (L i) = M (L i) := fun i hi h1 h2 => ha _ (hL.ne hi (by omega) h1) (hL.ne hi (by omega) h2)
  exact h.gen fr ((q 0 (by omega) (by omega) (by omega)).trans h.mo) (h.su.keep fun i _ _ => q i (by omega) (by omega) (by omega)) ((q 10 (by omega) (by omega) (by omega)).trans h.br) (h.so.keep fr (q 11 (by omega) (by omega) (by omega)) (q 12 (by omega) (by omega) (by omega))) hs (h.sd.keep fr (q 15 (by omega) (by omega) (by omega)) (q 16 (by omega) (by omega) (by omega)))
theorem IV.oth (h : IV E X M L y n zs m o b k) (hL : LY X L) {o' : List am_T} (ha : AO (L 11) (L 12) M N) (hs : SK E X N (L 11) (L 12) o') : IV E X N L y n zs m o' b k := by
  have fr : mp_Fr X M N := ha.fr (hL.x (by omega)) (hL.x (by omega))
  have q : ∀ i, i < 17 → i ≠ 11 → i ≠ 12 → N (L i) = M (L i) := fun i hi h1 h2 => ha _ (hL.ne hi (by omega) h1) (hL.ne hi (by omega) h2)
  exact h.gen fr ((q 0 (by omega) (by omega) (by omega)).trans h.mo) (h.su.keep fun i _ _ => q i (by omega) (by omega) (by omega)) ((q 10 (by omega) (by omega) (by omega)).trans h.br) hs (h.sm.keep fr (q 13 (by omega) (by omega) (by omega)) (q 14 (by omega) (by omega) (by omega))) (h.sd.keep fr (q 15 (by omega) (by omega) (by omega)) (q 16 (by omega) (by omega) (by omega)))
/-- one cell of the machine's own is changed -/
theorem IV.cnt (h : IV E X M L y n zs m o b k) (hL : LY X L) (k' : Nat) : IV E X (mp_up M (L 0) (mp_o 1 [.ref (L 1), .ref (L 5), .ref (L 11), .ref (L 10), .ref y, .ref n, .ref (L 13), .int (nI k')])) L y n zs m o b k' := by
  have fr : mp_Fr X M (mp_up M (L 0) (mp_o 1 [.ref (L 1), .ref (L 5), .ref (L 11), .ref (L 10), .ref y, .ref n, .ref (L 13), .int (nI k')])) := mp_Fr.up (hL.x (by omega))
  have q : ∀ i, i < 17 → i ≠ 0 → mp_up M (L 0) (mp_o 1 [.ref (L 1), .ref (L 5), .ref (L 11), .ref (L 10), .ref y, .ref n, .ref (L 13), .int (nI k')]) (L i) = M (L i) := fun i hi h1 => mp_n (hL.ne hi (by omega) h1)
  exact h.gen fr mp_s (h.su.keep fun i _ _ => q i (by omega) (by omega)) ((q 10 (by omega) (by omega)).trans h.br) (h.so.keep fr (q 11 (by omega) (by omega)) (q 12 (by omega) (by omega))) (h.sm.keep fr (q 13 (by omega) (by omega)) (q 14 (by omega) (by omega))) (h.sd.keep fr (q 15 (by omega) (by omega)) (q 16 (by omega) (by omega)))
theorem IV.flags (h : IV E X M L y n zs m o b k) (hL : LY X L) (b' : List Bool) (hN : N = mp_up M (L 10) (mp_o 0 [.int (nI b'.length), .int (am_low b')])) : IV E X N L y n zs m o b' k := by
  have fr : mp_Fr X M N := by rw [hN]; exact mp_Fr.up (hL.x (by omega))
  have q : ∀ i, i < 17 → i ≠ 10 → N (L i) = M (L i) := fun i hi h1 => by rw [hN]; exact mp_n (hL.ne hi (by omega) h1)
  exact h.gen fr ((q 0 (by omega) (by omega)).trans h.mo) (h.su.keep fun i _ _ => q i (by omega) (by omega)) (by rw [hN]; exact mp_s) (h.so.keep fr (q 11 (by omega) (by omega)) (q 12 (by omega) (by omega))) (h.sm.keep fr (q 13 (by omega) (by omega)) (q 14 (by omega) (by omega))) (h.sd.keep fr (q 15 (by omega) (by omega)) (q 16 (by omega) (by omega)))
variable (l : Launch)
theorem i_pop {x : am_T} (h : IV E X M L y n zs (x :: m) o b k) (hL : LY X L) : mp_Cr l m_St_pop E M 1 0 0 [.ref (L 13)] (fun v N => ∃ t, v = some (.ref t) ∧ TH E X N t x ∧ IV E X N L y n zs m o b k ∧ mp_Fr X M N) :=
  (k_pop l h.sm (hL.x (by omega)) (hL.x (by omega))).mono fun v N ⟨⟨t, h1, h2⟩, h3, h4⟩ => ⟨t, h1, h2, h.main hL h4 h3, h4.fr (hL.x (by omega)) (hL.x (by omega))⟩
theorem i_opop {x : am_T} (h : IV E X M L y n zs m (x :: o) b k) (hL : LY X L) : mp_Cr l m_St_pop E M 1 0 0 [.ref (L 11)] (fun v N => ∃ t, v = some (.ref t) ∧ TH E X N t x ∧ IV E X N L y n zs m o b k ∧ mp_Fr X M N) :=
  (k_pop l h.so (hL.x (by omega)) (hL.x (by omega))).mono fun v N ⟨⟨t, h1, h2⟩, h3, h4⟩ => ⟨t, h1, h2, h.oth hL h4 h3, h4.fr (hL.x (by omega)) (hL.x (by omega))⟩
theorem i_peek (h : IV E X M L y n zs m o b k) (p : Nat) (hp : p < 100000) : mp_Cr l m_St_peek E M 2 0 0 [.ref (L 13), .int (nI p)] (fun v N => N = M ∧ ∃ t, v = some (.ref t) ∧ TH E X M t (m.getD p [])) := k_peek l h.sm p hp
theorem i_push {t : Nat} {x : am_T} (h : IV E X M L y n zs m o b k) (hL : LY X L) (ht : TH E X M t x) : mp_Cr l m_St_push E M 1 0 0 [.ref (L 13), .ref t] (fun v N => v = some (.int (tf (decide (m.length < 200)))) ∧ IV E X N L y n zs (if m.length < 200 then x :: m else m) o b k ∧ mp_Fr X M N) := by
  by_cases hc : m.length < 200
  · refine (k_push l h.sm ht (hL.x (by omega)) (hL.x (by omega)) hc).mono fun v N ⟨h1, h3, h4⟩ => ⟨by rw [h1, decide_eq_true hc], ?_, h4.fr (hL.x (by omega)) (hL.x (by omega))⟩
    rw [if_pos hc]
    exact h.main hL h4 h3
  · refine (k_pushN l h.sm (by omega)).mono fun v N ⟨h1, h2⟩ => ⟨by rw [h1, decide_eq_false hc], ?_, by rw [h2]; exact mp_Fr.refl⟩
    rw [if_neg hc, h2]
    exact h
theorem i_opush {t : Nat} {x : am_T} (h : IV E X M L y n zs m o b k) (hL : LY X L) (ht : TH E X M t x) : mp_Cr l m_St_push E M 1 0 0 [.ref (L 11), .ref t] (fun v N => v = some (.int (tf (decide (o.length < 200)))) ∧ IV E X N L y n zs m (if o.length < 200 then x :: o else o) b k ∧ mp_Fr X M N) := by
  by_cases hc : o.length < 200
  · refine (k_push l h.so ht (hL.x (by omega)) (hL.x (by omega)) hc).mono fun v N ⟨h1, h3, h4⟩ => ⟨by rw [h1, decide_eq_true hc], ?_, h4.fr (hL.x (by omega)) (hL.x (by omega))⟩
    rw [if_pos hc]
    exact h.oth hL h4 h3
  · refine (k_pushN l h.so (by omega)).mono fun v N ⟨h1, h2⟩ => ⟨by rw [h1, decide_eq_false hc], ?_, by rw [h2]; exact mp_Fr.refl⟩
    rw [if_neg hc, h2]
    exact h
theorem i_drop (h : IV E X M L y n zs m o b k) (hL : LY X L) (j : Nat) (hj : j < 100000) : mp_Cr l m_St_drop E M 1 0 0 [.ref (L 13), .int (nI j)] (fun v N => v = some (.int (tf (decide (j ≤ m.length)))) ∧ IV E X N L y n zs (if j ≤ m.length then m.drop j else m) o b k ∧ mp_Fr X M N) := by
  by_cases hc : j ≤ m.length
  · refine (k_drop l h.sm j (hL.x (by omega)) (hL.x (by omega)) hc).mono fun v N ⟨h1, h3, h4⟩ => ⟨by rw [h1, decide_eq_true hc], ?_, h4.fr (hL.x (by omega)) (hL.x (by omega))⟩
    rw [if_pos hc]
    exact h.main hL h4 h3
  · refine (k_dropN l h.sm j ⟨by omega, hj⟩).mono fun v N ⟨h1, h2⟩ => ⟨by rw [h1, decide_eq_false hc], ?_, by rw [h2]; exact mp_Fr.refl⟩
    rw [if_neg hc, h2]
    exact h
theorem i_take (h : IV E X M L y n zs m o b k) (hL : LY X L) (p : Nat) (hp : p < m.length) : mp_Cr l m_St_take E M 3 0 0 [.ref (L 13), .int (nI p)] (fun v N => ∃ t, v = some (.ref t) ∧ TH E X N t (m.getD p []) ∧ IV E X N L y n zs (m.eraseIdx p) o b k ∧ mp_Fr X M N) :=
  (k_take l h.sm p (hL.x (by omega)) (hL.x (by omega)) hp).mono fun v N ⟨⟨t, h1, h2⟩, h3, h4⟩ => ⟨t, h1, h2, h.main hL h4 h3, h4.fr (hL.x (by omega)) (hL.x (by omega))⟩
theorem i_of (v : Int64) (hv : am_mag v < 2 ^ 40) (h : IV E X M L y n zs m o b k) (hL : LY X L) : mp_Cr l m_Th_ofNumber E M 4 2 8 [.long v] (fun w N => ∃ t, w = some (.ref t) ∧ TH E X N t (am_of v) ∧ IV E X N L y n zs m o b k ∧ mp_Fr X M N) :=
  (t_of l v hv (h.xa hL)).mono fun w N ⟨t, h1, h2, h3⟩ => ⟨t, h1, h2, h.new h3, h3.fr⟩
end IVS
theorem SK.o {E : mp_E} {X : Nat → Prop} {M : mp_M} {s ar : Nat} {xs : List am_T} (h : SK E X M s ar xs) : ∃ fs, M s = some (mp_o 4 fs) := by
  obtain ⟨nn, f, a1, -⟩ := h
  exact ⟨_, a1⟩
theorem TH.o {E : mp_E} {X : Nat → Prop} {M : mp_M} {t : Nat} {x : am_T} (h : TH E X M t x) : ∃ fs, M t = some (mp_o 5 fs) := by
  obtain ⟨-, b, -, a1, -⟩ := h
  exact ⟨_, a1⟩
theorem SK.le {E : mp_E} {X : Nat → Prop} {M : mp_M} {s ar : Nat} {xs : List am_T} (h : SK E X M s ar xs) : xs.length ≤ 200 := by
  obtain ⟨nn, f, -, -, -, a, -⟩ := h
  exact a
/-- what a step of the machine answers -/
abbrev am_St : Type := List am_T × List am_T × List Bool × Nat
def MP (E : mp_E) (X : Nat → Prop) (M : mp_M) (L : Nat → Nat) (y n : Nat) (zs : List am_T) (r : Option am_St) : Option Value → mp_M → Prop := fun v N =>
  ∃ (w : Bool) (m o : List am_T) (b : List Bool) (k : Nat), v = some (.int (tf w)) ∧ IV E X N L y n zs m o b k ∧ mp_Fr X M N ∧ (w = true → r = some (m, o, b, k)) ∧ (w = false → ∀ s, r = some s → 200 < s.1.length + s.2.1.length)
