/-! two systems in one heap: a contract over a part D of the map M -/
def mg (M D ND : mp_M) : mp_M := fun a => match ND a, D a with
  | some e, _ => some e
  | none, none => M a
  | none, some _ => none
theorem mg_new {M D ND : mp_M} : NW ND (mg M D ND) := fun a e h => by unfold mg; rw [h]
theorem mg_old {M D ND : mp_M} {a : Nat} {e : va_E} (hd : D a = none) (hn : ∀ e', ND a = some e' → M a = none) (h : M a = some e) : mg M D ND a = some e := by
  unfold mg
  cases hz : ND a with
  | some e' => rw [hn e' hz] at h; cases h
  | none => rw [hd]; exact h
theorem mg_or {M D ND : mp_M} {a : Nat} {e : va_E} (h : mg M D ND a = some e) : ND a = some e ∨ (D a = none ∧ M a = some e) := by
  unfold mg at h
  cases hz : ND a with
  | some e' => rw [hz] at h; exact Or.inl h
  | none =>
    rw [hz] at h
    cases hd : D a with
    | none => rw [hd] at h; exact Or.inr ⟨rfl, h⟩
    | some e' => rw [hd] at h; cases h
def FM (M D : mp_M) (post : mp_O → mp_M → Prop) : mp_O → mp_M → Prop := fun o N => ∃ ND, post o ND ∧ (∀ a e, ND a = some e → D a = none → M a = none) ∧ N = mg M D ND
theorem mp_Ct.frame {l : Launch} {μ : mp_D} {E : mp_E} {D M : mp_M} {d mc ms : Nat} {av : List Value} {post : mp_O → mp_M → Prop} (h : mp_Ct l μ E D d mc ms av post) (hs : NW D M) : mp_Ct l μ E M d mc ms av (FM M D post) := by
  intro sz p e ha hc hk s m args below hf happ hP hK
  obtain ⟨hv, hsz, hTB, hKK, hSt, hPM, hZ⟩ := hP
  have hDn : ∀ q, E.2.2.1 q → D q = none := fun q hq => by
    cases hz : D q with
    | none => rfl
    | some e' =>
      have h9 := hs q e' hz
      rw [(hZ q hq).1] at h9
      cases h9
  have hPD : mp_Pc E D sz av args s := ⟨hv, hsz, hTB, hKK, hSt, fun a e' h' => hPM a e' (hs a e' h'), fun q hq => ⟨hDn q hq, (hZ q hq).2⟩⟩
  obtain ⟨n, o, h1, h2, h3, hW, ⟨L, hsb, hL⟩, hF, M', hM, hA, ho⟩ := h sz p e ha hc hk s m args below hf happ hPD hK
  have mono : ∀ q, mp_A D s.heap.size q → mp_A M s.heap.size q := fun q hq => hq.elim (fun ⟨e', h'⟩ => Or.inl ⟨e', hs q e' h'⟩) Or.inr
  have hnew : ∀ a e, M' a = some e → D a = none → M a = none := fun a e' h' hd => by
    rcases hA a e' h' with ⟨e2, h2'⟩ | h2'
    · rw [hd] at h2'; cases h2'
    · cases hz : M a with
      | none => rfl
      | some e3 => exact absurd (hPM a e3 hz).lt (Nat.not_lt.mpr h2')
  refine ⟨n, o, h1, h2, h3, hW, ⟨L, hsb, fun q hq => mono _ (hL q hq)⟩, ⟨hF.1, fun q hq hn => hF.2 q hq (fun z => hn (mono q z))⟩, mg M D M', ?_, ?_, ?_⟩
  · intro a e' h'
    rcases mg_or h' with h9 | ⟨hd, h9⟩
    · exact hM a e' h9
    · have hx := hPM a e' h9
      exact hx.kept (hF.2 a hx.lt (fun z => z.elim (fun ⟨e3, h3⟩ => by rw [hd] at h3; cases h3) (fun h3 => absurd hx.lt (Nat.not_lt.mpr h3))))
  · intro a e' h'
    rcases mg_or h' with h9 | ⟨hd, h9⟩
    · exact mono a (hA a e' h9)
    · exact Or.inl ⟨e', h9⟩
  · cases o with
    | returned v => exact ⟨M', ho, hnew, rfl⟩
    | threw x =>
      obtain ⟨X, hX, hx⟩ := ho
      exact ⟨X, ⟨M', hX, hnew, rfl⟩, hx⟩
theorem mp_Ct.mono {l : Launch} {μ : mp_D} {E : mp_E} {M0 : mp_M} {d mc ms : Nat} {av : List Value} {P Q : mp_O → mp_M → Prop} (h : mp_Ct l μ E M0 d mc ms av P) (hpq : ∀ o N, P o N → Q o N) : mp_Ct l μ E M0 d mc ms av Q := by
  intro sz p e ha hc hk s m args below hf happ hP hK
  obtain ⟨n, o, h1, h2, h3, hW, hL, hF, M', hM, hA, ho⟩ := h sz p e ha hc hk s m args below hf happ hP hK
  refine ⟨n, o, h1, h2, h3, hW, hL, hF, M', hM, hA, ?_⟩
  cases o with
  | returned v => exact hpq _ M' ho
  | threw r =>
    obtain ⟨X, hX, hx⟩ := ho
    exact ⟨X, hpq _ M' hX, hx⟩
def mp_XC (E : mp_E) (M0 : mp_M) (post : mp_O → mp_M → Prop) : String → State → State → Prop := fun X st t => va_F (mp_A M0 st.heap.size) st t ∧ ∃ M', post (.inr X) M' ∧ mp_P E M' t.heap ∧ ∀ a e, M' a = some e → mp_A M0 st.heap.size a
theorem mp_Ct.vx {l : Launch} {μ : mp_D} {E : mp_E} {M0 : mp_M} {d mc ms : Nat} {av : List Value} {post : mp_O → mp_M → Prop} (h : mp_Ct l μ E M0 d mc ms av post) (sz : Nat) : vx_Met l μ.2.2.2 [.code μ.2.2.2 μ.1 μ.2.1 μ.2.2.1] (mp_rm d mc ms) (mp_Pc E M0 sz av) (mp_Qc E M0 (fun v N => post (.inl v) N)) (mp_XC E M0 post) mc ms (mp_A M0 sz) := by
  intro p e ha hc hk s m args below hf happ hP hK
  have hsz : s.heap.size = sz := hP.2.1
  subst hsz
  obtain ⟨n, o, h1, h2, h3, hW, ⟨L, hs, hL⟩, hF, M', hM, hA, ho⟩ := h _ p e ha hc hk s m args below hf happ hP hK
  cases o with
  | returned v => exact ⟨n, _, h1, h2, h3, Or.inl ⟨⟨hF, M', v, rfl, ho, hM, hA⟩, L, ⟨⟨v, rfl⟩, hW, hs⟩, hL⟩⟩
  | threw x =>
    obtain ⟨X, hX, ce, cX, hce, hcl, hcc, hcv⟩ := ho
    refine ⟨n, _, h1, h2, h3, Or.inr ⟨x, rfl, X, ce, L, ⟨hF, M', hX, hM, hA⟩, hce, hcv, ?_, hW, hs, hL⟩⟩
    rw [hW.alike.findClass] at hcl
    rw [hcc]
    exact hcl
/-! the desk's heap with another row -/
section ROWS
variable {E : mp_E} {X : Nat → Prop} {M N : mp_M} {L : Nat → Nat} {y n k ro : Nat} {zs m o : List am_T} {b : List Bool} {g g' : Nat → Int32}
theorem TH.row {t : Nat} {x : am_T} (q : TH E X M t x) (hh : M ro = some (mp_b E 1000 g)) : TH E X (mp_up M ro (mp_b E 1000 g')) t x := by
  obtain ⟨h1, b, h2, h3, h4, h5⟩ := q
  exact ⟨h1, b, h2, by rw [mp_n (mp_ne h3 hh mp_noa)]; exact h3, by rw [mp_n (mp_ne h4 hh (mp_nsz (by omega)))]; exact h4, h5⟩
theorem SL.row {f : Nat → Option Nat} (hh : M ro = some (mp_b E 1000 g)) : ∀ {xs : List am_T}, SL E X M f xs → SL E X (mp_up M ro (mp_b E 1000 g')) f xs := by
  intro xs
  induction xs with
  | nil => intro _; trivial
  | cons x xs ih =>
    intro ⟨⟨t, h1, h2⟩, h3⟩
    exact ⟨⟨t, h1, h2.row hh⟩, ih h3⟩
theorem SK.row {s ar : Nat} {xs : List am_T} (q : SK E X M s ar xs) (hh : M ro = some (mp_b E 1000 g)) : SK E X (mp_up M ro (mp_b E 1000 g')) s ar xs := by
  obtain ⟨nn, f, a1, a2, a3, a4, a5⟩ := q
  exact ⟨nn, f, by rw [mp_n (mp_ne a1 hh mp_noa)]; exact a1, by rw [mp_n (mp_ne a2 hh mp_nqi)]; exact a2, a3.row hh, a4, a5.row hh⟩
theorem IV.row (q : IV E X M L y n zs m o b k) (hL : LY X L) (hh : M ro = some (mp_b E 1000 g)) (hX : ¬ X ro) : IV E X (mp_up M ro (mp_b E 1000 g')) L y n zs m o b k := by
  have kl : ∀ i, i < 17 → mp_up M ro (mp_b E 1000 g') (L i) = M (L i) := fun i hi => mp_n (fun z => hX (by rw [← z]; exact hL.x hi))
  exact ⟨(kl 0 (by omega)).trans q.mo, q.ty.row hh, q.tn.row hh, q.su.keep (fun i _ _ => kl i (by omega)), (kl 10 (by omega)).trans q.br, q.so.row hh, q.sm.row hh, q.sd.row hh⟩
end ROWS
/-- the desk: its row, how much of it is filled, its stack -/
def DK (E : mp_E) (D : mp_M) (h len : Nat) (g : Nat → Int32) (zs : List am_T) : Prop := ∃ (X : Nat → Prop) (L : Nat → Nat) (y n ro k : Nat) (m o : List am_T) (b : List Bool), LY X L ∧ IV E X D L y n zs m o b k ∧ D h = some (mp_o 6 [.ref ro, .int (nI len), .ref (L 1), .ref (L 5), .ref (L 0), .ref (L 15)]) ∧ D ro = some (mp_b E 1000 g) ∧ ¬ X h ∧ ¬ X ro ∧ len ≤ 1000 ∧ ∀ i, i < 1000 → fits .byte (.int (g i)) = true
/-- the reference, in the same words -/
def RK (E : mp_E) (F : mp_M) (R : Nat → Nat) (len : Nat) (thr : Int32) (g : Nat → Int32) (zs : List am_T) : Prop := RL R ∧ len ≤ 1000 ∧ (∀ i, i < 1000 → fits .byte (.int (g i)) = true) ∧ ∃ dp A, RW E F R len thr g dp A ∧ dp ≤ 200 ∧ LM A dp = zs
theorem ap_ft {g : Nat → Int32} {len : Nat} {x : Int32} (h : ∀ i, i < 1000 → fits .byte (.int (g i)) = true) : ∀ i, i < 1000 → fits .byte (.int (ap_w g len x i)) = true := ft_upd (pk_fb _) (ft_upd (pk_fb _) (ft_upd (pk_fb _) (ft_upd (pk_fb _) h)))
theorem ap_ft5 {g : Nat → Int32} {len : Nat} {a b c d e : Int32} (h : ∀ i, i < 1000 → fits .byte (.int (g i)) = true) : ∀ i, i < 1000 → fits .byte (.int (ap_5 g len a b c d e i)) = true := ap_ft (ap_ft (ap_ft (ap_ft (ap_ft h))))
theorem mp_AO {h ro : Nat} {M N : mp_M} {x y : va_E} (hne : h ≠ ro) (h0 : N h = some x) (h1 : N ro = some y) (ao : AO h ro M N) : N = mp_up (mp_up M h x) ro y := by
  funext a
  by_cases z1 : a = ro
  · rw [z1, mp_s, h1]
  · rw [mp_n z1]
    by_cases z2 : a = h
    · rw [z2, mp_s, h0]
    · rw [mp_n z2, ao a z2 z1]
/-! the desk's methods -/
section DKM
variable (l : Launch) {E : mp_E} {D : mp_M} {h len : Nat} {g : Nat → Int32} {zs : List am_T}
theorem dk_feed (hl0 : l.stackTraces = false) (q : DK E D h len g zs) (a b c d e : Int32) : mp_Ct l m_De_feed E D 8 1 6 [.ref h, .int a, .int b, .int c, .int d, .int e] (mp_pq (fun v N => len ≤ 980 ∧ v = some (.int (nI (len + 20))) ∧ DK E N h (len + 20) (ap_5 g len a b c d e) zs) (fun x N => x = "java/lang/IllegalStateException" ∧ 980 < len ∧ DK E N h len g zs)) := by
  have q' := q
  obtain ⟨X, L, y, n, ro, k, m, o, b', hL, hI, h0, h1, hX, hXr, hlen, hfit⟩ := q'
  refine (c_De_feed l hl0 E D h ro len _ _ _ _ g a b c d e h0 h1 hlen).mono fun oc N hp => ?_
  cases oc with
  | inl v =>
    obtain ⟨e1, e2, e3, e4, e5⟩ := hp
    have hne : h ≠ ro := mp_ne h0 h1 mp_noa
    have eN := mp_AO hne e3 e4 e5
    refine ⟨e1, e2, X, L, y, n, ro, k, m, o, b', hL, ?_, e3, e4, hX, hXr, by omega, ap_ft5 hfit⟩
    rw [eN]
    exact (hI.desk hL h0 hX).row hL ((mp_n (Ne.symm hne)).trans h1) hXr
  | inr x =>
    obtain ⟨e1, e2, e3⟩ := hp
    exact ⟨e1, e2, by rw [e3]; exact q⟩
theorem dk_end (hl0 : l.stackTraces = false) (q : DK E D h len g zs) (i : Int32) : mp_Ct l m_De_end E D 8 1 6 [.ref h, .int i] (mp_pq (fun v N => ∃ j, j ≤ len ∧ i = nI j ∧ v = some (.int (nI j)) ∧ DK E N h j g zs) (fun x N => x = "java/lang/IllegalArgumentException" ∧ (¬ ∃ j, j ≤ len ∧ i = nI j) ∧ DK E N h len g zs)) := by
  have q' := q
  obtain ⟨X, L, y, n, ro, k, m, o, b', hL, hI, h0, h1, hX, hXr, hlen, hfit⟩ := q'
  refine (c_De_end l hl0 E D h ro len _ _ _ _ i h0 hlen).mono fun oc N hp => ?_
  cases oc with
  | inl v =>
    obtain ⟨j, e1, e2, e3, e4⟩ := hp
    exact ⟨j, e1, e2, e3, X, L, y, n, ro, k, m, o, b', hL, by rw [e4]; exact hI.desk hL h0 hX, by rw [e4]; exact mp_s, by rw [e4, mp_n (mp_ne h1 h0 mp_nao)]; exact h1, hX, hXr, by omega, hfit⟩
  | inr x =>
    obtain ⟨e1, e2, e3⟩ := hp
    exact ⟨e1, e2, by rw [e3]; exact q⟩
theorem dk_sigs (hl0 : l.stackTraces = false) (q : DK E D h len g zs) (i : Int32) : mp_Ct l m_De_sigs E D 8 1 6 [.ref h, .int i] (mp_pq (fun v N => ∃ j, j ≤ len ∧ i = nI j ∧ v = some (.int (nI (sg_run g j (j + 1) 0 0))) ∧ DK E N h len g zs) (fun x N => x = "java/lang/IllegalArgumentException" ∧ (¬ ∃ j, j ≤ len ∧ i = nI j) ∧ DK E N h len g zs)) := by
  have q' := q
  obtain ⟨X, L, y, n, ro, k, m, o, b', hL, hI, h0, h1, hX, hXr, hlen, hfit⟩ := q'
  refine (c_De_sigs l hl0 E D h ro len _ _ _ _ g i h0 h1 hlen).mono fun oc N hp => ?_
  cases oc with
  | inl v =>
    obtain ⟨j, e1, e2, e3, e4⟩ := hp
    exact ⟨j, e1, e2, e3, by rw [e4]; exact q⟩
  | inr x =>
    obtain ⟨e1, e2, e3⟩ := hp
    exact ⟨e1, e2, by rw [e3]; exact q⟩
theorem dk_depth (q : DK E D h len g zs) : mp_Cr l m_De_depth E D 2 0 0 [.ref h] (fun v N => v = some (.int (nI zs.length)) ∧ DK E N h len g zs) := by
  have q' := q
  obtain ⟨X, L, y, n, ro, k, m, o, b', hL, hI, h0, h1, hX, hXr, hlen, hfit⟩ := q'
  exact (c_De_depth l E D h ro len _ _ _ _ X _ zs h0 hI.sd).mono fun v N ⟨e1, e2⟩ => ⟨e1, by rw [e2]; exact q⟩
theorem dk_size (hl0 : l.stackTraces = false) (q : DK E D h len g zs) (i : Int32) : mp_Ct l m_De_size E D 8 1 6 [.ref h, .int i] (mp_pq (fun v N => ∃ j, j < zs.length ∧ i = nI j ∧ v = some (.int (nI (zs.getD j []).length)) ∧ DK E N h len g zs) (fun x N => x = "java/lang/IndexOutOfBoundsException" ∧ (¬ ∃ j, j < zs.length ∧ i = nI j) ∧ DK E N h len g zs)) := by
  have q' := q
  obtain ⟨X, L, y, n, ro, k, m, o, b', hL, hI, h0, h1, hX, hXr, hlen, hfit⟩ := q'
  refine (c_De_size l hl0 E D h ro len _ _ _ _ X _ zs i h0 hI.sd).mono fun oc N hp => ?_
  cases oc with
  | inl v =>
    obtain ⟨j, e1, e2, e3, e4⟩ := hp
    exact ⟨j, e1, e2, e3, by rw [e4]; exact q⟩
  | inr x =>
    obtain ⟨e1, e2, e3⟩ := hp
    exact ⟨e1, e2, by rw [e3]; exact q⟩
theorem dk_at (hl0 : l.stackTraces = false) (q : DK E D h len g zs) (i c : Int32) : mp_Ct l m_De_at E D 8 1 6 [.ref h, .int i, .int c] (mp_pq (fun v N => ∃ j e, j < zs.length ∧ i = nI j ∧ e < (zs.getD j []).length ∧ c = nI e ∧ v = some (.int (nI (th_at (zs.getD j []).length (gb (zs.getD j [])) e))) ∧ DK E N h len g zs) (fun x N => x = "java/lang/IndexOutOfBoundsException" ∧ (¬ ∃ j e, j < zs.length ∧ i = nI j ∧ e < (zs.getD j []).length ∧ c = nI e) ∧ DK E N h len g zs)) := by
  have q' := q
  obtain ⟨X, L, y, n, ro, k, m, o, b', hL, hI, h0, h1, hX, hXr, hlen, hfit⟩ := q'
  refine (c_De_at l hl0 E D h ro len _ _ _ _ X _ zs i c h0 hI.sd).mono fun oc N hp => ?_
  cases oc with
  | inl v =>
    obtain ⟨j, e, e1, e2, e3, e4, e5, e6⟩ := hp
    exact ⟨j, e, e1, e2, e3, e4, e5, by rw [e6]; exact q⟩
  | inr x =>
    obtain ⟨e1, e2, e3⟩ := hp
    exact ⟨e1, e2, by rw [e3]; exact q⟩
theorem dk_number (hl0 : l.stackTraces = false) (q : DK E D h len g zs) (i : Int32) : mp_Ct l m_De_number E D 8 1 6 [.ref h, .int i] (mp_pq (fun v N => ∃ j, j < zs.length ∧ i = nI j ∧ (zs.getD j []).length ≤ 4 ∧ v = some (.int (am_num (zs.getD j [])).toInt32) ∧ DK E N h len g zs) (fun x N => (x = "java/lang/IndexOutOfBoundsException" ∧ (¬ ∃ j, j < zs.length ∧ i = nI j) ∧ DK E N h len g zs) ∨ (x = "java/lang/ArithmeticException" ∧ (∃ j, j < zs.length ∧ i = nI j ∧ ¬ (zs.getD j []).length ≤ 4) ∧ DK E N h len g zs))) := by
  have q' := q
  obtain ⟨X, L, y, n, ro, k, m, o, b', hL, hI, h0, h1, hX, hXr, hlen, hfit⟩ := q'
  refine (c_De_number l hl0 E D h ro len _ _ _ _ X _ zs i h0 hI.sd).mono fun oc N hp => ?_
  cases oc with
  | inl v =>
    obtain ⟨j, e1, e2, e3, e4, e5⟩ := hp
    exact ⟨j, e1, e2, e3, e4, by rw [e5]; exact q⟩
  | inr x =>
    rcases hp with ⟨e1, e2, e3⟩ | ⟨e1, e2, e3⟩
    · exact Or.inl ⟨e1, e2, by rw [e3]; exact q⟩
    · exact Or.inr ⟨e1, e2, by rw [e3]; exact q⟩
theorem dk_hash (hl0 : l.stackTraces = false) (q : DK E D h len g zs) (a c : Int32) : mp_Ct l m_De_hash E D 8 4 66 [.ref h, .int a, .int c] (mp_pq (fun v N => ∃ w r, w ≤ 2 ∧ a = nI w ∧ r ≤ (if w = 2 then 4 else 7) ∧ c = nI r ∧ v = some (.int (th_w (am_hs g len w).length (gb (am_hs g len w)) r 4)) ∧ DK E N h len g zs) (fun x N => x = "java/lang/IllegalArgumentException" ∧ (¬ ∃ w r, w ≤ 2 ∧ a = nI w ∧ r ≤ (if w = 2 then 4 else 7) ∧ c = nI r) ∧ DK E N h len g zs)) := by
  have q' := q
  obtain ⟨X, L, y, n, ro, k, m, o, b', hL, hI, h0, h1, hX, hXr, hlen, hfit⟩ := q'
  refine (c_De_hash l hl0 E D X L y n zs m o b' k h ro len g a c hI hL h0 h1 hX hXr hlen).mono fun oc N hp => ?_
  cases oc with
  | inl v =>
    obtain ⟨w, r, e1, e2, e3, e4, e5, e6, e7⟩ := hp
    exact ⟨w, r, e1, e2, e3, e4, e5, X, L, y, n, ro, k, m, o, b', hL, e6, e7 _ _ h0 hX, e7 _ _ h1 hXr, hX, hXr, hlen, hfit⟩
  | inr x =>
    obtain ⟨e1, e2, e3⟩ := hp
    exact ⟨e1, e2, by rw [e3]; exact q⟩
theorem dk_run (hl0 : l.stackTraces = false) (q : DK E D h len g zs) (i : Int32) : mp_Ct l m_De_run E D 9 (4 * len + 1) (66 * len + 6) [.ref h, .int i] (mp_pq (fun v N => ∃ j, j ≤ len ∧ i = nI j ∧ v = some (.int (nI (am_ans (am_two g j len)))) ∧ DK E N h 0 g (match am_two g j len with | none => zs | some ms => ms)) (fun x N => x = "java/lang/IllegalArgumentException" ∧ (¬ ∃ j, j ≤ len ∧ i = nI j) ∧ DK E N h len g zs)) := by
  have q' := q
  obtain ⟨X, L, y, n, ro, k, m, o, b', hL, hI, h0, h1, hX, hXr, hlen, hfit⟩ := q'
  refine (c_De_run l hl0 E D X L y n zs m o b' k h ro len g i hI hL h0 h1 hX hXr hlen hfit).mono fun oc N hp => ?_
  cases oc with
  | inl v =>
    obtain ⟨j, e1, e2, e3, L', m', o', b2, k', e4, e5, e6, e7, e8⟩ := hp
    exact ⟨j, e1, e2, e3, X, L', y, n, ro, k', m', o', b2, e4, e5, e6, e7, hX, hXr, by omega, hfit⟩
  | inr x =>
    obtain ⟨e1, e2, e3⟩ := hp
    exact ⟨e1, e2, by rw [e3]; exact q⟩
end DKM
