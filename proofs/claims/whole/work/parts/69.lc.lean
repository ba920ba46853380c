/-! the law's helpers: methods with handlers -/
section LCW
variable {Γ : mp_G} {μ : mp_D} {E : mp_E} {κ : mp_K} {M : mp_M} {lv : List (Nat × Value)} {pc : Nat} {st : List Value} {k n : Nat}
theorem mp_glue {H : Heap} {locs : List Loc} {T' t st₀ : State} {L : List Loc} {M' : mp_M} (hH : mp_H Γ E κ M H locs) (h0 : st₀.heap = H) (e1 : T'.heap = t.heap) (hF : va_F (mp_A M st₀.heap.size) st₀ t) (hM' : mp_P E M' t.heap) (hA' : ∀ a e, M' a = some e → mp_A M st₀.heap.size a) (hL : ∀ q ∈ L, mp_A M H.size q.base) : mp_H Γ E κ M' T'.heap (locs ++ L) := by
  obtain ⟨hz, hk⟩ := hF
  rw [h0] at hz hk hA'
  have hA : ∀ q, mp_A M H.size q → mp_A κ.1 Γ.s.heap.size q := by
    intro q hq
    rcases hq with ⟨e, he⟩ | hq
    · exact (hH.1 q e he).2
    · exact Or.inr (Nat.le_trans hH.2.1 hq)
  exact ⟨fun a e h => ⟨by rw [e1]; exact hM' a e h, hA a (hA' a e h)⟩, ⟨Nat.le_trans hH.2.1 (by rw [e1]; exact hz), fun q h1 h2 => by
      rw [e1, hk q (Nat.lt_of_lt_of_le h1 hH.2.1) (fun z => h2 (hA q z))]
      exact hH.2.2.1 q h1 h2, fun q hq => by
      rcases List.mem_append.mp hq with h | h
      · exact hH.2.2.2 q h
      · exact hA _ (hL q h)⟩⟩
/-- a call that may throw, caught here -/
theorem j_callVC {μ' : mp_D} {d' mc' ms' ix n' ci b : Nat} {post : mp_O → mp_M → Prop} {As rest fs : List Value} {r : vw_C} (hc : mp_Ct Γ.l μ' E M d' mc' ms' (.ref b :: As) post) (Y : mp_Y μ' n') (hl1 : mp_w (.methodLink μ.2.2.2.cls ix μ'.2.2.2)) (hl2 : mp_w (.instanceMethod μ'.2.2.2)) (hl3 : mp_w (.selects r.1 μ'.2.2.2 μ'.2.2.2)) (hM : M b = some (mp_o ci fs)) (hci : vwCl[ci]? = some r) (hn' : As.length = n') (hst : st = As.reverse ++ .ref b :: rest) (hW : (rest.map fun v => v.category).sum ≤ 8) (hd : d' < κ.2.1) (hk : k + mc' ≤ κ.2.2.1) (hn : n + ms' ≤ κ.2.2.2.1) (d : decode μ.1 pc = .ok (.invokevirtual ix, 3))
    (kk : ∀ v M', post (.inl v) M' → mp_J Γ μ E κ M' lv (pc + 3) (v.toList ++ rest) (k + mc') (n + ms'))
    (kx : ∀ X M', post (.inr X) M' → ∃ (name : String) (pre : List ExceptionTableEntry) (x : ExceptionTableEntry) (suf : List ExceptionTableEntry), Γ.c.exceptionTable.toList = pre ++ x :: suf ∧ (∀ z ∈ pre, covers z pc = false ∨ (z.catchType ≠ 0 ∧ ∃ nm : String, mp_w (.classLink μ.2.2.2.cls z.catchType nm) ∧ va_Nc X nm Γ.s)) ∧ covers x pc = true ∧ x.catchType ≠ 0 ∧ mp_w (.classLink μ.2.2.2.cls x.catchType name) ∧ mp_w (.castable X name) ∧ ∀ q, mp_J Γ μ E κ M' lv x.handlerPc [.ref q] (k + mc') (n + ms')) : mp_J Γ μ E κ M lv pc st k n := fun hC H locs ls hH hl => by
  obtain ⟨hx, hb, hml, hown, hr, hlk, hnm, hTB, hK, hSt, hZ, hrm, hfin⟩ := id hC
  obtain ⟨-, h1, h2, h3, h4⟩ := mp_cb (mc' := mc') (ms' := ms') hC Y hd
  have hrun := vx_runV (args := Γ.args) (locs := locs) (cells := k) (slots := n) (below := Γ.below) (meth := Γ.meth) (e := Γ.e) (Ts := []) (C := r.1) ⟨hx, hb, hml, hown, fun w h => by cases h⟩ (hc.vx H.size) ⟨⟨rfl, rfl, h1, h2, h3, List.mem_cons_self, mp_TB.use hTB Y.1, mp_TB.use hTB Y.2.1, ⟨Y.2.2.1.1, Y.2.2.1.2.1⟩, h4, mp_TB.use hTB hl1⟩, mp_TB.use hTB hl2, mp_TB.use hTB hl3⟩ ⟨(mp_pre hC hH).1, va_recv (q0 := 0) hK (mp_one (hH.1 b _ hM).1) hci rfl, (mp_pre hC hH).2⟩ (g := F0 Γ.m pc ls st) rfl hn' hl.1 hst (mp_room hW) d ⟨Nat.le_trans hk hrm.2.2.1, Nat.le_trans hn hrm.2.2.2⟩
  intro T hT X
  rcases hrun T hT X with ⟨v, st₀, t, T', L, h0, X', hL, e1, e2, ⟨hF, M', v', hv, hp, hM', hA'⟩, step⟩ | ⟨q, st₀, t, T', L, E', ce, h0, X', hL, e1, e2, ⟨hF, M', hp, hM', hA'⟩, hce, hcv, hcl, step⟩
  · cases hv
    obtain ⟨t2, a1, b1⟩ := kk v M' hp hC T'.heap (locs ++ L) ls (mp_glue hH h0 e1 hF hM' hA' hL) hl T' rfl X'
    exact ⟨t2, step t2 a1, b1⟩
  · obtain ⟨name, pre, x, suf, a1, a2, a3, a4, a5, a6, k6⟩ := kx E' M' hp
    have key := vx_catch (p := Γ.p) (l := Γ.l) (e := Γ.e) (R := Γ.R) (args := Γ.args) (below := Γ.below) (meth := Γ.meth) (locs := locs ++ L) (cells := k + mc') (slots := n + ms') (Q := Γ.Q) (own := μ.2.2.2.cls) (name := name) (E := E') (q := q) (pc := pc) (ls := ls) (rest := rest) hown pre x suf a1 (fun z hz => (a2 z hz).imp id fun ⟨z1, nm, z2, z3⟩ => ⟨z1, nm, mp_TB.use hTB z2, z3⟩) a3 a4 (mp_TB.use hTB a5) (mp_TB.use hTB a6) (H := T'.heap) (by rw [e1]; exact hce) hcv hcl (k6 q hC T'.heap (locs ++ L) ls (mp_glue hH h0 e1 hF hM' hA' hL) hl)
    obtain ⟨t2, b1, b2⟩ := key T' rfl X'
    exact ⟨t2, step.trans b1, b2⟩
def mp_Cw (l : Launch) (μ : mp_D) (hh : List (Nat × Nat × Nat × Nat)) (E : mp_E) (M0 : mp_M) (d mc ms : Nat) (av : List Value) (P : Option Value → mp_M → Prop) : Prop :=
  ∀ sz, MetFree l μ.2.2.2 (headSpec [.codeWith μ.2.2.2 μ.1 μ.2.1 μ.2.2.1 hh] (mp_rm d mc ms)) (mp_Pc E M0 sz av) (fun _ _ _ _ _ => True) (fun _ st o t => mp_End E M0 mc ms (mp_rt P) st o t)
theorem mp_Cw.met {l : Launch} {μ : mp_D} {hh : List (Nat × Nat × Nat × Nat)} {E : mp_E} {M0 : mp_M} {d mc ms : Nat} {av : List Value} {P : Option Value → mp_M → Prop} (h : mp_Cw l μ hh E M0 d mc ms av P) (sz : Nat) : Met l μ.2.2.2 [.codeWith μ.2.2.2 μ.1 μ.2.1 μ.2.2.1 hh] (mp_rm d mc ms) (mp_Pc E M0 sz av) (mp_Qc E M0 P) mc ms (mp_A M0 sz) := by
  intro p e ha hc hk s m args below hf happ hP hK
  have hsz : s.heap.size = sz := hP.2.1
  subst hsz
  obtain ⟨n, o, h1, h2, h3, hW, ⟨L, hs, hL⟩, hF, M', hM, hA, ho⟩ := h _ p e ha hc hk s m args below hf happ hP hK
  cases o with
  | returned v => exact ⟨n, _, h1, h2, h3, ⟨hF, M', v, rfl, ho, hM, hA⟩, L, ⟨⟨v, rfl⟩, hW, hs⟩, hL⟩
  | threw x =>
    obtain ⟨X, hX, -⟩ := ho
    exact hX.elim
theorem mp_Cw.of {l : Launch} {μ : mp_D} {hh : List (Nat × Nat × Nat × Nat)} {E : mp_E} {M0 : mp_M} {d mc ms : Nat} {av : List Value} {P : Option Value → mp_M → Prop} (hy : plainName μ.2.2.2.cls = true) (hlaw : μ.2.2.2.cls = "ScriptDeskLaw") (hn : (lg_sl av).length ≤ μ.2.1)
    (body : ∀ (Γ : mp_G) (κ : mp_K), Γ.l = l → mp_k κ d mc ms P → Γ.c.exceptionTable.toList = tableOf hh → mp_J Γ μ E κ M0 (lv_args 0 av) 0 [] 0 0) : mp_Cw l μ hh E M0 d mc ms av P := by
  intro sz
  refine MetFree.of_bodyS (code := μ.1) (maxLocals := μ.2.1) (ret := μ.2.2.1) hy ?_ ?_
  · intro args s m h hn
    obtain ⟨m9, meth, c, hn9, h1, h2, h3, h4, -, h5, h6, -⟩ := Cond.codeWith_spec (atoms_spec (ws := [.codeWith μ.2.2.2 μ.1 μ.2.1 μ.2.2.1 hh]) h _ List.mem_cons_self)
    cases hn.symm.trans hn9
    exact ⟨meth, c, h1, h2, h3, h4, h5, h6⟩
  · intro p e s m args below meth c s₁ B hml hP _
    have htab := vx_table (x := μ.2.2.2) B (atoms_spec (ws := [.codeWith μ.2.2.2 μ.1 μ.2.1 μ.2.2.1 hh]) B.pre _ List.mem_cons_self)
    obtain ⟨rfl, hsz, hTB, hK, hSt, hPM, hZ⟩ := hP
    have hh0 : s₁.heap = s.heap := by rw [B.state]; rfl
    have hl := lv_entry av (n := μ.2.1) hn
    have hC : mp_C (p, l, e, mp_rm d mc ms, s, m, av.toArray, below, meth, c, fun t => ∃ o, t.status = .running ∧ Ended t below o ∧ mp_End E M0 mc ms (mp_rt P) s o t) μ E (M0, d, mc, ms, mp_rt P) :=
      ⟨B.exec, B.bytes, hml, findClass_of_methodNamed B.named, B.returns, B.notSynchronized, (name_of_methodNamed B.named B.method).1, hTB, hK, hSt, fun q hq => ⟨fun h => by
        rcases h with ⟨e', h⟩ | h
        · have h9 : M0 q = some e' := h
          rw [(hZ q hq).1] at h9; cases h9
        · exact absurd (hZ q hq).2 (Nat.not_lt.mpr h), (hZ q hq).2⟩, ⟨Nat.le_refl _, Nat.le_refl _, Nat.le_refl _, Nat.le_refl _⟩, Or.inr hlaw, fun t o h1 h2 h3 => ⟨o, h1, h2, h3⟩⟩
    have key := body (p, l, e, mp_rm d mc ms, s, m, av.toArray, below, meth, c, fun t => ∃ o, t.status = .running ∧ Ended t below o ∧ mp_End E M0 mc ms (mp_rt P) s o t) (M0, d, mc, ms, mp_rt P) rfl ⟨rfl, rfl, rfl, fun _ _ h => h⟩ htab hC s.heap [] _ ⟨fun a e' h => ⟨hPM a e' h, Or.inl ⟨e', h⟩⟩, va_S.rf⟩ hl
    obtain ⟨t, a1, o, b1, b2, b3⟩ := key s₁ hh0 (Stand.of_body B)
    rw [← lg_entry_eq] at a1
    exact ⟨t, o, a1, b1, b2, b3⟩
def mp_Yw (μ : mp_D) (hh : List (Nat × Nat × Nat × Nat)) (n : Nat) : Prop := mp_w (.codeWith μ.2.2.2 μ.1 μ.2.1 μ.2.2.1 hh) ∧ mp_w (.initialized μ.2.2.2.cls) ∧ (μ.2.2.2.cls ≠ "java/lang/invoke/MethodHandle" ∧ μ.2.2.2.cls ≠ "java/lang/invoke/VarHandle" ∧ (parseMethodDescriptor μ.2.2.2.desc).map (fun d => d.parameters.length) = some n) ∧ μ.2.1 ≤ 45
theorem j_callSW {μ' : mp_D} {hh : List (Nat × Nat × Nat × Nat)} {d' mc' ms' ix n' : Nat} {P : Option Value → mp_M → Prop} {As rest : List Value} (hc : mp_Cw Γ.l μ' hh E M d' mc' ms' As P) (Y : mp_Yw μ' hh n') (hl1 : mp_w (.methodLink μ.2.2.2.cls ix μ'.2.2.2)) (hl2 : mp_w (.static μ'.2.2.2)) (hn' : As.length = n') (hst : st = As.reverse ++ rest) (hW : (rest.map fun v => v.category).sum ≤ 8) (hd : d' < κ.2.1) (hk : k + mc' ≤ κ.2.2.1) (hn : n + ms' ≤ κ.2.2.2.1) (d : decode μ.1 pc = .ok (.invokestatic ix, 3))
    (kk : ∀ v M', P v M' → mp_J Γ μ E κ M' lv (pc + 3) (v.toList ++ rest) (k + mc') (n + ms')) : mp_J Γ μ E κ M lv pc st k n := fun hC H locs ls hH hl => by
  obtain ⟨hx, hb, hml, hown, hr, hlk, hnm, hTB, hK, hSt, hZ, hrm, hfin⟩ := id hC
  obtain ⟨Y1, Y2, Y3, Y4⟩ := Y
  refine mp_after (vx_runSW (Ts := []) ⟨hx, hb, hml, hown, fun w h => by cases h⟩ (hc.met H.size) ⟨⟨rfl, rfl, ?_, ?_, fun w hw a' U hW => ?_, List.mem_cons_self⟩, mp_TB.use hTB Y1, mp_TB.use hTB Y2, ⟨Y3.1, Y3.2.1⟩, fun sig h => ?_, mp_TB.use hTB hl1, mp_TB.use hTB hl2⟩ (mp_pre hC hH) rfl hn' hl.1 hst (mp_room hW) d ⟨Nat.le_trans hk hrm.2.2.1, Nat.le_trans hn hrm.2.2.2⟩) hH fun v M' H1 locs1 hp hH1 => kk v M' hp hC H1 locs1 ls hH1 hl
  · show d' + 1 ≤ _
    exact Nat.le_trans hd hrm.1
  · show 8 + (μ'.2.1 + 11) + 64 * d' ≤ _
    have := hrm.2.1
    omega
  · rw [List.mem_singleton.mp hw]
    exact mp_TB.at hTB Y1 hW
  · have h2 := Y3.2.2
    rw [h] at h2
    exact (Option.some.inj h2).symm
end LCW
/-! the law's state: the desk, the reference, and the line out -/
def LwS (E : mp_E) (M : mp_M) (h out : Nat) (R : Nat → Nat) (fo : Nat → Int64) (ld : Nat) (gd : Nat → Int32) (zd : List am_T) (lr : Nat) (thr : Int32) (gr : Nat → Int32) (zr : List am_T) : Prop := ∃ D F : mp_M, NW D M ∧ NW F M ∧ (∀ a e, D a = some e → F a = none) ∧ D out = none ∧ F out = none ∧ M out = some (mp_l E 1 fo) ∧ DK E D h ld gd zd ∧ RK E F R lr thr gr zr
section LSS
variable {E : mp_E} {M N D F : mp_M} {h out : Nat} {R : Nat → Nat} {fo : Nat → Int64} {ld ld' lr lr' : Nat} {gd gd' gr gr' : Nat → Int32} {zd zd' zr zr' : List am_T} {thr thr' : Int32}
theorem LwS.deskN {ND : mp_M} (h1 : NW D M) (h2 : NW F M) (h3 : ∀ a e, D a = some e → F a = none) (h4 : D out = none) (h5 : F out = none) (h6 : M out = some (mp_l E 1 fo)) (hr : RK E F R lr thr gr zr) (hn : ∀ a e, ND a = some e → D a = none → M a = none) (hd : DK E ND h ld' gd' zd') : LwS E (mg M D ND) h out R fo ld' gd' zd' lr thr gr zr := by
  refine ⟨ND, F, mg_new, fun a e hF => ?_, fun a e hN => ?_, ?_, h5, mg_old h4 (fun e' he => hn out e' he h4) h6, hd, hr⟩
  · have hD : D a = none := by
      cases hz : D a with
      | none => rfl
      | some e' => rw [h3 a e' hz] at hF; cases hF
    exact mg_old hD (fun e' he => hn a e' he hD) (h2 a e hF)
  · cases hz : F a with
    | none => rfl
    | some e' =>
      have hD : D a = none := by
        cases hy : D a with
        | none => rfl
        | some e2 => rw [h3 a e2 hy] at hz; cases hz
      have := hn a e hN hD
      rw [h2 a e' hz] at this
      cases this
  · cases hz : ND out with
    | none => rfl
    | some e' =>
      have := hn out e' hz h4
      rw [h6] at this
      cases this
theorem LwS.refN {NF : mp_M} (h1 : NW D M) (h2 : NW F M) (h3 : ∀ a e, D a = some e → F a = none) (h4 : D out = none) (h5 : F out = none) (h6 : M out = some (mp_l E 1 fo)) (hd : DK E D h ld gd zd) (hn : ∀ a e, NF a = some e → F a = none → M a = none) (hr : RK E NF R lr' thr' gr' zr') : LwS E (mg M F NF) h out R fo ld gd zd lr' thr' gr' zr' := by
  refine ⟨D, NF, fun a e hD => ?_, mg_new, fun a e hD => ?_, h4, ?_, mg_old h5 (fun e' he => hn out e' he h5) h6, hd, hr⟩
  · exact mg_old (h3 a e hD) (fun e' he => hn a e' he (h3 a e hD)) (h1 a e hD)
  · cases hz : NF a with
    | none => rfl
    | some e' =>
      have := hn a e' hz (h3 a e hD)
      rw [h1 a e hD] at this
      cases this
  · cases hz : NF out with
    | none => rfl
    | some e' =>
      have := hn out e' hz h5
      rw [h6] at this
      cases this
theorem LwS.wr {fo' : Nat → Int64} (q : LwS E M h out R fo ld gd zd lr thr gr zr) (hN : mp_up M out (mp_l E 1 fo') = N) : LwS E N h out R fo' ld gd zd lr thr gr zr := by
  obtain ⟨D, F, h1, h2, h3, h4, h5, h6, h7, h8⟩ := q
  subst hN
  refine ⟨D, F, fun a e he => ?_, fun a e he => ?_, h3, h4, h5, mp_s, h7, h8⟩
  · rw [mp_n (fun z => by rw [z, h4] at he; cases he)]; exact h1 a e he
  · rw [mp_n (fun z => by rw [z, h5] at he; cases he)]; exact h2 a e he
theorem LwS.ho (q : LwS E M h out R fo ld gd zd lr thr gr zr) : M out = some (mp_l E 1 fo) := by
  obtain ⟨D, F, h1, h2, h3, h4, h5, h6, h7, h8⟩ := q
  exact h6
theorem LwS.hh (q : LwS E M h out R fo ld gd zd lr thr gr zr) : ∃ fs, M h = some (mp_o 6 fs) := by
  obtain ⟨D, F, h1, h2, h3, h4, h5, h6, h7, h8⟩ := q
  obtain ⟨X, L, y, n, ro, k, m, o, b', hL, hI, h0, -⟩ := h7
  exact ⟨_, h1 _ _ h0⟩
theorem LwS.hr (q : LwS E M h out R fo ld gd zd lr thr gr zr) : ∃ fs, M (R 0) = some (mp_o 7 fs) := by
  obtain ⟨D, F, h1, h2, h3, h4, h5, h6, h7, h8⟩ := q
  obtain ⟨-, -, -, dp, A, ⟨as_, ops, hI, -⟩, -⟩ := h8
  exact ⟨_, h2 _ _ hI.1⟩
theorem LwS.zl (q : LwS E M h out R fo ld gd zd lr thr gr zr) : zr.length ≤ 200 := by
  obtain ⟨D, F, h1, h2, h3, h4, h5, h6, h7, h8⟩ := q
  obtain ⟨-, -, -, dp, A, -, hd, hz⟩ := h8
  rw [← hz, LM_len]
  exact hd
theorem LwS.tl (q : LwS E M h out R fo ld gd zd lr thr gr zr) (p : Nat) : (zd.getD p []).length ≤ 256 := by
  obtain ⟨D, F, h1, h2, h3, h4, h5, h6, h7, h8⟩ := q
  obtain ⟨X, L, y, n, ro, k, m, o, b', hL, hI, -⟩ := h7
  exact hI.sd.tl p
variable {l : Launch} {μ : mp_D} {d mc ms : Nat} {av : List Value}
theorem LwS.desk {post : mp_O → mp_M → Prop} {Q : mp_O → mp_M → Prop} (q : LwS E M h out R fo ld gd zd lr thr gr zr) (hc : ∀ D, DK E D h ld gd zd → mp_Ct l μ E D d mc ms av post) (hq : ∀ o ND N, post o ND → (∀ (ld' : Nat) (gd' : Nat → Int32) (zd' : List am_T), DK E ND h ld' gd' zd' → LwS E N h out R fo ld' gd' zd' lr thr gr zr) → Q o N) : mp_Ct l μ E M d mc ms av Q := by
  obtain ⟨D, F, h1, h2, h3, h4, h5, h6, h7, h8⟩ := q
  refine ((hc D h7).frame h1).mono fun o N ⟨ND, hp, hn, e⟩ => hq o ND N hp fun ld' gd' zd' hd => ?_
  rw [e]
  exact LwS.deskN h1 h2 h3 h4 h5 h6 h8 hn hd
theorem LwS.ref {P Q : Option Value → mp_M → Prop} (q : LwS E M h out R fo ld gd zd lr thr gr zr) (hc : ∀ F, RK E F R lr thr gr zr → mp_Cr l μ E F d mc ms av P) (hq : ∀ v NF N, P v NF → (∀ (lr' : Nat) (thr' : Int32) (gr' : Nat → Int32) (zr' : List am_T), RK E NF R lr' thr' gr' zr' → LwS E N h out R fo ld gd zd lr' thr' gr' zr') → Q v N) : mp_Cr l μ E M d mc ms av Q := by
  obtain ⟨D, F, h1, h2, h3, h4, h5, h6, h7, h8⟩ := q
  refine mp_Ct.mono (mp_Ct.frame (hc F h8) h2) fun o N ⟨NF, hp, hn, e⟩ => ?_
  cases o with
  | inl v =>
    refine hq v NF N hp fun lr' thr' gr' zr' hr => ?_
    rw [e]
    exact LwS.refN h1 h2 h3 h4 h5 h6 h7 hn hr
  | inr x => exact hp.elim
end LSS
