/-! BASE: the heap as a map from addresses to cells; one judgement mp_J for a point of a walk; a row an instruction; contracts mp_Ct, mp_Cr -/
abbrev mp_M : Type := Nat → Option va_E
def mp_up (M : mp_M) (a : Nat) (e : va_E) : mp_M := fun q => if q = a then some e else M q
theorem mp_s {M : mp_M} {a : Nat} {e : va_E} : mp_up M a e a = some e := by simp [mp_up]
theorem mp_n {M : mp_M} {a b : Nat} {e : va_E} (h : b ≠ a) : mp_up M a e b = M b := by simp [mp_up, h]
theorem mp_uu {M : mp_M} {a : Nat} {e e' : va_E} : mp_up (mp_up M a e) a e' = mp_up M a e' := by
  funext q
  by_cases h : q = a <;> simp [mp_up, h]
theorem mp_ne {M : mp_M} {a b : Nat} {x y : va_E} (ha : M a = some x) (hb : M b = some y) (h : x ≠ y) : a ≠ b := fun e => h (Option.some.inj (ha.symm.trans (e ▸ hb)))
theorem mp_ne0 {M : mp_M} {a b : Nat} {x : va_E} (ha : M a = some x) (hb : M b = none) : a ≠ b := fun e => by rw [e, hb] at ha; cases ha
abbrev mp_E : Type := va_G × (Nat → ClassId) × (Nat → Prop) × (Nat → Nat)
abbrev mp_b (E : mp_E) (n : Nat) (f : Nat → Int32) : va_E := .inl (E.2.1 0, n, .inl f)
abbrev mp_i (E : mp_E) (n : Nat) (f : Nat → Int32) : va_E := .inl (E.2.1 1, n, .inl f)
abbrev mp_q (E : mp_E) (n : Nat) (f : Nat → Option Nat) : va_E := .inl (E.2.1 2, n, .inr (.inr (.inr (.inr f))))
abbrev mp_l (E : mp_E) (n : Nat) (f : Nat → Int64) : va_E := .inl (E.2.1 3, n, .inr (.inl f))
abbrev mp_z (E : mp_E) (n : Nat) (f : Nat → Int32) : va_E := .inl (E.2.1 4, n, .inl f)
abbrev mp_o (ci : Nat) (fs : List Value) : va_E := .inr (ci, fs)
def mp_tys (E : mp_E) : List (ClassId × FieldType) := [(E.2.1 0, .byte), (E.2.1 1, .int), (E.2.1 2, .object "ScriptDesk$Thing"), (E.2.1 3, .long), (E.2.1 4, .boolean)]
abbrev mp_G : Type := Program × Launch × Env × Room × State × MethodId × Array Value × List Frame × Method × Code × (State → Prop)
abbrev mp_G.p (Γ : mp_G) : Program := Γ.1
abbrev mp_G.l (Γ : mp_G) : Launch := Γ.2.1
abbrev mp_G.e (Γ : mp_G) : Env := Γ.2.2.1
abbrev mp_G.R (Γ : mp_G) : Room := Γ.2.2.2.1
abbrev mp_G.s (Γ : mp_G) : State := Γ.2.2.2.2.1
abbrev mp_G.m (Γ : mp_G) : MethodId := Γ.2.2.2.2.2.1
abbrev mp_G.args (Γ : mp_G) : Array Value := Γ.2.2.2.2.2.2.1
abbrev mp_G.below (Γ : mp_G) : List Frame := Γ.2.2.2.2.2.2.2.1
abbrev mp_G.meth (Γ : mp_G) : Method := Γ.2.2.2.2.2.2.2.2.1
abbrev mp_G.c (Γ : mp_G) : Code := Γ.2.2.2.2.2.2.2.2.2.1
abbrev mp_G.Q (Γ : mp_G) : State → Prop := Γ.2.2.2.2.2.2.2.2.2.2
abbrev mp_D : Type := ByteArray × Nat × Option FieldType × MethodName
abbrev mp_O : Type := Option Value ⊕ String
abbrev mp_K : Type := mp_M × Nat × Nat × Nat × (mp_O → mp_M → Prop)
-- the tables' words
def mp_good (w : Cond) : Bool := (w.onTables && w.keeps) || (match w with
  | .arrayClass _ => true
  | .fieldLinkNest _ _ _ _ _ _ => true
  | .methodLinkNest _ _ _ _ => true
  | .declares _ => true
  | .castable _ _ => true
  | .arrayOver (.object _) => true
  | .privateMethod _ => true
  | _ => false)
def mp_w (w : Cond) : Prop := w ∈ lw_tbl ∧ mp_good w = true
def mp_TB (U : State) : Prop := ∀ w, mp_w w → w.before #[] U = true
theorem mp_TB.go {s U : State} (hW : s.WarmedH U.vm) {w : Cond} (hg : mp_good w = true) {A : Array Value} (h0 : w.before #[] s = true) : w.before A U = true := by
  unfold mp_good at hg
  rcases (Bool.or_eq_true ..).mp hg with h1 | h1
  · exact word_at hW (Or.inl h1) h0
  · split at h1
    · exact word_at hW (Or.inr ⟨_, rfl⟩) h0
    · exact va_Nw.use rfl (va_Nw.warmF hW h0)
    · exact va_Nw.use rfl (va_Nw.warmM hW h0)
    · exact va_Nw.use rfl (va_Nw.warmD hW h0)
    · exact va_Nw.use rfl (va_Nw.warmC hW h0)
    · exact va_AO.use (va_AO.moved hW.alike h0)
    · exact (Cond.privateMethod_setVm hW.alike _).trans h0
    · cases h1
theorem mp_TB.warm {s U : State} (hW : s.WarmedH U.vm) (h : mp_TB s) : mp_TB U := fun w hw => mp_TB.go hW hw.2 (h w hw)
theorem mp_TB.use {U : State} (h : mp_TB U) {w : Cond} (hw : mp_w w) {A : Array Value} : w.before A U = true := mp_TB.go (State.WarmedH.refl U) hw.2 (h w hw)
theorem mp_TB.at {s U : State} (h : mp_TB s) {w : Cond} (hw : mp_w w) {A : Array Value} (hW : s.WarmedH U.vm) : w.before A U = true := mp_TB.go hW hw.2 (h w hw)
-- a class's field table
def mp_F (ci : Nat) (C : String) (T : u_T) (N : Nat) (ty : Nat → FieldType) : Prop := vwCl[ci]? = some (C, T, N) ∧ (∀ w ∈ u_ws C T N, mp_w w) ∧ (∀ k, k < N → parseFieldDescriptor (T k).2.2.1 = some (ty k)) ∧ ∀ a, a < N → ∀ b, b < N → a ≠ b → (T a).2.1 ≠ (T b).2.1
-- which cells a method may change
def mp_A (M : mp_M) (sz : Nat) : Nat → Prop := fun q => (∃ e, M q = some e) ∨ sz ≤ q
def mp_P (E : mp_E) (M : mp_M) (H : Heap) : Prop := ∀ (a : Nat) (e : va_E), M a = some e → va_at E.1 vwCl (a, e) H
-- the static tables, and Throwable's own statics, which a throw reads
def mp_Sa (E : mp_E) (U : State) (H : Heap) : Prop := ∀ (k : Nat) (q : String × String × List Int32), st_tab[k]? = some q → va_Z q.1 q.2.1 "[I" (.ref (E.2.2.2 k)) (fun x => ¬ E.2.2.1 x) U H ∧ va_T .int (E.2.2.2 k) q.2.2.length (fun j => .int (q.2.2.getD j 0)) (fun x => ¬ E.2.2.1 x) U H ∧ E.2.2.1 (E.2.2.2 k)
def mp_St (E : mp_E) (U : State) (H : Heap) : Prop := mp_Sa E U H ∧ vx_Zq Bundle.tN "UNASSIGNED_STACK" Bundle.steD (fun x => ¬ E.2.2.1 x) U H ∧ vx_Zq Bundle.tN "SUPPRESSED_SENTINEL" Bundle.listD (fun x => ¬ E.2.2.1 x) U H ∧ va_Nc "java/lang/ArithmeticException" "java/lang/IndexOutOfBoundsException" U
theorem mp_St.moved {E : mp_E} {u U : State} {H H1 : Heap} (hvm : u.vm.Alike U.vm) (hq : ∀ a : Nat, a < H.size → E.2.2.1 a → H1[a]? = H[a]?) (h : mp_St E u H) : mp_St E U H1 := by
  have hq' : ∀ a : Nat, a < H.size → ¬ ¬ E.2.2.1 a → H1[a]? = H[a]? := fun a ha hz => hq a ha (Classical.not_not.mp hz)
  refine ⟨fun k q hk => ?_, (h.2.1.moved hvm).kept hq', (h.2.2.1.moved hvm).kept hq', h.2.2.2.moved hvm⟩
  obtain ⟨h1, h2, h3⟩ := h.1 k q hk
  exact ⟨(h1.moved hvm).kept hq', (h2.moved hvm).kept hq', h3⟩
def mp_U (E : mp_E) (M : mp_M) (U : State) : Prop := mp_TB U ∧ va_K E.1 vwCl (mp_tys E) U ∧ mp_St E U U.heap ∧ mp_P E M U.heap ∧ ∀ q, E.2.2.1 q → M q = none ∧ q < U.heap.size
theorem mp_U.calling {E : mp_E} {M : mp_M} {U : State} (h : mp_U E M U) (g : JFrame) (mk : MethodId) (a : Array Value) : mp_U E M (U.calling g mk a) := by
  obtain ⟨h1, h2, h3, h4, h5⟩ := h
  exact ⟨mp_TB.warm (s := U) (U := U.calling g mk a) (State.WarmedH.refl U) h1, va_K.moved (u := U) (U := U.calling g mk a) (Vm.Alike.refl U.vm) h2, mp_St.moved (u := U) (U := U.calling g mk a) (H := U.heap) (Vm.Alike.refl U.vm) (fun _ _ _ => rfl) h3, h4, h5⟩
-- a contract
def mp_rm (d mc ms : Nat) : Room := { frames := d, cells := mc, slots := ms, locals := 64 * d }
def mp_Pc (E : mp_E) (M : mp_M) (sz : Nat) (av : List Value) : Array Value → State → Prop := fun v U => v = av.toArray ∧ U.heap.size = sz ∧ mp_U E M U
def mp_ex (X : String) (x : Nat) (st t : State) : Prop := ∃ (ce : Cell) (cX : ClassId), t.heap[x]? = some ce ∧ t.vm.findClass X = some cX ∧ ce.cls = cX ∧ ce.vm = .none
def mp_out (st : State) (post : mp_O → mp_M → Prop) (M' : mp_M) (o : Outcome) (t : State) : Prop := match o with
  | .returned v => post (.inl v) M'
  | .threw x => ∃ X, post (.inr X) M' ∧ mp_ex X x st t
def mp_End (E : mp_E) (M0 : mp_M) (mc ms : Nat) (post : mp_O → mp_M → Prop) (st : State) (o : Outcome) (t : State) : Prop :=
  st.WarmedH t.vm ∧ (∃ L, st.sameButNew ({ t with vm := st.vm } : State) L mc ms ∧ ∀ q ∈ L, mp_A M0 st.heap.size q.base) ∧ va_F (mp_A M0 st.heap.size) st t ∧ ∃ M', mp_P E M' t.heap ∧ (∀ a e, M' a = some e → mp_A M0 st.heap.size a) ∧ mp_out st post M' o t
def mp_Ct (l : Launch) (μ : mp_D) (E : mp_E) (M0 : mp_M) (d mc ms : Nat) (av : List Value) (post : mp_O → mp_M → Prop) : Prop :=
  ∀ sz, MetFree l μ.2.2.2 (headSpec [.code μ.2.2.2 μ.1 μ.2.1 μ.2.2.1] (mp_rm d mc ms)) (mp_Pc E M0 sz av) (fun _ _ _ _ _ => True) (fun _ st o t => mp_End E M0 mc ms post st o t)
def mp_rt (P : Option Value → mp_M → Prop) : mp_O → mp_M → Prop := fun o M' => match o with
  | .inl v => P v M'
  | .inr _ => False
abbrev mp_Cr (l : Launch) (μ : mp_D) (E : mp_E) (M0 : mp_M) (d mc ms : Nat) (av : List Value) (P : Option Value → mp_M → Prop) : Prop := mp_Ct l μ E M0 d mc ms av (mp_rt P)
def mp_Qc (E : mp_E) (M0 : mp_M) (P : Option Value → mp_M → Prop) : Array Value → State → Outcome → State → Prop := fun _ st o t => va_F (mp_A M0 st.heap.size) st t ∧ ∃ M' v, o = .returned v ∧ P v M' ∧ mp_P E M' t.heap ∧ ∀ a e, M' a = some e → mp_A M0 st.heap.size a
theorem mp_Cr.met {l : Launch} {μ : mp_D} {E : mp_E} {M0 : mp_M} {d mc ms : Nat} {av : List Value} {P : Option Value → mp_M → Prop} (h : mp_Cr l μ E M0 d mc ms av P) (sz : Nat) : Met l μ.2.2.2 [.code μ.2.2.2 μ.1 μ.2.1 μ.2.2.1] (mp_rm d mc ms) (mp_Pc E M0 sz av) (mp_Qc E M0 P) mc ms (mp_A M0 sz) := by
  intro p e ha hc hk s m args below hf happ hP hK
  have hsz : s.heap.size = sz := hP.2.1
  subst hsz
  obtain ⟨n, o, h1, h2, h3, hW, ⟨L, hs, hL⟩, hF, M', hM, hA, ho⟩ := h _ p e ha hc hk s m args below hf happ hP hK
  cases o with
  | returned v => exact ⟨n, _, h1, h2, h3, ⟨hF, M', v, rfl, ho, hM, hA⟩, L, ⟨⟨v, rfl⟩, hW, hs⟩, hL⟩
  | threw x =>
    obtain ⟨X, hX, -⟩ := ho
    exact hX.elim
-- a point of a walk
def mp_H (Γ : mp_G) (E : mp_E) (κ : mp_K) (M : mp_M) (H : Heap) (locs : List Loc) : Prop := (∀ a e, M a = some e → va_at E.1 vwCl (a, e) H ∧ mp_A κ.1 Γ.s.heap.size a) ∧ va_S (mp_A κ.1 Γ.s.heap.size) Γ.s.heap H locs
def mp_fin (Γ : mp_G) (E : mp_E) (κ : mp_K) : Prop := ∀ (t : State) (o : Outcome), t.status = .running → Ended t Γ.below o → mp_End E κ.1 κ.2.2.1 κ.2.2.2.1 κ.2.2.2.2 Γ.s o t → Γ.Q t
def mp_C (Γ : mp_G) (μ : mp_D) (E : mp_E) (κ : mp_K) : Prop := Γ.p.tables.exec = Jvm.exec ∧ Γ.c.code = μ.1 ∧ Γ.c.maxLocals = μ.2.1 ∧ Γ.s.vm.findClass μ.2.2.2.cls = some Γ.m.cls ∧ Γ.meth.sig.returnType = μ.2.2.1 ∧ Γ.meth.locks = false ∧ Γ.meth.name = μ.2.2.2.name ∧ mp_TB Γ.s ∧ va_K E.1 vwCl (mp_tys E) Γ.s ∧ mp_St E Γ.s Γ.s.heap ∧ (∀ q, E.2.2.1 q → ¬ mp_A κ.1 Γ.s.heap.size q ∧ q < Γ.s.heap.size) ∧ (κ.2.1 ≤ Γ.R.frames ∧ 64 * κ.2.1 ≤ Γ.R.locals ∧ κ.2.2.1 ≤ Γ.R.cells ∧ κ.2.2.2.1 ≤ Γ.R.slots) ∧ (Γ.c.exceptionTable.toList = [] ∨ μ.2.2.2.cls = "ScriptDeskLaw") ∧ mp_fin Γ E κ
def mp_J (Γ : mp_G) (μ : mp_D) (E : mp_E) (κ : mp_K) (M : mp_M) (lv : List (Nat × Value)) (pc : Nat) (st : List Value) (k n : Nat) : Prop :=
  mp_C Γ μ E κ → ∀ (H : Heap) (locs : List Loc) (ls : Array Slot), mp_H Γ E κ M H locs → lv_has ls μ.2.1 lv → W Γ.p Γ.l Γ.e Γ.R Γ.s Γ.m Γ.args Γ.below Γ.meth Γ.c H locs k n Γ.Q (F0 Γ.m pc ls st)
theorem mp_Ct.of {l : Launch} {μ : mp_D} {E : mp_E} {M0 : mp_M} {d mc ms : Nat} {av : List Value} {post : mp_O → mp_M → Prop} (hy : plainName μ.2.2.2.cls = true) (hn : (lg_sl av).length ≤ μ.2.1)
    (body : ∀ (Γ : mp_G) (κ : mp_K), Γ.l = l → κ = (M0, d, mc, ms, post) → mp_J Γ μ E κ M0 (lv_args 0 av) 0 [] 0 0) : mp_Ct l μ E M0 d mc ms av post := by
  intro sz
  refine MetFree.of_bodyS (code := μ.1) (maxLocals := μ.2.1) (ret := μ.2.2.1) hy ?_ ?_
  · intro args s m h hn
    obtain ⟨meth, c, h1, h2, h3, h4, h5, h6, -, -⟩ := Cond.code_spec hn (atoms_spec (ws := [.code μ.2.2.2 μ.1 μ.2.1 μ.2.2.1]) h _ List.mem_cons_self)
    exact ⟨meth, c, h1, h2, h3, h4, h5, h6⟩
  · intro p e s m args below meth c s₁ B hml hP _
    obtain ⟨rfl, hsz, hTB, hK, hSt, hPM, hZ⟩ := hP
    have hh0 : s₁.heap = s.heap := by rw [B.state]; rfl
    have hl := lv_entry av (n := μ.2.1) hn
    have hC : mp_C (p, l, e, mp_rm d mc ms, s, m, av.toArray, below, meth, c, fun t => ∃ o, t.status = .running ∧ Ended t below o ∧ mp_End E M0 mc ms post s o t) μ E (M0, d, mc, ms, post) :=
      ⟨B.exec, B.bytes, hml, findClass_of_methodNamed B.named, B.returns, B.notSynchronized, (name_of_methodNamed B.named B.method).1, hTB, hK, hSt, fun q hq => ⟨fun h => by
        rcases h with ⟨e', h⟩ | h
        · have h9 : M0 q = some e' := h
          rw [(hZ q hq).1] at h9; cases h9
        · exact absurd (hZ q hq).2 (Nat.not_lt.mpr h), (hZ q hq).2⟩, ⟨Nat.le_refl _, Nat.le_refl _, Nat.le_refl _, Nat.le_refl _⟩, Or.inl (List.eq_nil_of_length_eq_zero (by simpa [Array.isEmpty] using B.noHandlers (atoms_spec (ws := [.code μ.2.2.2 μ.1 μ.2.1 μ.2.2.1]) B.pre _ List.mem_cons_self))), fun t o h1 h2 h3 => ⟨o, h1, h2, h3⟩⟩
    have key := body (p, l, e, mp_rm d mc ms, s, m, av.toArray, below, meth, c, fun t => ∃ o, t.status = .running ∧ Ended t below o ∧ mp_End E M0 mc ms post s o t) (M0, d, mc, ms, post) rfl rfl hC s.heap [] _ ⟨fun a e' h => ⟨hPM a e' h, Or.inl ⟨e', h⟩⟩, va_S.rf⟩ hl
    obtain ⟨t, a1, o, b1, b2, b3⟩ := key s₁ hh0 (Stand.of_body B)
    rw [← lg_entry_eq] at a1
    exact ⟨t, o, a1, b1, b2, b3⟩
def mp_k (κ : mp_K) (d mc ms : Nat) (P : Option Value → mp_M → Prop) : Prop := κ.2.1 = d ∧ κ.2.2.1 = mc ∧ κ.2.2.2.1 = ms ∧ ∀ v M', P v M' → κ.2.2.2.2 (.inl v) M'
theorem mp_Cr.of {l : Launch} {μ : mp_D} {E : mp_E} {M0 : mp_M} {d mc ms : Nat} {av : List Value} {P : Option Value → mp_M → Prop} (hy : plainName μ.2.2.2.cls = true) (hn : (lg_sl av).length ≤ μ.2.1)
    (body : ∀ (Γ : mp_G) (κ : mp_K), Γ.l = l → mp_k κ d mc ms P → mp_J Γ μ E κ M0 (lv_args 0 av) 0 [] 0 0) : mp_Cr l μ E M0 d mc ms av P :=
  mp_Ct.of hy hn fun Γ κ h hk => body Γ κ h (by subst hk; exact ⟨rfl, rfl, rfl, fun _ _ h => h⟩)
section MPR
variable {Γ : mp_G} {μ : mp_D} {E : mp_E} {κ : mp_K} {M : mp_M} {lv : List (Nat × Value)} {pc : Nat} {st : List Value} {k n : Nat}
theorem j_lv {lv' : List (Nat × Value)} (ks : List Nat) (h : lv_pick lv ks = lv') (kk : mp_J Γ μ E κ M lv' pc st k n) : mp_J Γ μ E κ M lv pc st k n := fun hC H locs ls hH hl => kk hC H locs ls hH (lv_sub hl ks h)
theorem j_widen {k' n' : Nat} (h1 : k ≤ k') (h2 : n ≤ n') (kk : mp_J Γ μ E κ M lv pc st k' n') : mp_J Γ μ E κ M lv pc st k n := fun hC H locs ls hH hl => W.widen h1 h2 (kk hC H locs ls hH hl)
theorem j_topi {x : Int32} (kk : ∀ y : Int32, y = x → mp_J Γ μ E κ M lv pc (.int y :: st) k n) : mp_J Γ μ E κ M lv pc (.int x :: st) k n := kk x rfl
theorem j_topl {x : Int64} (kk : ∀ y : Int64, y = x → mp_J Γ μ E κ M lv pc (.long y :: st) k n) : mp_J Γ μ E κ M lv pc (.long x :: st) k n := kk x rfl
theorem j_eqi {x y : Int32} (h : x = y) (kk : mp_J Γ μ E κ M lv pc (.int y :: st) k n) : mp_J Γ μ E κ M lv pc (.int x :: st) k n := h ▸ kk
theorem j_eql {x y : Int64} (h : x = y) (kk : mp_J Γ μ E κ M lv pc (.long y :: st) k n) : mp_J Γ μ E κ M lv pc (.long x :: st) k n := h ▸ kk
theorem j_eqM {M' : mp_M} (h : M = M') (kk : mp_J Γ μ E κ M' lv pc st k n) : mp_J Γ μ E κ M lv pc st k n := h ▸ kk

theorem j_iconst {z : Int} {v : Int32} (d : decode μ.1 pc = .ok (.iconst z, 1)) (hv : Int32.ofInt z = v) (kk : mp_J Γ μ E κ M lv (pc + 1) (.int v :: st) k n) : mp_J Γ μ E κ M lv pc st k n := fun hC H locs ls hH hl => lv_iconst hC.1 hC.2.1 d hv (kk hC H locs ls hH hl)
theorem j_bipush {z : Int} {v : Int32} (d : decode μ.1 pc = .ok (.bipush z, 2)) (hv : (Int8.ofInt z).toInt32 = v) (kk : mp_J Γ μ E κ M lv (pc + 2) (.int v :: st) k n) : mp_J Γ μ E κ M lv pc st k n := fun hC H locs ls hH hl => lv_bipush hC.1 hC.2.1 d hv (kk hC H locs ls hH hl)
theorem j_sipush {z : Int} {v : Int32} (d : decode μ.1 pc = .ok (.sipush z, 3)) (hv : (Int16.ofInt z).toInt32 = v) (kk : mp_J Γ μ E κ M lv (pc + 3) (.int v :: st) k n) : mp_J Γ μ E κ M lv pc st k n := fun hC H locs ls hH hl => lv_sipush hC.1 hC.2.1 d hv (kk hC H locs ls hH hl)
theorem j_lconst {z : Fin 2} {v : Int64} (d : decode μ.1 pc = .ok (.lconst z, 1)) (hv : Int64.ofNat (z : Nat) = v) (kk : mp_J Γ μ E κ M lv (pc + 1) (.long v :: st) k n) : mp_J Γ μ E κ M lv pc st k n := fun hC H locs ls hH hl => lv_lconst hC.1 hC.2.1 d hv (kk hC H locs ls hH hl)
theorem j_ldc {ix : Nat} {v : Int32} (hw : mp_w (.constant μ.2.2.2.cls ix v)) (d : decode μ.1 pc = .ok (.ldc ix, 2)) (kk : mp_J Γ μ E κ M lv (pc + 2) (.int v :: st) k n) : mp_J Γ μ E κ M lv pc st k n := fun hC H locs ls hH hl => lv_ldc hC.1 hC.2.1 hC.2.2.2.1 (mp_TB.use hC.2.2.2.2.2.2.2.1 hw) d (kk hC H locs ls hH hl)
theorem j_ldcw {ix : Nat} {v : Int32} (hw : mp_w (.constant μ.2.2.2.cls ix v)) (d : decode μ.1 pc = .ok (.ldc_w ix, 3)) (kk : mp_J Γ μ E κ M lv (pc + 3) (.int v :: st) k n) : mp_J Γ μ E κ M lv pc st k n := fun hC H locs ls hH hl => lv_ldcw hC.1 hC.2.1 hC.2.2.2.1 (mp_TB.use hC.2.2.2.2.2.2.2.1 hw) d (kk hC H locs ls hH hl)
theorem j_ldc2 {ix : Nat} {v : Int64} (hw : mp_w (.constantLong μ.2.2.2.cls ix v)) (d : decode μ.1 pc = .ok (.ldc2_w ix, 3)) (kk : mp_J Γ μ E κ M lv (pc + 3) (.long v :: st) k n) : mp_J Γ μ E κ M lv pc st k n := fun hC H locs ls hH hl => lv_ldc2 hC.1 hC.2.1 hC.2.2.2.1 (mp_TB.use hC.2.2.2.2.2.2.2.1 hw) d (kk hC H locs ls hH hl)
theorem j_iload_n {z : Fin 4} {i : Nat} {x : Int32} (d : decode μ.1 pc = .ok (.iload_n z, 1)) (hi : (z : Nat) = i) (q : Nat) (hq : lv[q]? = some (i, .int x)) (kk : mp_J Γ μ E κ M lv (pc + 1) (.int x :: st) k n) : mp_J Γ μ E κ M lv pc st k n := fun hC H locs ls hH hl => lv_iload_n hC.1 hC.2.1 d hi (lv_at hl q hq) (kk hC H locs ls hH hl)
theorem j_iload {i : Nat} {x : Int32} (d : decode μ.1 pc = .ok (.iload i, 2)) (q : Nat) (hq : lv[q]? = some (i, .int x)) (kk : mp_J Γ μ E κ M lv (pc + 2) (.int x :: st) k n) : mp_J Γ μ E κ M lv pc st k n := fun hC H locs ls hH hl => lv_iload hC.1 hC.2.1 d (lv_at hl q hq) (kk hC H locs ls hH hl)
theorem j_istore_n {z : Fin 4} {i : Nat} {x : Int32} (lv' : List (Nat × Value)) (d : decode μ.1 pc = .ok (.istore_n z, 1)) (hi : (z : Nat) = i) (hn : i < μ.2.1) (hv : (i, Value.int x) :: lv.filter (fun q => !(q.1 == i) && !(q.1 + 1 == i && q.2.category == 2)) = lv') (kk : mp_J Γ μ E κ M lv' (pc + 1) st k n) : mp_J Γ μ E κ M lv pc (.int x :: st) k n := fun hC H locs ls hH hl => lv_istore_n hC.1 hC.2.1 d hi hl hn hv (fun ls' hl' => kk hC H locs ls' hH hl')
theorem j_istore {i : Nat} {x : Int32} (lv' : List (Nat × Value)) (d : decode μ.1 pc = .ok (.istore i, 2)) (hn : i < μ.2.1) (hv : (i, Value.int x) :: lv.filter (fun q => !(q.1 == i) && !(q.1 + 1 == i && q.2.category == 2)) = lv') (kk : mp_J Γ μ E κ M lv' (pc + 2) st k n) : mp_J Γ μ E κ M lv pc (.int x :: st) k n := fun hC H locs ls hH hl => lv_istore hC.1 hC.2.1 d hl hn hv (fun ls' hl' => kk hC H locs ls' hH hl')
theorem j_lload_n {z : Fin 4} {i : Nat} {x : Int64} (d : decode μ.1 pc = .ok (.lload_n z, 1)) (hi : (z : Nat) = i) (q : Nat) (hq : lv[q]? = some (i, .long x)) (kk : mp_J Γ μ E κ M lv (pc + 1) (.long x :: st) k n) : mp_J Γ μ E κ M lv pc st k n := fun hC H locs ls hH hl => lv_lload_n hC.1 hC.2.1 d hi (lv_at hl q hq) (kk hC H locs ls hH hl)
theorem j_lload {i : Nat} {x : Int64} (d : decode μ.1 pc = .ok (.lload i, 2)) (q : Nat) (hq : lv[q]? = some (i, .long x)) (kk : mp_J Γ μ E κ M lv (pc + 2) (.long x :: st) k n) : mp_J Γ μ E κ M lv pc st k n := fun hC H locs ls hH hl => lv_lload hC.1 hC.2.1 d (lv_at hl q hq) (kk hC H locs ls hH hl)
theorem j_lstore_n {z : Fin 4} {i : Nat} {x : Int64} (lv' : List (Nat × Value)) (d : decode μ.1 pc = .ok (.lstore_n z, 1)) (hi : (z : Nat) = i) (hn : i + 1 < μ.2.1) (hv : (i, Value.long x) :: lv.filter (fun q => !(q.1 == i) && (!(q.1 == i + 1) && !(q.1 + 1 == i && q.2.category == 2))) = lv') (kk : mp_J Γ μ E κ M lv' (pc + 1) st k n) : mp_J Γ μ E κ M lv pc (.long x :: st) k n := fun hC H locs ls hH hl => lv_lstore_n hC.1 hC.2.1 d hi hl hn hv (fun ls' hl' => kk hC H locs ls' hH hl')
theorem j_lstore {i : Nat} {x : Int64} (lv' : List (Nat × Value)) (d : decode μ.1 pc = .ok (.lstore i, 2)) (hn : i + 1 < μ.2.1) (hv : (i, Value.long x) :: lv.filter (fun q => !(q.1 == i) && (!(q.1 == i + 1) && !(q.1 + 1 == i && q.2.category == 2))) = lv') (kk : mp_J Γ μ E κ M lv' (pc + 2) st k n) : mp_J Γ μ E κ M lv pc (.long x :: st) k n := fun hC H locs ls hH hl => lv_lstore hC.1 hC.2.1 d hl hn hv (fun ls' hl' => kk hC H locs ls' hH hl')
theorem j_aload_n {z : Fin 4} {i : Nat} {x : Nat} (d : decode μ.1 pc = .ok (.aload_n z, 1)) (hi : (z : Nat) = i) (q : Nat) (hq : lv[q]? = some (i, .ref x)) (kk : mp_J Γ μ E κ M lv (pc + 1) (.ref x :: st) k n) : mp_J Γ μ E κ M lv pc st k n := fun hC H locs ls hH hl => lv_aload_n hC.1 hC.2.1 d hi (lv_at hl q hq) (kk hC H locs ls hH hl)
theorem j_aload {i : Nat} {x : Nat} (d : decode μ.1 pc = .ok (.aload i, 2)) (q : Nat) (hq : lv[q]? = some (i, .ref x)) (kk : mp_J Γ μ E κ M lv (pc + 2) (.ref x :: st) k n) : mp_J Γ μ E κ M lv pc st k n := fun hC H locs ls hH hl => lv_aload hC.1 hC.2.1 d (lv_at hl q hq) (kk hC H locs ls hH hl)
theorem j_astore_n {z : Fin 4} {i : Nat} {x : Nat} (lv' : List (Nat × Value)) (d : decode μ.1 pc = .ok (.astore_n z, 1)) (hi : (z : Nat) = i) (hn : i < μ.2.1) (hv : (i, Value.ref x) :: lv.filter (fun q => !(q.1 == i) && !(q.1 + 1 == i && q.2.category == 2)) = lv') (kk : mp_J Γ μ E κ M lv' (pc + 1) st k n) : mp_J Γ μ E κ M lv pc (.ref x :: st) k n := fun hC H locs ls hH hl => lv_astore_n hC.1 hC.2.1 d hi hl hn hv (fun ls' hl' => kk hC H locs ls' hH hl')
theorem j_astore {i : Nat} {x : Nat} (lv' : List (Nat × Value)) (d : decode μ.1 pc = .ok (.astore i, 2)) (hn : i < μ.2.1) (hv : (i, Value.ref x) :: lv.filter (fun q => !(q.1 == i) && !(q.1 + 1 == i && q.2.category == 2)) = lv') (kk : mp_J Γ μ E κ M lv' (pc + 2) st k n) : mp_J Γ μ E κ M lv pc (.ref x :: st) k n := fun hC H locs ls hH hl => lv_astore hC.1 hC.2.1 d hl hn hv (fun ls' hl' => kk hC H locs ls' hH hl')
theorem j_iinc {i : Nat} {z : Int} {x v : Int32} (lv' : List (Nat × Value)) (d : decode μ.1 pc = .ok (.iinc i z, 3)) (q : Nat) (hq : lv[q]? = some (i, .int x)) (hx : x + Int32.ofInt z = v) (hn : i < μ.2.1) (hv : (i, Value.int v) :: lv.filter (fun q => !(q.1 == i) && !(q.1 + 1 == i && q.2.category == 2)) = lv') (kk : mp_J Γ μ E κ M lv' (pc + 3) st k n) : mp_J Γ μ E κ M lv pc st k n := fun hC H locs ls hH hl => lv_iinc hC.1 hC.2.1 d hl hq hx hn hv (fun ls' hl' => kk hC H locs ls' hH hl')
theorem j_iadd {x y : Int32} (d : decode μ.1 pc = .ok (.iadd, 1)) (kk : mp_J Γ μ E κ M lv (pc + 1) (.int (x + y) :: st) k n) : mp_J Γ μ E κ M lv pc (.int y :: .int x :: st) k n := fun hC H locs ls hH hl => lv_iadd hC.1 hC.2.1 d (kk hC H locs ls hH hl)
theorem j_isub {x y : Int32} (d : decode μ.1 pc = .ok (.isub, 1)) (kk : mp_J Γ μ E κ M lv (pc + 1) (.int (x - y) :: st) k n) : mp_J Γ μ E κ M lv pc (.int y :: .int x :: st) k n := fun hC H locs ls hH hl => lv_isub hC.1 hC.2.1 d (kk hC H locs ls hH hl)
theorem j_imul {x y : Int32} (d : decode μ.1 pc = .ok (.imul, 1)) (kk : mp_J Γ μ E κ M lv (pc + 1) (.int (x * y) :: st) k n) : mp_J Γ μ E κ M lv pc (.int y :: .int x :: st) k n := fun hC H locs ls hH hl => lv_imul hC.1 hC.2.1 d (kk hC H locs ls hH hl)
theorem j_iand {x y : Int32} (d : decode μ.1 pc = .ok (.iand, 1)) (kk : mp_J Γ μ E κ M lv (pc + 1) (.int (x &&& y) :: st) k n) : mp_J Γ μ E κ M lv pc (.int y :: .int x :: st) k n := fun hC H locs ls hH hl => lv_iand hC.1 hC.2.1 d (kk hC H locs ls hH hl)
theorem j_ior {x y : Int32} (d : decode μ.1 pc = .ok (.ior, 1)) (kk : mp_J Γ μ E κ M lv (pc + 1) (.int (x ||| y) :: st) k n) : mp_J Γ μ E κ M lv pc (.int y :: .int x :: st) k n := fun hC H locs ls hH hl => lv_ior hC.1 hC.2.1 d (kk hC H locs ls hH hl)
theorem j_ixor {x y : Int32} (d : decode μ.1 pc = .ok (.ixor, 1)) (kk : mp_J Γ μ E κ M lv (pc + 1) (.int (x ^^^ y) :: st) k n) : mp_J Γ μ E κ M lv pc (.int y :: .int x :: st) k n := fun hC H locs ls hH hl => lv_ixor hC.1 hC.2.1 d (kk hC H locs ls hH hl)
theorem j_ishl {x y : Int32} (d : decode μ.1 pc = .ok (.ishl, 1)) (kk : mp_J Γ μ E κ M lv (pc + 1) (.int (x <<< (y &&& 31)) :: st) k n) : mp_J Γ μ E κ M lv pc (.int y :: .int x :: st) k n := fun hC H locs ls hH hl => lv_ishl hC.1 hC.2.1 d (kk hC H locs ls hH hl)
theorem j_ishr {x y : Int32} (d : decode μ.1 pc = .ok (.ishr, 1)) (kk : mp_J Γ μ E κ M lv (pc + 1) (.int (x >>> (y &&& 31)) :: st) k n) : mp_J Γ μ E κ M lv pc (.int y :: .int x :: st) k n := fun hC H locs ls hH hl => lv_ishr hC.1 hC.2.1 d (kk hC H locs ls hH hl)
theorem j_ladd {x y : Int64} (d : decode μ.1 pc = .ok (.ladd, 1)) (kk : mp_J Γ μ E κ M lv (pc + 1) (.long (x + y) :: st) k n) : mp_J Γ μ E κ M lv pc (.long y :: .long x :: st) k n := fun hC H locs ls hH hl => lv_ladd hC.1 hC.2.1 d (kk hC H locs ls hH hl)
theorem j_lsub {x y : Int64} (d : decode μ.1 pc = .ok (.lsub, 1)) (kk : mp_J Γ μ E κ M lv (pc + 1) (.long (x - y) :: st) k n) : mp_J Γ μ E κ M lv pc (.long y :: .long x :: st) k n := fun hC H locs ls hH hl => lv_lsub hC.1 hC.2.1 d (kk hC H locs ls hH hl)
theorem j_lmul {x y : Int64} (d : decode μ.1 pc = .ok (.lmul, 1)) (kk : mp_J Γ μ E κ M lv (pc + 1) (.long (x * y) :: st) k n) : mp_J Γ μ E κ M lv pc (.long y :: .long x :: st) k n := fun hC H locs ls hH hl => lv_lmul hC.1 hC.2.1 d (kk hC H locs ls hH hl)
theorem j_land {x y : Int64} (d : decode μ.1 pc = .ok (.land, 1)) (kk : mp_J Γ μ E κ M lv (pc + 1) (.long (x &&& y) :: st) k n) : mp_J Γ μ E κ M lv pc (.long y :: .long x :: st) k n := fun hC H locs ls hH hl => lv_land hC.1 hC.2.1 d (kk hC H locs ls hH hl)
theorem j_lor {x y : Int64} (d : decode μ.1 pc = .ok (.lor, 1)) (kk : mp_J Γ μ E κ M lv (pc + 1) (.long (x ||| y) :: st) k n) : mp_J Γ μ E κ M lv pc (.long y :: .long x :: st) k n := fun hC H locs ls hH hl => lv_lor hC.1 hC.2.1 d (kk hC H locs ls hH hl)
theorem j_lxor {x y : Int64} (d : decode μ.1 pc = .ok (.lxor, 1)) (kk : mp_J Γ μ E κ M lv (pc + 1) (.long (x ^^^ y) :: st) k n) : mp_J Γ μ E κ M lv pc (.long y :: .long x :: st) k n := fun hC H locs ls hH hl => lv_lxor hC.1 hC.2.1 d (kk hC H locs ls hH hl)
theorem j_idiv {x y : Int32} (hne : ¬ y = 0) (d : decode μ.1 pc = .ok (.idiv, 1)) (kk : mp_J Γ μ E κ M lv (pc + 1) (.int (x / y) :: st) k n) : mp_J Γ μ E κ M lv pc (.int y :: .int x :: st) k n := fun hC H locs ls hH hl => lv_idiv hC.1 hC.2.1 d hne (kk hC H locs ls hH hl)
theorem j_irem {x y : Int32} (hne : ¬ y = 0) (d : decode μ.1 pc = .ok (.irem, 1)) (kk : mp_J Γ μ E κ M lv (pc + 1) (.int (x - x / y * y) :: st) k n) : mp_J Γ μ E κ M lv pc (.int y :: .int x :: st) k n := fun hC H locs ls hH hl => lv_irem hC.1 hC.2.1 d hne (kk hC H locs ls hH hl)
theorem j_ineg {x : Int32} (d : decode μ.1 pc = .ok (.ineg, 1)) (kk : mp_J Γ μ E κ M lv (pc + 1) (.int (-x) :: st) k n) : mp_J Γ μ E κ M lv pc (.int x :: st) k n := fun hC H locs ls hH hl => lv_ineg hC.1 hC.2.1 d (kk hC H locs ls hH hl)
theorem j_lneg {x : Int64} (d : decode μ.1 pc = .ok (.lneg, 1)) (kk : mp_J Γ μ E κ M lv (pc + 1) (.long (-x) :: st) k n) : mp_J Γ μ E κ M lv pc (.long x :: st) k n := fun hC H locs ls hH hl => lv_lneg hC.1 hC.2.1 d (kk hC H locs ls hH hl)
theorem j_i2l {x : Int32} (d : decode μ.1 pc = .ok (.i2l, 1)) (kk : mp_J Γ μ E κ M lv (pc + 1) (.long x.toInt64 :: st) k n) : mp_J Γ μ E κ M lv pc (.int x :: st) k n := fun hC H locs ls hH hl => lv_i2l hC.1 hC.2.1 d rfl (kk hC H locs ls hH hl)
theorem j_l2i {x : Int64} (d : decode μ.1 pc = .ok (.l2i, 1)) (kk : mp_J Γ μ E κ M lv (pc + 1) (.int x.toInt32 :: st) k n) : mp_J Γ μ E κ M lv pc (.long x :: st) k n := fun hC H locs ls hH hl => lv_l2i hC.1 hC.2.1 d rfl (kk hC H locs ls hH hl)
theorem j_i2b {x : Int32} (d : decode μ.1 pc = .ok (.i2b, 1)) (kk : mp_J Γ μ E κ M lv (pc + 1) (.int x.toInt8.toInt32 :: st) k n) : mp_J Γ μ E κ M lv pc (.int x :: st) k n := fun hC H locs ls hH hl => lv_i2b hC.1 hC.2.1 d rfl (kk hC H locs ls hH hl)
theorem j_iushr {x y : Int32} (d : decode μ.1 pc = .ok (.iushr, 1)) (kk : mp_J Γ μ E κ M lv (pc + 1) (.int (x.toUInt32 >>> (y.toUInt32 &&& Int32.toUInt32 31)).toInt32 :: st) k n) : mp_J Γ μ E κ M lv pc (.int y :: .int x :: st) k n := fun hC H locs ls hH hl => lv_iushr hC.1 hC.2.1 d rfl (kk hC H locs ls hH hl)
theorem j_lushr {x : Int64} {y : Int32} (d : decode μ.1 pc = .ok (.lushr, 1)) (kk : mp_J Γ μ E κ M lv (pc + 1) (.long (x.toUInt64 >>> (y.toInt64.toUInt64 &&& Int64.toUInt64 63)).toInt64 :: st) k n) : mp_J Γ μ E κ M lv pc (.int y :: .long x :: st) k n := fun hC H locs ls hH hl => lv_lushr hC.1 hC.2.1 d rfl (kk hC H locs ls hH hl)
theorem j_lshl {x : Int64} {y : Int32} (d : decode μ.1 pc = .ok (.lshl, 1)) (kk : mp_J Γ μ E κ M lv (pc + 1) (.long (x <<< (y.toInt64 &&& 63)) :: st) k n) : mp_J Γ μ E κ M lv pc (.int y :: .long x :: st) k n := fun hC H locs ls hH hl => lv_lshl hC.1 hC.2.1 d rfl (kk hC H locs ls hH hl)
theorem j_lshr {x : Int64} {y : Int32} (d : decode μ.1 pc = .ok (.lshr, 1)) (kk : mp_J Γ μ E κ M lv (pc + 1) (.long (x >>> (y.toInt64 &&& 63)) :: st) k n) : mp_J Γ μ E κ M lv pc (.int y :: .long x :: st) k n := fun hC H locs ls hH hl => lv_lshr hC.1 hC.2.1 d rfl (kk hC H locs ls hH hl)
theorem j_lcmp {x y : Int64} (d : decode μ.1 pc = .ok (.lcmp, 1)) (kk : mp_J Γ μ E κ M lv (pc + 1) (.int (lg_cmp x y) :: st) k n) : mp_J Γ μ E κ M lv pc (.long y :: .long x :: st) k n := fun hC H locs ls hH hl => W.lcmp hC.1 hC.2.1 d (kk hC H locs ls hH hl)
theorem j_dup {v : Value} (d : decode μ.1 pc = .ok (.dup, 1)) (h1 : v.category = 1) (kk : mp_J Γ μ E κ M lv (pc + 1) (v :: v :: st) k n) : mp_J Γ μ E κ M lv pc (v :: st) k n := fun hC H locs ls hH hl => lv_dup hC.1 hC.2.1 d h1 (kk hC H locs ls hH hl)
theorem j_pop {v : Value} (d : decode μ.1 pc = .ok (.pop, 1)) (h1 : v.category = 1) (kk : mp_J Γ μ E κ M lv (pc + 1) st k n) : mp_J Γ μ E κ M lv pc (v :: st) k n := fun hC H locs ls hH hl => lv_pop hC.1 hC.2.1 d h1 (kk hC H locs ls hH hl)
theorem j_dup_x1 {v u : Value} (d : decode μ.1 pc = .ok (.dup_x1, 1)) (h1 : v.category = 1) (h2 : u.category = 1) (kk : mp_J Γ μ E κ M lv (pc + 1) (v :: u :: v :: st) k n) : mp_J Γ μ E κ M lv pc (v :: u :: st) k n := fun hC H locs ls hH hl => lv_dup_x1 hC.1 hC.2.1 d h1 h2 (kk hC H locs ls hH hl)
theorem j_dup_x2 {v u t : Value} (d : decode μ.1 pc = .ok (.dup_x2, 1)) (h1 : v.category = 1) (h2 : u.category = 1) (h3 : t.category = 1) (kk : mp_J Γ μ E κ M lv (pc + 1) (v :: u :: t :: v :: st) k n) : mp_J Γ μ E κ M lv pc (v :: u :: t :: st) k n := fun hC H locs ls hH hl => lv_dup_x2 hC.1 hC.2.1 d h1 h2 h3 (kk hC H locs ls hH hl)
theorem j_dup2_11 {v u : Value} (d : decode μ.1 pc = .ok (.dup2, 1)) (h1 : v.category = 1) (h2 : u.category = 1) (kk : mp_J Γ μ E κ M lv (pc + 1) (v :: u :: v :: u :: st) k n) : mp_J Γ μ E κ M lv pc (v :: u :: st) k n := fun hC H locs ls hH hl => lv_dup2_11 hC.1 hC.2.1 d h1 h2 (kk hC H locs ls hH hl)
theorem j_dup2_2 {v : Value} (d : decode μ.1 pc = .ok (.dup2, 1)) (h1 : v.category = 2) (kk : mp_J Γ μ E κ M lv (pc + 1) (v :: v :: st) k n) : mp_J Γ μ E κ M lv pc (v :: st) k n := fun hC H locs ls hH hl => lv_dup2_2 hC.1 hC.2.1 d h1 (kk hC H locs ls hH hl)
theorem j_goto {off : Int} {tgt : Nat} (d : decode μ.1 pc = .ok (.goto off, 3)) (ht : (pc : Int) + off = (tgt : Int)) (kk : mp_J Γ μ E κ M lv tgt st k n) : mp_J Γ μ E κ M lv pc st k n := fun hC H locs ls hH hl => lv_goto hC.1 hC.2.1 d ht (kk hC H locs ls hH hl)
theorem j_null (d : decode μ.1 pc = .ok (.aconst_null, 1)) (kk : mp_J Γ μ E κ M lv (pc + 1) (.null :: st) k n) : mp_J Γ μ E κ M lv pc st k n := fun hC H locs ls hH hl => lv_null hC.1 hC.2.1 d (kk hC H locs ls hH hl)
theorem j_if_eq {x : Int32} {off : Int} (tgt : Nat) (d : decode μ.1 pc = .ok (.ifCond .eq off, 3)) (ht : (pc : Int) + off = (tgt : Int)) (kt : x = 0 → mp_J Γ μ E κ M lv tgt st k n) (kf : ¬ x = 0 → mp_J Γ μ E κ M lv (pc + 3) st k n) : mp_J Γ μ E κ M lv pc (.int x :: st) k n := fun hC H locs ls hH hl => lv_if_eq hC.1 hC.2.1 d ht (fun h => kt h hC H locs ls hH hl) (fun h => kf h hC H locs ls hH hl)
theorem j_icmp_eq {x y : Int32} {off : Int} (tgt : Nat) (d : decode μ.1 pc = .ok (.if_icmp .eq off, 3)) (ht : (pc : Int) + off = (tgt : Int)) (kt : x = y → mp_J Γ μ E κ M lv tgt st k n) (kf : ¬ x = y → mp_J Γ μ E κ M lv (pc + 3) st k n) : mp_J Γ μ E κ M lv pc (.int y :: .int x :: st) k n := fun hC H locs ls hH hl => lv_icmp_eq hC.1 hC.2.1 d ht (fun h => kt h hC H locs ls hH hl) (fun h => kf h hC H locs ls hH hl)
theorem j_if_ne {x : Int32} {off : Int} (tgt : Nat) (d : decode μ.1 pc = .ok (.ifCond .ne off, 3)) (ht : (pc : Int) + off = (tgt : Int)) (kt : ¬ x = 0 → mp_J Γ μ E κ M lv tgt st k n) (kf : x = 0 → mp_J Γ μ E κ M lv (pc + 3) st k n) : mp_J Γ μ E κ M lv pc (.int x :: st) k n := fun hC H locs ls hH hl => lv_if_ne hC.1 hC.2.1 d ht (fun h => kt h hC H locs ls hH hl) (fun h => kf h hC H locs ls hH hl)
theorem j_icmp_ne {x y : Int32} {off : Int} (tgt : Nat) (d : decode μ.1 pc = .ok (.if_icmp .ne off, 3)) (ht : (pc : Int) + off = (tgt : Int)) (kt : ¬ x = y → mp_J Γ μ E κ M lv tgt st k n) (kf : x = y → mp_J Γ μ E κ M lv (pc + 3) st k n) : mp_J Γ μ E κ M lv pc (.int y :: .int x :: st) k n := fun hC H locs ls hH hl => lv_icmp_ne hC.1 hC.2.1 d ht (fun h => kt h hC H locs ls hH hl) (fun h => kf h hC H locs ls hH hl)
theorem j_if_lt {x : Int32} {off : Int} (tgt : Nat) (d : decode μ.1 pc = .ok (.ifCond .lt off, 3)) (ht : (pc : Int) + off = (tgt : Int)) (kt : x < 0 → mp_J Γ μ E κ M lv tgt st k n) (kf : ¬ x < 0 → mp_J Γ μ E κ M lv (pc + 3) st k n) : mp_J Γ μ E κ M lv pc (.int x :: st) k n := fun hC H locs ls hH hl => lv_if_lt hC.1 hC.2.1 d ht (fun h => kt h hC H locs ls hH hl) (fun h => kf h hC H locs ls hH hl)
theorem j_icmp_lt {x y : Int32} {off : Int} (tgt : Nat) (d : decode μ.1 pc = .ok (.if_icmp .lt off, 3)) (ht : (pc : Int) + off = (tgt : Int)) (kt : x < y → mp_J Γ μ E κ M lv tgt st k n) (kf : ¬ x < y → mp_J Γ μ E κ M lv (pc + 3) st k n) : mp_J Γ μ E κ M lv pc (.int y :: .int x :: st) k n := fun hC H locs ls hH hl => lv_icmp_lt hC.1 hC.2.1 d ht (fun h => kt h hC H locs ls hH hl) (fun h => kf h hC H locs ls hH hl)
theorem j_if_ge {x : Int32} {off : Int} (tgt : Nat) (d : decode μ.1 pc = .ok (.ifCond .ge off, 3)) (ht : (pc : Int) + off = (tgt : Int)) (kt : 0 ≤ x → mp_J Γ μ E κ M lv tgt st k n) (kf : ¬ 0 ≤ x → mp_J Γ μ E κ M lv (pc + 3) st k n) : mp_J Γ μ E κ M lv pc (.int x :: st) k n := fun hC H locs ls hH hl => lv_if_ge hC.1 hC.2.1 d ht (fun h => kt h hC H locs ls hH hl) (fun h => kf h hC H locs ls hH hl)
theorem j_icmp_ge {x y : Int32} {off : Int} (tgt : Nat) (d : decode μ.1 pc = .ok (.if_icmp .ge off, 3)) (ht : (pc : Int) + off = (tgt : Int)) (kt : y ≤ x → mp_J Γ μ E κ M lv tgt st k n) (kf : ¬ y ≤ x → mp_J Γ μ E κ M lv (pc + 3) st k n) : mp_J Γ μ E κ M lv pc (.int y :: .int x :: st) k n := fun hC H locs ls hH hl => lv_icmp_ge hC.1 hC.2.1 d ht (fun h => kt h hC H locs ls hH hl) (fun h => kf h hC H locs ls hH hl)
theorem j_if_gt {x : Int32} {off : Int} (tgt : Nat) (d : decode μ.1 pc = .ok (.ifCond .gt off, 3)) (ht : (pc : Int) + off = (tgt : Int)) (kt : 0 < x → mp_J Γ μ E κ M lv tgt st k n) (kf : ¬ 0 < x → mp_J Γ μ E κ M lv (pc + 3) st k n) : mp_J Γ μ E κ M lv pc (.int x :: st) k n := fun hC H locs ls hH hl => lv_if_gt hC.1 hC.2.1 d ht (fun h => kt h hC H locs ls hH hl) (fun h => kf h hC H locs ls hH hl)
theorem j_icmp_gt {x y : Int32} {off : Int} (tgt : Nat) (d : decode μ.1 pc = .ok (.if_icmp .gt off, 3)) (ht : (pc : Int) + off = (tgt : Int)) (kt : y < x → mp_J Γ μ E κ M lv tgt st k n) (kf : ¬ y < x → mp_J Γ μ E κ M lv (pc + 3) st k n) : mp_J Γ μ E κ M lv pc (.int y :: .int x :: st) k n := fun hC H locs ls hH hl => lv_icmp_gt hC.1 hC.2.1 d ht (fun h => kt h hC H locs ls hH hl) (fun h => kf h hC H locs ls hH hl)
theorem j_if_le {x : Int32} {off : Int} (tgt : Nat) (d : decode μ.1 pc = .ok (.ifCond .le off, 3)) (ht : (pc : Int) + off = (tgt : Int)) (kt : x ≤ 0 → mp_J Γ μ E κ M lv tgt st k n) (kf : ¬ x ≤ 0 → mp_J Γ μ E κ M lv (pc + 3) st k n) : mp_J Γ μ E κ M lv pc (.int x :: st) k n := fun hC H locs ls hH hl => lv_if_le hC.1 hC.2.1 d ht (fun h => kt h hC H locs ls hH hl) (fun h => kf h hC H locs ls hH hl)
theorem j_icmp_le {x y : Int32} {off : Int} (tgt : Nat) (d : decode μ.1 pc = .ok (.if_icmp .le off, 3)) (ht : (pc : Int) + off = (tgt : Int)) (kt : x ≤ y → mp_J Γ μ E κ M lv tgt st k n) (kf : ¬ x ≤ y → mp_J Γ μ E κ M lv (pc + 3) st k n) : mp_J Γ μ E κ M lv pc (.int y :: .int x :: st) k n := fun hC H locs ls hH hl => lv_icmp_le hC.1 hC.2.1 d ht (fun h => kt h hC H locs ls hH hl) (fun h => kf h hC H locs ls hH hl)
theorem j_lookup {dflt : Int} {ps : Array (Int × Int)} {len : Nat} {x : Int32} {off : Int} (tgt : Nat) (d : decode μ.1 pc = .ok (.lookupswitch dflt ps, len)) (hp : (ps.toList.zip (ps.toList.drop 1)).all (fun (a, next) => a.1 < next.1) = true) (ho : Op.lookupswitch.offset ps.toList dflt x.toInt = off) (ht : (pc : Int) + off = (tgt : Int)) (kk : mp_J Γ μ E κ M lv tgt st k n) : mp_J Γ μ E κ M lv pc (.int x :: st) k n := fun hC H locs ls hH hl => lv_lookup hC.1 hC.2.1 d hp ho ht (kk hC H locs ls hH hl)
theorem j_tableOut {dflt lo hi : Int} {offs : Array Int} {len : Nat} {x : Int32} (tgt : Nat) (d : decode μ.1 pc = .ok (.tableswitch dflt lo hi offs, len)) (h : x.toInt < lo ∨ hi < x.toInt) (ht : (pc : Int) + dflt = (tgt : Int)) (kk : mp_J Γ μ E κ M lv tgt st k n) : mp_J Γ μ E κ M lv pc (.int x :: st) k n := fun hC H locs ls hH hl => lv_tableOut hC.1 hC.2.1 d h ht (kk hC H locs ls hH hl)
theorem j_tableIn {dflt lo hi : Int} {offs : Array Int} {len : Nat} {x : Int32} {off : Int} (tgt : Nat) (d : decode μ.1 pc = .ok (.tableswitch dflt lo hi offs, len)) (h1 : ¬ x.toInt < lo) (h2 : ¬ hi < x.toInt) (ho : offs[(x.toInt - lo).toNat]? = some off) (ht : (pc : Int) + off = (tgt : Int)) (kk : mp_J Γ μ E κ M lv tgt st k n) : mp_J Γ μ E κ M lv pc (.int x :: st) k n := fun hC H locs ls hH hl => lv_tableIn hC.1 hC.2.1 d h1 h2 ho ht (kk hC H locs ls hH hl)
end MPR
