def R_law : String := "ScriptDeskLaw"
def lw_P (b : Addr) (xs : List Int32) (args : Array Value) (s : State) : Prop := args = #[.ref b] ∧ s.IntsAt b xs ∧ xs.length ≤ 3072 ∧ (Jvm.Cond.and given_1 narrow_1).before args s = true
def lw_Q (_ : Array Value) (s : State) (o : Outcome) (t : State) : Prop := o = .returned (some (.int 1)) ∧ Framed s o t [] 601024 7293034
def lw_Z (below : List Frame) (a : Array Value) (s : State) : State → Prop := fun t => ∃ o, t.status = .running ∧ Ended t below o ∧ lw_Q a s o t
/-- the law's own end, with 1 on the stack, nothing written that was there before, its room as the claim has it -/
theorem lw_ret {p : Program} {l : Launch} {e : Env} {s : State} {m : MethodId} {below : List Frame} {meth : Method} {c : Code} {b : Nat} (hx : p.tables.exec = Jvm.exec) (hb : c.code = code) (hr : meth.sig.returnType = ret) (hlocks : meth.locks = false) {pc : Nat} {H : Heap} {ls : Array Slot} (hdg : decode code pc = .ok (.ireturn, 1)) : W p l e room_1 s m #[Value.ref b] below meth c H [] 601024 7293034 (lw_Z below #[Value.ref b] s) (F0 m pc ls [.int 1]) := by
  intro T hT X
  obtain ⟨fs, hret, hrun, hended, hW, hframe⟩ := X.leave (v := some (.int 1)) (hlocks := hlocks) (fun h => by rw [hr] at h; cases h)
  have hmeth' : T.vm.method? m = some meth := X.method'
  refine ⟨T.setFrames fs, ?_, .returned (some (.int 1)), hrun, hended, rfl, ⟨_, rfl⟩, hW, hframe⟩
  jvm_step X.here [X.here.top, hx, hb, hdg, hmeth', hr, ret, narrow_b1]
  (try refine ⟨rfl, ?_⟩); (try refine ⟨rfl, ?_⟩)
  first | (intro acts; rw [hret _ acts rfl rfl rfl]) | rw [hret _ _ rfl rfl rfl]
  exact Steps.refl _
/-- what holds at the law's entry: the machine, the code, the tables' words (any of lw_tbl by 'hts w (by decide +kernel)'), the script of L ints xs at the cell b, what the Statement gives of the start (any of its parts by flat_of_before) -/
def lw_At (p : Program) (s : State) (m : MethodId) (meth : Method) (c : Code) (b L : Nat) (xs : Nat → Int32) : Prop :=
  p.tables.exec = Jvm.exec ∧ c.code = code ∧ meth.sig.returnType = ret ∧ c.maxLocals = 7 ∧ s.vm.findClass R_law = some m.cls ∧ (∀ w ∈ lw_tbl, w.before #[Value.ref b] s = true) ∧ va_X b L xs s s.heap ∧ b < s.heap.size ∧ meth.locks = false ∧ (Jvm.Cond.and given_1 narrow_1).before #[Value.ref b] s = true ∧ meth.name = "law"
theorem whole_start {p : Program} {e : Env} {s : State} {m : MethodId} {below : List Frame} {meth : Method} {c : Code} (l : Launch) (hl0 : l.stackTraces = false) {b L : Nat} {xs : Nat → Int32} (hL : L ≤ 3072) (C0 : lw_At p s m meth c b L xs) : W p l e room_1 s m #[Value.ref b] below meth c s.heap [] 0 0 (lw_Z below #[Value.ref b] s) (entryFrame m ([Value.ref b] : List Value).toArray 7) := by
  obtain ⟨hx, hb, hr, hml, hown, hts, hX, hbl, hlocks, hgv, hname⟩ := id C0
  have hTB : mp_TB s := mp_TB.start hts
  obtain ⟨c0, i0, k0⟩ := u_known (C := "ScriptDesk$Branches") (T := T_Br) (N := 2) (n := 2) hts (fun w hw => (F_Br.2.1 w hw).1) (hts _ w_133.1)
  obtain ⟨c1, i1, k1⟩ := u_known (C := "ScriptDesk$Machine") (T := T_Ma) (N := 8) (n := 8) hts (fun w hw => (F_Ma.2.1 w hw).1) (hts _ w_98.1)
  obtain ⟨c2, i2, k2⟩ := u_known (C := "ScriptDesk$Ripemd160") (T := T_Ri) (N := 6) (n := 6) hts (fun w hw => (F_Ri.2.1 w hw).1) (hts _ w_79.1)
  obtain ⟨c3, i3, k3⟩ := u_known (C := "ScriptDesk$Sha256") (T := T_Sh) (N := 5) (n := 5) hts (fun w hw => (F_Sh.2.1 w hw).1) (hts _ w_39.1)
  obtain ⟨c4, i4, k4⟩ := u_known (C := "ScriptDesk$Stack") (T := T_St) (N := 3) (n := 3) hts (fun w hw => (F_St.2.1 w hw).1) (hts _ w_104.1)
  obtain ⟨c5, i5, k5⟩ := u_known (C := "ScriptDesk$Thing") (T := T_Th) (N := 1) (n := 1) hts (fun w hw => (F_Th.2.1 w hw).1) (hts _ w_111.1)
  obtain ⟨c6, i6, k6⟩ := u_known (C := "ScriptDesk") (T := T_De) (N := 6) (n := 6) hts (fun w hw => (F_De.2.1 w hw).1) (hts _ w_31.1)
  obtain ⟨c7, i7, k7⟩ := u_known (C := "ScriptDeskModel") (T := T_Mo) (N := 15) (n := 15) hts (fun w hw => (F_Mo.2.1 w hw).1) (hts _ w_936.1)
  obtain ⟨dC, dI, hKc⟩ : ∃ (dC : Nat → ClassId) (dI : Nat → Nat → Nat), ∀ (k : Nat) (q : vw_C), vwCl[k]? = some q → u_Kn s q.1 q.2.1 q.2.2 (dC k) (dI k) := by
    refine ⟨fun k => if k = 0 then c0 else if k = 1 then c1 else if k = 2 then c2 else if k = 3 then c3 else if k = 4 then c4 else if k = 5 then c5 else if k = 6 then c6 else c7, fun k => if k = 0 then i0 else if k = 1 then i1 else if k = 2 then i2 else if k = 3 then i3 else if k = 4 then i4 else if k = 5 then i5 else if k = 6 then i6 else i7, ?_⟩
    intro k q hq
    match k, hq with
    | 0, hq => cases hq; exact k0
    | 1, hq => cases hq; exact k1
    | 2, hq => cases hq; exact k2
    | 3, hq => cases hq; exact k3
    | 4, hq => cases hq; exact k4
    | 5, hq => cases hq; exact k5
    | 6, hq => cases hq; exact k6
    | 7, hq => cases hq; exact k7
    | k + 8, hq => simp [vwCl] at hq
  obtain ⟨cB, aB, fB⟩ := ar_of (hts _ w_76.1)
  obtain ⟨cI, aI, fI⟩ := ar_of (hts _ w_77.1)
  obtain ⟨cQ, aQ, fQ⟩ := aq_of (hts _ w_110.1)
  obtain ⟨cL, aL, fL⟩ := ar_of (hts _ w_1155.1)
  obtain ⟨cZ, aZ, fZ⟩ := ar_of (hts _ w_989.1)
  obtain ⟨ad, had⟩ := sa_of hgv hts
  have hK : va_K (dC, dI) vwCl (mp_tys ((dC, dI), (fun k => if k = 0 then cB else if k = 1 then cI else if k = 2 then cQ else if k = 3 then cL else cZ), (fun q => q < s.heap.size), ad)) s := ⟨hKc, fun k q hk => by
    match k, hk with
    | 0, hk => cases hk; exact ⟨aB, fB⟩
    | 1, hk => cases hk; exact ⟨aI, fI⟩
    | 2, hk => cases hk; exact ⟨aQ, fQ⟩
    | 3, hk => cases hk; exact ⟨aL, fL⟩
    | 4, hk => cases hk; exact ⟨aZ, fZ⟩
    | k + 5, hk => simp [mp_tys] at hk⟩
  have hSt : mp_St ((dC, dI), (fun k => if k = 0 then cB else if k = 1 then cI else if k = 2 then cQ else if k = 3 then cL else cZ), (fun q => q < s.heap.size), ad) s s.heap := ⟨had, vx_Zqof (hts _ (List.mem_append_right _ (List.mem_of_getElem? (i := 252) rfl))) (hts _ (List.mem_append_right _ (List.mem_of_getElem? (i := 13) rfl))) (fr_0 hgv) (fun a ha z => z ha), vx_Zqof (hts _ (List.mem_append_right _ (List.mem_of_getElem? (i := 254) rfl))) (hts _ (List.mem_append_right _ (List.mem_of_getElem? (i := 13) rfl))) (fr_1 hgv) (fun a ha z => z ha), va_Nc.of (fc_0 hgv)⟩
  have hl := lv_entry ([.ref b]) (n := 7) (Nat.le_of_ble_eq_true rfl)
  have hA : ∀ q, mp_A (fun _ => none) s.heap.size q → s.heap.size ≤ q := fun q hq => hq.elim (fun ⟨_, h9⟩ => by cases h9) id
  have hC : mp_C (p, l, e, room_1, s, m, #[Value.ref b], below, meth, c, lw_Z below #[Value.ref b] s) m_La_law ((dC, dI), (fun k => if k = 0 then cB else if k = 1 then cI else if k = 2 then cQ else if k = 3 then cL else cZ), (fun q => q < s.heap.size), ad) ((fun _ => none), 100, 601024, 7293034, fun _ _ => False) :=
    ⟨hx, hb, hml, hown, hr, hlocks, hname, hTB, hK, hSt, fun q hq => ⟨fun h9 => absurd hq (Nat.not_lt.mpr (hA q h9)), hq⟩, ⟨Nat.le_of_ble_eq_true rfl, Nat.le_of_ble_eq_true rfl, Nat.le_of_ble_eq_true rfl, Nat.le_of_ble_eq_true rfl⟩, Or.inr rfl, fun t oc h1 h2 h3 => by
      obtain ⟨-, -, -, M', -, -, h4⟩ := h3
      cases oc with
      | returned v => exact h4.elim
      | threw x =>
        obtain ⟨X, hX9, -⟩ := h4
        exact hX9.elim⟩
  have key := law_start (Γ := (p, l, e, room_1, s, m, #[Value.ref b], below, meth, c, lw_Z below #[Value.ref b] s)) (κ := ((fun _ => none), 100, 601024, 7293034, fun _ _ => False)) ((dC, dI), (fun k => if k = 0 then cB else if k = 1 then cI else if k = 2 then cQ else if k = 3 then cL else cZ), (fun q => q < s.heap.size), ad) b L xs hl0 hL hX hbl (fun h9 => absurd hbl (Nat.not_lt.mpr (hA b h9))) rfl rfl rfl (fun N lv k n hk hn hC' H locs ls hH hl' => va_forget (fun q hq => hA _ (hH.2.2.2 q hq)) (W.widen hk hn (lw_ret hx hb hr hlocks d_La_law_632))) hC s.heap [] _ ⟨fun a e' h9 => (by cases h9), va_S.rf⟩ hl
  intro T hT X
  obtain ⟨t, a1, b1⟩ := key T hT X
  rw [← lg_entry_eq] at a1
  exact ⟨t, a1, b1⟩
