theorem mp_fre {M M' : mp_M} {a b : Nat} {e : va_E} (h : mp_up M a e = M') (hb : M' b = none) : M b = none := by
  rw [← h] at hb
  by_cases hz : b = a
  · rw [hz, mp_s] at hb; cases hb
  · rw [mp_n hz] at hb; exact hb
theorem mp_kp {M Mx : mp_M} {a b : Nat} {e : va_E} {x : Option va_E} (eX : Mx = mp_up M a e) (hne : b ≠ a) (h : M b = x) : Mx b = x := by rw [eX, mp_n hne]; exact h
theorem mp_selp {C : String} {y z : MethodName} {s : State} {args : Array Value} (hz : z.cls = y.cls) (hy : y.cls ≠ "java/lang/invoke/MethodHandle" ∧ y.cls ≠ "java/lang/invoke/VarHandle")
    (hsel : (Cond.selects C z z).before args s = true) (hpriv : (Cond.privateMethod y).before args s = true) (hinst : (Cond.instanceMethod y).before args s = true) :
    (Cond.selects C y y).before args s = true := by
  obtain ⟨c, r, m, hc, -, hm, -, mk, hmk, hni⟩ := Cond.selects_spec hsel
  obtain ⟨my, methM, hnamed, hmethM, -, -⟩ := Cond.instanceMethod_spec hinst
  have hfound : s.methodFound? y.cls y.name y.desc = some my := State.methodFound?_of_named hnamed hy
  have hcls : my.cls = m.cls := Option.some.inj ((findClass_of_methodNamed hnamed).symm.trans (hz ▸ findClass_of_methodNamed hm))
  have h2 : selectMethod {} s.vm c my = .method my := selectMethod_private hmethM (Cond.privateMethod_at hpriv my methM hnamed hmethM)
  simp only [Cond.before, Cond.holds, Cond.value, hc, hfound, hnamed, h2, hcls, hmk]
  simp [hni]
theorem j_callP {Γ : mp_G} {μ : mp_D} {E : mp_E} {κ : mp_K} {M : mp_M} {lv : List (Nat × Value)} {pc : Nat} {st : List Value} {k n : Nat} {z : MethodName} {μ' : mp_D} {d' mc' ms' ix n' ci b : Nat} {x : MethodName} {P : Option Value → mp_M → Prop} {As rest fs : List Value} {r : vw_C} (owner : String) (hc : mp_Cr Γ.l μ' E M d' mc' ms' (.ref b :: As) P) (Y : mp_Y μ' n') (hl1 : mp_w (.methodLink μ.2.2.2.cls ix x)) (hl4 : mp_w (.sameMethod x.cls owner x.name x.desc)) (hdecl : mp_w (.declares ⟨owner, x.name, x.desc⟩) ∨ (mp_w (.instanceMethod ⟨owner, x.name, x.desc⟩) ∧ ∃ b0 m0 r0, mp_w (.code ⟨owner, x.name, x.desc⟩ b0 m0 r0))) (how : owner ≠ "java/lang/invoke/MethodHandle" ∧ owner ≠ "java/lang/invoke/VarHandle") (hxd : x.desc = μ'.2.2.2.desc) (hl2 : mp_w (.instanceMethod μ'.2.2.2)) (hz : z.cls = x.cls) (hxx : x = μ'.2.2.2) (hl3 : mp_w (.selects r.1 z z)) (hl5 : mp_w (.privateMethod x)) (hl6 : mp_w (.instanceMethod x)) (how2 : x.cls ≠ "java/lang/invoke/MethodHandle" ∧ x.cls ≠ "java/lang/invoke/VarHandle") (hM : M b = some (mp_o ci fs)) (hci : vwCl[ci]? = some r) (hn' : As.length = n') (hst : st = As.reverse ++ .ref b :: rest) (hW : (rest.map fun v => v.category).sum ≤ 8) (hd : d' < κ.2.1) (hk : k + mc' ≤ κ.2.2.1) (hn : n + ms' ≤ κ.2.2.2.1) (d : decode μ.1 pc = .ok (.invokevirtual ix, 3))
    (kk : ∀ v M', P v M' → mp_J Γ μ E κ M' lv (pc + 3) (v.toList ++ rest) (k + mc') (n + ms')) : mp_J Γ μ E κ M lv pc st k n := fun hC H locs ls hH hl => by
  obtain ⟨hx, hb, hml, hown, hr, hlk, hnm, hTB, hK, hSt, hZ, hrm, hfin⟩ := id hC
  obtain ⟨-, h1, h2, h3, h4⟩ := mp_cb (mc' := mc') (ms' := ms') hC Y hd
  have hsl : (Cond.selects r.1 x μ'.2.2.2).before #[] Γ.s = true := by
    rw [← hxx]
    exact mp_selp hz how2 (mp_TB.use hTB hl3) (mp_TB.use hTB hl5) (mp_TB.use hTB hl6)
  have hde : va_Decl Γ.s ⟨owner, x.name, x.desc⟩ := by
    rcases hdecl with h | ⟨h, b0, m0, r0, h'⟩
    · exact va_Decl.abs (mp_TB.use hTB h)
    · exact va_Decl.of (args := #[]) (mp_TB.use hTB h) (mp_TB.use hTB h')
  refine mp_after (va_runU (Ts := []) (C := r.1) (owner := owner) ⟨hx, hb, hml, hown, fun w h => by cases h⟩ (hc.met H.size) ⟨⟨rfl, rfl, h1, h2, h3, List.mem_cons_self⟩, mp_TB.use hTB Y.1, mp_TB.use hTB Y.2.1, how, fun sig h => h4 sig (by rw [← hxd]; exact h), mp_TB.use hTB hl1, mp_TB.use hTB hl4, hde, hsl, mp_TB.use hTB hl2⟩ ⟨(mp_pre hC hH).1, va_recv (q0 := 0) hK (mp_one (hH.1 b _ hM).1) hci rfl, (mp_pre hC hH).2⟩ rfl hn' hl.1 hst (mp_room hW) d ⟨Nat.le_trans hk hrm.2.2.1, Nat.le_trans hn hrm.2.2.2⟩) hH fun v M' H1 locs1 hp hH1 => kk v M' hp hC H1 locs1 ls hH1 hl
set_option maxRecDepth 100000 in
theorem w_775 : mp_w (Jvm.Cond.privateMethod ({ cls := "ScriptDesk$Sum", name := "load", desc := "([BII)V" } : Jvm.MethodName)) := ⟨List.mem_append_right _ (List.mem_of_getElem? (i := 775) rfl), rfl⟩
set_option maxRecDepth 100000 in
theorem w_782 : mp_w (Jvm.Cond.privateMethod ({ cls := "ScriptDesk$Sum", name := "shift", desc := "(I)I" } : Jvm.MethodName)) := ⟨List.mem_append_right _ (List.mem_of_getElem? (i := 782) rfl), rfl⟩
set_option maxRecDepth 100000 in
theorem w_817 : mp_w (Jvm.Cond.privateMethod ({ cls := "ScriptDesk$Sha256", name := "stretch", desc := "()V" } : Jvm.MethodName)) := ⟨List.mem_append_right _ (List.mem_of_getElem? (i := 817) rfl), rfl⟩
set_option maxRecDepth 100000 in
theorem w_827 : mp_w (Jvm.Cond.privateMethod ({ cls := "ScriptDesk$Sha256", name := "turn", desc := "(I)V" } : Jvm.MethodName)) := ⟨List.mem_append_right _ (List.mem_of_getElem? (i := 827) rfl), rfl⟩
set_option maxRecDepth 100000 in
theorem w_831 : mp_w (Jvm.Cond.privateMethod ({ cls := "ScriptDesk$Sum", name := "result", desc := "()LScriptDesk$Thing;" } : Jvm.MethodName)) := ⟨List.mem_append_right _ (List.mem_of_getElem? (i := 831) rfl), rfl⟩
set_option maxRecDepth 100000 in
theorem w_837 : mp_w (Jvm.Cond.privateMethod ({ cls := "ScriptDesk$Machine", name := "checkSignatures", desc := "(I)Z" } : Jvm.MethodName)) := ⟨List.mem_append_right _ (List.mem_of_getElem? (i := 837) rfl), rfl⟩
