theorem mp_noo {ci cj : Nat} {fs gs : List Value} (h : ci ≠ cj) : mp_o ci fs ≠ mp_o cj gs := fun e => h (by injection e with e; injection e)
theorem mp_noa {ci : Nat} {fs : List Value} {x : ClassId × vp_A} : mp_o ci fs ≠ .inl x := fun e => by cases e
theorem mp_nao {ci : Nat} {fs : List Value} {x : ClassId × vp_A} : (.inl x : va_E) ≠ mp_o ci fs := fun e => by cases e
theorem mp_niq {c c' : ClassId} {n n' : Nat} {f : Nat → Int32} {g : Nat → Option Nat} : (.inl (c, n, .inl f) : va_E) ≠ .inl (c', n', .inr (.inr (.inr (.inr g)))) := fun e => by
  injection e with e; injection e with _ e; injection e with _ e; cases e
theorem mp_nqi {c c' : ClassId} {n n' : Nat} {f : Nat → Int32} {g : Nat → Option Nat} : (.inl (c', n', .inr (.inr (.inr (.inr g)))) : va_E) ≠ .inl (c, n, .inl f) := fun e => mp_niq e.symm
theorem mp_nil {c c' : ClassId} {n n' : Nat} {f : Nat → Int32} {g : Nat → Int64} : (.inl (c, n, .inl f) : va_E) ≠ .inl (c', n', .inr (.inl g)) := fun e => by
  injection e with e; injection e with _ e; injection e with _ e; cases e
theorem mp_nli {c c' : ClassId} {n n' : Nat} {f : Nat → Int32} {g : Nat → Int64} : (.inl (c', n', .inr (.inl g)) : va_E) ≠ .inl (c, n, .inl f) := fun e => mp_nil e.symm
/-- a boolean answer -/
def tf (b : Bool) : Int32 := if b = true then 1 else 0
theorem tf_01 (b : Bool) : tf b = 0 ∨ tf b = 1 := by cases b <;> simp [tf]
theorem rv_1 {p : Prop} [Decidable p] (h : p) : some (Value.int (nI 1)) = some (Value.int (tf (decide p))) := by rw [decide_eq_true h]; rfl
theorem rv_0 {p : Prop} [Decidable p] (h : ¬ p) : some (Value.int (nI 0)) = some (Value.int (tf (decide p))) := by rw [decide_eq_false h]; rfl
theorem rb_1 {b : Bool} (h : b = true) : some (Value.int (nI 1)) = some (Value.int (tf b)) := by rw [h]; rfl
theorem rb_0 {b : Bool} (h : b = false) : some (Value.int (nI 0)) = some (Value.int (tf b)) := by rw [h]; rfl
/-- a byte as a number from 0 to 255 -/
def ub (x : Int32) : Nat := x.toBitVec.toNat % 256
theorem ub_lt (x : Int32) : ub x < 256 := Nat.mod_lt _ (by decide)
theorem ub_and (x : Int32) : x &&& 255 = nI (ub x) := pk_and x 8 (by decide)
section THR
variable {Γ : mp_G} {μ : mp_D} {E : mp_E} {κ : mp_K} {M : mp_M} {lv : List (Nat × Value)} {pc : Nat} {st : List Value} {k n : Nat}
/-- 'throw new X()' -/
theorem j_throw {X : String} {names : List String} {ik ic : Nat} (hl : Γ.l.stackTraces = false) (hcls : Bundle.fit X = true) (hnames : ∀ n ∈ names, Bundle.fit n = true) (hk : mp_w (.classLink μ.2.2.2.cls ik X)) (hini : mp_w (.initialized X)) (hat : ∀ w ∈ vx_at0 μ.2.2.2.cls ic X names, mp_w w) (hgood : ∀ w ∈ Cond.classLink μ.2.2.2.cls ik X :: Cond.initialized X :: vx_at0 μ.2.2.2.cls ic X names, vx_ot w = true)
    (d0 : decode μ.1 pc = .ok (.new ik, 3)) (d3 : decode μ.1 (pc + 3) = .ok (.dup, 1)) (d4 : decode μ.1 (pc + 4) = .ok (.invokespecial ic, 3)) (d7 : decode μ.1 (pc + 7) = .ok (.athrow, 1)) (hlaw : μ.2.2.2.cls ≠ "ScriptDeskLaw") (hst : (st.map fun v => v.category).sum ≤ 8) (hd : 8 ≤ κ.2.1) (hnl : names.length = 2)
    (hkc : k + 1 ≤ κ.2.2.1) (hnc : n + 6 ≤ κ.2.2.2.1) (hp : κ.2.2.2.2 (.inr X) M) : mp_J Γ μ E κ M lv pc st k n := fun hC H locs ls hH hls => by
  obtain ⟨hx, hb, hml, hown, hr, hlk, hnm, hTB, hK, hSt, hZ, hrm, hex, hfin⟩ := id hC
  have hex0 : Γ.c.exceptionTable.toList = [] := hex.resolve_right hlaw
  have key := vx_throw0 (p := Γ.p) (l := Γ.l) (e := Γ.e) (R := Γ.R) (s := Γ.s) (m := Γ.m) (args := Γ.args) (below := Γ.below) (meth := Γ.meth) (c := Γ.c) (H := H) (locs := locs) (cells := k) (slots := n) (rest := st) (ls := ls) (Qc := fun _ _ _ _ => False) (XC := fun E' _ t => E' = X ∧ H.size ≤ t.heap.size ∧ ∀ q : Nat, q < H.size → t.heap[q]? = H[q]?) (mc := κ.2.2.1) (ms := κ.2.2.2.1) (free := mp_A κ.1 Γ.s.heap.size) hx hb hl hown hcls hnames (mp_TB.use hTB hk) (mp_TB.use hTB hini) (fun w hw => mp_TB.use hTB (hat w hw)) hgood (hSt.2.1.narrow (mp_zA hC)) (hSt.2.2.1.narrow (mp_zA hC)) hH.2 (by rw [hml]; exact hls.1) d0 d3 d4 d7 (by rw [hex0]; intro x h; cases h) (by rw [hnl]; have := hrm.1; omega) (by rw [hnl]; have := hrm.2.1; omega) (Nat.le_trans hkc hrm.2.2.1) (Nat.le_trans hnc hrm.2.2.2) hlk (fun t _ h1 h2 => ⟨rfl, h1, h2⟩) hH.2.2.2 hkc hnc
  intro T hT X'
  obtain ⟨t, a1, o, b1, b2, b3⟩ := key T hT X'
  rcases b3 with ⟨h, -⟩ | ⟨q, rfl, E', ce, L, ⟨rfl, hz1, hz2⟩, hce, hcv, hcf, hW, hs, hL⟩
  · exact h.elim
  refine ⟨t, a1, hfin t _ b1 b2 ⟨hW, ⟨L, hs, hL⟩, ⟨Nat.le_trans hH.2.1 hz1, fun q' h1 h2 => ?_⟩, M, fun a e' h => ?_, fun a e' h => (hH.1 a e' h).2, E', hp, ce, ce.cls, hce, ?_, rfl, hcv⟩⟩
  · rw [hz2 q' (Nat.lt_of_lt_of_le h1 hH.2.1)]
    exact hH.2.2.1 q' h1 h2
  · exact (hH.1 a e' h).1.kept (hz2 a (hH.1 a e' h).1.lt)
  · rw [hW.alike.findClass]
    exact hcf
theorem j_tif_eq {b : Bool} {off : Int} (tgt : Nat) (d : decode μ.1 pc = .ok (.ifCond .eq off, 3)) (ht : (pc : Int) + off = (tgt : Int)) (kt : b = false → mp_J Γ μ E κ M lv tgt st k n) (kf : b = true → mp_J Γ μ E κ M lv (pc + 3) st k n) : mp_J Γ μ E κ M lv pc (.int (tf b) :: st) k n :=
  j_if_eq tgt d ht (fun h => kt (by cases b with
    | false => rfl
    | true => exact absurd h (by decide))) (fun h => kf (by cases b with
    | false => exact absurd rfl h
    | true => rfl))
theorem j_tif_ne {b : Bool} {off : Int} (tgt : Nat) (d : decode μ.1 pc = .ok (.ifCond .ne off, 3)) (ht : (pc : Int) + off = (tgt : Int)) (kt : b = true → mp_J Γ μ E κ M lv tgt st k n) (kf : b = false → mp_J Γ μ E κ M lv (pc + 3) st k n) : mp_J Γ μ E κ M lv pc (.int (tf b) :: st) k n :=
  j_if_ne tgt d ht (fun h => kt (by cases b with
    | false => exact absurd rfl h
    | true => rfl)) (fun h => kf (by cases b with
    | false => rfl
    | true => exact absurd h (by decide)))
end THR
theorem F_Br : mp_F 0 "ScriptDesk$Branches" T_Br 2 ty_Br := ⟨rfl, List.forall_mem_cons.mpr ⟨w_140, List.forall_mem_cons.mpr ⟨w_142, fun _ h => absurd h List.not_mem_nil⟩⟩, by decide +kernel, by decide +kernel⟩
theorem F_Ma : mp_F 1 "ScriptDesk$Machine" T_Ma 8 ty_Ma := ⟨rfl, List.forall_mem_cons.mpr ⟨w_171, List.forall_mem_cons.mpr ⟨w_173, List.forall_mem_cons.mpr ⟨w_175, List.forall_mem_cons.mpr ⟨w_177, List.forall_mem_cons.mpr ⟨w_179, List.forall_mem_cons.mpr ⟨w_181, List.forall_mem_cons.mpr ⟨w_183, List.forall_mem_cons.mpr ⟨w_185, fun _ h => absurd h List.not_mem_nil⟩⟩⟩⟩⟩⟩⟩⟩, by decide +kernel, by decide +kernel⟩
theorem F_Ri : mp_F 2 "ScriptDesk$Ripemd160" T_Ri 6 ty_Ri := ⟨rfl, List.forall_mem_cons.mpr ⟨w_88, List.forall_mem_cons.mpr ⟨w_90, List.forall_mem_cons.mpr ⟨w_92, List.forall_mem_cons.mpr ⟨w_93, List.forall_mem_cons.mpr ⟨w_94, List.forall_mem_cons.mpr ⟨w_95, fun _ h => absurd h List.not_mem_nil⟩⟩⟩⟩⟩⟩, by decide +kernel, by decide +kernel⟩
theorem F_Sh : mp_F 3 "ScriptDesk$Sha256" T_Sh 5 ty_Sh := ⟨rfl, List.forall_mem_cons.mpr ⟨w_65, List.forall_mem_cons.mpr ⟨w_67, List.forall_mem_cons.mpr ⟨w_69, List.forall_mem_cons.mpr ⟨w_71, List.forall_mem_cons.mpr ⟨w_73, fun _ h => absurd h List.not_mem_nil⟩⟩⟩⟩⟩, by decide +kernel, by decide +kernel⟩
theorem F_St : mp_F 4 "ScriptDesk$Stack" T_St 3 ty_St := ⟨rfl, List.forall_mem_cons.mpr ⟨w_125, List.forall_mem_cons.mpr ⟨w_127, List.forall_mem_cons.mpr ⟨w_129, fun _ h => absurd h List.not_mem_nil⟩⟩⟩, by decide +kernel, by decide +kernel⟩
theorem F_Th : mp_F 5 "ScriptDesk$Thing" T_Th 1 ty_Th := ⟨rfl, List.forall_mem_cons.mpr ⟨w_119, fun _ h => absurd h List.not_mem_nil⟩, by decide +kernel, by decide +kernel⟩
theorem F_De : mp_F 6 "ScriptDesk" T_De 6 ty_De := ⟨rfl, List.forall_mem_cons.mpr ⟨w_196, List.forall_mem_cons.mpr ⟨w_198, List.forall_mem_cons.mpr ⟨w_200, List.forall_mem_cons.mpr ⟨w_202, List.forall_mem_cons.mpr ⟨w_204, List.forall_mem_cons.mpr ⟨w_206, fun _ h => absurd h List.not_mem_nil⟩⟩⟩⟩⟩⟩, by decide +kernel, by decide +kernel⟩
theorem F_Mo : mp_F 7 "ScriptDeskModel" T_Mo 15 ty_Mo := ⟨rfl, List.forall_mem_cons.mpr ⟨w_958, List.forall_mem_cons.mpr ⟨w_960, List.forall_mem_cons.mpr ⟨w_962, List.forall_mem_cons.mpr ⟨w_964, List.forall_mem_cons.mpr ⟨w_966, List.forall_mem_cons.mpr ⟨w_968, List.forall_mem_cons.mpr ⟨w_970, List.forall_mem_cons.mpr ⟨w_972, List.forall_mem_cons.mpr ⟨w_974, List.forall_mem_cons.mpr ⟨w_976, List.forall_mem_cons.mpr ⟨w_978, List.forall_mem_cons.mpr ⟨w_980, List.forall_mem_cons.mpr ⟨w_982, List.forall_mem_cons.mpr ⟨w_984, List.forall_mem_cons.mpr ⟨w_986, fun _ h => absurd h List.not_mem_nil⟩⟩⟩⟩⟩⟩⟩⟩⟩⟩⟩⟩⟩⟩⟩, by decide +kernel, by decide +kernel⟩
set_option maxRecDepth 100000 in
theorem ws_0 : mp_w (.selects "java/lang/Throwable" ⟨"java/lang/Throwable", "fillInStackTrace", "(I)Ljava/lang/Throwable;"⟩ ⟨"java/lang/Throwable", "fillInStackTrace", "(I)Ljava/lang/Throwable;"⟩) := ⟨List.mem_append_left _ (List.mem_of_getElem? (i := 0) rfl), rfl⟩
set_option maxRecDepth 100000 in
theorem ws_1 : mp_w (.selects "ScriptDesk" ⟨"ScriptDesk", "append", "(I)V"⟩ ⟨"ScriptDesk", "append", "(I)V"⟩) := ⟨List.mem_append_left _ (List.mem_of_getElem? (i := 1) rfl), rfl⟩
set_option maxRecDepth 100000 in
theorem ws_2 : mp_w (.selects "ScriptDesk" ⟨"ScriptDesk", "rowHas", "(I)Z"⟩ ⟨"ScriptDesk", "rowHas", "(I)Z"⟩) := ⟨List.mem_append_left _ (List.mem_of_getElem? (i := 2) rfl), rfl⟩
set_option maxRecDepth 100000 in
theorem ws_3 : mp_w (.selects "ScriptDesk$Machine" ⟨"ScriptDesk$Machine", "count", "(I)Z"⟩ ⟨"ScriptDesk$Machine", "count", "(I)Z"⟩) := ⟨List.mem_append_left _ (List.mem_of_getElem? (i := 3) rfl), rfl⟩
set_option maxRecDepth 100000 in
theorem ws_4 : mp_w (.selects "ScriptDesk$Machine" ⟨"ScriptDesk$Machine", "branch", "(I)Z"⟩ ⟨"ScriptDesk$Machine", "branch", "(I)Z"⟩) := ⟨List.mem_append_left _ (List.mem_of_getElem? (i := 4) rfl), rfl⟩
set_option maxRecDepth 100000 in
theorem ws_5 : mp_w (.selects "ScriptDesk$Machine" ⟨"ScriptDesk$Machine", "enter", "(Z)Z"⟩ ⟨"ScriptDesk$Machine", "enter", "(Z)Z"⟩) := ⟨List.mem_append_left _ (List.mem_of_getElem? (i := 5) rfl), rfl⟩
set_option maxRecDepth 100000 in
theorem ws_6 : mp_w (.selects "ScriptDesk$Machine" ⟨"ScriptDesk$Machine", "pushFrom", "([BII)Z"⟩ ⟨"ScriptDesk$Machine", "pushFrom", "([BII)Z"⟩) := ⟨List.mem_append_left _ (List.mem_of_getElem? (i := 6) rfl), rfl⟩
set_option maxRecDepth 100000 in
theorem ws_7 : mp_w (.selects "ScriptDesk$Machine" ⟨"ScriptDesk$Machine", "perform", "(I)Z"⟩ ⟨"ScriptDesk$Machine", "perform", "(I)Z"⟩) := ⟨List.mem_append_left _ (List.mem_of_getElem? (i := 7) rfl), rfl⟩
set_option maxRecDepth 100000 in
theorem ws_8 : mp_w (.selects "ScriptDesk$Machine" ⟨"ScriptDesk$Machine", "constant", "(I)Z"⟩ ⟨"ScriptDesk$Machine", "constant", "(I)Z"⟩) := ⟨List.mem_append_left _ (List.mem_of_getElem? (i := 8) rfl), rfl⟩
set_option maxRecDepth 100000 in
theorem ws_9 : mp_w (.selects "ScriptDesk$Machine" ⟨"ScriptDesk$Machine", "pushNumber", "(J)Z"⟩ ⟨"ScriptDesk$Machine", "pushNumber", "(J)Z"⟩) := ⟨List.mem_append_left _ (List.mem_of_getElem? (i := 9) rfl), rfl⟩
set_option maxRecDepth 100000 in
theorem ws_10 : mp_w (.selects "ScriptDesk$Machine" ⟨"ScriptDesk$Machine", "arrange", "(I)Z"⟩ ⟨"ScriptDesk$Machine", "arrange", "(I)Z"⟩) := ⟨List.mem_append_left _ (List.mem_of_getElem? (i := 10) rfl), rfl⟩
set_option maxRecDepth 100000 in
theorem ws_11 : mp_w (.selects "ScriptDesk$Machine" ⟨"ScriptDesk$Machine", "nip", "()Z"⟩ ⟨"ScriptDesk$Machine", "nip", "()Z"⟩) := ⟨List.mem_append_left _ (List.mem_of_getElem? (i := 11) rfl), rfl⟩
set_option maxRecDepth 100000 in
theorem ws_12 : mp_w (.selects "ScriptDesk$Machine" ⟨"ScriptDesk$Machine", "fetch", "(Z)Z"⟩ ⟨"ScriptDesk$Machine", "fetch", "(Z)Z"⟩) := ⟨List.mem_append_left _ (List.mem_of_getElem? (i := 12) rfl), rfl⟩
set_option maxRecDepth 100000 in
theorem ws_13 : mp_w (.selects "ScriptDesk$Machine" ⟨"ScriptDesk$Machine", "countAt", "(II)I"⟩ ⟨"ScriptDesk$Machine", "countAt", "(II)I"⟩) := ⟨List.mem_append_left _ (List.mem_of_getElem? (i := 13) rfl), rfl⟩
set_option maxRecDepth 100000 in
theorem ws_14 : mp_w (.selects "ScriptDesk$Machine" ⟨"ScriptDesk$Machine", "tuck", "()Z"⟩ ⟨"ScriptDesk$Machine", "tuck", "()Z"⟩) := ⟨List.mem_append_left _ (List.mem_of_getElem? (i := 14) rfl), rfl⟩
set_option maxRecDepth 100000 in
theorem ws_15 : mp_w (.selects "ScriptDesk$Machine" ⟨"ScriptDesk$Machine", "compare", "(I)Z"⟩ ⟨"ScriptDesk$Machine", "compare", "(I)Z"⟩) := ⟨List.mem_append_left _ (List.mem_of_getElem? (i := 15) rfl), rfl⟩
set_option maxRecDepth 100000 in
theorem ws_16 : mp_w (.selects "ScriptDesk$Machine" ⟨"ScriptDesk$Machine", "pushTruth", "(Z)Z"⟩ ⟨"ScriptDesk$Machine", "pushTruth", "(Z)Z"⟩) := ⟨List.mem_append_left _ (List.mem_of_getElem? (i := 16) rfl), rfl⟩
set_option maxRecDepth 100000 in
theorem ws_17 : mp_w (.selects "ScriptDesk$Machine" ⟨"ScriptDesk$Machine", "changeNumber", "(I)Z"⟩ ⟨"ScriptDesk$Machine", "changeNumber", "(I)Z"⟩) := ⟨List.mem_append_left _ (List.mem_of_getElem? (i := 17) rfl), rfl⟩
set_option maxRecDepth 100000 in
theorem ws_18 : mp_w (.selects "ScriptDesk$Machine" ⟨"ScriptDesk$Machine", "joinNumbers", "(I)Z"⟩ ⟨"ScriptDesk$Machine", "joinNumbers", "(I)Z"⟩) := ⟨List.mem_append_left _ (List.mem_of_getElem? (i := 18) rfl), rfl⟩
set_option maxRecDepth 100000 in
theorem ws_19 : mp_w (.selects "ScriptDesk$Machine" ⟨"ScriptDesk$Machine", "orderNumbers", "(I)Z"⟩ ⟨"ScriptDesk$Machine", "orderNumbers", "(I)Z"⟩) := ⟨List.mem_append_left _ (List.mem_of_getElem? (i := 19) rfl), rfl⟩
set_option maxRecDepth 100000 in
theorem ws_20 : mp_w (.selects "ScriptDesk$Machine" ⟨"ScriptDesk$Machine", "within", "()Z"⟩ ⟨"ScriptDesk$Machine", "within", "()Z"⟩) := ⟨List.mem_append_left _ (List.mem_of_getElem? (i := 20) rfl), rfl⟩
set_option maxRecDepth 100000 in
theorem ws_21 : mp_w (.selects "ScriptDesk$Machine" ⟨"ScriptDesk$Machine", "sum", "(I)Z"⟩ ⟨"ScriptDesk$Machine", "sum", "(I)Z"⟩) := ⟨List.mem_append_left _ (List.mem_of_getElem? (i := 21) rfl), rfl⟩
set_option maxRecDepth 100000 in
theorem ws_22 : mp_w (.selects "ScriptDesk$Sha256" ⟨"ScriptDesk$Sha256", "stretch", "()V"⟩ ⟨"ScriptDesk$Sha256", "stretch", "()V"⟩) := ⟨List.mem_append_left _ (List.mem_of_getElem? (i := 22) rfl), rfl⟩
set_option maxRecDepth 100000 in
theorem ws_23 : mp_w (.selects "ScriptDesk$Sha256" ⟨"ScriptDesk$Sha256", "turn", "(I)V"⟩ ⟨"ScriptDesk$Sha256", "turn", "(I)V"⟩) := ⟨List.mem_append_left _ (List.mem_of_getElem? (i := 23) rfl), rfl⟩
set_option maxRecDepth 100000 in
theorem ws_24 : mp_w (.selects "ScriptDesk$Machine" ⟨"ScriptDesk$Machine", "checkSignatures", "(I)Z"⟩ ⟨"ScriptDesk$Machine", "checkSignatures", "(I)Z"⟩) := ⟨List.mem_append_left _ (List.mem_of_getElem? (i := 24) rfl), rfl⟩
set_option maxRecDepth 100000 in
theorem ws_25 : mp_w (.selects "ScriptDesk$Machine" ⟨"ScriptDesk$Machine", "checkMany", "(Z)Z"⟩ ⟨"ScriptDesk$Machine", "checkMany", "(Z)Z"⟩) := ⟨List.mem_append_left _ (List.mem_of_getElem? (i := 25) rfl), rfl⟩
set_option maxRecDepth 100000 in
theorem ws_26 : mp_w (.selects "ScriptDesk" ⟨"ScriptDesk", "sumOfRow", "(I)LScriptDesk$Thing;"⟩ ⟨"ScriptDesk", "sumOfRow", "(I)LScriptDesk$Thing;"⟩) := ⟨List.mem_append_left _ (List.mem_of_getElem? (i := 26) rfl), rfl⟩
set_option maxRecDepth 100000 in
theorem ws_27 : mp_w (.selects "ScriptDeskModel" ⟨"ScriptDeskModel", "four", "(I)V"⟩ ⟨"ScriptDeskModel", "four", "(I)V"⟩) := ⟨List.mem_append_left _ (List.mem_of_getElem? (i := 27) rfl), rfl⟩
set_option maxRecDepth 100000 in
theorem ws_28 : mp_w (.selects "ScriptDeskModel" ⟨"ScriptDeskModel", "isLength", "(I)Z"⟩ ⟨"ScriptDeskModel", "isLength", "(I)Z"⟩) := ⟨List.mem_append_left _ (List.mem_of_getElem? (i := 28) rfl), rfl⟩
set_option maxRecDepth 100000 in
theorem ws_29 : mp_w (.selects "ScriptDeskModel" ⟨"ScriptDeskModel", "run", "([BII)Z"⟩ ⟨"ScriptDeskModel", "run", "([BII)Z"⟩) := ⟨List.mem_append_left _ (List.mem_of_getElem? (i := 29) rfl), rfl⟩
set_option maxRecDepth 100000 in
theorem ws_30 : mp_w (.selects "ScriptDeskModel" ⟨"ScriptDeskModel", "push", "([BII)V"⟩ ⟨"ScriptDeskModel", "push", "([BII)V"⟩) := ⟨List.mem_append_left _ (List.mem_of_getElem? (i := 30) rfl), rfl⟩
set_option maxRecDepth 100000 in
theorem ws_31 : mp_w (.selects "ScriptDeskModel" ⟨"ScriptDeskModel", "isTrue", "(I)Z"⟩ ⟨"ScriptDeskModel", "isTrue", "(I)Z"⟩) := ⟨List.mem_append_left _ (List.mem_of_getElem? (i := 31) rfl), rfl⟩
set_option maxRecDepth 100000 in
theorem ws_32 : mp_w (.selects "ScriptDeskModel" ⟨"ScriptDeskModel", "isDone", "(I)Z"⟩ ⟨"ScriptDeskModel", "isDone", "(I)Z"⟩) := ⟨List.mem_append_left _ (List.mem_of_getElem? (i := 32) rfl), rfl⟩
set_option maxRecDepth 100000 in
theorem ws_33 : mp_w (.selects "ScriptDeskModel" ⟨"ScriptDeskModel", "pushNumber", "(J)V"⟩ ⟨"ScriptDeskModel", "pushNumber", "(J)V"⟩) := ⟨List.mem_append_left _ (List.mem_of_getElem? (i := 33) rfl), rfl⟩
set_option maxRecDepth 100000 in
theorem ws_34 : mp_w (.selects "ScriptDeskModel" ⟨"ScriptDeskModel", "isArithmetic", "(I)Z"⟩ ⟨"ScriptDeskModel", "isArithmetic", "(I)Z"⟩) := ⟨List.mem_append_left _ (List.mem_of_getElem? (i := 34) rfl), rfl⟩
set_option maxRecDepth 100000 in
theorem ws_35 : mp_w (.selects "ScriptDeskModel" ⟨"ScriptDeskModel", "has", "(I)Z"⟩ ⟨"ScriptDeskModel", "has", "(I)Z"⟩) := ⟨List.mem_append_left _ (List.mem_of_getElem? (i := 35) rfl), rfl⟩
set_option maxRecDepth 100000 in
theorem ws_36 : mp_w (.selects "ScriptDeskModel" ⟨"ScriptDeskModel", "isNumber", "(I)Z"⟩ ⟨"ScriptDeskModel", "isNumber", "(I)Z"⟩) := ⟨List.mem_append_left _ (List.mem_of_getElem? (i := 36) rfl), rfl⟩
set_option maxRecDepth 100000 in
theorem ws_37 : mp_w (.selects "ScriptDeskModel" ⟨"ScriptDeskModel", "numberAt", "(I)J"⟩ ⟨"ScriptDeskModel", "numberAt", "(I)J"⟩) := ⟨List.mem_append_left _ (List.mem_of_getElem? (i := 37) rfl), rfl⟩
set_option maxRecDepth 100000 in
theorem ws_38 : mp_w (.selects "ScriptDeskModel" ⟨"ScriptDeskModel", "move", "(II)V"⟩ ⟨"ScriptDeskModel", "move", "(II)V"⟩) := ⟨List.mem_append_left _ (List.mem_of_getElem? (i := 38) rfl), rfl⟩
set_option maxRecDepth 100000 in
theorem ws_39 : mp_w (.selects "ScriptDeskModel" ⟨"ScriptDeskModel", "again", "(I)Z"⟩ ⟨"ScriptDeskModel", "again", "(I)Z"⟩) := ⟨List.mem_append_left _ (List.mem_of_getElem? (i := 39) rfl), rfl⟩
set_option maxRecDepth 100000 in
theorem ws_40 : mp_w (.selects "ScriptDeskModel" ⟨"ScriptDeskModel", "takes", "(IZ)Z"⟩ ⟨"ScriptDeskModel", "takes", "(IZ)Z"⟩) := ⟨List.mem_append_left _ (List.mem_of_getElem? (i := 40) rfl), rfl⟩
set_option maxRecDepth 100000 in
theorem ws_41 : mp_w (.selects "ScriptDeskModel" ⟨"ScriptDeskModel", "isSame", "(II)Z"⟩ ⟨"ScriptDeskModel", "isSame", "(II)Z"⟩) := ⟨List.mem_append_left _ (List.mem_of_getElem? (i := 41) rfl), rfl⟩
set_option maxRecDepth 100000 in
theorem ws_42 : mp_w (.selects "ScriptDeskModel" ⟨"ScriptDeskModel", "pushTruth", "(Z)V"⟩ ⟨"ScriptDeskModel", "pushTruth", "(Z)V"⟩) := ⟨List.mem_append_left _ (List.mem_of_getElem? (i := 42) rfl), rfl⟩
set_option maxRecDepth 100000 in
theorem ws_43 : mp_w (.selects "ScriptDeskModel" ⟨"ScriptDeskModel", "hashed", "(I)Z"⟩ ⟨"ScriptDeskModel", "hashed", "(I)Z"⟩) := ⟨List.mem_append_left _ (List.mem_of_getElem? (i := 43) rfl), rfl⟩
set_option maxRecDepth 100000 in
theorem ws_44 : mp_w (.selects "ScriptDeskModel" ⟨"ScriptDeskModel", "ripemd", "([BII)V"⟩ ⟨"ScriptDeskModel", "ripemd", "([BII)V"⟩) := ⟨List.mem_append_left _ (List.mem_of_getElem? (i := 44) rfl), rfl⟩
set_option maxRecDepth 100000 in
theorem ws_45 : mp_w (.selects "ScriptDeskModel" ⟨"ScriptDeskModel", "sha", "([BII)V"⟩ ⟨"ScriptDeskModel", "sha", "([BII)V"⟩) := ⟨List.mem_append_left _ (List.mem_of_getElem? (i := 45) rfl), rfl⟩
set_option maxRecDepth 100000 in
theorem ws_46 : mp_w (.selects "ScriptDeskModel" ⟨"ScriptDeskModel", "many", "(Z)Z"⟩ ⟨"ScriptDeskModel", "many", "(Z)Z"⟩) := ⟨List.mem_append_left _ (List.mem_of_getElem? (i := 46) rfl), rfl⟩
set_option maxRecDepth 100000 in
theorem ws_47 : mp_w (.selects "ScriptDeskModel" ⟨"ScriptDeskModel", "isThing", "(I)Z"⟩ ⟨"ScriptDeskModel", "isThing", "(I)Z"⟩) := ⟨List.mem_append_left _ (List.mem_of_getElem? (i := 47) rfl), rfl⟩
theorem Y_De_init : mp_Y m_De_init 0 := ⟨w_34, w_1, by decide +kernel, by decide⟩
theorem Y_Sh_init : mp_Y m_Sh_init 0 := ⟨w_42, w_3, by decide +kernel, by decide⟩
theorem Y_Su_init : mp_Y m_Su_init 3 := ⟨w_47, w_2, by decide +kernel, by decide⟩
theorem Y_Mt_max : mp_Y m_Mt_max 2 := ⟨w_51, w_4, by decide +kernel, by decide⟩
theorem Y_Ri_init : mp_Y m_Ri_init 0 := ⟨w_82, w_5, by decide +kernel, by decide⟩
theorem Y_Ma_init : mp_Y m_Ma_init 2 := ⟨w_101, w_6, by decide +kernel, by decide⟩
theorem Y_St_init : mp_Y m_St_init 0 := ⟨w_107, w_7, by decide +kernel, by decide⟩
theorem Y_Th_init : mp_Y m_Th_init 1 := ⟨w_114, w_8, by decide +kernel, by decide⟩
theorem Y_Br_init : mp_Y m_Br_init 0 := ⟨w_136, w_9, by decide +kernel, by decide⟩
theorem Y_Th_ofNumber : mp_Y m_Th_ofNumber 1 := ⟨w_147, w_8, by decide +kernel, by decide⟩
theorem Y_Mt_abs : mp_Y m_Mt_abs 1 := ⟨w_150, w_4, by decide +kernel, by decide⟩
theorem Y_Th_bytesFor : mp_Y m_Th_bytesFor 1 := ⟨w_153, w_8, by decide +kernel, by decide⟩
theorem Y_Lo_numberOfLeadingZeros : mp_Y m_Lo_numberOfLeadingZeros 1 := ⟨w_156, w_10, by decide +kernel, by decide⟩
theorem Y_In_numberOfLeadingZeros : mp_Y m_In_numberOfLeadingZeros 1 := ⟨w_159, w_11, by decide +kernel, by decide⟩
theorem Y_De_depth : mp_Y m_De_depth 0 := ⟨w_212, w_1, by decide +kernel, by decide⟩
theorem Y_St_count : mp_Y m_St_count 0 := ⟨w_216, w_7, by decide +kernel, by decide⟩
theorem Y_De_feed : mp_Y m_De_feed 5 := ⟨w_224, w_1, by decide +kernel, by decide⟩
theorem Y_De_append : mp_Y m_De_append 1 := ⟨w_293, w_1, by decide +kernel, by decide⟩
theorem Y_De_end : mp_Y m_De_end 1 := ⟨w_301, w_1, by decide +kernel, by decide⟩
theorem Y_De_rowHas : mp_Y m_De_rowHas 1 := ⟨w_305, w_1, by decide +kernel, by decide⟩
theorem Y_De_run : mp_Y m_De_run 1 := ⟨w_327, w_1, by decide +kernel, by decide⟩
theorem Y_Ma_clear : mp_Y m_Ma_clear 0 := ⟨w_331, w_6, by decide +kernel, by decide⟩
theorem Y_St_clear : mp_Y m_St_clear 0 := ⟨w_335, w_7, by decide +kernel, by decide⟩
theorem Y_Ma_play : mp_Y m_Ma_play 3 := ⟨w_339, w_6, by decide +kernel, by decide⟩
theorem Y_Br_clear : mp_Y m_Br_clear 0 := ⟨w_343, w_9, by decide +kernel, by decide⟩
theorem Y_Co_carried : mp_Y m_Co_carried 3 := ⟨w_346, w_18, by decide +kernel, by decide⟩
theorem Y_Ma_count : mp_Y m_Ma_count 1 := ⟨w_350, w_6, by decide +kernel, by decide⟩
theorem Y_Co_isBranch : mp_Y m_Co_isBranch 1 := ⟨w_353, w_18, by decide +kernel, by decide⟩
theorem Y_Ma_branch : mp_Y m_Ma_branch 1 := ⟨w_357, w_6, by decide +kernel, by decide⟩
theorem Y_Ma_enter : mp_Y m_Ma_enter 1 := ⟨w_361, w_6, by decide +kernel, by decide⟩
theorem Y_Br_taken : mp_Y m_Br_taken 0 := ⟨w_365, w_9, by decide +kernel, by decide⟩
theorem Y_Br_enter : mp_Y m_Br_enter 1 := ⟨w_369, w_9, by decide +kernel, by decide⟩
theorem Y_St_holds : mp_Y m_St_holds 1 := ⟨w_373, w_7, by decide +kernel, by decide⟩
theorem Y_St_pop : mp_Y m_St_pop 0 := ⟨w_377, w_7, by decide +kernel, by decide⟩
theorem Y_Th_isTrue : mp_Y m_Th_isTrue 0 := ⟨w_381, w_8, by decide +kernel, by decide⟩
theorem Y_Th_byteAt : mp_Y m_Th_byteAt 1 := ⟨w_385, w_8, by decide +kernel, by decide⟩
theorem Y_Br_anyOpen : mp_Y m_Br_anyOpen 0 := ⟨w_389, w_9, by decide +kernel, by decide⟩
theorem Y_Br_turn : mp_Y m_Br_turn 0 := ⟨w_393, w_9, by decide +kernel, by decide⟩
theorem Y_Br_leave : mp_Y m_Br_leave 0 := ⟨w_397, w_9, by decide +kernel, by decide⟩
theorem Y_Co_isPush : mp_Y m_Co_isPush 1 := ⟨w_400, w_18, by decide +kernel, by decide⟩
theorem Y_Ma_pushFrom : mp_Y m_Ma_pushFrom 3 := ⟨w_404, w_6, by decide +kernel, by decide⟩
theorem Y_Ar_copyOfRange : mp_Y m_Ar_copyOfRange 3 := ⟨w_408, w_19, by decide +kernel, by decide⟩
theorem Y_Ar_copyOfRangeByte : mp_Y m_Ar_copyOfRangeByte 3 := ⟨w_411, w_19, by decide +kernel, by decide⟩
theorem Y_Ar_checkLength : mp_Y m_Ar_checkLength 2 := ⟨w_414, w_19, by decide +kernel, by decide⟩
theorem Y_In_stringSize : mp_Y m_In_stringSize 1 := ⟨w_456, w_11, by decide +kernel, by decide⟩
theorem Y_Ar_copyOf : mp_Y m_Ar_copyOf 2 := ⟨w_476, w_19, by decide +kernel, by decide⟩
theorem Y_Mt_min : mp_Y m_Mt_min 2 := ⟨w_486, w_4, by decide +kernel, by decide⟩
theorem Y_In_getChars : mp_Y m_In_getChars 3 := ⟨w_497, w_11, by decide +kernel, by decide⟩
theorem Y_St_push : mp_Y m_St_push 1 := ⟨w_659, w_7, by decide +kernel, by decide⟩
theorem Y_Ma_perform : mp_Y m_Ma_perform 1 := ⟨w_663, w_6, by decide +kernel, by decide⟩
theorem Y_Ma_constant : mp_Y m_Ma_constant 1 := ⟨w_667, w_6, by decide +kernel, by decide⟩
theorem Y_Ma_pushNumber : mp_Y m_Ma_pushNumber 1 := ⟨w_672, w_6, by decide +kernel, by decide⟩
theorem Y_Ma_arrange : mp_Y m_Ma_arrange 1 := ⟨w_676, w_6, by decide +kernel, by decide⟩
theorem Y_Co_needs : mp_Y m_Co_needs 1 := ⟨w_680, w_18, by decide +kernel, by decide⟩
theorem Y_St_drop : mp_Y m_St_drop 1 := ⟨w_684, w_7, by decide +kernel, by decide⟩
theorem Y_St_peek : mp_Y m_St_peek 1 := ⟨w_688, w_7, by decide +kernel, by decide⟩
theorem Y_Ma_nip : mp_Y m_Ma_nip 0 := ⟨w_693, w_6, by decide +kernel, by decide⟩
theorem Y_St_take : mp_Y m_St_take 1 := ⟨w_697, w_7, by decide +kernel, by decide⟩
theorem Y_Ma_fetch : mp_Y m_Ma_fetch 1 := ⟨w_702, w_6, by decide +kernel, by decide⟩
theorem Y_Ma_countAt : mp_Y m_Ma_countAt 2 := ⟨w_706, w_6, by decide +kernel, by decide⟩
theorem Y_Th_isNumber : mp_Y m_Th_isNumber 0 := ⟨w_710, w_8, by decide +kernel, by decide⟩
theorem Y_Th_toNumber : mp_Y m_Th_toNumber 0 := ⟨w_714, w_8, by decide +kernel, by decide⟩
theorem Y_Ma_tuck : mp_Y m_Ma_tuck 0 := ⟨w_718, w_6, by decide +kernel, by decide⟩
theorem Y_Th_length : mp_Y m_Th_length 0 := ⟨w_722, w_8, by decide +kernel, by decide⟩
theorem Y_Ma_compare : mp_Y m_Ma_compare 1 := ⟨w_726, w_6, by decide +kernel, by decide⟩
theorem Y_Th_same : mp_Y m_Th_same 1 := ⟨w_730, w_8, by decide +kernel, by decide⟩
theorem Y_Ma_pushTruth : mp_Y m_Ma_pushTruth 1 := ⟨w_734, w_6, by decide +kernel, by decide⟩
theorem Y_Ma_changeNumber : mp_Y m_Ma_changeNumber 1 := ⟨w_738, w_6, by decide +kernel, by decide⟩
theorem Y_St_holdsNumbers : mp_Y m_St_holdsNumbers 1 := ⟨w_742, w_7, by decide +kernel, by decide⟩
theorem Y_Ma_joinNumbers : mp_Y m_Ma_joinNumbers 1 := ⟨w_748, w_6, by decide +kernel, by decide⟩
theorem Y_Ma_orderNumbers : mp_Y m_Ma_orderNumbers 1 := ⟨w_752, w_6, by decide +kernel, by decide⟩
theorem Y_Mt_min2 : mp_Y m_Mt_min2 2 := ⟨w_755, w_4, by decide +kernel, by decide⟩
theorem Y_Mt_max2 : mp_Y m_Mt_max2 2 := ⟨w_758, w_4, by decide +kernel, by decide⟩
theorem Y_Ma_within : mp_Y m_Ma_within 0 := ⟨w_762, w_6, by decide +kernel, by decide⟩
theorem Y_Ma_sum : mp_Y m_Ma_sum 1 := ⟨w_766, w_6, by decide +kernel, by decide⟩
theorem Y_Su_of : mp_Y m_Su_of 2 := ⟨w_772, w_2, by decide +kernel, by decide⟩
theorem Y_Su_load : mp_Y m_Su_load 3 := ⟨w_777, w_2, by decide +kernel, by decide⟩
theorem Y_Su_filled : mp_Y m_Su_filled 3 := ⟨w_780, w_2, by decide +kernel, by decide⟩
theorem Y_Su_shift : mp_Y m_Su_shift 1 := ⟨w_784, w_2, by decide +kernel, by decide⟩
theorem Y_Ri_mix : mp_Y m_Ri_mix 0 := ⟨w_790, w_5, by decide +kernel, by decide⟩
theorem Y_Ri_turn : mp_Y m_Ri_turn 4 := ⟨w_800, w_5, by decide +kernel, by decide⟩
theorem Y_Ri_join : mp_Y m_Ri_join 4 := ⟨w_803, w_5, by decide +kernel, by decide⟩
theorem Y_In_rotateLeft : mp_Y m_In_rotateLeft 2 := ⟨w_806, w_11, by decide +kernel, by decide⟩
theorem Y_Sh_mix : mp_Y m_Sh_mix 0 := ⟨w_815, w_3, by decide +kernel, by decide⟩
theorem Y_Sh_stretch : mp_Y m_Sh_stretch 0 := ⟨w_819, w_3, by decide +kernel, by decide⟩
theorem Y_In_rotateRight : mp_Y m_In_rotateRight 2 := ⟨w_822, w_11, by decide +kernel, by decide⟩
theorem Y_Sh_turn : mp_Y m_Sh_turn 1 := ⟨w_829, w_3, by decide +kernel, by decide⟩
theorem Y_Su_result : mp_Y m_Su_result 0 := ⟨w_833, w_2, by decide +kernel, by decide⟩
theorem Y_Ma_checkSignatures : mp_Y m_Ma_checkSignatures 1 := ⟨w_839, w_6, by decide +kernel, by decide⟩
theorem Y_Ma_checkMany : mp_Y m_Ma_checkMany 1 := ⟨w_843, w_6, by decide +kernel, by decide⟩
theorem Y_Ma_handOver : mp_Y m_Ma_handOver 1 := ⟨w_847, w_6, by decide +kernel, by decide⟩
theorem Y_De_size : mp_Y m_De_size 1 := ⟨w_857, w_1, by decide +kernel, by decide⟩
theorem Y_De_at : mp_Y m_De_at 2 := ⟨w_881, w_1, by decide +kernel, by decide⟩
theorem Y_De_number : mp_Y m_De_number 1 := ⟨w_890, w_1, by decide +kernel, by decide⟩
theorem Y_De_sigs : mp_Y m_De_sigs 1 := ⟨w_914, w_1, by decide +kernel, by decide⟩
theorem Y_De_sigsOf : mp_Y m_De_sigsOf 1 := ⟨w_917, w_1, by decide +kernel, by decide⟩
theorem Y_De_hash : mp_Y m_De_hash 2 := ⟨w_925, w_1, by decide +kernel, by decide⟩
theorem Y_De_sumOfRow : mp_Y m_De_sumOfRow 1 := ⟨w_929, w_1, by decide +kernel, by decide⟩
theorem Y_Th_word : mp_Y m_Th_word 1 := ⟨w_934, w_8, by decide +kernel, by decide⟩
theorem Y_Mo_init : mp_Y m_Mo_init 0 := ⟨w_939, w_12, by decide +kernel, by decide⟩
theorem Y_Mo_thrown : mp_Y m_Mo_thrown 0 := ⟨w_993, w_12, by decide +kernel, by decide⟩
theorem Y_Mo_feed : mp_Y m_Mo_feed 5 := ⟨w_997, w_12, by decide +kernel, by decide⟩
theorem Y_Mo_four : mp_Y m_Mo_four 1 := ⟨w_1001, w_12, by decide +kernel, by decide⟩
theorem Y_Mo_end : mp_Y m_Mo_end 1 := ⟨w_1005, w_12, by decide +kernel, by decide⟩
theorem Y_Mo_isLength : mp_Y m_Mo_isLength 1 := ⟨w_1009, w_12, by decide +kernel, by decide⟩
theorem Y_Mo_run : mp_Y m_Mo_run 1 := ⟨w_1013, w_12, by decide +kernel, by decide⟩
theorem Y_Mo_run2 : mp_Y m_Mo_run2 3 := ⟨w_1018, w_12, by decide +kernel, by decide⟩
theorem Y_Mo_push : mp_Y m_Mo_push 3 := ⟨w_1022, w_12, by decide +kernel, by decide⟩
theorem Y_Mo_isTrue : mp_Y m_Mo_isTrue 1 := ⟨w_1026, w_12, by decide +kernel, by decide⟩
theorem Y_Mo_isDone : mp_Y m_Mo_isDone 1 := ⟨w_1030, w_12, by decide +kernel, by decide⟩
theorem Y_Mo_pushNumber : mp_Y m_Mo_pushNumber 1 := ⟨w_1034, w_12, by decide +kernel, by decide⟩
theorem Y_Mo_isArithmetic : mp_Y m_Mo_isArithmetic 1 := ⟨w_1038, w_12, by decide +kernel, by decide⟩
theorem Y_Mo_has : mp_Y m_Mo_has 1 := ⟨w_1042, w_12, by decide +kernel, by decide⟩
theorem Y_Mo_isNumber : mp_Y m_Mo_isNumber 1 := ⟨w_1046, w_12, by decide +kernel, by decide⟩
theorem Y_Mo_numberAt : mp_Y m_Mo_numberAt 1 := ⟨w_1050, w_12, by decide +kernel, by decide⟩
theorem Y_Mo_other : mp_Y m_Mo_other 1 := ⟨w_1055, w_12, by decide +kernel, by decide⟩
theorem Y_Mo_move : mp_Y m_Mo_move 2 := ⟨w_1059, w_12, by decide +kernel, by decide⟩
theorem Y_Mo_again : mp_Y m_Mo_again 1 := ⟨w_1063, w_12, by decide +kernel, by decide⟩
theorem Y_Mo_takes : mp_Y m_Mo_takes 2 := ⟨w_1067, w_12, by decide +kernel, by decide⟩
theorem Y_Mo_isSame : mp_Y m_Mo_isSame 2 := ⟨w_1071, w_12, by decide +kernel, by decide⟩
theorem Y_Mo_pushTruth : mp_Y m_Mo_pushTruth 1 := ⟨w_1075, w_12, by decide +kernel, by decide⟩
theorem Y_Mo_hashed : mp_Y m_Mo_hashed 1 := ⟨w_1079, w_12, by decide +kernel, by decide⟩
theorem Y_Mo_ripemd : mp_Y m_Mo_ripemd 3 := ⟨w_1083, w_12, by decide +kernel, by decide⟩
theorem Y_Mo_mix : mp_Y m_Mo_mix 4 := ⟨w_1092, w_12, by decide +kernel, by decide⟩
theorem Y_Mo_small : mp_Y m_Mo_small 2 := ⟨w_1097, w_12, by decide +kernel, by decide⟩
theorem Y_Mo_sha : mp_Y m_Mo_sha 3 := ⟨w_1111, w_12, by decide +kernel, by decide⟩
theorem Y_Mo_big : mp_Y m_Mo_big 2 := ⟨w_1116, w_12, by decide +kernel, by decide⟩
theorem Y_Mo_turn : mp_Y m_Mo_turn 2 := ⟨w_1119, w_12, by decide +kernel, by decide⟩
theorem Y_Mo_many : mp_Y m_Mo_many 1 := ⟨w_1125, w_12, by decide +kernel, by decide⟩
theorem Y_Mo_depth : mp_Y m_Mo_depth 0 := ⟨w_1130, w_12, by decide +kernel, by decide⟩
theorem Y_Mo_size : mp_Y m_Mo_size 1 := ⟨w_1134, w_12, by decide +kernel, by decide⟩
theorem Y_Mo_isThing : mp_Y m_Mo_isThing 1 := ⟨w_1138, w_12, by decide +kernel, by decide⟩
theorem Y_Mo_at : mp_Y m_Mo_at 2 := ⟨w_1142, w_12, by decide +kernel, by decide⟩
theorem Y_Mo_number : mp_Y m_Mo_number 1 := ⟨w_1146, w_12, by decide +kernel, by decide⟩
theorem Y_Mo_sigs : mp_Y m_Mo_sigs 1 := ⟨w_1150, w_12, by decide +kernel, by decide⟩
theorem Y_Mo_hash : mp_Y m_Mo_hash 2 := ⟨w_1154, w_12, by decide +kernel, by decide⟩
