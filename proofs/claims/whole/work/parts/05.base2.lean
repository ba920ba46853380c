section MPH
variable {Γ : mp_G} {μ : mp_D} {E : mp_E} {κ : mp_K} {M : mp_M} {lv : List (Nat × Value)} {pc : Nat} {st : List Value} {k n : Nat} {H H1 : Heap} {locs : List Loc}
theorem mp_one {D : va_G} {cl : List vw_C} {a : Nat} {e : va_E} (h : va_at D cl (a, e) H) : va_P D cl [(a, e)] H := by
  intro k q hk
  match k, hk with
  | 0, hk => cases hk; exact h
  | k + 1, hk => simp at hk
theorem mp_H.set {a slot : Nat} {e0 e : va_E} (hH : mp_H Γ E κ M H locs) (h0 : M a = some e0) (he : va_at E.1 vwCl (a, e) H1) (z : H1.size = H.size) (oq : ∀ q : Nat, q ≠ a → H1[q]? = H[q]?) : mp_H Γ E κ (mp_up M a e) H1 (locs ++ [⟨a, slot⟩]) := by
  refine ⟨fun b x hb => ?_, hH.2.put z oq (hH.1 a e0 h0).2⟩
  by_cases h : b = a
  · subst h
    rw [mp_s] at hb
    cases hb
    exact ⟨he, (hH.1 _ _ h0).2⟩
  · rw [mp_n h] at hb
    exact ⟨(hH.1 b x hb).1.kept (oq b h), (hH.1 b x hb).2⟩
theorem mp_H.new {e : va_E} (hH : mp_H Γ E κ M H locs) (he : va_at E.1 vwCl (H.size, e) H1) (z : H1.size = H.size + 1) (o1 : ∀ q : Nat, q < H.size → H1[q]? = H[q]?) : mp_H Γ E κ (mp_up M H.size e) H1 locs ∧ M H.size = none := by
  have hnone : M H.size = none := by
    cases h : M H.size with
    | none => rfl
    | some x => exact absurd (hH.1 _ _ h).1.lt (Nat.lt_irrefl _)
  refine ⟨⟨fun b x hb => ?_, ⟨Nat.le_trans hH.2.1 (by omega), fun q h1 h2 => (o1 q (Nat.lt_of_lt_of_le h1 hH.2.1)).trans (hH.2.2.1 q h1 h2), hH.2.2.2⟩⟩, hnone⟩
  by_cases h : b = H.size
  · subst h
    rw [mp_s] at hb
    cases hb
    exact ⟨he, Or.inr hH.2.1⟩
  · rw [mp_n h] at hb
    exact ⟨(hH.1 b x hb).1.kept (o1 b (hH.1 b x hb).1.lt), (hH.1 b x hb).2⟩
def mp_sm (ref : String) (T : u_T) (q : Nat) : Prop := ref = (T q).1 ∨ mp_w (.sameField ref (T q).1 (T q).2.1 (T q).2.2.1)
theorem mp_sm.go {s : State} {ref : String} {T : u_T} {q : Nat} (hTB : mp_TB s) (h : mp_sm ref T q) : ∀ x, s.fieldFound? (T q).1 (T q).2.1 (T q).2.2.1 = some x → s.fieldFound? ref (T q).2.1 (T q).2.2.1 = some x := by
  rcases h with h | h
  · subst h
    exact fun _ h => h
  · exact fun x h9 => u_same (args := #[]) (mp_TB.use hTB h) x h9
theorem j_get {C ref : String} {T : u_T} {N ci ix : Nat} {ty : Nat → FieldType} {a : Nat} {fs : List Value} {v : Value} (F : mp_F ci C T N ty) (hM : M a = some (mp_o ci fs)) (q : Nat) (hq : q < N) (hw : mp_w (.fieldLink μ.2.2.2.cls ix ref (T q).2.1 (T q).2.2.1)) (hs : mp_sm ref T q) (hv : fs[q]? = some v) (d : decode μ.1 pc = .ok (.getfield ix, 3)) (kk : mp_J Γ μ E κ M lv (pc + 3) (v :: st) k n) : mp_J Γ μ E κ M lv pc (.ref a :: st) k n := fun hC H locs ls hH hl => by
  obtain ⟨hx, hb, hml, hown, hr, hlk, hnm, hTB, hK, hSt, hZ, hrm, hfin⟩ := id hC
  exact va_get (D := E.1) (cl := vwCl) (ws := [(a, mp_o ci fs)]) hx hb (Ts := u_ws C T N) (fun w h => mp_TB.use hTB (F.2.1 w h)) (fun _ h => h) hown hK (mp_one (hH.1 a _ hM).1) 0 rfl F.1 q hq (mp_TB.use hTB hw) (hs.go hTB) hv d (kk hC H locs ls hH hl)
theorem j_getN {C ref host : String} {T : u_T} {N ci ix : Nat} {ty : Nat → FieldType} {a : Nat} {fs : List Value} {v : Value} (F : mp_F ci C T N ty) (hM : M a = some (mp_o ci fs)) (q : Nat) (hq : q < N) (hw : mp_w (.fieldLinkNest μ.2.2.2.cls ix ref (T q).2.1 (T q).2.2.1 host)) (hs : mp_sm ref T q) (hv : fs[q]? = some v) (d : decode μ.1 pc = .ok (.getfield ix, 3)) (kk : mp_J Γ μ E κ M lv (pc + 3) (v :: st) k n) : mp_J Γ μ E κ M lv pc (.ref a :: st) k n := fun hC H locs ls hH hl => by
  obtain ⟨hx, hb, hml, hown, hr, hlk, hnm, hTB, hK, hSt, hZ, hrm, hfin⟩ := id hC
  exact va_getN (D := E.1) (cl := vwCl) (ws := [(a, mp_o ci fs)]) hx hb (Ts := u_ws C T N) (fun w h => mp_TB.use hTB (F.2.1 w h)) (fun _ h => h) hown hK (mp_one (hH.1 a _ hM).1) 0 rfl F.1 q hq (mp_TB.use hTB hw) (hs.go hTB) hv d (kk hC H locs ls hH hl)
theorem j_put {C ref : String} {T : u_T} {N ci ix : Nat} {ty : Nat → FieldType} {a : Nat} {fs : List Value} {v : Value} (F : mp_F ci C T N ty) (hM : M a = some (mp_o ci fs)) (q : Nat) (hq : q < N) (hw : mp_w (.fieldLink μ.2.2.2.cls ix ref (T q).2.1 (T q).2.2.1)) (hs : mp_sm ref T q) (hfl : (T q).2.2.2 = false) (hnr : narrow (ty q) v = v) (hft : fits (ty q) v = true) (hlen : q < fs.length) (d : decode μ.1 pc = .ok (.putfield ix, 3)) (kk : mp_J Γ μ E κ (mp_up M a (mp_o ci (fs.set q v))) lv (pc + 3) st k n) : mp_J Γ μ E κ M lv pc (v :: .ref a :: st) k n := fun hC H locs ls hH hl => by
  obtain ⟨hx, hb, hml, hown, hr, hlk, hnm, hTB, hK, hSt, hZ, hrm, hfin⟩ := id hC
  have hts : ∀ w ∈ u_ws C T N, w.before Γ.args Γ.s = true := fun w h => mp_TB.use hTB (F.2.1 w h)
  have hap := va_apart (own := μ.2.2.2.cls) hts (fun _ h => h) ty F.2.2.1 F.2.2.2 hK F.1
  obtain ⟨r, h1, cell, q1, q2, q3, q4⟩ := (hH.1 a _ hM).1
  have hr' : r = (C, T, N) := Option.some.inj (h1.symm.trans F.1)
  subst hr'
  obtain ⟨hS, hfc, kC, hkC, hkind⟩ := hK.1 ci _ F.1
  obtain ⟨cf, kf, fi, f, hi, hsl⟩ := hS q hq
  have hlay := hts _ (u_in_lay hq)
  unfold u_lay at hlay
  rw [if_neg (by rw [hfl]; decide)] at hlay
  have hst := (u_facts hfc hkC (u_lays hts (fun _ h => h) hq) hi).1
  have h6 := u_store hfc hkC hkind hlay hi (F.2.2.1 q hq) hnr hft
  refine W.putK hx hb (f := f) ⟨hown, mp_TB.use hTB hw, ⟨_, _, _, hs.go hTB _ hi⟩, hst⟩ (by rw [q2]; exact h6) q1 q3 (by rw [hsl]; exact k2_hasslot (q4 q hq)) rfl rfl d fun H' e1 e2 e3 => ?_
  rw [hsl] at e1 ⊢
  exact kk hC H' _ ls (hH.set hM ⟨_, F.1, t_OB.to (V := updV (vp_V fs) q v) ⟨_, e1, q2, q3, t_set q4 hap hq v⟩ (fun j _ => vp_updV_set hlen v j)⟩ e2 e3) hl
theorem j_putF {C ref : String} {T : u_T} {N ci ix : Nat} {ty : Nat → FieldType} {a : Nat} {fs : List Value} {v : Value} (F : mp_F ci C T N ty) (hM : M a = some (mp_o ci fs)) (q : Nat) (hq : q < N) (hw : mp_w (.fieldLink μ.2.2.2.cls ix ref (T q).2.1 (T q).2.2.1)) (hs : mp_sm ref T q) (hfl : (T q).2.2.2 = true) (hini : μ.2.2.2.name = "<init>") (hdecl : (T q).1 = μ.2.2.2.cls) (hnr : narrow (ty q) v = v) (hft : fits (ty q) v = true) (hlen : q < fs.length) (d : decode μ.1 pc = .ok (.putfield ix, 3)) (kk : mp_J Γ μ E κ (mp_up M a (mp_o ci (fs.set q v))) lv (pc + 3) st k n) : mp_J Γ μ E κ M lv pc (v :: .ref a :: st) k n := fun hC H locs ls hH hl => by
  obtain ⟨hx, hb, hml, hown, hr, hlk, hnm, hTB, hK, hSt, hZ, hrm, hfin⟩ := id hC
  have hts : ∀ w ∈ u_ws C T N, w.before Γ.args Γ.s = true := fun w h => mp_TB.use hTB (F.2.1 w h)
  have hap := va_apart (own := μ.2.2.2.cls) hts (fun _ h => h) ty F.2.2.1 F.2.2.2 hK F.1
  obtain ⟨r, h1, cell, q1, q2, q3, q4⟩ := (hH.1 a _ hM).1
  have hr' : r = (C, T, N) := Option.some.inj (h1.symm.trans F.1)
  subst hr'
  obtain ⟨hS, hfc, kC, hkC, hkind⟩ := hK.1 ci _ F.1
  obtain ⟨cf, kf, fi, f, hi, hsl⟩ := hS q hq
  have hlay := hts _ (u_in_lay hq)
  unfold u_lay at hlay
  rw [if_pos hfl] at hlay
  have hst := (u_facts hfc hkC (u_lays hts (fun _ h => h) hq) hi).1
  have hcf : Γ.m.cls = cf := by
    obtain ⟨_, _, c', _, _, _, -, -, hf', -, -, -, hown2, -⟩ := Cond.laysFinal_spec hlay
    have e1 : c' = cf := by have := hi.symm.trans hf'; simp at this; exact this.1.symm
    rw [hdecl] at hown2
    rw [← e1]; exact Option.some.inj (hown.symm.trans hown2)
  have h6 := u_fits hfc hkC hkind (Or.inr hlay) hi (F.2.2.1 q hq) hnr hft
  refine W.putFinK hx hb hown (mp_TB.use hTB hw) (hs.go hTB _ hi) hst hcf (hnm.trans hini) (by rw [q2]; exact h6) q1 q3 (by rw [hsl]; exact k2_hasslot (q4 q hq)) rfl rfl d fun H' e1 e2 e3 => ?_
  rw [hsl] at e1 ⊢
  exact kk hC H' _ ls (hH.set hM ⟨_, F.1, t_OB.to (V := updV (vp_V fs) q v) ⟨_, e1, q2, q3, t_set q4 hap hq v⟩ (fun j _ => vp_updV_set hlen v j)⟩ e2 e3) hl
theorem j_new {C : String} {T : u_T} {N ci ix : Nat} {ty : Nat → FieldType} (fs : List Value) (F : mp_F ci C T N ty) (hw1 : mp_w (.classLink μ.2.2.2.cls ix C)) (hw2 : mp_w (.instantiable C N)) (hw3 : mp_w (.initialized C)) (hfs : ∀ j, j < N → defaultValue (ty j) = vp_V fs j) (hk : k + 1 ≤ κ.2.2.1) (hn : n + N ≤ κ.2.2.2.1) (d : decode μ.1 pc = .ok (.new ix, 3))
    (kk : ∀ q : Nat, M q = none → mp_J Γ μ E κ (mp_up M q (mp_o ci fs)) lv (pc + 3) (.ref q :: st) (k + 1) (n + N)) : mp_J Γ μ E κ M lv pc st k n := fun hC H locs ls hH hl => by
  obtain ⟨hx, hb, hml, hown, hr, hlk, hnm, hTB, hK, hSt, hZ, hrm, hfin⟩ := id hC
  have hts : ∀ w ∈ u_ws C T N, w.before Γ.args Γ.s = true := fun w h => mp_TB.use hTB (F.2.1 w h)
  have hKn := hK.1 ci _ F.1
  refine W.newcK hx hb hown (mp_TB.use hTB hw1) (mp_TB.use hTB hw2) (mp_TB.use hTB hw3) rfl d (Nat.le_trans hk hrm.2.2.1) (Nat.le_trans hn hrm.2.2.2) hKn.2.1 rfl fun H1 kC hkC e1 z1 o1 => ?_
  obtain ⟨hH1, h0⟩ := hH.new (H1 := H1) (e := mp_o ci fs) ⟨_, F.1, (u_born ty hts (fun _ h => h) hKn hkC e1 F.2.2.1).to hfs⟩ z1 o1
  exact kk _ h0 hC H1 locs ls hH1 hl
theorem mp_clamp {j n : Nat} (h : j < n) (hn : n < 2 ^ 31) : (nI j).toNatClampNeg = j := nI_clamp (Nat.lt_trans h hn)
theorem j_bald {a m : Nat} {f : Nat → Int32} (hM : M a = some (mp_b E m f)) {i : Int32} (j : Nat) (hi : i = nI j) (hj : j < m) (hm : m < 2 ^ 31) (d : decode μ.1 pc = .ok (.baload, 1)) (kk : mp_J Γ μ E κ M lv (pc + 1) (.int (f j) :: st) k n) : mp_J Γ μ E κ M lv pc (.int i :: .ref a :: st) k n := fun hC H locs ls hH hl => by
  obtain ⟨hx, hb, hml, hown, hr, hlk, hnm, hTB, hK, hSt, hZ, hrm, hfin⟩ := id hC
  subst hi
  have h1 := kk hC H locs ls hH hl
  rw [← mp_clamp hj hm] at h1
  exact va_bald hx hb hK (mp_one (hH.1 a _ hM).1) 0 0 rfl rfl (vp_in_nI hj hm) d h1
theorem j_iald {a m : Nat} {f : Nat → Int32} (hM : M a = some (mp_i E m f)) {i : Int32} (j : Nat) (hi : i = nI j) (hj : j < m) (hm : m < 2 ^ 31) (d : decode μ.1 pc = .ok (.iaload, 1)) (kk : mp_J Γ μ E κ M lv (pc + 1) (.int (f j) :: st) k n) : mp_J Γ μ E κ M lv pc (.int i :: .ref a :: st) k n := fun hC H locs ls hH hl => by
  obtain ⟨hx, hb, hml, hown, hr, hlk, hnm, hTB, hK, hSt, hZ, hrm, hfin⟩ := id hC
  subst hi
  have h1 := kk hC H locs ls hH hl
  rw [← mp_clamp hj hm] at h1
  exact va_iald hx hb hK (mp_one (hH.1 a _ hM).1) 0 1 rfl rfl (vp_in_nI hj hm) d h1
theorem j_zald {a m : Nat} {f : Nat → Int32} (hM : M a = some (mp_z E m f)) {i : Int32} (j : Nat) (hi : i = nI j) (hj : j < m) (hm : m < 2 ^ 31) (d : decode μ.1 pc = .ok (.baload, 1)) (kk : mp_J Γ μ E κ M lv (pc + 1) (.int (f j) :: st) k n) : mp_J Γ μ E κ M lv pc (.int i :: .ref a :: st) k n := fun hC H locs ls hH hl => by
  obtain ⟨hx, hb, hml, hown, hr, hlk, hnm, hTB, hK, hSt, hZ, hrm, hfin⟩ := id hC
  subst hi
  have h1 := kk hC H locs ls hH hl
  rw [← mp_clamp hj hm] at h1
  exact va_zald hx hb hK (mp_one (hH.1 a _ hM).1) 0 4 rfl rfl (vp_in_nI hj hm) d h1
theorem j_lald {a m : Nat} {f : Nat → Int64} (hM : M a = some (mp_l E m f)) {i : Int32} (j : Nat) (hi : i = nI j) (hj : j < m) (hm : m < 2 ^ 31) (d : decode μ.1 pc = .ok (.laload, 1)) (kk : mp_J Γ μ E κ M lv (pc + 1) (.long (f j) :: st) k n) : mp_J Γ μ E κ M lv pc (.int i :: .ref a :: st) k n := fun hC H locs ls hH hl => by
  obtain ⟨hx, hb, hml, hown, hr, hlk, hnm, hTB, hK, hSt, hZ, hrm, hfin⟩ := id hC
  subst hi
  have h1 := kk hC H locs ls hH hl
  rw [← mp_clamp hj hm] at h1
  exact va_lald hx hb hK (mp_one (hH.1 a _ hM).1) 0 3 rfl rfl (vp_in_nI hj hm) d h1
theorem j_aald {a m x : Nat} {f : Nat → Option Nat} (hM : M a = some (mp_q E m f)) {i : Int32} (j : Nat) (hi : i = nI j) (hj : j < m) (hm : m < 2 ^ 31) (hf : f j = some x) (d : decode μ.1 pc = .ok (.aaload, 1)) (kk : mp_J Γ μ E κ M lv (pc + 1) (.ref x :: st) k n) : mp_J Γ μ E κ M lv pc (.int i :: .ref a :: st) k n := fun hC H locs ls hH hl => by
  obtain ⟨hx, hb, hml, hown, hr, hlk, hnm, hTB, hK, hSt, hZ, hrm, hfin⟩ := id hC
  subst hi
  have h1 := kk hC H locs ls hH hl
  refine va_aldq hx hb hK (mp_one (hH.1 a _ hM).1) 0 2 rfl rfl (vp_in_nI hj hm) d ?_
  rw [mp_clamp hj hm, hf]
  exact h1
theorem j_alen {a : Nat} {cA : ClassId} {x : vp_A} (t0 : Nat) (hM : M a = some (.inl (cA, x))) {ty : FieldType} (ht : (mp_tys E)[t0]? = some (cA, ty)) (d : decode μ.1 pc = .ok (.arraylength, 1)) (kk : mp_J Γ μ E κ M lv (pc + 1) (.int (nI x.1) :: st) k n) : mp_J Γ μ E κ M lv pc (.ref a :: st) k n := fun hC H locs ls hH hl => by
  obtain ⟨hx, hb, hml, hown, hr, hlk, hnm, hTB, hK, hSt, hZ, hrm, hfin⟩ := id hC
  exact va_alen hx hb hK (mp_one (hH.1 a _ hM).1) 0 t0 rfl ht rfl d (kk hC H locs ls hH hl)
theorem j_iast {a m : Nat} {f : Nat → Int32} (hM : M a = some (mp_i E m f)) {i x : Int32} (j : Nat) (hi : i = nI j) (hj : j < m) (hm : m < 2 ^ 31) (d : decode μ.1 pc = .ok (.iastore, 1)) (kk : mp_J Γ μ E κ (mp_up M a (mp_i E m (upd f j x))) lv (pc + 1) st k n) : mp_J Γ μ E κ M lv pc (.int x :: .int i :: .ref a :: st) k n := fun hC H locs ls hH hl => by
  obtain ⟨hx, hb, hml, hown, hr, hlk, hnm, hTB, hK, hSt, hZ, hrm, hfin⟩ := id hC
  subst hi
  have hin := vp_in_nI hj hm
  refine W.iast hx hb (hH.1 a _ hM).1 ((hK.2 1 _ rfl).1 m (fun j => .int (f j))) (fun q => by cases q) (by show ¬ (_ < 0 ∨ (arrV _ _ _).slots.size ≤ _); rw [arrV_size]; exact hin) rfl rfl d fun H1 e z oq => ?_
  refine kk hC H1 _ ls (hH.set hM ?_ z oq) hl
  show H1[a]? = some (vp_cell _ _)
  rw [e, mp_clamp hj hm]
  show some ((vp_cell _ _).setSlot _ _) = _
  rw [vp_cell_i, vp_cell_i, arrV_store]
  congr 2
  funext q
  by_cases hq : q = j
  · subst hq
    simp [updV, upd]
  · simp [updV, upd, hq]
theorem j_bast {a m : Nat} {f : Nat → Int32} (hM : M a = some (mp_b E m f)) {i x y : Int32} (j : Nat) (hi : i = nI j) (hj : j < m) (hm : m < 2 ^ 31) (hy : vp_nar .byte x = y) (d : decode μ.1 pc = .ok (.bastore, 1)) (kk : mp_J Γ μ E κ (mp_up M a (mp_b E m (upd f j y))) lv (pc + 1) st k n) : mp_J Γ μ E κ M lv pc (.int x :: .int i :: .ref a :: st) k n := fun hC H locs ls hH hl => by
  obtain ⟨hx, hb, hml, hown, hr, hlk, hnm, hTB, hK, hSt, hZ, hrm, hfin⟩ := id hC
  subst hi
  subst hy
  have hin := vp_in_nI hj hm
  refine W.bast hx hb (hH.1 a _ hM).1 ((hK.2 0 _ rfl).1 m (fun j => .int (f j))) (fun q => by cases q) (by show ¬ (_ < 0 ∨ (arrV _ _ _).slots.size ≤ _); rw [arrV_size]; exact hin) rfl rfl d fun H1 e z oq => ?_
  refine kk hC H1 _ ls (hH.set hM ?_ z oq) hl
  show H1[a]? = some (vp_cell _ _)
  rw [e, mp_clamp hj hm]
  show some ((vp_cell _ _).setSlot _ _) = _
  rw [vp_cell_i, vp_cell_i, arrV_store]
  congr 2
  funext q
  by_cases hq : q = j
  · subst hq
    simp [updV, upd, vp_nar]
    try rfl
  · simp [updV, upd, hq]
theorem j_zast {a m : Nat} {f : Nat → Int32} (hM : M a = some (mp_z E m f)) {i x y : Int32} (j : Nat) (hi : i = nI j) (hj : j < m) (hm : m < 2 ^ 31) (hy : vp_nar .boolean x = y) (d : decode μ.1 pc = .ok (.bastore, 1)) (kk : mp_J Γ μ E κ (mp_up M a (mp_z E m (upd f j y))) lv (pc + 1) st k n) : mp_J Γ μ E κ M lv pc (.int x :: .int i :: .ref a :: st) k n := fun hC H locs ls hH hl => by
  obtain ⟨hx, hb, hml, hown, hr, hlk, hnm, hTB, hK, hSt, hZ, hrm, hfin⟩ := id hC
  subst hi
  subst hy
  have hin := vp_in_nI hj hm
  refine W.zast hx hb (hH.1 a _ hM).1 ((hK.2 4 _ rfl).1 m (fun j => .int (f j))) (fun q => by cases q) (by show ¬ (_ < 0 ∨ (arrV _ _ _).slots.size ≤ _); rw [arrV_size]; exact hin) rfl rfl d fun H1 e z oq => ?_
  refine kk hC H1 _ ls (hH.set hM ?_ z oq) hl
  show H1[a]? = some (vp_cell _ _)
  rw [e, mp_clamp hj hm]
  show some ((vp_cell _ _).setSlot _ _) = _
  rw [vp_cell_i, vp_cell_i, arrV_store]
  congr 2
  funext q
  by_cases hq : q = j
  · subst hq
    simp [updV, upd, vp_nar]
    try rfl
  · simp [updV, upd, hq]
theorem j_last {a m : Nat} {f : Nat → Int64} (hM : M a = some (mp_l E m f)) {i : Int32} {x : Int64} (j : Nat) (hi : i = nI j) (hj : j < m) (hm : m < 2 ^ 31) (d : decode μ.1 pc = .ok (.lastore, 1)) (kk : mp_J Γ μ E κ (mp_up M a (mp_l E m (vp_updL f j x))) lv (pc + 1) st k n) : mp_J Γ μ E κ M lv pc (.long x :: .int i :: .ref a :: st) k n := fun hC H locs ls hH hl => by
  obtain ⟨hx, hb, hml, hown, hr, hlk, hnm, hTB, hK, hSt, hZ, hrm, hfin⟩ := id hC
  subst hi
  have hin := vp_in_nI hj hm
  refine W.last hx hb (hH.1 a _ hM).1 ((hK.2 3 _ rfl).1 m (fun j => .long (f j))) (fun q => by cases q) (by show ¬ (_ < 0 ∨ (arrV _ _ _).slots.size ≤ _); rw [arrV_size]; exact hin) rfl rfl d fun H1 e z oq => ?_
  refine kk hC H1 _ ls (hH.set hM ?_ z oq) hl
  show H1[a]? = some (vp_cell _ _)
  rw [e, mp_clamp hj hm]
  show some ((vp_cell _ _).setSlot _ _) = _
  rw [vp_cell_l, vp_cell_l, arrV_store]
  congr 2
  funext q
  by_cases hq : q = j
  · subst hq
    simp [updV, vp_updL]
  · simp [updV, vp_updL, hq]
theorem j_aast {a m v ci : Nat} {f : Nat → Option Nat} {vs : List Value} {r : vw_C} (hM : M a = some (mp_q E m f)) (hv : M v = some (mp_o ci vs)) (hc : vwCl[ci]? = some r) (hr1 : r.1 = "ScriptDesk$Thing") {i : Int32} (j : Nat) (hi : i = nI j) (hj : j < m) (hm : m < 2 ^ 31) (d : decode μ.1 pc = .ok (.aastore, 1)) (kk : mp_J Γ μ E κ (mp_up M a (mp_q E m (va_up f j (some v)))) lv (pc + 1) st k n) : mp_J Γ μ E κ M lv pc (.ref v :: .int i :: .ref a :: st) k n := fun hC H locs ls hH hl => by
  obtain ⟨hx, hb, hml, hown, hr, hlk, hnm, hTB, hK, hSt, hZ, hrm, hfin⟩ := id hC
  subst hi
  obtain ⟨r', hr', cellV, g1, g2, g3, -⟩ := (hH.1 v _ hv).1
  have hcls := (hK.1 ci r hc).2
  obtain ⟨kA, comp, k1, k2, k3, -⟩ := (hK.2 2 _ rfl).2
  have hcomp : comp = E.1.1 ci := Option.some.inj (k3.symm.trans (by rw [← hr1]; exact hcls.1))
  subst hcomp
  obtain ⟨kC, hkC, -⟩ := hcls.2
  refine W.aast hx hb (hH.1 a _ hM).1 (fun q h => by cases h) (fun h => by cases h) k1 k2 rfl hkC ⟨nI_pos (Nat.lt_trans hj hm), by show _ < (arrV _ _ _).slots.size; rw [arrV_size, mp_clamp hj hm]; exact hj⟩ g1 (fun q h => by rw [g3] at h; cases h) (by rw [g2]; exact hkC) (by rw [g2]; exact va_assign hcls) rfl rfl d fun H1 e z oq => ?_
  refine kk hC H1 _ ls (hH.set hM ?_ z oq) hl
  show H1[a]? = some (vp_cell _ _)
  rw [e, mp_clamp hj hm]
  show some ((vp_cell _ _).setSlot _ _) = _
  rw [vp_cell_q, vp_cell_q, arrV_store]
  congr 2
  funext q
  by_cases hq : q = j
  · subst hq
    simp [updV, va_up, va_rf]
  · simp [updV, va_up, hq]
theorem mp_newa {atype : ArrayType} (harr : mp_w (.arrayClass (newarray.typeOf atype))) (t0 : Nat) {cA0 : ClassId} (ht : (mp_tys E)[t0]? = some (cA0, newarray.typeOf atype)) (hra : ∀ U cA, va_RA U cA (newarray.typeOf atype) → U.vm.findClass ("[" ++ (newarray.typeOf atype).toString) = some cA) {a0 : vp_A} {m : Nat} (ha : ∀ cA : ClassId, vp_cell cA a0 = arrV cA m (fun _ => defaultValue (newarray.typeOf atype))) (hm : m < 2 ^ 31) (hby : m * componentBytes (newarray.typeOf atype) ≤ 536870912) (hk : k + 1 ≤ κ.2.2.1) (hn : n + m ≤ κ.2.2.2.1) (d : decode μ.1 pc = .ok (.newarray atype, 2))
    (kk : ∀ q : Nat, M q = none → mp_J Γ μ E κ (mp_up M q (.inl (cA0, a0))) lv (pc + 2) (.ref q :: st) (k + 1) (n + m)) : mp_J Γ μ E κ M lv pc (.int (nI m) :: st) k n := fun hC H locs ls hH hl => by
  obtain ⟨hx, hb, hml, hown, hr, hlk, hnm, hTB, hK, hSt, hZ, hrm, hfin⟩ := id hC
  refine va_newaK hx hb (mp_TB.use hTB harr) rfl d rfl (nI_pos hm) (nI_clamp hm) hby (Nat.le_trans hk hrm.2.2.1) (Nat.le_trans hn hrm.2.2.2) rfl fun H1 cA e1 z1 o1 hAr hNm => ?_
  have hc : cA = cA0 := Option.some.inj (hNm.symm.trans (hra _ _ (hK.2 t0 _ ht).2))
  subst hc
  obtain ⟨hH1, h0⟩ := hH.new (H1 := H1) (e := .inl (cA, a0)) (by show H1[H.size]? = some (vp_cell _ _); rw [ha]; exact e1) z1 o1
  exact kk _ h0 hC H1 locs ls hH1 hl
theorem j_newb {m : Nat} (harr : mp_w (.arrayClass .byte)) (hm : m < 2 ^ 29) (hk : k + 1 ≤ κ.2.2.1) (hn : n + m ≤ κ.2.2.2.1) (d : decode μ.1 pc = .ok (.newarray .byte, 2)) (kk : ∀ q : Nat, M q = none → mp_J Γ μ E κ (mp_up M q (mp_b E m (fun _ => 0))) lv (pc + 2) (.ref q :: st) (k + 1) (n + m)) : mp_J Γ μ E κ M lv pc (.int (nI m) :: st) k n := mp_newa (atype := .byte) harr 0 rfl (fun _ _ h => h) (fun _ => rfl) (by omega) (by show m * 1 ≤ _; omega) hk hn d kk
theorem j_newi {m : Nat} (harr : mp_w (.arrayClass .int)) (hm : m < 2 ^ 27) (hk : k + 1 ≤ κ.2.2.1) (hn : n + m ≤ κ.2.2.2.1) (d : decode μ.1 pc = .ok (.newarray .int, 2)) (kk : ∀ q : Nat, M q = none → mp_J Γ μ E κ (mp_up M q (mp_i E m (fun _ => 0))) lv (pc + 2) (.ref q :: st) (k + 1) (n + m)) : mp_J Γ μ E κ M lv pc (.int (nI m) :: st) k n := mp_newa (atype := .int) harr 1 rfl (fun _ _ h => h) (fun _ => rfl) (by omega) (by show m * 4 ≤ _; omega) hk hn d kk
theorem j_newl {m : Nat} (harr : mp_w (.arrayClass .long)) (hm : m < 2 ^ 26) (hk : k + 1 ≤ κ.2.2.1) (hn : n + m ≤ κ.2.2.2.1) (d : decode μ.1 pc = .ok (.newarray .long, 2)) (kk : ∀ q : Nat, M q = none → mp_J Γ μ E κ (mp_up M q (mp_l E m (fun _ => 0))) lv (pc + 2) (.ref q :: st) (k + 1) (n + m)) : mp_J Γ μ E κ M lv pc (.int (nI m) :: st) k n := mp_newa (atype := .long) harr 3 rfl (fun _ _ h => h) (fun _ => rfl) (by omega) (by show m * 8 ≤ _; omega) hk hn d kk
theorem j_newz {m : Nat} (harr : mp_w (.arrayClass .boolean)) (hm : m < 2 ^ 29) (hk : k + 1 ≤ κ.2.2.1) (hn : n + m ≤ κ.2.2.2.1) (d : decode μ.1 pc = .ok (.newarray .boolean, 2)) (kk : ∀ q : Nat, M q = none → mp_J Γ μ E κ (mp_up M q (mp_z E m (fun _ => 0))) lv (pc + 2) (.ref q :: st) (k + 1) (n + m)) : mp_J Γ μ E κ M lv pc (.int (nI m) :: st) k n := mp_newa (atype := .boolean) harr 4 rfl (fun _ _ h => h) (fun _ => rfl) (by omega) (by show m * 1 ≤ _; omega) hk hn d kk
theorem j_newq {m ix : Nat} (hw1 : mp_w (.classLink μ.2.2.2.cls ix "ScriptDesk$Thing")) (hw2 : mp_w (.arrayOver (.object "ScriptDesk$Thing"))) (hm : m < 2 ^ 27) (hk : k + 1 ≤ κ.2.2.1) (hn : n + m ≤ κ.2.2.2.1) (d : decode μ.1 pc = .ok (.anewarray ix, 3)) (kk : ∀ q : Nat, M q = none → mp_J Γ μ E κ (mp_up M q (mp_q E m (fun _ => none))) lv (pc + 3) (.ref q :: st) (k + 1) (n + m)) : mp_J Γ μ E κ M lv pc (.int (nI m) :: st) k n := fun hC H locs ls hH hl => by
  obtain ⟨hx, hb, hml, hown, hr, hlk, hnm, hTB, hK, hSt, hZ, hrm, hfin⟩ := id hC
  have hm' : m < 2 ^ 31 := by omega
  have hcl := nI_clamp hm'
  refine W.anew hx hb hown (mp_TB.use hTB hw1) (mp_TB.use hTB hw2) rfl d rfl (nI_pos hm') (by rw [hcl]; omega) (Nat.le_trans hk hrm.2.2.1) (by rw [hcl]; exact Nat.le_trans hn hrm.2.2.2) fun cA kA comp f1 f2 f3 f4 => ?_
  rw [hcl]
  obtain ⟨kA', comp', -, -, -, k4⟩ := (hK.2 2 _ rfl).2
  have hc : cA = E.2.1 2 := Option.some.inj (f1.symm.trans k4)
  subst hc
  generalize hH1 : H.push ({ cls := E.2.1 2, slots := Array.replicate m .null, vm := .none } : Cell) = H1
  have z1 : H1.size = H.size + 1 := by rw [← hH1, Array.size_push]
  have e1 : H1[H.size]? = some (arrV (E.2.1 2) m (fun _ => .null)) := by rw [← hH1, Array.getElem?_push_size, ← arrV_new]
  have o1 : ∀ q : Nat, q < H.size → H1[q]? = H[q]? := fun q hq => by rw [← hH1, Array.getElem?_push, if_neg (Nat.ne_of_lt hq)]
  obtain ⟨hH2, h0⟩ := hH.new (H1 := H1) (e := mp_q E m (fun _ => none)) (by show H1[H.size]? = some (vp_cell _ _); rw [vp_cell_q]; exact e1) z1 o1
  exact kk _ h0 hC H1 locs ls hH2 hl
theorem mp_zA (hC : mp_C Γ μ E κ) : ∀ q, mp_A κ.1 Γ.s.heap.size q → ¬ E.2.2.1 q := fun q hq hz => (hC.2.2.2.2.2.2.2.2.2.2.1 q hz).1 hq
theorem j_gets {ix : Nat} {ref : String} (t : Nat) {q : String × String × List Int32} (ht : st_tab[t]? = some q) (hw : mp_w (.fieldLink μ.2.2.2.cls ix ref q.2.1 "[I")) (hs : ref = q.1) (d : decode μ.1 pc = .ok (.getstatic ix, 3)) (kk : mp_J Γ μ E κ M lv (pc + 3) (.ref (E.2.2.2 t) :: st) k n) : mp_J Γ μ E κ M lv pc st k n := fun hC H locs ls hH hl => by
  obtain ⟨hx, hb, hml, hown, hr, hlk, hnm, hTB, hK, hSt, hZ, hrm, hfin⟩ := id hC
  subst hs
  exact va_gets hx hb ((hSt.1 t q ht).1.narrow (mp_zA hC)) hH.2 hown (mp_TB.use hTB hw) (fun _ h => h) d (kk hC H locs ls hH hl)
theorem j_tald (t : Nat) {q : String × String × List Int32} (ht : st_tab[t]? = some q) {i : Int32} (j : Nat) (hi : i = nI j) (hj : j < q.2.2.length) (hm : q.2.2.length < 2 ^ 31) (d : decode μ.1 pc = .ok (.iaload, 1)) (kk : mp_J Γ μ E κ M lv (pc + 1) (.int (q.2.2.getD j 0) :: st) k n) : mp_J Γ μ E κ M lv pc (.int i :: .ref (E.2.2.2 t) :: st) k n := fun hC H locs ls hH hl => by
  obtain ⟨hx, hb, hml, hown, hr, hlk, hnm, hTB, hK, hSt, hZ, hrm, hfin⟩ := id hC
  subst hi
  have h1 := kk hC H locs ls hH hl
  obtain ⟨scr, g1, g2, g3, g4, g5, g6, -⟩ := (hSt.1 t q ht).2.1
  have hz := (hSt.1 t q ht).2.2
  exact W.iald (v := .int (q.2.2.getD j 0)) hx hb (by rw [hH.2.2.1 _ (hZ _ hz).2 (hZ _ hz).1]; exact g1) g2 g3 (fun h => h.elim (fun z => (vp_in_nI hj hm) (Or.inl z)) (fun z => (vp_in_nI hj hm) (Or.inr (Nat.le_trans g4 z)))) (by rw [mp_clamp hj hm]; exact g6 j hj) rfl rfl d h1
theorem j_tlen (t : Nat) {q : String × String × List Int32} (ht : st_tab[t]? = some q) (d : decode μ.1 pc = .ok (.arraylength, 1)) (kk : mp_J Γ μ E κ M lv (pc + 1) (.int (nI q.2.2.length) :: st) k n) : mp_J Γ μ E κ M lv pc (.ref (E.2.2.2 t) :: st) k n := fun hC H locs ls hH hl => by
  obtain ⟨hx, hb, hml, hown, hr, hlk, hnm, hTB, hK, hSt, hZ, hrm, hfin⟩ := id hC
  obtain ⟨scr, g1, g2, g3, g4, g5, g6, -⟩ := (hSt.1 t q ht).2.1
  have hz := (hSt.1 t q ht).2.2
  exact W.alen (n := nI q.2.2.length) hx hb (by rw [hH.2.2.1 _ (hZ _ hz).2 (hZ _ hz).1]; exact g1) g2 (by first | exact g5 | exact g5.symm | (rw [g5]; rfl)) rfl rfl d (kk hC H locs ls hH hl)
-- the ends
def mp_Qr (v : Option Value) (H : Heap) : Array Value → State → Outcome → State → Prop := fun _ _ o t => o = .returned v ∧ t.heap = H
theorem mp_close {g : JFrame} {v : Option Value} (hC : mp_C Γ μ E κ) (hH : mp_H Γ E κ M H locs) (hp : κ.2.2.2.2 (.inl v) M) (hk : k ≤ κ.2.2.1) (hn : n ≤ κ.2.2.2.1) (h : W Γ.p Γ.l Γ.e Γ.R Γ.s Γ.m Γ.args Γ.below Γ.meth Γ.c H locs κ.2.2.1 κ.2.2.2.1 (MQ Γ.below (mp_Qr v H) Γ.args Γ.s κ.2.2.1 κ.2.2.2.1 (mp_A κ.1 Γ.s.heap.size)) g) : W Γ.p Γ.l Γ.e Γ.R Γ.s Γ.m Γ.args Γ.below Γ.meth Γ.c H locs k n Γ.Q g := by
  intro T hT X
  obtain ⟨t, a1, o, b1, b2, ⟨rfl, b4⟩, L, ⟨-, hW, hs⟩, hL⟩ := h T hT (stand_widen X hk hn)
  refine ⟨t, a1, hC.2.2.2.2.2.2.2.2.2.2.2.2.2 t _ b1 b2 ⟨hW, ⟨L, hs, hL⟩, hH.2.F b4, M, fun a e h => by rw [b4]; exact (hH.1 a e h).1, fun a e h => (hH.1 a e h).2, hp⟩⟩
theorem j_iret {d mc ms : Nat} {P : Option Value → mp_M → Prop} {v : Int32} (hκ : mp_k κ d mc ms P) (hr : μ.2.2.1 = some .int) (hk : k ≤ mc) (hn : n ≤ ms) (dd : decode μ.1 pc = .ok (.ireturn, 1)) (hp : P (some (.int v)) M) : mp_J Γ μ E κ M lv pc [.int v] k n := fun hC H locs ls hH hl =>
  mp_close hC hH (hκ.2.2.2 _ _ hp) (by rw [hκ.2.1]; exact hk) (by rw [hκ.2.2.1]; exact hn) (W.iret hC.1 hC.2.1 (hC.2.2.2.2.1.trans hr) (fun t ht _ => ⟨rfl, ht⟩) hH.2.2.2 dd hC.2.2.2.2.2.1)
theorem j_zret {d mc ms : Nat} {P : Option Value → mp_M → Prop} {v : Int32} (hκ : mp_k κ d mc ms P) (hr : μ.2.2.1 = some .boolean) (hv : v = 0 ∨ v = 1) (hk : k ≤ mc) (hn : n ≤ ms) (dd : decode μ.1 pc = .ok (.ireturn, 1)) (hp : P (some (.int v)) M) : mp_J Γ μ E κ M lv pc [.int v] k n := fun hC H locs ls hH hl =>
  mp_close hC hH (hκ.2.2.2 _ _ hp) (by rw [hκ.2.1]; exact hk) (by rw [hκ.2.2.1]; exact hn) (W.zret hC.1 hC.2.1 (hC.2.2.2.2.1.trans hr) (by rcases hv with rfl | rfl <;> rfl) (fun t ht _ => ⟨rfl, ht⟩) hH.2.2.2 dd hC.2.2.2.2.2.1)
theorem j_lret {d mc ms : Nat} {P : Option Value → mp_M → Prop} {v : Int64} (hκ : mp_k κ d mc ms P) (hr : μ.2.2.1 = some .long) (hk : k ≤ mc) (hn : n ≤ ms) (dd : decode μ.1 pc = .ok (.lreturn, 1)) (hp : P (some (.long v)) M) : mp_J Γ μ E κ M lv pc [.long v] k n := fun hC H locs ls hH hl =>
  mp_close hC hH (hκ.2.2.2 _ _ hp) (by rw [hκ.2.1]; exact hk) (by rw [hκ.2.2.1]; exact hn) (W.lret hC.1 hC.2.1 (hC.2.2.2.2.1.trans hr) (fun t ht _ => ⟨rfl, ht⟩) hH.2.2.2 dd hC.2.2.2.2.2.1)
theorem j_vret {d mc ms : Nat} {P : Option Value → mp_M → Prop} (hκ : mp_k κ d mc ms P) (hr : μ.2.2.1 = none) (hk : k ≤ mc) (hn : n ≤ ms) (dd : decode μ.1 pc = .ok (.return_, 1)) (hp : P none M) : mp_J Γ μ E κ M lv pc [] k n := fun hC H locs ls hH hl =>
  mp_close hC hH (hκ.2.2.2 _ _ hp) (by rw [hκ.2.1]; exact hk) (by rw [hκ.2.2.1]; exact hn) (W.vret hC.1 hC.2.1 (hC.2.2.2.2.1.trans hr) (fun t ht _ => ⟨rfl, ht⟩) hH.2.2.2 dd hC.2.2.2.2.2.1)
theorem j_aret {d mc ms : Nat} {P : Option Value → mp_M → Prop} {a : Nat} {rt : FieldType} (hκ : mp_k κ d mc ms P) (hr : μ.2.2.1 = some rt) (hrt : (∃ n, rt = .object n) ∨ ∃ t, rt = .array t) (hk : k ≤ mc) (hn : n ≤ ms) (dd : decode μ.1 pc = .ok (.areturn, 1)) (hp : P (some (.ref a)) M) : mp_J Γ μ E κ M lv pc [.ref a] k n := fun hC H locs ls hH hl =>
  mp_close hC hH (hκ.2.2.2 _ _ hp) (by rw [hκ.2.1]; exact hk) (by rw [hκ.2.2.1]; exact hn) (W.aret hC.1 hC.2.1 (hC.2.2.2.2.1.trans hr) hrt (Or.inr ⟨a, rfl⟩) (fun t ht _ => ⟨rfl, ht⟩) hH.2.2.2 dd hC.2.2.2.2.2.1)
-- Object's constructor
theorem j_objInit {ix a : Nat} (hw : mp_w (.methodLink μ.2.2.2.cls ix Lib.objectInit)) (hw2 : mp_w (.instanceMethod Lib.objectInit)) (hw3 : mp_w (.code Lib.objectInit ⟨#[0xb1]⟩ 1 none)) (hst : (st.map fun v => v.category).sum ≤ 8) (hd : 1 ≤ κ.2.1) (d : decode μ.1 pc = .ok (.invokespecial ix, 3)) (kk : mp_J Γ μ E κ M lv (pc + 3) st k n) : mp_J Γ μ E κ M lv pc (.ref a :: st) k n := fun hC H locs ls hH hl => by
  obtain ⟨hx, hb, hml, hown, hr, hlk, hnm, hTB, hK, hSt, hZ, hrm, hfin⟩ := id hC
  refine W.objInit hx hb hown (mp_TB.use hTB hw) (mp_TB.use hTB hw2) (mp_TB.use hTB hw3) rfl (by rw [hml]; exact hl.1) rfl d (Nat.le_trans hd hrm.1) ?_ (kk hC H locs ls hH hl)
  have := hrm.2.1
  show 2 * 0 + _ + 12 ≤ _
  omega
-- calls
def mp_Y (μ : mp_D) (n : Nat) : Prop := mp_w (.code μ.2.2.2 μ.1 μ.2.1 μ.2.2.1) ∧ mp_w (.initialized μ.2.2.2.cls) ∧ (μ.2.2.2.cls ≠ "java/lang/invoke/MethodHandle" ∧ μ.2.2.2.cls ≠ "java/lang/invoke/VarHandle" ∧ (parseMethodDescriptor μ.2.2.2.desc).map (fun d => d.parameters.length) = some n) ∧ μ.2.1 ≤ 45
theorem mp_pre {av : List Value} (hC : mp_C Γ μ E κ) (hH : mp_H Γ E κ M H locs) : FrameBlind (mp_Pc E M H.size av) ∧ ∀ U : State, U.heap = H → Γ.s.WarmedH U.vm → mp_Pc E M H.size av av.toArray U := by
  obtain ⟨hx, hb, hml, hown, hr, hlk, hnm, hTB, hK, hSt, hZ, hrm, hfin⟩ := id hC
  refine ⟨fun a U g mk h => ⟨h.1, h.2.1, h.2.2.calling g mk a⟩, fun U hU hW => ⟨rfl, by rw [hU], mp_TB.warm hW hTB, hK.moved hW.alike, ?_, ?_, ?_⟩⟩
  · rw [hU]
    exact hSt.moved hW.alike (fun a ha hz => hH.2.2.1 a ha (hZ a hz).1)
  · rw [hU]
    exact fun a e h => (hH.1 a e h).1
  · intro q hq
    refine ⟨?_, by rw [hU]; exact Nat.lt_of_lt_of_le (hZ q hq).2 hH.2.1⟩
    cases h : M q with
    | none => rfl
    | some e => exact absurd (hH.1 q e h).2 (hZ q hq).1
theorem mp_after {mc' ms' : Nat} {ls : Array Slot} {a : Array Value} {rest st0 : List Value} {P : Option Value → mp_M → Prop} {Q : State → Prop} (hr : va_Run Γ.p Γ.l Γ.e Γ.R Γ.s Γ.m Γ.args Γ.below Γ.meth Γ.c H locs k n mc' ms' (F0 Γ.m pc ls st0) rest (mp_Qc E M P a) (mp_A M H.size)) (hH : mp_H Γ E κ M H locs)
    (kk : ∀ (v : Option Value) (M' : mp_M) (H1 : Heap) (locs1 : List Loc), P v M' → mp_H Γ E κ M' H1 locs1 → W Γ.p Γ.l Γ.e Γ.R Γ.s Γ.m Γ.args Γ.below Γ.meth Γ.c H1 locs1 (k + mc') (n + ms') Q (F0 Γ.m (pc + 3) ls (v.toList ++ rest))) : W Γ.p Γ.l Γ.e Γ.R Γ.s Γ.m Γ.args Γ.below Γ.meth Γ.c H locs k n Q (F0 Γ.m pc ls st0) := by
  intro T hT X
  obtain ⟨v, st₀, t, T', L, h0, X', hL, e1, e2, ⟨⟨hz, hk⟩, M', v', hv, hp, hM', hA'⟩, step⟩ := hr T hT X
  cases hv
  rw [h0] at hz hk hA'
  have hA : ∀ q, mp_A M H.size q → mp_A κ.1 Γ.s.heap.size q := by
    intro q hq
    rcases hq with ⟨e, he⟩ | hq
    · exact (hH.1 q e he).2
    · exact Or.inr (Nat.le_trans hH.2.1 hq)
  obtain ⟨t2, a1, b1⟩ := kk v M' T'.heap (locs ++ L) hp ⟨fun a e h => ⟨by rw [e1]; exact hM' a e h, hA a (hA' a e h)⟩, ⟨Nat.le_trans hH.2.1 (by rw [e1]; exact hz), fun q h1 h2 => by
      rw [e1, hk q (Nat.lt_of_lt_of_le h1 hH.2.1) (fun z => h2 (hA q z))]
      exact hH.2.2.1 q h1 h2, fun q hq => by
      rcases List.mem_append.mp hq with h | h
      · exact hH.2.2.2 q h
      · exact hA _ (hL q h)⟩⟩ T' rfl X'
  exact ⟨t2, step t2 a1, b1⟩
theorem mp_cb {μ' : mp_D} {d' mc' ms' n' : Nat} (hC : mp_C Γ μ E κ) (Y : mp_Y μ' n') (hd : d' < κ.2.1) : mp_rm d' mc' ms' = mp_rm d' mc' ms' ∧ (mp_rm d' mc' ms').frames + 1 ≤ Γ.R.frames ∧ 8 + (μ'.2.1 + 11) + (mp_rm d' mc' ms').locals ≤ Γ.R.locals ∧ (∀ w ∈ [Cond.code μ'.2.2.2 μ'.1 μ'.2.1 μ'.2.2.1], ∀ (a' : Array Value) (U : State), Γ.s.WarmedH U.vm → w.before a' U = true) ∧ (∀ sig, parseMethodDescriptor μ'.2.2.2.desc = some sig → n' = sig.parameters.length) := by
  obtain ⟨hx, hb, hml, hown, hr, hlk, hnm, hTB, hK, hSt, hZ, hrm, hfin⟩ := id hC
  obtain ⟨Y1, Y2, Y3, Y4⟩ := Y
  refine ⟨rfl, ?_, ?_, fun w hw a' U hW => ?_, fun sig h => ?_⟩
  · show d' + 1 ≤ _
    exact Nat.le_trans hd hrm.1
  · show 8 + (μ'.2.1 + 11) + 64 * d' ≤ _
    have := hrm.2.1
    omega
  · rw [List.mem_singleton.mp hw]
    exact mp_TB.at hTB Y1 hW
  · have h2 := Y3.2.2
    rw [h] at h2
    exact (Option.some.inj h2).symm
theorem mp_room {ls : Array Slot} {rest st0 : List Value} {m : MethodId} (h : (rest.map fun v => v.category).sum ≤ 8) : 2 * (F0 m pc ls st0).monitorRoom + (rest.map fun v => v.category).sum ≤ 8 := by
  show 2 * 0 + _ ≤ 8
  omega
theorem j_callV {μ' : mp_D} {d' mc' ms' ix n' ci b : Nat} {P : Option Value → mp_M → Prop} {As rest fs : List Value} {r : vw_C} (hc : mp_Cr Γ.l μ' E M d' mc' ms' (.ref b :: As) P) (Y : mp_Y μ' n') (hl1 : mp_w (.methodLink μ.2.2.2.cls ix μ'.2.2.2)) (hl2 : mp_w (.instanceMethod μ'.2.2.2)) (hl3 : mp_w (.selects r.1 μ'.2.2.2 μ'.2.2.2)) (hM : M b = some (mp_o ci fs)) (hci : vwCl[ci]? = some r) (hn' : As.length = n') (hst : st = As.reverse ++ .ref b :: rest) (hW : (rest.map fun v => v.category).sum ≤ 8) (hd : d' < κ.2.1) (hk : k + mc' ≤ κ.2.2.1) (hn : n + ms' ≤ κ.2.2.2.1) (d : decode μ.1 pc = .ok (.invokevirtual ix, 3))
    (kk : ∀ v M', P v M' → mp_J Γ μ E κ M' lv (pc + 3) (v.toList ++ rest) (k + mc') (n + ms')) : mp_J Γ μ E κ M lv pc st k n := fun hC H locs ls hH hl => by
  obtain ⟨hx, hb, hml, hown, hr, hlk, hnm, hTB, hK, hSt, hZ, hrm, hfin⟩ := id hC
  obtain ⟨-, h1, h2, h3, h4⟩ := mp_cb (mc' := mc') (ms' := ms') hC Y hd
  refine mp_after (va_runV (Ts := []) (C := r.1) ⟨hx, hb, hml, hown, fun w h => by cases h⟩ (hc.met H.size) ⟨⟨rfl, rfl, h1, h2, h3, List.mem_cons_self, mp_TB.use hTB Y.1, mp_TB.use hTB Y.2.1, ⟨Y.2.2.1.1, Y.2.2.1.2.1⟩, h4, mp_TB.use hTB hl1⟩, mp_TB.use hTB hl2, mp_TB.use hTB hl3⟩ ⟨(mp_pre hC hH).1, va_recv (q0 := 0) hK (mp_one (hH.1 b _ hM).1) hci rfl, (mp_pre hC hH).2⟩ rfl hn' hl.1 hst (mp_room hW) d ⟨Nat.le_trans hk hrm.2.2.1, Nat.le_trans hn hrm.2.2.2⟩) hH fun v M' H1 locs1 hp hH1 => kk v M' hp hC H1 locs1 ls hH1 hl
theorem j_callVN {μ' : mp_D} {d' mc' ms' ix n' ci b : Nat} {host : String} {P : Option Value → mp_M → Prop} {As rest fs : List Value} {r : vw_C} (hc : mp_Cr Γ.l μ' E M d' mc' ms' (.ref b :: As) P) (Y : mp_Y μ' n') (hl1 : mp_w (.methodLinkNest μ.2.2.2.cls ix μ'.2.2.2 host)) (hl2 : mp_w (.instanceMethod μ'.2.2.2)) (hl3 : mp_w (.selects r.1 μ'.2.2.2 μ'.2.2.2)) (hM : M b = some (mp_o ci fs)) (hci : vwCl[ci]? = some r) (hn' : As.length = n') (hst : st = As.reverse ++ .ref b :: rest) (hW : (rest.map fun v => v.category).sum ≤ 8) (hd : d' < κ.2.1) (hk : k + mc' ≤ κ.2.2.1) (hn : n + ms' ≤ κ.2.2.2.1) (d : decode μ.1 pc = .ok (.invokevirtual ix, 3))
    (kk : ∀ v M', P v M' → mp_J Γ μ E κ M' lv (pc + 3) (v.toList ++ rest) (k + mc') (n + ms')) : mp_J Γ μ E κ M lv pc st k n := fun hC H locs ls hH hl => by
  obtain ⟨hx, hb, hml, hown, hr, hlk, hnm, hTB, hK, hSt, hZ, hrm, hfin⟩ := id hC
  obtain ⟨-, h1, h2, h3, h4⟩ := mp_cb (mc' := mc') (ms' := ms') hC Y hd
  refine mp_after (va_runVN (Ts := []) (C := r.1) (host := host) ⟨hx, hb, hml, hown, fun w h => by cases h⟩ (hc.met H.size) ⟨⟨⟨rfl, rfl, h1, h2, h3, List.mem_cons_self⟩, mp_TB.use hTB Y.1, mp_TB.use hTB Y.2.1, ⟨Y.2.2.1.1, Y.2.2.1.2.1⟩, h4, mp_TB.use hTB hl1⟩, mp_TB.use hTB hl2, mp_TB.use hTB hl3⟩ ⟨(mp_pre hC hH).1, va_recv (q0 := 0) hK (mp_one (hH.1 b _ hM).1) hci rfl, (mp_pre hC hH).2⟩ rfl hn' hl.1 hst (mp_room hW) d ⟨Nat.le_trans hk hrm.2.2.1, Nat.le_trans hn hrm.2.2.2⟩) hH fun v M' H1 locs1 hp hH1 => kk v M' hp hC H1 locs1 ls hH1 hl
theorem j_callS {μ' : mp_D} {d' mc' ms' ix n' : Nat} {P : Option Value → mp_M → Prop} {As rest : List Value} (hc : mp_Cr Γ.l μ' E M d' mc' ms' As P) (Y : mp_Y μ' n') (hl1 : mp_w (.methodLink μ.2.2.2.cls ix μ'.2.2.2)) (hl2 : mp_w (.static μ'.2.2.2)) (hn' : As.length = n') (hst : st = As.reverse ++ rest) (hW : (rest.map fun v => v.category).sum ≤ 8) (hd : d' < κ.2.1) (hk : k + mc' ≤ κ.2.2.1) (hn : n + ms' ≤ κ.2.2.2.1) (d : decode μ.1 pc = .ok (.invokestatic ix, 3))
    (kk : ∀ v M', P v M' → mp_J Γ μ E κ M' lv (pc + 3) (v.toList ++ rest) (k + mc') (n + ms')) : mp_J Γ μ E κ M lv pc st k n := fun hC H locs ls hH hl => by
  obtain ⟨hx, hb, hml, hown, hr, hlk, hnm, hTB, hK, hSt, hZ, hrm, hfin⟩ := id hC
  obtain ⟨-, h1, h2, h3, h4⟩ := mp_cb (mc' := mc') (ms' := ms') hC Y hd
  refine mp_after (va_runS (Ts := []) ⟨hx, hb, hml, hown, fun w h => by cases h⟩ (hc.met H.size) ⟨⟨rfl, rfl, h1, h2, h3, List.mem_cons_self, mp_TB.use hTB Y.1, mp_TB.use hTB Y.2.1, ⟨Y.2.2.1.1, Y.2.2.1.2.1⟩, h4, mp_TB.use hTB hl1⟩, mp_TB.use hTB hl2⟩ (mp_pre hC hH) rfl hn' hl.1 hst (mp_room hW) d ⟨Nat.le_trans hk hrm.2.2.1, Nat.le_trans hn hrm.2.2.2⟩) hH fun v M' H1 locs1 hp hH1 => kk v M' hp hC H1 locs1 ls hH1 hl
theorem j_callSN {μ' : mp_D} {d' mc' ms' ix n' : Nat} {host : String} {P : Option Value → mp_M → Prop} {As rest : List Value} (hc : mp_Cr Γ.l μ' E M d' mc' ms' As P) (Y : mp_Y μ' n') (hl1 : mp_w (.methodLinkNest μ.2.2.2.cls ix μ'.2.2.2 host)) (hl2 : mp_w (.static μ'.2.2.2)) (hn' : As.length = n') (hst : st = As.reverse ++ rest) (hW : (rest.map fun v => v.category).sum ≤ 8) (hd : d' < κ.2.1) (hk : k + mc' ≤ κ.2.2.1) (hn : n + ms' ≤ κ.2.2.2.1) (d : decode μ.1 pc = .ok (.invokestatic ix, 3))
    (kk : ∀ v M', P v M' → mp_J Γ μ E κ M' lv (pc + 3) (v.toList ++ rest) (k + mc') (n + ms')) : mp_J Γ μ E κ M lv pc st k n := fun hC H locs ls hH hl => by
  obtain ⟨hx, hb, hml, hown, hr, hlk, hnm, hTB, hK, hSt, hZ, hrm, hfin⟩ := id hC
  obtain ⟨-, h1, h2, h3, h4⟩ := mp_cb (mc' := mc') (ms' := ms') hC Y hd
  refine mp_after (va_runSN (Ts := []) (host := host) ⟨hx, hb, hml, hown, fun w h => by cases h⟩ (hc.met H.size) ⟨⟨⟨rfl, rfl, h1, h2, h3, List.mem_cons_self⟩, mp_TB.use hTB Y.1, mp_TB.use hTB Y.2.1, ⟨Y.2.2.1.1, Y.2.2.1.2.1⟩, h4, mp_TB.use hTB hl1⟩, mp_TB.use hTB hl2, trivial⟩ (mp_pre hC hH) rfl hn' hl.1 hst (mp_room hW) d ⟨Nat.le_trans hk hrm.2.2.1, Nat.le_trans hn hrm.2.2.2⟩) hH fun v M' H1 locs1 hp hH1 => kk v M' hp hC H1 locs1 ls hH1 hl
theorem j_callI {μ' : mp_D} {d' mc' ms' ix n' b : Nat} {P : Option Value → mp_M → Prop} {As rest : List Value} (hc : mp_Cr Γ.l μ' E M d' mc' ms' (.ref b :: As) P) (Y : mp_Y μ' n') (hin : μ'.2.2.2.name = "<init>") (hrn : μ'.2.2.1 = none) (hl1 : mp_w (.methodLink μ.2.2.2.cls ix μ'.2.2.2)) (hl2 : mp_w (.instanceMethod μ'.2.2.2)) (hn' : As.length = n') (hst : st = As.reverse ++ .ref b :: rest) (hW : (rest.map fun v => v.category).sum ≤ 8) (hd : d' < κ.2.1) (hk : k + mc' ≤ κ.2.2.1) (hn : n + ms' ≤ κ.2.2.2.1) (d : decode μ.1 pc = .ok (.invokespecial ix, 3))
    (kk : ∀ v M', P v M' → mp_J Γ μ E κ M' lv (pc + 3) (v.toList ++ rest) (k + mc') (n + ms')) : mp_J Γ μ E κ M lv pc st k n := fun hC H locs ls hH hl => by
  obtain ⟨hx, hb, hml, hown, hr, hlk, hnm, hTB, hK, hSt, hZ, hrm, hfin⟩ := id hC
  obtain ⟨-, h1, h2, h3, h4⟩ := mp_cb (mc' := mc') (ms' := ms') hC Y hd
  have hM := hc.met H.size
  have hY1 := Y.1
  rw [hrn] at hM h3 hY1
  refine mp_after (va_runI (Ts := []) ⟨hx, hb, hml, hown, fun w h => by cases h⟩ hM ⟨⟨rfl, rfl, h1, h2, h3, List.mem_cons_self, mp_TB.use hTB hY1, mp_TB.use hTB Y.2.1, ⟨Y.2.2.1.1, Y.2.2.1.2.1⟩, h4, mp_TB.use hTB hl1⟩, hin, mp_TB.use hTB hl2⟩ (mp_pre hC hH) rfl hn' hl.1 hst (mp_room hW) d ⟨Nat.le_trans hk hrm.2.2.1, Nat.le_trans hn hrm.2.2.2⟩) hH fun v M' H1 locs1 hp hH1 => kk v M' hp hC H1 locs1 ls hH1 hl
theorem j_callU {μ' : mp_D} {d' mc' ms' ix n' ci b : Nat} {x : MethodName} {P : Option Value → mp_M → Prop} {As rest fs : List Value} {r : vw_C} (owner : String) (hc : mp_Cr Γ.l μ' E M d' mc' ms' (.ref b :: As) P) (Y : mp_Y μ' n') (hl1 : mp_w (.methodLink μ.2.2.2.cls ix x)) (hl4 : mp_w (.sameMethod x.cls owner x.name x.desc)) (hdecl : mp_w (.declares ⟨owner, x.name, x.desc⟩) ∨ (mp_w (.instanceMethod ⟨owner, x.name, x.desc⟩) ∧ ∃ b0 m0 r0, mp_w (.code ⟨owner, x.name, x.desc⟩ b0 m0 r0))) (how : owner ≠ "java/lang/invoke/MethodHandle" ∧ owner ≠ "java/lang/invoke/VarHandle") (hxd : x.desc = μ'.2.2.2.desc) (hl2 : mp_w (.instanceMethod μ'.2.2.2)) (hl3 : mp_w (.selects r.1 x μ'.2.2.2)) (hM : M b = some (mp_o ci fs)) (hci : vwCl[ci]? = some r) (hn' : As.length = n') (hst : st = As.reverse ++ .ref b :: rest) (hW : (rest.map fun v => v.category).sum ≤ 8) (hd : d' < κ.2.1) (hk : k + mc' ≤ κ.2.2.1) (hn : n + ms' ≤ κ.2.2.2.1) (d : decode μ.1 pc = .ok (.invokevirtual ix, 3))
    (kk : ∀ v M', P v M' → mp_J Γ μ E κ M' lv (pc + 3) (v.toList ++ rest) (k + mc') (n + ms')) : mp_J Γ μ E κ M lv pc st k n := fun hC H locs ls hH hl => by
  obtain ⟨hx, hb, hml, hown, hr, hlk, hnm, hTB, hK, hSt, hZ, hrm, hfin⟩ := id hC
  obtain ⟨-, h1, h2, h3, h4⟩ := mp_cb (mc' := mc') (ms' := ms') hC Y hd
  have hde : va_Decl Γ.s ⟨owner, x.name, x.desc⟩ := by
    rcases hdecl with h | ⟨h, b0, m0, r0, h'⟩
    · exact va_Decl.abs (mp_TB.use hTB h)
    · exact va_Decl.of (args := #[]) (mp_TB.use hTB h) (mp_TB.use hTB h')
  refine mp_after (va_runU (Ts := []) (C := r.1) (owner := owner) ⟨hx, hb, hml, hown, fun w h => by cases h⟩ (hc.met H.size) ⟨⟨rfl, rfl, h1, h2, h3, List.mem_cons_self⟩, mp_TB.use hTB Y.1, mp_TB.use hTB Y.2.1, how, fun sig h => h4 sig (by rw [← hxd]; exact h), mp_TB.use hTB hl1, mp_TB.use hTB hl4, hde, mp_TB.use hTB hl3, mp_TB.use hTB hl2⟩ ⟨(mp_pre hC hH).1, va_recv (q0 := 0) hK (mp_one (hH.1 b _ hM).1) hci rfl, (mp_pre hC hH).2⟩ rfl hn' hl.1 hst (mp_room hW) d ⟨Nat.le_trans hk hrm.2.2.1, Nat.le_trans hn hrm.2.2.2⟩) hH fun v M' H1 locs1 hp hH1 => kk v M' hp hC H1 locs1 ls hH1 hl
end MPH
