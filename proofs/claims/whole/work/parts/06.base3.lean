section MPX
variable {Γ : mp_G} {μ : mp_D} {E : mp_E} {κ : mp_K} {M : mp_M} {lv : List (Nat × Value)} {pc : Nat} {st : List Value} {k n : Nat} {H H1 : Heap} {locs : List Loc}

theorem j_ncmp_eq {x y : Int32} {off : Int} (tgt : Nat) (a b : Nat) (ex : x = nI a) (ey : y = nI b) (ha : a < 2 ^ 31) (hb : b < 2 ^ 31) (d : decode μ.1 pc = .ok (.if_icmp .eq off, 3)) (ht : (pc : Int) + off = (tgt : Int)) (kt : a = b → mp_J Γ μ E κ M lv tgt st k n) (kf : a ≠ b → mp_J Γ μ E κ M lv (pc + 3) st k n) : mp_J Γ μ E κ M lv pc (.int y :: .int x :: st) k n := by
  subst ex; subst ey
  exact j_icmp_eq tgt d ht (fun h => kt ((nI_eq ha hb).mp h)) (fun h => kf (fun e => h ((nI_eq ha hb).mpr e)))
theorem j_ncmp_ne {x y : Int32} {off : Int} (tgt : Nat) (a b : Nat) (ex : x = nI a) (ey : y = nI b) (ha : a < 2 ^ 31) (hb : b < 2 ^ 31) (d : decode μ.1 pc = .ok (.if_icmp .ne off, 3)) (ht : (pc : Int) + off = (tgt : Int)) (kt : a ≠ b → mp_J Γ μ E κ M lv tgt st k n) (kf : a = b → mp_J Γ μ E κ M lv (pc + 3) st k n) : mp_J Γ μ E κ M lv pc (.int y :: .int x :: st) k n := by
  subst ex; subst ey
  exact j_icmp_ne tgt d ht (fun h => kt (fun e => h ((nI_eq ha hb).mpr e))) (fun h => kf ((nI_eq ha hb).mp h))
theorem j_ncmp_lt {x y : Int32} {off : Int} (tgt : Nat) (a b : Nat) (ex : x = nI a) (ey : y = nI b) (ha : a < 2 ^ 31) (hb : b < 2 ^ 31) (d : decode μ.1 pc = .ok (.if_icmp .lt off, 3)) (ht : (pc : Int) + off = (tgt : Int)) (kt : a < b → mp_J Γ μ E κ M lv tgt st k n) (kf : b ≤ a → mp_J Γ μ E κ M lv (pc + 3) st k n) : mp_J Γ μ E κ M lv pc (.int y :: .int x :: st) k n := by
  subst ex; subst ey
  exact j_icmp_lt tgt d ht (fun h => kt ((nI_ltI ha hb).mp h)) (fun h => kf (Nat.not_lt.mp (fun e => h ((nI_ltI ha hb).mpr e))))
theorem j_ncmp_ge {x y : Int32} {off : Int} (tgt : Nat) (a b : Nat) (ex : x = nI a) (ey : y = nI b) (ha : a < 2 ^ 31) (hb : b < 2 ^ 31) (d : decode μ.1 pc = .ok (.if_icmp .ge off, 3)) (ht : (pc : Int) + off = (tgt : Int)) (kt : b ≤ a → mp_J Γ μ E κ M lv tgt st k n) (kf : a < b → mp_J Γ μ E κ M lv (pc + 3) st k n) : mp_J Γ μ E κ M lv pc (.int y :: .int x :: st) k n := by
  subst ex; subst ey
  exact j_icmp_ge tgt d ht (fun h => kt ((nI_leI hb ha).mp h)) (fun h => kf (Nat.not_le.mp (fun e => h ((nI_leI hb ha).mpr e))))
theorem j_ncmp_gt {x y : Int32} {off : Int} (tgt : Nat) (a b : Nat) (ex : x = nI a) (ey : y = nI b) (ha : a < 2 ^ 31) (hb : b < 2 ^ 31) (d : decode μ.1 pc = .ok (.if_icmp .gt off, 3)) (ht : (pc : Int) + off = (tgt : Int)) (kt : b < a → mp_J Γ μ E κ M lv tgt st k n) (kf : a ≤ b → mp_J Γ μ E κ M lv (pc + 3) st k n) : mp_J Γ μ E κ M lv pc (.int y :: .int x :: st) k n := by
  subst ex; subst ey
  exact j_icmp_gt tgt d ht (fun h => kt ((nI_ltI hb ha).mp h)) (fun h => kf (Nat.not_lt.mp (fun e => h ((nI_ltI hb ha).mpr e))))
theorem j_ncmp_le {x y : Int32} {off : Int} (tgt : Nat) (a b : Nat) (ex : x = nI a) (ey : y = nI b) (ha : a < 2 ^ 31) (hb : b < 2 ^ 31) (d : decode μ.1 pc = .ok (.if_icmp .le off, 3)) (ht : (pc : Int) + off = (tgt : Int)) (kt : a ≤ b → mp_J Γ μ E κ M lv tgt st k n) (kf : b < a → mp_J Γ μ E κ M lv (pc + 3) st k n) : mp_J Γ μ E κ M lv pc (.int y :: .int x :: st) k n := by
  subst ex; subst ey
  exact j_icmp_le tgt d ht (fun h => kt ((nI_leI ha hb).mp h)) (fun h => kf (Nat.not_le.mp (fun e => h ((nI_leI ha hb).mpr e))))
theorem j_nif_eq {x : Int32} {off : Int} (tgt : Nat) (a : Nat) (ex : x = nI a) (ha : a < 2 ^ 31) (d : decode μ.1 pc = .ok (.ifCond .eq off, 3)) (ht : (pc : Int) + off = (tgt : Int)) (kt : a = 0 → mp_J Γ μ E κ M lv tgt st k n) (kf : a ≠ 0 → mp_J Γ μ E κ M lv (pc + 3) st k n) : mp_J Γ μ E κ M lv pc (.int x :: st) k n := by
  subst ex
  exact j_if_eq tgt d ht (fun h => kt ((nI_eq ha (by decide)).mp (h.trans nI_0.symm))) (fun h => kf (fun e => h (by rw [e, nI_0])))
theorem j_nif_ne {x : Int32} {off : Int} (tgt : Nat) (a : Nat) (ex : x = nI a) (ha : a < 2 ^ 31) (d : decode μ.1 pc = .ok (.ifCond .ne off, 3)) (ht : (pc : Int) + off = (tgt : Int)) (kt : a ≠ 0 → mp_J Γ μ E κ M lv tgt st k n) (kf : a = 0 → mp_J Γ μ E κ M lv (pc + 3) st k n) : mp_J Γ μ E κ M lv pc (.int x :: st) k n := by
  subst ex
  exact j_if_ne tgt d ht (fun h => kt (fun e => h (by rw [e, nI_0]))) (fun h => kf ((nI_eq ha (by decide)).mp (h.trans nI_0.symm)))
theorem j_nif_lt {x : Int32} {off : Int} (tgt : Nat) (a : Nat) (ex : x = nI a) (ha : a < 2 ^ 31) (d : decode μ.1 pc = .ok (.ifCond .lt off, 3)) (ht : (pc : Int) + off = (tgt : Int)) (kt : False → mp_J Γ μ E κ M lv tgt st k n) (kf : True → mp_J Γ μ E κ M lv (pc + 3) st k n) : mp_J Γ μ E κ M lv pc (.int x :: st) k n := by
  subst ex
  exact j_if_lt tgt d ht (fun h => kt (nI_pos ha h)) (fun h => kf (trivial))
theorem j_nif_ge {x : Int32} {off : Int} (tgt : Nat) (a : Nat) (ex : x = nI a) (ha : a < 2 ^ 31) (d : decode μ.1 pc = .ok (.ifCond .ge off, 3)) (ht : (pc : Int) + off = (tgt : Int)) (kt : True → mp_J Γ μ E κ M lv tgt st k n) (kf : False → mp_J Γ μ E κ M lv (pc + 3) st k n) : mp_J Γ μ E κ M lv pc (.int x :: st) k n := by
  subst ex
  exact j_if_ge tgt d ht (fun h => kt (trivial)) (fun h => kf (h (nI_pos' ha)))
theorem j_nif_gt {x : Int32} {off : Int} (tgt : Nat) (a : Nat) (ex : x = nI a) (ha : a < 2 ^ 31) (d : decode μ.1 pc = .ok (.ifCond .gt off, 3)) (ht : (pc : Int) + off = (tgt : Int)) (kt : 0 < a → mp_J Γ μ E κ M lv tgt st k n) (kf : a = 0 → mp_J Γ μ E κ M lv (pc + 3) st k n) : mp_J Γ μ E κ M lv pc (.int x :: st) k n := by
  subst ex
  exact j_if_gt tgt d ht (fun h => kt ((nI_ltI (by decide) ha).mp (by rw [nI_0]; exact h))) (fun h => kf (Nat.le_zero.mp (Nat.not_lt.mp (fun e => h (by have := (nI_ltI (by decide) ha).mpr e; rwa [nI_0] at this)))))
theorem j_nif_le {x : Int32} {off : Int} (tgt : Nat) (a : Nat) (ex : x = nI a) (ha : a < 2 ^ 31) (d : decode μ.1 pc = .ok (.ifCond .le off, 3)) (ht : (pc : Int) + off = (tgt : Int)) (kt : a = 0 → mp_J Γ μ E κ M lv tgt st k n) (kf : 0 < a → mp_J Γ μ E κ M lv (pc + 3) st k n) : mp_J Γ μ E κ M lv pc (.int x :: st) k n := by
  subst ex
  exact j_if_le tgt d ht (fun h => kt (Nat.le_zero.mp ((nI_leI ha (by decide)).mp (by rw [nI_0]; exact h)))) (fun h => kf (Nat.not_le.mp (fun e => h (by have := (nI_leI ha (by decide)).mpr e; rwa [nI_0] at this))))
-- an array by another function that agrees with it where it has places
theorem mp_arrV {cA : ClassId} {m : Nat} {f g : Nat → Value} (h : ∀ j, j < m → f j = g j) : arrV cA m f = arrV cA m g := by
  unfold arrV
  congr 1
  apply Array.ext
  · simp
  · intro i h1 h2
    simp at h1
    simp [h i h1]
theorem mp_canon {a : Nat} {x y : va_E} (hM : M a = some x) (hxy : ∀ H, va_at E.1 vwCl (a, x) H → va_at E.1 vwCl (a, y) H) (kk : mp_J Γ μ E κ (mp_up M a y) lv pc st k n) : mp_J Γ μ E κ M lv pc st k n := fun hC H locs ls hH hl => by
  refine kk hC H locs ls ⟨fun b y' hb => ?_, hH.2⟩ hl
  by_cases h : b = a
  · subst h
    rw [mp_s] at hb
    cases hb
    exact ⟨hxy H (hH.1 _ _ hM).1, (hH.1 _ _ hM).2⟩
  · rw [mp_n h] at hb
    exact hH.1 b y' hb
theorem j_canon {a m : Nat} {cA : ClassId} {f : Nat → Int32} (g : Nat → Int32) (hM : M a = some (.inl (cA, m, .inl f))) (h : ∀ j, j < m → f j = g j) (kk : mp_J Γ μ E κ (mp_up M a (.inl (cA, m, .inl g))) lv pc st k n) : mp_J Γ μ E κ M lv pc st k n :=
  mp_canon hM (fun H hH => by
    show H[a]? = some (vp_cell cA (m, .inl g))
    rw [vp_cell_i, ← mp_arrV (f := fun j => .int (f j)) (fun j hj => by rw [h j hj])]
    exact hH) kk
theorem j_canonq {a m : Nat} {cA : ClassId} {f : Nat → Option Nat} (g : Nat → Option Nat) (hM : M a = some (.inl (cA, m, .inr (.inr (.inr (.inr f)))))) (h : ∀ j, j < m → f j = g j) (kk : mp_J Γ μ E κ (mp_up M a (.inl (cA, m, .inr (.inr (.inr (.inr g)))))) lv pc st k n) : mp_J Γ μ E κ M lv pc st k n :=
  mp_canon hM (fun H hH => by
    show H[a]? = some (vp_cell cA (m, .inr (.inr (.inr (.inr g)))))
    rw [vp_cell_q, ← mp_arrV (f := fun j => va_rf (f j)) (fun j hj => by rw [h j hj])]
    exact hH) kk
theorem mp_same {a : Nat} {x : va_E} (h : M a = some x) : mp_up M a x = M := by
  funext q
  by_cases hq : q = a
  · subst hq
    rw [mp_s, h]
  · rw [mp_n hq]
-- the array copy
theorem mp_nn {z : Int32} (hz : ¬ z < 0) : z.toInt = (z.toNatClampNeg : Int) := by
  have hz0 : (0 : Int) ≤ z.toInt := by
    have := Int32.not_lt.mp hz
    simpa using Int32.le_iff_toInt_le.mp this
  show z.toInt = ((z.toInt.toNat : Nat) : Int)
  omega
theorem mp_H.sets {a : Nat} {e0 e : va_E} (hH : mp_H Γ E κ M H locs) (h0 : M a = some e0) (he : va_at E.1 vwCl (a, e) H1) (hz : H1.size = H.size) (oq : ∀ q : Nat, q ≠ a → H1[q]? = H[q]?) {L : List Loc} (hL : ∀ q ∈ L, q.base = a) : mp_H Γ E κ (mp_up M a e) H1 (locs ++ L) := by
  obtain ⟨h1, h2⟩ := mp_H.set (slot := 0) hH h0 he hz oq
  refine ⟨h1, h2.1, h2.2.1, fun q hq => ?_⟩
  rcases List.mem_append.mp hq with h | h
  · exact hH.2.2.2 q h
  · rw [hL q h]
    exact (hH.1 a e0 h0).2
theorem j_copy {ix a0 a n0 n1 : Nat} {f g : Nat → Int32} {ty : FieldType} (t0 : Nat) (hty : (mp_tys E)[t0]? = some (E.2.1 t0, ty)) (hprim : refKind ty = false) (hw1 : mp_w (.methodLink μ.2.2.2.cls ix arraycopyName)) (hw2 : mp_w (.native arraycopyName)) (hw3 : mp_w (.static arraycopyName)) (hw4 : mp_w (.initialized "java/lang/System"))
    (ha0 : M a0 = some (.inl (E.2.1 t0, n0, .inl f))) (ha1 : M a = some (.inl (E.2.1 t0, n1, .inl g))) {ssp sdp sm : Int32} (sp dp m : Nat) (e1 : ssp = nI sp) (e2 : sdp = nI dp) (e3 : sm = nI m) (h4 : sp + m ≤ n0) (h5 : dp + m ≤ n1) (hn0 : n0 < 2 ^ 31) (hn1 : n1 < 2 ^ 31) (hfit : ∀ i, i < m → fits ty (.int (f (sp + i))) = true) (hd : 1 ≤ κ.2.1) (hst : (st.map fun v => v.category).sum ≤ 8) (d : decode μ.1 pc = .ok (.invokestatic ix, 3))
    (kk : mp_J Γ μ E κ (mp_up M a (.inl (E.2.1 t0, n1, .inl (va_cpy f g sp dp m)))) lv (pc + 3) st k n) : mp_J Γ μ E κ M lv pc (.int sm :: .int sdp :: .ref a :: .int ssp :: .ref a0 :: st) k n := fun hC H locs ls hH hl => by
  obtain ⟨hx, hb, hml, hown, hr, hlk, hnm, hTB, hK, hSt, hZ, hrm, hfin⟩ := id hC
  subst e1; subst e2; subst e3
  have c1 : (nI sp).toNatClampNeg = sp := nI_clamp (by omega)
  have c2 : (nI dp).toNatClampNeg = dp := nI_clamp (by omega)
  have c3 : (nI m).toNatClampNeg = m := nI_clamp (by omega)
  have p1 : ¬ nI sp < 0 := nI_pos (by omega)
  have p2 : ¬ nI dp < 0 := nI_pos (by omega)
  have p3 : ¬ nI m < 0 := nI_pos (by omega)
  intro T hT X
  have hc0 : H[a0]? = some (vp_cell (E.2.1 t0) (n0, .inl f)) := (hH.1 a0 _ ha0).1
  have hc1 : H[a]? = some (vp_cell (E.2.1 t0) (n1, .inl g)) := (hH.1 a _ ha1).1
  obtain ⟨-, k0, hk0, cm0, hkk0⟩ := (hK.2 t0 _ hty).1 n0 (fun j => .int (f j))
  obtain ⟨-, k1, hk1, cm1, hkk1⟩ := (hK.2 t0 _ hty).1 n1 (fun j => .int (g j))
  obtain ⟨vm', X', step⟩ := X.arraycopy hx hown (mp_TB.use hTB hw1) (mp_TB.use hTB hw2) (mp_TB.use hTB hw3) (mp_TB.use hTB hw4) (src := a0) (dst := a) (cs := vp_cell (E.2.1 t0) (n0, .inl f)) (cd := vp_cell (E.2.1 t0) (n1, .inl g)) (srcPos := nI sp) (destPos := nI dp) (n := nI m) (by rw [hT]; exact hc0) (by rw [hT]; exact hc1)
    (fun _ h => by cases h) (fun _ h => by cases h) (fun h => by cases h) (fun h => by cases h) hk0 hk1 hkk0 hkk1 (by simp [hprim]) p1 p2 p3
    (by rw [mp_nn p1, mp_nn p3, c1, c3]; show ¬ _ > ((arrV (E.2.1 t0) n0 (fun j => .int (f j))).slots.size : Int); rw [arrV_size]; omega)
    (by rw [mp_nn p2, mp_nn p3, c2, c3]; show ¬ _ > ((arrV (E.2.1 t0) n1 (fun j => .int (g j))).slots.size : Int); rw [arrV_size]; omega)
    (fun vm₁ _ i hi => by
      rw [c3] at hi
      have e : (vp_cell (E.2.1 t0) (n0, .inl f)).slots.getD ((nI sp).toNatClampNeg + i) .null = .int (f (sp + i)) := by
        rw [c1]
        show (arrV (E.2.1 t0) n0 (fun j => .int (f j))).slots.getD _ _ = _
        rw [Array.getD_eq_getD_getElem?, arrV_read _ _ (by omega)]
        rfl
      refine ⟨?_, ?_⟩
      · rw [e]
        exact hfit i hi
      · rw [e]
        exact trivial)
    (g := F0 Γ.m pc ls (.int (nI m) :: .int (nI dp) :: .ref a :: .int (nI sp) :: .ref a0 :: st)) rfl (by rw [hml]; exact hl.1) (rest := st) rfl (by rw [hb]; exact d) (Nat.le_trans hd hrm.1) (by
      have h9 := hrm.2.1
      show 2 * 0 + _ + (nativeFrameWords "java/lang/System" "arraycopy" 5 + 11) ≤ _
      have h8 : nativeFrameWords "java/lang/System" "arraycopy" 5 ≤ 40 := by decide
      omega)
  have e1 : copied (vp_cell (E.2.1 t0) (n0, .inl f)) (vp_cell (E.2.1 t0) (n1, .inl g)) (nI sp) (nI dp) (nI m) = vp_cell (E.2.1 t0) (n1, .inl (va_cpy f g (nI sp).toNatClampNeg (nI dp).toNatClampNeg (nI m).toNatClampNeg)) := va_copied (fun z => .int z) (E.2.1 t0) (E.2.1 t0) f g (by rw [c1, c3]; exact h4)
  rw [c1, c2, c3] at e1
  rw [e1] at X' step
  have hlt : a < H.size := (Array.getElem?_eq_some_iff.mp hc1).1
  have hheap : ((T.setVm vm').setCell a (vp_cell (E.2.1 t0) (n1, .inl (va_cpy f g sp dp m)))).heap = H.setIfInBounds a (vp_cell (E.2.1 t0) (n1, .inl (va_cpy f g sp dp m))) := by rw [← hT]; rfl
  have oq : ∀ q : Nat, q ≠ a → (H.setIfInBounds a (vp_cell (E.2.1 t0) (n1, .inl (va_cpy f g sp dp m))))[q]? = H[q]? := fun q hq => by simp [Array.getElem?_setIfInBounds, Ne.symm hq]
  have he : (H.setIfInBounds a (vp_cell (E.2.1 t0) (n1, .inl (va_cpy f g sp dp m))))[a]? = some (vp_cell (E.2.1 t0) (n1, .inl (va_cpy f g sp dp m))) := by simp [Array.getElem?_setIfInBounds, hlt]
  obtain ⟨t, a1, b1⟩ := kk hC _ _ ls (mp_H.sets (e := .inl (E.2.1 t0, n1, .inl (va_cpy f g sp dp m))) hH ha1 he (by simp) oq (fun q hq => by
      obtain ⟨z, -, hz⟩ := List.mem_map.mp hq
      rw [← hz])) hl _ hheap X'
  exact ⟨t, step t a1, b1⟩
theorem j_copyx {ix a n1 : Nat} {g : Nat → Int32} (t : Nat) {q : String × String × List Int32} (ht : st_tab[t]? = some q) (hw1 : mp_w (.methodLink μ.2.2.2.cls ix arraycopyName)) (hw2 : mp_w (.native arraycopyName)) (hw3 : mp_w (.static arraycopyName)) (hw4 : mp_w (.initialized "java/lang/System"))
    (ha1 : M a = some (mp_i E n1 g)) {ssp sdp sm : Int32} (m : Nat) (e1 : ssp = nI 0) (e2 : sdp = nI 0) (e3 : sm = nI m) (h4 : m ≤ q.2.2.length) (h5 : m ≤ n1) (hn0 : q.2.2.length < 2 ^ 31) (hn1 : n1 < 2 ^ 31) (hd : 1 ≤ κ.2.1) (hst : (st.map fun v => v.category).sum ≤ 8) (d : decode μ.1 pc = .ok (.invokestatic ix, 3))
    (kk : mp_J Γ μ E κ (mp_up M a (mp_i E n1 (va_cpy (fun j => q.2.2.getD j 0) g 0 0 m))) lv (pc + 3) st k n) : mp_J Γ μ E κ M lv pc (.int sm :: .int sdp :: .ref a :: .int ssp :: .ref (E.2.2.2 t) :: st) k n := fun hC H locs ls hH hl => by
  obtain ⟨hx, hb, hml, hown, hr, hlk, hnm, hTB, hK, hSt, hZ, hrm, hfin⟩ := id hC
  subst e1; subst e2; subst e3
  have c1 : (nI 0).toNatClampNeg = 0 := nI_clamp (by omega)
  have c3 : (nI m).toNatClampNeg = m := nI_clamp (by omega)
  have p1 : ¬ nI 0 < 0 := nI_pos (by omega)
  have p3 : ¬ nI m < 0 := nI_pos (by omega)
  intro T hT X
  obtain ⟨-, ⟨scr, hs1, hs2, hs3, hs4, -, hs5, -⟩, hz0⟩ := hSt.1 t q ht
  have hc0 : H[E.2.2.2 t]? = some scr := by rw [hH.2.2.1 _ (hZ _ hz0).2 (hZ _ hz0).1]; exact hs1
  have hc1 : H[a]? = some (vp_cell (E.2.1 1) (n1, .inl g)) := (hH.1 a _ ha1).1
  obtain ⟨hs6, k0, hk0, cm0, hkk0⟩ := hs2
  obtain ⟨-, k1, hk1, cm1, hkk1⟩ := (hK.2 1 _ rfl).1 n1 (fun j => .int (g j))
  obtain ⟨vm', X', step⟩ := X.arraycopy hx hown (mp_TB.use hTB hw1) (mp_TB.use hTB hw2) (mp_TB.use hTB hw3) (mp_TB.use hTB hw4) (src := E.2.2.2 t) (dst := a) (cs := scr) (cd := vp_cell (E.2.1 1) (n1, .inl g)) (srcPos := nI 0) (destPos := nI 0) (n := nI m) (by rw [hT]; exact hc0) (by rw [hT]; exact hc1)
    hs6 (fun _ h => by cases h) hs3 (fun h => by cases h) hk0 hk1 hkk0 hkk1 (by simp [refKind]) p1 p1 p3
    (by rw [mp_nn p1, mp_nn p3, c1, c3]; omega)
    (by rw [mp_nn p1, mp_nn p3, c1, c3]; show ¬ _ > ((arrV (E.2.1 1) n1 (fun j => .int (g j))).slots.size : Int); rw [arrV_size]; omega)
    (fun vm₁ _ i hi => by
      rw [c3] at hi
      have e : scr.slots.getD ((nI 0).toNatClampNeg + i) .null = .int (q.2.2.getD (0 + i) 0) := by
        rw [c1, Array.getD_eq_getD_getElem?, hs5 _ (by omega)]
        rfl
      refine ⟨?_, ?_⟩
      · rw [e]
        rfl
      · rw [e]
        exact trivial)
    (g := F0 Γ.m pc ls (.int (nI m) :: .int (nI 0) :: .ref a :: .int (nI 0) :: .ref (E.2.2.2 t) :: st)) rfl (by rw [hml]; exact hl.1) (rest := st) rfl (by rw [hb]; exact d) (Nat.le_trans hd hrm.1) (by
      have h9 := hrm.2.1
      show 2 * 0 + _ + (nativeFrameWords "java/lang/System" "arraycopy" 5 + 11) ≤ _
      have h8 : nativeFrameWords "java/lang/System" "arraycopy" 5 ≤ 40 := by decide
      omega)
  have e1 : copied scr (vp_cell (E.2.1 1) (n1, .inl g)) (nI 0) (nI 0) (nI m) = vp_cell (E.2.1 1) (n1, .inl (va_cpy (fun j => q.2.2.getD j 0) g (nI 0).toNatClampNeg (nI 0).toNatClampNeg (nI m).toNatClampNeg)) := va_copiedX (fun z => .int z) scr (E.2.1 1) (fun j => q.2.2.getD j 0) g hs5 (by rw [c1, c3]; omega)
  rw [c1, c3] at e1
  rw [e1] at X' step
  have hlt : a < H.size := (Array.getElem?_eq_some_iff.mp hc1).1
  have hheap : ((T.setVm vm').setCell a (vp_cell (E.2.1 1) (n1, .inl (va_cpy (fun j => q.2.2.getD j 0) g 0 0 m)))).heap = H.setIfInBounds a (vp_cell (E.2.1 1) (n1, .inl (va_cpy (fun j => q.2.2.getD j 0) g 0 0 m))) := by rw [← hT]; rfl
  have oq : ∀ q' : Nat, q' ≠ a → (H.setIfInBounds a (vp_cell (E.2.1 1) (n1, .inl (va_cpy (fun j => q.2.2.getD j 0) g 0 0 m))))[q']? = H[q']? := fun q' hq => by simp [Array.getElem?_setIfInBounds, Ne.symm hq]
  have he : (H.setIfInBounds a (vp_cell (E.2.1 1) (n1, .inl (va_cpy (fun j => q.2.2.getD j 0) g 0 0 m))))[a]? = some (vp_cell (E.2.1 1) (n1, .inl (va_cpy (fun j => q.2.2.getD j 0) g 0 0 m))) := by simp [Array.getElem?_setIfInBounds, hlt]
  obtain ⟨t', a1, b1⟩ := kk hC _ _ ls (mp_H.sets (e := .inl (E.2.1 1, n1, .inl (va_cpy (fun j => q.2.2.getD j 0) g 0 0 m))) hH ha1 he (by simp) oq (fun q hq => by
      obtain ⟨z, -, hz⟩ := List.mem_map.mp hq
      rw [← hz])) hl _ hheap X'
  exact ⟨t', step t' a1, b1⟩
end MPX

