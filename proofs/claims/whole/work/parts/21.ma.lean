section IVT
variable {E : mp_E} {X : Nat → Prop} {M N : mp_M} {L : Nat → Nat} {y n k : Nat} {zs m o : List am_T} {b : List Bool}
theorem MP.t {r : Option am_St} (h : IV E X N L y n zs m o b k) (fr : mp_Fr X M N) (e : r = some (m, o, b, k)) : MP E X M L y n zs r (some (.int (nI 1))) N := ⟨true, m, o, b, k, rfl, h, fr, fun _ => e, fun z => by cases z⟩
theorem MP.f {r : Option am_St} (h : IV E X N L y n zs m o b k) (fr : mp_Fr X M N) (e : ∀ s, r = some s → 200 < s.1.length + s.2.1.length) : MP E X M L y n zs r (some (.int (nI 0))) N := ⟨false, m, o, b, k, rfl, h, fr, fun z => (by cases z), fun _ => e⟩
theorem MP.c {r r' : Option am_St} {M' : mp_M} {v : Option Value} (h : MP E X M' L y n zs r' v N) (fr : mp_Fr X M M') (e : r = r') : MP E X M L y n zs r v N := by
  obtain ⟨w, m, o, b, k, h1, h2, h3, h4, h5⟩ := h
  subst e
  exact ⟨w, m, o, b, k, h1, h2, fr.trans h3, h4, h5⟩
theorem MP.push {x : am_T} {r : Option am_St} (h : IV E X N L y n zs (if m.length < 200 then x :: m else m) o b k) (fr : mp_Fr X M N) (e : r = some (x :: m, o, b, k)) : MP E X M L y n zs r (some (.int (tf (decide (m.length < 200))))) N := by
  subst e
  by_cases hz : m.length < 200
  · rw [if_pos hz] at h
    exact ⟨true, _, _, _, _, by rw [decide_eq_true hz], h, fr, fun _ => rfl, fun z => by cases z⟩
  · rw [if_neg hz] at h
    exact ⟨false, _, _, _, _, by rw [decide_eq_false hz], h, fr, fun z => (by cases z), fun _ s hs => by cases hs; show 200 < (x :: m).length + o.length; simp; omega⟩
theorem MP.bool {w : Bool} {r : Option am_St} (h : IV E X N L y n zs m o b k) (fr : mp_Fr X M N) (e : r = if w then some (m, o, b, k) else none) : MP E X M L y n zs r (some (.int (tf w))) N := by
  subst e
  exact ⟨w, m, o, b, k, rfl, h, fr, fun z => by rw [z]; rfl, fun z s hs => by rw [z] at hs; cases hs⟩
variable (l : Launch)
theorem am_cons {m : List am_T} {j : Nat} (hj : j < m.length) : m.drop j = m.getD j [] :: m.drop (j + 1) := by
  rw [List.drop_eq_getElem_cons hj]
  simp [List.getD, hj]
theorem i_popd {j : Nat} (h : IV E X M L y n zs (m.drop j) o b k) (hL : LY X L) (hj : j < m.length) : mp_Cr l m_St_pop E M 1 0 0 [.ref (L 13)] (fun v N => ∃ t, v = some (.ref t) ∧ TH E X N t (m.getD j []) ∧ IV E X N L y n zs (m.drop (j + 1)) o b k ∧ mp_Fr X M N) := by
  rw [am_cons hj] at h
  exact i_pop l h hL
theorem i_opopd {j : Nat} (h : IV E X M L y n zs m (o.drop j) b k) (hL : LY X L) (hj : j < o.length) : mp_Cr l m_St_pop E M 1 0 0 [.ref (L 11)] (fun v N => ∃ t, v = some (.ref t) ∧ TH E X N t (o.getD j []) ∧ IV E X N L y n zs m (o.drop (j + 1)) b k ∧ mp_Fr X M N) := by
  rw [am_cons hj] at h
  exact i_opop l h hL
end IVT
set_option maxHeartbeats 4000000 in
set_option maxRecDepth 100000 in
theorem c_Ma_pushNumber (l : Launch) (E : mp_E) (M : mp_M) (X : Nat → Prop) (L : Nat → Nat) (y n : Nat) (zs m o : List am_T) (b : List Bool) (k : Nat) (v : Int64) (hI : IV E X M L y n zs m o b k) (hL : LY X L) (hv : am_mag v < 2 ^ 40) : mp_Cr l m_Ma_pushNumber E M 5 2 8 [.ref (L 0), .long v] (MP E X M L y n zs (some (am_of v :: m, o, b, k))) := by
  refine mp_Cr.of (by decide) (Nat.le_of_ble_eq_true rfl) fun Γ κ hl hκ => ?_
  subst hl
  obtain ⟨hκd, hκc, hκs, -⟩ := id hκ
  have hlm := hI.sm.le
  have hlo := hI.so.le
  obtain ⟨z0_m, u0_m⟩ := hI.sm.o
  obtain ⟨z0_o, u0_o⟩ := hI.so.o
  show mp_J Γ m_Ma_pushNumber E κ M [(0, .ref (L 0)), (1, .long v)] 0 [] 0 0
  refine j_aload_n d_Ma_pushNumber_0 rfl 0 rfl ?_
  refine j_get F_Ma hI.mo 6 (by decide) w_169 (Or.inl rfl) rfl d_Ma_pushNumber_1 ?_
  refine j_lload_n d_Ma_pushNumber_4 rfl 1 rfl ?_
  refine j_callS (As := [.long v]) (rest := [.ref (L 13)]) (i_of Γ.l v hv hI hL) Y_Th_ofNumber w_145 w_146 rfl rfl (Nat.le_of_ble_eq_true rfl) (by omega) (by omega) (by omega) d_Ma_pushNumber_5 (fun v5 N5 p5 => ?_)
  obtain ⟨t5, rfl, ht5, I5, f5⟩ := p5
  obtain ⟨z5_1m, u5_1m⟩ := I5.sm.o
  obtain ⟨z5_1o, u5_1o⟩ := I5.so.o
  obtain ⟨z5_1_t5, u5_1_t5⟩ := ht5.o
  show mp_J Γ m_Ma_pushNumber E κ N5 [(0, .ref (L 0)), (1, .long v)] 8 [.ref t5, .ref (L 13)] (0 + 2) (0 + 8)
  refine j_callV (As := [.ref t5]) (rest := []) (i_push Γ.l I5 hL ht5) Y_St_push w_656 w_657 w_658 u5_1m rfl rfl rfl (Nat.le_of_ble_eq_true rfl) (by omega) (by omega) (by omega) d_Ma_pushNumber_8 (fun v8 N8 p8 => ?_)
  obtain ⟨rfl, I8, f8⟩ := p8
  have ht5_8_2 := ht5.keep f8
  obtain ⟨z8_2m, u8_2m⟩ := I8.sm.o
  obtain ⟨z8_2o, u8_2o⟩ := I8.so.o
  obtain ⟨z8_2_t5, u8_2_t5⟩ := ht5_8_2.o
  show mp_J Γ m_Ma_pushNumber E κ N8 [(0, .ref (L 0)), (1, .long v)] 11 [.int (tf (decide (m.length < 200)))] (0 + 2) (0 + 8)
  exact j_zret hκ rfl (tf_01 _) (by omega) (by omega) d_Ma_pushNumber_11 (MP.push I8 (f5.trans f8) rfl)

set_option maxHeartbeats 4000000 in
set_option maxRecDepth 100000 in
theorem c_Ma_pushTruth (l : Launch) (E : mp_E) (M : mp_M) (X : Nat → Prop) (L : Nat → Nat) (y n : Nat) (zs m o : List am_T) (b : List Bool) (k : Nat) (t : Bool) (hI : IV E X M L y n zs m o b k) (hL : LY X L) : mp_Cr l m_Ma_pushTruth E M 2 0 0 [.ref (L 0), .int (tf t)] (MP E X M L y n zs (some (am_of (if t then 1 else 0) :: m, o, b, k))) := by
  refine mp_Cr.of (by decide) (Nat.le_of_ble_eq_true rfl) fun Γ κ hl hκ => ?_
  subst hl
  obtain ⟨hκd, hκc, hκs, -⟩ := id hκ
  have hlm := hI.sm.le
  have hlo := hI.so.le
  obtain ⟨z0_m, u0_m⟩ := hI.sm.o
  obtain ⟨z0_o, u0_o⟩ := hI.so.o
  show mp_J Γ m_Ma_pushTruth E κ M [(0, .ref (L 0)), (1, .int (tf t))] 0 [] 0 0
  refine j_aload_n d_Ma_pushTruth_0 rfl 0 rfl ?_
  refine j_get F_Ma hI.mo 6 (by decide) w_169 (Or.inl rfl) rfl d_Ma_pushTruth_1 ?_
  refine j_iload_n d_Ma_pushTruth_4 rfl 1 rfl ?_
  refine j_tif_eq 15 d_Ma_pushTruth_5 (by decide) (fun b5 => ?_) (fun b5 => ?_)
  · skip
    refine j_aload_n d_Ma_pushTruth_15 rfl 0 rfl ?_
    refine j_get F_Ma hI.mo 5 (by decide) w_168 (Or.inl rfl) rfl d_Ma_pushTruth_16 ?_
    refine j_callV (As := [.ref n]) (rest := []) (i_push Γ.l hI hL hI.tn) Y_St_push w_656 w_657 w_658 u0_m rfl rfl rfl (Nat.le_of_ble_eq_true rfl) (by omega) (by omega) (by omega) d_Ma_pushTruth_19 (fun v19 N19 p19 => ?_)
    obtain ⟨rfl, I19, f19⟩ := p19
    obtain ⟨z19_1m, u19_1m⟩ := I19.sm.o
    obtain ⟨z19_1o, u19_1o⟩ := I19.so.o
    show mp_J Γ m_Ma_pushTruth E κ N19 [(0, .ref (L 0)), (1, .int (tf t))] 22 [.int (tf (decide (m.length < 200)))] 0 0
    exact j_zret hκ rfl (tf_01 _) (by omega) (by omega) d_Ma_pushTruth_22 (MP.push I19 f19 (by rw [b5]; rfl))
  · skip
    refine j_aload_n d_Ma_pushTruth_8 rfl 0 rfl ?_
    refine j_get F_Ma hI.mo 4 (by decide) w_167 (Or.inl rfl) rfl d_Ma_pushTruth_9 ?_
    refine j_goto (tgt := 19) d_Ma_pushTruth_12 (by decide) ?_
    refine j_callV (As := [.ref y]) (rest := []) (i_push Γ.l hI hL hI.ty) Y_St_push w_656 w_657 w_658 u0_m rfl rfl rfl (Nat.le_of_ble_eq_true rfl) (by omega) (by omega) (by omega) d_Ma_pushTruth_19 (fun v19 N19 p19 => ?_)
    obtain ⟨rfl, I19, f19⟩ := p19
    obtain ⟨z19_2m, u19_2m⟩ := I19.sm.o
    obtain ⟨z19_2o, u19_2o⟩ := I19.so.o
    show mp_J Γ m_Ma_pushTruth E κ N19 [(0, .ref (L 0)), (1, .int (tf t))] 22 [.int (tf (decide (m.length < 200)))] 0 0
    exact j_zret hκ rfl (tf_01 _) (by omega) (by omega) d_Ma_pushTruth_22 (MP.push I19 f19 (by rw [b5]; rfl))

theorem i6_lim (a : Int64) : -9223372036854775808 ≤ a.toInt ∧ a.toInt < 9223372036854775808 := ⟨Int64.le_toInt a, Int64.toInt_lt a⟩
theorem i6_bm {x : Int} (h : -9223372036854775808 ≤ x ∧ x < 9223372036854775808) : x.bmod (2 ^ 64) = x := by
  simp only [Int.bmod]
  split <;> omega
theorem i6_add {a b : Int64} (h : -9223372036854775808 ≤ a.toInt + b.toInt ∧ a.toInt + b.toInt < 9223372036854775808) : (a + b).toInt = a.toInt + b.toInt := by
  rw [Int64.toInt_add]; exact i6_bm h
theorem i6_sub {a b : Int64} (h : -9223372036854775808 ≤ a.toInt - b.toInt ∧ a.toInt - b.toInt < 9223372036854775808) : (a - b).toInt = a.toInt - b.toInt := by
  rw [Int64.toInt_sub]; exact i6_bm h
theorem i6_neg {a : Int64} (h : -9223372036854775808 < a.toInt) : (-a).toInt = -a.toInt := by
  have := i6_lim a
  rw [Int64.toInt_neg]; exact i6_bm (by omega)
theorem i6_pos {w : Int64} (h : 0 ≤ w.toInt) : ∃ j : Nat, w = lN j ∧ (j : Int) = w.toInt ∧ w.toUInt64.toNat = j := by
  refine ⟨w.toInt.toNat, ?_, by omega, ?_⟩
  · apply Int64.toInt_inj.mp
    have := i6_lim w
    rw [pk_lT (by omega)]
    omega
  · have hl := i6_lim w
    have e : w = lN w.toInt.toNat := by
      apply Int64.toInt_inj.mp
      rw [pk_lT (by omega)]
      omega
    have h2 : w.toInt.toNat < 2 ^ 63 := by omega
    generalize w.toInt.toNat = j at *
    rw [e]
    show (UInt64.ofNat j).toNat = j
    rw [UInt64.toNat_ofNat']
    omega
theorem th_mag_lt {f : Nat → Int32} {m : Nat} (h : m ≤ 4) : th_mag m f < 2 ^ 31 := by
  unfold th_mag
  split
  · decide
  · have h1 := th_low_lt f (m - 1)
    have h2 : ub (f (m - 1)) % 128 < 128 := Nat.mod_lt _ (by decide)
    generalize th_low f (m - 1) = a at *
    generalize ub (f (m - 1)) % 128 = u at *
    rcases (show m = 1 ∨ m = 2 ∨ m = 3 ∨ m = 4 by omega) with rfl | rfl | rfl | rfl <;> simp at h1 ⊢ <;> omega
theorem am_mag_lt {v : Int64} (h : -1099511627776 < v.toInt ∧ v.toInt < 1099511627776) : am_mag v < 2 ^ 40 := by
  unfold am_mag
  have h0 : (0 : Int64).toInt = 0 := by decide
  by_cases hz : 0 < v
  · rw [if_pos hz]
    rw [Int64.lt_iff_toInt_lt, h0] at hz
    obtain ⟨j, -, e2, e3⟩ := i6_pos (w := v) (by omega)
    omega
  · rw [if_neg hz]
    rw [Int64.lt_iff_toInt_lt, h0] at hz
    have e := i6_neg (a := v) (by omega)
    obtain ⟨j, -, e2, e3⟩ := i6_pos (w := -v) (by omega)
    omega
theorem am_num_lim {x : am_T} (h : x.length ≤ 4) : -2147483648 < (am_num x).toInt ∧ (am_num x).toInt < 2147483648 := by
  have hm := th_mag_lt (f := gb x) h
  unfold am_num th_num
  split
  · rw [i6_neg (by rw [pk_lT (by omega)]; omega), pk_lT (by omega)]; omega
  · rw [pk_lT (by omega)]; omega
def am_cnt (m : List am_T) (p q : Nat) : Option Nat := if p < m.length ∧ (m.getD p []).length ≤ 4 ∧ ¬ am_num (m.getD p []) < 0 ∧ am_num (m.getD p []) ≤ lN q then some (am_num (m.getD p [])).toUInt64.toNat else none
def am_cI : Option Nat → Int32
  | some j => nI j
  | none => -1
theorem am_nn {x : am_T} (h : ¬ am_num x < 0) : ∃ j : Nat, am_num x = lN j ∧ (j : Int) = (am_num x).toInt ∧ (am_num x).toUInt64.toNat = j := by
  have h0 : (0 : Int64).toInt = 0 := by decide
  rw [Int64.lt_iff_toInt_lt, h0] at h
  exact i6_pos (by omega)
theorem am_cnt_le {m : List am_T} {p q j : Nat} (hq : q < 2 ^ 31) (h : am_cnt m p q = some j) : j ≤ q ∧ p < m.length ∧ (m.getD p []).length ≤ 4 ∧ am_num (m.getD p []) = lN j := by
  unfold am_cnt at h
  split at h
  · rename_i hz
    obtain ⟨h1, h2, h3, h4⟩ := hz
    obtain ⟨i, e1, e2, e3⟩ := am_nn h3
    have h5 : i = j := by rw [e3] at h; injection h
    subst h5
    refine ⟨?_, h1, h2, e1⟩
    rw [Int64.le_iff_toInt_le, pk_lT (by omega)] at h4
    omega
  · cases h
set_option maxHeartbeats 4000000 in
set_option maxRecDepth 100000 in
theorem c_Ma_count (l : Launch) (E : mp_E) (M : mp_M) (X : Nat → Prop) (L : Nat → Nat) (y n : Nat) (zs m o : List am_T) (b : List Bool) (k : Nat) (c : Nat) (hI : IV E X M L y n zs m o b k) (hL : LY X L) (hk : k ≤ 1000) (hc : c ≤ 1000) : mp_Cr l m_Ma_count E M 1 0 0 [.ref (L 0), .int (nI c)] (fun v N => v = some (.int (tf (decide (k + c ≤ 201)))) ∧ IV E X N L y n zs m o b (k + c) ∧ mp_Fr X M N) := by
  refine mp_Cr.of (by decide) (Nat.le_of_ble_eq_true rfl) fun Γ κ hl hκ => ?_
  subst hl
  obtain ⟨hκd, hκc, hκs, -⟩ := id hκ
  show mp_J Γ m_Ma_count E κ M [(0, .ref (L 0)), (1, .int (nI c))] 0 [] 0 0
  refine j_aload_n d_Ma_count_0 rfl 0 rfl ?_
  refine j_dup d_Ma_count_1 rfl ?_
  refine j_get F_Ma hI.mo 7 (by decide) w_170 (Or.inl rfl) rfl d_Ma_count_2 ?_
  refine j_iload_n d_Ma_count_5 rfl 1 rfl ?_
  refine j_iadd d_Ma_count_6 ?_
  refine j_eqi (y := nI (k + c)) (nI_add k c) ?_
  refine j_put F_Ma hI.mo 7 (by decide) w_170 (Or.inl rfl) rfl rfl rfl (Nat.le_of_ble_eq_true rfl) d_Ma_count_7 ?_
  show mp_J Γ m_Ma_count E κ (mp_up M (L 0) (mp_o 1 [.ref (L 1), .ref (L 5), .ref (L 11), .ref (L 10), .ref y, .ref n, .ref (L 13), .int (nI (k + c))])) [(0, .ref (L 0)), (1, .int (nI c))] 10 [] 0 0
  generalize eM1 : mp_up M (L 0) (mp_o 1 [.ref (L 1), .ref (L 5), .ref (L 11), .ref (L 10), .ref y, .ref n, .ref (L 13), .int (nI (k + c))]) = M1
  have hM1__L_0_ : M1 (L 0) = some (mp_o 1 [.ref (L 1), .ref (L 5), .ref (L 11), .ref (L 10), .ref y, .ref n, .ref (L 13), .int (nI (k + c))]) := by rw [← eM1]; exact mp_s
  refine j_aload_n d_Ma_count_10 rfl 0 rfl ?_
  refine j_get F_Ma hM1__L_0_ 7 (by decide) w_170 (Or.inl rfl) rfl d_Ma_count_11 ?_
  refine j_sipush (v := nI 201) d_Ma_count_14 (by decide) ?_
  refine j_ncmp_gt 24 (k + c) 201 rfl rfl (by omega) (by omega) d_Ma_count_17 (by decide) (fun b17 => ?_) (fun b17 => ?_)
  · skip
    refine j_iconst (v := nI 0) d_Ma_count_24 (by decide) ?_
    exact j_zret hκ rfl (by first | exact Or.inl rfl | exact Or.inr rfl) (by omega) (by omega) d_Ma_count_25 (by subst_vars; first | exact ⟨rv_1 (by omega), hI.cnt hL _, mp_Fr.up (hL.x (by omega))⟩ | exact ⟨rv_0 (by omega), hI.cnt hL _, mp_Fr.up (hL.x (by omega))⟩)
  · skip
    refine j_iconst (v := nI 1) d_Ma_count_20 (by decide) ?_
    refine j_goto (tgt := 25) d_Ma_count_21 (by decide) ?_
    exact j_zret hκ rfl (by first | exact Or.inl rfl | exact Or.inr rfl) (by omega) (by omega) d_Ma_count_25 (by subst_vars; first | exact ⟨rv_1 (by omega), hI.cnt hL _, mp_Fr.up (hL.x (by omega))⟩ | exact ⟨rv_0 (by omega), hI.cnt hL _, mp_Fr.up (hL.x (by omega))⟩)

set_option maxHeartbeats 4000000 in
set_option maxRecDepth 100000 in
theorem c_Ma_countAt (l : Launch) (E : mp_E) (M : mp_M) (X : Nat → Prop) (L : Nat → Nat) (y n : Nat) (zs m o : List am_T) (b : List Bool) (k : Nat) (p q : Nat) (hI : IV E X M L y n zs m o b k) (hL : LY X L) (hp : p ≤ 1000) (hq : q ≤ 1000) : mp_Cr l m_Ma_countAt E M 3 0 0 [.ref (L 0), .int (nI p), .int (nI q)] (fun v N => v = some (.int (am_cI (am_cnt m p q))) ∧ N = M) := by
  refine mp_Cr.of (by decide) (Nat.le_of_ble_eq_true rfl) fun Γ κ hl hκ => ?_
  subst hl
  obtain ⟨hκd, hκc, hκs, -⟩ := id hκ
  have hlm := hI.sm.le
  have hlo := hI.so.le
  obtain ⟨z0_m, u0_m⟩ := hI.sm.o
  obtain ⟨z0_o, u0_o⟩ := hI.so.o
  show mp_J Γ m_Ma_countAt E κ M [(0, .ref (L 0)), (1, .int (nI p)), (2, .int (nI q))] 0 [] 0 0
  refine j_aload_n d_Ma_countAt_0 rfl 0 rfl ?_
  refine j_get F_Ma hI.mo 6 (by decide) w_169 (Or.inl rfl) rfl d_Ma_countAt_1 ?_
  refine j_iload_n d_Ma_countAt_4 rfl 1 rfl ?_
  refine j_callV (As := [.int (nI p)]) (rest := []) (k_holds Γ.l hI.sm p (by omega)) Y_St_holds w_370 w_371 w_372 u0_m rfl rfl rfl (Nat.le_of_ble_eq_true rfl) (by omega) (by omega) (by omega) d_Ma_countAt_5 (fun v5 N5 p5 => ?_)
  obtain ⟨rfl, q5⟩ := p5
  obtain rfl := q5.symm
  show mp_J Γ m_Ma_countAt E κ M [(0, .ref (L 0)), (1, .int (nI p)), (2, .int (nI q))] 8 [.int (tf (decide (p < m.length)))] 0 0
  refine j_tif_eq 25 d_Ma_countAt_8 (by decide) (fun b8 => ?_) (fun b8 => ?_)
  · skip
    refine j_iconst (v := (-1)) d_Ma_countAt_25 (by decide) ?_
    exact j_iret hκ rfl (by omega) (by omega) d_Ma_countAt_26 ⟨by unfold am_cnt; rw [if_neg (fun hz => by first | exact absurd hz.1 (of_decide_eq_false b8) | exact absurd hz.2.1 (of_decide_eq_false b22) | exact hz.2.2.1 ((lg_cmp_lt _ _).mp b42) | exact absurd hz.2.2.2 (Int64.not_le.mpr ((lg_cmp_gt _ _).mp b49)))]; rfl, rfl⟩
  · skip
    refine j_aload_n d_Ma_countAt_11 rfl 0 rfl ?_
    refine j_get F_Ma hI.mo 6 (by decide) w_169 (Or.inl rfl) rfl d_Ma_countAt_12 ?_
    refine j_iload_n d_Ma_countAt_15 rfl 1 rfl ?_
    refine j_callV (As := [.int (nI p)]) (rest := []) (i_peek Γ.l hI p (by omega)) Y_St_peek w_685 w_686 w_687 u0_m rfl rfl rfl (Nat.le_of_ble_eq_true rfl) (by omega) (by omega) (by omega) d_Ma_countAt_16 (fun v16 N16 p16 => ?_)
    obtain ⟨q16, t16, rfl, ht16⟩ := p16
    obtain rfl := q16.symm
    obtain ⟨zt16, ut16⟩ := ht16.o
    show mp_J Γ m_Ma_countAt E κ M [(0, .ref (L 0)), (1, .int (nI p)), (2, .int (nI q))] 19 [.ref t16] 0 0
    refine j_callV (As := []) (rest := []) (t_isnum Γ.l ht16) Y_Th_isNumber w_707 w_708 w_709 ut16 rfl rfl rfl (Nat.le_of_ble_eq_true rfl) (by omega) (by omega) (by omega) d_Ma_countAt_19 (fun v19 N19 p19 => ?_)
    obtain ⟨rfl, q19⟩ := p19
    obtain rfl := q19.symm
    show mp_J Γ m_Ma_countAt E κ M [(0, .ref (L 0)), (1, .int (nI p)), (2, .int (nI q))] 22 [.int (tf (decide ((m.getD p []).length ≤ 4)))] 0 0
    refine j_tif_ne 27 d_Ma_countAt_22 (by decide) (fun b22 => ?_) (fun b22 => ?_)
    · skip
      refine j_aload_n d_Ma_countAt_27 rfl 0 rfl ?_
      refine j_get F_Ma hI.mo 6 (by decide) w_169 (Or.inl rfl) rfl d_Ma_countAt_28 ?_
      refine j_iload_n d_Ma_countAt_31 rfl 1 rfl ?_
      refine j_callV (As := [.int (nI p)]) (rest := []) (i_peek Γ.l hI p (by omega)) Y_St_peek w_685 w_686 w_687 u0_m rfl rfl rfl (Nat.le_of_ble_eq_true rfl) (by omega) (by omega) (by omega) d_Ma_countAt_32 (fun v32 N32 p32 => ?_)
      obtain ⟨q32, t32, rfl, ht32⟩ := p32
      obtain rfl := q32.symm
      obtain ⟨zt32, ut32⟩ := ht32.o
      show mp_J Γ m_Ma_countAt E κ M [(0, .ref (L 0)), (1, .int (nI p)), (2, .int (nI q))] 35 [.ref t32] 0 0
      refine j_callV (As := []) (rest := []) (t_num Γ.l ht32 (of_decide_eq_true b22)) Y_Th_toNumber w_711 w_712 w_713 ut32 rfl rfl rfl (Nat.le_of_ble_eq_true rfl) (by omega) (by omega) (by omega) d_Ma_countAt_35 (fun v35 N35 p35 => ?_)
      obtain ⟨rfl, q35⟩ := p35
      obtain rfl := q35.symm
      show mp_J Γ m_Ma_countAt E κ M [(0, .ref (L 0)), (1, .int (nI p)), (2, .int (nI q))] 38 [.long (am_num (m.getD p []))] 0 0
      refine j_lstore_n [(3, .long (am_num (m.getD p []))), (0, .ref (L 0)), (1, .int (nI p)), (2, .int (nI q))] d_Ma_countAt_38 rfl (by decide) rfl ?_
      refine j_lload_n d_Ma_countAt_39 rfl 0 rfl ?_
      refine j_lconst (v := 0) d_Ma_countAt_40 (by decide) ?_
      refine j_lcmp d_Ma_countAt_41 ?_
      refine j_if_lt 57 d_Ma_countAt_42 (by decide) (fun b42 => ?_) (fun b42 => ?_)
      · skip
        refine j_iconst (v := (-1)) d_Ma_countAt_57 (by decide) ?_
        exact j_iret hκ rfl (by omega) (by omega) d_Ma_countAt_58 ⟨by unfold am_cnt; rw [if_neg (fun hz => by first | exact absurd hz.1 (of_decide_eq_false b8) | exact absurd hz.2.1 (of_decide_eq_false b22) | exact hz.2.2.1 ((lg_cmp_lt _ _).mp b42) | exact absurd hz.2.2.2 (Int64.not_le.mpr ((lg_cmp_gt _ _).mp b49)))]; rfl, rfl⟩
      · skip
        refine j_lload_n d_Ma_countAt_45 rfl 0 rfl ?_
        refine j_iload_n d_Ma_countAt_46 rfl 3 rfl ?_
        refine j_i2l d_Ma_countAt_47 ?_
        refine j_eql (y := lN q) (nI_l (by omega)) ?_
        refine j_lcmp d_Ma_countAt_48 ?_
        refine j_if_gt 57 d_Ma_countAt_49 (by decide) (fun b49 => ?_) (fun b49 => ?_)
        · skip
          refine j_iconst (v := (-1)) d_Ma_countAt_57 (by decide) ?_
          exact j_iret hκ rfl (by omega) (by omega) d_Ma_countAt_58 ⟨by unfold am_cnt; rw [if_neg (fun hz => by first | exact absurd hz.1 (of_decide_eq_false b8) | exact absurd hz.2.1 (of_decide_eq_false b22) | exact hz.2.2.1 ((lg_cmp_lt _ _).mp b42) | exact absurd hz.2.2.2 (Int64.not_le.mpr ((lg_cmp_gt _ _).mp b49)))]; rfl, rfl⟩
        · skip
          refine j_lload_n d_Ma_countAt_52 rfl 0 rfl ?_
          refine j_l2i d_Ma_countAt_53 ?_
          refine j_goto (tgt := 58) d_Ma_countAt_54 (by decide) ?_
          exact j_iret hκ rfl (by omega) (by omega) d_Ma_countAt_58 ⟨by unfold am_cnt; rw [if_pos ⟨of_decide_eq_true b8, of_decide_eq_true b22, fun hz => b42 ((lg_cmp_lt _ _).mpr hz), Int64.not_lt.mp (fun hz => b49 ((lg_cmp_gt _ _).mpr hz))⟩]; obtain ⟨j9, e1, e2, e3⟩ := am_nn (x := m.getD p []) (fun hz => b42 ((lg_cmp_lt _ _).mpr hz)); rw [e3, e1, lN_i]; rfl, rfl⟩
    · skip
      refine j_iconst (v := (-1)) d_Ma_countAt_25 (by decide) ?_
      exact j_iret hκ rfl (by omega) (by omega) d_Ma_countAt_26 ⟨by unfold am_cnt; rw [if_neg (fun hz => by first | exact absurd hz.1 (of_decide_eq_false b8) | exact absurd hz.2.1 (of_decide_eq_false b22) | exact hz.2.2.1 ((lg_cmp_lt _ _).mp b42) | exact absurd hz.2.2.2 (Int64.not_le.mpr ((lg_cmp_gt _ _).mp b49)))]; rfl, rfl⟩

set_option maxHeartbeats 4000000 in
set_option maxRecDepth 100000 in
theorem c_Ma_nip (l : Launch) (E : mp_E) (M : mp_M) (X : Nat → Prop) (L : Nat → Nat) (y n : Nat) (zs m o : List am_T) (b : List Bool) (k : Nat)  (hI : IV E X M L y n zs m o b k) (hL : LY X L) (hm : 2 ≤ m.length) : mp_Cr l m_Ma_nip E M 4 0 0 [.ref (L 0)] (MP E X M L y n zs (some (m.eraseIdx 1, o, b, k))) := by
  refine mp_Cr.of (by decide) (Nat.le_of_ble_eq_true rfl) fun Γ κ hl hκ => ?_
  subst hl
  obtain ⟨hκd, hκc, hκs, -⟩ := id hκ
  have hlm := hI.sm.le
  have hlo := hI.so.le
  obtain ⟨z0_m, u0_m⟩ := hI.sm.o
  obtain ⟨z0_o, u0_o⟩ := hI.so.o
  show mp_J Γ m_Ma_nip E κ M [(0, .ref (L 0))] 0 [] 0 0
  refine j_aload_n d_Ma_nip_0 rfl 0 rfl ?_
  refine j_get F_Ma hI.mo 6 (by decide) w_169 (Or.inl rfl) rfl d_Ma_nip_1 ?_
  refine j_iconst (v := nI 1) d_Ma_nip_4 (by decide) ?_
  refine j_callV (As := [.int (nI 1)]) (rest := []) (i_take Γ.l hI hL 1 (by omega)) Y_St_take w_694 w_695 w_696 u0_m rfl rfl rfl (Nat.le_of_ble_eq_true rfl) (by omega) (by omega) (by omega) d_Ma_nip_5 (fun v5 N5 p5 => ?_)
  obtain ⟨t5, rfl, ht5, I5, f5⟩ := p5
  obtain ⟨z5_1m, u5_1m⟩ := I5.sm.o
  obtain ⟨z5_1o, u5_1o⟩ := I5.so.o
  obtain ⟨z5_1_t5, u5_1_t5⟩ := ht5.o
  show mp_J Γ m_Ma_nip E κ N5 [(0, .ref (L 0))] 8 [.ref t5] 0 0
  refine j_pop d_Ma_nip_8 rfl ?_
  refine j_iconst (v := nI 1) d_Ma_nip_9 (by decide) ?_
  exact j_zret hκ rfl (by first | exact Or.inl rfl | exact Or.inr rfl) (by omega) (by omega) d_Ma_nip_10 (MP.t I5 f5 rfl)
