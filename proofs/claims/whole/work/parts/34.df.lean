theorem AO.trans {s ar : Nat} {M N O : mp_M} (h : AO s ar M N) (h' : AO s ar N O) : AO s ar M O := fun a z1 z2 => (h' a z1 z2).trans (h a z1 z2)
def ap_5 (g : Nat → Int32) (len : Nat) (a b c d e : Int32) : Nat → Int32 := ap_w (ap_w (ap_w (ap_w (ap_w g len a) (len + 4) b) (len + 4 + 4) c) (len + 4 + 4 + 4) d) (len + 4 + 4 + 4 + 4) e
set_option maxHeartbeats 4000000 in
set_option maxRecDepth 100000 in
theorem c_De_feed (l : Launch) (hl0 : l.stackTraces = false) (E : mp_E) (M : mp_M) (h ro len s1 s2 ma sk : Nat) (g : Nat → Int32) (a b c d e : Int32) (h0 : M h = some (mp_o 6 [.ref ro, .int (nI len), .ref s1, .ref s2, .ref ma, .ref sk])) (h1 : M ro = some (mp_b E 1000 g)) (hlen : len ≤ 1000) : mp_Ct l m_De_feed E M 8 1 6 [.ref h, .int a, .int b, .int c, .int d, .int e] (mp_pq (fun v N => len ≤ 980 ∧ v = some (.int (nI (len + 20))) ∧ N h = some (mp_o 6 [.ref ro, .int (nI (len + 20)), .ref s1, .ref s2, .ref ma, .ref sk]) ∧ N ro = some (mp_b E 1000 (ap_5 g len a b c d e)) ∧ AO h ro M N) (fun x N => x = "java/lang/IllegalStateException" ∧ 980 < len ∧ N = M)) := by
  refine mp_Ct.of (by decide) (Nat.le_of_ble_eq_true rfl) fun Γ κ hl hκ0 => ?_
  subst hl
  have hl := hl0
  obtain ⟨hκ, hX⟩ := mp_k2 hκ0
  obtain ⟨hκd, hκc, hκs, -⟩ := id hκ
  show mp_J Γ m_De_feed E κ M [(0, .ref h), (1, .int a), (2, .int b), (3, .int c), (4, .int d), (5, .int e)] 0 [] 0 0
  refine j_aload_n d_De_feed_0 rfl 0 rfl ?_
  refine j_get F_De h0 1 (by decide) w_191 (Or.inl rfl) rfl d_De_feed_1 ?_
  refine j_sipush (v := nI 980) d_De_feed_4 (by decide) ?_
  refine j_ncmp_le 18 len 980 rfl rfl (by omega) (by omega) d_De_feed_7 (by decide) (fun b7 => ?_) (fun b7 => ?_)
  · skip
    refine j_aload_n d_De_feed_18 rfl 0 rfl ?_
    refine j_iload_n d_De_feed_19 rfl 1 rfl ?_
    refine j_callV (As := [.int a]) (rest := []) (c_De_append Γ.l E M h ro (len) s1 s2 ma sk (g) a h0 h1 (by omega)) Y_De_append w_290 w_292 ws_1 h0 rfl rfl rfl (Nat.le_of_ble_eq_true rfl) (by omega) (by omega) (by omega) d_De_feed_20 (fun v20 N20 p20 => ?_)
    obtain ⟨rfl, e0_20, e1_20, ao20⟩ := p20
    show mp_J Γ m_De_feed E κ N20 [(0, .ref h), (1, .int a), (2, .int b), (3, .int c), (4, .int d), (5, .int e)] 23 [] 0 0
    refine j_aload_n d_De_feed_23 rfl 0 rfl ?_
    refine j_iload_n d_De_feed_24 rfl 2 rfl ?_
    refine j_callV (As := [.int b]) (rest := []) (c_De_append Γ.l E N20 h ro (len + 4) s1 s2 ma sk (ap_w g len a) b e0_20 e1_20 (by omega)) Y_De_append w_290 w_292 ws_1 e0_20 rfl rfl rfl (Nat.le_of_ble_eq_true rfl) (by omega) (by omega) (by omega) d_De_feed_25 (fun v25 N25 p25 => ?_)
    obtain ⟨rfl, e0_25, e1_25, ao25⟩ := p25
    show mp_J Γ m_De_feed E κ N25 [(0, .ref h), (1, .int a), (2, .int b), (3, .int c), (4, .int d), (5, .int e)] 28 [] 0 0
    refine j_aload_n d_De_feed_28 rfl 0 rfl ?_
    refine j_iload_n d_De_feed_29 rfl 3 rfl ?_
    refine j_callV (As := [.int c]) (rest := []) (c_De_append Γ.l E N25 h ro (len + 4 + 4) s1 s2 ma sk (ap_w (ap_w g len a) (len + 4) b) c e0_25 e1_25 (by omega)) Y_De_append w_290 w_292 ws_1 e0_25 rfl rfl rfl (Nat.le_of_ble_eq_true rfl) (by omega) (by omega) (by omega) d_De_feed_30 (fun v30 N30 p30 => ?_)
    obtain ⟨rfl, e0_30, e1_30, ao30⟩ := p30
    show mp_J Γ m_De_feed E κ N30 [(0, .ref h), (1, .int a), (2, .int b), (3, .int c), (4, .int d), (5, .int e)] 33 [] 0 0
    refine j_aload_n d_De_feed_33 rfl 0 rfl ?_
    refine j_iload d_De_feed_34 4 rfl ?_
    refine j_callV (As := [.int d]) (rest := []) (c_De_append Γ.l E N30 h ro (len + 4 + 4 + 4) s1 s2 ma sk (ap_w (ap_w (ap_w g len a) (len + 4) b) (len + 4 + 4) c) d e0_30 e1_30 (by omega)) Y_De_append w_290 w_292 ws_1 e0_30 rfl rfl rfl (Nat.le_of_ble_eq_true rfl) (by omega) (by omega) (by omega) d_De_feed_36 (fun v36 N36 p36 => ?_)
    obtain ⟨rfl, e0_36, e1_36, ao36⟩ := p36
    show mp_J Γ m_De_feed E κ N36 [(0, .ref h), (1, .int a), (2, .int b), (3, .int c), (4, .int d), (5, .int e)] 39 [] 0 0
    refine j_aload_n d_De_feed_39 rfl 0 rfl ?_
    refine j_iload d_De_feed_40 5 rfl ?_
    refine j_callV (As := [.int e]) (rest := []) (c_De_append Γ.l E N36 h ro (len + 4 + 4 + 4 + 4) s1 s2 ma sk (ap_w (ap_w (ap_w (ap_w g len a) (len + 4) b) (len + 4 + 4) c) (len + 4 + 4 + 4) d) e e0_36 e1_36 (by omega)) Y_De_append w_290 w_292 ws_1 e0_36 rfl rfl rfl (Nat.le_of_ble_eq_true rfl) (by omega) (by omega) (by omega) d_De_feed_42 (fun v42 N42 p42 => ?_)
    obtain ⟨rfl, e0_42, e1_42, ao42⟩ := p42
    show mp_J Γ m_De_feed E κ N42 [(0, .ref h), (1, .int a), (2, .int b), (3, .int c), (4, .int d), (5, .int e)] 45 [] 0 0
    refine j_aload_n d_De_feed_45 rfl 0 rfl ?_
    refine j_get F_De e0_42 1 (by decide) w_191 (Or.inl rfl) rfl d_De_feed_46 ?_
    exact j_iret hκ rfl (by omega) (by omega) d_De_feed_49 ⟨by omega, rfl, e0_42, e1_42, ao20.trans (ao25.trans (ao30.trans (ao36.trans ao42)))⟩
  · skip
    exact j_throw (names := ["java/lang/RuntimeException", "java/lang/Exception"]) hl (by decide) (by decide) w_225 w_16 x_ISE g_ISE d_De_feed_10 d_De_feed_13 d_De_feed_14 d_De_feed_17 (by decide) (Nat.le_of_ble_eq_true rfl) (by omega) rfl (by omega) (by omega) (hX _ _ ⟨rfl, by omega, rfl⟩)

def sg_of (c : Nat) : Nat := if c = 172 ∨ c = 173 then 1 else if c = 174 ∨ c = 175 then 20 else 0
theorem sg_le (c : Nat) : sg_of c ≤ 20 := by
  unfold sg_of
  split
  · omega
  · split <;> omega
def sg_run (g : Nat → Int32) (n : Nat) : Nat → Nat → Nat → Nat
  | 0, _, acc => acc
  | r + 1, p, acc => if n ≤ p then acc else sg_run g n r (p + cd_car g p n + 1) (acc + sg_of (ub (g p)))
theorem sg_fin {g : Nat → Int32} {n r p acc R : Nat} (hp : n ≤ p) (h : sg_run g n (r + 1) p acc = R) : R = acc := by
  rw [← h]
  show (if _ then _ else _) = _
  rw [if_pos hp]
theorem sg_nxt {g : Nat → Int32} {n r p acc R : Nat} (hp : p < n) (h : sg_run g n (r + 1) p acc = R) : sg_run g n r (p + cd_car g p n + 1) (acc + sg_of (ub (g p))) = R := by
  rw [← h]
  show _ = (if _ then _ else _)
  rw [if_neg (by omega)]
set_option maxHeartbeats 4000000 in
set_option maxRecDepth 100000 in
theorem c_De_sigsOf (l : Launch) (E : mp_E) (M : mp_M) (c : Nat) (hc : c < 256) : mp_Cr l m_De_sigsOf E M 1 0 0 [.int (nI c)] (fun v N => v = some (.int (nI (sg_of c))) ∧ N = M) := by
  refine mp_Cr.of (by decide) (Nat.le_of_ble_eq_true rfl) fun Γ κ hl hκ => ?_
  subst hl
  obtain ⟨hκd, hκc, hκs, -⟩ := id hκ
  show mp_J Γ m_De_sigsOf E κ M [(0, .int (nI c))] 0 [] 0 0
  refine j_iload_n d_De_sigsOf_0 rfl 0 rfl ?_
  rcases (show c < 172 ∨ 175 < c ∨ c = 172 ∨ c = 173 ∨ c = 174 ∨ c = 175 by omega) with hz9 | hz9 | rfl | rfl | rfl | rfl
  · skip
    refine j_tableOut 41 d_De_sigsOf_1 (Or.inl (by rw [nI_toInt (by omega)]; omega)) (by decide) ?_
    refine j_iconst (v := nI 0) d_De_sigsOf_41 (by decide) ?_
    exact j_iret hκ rfl (by omega) (by omega) d_De_sigsOf_42 ⟨by unfold sg_of; rw [if_neg (by omega), if_neg (by omega)], rfl⟩
  · skip
    refine j_tableOut 41 d_De_sigsOf_1 (Or.inr (by rw [nI_toInt (by omega)]; omega)) (by decide) ?_
    refine j_iconst (v := nI 0) d_De_sigsOf_41 (by decide) ?_
    exact j_iret hκ rfl (by omega) (by omega) d_De_sigsOf_42 ⟨by unfold sg_of; rw [if_neg (by omega), if_neg (by omega)], rfl⟩
  · skip
    refine j_tableIn 32 d_De_sigsOf_1 (by decide) (by decide) rfl (by decide) ?_
    refine j_iconst (v := nI 1) d_De_sigsOf_32 (by decide) ?_
    refine j_goto (tgt := 42) d_De_sigsOf_33 (by decide) ?_
    exact j_iret hκ rfl (by omega) (by omega) d_De_sigsOf_42 ⟨by decide, rfl⟩
  · skip
    refine j_tableIn 32 d_De_sigsOf_1 (by decide) (by decide) rfl (by decide) ?_
    refine j_iconst (v := nI 1) d_De_sigsOf_32 (by decide) ?_
    refine j_goto (tgt := 42) d_De_sigsOf_33 (by decide) ?_
    exact j_iret hκ rfl (by omega) (by omega) d_De_sigsOf_42 ⟨by decide, rfl⟩
  · skip
    refine j_tableIn 36 d_De_sigsOf_1 (by decide) (by decide) rfl (by decide) ?_
    refine j_bipush (v := nI 20) d_De_sigsOf_36 (by decide) ?_
    refine j_goto (tgt := 42) d_De_sigsOf_38 (by decide) ?_
    exact j_iret hκ rfl (by omega) (by omega) d_De_sigsOf_42 ⟨by decide, rfl⟩
  · skip
    refine j_tableIn 36 d_De_sigsOf_1 (by decide) (by decide) rfl (by decide) ?_
    refine j_bipush (v := nI 20) d_De_sigsOf_36 (by decide) ?_
    refine j_goto (tgt := 42) d_De_sigsOf_38 (by decide) ?_
    exact j_iret hκ rfl (by omega) (by omega) d_De_sigsOf_42 ⟨by decide, rfl⟩

set_option maxHeartbeats 4000000 in
set_option maxRecDepth 100000 in
theorem lp_De_sigs {Γ : mp_G} {κ : mp_K} (E : mp_E) (M : mp_M) (h ro len s1 s2 ma sk : Nat) (g : Nat → Int32) (j R : Nat) (P : Option Value → mp_M → Prop) (h0 : M h = some (mp_o 6 [.ref ro, .int (nI len), .ref s1, .ref s2, .ref ma, .ref sk])) (h1 : M ro = some (mp_b E 1000 g)) (hj : j ≤ 1000) (hP : P (some (.int (nI R))) M) (hκ : mp_k κ 8 1 6 (P)) : ∀ (r : Nat) (p acc : Nat), j - p < r → (acc ≤ 20 * p) → (p ≤ 2000) → (sg_run g j r p acc = R) → mp_J Γ m_De_sigs E κ M [(0, .ref h), (1, .int (nI j)), (2, .int (nI acc)), (3, .int (nI p))] 20 [] 0 0 := by
  obtain ⟨hκd, hκc, hκs, -⟩ := id hκ
  intro r
  induction r with
  | zero => intro p acc hr; exact absurd hr (Nat.not_lt_zero _)
  | succ r ih =>
    intro p acc hr hacc hp2 he
    have hu := ub_lt (g p)
    have hcr := cd_car_le (f := g) (p := p) (t := j)
    have hsg := sg_le (ub (g p))
    refine j_iload_n d_De_sigs_20 rfl 3 rfl ?_
    refine j_iload_n d_De_sigs_21 rfl 1 rfl ?_
    refine j_ncmp_ge 59 p j rfl rfl (by omega) (by omega) d_De_sigs_22 (by decide) (fun b22 => ?_) (fun b22 => ?_)
    · skip
      refine j_iload_n d_De_sigs_59 rfl 2 rfl ?_
      exact j_iret hκ rfl (by omega) (by omega) d_De_sigs_60 (sg_fin (by omega) he ▸ hP)
    · skip
      refine j_iload_n d_De_sigs_25 rfl 2 rfl ?_
      refine j_aload_n d_De_sigs_26 rfl 0 rfl ?_
      refine j_get F_De h0 0 (by decide) w_190 (Or.inl rfl) rfl d_De_sigs_27 ?_
      refine j_iload_n d_De_sigs_30 rfl 3 rfl ?_
      refine j_bald h1 p rfl (by omega) (by omega) d_De_sigs_31 ?_
      refine j_sipush (v := 255) d_De_sigs_32 (by decide) ?_
      refine j_iand d_De_sigs_35 ?_
      refine j_eqi (y := nI (ub (g p))) (ub_and _) ?_
      refine j_callS (As := [.int (nI (ub (g p)))]) (rest := [.int (nI acc)]) (c_De_sigsOf Γ.l E M (ub (g p)) hu) Y_De_sigsOf w_915 w_916 rfl rfl (Nat.le_of_ble_eq_true rfl) (by omega) (by omega) (by omega) d_De_sigs_36 (fun v36 N36 p36 => ?_)
      obtain ⟨rfl, q36⟩ := p36
      obtain rfl := q36.symm
      show mp_J Γ m_De_sigs E κ M [(0, .ref h), (1, .int (nI j)), (2, .int (nI acc)), (3, .int (nI p))] 39 [.int (nI (sg_of (ub (g p)))), .int (nI acc)] 0 0
      refine j_iadd d_De_sigs_39 ?_
      refine j_eqi (y := nI (acc + (sg_of (ub (g p))))) (nI_add acc (sg_of (ub (g p)))) ?_
      refine j_istore_n [(2, .int (nI (acc + (sg_of (ub (g p)))))), (0, .ref h), (1, .int (nI j)), (3, .int (nI p))] d_De_sigs_40 rfl (by decide) rfl ?_
      refine j_iload_n d_De_sigs_41 rfl 3 rfl ?_
      refine j_aload_n d_De_sigs_42 rfl 1 rfl ?_
      refine j_get F_De h0 0 (by decide) w_190 (Or.inl rfl) rfl d_De_sigs_43 ?_
      refine j_iload_n d_De_sigs_46 rfl 3 rfl ?_
      refine j_iload_n d_De_sigs_47 rfl 2 rfl ?_
      refine j_callS (As := [.ref ro, .int (nI p), .int (nI j)]) (rest := [.int (nI p)]) (c_Co_carried Γ.l E M ro 1000 p j g h1 (by decide) hj (by omega)) Y_Co_carried w_918 w_345 rfl rfl (Nat.le_of_ble_eq_true rfl) (by omega) (by omega) (by omega) d_De_sigs_48 (fun v48 N48 p48 => ?_)
      obtain ⟨rfl, q48⟩ := p48
      obtain rfl := q48.symm
      show mp_J Γ m_De_sigs E κ M [(2, .int (nI (acc + (sg_of (ub (g p)))))), (0, .ref h), (1, .int (nI j)), (3, .int (nI p))] 51 [.int (nI (cd_car g p j)), .int (nI p)] 0 0
      refine j_iadd d_De_sigs_51 ?_
      refine j_eqi (y := nI (p + (cd_car g p j))) (nI_add p (cd_car g p j)) ?_
      refine j_istore_n [(3, .int (nI (p + (cd_car g p j)))), (2, .int (nI (acc + (sg_of (ub (g p)))))), (0, .ref h), (1, .int (nI j))] d_De_sigs_52 rfl (by decide) rfl ?_
      refine j_iinc (v := nI ((p + (cd_car g p j)) + 1)) [(3, .int (nI ((p + (cd_car g p j)) + 1))), (2, .int (nI (acc + (sg_of (ub (g p)))))), (0, .ref h), (1, .int (nI j))] d_De_sigs_53 0 rfl (nI_add (p + (cd_car g p j)) 1) (by decide) rfl ?_
      refine j_goto (tgt := 20) d_De_sigs_56 (by decide) ?_
      refine j_lv [2, 3, 1, 0] rfl ?_
      exact ih (p + cd_car g p j + 1) (acc + sg_of (ub (g p))) (by omega) (by omega) (by omega) (sg_nxt (by omega) he)

set_option maxHeartbeats 4000000 in
set_option maxRecDepth 100000 in
theorem c_De_sigs (l : Launch) (hl0 : l.stackTraces = false) (E : mp_E) (M : mp_M) (h ro len s1 s2 ma sk : Nat) (g : Nat → Int32) (i : Int32) (h0 : M h = some (mp_o 6 [.ref ro, .int (nI len), .ref s1, .ref s2, .ref ma, .ref sk])) (h1 : M ro = some (mp_b E 1000 g)) (hlen : len ≤ 1000) : mp_Ct l m_De_sigs E M 8 1 6 [.ref h, .int i] (mp_pq (fun v N => ∃ j, j ≤ len ∧ i = nI j ∧ v = some (.int (nI (sg_run g j (j + 1) 0 0))) ∧ N = M) (fun x N => x = "java/lang/IllegalArgumentException" ∧ (¬ ∃ j, j ≤ len ∧ i = nI j) ∧ N = M)) := by
  refine mp_Ct.of (by decide) (Nat.le_of_ble_eq_true rfl) fun Γ κ hl hκ0 => ?_
  subst hl
  have hl := hl0
  obtain ⟨hκ, hX⟩ := mp_k2 hκ0
  obtain ⟨hκd, hκc, hκs, -⟩ := id hκ
  show mp_J Γ m_De_sigs E κ M [(0, .ref h), (1, .int i)] 0 [] 0 0
  refine j_aload_n d_De_sigs_0 rfl 0 rfl ?_
  refine j_iload_n d_De_sigs_1 rfl 1 rfl ?_
  refine j_callV (As := [.int i]) (rest := []) (c_De_rowHas Γ.l E M h ro len s1 s2 ma sk i h0) Y_De_rowHas w_302 w_304 ws_2 h0 rfl rfl rfl (Nat.le_of_ble_eq_true rfl) (by omega) (by omega) (by omega) d_De_sigs_2 (fun v2 N2 p2 => ?_)
  obtain ⟨rfl, q2⟩ := p2
  obtain rfl := q2.symm
  show mp_J Γ m_De_sigs E κ M [(0, .ref h), (1, .int i)] 5 [.int (tf (decide (¬ i < 0 ∧ i ≤ nI len)))] 0 0
  refine j_tif_ne 16 d_De_sigs_5 (by decide) (fun b5 => ?_) (fun b5 => ?_)
  · skip
    obtain ⟨j, hj, hij⟩ := (am_i32 hlen).mp (of_decide_eq_true b5)
    rw [hij]
    refine j_iconst (v := nI 0) d_De_sigs_16 (by decide) ?_
    refine j_istore_n [(2, .int (nI 0)), (0, .ref h), (1, .int (nI j))] d_De_sigs_17 rfl (by decide) rfl ?_
    refine j_iconst (v := nI 0) d_De_sigs_18 (by decide) ?_
    refine j_istore_n [(3, .int (nI 0)), (2, .int (nI 0)), (0, .ref h), (1, .int (nI j))] d_De_sigs_19 rfl (by decide) rfl ?_
    refine j_lv [2, 3, 1, 0] rfl ?_
    exact lp_De_sigs E M h ro len s1 s2 ma sk g j (sg_run g j (j + 1) 0 0) _ h0 h1 (by omega) ⟨j, hj, hij, rfl, rfl⟩ hκ (j + 1) 0 0 (by omega) (by omega) (by omega) rfl
  · skip
    exact j_throw (names := ["java/lang/RuntimeException", "java/lang/Exception"]) hl (by decide) (by decide) w_306 w_17 x_IAE g_IAE d_De_sigs_8 d_De_sigs_11 d_De_sigs_12 d_De_sigs_15 (by decide) (Nat.le_of_ble_eq_true rfl) (by omega) rfl (by omega) (by omega) (hX _ _ ⟨rfl, fun hz => of_decide_eq_false b5 ((am_i32 hlen).mpr hz), rfl⟩)

set_option maxHeartbeats 4000000 in
set_option maxRecDepth 100000 in
theorem c_De_depth (l : Launch) (E : mp_E) (M : mp_M) (h ro len s1 s2 ma sk : Nat) (X : Nat → Prop) (ar : Nat) (zs : List am_T) (h0 : M h = some (mp_o 6 [.ref ro, .int (nI len), .ref s1, .ref s2, .ref ma, .ref sk])) (hs : SK E X M sk ar zs) : mp_Cr l m_De_depth E M 2 0 0 [.ref h] (fun v N => v = some (.int (nI zs.length)) ∧ N = M) := by
  refine mp_Cr.of (by decide) (Nat.le_of_ble_eq_true rfl) fun Γ κ hl hκ => ?_
  subst hl
  obtain ⟨hκd, hκc, hκs, -⟩ := id hκ
  obtain ⟨zk, uk⟩ := hs.o
  have hle := hs.le
  show mp_J Γ m_De_depth E κ M [(0, .ref h)] 0 [] 0 0
  refine j_aload_n d_De_depth_0 rfl 0 rfl ?_
  refine j_get F_De h0 5 (by decide) w_195 (Or.inl rfl) rfl d_De_depth_1 ?_
  refine j_callV (As := []) (rest := []) (k_count Γ.l hs) Y_St_count w_213 w_214 w_215 uk rfl rfl rfl (Nat.le_of_ble_eq_true rfl) (by omega) (by omega) (by omega) d_De_depth_4 (fun v4 N4 p4 => ?_)
  obtain ⟨rfl, q4⟩ := p4
  obtain rfl := q4.symm
  show mp_J Γ m_De_depth E κ M [(0, .ref h)] 7 [.int (nI zs.length)] 0 0
  exact j_iret hκ rfl (by omega) (by omega) d_De_depth_7 ⟨rfl, rfl⟩

theorem am_i32s {i : Int32} {len : Nat} (hl : len ≤ 1000) : (¬ i < 0 ∧ i < nI len) ↔ ∃ j, j < len ∧ i = nI j := by
  have h0 : (0 : Int32).toInt = 0 := by decide
  constructor
  · intro ⟨h1, h2⟩
    rw [Int32.lt_iff_toInt_lt, h0] at h1
    rw [Int32.lt_iff_toInt_lt, nI_toInt (by omega)] at h2
    refine ⟨i.toInt.toNat, by omega, ?_⟩
    apply Int32.toInt_inj.mp
    rw [nI_toInt (by omega)]
    omega
  · intro ⟨j, h1, h2⟩
    subst h2
    refine ⟨fun h => ?_, ?_⟩
    · rw [Int32.lt_iff_toInt_lt, nI_toInt (by omega), h0] at h; omega
    · rw [Int32.lt_iff_toInt_lt, nI_toInt (by omega), nI_toInt (by omega)]; omega
set_option maxHeartbeats 4000000 in
set_option maxRecDepth 100000 in
theorem c_De_size (l : Launch) (hl0 : l.stackTraces = false) (E : mp_E) (M : mp_M) (h ro len s1 s2 ma sk : Nat) (X : Nat → Prop) (ar : Nat) (zs : List am_T) (i : Int32) (h0 : M h = some (mp_o 6 [.ref ro, .int (nI len), .ref s1, .ref s2, .ref ma, .ref sk])) (hs : SK E X M sk ar zs) : mp_Ct l m_De_size E M 8 1 6 [.ref h, .int i] (mp_pq (fun v N => ∃ j, j < zs.length ∧ i = nI j ∧ v = some (.int (nI (zs.getD j []).length)) ∧ N = M) (fun x N => x = "java/lang/IndexOutOfBoundsException" ∧ (¬ ∃ j, j < zs.length ∧ i = nI j) ∧ N = M)) := by
  refine mp_Ct.of (by decide) (Nat.le_of_ble_eq_true rfl) fun Γ κ hl hκ0 => ?_
  subst hl
  have hl := hl0
  obtain ⟨hκ, hX⟩ := mp_k2 hκ0
  obtain ⟨hκd, hκc, hκs, -⟩ := id hκ
  obtain ⟨zk, uk⟩ := hs.o
  have hle := hs.le
  show mp_J Γ m_De_size E κ M [(0, .ref h), (1, .int i)] 0 [] 0 0
  refine j_aload_n d_De_size_0 rfl 0 rfl ?_
  refine j_get F_De h0 5 (by decide) w_195 (Or.inl rfl) rfl d_De_size_1 ?_
  refine j_iload_n d_De_size_4 rfl 1 rfl ?_
  refine j_callV (As := [.int i]) (rest := []) (k_holdsI Γ.l hs i) Y_St_holds w_858 w_371 w_372 uk rfl rfl rfl (Nat.le_of_ble_eq_true rfl) (by omega) (by omega) (by omega) d_De_size_5 (fun v5 N5 p5 => ?_)
  obtain ⟨rfl, q5⟩ := p5
  obtain rfl := q5.symm
  show mp_J Γ m_De_size E κ M [(0, .ref h), (1, .int i)] 8 [.int (tf (decide (¬ i < 0 ∧ i < nI zs.length)))] 0 0
  refine j_tif_ne 19 d_De_size_8 (by decide) (fun b8 => ?_) (fun b8 => ?_)
  · skip
    obtain ⟨j, hj, hij⟩ := (am_i32s (by omega)).mp (of_decide_eq_true b8)
    rw [hij]
    refine j_aload_n d_De_size_19 rfl 0 rfl ?_
    refine j_get F_De h0 5 (by decide) w_195 (Or.inl rfl) rfl d_De_size_20 ?_
    refine j_iload_n d_De_size_23 rfl 1 rfl ?_
    refine j_callV (As := [.int (nI j)]) (rest := []) (k_peek Γ.l hs j (by omega)) Y_St_peek w_848 w_686 w_687 uk rfl rfl rfl (Nat.le_of_ble_eq_true rfl) (by omega) (by omega) (by omega) d_De_size_24 (fun v24 N24 p24 => ?_)
    obtain ⟨q24, t24, rfl, ht24⟩ := p24
    obtain rfl := q24.symm
    obtain ⟨zt24, ut24⟩ := ht24.o
    show mp_J Γ m_De_size E κ M [(0, .ref h), (1, .int (nI j))] 27 [.ref t24] 0 0
    refine j_callV (As := []) (rest := []) (t_len Γ.l ht24) Y_Th_length w_874 w_720 w_721 ut24 rfl rfl rfl (Nat.le_of_ble_eq_true rfl) (by omega) (by omega) (by omega) d_De_size_27 (fun v27 N27 p27 => ?_)
    obtain ⟨rfl, q27⟩ := p27
    obtain rfl := q27.symm
    show mp_J Γ m_De_size E κ M [(0, .ref h), (1, .int (nI j))] 30 [.int (nI (zs.getD j []).length)] 0 0
    exact j_iret hκ rfl (by omega) (by omega) d_De_size_30 ⟨j, hj, hij, rfl, rfl⟩
  · skip
    exact j_throw (names := ["java/lang/RuntimeException", "java/lang/Exception"]) hl (by decide) (by decide) w_859 w_28 x_IOB g_IOB d_De_size_11 d_De_size_14 d_De_size_15 d_De_size_18 (by decide) (Nat.le_of_ble_eq_true rfl) (by omega) rfl (by omega) (by omega) (hX _ _ ⟨rfl, fun hz => of_decide_eq_false b8 ((am_i32s (by omega)).mpr hz), rfl⟩)

set_option maxHeartbeats 4000000 in
set_option maxRecDepth 100000 in
theorem c_De_number (l : Launch) (hl0 : l.stackTraces = false) (E : mp_E) (M : mp_M) (h ro len s1 s2 ma sk : Nat) (X : Nat → Prop) (ar : Nat) (zs : List am_T) (i : Int32) (h0 : M h = some (mp_o 6 [.ref ro, .int (nI len), .ref s1, .ref s2, .ref ma, .ref sk])) (hs : SK E X M sk ar zs) : mp_Ct l m_De_number E M 8 1 6 [.ref h, .int i] (mp_pq (fun v N => ∃ j, j < zs.length ∧ i = nI j ∧ (zs.getD j []).length ≤ 4 ∧ v = some (.int (am_num (zs.getD j [])).toInt32) ∧ N = M) (fun x N => (x = "java/lang/IndexOutOfBoundsException" ∧ (¬ ∃ j, j < zs.length ∧ i = nI j) ∧ N = M) ∨ (x = "java/lang/ArithmeticException" ∧ (∃ j, j < zs.length ∧ i = nI j ∧ ¬ (zs.getD j []).length ≤ 4) ∧ N = M))) := by
  refine mp_Ct.of (by decide) (Nat.le_of_ble_eq_true rfl) fun Γ κ hl hκ0 => ?_
  subst hl
  have hl := hl0
  obtain ⟨hκ, hX⟩ := mp_k2 hκ0
  obtain ⟨hκd, hκc, hκs, -⟩ := id hκ
  obtain ⟨zk, uk⟩ := hs.o
  have hle := hs.le
  show mp_J Γ m_De_number E κ M [(0, .ref h), (1, .int i)] 0 [] 0 0
  refine j_aload_n d_De_number_0 rfl 0 rfl ?_
  refine j_get F_De h0 5 (by decide) w_195 (Or.inl rfl) rfl d_De_number_1 ?_
  refine j_iload_n d_De_number_4 rfl 1 rfl ?_
  refine j_callV (As := [.int i]) (rest := []) (k_holdsI Γ.l hs i) Y_St_holds w_858 w_371 w_372 uk rfl rfl rfl (Nat.le_of_ble_eq_true rfl) (by omega) (by omega) (by omega) d_De_number_5 (fun v5 N5 p5 => ?_)
  obtain ⟨rfl, q5⟩ := p5
  obtain rfl := q5.symm
  show mp_J Γ m_De_number E κ M [(0, .ref h), (1, .int i)] 8 [.int (tf (decide (¬ i < 0 ∧ i < nI zs.length)))] 0 0
  refine j_tif_ne 19 d_De_number_8 (by decide) (fun b8 => ?_) (fun b8 => ?_)
  · skip
    obtain ⟨j, hj, hij⟩ := (am_i32s (by omega)).mp (of_decide_eq_true b8)
    rw [hij]
    refine j_aload_n d_De_number_19 rfl 0 rfl ?_
    refine j_get F_De h0 5 (by decide) w_195 (Or.inl rfl) rfl d_De_number_20 ?_
    refine j_iload_n d_De_number_23 rfl 1 rfl ?_
    refine j_callV (As := [.int (nI j)]) (rest := []) (k_peek Γ.l hs j (by omega)) Y_St_peek w_848 w_686 w_687 uk rfl rfl rfl (Nat.le_of_ble_eq_true rfl) (by omega) (by omega) (by omega) d_De_number_24 (fun v24 N24 p24 => ?_)
    obtain ⟨q24, t24, rfl, ht24⟩ := p24
    obtain rfl := q24.symm
    obtain ⟨zt24, ut24⟩ := ht24.o
    show mp_J Γ m_De_number E κ M [(0, .ref h), (1, .int (nI j))] 27 [.ref t24] 0 0
    refine j_callV (As := []) (rest := []) (t_isnum Γ.l ht24) Y_Th_isNumber w_891 w_708 w_709 ut24 rfl rfl rfl (Nat.le_of_ble_eq_true rfl) (by omega) (by omega) (by omega) d_De_number_27 (fun v27 N27 p27 => ?_)
    obtain ⟨rfl, q27⟩ := p27
    obtain rfl := q27.symm
    show mp_J Γ m_De_number E κ M [(0, .ref h), (1, .int (nI j))] 30 [.int (tf (decide ((zs.getD j []).length ≤ 4)))] 0 0
    refine j_tif_ne 41 d_De_number_30 (by decide) (fun b30 => ?_) (fun b30 => ?_)
    · skip
      refine j_aload_n d_De_number_41 rfl 0 rfl ?_
      refine j_get F_De h0 5 (by decide) w_195 (Or.inl rfl) rfl d_De_number_42 ?_
      refine j_iload_n d_De_number_45 rfl 1 rfl ?_
      refine j_callV (As := [.int (nI j)]) (rest := []) (k_peek Γ.l hs j (by omega)) Y_St_peek w_848 w_686 w_687 uk rfl rfl rfl (Nat.le_of_ble_eq_true rfl) (by omega) (by omega) (by omega) d_De_number_46 (fun v46 N46 p46 => ?_)
      obtain ⟨q46, t46, rfl, ht46⟩ := p46
      obtain rfl := q46.symm
      obtain ⟨zt46, ut46⟩ := ht46.o
      show mp_J Γ m_De_number E κ M [(0, .ref h), (1, .int (nI j))] 49 [.ref t46] 0 0
      refine j_callV (As := []) (rest := []) (t_num Γ.l ht46 (of_decide_eq_true b30)) Y_Th_toNumber w_907 w_712 w_713 ut46 rfl rfl rfl (Nat.le_of_ble_eq_true rfl) (by omega) (by omega) (by omega) d_De_number_49 (fun v49 N49 p49 => ?_)
      obtain ⟨rfl, q49⟩ := p49
      obtain rfl := q49.symm
      show mp_J Γ m_De_number E κ M [(0, .ref h), (1, .int (nI j))] 52 [.long (am_num (zs.getD j []))] 0 0
      refine j_l2i d_De_number_52 ?_
      exact j_iret hκ rfl (by omega) (by omega) d_De_number_53 ⟨j, hj, hij, of_decide_eq_true b30, rfl, rfl⟩
    · skip
      exact j_throw (names := ["java/lang/RuntimeException", "java/lang/Exception"]) hl (by decide) (by decide) w_892 w_29 x_ARI g_ARI d_De_number_33 d_De_number_36 d_De_number_37 d_De_number_40 (by decide) (Nat.le_of_ble_eq_true rfl) (by omega) rfl (by omega) (by omega) (hX _ _ (Or.inr ⟨rfl, ⟨j, hj, hij, of_decide_eq_false b30⟩, rfl⟩))
  · skip
    exact j_throw (names := ["java/lang/RuntimeException", "java/lang/Exception"]) hl (by decide) (by decide) w_859 w_28 x_IOB g_IOB d_De_number_11 d_De_number_14 d_De_number_15 d_De_number_18 (by decide) (Nat.le_of_ble_eq_true rfl) (by omega) rfl (by omega) (by omega) (hX _ _ (Or.inl ⟨rfl, fun hz => of_decide_eq_false b8 ((am_i32s (by omega)).mpr hz), rfl⟩))
