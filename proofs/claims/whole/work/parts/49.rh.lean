def bg_at (f : Nat → Int32) (p : Nat) : Int32 := ((nI (ub (f p)) <<< (nI 24 &&& 31) ||| nI (ub (f (p + 1))) <<< (nI 16 &&& 31)) ||| nI (ub (f (p + 2))) <<< (nI 8 &&& 31)) ||| nI (ub (f (p + 3)))
def sm_at (f : Nat → Int32) (p : Nat) : Int32 := ((nI (ub (f p)) ||| nI (ub (f (p + 1))) <<< (nI 8 &&& 31)) ||| nI (ub (f (p + 2))) <<< (nI 16 &&& 31)) ||| nI (ub (f (p + 3))) <<< (nI 24 &&& 31)
set_option maxHeartbeats 4000000 in
set_option maxRecDepth 100000 in
theorem c_Mo_big (l : Launch) (E : mp_E) (M : mp_M) (b m p : Nat) (f : Nat → Int32) (hb : M b = some (mp_b E m f)) (hm : m ≤ 200000) (hp : p + 4 ≤ m) : mp_Cr l m_Mo_big E M 1 0 0 [.ref b, .int (nI p)] (fun v N => v = some (.int (bg_at f p)) ∧ N = M) := by
  refine mp_Cr.of (by decide) (Nat.le_of_ble_eq_true rfl) fun Γ κ hl hκ => ?_
  subst hl
  obtain ⟨hκd, hκc, hκs, -⟩ := id hκ
  show mp_J Γ m_Mo_big E κ M [(0, .ref b), (1, .int (nI p))] 0 [] 0 0
  refine j_aload_n d_Mo_big_0 rfl 0 rfl ?_
  refine j_iload_n d_Mo_big_1 rfl 1 rfl ?_
  refine j_bald hb p rfl (by omega) (by omega) d_Mo_big_2 ?_
  refine j_sipush (v := 255) d_Mo_big_3 (by decide) ?_
  refine j_iand d_Mo_big_6 ?_
  refine j_eqi (y := nI (ub (f p))) (ub_and _) ?_
  refine j_bipush (v := nI 24) d_Mo_big_7 (by decide) ?_
  refine j_ishl d_Mo_big_9 ?_
  refine j_aload_n d_Mo_big_10 rfl 0 rfl ?_
  refine j_iload_n d_Mo_big_11 rfl 1 rfl ?_
  refine j_iconst (v := nI 1) d_Mo_big_12 (by decide) ?_
  refine j_iadd d_Mo_big_13 ?_
  refine j_eqi (y := nI (p + 1)) (nI_add p 1) ?_
  refine j_bald hb (p + 1) rfl (by omega) (by omega) d_Mo_big_14 ?_
  refine j_sipush (v := 255) d_Mo_big_15 (by decide) ?_
  refine j_iand d_Mo_big_18 ?_
  refine j_eqi (y := nI (ub (f (p + 1)))) (ub_and _) ?_
  refine j_bipush (v := nI 16) d_Mo_big_19 (by decide) ?_
  refine j_ishl d_Mo_big_21 ?_
  refine j_ior d_Mo_big_22 ?_
  refine j_aload_n d_Mo_big_23 rfl 0 rfl ?_
  refine j_iload_n d_Mo_big_24 rfl 1 rfl ?_
  refine j_iconst (v := nI 2) d_Mo_big_25 (by decide) ?_
  refine j_iadd d_Mo_big_26 ?_
  refine j_eqi (y := nI (p + 2)) (nI_add p 2) ?_
  refine j_bald hb (p + 2) rfl (by omega) (by omega) d_Mo_big_27 ?_
  refine j_sipush (v := 255) d_Mo_big_28 (by decide) ?_
  refine j_iand d_Mo_big_31 ?_
  refine j_eqi (y := nI (ub (f (p + 2)))) (ub_and _) ?_
  refine j_bipush (v := nI 8) d_Mo_big_32 (by decide) ?_
  refine j_ishl d_Mo_big_34 ?_
  refine j_ior d_Mo_big_35 ?_
  refine j_aload_n d_Mo_big_36 rfl 0 rfl ?_
  refine j_iload_n d_Mo_big_37 rfl 1 rfl ?_
  refine j_iconst (v := nI 3) d_Mo_big_38 (by decide) ?_
  refine j_iadd d_Mo_big_39 ?_
  refine j_eqi (y := nI (p + 3)) (nI_add p 3) ?_
  refine j_bald hb (p + 3) rfl (by omega) (by omega) d_Mo_big_40 ?_
  refine j_sipush (v := 255) d_Mo_big_41 (by decide) ?_
  refine j_iand d_Mo_big_44 ?_
  refine j_eqi (y := nI (ub (f (p + 3)))) (ub_and _) ?_
  refine j_ior d_Mo_big_45 ?_
  exact j_iret hκ rfl (by omega) (by omega) d_Mo_big_46 ⟨rfl, rfl⟩

set_option maxHeartbeats 4000000 in
set_option maxRecDepth 100000 in
theorem c_Mo_small (l : Launch) (E : mp_E) (M : mp_M) (b m p : Nat) (f : Nat → Int32) (hb : M b = some (mp_b E m f)) (hm : m ≤ 200000) (hp : p + 4 ≤ m) : mp_Cr l m_Mo_small E M 1 0 0 [.ref b, .int (nI p)] (fun v N => v = some (.int (sm_at f p)) ∧ N = M) := by
  refine mp_Cr.of (by decide) (Nat.le_of_ble_eq_true rfl) fun Γ κ hl hκ => ?_
  subst hl
  obtain ⟨hκd, hκc, hκs, -⟩ := id hκ
  show mp_J Γ m_Mo_small E κ M [(0, .ref b), (1, .int (nI p))] 0 [] 0 0
  refine j_aload_n d_Mo_small_0 rfl 0 rfl ?_
  refine j_iload_n d_Mo_small_1 rfl 1 rfl ?_
  refine j_bald hb p rfl (by omega) (by omega) d_Mo_small_2 ?_
  refine j_sipush (v := 255) d_Mo_small_3 (by decide) ?_
  refine j_iand d_Mo_small_6 ?_
  refine j_eqi (y := nI (ub (f p))) (ub_and _) ?_
  refine j_aload_n d_Mo_small_7 rfl 0 rfl ?_
  refine j_iload_n d_Mo_small_8 rfl 1 rfl ?_
  refine j_iconst (v := nI 1) d_Mo_small_9 (by decide) ?_
  refine j_iadd d_Mo_small_10 ?_
  refine j_eqi (y := nI (p + 1)) (nI_add p 1) ?_
  refine j_bald hb (p + 1) rfl (by omega) (by omega) d_Mo_small_11 ?_
  refine j_sipush (v := 255) d_Mo_small_12 (by decide) ?_
  refine j_iand d_Mo_small_15 ?_
  refine j_eqi (y := nI (ub (f (p + 1)))) (ub_and _) ?_
  refine j_bipush (v := nI 8) d_Mo_small_16 (by decide) ?_
  refine j_ishl d_Mo_small_18 ?_
  refine j_ior d_Mo_small_19 ?_
  refine j_aload_n d_Mo_small_20 rfl 0 rfl ?_
  refine j_iload_n d_Mo_small_21 rfl 1 rfl ?_
  refine j_iconst (v := nI 2) d_Mo_small_22 (by decide) ?_
  refine j_iadd d_Mo_small_23 ?_
  refine j_eqi (y := nI (p + 2)) (nI_add p 2) ?_
  refine j_bald hb (p + 2) rfl (by omega) (by omega) d_Mo_small_24 ?_
  refine j_sipush (v := 255) d_Mo_small_25 (by decide) ?_
  refine j_iand d_Mo_small_28 ?_
  refine j_eqi (y := nI (ub (f (p + 2)))) (ub_and _) ?_
  refine j_bipush (v := nI 16) d_Mo_small_29 (by decide) ?_
  refine j_ishl d_Mo_small_31 ?_
  refine j_ior d_Mo_small_32 ?_
  refine j_aload_n d_Mo_small_33 rfl 0 rfl ?_
  refine j_iload_n d_Mo_small_34 rfl 1 rfl ?_
  refine j_iconst (v := nI 3) d_Mo_small_35 (by decide) ?_
  refine j_iadd d_Mo_small_36 ?_
  refine j_eqi (y := nI (p + 3)) (nI_add p 3) ?_
  refine j_bald hb (p + 3) rfl (by omega) (by omega) d_Mo_small_37 ?_
  refine j_sipush (v := 255) d_Mo_small_38 (by decide) ?_
  refine j_iand d_Mo_small_41 ?_
  refine j_eqi (y := nI (ub (f (p + 3)))) (ub_and _) ?_
  refine j_bipush (v := nI 24) d_Mo_small_42 (by decide) ?_
  refine j_ishl d_Mo_small_44 ?_
  refine j_ior d_Mo_small_45 ?_
  exact j_iret hκ rfl (by omega) (by omega) d_Mo_small_46 ⟨rfl, rfl⟩
