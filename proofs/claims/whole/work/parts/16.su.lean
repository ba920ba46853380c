/-! the sums, as functions over words -/
def sh_ush (x n : Int32) : Int32 := (x.toUInt32 >>> (n.toUInt32 &&& Int32.toUInt32 31)).toInt32
def sh_shl (x n : Int32) : Int32 := x <<< (n &&& 31)
def sh_rr (x n : Int32) : Int32 := sh_ush x n ||| sh_shl x (-n)
def sh_rl (x n : Int32) : Int32 := sh_shl x n ||| sh_ush x (-n)
def sh_s0 (x : Int32) : Int32 := sh_rr x (nI 7) ^^^ sh_rr x (nI 18) ^^^ sh_ush x (nI 3)
def sh_s1 (x : Int32) : Int32 := sh_rr x (nI 17) ^^^ sh_rr x (nI 19) ^^^ sh_ush x (nI 10)
def sh_u (x : Int32) : Int32 := sh_rr x (nI 2) ^^^ sh_rr x (nI 13) ^^^ sh_rr x (nI 22)
def sh_v (x : Int32) : Int32 := sh_rr x (nI 6) ^^^ sh_rr x (nI 11) ^^^ sh_rr x (nI 25)
def sh_ch (e f g : Int32) : Int32 := (e &&& f) ^^^ ((e ^^^ (-1)) &&& g)
def sh_mj (a b c : Int32) : Int32 := (a &&& b) ^^^ (a &&& c) ^^^ (b &&& c)
def sh_next (f : Nat → Int32) (k : Nat) : Int32 := f (k - 16) + sh_s0 (f (k - 15)) + f (k - 7) + sh_s1 (f (k - 2))
def sh_ext (f : Nat → Int32) : Nat → (Nat → Int32)
  | 0 => f
  | i + 1 => upd (sh_ext f i) (16 + i) (sh_next (sh_ext f i) (16 + i))
def sh_fresh (t : Nat → Int32) (x : Int32) : Int32 := t 7 + sh_v (t 4) + sh_ch (t 4) (t 5) (t 6) + x
def sh_rd (t : Nat → Int32) (x : Int32) : Nat → Int32 := fun j =>
  if j = 0 then sh_fresh t x + sh_u (t 0) + sh_mj (t 0) (t 1) (t 2) else if j = 4 then t 3 + sh_fresh t x else t (j - 1)
def sh_rds (K w t : Nat → Int32) : Nat → (Nat → Int32)
  | 0 => t
  | i + 1 => sh_rd (sh_rds K w t i) (K i + w i)
def sh_mix (K S w : Nat → Int32) : Nat → Int32 := fun j => S j + sh_rds K (sh_ext w 48) S 64 j
theorem sh_ext_c {w w' : Nat → Int32} (h : ∀ j, j < 16 → w j = w' j) : ∀ i j, j < 16 + i → sh_ext w i j = sh_ext w' i j := by
  intro i
  induction i with
  | zero => exact h
  | succ i ih =>
    intro j hj
    show upd (sh_ext w i) (16 + i) (sh_next (sh_ext w i) (16 + i)) j = upd (sh_ext w' i) (16 + i) (sh_next (sh_ext w' i) (16 + i)) j
    by_cases hz : j = 16 + i
    · subst hz
      rw [pk_us, pk_us]
      unfold sh_next
      rw [ih _ (by omega), ih _ (by omega), ih _ (by omega), ih _ (by omega)]
    · rw [pk_un hz, pk_un hz, ih j (by omega)]
theorem sh_rds_c {K w w' t : Nat → Int32} : ∀ i, (∀ j, j < i → w j = w' j) → sh_rds K w t i = sh_rds K w' t i := by
  intro i
  induction i with
  | zero => intro _; rfl
  | succ i ih =>
    intro h
    show sh_rd (sh_rds K w t i) (K i + w i) = sh_rd (sh_rds K w' t i) (K i + w' i)
    rw [ih (fun j hj => h j (by omega)), h i (by omega)]
theorem sh_mix_c {K S w w' : Nat → Int32} (h : ∀ j, j < 16 → w j = w' j) : sh_mix K S w = sh_mix K S w' := by
  unfold sh_mix
  rw [sh_rds_c 64 (fun j hj => sh_ext_c h 48 j (by omega))]
def rp_f (j : Nat) (x y z : Int32) : Int32 :=
  if j = 0 then x ^^^ y ^^^ z else if j = 1 then (x &&& y) ||| ((x ^^^ (-1)) &&& z) else if j = 2 then (x ||| (y ^^^ (-1))) ^^^ z else if j = 3 then (x &&& z) ||| (y &&& (z ^^^ (-1))) else x ^^^ (y ||| (z ^^^ (-1)))
def rp_turn (t : Nat → Int32) (j : Nat) (x s : Int32) : Nat → Int32 := fun i =>
  if i = 0 then t 4 else if i = 1 then sh_rl (t 0 + rp_f j (t 1) (t 2) (t 3) + x) s + t 4 else if i = 2 then t 1 else if i = 3 then sh_rl (t 2) (nI 10) else t 3
def rp_line (kd : Nat → Nat) (add : Nat → Int32) (rot : Nat → Int32) (t : Nat → Int32) : Nat → (Nat → Int32)
  | 0 => t
  | i + 1 => rp_turn (rp_line kd add rot t i) (kd i) (add i) (rot i)
theorem rp_line_c {kd : Nat → Nat} {add add' rot t : Nat → Int32} : ∀ i, (∀ j, j < i → add j = add' j) → rp_line kd add rot t i = rp_line kd add' rot t i := by
  intro i
  induction i with
  | zero => intro _; rfl
  | succ i ih =>
    intro h
    show rp_turn (rp_line kd add rot t i) (kd i) (add i) (rot i) = rp_turn (rp_line kd add' rot t i) (kd i) (add' i) (rot i)
    rw [ih (fun j hj => h j (by omega)), h i (by omega)]
def rp_fin (S a b : Nat → Int32) : Nat → Int32 := fun i =>
  if i = 0 then S 1 + a 2 + b 3 else if i = 1 then S 2 + a 3 + b 4 else if i = 2 then S 3 + a 4 + b 0 else if i = 3 then S 4 + a 0 + b 1 else S 0 + a 1 + b 2
def pd_at (f : Nat → Int32) (n p : Nat) : Int32 := if p < n then nI (ub (f p)) else if p = n then nI 128 else nI 0
def pd_sh (hi : Bool) (i : Nat) : Int32 := if hi then nI (24 - 8 * i) else nI (8 * i)
def pd_w (hi : Bool) (f : Nat → Int32) (n p : Nat) : Nat → Int32
  | 0 => nI 0
  | i + 1 => pd_w hi f n p i ||| (pd_at f n (p + i) <<< (pd_sh hi i &&& 31))
def pd_blocks (n : Nat) : Nat := (n + 8) / 64 + 1
def pd_blk (hi : Bool) (f : Nat → Int32) (n q : Nat) : Nat → Int32 := fun w =>
  if q + 1 = pd_blocks n ∧ w = (if hi then 15 else 14) then nI (n * 8) else pd_w hi f n (q * 64 + 4 * w) 4
def pd_fold (mix : (Nat → Int32) → (Nat → Int32) → (Nat → Int32)) (hi : Bool) (f : Nat → Int32) (n : Nat) (S : Nat → Int32) : Nat → (Nat → Int32)
  | 0 => S
  | q + 1 => mix (pd_fold mix hi f n S q) (pd_blk hi f n q)
def pd_byte (hi : Bool) (S : Nat → Int32) (i : Nat) : Int32 := (S (i / 4) >>> (pd_sh hi (i % 4) &&& 31)).toInt8.toInt32
def pd_ld (hi : Bool) (f g : Nat → Int32) (n p i : Nat) : Nat → Int32 := fun j => if j < i then pd_w hi f n (p + 4 * j) 4 else g j
theorem pd_ld_s {hi : Bool} {f g : Nat → Int32} {n p i : Nat} : upd (pd_ld hi f g n p i) i (pd_w hi f n (p + 4 * i) 4) = pd_ld hi f g n p (i + 1) := by
  funext j
  by_cases hz : j = i
  · subst hz
    rw [pk_us]
    unfold pd_ld
    rw [if_pos (by omega)]
  · rw [pk_un hz]
    unfold pd_ld
    by_cases hy : j < i
    · rw [if_pos hy, if_pos (by omega)]
    · rw [if_neg hy, if_neg (by omega)]
def sh_sum (S T : Nat → Int32) (i : Nat) : Nat → Int32 := fun j => if j < i then S j + T j else S j
theorem sh_sum_s {S T : Nat → Int32} {i : Nat} : upd (sh_sum S T i) i (sh_sum S T i i + T i) = sh_sum S T (i + 1) := by
  funext j
  by_cases hz : j = i
  · subst hz
    rw [pk_us]
    unfold sh_sum
    rw [if_neg (by omega), if_pos (by omega)]
  · rw [pk_un hz]
    unfold sh_sum
    by_cases hy : j < i
    · rw [if_pos hy, if_pos (by omega)]
    · rw [if_neg hy, if_neg (by omega)]
theorem va_cpy0 {f g : Nat → Int32} {n j : Nat} (h : j < n) : va_cpy f g 0 0 n j = f j := by
  unfold va_cpy
  simp [h]

set_option maxHeartbeats 4000000 in
set_option maxRecDepth 100000 in
theorem c_In_rotateRight (l : Launch) (E : mp_E) (M : mp_M) (x n : Int32)  : mp_Cr l m_In_rotateRight E M 1 0 0 [.int x, .int n] (fun v N => v = some (.int (sh_rr x n)) ∧ N = M) := by
  refine mp_Cr.of (by decide) (Nat.le_of_ble_eq_true rfl) fun Γ κ hl hκ => ?_
  subst hl
  obtain ⟨hκd, hκc, hκs, -⟩ := id hκ
  show mp_J Γ m_In_rotateRight E κ M [(0, .int x), (1, .int n)] 0 [] 0 0
  refine j_iload_n d_In_rotateRight_0 rfl 0 rfl ?_
  refine j_iload_n d_In_rotateRight_1 rfl 1 rfl ?_
  refine j_iushr d_In_rotateRight_2 ?_
  refine j_iload_n d_In_rotateRight_3 rfl 0 rfl ?_
  refine j_iload_n d_In_rotateRight_4 rfl 1 rfl ?_
  refine j_ineg d_In_rotateRight_5 ?_
  refine j_ishl d_In_rotateRight_6 ?_
  refine j_ior d_In_rotateRight_7 ?_
  exact j_iret hκ rfl (by omega) (by omega) d_In_rotateRight_8 ⟨rfl, rfl⟩

set_option maxHeartbeats 4000000 in
set_option maxRecDepth 100000 in
theorem c_In_rotateLeft (l : Launch) (E : mp_E) (M : mp_M) (x n : Int32)  : mp_Cr l m_In_rotateLeft E M 1 0 0 [.int x, .int n] (fun v N => v = some (.int (sh_rl x n)) ∧ N = M) := by
  refine mp_Cr.of (by decide) (Nat.le_of_ble_eq_true rfl) fun Γ κ hl hκ => ?_
  subst hl
  obtain ⟨hκd, hκc, hκs, -⟩ := id hκ
  show mp_J Γ m_In_rotateLeft E κ M [(0, .int x), (1, .int n)] 0 [] 0 0
  refine j_iload_n d_In_rotateLeft_0 rfl 0 rfl ?_
  refine j_iload_n d_In_rotateLeft_1 rfl 1 rfl ?_
  refine j_ishl d_In_rotateLeft_2 ?_
  refine j_iload_n d_In_rotateLeft_3 rfl 0 rfl ?_
  refine j_iload_n d_In_rotateLeft_4 rfl 1 rfl ?_
  refine j_ineg d_In_rotateLeft_5 ?_
  refine j_iushr d_In_rotateLeft_6 ?_
  refine j_ior d_In_rotateLeft_7 ?_
  exact j_iret hκ rfl (by omega) (by omega) d_In_rotateLeft_8 ⟨rfl, rfl⟩

set_option maxHeartbeats 4000000 in
set_option maxRecDepth 100000 in
theorem c_Su_filled (l : Launch) (E : mp_E) (M : mp_M) (b m n p : Nat) (f : Nat → Int32) (hb : M b = some (mp_b E m f)) (hm : m ≤ 1000) (hn : n ≤ m) (hp : p ≤ 2000) : mp_Cr l m_Su_filled E M 1 0 0 [.ref b, .int (nI n), .int (nI p)] (fun v N => v = some (.int (pd_at f n p)) ∧ N = M) := by
  refine mp_Cr.of (by decide) (Nat.le_of_ble_eq_true rfl) fun Γ κ hl hκ => ?_
  subst hl
  obtain ⟨hκd, hκc, hκs, -⟩ := id hκ
  show mp_J Γ m_Su_filled E κ M [(0, .ref b), (1, .int (nI n)), (2, .int (nI p))] 0 [] 0 0
  refine j_iload_n d_Su_filled_0 rfl 2 rfl ?_
  refine j_iload_n d_Su_filled_1 rfl 1 rfl ?_
  refine j_ncmp_ge 19 p n rfl rfl (by omega) (by omega) d_Su_filled_2 (by decide) (fun b2 => ?_) (fun b2 => ?_)
  · skip
    refine j_iload_n d_Su_filled_19 rfl 2 rfl ?_
    refine j_iload_n d_Su_filled_20 rfl 1 rfl ?_
    refine j_ncmp_ne 30 p n rfl rfl (by omega) (by omega) d_Su_filled_21 (by decide) (fun b21 => ?_) (fun b21 => ?_)
    · skip
      refine j_iconst (v := nI 0) d_Su_filled_30 (by decide) ?_
      exact j_iret hκ rfl (by omega) (by omega) d_Su_filled_31 ⟨(by unfold pd_at; first | rw [if_pos (by omega)] | rw [if_neg (by omega), if_pos (by omega)] | rw [if_neg (by omega), if_neg (by omega)]), rfl⟩
    · skip
      refine j_sipush (v := nI 128) d_Su_filled_24 (by decide) ?_
      refine j_goto (tgt := 31) d_Su_filled_27 (by decide) ?_
      exact j_iret hκ rfl (by omega) (by omega) d_Su_filled_31 ⟨(by unfold pd_at; first | rw [if_pos (by omega)] | rw [if_neg (by omega), if_pos (by omega)] | rw [if_neg (by omega), if_neg (by omega)]), rfl⟩
  · skip
    refine j_iload_n d_Su_filled_5 rfl 2 rfl ?_
    refine j_aload_n d_Su_filled_6 rfl 0 rfl ?_
    refine j_alen 0 hb rfl d_Su_filled_7 ?_
    show mp_J Γ m_Su_filled E κ M [(0, .ref b), (1, .int (nI n)), (2, .int (nI p))] 8 [.int (nI m), .int (nI p)] 0 0
    refine j_ncmp_ge 19 p m rfl rfl (by omega) (by omega) d_Su_filled_8 (by decide) (fun b8 => absurd b8 (by omega)) (fun b8 => ?_)
    refine j_aload_n d_Su_filled_11 rfl 0 rfl ?_
    refine j_iload_n d_Su_filled_12 rfl 2 rfl ?_
    refine j_bald hb p rfl (by omega) (by omega) d_Su_filled_13 ?_
    refine j_sipush (v := 255) d_Su_filled_14 (by decide) ?_
    refine j_iand d_Su_filled_17 ?_
    refine j_eqi (y := nI (ub (f p))) (ub_and _) ?_
    exact j_iret hκ rfl (by omega) (by omega) d_Su_filled_18 ⟨(by unfold pd_at; first | rw [if_pos (by omega)] | rw [if_neg (by omega), if_pos (by omega)] | rw [if_neg (by omega), if_neg (by omega)]), rfl⟩

set_option maxHeartbeats 4000000 in
set_option maxRecDepth 100000 in
theorem c_shift_sh (l : Launch) (E : mp_E) (M : mp_M) (h tu s w : Nat) (i : Nat) (h0 : M h = some (mp_o 3 [.ref tu, .ref s, .ref w, .ref (E.2.2.2 8), .int (tf true)])) (hi : i < 4) : mp_Cr l m_Su_shift E M 1 0 0 [.ref h, .int (nI i)] (fun v N => v = some (.int (pd_sh true i)) ∧ N = M) := by
  refine mp_Cr.of (by decide) (Nat.le_of_ble_eq_true rfl) fun Γ κ hl hκ => ?_
  subst hl
  obtain ⟨hκd, hκc, hκs, -⟩ := id hκ
  show mp_J Γ m_Su_shift E κ M [(0, .ref h), (1, .int (nI i))] 0 [] 0 0
  refine j_aload_n d_Su_shift_0 rfl 0 rfl ?_
  refine j_get F_Sh h0 4 (by decide) w_64 (Or.inl rfl) rfl d_Su_shift_1 ?_
  refine j_tif_eq 17 d_Su_shift_4 (by decide) (fun b4 => absurd b4 (by decide)) (fun b4 => ?_)
  refine j_bipush (v := nI 24) d_Su_shift_7 (by decide) ?_
  refine j_bipush (v := nI 8) d_Su_shift_9 (by decide) ?_
  refine j_iload_n d_Su_shift_11 rfl 1 rfl ?_
  refine j_imul d_Su_shift_12 ?_
  refine j_eqi (y := nI (8 * i)) (pk_mul 8 i) ?_
  refine j_isub d_Su_shift_13 ?_
  refine j_eqi (y := nI (24 - (8 * i))) (pk_sub (by omega)) ?_
  refine j_goto (tgt := 21) d_Su_shift_14 (by decide) ?_
  exact j_iret hκ rfl (by omega) (by omega) d_Su_shift_21 ⟨rfl, rfl⟩

set_option maxHeartbeats 4000000 in
set_option maxRecDepth 100000 in
theorem lp1_load_sh {Γ : mp_G} {κ : mp_K} (E : mp_E) (M : mp_M) (h tu s w : Nat) (b m n p q : Nat) (f : Nat → Int32) (h0 : M h = some (mp_o 3 [.ref tu, .ref s, .ref w, .ref (E.2.2.2 8), .int (tf true)])) (hb : M b = some (mp_b E m f)) (hm : m ≤ 1000) (hn : n ≤ m) (hp : p ≤ 1500) (hκd : κ.2.1 = 2) (hq : q < 16) (hx : mp_J Γ m_Su_load E κ M [(0, .ref h), (1, .ref b), (2, .int (nI n)), (3, .int (nI p)), (4, .int (nI q)), (5, .int (pd_w true f n (p + 4 * q) 4)), (6, .int (nI 4))] 54 [] 0 0)  : ∀ (r : Nat) (i : Nat), 4 - i < r → (i ≤ 4) → mp_J Γ m_Su_load E κ M [(0, .ref h), (1, .ref b), (2, .int (nI n)), (3, .int (nI p)), (4, .int (nI q)), (5, .int (pd_w true f n (p + 4 * q) i)), (6, .int (nI i))] 16 [] 0 0 := by
  intro r
  induction r with
  | zero => intro i hr; exact absurd hr (Nat.not_lt_zero _)
  | succ r ih =>
    intro i hr hi
    refine j_iload d_Su_load_16 6 rfl ?_
    refine j_iconst (v := nI 4) d_Su_load_18 (by decide) ?_
    refine j_ncmp_ge 54 i 4 rfl rfl (by omega) (by omega) d_Su_load_19 (by decide) (fun b19 => ?_) (fun b19 => ?_)
    · skip
      refine j_lv [0, 1, 2, 3, 4, 5, 6] rfl ?_
      (rw [show i = 4 by omega]; exact hx)
    · skip
      refine j_iload d_Su_load_22 5 rfl ?_
      refine j_aload_n d_Su_load_24 rfl 1 rfl ?_
      refine j_iload_n d_Su_load_25 rfl 2 rfl ?_
      refine j_iload_n d_Su_load_26 rfl 3 rfl ?_
      refine j_iconst (v := nI 4) d_Su_load_27 (by decide) ?_
      refine j_iload d_Su_load_28 4 rfl ?_
      refine j_imul d_Su_load_30 ?_
      refine j_eqi (y := nI (4 * q)) (pk_mul 4 q) ?_
      refine j_iadd d_Su_load_31 ?_
      refine j_eqi (y := nI (p + (4 * q))) (nI_add p (4 * q)) ?_
      refine j_iload d_Su_load_32 6 rfl ?_
      refine j_iadd d_Su_load_34 ?_
      refine j_eqi (y := nI ((p + (4 * q)) + i)) (nI_add (p + (4 * q)) i) ?_
      refine j_callS (As := [.ref b, .int (nI n), .int (nI ((p + (4 * q)) + i))]) (rest := [.int (pd_w true f n (p + 4 * q) i)]) (c_Su_filled Γ.l E M b m n (p + 4 * q + i) f hb hm hn (by omega)) Y_Su_filled w_778 w_779 rfl rfl (Nat.le_of_ble_eq_true rfl) (by omega) (by omega) (by omega) d_Su_load_35 (fun v35 N35 p35 => ?_)
      obtain ⟨rfl, q35⟩ := p35
      obtain rfl := q35.symm
      show mp_J Γ m_Su_load E κ M [(0, .ref h), (1, .ref b), (2, .int (nI n)), (3, .int (nI p)), (4, .int (nI q)), (5, .int (pd_w true f n (p + 4 * q) i)), (6, .int (nI i))] 38 [.int (pd_at f n (p + 4 * q + i)), .int (pd_w true f n (p + 4 * q) i)] 0 0
      refine j_aload_n d_Su_load_38 rfl 0 rfl ?_
      refine j_iload d_Su_load_39 6 rfl ?_
      refine j_callP (z := ⟨"ScriptDesk$Sum", "of", "([BI)LScriptDesk$Thing;"⟩) (As := [.int (nI i)]) (rest := [.int (pd_at f n (p + 4 * q + i)), .int (pd_w true f n (p + 4 * q) i)]) "ScriptDesk$Sum" (c_shift_sh Γ.l E M h tu s w i h0 (by omega)) Y_Su_shift w_781 w_1166 (Or.inr ⟨w_783, _, _, _, w_784⟩) (by decide) rfl w_783 rfl rfl w_771 w_782 w_783 (by decide) h0 rfl rfl rfl (Nat.le_of_ble_eq_true rfl) (by omega) (by omega) (by omega) d_Su_load_41 (fun v41 N41 p41 => ?_)
      obtain ⟨rfl, q41⟩ := p41
      obtain rfl := q41.symm
      show mp_J Γ m_Su_load E κ M [(0, .ref h), (1, .ref b), (2, .int (nI n)), (3, .int (nI p)), (4, .int (nI q)), (5, .int (pd_w true f n (p + 4 * q) i)), (6, .int (nI i))] 44 [.int (pd_sh true i), .int (pd_at f n (p + 4 * q + i)), .int (pd_w true f n (p + 4 * q) i)] 0 0
      refine j_ishl d_Su_load_44 ?_
      refine j_ior d_Su_load_45 ?_
      refine j_eqi (y := pd_w true f n (p + 4 * q) (i + 1)) rfl ?_
      refine j_istore [(5, .int (pd_w true f n (p + 4 * q) (i + 1))), (0, .ref h), (1, .ref b), (2, .int (nI n)), (3, .int (nI p)), (4, .int (nI q)), (6, .int (nI i))] d_Su_load_46 (by decide) rfl ?_
      refine j_iinc (v := nI (i + 1)) [(6, .int (nI (i + 1))), (5, .int (pd_w true f n (p + 4 * q) (i + 1))), (0, .ref h), (1, .ref b), (2, .int (nI n)), (3, .int (nI p)), (4, .int (nI q))] d_Su_load_48 6 rfl (nI_add i 1) (by decide) rfl ?_
      refine j_goto (tgt := 16) d_Su_load_51 (by decide) ?_
      refine j_lv [2, 3, 4, 5, 6, 1, 0] rfl ?_
      exact ih (i + 1) (by omega) (by omega)

set_option maxHeartbeats 4000000 in
set_option maxRecDepth 100000 in
theorem lp_load_sh {Γ : mp_G} {κ : mp_K} (E : mp_E) (M : mp_M) (h tu s w : Nat) (b m n p : Nat) (f g : Nat → Int32) (h0 : M h = some (mp_o 3 [.ref tu, .ref s, .ref w, .ref (E.2.2.2 8), .int (tf true)])) (hb : M b = some (mp_b E m f)) (hm : m ≤ 1000) (hn : n ≤ m) (hp : p ≤ 1500) (hw : M w = some (mp_i E 64 g)) (hwb : w ≠ b) (hκ : mp_k κ 2 0 0 (fun v N => v = none ∧ N = mp_up M w (mp_i E 64 (pd_ld true f g n p 16)))) : ∀ (r : Nat) (Mx : mp_M) (q : Nat), 16 - q < r → (Mx = mp_up M w (mp_i E 64 (pd_ld true f g n p q))) → (q ≤ 16) → mp_J Γ m_Su_load E κ Mx [(0, .ref h), (1, .ref b), (2, .int (nI n)), (3, .int (nI p)), (4, .int (nI q))] 3 [] 0 0 := by
  obtain ⟨hκd, hκc, hκs, -⟩ := id hκ
  intro r
  induction r with
  | zero => intro Mx q hr; exact absurd hr (Nat.not_lt_zero _)
  | succ r ih =>
    intro Mx q hr eX hq
    have hX0 := mp_kp eX (mp_ne h0 hw mp_noa) h0
    have hX1 : Mx b = some (mp_b E m f) := by rw [eX, mp_n (Ne.symm hwb)]; exact hb
    have hX2 : Mx w = some (mp_i E 64 (pd_ld true f g n p q)) := by rw [eX]; exact mp_s
    refine j_iload d_Su_load_3 4 rfl ?_
    refine j_bipush (v := nI 16) d_Su_load_5 (by decide) ?_
    refine j_ncmp_ge 69 q 16 rfl rfl (by omega) (by omega) d_Su_load_7 (by decide) (fun b7 => ?_) (fun b7 => ?_)
    · skip
      exact j_vret hκ rfl (by omega) (by omega) d_Su_load_69 ⟨rfl, by rw [eX, show q = 16 by omega]⟩
    · skip
      refine j_iconst (v := nI 0) d_Su_load_10 (by decide) ?_
      refine j_istore [(5, .int (nI 0)), (0, .ref h), (1, .ref b), (2, .int (nI n)), (3, .int (nI p)), (4, .int (nI q))] d_Su_load_11 (by decide) rfl ?_
      refine j_iconst (v := nI 0) d_Su_load_13 (by decide) ?_
      refine j_istore [(6, .int (nI 0)), (5, .int (nI 0)), (0, .ref h), (1, .ref b), (2, .int (nI n)), (3, .int (nI p)), (4, .int (nI q))] d_Su_load_14 (by decide) rfl ?_
      refine j_lv [2, 3, 4, 5, 6, 1, 0] rfl ?_
      refine lp1_load_sh E Mx h tu s w b m n p q f hX0 hX1 hm hn hp hκd (by omega) ?_ 5 0 (by omega) (by omega)
      refine j_aload_n d_Su_load_54 rfl 0 rfl ?_
      refine j_get F_Sh hX0 2 (by decide) w_58 (Or.inl rfl) rfl d_Su_load_55 ?_
      refine j_iload d_Su_load_58 4 rfl ?_
      refine j_iload d_Su_load_60 5 rfl ?_
      refine j_iast hX2 q rfl (by omega) (by omega) d_Su_load_62 ?_
      generalize eM1 : mp_up Mx w (mp_i E 64 (upd (pd_ld true f g n p q) q (pd_w true f n (p + 4 * q) 4))) = M1
      have hM1_h : M1 h = some (mp_o 3 [.ref tu, .ref s, .ref w, .ref (E.2.2.2 8), .int (tf true)]) := by rw [← eM1, mp_n (mp_ne hX0 hX2 mp_noa)]; exact hX0
      have hM1_b : M1 b = some (mp_b E m f) := by rw [← eM1, mp_n (Ne.symm hwb)]; exact hX1
      have hM1_w : M1 w = some (mp_i E 64 (upd (pd_ld true f g n p q) q (pd_w true f n (p + 4 * q) 4))) := by rw [← eM1]; exact mp_s
      refine j_iinc (v := nI (q + 1)) [(4, .int (nI (q + 1))), (0, .ref h), (1, .ref b), (2, .int (nI n)), (3, .int (nI p)), (5, .int (pd_w true f n (p + 4 * q) 4)), (6, .int (nI 4))] d_Su_load_63 4 rfl (nI_add q 1) (by decide) rfl ?_
      refine j_goto (tgt := 3) d_Su_load_66 (by decide) ?_
      refine j_lv [1, 2, 3, 4, 0] rfl ?_
      exact ih M1 (q + 1) (by omega) (by rw [← eM1, eX, mp_uu, pd_ld_s]) (by omega)

set_option maxHeartbeats 4000000 in
set_option maxRecDepth 100000 in
theorem c_load_sh (l : Launch) (E : mp_E) (M : mp_M) (h tu s w : Nat) (b m n p : Nat) (f g : Nat → Int32) (h0 : M h = some (mp_o 3 [.ref tu, .ref s, .ref w, .ref (E.2.2.2 8), .int (tf true)])) (hb : M b = some (mp_b E m f)) (hm : m ≤ 1000) (hn : n ≤ m) (hp : p ≤ 1500) (hw : M w = some (mp_i E 64 g)) (hwb : w ≠ b) : mp_Cr l m_Su_load E M 2 0 0 [.ref h, .ref b, .int (nI n), .int (nI p)] (fun v N => v = none ∧ N = mp_up M w (mp_i E 64 (pd_ld true f g n p 16))) := by
  refine mp_Cr.of (by decide) (Nat.le_of_ble_eq_true rfl) fun Γ κ hl hκ => ?_
  subst hl
  obtain ⟨hκd, hκc, hκs, -⟩ := id hκ
  show mp_J Γ m_Su_load E κ M [(0, .ref h), (1, .ref b), (2, .int (nI n)), (3, .int (nI p))] 0 [] 0 0
  refine j_iconst (v := nI 0) d_Su_load_0 (by decide) ?_
  refine j_istore [(4, .int (nI 0)), (0, .ref h), (1, .ref b), (2, .int (nI n)), (3, .int (nI p))] d_Su_load_1 (by decide) rfl ?_
  refine j_lv [1, 2, 3, 4, 0] rfl ?_
  exact lp_load_sh E M h tu s w b m n p f g h0 hb hm hn hp hw hwb hκ 17 M 0 (by omega) (mp_same hw).symm (by omega)

set_option maxHeartbeats 4000000 in
set_option maxRecDepth 100000 in
theorem lp_result_sh {Γ : mp_G} {κ : mp_K} (E : mp_E) (M : mp_M) (h tu s w : Nat) (qb : Nat) (S : Nat → Int32) (h0 : M h = some (mp_o 3 [.ref tu, .ref s, .ref w, .ref (E.2.2.2 8), .int (tf true)])) (hs : M s = some (mp_i E 8 S)) (hqb : M qb = none) (hκ : mp_k κ 3 2 33 (fun v N => ∃ q1 q2, v = some (.ref q1) ∧ M q1 = none ∧ M q2 = none ∧ q1 ≠ q2 ∧ N = mp_up (mp_up M q2 (mp_b E 32 (pd_byte true S))) q1 (mp_o 5 [.ref q2]))) : ∀ (r : Nat) (Mx : mp_M) (g : Nat → Int32) (i : Nat), 32 - i < r → (Mx = mp_up M qb (mp_b E 32 g)) → (i ≤ 32) → (∀ j, j < i → g j = pd_byte true S j) → mp_J Γ m_Su_result E κ Mx [(0, .ref h), (1, .ref qb), (2, .int (nI i))] 12 [] (0 + 1) (0 + 32) := by
  obtain ⟨hκd, hκc, hκs, -⟩ := id hκ
  intro r
  induction r with
  | zero => intro Mx g i hr; exact absurd hr (Nat.not_lt_zero _)
  | succ r ih =>
    intro Mx g i hr eX hi hg
    have hX0 := mp_kp eX (mp_ne0 h0 hqb) h0
    have hX1 := mp_kp eX (mp_ne0 hs hqb) hs
    have hX2 : Mx qb = some (mp_b E 32 g) := by rw [eX]; exact mp_s
    refine j_iload_n d_Su_result_12 rfl 2 rfl ?_
    refine j_aload_n d_Su_result_13 rfl 1 rfl ?_
    refine j_alen 0 hX2 rfl d_Su_result_14 ?_
    show mp_J Γ m_Su_result E κ Mx [(0, .ref h), (1, .ref qb), (2, .int (nI i))] 15 [.int (nI 32), .int (nI i)] (0 + 1) (0 + 32)
    refine j_ncmp_ge 44 i 32 rfl rfl (by omega) (by omega) d_Su_result_15 (by decide) (fun b15 => ?_) (fun b15 => ?_)
    · skip
      refine j_canon (pd_byte true S) hX2 (fun j hj => hg j (by omega)) ?_
      show mp_J Γ m_Su_result E κ (mp_up Mx qb (mp_b E 32 (pd_byte true S))) [(0, .ref h), (1, .ref qb), (2, .int (nI i))] 44 [] (0 + 1) (0 + 32)
      generalize eM1 : mp_up Mx qb (mp_b E 32 (pd_byte true S)) = M1
      have hM1_h : M1 h = some (mp_o 3 [.ref tu, .ref s, .ref w, .ref (E.2.2.2 8), .int (tf true)]) := by rw [← eM1, mp_n (mp_ne hX0 hX2 mp_noa)]; exact hX0
      have hM1_s : M1 s = some (mp_i E 8 S) := by rw [← eM1, mp_n (mp_ne0 hs hqb)]; exact hX1
      have hM1_qb : M1 qb = some (mp_b E 32 (pd_byte true S)) := by rw [← eM1]; exact mp_s
      refine j_new [.null] F_Th w_834 w_111 w_8 (fun j hj => by rcases (show j = 0 by omega) with rfl <;> rfl) (by omega) (by omega) d_Su_result_44 (fun q1 hq1 => ?_)
      generalize eM2 : mp_up M1 q1 (mp_o 5 [.null]) = M2
      have hM2_h : M2 h = some (mp_o 3 [.ref tu, .ref s, .ref w, .ref (E.2.2.2 8), .int (tf true)]) := by rw [← eM2, mp_n (mp_ne0 hM1_h hq1)]; exact hM1_h
      have hM2_s : M2 s = some (mp_i E 8 S) := by rw [← eM2, mp_n (mp_ne0 hM1_s hq1)]; exact hM1_s
      have hM2_qb : M2 qb = some (mp_b E 32 (pd_byte true S)) := by rw [← eM2, mp_n (mp_ne0 hM1_qb hq1)]; exact hM1_qb
      have hM2_q1 : M2 q1 = some (mp_o 5 [.null]) := by rw [← eM2]; exact mp_s
      have hne1 : q1 ≠ qb := fun e9 => by rw [e9] at hq1; simp_all
      have hq1M : M q1 = none := by subst_vars; simpa [mp_up, hne1] using hq1
      refine j_dup d_Su_result_47 rfl ?_
      refine j_aload_n d_Su_result_48 rfl 1 rfl ?_
      refine j_callI (As := [.ref qb]) (rest := [.ref q1]) (c_Th_init Γ.l E M2 q1 qb hM2_q1) Y_Th_init rfl rfl w_835 w_113 rfl rfl (Nat.le_of_ble_eq_true rfl) (by omega) (by omega) (by omega) d_Su_result_49 (fun v49 N49 p49 => ?_)
      obtain ⟨rfl, q49⟩ := p49
      show mp_J Γ m_Su_result E κ N49 [(0, .ref h), (1, .ref qb), (2, .int (nI i))] 52 [.ref q1] (0 + 1 + 1) (0 + 32 + 1)
      exact j_aret hκ rfl (by first | exact Or.inl ⟨_, rfl⟩ | exact Or.inr ⟨_, rfl⟩) (by omega) (by omega) d_Su_result_52 ⟨q1, qb, rfl, hq1M, hqb, hne1, by subst_vars; simp only [mp_uu]⟩
    · skip
      refine j_aload_n d_Su_result_18 rfl 1 rfl ?_
      refine j_iload_n d_Su_result_19 rfl 2 rfl ?_
      refine j_aload_n d_Su_result_20 rfl 0 rfl ?_
      refine j_get F_Sh hX0 1 (by decide) w_53 (Or.inl rfl) rfl d_Su_result_21 ?_
      refine j_iload_n d_Su_result_24 rfl 2 rfl ?_
      refine j_iconst (v := nI 4) d_Su_result_25 (by decide) ?_
      refine j_idiv (by decide) d_Su_result_26 ?_
      refine j_eqi (y := nI (i / 4)) (pk_div (by omega) (by decide) (by decide)) ?_
      refine j_iald hX1 (i / 4) rfl (by omega) (by omega) d_Su_result_27 ?_
      refine j_aload_n d_Su_result_28 rfl 0 rfl ?_
      refine j_iload_n d_Su_result_29 rfl 2 rfl ?_
      refine j_iconst (v := nI 4) d_Su_result_30 (by decide) ?_
      refine j_irem (by decide) d_Su_result_31 ?_
      refine j_eqi (y := nI (i % 4)) (pk_rem (by omega) (by decide) (by decide)) ?_
      refine j_callP (z := ⟨"ScriptDesk$Sum", "of", "([BI)LScriptDesk$Thing;"⟩) (As := [.int (nI (i % 4))]) (rest := [.int (S (i / 4)), .int (nI i), .ref qb]) "ScriptDesk$Sum" (c_shift_sh Γ.l E Mx h tu s w (i % 4) hX0 (by omega)) Y_Su_shift w_781 w_1166 (Or.inr ⟨w_783, _, _, _, w_784⟩) (by decide) rfl w_783 rfl rfl w_771 w_782 w_783 (by decide) hX0 rfl rfl rfl (Nat.le_of_ble_eq_true rfl) (by omega) (by omega) (by omega) d_Su_result_32 (fun v32 N32 p32 => ?_)
      obtain ⟨rfl, q32⟩ := p32
      obtain rfl := q32.symm
      show mp_J Γ m_Su_result E κ Mx [(0, .ref h), (1, .ref qb), (2, .int (nI i))] 35 [.int (pd_sh true (i % 4)), .int (S (i / 4)), .int (nI i), .ref qb] (0 + 1) (0 + 32)
      refine j_ishr d_Su_result_35 ?_
      refine j_i2b d_Su_result_36 ?_
      refine j_eqi (y := pd_byte true S i) rfl ?_
      refine j_bast (y := pd_byte true S i) hX2 i rfl (by omega) (by omega) (pk_vb _) d_Su_result_37 ?_
      generalize eM3 : mp_up Mx qb (mp_b E 32 (upd g i (pd_byte true S i))) = M3
      have hM3_h : M3 h = some (mp_o 3 [.ref tu, .ref s, .ref w, .ref (E.2.2.2 8), .int (tf true)]) := by rw [← eM3, mp_n (mp_ne hX0 hX2 mp_noa)]; exact hX0
      have hM3_s : M3 s = some (mp_i E 8 S) := by rw [← eM3, mp_n (mp_ne0 hs hqb)]; exact hX1
      have hM3_qb : M3 qb = some (mp_b E 32 (upd g i (pd_byte true S i))) := by rw [← eM3]; exact mp_s
      refine j_iinc (v := nI (i + 1)) [(2, .int (nI (i + 1))), (0, .ref h), (1, .ref qb)] d_Su_result_38 2 rfl (nI_add i 1) (by decide) rfl ?_
      refine j_goto (tgt := 12) d_Su_result_41 (by decide) ?_
      refine j_lv [1, 2, 0] rfl ?_
      exact ih M3 (upd g i (pd_byte true S i)) (i + 1) (by omega) (by rw [← eM3, eX, mp_uu]) (by omega) (lt_s (fun j hj => by rw [pk_un (by omega)]; exact hg j hj) pk_us)

set_option maxHeartbeats 4000000 in
set_option maxRecDepth 100000 in
theorem c_result_sh (l : Launch) (E : mp_E) (M : mp_M) (h tu s w : Nat) (S : Nat → Int32) (h0 : M h = some (mp_o 3 [.ref tu, .ref s, .ref w, .ref (E.2.2.2 8), .int (tf true)])) (hs : M s = some (mp_i E 8 S)) : mp_Cr l m_Su_result E M 3 2 33 [.ref h] (fun v N => ∃ q1 q2, v = some (.ref q1) ∧ M q1 = none ∧ M q2 = none ∧ q1 ≠ q2 ∧ N = mp_up (mp_up M q2 (mp_b E 32 (pd_byte true S))) q1 (mp_o 5 [.ref q2])) := by
  refine mp_Cr.of (by decide) (Nat.le_of_ble_eq_true rfl) fun Γ κ hl hκ => ?_
  subst hl
  obtain ⟨hκd, hκc, hκs, -⟩ := id hκ
  show mp_J Γ m_Su_result E κ M [(0, .ref h)] 0 [] 0 0
  refine j_iconst (v := nI 4) d_Su_result_0 (by decide) ?_
  refine j_aload_n d_Su_result_1 rfl 0 rfl ?_
  refine j_get F_Sh h0 1 (by decide) w_53 (Or.inl rfl) rfl d_Su_result_2 ?_
  refine j_alen 1 hs rfl d_Su_result_5 ?_
  show mp_J Γ m_Su_result E κ M [(0, .ref h)] 6 [.int (nI 8), .int (nI 4)] 0 0
  refine j_imul d_Su_result_6 ?_
  refine j_eqi (y := nI (4 * 8)) (pk_mul 4 8) ?_
  refine j_newb w_76 (by omega) (by omega) (by omega) d_Su_result_7 (fun qb hqb => ?_)
  generalize eM1 : mp_up M qb (mp_b E (4 * 8) (fun _ => 0)) = M1
  have hM1_h : M1 h = some (mp_o 3 [.ref tu, .ref s, .ref w, .ref (E.2.2.2 8), .int (tf true)]) := by rw [← eM1, mp_n (mp_ne0 h0 hqb)]; exact h0
  have hM1_s : M1 s = some (mp_i E 8 S) := by rw [← eM1, mp_n (mp_ne0 hs hqb)]; exact hs
  have hM1_qb : M1 qb = some (mp_b E (4 * 8) (fun _ => 0)) := by rw [← eM1]; exact mp_s
  refine j_astore_n [(1, .ref qb), (0, .ref h)] d_Su_result_9 rfl (by decide) rfl ?_
  refine j_iconst (v := nI 0) d_Su_result_10 (by decide) ?_
  refine j_istore_n [(2, .int (nI 0)), (1, .ref qb), (0, .ref h)] d_Su_result_11 rfl (by decide) rfl ?_
  refine j_lv [2, 1, 0] rfl ?_
  exact lp_result_sh E M h tu s w qb S h0 hs hqb hκ 33 M1 (fun _ => 0) 0 (by omega) eM1.symm (Nat.zero_le _) (fun j hj => absurd hj (Nat.not_lt_zero _))

set_option maxHeartbeats 4000000 in
set_option maxRecDepth 100000 in
theorem c_shift_ri (l : Launch) (E : mp_E) (M : mp_M) (h lf rt s w : Nat) (i : Nat) (h0 : M h = some (mp_o 2 [.ref lf, .ref rt, .ref s, .ref w, .ref (E.2.2.2 6), .int (tf false)])) (hi : i < 4) : mp_Cr l m_Su_shift E M 1 0 0 [.ref h, .int (nI i)] (fun v N => v = some (.int (pd_sh false i)) ∧ N = M) := by
  refine mp_Cr.of (by decide) (Nat.le_of_ble_eq_true rfl) fun Γ κ hl hκ => ?_
  subst hl
  obtain ⟨hκd, hκc, hκs, -⟩ := id hκ
  show mp_J Γ m_Su_shift E κ M [(0, .ref h), (1, .int (nI i))] 0 [] 0 0
  refine j_aload_n d_Su_shift_0 rfl 0 rfl ?_
  refine j_get F_Ri h0 5 (by decide) w_64 (Or.inl rfl) rfl d_Su_shift_1 ?_
  refine j_tif_eq 17 d_Su_shift_4 (by decide) (fun b4 => ?_) (fun b4 => absurd b4 (by decide))
  refine j_bipush (v := nI 8) d_Su_shift_17 (by decide) ?_
  refine j_iload_n d_Su_shift_19 rfl 1 rfl ?_
  refine j_imul d_Su_shift_20 ?_
  refine j_eqi (y := nI (8 * i)) (pk_mul 8 i) ?_
  exact j_iret hκ rfl (by omega) (by omega) d_Su_shift_21 ⟨rfl, rfl⟩

set_option maxHeartbeats 4000000 in
set_option maxRecDepth 100000 in
theorem lp1_load_ri {Γ : mp_G} {κ : mp_K} (E : mp_E) (M : mp_M) (h lf rt s w : Nat) (b m n p q : Nat) (f : Nat → Int32) (h0 : M h = some (mp_o 2 [.ref lf, .ref rt, .ref s, .ref w, .ref (E.2.2.2 6), .int (tf false)])) (hb : M b = some (mp_b E m f)) (hm : m ≤ 1000) (hn : n ≤ m) (hp : p ≤ 1500) (hκd : κ.2.1 = 2) (hq : q < 16) (hx : mp_J Γ m_Su_load E κ M [(0, .ref h), (1, .ref b), (2, .int (nI n)), (3, .int (nI p)), (4, .int (nI q)), (5, .int (pd_w false f n (p + 4 * q) 4)), (6, .int (nI 4))] 54 [] 0 0)  : ∀ (r : Nat) (i : Nat), 4 - i < r → (i ≤ 4) → mp_J Γ m_Su_load E κ M [(0, .ref h), (1, .ref b), (2, .int (nI n)), (3, .int (nI p)), (4, .int (nI q)), (5, .int (pd_w false f n (p + 4 * q) i)), (6, .int (nI i))] 16 [] 0 0 := by
  intro r
  induction r with
  | zero => intro i hr; exact absurd hr (Nat.not_lt_zero _)
  | succ r ih =>
    intro i hr hi
    refine j_iload d_Su_load_16 6 rfl ?_
    refine j_iconst (v := nI 4) d_Su_load_18 (by decide) ?_
    refine j_ncmp_ge 54 i 4 rfl rfl (by omega) (by omega) d_Su_load_19 (by decide) (fun b19 => ?_) (fun b19 => ?_)
    · skip
      refine j_lv [0, 1, 2, 3, 4, 5, 6] rfl ?_
      (rw [show i = 4 by omega]; exact hx)
    · skip
      refine j_iload d_Su_load_22 5 rfl ?_
      refine j_aload_n d_Su_load_24 rfl 1 rfl ?_
      refine j_iload_n d_Su_load_25 rfl 2 rfl ?_
      refine j_iload_n d_Su_load_26 rfl 3 rfl ?_
      refine j_iconst (v := nI 4) d_Su_load_27 (by decide) ?_
      refine j_iload d_Su_load_28 4 rfl ?_
      refine j_imul d_Su_load_30 ?_
      refine j_eqi (y := nI (4 * q)) (pk_mul 4 q) ?_
      refine j_iadd d_Su_load_31 ?_
      refine j_eqi (y := nI (p + (4 * q))) (nI_add p (4 * q)) ?_
      refine j_iload d_Su_load_32 6 rfl ?_
      refine j_iadd d_Su_load_34 ?_
      refine j_eqi (y := nI ((p + (4 * q)) + i)) (nI_add (p + (4 * q)) i) ?_
      refine j_callS (As := [.ref b, .int (nI n), .int (nI ((p + (4 * q)) + i))]) (rest := [.int (pd_w false f n (p + 4 * q) i)]) (c_Su_filled Γ.l E M b m n (p + 4 * q + i) f hb hm hn (by omega)) Y_Su_filled w_778 w_779 rfl rfl (Nat.le_of_ble_eq_true rfl) (by omega) (by omega) (by omega) d_Su_load_35 (fun v35 N35 p35 => ?_)
      obtain ⟨rfl, q35⟩ := p35
      obtain rfl := q35.symm
      show mp_J Γ m_Su_load E κ M [(0, .ref h), (1, .ref b), (2, .int (nI n)), (3, .int (nI p)), (4, .int (nI q)), (5, .int (pd_w false f n (p + 4 * q) i)), (6, .int (nI i))] 38 [.int (pd_at f n (p + 4 * q + i)), .int (pd_w false f n (p + 4 * q) i)] 0 0
      refine j_aload_n d_Su_load_38 rfl 0 rfl ?_
      refine j_iload d_Su_load_39 6 rfl ?_
      refine j_callP (z := ⟨"ScriptDesk$Sum", "of", "([BI)LScriptDesk$Thing;"⟩) (As := [.int (nI i)]) (rest := [.int (pd_at f n (p + 4 * q + i)), .int (pd_w false f n (p + 4 * q) i)]) "ScriptDesk$Sum" (c_shift_ri Γ.l E M h lf rt s w i h0 (by omega)) Y_Su_shift w_781 w_1166 (Or.inr ⟨w_783, _, _, _, w_784⟩) (by decide) rfl w_783 rfl rfl w_770 w_782 w_783 (by decide) h0 rfl rfl rfl (Nat.le_of_ble_eq_true rfl) (by omega) (by omega) (by omega) d_Su_load_41 (fun v41 N41 p41 => ?_)
      obtain ⟨rfl, q41⟩ := p41
      obtain rfl := q41.symm
      show mp_J Γ m_Su_load E κ M [(0, .ref h), (1, .ref b), (2, .int (nI n)), (3, .int (nI p)), (4, .int (nI q)), (5, .int (pd_w false f n (p + 4 * q) i)), (6, .int (nI i))] 44 [.int (pd_sh false i), .int (pd_at f n (p + 4 * q + i)), .int (pd_w false f n (p + 4 * q) i)] 0 0
      refine j_ishl d_Su_load_44 ?_
      refine j_ior d_Su_load_45 ?_
      refine j_eqi (y := pd_w false f n (p + 4 * q) (i + 1)) rfl ?_
      refine j_istore [(5, .int (pd_w false f n (p + 4 * q) (i + 1))), (0, .ref h), (1, .ref b), (2, .int (nI n)), (3, .int (nI p)), (4, .int (nI q)), (6, .int (nI i))] d_Su_load_46 (by decide) rfl ?_
      refine j_iinc (v := nI (i + 1)) [(6, .int (nI (i + 1))), (5, .int (pd_w false f n (p + 4 * q) (i + 1))), (0, .ref h), (1, .ref b), (2, .int (nI n)), (3, .int (nI p)), (4, .int (nI q))] d_Su_load_48 6 rfl (nI_add i 1) (by decide) rfl ?_
      refine j_goto (tgt := 16) d_Su_load_51 (by decide) ?_
      refine j_lv [2, 3, 4, 5, 6, 1, 0] rfl ?_
      exact ih (i + 1) (by omega) (by omega)

set_option maxHeartbeats 4000000 in
set_option maxRecDepth 100000 in
theorem lp_load_ri {Γ : mp_G} {κ : mp_K} (E : mp_E) (M : mp_M) (h lf rt s w : Nat) (b m n p : Nat) (f g : Nat → Int32) (h0 : M h = some (mp_o 2 [.ref lf, .ref rt, .ref s, .ref w, .ref (E.2.2.2 6), .int (tf false)])) (hb : M b = some (mp_b E m f)) (hm : m ≤ 1000) (hn : n ≤ m) (hp : p ≤ 1500) (hw : M w = some (mp_i E 16 g)) (hwb : w ≠ b) (hκ : mp_k κ 2 0 0 (fun v N => v = none ∧ N = mp_up M w (mp_i E 16 (pd_ld false f g n p 16)))) : ∀ (r : Nat) (Mx : mp_M) (q : Nat), 16 - q < r → (Mx = mp_up M w (mp_i E 16 (pd_ld false f g n p q))) → (q ≤ 16) → mp_J Γ m_Su_load E κ Mx [(0, .ref h), (1, .ref b), (2, .int (nI n)), (3, .int (nI p)), (4, .int (nI q))] 3 [] 0 0 := by
  obtain ⟨hκd, hκc, hκs, -⟩ := id hκ
  intro r
  induction r with
  | zero => intro Mx q hr; exact absurd hr (Nat.not_lt_zero _)
  | succ r ih =>
    intro Mx q hr eX hq
    have hX0 := mp_kp eX (mp_ne h0 hw mp_noa) h0
    have hX1 : Mx b = some (mp_b E m f) := by rw [eX, mp_n (Ne.symm hwb)]; exact hb
    have hX2 : Mx w = some (mp_i E 16 (pd_ld false f g n p q)) := by rw [eX]; exact mp_s
    refine j_iload d_Su_load_3 4 rfl ?_
    refine j_bipush (v := nI 16) d_Su_load_5 (by decide) ?_
    refine j_ncmp_ge 69 q 16 rfl rfl (by omega) (by omega) d_Su_load_7 (by decide) (fun b7 => ?_) (fun b7 => ?_)
    · skip
      exact j_vret hκ rfl (by omega) (by omega) d_Su_load_69 ⟨rfl, by rw [eX, show q = 16 by omega]⟩
    · skip
      refine j_iconst (v := nI 0) d_Su_load_10 (by decide) ?_
      refine j_istore [(5, .int (nI 0)), (0, .ref h), (1, .ref b), (2, .int (nI n)), (3, .int (nI p)), (4, .int (nI q))] d_Su_load_11 (by decide) rfl ?_
      refine j_iconst (v := nI 0) d_Su_load_13 (by decide) ?_
      refine j_istore [(6, .int (nI 0)), (5, .int (nI 0)), (0, .ref h), (1, .ref b), (2, .int (nI n)), (3, .int (nI p)), (4, .int (nI q))] d_Su_load_14 (by decide) rfl ?_
      refine j_lv [2, 3, 4, 5, 6, 1, 0] rfl ?_
      refine lp1_load_ri E Mx h lf rt s w b m n p q f hX0 hX1 hm hn hp hκd (by omega) ?_ 5 0 (by omega) (by omega)
      refine j_aload_n d_Su_load_54 rfl 0 rfl ?_
      refine j_get F_Ri hX0 3 (by decide) w_58 (Or.inl rfl) rfl d_Su_load_55 ?_
      refine j_iload d_Su_load_58 4 rfl ?_
      refine j_iload d_Su_load_60 5 rfl ?_
      refine j_iast hX2 q rfl (by omega) (by omega) d_Su_load_62 ?_
      generalize eM1 : mp_up Mx w (mp_i E 16 (upd (pd_ld false f g n p q) q (pd_w false f n (p + 4 * q) 4))) = M1
      have hM1_h : M1 h = some (mp_o 2 [.ref lf, .ref rt, .ref s, .ref w, .ref (E.2.2.2 6), .int (tf false)]) := by rw [← eM1, mp_n (mp_ne hX0 hX2 mp_noa)]; exact hX0
      have hM1_b : M1 b = some (mp_b E m f) := by rw [← eM1, mp_n (Ne.symm hwb)]; exact hX1
      have hM1_w : M1 w = some (mp_i E 16 (upd (pd_ld false f g n p q) q (pd_w false f n (p + 4 * q) 4))) := by rw [← eM1]; exact mp_s
      refine j_iinc (v := nI (q + 1)) [(4, .int (nI (q + 1))), (0, .ref h), (1, .ref b), (2, .int (nI n)), (3, .int (nI p)), (5, .int (pd_w false f n (p + 4 * q) 4)), (6, .int (nI 4))] d_Su_load_63 4 rfl (nI_add q 1) (by decide) rfl ?_
      refine j_goto (tgt := 3) d_Su_load_66 (by decide) ?_
      refine j_lv [1, 2, 3, 4, 0] rfl ?_
      exact ih M1 (q + 1) (by omega) (by rw [← eM1, eX, mp_uu, pd_ld_s]) (by omega)

set_option maxHeartbeats 4000000 in
set_option maxRecDepth 100000 in
theorem c_load_ri (l : Launch) (E : mp_E) (M : mp_M) (h lf rt s w : Nat) (b m n p : Nat) (f g : Nat → Int32) (h0 : M h = some (mp_o 2 [.ref lf, .ref rt, .ref s, .ref w, .ref (E.2.2.2 6), .int (tf false)])) (hb : M b = some (mp_b E m f)) (hm : m ≤ 1000) (hn : n ≤ m) (hp : p ≤ 1500) (hw : M w = some (mp_i E 16 g)) (hwb : w ≠ b) : mp_Cr l m_Su_load E M 2 0 0 [.ref h, .ref b, .int (nI n), .int (nI p)] (fun v N => v = none ∧ N = mp_up M w (mp_i E 16 (pd_ld false f g n p 16))) := by
  refine mp_Cr.of (by decide) (Nat.le_of_ble_eq_true rfl) fun Γ κ hl hκ => ?_
  subst hl
  obtain ⟨hκd, hκc, hκs, -⟩ := id hκ
  show mp_J Γ m_Su_load E κ M [(0, .ref h), (1, .ref b), (2, .int (nI n)), (3, .int (nI p))] 0 [] 0 0
  refine j_iconst (v := nI 0) d_Su_load_0 (by decide) ?_
  refine j_istore [(4, .int (nI 0)), (0, .ref h), (1, .ref b), (2, .int (nI n)), (3, .int (nI p))] d_Su_load_1 (by decide) rfl ?_
  refine j_lv [1, 2, 3, 4, 0] rfl ?_
  exact lp_load_ri E M h lf rt s w b m n p f g h0 hb hm hn hp hw hwb hκ 17 M 0 (by omega) (mp_same hw).symm (by omega)

set_option maxHeartbeats 4000000 in
set_option maxRecDepth 100000 in
theorem lp_result_ri {Γ : mp_G} {κ : mp_K} (E : mp_E) (M : mp_M) (h lf rt s w : Nat) (qb : Nat) (S : Nat → Int32) (h0 : M h = some (mp_o 2 [.ref lf, .ref rt, .ref s, .ref w, .ref (E.2.2.2 6), .int (tf false)])) (hs : M s = some (mp_i E 5 S)) (hqb : M qb = none) (hκ : mp_k κ 3 2 21 (fun v N => ∃ q1 q2, v = some (.ref q1) ∧ M q1 = none ∧ M q2 = none ∧ q1 ≠ q2 ∧ N = mp_up (mp_up M q2 (mp_b E 20 (pd_byte false S))) q1 (mp_o 5 [.ref q2]))) : ∀ (r : Nat) (Mx : mp_M) (g : Nat → Int32) (i : Nat), 20 - i < r → (Mx = mp_up M qb (mp_b E 20 g)) → (i ≤ 20) → (∀ j, j < i → g j = pd_byte false S j) → mp_J Γ m_Su_result E κ Mx [(0, .ref h), (1, .ref qb), (2, .int (nI i))] 12 [] (0 + 1) (0 + 20) := by
  obtain ⟨hκd, hκc, hκs, -⟩ := id hκ
  intro r
  induction r with
  | zero => intro Mx g i hr; exact absurd hr (Nat.not_lt_zero _)
  | succ r ih =>
    intro Mx g i hr eX hi hg
    have hX0 := mp_kp eX (mp_ne0 h0 hqb) h0
    have hX1 := mp_kp eX (mp_ne0 hs hqb) hs
    have hX2 : Mx qb = some (mp_b E 20 g) := by rw [eX]; exact mp_s
    refine j_iload_n d_Su_result_12 rfl 2 rfl ?_
    refine j_aload_n d_Su_result_13 rfl 1 rfl ?_
    refine j_alen 0 hX2 rfl d_Su_result_14 ?_
    show mp_J Γ m_Su_result E κ Mx [(0, .ref h), (1, .ref qb), (2, .int (nI i))] 15 [.int (nI 20), .int (nI i)] (0 + 1) (0 + 20)
    refine j_ncmp_ge 44 i 20 rfl rfl (by omega) (by omega) d_Su_result_15 (by decide) (fun b15 => ?_) (fun b15 => ?_)
    · skip
      refine j_canon (pd_byte false S) hX2 (fun j hj => hg j (by omega)) ?_
      show mp_J Γ m_Su_result E κ (mp_up Mx qb (mp_b E 20 (pd_byte false S))) [(0, .ref h), (1, .ref qb), (2, .int (nI i))] 44 [] (0 + 1) (0 + 20)
      generalize eM1 : mp_up Mx qb (mp_b E 20 (pd_byte false S)) = M1
      have hM1_h : M1 h = some (mp_o 2 [.ref lf, .ref rt, .ref s, .ref w, .ref (E.2.2.2 6), .int (tf false)]) := by rw [← eM1, mp_n (mp_ne hX0 hX2 mp_noa)]; exact hX0
      have hM1_s : M1 s = some (mp_i E 5 S) := by rw [← eM1, mp_n (mp_ne0 hs hqb)]; exact hX1
      have hM1_qb : M1 qb = some (mp_b E 20 (pd_byte false S)) := by rw [← eM1]; exact mp_s
      refine j_new [.null] F_Th w_834 w_111 w_8 (fun j hj => by rcases (show j = 0 by omega) with rfl <;> rfl) (by omega) (by omega) d_Su_result_44 (fun q1 hq1 => ?_)
      generalize eM2 : mp_up M1 q1 (mp_o 5 [.null]) = M2
      have hM2_h : M2 h = some (mp_o 2 [.ref lf, .ref rt, .ref s, .ref w, .ref (E.2.2.2 6), .int (tf false)]) := by rw [← eM2, mp_n (mp_ne0 hM1_h hq1)]; exact hM1_h
      have hM2_s : M2 s = some (mp_i E 5 S) := by rw [← eM2, mp_n (mp_ne0 hM1_s hq1)]; exact hM1_s
      have hM2_qb : M2 qb = some (mp_b E 20 (pd_byte false S)) := by rw [← eM2, mp_n (mp_ne0 hM1_qb hq1)]; exact hM1_qb
      have hM2_q1 : M2 q1 = some (mp_o 5 [.null]) := by rw [← eM2]; exact mp_s
      have hne1 : q1 ≠ qb := fun e9 => by rw [e9] at hq1; simp_all
      have hq1M : M q1 = none := by subst_vars; simpa [mp_up, hne1] using hq1
      refine j_dup d_Su_result_47 rfl ?_
      refine j_aload_n d_Su_result_48 rfl 1 rfl ?_
      refine j_callI (As := [.ref qb]) (rest := [.ref q1]) (c_Th_init Γ.l E M2 q1 qb hM2_q1) Y_Th_init rfl rfl w_835 w_113 rfl rfl (Nat.le_of_ble_eq_true rfl) (by omega) (by omega) (by omega) d_Su_result_49 (fun v49 N49 p49 => ?_)
      obtain ⟨rfl, q49⟩ := p49
      show mp_J Γ m_Su_result E κ N49 [(0, .ref h), (1, .ref qb), (2, .int (nI i))] 52 [.ref q1] (0 + 1 + 1) (0 + 20 + 1)
      exact j_aret hκ rfl (by first | exact Or.inl ⟨_, rfl⟩ | exact Or.inr ⟨_, rfl⟩) (by omega) (by omega) d_Su_result_52 ⟨q1, qb, rfl, hq1M, hqb, hne1, by subst_vars; simp only [mp_uu]⟩
    · skip
      refine j_aload_n d_Su_result_18 rfl 1 rfl ?_
      refine j_iload_n d_Su_result_19 rfl 2 rfl ?_
      refine j_aload_n d_Su_result_20 rfl 0 rfl ?_
      refine j_get F_Ri hX0 2 (by decide) w_53 (Or.inl rfl) rfl d_Su_result_21 ?_
      refine j_iload_n d_Su_result_24 rfl 2 rfl ?_
      refine j_iconst (v := nI 4) d_Su_result_25 (by decide) ?_
      refine j_idiv (by decide) d_Su_result_26 ?_
      refine j_eqi (y := nI (i / 4)) (pk_div (by omega) (by decide) (by decide)) ?_
      refine j_iald hX1 (i / 4) rfl (by omega) (by omega) d_Su_result_27 ?_
      refine j_aload_n d_Su_result_28 rfl 0 rfl ?_
      refine j_iload_n d_Su_result_29 rfl 2 rfl ?_
      refine j_iconst (v := nI 4) d_Su_result_30 (by decide) ?_
      refine j_irem (by decide) d_Su_result_31 ?_
      refine j_eqi (y := nI (i % 4)) (pk_rem (by omega) (by decide) (by decide)) ?_
      refine j_callP (z := ⟨"ScriptDesk$Sum", "of", "([BI)LScriptDesk$Thing;"⟩) (As := [.int (nI (i % 4))]) (rest := [.int (S (i / 4)), .int (nI i), .ref qb]) "ScriptDesk$Sum" (c_shift_ri Γ.l E Mx h lf rt s w (i % 4) hX0 (by omega)) Y_Su_shift w_781 w_1166 (Or.inr ⟨w_783, _, _, _, w_784⟩) (by decide) rfl w_783 rfl rfl w_770 w_782 w_783 (by decide) hX0 rfl rfl rfl (Nat.le_of_ble_eq_true rfl) (by omega) (by omega) (by omega) d_Su_result_32 (fun v32 N32 p32 => ?_)
      obtain ⟨rfl, q32⟩ := p32
      obtain rfl := q32.symm
      show mp_J Γ m_Su_result E κ Mx [(0, .ref h), (1, .ref qb), (2, .int (nI i))] 35 [.int (pd_sh false (i % 4)), .int (S (i / 4)), .int (nI i), .ref qb] (0 + 1) (0 + 20)
      refine j_ishr d_Su_result_35 ?_
      refine j_i2b d_Su_result_36 ?_
      refine j_eqi (y := pd_byte false S i) rfl ?_
      refine j_bast (y := pd_byte false S i) hX2 i rfl (by omega) (by omega) (pk_vb _) d_Su_result_37 ?_
      generalize eM3 : mp_up Mx qb (mp_b E 20 (upd g i (pd_byte false S i))) = M3
      have hM3_h : M3 h = some (mp_o 2 [.ref lf, .ref rt, .ref s, .ref w, .ref (E.2.2.2 6), .int (tf false)]) := by rw [← eM3, mp_n (mp_ne hX0 hX2 mp_noa)]; exact hX0
      have hM3_s : M3 s = some (mp_i E 5 S) := by rw [← eM3, mp_n (mp_ne0 hs hqb)]; exact hX1
      have hM3_qb : M3 qb = some (mp_b E 20 (upd g i (pd_byte false S i))) := by rw [← eM3]; exact mp_s
      refine j_iinc (v := nI (i + 1)) [(2, .int (nI (i + 1))), (0, .ref h), (1, .ref qb)] d_Su_result_38 2 rfl (nI_add i 1) (by decide) rfl ?_
      refine j_goto (tgt := 12) d_Su_result_41 (by decide) ?_
      refine j_lv [1, 2, 0] rfl ?_
      exact ih M3 (upd g i (pd_byte false S i)) (i + 1) (by omega) (by rw [← eM3, eX, mp_uu]) (by omega) (lt_s (fun j hj => by rw [pk_un (by omega)]; exact hg j hj) pk_us)

set_option maxHeartbeats 4000000 in
set_option maxRecDepth 100000 in
theorem c_result_ri (l : Launch) (E : mp_E) (M : mp_M) (h lf rt s w : Nat) (S : Nat → Int32) (h0 : M h = some (mp_o 2 [.ref lf, .ref rt, .ref s, .ref w, .ref (E.2.2.2 6), .int (tf false)])) (hs : M s = some (mp_i E 5 S)) : mp_Cr l m_Su_result E M 3 2 21 [.ref h] (fun v N => ∃ q1 q2, v = some (.ref q1) ∧ M q1 = none ∧ M q2 = none ∧ q1 ≠ q2 ∧ N = mp_up (mp_up M q2 (mp_b E 20 (pd_byte false S))) q1 (mp_o 5 [.ref q2])) := by
  refine mp_Cr.of (by decide) (Nat.le_of_ble_eq_true rfl) fun Γ κ hl hκ => ?_
  subst hl
  obtain ⟨hκd, hκc, hκs, -⟩ := id hκ
  show mp_J Γ m_Su_result E κ M [(0, .ref h)] 0 [] 0 0
  refine j_iconst (v := nI 4) d_Su_result_0 (by decide) ?_
  refine j_aload_n d_Su_result_1 rfl 0 rfl ?_
  refine j_get F_Ri h0 2 (by decide) w_53 (Or.inl rfl) rfl d_Su_result_2 ?_
  refine j_alen 1 hs rfl d_Su_result_5 ?_
  show mp_J Γ m_Su_result E κ M [(0, .ref h)] 6 [.int (nI 5), .int (nI 4)] 0 0
  refine j_imul d_Su_result_6 ?_
  refine j_eqi (y := nI (4 * 5)) (pk_mul 4 5) ?_
  refine j_newb w_76 (by omega) (by omega) (by omega) d_Su_result_7 (fun qb hqb => ?_)
  generalize eM1 : mp_up M qb (mp_b E (4 * 5) (fun _ => 0)) = M1
  have hM1_h : M1 h = some (mp_o 2 [.ref lf, .ref rt, .ref s, .ref w, .ref (E.2.2.2 6), .int (tf false)]) := by rw [← eM1, mp_n (mp_ne0 h0 hqb)]; exact h0
  have hM1_s : M1 s = some (mp_i E 5 S) := by rw [← eM1, mp_n (mp_ne0 hs hqb)]; exact hs
  have hM1_qb : M1 qb = some (mp_b E (4 * 5) (fun _ => 0)) := by rw [← eM1]; exact mp_s
  refine j_astore_n [(1, .ref qb), (0, .ref h)] d_Su_result_9 rfl (by decide) rfl ?_
  refine j_iconst (v := nI 0) d_Su_result_10 (by decide) ?_
  refine j_istore_n [(2, .int (nI 0)), (1, .ref qb), (0, .ref h)] d_Su_result_11 rfl (by decide) rfl ?_
  refine j_lv [2, 1, 0] rfl ?_
  exact lp_result_ri E M h lf rt s w qb S h0 hs hqb hκ 21 M1 (fun _ => 0) 0 (by omega) eM1.symm (Nat.zero_le _) (fun j hj => absurd hj (Nat.not_lt_zero _))
