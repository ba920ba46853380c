theorem ub_int (v : Int32) : (ub v : Int) = v.toInt % 256 := by
  unfold ub
  rw [← Int32.toInt_toBitVec, BitVec.toInt_eq_toNat_cond]
  have := v.toBitVec.isLt
  split <;> omega
theorem ub_bq {r j : Nat} (hr : r < 2 ^ 40) (hj : j < 8) : ub (bq r j) = r / 2 ^ (8 * j) % 256 := by
  have h := ub_int (bq r j)
  rw [nb_bq hr hj, nb_by] at h
  rw [nb_bq hr hj]
  split at h <;> omega
def pdG (hi : Bool) (f : Nat → Int32) (n i p : Nat) : Int32 := if (if hi = true then 64 * pd_blocks n - i ≤ p else 64 * pd_blocks n - 8 ≤ p ∧ p < 64 * pd_blocks n - 8 + i) then bq (8 * n) (if hi = true then 64 * pd_blocks n - 1 - p else p - (64 * pd_blocks n - 8)) else if p < n then f p else if p = n then -128 else nI 0
theorem or_n0 (x : Int32) : nI 0 ||| x = x := by
  apply Int32.toBitVec_inj.mp
  show BitVec.ofNat 32 0 ||| x.toBitVec = _
  simp
theorem sl_n0 (x : Int32) : x <<< (nI 0 &&& 31) = x := by
  apply Int32.toBitVec_inj.mp
  show x.toBitVec <<< ((BitVec.ofNat 32 0 &&& 31#32).smod 32) = _
  rw [show (BitVec.ofNat 32 0 &&& 31#32).smod 32 = 0#32 by decide]
  show x.toBitVec <<< (0#32).toNat = _
  simp
theorem pd_hi {f : Nat → Int32} {n p : Nat} : pd_w true f n p 4 = ((pd_at f n p <<< (nI 24 &&& 31) ||| pd_at f n (p + 1) <<< (nI 16 &&& 31)) ||| pd_at f n (p + 2) <<< (nI 8 &&& 31)) ||| pd_at f n (p + 3) := by
  show (((nI 0 ||| (pd_at f n (p + 0) <<< (nI 24 &&& 31))) ||| (pd_at f n (p + 1) <<< (nI 16 &&& 31))) ||| (pd_at f n (p + 2) <<< (nI 8 &&& 31))) ||| (pd_at f n (p + 3) <<< (nI 0 &&& 31)) = _
  rw [or_n0, sl_n0]
  rfl
theorem pd_lo {f : Nat → Int32} {n p : Nat} : pd_w false f n p 4 = ((pd_at f n p ||| pd_at f n (p + 1) <<< (nI 8 &&& 31)) ||| pd_at f n (p + 2) <<< (nI 16 &&& 31)) ||| pd_at f n (p + 3) <<< (nI 24 &&& 31) := by
  show (((nI 0 ||| (pd_at f n (p + 0) <<< (nI 0 &&& 31))) ||| (pd_at f n (p + 1) <<< (nI 8 &&& 31))) ||| (pd_at f n (p + 2) <<< (nI 16 &&& 31))) ||| (pd_at f n (p + 3) <<< (nI 24 &&& 31)) = _
  rw [or_n0, sl_n0]
  rfl
theorem pd_out {hi : Bool} {f : Nat → Int32} {n p : Nat} (h : ¬ 64 * pd_blocks n - 8 ≤ p) (hn : n ≤ 1000) : nI (ub (pdG hi f n 8 p)) = pd_at f n p := by
  have hb : n + 9 ≤ 64 * pd_blocks n := by unfold pd_blocks; omega
  unfold pdG pd_at
  rw [if_neg (by cases hi <;> simp <;> omega)]
  by_cases h1 : p < n
  · rw [if_pos h1, if_pos h1]
  · rw [if_neg h1, if_neg h1]
    by_cases h2 : p = n
    · rw [if_pos h2, if_pos h2]; rfl
    · rw [if_neg h2, if_neg h2]; rfl
theorem pd_len {hi : Bool} {f : Nat → Int32} {n p : Nat} (h : 64 * pd_blocks n - 8 ≤ p) (h2 : p < 64 * pd_blocks n) (hn : n ≤ 1000) : ub (pdG hi f n 8 p) = 8 * n / 2 ^ (8 * (if hi = true then 64 * pd_blocks n - 1 - p else p - (64 * pd_blocks n - 8))) % 256 := by
  unfold pdG
  have hb : n + 9 ≤ 64 * pd_blocks n := by unfold pd_blocks; omega
  rw [if_pos (by cases hi <;> simp <;> omega), ub_bq (by omega) (by cases hi <;> simp <;> omega)]
theorem pd_z {f : Nat → Int32} {n p : Nat} (h : 64 * pd_blocks n - 8 ≤ p) : pd_at f n p = nI 0 := by
  have hb : n + 9 ≤ 64 * pd_blocks n := by unfold pd_blocks; omega
  unfold pd_at
  rw [if_neg (by omega), if_neg (by omega)]
theorem pd_k {n j : Nat} (hn : n ≤ 1000) (hj : 2 ≤ j) (hj2 : j < 8) : 8 * n / 2 ^ (8 * j) % 256 = 0 := by
  have h1 : (2 : Nat) ^ 16 ≤ 2 ^ (8 * j) := Nat.pow_le_pow_right (by decide) (by omega)
  rw [Nat.div_eq_of_lt (by omega)]
set_option maxRecDepth 100000 in
theorem pd_8 : ∀ n, n < 1001 → ((nI 0 <<< (nI 24 &&& 31) ||| nI 0 <<< (nI 16 &&& 31)) ||| nI (8 * n / 2 ^ 8 % 256) <<< (nI 8 &&& 31)) ||| nI (8 * n / 2 ^ 0 % 256) = nI (n * 8) := by decide +kernel
set_option maxRecDepth 100000 in
theorem pd_8' : ∀ n, n < 1001 → ((nI (8 * n / 2 ^ 0 % 256) ||| nI (8 * n / 2 ^ 8 % 256) <<< (nI 8 &&& 31)) ||| nI 0 <<< (nI 16 &&& 31)) ||| nI 0 <<< (nI 24 &&& 31) = nI (n * 8) := by decide +kernel
theorem PD_big {f F : Nat → Int32} {n q w : Nat} (hn : n ≤ 1000) (hF : ∀ p, p < 64 * pd_blocks n → F p = pdG true f n 8 p) (hq : q < pd_blocks n) (hw : w < 16) : bg_at F (64 * q + 4 * w) = pd_blk true f n q w := by
  unfold bg_at pd_blk
  rw [hF _ (by omega), hF _ (by omega), hF _ (by omega), hF _ (by omega), show q * 64 + 4 * w = 64 * q + 4 * w by omega]
  by_cases h1 : 64 * pd_blocks n - 8 ≤ 64 * q + 4 * w
  · have e0 : q + 1 = pd_blocks n := by omega
    rw [pd_len (by omega) (by omega) hn, pd_len (by omega) (by omega) hn, pd_len (by omega) (by omega) hn, pd_len (by omega) (by omega) hn]
    simp only [if_true]
    by_cases h2 : w = 15
    · rw [if_pos ⟨e0, h2⟩, ← pd_8 n (by omega), show 64 * pd_blocks n - 1 - (64 * q + 4 * w) = 3 by omega, show 64 * pd_blocks n - 1 - (64 * q + 4 * w + 1) = 2 by omega, show 64 * pd_blocks n - 1 - (64 * q + 4 * w + 2) = 1 by omega, show 64 * pd_blocks n - 1 - (64 * q + 4 * w + 3) = 0 by omega, pd_k hn (by omega) (by omega), pd_k hn (by omega) (by omega)]
    · rw [if_neg (fun z => h2 z.2), pd_hi, pd_z (by omega), pd_z (by omega), pd_z (by omega), pd_z (by omega), pd_k hn (by omega) (by omega), pd_k hn (by omega) (by omega), pd_k hn (by omega) (by omega), pd_k hn (by omega) (by omega)]
  · rw [if_neg (fun z => by simp at z; omega), pd_hi, pd_out (by omega) hn, pd_out (by omega) hn, pd_out (by omega) hn, pd_out (by omega) hn]
theorem PD_small {f F : Nat → Int32} {n q w : Nat} (hn : n ≤ 1000) (hF : ∀ p, p < 64 * pd_blocks n → F p = pdG false f n 8 p) (hq : q < pd_blocks n) (hw : w < 16) : sm_at F (64 * q + 4 * w) = pd_blk false f n q w := by
  unfold sm_at pd_blk
  rw [hF _ (by omega), hF _ (by omega), hF _ (by omega), hF _ (by omega), show q * 64 + 4 * w = 64 * q + 4 * w by omega]
  by_cases h1 : 64 * pd_blocks n - 8 ≤ 64 * q + 4 * w
  · have e0 : q + 1 = pd_blocks n := by omega
    rw [pd_len (by omega) (by omega) hn, pd_len (by omega) (by omega) hn, pd_len (by omega) (by omega) hn, pd_len (by omega) (by omega) hn]
    simp only [Bool.false_eq_true, if_false]
    by_cases h2 : w = 14
    · rw [if_pos ⟨e0, h2⟩, ← pd_8' n (by omega), show 64 * q + 4 * w - (64 * pd_blocks n - 8) = 0 by omega, show 64 * q + 4 * w + 1 - (64 * pd_blocks n - 8) = 1 by omega, show 64 * q + 4 * w + 2 - (64 * pd_blocks n - 8) = 2 by omega, show 64 * q + 4 * w + 3 - (64 * pd_blocks n - 8) = 3 by omega, pd_k hn (show 2 ≤ 2 by omega) (by omega), pd_k hn (show 2 ≤ 3 by omega) (by omega)]
    · rw [if_neg (fun z => h2 z.2), pd_lo, pd_z (by omega), pd_z (by omega), pd_z (by omega), pd_z (by omega), pd_k hn (by omega) (by omega), pd_k hn (by omega) (by omega), pd_k hn (by omega) (by omega), pd_k hn (by omega) (by omega)]
  · rw [if_neg (fun z => by simp at z; omega), pd_lo, pd_out (by omega) hn, pd_out (by omega) hn, pd_out (by omega) hn, pd_out (by omega) hn]
theorem pdG_0 {hi : Bool} {f F : Nat → Int32} {n : Nat} (hF : ∀ p, p < 64 * pd_blocks n → F p = if p < n then f p else nI 0) : ∀ p, p < 64 * pd_blocks n → upd F n (-128) p = pdG hi f n 0 p := by
  intro p hp
  have hb : n + 9 ≤ 64 * pd_blocks n := by unfold pd_blocks; omega
  unfold pdG
  rw [if_neg (by cases hi <;> simp <;> omega)]
  by_cases h1 : p = n
  · subst h1
    rw [pk_us, if_neg (by omega), if_pos rfl]
  · rw [pk_un h1, hF p hp, if_neg h1]
theorem pdG_s {f F : Nat → Int32} {n i : Nat} (hi : i < 8) (hF : ∀ p, p < 64 * pd_blocks n → F p = pdG true f n i p) : ∀ p, p < 64 * pd_blocks n → upd F (64 * pd_blocks n - 1 - i) (bq (8 * n) i) p = pdG true f n (i + 1) p := by
  intro p hp
  have hb : n + 9 ≤ 64 * pd_blocks n := by unfold pd_blocks; omega
  by_cases h1 : p = 64 * pd_blocks n - 1 - i
  · rw [h1, pk_us]
    unfold pdG
    rw [if_pos (by simp; omega)]
    simp only [if_true]
    congr 1
    omega
  · rw [pk_un h1, hF p hp]
    unfold pdG
    by_cases h2 : 64 * pd_blocks n - i ≤ p
    · simp only [if_true]
      rw [if_pos h2, if_pos (show 64 * pd_blocks n - (i + 1) ≤ p by omega)]
    · simp only [if_true]
      rw [if_neg h2, if_neg (show ¬ 64 * pd_blocks n - (i + 1) ≤ p by omega)]
theorem pdG_t {f F : Nat → Int32} {n i : Nat} (hi : i < 8) (hF : ∀ p, p < 64 * pd_blocks n → F p = pdG false f n i p) : ∀ p, p < 64 * pd_blocks n → upd F (64 * pd_blocks n - 8 + i) (bq (8 * n) i) p = pdG false f n (i + 1) p := by
  intro p hp
  have hb : n + 9 ≤ 64 * pd_blocks n := by unfold pd_blocks; omega
  by_cases h1 : p = 64 * pd_blocks n - 8 + i
  · rw [h1, pk_us]
    unfold pdG
    rw [if_pos (by simp)]
    simp only [Bool.false_eq_true, if_false]
    congr 1
    omega
  · rw [pk_un h1, hF p hp]
    unfold pdG
    by_cases h2 : 64 * pd_blocks n - 8 ≤ p ∧ p < 64 * pd_blocks n - 8 + i
    · simp only [Bool.false_eq_true, if_false]
      rw [if_pos h2, if_pos (show 64 * pd_blocks n - 8 ≤ p ∧ p < 64 * pd_blocks n - 8 + (i + 1) by omega)]
    · simp only [Bool.false_eq_true, if_false]
      rw [if_neg h2, if_neg (show ¬ (64 * pd_blocks n - 8 ≤ p ∧ p < 64 * pd_blocks n - 8 + (i + 1)) by omega)]
theorem pd_all (n : Nat) : (n + 9 + 63) / 64 = pd_blocks n := by unfold pd_blocks; omega
/-- the extension, word by word -/
theorem a32 (a b c : Int32) : a + b + c = a + (b + c) := Int32.add_assoc a b c
theorem sh_fr' {t : Nat → Int32} {x y : Int32} : t 7 + sh_v (t 4) + sh_ch (t 4) (t 5) (t 6) + x + y = sh_fresh t (x + y) := by
  unfold sh_fresh
  rw [a32 _ x y]
theorem sh_r0 {t : Nat → Int32} {x : Int32} : sh_fresh t x + (sh_u (t 0) + sh_mj (t 0) (t 1) (t 2)) = sh_rd t x 0 := by
  show _ = sh_fresh t x + sh_u (t 0) + sh_mj (t 0) (t 1) (t 2)
  rw [a32]
theorem rp_neg (s : Int32) : (nI 32 - s).toUInt32 &&& Int32.toUInt32 31 = (-s).toUInt32 &&& Int32.toUInt32 31 := by
  apply UInt32.toBitVec_inj.mp
  apply BitVec.eq_of_toNat_eq
  show ((BitVec.ofNat 32 32 - s.toBitVec) &&& 31#32).toNat = ((-s.toBitVec) &&& 31#32).toNat
  rw [BitVec.toNat_and, BitVec.toNat_and, show (31#32).toNat = 2 ^ 5 - 1 by decide, Nat.and_two_pow_sub_one_eq_mod, Nat.and_two_pow_sub_one_eq_mod, BitVec.toNat_sub, BitVec.toNat_neg, BitVec.toNat_ofNat]
  have := s.toBitVec.isLt
  omega
theorem rp_rot (x s : Int32) : (x <<< (s &&& 31)) ||| (x.toUInt32 >>> ((nI 32 - s).toUInt32 &&& Int32.toUInt32 31)).toInt32 = sh_rl x s := by
  unfold sh_rl sh_shl sh_ush
  rw [rp_neg]
theorem rp_r10 (x : Int32) : (x <<< (nI 10 &&& 31)) ||| (x.toUInt32 >>> ((nI 22).toUInt32 &&& Int32.toUInt32 31)).toInt32 = sh_rl x (nI 10) := by
  unfold sh_rl sh_shl sh_ush
  rw [show (nI 22).toUInt32 &&& Int32.toUInt32 31 = (-nI 10).toUInt32 &&& Int32.toUInt32 31 by decide]
