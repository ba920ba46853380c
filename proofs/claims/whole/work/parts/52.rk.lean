/-! the reference's places: each of its 408 places holds a thing -/
def upA (A : Nat → am_T) (p : Nat) (x : am_T) : Nat → am_T := fun q => if q = p then x else A q
theorem upA_s {A : Nat → am_T} {p : Nat} {x : am_T} : upA A p x p = x := if_pos rfl
theorem upA_n {A : Nat → am_T} {p q : Nat} {x : am_T} (h : q ≠ p) : upA A p x q = A q := if_neg h
def LM (A : Nat → am_T) : Nat → List am_T
  | 0 => []
  | d + 1 => A d :: LM A d
def LO (A : Nat → am_T) : Nat → List am_T
  | 0 => []
  | a + 1 => A (407 - a) :: LO A a
theorem LM_len {A : Nat → am_T} : ∀ {d : Nat}, (LM A d).length = d
  | 0 => rfl
  | d + 1 => by show (LM A d).length + 1 = _; rw [LM_len]
theorem LO_len {A : Nat → am_T} : ∀ {d : Nat}, (LO A d).length = d
  | 0 => rfl
  | d + 1 => by show (LO A d).length + 1 = _; rw [LO_len]
theorem LM_get {A : Nat → am_T} : ∀ {d j : Nat}, j < d → (LM A d).getD j [] = A (d - 1 - j)
  | d + 1, 0, _ => by show A d = _; simp
  | d + 1, j + 1, h => by
    show (LM A d).getD j [] = _
    rw [LM_get (by omega)]
    congr 1
    omega
theorem LM_drop {A : Nat → am_T} : ∀ {d j : Nat}, j ≤ d → (LM A d).drop j = LM A (d - j)
  | d, 0, _ => rfl
  | d + 1, j + 1, h => by
    show (LM A d).drop j = _
    rw [LM_drop (by omega)]
    congr 1
    omega
theorem LM_c {A B : Nat → am_T} : ∀ {d : Nat}, (∀ p, p < d → A p = B p) → LM A d = LM B d
  | 0, _ => rfl
  | d + 1, h => by
    show A d :: LM A d = B d :: LM B d
    rw [h d (by omega), LM_c (fun p hp => h p (by omega))]
theorem LO_c {A B : Nat → am_T} : ∀ {d : Nat}, (∀ i, i < d → A (407 - i) = B (407 - i)) → LO A d = LO B d
  | 0, _ => rfl
  | d + 1, h => by
    show A (407 - d) :: LO A d = B (407 - d) :: LO B d
    rw [h d (by omega), LO_c (fun p hp => h p (by omega))]
theorem LM_up {A : Nat → am_T} {d p : Nat} {x : am_T} (h : d ≤ p) : LM (upA A p x) d = LM A d := LM_c fun q hq => upA_n (by omega)
theorem LO_up {A : Nat → am_T} {d p : Nat} {x : am_T} (h : p + d < 408) : LO (upA A p x) d = LO A d := LO_c fun i hi => upA_n (by omega)
theorem LM_push {A : Nat → am_T} {d : Nat} {x : am_T} : LM (upA A d x) (d + 1) = x :: LM A d := by
  show upA A d x d :: LM (upA A d x) d = _
  rw [upA_s, LM_up (Nat.le_refl _)]
theorem LO_push {A : Nat → am_T} {d : Nat} {x : am_T} (h : d < 408) : LO (upA A (407 - d) x) (d + 1) = x :: LO A d := by
  show upA A (407 - d) x (407 - d) :: LO (upA A (407 - d) x) d = _
  rw [upA_s]
  congr 1
  exact LO_c fun i hi => upA_n (by omega)
theorem LO_get0 {A : Nat → am_T} {d : Nat} (h : 0 < d) : (LO A d).getD 0 [] = A (407 - (d - 1)) := by
  cases d with
  | zero => omega
  | succ d => rfl
theorem LO_drop1 {A : Nat → am_T} {d : Nat} (h : 0 < d) : (LO A d).drop 1 = LO A (d - 1) := by
  cases d with
  | zero => omega
  | succ d => rfl
/-- a list's places behind a take -/
def tkA (A : Nat → am_T) (dp k : Nat) : Nat → am_T := fun p => if p = dp ∨ p + 1 = dp then A (dp - k) else if dp - k ≤ p ∧ p + 1 < dp then A (p + 1) else A p
theorem LM_ext {A : Nat → am_T} {d : Nat} {l : List am_T} (hl : l.length = d) (h : ∀ j, j < d → l.getD j [] = A (d - 1 - j)) : l = LM A d := by
  apply List.ext_getElem
  · rw [hl, LM_len]
  · intro j h1 h2
    have e1 : l.getD j [] = l[j] := by simp [List.getD, h1]
    have e2 : (LM A d).getD j [] = (LM A d)[j] := by simp [List.getD, h2]
    rw [← e1, ← e2, h j (by omega), LM_get (by omega)]
theorem LM_erase {A : Nat → am_T} {dp k : Nat} (hk : 0 < k) (h : k ≤ dp) : LM (tkA A dp k) (dp - 1) = (LM A dp).eraseIdx (k - 1) := by
  symm
  apply LM_ext
  · rw [List.length_eraseIdx, LM_len, if_pos (by omega)]
  · intro j hj
    have e : tkA A dp k (dp - 1 - 1 - j) = if j < k - 1 then A (dp - 1 - j) else A (dp - 1 - (j + 1)) := by
      unfold tkA
      rw [if_neg (by omega)]
      by_cases hz : j < k - 1
      · rw [if_pos (show dp - k ≤ dp - 1 - 1 - j ∧ dp - 1 - 1 - j + 1 < dp by omega), if_pos hz]
        congr 1; omega
      · rw [if_neg (show ¬ (dp - k ≤ dp - 1 - 1 - j ∧ dp - 1 - 1 - j + 1 < dp) by omega), if_neg hz]
        congr 1; omega
    rw [e, List.getD_eq_getElem?_getD, List.getElem?_eraseIdx]
    by_cases hz : j < k - 1
    · rw [if_pos hz, if_pos hz, ← List.getD_eq_getElem?_getD, LM_get (by omega)]
    · rw [if_neg hz, if_neg hz, ← List.getD_eq_getElem?_getD, LM_get (by omega)]
theorem LM_take {A : Nat → am_T} {dp k : Nat} (hk : 0 < k) (h : k ≤ dp) : LM (tkA A dp k) dp = (LM A dp).getD (k - 1) [] :: (LM A dp).eraseIdx (k - 1) := by
  rw [← LM_erase hk h, LM_get (by omega)]
  obtain ⟨d, rfl⟩ : ∃ d, dp = d + 1 := ⟨dp - 1, by omega⟩
  show tkA A (d + 1) k d :: LM (tkA A (d + 1) k) d = _
  congr 1
  unfold tkA
  rw [if_pos (by omega)]
  congr 1; omega
theorem LO_tk {A : Nat → am_T} {dp k a : Nat} (h : dp + a < 408) : LO (tkA A dp k) a = LO A a := LO_c fun i hi => by
  unfold tkA
  rw [if_neg (by omega), if_neg (by omega)]
/-- a place's thing in the arrays -/
def TA (T Z : Nat → Int32) (p : Nat) (x : am_T) : Prop := Z p = nI x.length ∧ x.length ≤ 256 ∧ ∀ j, j < x.length → T (256 * p + j) = gb x j
theorem TA_cpy {G T Z : Nat → Int32} {A : Nat → am_T} {c sp : Nat} {x : am_T} (hx : x.length ≤ 256) (hG : ∀ j, j < x.length → G (sp + j) = gb x j) (h : ∀ p, p < 408 → TA T Z p (A p)) : ∀ p, p < 408 → TA (va_cpy G T sp (256 * c) x.length) (upd Z c (nI x.length)) p (upA A c x p) := by
  intro p hp
  by_cases hz : p = c
  · subst hz
    rw [upA_s]
    refine ⟨pk_us, hx, fun j hj => ?_⟩
    rw [pk_cpy_in (by omega) (by omega), show 256 * p + j - 256 * p = j by omega, hG j hj]
  · rw [upA_n hz]
    obtain ⟨h1, h2, h3⟩ := h p hp
    refine ⟨by rw [pk_un hz]; exact h1, h2, fun j hj => ?_⟩
    rw [pk_cpy_out (by omega)]
    exact h3 j hj
/-- one place anew, the others as they were -/
theorem TA_put {T T' Z : Nat → Int32} {A : Nat → am_T} {c : Nat} {x : am_T} (hx : x.length ≤ 256) (hG : ∀ j, j < x.length → T' (256 * c + j) = gb x j) (ho : ∀ q, q < 256 * c ∨ 256 * c + 256 ≤ q → T' q = T q) (h : ∀ p, p < 408 → TA T Z p (A p)) : ∀ p, p < 408 → TA T' (upd Z c (nI x.length)) p (upA A c x p) := by
  intro p hp
  by_cases hz : p = c
  · subst hz
    rw [upA_s]
    exact ⟨pk_us, hx, hG⟩
  · rw [upA_n hz]
    obtain ⟨h1, h2, h3⟩ := h p hp
    refine ⟨by rw [pk_un hz]; exact h1, h2, fun j hj => ?_⟩
    rw [ho _ (by omega)]
    exact h3 j hj
theorem nb_255 (x : Int32) : x.toInt64 &&& 255 = lN (ub x) := by
  obtain ⟨n, hn, e⟩ := wb_of x.toInt64
  have h2 : n % 256 = x.toBitVec.toNat % 256 := by
    have e1 : x.toInt64.toBitVec.toNat = n := by rw [e]; exact wb_tn hn
    have e2 : x.toInt64.toBitVec = x.toBitVec.signExtend 64 := Int32.toBitVec_toInt64 x
    rw [e2, BitVec.toNat_signExtend] at e1
    have h3 := x.toBitVec.isLt
    rw [BitVec.toNat_setWidth, Nat.mod_eq_of_lt (by omega)] at e1
    split at e1 <;> omega
  rw [e]
  show lN n &&& lN (2 ^ 8 - 1) = _
  rw [wb_mask hn (by decide)]
  unfold ub
  rw [← h2]
theorem nb_sar {n k : Nat} (hn : n < 2 ^ 63) (hk : k < 64) : lN n >>> ((nI k).toInt64 &&& 63) = lN (n / 2 ^ k) := by
  rw [wb_c k hk]
  apply wb_inj
  show (lN n).toBitVec.sshiftRight' ((lN k).toBitVec.smod 64) = _
  rw [wb_tb, wb_tb, wb_sm k hk, wb_tb]
  have hm : (BitVec.ofNat 64 n).msb = false := by
    rw [BitVec.msb_eq_decide, BitVec.toNat_ofNat]
    simp only [decide_eq_false_iff_not]
    omega
  show (BitVec.ofNat 64 n).sshiftRight (BitVec.ofNat 64 k).toNat = _
  rw [BitVec.sshiftRight_eq_of_msb_false hm, BitVec.toNat_ofNat, Nat.mod_eq_of_lt (by omega)]
  apply BitVec.eq_of_toNat_eq
  rw [BitVec.toNat_ushiftRight, BitVec.toNat_ofNat, BitVec.toNat_ofNat, Nat.mod_eq_of_lt (by omega), Nat.shiftRight_eq_div_pow]
  have := Nat.div_le_self n (2 ^ k)
  rw [Nat.mod_eq_of_lt (by omega)]
theorem nb_or {a b k : Nat} (hk : k ≤ 24) (ha : a < 2 ^ k) (hb : b < 256) : lN a ||| (lN b <<< ((nI k).toInt64 &&& 63)) = lN (a + b * 2 ^ k) := by
  have h2 : (2 : Nat) ^ k ≤ 2 ^ 24 := Nat.pow_le_pow_right (by decide) hk
  have h3 : b * 2 ^ k ≤ 255 * 2 ^ 24 := Nat.mul_le_mul (by omega) h2
  rw [wb_shl b (by omega)]
  exact g_or' (k := k) rfl ha (by omega)
theorem nb_clr {v k : Nat} (hk : k < 63) (h1 : 2 ^ k ≤ v) (h2 : v < 2 ^ (k + 1)) : lN v &&& ((1 <<< ((nI k).toInt64 &&& 63)) ^^^ (-1)) = lN (v - 2 ^ k) := by
  have e1 : (1 : Int64) <<< ((nI k).toInt64 &&& 63) = lN (2 ^ k) := by
    show lN 1 <<< _ = _
    rw [wb_shl 1 (by omega), Nat.one_mul]
  rw [e1]
  apply wb_inj
  apply BitVec.eq_of_getLsbD_eq
  intro i hi
  show ((BitVec.ofNat 64 v) &&& ((BitVec.ofNat 64 (2 ^ k)) ^^^ (-1#64))).getLsbD i = (BitVec.ofNat 64 (v - 2 ^ k)).getLsbD i
  rw [BitVec.getLsbD_and, BitVec.getLsbD_xor, BitVec.getLsbD_ofNat, BitVec.getLsbD_ofNat, BitVec.getLsbD_ofNat]
  have e2 : (-1#64).getLsbD i = true := by
    show (BitVec.allOnes 64).getLsbD i = true
    rw [BitVec.getLsbD_allOnes, decide_eq_true hi]
  rw [e2, Nat.testBit_two_pow]
  have e3 : v - 2 ^ k = v % 2 ^ k := by
    rw [Nat.pow_succ] at h2
    rw [Nat.mod_eq_sub_mod h1, Nat.mod_eq_of_lt (by omega)]
  rw [e3, Nat.testBit_mod_two_pow]
  simp only [hi, decide_true, Bool.true_and]
  by_cases h3 : i < k
  · have h4 : ¬ k = i := by omega
    simp [h3, h4]
  · by_cases h4 : k = i
    · simp [h4]
    · have h5 : v.testBit i = false := Nat.testBit_lt_two_pow (Nat.lt_of_lt_of_le h2 (Nat.pow_le_pow_right (by decide) (by omega)))
      simp [h5, h3]
theorem nb_top {f : Nat → Int32} {t : Nat} : th_low f (t + 1) / 2 ^ (8 * t + 7) % 2 = ub (f t) / 128 := by
  have h1 := th_low_lt f t
  have h2 := ub_lt (f t)
  show (th_low f t + ub (f t) * 2 ^ (8 * t)) / _ % 2 = _
  rw [Nat.pow_add, ← Nat.div_div_eq_div_mul, Nat.add_mul_div_right _ _ (Nat.two_pow_pos _), Nat.div_eq_of_lt h1]
  omega
theorem nb_mag {f : Nat → Int32} {t : Nat} (h : 128 ≤ ub (f t)) : th_low f (t + 1) - 2 ^ (8 * t + 7) = th_mag (t + 1) f ∧ 2 ^ (8 * t + 7) ≤ th_low f (t + 1) ∧ th_low f (t + 1) < 2 ^ (8 * t + 7 + 1) := by
  have h1 := th_low_lt f t
  have h2 := ub_lt (f t)
  have e : th_low f (t + 1) = th_low f t + ub (f t) * 2 ^ (8 * t) := rfl
  have e2 : th_mag (t + 1) f = th_low f t + ub (f t) % 128 * 2 ^ (8 * t) := rfl
  have e3 : ub (f t) % 128 = ub (f t) - 128 := by omega
  have e4 : (2 : Nat) ^ (8 * t + 7) = 128 * 2 ^ (8 * t) := by rw [Nat.pow_add, Nat.mul_comm]
  have e5 : (2 : Nat) ^ (8 * t + 7 + 1) = 256 * 2 ^ (8 * t) := by rw [show 8 * t + 7 + 1 = 8 * t + 8 by omega, Nat.pow_add, Nat.mul_comm]
  have e6 : (ub (f t) - 128) * 2 ^ (8 * t) = ub (f t) * 2 ^ (8 * t) - 128 * 2 ^ (8 * t) := Nat.sub_mul _ _ _
  have e7 : 128 * 2 ^ (8 * t) ≤ ub (f t) * 2 ^ (8 * t) := Nat.mul_le_mul_right _ h
  have e8 : ub (f t) * 2 ^ (8 * t) ≤ 255 * 2 ^ (8 * t) := Nat.mul_le_mul_right _ (by omega)
  rw [e, e2, e3, e4, e5, e6]
  omega
theorem nb_mag0 {f : Nat → Int32} {t : Nat} (h : ub (f t) < 128) : th_low f (t + 1) = th_mag (t + 1) f := by
  show th_low f t + ub (f t) * 2 ^ (8 * t) = th_low f t + ub (f t) % 128 * 2 ^ (8 * t)
  rw [Nat.mod_eq_of_lt h]
theorem th_low_c {f g : Nat → Int32} : ∀ {i : Nat}, (∀ j, j < i → f j = g j) → th_low f i = th_low g i
  | 0, _ => rfl
  | i + 1, h => by
    show th_low f i + ub (f i) * 2 ^ (8 * i) = th_low g i + ub (g i) * 2 ^ (8 * i)
    rw [th_low_c (fun j hj => h j (by omega)), h i (by omega)]
theorem th_num_c {f g : Nat → Int32} {m : Nat} (h : ∀ j, j < m → f j = g j) : th_num m f = th_num m g := by
  unfold th_num th_neg th_mag
  cases m with
  | zero => rfl
  | succ t => rw [show t + 1 - 1 = t by omega, h t (by omega), th_low_c (fun j hj => h j (by omega))]
theorem th_true_c {f g : Nat → Int32} {m : Nat} (h : ∀ j, j < m → f j = g j) : th_true m f = th_true m g := by
  unfold th_true th_p
  rw [Bool.eq_iff_iff, List.any_eq_true, List.any_eq_true]
  constructor
  · intro ⟨i, h1, h2⟩
    exact ⟨i, h1, by rw [← h i (List.mem_range.mp h1)]; exact h2⟩
  · intro ⟨i, h1, h2⟩
    exact ⟨i, h1, by rw [h i (List.mem_range.mp h1)]; exact h2⟩
theorem nb_128 {v : Int32} (h : -128 ≤ v.toInt ∧ v.toInt ≤ 127) : v = -128 ↔ ub v = 128 := by
  have e : (ub v : Int) = v.toInt % 256 := by
    unfold ub
    rw [← Int32.toInt_toBitVec, BitVec.toInt_eq_toNat_cond]
    have := v.toBitVec.isLt
    split <;> omega
  constructor
  · intro hv; subst hv; decide
  · intro hv
    apply Int32.toInt_inj.mp
    rw [show (-128 : Int32).toInt = -128 by decide]
    omega
theorem nb_f {v : Int32} (h : fits .byte (.int v) = true) : v = -128 ↔ ub v = 128 := by
  have h1 : (decide (-128 ≤ v) && decide (v ≤ 127)) = true := h
  rw [Bool.and_eq_true, decide_eq_true_eq, decide_eq_true_eq] at h1
  apply nb_128
  have e1 := Int32.le_iff_toInt_le.mp h1.1
  have e2 := Int32.le_iff_toInt_le.mp h1.2
  rw [show (-128 : Int32).toInt = -128 by decide] at e1
  rw [show (127 : Int32).toInt = 127 by decide] at e2
  exact ⟨e1, e2⟩
theorem nb_bq {r j : Nat} (hr : r < 2 ^ 40) (hj : j < 8) : bq r j = (lN (r / 2 ^ (8 * j))).toInt32.toInt8.toInt32 := by
  unfold bq
  rw [nb_sar (by omega) (by omega)]
theorem nb_nx {r i : Nat} (hr : r < 2 ^ 40) : lN (r / 2 ^ (8 * i)) >>> ((nI 8).toInt64 &&& 63) = lN (r / 2 ^ (8 * (i + 1))) := by
  have := Nat.div_le_self r (2 ^ (8 * i))
  rw [nb_sar (by omega) (by decide), show 8 * (i + 1) = 8 * i + 8 by omega, Nat.pow_add, Nat.div_div_eq_div_mul]
theorem nb_by (q : Nat) : (lN q).toInt32.toInt8.toInt32.toInt = if q % 256 < 128 then ((q % 256 : Nat) : Int) else ((q % 256 : Nat) : Int) - 256 := by
  rw [Int8.toInt_toInt32]
  rw [lN_i]
  show (nI q).toInt8.toInt = _
  rw [← Int8.toInt_toBitVec, Int32.toBitVec_toInt8]
  rw [BitVec.signExtend_eq_setWidth_of_le _ (by decide)]
  show (BitVec.setWidth 8 (BitVec.ofNat 32 q)).toInt = _
  rw [BitVec.toInt_eq_toNat_cond, BitVec.toNat_setWidth, BitVec.toNat_ofNat]
  have e : q % 2 ^ 32 % 2 ^ 8 = q % 256 := by omega
  rw [e]
  split <;> split <;> omega
theorem nb_sg {r j : Nat} (hr : r < 2 ^ 40) (hj : j < 8) : 0 ≤ bq r j ↔ r / 2 ^ (8 * j) % 256 < 128 := by
  rw [nb_bq hr hj, Int32.le_iff_toInt_le, nb_by]
  show (0 : Int) ≤ _ ↔ _
  split <;> omega
theorem nb_z {r i : Nat} (h : r / 2 ^ (8 * i) = 0) : r < 2 ^ (8 * i) := by
  rcases (Nat.div_eq_zero_iff).mp h with h1 | h1
  · exact absurd h1 (Nat.ne_of_gt (Nat.two_pow_pos _))
  · exact h1
theorem nb_bl1 {r i : Nat} (h1 : r < 2 ^ (8 * (i + 1))) (hi : i < 6) (h2 : 2 ^ (8 * i) ≤ r) (h3 : r / 2 ^ (8 * i) % 256 < 128) : bl r = i + 1 := by
  have h0 : r ≠ 0 := fun e => by rw [e] at h2; exact absurd h2 (Nat.not_le.mpr (Nat.two_pow_pos _))
  have e1 : r / 2 ^ (8 * i) < 256 := by
    rw [Nat.div_lt_iff_lt_mul (Nat.two_pow_pos _)]
    rw [show 8 * (i + 1) = 8 + 8 * i by omega, Nat.pow_add] at h1
    exact h1
  have e2 : r < 2 ^ (8 * i + 7) := by
    rw [Nat.mod_eq_of_lt e1, Nat.div_lt_iff_lt_mul (Nat.two_pow_pos _)] at h3
    rw [Nat.pow_add, Nat.mul_comm]
    exact h3
  have a1 : ¬ Nat.log2 r < 8 * i := fun h => absurd ((Nat.log2_lt h0).mp h) (Nat.not_lt.mpr h2)
  have a2 : Nat.log2 r < 8 * i + 7 := (Nat.log2_lt h0).mpr e2
  unfold bl
  rw [if_neg h0]
  omega
theorem nb_bl2 {r i : Nat} (h1 : r < 2 ^ (8 * (i + 1))) (hi : i < 6) (h2 : 2 ^ (8 * i) ≤ r) (h3 : ¬ r / 2 ^ (8 * i) % 256 < 128) : bl r = i + 2 := by
  have h0 : r ≠ 0 := fun e => by rw [e] at h2; exact absurd h2 (Nat.not_le.mpr (Nat.two_pow_pos _))
  have e1 : r / 2 ^ (8 * i) < 256 := by
    rw [Nat.div_lt_iff_lt_mul (Nat.two_pow_pos _)]
    rw [show 8 * (i + 1) = 8 + 8 * i by omega, Nat.pow_add] at h1
    exact h1
  have e2 : 2 ^ (8 * i + 7) ≤ r := by
    rw [Nat.mod_eq_of_lt e1, Nat.div_lt_iff_lt_mul (Nat.two_pow_pos _)] at h3
    rw [Nat.pow_add, Nat.mul_comm]
    omega
  have a1 : ¬ Nat.log2 r < 8 * i + 7 := fun h => absurd ((Nat.log2_lt h0).mp h) (Nat.not_lt.mpr e2)
  have a2 : Nat.log2 r < 8 * (i + 1) := (Nat.log2_lt h0).mpr h1
  unfold bl
  rw [if_neg h0]
  omega
