section XOP
variable {A : Nat → am_T} {dp as_ k : Nat} {b : List Bool}
theorem g0 (h : 1 ≤ dp) : (LM A dp).getD 0 [] = A (dp - 1) := by rw [LM_get (by omega)]; rfl
theorem g1 (h : 2 ≤ dp) : (LM A dp).getD 1 [] = A (dp - 2) := by rw [LM_get (by omega)]; congr 1
theorem g2 (h : 3 ≤ dp) : (LM A dp).getD 2 [] = A (dp - 3) := by rw [LM_get (by omega)]; congr 1
theorem xf105 (h : ¬ 1 ≤ dp) : am_op 105 (LM A dp) (LO A as_) b k = none := by
  unfold am_op; rw [if_neg (by decide), if_pos (by decide)]; unfold a_arr; rw [if_pos (show (LM A dp).length < cd_needs 105 by rw [LM_len]; exact Nat.not_le.mp h)]
theorem xf107 (h : ¬ 1 ≤ dp) : am_op 107 (LM A dp) (LO A as_) b k = none := by
  unfold am_op; rw [if_neg (by decide), if_pos (by decide)]; unfold a_arr; rw [if_pos (show (LM A dp).length < cd_needs 107 by rw [LM_len]; exact Nat.not_le.mp h)]
theorem xf109 (h : ¬ 2 ≤ dp) : am_op 109 (LM A dp) (LO A as_) b k = none := by
  unfold am_op; rw [if_neg (by decide), if_pos (by decide)]; unfold a_arr; rw [if_pos (show (LM A dp).length < cd_needs 109 by rw [LM_len]; exact Nat.not_le.mp h)]
theorem xf110 (h : ¬ 2 ≤ dp) : am_op 110 (LM A dp) (LO A as_) b k = none := by
  unfold am_op; rw [if_neg (by decide), if_pos (by decide)]; unfold a_arr; rw [if_pos (show (LM A dp).length < cd_needs 110 by rw [LM_len]; exact Nat.not_le.mp h)]
theorem xf115 (h : ¬ 1 ≤ dp) : am_op 115 (LM A dp) (LO A as_) b k = none := by
  unfold am_op; rw [if_neg (by decide), if_pos (by decide)]; unfold a_arr; rw [if_pos (show (LM A dp).length < cd_needs 115 by rw [LM_len]; exact Nat.not_le.mp h)]
theorem xf117 (h : ¬ 1 ≤ dp) : am_op 117 (LM A dp) (LO A as_) b k = none := by
  unfold am_op; rw [if_neg (by decide), if_pos (by decide)]; unfold a_arr; rw [if_pos (show (LM A dp).length < cd_needs 117 by rw [LM_len]; exact Nat.not_le.mp h)]
theorem xf118 (h : ¬ 1 ≤ dp) : am_op 118 (LM A dp) (LO A as_) b k = none := by
  unfold am_op; rw [if_neg (by decide), if_pos (by decide)]; unfold a_arr; rw [if_pos (show (LM A dp).length < cd_needs 118 by rw [LM_len]; exact Nat.not_le.mp h)]
theorem xf119 (h : ¬ 2 ≤ dp) : am_op 119 (LM A dp) (LO A as_) b k = none := by
  unfold am_op; rw [if_neg (by decide), if_pos (by decide)]; unfold a_arr; rw [if_pos (show (LM A dp).length < cd_needs 119 by rw [LM_len]; exact Nat.not_le.mp h)]
theorem xf120 (h : ¬ 2 ≤ dp) : am_op 120 (LM A dp) (LO A as_) b k = none := by
  unfold am_op; rw [if_neg (by decide), if_pos (by decide)]; unfold a_arr; rw [if_pos (show (LM A dp).length < cd_needs 120 by rw [LM_len]; exact Nat.not_le.mp h)]
theorem xf121 (h : ¬ 2 ≤ dp) : am_op 121 (LM A dp) (LO A as_) b k = none := by
  unfold am_op; rw [if_neg (by decide), if_pos (by decide)]; unfold a_arr; rw [if_pos (show (LM A dp).length < cd_needs 121 by rw [LM_len]; exact Nat.not_le.mp h)]
theorem xf122 (h : ¬ 2 ≤ dp) : am_op 122 (LM A dp) (LO A as_) b k = none := by
  unfold am_op; rw [if_neg (by decide), if_pos (by decide)]; unfold a_arr; rw [if_pos (show (LM A dp).length < cd_needs 122 by rw [LM_len]; exact Nat.not_le.mp h)]
theorem xf123 (h : ¬ 3 ≤ dp) : am_op 123 (LM A dp) (LO A as_) b k = none := by
  unfold am_op; rw [if_neg (by decide), if_pos (by decide)]; unfold a_arr; rw [if_pos (show (LM A dp).length < cd_needs 123 by rw [LM_len]; exact Nat.not_le.mp h)]
theorem xf124 (h : ¬ 2 ≤ dp) : am_op 124 (LM A dp) (LO A as_) b k = none := by
  unfold am_op; rw [if_neg (by decide), if_pos (by decide)]; unfold a_arr; rw [if_pos (show (LM A dp).length < cd_needs 124 by rw [LM_len]; exact Nat.not_le.mp h)]
theorem xf125 (h : ¬ 2 ≤ dp) : am_op 125 (LM A dp) (LO A as_) b k = none := by
  unfold am_op; rw [if_neg (by decide), if_pos (by decide)]; unfold a_arr; rw [if_pos (show (LM A dp).length < cd_needs 125 by rw [LM_len]; exact Nat.not_le.mp h)]
theorem xf130 (h : ¬ 1 ≤ dp) : am_op 130 (LM A dp) (LO A as_) b k = none := by
  unfold am_op; rw [if_neg (by decide), if_pos (by decide)]; unfold a_arr; rw [if_pos (show (LM A dp).length < cd_needs 130 by rw [LM_len]; exact Nat.not_le.mp h)]
theorem xf135 (h : ¬ 2 ≤ dp) : am_op 135 (LM A dp) (LO A as_) b k = none := by
  unfold am_op; rw [if_neg (by decide), if_neg (by decide), if_pos (by decide)]; unfold a_cmp; rw [if_pos (by rw [LM_len]; exact h)]
theorem xf136 (h : ¬ 2 ≤ dp) : am_op 136 (LM A dp) (LO A as_) b k = none := by
  unfold am_op; rw [if_neg (by decide), if_neg (by decide), if_pos (by decide)]; unfold a_cmp; rw [if_pos (by rw [LM_len]; exact h)]
theorem xf166 (h : ¬ 1 ≤ dp) : am_op 166 (LM A dp) (LO A as_) b k = none := by
  unfold am_op; rw [if_neg (by decide), if_neg (by decide), if_neg (by decide), if_neg (by decide), if_neg (by decide), if_neg (by decide), if_neg (by decide), if_pos (by decide)]; unfold a_sum; rw [if_pos (by rw [LM_len]; omega)]
theorem xf168 (h : ¬ 1 ≤ dp) : am_op 168 (LM A dp) (LO A as_) b k = none := by
  unfold am_op; rw [if_neg (by decide), if_neg (by decide), if_neg (by decide), if_neg (by decide), if_neg (by decide), if_neg (by decide), if_neg (by decide), if_pos (by decide)]; unfold a_sum; rw [if_pos (by rw [LM_len]; omega)]
theorem xf169 (h : ¬ 1 ≤ dp) : am_op 169 (LM A dp) (LO A as_) b k = none := by
  unfold am_op; rw [if_neg (by decide), if_neg (by decide), if_neg (by decide), if_neg (by decide), if_neg (by decide), if_neg (by decide), if_neg (by decide), if_pos (by decide)]; unfold a_sum; rw [if_pos (by rw [LM_len]; omega)]
theorem xf170 (h : ¬ 1 ≤ dp) : am_op 170 (LM A dp) (LO A as_) b k = none := by
  unfold am_op; rw [if_neg (by decide), if_neg (by decide), if_neg (by decide), if_neg (by decide), if_neg (by decide), if_neg (by decide), if_neg (by decide), if_pos (by decide)]; unfold a_sum; rw [if_pos (by rw [LM_len]; omega)]
theorem xf172 (h : ¬ 2 ≤ dp) : am_op 172 (LM A dp) (LO A as_) b k = none := by
  unfold am_op; rw [if_neg (by decide), if_neg (by decide), if_neg (by decide), if_neg (by decide), if_neg (by decide), if_neg (by decide), if_neg (by decide), if_neg (by decide)]; unfold a_sig; rw [if_pos rfl, if_neg (by rw [LM_len]; exact h)]
theorem x97  : am_op 97 (LM A dp) (LO A as_) b k = some (LM A dp, LO A as_, b, k) := by
  unfold am_op; rw [if_neg (by decide), if_pos (by decide)]; unfold a_arr; rw [if_neg (Nat.not_lt.mpr (show cd_needs 97 ≤ (LM A dp).length by rw [LM_len]; exact (Nat.zero_le _))), if_pos rfl]
theorem x105 (h : 1 ≤ dp) : am_op 105 (LM A dp) (LO A as_) b k = if am_true (A (dp - 1)) = true then some (LM A (dp - 1), LO A as_, b, k) else none := by
  unfold am_op; rw [if_neg (by decide), if_pos (by decide)]; unfold a_arr; rw [if_neg (Nat.not_lt.mpr (show cd_needs 105 ≤ (LM A dp).length by rw [LM_len]; exact h)), if_neg (by decide), if_pos rfl]
  rw [g0 h, LM_drop h]
theorem x107 (h : 1 ≤ dp) (ha : dp + as_ ≤ 204) : am_op 107 (LM A dp) (LO A as_) b k = some (LM (upA A (407 - as_) (A (dp - 1))) (dp - 1), LO (upA A (407 - as_) (A (dp - 1))) (as_ + 1), b, k) := by
  unfold am_op; rw [if_neg (by decide), if_pos (by decide)]; unfold a_arr; rw [if_neg (Nat.not_lt.mpr (show cd_needs 107 ≤ (LM A dp).length by rw [LM_len]; exact h)), if_neg (by decide), if_neg (by decide), if_pos rfl]
  rw [g0 h, LM_drop h, LM_up (by omega), LO_push (by omega)]
theorem xf108 (h : ¬ 0 < as_) : am_op 108 (LM A dp) (LO A as_) b k = none := by
  unfold am_op; rw [if_neg (by decide), if_pos (by decide)]; unfold a_arr; rw [if_neg (Nat.not_lt.mpr (show cd_needs 108 ≤ (LM A dp).length by rw [LM_len]; exact (Nat.zero_le _))), if_neg (by decide), if_neg (by decide), if_neg (by decide), if_pos rfl]
  rw [if_neg (by rw [LO_len]; exact h)]
theorem x108 (h : 0 < as_) (ha : dp + as_ ≤ 204) : am_op 108 (LM A dp) (LO A as_) b k = some (LM (upA A dp (A (407 - (as_ - 1)))) (dp + 1), LO (upA A dp (A (407 - (as_ - 1)))) (as_ - 1), b, k) := by
  unfold am_op; rw [if_neg (by decide), if_pos (by decide)]; unfold a_arr; rw [if_neg (Nat.not_lt.mpr (show cd_needs 108 ≤ (LM A dp).length by rw [LM_len]; exact (Nat.zero_le _))), if_neg (by decide), if_neg (by decide), if_neg (by decide), if_pos rfl]
  rw [if_pos (by rw [LO_len]; exact h), LO_get0 h, LO_drop1 h, LM_push, LO_up (by omega)]
theorem x109 (h : 2 ≤ dp) : am_op 109 (LM A dp) (LO A as_) b k = some (LM A (dp - 2), LO A as_, b, k) := by
  unfold am_op; rw [if_neg (by decide), if_pos (by decide)]; unfold a_arr; rw [if_neg (Nat.not_lt.mpr (show cd_needs 109 ≤ (LM A dp).length by rw [LM_len]; exact h)), if_neg (by decide), if_neg (by decide), if_neg (by decide), if_neg (by decide), if_pos rfl]
  rw [LM_drop h]
theorem x110 (h : 2 ≤ dp) (ha : dp + as_ ≤ 204) : am_op 110 (LM A dp) (LO A as_) b k = some (LM (upA (upA A dp (A (dp - 2))) (dp + 1) ((upA A dp (A (dp - 2))) (dp + 1 - 2))) (dp + 1 + 1), LO (upA (upA A dp (A (dp - 2))) (dp + 1) ((upA A dp (A (dp - 2))) (dp + 1 - 2))) as_, b, k) := by
  unfold am_op; rw [if_neg (by decide), if_pos (by decide)]; unfold a_arr; rw [if_neg (Nat.not_lt.mpr (show cd_needs 110 ≤ (LM A dp).length by rw [LM_len]; exact h)), if_neg (by decide), if_neg (by decide), if_neg (by decide), if_neg (by decide), if_neg (by decide), if_pos rfl]
  rw [g0 (by omega), g1 h, LM_push, LM_push, LO_up (by omega), LO_up (by omega), upA_n (by omega), show dp + 1 - 2 = dp - 1 by omega]
theorem x115t (h : 1 ≤ dp) (ha : dp + as_ ≤ 204) (ht : am_true (A (dp - 1)) = true) : am_op 115 (LM A dp) (LO A as_) b k = some (LM (upA A dp (A (dp - 1))) (dp + 1), LO (upA A dp (A (dp - 1))) as_, b, k) := by
  unfold am_op; rw [if_neg (by decide), if_pos (by decide)]; unfold a_arr; rw [if_neg (Nat.not_lt.mpr (show cd_needs 115 ≤ (LM A dp).length by rw [LM_len]; exact h)), if_neg (by decide), if_neg (by decide), if_neg (by decide), if_neg (by decide), if_neg (by decide), if_neg (by decide), if_pos rfl]
  rw [g0 h, if_pos ht, LM_push, LO_up (by omega)]
theorem x115f (h : 1 ≤ dp) (ht : am_true (A (dp - 1)) = false) : am_op 115 (LM A dp) (LO A as_) b k = some (LM A dp, LO A as_, b, k) := by
  unfold am_op; rw [if_neg (by decide), if_pos (by decide)]; unfold a_arr; rw [if_neg (Nat.not_lt.mpr (show cd_needs 115 ≤ (LM A dp).length by rw [LM_len]; exact h)), if_neg (by decide), if_neg (by decide), if_neg (by decide), if_neg (by decide), if_neg (by decide), if_neg (by decide), if_pos rfl]
  rw [g0 h, if_neg (by rw [ht]; decide)]
theorem x116 (ha : dp + as_ ≤ 204) : am_op 116 (LM A dp) (LO A as_) b k = some (LM (upA A dp (am_of (lN dp))) (dp + 1), LO (upA A dp (am_of (lN dp))) as_, b, k) := by
  unfold am_op; rw [if_neg (by decide), if_pos (by decide)]; unfold a_arr; rw [if_neg (Nat.not_lt.mpr (show cd_needs 116 ≤ (LM A dp).length by rw [LM_len]; exact (Nat.zero_le _))), if_neg (by decide), if_neg (by decide), if_neg (by decide), if_neg (by decide), if_neg (by decide), if_neg (by decide), if_neg (by decide), if_pos rfl]
  rw [LM_push, LO_up (by omega), LM_len]
theorem x117 (h : 1 ≤ dp) : am_op 117 (LM A dp) (LO A as_) b k = some (LM A (dp - 1), LO A as_, b, k) := by
  unfold am_op; rw [if_neg (by decide), if_pos (by decide)]; unfold a_arr; rw [if_neg (Nat.not_lt.mpr (show cd_needs 117 ≤ (LM A dp).length by rw [LM_len]; exact h)), if_neg (by decide), if_neg (by decide), if_neg (by decide), if_neg (by decide), if_neg (by decide), if_neg (by decide), if_neg (by decide), if_neg (by decide), if_pos rfl]
  rw [LM_drop h]
theorem x118 (h : 1 ≤ dp) (ha : dp + as_ ≤ 204) : am_op 118 (LM A dp) (LO A as_) b k = some (LM (upA A dp (A (dp - 1))) (dp + 1), LO (upA A dp (A (dp - 1))) as_, b, k) := by
  unfold am_op; rw [if_neg (by decide), if_pos (by decide)]; unfold a_arr; rw [if_neg (Nat.not_lt.mpr (show cd_needs 118 ≤ (LM A dp).length by rw [LM_len]; exact h)), if_neg (by decide), if_neg (by decide), if_neg (by decide), if_neg (by decide), if_neg (by decide), if_neg (by decide), if_neg (by decide), if_neg (by decide), if_neg (by decide), if_pos rfl]
  rw [g0 h, LM_push, LO_up (by omega)]
theorem x119 (h : 2 ≤ dp) (ha : dp + as_ ≤ 204) : am_op 119 (LM A dp) (LO A as_) b k = some (LM (tkA A dp 2) (dp - 1), LO (tkA A dp 2) as_, b, k) := by
  unfold am_op; rw [if_neg (by decide), if_pos (by decide)]; unfold a_arr; rw [if_neg (Nat.not_lt.mpr (show cd_needs 119 ≤ (LM A dp).length by rw [LM_len]; exact h)), if_neg (by decide), if_neg (by decide), if_neg (by decide), if_neg (by decide), if_neg (by decide), if_neg (by decide), if_neg (by decide), if_neg (by decide), if_neg (by decide), if_neg (by decide), if_pos rfl]
  rw [LM_erase (by omega) h, LO_tk (by omega)]
theorem x120 (h : 2 ≤ dp) (ha : dp + as_ ≤ 204) : am_op 120 (LM A dp) (LO A as_) b k = some (LM (upA A dp (A (dp - 2))) (dp + 1), LO (upA A dp (A (dp - 2))) as_, b, k) := by
  unfold am_op; rw [if_neg (by decide), if_pos (by decide)]; unfold a_arr; rw [if_neg (Nat.not_lt.mpr (show cd_needs 120 ≤ (LM A dp).length by rw [LM_len]; exact h)), if_neg (by decide), if_neg (by decide), if_neg (by decide), if_neg (by decide), if_neg (by decide), if_neg (by decide), if_neg (by decide), if_neg (by decide), if_neg (by decide), if_neg (by decide), if_neg (by decide), if_pos rfl]
  rw [g1 h, LM_push, LO_up (by omega)]
theorem x123 (h : 3 ≤ dp) (ha : dp + as_ ≤ 204) : am_op 123 (LM A dp) (LO A as_) b k = some (LM (tkA A dp 3) dp, LO (tkA A dp 3) as_, b, k) := by
  unfold am_op; rw [if_neg (by decide), if_pos (by decide)]; unfold a_arr; rw [if_neg (Nat.not_lt.mpr (show cd_needs 123 ≤ (LM A dp).length by rw [LM_len]; exact h)), if_neg (by decide), if_neg (by decide), if_neg (by decide), if_neg (by decide), if_neg (by decide), if_neg (by decide), if_neg (by decide), if_neg (by decide), if_neg (by decide), if_neg (by decide), if_neg (by decide), if_neg (by decide), if_neg (by decide), if_neg (by decide), if_pos rfl]
  rw [LM_take (by omega) h, LO_tk (by omega)]
theorem x124 (h : 2 ≤ dp) (ha : dp + as_ ≤ 204) : am_op 124 (LM A dp) (LO A as_) b k = some (LM (tkA A dp 2) dp, LO (tkA A dp 2) as_, b, k) := by
  unfold am_op; rw [if_neg (by decide), if_pos (by decide)]; unfold a_arr; rw [if_neg (Nat.not_lt.mpr (show cd_needs 124 ≤ (LM A dp).length by rw [LM_len]; exact h)), if_neg (by decide), if_neg (by decide), if_neg (by decide), if_neg (by decide), if_neg (by decide), if_neg (by decide), if_neg (by decide), if_neg (by decide), if_neg (by decide), if_neg (by decide), if_neg (by decide), if_neg (by decide), if_neg (by decide), if_neg (by decide), if_neg (by decide), if_pos rfl]
  rw [LM_take (by omega) h, LO_tk (by omega)]
theorem x125 (h : 2 ≤ dp) (ha : dp + as_ ≤ 204) : am_op 125 (LM A dp) (LO A as_) b k = some (LM (upA (upA (upA A dp (A (dp - 1))) (dp - 1) ((upA A dp (A (dp - 1))) (dp - 2))) (dp - 2) ((upA (upA A dp (A (dp - 1))) (dp - 1) ((upA A dp (A (dp - 1))) (dp - 2))) dp)) (dp + 1), LO (upA (upA (upA A dp (A (dp - 1))) (dp - 1) ((upA A dp (A (dp - 1))) (dp - 2))) (dp - 2) ((upA (upA A dp (A (dp - 1))) (dp - 1) ((upA A dp (A (dp - 1))) (dp - 2))) dp)) as_, b, k) := by
  unfold am_op; rw [if_neg (by decide), if_pos (by decide)]; unfold a_arr; rw [if_neg (Nat.not_lt.mpr (show cd_needs 125 ≤ (LM A dp).length by rw [LM_len]; exact h)), if_neg (by decide), if_neg (by decide), if_neg (by decide), if_neg (by decide), if_neg (by decide), if_neg (by decide), if_neg (by decide), if_neg (by decide), if_neg (by decide), if_neg (by decide), if_neg (by decide), if_neg (by decide), if_neg (by decide), if_neg (by decide), if_neg (by decide), if_neg (by decide), if_pos rfl]
  rw [g0 (by omega), g1 h, LO_up (by omega), LO_up (by omega), LO_up (by omega)]
  congr 2
  obtain ⟨d, rfl⟩ : ∃ d, dp = d + 2 := ⟨dp - 2, by omega⟩
  show _ = _ :: _ :: _ :: LM _ d
  rw [LM_up (by omega), LM_up (by omega), LM_up (by omega)]
  show A (d + 1) :: A d :: A (d + 1) :: LM A d = _
  simp [upA]
theorem x130 (h : 1 ≤ dp) (ha : dp + as_ ≤ 204) : am_op 130 (LM A dp) (LO A as_) b k = some (LM (upA A dp (am_of (lN (A (dp - 1)).length))) (dp + 1), LO (upA A dp (am_of (lN (A (dp - 1)).length))) as_, b, k) := by
  unfold am_op; rw [if_neg (by decide), if_pos (by decide)]; unfold a_arr; rw [if_neg (Nat.not_lt.mpr (show cd_needs 130 ≤ (LM A dp).length by rw [LM_len]; exact h)), if_neg (by decide), if_neg (by decide), if_neg (by decide), if_neg (by decide), if_neg (by decide), if_neg (by decide), if_neg (by decide), if_neg (by decide), if_neg (by decide), if_neg (by decide), if_neg (by decide), if_neg (by decide), if_neg (by decide), if_neg (by decide), if_neg (by decide), if_neg (by decide), if_neg (by decide), if_pos rfl]
  rw [g0 h, LM_push, LO_up (by omega)]
theorem xfn {c : Nat} (hc : c = 121 ∨ c = 122) (h : 2 ≤ dp) (hn : am_cnt (LM A dp) 0 (dp - 2) = none) : am_op c (LM A dp) (LO A as_) b k = none := by
  rcases hc with rfl | rfl
  · unfold am_op; rw [if_neg (by decide), if_pos (by decide)]; unfold a_arr; rw [if_neg (Nat.not_lt.mpr (show cd_needs 121 ≤ (LM A dp).length by rw [LM_len]; exact h)), if_neg (by decide), if_neg (by decide), if_neg (by decide), if_neg (by decide), if_neg (by decide), if_neg (by decide), if_neg (by decide), if_neg (by decide), if_neg (by decide), if_neg (by decide), if_neg (by decide), if_neg (by decide), if_pos rfl]; unfold a_fetch; rw [LM_len, hn]
  · unfold am_op; rw [if_neg (by decide), if_pos (by decide)]; unfold a_arr; rw [if_neg (Nat.not_lt.mpr (show cd_needs 122 ≤ (LM A dp).length by rw [LM_len]; exact h)), if_neg (by decide), if_neg (by decide), if_neg (by decide), if_neg (by decide), if_neg (by decide), if_neg (by decide), if_neg (by decide), if_neg (by decide), if_neg (by decide), if_neg (by decide), if_neg (by decide), if_neg (by decide), if_neg (by decide), if_pos rfl]; unfold a_fetch; rw [LM_len, hn]
theorem x121 {j : Nat} (h : 2 ≤ dp) (ha : dp + as_ ≤ 204) (hn : am_cnt (LM A dp) 0 (dp - 2) = some j) (hj : j ≤ dp - 2) : am_op 121 (LM A dp) (LO A as_) b k = some (LM (upA A (dp - 1) (A (dp - 1 - (j + 1)))) (dp - 1 + 1), LO (upA A (dp - 1) (A (dp - 1 - (j + 1)))) as_, b, k) := by
  unfold am_op; rw [if_neg (by decide), if_pos (by decide)]; unfold a_arr; rw [if_neg (Nat.not_lt.mpr (show cd_needs 121 ≤ (LM A dp).length by rw [LM_len]; exact h)), if_neg (by decide), if_neg (by decide), if_neg (by decide), if_neg (by decide), if_neg (by decide), if_neg (by decide), if_neg (by decide), if_neg (by decide), if_neg (by decide), if_neg (by decide), if_neg (by decide), if_neg (by decide), if_pos rfl]; unfold a_fetch; rw [LM_len, hn]
  simp only [Bool.false_eq_true, if_false]
  rw [LM_push, LO_up (by omega), LM_drop (by omega), LM_get (by omega), show dp - 1 - 1 - j = dp - 1 - (j + 1) by omega]
theorem x122 {j : Nat} (h : 2 ≤ dp) (ha : dp + as_ ≤ 204) (hn : am_cnt (LM A dp) 0 (dp - 2) = some j) (hj : j ≤ dp - 2) : am_op 122 (LM A dp) (LO A as_) b k = some (LM (tkA A (dp - 1) (j + 1)) (dp - 1), LO (tkA A (dp - 1) (j + 1)) as_, b, k) := by
  unfold am_op; rw [if_neg (by decide), if_pos (by decide)]; unfold a_arr; rw [if_neg (Nat.not_lt.mpr (show cd_needs 122 ≤ (LM A dp).length by rw [LM_len]; exact h)), if_neg (by decide), if_neg (by decide), if_neg (by decide), if_neg (by decide), if_neg (by decide), if_neg (by decide), if_neg (by decide), if_neg (by decide), if_neg (by decide), if_neg (by decide), if_neg (by decide), if_neg (by decide), if_neg (by decide), if_pos rfl]; unfold a_fetch; rw [LM_len, hn]
  simp only [if_true]
  rw [LM_take (by omega) (by omega), LO_tk (by omega), LM_drop (by omega)]; rfl
theorem x135 (h : 2 ≤ dp) (ha : dp + as_ ≤ 204) : am_op 135 (LM A dp) (LO A as_) b k = some (LM (upA A (dp - 2) (am_bt (decide (A (dp - 1) = A (dp - 2))))) (dp - 2 + 1), LO (upA A (dp - 2) (am_bt (decide (A (dp - 1) = A (dp - 2))))) as_, b, k) := by
  unfold am_op; rw [if_neg (by decide), if_neg (by decide), if_pos (by decide)]; unfold a_cmp; rw [if_neg (by rw [LM_len]; omega), if_pos rfl, g0 (by omega), g1 h, LM_drop h, LM_push, LO_up (by omega)]; rfl
theorem x136 (h : 2 ≤ dp) : am_op 136 (LM A dp) (LO A as_) b k = if decide (A (dp - 1) = A (dp - 2)) = true then some (LM A (dp - 2), LO A as_, b, k) else none := by
  unfold am_op; rw [if_neg (by decide), if_neg (by decide), if_pos (by decide)]; unfold a_cmp; rw [if_neg (by rw [LM_len]; omega), if_neg (by decide), if_pos rfl, g0 (by omega), g1 h, LM_drop h]
theorem x166 (h : 1 ≤ dp) (ha : dp + as_ ≤ 204) : am_op 166 (LM A dp) (LO A as_) b k = some (LM (upA A (dp - 1) (am_rip (A (dp - 1)))) (dp - 1 + 1), LO (upA A (dp - 1) (am_rip (A (dp - 1)))) as_, b, k) := by
  unfold am_op; rw [if_neg (by decide), if_neg (by decide), if_neg (by decide), if_neg (by decide), if_neg (by decide), if_neg (by decide), if_neg (by decide), if_pos (by decide)]; unfold a_sum; rw [if_neg (by rw [LM_len]; omega), if_pos rfl, g0 h, LM_drop h, LM_push, LO_up (by omega)]
theorem x168 (h : 1 ≤ dp) (ha : dp + as_ ≤ 204) : am_op 168 (LM A dp) (LO A as_) b k = some (LM (upA A (dp - 1) (am_sha (A (dp - 1)))) (dp - 1 + 1), LO (upA A (dp - 1) (am_sha (A (dp - 1)))) as_, b, k) := by
  unfold am_op; rw [if_neg (by decide), if_neg (by decide), if_neg (by decide), if_neg (by decide), if_neg (by decide), if_neg (by decide), if_neg (by decide), if_pos (by decide)]; unfold a_sum; rw [if_neg (by rw [LM_len]; omega), if_neg (by decide), if_pos rfl, g0 h, LM_drop h, LM_push, LO_up (by omega)]
theorem x169 (h : 1 ≤ dp) (ha : dp + as_ ≤ 204) : am_op 169 (LM A dp) (LO A as_) b k = some (LM (upA A (dp - 1) (am_rip (am_sha (A (dp - 1))))) (dp - 1 + 1), LO (upA A (dp - 1) (am_rip (am_sha (A (dp - 1))))) as_, b, k) := by
  unfold am_op; rw [if_neg (by decide), if_neg (by decide), if_neg (by decide), if_neg (by decide), if_neg (by decide), if_neg (by decide), if_neg (by decide), if_pos (by decide)]; unfold a_sum; rw [if_neg (by rw [LM_len]; omega), if_neg (by decide), if_neg (by decide), if_pos rfl, g0 h, LM_drop h, LM_push, LO_up (by omega)]
theorem x170 (h : 1 ≤ dp) (ha : dp + as_ ≤ 204) : am_op 170 (LM A dp) (LO A as_) b k = some (LM (upA A (dp - 1) (am_sha (am_sha (A (dp - 1))))) (dp - 1 + 1), LO (upA A (dp - 1) (am_sha (am_sha (A (dp - 1))))) as_, b, k) := by
  unfold am_op; rw [if_neg (by decide), if_neg (by decide), if_neg (by decide), if_neg (by decide), if_neg (by decide), if_neg (by decide), if_neg (by decide), if_pos (by decide)]; unfold a_sum; rw [if_neg (by rw [LM_len]; omega), if_neg (by decide), if_neg (by decide), if_neg (by decide), if_pos rfl, g0 h, LM_drop h, LM_push, LO_up (by omega)]
theorem x172 (h : 2 ≤ dp) (ha : dp + as_ ≤ 204) : am_op 172 (LM A dp) (LO A as_) b k = some (LM (upA A (dp - 2) (am_bt false)) (dp - 2 + 1), LO (upA A (dp - 2) (am_bt false)) as_, b, k) := by
  unfold am_op; rw [if_neg (by decide), if_neg (by decide), if_neg (by decide), if_neg (by decide), if_neg (by decide), if_neg (by decide), if_neg (by decide), if_neg (by decide)]; unfold a_sig; rw [if_pos rfl, if_pos (by rw [LM_len]; exact h), LM_drop h, LM_push, LO_up (by omega)]
theorem x173  : am_op 173 (LM A dp) (LO A as_) b k = none := by
  unfold am_op; rw [if_neg (by decide), if_neg (by decide), if_neg (by decide), if_neg (by decide), if_neg (by decide), if_neg (by decide), if_neg (by decide), if_neg (by decide)]; unfold a_sig; rw [if_neg (by decide), if_neg (by decide), if_neg (by decide)]
theorem x79 (ha : dp + as_ ≤ 204) : am_op 79 (LM A dp) (LO A as_) b k = some (LM (upA A dp (am_of (-1))) (dp + 1), LO (upA A dp (am_of (-1))) as_, b, k) := by
  unfold am_op; rw [if_pos (by decide)]; unfold a_const; rw [if_pos rfl, LM_push, LO_up (by omega)]
theorem x81 {c : Nat} (hc : 81 ≤ c ∧ c ≤ 96) (ha : dp + as_ ≤ 204) : am_op c (LM A dp) (LO A as_) b k = some (LM (upA A dp (am_of (lN (c - 80)))) (dp + 1), LO (upA A dp (am_of (lN (c - 80)))) as_, b, k) := by
  unfold am_op; rw [if_pos hc.2]; unfold a_const; rw [if_neg (by omega), if_pos hc.1, LM_push, LO_up (by omega), show c - 81 + 1 = c - 80 by omega]
theorem xn96 {c : Nat} (hc : c = 77 ∨ c = 78 ∨ c = 80) {m o : List am_T} : am_op c m o b k = none := by
  rcases hc with rfl | rfl | rfl <;> rfl
theorem xn {c : Nat} {m o : List am_T} (hc : c = 98 ∨ (99 ≤ c ∧ c ≤ 104) ∨ c = 106 ∨ (111 ≤ c ∧ c ≤ 114) ∨ (126 ≤ c ∧ c ≤ 129) ∨ (131 ≤ c ∧ c ≤ 134) ∨ c = 137 ∨ c = 138 ∨ c = 167 ∨ c = 171 ∨ 175 < c) : am_op c m o b k = none := by
  unfold am_op
  rw [if_neg (by omega)]
  by_cases h1 : c ≤ 130
  · rw [if_pos h1]; unfold a_arr; rw [if_neg (show ¬ c = 97 by omega), if_neg (show ¬ c = 105 by omega), if_neg (show ¬ c = 107 by omega), if_neg (show ¬ c = 108 by omega), if_neg (show ¬ c = 109 by omega), if_neg (show ¬ c = 110 by omega), if_neg (show ¬ c = 115 by omega), if_neg (show ¬ c = 116 by omega), if_neg (show ¬ c = 117 by omega), if_neg (show ¬ c = 118 by omega), if_neg (show ¬ c = 119 by omega), if_neg (show ¬ c = 120 by omega), if_neg (show ¬ c = 121 by omega), if_neg (show ¬ c = 122 by omega), if_neg (show ¬ c = 123 by omega), if_neg (show ¬ c = 124 by omega), if_neg (show ¬ c = 125 by omega), if_neg (show ¬ c = 130 by omega)]; simp
  rw [if_neg h1]
  by_cases h2 : c ≤ 136
  · rw [if_pos h2]; unfold a_cmp; rw [if_neg (show ¬ c = 135 by omega), if_neg (show ¬ c = 136 by omega)]; simp
  rw [if_neg h2]
  by_cases h3 : c ≤ 146
  · rw [if_pos h3]; unfold a_chg; rw [if_neg (show ¬ c = 139 by omega), if_neg (show ¬ c = 140 by omega), if_neg (show ¬ c = 143 by omega), if_neg (show ¬ c = 144 by omega), if_neg (show ¬ c = 145 by omega), if_neg (show ¬ c = 146 by omega)]; simp
  rw [if_neg h3, if_neg (by omega), if_neg (by omega), if_neg (by omega)]
  by_cases h4 : c ≤ 170
  · rw [if_pos h4]; unfold a_sum; rw [if_neg (show ¬ c = 166 by omega), if_neg (show ¬ c = 168 by omega), if_neg (show ¬ c = 169 by omega), if_neg (show ¬ c = 170 by omega)]; simp
  rw [if_neg h4]
  unfold a_sig
  rw [if_neg (by omega), if_neg (by omega), if_neg (by omega)]
theorem ar1 {c : Nat} {v : Int64} {x : am_T} (h : 1 ≤ dp) (ha : dp + as_ ≤ 204) (e : a_chg c (LM A dp) (LO A as_) b k = some (x :: (LM A dp).drop 1, LO A as_, b, k)) (hx : x = am_of v) : a_chg c (LM A dp) (LO A as_) b k = some (LM (upA A (dp - 1) (am_of v)) (dp - 1 + 1), LO (upA A (dp - 1) (am_of v)) as_, b, k) := by
  rw [e, hx, LM_drop h, LM_push, LO_up (by omega)]
theorem ar2 {c : Nat} {v : Int64} {x : am_T} (h : 2 ≤ dp) (ha : dp + as_ ≤ 204) (e : a_join c (LM A dp) (LO A as_) b k = some (x :: (LM A dp).drop 2, LO A as_, b, k)) (hx : x = am_of v) : a_join c (LM A dp) (LO A as_) b k = some (LM (upA A (dp - 2) (am_of v)) (dp - 2 + 1), LO (upA A (dp - 2) (am_of v)) as_, b, k) := by
  rw [e, hx, LM_drop h, LM_push, LO_up (by omega)]
theorem ar3 {c : Nat} {v : Int64} {x : am_T} (h : 2 ≤ dp) (ha : dp + as_ ≤ 204) (e : a_ord c (LM A dp) (LO A as_) b k = some (x :: (LM A dp).drop 2, LO A as_, b, k)) (hx : x = am_of v) : a_ord c (LM A dp) (LO A as_) b k = some (LM (upA A (dp - 2) (am_of v)) (dp - 2 + 1), LO (upA A (dp - 2) (am_of v)) as_, b, k) := by
  rw [e, hx, LM_drop h, LM_push, LO_up (by omega)]
theorem ar4 {v : Int64} {x : am_T} (h : 3 ≤ dp) (ha : dp + as_ ≤ 204) (e : a_with (LM A dp) (LO A as_) b k = some (x :: (LM A dp).drop 3, LO A as_, b, k)) (hx : x = am_of v) : a_with (LM A dp) (LO A as_) b k = some (LM (upA A (dp - 3) (am_of v)) (dp - 3 + 1), LO (upA A (dp - 3) (am_of v)) as_, b, k) := by
  rw [e, hx, LM_drop h, LM_push, LO_up (by omega)]
theorem an_1 (h : 1 ≤ dp) (h0 : (A (dp - 1)).length ≤ 4) : am_ns (LM A dp) 1 := ⟨by rw [LM_len]; exact h, fun p hp => by rw [show p = 0 by omega, g0 h]; exact h0⟩
theorem an_2 (h : 2 ≤ dp) (h0 : (A (dp - 1)).length ≤ 4) (h1 : (A (dp - 2)).length ≤ 4) : am_ns (LM A dp) 2 := ⟨by rw [LM_len]; exact h, fun p hp => by
  rcases (show p = 0 ∨ p = 1 by omega) with rfl | rfl
  · rw [g0 (by omega)]; exact h0
  · rw [g1 h]; exact h1⟩
theorem an_3 (h : 3 ≤ dp) (h0 : (A (dp - 1)).length ≤ 4) (h1 : (A (dp - 2)).length ≤ 4) (h2 : (A (dp - 3)).length ≤ 4) : am_ns (LM A dp) 3 := ⟨by rw [LM_len]; exact h, fun p hp => by
  rcases (show p = 0 ∨ p = 1 ∨ p = 2 by omega) with rfl | rfl | rfl
  · rw [g0 (by omega)]; exact h0
  · rw [g1 (by omega)]; exact h1
  · rw [g2 h]; exact h2⟩
theorem an_f {j p : Nat} (hp : p < j) (h : dp < j ∨ (j ≤ dp ∧ ¬ (A (dp - 1 - p)).length ≤ 4)) : ¬ am_ns (LM A dp) j := fun z => by
  rcases h with h | ⟨h, h'⟩
  · have := z.1; rw [LM_len] at this; omega
  · have := z.2 p hp; rw [LM_get (by omega)] at this; exact h' this
end XOP
