theorem cnt_s {m : List am_T} {p q j : Nat} (h1 : p < m.length) (h2 : (m.getD p []).length ≤ 4) (h3 : am_num (m.getD p []) = lN j) (h4 : j ≤ q) (h5 : q < 2 ^ 31) : am_cnt m p q = some j := by
  have e1 : ¬ lN j < 0 := fun z => by
    have := (pk_lLT (a := j) (b := 0) (by omega) (by omega)).mp z
    omega
  unfold am_cnt
  rw [h3, if_pos ⟨h1, h2, e1, (pk_lLE (by omega) (by omega)).mpr h4⟩]
  congr 1
  show (UInt64.ofNat j).toNat = j
  rw [UInt64.toNat_ofNat']
  omega
theorem cnt_n {m : List am_T} {p q : Nat} (hq : q < 2 ^ 31) (h : m.length ≤ p ∨ ¬ (m.getD p []).length ≤ 4 ∨ am_num (m.getD p []) < 0 ∨ ∃ j, j < 2 ^ 63 ∧ am_num (m.getD p []) = lN j ∧ q < j) : am_cnt m p q = none := by
  unfold am_cnt
  rw [if_neg]
  intro ⟨h1, h2, h3, h4⟩
  rcases h with h | h | h | ⟨j, h5, h6, h7⟩
  · omega
  · exact h h2
  · exact h3 h
  · rw [h6, pk_lLE h5 (by omega)] at h4
    omega
theorem LM_cnt {A : Nat → am_T} {dp p q j : Nat} (h1 : p < dp) (h2 : (A (dp - 1 - p)).length ≤ 4) (h3 : am_num (A (dp - 1 - p)) = lN j) (h4 : j ≤ q) (h5 : q < 2 ^ 31) : am_cnt (LM A dp) p q = some j := cnt_s (by rw [LM_len]; exact h1) (by rw [LM_get h1]; exact h2) (by rw [LM_get h1]; exact h3) h4 h5
theorem LM_cntn {A : Nat → am_T} {dp p q : Nat} (hq : q < 2 ^ 31) (h : dp ≤ p ∨ (p < dp ∧ (¬ (A (dp - 1 - p)).length ≤ 4 ∨ am_num (A (dp - 1 - p)) < 0 ∨ ∃ j, j < 2 ^ 63 ∧ am_num (A (dp - 1 - p)) = lN j ∧ q < j))) : am_cnt (LM A dp) p q = none := by
  apply cnt_n hq
  rcases h with h | ⟨h, h'⟩
  · exact Or.inl (by rw [LM_len]; exact h)
  · rw [LM_get h]
    exact Or.inr h'
section XM
variable {A : Nat → am_T} {dp as_ k j g : Nat} {b : List Bool} {vf : Bool}
theorem xm1 (h : am_cnt (LM A dp) 0 20 = none) : a_many vf (LM A dp) (LO A as_) b k = none := by unfold a_many; rw [h]
theorem xm2 (h : am_cnt (LM A dp) 0 20 = some j) (h2 : ¬ k + j ≤ 201) : a_many vf (LM A dp) (LO A as_) b k = none := by unfold a_many; rw [h]; simp only; rw [if_pos h2]
theorem xm3 (h : am_cnt (LM A dp) 0 20 = some j) (h3 : am_cnt (LM A dp) (j + 1) j = none) : a_many vf (LM A dp) (LO A as_) b k = none := by
  unfold a_many; rw [h]; simp only
  by_cases h2 : k + j ≤ 201
  · rw [if_neg (fun z => z h2), h3]
  · rw [if_pos h2]
theorem xm4 (h : am_cnt (LM A dp) 0 20 = some j) (h3 : am_cnt (LM A dp) (j + 1) j = some g) (h4 : ¬ j + g + 3 ≤ dp) : a_many vf (LM A dp) (LO A as_) b k = none := by
  unfold a_many; rw [h]; simp only
  by_cases h2 : k + j ≤ 201
  · rw [if_neg (fun z => z h2), h3]; simp only; rw [if_pos (by rw [LM_len]; exact h4)]
  · rw [if_pos h2]
theorem xm5 (h : am_cnt (LM A dp) 0 20 = some j) (h2 : k + j ≤ 201) (h3 : am_cnt (LM A dp) (j + 1) j = some g) (h4 : j + g + 3 ≤ dp) : a_many true (LM A dp) (LO A as_) b k = if decide (g = 0) = true then some (LM A (dp - 2 - j - g - 1), LO A as_, b, k + j) else none := by
  unfold a_many; rw [h]; simp only
  rw [if_neg (fun z => z h2), h3]; simp only; rw [if_neg (by rw [LM_len]; exact fun z => z h4), if_pos trivial, LM_drop h4, show dp - (j + g + 3) = dp - 2 - j - g - 1 by omega]
  by_cases h5 : g = 0
  · rw [if_pos h5, if_pos (decide_eq_true h5)]
  · rw [if_neg h5, if_neg (by rw [decide_eq_false h5]; decide)]
theorem xm6 (h : am_cnt (LM A dp) 0 20 = some j) (h2 : k + j ≤ 201) (h3 : am_cnt (LM A dp) (j + 1) j = some g) (h4 : j + g + 3 ≤ dp) (ha : dp + as_ ≤ 204) : a_many false (LM A dp) (LO A as_) b k = some (LM (upA A (dp - 2 - j - g - 1) (am_bt (decide (g = 0)))) (dp - 2 - j - g - 1 + 1), LO (upA A (dp - 2 - j - g - 1) (am_bt (decide (g = 0)))) as_, b, k + j) := by
  unfold a_many; rw [h]; simp only
  rw [if_neg (fun z => z h2), h3]; simp only; rw [if_neg (by rw [LM_len]; exact fun z => z h4), if_neg (by decide), LM_drop h4, show dp - (j + g + 3) = dp - 2 - j - g - 1 by omega, LM_push, LO_up (by omega)]
end XM
/-! the flags of the open branches -/
def offs : List Bool → Nat
  | [] => 0
  | x :: bs => offs bs + (if x then 0 else 1)
def TK (f : Nat → Int32) : List Bool → Prop
  | [] => True
  | x :: bs => f bs.length = tf x ∧ TK f bs
theorem TK_up {f : Nat → Int32} {p : Nat} {v : Int32} : ∀ {bs : List Bool}, bs.length ≤ p → TK f bs → TK (upd f p v) bs
  | [], _, _ => trivial
  | x :: bs, h, ⟨h1, h2⟩ => ⟨by rw [pk_un (by simp at h; omega)]; exact h1, TK_up (by simp at h; omega) h2⟩
theorem offs_le : ∀ b : List Bool, offs b ≤ b.length
  | [] => Nat.le_refl _
  | x :: bs => by
    have := offs_le bs
    show offs bs + _ ≤ bs.length + 1
    cases x <;> simp <;> omega
theorem offs_low : ∀ b : List Bool, b.length < 2 ^ 31 → (am_low b = -1 ↔ offs b = 0)
  | [], _ => ⟨fun _ => rfl, fun _ => rfl⟩
  | x :: bs, h => by
    simp only [List.length_cons] at h
    have ih := offs_low bs (by omega)
    show (if x = false ∧ am_low bs = -1 then nI bs.length else am_low bs) = -1 ↔ offs bs + (if x then 0 else 1) = 0
    cases x with
    | true => simpa using ih
    | false =>
      by_cases hz : am_low bs = -1
      · rw [if_pos ⟨rfl, hz⟩]
        constructor
        · intro h'
          have h1 := nI_toInt (show bs.length < 2 ^ 31 by omega)
          rw [h'] at h1
          have h2 : (-1 : Int32).toInt = -1 := by decide
          omega
        · intro h'; simp at h'
      · rw [if_neg (fun z => hz z.2)]
        constructor
        · intro h'; exact absurd h' hz
        · intro h'; simp at h'
def tk2 (A : Nat → am_T) (dp k i : Nat) : Nat → am_T := fun p => if p = dp then A (dp - k) else if dp - k ≤ p ∧ p < i then A (p + 1) else A p
theorem tk2_0 {A : Nat → am_T} {dp k : Nat} : upA A dp (A (dp - k)) = tk2 A dp k (dp - k) := by
  funext p
  unfold upA tk2
  by_cases h : p = dp
  · rw [if_pos h, if_pos h]
  · rw [if_neg h, if_neg h, if_neg (by omega)]
theorem tk2_s {A : Nat → am_T} {dp k i : Nat} (h1 : dp - k ≤ i) (h2 : i + 1 < dp) : upA (tk2 A dp k i) i (tk2 A dp k i (i + 1)) = tk2 A dp k (i + 1) := by
  funext p
  by_cases h : p = i
  · subst h
    rw [upA_s]
    unfold tk2
    rw [if_neg (by omega), if_neg (by omega), if_neg (by omega), if_pos (by omega)]
  · rw [upA_n h]
    unfold tk2
    by_cases h3 : p = dp
    · rw [if_pos h3, if_pos h3]
    · rw [if_neg h3, if_neg h3]
      by_cases h4 : dp - k ≤ p ∧ p < i
      · rw [if_pos h4, if_pos (by omega)]
      · rw [if_neg h4, if_neg (by omega)]
theorem tk2_e {A : Nat → am_T} {dp k : Nat} (hk : 0 < k) (h : k ≤ dp) : upA (tk2 A dp k (dp - 1)) (dp - 1) (tk2 A dp k (dp - 1) dp) = tkA A dp k := by
  funext p
  have e : tk2 A dp k (dp - 1) dp = A (dp - k) := if_pos rfl
  by_cases h1 : p = dp - 1
  · subst h1
    rw [upA_s, e]
    unfold tkA
    rw [if_pos (by omega)]
  · rw [upA_n h1]
    unfold tk2 tkA
    by_cases h3 : p = dp
    · rw [if_pos h3, if_pos (Or.inl h3)]
    · rw [if_neg h3, if_neg (show ¬ (p = dp ∨ p + 1 = dp) by omega)]
      by_cases h4 : dp - k ≤ p ∧ p < dp - 1
      · rw [if_pos h4, if_pos (by omega)]
      · rw [if_neg h4, if_neg (by omega)]
