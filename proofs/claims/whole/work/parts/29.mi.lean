def am_chk : Option am_St → Option am_St
  | none => none
  | some s => if 200 < s.1.length + s.2.1.length then none else some s
def am_kp (g : Nat → Int32) (p k : Nat) : Nat := k + (if 96 < ub (g p) then 1 else 0)
def am_one (g : Nat → Int32) (t p : Nat) (m o : List am_T) (b : List Bool) (k : Nat) : Option am_St := if ub (g p) = 99 ∨ ub (g p) = 100 ∨ ub (g p) = 103 ∨ ub (g p) = 104 then a_br (ub (g p)) m o b k else if am_low b = -1 then (if ub (g p) ≤ 76 then some (am_pf g p (cd_car g p t) :: m, o, b, k) else am_op (ub (g p)) m o b k) else some (m, o, b, k)
def am_step (g : Nat → Int32) (t p : Nat) (m o : List am_T) (b : List Bool) (k : Nat) : Option am_St := if t - p ≤ cd_car g p t then none else if ¬ am_kp g p k ≤ 201 then none else am_chk (am_one g t p m o b (am_kp g p k))
def am_run (g : Nat → Int32) (t : Nat) : Nat → Nat → am_St → Option am_St
  | 0, _, _ => none
  | r + 1, p, s => if t ≤ p then (if 0 < s.2.2.1.length then none else some s) else match am_step g t p s.1 s.2.1 s.2.2.1 s.2.2.2 with
    | none => none
    | some s' => am_run g t r (p + cd_car g p t + 1) s'
theorem cd_car_le {f : Nat → Int32} {p t : Nat} : cd_car f p t ≤ 256 := by
  have h1 := ub_lt (f p)
  have h2 := ub_lt (f (p + 1))
  unfold cd_car
  split
  · omega
  · split
    · omega
    · split <;> omega
theorem cd_car_76 {f : Nat → Int32} {p t : Nat} (h : ub (f p) = 76) : 1 ≤ cd_car f p t := by
  unfold cd_car
  rw [if_neg (by omega), if_neg (by omega)]
  split <;> omega
theorem am_chk_f {r : Option am_St} (F : ∀ s, r = some s → 200 < s.1.length + s.2.1.length) : am_chk r = none := by
  cases r with
  | none => rfl
  | some s => show (if _ then _ else _) = _; rw [if_pos (F s rfl)]
theorem am_chk_t {r : Option am_St} {s : am_St} (h : r = some s) (ht : s.1.length + s.2.1.length ≤ 200) : am_chk r = some s := by
  subst h
  show (if _ then _ else _) = _
  rw [if_neg (by omega)]
def am_bk (b : List Bool) (k : Nat) (s : am_St) : Prop := s.2.2.1 = b ∧ k ≤ s.2.2.2 ∧ (k ≤ 201 → s.2.2.2 ≤ 201)
theorem am_bk_r {b : List Bool} {k : Nat} {m o : List am_T} : am_bk b k (m, o, b, k) := ⟨rfl, Nat.le_refl _, fun h => h⟩
theorem a_fetch_bk {aw : Bool} {m o : List am_T} {b : List Bool} {k : Nat} {s : am_St} (h : a_fetch aw m o b k = some s) : am_bk b k s := by
  unfold a_fetch at h
  split at h
  · cases h
  · cases h; exact am_bk_r
theorem a_many_bk {vf : Bool} {m o : List am_T} {b : List Bool} {k : Nat} {s : am_St} (h : a_many vf m o b k = some s) : am_bk b k s := by
  unfold a_many at h
  split at h
  · cases h
  · split at h
    · cases h
    · rename_i hk
      split at h
      · cases h
      · split at h
        · cases h
        · split at h
          · split at h
            · cases h; exact ⟨rfl, Nat.le_add_right _ _, fun _ => by show k + _ ≤ 201; omega⟩
            · cases h
          · cases h; exact ⟨rfl, Nat.le_add_right _ _, fun _ => by show k + _ ≤ 201; omega⟩
theorem a_arr_bk {c : Nat} {m o : List am_T} {b : List Bool} {k : Nat} {s : am_St} (h : a_arr c m o b k = some s) : am_bk b k s := by
  unfold a_arr at h
  by_cases h0 : m.length < cd_needs c
  · rw [if_pos h0] at h; cases h
  rw [if_neg h0] at h
  by_cases h97 : c = 97
  · rw [if_pos h97] at h; first | exact a_fetch_bk h | (cases h; exact am_bk_r) | (split at h <;> first | (cases h; done) | (cases h; exact am_bk_r))
  rw [if_neg h97] at h
  by_cases h105 : c = 105
  · rw [if_pos h105] at h; first | exact a_fetch_bk h | (cases h; exact am_bk_r) | (split at h <;> first | (cases h; done) | (cases h; exact am_bk_r))
  rw [if_neg h105] at h
  by_cases h107 : c = 107
  · rw [if_pos h107] at h; first | exact a_fetch_bk h | (cases h; exact am_bk_r) | (split at h <;> first | (cases h; done) | (cases h; exact am_bk_r))
  rw [if_neg h107] at h
  by_cases h108 : c = 108
  · rw [if_pos h108] at h; first | exact a_fetch_bk h | (cases h; exact am_bk_r) | (split at h <;> first | (cases h; done) | (cases h; exact am_bk_r))
  rw [if_neg h108] at h
  by_cases h109 : c = 109
  · rw [if_pos h109] at h; first | exact a_fetch_bk h | (cases h; exact am_bk_r) | (split at h <;> first | (cases h; done) | (cases h; exact am_bk_r))
  rw [if_neg h109] at h
  by_cases h110 : c = 110
  · rw [if_pos h110] at h; first | exact a_fetch_bk h | (cases h; exact am_bk_r) | (split at h <;> first | (cases h; done) | (cases h; exact am_bk_r))
  rw [if_neg h110] at h
  by_cases h115 : c = 115
  · rw [if_pos h115] at h; first | exact a_fetch_bk h | (cases h; exact am_bk_r) | (split at h <;> first | (cases h; done) | (cases h; exact am_bk_r))
  rw [if_neg h115] at h
  by_cases h116 : c = 116
  · rw [if_pos h116] at h; first | exact a_fetch_bk h | (cases h; exact am_bk_r) | (split at h <;> first | (cases h; done) | (cases h; exact am_bk_r))
  rw [if_neg h116] at h
  by_cases h117 : c = 117
  · rw [if_pos h117] at h; first | exact a_fetch_bk h | (cases h; exact am_bk_r) | (split at h <;> first | (cases h; done) | (cases h; exact am_bk_r))
  rw [if_neg h117] at h
  by_cases h118 : c = 118
  · rw [if_pos h118] at h; first | exact a_fetch_bk h | (cases h; exact am_bk_r) | (split at h <;> first | (cases h; done) | (cases h; exact am_bk_r))
  rw [if_neg h118] at h
  by_cases h119 : c = 119
  · rw [if_pos h119] at h; first | exact a_fetch_bk h | (cases h; exact am_bk_r) | (split at h <;> first | (cases h; done) | (cases h; exact am_bk_r))
  rw [if_neg h119] at h
  by_cases h120 : c = 120
  · rw [if_pos h120] at h; first | exact a_fetch_bk h | (cases h; exact am_bk_r) | (split at h <;> first | (cases h; done) | (cases h; exact am_bk_r))
  rw [if_neg h120] at h
  by_cases h121 : c = 121
  · rw [if_pos h121] at h; first | exact a_fetch_bk h | (cases h; exact am_bk_r) | (split at h <;> first | (cases h; done) | (cases h; exact am_bk_r))
  rw [if_neg h121] at h
  by_cases h122 : c = 122
  · rw [if_pos h122] at h; first | exact a_fetch_bk h | (cases h; exact am_bk_r) | (split at h <;> first | (cases h; done) | (cases h; exact am_bk_r))
  rw [if_neg h122] at h
  by_cases h123 : c = 123
  · rw [if_pos h123] at h; first | exact a_fetch_bk h | (cases h; exact am_bk_r) | (split at h <;> first | (cases h; done) | (cases h; exact am_bk_r))
  rw [if_neg h123] at h
  by_cases h124 : c = 124
  · rw [if_pos h124] at h; first | exact a_fetch_bk h | (cases h; exact am_bk_r) | (split at h <;> first | (cases h; done) | (cases h; exact am_bk_r))
  rw [if_neg h124] at h
  by_cases h125 : c = 125
  · rw [if_pos h125] at h; first | exact a_fetch_bk h | (cases h; exact am_bk_r) | (split at h <;> first | (cases h; done) | (cases h; exact am_bk_r))
  rw [if_neg h125] at h
  by_cases h130 : c = 130
  · rw [if_pos h130] at h; first | exact a_fetch_bk h | (cases h; exact am_bk_r) | (split at h <;> first | (cases h; done) | (cases h; exact am_bk_r))
  rw [if_neg h130] at h
  cases h
theorem am_op_bk {c : Nat} {m o : List am_T} {b : List Bool} {k : Nat} {s : am_St} (h : am_op c m o b k = some s) : am_bk b k s := by
  unfold am_op at h
  split at h
  · unfold a_const at h; repeat' split at h
    all_goals first | (cases h; done) | (cases h; exact am_bk_r)
  split at h
  · exact a_arr_bk h
  split at h
  · unfold a_cmp at h; repeat' split at h
    all_goals first | (cases h; done) | (cases h; exact am_bk_r)
  split at h
  · unfold a_chg at h; repeat' split at h
    all_goals first | (cases h; done) | (cases h; exact am_bk_r)
  split at h
  · unfold a_join at h; repeat' split at h
    all_goals first | (cases h; done) | (cases h; exact am_bk_r)
  split at h
  · unfold a_ord at h; repeat' split at h
    all_goals first | (cases h; done) | (cases h; exact am_bk_r)
  split at h
  · unfold a_with at h; repeat' split at h
    all_goals first | (cases h; done) | (cases h; exact am_bk_r)
  split at h
  · unfold a_sum at h; repeat' split at h
    all_goals first | (cases h; done) | (cases h; exact am_bk_r)
  · unfold a_sig at h; repeat' split at h
    all_goals first | (cases h; done) | exact a_many_bk h | (cases h; exact am_bk_r)
theorem a_br_ok {c : Nat} {m o : List am_T} {b : List Bool} {k : Nat} {s : am_St} (h : a_br c m o b k = some s) : s.1.length + s.2.1.length ≤ m.length + o.length ∧ s.2.2.1.length ≤ b.length + 1 ∧ s.2.2.2 = k := by
  have he : ∀ {wt : Bool}, a_enter wt m o b k = some s → s.1.length + s.2.1.length ≤ m.length + o.length ∧ s.2.2.1.length ≤ b.length + 1 ∧ s.2.2.2 = k := fun {wt} h => by
    unfold a_enter at h
    split at h
    · cases h; simp
    · split at h
      · cases h; simp
      · cases h
  unfold a_br at h
  split at h
  · exact he h
  split at h
  · exact he h
  split at h
  · cases h
  · split at h
    · cases h; simp
    · cases h; simp
      omega
def PL (E : mp_E) (X : Nat → Prop) (M : mp_M) (L : Nat → Nat) (y n : Nat) (zs : List am_T) (R : Option am_St) : Option Value → mp_M → Prop := fun v N =>
  ∃ (w : Bool) (m o : List am_T) (b : List Bool) (k : Nat), v = some (.int (tf w)) ∧ IV E X N L y n zs m o b k ∧ mp_Fr X M N ∧ (w = true → R = some (m, o, b, k)) ∧ (w = false → R = none)
theorem PL.f {E : mp_E} {X : Nat → Prop} {M N : mp_M} {L : Nat → Nat} {y n k : Nat} {zs m o : List am_T} {b : List Bool} {R : Option am_St} (h : IV E X N L y n zs m o b k) (fr : mp_Fr X M N) (e : R = none) : PL E X M L y n zs R (some (.int (nI 0))) N := ⟨false, m, o, b, k, rfl, h, fr, fun z => (by cases z), fun _ => e⟩
theorem PL.t {E : mp_E} {X : Nat → Prop} {M N : mp_M} {L : Nat → Nat} {y n k : Nat} {zs m o : List am_T} {b : List Bool} {R : Option am_St} (h : IV E X N L y n zs m o b k) (fr : mp_Fr X M N) (e : R = some (m, o, b, k)) : PL E X M L y n zs R (some (.int (nI 1))) N := ⟨true, m, o, b, k, rfl, h, fr, fun _ => e, fun z => by cases z⟩
theorem am_run_n {g : Nat → Int32} {t r p : Nat} {s : am_St} (hp : p < t) (h : am_step g t p s.1 s.2.1 s.2.2.1 s.2.2.2 = none) : am_run g t (r + 1) p s = none := by
  show (if _ then _ else _) = _
  rw [if_neg (by omega), h]
theorem am_run_s {g : Nat → Int32} {t r p : Nat} {s s' : am_St} (hp : p < t) (h : am_step g t p s.1 s.2.1 s.2.2.1 s.2.2.2 = some s') : am_run g t (r + 1) p s = am_run g t r (p + cd_car g p t + 1) s' := by
  show (if _ then _ else _) = _
  rw [if_neg (by omega), h]
theorem am_step_f {g : Nat → Int32} {t p : Nat} {m o : List am_T} {b : List Bool} {k : Nat} (h : t - p ≤ cd_car g p t ∨ ¬ am_kp g p k ≤ 201 ∨ ∀ s, am_one g t p m o b (am_kp g p k) = some s → 200 < s.1.length + s.2.1.length) : am_step g t p m o b k = none := by
  unfold am_step
  by_cases h1 : t - p ≤ cd_car g p t
  · rw [if_pos h1]
  · rw [if_neg h1]
    by_cases h2 : ¬ am_kp g p k ≤ 201
    · rw [if_pos h2]
    · rw [if_neg h2]
      rcases h with h | h | h
      · exact absurd h h1
      · exact absurd h h2
      · exact am_chk_f h
theorem am_step_t {g : Nat → Int32} {t p : Nat} {m o : List am_T} {b : List Bool} {k : Nat} {s : am_St} (h1 : ¬ t - p ≤ cd_car g p t) (h2 : am_kp g p k ≤ 201) (h3 : am_one g t p m o b (am_kp g p k) = some s) (h4 : s.1.length + s.2.1.length ≤ 200) : am_step g t p m o b k = some s := by
  unfold am_step
  rw [if_neg h1, if_neg (fun h => h h2)]
  exact am_chk_t h3 h4