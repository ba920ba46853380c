/-! the reference's machine: R 0 its object, R 1 row, R 2 kept, R 3 keptSize, R 4 s, R 5 w, R 6 hash, R 7 padded, R 8 thing, R 9 size, R 10 taken -/
def RL (R : Nat → Nat) : Prop := ∀ i j, i < 11 → j < 11 → R i = R j → i = j
theorem RL.ne {R : Nat → Nat} (h : RL R) {i j : Nat} (hi : i < 11) (hj : j < 11) (hij : i ≠ j) : R i ≠ R j := fun e => hij (h i j hi hj e)
def RA (E : mp_E) (M : mp_M) (tg sz : Nat) (A : Nat → am_T) : Prop := ∃ T Z : Nat → Int32, M tg = some (mp_b E 104448 T) ∧ M sz = some (mp_i E 408 Z) ∧ (∀ i, i < 104448 → fits .byte (.int (T i)) = true) ∧ ∀ p, p < 408 → TA T Z p (A p)
def RI (E : mp_E) (M : mp_M) (R : Nat → Nat) (rows : Nat) (thr : Int32) (dp as_ ops : Nat) (A : Nat → am_T) : Prop := M (R 0) = some (mp_o 7 [.ref (R 1), .int (nI rows), .int thr, .ref (R 2), .ref (R 3), .ref (R 4), .ref (R 5), .ref (R 6), .ref (R 7), .ref (R 8), .ref (R 9), .int (nI dp), .int (nI as_), .int (nI ops), .ref (R 10)]) ∧ (∃ f, M (R 4) = some (mp_i E 8 f)) ∧ (∃ f, M (R 5) = some (mp_i E 64 f)) ∧ (∃ f : Nat → Int32, M (R 6) = some (mp_b E 32 f) ∧ ∀ i, i < 32 → fits .byte (.int (f i)) = true) ∧ (∃ f, M (R 7) = some (mp_b E 1200 f)) ∧ RA E M (R 8) (R 9) A
def RFr (R : Nat → Nat) (M N : mp_M) : Prop := ∀ a, (∀ i, i = 0 ∨ (4 ≤ i ∧ i < 10) → a ≠ R i) → N a = M a
theorem RFr.refl {R : Nat → Nat} {M : mp_M} : RFr R M M := fun _ _ => rfl
theorem RFr.trans {R : Nat → Nat} {M N O : mp_M} (h : RFr R M N) (h' : RFr R N O) : RFr R M O := fun a q => (h' a q).trans (h a q)
theorem RFr.up {R : Nat → Nat} {M : mp_M} {i : Nat} {e : va_E} (hi : i = 0 ∨ (4 ≤ i ∧ i < 10)) : RFr R M (mp_up M (R i) e) := fun a q => mp_n (q i hi)
theorem RFr.k {R : Nat → Nat} {M N : mp_M} (f : RFr R M N) (hR : RL R) {j : Nat} (hj : j < 11) (h0 : j ≠ 0) (h1 : j < 4 ∨ 10 ≤ j) : N (R j) = M (R j) := f _ fun i hi => hR.ne hj (by omega) (by omega)
section RIS
variable {E : mp_E} {M N : mp_M} {R : Nat → Nat} {rows dp as_ ops : Nat} {thr : Int32} {A : Nat → am_T}
theorem RI.ra (h : RI E M R rows thr dp as_ ops A) : RA E M (R 8) (R 9) A := h.2.2.2.2.2
theorem RI.keep (h : RI E M R rows thr dp as_ ops A) {rows' dp' as' ops' : Nat} {thr' : Int32} (c0 : N (R 0) = some (mp_o 7 [.ref (R 1), .int (nI rows'), .int thr', .ref (R 2), .ref (R 3), .ref (R 4), .ref (R 5), .ref (R 6), .ref (R 7), .ref (R 8), .ref (R 9), .int (nI dp'), .int (nI as'), .int (nI ops'), .ref (R 10)])) (k : ∀ i, 4 ≤ i → i < 10 → N (R i) = M (R i)) : RI E N R rows' thr' dp' as' ops' A := by
  obtain ⟨-, ⟨f4, s4⟩, ⟨f5, s5⟩, ⟨f6, s6, y6⟩, ⟨f7, s7⟩, T, Z, t1, t2, t3, t4⟩ := h
  exact ⟨c0, ⟨f4, (k 4 (by omega) (by omega)).trans s4⟩, ⟨f5, (k 5 (by omega) (by omega)).trans s5⟩, ⟨f6, (k 6 (by omega) (by omega)).trans s6, y6⟩, ⟨f7, (k 7 (by omega) (by omega)).trans s7⟩, T, Z, (k 8 (by omega) (by omega)).trans t1, (k 9 (by omega) (by omega)).trans t2, t3, t4⟩
theorem RI.set (h : RI E M R rows thr dp as_ ops A) (hR : RL R) {rows' dp' as' ops' : Nat} {thr' : Int32} (hN : mp_up M (R 0) (mp_o 7 [.ref (R 1), .int (nI rows'), .int thr', .ref (R 2), .ref (R 3), .ref (R 4), .ref (R 5), .ref (R 6), .ref (R 7), .ref (R 8), .ref (R 9), .int (nI dp'), .int (nI as'), .int (nI ops'), .ref (R 10)]) = N) : RI E N R rows' thr' dp' as' ops' A := by
  subst hN
  exact h.keep mp_s fun i h1 h2 => mp_n (hR.ne (by omega) (by omega) (by omega))
theorem RFr.s0 {e : va_E} (hN : mp_up M (R 0) e = N) : RFr R M N := by subst hN; exact RFr.up (Or.inl rfl)
theorem RI.put (h : RI E M R rows thr dp as_ ops A) (hR : RL R) {T Z : Nat → Int32} {A' : Nat → am_T} (hf : ∀ i, i < 104448 → fits .byte (.int (T i)) = true) (ht : ∀ p, p < 408 → TA T Z p (A' p)) (hN : N = mp_up (mp_up M (R 8) (mp_b E 104448 T)) (R 9) (mp_i E 408 Z)) : RI E N R rows thr dp as_ ops A' := by
  obtain ⟨c0, ⟨f4, s4⟩, ⟨f5, s5⟩, ⟨f6, s6, y6⟩, ⟨f7, s7⟩, -⟩ := h
  have k : ∀ i, i < 8 → N (R i) = M (R i) := fun i hi => by rw [hN, mp_n (hR.ne (by omega) (by omega) (by omega)), mp_n (hR.ne (by omega) (by omega) (by omega))]
  exact ⟨(k 0 (by omega)).trans c0, ⟨f4, (k 4 (by omega)).trans s4⟩, ⟨f5, (k 5 (by omega)).trans s5⟩, ⟨f6, (k 6 (by omega)).trans s6, y6⟩, ⟨f7, (k 7 (by omega)).trans s7⟩, T, Z, by rw [hN, mp_n (hR.ne (by omega) (by omega) (by omega))]; exact mp_s, by rw [hN]; exact mp_s, hf, ht⟩
theorem RFr.put {x y : va_E} (hN : N = mp_up (mp_up M (R 8) x) (R 9) y) : RFr R M N := by
  rw [hN]
  exact (RFr.up (Or.inr (by omega))).trans (RFr.up (Or.inr (by omega)))
theorem ft_cpy {G T : Nat → Int32} {sp dp n m : Nat} (hG : ∀ i, i < n → fits .byte (.int (G (sp + i))) = true) (hT : ∀ i, i < m → fits .byte (.int (T i)) = true) : ∀ i, i < m → fits .byte (.int (va_cpy G T sp dp n i)) = true := by
  intro i hi
  by_cases h : dp ≤ i ∧ i < dp + n
  · rw [pk_cpy_in h.1 h.2]
    exact hG _ (by omega)
  · rw [pk_cpy_out (by omega)]
    exact hT i hi
theorem ft_upd {T : Nat → Int32} {k m : Nat} {v : Int32} (hv : fits .byte (.int v) = true) (hT : ∀ i, i < m → fits .byte (.int (T i)) = true) : ∀ i, i < m → fits .byte (.int (upd T k v i)) = true := by
  intro i hi
  by_cases h : i = k
  · rw [h, pk_us]; exact hv
  · rw [pk_un h]; exact hT i hi
/-- what a step answers -/
def RQ (E : mp_E) (R : Nat → Nat) (M : mp_M) (rows : Nat) (thr : Int32) (b : List Bool) (r : Option am_St) : Option Value → mp_M → Prop := fun v N => ∃ (w : Bool) (dp as_ k : Nat) (A : Nat → am_T), v = some (.int (tf w)) ∧ RI E N R rows thr dp as_ k A ∧ RFr R M N ∧ dp + as_ ≤ 210 ∧ (w = true → r = some (LM A dp, LO A as_, b, k)) ∧ (w = false → r = none)
variable {b : List Bool} {r : Option am_St}
theorem RQ.t (h : RI E N R rows thr dp as_ ops A) (fr : RFr R M N) (hd : dp + as_ ≤ 210) (e : r = some (LM A dp, LO A as_, b, ops)) : RQ E R M rows thr b r (some (.int (nI 1))) N := ⟨true, dp, as_, ops, A, rfl, h, fr, hd, fun _ => e, fun z => by cases z⟩
theorem RQ.f (h : RI E N R rows thr dp as_ ops A) (fr : RFr R M N) (hd : dp + as_ ≤ 210) (e : r = none) : RQ E R M rows thr b r (some (.int (nI 0))) N := ⟨false, dp, as_, ops, A, rfl, h, fr, hd, fun z => (by cases z), fun _ => e⟩
theorem RQ.bool {w : Bool} (h : RI E N R rows thr dp as_ ops A) (fr : RFr R M N) (hd : dp + as_ ≤ 210) (e : r = if w = true then some (LM A dp, LO A as_, b, ops) else none) : RQ E R M rows thr b r (some (.int (tf w))) N := ⟨w, dp, as_, ops, A, rfl, h, fr, hd, fun z => by rw [e, if_pos z], fun z => by rw [e, if_neg (by rw [z]; decide)]⟩
theorem RQ.ag {p : Prop} [Decidable p] (h : RI E N R rows thr dp as_ ops A) (fr : RFr R M N) (hd : dp + as_ ≤ 210) (T : p → r = some (LM A dp, LO A as_, b, ops)) (F : ¬ p → r = none) : RQ E R M rows thr b r (some (.int (tf (decide p)))) N := ⟨decide p, dp, as_, ops, A, rfl, h, fr, hd, fun z => T (of_decide_eq_true z), fun z => F (of_decide_eq_false z)⟩
theorem RQ.k {w : Bool} {r' : Option am_St} (h : RI E N R rows thr dp as_ ops A) (fr : RFr R M N) (hd : dp + as_ ≤ 210) (T : w = true → r' = some (LM A dp, LO A as_, b, ops)) (F : w = false → r' = none) (e : r = r') : RQ E R M rows thr b r (some (.int (tf w))) N := ⟨w, dp, as_, ops, A, rfl, h, fr, hd, fun z => e.trans (T z), fun z => e.trans (F z)⟩
end RIS
