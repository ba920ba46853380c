/-! things, stacks, the machine's heap -/
theorem mp_Cr.mono {l : Launch} {μ : mp_D} {E : mp_E} {M0 : mp_M} {d mc ms : Nat} {av : List Value} {P Q : Option Value → mp_M → Prop} (h : mp_Cr l μ E M0 d mc ms av P) (hpq : ∀ v N, P v N → Q v N) : mp_Cr l μ E M0 d mc ms av Q := by
  intro sz p e ha hc hk s m args below hf happ hP hK
  obtain ⟨n, o, h1, h2, h3, hW, hL, hF, M', hM, hA, ho⟩ := h sz p e ha hc hk s m args below hf happ hP hK
  refine ⟨n, o, h1, h2, h3, hW, hL, hF, M', hM, hA, ?_⟩
  cases o with
  | returned v => exact hpq v M' ho
  | threw r => exact ho
abbrev am_T : Type := List Int32
def gb (x : am_T) : Nat → Int32 := fun j => x.getD j 0
def gl (n : Nat) (f : Nat → Int32) : am_T := (List.range n).map f
theorem gl_len {n : Nat} {f : Nat → Int32} : (gl n f).length = n := by simp [gl]
theorem gl_at {n j : Nat} {f : Nat → Int32} (h : j < n) : gb (gl n f) j = f j := by simp [gb, gl, List.getD, h]
def TH (E : mp_E) (X : Nat → Prop) (M : mp_M) (t : Nat) (x : am_T) : Prop := ¬ X t ∧ ∃ b, ¬ X b ∧ M t = some (mp_o 5 [.ref b]) ∧ M b = some (mp_b E x.length (gb x)) ∧ x.length ≤ 256
def mp_Fr (X : Nat → Prop) (M N : mp_M) : Prop := ∀ a e, M a = some e → ¬ X a → N a = some e
theorem mp_Fr.refl {X : Nat → Prop} {M : mp_M} : mp_Fr X M M := fun _ _ h _ => h
theorem mp_Fr.trans {X : Nat → Prop} {M N O : mp_M} (h : mp_Fr X M N) (h' : mp_Fr X N O) : mp_Fr X M O := fun a e q r => h' a e (h a e q r) r
theorem mp_Fr.up {X : Nat → Prop} {M : mp_M} {a : Nat} {e : va_E} (h : X a) : mp_Fr X M (mp_up M a e) := fun b _ q r => by rw [mp_n (fun z => r (by rw [z]; exact h))]; exact q
theorem mp_Fr.new {X : Nat → Prop} {M : mp_M} {a : Nat} {e : va_E} (h : M a = none) : mp_Fr X M (mp_up M a e) := fun b _ q _ => by rw [mp_n (fun z => by rw [z, h] at q; cases q)]; exact q
theorem TH.keep {E : mp_E} {X : Nat → Prop} {M N : mp_M} {t : Nat} {x : am_T} (h : TH E X M t x) (fr : mp_Fr X M N) : TH E X N t x := by
  obtain ⟨h1, b, h2, h3, h4, h5⟩ := h
  exact ⟨h1, b, h2, fr _ _ h3 h1, fr _ _ h4 h2, h5⟩
def SL (E : mp_E) (X : Nat → Prop) (M : mp_M) (f : Nat → Option Nat) : List am_T → Prop
  | [] => True
  | x :: xs => (∃ t, f xs.length = some t ∧ TH E X M t x) ∧ SL E X M f xs
theorem SL.keep {E : mp_E} {X : Nat → Prop} {M N : mp_M} {f : Nat → Option Nat} (fr : mp_Fr X M N) : ∀ {xs : List am_T}, SL E X M f xs → SL E X N f xs := by
  intro xs
  induction xs with
  | nil => intro _; trivial
  | cons x xs ih =>
    intro ⟨⟨t, h1, h2⟩, h3⟩
    exact ⟨⟨t, h1, h2.keep fr⟩, ih h3⟩
theorem SL.cong {E : mp_E} {X : Nat → Prop} {M : mp_M} {f g : Nat → Option Nat} : ∀ {xs : List am_T}, (∀ j, j < xs.length → g j = f j) → SL E X M f xs → SL E X M g xs := by
  intro xs
  induction xs with
  | nil => intro _ _; trivial
  | cons x xs ih =>
    intro h ⟨⟨t, h1, h2⟩, h3⟩
    exact ⟨⟨t, by rw [h _ (by simp)]; exact h1, h2⟩, ih (fun j hj => h j (by simp; omega)) h3⟩
theorem SL.up {E : mp_E} {X : Nat → Prop} {M : mp_M} {f : Nat → Option Nat} {xs : List am_T} {i : Nat} {v : Option Nat} (hi : xs.length ≤ i) (h : SL E X M f xs) : SL E X M (va_up f i v) xs :=
  SL.cong (fun j hj => va_up_ne _ _ (by omega)) h
theorem SL.get {E : mp_E} {X : Nat → Prop} {M : mp_M} {f : Nat → Option Nat} : ∀ {xs : List am_T} {p : Nat}, SL E X M f xs → p < xs.length → ∃ t, f (xs.length - 1 - p) = some t ∧ TH E X M t (xs.getD p []) := by
  intro xs
  induction xs with
  | nil => intro p _ hp; cases hp
  | cons x xs ih =>
    intro p ⟨⟨t, h1, h2⟩, h3⟩ hp
    cases p with
    | zero => exact ⟨t, by simpa using h1, h2⟩
    | succ p =>
      obtain ⟨t', h4, h5⟩ := ih (p := p) h3 (by simpa using hp)
      refine ⟨t', ?_, by simpa using h5⟩
      rw [← h4]
      congr 1
      simp
      omega
/-- from all places back -/
theorem SL.of {E : mp_E} {X : Nat → Prop} {M : mp_M} {f : Nat → Option Nat} : ∀ {xs : List am_T}, (∀ p, p < xs.length → ∃ t, f (xs.length - 1 - p) = some t ∧ TH E X M t (xs.getD p [])) → SL E X M f xs := by
  intro xs
  induction xs with
  | nil => intro _; trivial
  | cons x xs ih =>
    intro h
    refine ⟨by simpa using h 0 (by simp), ih fun p hp => ?_⟩
    obtain ⟨t, h1, h2⟩ := h (p + 1) (by simp; omega)
    refine ⟨t, ?_, by simpa using h2⟩
    rw [← h1]
    congr 1
    simp
    omega
def SK (E : mp_E) (X : Nat → Prop) (M : mp_M) (s ar : Nat) (xs : List am_T) : Prop := ∃ nn f, M s = some (mp_o 4 [.ref ar, .ref nn, .int (nI xs.length)]) ∧ M ar = some (mp_q E 200 f) ∧ SL E X M f xs ∧ xs.length ≤ 200 ∧ TH E X M nn []
theorem SK.keep {E : mp_E} {X : Nat → Prop} {M N : mp_M} {s ar : Nat} {xs : List am_T} (h : SK E X M s ar xs) (fr : mp_Fr X M N) (h1 : N s = M s) (h2 : N ar = M ar) : SK E X N s ar xs := by
  obtain ⟨nn, f, a1, a2, a3, a4, a5⟩ := h
  exact ⟨nn, f, h1.trans a1, h2.trans a2, a3.keep fr, a4, a5.keep fr⟩
/-- the same but for two cells -/
def AO (s ar : Nat) (M N : mp_M) : Prop := ∀ a, a ≠ s → a ≠ ar → N a = M a
theorem AO.fr {X : Nat → Prop} {s ar : Nat} {M N : mp_M} (h : AO s ar M N) (h1 : X s) (h2 : X ar) : mp_Fr X M N := fun a e q r => by rw [h a (fun z => r (by rw [z]; exact h1)) (fun z => r (by rw [z]; exact h2))]; exact q
def sk_a (f : Nat → Option Nat) : Nat → Nat := fun i => (f i).getD 0
theorem SL.fa {E : mp_E} {X : Nat → Prop} {M : mp_M} {f : Nat → Option Nat} {xs : List am_T} (h : SL E X M f xs) (i : Nat) (hi : i < xs.length) : f i = some (sk_a f i) := by
  obtain ⟨t, h1, -⟩ := h.get (p := xs.length - 1 - i) (by omega)
  rw [show xs.length - 1 - (xs.length - 1 - i) = i by omega] at h1
  simp [sk_a, h1]
theorem SL.rt {E : mp_E} {X : Nat → Prop} {M : mp_M} {f : Nat → Option Nat} {xs : List am_T} (h : SL E X M f xs) {p : Nat} (hp : p < xs.length) : TH E X M (sk_a f (xs.length - 1 - p)) (xs.getD p []) := by
  obtain ⟨t, h1, h2⟩ := h.get hp
  unfold sk_a
  rw [h1]
  exact h2
section STK
variable (l : Launch) {E : mp_E} {X : Nat → Prop} {M : mp_M} {s ar : Nat} {xs : List am_T}
theorem k_clear (h : SK E X M s ar xs) (h1 : X s) (h2 : X ar) : mp_Cr l m_St_clear E M 1 0 0 [.ref s] (fun v N => v = none ∧ SK E X N s ar [] ∧ AO s ar M N) := by
  obtain ⟨nn, f, a1, a2, a3, a4, a5⟩ := h
  have hne := mp_ne a1 a2 mp_noa
  refine (c_St_clear l E M s ar nn _ f a1 a2 a4).mono fun v N ⟨q1, q2⟩ => ⟨q1, ?_, fun a z _ => by rw [q2, mp_n z]⟩
  subst q2
  exact ⟨nn, f, mp_s, by rw [mp_n (Ne.symm hne)]; exact a2, trivial, by simp, a5.keep (mp_Fr.up h1)⟩
theorem k_count (h : SK E X M s ar xs) : mp_Cr l m_St_count E M 1 0 0 [.ref s] (fun v N => v = some (.int (nI xs.length)) ∧ N = M) := by
  obtain ⟨nn, f, a1, a2, a3, a4, a5⟩ := h
  exact c_St_count l E M s ar nn _ f a1 a2 a4
theorem k_holds (h : SK E X M s ar xs) (p : Nat) (hp : p < 100000) : mp_Cr l m_St_holds E M 1 0 0 [.ref s, .int (nI p)] (fun v N => v = some (.int (tf (decide (p < xs.length)))) ∧ N = M) := by
  obtain ⟨nn, f, a1, a2, a3, a4, a5⟩ := h
  exact c_St_holds l E M s ar nn _ p f a1 a2 a4 hp
theorem k_holdsI (h : SK E X M s ar xs) (i : Int32) : mp_Cr l m_St_holds E M 1 0 0 [.ref s, .int i] (fun v N => v = some (.int (tf (decide (¬ i < 0 ∧ i < nI xs.length)))) ∧ N = M) := by
  obtain ⟨nn, f, a1, a2, a3, a4, a5⟩ := h
  exact c_St_holdsI l E M s ar nn _ i f a1 a2 a4
theorem k_peek (h : SK E X M s ar xs) (p : Nat) (hp : p < 100000) : mp_Cr l m_St_peek E M 2 0 0 [.ref s, .int (nI p)] (fun v N => N = M ∧ ∃ t, v = some (.ref t) ∧ TH E X M t (xs.getD p [])) := by
  obtain ⟨nn, f, a1, a2, a3, a4, a5⟩ := h
  refine (c_St_peek l E M s ar nn _ p f (sk_a f) a1 a2 a4 a3.fa hp).mono fun v N ⟨q1, q2⟩ => ⟨q2, _, q1, ?_⟩
  unfold sk_at
  by_cases hz : p < xs.length
  · rw [if_pos hz]; exact a3.rt hz
  · rw [if_neg hz, show xs.getD p [] = [] by simp [List.getD, hz]]; exact a5
theorem k_push {t : Nat} {x : am_T} (h : SK E X M s ar xs) (ht : TH E X M t x) (h1 : X s) (h2 : X ar) (hc : xs.length < 200) : mp_Cr l m_St_push E M 1 0 0 [.ref s, .ref t] (fun v N => v = some (.int (tf true)) ∧ SK E X N s ar (x :: xs) ∧ AO s ar M N) := by
  obtain ⟨nn, f, a1, a2, a3, a4, a5⟩ := h
  obtain ⟨t1, b, t2, t3, t4, t5⟩ := id ht
  have hne := mp_ne a1 a2 mp_noa
  refine (c_St_push l E M s ar nn _ t b f a1 a2 a4 t3 hc).mono fun v N ⟨q1, q2⟩ => ⟨q1, ?_, fun a z z2 => by rw [q2, mp_n z, mp_n z2]⟩
  have fr : mp_Fr X M N := by rw [q2]; exact (mp_Fr.up h2).trans (mp_Fr.up h1)
  refine ⟨nn, va_up f xs.length (some t), by rw [q2]; exact mp_s, by rw [q2, mp_n (Ne.symm hne)]; exact mp_s, ⟨⟨t, va_up_self _ _ _, ht.keep fr⟩, (a3.keep fr).up (Nat.le_refl _)⟩, by simp; omega, a5.keep fr⟩
theorem k_pushN {t : Nat} (h : SK E X M s ar xs) (hc : 200 ≤ xs.length) : mp_Cr l m_St_push E M 1 0 0 [.ref s, .ref t] (fun v N => v = some (.int (tf false)) ∧ N = M) := by
  obtain ⟨nn, f, a1, a2, a3, a4, a5⟩ := h
  exact c_St_pushN l E M s ar nn _ t f a1 a2 a4 hc
theorem k_pop {x : am_T} (h : SK E X M s ar (x :: xs)) (h1 : X s) (h2 : X ar) : mp_Cr l m_St_pop E M 1 0 0 [.ref s] (fun v N => (∃ t, v = some (.ref t) ∧ TH E X N t x) ∧ SK E X N s ar xs ∧ AO s ar M N) := by
  obtain ⟨nn, f, a1, a2, a3, a4, a5⟩ := h
  have hne := mp_ne a1 a2 mp_noa
  have ht := a3.rt (p := 0) (by simp)
  refine (c_St_pop l E M s ar nn _ f (sk_a f) a1 a2 a4 a3.fa (by simp)).mono fun v N ⟨q1, q2⟩ => ?_
  have fr : mp_Fr X M N := by rw [q2]; exact mp_Fr.up h1
  refine ⟨⟨_, q1, ht.keep fr⟩, ⟨nn, f, by rw [q2, mp_s]; simp, by rw [q2, mp_n (Ne.symm hne)]; exact a2, (a3.2).keep fr, by simp at a4; omega, a5.keep fr⟩, fun a z _ => by rw [q2, mp_n z]⟩
theorem SL.drop {f : Nat → Option Nat} : ∀ {xs : List am_T} (j : Nat), SL E X M f xs → SL E X M f (xs.drop j) := by
  intro xs
  induction xs with
  | nil => intro j h; simpa using h
  | cons x xs ih =>
    intro j h
    cases j with
    | zero => exact h
    | succ j => exact ih j h.2
theorem k_drop (h : SK E X M s ar xs) (j : Nat) (h1 : X s) (h2 : X ar) (hj : j ≤ xs.length) : mp_Cr l m_St_drop E M 1 0 0 [.ref s, .int (nI j)] (fun v N => v = some (.int (tf true)) ∧ SK E X N s ar (xs.drop j) ∧ AO s ar M N) := by
  obtain ⟨nn, f, a1, a2, a3, a4, a5⟩ := h
  have hne := mp_ne a1 a2 mp_noa
  refine (c_St_drop l E M s ar nn _ j f a1 a2 a4 hj).mono fun v N ⟨q1, q2⟩ => ⟨q1, ?_, fun a z _ => by rw [q2, mp_n z]⟩
  have fr : mp_Fr X M N := by rw [q2]; exact mp_Fr.up h1
  exact ⟨nn, f, by rw [q2, mp_s]; simp, by rw [q2, mp_n (Ne.symm hne)]; exact a2, (a3.drop j).keep fr, by simp; omega, a5.keep fr⟩
theorem k_dropN (h : SK E X M s ar xs) (j : Nat) (hj : xs.length < j ∧ j < 100000) : mp_Cr l m_St_drop E M 1 0 0 [.ref s, .int (nI j)] (fun v N => v = some (.int (tf false)) ∧ N = M) := by
  obtain ⟨nn, f, a1, a2, a3, a4, a5⟩ := h
  exact c_St_dropN l E M s ar nn _ j f a1 a2 a4 hj
theorem k_take (h : SK E X M s ar xs) (p : Nat) (h1 : X s) (h2 : X ar) (hp : p < xs.length) : mp_Cr l m_St_take E M 3 0 0 [.ref s, .int (nI p)] (fun v N => (∃ t, v = some (.ref t) ∧ TH E X N t (xs.getD p [])) ∧ SK E X N s ar (xs.eraseIdx p) ∧ AO s ar M N) := by
  obtain ⟨nn, f, a1, a2, a3, a4, a5⟩ := h
  have hne := mp_ne a1 a2 mp_noa
  have hT : ∀ i, i < xs.length → ∃ vs, M (sk_a f i) = some (mp_o 5 vs) := fun i hi => by
    have h9 := a3.rt (p := xs.length - 1 - i) (by omega)
    rw [show xs.length - 1 - (xs.length - 1 - i) = i by omega] at h9
    obtain ⟨-, b, -, h8, -, -⟩ := h9
    exact ⟨_, h8⟩
  refine (c_St_take l E M s ar nn _ p f (sk_a f) a1 a2 a4 a3.fa hp hT).mono fun v N ⟨q1, q2⟩ => ?_
  have fr : mp_Fr X M N := by rw [q2]; exact (mp_Fr.up h2).trans (mp_Fr.up h1)
  have hlen : (xs.eraseIdx p).length = xs.length - 1 := by rw [List.length_eraseIdx, if_pos hp]
  refine ⟨⟨_, q1, (a3.rt hp).keep fr⟩, ⟨nn, sk_cut f (xs.length - 1 - p) (xs.length - 1), by rw [q2, mp_s, hlen], by rw [q2, mp_n (Ne.symm hne), mp_s], SL.of fun j hj => ?_, by omega, a5.keep fr⟩, fun a z z2 => by rw [q2, mp_n z, mp_n z2]⟩
  rw [hlen] at hj ⊢
  by_cases hz : j < p
  · refine ⟨sk_a f (xs.length - 1 - j), ?_, ?_⟩
    · unfold sk_cut
      rw [if_pos ⟨by omega, by omega⟩, show xs.length - 1 - 1 - j + 1 = xs.length - 1 - j by omega]
      exact a3.fa _ (by omega)
    · rw [show (xs.eraseIdx p).getD j [] = xs.getD j [] by simp [List.getD, List.getElem?_eraseIdx, hz]]
      exact (a3.rt (p := j) (by omega)).keep fr
  · refine ⟨sk_a f (xs.length - 1 - (j + 1)), ?_, ?_⟩
    · unfold sk_cut
      rw [if_neg (by omega), show xs.length - 1 - 1 - j = xs.length - 1 - (j + 1) by omega]
      exact a3.fa _ (by omega)
    · rw [show (xs.eraseIdx p).getD j [] = xs.getD (j + 1) [] by simp [List.getD, List.getElem?_eraseIdx, hz]]
      exact (a3.rt (p := j + 1) (by omega)).keep fr
theorem k_nums (h : SK E X M s ar xs) (j : Nat) (hj : j ≤ 3) : mp_Cr l m_St_holdsNumbers E M 3 0 0 [.ref s, .int (nI j)] (fun v N => v = some (.int (tf (decide (j ≤ xs.length ∧ ∀ p, p < j → (xs.getD p []).length ≤ 4)))) ∧ N = M) := by
  obtain ⟨nn, f, a1, a2, a3, a4, a5⟩ := h
  have hT : ∀ i, i < xs.length → ∃ b, M (sk_a f i) = some (mp_o 5 [.ref b]) ∧ M b = some (mp_b E (xs.getD (xs.length - 1 - i) []).length (gb (xs.getD (xs.length - 1 - i) []))) ∧ (xs.getD (xs.length - 1 - i) []).length ≤ 1000 := fun i hi => by
    have h9 := a3.rt (p := xs.length - 1 - i) (by omega)
    rw [show xs.length - 1 - (xs.length - 1 - i) = i by omega] at h9
    obtain ⟨-, b, -, h8, h7, h6⟩ := h9
    exact ⟨b, h8, h7, by omega⟩
  have hT2 : ∀ i, ∃ b, i < xs.length → (M (sk_a f i) = some (mp_o 5 [.ref b]) ∧ M b = some (mp_b E (xs.getD (xs.length - 1 - i) []).length (gb (xs.getD (xs.length - 1 - i) []))) ∧ (xs.getD (xs.length - 1 - i) []).length ≤ 1000) := fun i => by
    by_cases hi : i < xs.length
    · obtain ⟨b, h9⟩ := hT i hi
      exact ⟨b, fun _ => h9⟩
    · exact ⟨0, fun z => absurd z hi⟩
  refine (c_St_holdsNumbers l E M s ar nn _ j f (sk_a f) (fun i => (hT2 i).choose) (fun i => (xs.getD (xs.length - 1 - i) []).length) (fun i => gb (xs.getD (xs.length - 1 - i) [])) a1 a2 a4 a3.fa (fun i hi => (hT2 i).choose_spec hi) hj).mono fun v N ⟨q1, q2⟩ => ⟨?_, q2⟩
  rw [q1]
  congr 3
  apply decide_eq_decide.mpr
  constructor
  · intro ⟨z1, z2⟩
    refine ⟨z1, fun p hp => ?_⟩
    have := z2 p hp
    rwa [show xs.length - 1 - (xs.length - 1 - p) = p by omega] at this
  · intro ⟨z1, z2⟩
    refine ⟨z1, fun p hp => ?_⟩
    rw [show xs.length - 1 - (xs.length - 1 - p) = p by omega]
    exact z2 p hp
end STK
