theorem SK.tl {E : mp_E} {X : Nat → Prop} {M : mp_M} {s ar : Nat} {xs : List am_T} (h : SK E X M s ar xs) (p : Nat) : (xs.getD p []).length ≤ 256 := by
  obtain ⟨nn, f, -, -, a, -, -⟩ := h
  by_cases hp : p < xs.length
  · exact (a.rt hp).le
  · rw [show xs.getD p [] = [] by simp [List.getD, hp]]; decide
theorem t_at (l : Launch) {E : mp_E} {X : Nat → Prop} {M : mp_M} {t : Nat} {x : am_T} (h : TH E X M t x) (e : Nat) (he : e < 1000) : mp_Cr l m_Th_byteAt E M 1 0 0 [.ref t, .int (nI e)] (fun v N => v = some (.int (nI (th_at x.length (gb x) e))) ∧ N = M) := by
  obtain ⟨-, b, -, h3, h4, h5⟩ := h
  exact c_Th_byteAt l E M t b _ e _ h3 h4 (by omega) (by omega)
theorem t_word (l : Launch) {E : mp_E} {X : Nat → Prop} {M : mp_M} {t : Nat} {x : am_T} (h : TH E X M t x) (k : Nat) (hk : k ≤ 10) : mp_Cr l m_Th_word E M 2 0 0 [.ref t, .int (nI k)] (fun v N => v = some (.int (th_w x.length (gb x) k 4)) ∧ N = M) := by
  obtain ⟨-, b, -, h3, h4, h5⟩ := h
  exact c_Th_word l E M t b _ k _ h3 h4 (by omega) hk
set_option maxHeartbeats 4000000 in
set_option maxRecDepth 100000 in
theorem c_De_at (l : Launch) (hl0 : l.stackTraces = false) (E : mp_E) (M : mp_M) (h ro len s1 s2 ma sk : Nat) (X : Nat → Prop) (ar : Nat) (zs : List am_T) (i q : Int32) (h0 : M h = some (mp_o 6 [.ref ro, .int (nI len), .ref s1, .ref s2, .ref ma, .ref sk])) (hs : SK E X M sk ar zs) : mp_Ct l m_De_at E M 8 1 6 [.ref h, .int i, .int q] (mp_pq (fun v N => ∃ j e, j < zs.length ∧ i = nI j ∧ e < (zs.getD j []).length ∧ q = nI e ∧ v = some (.int (nI (th_at (zs.getD j []).length (gb (zs.getD j [])) e))) ∧ N = M) (fun x N => x = "java/lang/IndexOutOfBoundsException" ∧ (¬ ∃ j e, j < zs.length ∧ i = nI j ∧ e < (zs.getD j []).length ∧ q = nI e) ∧ N = M)) := by
  refine mp_Ct.of (by decide) (Nat.le_of_ble_eq_true rfl) fun Γ κ hl hκ0 => ?_
  subst hl
  have hl := hl0
  obtain ⟨hκ, hX⟩ := mp_k2 hκ0
  obtain ⟨hκd, hκc, hκs, -⟩ := id hκ
  obtain ⟨zk, uk⟩ := hs.o
  have hle := hs.le
  show mp_J Γ m_De_at E κ M [(0, .ref h), (1, .int i), (2, .int q)] 0 [] 0 0
  refine j_aload_n d_De_at_0 rfl 0 rfl ?_
  refine j_get F_De h0 5 (by decide) w_195 (Or.inl rfl) rfl d_De_at_1 ?_
  refine j_iload_n d_De_at_4 rfl 1 rfl ?_
  refine j_callV (As := [.int i]) (rest := []) (k_holdsI Γ.l hs i) Y_St_holds w_858 w_371 w_372 uk rfl rfl rfl (Nat.le_of_ble_eq_true rfl) (by omega) (by omega) (by omega) d_De_at_5 (fun v5 N5 p5 => ?_)
  obtain ⟨rfl, q5⟩ := p5
  obtain rfl := q5.symm
  show mp_J Γ m_De_at E κ M [(0, .ref h), (1, .int i), (2, .int q)] 8 [.int (tf (decide (¬ i < 0 ∧ i < nI zs.length)))] 0 0
  refine j_tif_eq 30 d_De_at_8 (by decide) (fun b8 => ?_) (fun b8 => ?_)
  · skip
    exact j_throw (names := ["java/lang/RuntimeException", "java/lang/Exception"]) hl (by decide) (by decide) w_859 w_28 x_IOB g_IOB d_De_at_30 d_De_at_33 d_De_at_34 d_De_at_37 (by decide) (Nat.le_of_ble_eq_true rfl) (by omega) rfl (by omega) (by omega) (hX _ _ (by first | exact ⟨rfl, fun ⟨j, e, z1, z2, z3, z4⟩ => of_decide_eq_false b8 ((am_i32s (by omega)).mpr ⟨j, z1, z2⟩), rfl⟩ | exact ⟨rfl, fun ⟨j9, e9, z1, z2, z3, z4⟩ => ((am_i32s (Nat.le_trans (hs.tl j9) (by decide))).mpr ⟨e9, z3, z4⟩).1 b12, rfl⟩ | exact ⟨rfl, fun ⟨j9, e9, z1, z2, z3, z4⟩ => b27 (by have z5 : j = j9 := am_nIinj (by omega) (by omega) (hij.symm.trans z2); rw [z5]; exact ((am_i32s (Nat.le_trans (hs.tl j9) (by decide))).mpr ⟨e9, z3, z4⟩).2), rfl⟩))
  · skip
    obtain ⟨j, hj, hij⟩ := (am_i32s (by omega)).mp (of_decide_eq_true b8)
    rw [hij]
    refine j_iload_n d_De_at_11 rfl 2 rfl ?_
    refine j_if_lt 30 d_De_at_12 (by decide) (fun b12 => ?_) (fun b12 => ?_)
    · skip
      exact j_throw (names := ["java/lang/RuntimeException", "java/lang/Exception"]) hl (by decide) (by decide) w_859 w_28 x_IOB g_IOB d_De_at_30 d_De_at_33 d_De_at_34 d_De_at_37 (by decide) (Nat.le_of_ble_eq_true rfl) (by omega) rfl (by omega) (by omega) (hX _ _ (by first | exact ⟨rfl, fun ⟨j, e, z1, z2, z3, z4⟩ => of_decide_eq_false b8 ((am_i32s (by omega)).mpr ⟨j, z1, z2⟩), rfl⟩ | exact ⟨rfl, fun ⟨j9, e9, z1, z2, z3, z4⟩ => ((am_i32s (Nat.le_trans (hs.tl j9) (by decide))).mpr ⟨e9, z3, z4⟩).1 b12, rfl⟩ | exact ⟨rfl, fun ⟨j9, e9, z1, z2, z3, z4⟩ => b27 (by have z5 : j = j9 := am_nIinj (by omega) (by omega) (hij.symm.trans z2); rw [z5]; exact ((am_i32s (Nat.le_trans (hs.tl j9) (by decide))).mpr ⟨e9, z3, z4⟩).2), rfl⟩))
    · skip
      refine j_iload_n d_De_at_15 rfl 2 rfl ?_
      refine j_aload_n d_De_at_16 rfl 0 rfl ?_
      refine j_get F_De h0 5 (by decide) w_195 (Or.inl rfl) rfl d_De_at_17 ?_
      refine j_iload_n d_De_at_20 rfl 1 rfl ?_
      refine j_callV (As := [.int (nI j)]) (rest := [.int q]) (k_peek Γ.l hs j (by omega)) Y_St_peek w_848 w_686 w_687 uk rfl rfl rfl (Nat.le_of_ble_eq_true rfl) (by omega) (by omega) (by omega) d_De_at_21 (fun v21 N21 p21 => ?_)
      obtain ⟨q21, t21, rfl, ht21⟩ := p21
      obtain rfl := q21.symm
      obtain ⟨zt21, ut21⟩ := ht21.o
      show mp_J Γ m_De_at E κ M [(0, .ref h), (1, .int (nI j)), (2, .int q)] 24 [.ref t21, .int q] 0 0
      refine j_callV (As := []) (rest := [.int q]) (t_len Γ.l ht21) Y_Th_length w_874 w_720 w_721 ut21 rfl rfl rfl (Nat.le_of_ble_eq_true rfl) (by omega) (by omega) (by omega) d_De_at_24 (fun v24 N24 p24 => ?_)
      obtain ⟨rfl, q24⟩ := p24
      obtain rfl := q24.symm
      show mp_J Γ m_De_at E κ M [(0, .ref h), (1, .int (nI j)), (2, .int q)] 27 [.int (nI (zs.getD j []).length), .int q] 0 0
      refine j_icmp_lt 38 d_De_at_27 (by decide) (fun b27 => ?_) (fun b27 => ?_)
      · skip
        obtain ⟨e, he, hqe⟩ := (am_i32s (Nat.le_trans (hs.tl j) (by decide))).mp ⟨b12, b27⟩
        have htl := hs.tl j
        rw [hqe]
        refine j_aload_n d_De_at_38 rfl 0 rfl ?_
        refine j_get F_De h0 5 (by decide) w_195 (Or.inl rfl) rfl d_De_at_39 ?_
        refine j_iload_n d_De_at_42 rfl 1 rfl ?_
        refine j_callV (As := [.int (nI j)]) (rest := []) (k_peek Γ.l hs j (by omega)) Y_St_peek w_848 w_686 w_687 uk rfl rfl rfl (Nat.le_of_ble_eq_true rfl) (by omega) (by omega) (by omega) d_De_at_43 (fun v43 N43 p43 => ?_)
        obtain ⟨q43, t43, rfl, ht43⟩ := p43
        obtain rfl := q43.symm
        obtain ⟨zt43, ut43⟩ := ht43.o
        show mp_J Γ m_De_at E κ M [(0, .ref h), (1, .int (nI j)), (2, .int (nI e))] 46 [.ref t43] 0 0
        refine j_iload_n d_De_at_46 rfl 2 rfl ?_
        refine j_callV (As := [.int (nI e)]) (rest := []) (t_at Γ.l ht43 e (by omega)) Y_Th_byteAt w_882 w_383 w_384 ut43 rfl rfl rfl (Nat.le_of_ble_eq_true rfl) (by omega) (by omega) (by omega) d_De_at_47 (fun v47 N47 p47 => ?_)
        obtain ⟨rfl, q47⟩ := p47
        obtain rfl := q47.symm
        show mp_J Γ m_De_at E κ M [(0, .ref h), (1, .int (nI j)), (2, .int (nI e))] 50 [.int (nI (th_at (zs.getD j []).length (gb (zs.getD j [])) e))] 0 0
        exact j_iret hκ rfl (by omega) (by omega) d_De_at_50 ⟨j, e, hj, hij, he, hqe, rfl, rfl⟩
      · skip
        exact j_throw (names := ["java/lang/RuntimeException", "java/lang/Exception"]) hl (by decide) (by decide) w_859 w_28 x_IOB g_IOB d_De_at_30 d_De_at_33 d_De_at_34 d_De_at_37 (by decide) (Nat.le_of_ble_eq_true rfl) (by omega) rfl (by omega) (by omega) (hX _ _ (by first | exact ⟨rfl, fun ⟨j, e, z1, z2, z3, z4⟩ => of_decide_eq_false b8 ((am_i32s (by omega)).mpr ⟨j, z1, z2⟩), rfl⟩ | exact ⟨rfl, fun ⟨j9, e9, z1, z2, z3, z4⟩ => ((am_i32s (Nat.le_trans (hs.tl j9) (by decide))).mpr ⟨e9, z3, z4⟩).1 b12, rfl⟩ | exact ⟨rfl, fun ⟨j9, e9, z1, z2, z3, z4⟩ => b27 (by have z5 : j = j9 := am_nIinj (by omega) (by omega) (hij.symm.trans z2); rw [z5]; exact ((am_i32s (Nat.le_trans (hs.tl j9) (by decide))).mpr ⟨e9, z3, z4⟩).2), rfl⟩))

def am_shaR (g : Nat → Int32) (n : Nat) : am_T := gl 32 (sm_sha g n)
def am_ripR (g : Nat → Int32) (n : Nat) : am_T := gl 20 (sm_rip g n)
theorem i_shaR (l : Launch) {E : mp_E} {X : Nat → Prop} {M : mp_M} {L : Nat → Nat} {y n k : Nat} {zs m o : List am_T} {b : List Bool} {g : Nat → Int32} {q rn nn : Nat} (hI : IV E X M L y n zs m o b k) (hL : LY X L) (hq : ¬ X q) (hb : M q = some (mp_b E rn g)) (hrn : rn ≤ 1000) (hnn : nn ≤ rn) : mp_Cr l m_Su_of E M 4 2 33 [.ref (L 1), .ref q, .int (nI nn)] (fun v N => ∃ t, v = some (.ref t) ∧ TH E X N t (am_shaR g nn) ∧ IV E X N L y n zs m o b k ∧ mp_Fr X M N) := by
  obtain ⟨s1, s2, ⟨_, s3⟩, ⟨_, s4⟩, ⟨_, s5⟩, ⟨_, s6⟩, ⟨_, s7⟩, ⟨_, s8⟩, ⟨_, s9⟩⟩ := id hI.su
  have hnb : ∀ {i : Nat}, i < 17 → L i ≠ q := fun hi z => hq (by rw [← z]; exact hL.x hi)
  refine (c_of_sh l E M (L 1) (L 2) (L 3) (L 4) q rn nn g _ _ _ s1 hb hrn hnn (hL.ne (by omega) (by omega) (by omega)) (hL.ne (by omega) (by omega) (by omega)) (hL.ne (by omega) (by omega) (by omega)) (hnb (by omega)) (hnb (by omega)) (hnb (by omega)) s4 s5 s3).canon fun v N ⟨q1, q2, a1, a2, a3, a4, a5, a6, ⟨g3, e3⟩, ⟨g4, e4⟩, ⟨g2, e2⟩, fr⟩ => ?_
  have kp : ∀ a e, M a = some e → a ≠ L 3 → a ≠ L 4 → a ≠ L 2 → mp_up N q2 (mp_b E 32 (gb (am_shaR g nn))) a = some e := fun a e h n3 n4 n2 => by
    rw [mp_n (mp_ne0 h a3), fr a n3 n4 n2 (mp_ne0 h a2) (mp_ne0 h a3)]; exact h
  have kl : ∀ i e, i < 17 → i ≠ 3 → i ≠ 4 → i ≠ 2 → M (L i) = some e → mp_up N q2 (mp_b E 32 (gb (am_shaR g nn))) (L i) = some e := fun i e hi n3 n4 n2 h => kp _ _ h (hL.ne hi (by omega) n3) (hL.ne hi (by omega) n4) (hL.ne hi (by omega) n2)
  have fX : mp_Fr X M (mp_up N q2 (mp_b E 32 (gb (am_shaR g nn)))) := fun a e h hX => kp a e h (fun z => hX (by rw [z]; exact hL.x (by omega))) (fun z => hX (by rw [z]; exact hL.x (by omega))) (fun z => hX (by rw [z]; exact hL.x (by omega)))
  have sk : ∀ (i j : Nat) (xs : List am_T), 10 < i → i < 17 → 10 < j → j < 17 → SK E X M (L i) (L j) xs → SK E X (mp_up N q2 (mp_b E 32 (gb (am_shaR g nn)))) (L i) (L j) xs := fun i j xs h1 h2 h3 h4 ⟨nn, f, b1, b2, b3, b4, b5⟩ => ⟨nn, f, kl i _ h2 (by omega) (by omega) (by omega) b1, kl j _ h4 (by omega) (by omega) (by omega) b2, b3.keep fX, b4, b5.keep fX⟩
  have X1 : ¬ X q1 := fun z => hI.xa hL _ z a2
  have X2 : ¬ X q2 := fun z => hI.xa hL _ z a3
  refine ⟨q2, 32, sm_sha g nn, gb (am_shaR g nn), a6, fun j hj => (gl_at hj).symm, q1, a1, ⟨X1, q2, X2, (mp_n a4).trans a5, ?_, ?_⟩, ?_, fX⟩
  · rw [mp_s]; unfold am_shaR; rw [gl_len]
  · unfold am_shaR; rw [gl_len]; omega
  · exact hI.gen fX (kl 0 _ (by omega) (by omega) (by omega) (by omega) hI.mo) ⟨kl 1 _ (by omega) (by omega) (by omega) (by omega) s1, kl 5 _ (by omega) (by omega) (by omega) (by omega) s2, ⟨g2, (mp_n (mp_ne0 s3 a3)).trans e2⟩, ⟨g3, (mp_n (mp_ne0 s4 a3)).trans e3⟩, ⟨g4, (mp_n (mp_ne0 s5 a3)).trans e4⟩, ⟨_, kl 6 _ (by omega) (by omega) (by omega) (by omega) s6⟩, ⟨_, kl 7 _ (by omega) (by omega) (by omega) (by omega) s7⟩, ⟨_, kl 8 _ (by omega) (by omega) (by omega) (by omega) s8⟩, ⟨_, kl 9 _ (by omega) (by omega) (by omega) (by omega) s9⟩⟩ (kl 10 _ (by omega) (by omega) (by omega) (by omega) hI.br) (sk 11 12 _ (by omega) (by omega) (by omega) (by omega) hI.so) (sk 13 14 _ (by omega) (by omega) (by omega) (by omega) hI.sm) (sk 15 16 _ (by omega) (by omega) (by omega) (by omega) hI.sd)
theorem i_ripR (l : Launch) {E : mp_E} {X : Nat → Prop} {M : mp_M} {L : Nat → Nat} {y n k : Nat} {zs m o : List am_T} {b : List Bool} {g : Nat → Int32} {q rn nn : Nat} (hI : IV E X M L y n zs m o b k) (hL : LY X L) (hq : ¬ X q) (hb : M q = some (mp_b E rn g)) (hrn : rn ≤ 1000) (hnn : nn ≤ rn) : mp_Cr l m_Su_of E M 4 2 21 [.ref (L 5), .ref q, .int (nI nn)] (fun v N => ∃ t, v = some (.ref t) ∧ TH E X N t (am_ripR g nn) ∧ IV E X N L y n zs m o b k ∧ mp_Fr X M N) := by
  obtain ⟨s1, s2, ⟨_, s3⟩, ⟨_, s4⟩, ⟨_, s5⟩, ⟨_, s6⟩, ⟨_, s7⟩, ⟨_, s8⟩, ⟨_, s9⟩⟩ := id hI.su
  have hnb : ∀ {i : Nat}, i < 17 → L i ≠ q := fun hi z => hq (by rw [← z]; exact hL.x hi)
  refine (c_of_ri l E M (L 5) (L 6) (L 7) (L 8) (L 9) q rn nn g _ _ _ _ s2 hb hrn hnn (hL.ne (by omega) (by omega) (by omega)) (hL.ne (by omega) (by omega) (by omega)) (hL.ne (by omega) (by omega) (by omega)) (hL.ne (by omega) (by omega) (by omega)) (hL.ne (by omega) (by omega) (by omega)) (hL.ne (by omega) (by omega) (by omega)) (hnb (by omega)) (hnb (by omega)) (hnb (by omega)) (hnb (by omega)) s8 s9 s6 s7).canon fun v N ⟨q1, q2, a1, a2, a3, a4, a5, a6, ⟨g8, e8⟩, ⟨g9, e9⟩, ⟨g6, e6⟩, ⟨g7, e7⟩, fr⟩ => ?_
  have kp : ∀ a e, M a = some e → a ≠ L 8 → a ≠ L 9 → a ≠ L 6 → a ≠ L 7 → mp_up N q2 (mp_b E 20 (gb (am_ripR g nn))) a = some e := fun a e h n8 n9 n6 n7 => by
    rw [mp_n (mp_ne0 h a3), fr a n8 n9 n6 n7 (mp_ne0 h a2) (mp_ne0 h a3)]; exact h
  have kl : ∀ i e, i < 17 → i ≠ 8 → i ≠ 9 → i ≠ 6 → i ≠ 7 → M (L i) = some e → mp_up N q2 (mp_b E 20 (gb (am_ripR g nn))) (L i) = some e := fun i e hi n8 n9 n6 n7 h => kp _ _ h (hL.ne hi (by omega) n8) (hL.ne hi (by omega) n9) (hL.ne hi (by omega) n6) (hL.ne hi (by omega) n7)
  have fX : mp_Fr X M (mp_up N q2 (mp_b E 20 (gb (am_ripR g nn)))) := fun a e h hX => kp a e h (fun z => hX (by rw [z]; exact hL.x (by omega))) (fun z => hX (by rw [z]; exact hL.x (by omega))) (fun z => hX (by rw [z]; exact hL.x (by omega))) (fun z => hX (by rw [z]; exact hL.x (by omega)))
  have sk : ∀ (i j : Nat) (xs : List am_T), 10 < i → i < 17 → 10 < j → j < 17 → SK E X M (L i) (L j) xs → SK E X (mp_up N q2 (mp_b E 20 (gb (am_ripR g nn)))) (L i) (L j) xs := fun i j xs h1 h2 h3 h4 ⟨nn, f, b1, b2, b3, b4, b5⟩ => ⟨nn, f, kl i _ h2 (by omega) (by omega) (by omega) (by omega) b1, kl j _ h4 (by omega) (by omega) (by omega) (by omega) b2, b3.keep fX, b4, b5.keep fX⟩
  have X1 : ¬ X q1 := fun z => hI.xa hL _ z a2
  have X2 : ¬ X q2 := fun z => hI.xa hL _ z a3
  refine ⟨q2, 20, sm_rip g nn, gb (am_ripR g nn), a6, fun j hj => (gl_at hj).symm, q1, a1, ⟨X1, q2, X2, (mp_n a4).trans a5, ?_, ?_⟩, ?_, fX⟩
  · rw [mp_s]; unfold am_ripR; rw [gl_len]
  · unfold am_ripR; rw [gl_len]; omega
  · exact hI.gen fX (kl 0 _ (by omega) (by omega) (by omega) (by omega) (by omega) hI.mo) ⟨kl 1 _ (by omega) (by omega) (by omega) (by omega) (by omega) s1, kl 5 _ (by omega) (by omega) (by omega) (by omega) (by omega) s2, ⟨_, kl 2 _ (by omega) (by omega) (by omega) (by omega) (by omega) s3⟩, ⟨_, kl 3 _ (by omega) (by omega) (by omega) (by omega) (by omega) s4⟩, ⟨_, kl 4 _ (by omega) (by omega) (by omega) (by omega) (by omega) s5⟩, ⟨g6, (mp_n (mp_ne0 s6 a3)).trans e6⟩, ⟨g7, (mp_n (mp_ne0 s7 a3)).trans e7⟩, ⟨g8, (mp_n (mp_ne0 s8 a3)).trans e8⟩, ⟨g9, (mp_n (mp_ne0 s9 a3)).trans e9⟩⟩ (kl 10 _ (by omega) (by omega) (by omega) (by omega) (by omega) hI.br) (sk 11 12 _ (by omega) (by omega) (by omega) (by omega) hI.so) (sk 13 14 _ (by omega) (by omega) (by omega) (by omega) hI.sm) (sk 15 16 _ (by omega) (by omega) (by omega) (by omega) hI.sd)