theorem d_La_feed_0 : decode method_3_code 0 = .ok (.aload 6, 2) := by decide +kernel
theorem d_La_feed_2 : decode method_3_code 2 = .ok (.iconst 0, 1) := by decide +kernel
theorem d_La_feed_3 : decode method_3_code 3 = .ok (.aload_n 0, 1) := by decide +kernel
theorem d_La_feed_4 : decode method_3_code 4 = .ok (.iload_n 1, 1) := by decide +kernel
theorem d_La_feed_5 : decode method_3_code 5 = .ok (.iload_n 2, 1) := by decide +kernel
theorem d_La_feed_6 : decode method_3_code 6 = .ok (.iload_n 3, 1) := by decide +kernel
theorem d_La_feed_7 : decode method_3_code 7 = .ok (.iload 4, 2) := by decide +kernel
theorem d_La_feed_9 : decode method_3_code 9 = .ok (.iload 5, 2) := by decide +kernel
theorem d_La_feed_11 : decode method_3_code 11 = .ok (.invokevirtual 7, 3) := by decide +kernel
theorem d_La_feed_14 : decode method_3_code 14 = .ok (.i2l, 1) := by decide +kernel
theorem d_La_feed_15 : decode method_3_code 15 = .ok (.lastore, 1) := by decide +kernel
theorem d_La_feed_16 : decode method_3_code 16 = .ok (.goto 7, 3) := by decide +kernel
theorem d_La_feed_19 : decode method_3_code 19 = .ok (.astore 7, 2) := by decide +kernel
theorem d_La_feed_21 : decode method_3_code 21 = .ok (.iconst 1, 1) := by decide +kernel
theorem d_La_feed_22 : decode method_3_code 22 = .ok (.ireturn, 1) := by decide +kernel
theorem d_La_feed_23 : decode method_3_code 23 = .ok (.iconst 0, 1) := by decide +kernel
theorem d_La_feed_24 : decode method_3_code 24 = .ok (.ireturn, 1) := by decide +kernel
theorem d_La_end_0 : decode method_4_code 0 = .ok (.aload_n 2, 1) := by decide +kernel
theorem d_La_end_1 : decode method_4_code 1 = .ok (.iconst 0, 1) := by decide +kernel
theorem d_La_end_2 : decode method_4_code 2 = .ok (.aload_n 0, 1) := by decide +kernel
theorem d_La_end_3 : decode method_4_code 3 = .ok (.iload_n 1, 1) := by decide +kernel
theorem d_La_end_4 : decode method_4_code 4 = .ok (.invokevirtual 15, 3) := by decide +kernel
theorem d_La_end_7 : decode method_4_code 7 = .ok (.i2l, 1) := by decide +kernel
theorem d_La_end_8 : decode method_4_code 8 = .ok (.lastore, 1) := by decide +kernel
theorem d_La_end_9 : decode method_4_code 9 = .ok (.goto 6, 3) := by decide +kernel
theorem d_La_end_12 : decode method_4_code 12 = .ok (.astore_n 3, 1) := by decide +kernel
theorem d_La_end_13 : decode method_4_code 13 = .ok (.iconst 1, 1) := by decide +kernel
theorem d_La_end_14 : decode method_4_code 14 = .ok (.ireturn, 1) := by decide +kernel
theorem d_La_end_15 : decode method_4_code 15 = .ok (.iconst 0, 1) := by decide +kernel
theorem d_La_end_16 : decode method_4_code 16 = .ok (.ireturn, 1) := by decide +kernel
theorem d_La_run_0 : decode method_5_code 0 = .ok (.aload_n 2, 1) := by decide +kernel
theorem d_La_run_1 : decode method_5_code 1 = .ok (.iconst 0, 1) := by decide +kernel
theorem d_La_run_2 : decode method_5_code 2 = .ok (.aload_n 0, 1) := by decide +kernel
theorem d_La_run_3 : decode method_5_code 3 = .ok (.iload_n 1, 1) := by decide +kernel
theorem d_La_run_4 : decode method_5_code 4 = .ok (.invokevirtual 21, 3) := by decide +kernel
theorem d_La_run_7 : decode method_5_code 7 = .ok (.i2l, 1) := by decide +kernel
theorem d_La_run_8 : decode method_5_code 8 = .ok (.lastore, 1) := by decide +kernel
theorem d_La_run_9 : decode method_5_code 9 = .ok (.goto 6, 3) := by decide +kernel
theorem d_La_run_12 : decode method_5_code 12 = .ok (.astore_n 3, 1) := by decide +kernel
theorem d_La_run_13 : decode method_5_code 13 = .ok (.iconst 1, 1) := by decide +kernel
theorem d_La_run_14 : decode method_5_code 14 = .ok (.ireturn, 1) := by decide +kernel
theorem d_La_run_15 : decode method_5_code 15 = .ok (.iconst 0, 1) := by decide +kernel
theorem d_La_run_16 : decode method_5_code 16 = .ok (.ireturn, 1) := by decide +kernel
theorem d_La_size_0 : decode method_6_code 0 = .ok (.aload_n 2, 1) := by decide +kernel
theorem d_La_size_1 : decode method_6_code 1 = .ok (.iconst 0, 1) := by decide +kernel
theorem d_La_size_2 : decode method_6_code 2 = .ok (.aload_n 0, 1) := by decide +kernel
theorem d_La_size_3 : decode method_6_code 3 = .ok (.iload_n 1, 1) := by decide +kernel
theorem d_La_size_4 : decode method_6_code 4 = .ok (.invokevirtual 24, 3) := by decide +kernel
theorem d_La_size_7 : decode method_6_code 7 = .ok (.i2l, 1) := by decide +kernel
theorem d_La_size_8 : decode method_6_code 8 = .ok (.lastore, 1) := by decide +kernel
theorem d_La_size_9 : decode method_6_code 9 = .ok (.goto 6, 3) := by decide +kernel
theorem d_La_size_12 : decode method_6_code 12 = .ok (.astore_n 3, 1) := by decide +kernel
theorem d_La_size_13 : decode method_6_code 13 = .ok (.iconst 1, 1) := by decide +kernel
theorem d_La_size_14 : decode method_6_code 14 = .ok (.ireturn, 1) := by decide +kernel
theorem d_La_size_15 : decode method_6_code 15 = .ok (.iconst 0, 1) := by decide +kernel
theorem d_La_size_16 : decode method_6_code 16 = .ok (.ireturn, 1) := by decide +kernel
theorem d_La_at_0 : decode method_7_code 0 = .ok (.aload_n 3, 1) := by decide +kernel
theorem d_La_at_1 : decode method_7_code 1 = .ok (.iconst 0, 1) := by decide +kernel
theorem d_La_at_2 : decode method_7_code 2 = .ok (.aload_n 0, 1) := by decide +kernel
theorem d_La_at_3 : decode method_7_code 3 = .ok (.iload_n 1, 1) := by decide +kernel
theorem d_La_at_4 : decode method_7_code 4 = .ok (.iload_n 2, 1) := by decide +kernel
theorem d_La_at_5 : decode method_7_code 5 = .ok (.invokevirtual 29, 3) := by decide +kernel
theorem d_La_at_8 : decode method_7_code 8 = .ok (.i2l, 1) := by decide +kernel
theorem d_La_at_9 : decode method_7_code 9 = .ok (.lastore, 1) := by decide +kernel
theorem d_La_at_10 : decode method_7_code 10 = .ok (.goto 7, 3) := by decide +kernel
theorem d_La_at_13 : decode method_7_code 13 = .ok (.astore 4, 2) := by decide +kernel
theorem d_La_at_15 : decode method_7_code 15 = .ok (.iconst 1, 1) := by decide +kernel
theorem d_La_at_16 : decode method_7_code 16 = .ok (.ireturn, 1) := by decide +kernel
theorem d_La_at_17 : decode method_7_code 17 = .ok (.iconst 0, 1) := by decide +kernel
theorem d_La_at_18 : decode method_7_code 18 = .ok (.ireturn, 1) := by decide +kernel
theorem d_La_number_0 : decode method_8_code 0 = .ok (.aload_n 2, 1) := by decide +kernel
theorem d_La_number_1 : decode method_8_code 1 = .ok (.iconst 0, 1) := by decide +kernel
theorem d_La_number_2 : decode method_8_code 2 = .ok (.aload_n 0, 1) := by decide +kernel
theorem d_La_number_3 : decode method_8_code 3 = .ok (.iload_n 1, 1) := by decide +kernel
theorem d_La_number_4 : decode method_8_code 4 = .ok (.invokevirtual 33, 3) := by decide +kernel
theorem d_La_number_7 : decode method_8_code 7 = .ok (.i2l, 1) := by decide +kernel
theorem d_La_number_8 : decode method_8_code 8 = .ok (.lastore, 1) := by decide +kernel
theorem d_La_number_9 : decode method_8_code 9 = .ok (.goto 9, 3) := by decide +kernel
theorem d_La_number_12 : decode method_8_code 12 = .ok (.astore_n 3, 1) := by decide +kernel
theorem d_La_number_13 : decode method_8_code 13 = .ok (.iconst 1, 1) := by decide +kernel
theorem d_La_number_14 : decode method_8_code 14 = .ok (.ireturn, 1) := by decide +kernel
theorem d_La_number_15 : decode method_8_code 15 = .ok (.astore_n 3, 1) := by decide +kernel
theorem d_La_number_16 : decode method_8_code 16 = .ok (.iconst 2, 1) := by decide +kernel
theorem d_La_number_17 : decode method_8_code 17 = .ok (.ireturn, 1) := by decide +kernel
theorem d_La_number_18 : decode method_8_code 18 = .ok (.iconst 0, 1) := by decide +kernel
theorem d_La_number_19 : decode method_8_code 19 = .ok (.ireturn, 1) := by decide +kernel
theorem d_La_sigs_0 : decode method_9_code 0 = .ok (.aload_n 2, 1) := by decide +kernel
theorem d_La_sigs_1 : decode method_9_code 1 = .ok (.iconst 0, 1) := by decide +kernel
theorem d_La_sigs_2 : decode method_9_code 2 = .ok (.aload_n 0, 1) := by decide +kernel
theorem d_La_sigs_3 : decode method_9_code 3 = .ok (.iload_n 1, 1) := by decide +kernel
theorem d_La_sigs_4 : decode method_9_code 4 = .ok (.invokevirtual 38, 3) := by decide +kernel
theorem d_La_sigs_7 : decode method_9_code 7 = .ok (.i2l, 1) := by decide +kernel
theorem d_La_sigs_8 : decode method_9_code 8 = .ok (.lastore, 1) := by decide +kernel
theorem d_La_sigs_9 : decode method_9_code 9 = .ok (.goto 6, 3) := by decide +kernel
theorem d_La_sigs_12 : decode method_9_code 12 = .ok (.astore_n 3, 1) := by decide +kernel
theorem d_La_sigs_13 : decode method_9_code 13 = .ok (.iconst 1, 1) := by decide +kernel
theorem d_La_sigs_14 : decode method_9_code 14 = .ok (.ireturn, 1) := by decide +kernel
theorem d_La_sigs_15 : decode method_9_code 15 = .ok (.iconst 0, 1) := by decide +kernel
theorem d_La_sigs_16 : decode method_9_code 16 = .ok (.ireturn, 1) := by decide +kernel
theorem d_La_hash_0 : decode method_10_code 0 = .ok (.aload_n 3, 1) := by decide +kernel
theorem d_La_hash_1 : decode method_10_code 1 = .ok (.iconst 0, 1) := by decide +kernel
theorem d_La_hash_2 : decode method_10_code 2 = .ok (.aload_n 0, 1) := by decide +kernel
theorem d_La_hash_3 : decode method_10_code 3 = .ok (.iload_n 1, 1) := by decide +kernel
theorem d_La_hash_4 : decode method_10_code 4 = .ok (.iload_n 2, 1) := by decide +kernel
theorem d_La_hash_5 : decode method_10_code 5 = .ok (.invokevirtual 41, 3) := by decide +kernel
theorem d_La_hash_8 : decode method_10_code 8 = .ok (.i2l, 1) := by decide +kernel
theorem d_La_hash_9 : decode method_10_code 9 = .ok (.lastore, 1) := by decide +kernel
theorem d_La_hash_10 : decode method_10_code 10 = .ok (.goto 7, 3) := by decide +kernel
theorem d_La_hash_13 : decode method_10_code 13 = .ok (.astore 4, 2) := by decide +kernel
theorem d_La_hash_15 : decode method_10_code 15 = .ok (.iconst 1, 1) := by decide +kernel
theorem d_La_hash_16 : decode method_10_code 16 = .ok (.ireturn, 1) := by decide +kernel
theorem d_La_hash_17 : decode method_10_code 17 = .ok (.iconst 0, 1) := by decide +kernel
theorem d_La_hash_18 : decode method_10_code 18 = .ok (.ireturn, 1) := by decide +kernel

theorem ls_feed (l : Launch) (hl0 : l.stackTraces = false) {E : mp_E} {M : mp_M} {h out : Nat} {R : Nat → Nat} {fo : Nat → Int64} {ld lr : Nat} {gd gr : Nat → Int32} {zd zr : List am_T} {thr : Int32} (q : LwS E M h out R fo ld gd zd lr thr gr zr) (a b c d e : Int32) : mp_Ct l m_De_feed E M 8 (1) (6) [.ref h, .int a, .int b, .int c, .int d, .int e] (mp_pq (fun v N => ld ≤ 980 ∧ v = some (.int (nI (ld + 20))) ∧ LwS E N h out R fo (ld + 20) (ap_5 gd ld a b c d e) zd lr thr gr zr) (fun x N => x = "java/lang/IllegalStateException" ∧ (980 < ld) ∧ LwS E N h out R fo ld gd zd lr thr gr zr)) :=
  q.desk (fun D hD => dk_feed l hl0 hD a b c d e) fun oc ND N hp hk => by
    cases oc with
    | inl v =>
      obtain ⟨e0_, ev, es⟩ := hp
      exact ⟨e0_, ev, hk _ _ _ es⟩
    | inr x =>
      obtain ⟨z1, z2, z3⟩ := hp
      exact ⟨z1, z2, hk _ _ _ z3⟩
theorem ls_end (l : Launch) (hl0 : l.stackTraces = false) {E : mp_E} {M : mp_M} {h out : Nat} {R : Nat → Nat} {fo : Nat → Int64} {ld lr : Nat} {gd gr : Nat → Int32} {zd zr : List am_T} {thr : Int32} (q : LwS E M h out R fo ld gd zd lr thr gr zr) (i : Int32) : mp_Ct l m_De_end E M 8 (1) (6) [.ref h, .int i] (mp_pq (fun v N => ∃ j, j ≤ ld ∧ i = nI j ∧ v = some (.int (nI j)) ∧ LwS E N h out R fo j gd zd lr thr gr zr) (fun x N => x = "java/lang/IllegalArgumentException" ∧ (¬ ∃ j, j ≤ ld ∧ i = nI j) ∧ LwS E N h out R fo ld gd zd lr thr gr zr)) :=
  q.desk (fun D hD => dk_end l hl0 hD i) fun oc ND N hp hk => by
    cases oc with
    | inl v =>
      obtain ⟨j, e0_, e1_, ev, es⟩ := hp
      exact ⟨j, e0_, e1_, ev, hk _ _ _ es⟩
    | inr x =>
      obtain ⟨z1, z2, z3⟩ := hp
      exact ⟨z1, z2, hk _ _ _ z3⟩
theorem ls_run (l : Launch) (hl0 : l.stackTraces = false) {E : mp_E} {M : mp_M} {h out : Nat} {R : Nat → Nat} {fo : Nat → Int64} {ld lr : Nat} {gd gr : Nat → Int32} {zd zr : List am_T} {thr : Int32} (q : LwS E M h out R fo ld gd zd lr thr gr zr) (i : Int32) : mp_Ct l m_De_run E M 9 (4 * ld + 1) (66 * ld + 6) [.ref h, .int i] (mp_pq (fun v N => ∃ j, j ≤ ld ∧ i = nI j ∧ v = some (.int (nI (am_ans (am_two gd j ld)))) ∧ LwS E N h out R fo 0 gd (match am_two gd j ld with | none => zd | some ms => ms) lr thr gr zr) (fun x N => x = "java/lang/IllegalArgumentException" ∧ (¬ ∃ j, j ≤ ld ∧ i = nI j) ∧ LwS E N h out R fo ld gd zd lr thr gr zr)) :=
  q.desk (fun D hD => dk_run l hl0 hD i) fun oc ND N hp hk => by
    cases oc with
    | inl v =>
      obtain ⟨j, e0_, e1_, ev, es⟩ := hp
      exact ⟨j, e0_, e1_, ev, hk _ _ _ es⟩
    | inr x =>
      obtain ⟨z1, z2, z3⟩ := hp
      exact ⟨z1, z2, hk _ _ _ z3⟩
theorem ls_size (l : Launch) (hl0 : l.stackTraces = false) {E : mp_E} {M : mp_M} {h out : Nat} {R : Nat → Nat} {fo : Nat → Int64} {ld lr : Nat} {gd gr : Nat → Int32} {zd zr : List am_T} {thr : Int32} (q : LwS E M h out R fo ld gd zd lr thr gr zr) (i : Int32) : mp_Ct l m_De_size E M 8 (1) (6) [.ref h, .int i] (mp_pq (fun v N => ∃ j, j < zd.length ∧ i = nI j ∧ v = some (.int (nI (zd.getD j []).length)) ∧ LwS E N h out R fo ld gd zd lr thr gr zr) (fun x N => x = "java/lang/IndexOutOfBoundsException" ∧ (¬ ∃ j, j < zd.length ∧ i = nI j) ∧ LwS E N h out R fo ld gd zd lr thr gr zr)) :=
  q.desk (fun D hD => dk_size l hl0 hD i) fun oc ND N hp hk => by
    cases oc with
    | inl v =>
      obtain ⟨j, e0_, e1_, ev, es⟩ := hp
      exact ⟨j, e0_, e1_, ev, hk _ _ _ es⟩
    | inr x =>
      obtain ⟨z1, z2, z3⟩ := hp
      exact ⟨z1, z2, hk _ _ _ z3⟩
theorem ls_at (l : Launch) (hl0 : l.stackTraces = false) {E : mp_E} {M : mp_M} {h out : Nat} {R : Nat → Nat} {fo : Nat → Int64} {ld lr : Nat} {gd gr : Nat → Int32} {zd zr : List am_T} {thr : Int32} (q : LwS E M h out R fo ld gd zd lr thr gr zr) (i c : Int32) : mp_Ct l m_De_at E M 8 (1) (6) [.ref h, .int i, .int c] (mp_pq (fun v N => ∃ j e, j < zd.length ∧ i = nI j ∧ e < (zd.getD j []).length ∧ c = nI e ∧ v = some (.int (nI (th_at (zd.getD j []).length (gb (zd.getD j [])) e))) ∧ LwS E N h out R fo ld gd zd lr thr gr zr) (fun x N => x = "java/lang/IndexOutOfBoundsException" ∧ (¬ ∃ j e, j < zd.length ∧ i = nI j ∧ e < (zd.getD j []).length ∧ c = nI e) ∧ LwS E N h out R fo ld gd zd lr thr gr zr)) :=
  q.desk (fun D hD => dk_at l hl0 hD i c) fun oc ND N hp hk => by
    cases oc with
    | inl v =>
      obtain ⟨j, e, e0_, e1_, e2_, e3_, ev, es⟩ := hp
      exact ⟨j, e, e0_, e1_, e2_, e3_, ev, hk _ _ _ es⟩
    | inr x =>
      obtain ⟨z1, z2, z3⟩ := hp
      exact ⟨z1, z2, hk _ _ _ z3⟩
theorem ls_number (l : Launch) (hl0 : l.stackTraces = false) {E : mp_E} {M : mp_M} {h out : Nat} {R : Nat → Nat} {fo : Nat → Int64} {ld lr : Nat} {gd gr : Nat → Int32} {zd zr : List am_T} {thr : Int32} (q : LwS E M h out R fo ld gd zd lr thr gr zr) (i : Int32) : mp_Ct l m_De_number E M 8 (1) (6) [.ref h, .int i] (mp_pq (fun v N => ∃ j, j < zd.length ∧ i = nI j ∧ (zd.getD j []).length ≤ 4 ∧ v = some (.int ((am_num (zd.getD j [])).toInt32)) ∧ LwS E N h out R fo ld gd zd lr thr gr zr) (fun x N => (x = "java/lang/IndexOutOfBoundsException" ∧ (¬ ∃ j, j < zd.length ∧ i = nI j) ∧ LwS E N h out R fo ld gd zd lr thr gr zr) ∨ (x = "java/lang/ArithmeticException" ∧ (∃ j, j < zd.length ∧ i = nI j ∧ ¬ (zd.getD j []).length ≤ 4) ∧ LwS E N h out R fo ld gd zd lr thr gr zr))) :=
  q.desk (fun D hD => dk_number l hl0 hD i) fun oc ND N hp hk => by
    cases oc with
    | inl v =>
      obtain ⟨j, e0_, e1_, e2_, ev, es⟩ := hp
      exact ⟨j, e0_, e1_, e2_, ev, hk _ _ _ es⟩
    | inr x =>
      rcases hp with ⟨z1, z2, z3⟩ | ⟨z1, z2, z3⟩
      · exact Or.inl ⟨z1, z2, hk _ _ _ z3⟩
      · exact Or.inr ⟨z1, z2, hk _ _ _ z3⟩
theorem ls_sigs (l : Launch) (hl0 : l.stackTraces = false) {E : mp_E} {M : mp_M} {h out : Nat} {R : Nat → Nat} {fo : Nat → Int64} {ld lr : Nat} {gd gr : Nat → Int32} {zd zr : List am_T} {thr : Int32} (q : LwS E M h out R fo ld gd zd lr thr gr zr) (i : Int32) : mp_Ct l m_De_sigs E M 8 (1) (6) [.ref h, .int i] (mp_pq (fun v N => ∃ j, j ≤ ld ∧ i = nI j ∧ v = some (.int (nI (sg_run gd j (j + 1) 0 0))) ∧ LwS E N h out R fo ld gd zd lr thr gr zr) (fun x N => x = "java/lang/IllegalArgumentException" ∧ (¬ ∃ j, j ≤ ld ∧ i = nI j) ∧ LwS E N h out R fo ld gd zd lr thr gr zr)) :=
  q.desk (fun D hD => dk_sigs l hl0 hD i) fun oc ND N hp hk => by
    cases oc with
    | inl v =>
      obtain ⟨j, e0_, e1_, ev, es⟩ := hp
      exact ⟨j, e0_, e1_, ev, hk _ _ _ es⟩
    | inr x =>
      obtain ⟨z1, z2, z3⟩ := hp
      exact ⟨z1, z2, hk _ _ _ z3⟩
theorem ls_hash (l : Launch) (hl0 : l.stackTraces = false) {E : mp_E} {M : mp_M} {h out : Nat} {R : Nat → Nat} {fo : Nat → Int64} {ld lr : Nat} {gd gr : Nat → Int32} {zd zr : List am_T} {thr : Int32} (q : LwS E M h out R fo ld gd zd lr thr gr zr) (a c : Int32) : mp_Ct l m_De_hash E M 8 (4) (66) [.ref h, .int a, .int c] (mp_pq (fun v N => ∃ w r, w ≤ 2 ∧ a = nI w ∧ r ≤ (if w = 2 then 4 else 7) ∧ c = nI r ∧ v = some (.int (th_w (am_hs gd ld w).length (gb (am_hs gd ld w)) r 4)) ∧ LwS E N h out R fo ld gd zd lr thr gr zr) (fun x N => x = "java/lang/IllegalArgumentException" ∧ (¬ ∃ w r, w ≤ 2 ∧ a = nI w ∧ r ≤ (if w = 2 then 4 else 7) ∧ c = nI r) ∧ LwS E N h out R fo ld gd zd lr thr gr zr)) :=
  q.desk (fun D hD => dk_hash l hl0 hD a c) fun oc ND N hp hk => by
    cases oc with
    | inl v =>
      obtain ⟨w, r, e0_, e1_, e2_, e3_, ev, es⟩ := hp
      exact ⟨w, r, e0_, e1_, e2_, e3_, ev, hk _ _ _ es⟩
    | inr x =>
      obtain ⟨z1, z2, z3⟩ := hp
      exact ⟨z1, z2, hk _ _ _ z3⟩
theorem j_nc {Γ : mp_G} {μ : mp_D} {E : mp_E} {κ : mp_K} {M : mp_M} {lv : List (Nat × Value)} {pc : Nat} {st : List Value} {k n : Nat} (kk : va_Nc "java/lang/ArithmeticException" "java/lang/IndexOutOfBoundsException" Γ.s → mp_J Γ μ E κ M lv pc st k n) : mp_J Γ μ E κ M lv pc st k n := fun hC => kk (by
  obtain ⟨hx, hb, hml, hown, hr, hlk, hnm, hTB, hK, hSt, hrest⟩ := id hC
  exact hSt.2.2.2) hC
set_option maxHeartbeats 4000000 in
set_option maxRecDepth 100000 in
theorem c_La_feed (l : Launch) (hl0 : l.stackTraces = false) {E : mp_E} {M : mp_M} {h out : Nat} {R : Nat → Nat} {fo : Nat → Int64} {ld lr : Nat} {gd gr : Nat → Int32} {zd zr : List am_T} {thr : Int32} (hS : LwS E M h out R fo ld gd zd lr thr gr zr) (a b c d e : Int32) : mp_Cw l m_La_feed [((0 : Nat), (16 : Nat), (19 : Nat), (13 : Nat))] E M 9 (1) (6) [.ref h, .int a, .int b, .int c, .int d, .int e, .ref out] (fun v N => (ld ≤ 980 ∧ v = some (.int (nI 0)) ∧ ∃ fo' : Nat → Int64, fo' 0 = (nI (ld + 20)).toInt64 ∧ LwS E N h out R fo' (ld + 20) (ap_5 gd ld a b c d e) zd lr thr gr zr) ∨ ((980 < ld) ∧ v = some (.int (nI 1)) ∧ LwS E N h out R fo ld gd zd lr thr gr zr)) := by
  refine mp_Cw.of (by decide) rfl (Nat.le_of_ble_eq_true rfl) fun Γ κ hl hκ hT => ?_
  subst hl
  obtain ⟨hκd, hκc, hκs, -⟩ := id hκ
  obtain ⟨fs, hh⟩ := hS.hh
  show mp_J Γ m_La_feed E κ M [(0, .ref h), (1, .int a), (2, .int b), (3, .int c), (4, .int d), (5, .int e), (6, .ref out)] 0 [] 0 0
  refine j_aload d_La_feed_0 6 rfl ?_
  refine j_iconst (v := nI 0) d_La_feed_2 (by decide) ?_
  refine j_aload_n d_La_feed_3 rfl 0 rfl ?_
  refine j_iload_n d_La_feed_4 rfl 1 rfl ?_
  refine j_iload_n d_La_feed_5 rfl 2 rfl ?_
  refine j_iload_n d_La_feed_6 rfl 3 rfl ?_
  refine j_iload d_La_feed_7 4 rfl ?_
  refine j_iload d_La_feed_9 5 rfl ?_
  refine j_callVC (As := [.int a, .int b, .int c, .int d, .int e]) (rest := [.int (nI 0), .ref out]) (ls_feed Γ.l hl0 hS a b c d e) Y_De_feed w_221 w_222 w_223 hh rfl rfl rfl (Nat.le_of_ble_eq_true rfl) (by omega) (by omega) (by omega) d_La_feed_11 (fun v N hp => ?_) (fun X N hp => ?_)
  · skip
    obtain ⟨e0_, rfl, hN⟩ := hp
    show mp_J Γ m_La_feed E κ N [(0, .ref h), (1, .int a), (2, .int b), (3, .int c), (4, .int d), (5, .int e), (6, .ref out)] 14 [.int (nI (ld + 20)), .int (nI 0), .ref out] (0 + (1)) (0 + (6))
    refine j_i2l d_La_feed_14 ?_
    refine j_last hN.ho 0 rfl (by omega) (by omega) d_La_feed_15 ?_
    generalize eM1 : mp_up N out (mp_l E 1 (vp_updL fo 0 ((nI (ld + 20)).toInt64))) = M1
    have hM1_out : M1 out = some (mp_l E 1 (vp_updL fo 0 ((nI (ld + 20)).toInt64))) := by rw [← eM1]; exact mp_s
    refine j_goto (tgt := 23) d_La_feed_16 (by decide) ?_
    refine j_iconst (v := nI 0) d_La_feed_23 (by decide) ?_
    exact j_iret hκ rfl (by omega) (by omega) d_La_feed_24 (Or.inl ⟨e0_, rfl, _, pk_uLs, hN.wr eM1⟩)
  · skip
    obtain ⟨rfl, hno, hN⟩ := hp
    refine ⟨"java/lang/IllegalStateException", [], ⟨0, 16, 19, 13⟩, [], (by rw [hT]; rfl), (fun z hz => nomatch hz), (by decide), (by decide), w_220, w_227, fun q => ?_⟩
    show mp_J Γ m_La_feed E κ N [(0, .ref h), (1, .int a), (2, .int b), (3, .int c), (4, .int d), (5, .int e), (6, .ref out)] 19 [.ref q] (0 + (1)) (0 + (6))
    refine j_astore [(7, .ref q), (0, .ref h), (1, .int a), (2, .int b), (3, .int c), (4, .int d), (5, .int e), (6, .ref out)] d_La_feed_19 (by decide) rfl ?_
    refine j_iconst (v := nI 1) d_La_feed_21 (by decide) ?_
    exact j_iret hκ rfl (by omega) (by omega) d_La_feed_22 (Or.inr ⟨hno, rfl, hN⟩)

set_option maxHeartbeats 4000000 in
set_option maxRecDepth 100000 in
theorem c_La_end (l : Launch) (hl0 : l.stackTraces = false) {E : mp_E} {M : mp_M} {h out : Nat} {R : Nat → Nat} {fo : Nat → Int64} {ld lr : Nat} {gd gr : Nat → Int32} {zd zr : List am_T} {thr : Int32} (hS : LwS E M h out R fo ld gd zd lr thr gr zr) (i : Int32) : mp_Cw l m_La_end [((0 : Nat), (9 : Nat), (12 : Nat), (19 : Nat))] E M 9 (1) (6) [.ref h, .int i, .ref out] (fun v N => (∃ j, j ≤ ld ∧ i = nI j ∧ v = some (.int (nI 0)) ∧ ∃ fo' : Nat → Int64, fo' 0 = (nI j).toInt64 ∧ LwS E N h out R fo' j gd zd lr thr gr zr) ∨ ((¬ ∃ j, j ≤ ld ∧ i = nI j) ∧ v = some (.int (nI 1)) ∧ LwS E N h out R fo ld gd zd lr thr gr zr)) := by
  refine mp_Cw.of (by decide) rfl (Nat.le_of_ble_eq_true rfl) fun Γ κ hl hκ hT => ?_
  subst hl
  obtain ⟨hκd, hκc, hκs, -⟩ := id hκ
  obtain ⟨fs, hh⟩ := hS.hh
  show mp_J Γ m_La_end E κ M [(0, .ref h), (1, .int i), (2, .ref out)] 0 [] 0 0
  refine j_aload_n d_La_end_0 rfl 2 rfl ?_
  refine j_iconst (v := nI 0) d_La_end_1 (by decide) ?_
  refine j_aload_n d_La_end_2 rfl 0 rfl ?_
  refine j_iload_n d_La_end_3 rfl 1 rfl ?_
  refine j_callVC (As := [.int i]) (rest := [.int (nI 0), .ref out]) (ls_end Γ.l hl0 hS i) Y_De_end w_298 w_299 w_300 hh rfl rfl rfl (Nat.le_of_ble_eq_true rfl) (by omega) (by omega) (by omega) d_La_end_4 (fun v N hp => ?_) (fun X N hp => ?_)
  · skip
    obtain ⟨j, e0_, e1_, rfl, hN⟩ := hp
    show mp_J Γ m_La_end E κ N [(0, .ref h), (1, .int i), (2, .ref out)] 7 [.int (nI j), .int (nI 0), .ref out] (0 + (1)) (0 + (6))
    refine j_i2l d_La_end_7 ?_
    refine j_last hN.ho 0 rfl (by omega) (by omega) d_La_end_8 ?_
    generalize eM1 : mp_up N out (mp_l E 1 (vp_updL fo 0 ((nI j).toInt64))) = M1
    have hM1_out : M1 out = some (mp_l E 1 (vp_updL fo 0 ((nI j).toInt64))) := by rw [← eM1]; exact mp_s
    refine j_goto (tgt := 15) d_La_end_9 (by decide) ?_
    refine j_iconst (v := nI 0) d_La_end_15 (by decide) ?_
    exact j_iret hκ rfl (by omega) (by omega) d_La_end_16 (Or.inl ⟨j, e0_, e1_, rfl, _, pk_uLs, hN.wr eM1⟩)
  · skip
    obtain ⟨rfl, hno, hN⟩ := hp
    refine ⟨"java/lang/IllegalArgumentException", [], ⟨0, 9, 12, 19⟩, [], (by rw [hT]; rfl), (fun z hz => nomatch hz), (by decide), (by decide), w_297, w_308, fun q => ?_⟩
    show mp_J Γ m_La_end E κ N [(0, .ref h), (1, .int i), (2, .ref out)] 12 [.ref q] (0 + (1)) (0 + (6))
    refine j_astore_n [(3, .ref q), (0, .ref h), (1, .int i), (2, .ref out)] d_La_end_12 rfl (by decide) rfl ?_
    refine j_iconst (v := nI 1) d_La_end_13 (by decide) ?_
    exact j_iret hκ rfl (by omega) (by omega) d_La_end_14 (Or.inr ⟨hno, rfl, hN⟩)

set_option maxHeartbeats 4000000 in
set_option maxRecDepth 100000 in
theorem c_La_run (l : Launch) (hl0 : l.stackTraces = false) {E : mp_E} {M : mp_M} {h out : Nat} {R : Nat → Nat} {fo : Nat → Int64} {ld lr : Nat} {gd gr : Nat → Int32} {zd zr : List am_T} {thr : Int32} (hS : LwS E M h out R fo ld gd zd lr thr gr zr) (i : Int32) : mp_Cw l m_La_run [((0 : Nat), (9 : Nat), (12 : Nat), (19 : Nat))] E M 10 (4 * ld + 1) (66 * ld + 6) [.ref h, .int i, .ref out] (fun v N => (∃ j, j ≤ ld ∧ i = nI j ∧ v = some (.int (nI 0)) ∧ ∃ fo' : Nat → Int64, fo' 0 = (nI (am_ans (am_two gd j ld))).toInt64 ∧ LwS E N h out R fo' 0 gd (match am_two gd j ld with | none => zd | some ms => ms) lr thr gr zr) ∨ ((¬ ∃ j, j ≤ ld ∧ i = nI j) ∧ v = some (.int (nI 1)) ∧ LwS E N h out R fo ld gd zd lr thr gr zr)) := by
  refine mp_Cw.of (by decide) rfl (Nat.le_of_ble_eq_true rfl) fun Γ κ hl hκ hT => ?_
  subst hl
  obtain ⟨hκd, hκc, hκs, -⟩ := id hκ
  obtain ⟨fs, hh⟩ := hS.hh
  show mp_J Γ m_La_run E κ M [(0, .ref h), (1, .int i), (2, .ref out)] 0 [] 0 0
  refine j_aload_n d_La_run_0 rfl 2 rfl ?_
  refine j_iconst (v := nI 0) d_La_run_1 (by decide) ?_
  refine j_aload_n d_La_run_2 rfl 0 rfl ?_
  refine j_iload_n d_La_run_3 rfl 1 rfl ?_
  refine j_callVC (As := [.int i]) (rest := [.int (nI 0), .ref out]) (ls_run Γ.l hl0 hS i) Y_De_run w_324 w_325 w_326 hh rfl rfl rfl (Nat.le_of_ble_eq_true rfl) (by omega) (by omega) (by omega) d_La_run_4 (fun v N hp => ?_) (fun X N hp => ?_)
  · skip
    obtain ⟨j, e0_, e1_, rfl, hN⟩ := hp
    show mp_J Γ m_La_run E κ N [(0, .ref h), (1, .int i), (2, .ref out)] 7 [.int (nI (am_ans (am_two gd j ld))), .int (nI 0), .ref out] (0 + (4 * ld + 1)) (0 + (66 * ld + 6))
    refine j_i2l d_La_run_7 ?_
    refine j_last hN.ho 0 rfl (by omega) (by omega) d_La_run_8 ?_
    generalize eM1 : mp_up N out (mp_l E 1 (vp_updL fo 0 ((nI (am_ans (am_two gd j ld))).toInt64))) = M1
    have hM1_out : M1 out = some (mp_l E 1 (vp_updL fo 0 ((nI (am_ans (am_two gd j ld))).toInt64))) := by rw [← eM1]; exact mp_s
    refine j_goto (tgt := 15) d_La_run_9 (by decide) ?_
    refine j_iconst (v := nI 0) d_La_run_15 (by decide) ?_
    exact j_iret hκ rfl (by omega) (by omega) d_La_run_16 (Or.inl ⟨j, e0_, e1_, rfl, _, pk_uLs, hN.wr eM1⟩)
  · skip
    obtain ⟨rfl, hno, hN⟩ := hp
    refine ⟨"java/lang/IllegalArgumentException", [], ⟨0, 9, 12, 19⟩, [], (by rw [hT]; rfl), (fun z hz => nomatch hz), (by decide), (by decide), w_297, w_308, fun q => ?_⟩
    show mp_J Γ m_La_run E κ N [(0, .ref h), (1, .int i), (2, .ref out)] 12 [.ref q] (0 + (4 * ld + 1)) (0 + (66 * ld + 6))
    refine j_astore_n [(3, .ref q), (0, .ref h), (1, .int i), (2, .ref out)] d_La_run_12 rfl (by decide) rfl ?_
    refine j_iconst (v := nI 1) d_La_run_13 (by decide) ?_
    exact j_iret hκ rfl (by omega) (by omega) d_La_run_14 (Or.inr ⟨hno, rfl, hN⟩)

set_option maxHeartbeats 4000000 in
set_option maxRecDepth 100000 in
theorem c_La_size (l : Launch) (hl0 : l.stackTraces = false) {E : mp_E} {M : mp_M} {h out : Nat} {R : Nat → Nat} {fo : Nat → Int64} {ld lr : Nat} {gd gr : Nat → Int32} {zd zr : List am_T} {thr : Int32} (hS : LwS E M h out R fo ld gd zd lr thr gr zr) (i : Int32) : mp_Cw l m_La_size [((0 : Nat), (9 : Nat), (12 : Nat), (27 : Nat))] E M 9 (1) (6) [.ref h, .int i, .ref out] (fun v N => (∃ j, j < zd.length ∧ i = nI j ∧ v = some (.int (nI 0)) ∧ ∃ fo' : Nat → Int64, fo' 0 = (nI (zd.getD j []).length).toInt64 ∧ LwS E N h out R fo' ld gd zd lr thr gr zr) ∨ ((¬ ∃ j, j < zd.length ∧ i = nI j) ∧ v = some (.int (nI 1)) ∧ LwS E N h out R fo ld gd zd lr thr gr zr)) := by
  refine mp_Cw.of (by decide) rfl (Nat.le_of_ble_eq_true rfl) fun Γ κ hl hκ hT => ?_
  subst hl
  obtain ⟨hκd, hκc, hκs, -⟩ := id hκ
  obtain ⟨fs, hh⟩ := hS.hh
  show mp_J Γ m_La_size E κ M [(0, .ref h), (1, .int i), (2, .ref out)] 0 [] 0 0
  refine j_aload_n d_La_size_0 rfl 2 rfl ?_
  refine j_iconst (v := nI 0) d_La_size_1 (by decide) ?_
  refine j_aload_n d_La_size_2 rfl 0 rfl ?_
  refine j_iload_n d_La_size_3 rfl 1 rfl ?_
  refine j_callVC (As := [.int i]) (rest := [.int (nI 0), .ref out]) (ls_size Γ.l hl0 hS i) Y_De_size w_854 w_855 w_856 hh rfl rfl rfl (Nat.le_of_ble_eq_true rfl) (by omega) (by omega) (by omega) d_La_size_4 (fun v N hp => ?_) (fun X N hp => ?_)
  · skip
    obtain ⟨j, e0_, e1_, rfl, hN⟩ := hp
    show mp_J Γ m_La_size E κ N [(0, .ref h), (1, .int i), (2, .ref out)] 7 [.int (nI (zd.getD j []).length), .int (nI 0), .ref out] (0 + (1)) (0 + (6))
    refine j_i2l d_La_size_7 ?_
    refine j_last hN.ho 0 rfl (by omega) (by omega) d_La_size_8 ?_
    generalize eM1 : mp_up N out (mp_l E 1 (vp_updL fo 0 ((nI (zd.getD j []).length).toInt64))) = M1
    have hM1_out : M1 out = some (mp_l E 1 (vp_updL fo 0 ((nI (zd.getD j []).length).toInt64))) := by rw [← eM1]; exact mp_s
    refine j_goto (tgt := 15) d_La_size_9 (by decide) ?_
    refine j_iconst (v := nI 0) d_La_size_15 (by decide) ?_
    exact j_iret hκ rfl (by omega) (by omega) d_La_size_16 (Or.inl ⟨j, e0_, e1_, rfl, _, pk_uLs, hN.wr eM1⟩)
  · skip
    obtain ⟨rfl, hno, hN⟩ := hp
    refine ⟨"java/lang/IndexOutOfBoundsException", [], ⟨0, 9, 12, 27⟩, [], (by rw [hT]; rfl), (fun z hz => nomatch hz), (by decide), (by decide), w_853, w_861, fun q => ?_⟩
    show mp_J Γ m_La_size E κ N [(0, .ref h), (1, .int i), (2, .ref out)] 12 [.ref q] (0 + (1)) (0 + (6))
    refine j_astore_n [(3, .ref q), (0, .ref h), (1, .int i), (2, .ref out)] d_La_size_12 rfl (by decide) rfl ?_
    refine j_iconst (v := nI 1) d_La_size_13 (by decide) ?_
    exact j_iret hκ rfl (by omega) (by omega) d_La_size_14 (Or.inr ⟨hno, rfl, hN⟩)

set_option maxHeartbeats 4000000 in
set_option maxRecDepth 100000 in
theorem c_La_at (l : Launch) (hl0 : l.stackTraces = false) {E : mp_E} {M : mp_M} {h out : Nat} {R : Nat → Nat} {fo : Nat → Int64} {ld lr : Nat} {gd gr : Nat → Int32} {zd zr : List am_T} {thr : Int32} (hS : LwS E M h out R fo ld gd zd lr thr gr zr) (i c : Int32) : mp_Cw l m_La_at [((0 : Nat), (10 : Nat), (13 : Nat), (27 : Nat))] E M 9 (1) (6) [.ref h, .int i, .int c, .ref out] (fun v N => (∃ j e, j < zd.length ∧ i = nI j ∧ e < (zd.getD j []).length ∧ c = nI e ∧ v = some (.int (nI 0)) ∧ ∃ fo' : Nat → Int64, fo' 0 = (nI (th_at (zd.getD j []).length (gb (zd.getD j [])) e)).toInt64 ∧ LwS E N h out R fo' ld gd zd lr thr gr zr) ∨ ((¬ ∃ j e, j < zd.length ∧ i = nI j ∧ e < (zd.getD j []).length ∧ c = nI e) ∧ v = some (.int (nI 1)) ∧ LwS E N h out R fo ld gd zd lr thr gr zr)) := by
  refine mp_Cw.of (by decide) rfl (Nat.le_of_ble_eq_true rfl) fun Γ κ hl hκ hT => ?_
  subst hl
  obtain ⟨hκd, hκc, hκs, -⟩ := id hκ
  obtain ⟨fs, hh⟩ := hS.hh
  show mp_J Γ m_La_at E κ M [(0, .ref h), (1, .int i), (2, .int c), (3, .ref out)] 0 [] 0 0
  refine j_aload_n d_La_at_0 rfl 3 rfl ?_
  refine j_iconst (v := nI 0) d_La_at_1 (by decide) ?_
  refine j_aload_n d_La_at_2 rfl 0 rfl ?_
  refine j_iload_n d_La_at_3 rfl 1 rfl ?_
  refine j_iload_n d_La_at_4 rfl 2 rfl ?_
  refine j_callVC (As := [.int i, .int c]) (rest := [.int (nI 0), .ref out]) (ls_at Γ.l hl0 hS i c) Y_De_at w_878 w_879 w_880 hh rfl rfl rfl (Nat.le_of_ble_eq_true rfl) (by omega) (by omega) (by omega) d_La_at_5 (fun v N hp => ?_) (fun X N hp => ?_)
  · skip
    obtain ⟨j, e, e0_, e1_, e2_, e3_, rfl, hN⟩ := hp
    show mp_J Γ m_La_at E κ N [(0, .ref h), (1, .int i), (2, .int c), (3, .ref out)] 8 [.int (nI (th_at (zd.getD j []).length (gb (zd.getD j [])) e)), .int (nI 0), .ref out] (0 + (1)) (0 + (6))
    refine j_i2l d_La_at_8 ?_
    refine j_last hN.ho 0 rfl (by omega) (by omega) d_La_at_9 ?_
    generalize eM1 : mp_up N out (mp_l E 1 (vp_updL fo 0 ((nI (th_at (zd.getD j []).length (gb (zd.getD j [])) e)).toInt64))) = M1
    have hM1_out : M1 out = some (mp_l E 1 (vp_updL fo 0 ((nI (th_at (zd.getD j []).length (gb (zd.getD j [])) e)).toInt64))) := by rw [← eM1]; exact mp_s
    refine j_goto (tgt := 17) d_La_at_10 (by decide) ?_
    refine j_iconst (v := nI 0) d_La_at_17 (by decide) ?_
    exact j_iret hκ rfl (by omega) (by omega) d_La_at_18 (Or.inl ⟨j, e, e0_, e1_, e2_, e3_, rfl, _, pk_uLs, hN.wr eM1⟩)
  · skip
    obtain ⟨rfl, hno, hN⟩ := hp
    refine ⟨"java/lang/IndexOutOfBoundsException", [], ⟨0, 10, 13, 27⟩, [], (by rw [hT]; rfl), (fun z hz => nomatch hz), (by decide), (by decide), w_853, w_861, fun q => ?_⟩
    show mp_J Γ m_La_at E κ N [(0, .ref h), (1, .int i), (2, .int c), (3, .ref out)] 13 [.ref q] (0 + (1)) (0 + (6))
    refine j_astore [(4, .ref q), (0, .ref h), (1, .int i), (2, .int c), (3, .ref out)] d_La_at_13 (by decide) rfl ?_
    refine j_iconst (v := nI 1) d_La_at_15 (by decide) ?_
    exact j_iret hκ rfl (by omega) (by omega) d_La_at_16 (Or.inr ⟨hno, rfl, hN⟩)

set_option maxHeartbeats 4000000 in
set_option maxRecDepth 100000 in
theorem c_La_number (l : Launch) (hl0 : l.stackTraces = false) {E : mp_E} {M : mp_M} {h out : Nat} {R : Nat → Nat} {fo : Nat → Int64} {ld lr : Nat} {gd gr : Nat → Int32} {zd zr : List am_T} {thr : Int32} (hS : LwS E M h out R fo ld gd zd lr thr gr zr) (i : Int32) : mp_Cw l m_La_number [((0 : Nat), (9 : Nat), (12 : Nat), (27 : Nat)), ((0 : Nat), (9 : Nat), (15 : Nat), (36 : Nat))] E M 9 (1) (6) [.ref h, .int i, .ref out] (fun v N => (∃ j, j < zd.length ∧ i = nI j ∧ (zd.getD j []).length ≤ 4 ∧ v = some (.int (nI 0)) ∧ ∃ fo' : Nat → Int64, fo' 0 = ((am_num (zd.getD j [])).toInt32).toInt64 ∧ LwS E N h out R fo' ld gd zd lr thr gr zr) ∨ ((¬ ∃ j, j < zd.length ∧ i = nI j) ∧ v = some (.int (nI 1)) ∧ LwS E N h out R fo ld gd zd lr thr gr zr) ∨ ((∃ j, j < zd.length ∧ i = nI j ∧ ¬ (zd.getD j []).length ≤ 4) ∧ v = some (.int (nI 2)) ∧ LwS E N h out R fo ld gd zd lr thr gr zr)) := by
  refine mp_Cw.of (by decide) rfl (Nat.le_of_ble_eq_true rfl) fun Γ κ hl hκ hT => ?_
  subst hl
  obtain ⟨hκd, hκc, hκs, -⟩ := id hκ
  obtain ⟨fs, hh⟩ := hS.hh
  show mp_J Γ m_La_number E κ M [(0, .ref h), (1, .int i), (2, .ref out)] 0 [] 0 0
  refine j_nc fun hnc => ?_
  refine j_aload_n d_La_number_0 rfl 2 rfl ?_
  refine j_iconst (v := nI 0) d_La_number_1 (by decide) ?_
  refine j_aload_n d_La_number_2 rfl 0 rfl ?_
  refine j_iload_n d_La_number_3 rfl 1 rfl ?_
  refine j_callVC (As := [.int i]) (rest := [.int (nI 0), .ref out]) (ls_number Γ.l hl0 hS i) Y_De_number w_887 w_888 w_889 hh rfl rfl rfl (Nat.le_of_ble_eq_true rfl) (by omega) (by omega) (by omega) d_La_number_4 (fun v N hp => ?_) (fun X N hp => ?_)
  · skip
    obtain ⟨j, e0_, e1_, e2_, rfl, hN⟩ := hp
    show mp_J Γ m_La_number E κ N [(0, .ref h), (1, .int i), (2, .ref out)] 7 [.int ((am_num (zd.getD j [])).toInt32), .int (nI 0), .ref out] (0 + (1)) (0 + (6))
    refine j_i2l d_La_number_7 ?_
    refine j_last hN.ho 0 rfl (by omega) (by omega) d_La_number_8 ?_
    generalize eM1 : mp_up N out (mp_l E 1 (vp_updL fo 0 (((am_num (zd.getD j [])).toInt32).toInt64))) = M1
    have hM1_out : M1 out = some (mp_l E 1 (vp_updL fo 0 (((am_num (zd.getD j [])).toInt32).toInt64))) := by rw [← eM1]; exact mp_s
    refine j_goto (tgt := 18) d_La_number_9 (by decide) ?_
    refine j_iconst (v := nI 0) d_La_number_18 (by decide) ?_
    exact j_iret hκ rfl (by omega) (by omega) d_La_number_19 (Or.inl ⟨j, e0_, e1_, e2_, rfl, _, pk_uLs, hN.wr eM1⟩)
  · skip
    rcases hp with ⟨rfl, hno, hN⟩ | ⟨rfl, hno, hN⟩
    · skip
      refine ⟨"java/lang/IndexOutOfBoundsException", [], ⟨0, 9, 12, 27⟩, [⟨0, 9, 15, 36⟩], (by rw [hT]; rfl), (fun z hz => nomatch hz), (by decide), (by decide), w_853, w_861, fun q => ?_⟩
      show mp_J Γ m_La_number E κ N [(0, .ref h), (1, .int i), (2, .ref out)] 12 [.ref q] (0 + (1)) (0 + (6))
      refine j_astore_n [(3, .ref q), (0, .ref h), (1, .int i), (2, .ref out)] d_La_number_12 rfl (by decide) rfl ?_
      refine j_iconst (v := nI 1) d_La_number_13 (by decide) ?_
      exact j_iret hκ rfl (by omega) (by omega) d_La_number_14 (Or.inr (Or.inl ⟨hno, rfl, hN⟩))
    · skip
      refine ⟨"java/lang/ArithmeticException", [⟨0, 9, 12, 27⟩], ⟨0, 9, 15, 36⟩, [], (by rw [hT]; rfl), (fun z hz => Or.inr (by rw [List.mem_singleton.mp hz]; exact ⟨(by decide), "java/lang/IndexOutOfBoundsException", w_853, hnc⟩)), (by decide), (by decide), w_886, w_894, fun q => ?_⟩
      show mp_J Γ m_La_number E κ N [(0, .ref h), (1, .int i), (2, .ref out)] 15 [.ref q] (0 + (1)) (0 + (6))
      refine j_astore_n [(3, .ref q), (0, .ref h), (1, .int i), (2, .ref out)] d_La_number_15 rfl (by decide) rfl ?_
      refine j_iconst (v := nI 2) d_La_number_16 (by decide) ?_
      exact j_iret hκ rfl (by omega) (by omega) d_La_number_17 (Or.inr (Or.inr ⟨hno, rfl, hN⟩))

set_option maxHeartbeats 4000000 in
set_option maxRecDepth 100000 in
theorem c_La_sigs (l : Launch) (hl0 : l.stackTraces = false) {E : mp_E} {M : mp_M} {h out : Nat} {R : Nat → Nat} {fo : Nat → Int64} {ld lr : Nat} {gd gr : Nat → Int32} {zd zr : List am_T} {thr : Int32} (hS : LwS E M h out R fo ld gd zd lr thr gr zr) (i : Int32) : mp_Cw l m_La_sigs [((0 : Nat), (9 : Nat), (12 : Nat), (19 : Nat))] E M 9 (1) (6) [.ref h, .int i, .ref out] (fun v N => (∃ j, j ≤ ld ∧ i = nI j ∧ v = some (.int (nI 0)) ∧ ∃ fo' : Nat → Int64, fo' 0 = (nI (sg_run gd j (j + 1) 0 0)).toInt64 ∧ LwS E N h out R fo' ld gd zd lr thr gr zr) ∨ ((¬ ∃ j, j ≤ ld ∧ i = nI j) ∧ v = some (.int (nI 1)) ∧ LwS E N h out R fo ld gd zd lr thr gr zr)) := by
  refine mp_Cw.of (by decide) rfl (Nat.le_of_ble_eq_true rfl) fun Γ κ hl hκ hT => ?_
  subst hl
  obtain ⟨hκd, hκc, hκs, -⟩ := id hκ
  obtain ⟨fs, hh⟩ := hS.hh
  show mp_J Γ m_La_sigs E κ M [(0, .ref h), (1, .int i), (2, .ref out)] 0 [] 0 0
  refine j_aload_n d_La_sigs_0 rfl 2 rfl ?_
  refine j_iconst (v := nI 0) d_La_sigs_1 (by decide) ?_
  refine j_aload_n d_La_sigs_2 rfl 0 rfl ?_
  refine j_iload_n d_La_sigs_3 rfl 1 rfl ?_
  refine j_callVC (As := [.int i]) (rest := [.int (nI 0), .ref out]) (ls_sigs Γ.l hl0 hS i) Y_De_sigs w_911 w_912 w_913 hh rfl rfl rfl (Nat.le_of_ble_eq_true rfl) (by omega) (by omega) (by omega) d_La_sigs_4 (fun v N hp => ?_) (fun X N hp => ?_)
  · skip
    obtain ⟨j, e0_, e1_, rfl, hN⟩ := hp
    show mp_J Γ m_La_sigs E κ N [(0, .ref h), (1, .int i), (2, .ref out)] 7 [.int (nI (sg_run gd j (j + 1) 0 0)), .int (nI 0), .ref out] (0 + (1)) (0 + (6))
    refine j_i2l d_La_sigs_7 ?_
    refine j_last hN.ho 0 rfl (by omega) (by omega) d_La_sigs_8 ?_
    generalize eM1 : mp_up N out (mp_l E 1 (vp_updL fo 0 ((nI (sg_run gd j (j + 1) 0 0)).toInt64))) = M1
    have hM1_out : M1 out = some (mp_l E 1 (vp_updL fo 0 ((nI (sg_run gd j (j + 1) 0 0)).toInt64))) := by rw [← eM1]; exact mp_s
    refine j_goto (tgt := 15) d_La_sigs_9 (by decide) ?_
    refine j_iconst (v := nI 0) d_La_sigs_15 (by decide) ?_
    exact j_iret hκ rfl (by omega) (by omega) d_La_sigs_16 (Or.inl ⟨j, e0_, e1_, rfl, _, pk_uLs, hN.wr eM1⟩)
  · skip
    obtain ⟨rfl, hno, hN⟩ := hp
    refine ⟨"java/lang/IllegalArgumentException", [], ⟨0, 9, 12, 19⟩, [], (by rw [hT]; rfl), (fun z hz => nomatch hz), (by decide), (by decide), w_297, w_308, fun q => ?_⟩
    show mp_J Γ m_La_sigs E κ N [(0, .ref h), (1, .int i), (2, .ref out)] 12 [.ref q] (0 + (1)) (0 + (6))
    refine j_astore_n [(3, .ref q), (0, .ref h), (1, .int i), (2, .ref out)] d_La_sigs_12 rfl (by decide) rfl ?_
    refine j_iconst (v := nI 1) d_La_sigs_13 (by decide) ?_
    exact j_iret hκ rfl (by omega) (by omega) d_La_sigs_14 (Or.inr ⟨hno, rfl, hN⟩)

set_option maxHeartbeats 4000000 in
set_option maxRecDepth 100000 in
theorem c_La_hash (l : Launch) (hl0 : l.stackTraces = false) {E : mp_E} {M : mp_M} {h out : Nat} {R : Nat → Nat} {fo : Nat → Int64} {ld lr : Nat} {gd gr : Nat → Int32} {zd zr : List am_T} {thr : Int32} (hS : LwS E M h out R fo ld gd zd lr thr gr zr) (a c : Int32) : mp_Cw l m_La_hash [((0 : Nat), (10 : Nat), (13 : Nat), (19 : Nat))] E M 9 (4) (66) [.ref h, .int a, .int c, .ref out] (fun v N => (∃ w r, w ≤ 2 ∧ a = nI w ∧ r ≤ (if w = 2 then 4 else 7) ∧ c = nI r ∧ v = some (.int (nI 0)) ∧ ∃ fo' : Nat → Int64, fo' 0 = (th_w (am_hs gd ld w).length (gb (am_hs gd ld w)) r 4).toInt64 ∧ LwS E N h out R fo' ld gd zd lr thr gr zr) ∨ ((¬ ∃ w r, w ≤ 2 ∧ a = nI w ∧ r ≤ (if w = 2 then 4 else 7) ∧ c = nI r) ∧ v = some (.int (nI 1)) ∧ LwS E N h out R fo ld gd zd lr thr gr zr)) := by
  refine mp_Cw.of (by decide) rfl (Nat.le_of_ble_eq_true rfl) fun Γ κ hl hκ hT => ?_
  subst hl
  obtain ⟨hκd, hκc, hκs, -⟩ := id hκ
  obtain ⟨fs, hh⟩ := hS.hh
  show mp_J Γ m_La_hash E κ M [(0, .ref h), (1, .int a), (2, .int c), (3, .ref out)] 0 [] 0 0
  refine j_aload_n d_La_hash_0 rfl 3 rfl ?_
  refine j_iconst (v := nI 0) d_La_hash_1 (by decide) ?_
  refine j_aload_n d_La_hash_2 rfl 0 rfl ?_
  refine j_iload_n d_La_hash_3 rfl 1 rfl ?_
  refine j_iload_n d_La_hash_4 rfl 2 rfl ?_
  refine j_callVC (As := [.int a, .int c]) (rest := [.int (nI 0), .ref out]) (ls_hash Γ.l hl0 hS a c) Y_De_hash w_922 w_923 w_924 hh rfl rfl rfl (Nat.le_of_ble_eq_true rfl) (by omega) (by omega) (by omega) d_La_hash_5 (fun v N hp => ?_) (fun X N hp => ?_)
  · skip
    obtain ⟨w, r, e0_, e1_, e2_, e3_, rfl, hN⟩ := hp
    show mp_J Γ m_La_hash E κ N [(0, .ref h), (1, .int a), (2, .int c), (3, .ref out)] 8 [.int (th_w (am_hs gd ld w).length (gb (am_hs gd ld w)) r 4), .int (nI 0), .ref out] (0 + (4)) (0 + (66))
    refine j_i2l d_La_hash_8 ?_
    refine j_last hN.ho 0 rfl (by omega) (by omega) d_La_hash_9 ?_
    generalize eM1 : mp_up N out (mp_l E 1 (vp_updL fo 0 ((th_w (am_hs gd ld w).length (gb (am_hs gd ld w)) r 4).toInt64))) = M1
    have hM1_out : M1 out = some (mp_l E 1 (vp_updL fo 0 ((th_w (am_hs gd ld w).length (gb (am_hs gd ld w)) r 4).toInt64))) := by rw [← eM1]; exact mp_s
    refine j_goto (tgt := 17) d_La_hash_10 (by decide) ?_
    refine j_iconst (v := nI 0) d_La_hash_17 (by decide) ?_
    exact j_iret hκ rfl (by omega) (by omega) d_La_hash_18 (Or.inl ⟨w, r, e0_, e1_, e2_, e3_, rfl, _, pk_uLs, hN.wr eM1⟩)
  · skip
    obtain ⟨rfl, hno, hN⟩ := hp
    refine ⟨"java/lang/IllegalArgumentException", [], ⟨0, 10, 13, 19⟩, [], (by rw [hT]; rfl), (fun z hz => nomatch hz), (by decide), (by decide), w_297, w_308, fun q => ?_⟩
    show mp_J Γ m_La_hash E κ N [(0, .ref h), (1, .int a), (2, .int c), (3, .ref out)] 13 [.ref q] (0 + (4)) (0 + (66))
    refine j_astore [(4, .ref q), (0, .ref h), (1, .int a), (2, .int c), (3, .ref out)] d_La_hash_13 (by decide) rfl ?_
    refine j_iconst (v := nI 1) d_La_hash_15 (by decide) ?_
    exact j_iret hκ rfl (by omega) (by omega) d_La_hash_16 (Or.inr ⟨hno, rfl, hN⟩)

set_option maxHeartbeats 4000000 in
set_option maxRecDepth 100000 in
theorem c_De_run0 (l : Launch) (hl0 : l.stackTraces = false) (E : mp_E) (M : mp_M) (h ro len s1 s2 ma sk : Nat) (i : Int32) (h0 : M h = some (mp_o 6 [.ref ro, .int (nI len), .ref s1, .ref s2, .ref ma, .ref sk])) (hlen : len ≤ 1000) (hno : ¬ ∃ j, j ≤ len ∧ i = nI j) : mp_Ct l m_De_run E M 8 1 6 [.ref h, .int i] (mp_pq (fun _ _ => False) (fun x N => x = "java/lang/IllegalArgumentException" ∧ N = M)) := by
  refine mp_Ct.of (by decide) (Nat.le_of_ble_eq_true rfl) fun Γ κ hl hκ0 => ?_
  subst hl
  have hl := hl0
  obtain ⟨hκ, hX⟩ := mp_k2 hκ0
  obtain ⟨hκd, hκc, hκs, -⟩ := id hκ
  show mp_J Γ m_De_run E κ M [(0, .ref h), (1, .int i)] 0 [] 0 0
  refine j_aload_n d_De_run_0 rfl 0 rfl ?_
  refine j_iload_n d_De_run_1 rfl 1 rfl ?_
  refine j_callV (As := [.int i]) (rest := []) (c_De_rowHas Γ.l E M h ro len s1 s2 ma sk i h0) Y_De_rowHas w_302 w_304 ws_2 h0 rfl rfl rfl (Nat.le_of_ble_eq_true rfl) (by omega) (by omega) (by omega) d_De_run_2 (fun v2 N2 p2 => ?_)
  obtain ⟨rfl, q2⟩ := p2
  obtain rfl := q2.symm
  show mp_J Γ m_De_run E κ M [(0, .ref h), (1, .int i)] 5 [.int (tf (decide (¬ i < 0 ∧ i ≤ nI len)))] 0 0
  refine j_tif_ne 16 d_De_run_5 (by decide) (fun b5 => absurd ((am_i32 hlen).mp (of_decide_eq_true b5)) hno) (fun b5 => ?_)
  exact j_throw (names := ["java/lang/RuntimeException", "java/lang/Exception"]) hl (by decide) (by decide) w_306 w_17 x_IAE g_IAE d_De_run_8 d_De_run_11 d_De_run_12 d_De_run_15 (by decide) (Nat.le_of_ble_eq_true rfl) (by omega) rfl (by omega) (by omega) (hX _ _ ⟨rfl, rfl⟩)

theorem dk_run0 (l : Launch) {E : mp_E} {D : mp_M} {h len : Nat} {g : Nat → Int32} {zs : List am_T} (hl0 : l.stackTraces = false) (q : DK E D h len g zs) (i : Int32) (hno : ¬ ∃ j, j ≤ len ∧ i = nI j) : mp_Ct l m_De_run E D 8 1 6 [.ref h, .int i] (mp_pq (fun _ _ => False) (fun x N => x = "java/lang/IllegalArgumentException" ∧ DK E N h len g zs)) := by
  have q' := q
  obtain ⟨X, L, y, n, ro, k, m, o, b', hL, hI, h0, h1, hX, hXr, hlen, hfit⟩ := q'
  refine (c_De_run0 l hl0 E D h ro len _ _ _ _ i h0 hlen hno).mono fun oc N hp => ?_
  cases oc with
  | inl v => exact hp.elim
  | inr x => exact ⟨hp.1, by rw [hp.2]; exact q⟩
theorem ls_run0 (l : Launch) (hl0 : l.stackTraces = false) {E : mp_E} {M : mp_M} {h out : Nat} {R : Nat → Nat} {fo : Nat → Int64} {ld lr : Nat} {gd gr : Nat → Int32} {zd zr : List am_T} {thr : Int32} (q : LwS E M h out R fo ld gd zd lr thr gr zr) (i : Int32) (hno : ¬ ∃ j, j ≤ ld ∧ i = nI j) : mp_Ct l m_De_run E M 8 1 6 [.ref h, .int i] (mp_pq (fun _ _ => False) (fun x N => x = "java/lang/IllegalArgumentException" ∧ LwS E N h out R fo ld gd zd lr thr gr zr)) :=
  q.desk (fun D hD => dk_run0 l hl0 hD i hno) fun oc ND N hp hk => by
    cases oc with
    | inl v => exact hp.elim
    | inr x => exact ⟨hp.1, hk _ _ _ hp.2⟩
set_option maxHeartbeats 4000000 in
set_option maxRecDepth 100000 in
theorem c_La_run0 (l : Launch) (hl0 : l.stackTraces = false) {E : mp_E} {M : mp_M} {h out : Nat} {R : Nat → Nat} {fo : Nat → Int64} {ld lr : Nat} {gd gr : Nat → Int32} {zd zr : List am_T} {thr : Int32} (hS : LwS E M h out R fo ld gd zd lr thr gr zr) (i : Int32) (hno : ¬ ∃ j, j ≤ ld ∧ i = nI j) : mp_Cw l m_La_run [((0 : Nat), (9 : Nat), (12 : Nat), (19 : Nat))] E M 9 1 6 [.ref h, .int i, .ref out] (fun v N => v = some (.int (nI 1)) ∧ LwS E N h out R fo ld gd zd lr thr gr zr) := by
  refine mp_Cw.of (by decide) rfl (Nat.le_of_ble_eq_true rfl) fun Γ κ hl hκ hT => ?_
  subst hl
  obtain ⟨hκd, hκc, hκs, -⟩ := id hκ
  obtain ⟨fs, hh⟩ := hS.hh
  show mp_J Γ m_La_run E κ M [(0, .ref h), (1, .int i), (2, .ref out)] 0 [] 0 0
  refine j_aload_n d_La_run_0 rfl 2 rfl ?_
  refine j_iconst (v := nI 0) d_La_run_1 (by decide) ?_
  refine j_aload_n d_La_run_2 rfl 0 rfl ?_
  refine j_iload_n d_La_run_3 rfl 1 rfl ?_
  refine j_callVC (As := [.int i]) (rest := [.int (nI 0), .ref out]) (ls_run0 Γ.l hl0 hS i hno) Y_De_run w_324 w_325 w_326 hh rfl rfl rfl (Nat.le_of_ble_eq_true rfl) (by omega) (by omega) (by omega) d_La_run_4 (fun v N hp => hp.elim) (fun X N hp => ?_)
  obtain ⟨rfl, hN⟩ := hp
  refine ⟨"java/lang/IllegalArgumentException", [], ⟨0, 9, 12, 19⟩, [], (by rw [hT]; rfl), (fun z hz => nomatch hz), (by decide), (by decide), w_297, w_308, fun q => ?_⟩
  show mp_J Γ m_La_run E κ N [(0, .ref h), (1, .int i), (2, .ref out)] 12 [.ref q] (0 + (1)) (0 + (6))
  refine j_astore_n [(3, .ref q), (0, .ref h), (1, .int i), (2, .ref out)] d_La_run_12 rfl (by decide) rfl ?_
  refine j_iconst (v := nI 1) d_La_run_13 (by decide) ?_
  exact j_iret hκ rfl (by omega) (by omega) d_La_run_14 ⟨rfl, hN⟩
theorem Yw_La_feed : mp_Yw m_La_feed [((0 : Nat), (16 : Nat), (19 : Nat), (13 : Nat))] 7 := ⟨w_219, w_0, by decide +kernel, by decide⟩
theorem Yw_La_end : mp_Yw m_La_end [((0 : Nat), (9 : Nat), (12 : Nat), (19 : Nat))] 3 := ⟨w_296, w_0, by decide +kernel, by decide⟩
theorem Yw_La_run : mp_Yw m_La_run [((0 : Nat), (9 : Nat), (12 : Nat), (19 : Nat))] 3 := ⟨w_323, w_0, by decide +kernel, by decide⟩
theorem Yw_La_size : mp_Yw m_La_size [((0 : Nat), (9 : Nat), (12 : Nat), (27 : Nat))] 3 := ⟨w_852, w_0, by decide +kernel, by decide⟩
theorem Yw_La_at : mp_Yw m_La_at [((0 : Nat), (10 : Nat), (13 : Nat), (27 : Nat))] 4 := ⟨w_877, w_0, by decide +kernel, by decide⟩
theorem Yw_La_number : mp_Yw m_La_number [((0 : Nat), (9 : Nat), (12 : Nat), (27 : Nat)), ((0 : Nat), (9 : Nat), (15 : Nat), (36 : Nat))] 3 := ⟨w_885, w_0, by decide +kernel, by decide⟩
theorem Yw_La_sigs : mp_Yw m_La_sigs [((0 : Nat), (9 : Nat), (12 : Nat), (19 : Nat))] 3 := ⟨w_910, w_0, by decide +kernel, by decide⟩
theorem Yw_La_hash : mp_Yw m_La_hash [((0 : Nat), (10 : Nat), (13 : Nat), (19 : Nat))] 4 := ⟨w_921, w_0, by decide +kernel, by decide⟩