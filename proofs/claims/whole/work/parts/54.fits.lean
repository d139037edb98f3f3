/-! ===== PURE: tries, fits, whose ===== -/
theorem q3_le : (nI 0 ≤ q3) = False := eq_false (by decide +kernel)
theorem copyV7T {T : vS} {p q : Nat} (hp : p < 6) (hq : q < 6) (hpq : p ≠ q) : mX7_copyValley T (nI p) (nI q) = some (mk3 T (T.1 0) (putF (T.1 10) q (fr T p)) (T.1 11)) := by
  have h := copyV7 (T := T) (o := T.1 0) (a := T.1 10) (s := T.1 11) hp hq hpq
  rw [mk3_id] at h
  exact h
theorem start6S {S : vS} : mX6_startTrial S = some (mk4 S 129 (fsA (tA (S.1 129) (S.1 (30 + 11)))) (tM 3 (S.1 (129 + 1)) (S.1 (30 + 11 + 1))) (tM 4 (S.1 (129 + 2)) (S.1 (30 + 11 + 2))) (S.1 (129 + 3))) := by
  have h := start6 (S := S) (A := S.1 129) (B := S.1 (129 + 1)) (C := S.1 (129 + 2)) (D := S.1 (129 + 3))
  rw [mk4_id] at h
  exact h
theorem st_tries : St_tries Rel := by
  intro S T a R
  obtain ⟨n, hn, h10, h34, hGI, hV, hK⟩ := R.2.2.2.2
  obtain ⟨hG, hS, hg1, hh1, hFI, e, he, h14, hH, hD⟩ := id hV
  unfold mX6_tries mX7_tries mX7_isRow mX6_holdsNumbersOnly mX7_needPlan
  rcases oR_or a (N := 6) (by decide) with h | ⟨r, hr, rfl⟩
  · simp (disch := omega) only [qlt, qb_some, qb_none, ↓qn_1, ↓qn_2, ↓qn_3, ↓qn_4, ↓qn_9, ↓qn_1000, ↓qn_low, qi_0, qi_1, qi_2, qi_3, qi_4, qi_5, qi_6, qi_7, qi_8, qi_9, qi_10, qi_11, qi_12, qi_13, qi_14, qi_15, qi_16, qi_17, qi_20, qi_24, qi_30, qi_31, qi_32, qi_60, qi_99, qi_100, qi_200, qi_1000, qi_3400, qi_4000, qi_of, pu_gI, pu_pI, nI_leI, nI_ltI, nI_eq, nI_add, pk_mul, pk_sub, pk_div, qw_s, qw_o, qw_l, qr_s, qr_o, qr_l, ql_i, ql_s, ql_o, pk_us, pk_un, pk_uLs, pk_uLn, if_pos, if_neg, if_true, if_false, ite_self, eq_self, Nat.zero_add, Nat.add_zero, qwr, not_true_eq_false, not_false_eq_true, Option.some.injEq, qe_gn0, qe_m1n, qe_gng, qe_ngn, qe_gm, qe_mg, qe_lm1, qe_lgn, qe_lem, qe_leg, qe_tm1, qe_tgn, has4_o (S := S) (k := 1) h, oR_in7 (by decide) h]
    exact ⟨_, _, rfl, rfl, rfl, R⟩
  by_cases hn0 : n = 0
  · subst hn0
    simp (disch := omega) only [qlt, qb_some, qb_none, ↓qn_1, ↓qn_2, ↓qn_3, ↓qn_4, ↓qn_9, ↓qn_1000, ↓qn_low, qi_0, qi_1, qi_2, qi_3, qi_4, qi_5, qi_6, qi_7, qi_8, qi_9, qi_10, qi_11, qi_12, qi_13, qi_14, qi_15, qi_16, qi_17, qi_20, qi_24, qi_30, qi_31, qi_32, qi_60, qi_99, qi_100, qi_200, qi_1000, qi_3400, qi_4000, qi_of, pu_gI, pu_pI, nI_leI, nI_ltI, nI_eq, nI_add, pk_mul, pk_sub, pk_div, qw_s, qw_o, qw_l, qr_s, qr_o, qr_l, ql_i, ql_s, ql_o, pk_us, pk_un, pk_uLs, pk_uLn, if_pos, if_neg, if_true, if_false, ite_self, eq_self, Nat.zero_add, Nat.add_zero, qwr, not_true_eq_false, not_false_eq_true, Option.some.injEq, qe_gn0, qe_m1n, qe_gng, qe_ngn, qe_gm, qe_mg, qe_lm1, qe_lgn, qe_lem, qe_leg, qe_tm1, qe_tgn, has4_y, in7_y, noGods6 hG.1 hn, h10]
    exact ⟨_, _, rfl, rfl, rfl, R⟩
  have h6 : 6 < 2 ^ 31 := by decide
  obtain ⟨e1, e2, e3⟩ := R.2.2.1 r hr
  rcases e2 with e2 | ⟨m, hm, e2⟩
  · simp (disch := omega) only [qlt, qb_some, qb_none, ↓qn_1, ↓qn_2, ↓qn_3, ↓qn_4, ↓qn_9, ↓qn_1000, ↓qn_low, qi_0, qi_1, qi_2, qi_3, qi_4, qi_5, qi_6, qi_7, qi_8, qi_9, qi_10, qi_11, qi_12, qi_13, qi_14, qi_15, qi_16, qi_17, qi_20, qi_24, qi_30, qi_31, qi_32, qi_60, qi_99, qi_100, qi_200, qi_1000, qi_3400, qi_4000, qi_of, pu_gI, pu_pI, nI_leI, nI_ltI, nI_eq, nI_add, pk_mul, pk_sub, pk_div, qw_s, qw_o, qw_l, qr_s, qr_o, qr_l, ql_i, ql_s, ql_o, pk_us, pk_un, pk_uLs, pk_uLn, if_pos, if_neg, if_true, if_false, ite_self, eq_self, Nat.zero_add, Nat.add_zero, qwr, not_true_eq_false, not_false_eq_true, Option.some.injEq, qe_gn0, qe_m1n, qe_gng, qe_ngn, qe_gm, qe_mg, qe_lm1, qe_lgn, qe_lem, qe_leg, qe_tm1, qe_tgn, has4_y, in7_y, noGods6 hG.1 hn, h10, there_n hr h6 (e1.trans e2), e2, qf_meets, qf_found, q3_le]
    exact ⟨_, _, rfl, rfl, rfl, Rel_found R (by decide)⟩
  by_cases hm30 : m ≤ 30
  · by_cases hall : ∀ i, i < m → vld n (T.1 3 (60 * r + i))
    · have hall6 : ∀ i, i < m → vld n (S.1 (1 + 2 + r) i) := fun i hi => by rw [e3 m hm e2 i hi]; exact hall i hi
      have c6 := hn6_y hG.1 h10 hn hr (e1.trans e2) hm hall6 FU 0 (Nat.zero_le m) (by unfold FU; omega)
      have c7 := np7_y (T := T) hG.1 h10 hn hr e2 hm hall FU 0 (Nat.zero_le m) (by unfold FU; omega)
      have h06 : (0 : Nat) < 6 := by decide
      have h16 : (1 : Nat) < 6 := by decide
      have go := tries_l (m := m) R hn h10 hG hGI hr (e1.trans e2) e2 hm30 (fun i hi => e3 m hm e2 i hi) hall FU 0 _ _ _ _ (T.1 0) (T.1 11) (fr T 0) 0 0 e (Nat.zero_le m) (by unfold FU; omega) (TrR_0 (A := S.1 129) (B := S.1 (129 + 1)) (C := S.1 (129 + 2)) (D := S.1 (129 + 3)) hn hS) hFI (cut_frT T 0) h14 (by omega) (okO_id T)
      rw [i32_00] at go
      simp (disch := omega) only [qlt, qb_some, qb_none, ↓qn_1, ↓qn_2, ↓qn_3, ↓qn_4, ↓qn_9, ↓qn_1000, ↓qn_low, qi_0, qi_1, qi_2, qi_3, qi_4, qi_5, qi_6, qi_7, qi_8, qi_9, qi_10, qi_11, qi_12, qi_13, qi_14, qi_15, qi_16, qi_17, qi_20, qi_24, qi_30, qi_31, qi_32, qi_60, qi_99, qi_100, qi_200, qi_1000, qi_3400, qi_4000, qi_of, pu_gI, pu_pI, nI_leI, nI_ltI, nI_eq, nI_add, pk_mul, pk_sub, pk_div, qw_s, qw_o, qw_l, qr_s, qr_o, qr_l, ql_i, ql_s, ql_o, pk_us, pk_un, pk_uLs, pk_uLn, if_pos, if_neg, if_true, if_false, ite_self, eq_self, Nat.zero_add, Nat.add_zero, qwr, not_true_eq_false, not_false_eq_true, Option.some.injEq, qe_gn0, qe_m1n, qe_gng, qe_ngn, qe_gm, qe_mg, qe_lm1, qe_lgn, qe_lem, qe_leg, qe_tm1, qe_tgn, has4_y, in7_y, noGods6 hG.1 hn, h10, there_y hr h6 (e1.trans e2) hm, size_y hr h6 (e1.trans e2) hm, e2, c6, c7, copyV7T h06 h16 (show (0 : Nat) ≠ 1 by decide), start6S]
      exact go
    · have hall6 : ¬ ∀ i, 0 ≤ i → i < m → vld n (S.1 (1 + 2 + r) i) := fun z => hall (fun i hi => by rw [← e3 m hm e2 i hi]; exact z i (Nat.zero_le i) hi)
      have hall7 : ¬ ∀ i, 0 ≤ i → i < m → vld n (T.1 3 (60 * r + i)) := fun z => hall (fun i hi => z i (Nat.zero_le i) hi)
      have c6 := hn6_n hG.1 h10 hn hr (e1.trans e2) hm FU 0 (Nat.zero_le m) (by unfold FU; omega) hall6
      have c7 := np7_n (T := T) hG.1 h10 hn hr e2 hm FU 0 (Nat.zero_le m) (by unfold FU; omega) hall7
      simp (disch := omega) only [qlt, qb_some, qb_none, ↓qn_1, ↓qn_2, ↓qn_3, ↓qn_4, ↓qn_9, ↓qn_1000, ↓qn_low, qi_0, qi_1, qi_2, qi_3, qi_4, qi_5, qi_6, qi_7, qi_8, qi_9, qi_10, qi_11, qi_12, qi_13, qi_14, qi_15, qi_16, qi_17, qi_20, qi_24, qi_30, qi_31, qi_32, qi_60, qi_99, qi_100, qi_200, qi_1000, qi_3400, qi_4000, qi_of, pu_gI, pu_pI, nI_leI, nI_ltI, nI_eq, nI_add, pk_mul, pk_sub, pk_div, qw_s, qw_o, qw_l, qr_s, qr_o, qr_l, ql_i, ql_s, ql_o, pk_us, pk_un, pk_uLs, pk_uLn, if_pos, if_neg, if_true, if_false, ite_self, eq_self, Nat.zero_add, Nat.add_zero, qwr, not_true_eq_false, not_false_eq_true, Option.some.injEq, qe_gn0, qe_m1n, qe_gng, qe_ngn, qe_gm, qe_mg, qe_lm1, qe_lgn, qe_lem, qe_leg, qe_tm1, qe_tgn, has4_y, in7_y, noGods6 hG.1 hn, h10, there_y hr h6 (e1.trans e2) hm, size_y hr h6 (e1.trans e2) hm, e2, c6, c7, qf_meets, qf_found, q3_le]
      exact ⟨_, _, rfl, rfl, rfl, Rel_found R (by decide)⟩
  · simp (disch := omega) only [qlt, qb_some, qb_none, ↓qn_1, ↓qn_2, ↓qn_3, ↓qn_4, ↓qn_9, ↓qn_1000, ↓qn_low, qi_0, qi_1, qi_2, qi_3, qi_4, qi_5, qi_6, qi_7, qi_8, qi_9, qi_10, qi_11, qi_12, qi_13, qi_14, qi_15, qi_16, qi_17, qi_20, qi_24, qi_30, qi_31, qi_32, qi_60, qi_99, qi_100, qi_200, qi_1000, qi_3400, qi_4000, qi_of, pu_gI, pu_pI, nI_leI, nI_ltI, nI_eq, nI_add, pk_mul, pk_sub, pk_div, qw_s, qw_o, qw_l, qr_s, qr_o, qr_l, ql_i, ql_s, ql_o, pk_us, pk_un, pk_uLs, pk_uLn, if_pos, if_neg, if_true, if_false, ite_self, eq_self, Nat.zero_add, Nat.add_zero, qwr, not_true_eq_false, not_false_eq_true, Option.some.injEq, qe_gn0, qe_m1n, qe_gng, qe_ngn, qe_gm, qe_mg, qe_lm1, qe_lgn, qe_lem, qe_leg, qe_tm1, qe_tgn, has4_y, in7_y, noGods6 hG.1 hn, h10, there_y hr h6 (e1.trans e2) hm, size_y hr h6 (e1.trans e2) hm, e2, qf_meets, qf_found, q3_le]
    exact ⟨_, _, rfl, rfl, rfl, Rel_found R (by decide)⟩
/-! scratch worlds with other patiences -/
def Sc0 (S0 T0 S T : vS) : Prop :=
  (∀ c, (c < 17 ∨ (30 ≤ c ∧ c < 95) ∨ c = 134) → S.1 c = S0.1 c) ∧ S.2 = S0.2 ∧ okO T0 (T.1 0) ∧ (∀ c, ((1 ≤ c ∧ c ≤ 6 ∧ c ≠ 4) ∨ (12 ≤ c ∧ c ≤ 16)) → T.1 c = T0.1 c) ∧ fr T 0 = fr T0 0 ∧ T.2 = T0.2
theorem Sc0_id (S T : vS) : Sc0 S T S T := ⟨fun _ _ => rfl, rfl, okO_id T, fun _ _ => rfl, rfl, rfl⟩
theorem Sc0_Rel {S0 T0 S T : vS} (R : Rel S0 T0) (h : Sc0 S0 T0 S T) (h7 : T.1 7 = T0.1 7) : Rel S T := by
  obtain ⟨a1, a2, a3, a4, a5, a6⟩ := h
  refine Rel_scr R a1 a2 (a3 0 (by decide) (by decide) (by decide)) (a3 2 (by decide) (by decide) (by decide)) (a3 10 (by decide) (by decide) (by decide)) (a3 34 (by decide) (by decide) (by decide)) (fun c hc => ?_) a5 a6
  by_cases h9 : c = 7
  · subst h9; exact h7
  · exact a4 c (by omega)
theorem okO_tr {T0 T : vS} {o : Nat → Int32} (h0 : okO T0 (T.1 0)) (h : okO T o) : okO T0 o := fun p h1 h2 h3 => (h p h1 h2 h3).trans (h0 p h1 h2 h3)
theorem Sc0_try {S0 T0 S T : vS} {A B C D o F s : Nat → Int32} (h : Sc0 S0 T0 S T) (ho : okO T o) : Sc0 S0 T0 (mk4 S 129 A B C D) (mk3 T o (putF (T.1 10) 1 F) s) := by
  obtain ⟨a1, a2, a3, a4, a5, a6⟩ := h
  refine ⟨fun c hc => by rw [mk4_o (by omega)]; exact a1 c hc, a2, okO_tr a3 ho, fun c hc => by rw [mk3_o (by omega) (by omega) (by omega)]; exact a4 c hc, ?_, a6⟩
  rw [← a5]
  show frA (putF (T.1 10) 1 F) 0 = _
  exact frA_puto (by decide)
theorem Sc0_pat {S0 T0 S T : vS} {g i : Nat} {x y : Int32} (h : Sc0 S0 T0 S T) : Sc0 S0 T0 (wI S (119 + 3) g x) (wI T 7 i y) := by
  obtain ⟨a1, a2, a3, a4, a5, a6⟩ := h
  exact ⟨fun c hc => by rw [qw_o (by omega)]; exact a1 c hc, a2, a3, fun c hc => by rw [qw_o (by omega)]; exact a4 c hc, by rw [fr_eq (T := T) (qw_o (by decide))]; exact a5, a6⟩
/-- a book goes on, day by day, by gods of other patiences -/
theorem book_l {S T S0 T0 : vS} {n r w m : Nat} {G : Nat → Int32} {K13 : vS → Int32 → Int32 → Option (Int32 × vS)} {v1 v4 v5 v6 : Int32} (hZ : Sc0 S0 T0 S T) (hn : n ≤ 4) (h10 : T.1 0 10 = nI n) (hG : GodR S 119 n G) (h7 : T.1 7 = G) (hGI : GInv n G) (hr : r < 6) (hw : w < 6) (hr6 : S.1 (1 + 2 + 6) r = nI m) (hr7 : T.1 2 r = nI m) (hw6 : S.1 (1 + 2 + 6) w = nI m) (hm : m ≤ 30) (hrow : ∀ i, i < m → S.1 (1 + 2 + r) i = T.1 3 (60 * r + i)) (hwor : ∀ i, i < m → S.1 (1 + 2 + w) i = T.1 3 (60 * w + i)) (hv : ∀ i, i < m → vld n (T.1 3 (60 * r + i))) :
    ∀ q q' j A B C D o s F e, j ≤ m → m - j < q → m - j + 1 < q' → ScR (mk4 S 129 A B C D) 129 n F → FInv n F → cut F → F 14 = nI e → e + (m - j) < 1000 → okO T o →
    ∃ (b : Nat) (S' T' : vS), b < 2 ∧ lX6_bookFitsOthers_6 (nI r) (nI w) q (mk4 S 129 A B C D) (nI j) = some (nI b, S') ∧ lX7_fitting_45 K13 v1 (nI r) (nI w) v4 v5 v6 q' (mk3 T o (putF (T.1 10) 1 F) s) (nI 1) (nI j) = bX7_fitting_103 K13 T' v1 (nI r) (nI w) v4 v5 v6 (nI b) ∧ Sc0 S0 T0 S' T' ∧ GodR S' 119 n G ∧ T'.1 7 = G := by
  subst h7
  intro q
  induction q with
  | zero => intro q' j A B C D o s F e h1 h2; omega
  | succ q ih =>
    intro q' j A B C D o s F e h1 h2 h3 hS hF hc h14 he ho
    obtain ⟨q2, rfl⟩ : ∃ q2, q' = q2 + 1 := ⟨q' - 1, by omega⟩
    obtain ⟨q3, rfl⟩ : ∃ q3, q2 = q3 + 1 := ⟨q2 - 1, by omega⟩
    rw [lX6_bookFitsOthers_6, lX7_fitting_45]
    have hr6' : (mk4 S 129 A B C D).1 (1 + 2 + 6) r = nI m := by rw [mk4_o (by omega)]; exact hr6
    have hG2 : ∀ A B C D, GodR (mk4 S 129 A B C D) 119 n (T.1 7) := fun _ _ _ _ => GodR_mk4 (by omega) hn hG
    have h6 : 6 < 2 ^ 31 := by decide
    have hm60 : m ≤ 60 := by omega
    have t7 : ∀ (o a s : Nat → Int32), (mk3 T o a s).1 7 = T.1 7 := fun _ _ _ => mk3_o (by decide) (by decide) (by decide)
    by_cases hj : j = m
    · subst hj
      simp (disch := omega) only [qlt, qb_some, qb_none, ↓qn_1, ↓qn_2, ↓qn_3, ↓qn_4, ↓qn_9, ↓qn_1000, ↓qn_low, qi_0, qi_1, qi_2, qi_3, qi_4, qi_5, qi_6, qi_7, qi_8, qi_9, qi_10, qi_11, qi_12, qi_13, qi_14, qi_15, qi_16, qi_17, qi_20, qi_24, qi_30, qi_31, qi_32, qi_60, qi_99, qi_100, qi_200, qi_1000, qi_3400, qi_4000, qi_of, pu_gI, pu_pI, nI_leI, nI_ltI, nI_eq, nI_add, pk_mul, pk_sub, pk_div, qw_s, qw_o, qw_l, qr_s, qr_o, qr_l, ql_i, ql_s, ql_o, pk_us, pk_un, pk_uLs, pk_uLn, if_pos, if_neg, if_true, if_false, ite_self, eq_self, Nat.zero_add, Nat.add_zero, qwr, not_true_eq_false, not_false_eq_true, Option.some.injEq, qe_gn0, qe_m1n, qe_gng, qe_ngn, qe_gm, qe_mg, qe_lm1, qe_lgn, qe_lem, qe_leg, qe_tm1, qe_tgn, size_y hr h6 hr6' hm60, mk3_o, hr7]
      exact ⟨1, _, _, by decide, rfl, rfl, Sc0_try hZ ho, hG2 _ _ _ _, t7 _ _ _⟩
    · have hjm : j < m := by omega
      obtain ⟨d, hd, hd2, hx⟩ := hv j hjm
      have hx6 : (mk4 S 129 A B C D).1 (1 + 2 + r) j = nI d := by rw [mk4_o (by omega), hrow j hjm, hx]
      have go6 := goOn6 (S := S) (k := 129) (k1 := 119) (A := A) (B := B) (C := C) (D := D) (d := d) (by omega) hn hG hGI hS hF hd
      have ho10 : o 10 = nI n := by rw [ho 10 (by decide) (by decide) (by decide)]; exact h10
      have h16 : (1 : Nat) < 6 := by decide
      have bad : ∀ (o a s : Nat → Int32), bX7_fitting_95 K13 (lX7_fitting_45 K13 v1 (nI r) (nI w) v4 v5 v6 (q3 + 1)) (mk3 T o a s) v1 (nI r) (nI w) v4 v5 v6 (nI j) (nI 0) = bX7_fitting_103 K13 (mk3 T o a s) v1 (nI r) (nI w) v4 v5 v6 (nI 0) := by
        intro o a s
        unfold bX7_fitting_95
        rw [qi_1, nI_add, lX7_fitting_45]
        simp (disch := omega) only [qlt, qb_some, qb_none, ↓qn_1, ↓qn_2, ↓qn_3, ↓qn_4, ↓qn_9, ↓qn_1000, ↓qn_low, qi_0, qi_1, qi_2, qi_3, qi_4, qi_5, qi_6, qi_7, qi_8, qi_9, qi_10, qi_11, qi_12, qi_13, qi_14, qi_15, qi_16, qi_17, qi_20, qi_24, qi_30, qi_31, qi_32, qi_60, qi_99, qi_100, qi_200, qi_1000, qi_3400, qi_4000, qi_of, pu_gI, pu_pI, nI_leI, nI_ltI, nI_eq, nI_add, pk_mul, pk_sub, pk_div, qw_s, qw_o, qw_l, qr_s, qr_o, qr_l, ql_i, ql_s, ql_o, pk_us, pk_un, pk_uLs, pk_uLn, if_pos, if_neg, if_true, if_false, ite_self, eq_self, Nat.zero_add, Nat.add_zero, qwr, not_true_eq_false, not_false_eq_true, Option.some.injEq, qe_gn0, qe_m1n, qe_gng, qe_ngn, qe_gm, qe_mg, qe_lm1, qe_lgn, qe_lem, qe_leg, qe_tm1, qe_tgn, mk3_o, hr7]
      unfold mX7_rowAt
      cases hcan : canB (T.1 7) n F d
      · have go7 := goes7_n (T := T) (a := T.1 10) (s := s) hn ho10 h16 hc hF hd2 hcan
        rw [hcan] at go6
        unfold bX7_fitting_94
        simp (disch := omega) only [qlt, qb_some, qb_none, ↓qn_1, ↓qn_2, ↓qn_3, ↓qn_4, ↓qn_9, ↓qn_1000, ↓qn_low, qi_0, qi_1, qi_2, qi_3, qi_4, qi_5, qi_6, qi_7, qi_8, qi_9, qi_10, qi_11, qi_12, qi_13, qi_14, qi_15, qi_16, qi_17, qi_20, qi_24, qi_30, qi_31, qi_32, qi_60, qi_99, qi_100, qi_200, qi_1000, qi_3400, qi_4000, qi_of, pu_gI, pu_pI, nI_leI, nI_ltI, nI_eq, nI_add, pk_mul, pk_sub, pk_div, qw_s, qw_o, qw_l, qr_s, qr_o, qr_l, ql_i, ql_s, ql_o, pk_us, pk_un, pk_uLs, pk_uLn, if_pos, if_neg, if_true, if_false, ite_self, eq_self, Nat.zero_add, Nat.add_zero, qwr, not_true_eq_false, not_false_eq_true, Option.some.injEq, qe_gn0, qe_m1n, qe_gng, qe_ngn, qe_gm, qe_mg, qe_lm1, qe_lgn, qe_lem, qe_leg, qe_tm1, qe_tgn, size_y hr h6 hr6' hm60, mk3_o, hr7, read_y hr h6 hr6' hm60 hjm, hx6, hx, go6, go7, Bool.false_eq_true, bad]
        exact ⟨0, _, _, by decide, rfl, rfl, Sc0_try hZ (okO_22 ho), hG2 _ _ _ _, t7 _ _ _⟩
      · have go7 := goes7_y (T := T) (a := T.1 10) (s := s) hn ho10 hGI h16 hc hF hd2 hcan
        rw [hcan] at go6
        have hw6' : ∀ A B C D, (mk4 S 129 A B C D).1 (1 + 2 + 6) w = nI m := fun _ _ _ _ => by rw [mk4_o (by omega)]; exact hw6
        have hwx : ∀ A B C D, (mk4 S 129 A B C D).1 (1 + 2 + w) j = T.1 3 (60 * w + j) := fun _ _ _ _ => by rw [mk4_o (by omega)]; exact hwor j hjm
        unfold bX7_fitting_94 mX3_worth
        simp (disch := omega) only [qlt, qb_some, qb_none, ↓qn_1, ↓qn_2, ↓qn_3, ↓qn_4, ↓qn_9, ↓qn_1000, ↓qn_low, qi_0, qi_1, qi_2, qi_3, qi_4, qi_5, qi_6, qi_7, qi_8, qi_9, qi_10, qi_11, qi_12, qi_13, qi_14, qi_15, qi_16, qi_17, qi_20, qi_24, qi_30, qi_31, qi_32, qi_60, qi_99, qi_100, qi_200, qi_1000, qi_3400, qi_4000, qi_of, pu_gI, pu_pI, nI_leI, nI_ltI, nI_eq, nI_add, pk_mul, pk_sub, pk_div, qw_s, qw_o, qw_l, qr_s, qr_o, qr_l, ql_i, ql_s, ql_o, pk_us, pk_un, pk_uLs, pk_uLn, if_pos, if_neg, if_true, if_false, ite_self, eq_self, Nat.zero_add, Nat.add_zero, qwr, not_true_eq_false, not_false_eq_true, Option.some.injEq, qe_gn0, qe_m1n, qe_gng, qe_ngn, qe_gm, qe_mg, qe_lm1, qe_lgn, qe_lem, qe_leg, qe_tm1, qe_tgn, size_y hr h6 hr6' hm60, mk3_o, hr7, read_y hr h6 hr6' hm60 hjm, hx6, hx, go6, go7, mk3_0, sO_20, read_y hw h6 (hw6' _ _ _ _) hm60 hjm, hwx, mk4_0, sA_3, sA_4, i32_w, bad]
        by_cases hwo : nI (gsD (T.1 7) n F d) - nI (hsD (T.1 7) n F d) = T.1 3 (60 * w + j)
        · rw [if_pos hwo, if_pos hwo]
          unfold bX7_fitting_95
          rw [qi_1, nI_add]
          exact ih (q3 + 1) (j + 1) _ _ _ _ _ _ _ (e + 1) (by omega) (by omega) (by omega) (ScR_day hn hS) (FInv_day hn hF h14 (by omega) hd hcan) (cut_dy hc) (dy14 h14) (by omega) (okO_sO (okO_22 ho))
        · rw [if_neg hwo, if_neg hwo]
          exact ⟨0, _, _, by decide, rfl, rfl, Sc0_try hZ (okO_sO (okO_22 ho)), hG2 _ _ _ _, t7 _ _ _⟩
