/-! ===== PURE: fault, valley ===== -/
theorem fill4 (S : vS) (c : Nat) (v : Int32) : mJ7_fill_53178 S c 4 v = some (wR S c (fun i => if i < 4 then v else S.1 c i)) := by
  unfold mJ7_fill_53178
  simp (disch := omega) only [qlt, qb_some, qb_none, ↓qn_1, ↓qn_2, ↓qn_3, ↓qn_4, ↓qn_9, ↓qn_1000, ↓qn_low, qi_0, qi_1, qi_2, qi_3, qi_4, qi_5, qi_6, qi_7, qi_8, qi_9, qi_10, qi_11, qi_12, qi_13, qi_14, qi_15, qi_16, qi_17, qi_20, qi_24, qi_30, qi_31, qi_32, qi_60, qi_99, qi_100, qi_200, qi_1000, qi_3400, qi_4000, qi_of, pu_gI, pu_pI, nI_leI, nI_ltI, nI_eq, nI_add, pk_mul, pk_sub, pk_div, qw_s, qw_o, qw_l, qr_s, qr_o, qr_l, ql_i, ql_s, ql_o, pk_us, pk_un, pk_uLs, pk_uLn, if_pos, if_neg, if_true, if_false, ite_self, eq_self, Nat.zero_add, Nat.add_zero, qwr, not_true_eq_false, not_false_eq_true, Option.some.injEq, qe_gn0, qe_m1n, qe_gng, qe_ngn, qe_gm, qe_mg, qe_lm1, qe_lgn, qe_lem, qe_leg, qe_tm1, qe_tgn]
  have h := lp_fill0 (fun n U j => lJ7_fill_53178_5 c 4 v (nI 4) n U j) S c 0 4 (fun _ => v) some
    (by intro n f hf; show lJ7_fill_53178_5 c 4 v (nI 4) (n + 1) (wR S c f) (nI 4) = _; rw [lJ7_fill_53178_5]; simp (disch := omega) only [qlt, qb_some, qb_none, ↓qn_1, ↓qn_2, ↓qn_3, ↓qn_4, ↓qn_9, ↓qn_1000, ↓qn_low, qi_0, qi_1, qi_2, qi_3, qi_4, qi_5, qi_6, qi_7, qi_8, qi_9, qi_10, qi_11, qi_12, qi_13, qi_14, qi_15, qi_16, qi_17, qi_20, qi_24, qi_30, qi_31, qi_32, qi_60, qi_99, qi_100, qi_200, qi_1000, qi_3400, qi_4000, qi_of, pu_gI, pu_pI, nI_leI, nI_ltI, nI_eq, nI_add, pk_mul, pk_sub, pk_div, qw_s, qw_o, qw_l, qr_s, qr_o, qr_l, ql_i, ql_s, ql_o, pk_us, pk_un, pk_uLs, pk_uLn, if_pos, if_neg, if_true, if_false, ite_self, eq_self, Nat.zero_add, Nat.add_zero, qwr, not_true_eq_false, not_false_eq_true, Option.some.injEq, qe_gn0, qe_m1n, qe_gng, qe_ngn, qe_gm, qe_mg, qe_lm1, qe_lgn, qe_lem, qe_leg, qe_tm1, qe_tgn])
    (by intro n f j hj hf; show lJ7_fill_53178_5 c 4 v (nI 4) (n + 1) (wR S c f) (nI j) = _; rw [lJ7_fill_53178_5]; simp (disch := omega) only [qlt, qb_some, qb_none, ↓qn_1, ↓qn_2, ↓qn_3, ↓qn_4, ↓qn_9, ↓qn_1000, ↓qn_low, qi_0, qi_1, qi_2, qi_3, qi_4, qi_5, qi_6, qi_7, qi_8, qi_9, qi_10, qi_11, qi_12, qi_13, qi_14, qi_15, qi_16, qi_17, qi_20, qi_24, qi_30, qi_31, qi_32, qi_60, qi_99, qi_100, qi_200, qi_1000, qi_3400, qi_4000, qi_of, pu_gI, pu_pI, nI_leI, nI_ltI, nI_eq, nI_add, pk_mul, pk_sub, pk_div, qw_s, qw_o, qw_l, qr_s, qr_o, qr_l, ql_i, ql_s, ql_o, pk_us, pk_un, pk_uLs, pk_uLn, if_pos, if_neg, if_true, if_false, ite_self, eq_self, Nat.zero_add, Nat.add_zero, qwr, not_true_eq_false, not_false_eq_true, Option.some.injEq, qe_gn0, qe_m1n, qe_gng, qe_ngn, qe_gm, qe_mg, qe_lm1, qe_lgn, qe_lem, qe_leg, qe_tm1, qe_tgn]) (by unfold FU; omega)
  refine h.trans ?_
  congr 2
  funext i
  by_cases hi : i < 4
  · rw [if_pos ⟨Nat.zero_le _, by omega⟩, if_pos hi]
  · rw [if_neg (by omega), if_neg hi]
/-- a scene begins -/
theorem begin6 (S : vS) : ∃ X, mX3_begin S 41 28 3 = some X ∧ (∀ c, c ≠ 41 → c ≠ 42 → c ≠ 43 → c ≠ 44 → X.1 c = S.1 c) ∧ X.2 = S.2 ∧ (∀ j, j < 6 → X.1 41 j = nI 0) ∧ (∀ f, f < 3 → X.1 42 f = S.1 28 f) ∧ (∀ g, g < 4 → X.1 43 g = nI 0) := by
  generalize hX : wR (wR (wI (wI (wI (wI (wI (wI (wI S 41 0 (nI 0)) 41 1 (nI 0)) 41 2 (nI 0)) 41 8 (nI 0)) 41 3 (nI 0)) 41 4 (nI 0)) 41 5 (nI 0)) 43 (fun i => if i < 4 then nI 0 else S.1 43 i)) 44 (fun i => if i < 4 then nI 0 else S.1 44 i) = X
  have h := lp_fill0 (fun n U j => lX3_begin_42 41 28 3 n U j) X 42 0 3 (fun i => X.1 28 i) some
    (by intro n f hf; show lX3_begin_42 41 28 3 (n + 1) (wR X 42 f) (nI 3) = _; rw [lX3_begin_42]; simp (disch := omega) only [qlt, qb_some, qb_none, ↓qn_1, ↓qn_2, ↓qn_3, ↓qn_4, ↓qn_9, ↓qn_1000, ↓qn_low, qi_0, qi_1, qi_2, qi_3, qi_4, qi_5, qi_6, qi_7, qi_8, qi_9, qi_10, qi_11, qi_12, qi_13, qi_14, qi_15, qi_16, qi_17, qi_20, qi_24, qi_30, qi_31, qi_32, qi_60, qi_99, qi_100, qi_200, qi_1000, qi_3400, qi_4000, qi_of, pu_gI, pu_pI, nI_leI, nI_ltI, nI_eq, nI_add, pk_mul, pk_sub, pk_div, qw_s, qw_o, qw_l, qr_s, qr_o, qr_l, ql_i, ql_s, ql_o, pk_us, pk_un, pk_uLs, pk_uLn, if_pos, if_neg, if_true, if_false, ite_self, eq_self, Nat.zero_add, Nat.add_zero, qwr, not_true_eq_false, not_false_eq_true, Option.some.injEq, qe_gn0, qe_m1n, qe_gng, qe_ngn, qe_gm, qe_mg, qe_lm1, qe_lgn, qe_lem, qe_leg, qe_tm1, qe_tgn])
    (by intro n f j hj hf; show lX3_begin_42 41 28 3 (n + 1) (wR X 42 f) (nI j) = _; rw [lX3_begin_42]; have e : (41 + 1 : Nat) = 42 := rfl; simp (disch := omega) only [qlt, qb_some, qb_none, ↓qn_1, ↓qn_2, ↓qn_3, ↓qn_4, ↓qn_9, ↓qn_1000, ↓qn_low, qi_0, qi_1, qi_2, qi_3, qi_4, qi_5, qi_6, qi_7, qi_8, qi_9, qi_10, qi_11, qi_12, qi_13, qi_14, qi_15, qi_16, qi_17, qi_20, qi_24, qi_30, qi_31, qi_32, qi_60, qi_99, qi_100, qi_200, qi_1000, qi_3400, qi_4000, qi_of, pu_gI, pu_pI, nI_leI, nI_ltI, nI_eq, nI_add, pk_mul, pk_sub, pk_div, qw_s, qw_o, qw_l, qr_s, qr_o, qr_l, ql_i, ql_s, ql_o, pk_us, pk_un, pk_uLs, pk_uLn, if_pos, if_neg, if_true, if_false, ite_self, eq_self, Nat.zero_add, Nat.add_zero, qwr, not_true_eq_false, not_false_eq_true, Option.some.injEq, qe_gn0, qe_m1n, qe_gng, qe_ngn, qe_gm, qe_mg, qe_lm1, qe_lgn, qe_lem, qe_leg, qe_tm1, qe_tgn, e]) (by unfold FU; omega)
  refine ⟨wR X 42 (fun i => if 0 ≤ i ∧ i < 0 + 3 then X.1 28 (i - 0) else X.1 42 i), ?_, ?_, ?_, ?_, ?_, ?_⟩
  · have e2 : (41 + 2 : Nat) = 43 := rfl
    have e3 : (41 + 3 : Nat) = 44 := rfl
    unfold mX3_begin mX3_forgetSums
    simp (disch := omega) only [qlt, qb_some, qb_none, ↓qn_1, ↓qn_2, ↓qn_3, ↓qn_4, ↓qn_9, ↓qn_1000, ↓qn_low, qi_0, qi_1, qi_2, qi_3, qi_4, qi_5, qi_6, qi_7, qi_8, qi_9, qi_10, qi_11, qi_12, qi_13, qi_14, qi_15, qi_16, qi_17, qi_20, qi_24, qi_30, qi_31, qi_32, qi_60, qi_99, qi_100, qi_200, qi_1000, qi_3400, qi_4000, qi_of, pu_gI, pu_pI, nI_leI, nI_ltI, nI_eq, nI_add, pk_mul, pk_sub, pk_div, qw_s, qw_o, qw_l, qr_s, qr_o, qr_l, ql_i, ql_s, ql_o, pk_us, pk_un, pk_uLs, pk_uLn, if_pos, if_neg, if_true, if_false, ite_self, eq_self, Nat.zero_add, Nat.add_zero, qwr, not_true_eq_false, not_false_eq_true, Option.some.injEq, qe_gn0, qe_m1n, qe_gng, qe_ngn, qe_gm, qe_mg, qe_lm1, qe_lgn, qe_lem, qe_leg, qe_tm1, qe_tgn, e2, e3, fill4]
    rw [hX]
    exact h
  · intro c c1 c2 c3 c4
    rw [qr_o c2, ← hX]
    simp (disch := omega) only [qlt, qb_some, qb_none, ↓qn_1, ↓qn_2, ↓qn_3, ↓qn_4, ↓qn_9, ↓qn_1000, ↓qn_low, qi_0, qi_1, qi_2, qi_3, qi_4, qi_5, qi_6, qi_7, qi_8, qi_9, qi_10, qi_11, qi_12, qi_13, qi_14, qi_15, qi_16, qi_17, qi_20, qi_24, qi_30, qi_31, qi_32, qi_60, qi_99, qi_100, qi_200, qi_1000, qi_3400, qi_4000, qi_of, pu_gI, pu_pI, nI_leI, nI_ltI, nI_eq, nI_add, pk_mul, pk_sub, pk_div, qw_s, qw_o, qw_l, qr_s, qr_o, qr_l, ql_i, ql_s, ql_o, pk_us, pk_un, pk_uLs, pk_uLn, if_pos, if_neg, if_true, if_false, ite_self, eq_self, Nat.zero_add, Nat.add_zero, qwr, not_true_eq_false, not_false_eq_true, Option.some.injEq, qe_gn0, qe_m1n, qe_gng, qe_ngn, qe_gm, qe_mg, qe_lm1, qe_lgn, qe_lem, qe_leg, qe_tm1, qe_tgn]
  · rw [qr_l, ← hX]; rfl
  · intro j hj
    rw [qr_o (by decide), ← hX]
    have : j = 0 ∨ j = 1 ∨ j = 2 ∨ j = 3 ∨ j = 4 ∨ j = 5 := by omega
    rcases this with rfl | rfl | rfl | rfl | rfl | rfl <;> simp (disch := omega) only [qlt, qb_some, qb_none, ↓qn_1, ↓qn_2, ↓qn_3, ↓qn_4, ↓qn_9, ↓qn_1000, ↓qn_low, qi_0, qi_1, qi_2, qi_3, qi_4, qi_5, qi_6, qi_7, qi_8, qi_9, qi_10, qi_11, qi_12, qi_13, qi_14, qi_15, qi_16, qi_17, qi_20, qi_24, qi_30, qi_31, qi_32, qi_60, qi_99, qi_100, qi_200, qi_1000, qi_3400, qi_4000, qi_of, pu_gI, pu_pI, nI_leI, nI_ltI, nI_eq, nI_add, pk_mul, pk_sub, pk_div, qw_s, qw_o, qw_l, qr_s, qr_o, qr_l, ql_i, ql_s, ql_o, pk_us, pk_un, pk_uLs, pk_uLn, if_pos, if_neg, if_true, if_false, ite_self, eq_self, Nat.zero_add, Nat.add_zero, qwr, not_true_eq_false, not_false_eq_true, Option.some.injEq, qe_gn0, qe_m1n, qe_gng, qe_ngn, qe_gm, qe_mg, qe_lm1, qe_lgn, qe_lem, qe_leg, qe_tm1, qe_tgn]
  · intro f hf
    rw [qr_s, if_pos (by omega), Nat.sub_zero, ← hX]
    simp (disch := omega) only [qlt, qb_some, qb_none, ↓qn_1, ↓qn_2, ↓qn_3, ↓qn_4, ↓qn_9, ↓qn_1000, ↓qn_low, qi_0, qi_1, qi_2, qi_3, qi_4, qi_5, qi_6, qi_7, qi_8, qi_9, qi_10, qi_11, qi_12, qi_13, qi_14, qi_15, qi_16, qi_17, qi_20, qi_24, qi_30, qi_31, qi_32, qi_60, qi_99, qi_100, qi_200, qi_1000, qi_3400, qi_4000, qi_of, pu_gI, pu_pI, nI_leI, nI_ltI, nI_eq, nI_add, pk_mul, pk_sub, pk_div, qw_s, qw_o, qw_l, qr_s, qr_o, qr_l, ql_i, ql_s, ql_o, pk_us, pk_un, pk_uLs, pk_uLn, if_pos, if_neg, if_true, if_false, ite_self, eq_self, Nat.zero_add, Nat.add_zero, qwr, not_true_eq_false, not_false_eq_true, Option.some.injEq, qe_gn0, qe_m1n, qe_gng, qe_ngn, qe_gm, qe_mg, qe_lm1, qe_lgn, qe_lem, qe_leg, qe_tm1, qe_tgn]
  · intro g hg
    rw [qr_o (by decide), ← hX]
    simp (disch := omega) only [qlt, qb_some, qb_none, ↓qn_1, ↓qn_2, ↓qn_3, ↓qn_4, ↓qn_9, ↓qn_1000, ↓qn_low, qi_0, qi_1, qi_2, qi_3, qi_4, qi_5, qi_6, qi_7, qi_8, qi_9, qi_10, qi_11, qi_12, qi_13, qi_14, qi_15, qi_16, qi_17, qi_20, qi_24, qi_30, qi_31, qi_32, qi_60, qi_99, qi_100, qi_200, qi_1000, qi_3400, qi_4000, qi_of, pu_gI, pu_pI, nI_leI, nI_ltI, nI_eq, nI_add, pk_mul, pk_sub, pk_div, qw_s, qw_o, qw_l, qr_s, qr_o, qr_l, ql_i, ql_s, ql_o, pk_us, pk_un, pk_uLs, pk_uLn, if_pos, if_neg, if_true, if_false, ite_self, eq_self, Nat.zero_add, Nat.add_zero, qwr, not_true_eq_false, not_false_eq_true, Option.some.injEq, qe_gn0, qe_m1n, qe_gng, qe_ngn, qe_gm, qe_mg, qe_lm1, qe_lgn, qe_lem, qe_leg, qe_tm1, qe_tgn]
/-- none is kept -/
theorem flags6 (S : vS) : lX6_valley_73 FU S (nI 0) = bX6_valley_98 (wI (wI (wI S 47 2 (nI 0)) 63 2 (nI 0)) 79 2 (nI 0)) := by
  have k0 := qa_kept (j := 0) (by decide)
  have k1 := qa_kept (j := 1) (by decide)
  have k2 := qa_kept (j := 2) (by decide)
  have key : ∀ q S, lX6_valley_73 (q + 4) S (nI 0) = bX6_valley_98 (wI (wI (wI S 47 2 (nI 0)) 63 2 (nI 0)) 79 2 (nI 0)) := by
    intro q S
    have z3 : ∀ S, lX6_valley_73 (q + 1) S (nI 3) = bX6_valley_98 S := by
      intro S
      rw [lX6_valley_73]
      simp (disch := omega) only [qlt, qb_some, qb_none, ↓qn_1, ↓qn_2, ↓qn_3, ↓qn_4, ↓qn_9, ↓qn_1000, ↓qn_low, qi_0, qi_1, qi_2, qi_3, qi_4, qi_5, qi_6, qi_7, qi_8, qi_9, qi_10, qi_11, qi_12, qi_13, qi_14, qi_15, qi_16, qi_17, qi_20, qi_24, qi_30, qi_31, qi_32, qi_60, qi_99, qi_100, qi_200, qi_1000, qi_3400, qi_4000, qi_of, pu_gI, pu_pI, nI_leI, nI_ltI, nI_eq, nI_add, pk_mul, pk_sub, pk_div, qw_s, qw_o, qw_l, qr_s, qr_o, qr_l, ql_i, ql_s, ql_o, pk_us, pk_un, pk_uLs, pk_uLn, if_pos, if_neg, if_true, if_false, ite_self, eq_self, Nat.zero_add, Nat.add_zero, qwr, not_true_eq_false, not_false_eq_true, Option.some.injEq, qe_gn0, qe_m1n, qe_gng, qe_ngn, qe_gm, qe_mg, qe_lm1, qe_lgn, qe_lem, qe_leg, qe_tm1, qe_tgn]
    have z2 : ∀ S, lX6_valley_73 (q + 2) S (nI 2) = bX6_valley_98 (wI S 79 2 (nI 0)) := by
      intro S
      rw [lX6_valley_73]
      simp (disch := omega) only [qlt, qb_some, qb_none, ↓qn_1, ↓qn_2, ↓qn_3, ↓qn_4, ↓qn_9, ↓qn_1000, ↓qn_low, qi_0, qi_1, qi_2, qi_3, qi_4, qi_5, qi_6, qi_7, qi_8, qi_9, qi_10, qi_11, qi_12, qi_13, qi_14, qi_15, qi_16, qi_17, qi_20, qi_24, qi_30, qi_31, qi_32, qi_60, qi_99, qi_100, qi_200, qi_1000, qi_3400, qi_4000, qi_of, pu_gI, pu_pI, nI_leI, nI_ltI, nI_eq, nI_add, pk_mul, pk_sub, pk_div, qw_s, qw_o, qw_l, qr_s, qr_o, qr_l, ql_i, ql_s, ql_o, pk_us, pk_un, pk_uLs, pk_uLn, if_pos, if_neg, if_true, if_false, ite_self, eq_self, Nat.zero_add, Nat.add_zero, qwr, not_true_eq_false, not_false_eq_true, Option.some.injEq, qe_gn0, qe_m1n, qe_gng, qe_ngn, qe_gm, qe_mg, qe_lm1, qe_lgn, qe_lem, qe_leg, qe_tm1, qe_tgn, k2, z3]
    have z1 : ∀ S, lX6_valley_73 (q + 3) S (nI 1) = bX6_valley_98 (wI (wI S 63 2 (nI 0)) 79 2 (nI 0)) := by
      intro S
      rw [lX6_valley_73]
      simp (disch := omega) only [qlt, qb_some, qb_none, ↓qn_1, ↓qn_2, ↓qn_3, ↓qn_4, ↓qn_9, ↓qn_1000, ↓qn_low, qi_0, qi_1, qi_2, qi_3, qi_4, qi_5, qi_6, qi_7, qi_8, qi_9, qi_10, qi_11, qi_12, qi_13, qi_14, qi_15, qi_16, qi_17, qi_20, qi_24, qi_30, qi_31, qi_32, qi_60, qi_99, qi_100, qi_200, qi_1000, qi_3400, qi_4000, qi_of, pu_gI, pu_pI, nI_leI, nI_ltI, nI_eq, nI_add, pk_mul, pk_sub, pk_div, qw_s, qw_o, qw_l, qr_s, qr_o, qr_l, ql_i, ql_s, ql_o, pk_us, pk_un, pk_uLs, pk_uLn, if_pos, if_neg, if_true, if_false, ite_self, eq_self, Nat.zero_add, Nat.add_zero, qwr, not_true_eq_false, not_false_eq_true, Option.some.injEq, qe_gn0, qe_m1n, qe_gng, qe_ngn, qe_gm, qe_mg, qe_lm1, qe_lgn, qe_lem, qe_leg, qe_tm1, qe_tgn, k1, z2]
    rw [lX6_valley_73]
    simp (disch := omega) only [qlt, qb_some, qb_none, ↓qn_1, ↓qn_2, ↓qn_3, ↓qn_4, ↓qn_9, ↓qn_1000, ↓qn_low, qi_0, qi_1, qi_2, qi_3, qi_4, qi_5, qi_6, qi_7, qi_8, qi_9, qi_10, qi_11, qi_12, qi_13, qi_14, qi_15, qi_16, qi_17, qi_20, qi_24, qi_30, qi_31, qi_32, qi_60, qi_99, qi_100, qi_200, qi_1000, qi_3400, qi_4000, qi_of, pu_gI, pu_pI, nI_leI, nI_ltI, nI_eq, nI_add, pk_mul, pk_sub, pk_div, qw_s, qw_o, qw_l, qr_s, qr_o, qr_l, ql_i, ql_s, ql_o, pk_us, pk_un, pk_uLs, pk_uLn, if_pos, if_neg, if_true, if_false, ite_self, eq_self, Nat.zero_add, Nat.add_zero, qwr, not_true_eq_false, not_false_eq_true, Option.some.injEq, qe_gn0, qe_m1n, qe_gng, qe_ngn, qe_gm, qe_mg, qe_lm1, qe_lgn, qe_lem, qe_leg, qe_tm1, qe_tgn, k0, z1]
  have h := key (FU - 4) S
  rw [show FU - 4 + 4 = FU by unfold FU; omega] at h
  exact h
/-- the reference begins a valley -/
theorem begin7 (U : vS) : ∃ X, lX7_valley_47 FU U (nI 0) = some (U.1 0 10, X) ∧ X.1 0 = U.1 0 ∧ (∀ c, c ≠ 7 → c ≠ 10 → c ≠ 13 → X.1 c = U.1 c) ∧ X.2 = U.2 ∧ (∀ i, i < 24 → X.1 7 i = U.1 9 i) ∧ (∀ i, i < 3 → X.1 13 i = nI 0) ∧ ∀ i, i < 15 → X.1 10 i = if i < 3 then U.1 8 i else if i < 8 then nI 0 else if i < 12 then gN else nI 0 := by
  have l1 := lp_fill0 (fun n V j => lX7_valley_47 n V j) U 7 0 24 (fun i => U.1 9 i) (fun V => bX7_valley_71 V)
    (by intro n f hf; show lX7_valley_47 (n + 1) (wR U 7 f) (nI 24) = _; rw [lX7_valley_47]; simp (disch := omega) only [qlt, qb_some, qb_none, ↓qn_1, ↓qn_2, ↓qn_3, ↓qn_4, ↓qn_9, ↓qn_1000, ↓qn_low, qi_0, qi_1, qi_2, qi_3, qi_4, qi_5, qi_6, qi_7, qi_8, qi_9, qi_10, qi_11, qi_12, qi_13, qi_14, qi_15, qi_16, qi_17, qi_20, qi_24, qi_30, qi_31, qi_32, qi_60, qi_99, qi_100, qi_200, qi_1000, qi_3400, qi_4000, qi_of, pu_gI, pu_pI, nI_leI, nI_ltI, nI_eq, nI_add, pk_mul, pk_sub, pk_div, qw_s, qw_o, qw_l, qr_s, qr_o, qr_l, ql_i, ql_s, ql_o, pk_us, pk_un, pk_uLs, pk_uLn, if_pos, if_neg, if_true, if_false, ite_self, eq_self, Nat.zero_add, Nat.add_zero, qwr, not_true_eq_false, not_false_eq_true, Option.some.injEq, qe_gn0, qe_m1n, qe_gng, qe_ngn, qe_gm, qe_mg, qe_lm1, qe_lgn, qe_lem, qe_leg, qe_tm1, qe_tgn])
    (by intro n f j hj hf; show lX7_valley_47 (n + 1) (wR U 7 f) (nI j) = _; rw [lX7_valley_47]; simp (disch := omega) only [qlt, qb_some, qb_none, ↓qn_1, ↓qn_2, ↓qn_3, ↓qn_4, ↓qn_9, ↓qn_1000, ↓qn_low, qi_0, qi_1, qi_2, qi_3, qi_4, qi_5, qi_6, qi_7, qi_8, qi_9, qi_10, qi_11, qi_12, qi_13, qi_14, qi_15, qi_16, qi_17, qi_20, qi_24, qi_30, qi_31, qi_32, qi_60, qi_99, qi_100, qi_200, qi_1000, qi_3400, qi_4000, qi_of, pu_gI, pu_pI, nI_leI, nI_ltI, nI_eq, nI_add, pk_mul, pk_sub, pk_div, qw_s, qw_o, qw_l, qr_s, qr_o, qr_l, ql_i, ql_s, ql_o, pk_us, pk_un, pk_uLs, pk_uLn, if_pos, if_neg, if_true, if_false, ite_self, eq_self, Nat.zero_add, Nat.add_zero, qwr, not_true_eq_false, not_false_eq_true, Option.some.injEq, qe_gn0, qe_m1n, qe_gng, qe_ngn, qe_gm, qe_mg, qe_lm1, qe_lgn, qe_lem, qe_leg, qe_tm1, qe_tgn]) (by unfold FU; omega)
  generalize hV : wR U 7 (fun i => if 0 ≤ i ∧ i < 0 + 24 then U.1 9 (i - 0) else U.1 7 i) = V at l1
  have l2 := lp_fill0 (fun n V j => lX7_valley_73 n V j) V 10 0 15 (fun _ => nI 0) (fun V => bX7_valley_92 V)
    (by intro n f hf; show lX7_valley_73 (n + 1) (wR V 10 f) (nI 15) = _; rw [lX7_valley_73]; simp (disch := omega) only [qlt, qb_some, qb_none, ↓qn_1, ↓qn_2, ↓qn_3, ↓qn_4, ↓qn_9, ↓qn_1000, ↓qn_low, qi_0, qi_1, qi_2, qi_3, qi_4, qi_5, qi_6, qi_7, qi_8, qi_9, qi_10, qi_11, qi_12, qi_13, qi_14, qi_15, qi_16, qi_17, qi_20, qi_24, qi_30, qi_31, qi_32, qi_60, qi_99, qi_100, qi_200, qi_1000, qi_3400, qi_4000, qi_of, pu_gI, pu_pI, nI_leI, nI_ltI, nI_eq, nI_add, pk_mul, pk_sub, pk_div, qw_s, qw_o, qw_l, qr_s, qr_o, qr_l, ql_i, ql_s, ql_o, pk_us, pk_un, pk_uLs, pk_uLn, if_pos, if_neg, if_true, if_false, ite_self, eq_self, Nat.zero_add, Nat.add_zero, qwr, not_true_eq_false, not_false_eq_true, Option.some.injEq, qe_gn0, qe_m1n, qe_gng, qe_ngn, qe_gm, qe_mg, qe_lm1, qe_lgn, qe_lem, qe_leg, qe_tm1, qe_tgn])
    (by intro n f j hj hf; show lX7_valley_73 (n + 1) (wR V 10 f) (nI j) = _; rw [lX7_valley_73]; unfold mX7_place; simp (disch := omega) only [qlt, qb_some, qb_none, ↓qn_1, ↓qn_2, ↓qn_3, ↓qn_4, ↓qn_9, ↓qn_1000, ↓qn_low, qi_0, qi_1, qi_2, qi_3, qi_4, qi_5, qi_6, qi_7, qi_8, qi_9, qi_10, qi_11, qi_12, qi_13, qi_14, qi_15, qi_16, qi_17, qi_20, qi_24, qi_30, qi_31, qi_32, qi_60, qi_99, qi_100, qi_200, qi_1000, qi_3400, qi_4000, qi_of, pu_gI, pu_pI, nI_leI, nI_ltI, nI_eq, nI_add, pk_mul, pk_sub, pk_div, qw_s, qw_o, qw_l, qr_s, qr_o, qr_l, ql_i, ql_s, ql_o, pk_us, pk_un, pk_uLs, pk_uLn, if_pos, if_neg, if_true, if_false, ite_self, eq_self, Nat.zero_add, Nat.add_zero, qwr, not_true_eq_false, not_false_eq_true, Option.some.injEq, qe_gn0, qe_m1n, qe_gng, qe_ngn, qe_gm, qe_mg, qe_lm1, qe_lgn, qe_lem, qe_leg, qe_tm1, qe_tgn, Nat.mul_zero]) (by unfold FU; omega)
  generalize hW : wR V 10 (fun i => if 0 ≤ i ∧ i < 0 + 15 then nI 0 else V.1 10 i) = W at l2
  have key : ∀ q (W : vS), lX7_valley_94 (q + 4) W (nI 0) = bX7_valley_126 (wI (wI (wI (wI (wI (wI W 10 0 (W.1 8 0)) 13 0 (nI 0)) 10 1 (W.1 8 1)) 13 1 (nI 0)) 10 2 (W.1 8 2)) 13 2 (nI 0)) := by
    intro q W
    have z3 : ∀ W, lX7_valley_94 (q + 1) W (nI 3) = bX7_valley_126 W := by
      intro W
      rw [lX7_valley_94]
      simp (disch := omega) only [qlt, qb_some, qb_none, ↓qn_1, ↓qn_2, ↓qn_3, ↓qn_4, ↓qn_9, ↓qn_1000, ↓qn_low, qi_0, qi_1, qi_2, qi_3, qi_4, qi_5, qi_6, qi_7, qi_8, qi_9, qi_10, qi_11, qi_12, qi_13, qi_14, qi_15, qi_16, qi_17, qi_20, qi_24, qi_30, qi_31, qi_32, qi_60, qi_99, qi_100, qi_200, qi_1000, qi_3400, qi_4000, qi_of, pu_gI, pu_pI, nI_leI, nI_ltI, nI_eq, nI_add, pk_mul, pk_sub, pk_div, qw_s, qw_o, qw_l, qr_s, qr_o, qr_l, ql_i, ql_s, ql_o, pk_us, pk_un, pk_uLs, pk_uLn, if_pos, if_neg, if_true, if_false, ite_self, eq_self, Nat.zero_add, Nat.add_zero, qwr, not_true_eq_false, not_false_eq_true, Option.some.injEq, qe_gn0, qe_m1n, qe_gng, qe_ngn, qe_gm, qe_mg, qe_lm1, qe_lgn, qe_lem, qe_leg, qe_tm1, qe_tgn]
    have z2 : ∀ W, lX7_valley_94 (q + 2) W (nI 2) = bX7_valley_126 (wI (wI W 10 2 (W.1 8 2)) 13 2 (nI 0)) := by
      intro W
      rw [lX7_valley_94]
      unfold mX7_place
      simp (disch := omega) only [qlt, qb_some, qb_none, ↓qn_1, ↓qn_2, ↓qn_3, ↓qn_4, ↓qn_9, ↓qn_1000, ↓qn_low, qi_0, qi_1, qi_2, qi_3, qi_4, qi_5, qi_6, qi_7, qi_8, qi_9, qi_10, qi_11, qi_12, qi_13, qi_14, qi_15, qi_16, qi_17, qi_20, qi_24, qi_30, qi_31, qi_32, qi_60, qi_99, qi_100, qi_200, qi_1000, qi_3400, qi_4000, qi_of, pu_gI, pu_pI, nI_leI, nI_ltI, nI_eq, nI_add, pk_mul, pk_sub, pk_div, qw_s, qw_o, qw_l, qr_s, qr_o, qr_l, ql_i, ql_s, ql_o, pk_us, pk_un, pk_uLs, pk_uLn, if_pos, if_neg, if_true, if_false, ite_self, eq_self, Nat.zero_add, Nat.add_zero, qwr, not_true_eq_false, not_false_eq_true, Option.some.injEq, qe_gn0, qe_m1n, qe_gng, qe_ngn, qe_gm, qe_mg, qe_lm1, qe_lgn, qe_lem, qe_leg, qe_tm1, qe_tgn, va_bool0, Nat.mul_zero, z3]
    have z1 : ∀ W, lX7_valley_94 (q + 3) W (nI 1) = bX7_valley_126 (wI (wI (wI (wI W 10 1 (W.1 8 1)) 13 1 (nI 0)) 10 2 (W.1 8 2)) 13 2 (nI 0)) := by
      intro W
      rw [lX7_valley_94]
      unfold mX7_place
      simp (disch := omega) only [qlt, qb_some, qb_none, ↓qn_1, ↓qn_2, ↓qn_3, ↓qn_4, ↓qn_9, ↓qn_1000, ↓qn_low, qi_0, qi_1, qi_2, qi_3, qi_4, qi_5, qi_6, qi_7, qi_8, qi_9, qi_10, qi_11, qi_12, qi_13, qi_14, qi_15, qi_16, qi_17, qi_20, qi_24, qi_30, qi_31, qi_32, qi_60, qi_99, qi_100, qi_200, qi_1000, qi_3400, qi_4000, qi_of, pu_gI, pu_pI, nI_leI, nI_ltI, nI_eq, nI_add, pk_mul, pk_sub, pk_div, qw_s, qw_o, qw_l, qr_s, qr_o, qr_l, ql_i, ql_s, ql_o, pk_us, pk_un, pk_uLs, pk_uLn, if_pos, if_neg, if_true, if_false, ite_self, eq_self, Nat.zero_add, Nat.add_zero, qwr, not_true_eq_false, not_false_eq_true, Option.some.injEq, qe_gn0, qe_m1n, qe_gng, qe_ngn, qe_gm, qe_mg, qe_lm1, qe_lgn, qe_lem, qe_leg, qe_tm1, qe_tgn, va_bool0, Nat.mul_zero, z2]
    rw [lX7_valley_94]
    unfold mX7_place
    simp (disch := omega) only [qlt, qb_some, qb_none, ↓qn_1, ↓qn_2, ↓qn_3, ↓qn_4, ↓qn_9, ↓qn_1000, ↓qn_low, qi_0, qi_1, qi_2, qi_3, qi_4, qi_5, qi_6, qi_7, qi_8, qi_9, qi_10, qi_11, qi_12, qi_13, qi_14, qi_15, qi_16, qi_17, qi_20, qi_24, qi_30, qi_31, qi_32, qi_60, qi_99, qi_100, qi_200, qi_1000, qi_3400, qi_4000, qi_of, pu_gI, pu_pI, nI_leI, nI_ltI, nI_eq, nI_add, pk_mul, pk_sub, pk_div, qw_s, qw_o, qw_l, qr_s, qr_o, qr_l, ql_i, ql_s, ql_o, pk_us, pk_un, pk_uLs, pk_uLn, if_pos, if_neg, if_true, if_false, ite_self, eq_self, Nat.zero_add, Nat.add_zero, qwr, not_true_eq_false, not_false_eq_true, Option.some.injEq, qe_gn0, qe_m1n, qe_gng, qe_ngn, qe_gm, qe_mg, qe_lm1, qe_lgn, qe_lem, qe_leg, qe_tm1, qe_tgn, va_bool0, Nat.mul_zero, z1]
  have l3 := key (FU - 4) W
  rw [show FU - 4 + 4 = FU by unfold FU; omega] at l3
  generalize hY : wI (wI (wI (wI (wI (wI W 10 0 (W.1 8 0)) 13 0 (nI 0)) 10 1 (W.1 8 1)) 13 1 (nI 0)) 10 2 (W.1 8 2)) 13 2 (nI 0) = Y at l3
  have l4 := lp_fill0 (fun n V j => lX7_valley_128 n V j) Y 10 8 4 (fun _ => gN) (fun V => bX7_valley_150 V)
    (by intro n f hf; show lX7_valley_128 (n + 1) (wR Y 10 f) (nI 4) = _; rw [lX7_valley_128]; simp (disch := omega) only [qlt, qb_some, qb_none, ↓qn_1, ↓qn_2, ↓qn_3, ↓qn_4, ↓qn_9, ↓qn_1000, ↓qn_low, qi_0, qi_1, qi_2, qi_3, qi_4, qi_5, qi_6, qi_7, qi_8, qi_9, qi_10, qi_11, qi_12, qi_13, qi_14, qi_15, qi_16, qi_17, qi_20, qi_24, qi_30, qi_31, qi_32, qi_60, qi_99, qi_100, qi_200, qi_1000, qi_3400, qi_4000, qi_of, pu_gI, pu_pI, nI_leI, nI_ltI, nI_eq, nI_add, pk_mul, pk_sub, pk_div, qw_s, qw_o, qw_l, qr_s, qr_o, qr_l, ql_i, ql_s, ql_o, pk_us, pk_un, pk_uLs, pk_uLn, if_pos, if_neg, if_true, if_false, ite_self, eq_self, Nat.zero_add, Nat.add_zero, qwr, not_true_eq_false, not_false_eq_true, Option.some.injEq, qe_gn0, qe_m1n, qe_gng, qe_ngn, qe_gm, qe_mg, qe_lm1, qe_lgn, qe_lem, qe_leg, qe_tm1, qe_tgn])
    (by intro n f j hj hf; show lX7_valley_128 (n + 1) (wR Y 10 f) (nI j) = _; rw [lX7_valley_128]; unfold mX7_place; simp (disch := omega) only [qlt, qb_some, qb_none, ↓qn_1, ↓qn_2, ↓qn_3, ↓qn_4, ↓qn_9, ↓qn_1000, ↓qn_low, qi_0, qi_1, qi_2, qi_3, qi_4, qi_5, qi_6, qi_7, qi_8, qi_9, qi_10, qi_11, qi_12, qi_13, qi_14, qi_15, qi_16, qi_17, qi_20, qi_24, qi_30, qi_31, qi_32, qi_60, qi_99, qi_100, qi_200, qi_1000, qi_3400, qi_4000, qi_of, pu_gI, pu_pI, nI_leI, nI_ltI, nI_eq, nI_add, pk_mul, pk_sub, pk_div, qw_s, qw_o, qw_l, qr_s, qr_o, qr_l, ql_i, ql_s, ql_o, pk_us, pk_un, pk_uLs, pk_uLn, if_pos, if_neg, if_true, if_false, ite_self, eq_self, Nat.zero_add, Nat.add_zero, qwr, not_true_eq_false, not_false_eq_true, Option.some.injEq, qe_gn0, qe_m1n, qe_gng, qe_ngn, qe_gm, qe_mg, qe_lm1, qe_lgn, qe_lem, qe_leg, qe_tm1, qe_tgn, Nat.mul_zero]) (by unfold FU; omega)
  have w8 : W.1 8 = U.1 8 := by rw [← hW, qr_o (by decide), ← hV, qr_o (by decide)]
  have y0 : Y.1 0 = U.1 0 := by rw [← hY]; simp (disch := omega) only [qlt, qb_some, qb_none, ↓qn_1, ↓qn_2, ↓qn_3, ↓qn_4, ↓qn_9, ↓qn_1000, ↓qn_low, qi_0, qi_1, qi_2, qi_3, qi_4, qi_5, qi_6, qi_7, qi_8, qi_9, qi_10, qi_11, qi_12, qi_13, qi_14, qi_15, qi_16, qi_17, qi_20, qi_24, qi_30, qi_31, qi_32, qi_60, qi_99, qi_100, qi_200, qi_1000, qi_3400, qi_4000, qi_of, pu_gI, pu_pI, nI_leI, nI_ltI, nI_eq, nI_add, pk_mul, pk_sub, pk_div, qw_s, qw_o, qw_l, qr_s, qr_o, qr_l, ql_i, ql_s, ql_o, pk_us, pk_un, pk_uLs, pk_uLn, if_pos, if_neg, if_true, if_false, ite_self, eq_self, Nat.zero_add, Nat.add_zero, qwr, not_true_eq_false, not_false_eq_true, Option.some.injEq, qe_gn0, qe_m1n, qe_gng, qe_ngn, qe_gm, qe_mg, qe_lm1, qe_lgn, qe_lem, qe_leg, qe_tm1, qe_tgn]; rw [← hW, qr_o (by decide), ← hV, qr_o (by decide)]
  refine ⟨wR Y 10 (fun i => if 8 ≤ i ∧ i < 8 + 4 then gN else Y.1 10 i), ?_, ?_, ?_, ?_, ?_, ?_, ?_⟩
  · rw [l1]
    unfold bX7_valley_71
    rw [qi_0, l2]
    unfold bX7_valley_92
    rw [qi_0, l3]
    unfold bX7_valley_126
    rw [qi_0, l4]
    unfold bX7_valley_150
    rw [qr_o (by decide), y0]
  · rw [qr_o (by decide), y0]
  · intro c c1 c2 c3
    rw [qr_o c2, ← hY]
    simp (disch := omega) only [qlt, qb_some, qb_none, ↓qn_1, ↓qn_2, ↓qn_3, ↓qn_4, ↓qn_9, ↓qn_1000, ↓qn_low, qi_0, qi_1, qi_2, qi_3, qi_4, qi_5, qi_6, qi_7, qi_8, qi_9, qi_10, qi_11, qi_12, qi_13, qi_14, qi_15, qi_16, qi_17, qi_20, qi_24, qi_30, qi_31, qi_32, qi_60, qi_99, qi_100, qi_200, qi_1000, qi_3400, qi_4000, qi_of, pu_gI, pu_pI, nI_leI, nI_ltI, nI_eq, nI_add, pk_mul, pk_sub, pk_div, qw_s, qw_o, qw_l, qr_s, qr_o, qr_l, ql_i, ql_s, ql_o, pk_us, pk_un, pk_uLs, pk_uLn, if_pos, if_neg, if_true, if_false, ite_self, eq_self, Nat.zero_add, Nat.add_zero, qwr, not_true_eq_false, not_false_eq_true, Option.some.injEq, qe_gn0, qe_m1n, qe_gng, qe_ngn, qe_gm, qe_mg, qe_lm1, qe_lgn, qe_lem, qe_leg, qe_tm1, qe_tgn]
    rw [← hW, qr_o c2, ← hV, qr_o c1]
  · rw [qr_l, ← hY, ← hW, ← hV]; rfl
  · intro i hi
    rw [qr_o (by decide), ← hY]
    simp (disch := omega) only [qlt, qb_some, qb_none, ↓qn_1, ↓qn_2, ↓qn_3, ↓qn_4, ↓qn_9, ↓qn_1000, ↓qn_low, qi_0, qi_1, qi_2, qi_3, qi_4, qi_5, qi_6, qi_7, qi_8, qi_9, qi_10, qi_11, qi_12, qi_13, qi_14, qi_15, qi_16, qi_17, qi_20, qi_24, qi_30, qi_31, qi_32, qi_60, qi_99, qi_100, qi_200, qi_1000, qi_3400, qi_4000, qi_of, pu_gI, pu_pI, nI_leI, nI_ltI, nI_eq, nI_add, pk_mul, pk_sub, pk_div, qw_s, qw_o, qw_l, qr_s, qr_o, qr_l, ql_i, ql_s, ql_o, pk_us, pk_un, pk_uLs, pk_uLn, if_pos, if_neg, if_true, if_false, ite_self, eq_self, Nat.zero_add, Nat.add_zero, qwr, not_true_eq_false, not_false_eq_true, Option.some.injEq, qe_gn0, qe_m1n, qe_gng, qe_ngn, qe_gm, qe_mg, qe_lm1, qe_lgn, qe_lem, qe_leg, qe_tm1, qe_tgn]
    rw [← hW, qr_o (by decide), ← hV, qr_s, if_pos (by omega), Nat.sub_zero]
  · intro i hi
    rw [qr_o (by decide), ← hY]
    have : i = 0 ∨ i = 1 ∨ i = 2 := by omega
    rcases this with rfl | rfl | rfl <;> simp (disch := omega) only [qlt, qb_some, qb_none, ↓qn_1, ↓qn_2, ↓qn_3, ↓qn_4, ↓qn_9, ↓qn_1000, ↓qn_low, qi_0, qi_1, qi_2, qi_3, qi_4, qi_5, qi_6, qi_7, qi_8, qi_9, qi_10, qi_11, qi_12, qi_13, qi_14, qi_15, qi_16, qi_17, qi_20, qi_24, qi_30, qi_31, qi_32, qi_60, qi_99, qi_100, qi_200, qi_1000, qi_3400, qi_4000, qi_of, pu_gI, pu_pI, nI_leI, nI_ltI, nI_eq, nI_add, pk_mul, pk_sub, pk_div, qw_s, qw_o, qw_l, qr_s, qr_o, qr_l, ql_i, ql_s, ql_o, pk_us, pk_un, pk_uLs, pk_uLn, if_pos, if_neg, if_true, if_false, ite_self, eq_self, Nat.zero_add, Nat.add_zero, qwr, not_true_eq_false, not_false_eq_true, Option.some.injEq, qe_gn0, qe_m1n, qe_gng, qe_ngn, qe_gm, qe_mg, qe_lm1, qe_lgn, qe_lem, qe_leg, qe_tm1, qe_tgn]
  · intro i hi
    rw [qr_s]
    by_cases h1 : i < 3
    · rw [if_neg (by omega), if_pos h1, ← hY, ← w8]
      have : i = 0 ∨ i = 1 ∨ i = 2 := by omega
      rcases this with rfl | rfl | rfl <;> simp (disch := omega) only [qlt, qb_some, qb_none, ↓qn_1, ↓qn_2, ↓qn_3, ↓qn_4, ↓qn_9, ↓qn_1000, ↓qn_low, qi_0, qi_1, qi_2, qi_3, qi_4, qi_5, qi_6, qi_7, qi_8, qi_9, qi_10, qi_11, qi_12, qi_13, qi_14, qi_15, qi_16, qi_17, qi_20, qi_24, qi_30, qi_31, qi_32, qi_60, qi_99, qi_100, qi_200, qi_1000, qi_3400, qi_4000, qi_of, pu_gI, pu_pI, nI_leI, nI_ltI, nI_eq, nI_add, pk_mul, pk_sub, pk_div, qw_s, qw_o, qw_l, qr_s, qr_o, qr_l, ql_i, ql_s, ql_o, pk_us, pk_un, pk_uLs, pk_uLn, if_pos, if_neg, if_true, if_false, ite_self, eq_self, Nat.zero_add, Nat.add_zero, qwr, not_true_eq_false, not_false_eq_true, Option.some.injEq, qe_gn0, qe_m1n, qe_gng, qe_ngn, qe_gm, qe_mg, qe_lm1, qe_lgn, qe_lem, qe_leg, qe_tm1, qe_tgn]
    · rw [if_neg h1]
      have e : Y.1 10 i = nI 0 := by
        rw [← hY]
        simp (disch := omega) only [qlt, qb_some, qb_none, ↓qn_1, ↓qn_2, ↓qn_3, ↓qn_4, ↓qn_9, ↓qn_1000, ↓qn_low, qi_0, qi_1, qi_2, qi_3, qi_4, qi_5, qi_6, qi_7, qi_8, qi_9, qi_10, qi_11, qi_12, qi_13, qi_14, qi_15, qi_16, qi_17, qi_20, qi_24, qi_30, qi_31, qi_32, qi_60, qi_99, qi_100, qi_200, qi_1000, qi_3400, qi_4000, qi_of, pu_gI, pu_pI, nI_leI, nI_ltI, nI_eq, nI_add, pk_mul, pk_sub, pk_div, qw_s, qw_o, qw_l, qr_s, qr_o, qr_l, ql_i, ql_s, ql_o, pk_us, pk_un, pk_uLs, pk_uLn, if_pos, if_neg, if_true, if_false, ite_self, eq_self, Nat.zero_add, Nat.add_zero, qwr, not_true_eq_false, not_false_eq_true, Option.some.injEq, qe_gn0, qe_m1n, qe_gng, qe_ngn, qe_gm, qe_mg, qe_lm1, qe_lgn, qe_lem, qe_leg, qe_tm1, qe_tgn]
        rw [← hW, qr_s, if_pos (by omega)]
      by_cases h2 : i < 8
      · rw [if_neg (by omega), if_pos h2, e]
      · by_cases h3 : i < 12
        · rw [if_pos (by omega), if_neg h2, if_pos h3]
        · rw [if_neg (by omega), if_neg h2, if_neg h3, e]
theorem Rel_read {S T S' S2 T' : vS} (R : Rel S T) (h : FrS S S') (h2 : ∀ c, (c < 18 ∨ (18 < c ∧ c < 25) ∨ 27 < c) → S2.1 c = S'.1 c) (h3 : S2.2 = S'.2) (hT : FrT T T') : Rel S2 T' :=
  Rel_scr R (fun c hc => by rw [h2 c (by omega)]; exact h.1 c (by omega)) (by rw [h3]; exact h.2.1) (hT.1 0 (by decide) (by decide) (by decide) (by decide)) (hT.1 2 (by decide) (by decide) (by decide) (by decide)) (hT.1 10 (by decide) (by decide) (by decide) (by decide)) (hT.1 34 (by decide) (by decide) (by decide) (by decide)) (fun c hc => hT.2.1 c (by omega) (by omega) (by omega)) (fr_eq (hT.2.1 10 (by decide) (by decide) (by decide))) hT.2.2
/-- both read -/
theorem both67 {S T : vS} {t m : Nat} (R : Rel S T) (ht : t < 4) (hm : m ≤ 60) (hs6 : S.1 (10 + 2 + 4) t = nI m) (hs7 : T.1 5 t = nI m) (hx : ∀ i, i < m → S.1 (10 + 2 + t) i = T.1 6 (60 * t + i)) :
    (∃ S2 T' j, j ≤ 4 ∧ mX2_firstFault S 17 10 4 (nI t) = some (gN, S2) ∧ mX7_faultOf T (nI t) = some (gN, T') ∧ Rel S2 T' ∧ T'.1 0 15 = nI j ∧ GInv j (T'.1 9) ∧ GodR S2 18 j (T'.1 9) ∧ (∀ i, i < 3 → S2.1 28 i = T'.1 8 i ∧ ∃ s, s ≤ 9 ∧ T'.1 8 i = nI s)) ∨
    (∃ S2 T' p, p ≤ 60 ∧ mX2_firstFault S 17 10 4 (nI t) = some (nI p, S2) ∧ mX7_faultOf T (nI t) = some (nI p, T') ∧ Rel S2 T') := by
  obtain ⟨cls, f1, f2⟩ := fault67 ht hm hs6 hs7 hx
  rcases f1 with ⟨S', T', j, hj, c1, c2, c3⟩ | ⟨S', T', p, hp, c1, c2, c3, c4⟩
  · obtain ⟨h1, h2, h3, h4, h5, h6, h7, h8⟩ := c3
    obtain ⟨S2, s1, s2, s3, s4, s5⟩ := settle6 hj h2
    refine Or.inl ⟨S2, T', j, hj, ?_, c2, Rel_read R h1.1 s2 s3 h1.2.1, h3, h7, s5 _ h7 (fun g hg i hi => h6 g i hi (Or.inl hg)), fun i hi => ?_⟩
    · have e5 : S2.1 17 5 = gN := by rw [s2 17 (by decide)]; exact h1.2.2.2.2.1
      rw [f2, c1]
      simp (disch := omega) only [qlt, qb_some, qb_none, ↓qn_1, ↓qn_2, ↓qn_3, ↓qn_4, ↓qn_9, ↓qn_1000, ↓qn_low, qi_0, qi_1, qi_2, qi_3, qi_4, qi_5, qi_6, qi_7, qi_8, qi_9, qi_10, qi_11, qi_12, qi_13, qi_14, qi_15, qi_16, qi_17, qi_20, qi_24, qi_30, qi_31, qi_32, qi_60, qi_99, qi_100, qi_200, qi_1000, qi_3400, qi_4000, qi_of, pu_gI, pu_pI, nI_leI, nI_ltI, nI_eq, nI_add, pk_mul, pk_sub, pk_div, qw_s, qw_o, qw_l, qr_s, qr_o, qr_l, ql_i, ql_s, ql_o, pk_us, pk_un, pk_uLs, pk_uLn, if_pos, if_neg, if_true, if_false, ite_self, eq_self, Nat.zero_add, Nat.add_zero, qwr, not_true_eq_false, not_false_eq_true, Option.some.injEq, qe_gn0, qe_m1n, qe_gng, qe_ngn, qe_gm, qe_mg, qe_lm1, qe_lgn, qe_lem, qe_leg, qe_tm1, qe_tgn, s1, e5]
    · rw [s2 28 (by decide)]
      exact h5 rfl i hi
  · obtain ⟨n, hn, h0⟩ := c3.1.2.2
    obtain ⟨S2, s1, s2, s3, s4, s5⟩ := settle6 hn h0
    refine Or.inr ⟨S2, T', p, hp, ?_, c2, Rel_read R c3.1 s2 s3 c4⟩
    have e5 : S2.1 17 5 = nI p := by rw [s2 17 (by decide)]; exact c3.2
    rw [f2, c1]
    simp (disch := omega) only [qlt, qb_some, qb_none, ↓qn_1, ↓qn_2, ↓qn_3, ↓qn_4, ↓qn_9, ↓qn_1000, ↓qn_low, qi_0, qi_1, qi_2, qi_3, qi_4, qi_5, qi_6, qi_7, qi_8, qi_9, qi_10, qi_11, qi_12, qi_13, qi_14, qi_15, qi_16, qi_17, qi_20, qi_24, qi_30, qi_31, qi_32, qi_60, qi_99, qi_100, qi_200, qi_1000, qi_3400, qi_4000, qi_of, pu_gI, pu_pI, nI_leI, nI_ltI, nI_eq, nI_add, pk_mul, pk_sub, pk_div, qw_s, qw_o, qw_l, qr_s, qr_o, qr_l, ql_i, ql_s, ql_o, pk_us, pk_un, pk_uLs, pk_uLn, if_pos, if_neg, if_true, if_false, ite_self, eq_self, Nat.zero_add, Nat.add_zero, qwr, not_true_eq_false, not_false_eq_true, Option.some.injEq, qe_gn0, qe_m1n, qe_gng, qe_ngn, qe_gm, qe_mg, qe_lm1, qe_lgn, qe_lem, qe_leg, qe_tm1, qe_tgn, s1, e5]
theorem valley67 {S2 T' : vS} {j : Nat} (hj : j ≤ 4) (R : Rel S2 T') (h15 : T'.1 0 15 = nI j) (hGI : GInv j (T'.1 9)) (hG : GodR S2 18 j (T'.1 9)) (hs : ∀ i, i < 3 → S2.1 28 i = T'.1 8 i ∧ ∃ s, s ≤ 9 ∧ T'.1 8 i = nI s) :
    ∃ S3 T3, ((mX5_begin S2 30 (17 + 1) (17 + 11) 3).bind fun S68 => (lX6_valley_73 FU S68 (nI 0))) = some (nI j, S3) ∧ lX7_valley_47 FU (wI T' 0 10 (nI j)) (nI 0) = some (nI j, T3) ∧ Rel S3 T3 := by
  obtain ⟨A, a1, a2, a3, a4, a5⟩ := take0 (S := S2) (k := 30 + 1) (k1 := 17 + 1) (by omega)
  obtain ⟨X, x1, x2, x3, x4, x5, x6⟩ := begin6 A
  obtain ⟨Y, y1, y2, y3, y4, y5, y6, y7⟩ := begin7 (wI T' 0 10 (nI j))
  have y0 : (wI T' 0 10 (nI j)).1 0 10 = nI j := by rw [qw_s, pk_us]
  have f0 : ∀ c, (c < 31 ∨ (44 < c ∧ c ≠ 47 ∧ c ≠ 63 ∧ c ≠ 79)) → (wI (wI (wI X 47 2 (nI 0)) 63 2 (nI 0)) 79 2 (nI 0)).1 c = S2.1 c := fun c hc => by
    rw [qw_o (by omega), qw_o (by omega), qw_o (by omega), x2 c (by omega) (by omega) (by omega) (by omega), a4 c (by omega)]
  have f1 : ∀ c, c < 47 → (wI (wI (wI X 47 2 (nI 0)) 63 2 (nI 0)) 79 2 (nI 0)).1 c = X.1 c := fun c hc => by
    rw [qw_o (by omega), qw_o (by omega), qw_o (by omega)]
  have f31 : X.1 31 0 = nI j := by
    rw [x2 31 (by decide) (by decide) (by decide) (by decide), show (31 : Nat) = 30 + 1 from rfl, a2 0 (by decide)]
    exact hG.1
  have fk : ∀ k, k < 3 → (wI (wI (wI X 47 2 (nI 0)) 63 2 (nI 0)) 79 2 (nI 0)).1 (47 + 16 * k) 2 = nI 0 := by
    intro k hk
    have : k = 0 ∨ k = 1 ∨ k = 2 := by omega
    rcases this with rfl | rfl | rfl <;> simp (disch := omega) only [qlt, qb_some, qb_none, ↓qn_1, ↓qn_2, ↓qn_3, ↓qn_4, ↓qn_9, ↓qn_1000, ↓qn_low, qi_0, qi_1, qi_2, qi_3, qi_4, qi_5, qi_6, qi_7, qi_8, qi_9, qi_10, qi_11, qi_12, qi_13, qi_14, qi_15, qi_16, qi_17, qi_20, qi_24, qi_30, qi_31, qi_32, qi_60, qi_99, qi_100, qi_200, qi_1000, qi_3400, qi_4000, qi_of, pu_gI, pu_pI, nI_leI, nI_ltI, nI_eq, nI_add, pk_mul, pk_sub, pk_div, qw_s, qw_o, qw_l, qr_s, qr_o, qr_l, ql_i, ql_s, ql_o, pk_us, pk_un, pk_uLs, pk_uLn, if_pos, if_neg, if_true, if_false, ite_self, eq_self, Nat.zero_add, Nat.add_zero, qwr, not_true_eq_false, not_false_eq_true, Option.some.injEq, qe_gn0, qe_m1n, qe_gng, qe_ngn, qe_gm, qe_mg, qe_lm1, qe_lgn, qe_lem, qe_leg, qe_tm1, qe_tgn, Nat.mul_zero, Nat.mul_one]
  generalize hZ : wI (wI (wI X 47 2 (nI 0)) 63 2 (nI 0)) 79 2 (nI 0) = Z at f0 f1 fk
  have hZ2 : Z.2 = S2.2 := by rw [← hZ]; show X.2 = _; rw [x3, a5]
  have yo : ∀ p, p ≠ 10 → Y.1 0 p = T'.1 0 p := fun p hp => by rw [y2, qw_s, pk_un hp]
  have yc : ∀ c, c ≠ 0 → c ≠ 7 → c ≠ 10 → c ≠ 13 → Y.1 c = T'.1 c := fun c c0 c1 c2 c3 => by rw [y3 c c1 c2 c3, qw_o c0]
  have yF : ∀ i, i < 15 → fr Y 0 i = if i < 3 then T'.1 8 i else if i < 8 then nI 0 else if i < 12 then gN else nI 0 := fun i hi => by
    rw [fr_i hi, show 15 * 0 + i = i by omega, y7 i hi, qw_o (c := 8) (by decide)]
  have y7c : ∀ i, i < 6 * j → Y.1 7 i = T'.1 9 i := fun i hi => by rw [y5 i (by omega), qw_o (by decide)]
  refine ⟨Z, Y, ?_, ?_, Rel_vil R ⟨fun c hc => f0 c (by omega), f0 134 (by omega), hZ2⟩ ⟨yo 0 (by decide), yo 2 (by decide), yc 1 (by decide) (by decide) (by decide) (by decide), yc 2 (by decide) (by decide) (by decide) (by decide), yc 3 (by decide) (by decide) (by decide) (by decide), yc 5 (by decide) (by decide) (by decide) (by decide), yc 6 (by decide) (by decide) (by decide) (by decide), by rw [y4]; rfl⟩ ?_⟩
  · have e1 : (17 + 11 : Nat) = 28 := rfl
    have e2 : (30 + 11 : Nat) = 41 := rfl
    have e3 : Z.1 (30 + 1) 0 = nI j := by rw [f1 _ (by decide)]; exact f31
    unfold mX5_begin
    simp (disch := omega) only [qlt, qb_some, qb_none, ↓qn_1, ↓qn_2, ↓qn_3, ↓qn_4, ↓qn_9, ↓qn_1000, ↓qn_low, qi_0, qi_1, qi_2, qi_3, qi_4, qi_5, qi_6, qi_7, qi_8, qi_9, qi_10, qi_11, qi_12, qi_13, qi_14, qi_15, qi_16, qi_17, qi_20, qi_24, qi_30, qi_31, qi_32, qi_60, qi_99, qi_100, qi_200, qi_1000, qi_3400, qi_4000, qi_of, pu_gI, pu_pI, nI_leI, nI_ltI, nI_eq, nI_add, pk_mul, pk_sub, pk_div, qw_s, qw_o, qw_l, qr_s, qr_o, qr_l, ql_i, ql_s, ql_o, pk_us, pk_un, pk_uLs, pk_uLn, if_pos, if_neg, if_true, if_false, ite_self, eq_self, Nat.zero_add, Nat.add_zero, qwr, not_true_eq_false, not_false_eq_true, Option.some.injEq, qe_gn0, qe_m1n, qe_gng, qe_ngn, qe_gm, qe_mg, qe_lm1, qe_lgn, qe_lem, qe_leg, qe_tm1, qe_tgn, a1, e1, e2, x1]
    rw [flags6, hZ]
    unfold bX6_valley_98
    rw [e3]
  · rw [y1, y0]
  · have F3 : ∀ g, g < 5 → fr Y 0 (3 + g) = nI 0 := fun g hg => by rw [yF _ (by omega), if_neg (by omega), if_pos (by omega)]
    have F8 : ∀ g, g < 4 → fr Y 0 (8 + g) = gN := fun g hg => by rw [yF _ (by omega), if_neg (by omega), if_neg (by omega), if_pos (by omega)]
    have F12 : ∀ g, g < 3 → fr Y 0 (12 + g) = nI 0 := fun g hg => by rw [yF _ (by omega), if_neg (by omega), if_neg (by omega), if_neg (by omega)]
    have F0 : ∀ f, f < 3 → fr Y 0 f = T'.1 8 f := fun f hf => by rw [yF _ (by omega), if_pos hf]
    have Z41 : ∀ i, i < 6 → Z.1 (30 + 11) i = nI 0 := fun i hi => by rw [f1 _ (by decide)]; exact x4 i hi
    refine ⟨j, hj, by rw [y2]; exact y0, ?_, GInv_tr y7c hGI, ⟨?_, ⟨?_, ⟨?_, fun g hg => ?_⟩, ?_, fun f hf => ?_, fun g hg _ => ?_⟩, ?_, ?_, ⟨⟨0, by decide, F12 2 (by decide)⟩, ?_, fun f hf => ?_, fun g hg => Or.inr ⟨0, by decide, F3 g (by omega)⟩⟩, 0, by decide, F12 2 (by decide), fun g hg hk => ⟨fun _ => F8 g (by omega), fun a ha _ => F8 g (by omega)⟩, fun e he => absurd he (by omega)⟩, fun k hk => Or.inl ⟨fk k hk, ?_⟩⟩
    · rw [yo 34 (by decide)]
      obtain ⟨_, _, _, h34, _⟩ := R.2.2.2.2
      exact h34
    · refine GodR_G y7c (GodR_tr (S := S2) (k := 18) hj (fun i hi => ?_) (fun i i1 i2 g hg => ?_) hG)
      · rw [f1 _ (by decide), x2 _ (by decide) (by decide) (by decide) (by decide)]
        exact a2 i hi
      · rw [f1 _ (by omega), x2 _ (by omega) (by omega) (by omega) (by omega)]
        exact a3 i i1 i2 g hg
    · rw [Z41 0 (by decide)]; exact (F12 2 (by decide)).symm
    · rw [Z41 1 (by decide)]; exact nib_0
    · rw [Z41 1 (by decide), bt_z g hg, F3 g (by omega)]
      have : ¬ nI 0 = gN := qe_gn (by decide)
      simp [this]
    · rw [Z41 2 (by decide)]; exact (F3 4 (by decide)).symm
    · rw [f1 _ (by decide), F0 f hf, show (30 + 11 + 1 : Nat) = 42 from rfl, x5 f hf, a4 28 (by omega)]
      exact (hs f hf).1
    · rw [f1 _ (by decide), F3 g (by omega), show (30 + 11 + 2 : Nat) = 43 from rfl, x6 g (by omega)]
    · rw [Z41 3 (by decide)]; exact (F12 0 (by decide)).symm
    · rw [Z41 4 (by decide)]; exact (F12 1 (by decide)).symm
    · rw [F3 4 (by decide)]; exact nib_0
    · rw [F0 f hf]
      obtain ⟨s, s1, s2⟩ := (hs f hf).2
      exact ⟨s, by omega, s2⟩
    · exact y6 k hk
theorem st_valley : St_valley Rel := by
  intro S T a R
  unfold mX6_valley mX7_valley mX7_isText
  rcases oR_or a (N := 4) (by decide) with h | ⟨r, hr, rfl⟩
  · simp (disch := omega) only [qlt, qb_some, qb_none, ↓qn_1, ↓qn_2, ↓qn_3, ↓qn_4, ↓qn_9, ↓qn_1000, ↓qn_low, qi_0, qi_1, qi_2, qi_3, qi_4, qi_5, qi_6, qi_7, qi_8, qi_9, qi_10, qi_11, qi_12, qi_13, qi_14, qi_15, qi_16, qi_17, qi_20, qi_24, qi_30, qi_31, qi_32, qi_60, qi_99, qi_100, qi_200, qi_1000, qi_3400, qi_4000, qi_of, pu_gI, pu_pI, nI_leI, nI_ltI, nI_eq, nI_add, pk_mul, pk_sub, pk_div, qw_s, qw_o, qw_l, qr_s, qr_o, qr_l, ql_i, ql_s, ql_o, pk_us, pk_un, pk_uLs, pk_uLn, if_pos, if_neg, if_true, if_false, ite_self, eq_self, Nat.zero_add, Nat.add_zero, qwr, not_true_eq_false, not_false_eq_true, Option.some.injEq, qe_gn0, qe_m1n, qe_gng, qe_ngn, qe_gm, qe_mg, qe_lm1, qe_lgn, qe_lem, qe_leg, qe_tm1, qe_tgn, has4_o (S := S) (k := 10) h, oR_in7 (by decide) h]
    exact ⟨_, _, rfl, rfl, rfl, R⟩
  obtain ⟨e1, e2, e3⟩ := R.2.2.2.1 r hr
  rcases e2 with e2 | ⟨m, hm, e2⟩
  · simp (disch := omega) only [qlt, qb_some, qb_none, ↓qn_1, ↓qn_2, ↓qn_3, ↓qn_4, ↓qn_9, ↓qn_1000, ↓qn_low, qi_0, qi_1, qi_2, qi_3, qi_4, qi_5, qi_6, qi_7, qi_8, qi_9, qi_10, qi_11, qi_12, qi_13, qi_14, qi_15, qi_16, qi_17, qi_20, qi_24, qi_30, qi_31, qi_32, qi_60, qi_99, qi_100, qi_200, qi_1000, qi_3400, qi_4000, qi_of, pu_gI, pu_pI, nI_leI, nI_ltI, nI_eq, nI_add, pk_mul, pk_sub, pk_div, qw_s, qw_o, qw_l, qr_s, qr_o, qr_l, ql_i, ql_s, ql_o, pk_us, pk_un, pk_uLs, pk_uLn, if_pos, if_neg, if_true, if_false, ite_self, eq_self, Nat.zero_add, Nat.add_zero, qwr, not_true_eq_false, not_false_eq_true, Option.some.injEq, qe_gn0, qe_m1n, qe_gng, qe_ngn, qe_gm, qe_mg, qe_lm1, qe_lgn, qe_lem, qe_leg, qe_tm1, qe_tgn, has4_y, in7_y, there_n hr (show 4 < 2 ^ 31 by decide) (e1.trans e2), e2, qf_found, qf_meets]
    exact ⟨_, _, rfl, rfl, rfl, Rel_found R (by decide)⟩
  · rcases both67 R hr hm (e1.trans e2) e2 (e3 m hm e2) with ⟨S2, T', j, hj, f1, f2, f3, f4, f5, f6, f7⟩ | ⟨S2, T', p, hp, f1, f2, f3⟩
    · obtain ⟨S3, T3, v1, v2, v3⟩ := valley67 hj f3 f4 f5 f6 f7
      simp (disch := omega) only [qlt, qb_some, qb_none, ↓qn_1, ↓qn_2, ↓qn_3, ↓qn_4, ↓qn_9, ↓qn_1000, ↓qn_low, qi_0, qi_1, qi_2, qi_3, qi_4, qi_5, qi_6, qi_7, qi_8, qi_9, qi_10, qi_11, qi_12, qi_13, qi_14, qi_15, qi_16, qi_17, qi_20, qi_24, qi_30, qi_31, qi_32, qi_60, qi_99, qi_100, qi_200, qi_1000, qi_3400, qi_4000, qi_of, pu_gI, pu_pI, nI_leI, nI_ltI, nI_eq, nI_add, pk_mul, pk_sub, pk_div, qw_s, qw_o, qw_l, qr_s, qr_o, qr_l, ql_i, ql_s, ql_o, pk_us, pk_un, pk_uLs, pk_uLn, if_pos, if_neg, if_true, if_false, ite_self, eq_self, Nat.zero_add, Nat.add_zero, qwr, not_true_eq_false, not_false_eq_true, Option.some.injEq, qe_gn0, qe_m1n, qe_gng, qe_ngn, qe_gm, qe_mg, qe_lm1, qe_lgn, qe_lem, qe_leg, qe_tm1, qe_tgn, has4_y, in7_y, there_y hr (show 4 < 2 ^ 31 by decide) (e1.trans e2) hm, e2, f1, f2, f4]
      exact ⟨_, _, v1, v2, rfl, v3⟩
    · simp (disch := omega) only [qlt, qb_some, qb_none, ↓qn_1, ↓qn_2, ↓qn_3, ↓qn_4, ↓qn_9, ↓qn_1000, ↓qn_low, qi_0, qi_1, qi_2, qi_3, qi_4, qi_5, qi_6, qi_7, qi_8, qi_9, qi_10, qi_11, qi_12, qi_13, qi_14, qi_15, qi_16, qi_17, qi_20, qi_24, qi_30, qi_31, qi_32, qi_60, qi_99, qi_100, qi_200, qi_1000, qi_3400, qi_4000, qi_of, pu_gI, pu_pI, nI_leI, nI_ltI, nI_eq, nI_add, pk_mul, pk_sub, pk_div, qw_s, qw_o, qw_l, qr_s, qr_o, qr_l, ql_i, ql_s, ql_o, pk_us, pk_un, pk_uLs, pk_uLn, if_pos, if_neg, if_true, if_false, ite_self, eq_self, Nat.zero_add, Nat.add_zero, qwr, not_true_eq_false, not_false_eq_true, Option.some.injEq, qe_gn0, qe_m1n, qe_gng, qe_ngn, qe_gm, qe_mg, qe_lm1, qe_lgn, qe_lem, qe_leg, qe_tm1, qe_tgn, has4_y, in7_y, there_y hr (show 4 < 2 ^ 31 by decide) (e1.trans e2) hm, e2, f1, f2]
      exact ⟨_, _, rfl, rfl, rfl, f3⟩
theorem st_fault : St_fault Rel := by
  intro S T a R
  unfold mX6_fault mX7_fault mX7_isText
  rcases oR_or a (N := 4) (by decide) with h | ⟨r, hr, rfl⟩
  · simp (disch := omega) only [qlt, qb_some, qb_none, ↓qn_1, ↓qn_2, ↓qn_3, ↓qn_4, ↓qn_9, ↓qn_1000, ↓qn_low, qi_0, qi_1, qi_2, qi_3, qi_4, qi_5, qi_6, qi_7, qi_8, qi_9, qi_10, qi_11, qi_12, qi_13, qi_14, qi_15, qi_16, qi_17, qi_20, qi_24, qi_30, qi_31, qi_32, qi_60, qi_99, qi_100, qi_200, qi_1000, qi_3400, qi_4000, qi_of, pu_gI, pu_pI, nI_leI, nI_ltI, nI_eq, nI_add, pk_mul, pk_sub, pk_div, qw_s, qw_o, qw_l, qr_s, qr_o, qr_l, ql_i, ql_s, ql_o, pk_us, pk_un, pk_uLs, pk_uLn, if_pos, if_neg, if_true, if_false, ite_self, eq_self, Nat.zero_add, Nat.add_zero, qwr, not_true_eq_false, not_false_eq_true, Option.some.injEq, qe_gn0, qe_m1n, qe_gng, qe_ngn, qe_gm, qe_mg, qe_lm1, qe_lgn, qe_lem, qe_leg, qe_tm1, qe_tgn, has4_o (S := S) (k := 10) h, oR_in7 (by decide) h]
    exact ⟨_, _, rfl, rfl, rfl, R⟩
  obtain ⟨e1, e2, e3⟩ := R.2.2.2.1 r hr
  rcases e2 with e2 | ⟨m, hm, e2⟩
  · simp (disch := omega) only [qlt, qb_some, qb_none, ↓qn_1, ↓qn_2, ↓qn_3, ↓qn_4, ↓qn_9, ↓qn_1000, ↓qn_low, qi_0, qi_1, qi_2, qi_3, qi_4, qi_5, qi_6, qi_7, qi_8, qi_9, qi_10, qi_11, qi_12, qi_13, qi_14, qi_15, qi_16, qi_17, qi_20, qi_24, qi_30, qi_31, qi_32, qi_60, qi_99, qi_100, qi_200, qi_1000, qi_3400, qi_4000, qi_of, pu_gI, pu_pI, nI_leI, nI_ltI, nI_eq, nI_add, pk_mul, pk_sub, pk_div, qw_s, qw_o, qw_l, qr_s, qr_o, qr_l, ql_i, ql_s, ql_o, pk_us, pk_un, pk_uLs, pk_uLn, if_pos, if_neg, if_true, if_false, ite_self, eq_self, Nat.zero_add, Nat.add_zero, qwr, not_true_eq_false, not_false_eq_true, Option.some.injEq, qe_gn0, qe_m1n, qe_gng, qe_ngn, qe_gm, qe_mg, qe_lm1, qe_lgn, qe_lem, qe_leg, qe_tm1, qe_tgn, has4_y, in7_y, there_n hr (show 4 < 2 ^ 31 by decide) (e1.trans e2), e2, qf_found, qf_meets]
    exact ⟨_, _, rfl, rfl, rfl, Rel_found R (by decide)⟩
  · rcases both67 R hr hm (e1.trans e2) e2 (e3 m hm e2) with ⟨S2, T', j, hj, f1, f2, f3, _⟩ | ⟨S2, T', p, hp, f1, f2, f3⟩
    · simp (disch := omega) only [qlt, qb_some, qb_none, ↓qn_1, ↓qn_2, ↓qn_3, ↓qn_4, ↓qn_9, ↓qn_1000, ↓qn_low, qi_0, qi_1, qi_2, qi_3, qi_4, qi_5, qi_6, qi_7, qi_8, qi_9, qi_10, qi_11, qi_12, qi_13, qi_14, qi_15, qi_16, qi_17, qi_20, qi_24, qi_30, qi_31, qi_32, qi_60, qi_99, qi_100, qi_200, qi_1000, qi_3400, qi_4000, qi_of, pu_gI, pu_pI, nI_leI, nI_ltI, nI_eq, nI_add, pk_mul, pk_sub, pk_div, qw_s, qw_o, qw_l, qr_s, qr_o, qr_l, ql_i, ql_s, ql_o, pk_us, pk_un, pk_uLs, pk_uLn, if_pos, if_neg, if_true, if_false, ite_self, eq_self, Nat.zero_add, Nat.add_zero, qwr, not_true_eq_false, not_false_eq_true, Option.some.injEq, qe_gn0, qe_m1n, qe_gng, qe_ngn, qe_gm, qe_mg, qe_lm1, qe_lgn, qe_lem, qe_leg, qe_tm1, qe_tgn, has4_y, in7_y, there_y hr (show 4 < 2 ^ 31 by decide) (e1.trans e2) hm, e2, f1, f2]
      exact ⟨_, _, rfl, rfl, rfl, f3⟩
    · simp (disch := omega) only [qlt, qb_some, qb_none, ↓qn_1, ↓qn_2, ↓qn_3, ↓qn_4, ↓qn_9, ↓qn_1000, ↓qn_low, qi_0, qi_1, qi_2, qi_3, qi_4, qi_5, qi_6, qi_7, qi_8, qi_9, qi_10, qi_11, qi_12, qi_13, qi_14, qi_15, qi_16, qi_17, qi_20, qi_24, qi_30, qi_31, qi_32, qi_60, qi_99, qi_100, qi_200, qi_1000, qi_3400, qi_4000, qi_of, pu_gI, pu_pI, nI_leI, nI_ltI, nI_eq, nI_add, pk_mul, pk_sub, pk_div, qw_s, qw_o, qw_l, qr_s, qr_o, qr_l, ql_i, ql_s, ql_o, pk_us, pk_un, pk_uLs, pk_uLn, if_pos, if_neg, if_true, if_false, ite_self, eq_self, Nat.zero_add, Nat.add_zero, qwr, not_true_eq_false, not_false_eq_true, Option.some.injEq, qe_gn0, qe_m1n, qe_gng, qe_ngn, qe_gm, qe_mg, qe_lm1, qe_lgn, qe_lem, qe_leg, qe_tm1, qe_tgn, has4_y, in7_y, there_y hr (show 4 < 2 ^ 31 by decide) (e1.trans e2) hm, e2, f1, f2]
      exact ⟨_, _, rfl, rfl, rfl, f3⟩
