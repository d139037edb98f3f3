/-! ===== PURE: count, digest ===== -/
theorem st_count : St_count Rel := by
  intro S T a R
  obtain ⟨n, hn, h10, h34, hGI, hV, hK⟩ := R.2.2.2.2
  unfold mX7_count
  rcases oR_or a (N := 8) (by decide) with h | ⟨N, hN, rfl⟩
  · have e : mX6_count S a = some m1 := by
      unfold mX6_count
      rcases h with h | h
      · simp (disch := omega) only [qlt, qb_some, qb_none, ↓qn_1, ↓qn_2, ↓qn_3, ↓qn_4, ↓qn_9, ↓qn_1000, ↓qn_low, qi_0, qi_1, qi_2, qi_3, qi_4, qi_5, qi_6, qi_7, qi_8, qi_9, qi_10, qi_11, qi_12, qi_13, qi_14, qi_15, qi_16, qi_17, qi_20, qi_24, qi_30, qi_31, qi_32, qi_60, qi_99, qi_100, qi_200, qi_1000, qi_3400, qi_4000, qi_of, pu_gI, pu_pI, nI_leI, nI_ltI, nI_eq, nI_add, pk_mul, pk_sub, pk_div, qw_s, qw_o, qw_l, qr_s, qr_o, qr_l, ql_i, ql_s, ql_o, pk_us, pk_un, pk_uLs, pk_uLn, if_pos, if_neg, if_true, if_false, ite_self, eq_self, Nat.zero_add, Nat.add_zero, qwr, not_true_eq_false, not_false_eq_true, Option.some.injEq, qe_gn0, qe_m1n, qe_gng, qe_ngn, qe_gm, qe_mg, qe_lm1, qe_lgn, qe_lem, qe_leg, qe_tm1, qe_tgn, sg_leT h, sg_geF h, sg_ltT h, sg_gtF h, sg_eqF h, sg_eqF2 h]
      · simp (disch := omega) only [qlt, qb_some, qb_none, ↓qn_1, ↓qn_2, ↓qn_3, ↓qn_4, ↓qn_9, ↓qn_1000, ↓qn_low, qi_0, qi_1, qi_2, qi_3, qi_4, qi_5, qi_6, qi_7, qi_8, qi_9, qi_10, qi_11, qi_12, qi_13, qi_14, qi_15, qi_16, qi_17, qi_20, qi_24, qi_30, qi_31, qi_32, qi_60, qi_99, qi_100, qi_200, qi_1000, qi_3400, qi_4000, qi_of, pu_gI, pu_pI, nI_leI, nI_ltI, nI_eq, nI_add, pk_mul, pk_sub, pk_div, qw_s, qw_o, qw_l, qr_s, qr_o, qr_l, ql_i, ql_s, ql_o, pk_us, pk_un, pk_uLs, pk_uLn, if_pos, if_neg, if_true, if_false, ite_self, eq_self, Nat.zero_add, Nat.add_zero, qwr, not_true_eq_false, not_false_eq_true, Option.some.injEq, qe_gn0, qe_m1n, qe_gng, qe_ngn, qe_gm, qe_mg, qe_lm1, qe_lgn, qe_lem, qe_leg, qe_tm1, qe_tgn, bg_leF h, bg_ltT h, bg_geT h, bg_ltF h, bg_eqF h, bg_eqF2 h]
    simp (disch := omega) only [qlt, qb_some, qb_none, ↓qn_1, ↓qn_2, ↓qn_3, ↓qn_4, ↓qn_9, ↓qn_1000, ↓qn_low, qi_0, qi_1, qi_2, qi_3, qi_4, qi_5, qi_6, qi_7, qi_8, qi_9, qi_10, qi_11, qi_12, qi_13, qi_14, qi_15, qi_16, qi_17, qi_20, qi_24, qi_30, qi_31, qi_32, qi_60, qi_99, qi_100, qi_200, qi_1000, qi_3400, qi_4000, qi_of, pu_gI, pu_pI, nI_leI, nI_ltI, nI_eq, nI_add, pk_mul, pk_sub, pk_div, qw_s, qw_o, qw_l, qr_s, qr_o, qr_l, ql_i, ql_s, ql_o, pk_us, pk_un, pk_uLs, pk_uLn, if_pos, if_neg, if_true, if_false, ite_self, eq_self, Nat.zero_add, Nat.add_zero, qwr, not_true_eq_false, not_false_eq_true, Option.some.injEq, qe_gn0, qe_m1n, qe_gng, qe_ngn, qe_gm, qe_mg, qe_lm1, qe_lgn, qe_lem, qe_leg, qe_tm1, qe_tgn, e, oR_in7 (show 7 < 2 ^ 30 by decide) h]
    exact ⟨_, _, rfl, rfl, rfl, R⟩
  · simp (disch := omega) only [qlt, qb_some, qb_none, ↓qn_1, ↓qn_2, ↓qn_3, ↓qn_4, ↓qn_9, ↓qn_1000, ↓qn_low, qi_0, qi_1, qi_2, qi_3, qi_4, qi_5, qi_6, qi_7, qi_8, qi_9, qi_10, qi_11, qi_12, qi_13, qi_14, qi_15, qi_16, qi_17, qi_20, qi_24, qi_30, qi_31, qi_32, qi_60, qi_99, qi_100, qi_200, qi_1000, qi_3400, qi_4000, qi_of, pu_gI, pu_pI, nI_leI, nI_ltI, nI_eq, nI_add, pk_mul, pk_sub, pk_div, qw_s, qw_o, qw_l, qr_s, qr_o, qr_l, ql_i, ql_s, ql_o, pk_us, pk_un, pk_uLs, pk_uLn, if_pos, if_neg, if_true, if_false, ite_self, eq_self, Nat.zero_add, Nat.add_zero, qwr, not_true_eq_false, not_false_eq_true, Option.some.injEq, qe_gn0, qe_m1n, qe_gng, qe_ngn, qe_gm, qe_mg, qe_lm1, qe_lgn, qe_lem, qe_leg, qe_tm1, qe_tgn, count6 R hn h10 hGI hV hK hN, count7 h10 hn hN, in7_y]
    exact ⟨_, _, rfl, rfl, rfl, R⟩
theorem wLwL (T : vS) (x y : Int64) : wL (wL T 0 38 x) 0 38 y = wL T 0 38 y := by
  refine Prod.ext rfl ?_
  funext c
  show (if c = 0 then vp_updL ((wL T 0 38 x).2 0) 38 y else if c = 0 then vp_updL (T.2 0) 38 x else T.2 c) = (if c = 0 then vp_updL (T.2 0) 38 y else T.2 c)
  by_cases h : c = 0
  · rw [if_pos h, if_pos h, ql_s]
    funext i
    unfold vp_updL
    split <;> rfl
  · rw [if_neg h, if_neg h, if_neg h]
theorem mixH (T : vS) (h v : Int64) : mX7_mix (wL T 0 38 h) v = wL T 0 38 ((31 : Int64) * h + v) := by
  have e : (wL T 0 38 h).2 0 38 = h := by
    rw [ql_s]
    exact pk_uLs
  unfold mX7_mix
  rw [qlt, e, wLwL]
theorem t64_0 : Int32.toInt64 (nI 0) = (0 : Int64) := by decide +kernel
theorem t64_1 : Int32.toInt64 (nI 1) = (1 : Int64) := by decide +kernel
theorem t64_m : Int32.toInt64 m1 = (-1 : Int64) := by decide +kernel
section DG
variable {S T : vS} {n e : Nat}
theorem dg_1 (R : Rel S T) (hn : n ≤ 4) (h10 : T.1 0 10 = nI n) (hGI : GInv n (T.1 7)) (hV : VilR S 30 n (T.1 7) (fr T 0) (T.1 12)) (hK : ∀ k, k < 3 → KepR S T n k) : ∀ q j h, j ≤ 8 → 8 - j < q → ∃ h', lX6_digest_6 S q h (nI j) = bX6_digest_31 S h' ∧ lX7_digest_9 q (wL T 0 38 h) (nI j) = bX7_digest_31 (wL T 0 38 h') := by
  intro q
  induction q with
  | zero => intro j h h1 h2; omega
  | succ q ih =>
    intro j h h1 h2
    rw [lX6_digest_6, lX7_digest_9]
    by_cases hj : j = 8
    · subst hj
      simp (disch := omega) only [qlt, qb_some, qb_none, ↓qn_1, ↓qn_2, ↓qn_3, ↓qn_4, ↓qn_9, ↓qn_1000, ↓qn_low, qi_0, qi_1, qi_2, qi_3, qi_4, qi_5, qi_6, qi_7, qi_8, qi_9, qi_10, qi_11, qi_12, qi_13, qi_14, qi_15, qi_16, qi_17, qi_20, qi_24, qi_30, qi_31, qi_32, qi_60, qi_99, qi_100, qi_200, qi_1000, qi_3400, qi_4000, qi_of, pu_gI, pu_pI, nI_leI, nI_ltI, nI_eq, nI_add, pk_mul, pk_sub, pk_div, qw_s, qw_o, qw_l, qr_s, qr_o, qr_l, ql_i, ql_s, ql_o, pk_us, pk_un, pk_uLs, pk_uLn, if_pos, if_neg, if_true, if_false, ite_self, eq_self, Nat.zero_add, Nat.add_zero, qwr, not_true_eq_false, not_false_eq_true, Option.some.injEq, qe_gn0, qe_m1n, qe_gng, qe_ngn, qe_gm, qe_mg, qe_lm1, qe_lgn, qe_lem, qe_leg, qe_tm1, qe_tgn]
      exact ⟨h, rfl, rfl⟩
    · have c7 : mX7_counted (wL T 0 38 h) (nI j) = some (cnt T n j) := count7 (T := wL T 0 38 h) h10 hn (show j < 8 by omega)
      have c6 := count6 R hn h10 hGI hV hK (show j < 8 by omega)
      obtain ⟨h', w1, w2⟩ := ih (j + 1) ((31 : Int64) * h + Int32.toInt64 (cnt T n j)) (by omega) (by omega)
      simp (disch := omega) only [qlt, qb_some, qb_none, ↓qn_1, ↓qn_2, ↓qn_3, ↓qn_4, ↓qn_9, ↓qn_1000, ↓qn_low, qi_0, qi_1, qi_2, qi_3, qi_4, qi_5, qi_6, qi_7, qi_8, qi_9, qi_10, qi_11, qi_12, qi_13, qi_14, qi_15, qi_16, qi_17, qi_20, qi_24, qi_30, qi_31, qi_32, qi_60, qi_99, qi_100, qi_200, qi_1000, qi_3400, qi_4000, qi_of, pu_gI, pu_pI, nI_leI, nI_ltI, nI_eq, nI_add, pk_mul, pk_sub, pk_div, qw_s, qw_o, qw_l, qr_s, qr_o, qr_l, ql_i, ql_s, ql_o, pk_us, pk_un, pk_uLs, pk_uLn, if_pos, if_neg, if_true, if_false, ite_self, eq_self, Nat.zero_add, Nat.add_zero, qwr, not_true_eq_false, not_false_eq_true, Option.some.injEq, qe_gn0, qe_m1n, qe_gng, qe_ngn, qe_gm, qe_mg, qe_lm1, qe_lgn, qe_lem, qe_leg, qe_tm1, qe_tgn, c6, c7, mixH]
      exact ⟨h', w1, w2⟩
theorem dg_2 (hS : ScR S (30 + 11) n (fr T 0)) : ∀ q j h, j ≤ 3 → 3 - j < q → ∃ h', lX6_digest_33 S q h (nI j) = bX6_digest_64 S h' ∧ lX7_mixValley_2 q (wL T 0 38 h) (nI j) = bX7_mixValley_26 (wL T 0 38 h') := by
  intro q
  induction q with
  | zero => intro j h h1 h2; omega
  | succ q ih =>
    intro j h h1 h2
    rw [lX6_digest_33, lX7_mixValley_2]
    by_cases hj : j = 3
    · subst hj
      simp (disch := omega) only [qlt, qb_some, qb_none, ↓qn_1, ↓qn_2, ↓qn_3, ↓qn_4, ↓qn_9, ↓qn_1000, ↓qn_low, qi_0, qi_1, qi_2, qi_3, qi_4, qi_5, qi_6, qi_7, qi_8, qi_9, qi_10, qi_11, qi_12, qi_13, qi_14, qi_15, qi_16, qi_17, qi_20, qi_24, qi_30, qi_31, qi_32, qi_60, qi_99, qi_100, qi_200, qi_1000, qi_3400, qi_4000, qi_of, pu_gI, pu_pI, nI_leI, nI_ltI, nI_eq, nI_add, pk_mul, pk_sub, pk_div, qw_s, qw_o, qw_l, qr_s, qr_o, qr_l, ql_i, ql_s, ql_o, pk_us, pk_un, pk_uLs, pk_uLn, if_pos, if_neg, if_true, if_false, ite_self, eq_self, Nat.zero_add, Nat.add_zero, qwr, not_true_eq_false, not_false_eq_true, Option.some.injEq, qe_gn0, qe_m1n, qe_gng, qe_ngn, qe_gm, qe_mg, qe_lm1, qe_lgn, qe_lem, qe_leg, qe_tm1, qe_tgn]
      exact ⟨h, rfl, rfl⟩
    · have hf : (0 : Nat) < 6 := by decide
      have c7 : mX7_v (wL T 0 38 h) (nI 0) (nI j) = some (fr T 0 j) := m7_v (T := wL T 0 38 h) hf (show j < 15 by omega)
      have c6 := hS.2.2.2.1 j (by omega)
      obtain ⟨h', w1, w2⟩ := ih (j + 1) ((31 : Int64) * h + Int32.toInt64 (fr T 0 j)) (by omega) (by omega)
      simp (disch := omega) only [qlt, qb_some, qb_none, ↓qn_1, ↓qn_2, ↓qn_3, ↓qn_4, ↓qn_9, ↓qn_1000, ↓qn_low, qi_0, qi_1, qi_2, qi_3, qi_4, qi_5, qi_6, qi_7, qi_8, qi_9, qi_10, qi_11, qi_12, qi_13, qi_14, qi_15, qi_16, qi_17, qi_20, qi_24, qi_30, qi_31, qi_32, qi_60, qi_99, qi_100, qi_200, qi_1000, qi_3400, qi_4000, qi_of, pu_gI, pu_pI, nI_leI, nI_ltI, nI_eq, nI_add, pk_mul, pk_sub, pk_div, qw_s, qw_o, qw_l, qr_s, qr_o, qr_l, ql_i, ql_s, ql_o, pk_us, pk_un, pk_uLs, pk_uLn, if_pos, if_neg, if_true, if_false, ite_self, eq_self, Nat.zero_add, Nat.add_zero, qwr, not_true_eq_false, not_false_eq_true, Option.some.injEq, qe_gn0, qe_m1n, qe_gng, qe_ngn, qe_gm, qe_mg, qe_lm1, qe_lgn, qe_lem, qe_leg, qe_tm1, qe_tgn, c6, c7, mixH]
      exact ⟨h', w1, w2⟩
theorem dg_3 {g : Nat} {K6 : Int64 → Int32 → Option Int64} {K7 : vS → Int32 → Option vS} (hn : n ≤ 4) (hG : GodR S (30 + 1) n (T.1 7)) (hS : ScR S (30 + 11) n (fr T 0)) (hF : FInv n (fr T 0)) (hg : g < n) : ∀ q j h, j ≤ 7 → 7 - j < q → ∃ h', lX6_digest_83 S K6 (nI g) q h (nI j) = K6 h' (nI (g + 1)) ∧ lX7_mixValley_38 K7 (nI g) q (wL T 0 38 h) (nI j) = K7 (wL T 0 38 h') (nI (g + 1)) := by
  intro q
  have hf : (0 : Nat) < 6 := by decide
  have hg4 : g < 4 := by omega
  induction q with
  | zero => intro j h h1 h2; omega
  | succ q ih =>
    intro j h h1 h2
    rw [lX6_digest_83, lX7_mixValley_38]
    by_cases hj : j = 7
    · subst hj
      have c7 : mX7_v (wL T 0 38 h) (nI 0) (nI 7) = some (fr T 0 7) := m7_v (T := wL T 0 38 h) hf (show 7 < 15 by decide)
      have c6 := hS.2.2.1
      have hnib : nib (fr T 0 7) := hF.2.1
      unfold bX6_digest_111 bX6_digest_135 bX7_mixValley_61 bX7_mixValley_81 mX3_wasEverFed
      cases hb : bt (fr T 0 7) g
      · simp (disch := omega) only [qlt, qb_some, qb_none, ↓qn_1, ↓qn_2, ↓qn_3, ↓qn_4, ↓qn_9, ↓qn_1000, ↓qn_low, qi_0, qi_1, qi_2, qi_3, qi_4, qi_5, qi_6, qi_7, qi_8, qi_9, qi_10, qi_11, qi_12, qi_13, qi_14, qi_15, qi_16, qi_17, qi_20, qi_24, qi_30, qi_31, qi_32, qi_60, qi_99, qi_100, qi_200, qi_1000, qi_3400, qi_4000, qi_of, pu_gI, pu_pI, nI_leI, nI_ltI, nI_eq, nI_add, pk_mul, pk_sub, pk_div, qw_s, qw_o, qw_l, qr_s, qr_o, qr_l, ql_i, ql_s, ql_o, pk_us, pk_un, pk_uLs, pk_uLn, if_pos, if_neg, if_true, if_false, ite_self, eq_self, Nat.zero_add, Nat.add_zero, qwr, not_true_eq_false, not_false_eq_true, Option.some.injEq, qe_gn0, qe_m1n, qe_gng, qe_ngn, qe_gm, qe_mg, qe_lm1, qe_lgn, qe_lem, qe_leg, qe_tm1, qe_tgn, c6, c7, bt_c hnib hg4, hb, has7_y, Bool.false_eq_true, t64_0, mixH]
        exact ⟨_, rfl, rfl⟩
      · simp (disch := omega) only [qlt, qb_some, qb_none, ↓qn_1, ↓qn_2, ↓qn_3, ↓qn_4, ↓qn_9, ↓qn_1000, ↓qn_low, qi_0, qi_1, qi_2, qi_3, qi_4, qi_5, qi_6, qi_7, qi_8, qi_9, qi_10, qi_11, qi_12, qi_13, qi_14, qi_15, qi_16, qi_17, qi_20, qi_24, qi_30, qi_31, qi_32, qi_60, qi_99, qi_100, qi_200, qi_1000, qi_3400, qi_4000, qi_of, pu_gI, pu_pI, nI_leI, nI_ltI, nI_eq, nI_add, pk_mul, pk_sub, pk_div, qw_s, qw_o, qw_l, qr_s, qr_o, qr_l, ql_i, ql_s, ql_o, pk_us, pk_un, pk_uLs, pk_uLn, if_pos, if_neg, if_true, if_false, ite_self, eq_self, Nat.zero_add, Nat.add_zero, qwr, not_true_eq_false, not_false_eq_true, Option.some.injEq, qe_gn0, qe_m1n, qe_gng, qe_ngn, qe_gm, qe_mg, qe_lm1, qe_lgn, qe_lem, qe_leg, qe_tm1, qe_tgn, c6, c7, bt_c hnib hg4, hb, has7_y, Bool.true_eq_false, t64_1, mixH]
        exact ⟨_, rfl, rfl⟩
    · have c6 := trait6 hn hG hS hg (show j < 7 by omega)
      have c7 : mX7_godTells (wL T 0 38 h) (nI g) (nI j) = some (if j < 6 then T.1 7 (6 * g + j) else fr T 0 (3 + g)) := by
        have c7 : mX7_v (wL T 0 38 h) (nI 0) (nI (3 + g)) = some (fr T 0 (3 + g)) := m7_v (T := wL T 0 38 h) hf (show 3 + g < 15 by omega)
        unfold mX7_godTells
        by_cases hj6 : j < 6
        · simp (disch := omega) only [qlt, qb_some, qb_none, ↓qn_1, ↓qn_2, ↓qn_3, ↓qn_4, ↓qn_9, ↓qn_1000, ↓qn_low, qi_0, qi_1, qi_2, qi_3, qi_4, qi_5, qi_6, qi_7, qi_8, qi_9, qi_10, qi_11, qi_12, qi_13, qi_14, qi_15, qi_16, qi_17, qi_20, qi_24, qi_30, qi_31, qi_32, qi_60, qi_99, qi_100, qi_200, qi_1000, qi_3400, qi_4000, qi_of, pu_gI, pu_pI, nI_leI, nI_ltI, nI_eq, nI_add, pk_mul, pk_sub, pk_div, qw_s, qw_o, qw_l, qr_s, qr_o, qr_l, ql_i, ql_s, ql_o, pk_us, pk_un, pk_uLs, pk_uLn, if_pos, if_neg, if_true, if_false, ite_self, eq_self, Nat.zero_add, Nat.add_zero, qwr, not_true_eq_false, not_false_eq_true, Option.some.injEq, qe_gn0, qe_m1n, qe_gng, qe_ngn, qe_gm, qe_mg, qe_lm1, qe_lgn, qe_lem, qe_leg, qe_tm1, qe_tgn]
        · simp (disch := omega) only [qlt, qb_some, qb_none, ↓qn_1, ↓qn_2, ↓qn_3, ↓qn_4, ↓qn_9, ↓qn_1000, ↓qn_low, qi_0, qi_1, qi_2, qi_3, qi_4, qi_5, qi_6, qi_7, qi_8, qi_9, qi_10, qi_11, qi_12, qi_13, qi_14, qi_15, qi_16, qi_17, qi_20, qi_24, qi_30, qi_31, qi_32, qi_60, qi_99, qi_100, qi_200, qi_1000, qi_3400, qi_4000, qi_of, pu_gI, pu_pI, nI_leI, nI_ltI, nI_eq, nI_add, pk_mul, pk_sub, pk_div, qw_s, qw_o, qw_l, qr_s, qr_o, qr_l, ql_i, ql_s, ql_o, pk_us, pk_un, pk_uLs, pk_uLn, if_pos, if_neg, if_true, if_false, ite_self, eq_self, Nat.zero_add, Nat.add_zero, qwr, not_true_eq_false, not_false_eq_true, Option.some.injEq, qe_gn0, qe_m1n, qe_gng, qe_ngn, qe_gm, qe_mg, qe_lm1, qe_lgn, qe_lem, qe_leg, qe_tm1, qe_tgn, c7]
      obtain ⟨h', w1, w2⟩ := ih (j + 1) ((31 : Int64) * h + Int32.toInt64 (if j < 6 then T.1 7 (6 * g + j) else fr T 0 (3 + g))) (by omega) (by omega)
      generalize (if j < 6 then T.1 7 (6 * g + j) else fr T 0 (3 + g)) = x at c6 c7 w1 w2
      simp (disch := omega) only [qlt, qb_some, qb_none, ↓qn_1, ↓qn_2, ↓qn_3, ↓qn_4, ↓qn_9, ↓qn_1000, ↓qn_low, qi_0, qi_1, qi_2, qi_3, qi_4, qi_5, qi_6, qi_7, qi_8, qi_9, qi_10, qi_11, qi_12, qi_13, qi_14, qi_15, qi_16, qi_17, qi_20, qi_24, qi_30, qi_31, qi_32, qi_60, qi_99, qi_100, qi_200, qi_1000, qi_3400, qi_4000, qi_of, pu_gI, pu_pI, nI_leI, nI_ltI, nI_eq, nI_add, pk_mul, pk_sub, pk_div, qw_s, qw_o, qw_l, qr_s, qr_o, qr_l, ql_i, ql_s, ql_o, pk_us, pk_un, pk_uLs, pk_uLn, if_pos, if_neg, if_true, if_false, ite_self, eq_self, Nat.zero_add, Nat.add_zero, qwr, not_true_eq_false, not_false_eq_true, Option.some.injEq, qe_gn0, qe_m1n, qe_gng, qe_ngn, qe_gm, qe_mg, qe_lm1, qe_lgn, qe_lem, qe_leg, qe_tm1, qe_tgn, c6, c7, mixH]
      exact ⟨h', w1, w2⟩
theorem dg_4 (hn : n ≤ 4) (h10 : T.1 0 10 = nI n) (hG : GodR S (30 + 1) n (T.1 7)) (hS : ScR S (30 + 11) n (fr T 0)) (hF : FInv n (fr T 0)) : ∀ q g h, g ≤ n → n - g < q → ∃ h', lX6_digest_66 S q h (nI g) = bX6_digest_144 S h' ∧ lX7_mixValley_28 q (wL T 0 38 h) (nI g) = bX7_mixValley_90 (wL T 0 38 h') := by
  intro q
  induction q with
  | zero => intro j h h1 h2; omega
  | succ q ih =>
    intro g h h1 h2
    rw [lX6_digest_66, lX7_mixValley_28]
    have h0 := hG.1
    by_cases hg : g = n
    · subst hg
      simp (disch := omega) only [qlt, qb_some, qb_none, ↓qn_1, ↓qn_2, ↓qn_3, ↓qn_4, ↓qn_9, ↓qn_1000, ↓qn_low, qi_0, qi_1, qi_2, qi_3, qi_4, qi_5, qi_6, qi_7, qi_8, qi_9, qi_10, qi_11, qi_12, qi_13, qi_14, qi_15, qi_16, qi_17, qi_20, qi_24, qi_30, qi_31, qi_32, qi_60, qi_99, qi_100, qi_200, qi_1000, qi_3400, qi_4000, qi_of, pu_gI, pu_pI, nI_leI, nI_ltI, nI_eq, nI_add, pk_mul, pk_sub, pk_div, qw_s, qw_o, qw_l, qr_s, qr_o, qr_l, ql_i, ql_s, ql_o, pk_us, pk_un, pk_uLs, pk_uLn, if_pos, if_neg, if_true, if_false, ite_self, eq_self, Nat.zero_add, Nat.add_zero, qwr, not_true_eq_false, not_false_eq_true, Option.some.injEq, qe_gn0, qe_m1n, qe_gng, qe_ngn, qe_gm, qe_mg, qe_lm1, qe_lgn, qe_lem, qe_leg, qe_tm1, qe_tgn, h0, h10]
      exact ⟨h, rfl, rfl⟩
    · obtain ⟨h1', w1, w2⟩ := dg_3 (g := g) (K6 := lX6_digest_66 S q) (K7 := lX7_mixValley_28 q) hn hG hS hF (by omega) FU 0 h (by decide) (by unfold FU; omega)
      obtain ⟨h', w3, w4⟩ := ih (g + 1) h1' (by omega) (by omega)
      simp (disch := omega) only [qlt, qb_some, qb_none, ↓qn_1, ↓qn_2, ↓qn_3, ↓qn_4, ↓qn_9, ↓qn_1000, ↓qn_low, qi_0, qi_1, qi_2, qi_3, qi_4, qi_5, qi_6, qi_7, qi_8, qi_9, qi_10, qi_11, qi_12, qi_13, qi_14, qi_15, qi_16, qi_17, qi_20, qi_24, qi_30, qi_31, qi_32, qi_60, qi_99, qi_100, qi_200, qi_1000, qi_3400, qi_4000, qi_of, pu_gI, pu_pI, nI_leI, nI_ltI, nI_eq, nI_add, pk_mul, pk_sub, pk_div, qw_s, qw_o, qw_l, qr_s, qr_o, qr_l, ql_i, ql_s, ql_o, pk_us, pk_un, pk_uLs, pk_uLn, if_pos, if_neg, if_true, if_false, ite_self, eq_self, Nat.zero_add, Nat.add_zero, qwr, not_true_eq_false, not_false_eq_true, Option.some.injEq, qe_gn0, qe_m1n, qe_gng, qe_ngn, qe_gm, qe_mg, qe_lm1, qe_lgn, qe_lem, qe_leg, qe_tm1, qe_tgn, h0, h10, w1, w2]
      exact ⟨h', w3, w4⟩
theorem dg_5 (h3 : S.1 (30 + 11) 3 = fr T 0 12) (h4 : S.1 (30 + 11) 4 = fr T 0 13) (h : Int64) : ∃ h', bX6_digest_144 S h = lX6_digest_182 S FU h' (nI 0) ∧ bX7_mixValley_90 (wL T 0 38 h) = lX7_mixValley_116 FU (wL T 0 38 h') (nI 0) := by
  have hf : (0 : Nat) < 6 := by decide
  have c1 : ∀ h, mX7_v (wL T 0 38 h) (nI 0) (nI 12) = some (fr T 0 12) := fun h => m7_v (T := wL T 0 38 h) hf (show 12 < 15 by decide)
  have c2 : ∀ h, mX7_v (wL T 0 38 h) (nI 0) (nI 13) = some (fr T 0 13) := fun h => m7_v (T := wL T 0 38 h) hf (show 13 < 15 by decide)
  unfold bX6_digest_144 bX7_mixValley_90
  simp (disch := omega) only [qlt, qb_some, qb_none, ↓qn_1, ↓qn_2, ↓qn_3, ↓qn_4, ↓qn_9, ↓qn_1000, ↓qn_low, qi_0, qi_1, qi_2, qi_3, qi_4, qi_5, qi_6, qi_7, qi_8, qi_9, qi_10, qi_11, qi_12, qi_13, qi_14, qi_15, qi_16, qi_17, qi_20, qi_24, qi_30, qi_31, qi_32, qi_60, qi_99, qi_100, qi_200, qi_1000, qi_3400, qi_4000, qi_of, pu_gI, pu_pI, nI_leI, nI_ltI, nI_eq, nI_add, pk_mul, pk_sub, pk_div, qw_s, qw_o, qw_l, qr_s, qr_o, qr_l, ql_i, ql_s, ql_o, pk_us, pk_un, pk_uLs, pk_uLn, if_pos, if_neg, if_true, if_false, ite_self, eq_self, Nat.zero_add, Nat.add_zero, qwr, not_true_eq_false, not_false_eq_true, Option.some.injEq, qe_gn0, qe_m1n, qe_gng, qe_ngn, qe_gm, qe_mg, qe_lm1, qe_lgn, qe_lem, qe_leg, qe_tm1, qe_tgn, h3, h4, c1, c2, mixH]
  exact ⟨_, rfl, rfl⟩
theorem dg_6 {d : Nat} (h0 : S.1 (30 + 11) 0 = nI d) (h14 : fr T 0 14 = nI d) (hd : d ≤ 200) (hD : ∀ e, e < d → DayR (S.1 (30 + 15)) n (T.1 7) (T.1 12) e) : ∀ q e h, e ≤ d → d - e < q → ∃ h', lX6_digest_182 S q h (nI e) = bX6_digest_218 S h' ∧ lX7_mixValley_116 q (wL T 0 38 h) (nI e) = bX7_mixValley_150 (wL T 0 38 h') := by
  intro q
  have hf : (0 : Nat) < 6 := by decide
  induction q with
  | zero => intro j h h1 h2; omega
  | succ q ih =>
    intro e h h1 h2
    have c1 : mX7_v (wL T 0 38 h) (nI 0) (nI 14) = some (nI d) := by
      rw [← h14]
      exact m7_v (T := wL T 0 38 h) hf (show 14 < 15 by decide)
    rw [lX6_digest_182, lX7_mixValley_116]
    by_cases he : e = d
    · subst he
      simp (disch := omega) only [qlt, qb_some, qb_none, ↓qn_1, ↓qn_2, ↓qn_3, ↓qn_4, ↓qn_9, ↓qn_1000, ↓qn_low, qi_0, qi_1, qi_2, qi_3, qi_4, qi_5, qi_6, qi_7, qi_8, qi_9, qi_10, qi_11, qi_12, qi_13, qi_14, qi_15, qi_16, qi_17, qi_20, qi_24, qi_30, qi_31, qi_32, qi_60, qi_99, qi_100, qi_200, qi_1000, qi_3400, qi_4000, qi_of, pu_gI, pu_pI, nI_leI, nI_ltI, nI_eq, nI_add, pk_mul, pk_sub, pk_div, qw_s, qw_o, qw_l, qr_s, qr_o, qr_l, ql_i, ql_s, ql_o, pk_us, pk_un, pk_uLs, pk_uLn, if_pos, if_neg, if_true, if_false, ite_self, eq_self, Nat.zero_add, Nat.add_zero, qwr, not_true_eq_false, not_false_eq_true, Option.some.injEq, qe_gn0, qe_m1n, qe_gng, qe_ngn, qe_gm, qe_mg, qe_lm1, qe_lgn, qe_lem, qe_leg, qe_tm1, qe_tgn, h0, c1]
      exact ⟨h, rfl, rfl⟩
    · have hed : e < d := by omega
      have c6 := noted6 (F := T.1 7) h0 hd hed (show 0 < 17 by decide)
      have c8 : S.1 (30 + 15) (17 * e + 0) = T.1 12 (20 * e + 15) := (hD e hed).1
      rw [c8] at c6
      obtain ⟨h', w1, w2⟩ := ih (e + 1) ((31 : Int64) * h + Int32.toInt64 (T.1 12 (20 * e + 15))) (by omega) (by omega)
      unfold mX5_offeringOn
      simp (disch := omega) only [qlt, qb_some, qb_none, ↓qn_1, ↓qn_2, ↓qn_3, ↓qn_4, ↓qn_9, ↓qn_1000, ↓qn_low, qi_0, qi_1, qi_2, qi_3, qi_4, qi_5, qi_6, qi_7, qi_8, qi_9, qi_10, qi_11, qi_12, qi_13, qi_14, qi_15, qi_16, qi_17, qi_20, qi_24, qi_30, qi_31, qi_32, qi_60, qi_99, qi_100, qi_200, qi_1000, qi_3400, qi_4000, qi_of, pu_gI, pu_pI, nI_leI, nI_ltI, nI_eq, nI_add, pk_mul, pk_sub, pk_div, qw_s, qw_o, qw_l, qr_s, qr_o, qr_l, ql_i, ql_s, ql_o, pk_us, pk_un, pk_uLs, pk_uLn, if_pos, if_neg, if_true, if_false, ite_self, eq_self, Nat.zero_add, Nat.add_zero, qwr, not_true_eq_false, not_false_eq_true, Option.some.injEq, qe_gn0, qe_m1n, qe_gng, qe_ngn, qe_gm, qe_mg, qe_lm1, qe_lgn, qe_lem, qe_leg, qe_tm1, qe_tgn, h0, c1, c6, mixH]
      exact ⟨h', w1, w2⟩
theorem dg_7 (hK : ∀ k, k < 3 → KepR S T n k) : ∀ q k h, k ≤ 3 → 3 - k < q → ∃ h', lX6_digest_220 S q h (nI k) = bX6_digest_271 S h' ∧ lX7_mixValley_152 q (wL T 0 38 h) (nI k) = some (wL T 0 38 h') := by
  intro q
  induction q with
  | zero => intro j h h1 h2; omega
  | succ q ih =>
    intro k h h1 h2
    rw [lX6_digest_220, lX7_mixValley_152]
    by_cases hk : k = 3
    · subst hk
      simp (disch := omega) only [qlt, qb_some, qb_none, ↓qn_1, ↓qn_2, ↓qn_3, ↓qn_4, ↓qn_9, ↓qn_1000, ↓qn_low, qi_0, qi_1, qi_2, qi_3, qi_4, qi_5, qi_6, qi_7, qi_8, qi_9, qi_10, qi_11, qi_12, qi_13, qi_14, qi_15, qi_16, qi_17, qi_20, qi_24, qi_30, qi_31, qi_32, qi_60, qi_99, qi_100, qi_200, qi_1000, qi_3400, qi_4000, qi_of, pu_gI, pu_pI, nI_leI, nI_ltI, nI_eq, nI_add, pk_mul, pk_sub, pk_div, qw_s, qw_o, qw_l, qr_s, qr_o, qr_l, ql_i, ql_s, ql_o, pk_us, pk_un, pk_uLs, pk_uLn, if_pos, if_neg, if_true, if_false, ite_self, eq_self, Nat.zero_add, Nat.add_zero, qwr, not_true_eq_false, not_false_eq_true, Option.some.injEq, qe_gn0, qe_m1n, qe_gng, qe_ngn, qe_gm, qe_mg, qe_lm1, qe_lgn, qe_lem, qe_leg, qe_tm1, qe_tgn]
      exact ⟨h, rfl, rfl⟩
    · have hk3 : k < 3 := by omega
      unfold bX6_digest_262 bX7_mixValley_186
      rcases hK k hk3 with ⟨k1, k2⟩ | ⟨_, k1, k2, _, hV⟩
      · obtain ⟨h', w1, w2⟩ := ih (k + 1) ((31 : Int64) * h + (-1 : Int64)) (by omega) (by omega)
        simp (disch := omega) only [qlt, qb_some, qb_none, ↓qn_1, ↓qn_2, ↓qn_3, ↓qn_4, ↓qn_9, ↓qn_1000, ↓qn_low, qi_0, qi_1, qi_2, qi_3, qi_4, qi_5, qi_6, qi_7, qi_8, qi_9, qi_10, qi_11, qi_12, qi_13, qi_14, qi_15, qi_16, qi_17, qi_20, qi_24, qi_30, qi_31, qi_32, qi_60, qi_99, qi_100, qi_200, qi_1000, qi_3400, qi_4000, qi_of, pu_gI, pu_pI, nI_leI, nI_ltI, nI_eq, nI_add, pk_mul, pk_sub, pk_div, qw_s, qw_o, qw_l, qr_s, qr_o, qr_l, ql_i, ql_s, ql_o, pk_us, pk_un, pk_uLs, pk_uLn, if_pos, if_neg, if_true, if_false, ite_self, eq_self, Nat.zero_add, Nat.add_zero, qwr, not_true_eq_false, not_false_eq_true, Option.some.injEq, qe_gn0, qe_m1n, qe_gng, qe_ngn, qe_gm, qe_mg, qe_lm1, qe_lgn, qe_lem, qe_leg, qe_tm1, qe_tgn, qa_kept hk3, k1, k2, t64_m, mixH]
        exact ⟨h', w1, w2⟩
      · have c6 : S.1 (47 + 16 * k + 11) 0 = T.1 14 (15 * k + 14) := hV.2.1.1
        obtain ⟨h', w1, w2⟩ := ih (k + 1) ((31 : Int64) * h + Int32.toInt64 (T.1 14 (15 * k + 14))) (by omega) (by omega)
        simp (disch := omega) only [qlt, qb_some, qb_none, ↓qn_1, ↓qn_2, ↓qn_3, ↓qn_4, ↓qn_9, ↓qn_1000, ↓qn_low, qi_0, qi_1, qi_2, qi_3, qi_4, qi_5, qi_6, qi_7, qi_8, qi_9, qi_10, qi_11, qi_12, qi_13, qi_14, qi_15, qi_16, qi_17, qi_20, qi_24, qi_30, qi_31, qi_32, qi_60, qi_99, qi_100, qi_200, qi_1000, qi_3400, qi_4000, qi_of, pu_gI, pu_pI, nI_leI, nI_ltI, nI_eq, nI_add, pk_mul, pk_sub, pk_div, qw_s, qw_o, qw_l, qr_s, qr_o, qr_l, ql_i, ql_s, ql_o, pk_us, pk_un, pk_uLs, pk_uLn, if_pos, if_neg, if_true, if_false, ite_self, eq_self, Nat.zero_add, Nat.add_zero, qwr, not_true_eq_false, not_false_eq_true, Option.some.injEq, qe_gn0, qe_m1n, qe_gng, qe_ngn, qe_gm, qe_mg, qe_lm1, qe_lgn, qe_lem, qe_leg, qe_tm1, qe_tgn, qa_kept hk3, k1, k2, c6, mixH]
        exact ⟨h', w1, w2⟩
theorem dg_8i {r m : Nat} {K6 : Int64 → Int32 → Option Int64} {K7 : vS → Int32 → Option (Int64 × vS)} (hr : r < 6) (hm : m ≤ 60) (hs6 : S.1 (1 + 2 + 6) r = nI m) (hs7 : T.1 2 r = nI m) (hx : ∀ i, i < m → S.1 (1 + 2 + r) i = T.1 3 (60 * r + i)) : ∀ q i h, i ≤ m → m - i < q → ∃ h', lX4_digestOnto_33 1 6 S K6 (nI r) q h (nI i) = K6 h' (nI (r + 1)) ∧ lX7_digest_56 K7 (nI r) q (wL T 0 38 h) (nI i) = K7 (wL T 0 38 h') (nI (r + 1)) := by
  intro q
  have h6 : 6 < 2 ^ 31 := by decide
  induction q with
  | zero => intro j h h1 h2; omega
  | succ q ih =>
    intro i h h1 h2
    rw [lX4_digestOnto_33, lX7_digest_56]
    unfold mX7_rowAt
    by_cases hi : i = m
    · subst hi
      simp (disch := omega) only [qlt, qb_some, qb_none, ↓qn_1, ↓qn_2, ↓qn_3, ↓qn_4, ↓qn_9, ↓qn_1000, ↓qn_low, qi_0, qi_1, qi_2, qi_3, qi_4, qi_5, qi_6, qi_7, qi_8, qi_9, qi_10, qi_11, qi_12, qi_13, qi_14, qi_15, qi_16, qi_17, qi_20, qi_24, qi_30, qi_31, qi_32, qi_60, qi_99, qi_100, qi_200, qi_1000, qi_3400, qi_4000, qi_of, pu_gI, pu_pI, nI_leI, nI_ltI, nI_eq, nI_add, pk_mul, pk_sub, pk_div, qw_s, qw_o, qw_l, qr_s, qr_o, qr_l, ql_i, ql_s, ql_o, pk_us, pk_un, pk_uLs, pk_uLn, if_pos, if_neg, if_true, if_false, ite_self, eq_self, Nat.zero_add, Nat.add_zero, qwr, not_true_eq_false, not_false_eq_true, Option.some.injEq, qe_gn0, qe_m1n, qe_gng, qe_ngn, qe_gm, qe_mg, qe_lm1, qe_lgn, qe_lem, qe_leg, qe_tm1, qe_tgn, size_y hr h6 hs6 hm, hs7]
      exact ⟨h, rfl, rfl⟩
    · have him : i < m := by omega
      have rd := read_y hr h6 hs6 hm him
      rw [hx i him] at rd
      obtain ⟨h', w1, w2⟩ := ih (i + 1) ((31 : Int64) * h + Int32.toInt64 (T.1 3 (60 * r + i))) (by omega) (by omega)
      simp (disch := omega) only [qlt, qb_some, qb_none, ↓qn_1, ↓qn_2, ↓qn_3, ↓qn_4, ↓qn_9, ↓qn_1000, ↓qn_low, qi_0, qi_1, qi_2, qi_3, qi_4, qi_5, qi_6, qi_7, qi_8, qi_9, qi_10, qi_11, qi_12, qi_13, qi_14, qi_15, qi_16, qi_17, qi_20, qi_24, qi_30, qi_31, qi_32, qi_60, qi_99, qi_100, qi_200, qi_1000, qi_3400, qi_4000, qi_of, pu_gI, pu_pI, nI_leI, nI_ltI, nI_eq, nI_add, pk_mul, pk_sub, pk_div, qw_s, qw_o, qw_l, qr_s, qr_o, qr_l, ql_i, ql_s, ql_o, pk_us, pk_un, pk_uLs, pk_uLn, if_pos, if_neg, if_true, if_false, ite_self, eq_self, Nat.zero_add, Nat.add_zero, qwr, not_true_eq_false, not_false_eq_true, Option.some.injEq, qe_gn0, qe_m1n, qe_gng, qe_ngn, qe_gm, qe_mg, qe_lm1, qe_lgn, qe_lem, qe_leg, qe_tm1, qe_tgn, size_y hr h6 hs6 hm, hs7, rd, mixH]
      exact ⟨h', w1, w2⟩
theorem dg_8 (R : Sh S T 1 6 2 3) : ∀ q r h, r ≤ 6 → 6 - r < q → ∃ h', lX4_digestOnto_5 1 6 S q h (nI r) = some h' ∧ lX7_digest_37 q (wL T 0 38 h) (nI r) = bX7_digest_89 (wL T 0 38 h') := by
  intro q
  have h6 : 6 < 2 ^ 31 := by decide
  induction q with
  | zero => intro j h h1 h2; omega
  | succ q ih =>
    intro r h h1 h2
    rw [lX4_digestOnto_5, lX7_digest_37]
    by_cases hr : r = 6
    · subst hr
      simp (disch := omega) only [qlt, qb_some, qb_none, ↓qn_1, ↓qn_2, ↓qn_3, ↓qn_4, ↓qn_9, ↓qn_1000, ↓qn_low, qi_0, qi_1, qi_2, qi_3, qi_4, qi_5, qi_6, qi_7, qi_8, qi_9, qi_10, qi_11, qi_12, qi_13, qi_14, qi_15, qi_16, qi_17, qi_20, qi_24, qi_30, qi_31, qi_32, qi_60, qi_99, qi_100, qi_200, qi_1000, qi_3400, qi_4000, qi_of, pu_gI, pu_pI, nI_leI, nI_ltI, nI_eq, nI_add, pk_mul, pk_sub, pk_div, qw_s, qw_o, qw_l, qr_s, qr_o, qr_l, ql_i, ql_s, ql_o, pk_us, pk_un, pk_uLs, pk_uLn, if_pos, if_neg, if_true, if_false, ite_self, eq_self, Nat.zero_add, Nat.add_zero, qwr, not_true_eq_false, not_false_eq_true, Option.some.injEq, qe_gn0, qe_m1n, qe_gng, qe_ngn, qe_gm, qe_mg, qe_lm1, qe_lgn, qe_lem, qe_leg, qe_tm1, qe_tgn]
      exact ⟨h, rfl, rfl⟩
    · have hr6 : r < 6 := by omega
      obtain ⟨e1, e2, e3⟩ := R r hr6
      rcases e2 with e2 | ⟨m, hm, e2⟩
      · have z1 : ∀ q h, lX4_digestOnto_33 1 6 S (lX4_digestOnto_5 1 6 S q) (nI r) FU h (nI 0) = lX4_digestOnto_5 1 6 S q h (nI (r + 1)) := by
          intro q h
          have : ∀ p, lX4_digestOnto_33 1 6 S (lX4_digestOnto_5 1 6 S q) (nI r) (p + 1) h (nI 0) = lX4_digestOnto_5 1 6 S q h (nI (r + 1)) := by
            intro p
            rw [lX4_digestOnto_33]
            simp (disch := omega) only [qlt, qb_some, qb_none, ↓qn_1, ↓qn_2, ↓qn_3, ↓qn_4, ↓qn_9, ↓qn_1000, ↓qn_low, qi_0, qi_1, qi_2, qi_3, qi_4, qi_5, qi_6, qi_7, qi_8, qi_9, qi_10, qi_11, qi_12, qi_13, qi_14, qi_15, qi_16, qi_17, qi_20, qi_24, qi_30, qi_31, qi_32, qi_60, qi_99, qi_100, qi_200, qi_1000, qi_3400, qi_4000, qi_of, pu_gI, pu_pI, nI_leI, nI_ltI, nI_eq, nI_add, pk_mul, pk_sub, pk_div, qw_s, qw_o, qw_l, qr_s, qr_o, qr_l, ql_i, ql_s, ql_o, pk_us, pk_un, pk_uLs, pk_uLn, if_pos, if_neg, if_true, if_false, ite_self, eq_self, Nat.zero_add, Nat.add_zero, qwr, not_true_eq_false, not_false_eq_true, Option.some.injEq, qe_gn0, qe_m1n, qe_gng, qe_ngn, qe_gm, qe_mg, qe_lm1, qe_lgn, qe_lem, qe_leg, qe_tm1, qe_tgn, size_n hr6 h6 (e1.trans e2)]
          have h3 := this (FU - 1)
          rw [show FU - 1 + 1 = FU by unfold FU; omega] at h3
          exact h3
        have z2 : ∀ q h, lX7_digest_56 (lX7_digest_37 q) (nI r) FU (wL T 0 38 h) (nI 0) = lX7_digest_37 q (wL T 0 38 h) (nI (r + 1)) := by
          intro q h
          have hle : (m1 ≤ nI 0) = True := eq_true (by decide +kernel)
          have : ∀ p, lX7_digest_56 (lX7_digest_37 q) (nI r) (p + 1) (wL T 0 38 h) (nI 0) = lX7_digest_37 q (wL T 0 38 h) (nI (r + 1)) := by
            intro p
            rw [lX7_digest_56]
            simp (disch := omega) only [qlt, qb_some, qb_none, ↓qn_1, ↓qn_2, ↓qn_3, ↓qn_4, ↓qn_9, ↓qn_1000, ↓qn_low, qi_0, qi_1, qi_2, qi_3, qi_4, qi_5, qi_6, qi_7, qi_8, qi_9, qi_10, qi_11, qi_12, qi_13, qi_14, qi_15, qi_16, qi_17, qi_20, qi_24, qi_30, qi_31, qi_32, qi_60, qi_99, qi_100, qi_200, qi_1000, qi_3400, qi_4000, qi_of, pu_gI, pu_pI, nI_leI, nI_ltI, nI_eq, nI_add, pk_mul, pk_sub, pk_div, qw_s, qw_o, qw_l, qr_s, qr_o, qr_l, ql_i, ql_s, ql_o, pk_us, pk_un, pk_uLs, pk_uLn, if_pos, if_neg, if_true, if_false, ite_self, eq_self, Nat.zero_add, Nat.add_zero, qwr, not_true_eq_false, not_false_eq_true, Option.some.injEq, qe_gn0, qe_m1n, qe_gng, qe_ngn, qe_gm, qe_mg, qe_lm1, qe_lgn, qe_lem, qe_leg, qe_tm1, qe_tgn, e2, hle]
          have h3 := this (FU - 1)
          rw [show FU - 1 + 1 = FU by unfold FU; omega] at h3
          exact h3
        obtain ⟨h', w3, w4⟩ := ih (r + 1) ((31 : Int64) * h + Int32.toInt64 m1) (by omega) (by omega)
        simp (disch := omega) only [qlt, qb_some, qb_none, ↓qn_1, ↓qn_2, ↓qn_3, ↓qn_4, ↓qn_9, ↓qn_1000, ↓qn_low, qi_0, qi_1, qi_2, qi_3, qi_4, qi_5, qi_6, qi_7, qi_8, qi_9, qi_10, qi_11, qi_12, qi_13, qi_14, qi_15, qi_16, qi_17, qi_20, qi_24, qi_30, qi_31, qi_32, qi_60, qi_99, qi_100, qi_200, qi_1000, qi_3400, qi_4000, qi_of, pu_gI, pu_pI, nI_leI, nI_ltI, nI_eq, nI_add, pk_mul, pk_sub, pk_div, qw_s, qw_o, qw_l, qr_s, qr_o, qr_l, ql_i, ql_s, ql_o, pk_us, pk_un, pk_uLs, pk_uLn, if_pos, if_neg, if_true, if_false, ite_self, eq_self, Nat.zero_add, Nat.add_zero, qwr, not_true_eq_false, not_false_eq_true, Option.some.injEq, qe_gn0, qe_m1n, qe_gng, qe_ngn, qe_gm, qe_mg, qe_lm1, qe_lgn, qe_lem, qe_leg, qe_tm1, qe_tgn, e1.trans e2, e2, mixH, z1, z2]
        exact ⟨h', w3, w4⟩
      · obtain ⟨h1', w1, w2⟩ := dg_8i (K6 := lX4_digestOnto_5 1 6 S q) (K7 := lX7_digest_37 q) hr6 hm (e1.trans e2) e2 (e3 m hm e2) FU 0 ((31 : Int64) * h + Int32.toInt64 (nI m)) (Nat.zero_le m) (by unfold FU; omega)
        obtain ⟨h', w3, w4⟩ := ih (r + 1) h1' (by omega) (by omega)
        simp (disch := omega) only [qlt, qb_some, qb_none, ↓qn_1, ↓qn_2, ↓qn_3, ↓qn_4, ↓qn_9, ↓qn_1000, ↓qn_low, qi_0, qi_1, qi_2, qi_3, qi_4, qi_5, qi_6, qi_7, qi_8, qi_9, qi_10, qi_11, qi_12, qi_13, qi_14, qi_15, qi_16, qi_17, qi_20, qi_24, qi_30, qi_31, qi_32, qi_60, qi_99, qi_100, qi_200, qi_1000, qi_3400, qi_4000, qi_of, pu_gI, pu_pI, nI_leI, nI_ltI, nI_eq, nI_add, pk_mul, pk_sub, pk_div, qw_s, qw_o, qw_l, qr_s, qr_o, qr_l, ql_i, ql_s, ql_o, pk_us, pk_un, pk_uLs, pk_uLn, if_pos, if_neg, if_true, if_false, ite_self, eq_self, Nat.zero_add, Nat.add_zero, qwr, not_true_eq_false, not_false_eq_true, Option.some.injEq, qe_gn0, qe_m1n, qe_gng, qe_ngn, qe_gm, qe_mg, qe_lm1, qe_lgn, qe_lem, qe_leg, qe_tm1, qe_tgn, e1.trans e2, e2, mixH, w1, w2]
        exact ⟨h', w3, w4⟩
theorem dg_9i {r m : Nat} {K6 : Int64 → Int32 → Option Int64} {K7 : vS → Int32 → Option (Int64 × vS)} (hr : r < 4) (hm : m ≤ 60) (hs6 : S.1 (10 + 2 + 4) r = nI m) (hs7 : T.1 5 r = nI m) (hx : ∀ i, i < m → S.1 (10 + 2 + r) i = T.1 6 (60 * r + i)) : ∀ q i h, i ≤ m → m - i < q → ∃ h', lX4_digestOnto_33 10 4 S K6 (nI r) q h (nI i) = K6 h' (nI (r + 1)) ∧ lX7_digest_109 K7 (nI r) q (wL T 0 38 h) (nI i) = K7 (wL T 0 38 h') (nI (r + 1)) := by
  intro q
  have h6 : 4 < 2 ^ 31 := by decide
  induction q with
  | zero => intro j h h1 h2; omega
  | succ q ih =>
    intro i h h1 h2
    rw [lX4_digestOnto_33, lX7_digest_109]
    unfold mX7_byteAt
    by_cases hi : i = m
    · subst hi
      simp (disch := omega) only [qlt, qb_some, qb_none, ↓qn_1, ↓qn_2, ↓qn_3, ↓qn_4, ↓qn_9, ↓qn_1000, ↓qn_low, qi_0, qi_1, qi_2, qi_3, qi_4, qi_5, qi_6, qi_7, qi_8, qi_9, qi_10, qi_11, qi_12, qi_13, qi_14, qi_15, qi_16, qi_17, qi_20, qi_24, qi_30, qi_31, qi_32, qi_60, qi_99, qi_100, qi_200, qi_1000, qi_3400, qi_4000, qi_of, pu_gI, pu_pI, nI_leI, nI_ltI, nI_eq, nI_add, pk_mul, pk_sub, pk_div, qw_s, qw_o, qw_l, qr_s, qr_o, qr_l, ql_i, ql_s, ql_o, pk_us, pk_un, pk_uLs, pk_uLn, if_pos, if_neg, if_true, if_false, ite_self, eq_self, Nat.zero_add, Nat.add_zero, qwr, not_true_eq_false, not_false_eq_true, Option.some.injEq, qe_gn0, qe_m1n, qe_gng, qe_ngn, qe_gm, qe_mg, qe_lm1, qe_lgn, qe_lem, qe_leg, qe_tm1, qe_tgn, size_y hr h6 hs6 hm, hs7]
      exact ⟨h, rfl, rfl⟩
    · have him : i < m := by omega
      have rd := read_y hr h6 hs6 hm him
      rw [hx i him] at rd
      obtain ⟨h', w1, w2⟩ := ih (i + 1) ((31 : Int64) * h + Int32.toInt64 (T.1 6 (60 * r + i))) (by omega) (by omega)
      simp (disch := omega) only [qlt, qb_some, qb_none, ↓qn_1, ↓qn_2, ↓qn_3, ↓qn_4, ↓qn_9, ↓qn_1000, ↓qn_low, qi_0, qi_1, qi_2, qi_3, qi_4, qi_5, qi_6, qi_7, qi_8, qi_9, qi_10, qi_11, qi_12, qi_13, qi_14, qi_15, qi_16, qi_17, qi_20, qi_24, qi_30, qi_31, qi_32, qi_60, qi_99, qi_100, qi_200, qi_1000, qi_3400, qi_4000, qi_of, pu_gI, pu_pI, nI_leI, nI_ltI, nI_eq, nI_add, pk_mul, pk_sub, pk_div, qw_s, qw_o, qw_l, qr_s, qr_o, qr_l, ql_i, ql_s, ql_o, pk_us, pk_un, pk_uLs, pk_uLn, if_pos, if_neg, if_true, if_false, ite_self, eq_self, Nat.zero_add, Nat.add_zero, qwr, not_true_eq_false, not_false_eq_true, Option.some.injEq, qe_gn0, qe_m1n, qe_gng, qe_ngn, qe_gm, qe_mg, qe_lm1, qe_lgn, qe_lem, qe_leg, qe_tm1, qe_tgn, size_y hr h6 hs6 hm, hs7, rd, mixH]
      exact ⟨h', w1, w2⟩
theorem dg_9 (R : Sh S T 10 4 5 6) : ∀ q r h, r ≤ 4 → 4 - r < q → ∃ h', lX4_digestOnto_5 10 4 S q h (nI r) = some h' ∧ lX7_digest_91 q (wL T 0 38 h) (nI r) = bX7_digest_142 (wL T 0 38 h') := by
  intro q
  have h6 : 4 < 2 ^ 31 := by decide
  induction q with
  | zero => intro j h h1 h2; omega
  | succ q ih =>
    intro r h h1 h2
    rw [lX4_digestOnto_5, lX7_digest_91]
    by_cases hr : r = 4
    · subst hr
      simp (disch := omega) only [qlt, qb_some, qb_none, ↓qn_1, ↓qn_2, ↓qn_3, ↓qn_4, ↓qn_9, ↓qn_1000, ↓qn_low, qi_0, qi_1, qi_2, qi_3, qi_4, qi_5, qi_6, qi_7, qi_8, qi_9, qi_10, qi_11, qi_12, qi_13, qi_14, qi_15, qi_16, qi_17, qi_20, qi_24, qi_30, qi_31, qi_32, qi_60, qi_99, qi_100, qi_200, qi_1000, qi_3400, qi_4000, qi_of, pu_gI, pu_pI, nI_leI, nI_ltI, nI_eq, nI_add, pk_mul, pk_sub, pk_div, qw_s, qw_o, qw_l, qr_s, qr_o, qr_l, ql_i, ql_s, ql_o, pk_us, pk_un, pk_uLs, pk_uLn, if_pos, if_neg, if_true, if_false, ite_self, eq_self, Nat.zero_add, Nat.add_zero, qwr, not_true_eq_false, not_false_eq_true, Option.some.injEq, qe_gn0, qe_m1n, qe_gng, qe_ngn, qe_gm, qe_mg, qe_lm1, qe_lgn, qe_lem, qe_leg, qe_tm1, qe_tgn]
      exact ⟨h, rfl, rfl⟩
    · have hr6 : r < 4 := by omega
      obtain ⟨e1, e2, e3⟩ := R r hr6
      rcases e2 with e2 | ⟨m, hm, e2⟩
      · have z1 : ∀ q h, lX4_digestOnto_33 10 4 S (lX4_digestOnto_5 10 4 S q) (nI r) FU h (nI 0) = lX4_digestOnto_5 10 4 S q h (nI (r + 1)) := by
          intro q h
          have : ∀ p, lX4_digestOnto_33 10 4 S (lX4_digestOnto_5 10 4 S q) (nI r) (p + 1) h (nI 0) = lX4_digestOnto_5 10 4 S q h (nI (r + 1)) := by
            intro p
            rw [lX4_digestOnto_33]
            simp (disch := omega) only [qlt, qb_some, qb_none, ↓qn_1, ↓qn_2, ↓qn_3, ↓qn_4, ↓qn_9, ↓qn_1000, ↓qn_low, qi_0, qi_1, qi_2, qi_3, qi_4, qi_5, qi_6, qi_7, qi_8, qi_9, qi_10, qi_11, qi_12, qi_13, qi_14, qi_15, qi_16, qi_17, qi_20, qi_24, qi_30, qi_31, qi_32, qi_60, qi_99, qi_100, qi_200, qi_1000, qi_3400, qi_4000, qi_of, pu_gI, pu_pI, nI_leI, nI_ltI, nI_eq, nI_add, pk_mul, pk_sub, pk_div, qw_s, qw_o, qw_l, qr_s, qr_o, qr_l, ql_i, ql_s, ql_o, pk_us, pk_un, pk_uLs, pk_uLn, if_pos, if_neg, if_true, if_false, ite_self, eq_self, Nat.zero_add, Nat.add_zero, qwr, not_true_eq_false, not_false_eq_true, Option.some.injEq, qe_gn0, qe_m1n, qe_gng, qe_ngn, qe_gm, qe_mg, qe_lm1, qe_lgn, qe_lem, qe_leg, qe_tm1, qe_tgn, size_n hr6 h6 (e1.trans e2)]
          have h3 := this (FU - 1)
          rw [show FU - 1 + 1 = FU by unfold FU; omega] at h3
          exact h3
        have z2 : ∀ q h, lX7_digest_109 (lX7_digest_91 q) (nI r) FU (wL T 0 38 h) (nI 0) = lX7_digest_91 q (wL T 0 38 h) (nI (r + 1)) := by
          intro q h
          have hle : (m1 ≤ nI 0) = True := eq_true (by decide +kernel)
          have : ∀ p, lX7_digest_109 (lX7_digest_91 q) (nI r) (p + 1) (wL T 0 38 h) (nI 0) = lX7_digest_91 q (wL T 0 38 h) (nI (r + 1)) := by
            intro p
            rw [lX7_digest_109]
            simp (disch := omega) only [qlt, qb_some, qb_none, ↓qn_1, ↓qn_2, ↓qn_3, ↓qn_4, ↓qn_9, ↓qn_1000, ↓qn_low, qi_0, qi_1, qi_2, qi_3, qi_4, qi_5, qi_6, qi_7, qi_8, qi_9, qi_10, qi_11, qi_12, qi_13, qi_14, qi_15, qi_16, qi_17, qi_20, qi_24, qi_30, qi_31, qi_32, qi_60, qi_99, qi_100, qi_200, qi_1000, qi_3400, qi_4000, qi_of, pu_gI, pu_pI, nI_leI, nI_ltI, nI_eq, nI_add, pk_mul, pk_sub, pk_div, qw_s, qw_o, qw_l, qr_s, qr_o, qr_l, ql_i, ql_s, ql_o, pk_us, pk_un, pk_uLs, pk_uLn, if_pos, if_neg, if_true, if_false, ite_self, eq_self, Nat.zero_add, Nat.add_zero, qwr, not_true_eq_false, not_false_eq_true, Option.some.injEq, qe_gn0, qe_m1n, qe_gng, qe_ngn, qe_gm, qe_mg, qe_lm1, qe_lgn, qe_lem, qe_leg, qe_tm1, qe_tgn, e2, hle]
          have h3 := this (FU - 1)
          rw [show FU - 1 + 1 = FU by unfold FU; omega] at h3
          exact h3
        obtain ⟨h', w3, w4⟩ := ih (r + 1) ((31 : Int64) * h + Int32.toInt64 m1) (by omega) (by omega)
        simp (disch := omega) only [qlt, qb_some, qb_none, ↓qn_1, ↓qn_2, ↓qn_3, ↓qn_4, ↓qn_9, ↓qn_1000, ↓qn_low, qi_0, qi_1, qi_2, qi_3, qi_4, qi_5, qi_6, qi_7, qi_8, qi_9, qi_10, qi_11, qi_12, qi_13, qi_14, qi_15, qi_16, qi_17, qi_20, qi_24, qi_30, qi_31, qi_32, qi_60, qi_99, qi_100, qi_200, qi_1000, qi_3400, qi_4000, qi_of, pu_gI, pu_pI, nI_leI, nI_ltI, nI_eq, nI_add, pk_mul, pk_sub, pk_div, qw_s, qw_o, qw_l, qr_s, qr_o, qr_l, ql_i, ql_s, ql_o, pk_us, pk_un, pk_uLs, pk_uLn, if_pos, if_neg, if_true, if_false, ite_self, eq_self, Nat.zero_add, Nat.add_zero, qwr, not_true_eq_false, not_false_eq_true, Option.some.injEq, qe_gn0, qe_m1n, qe_gng, qe_ngn, qe_gm, qe_mg, qe_lm1, qe_lgn, qe_lem, qe_leg, qe_tm1, qe_tgn, e1.trans e2, e2, mixH, z1, z2]
        exact ⟨h', w3, w4⟩
      · obtain ⟨h1', w1, w2⟩ := dg_9i (K6 := lX4_digestOnto_5 10 4 S q) (K7 := lX7_digest_91 q) hr6 hm (e1.trans e2) e2 (e3 m hm e2) FU 0 ((31 : Int64) * h + Int32.toInt64 (nI m)) (Nat.zero_le m) (by unfold FU; omega)
        obtain ⟨h', w3, w4⟩ := ih (r + 1) h1' (by omega) (by omega)
        simp (disch := omega) only [qlt, qb_some, qb_none, ↓qn_1, ↓qn_2, ↓qn_3, ↓qn_4, ↓qn_9, ↓qn_1000, ↓qn_low, qi_0, qi_1, qi_2, qi_3, qi_4, qi_5, qi_6, qi_7, qi_8, qi_9, qi_10, qi_11, qi_12, qi_13, qi_14, qi_15, qi_16, qi_17, qi_20, qi_24, qi_30, qi_31, qi_32, qi_60, qi_99, qi_100, qi_200, qi_1000, qi_3400, qi_4000, qi_of, pu_gI, pu_pI, nI_leI, nI_ltI, nI_eq, nI_add, pk_mul, pk_sub, pk_div, qw_s, qw_o, qw_l, qr_s, qr_o, qr_l, ql_i, ql_s, ql_o, pk_us, pk_un, pk_uLs, pk_uLn, if_pos, if_neg, if_true, if_false, ite_self, eq_self, Nat.zero_add, Nat.add_zero, qwr, not_true_eq_false, not_false_eq_true, Option.some.injEq, qe_gn0, qe_m1n, qe_gng, qe_ngn, qe_gm, qe_mg, qe_lm1, qe_lgn, qe_lem, qe_leg, qe_tm1, qe_tgn, e1.trans e2, e2, mixH, w1, w2]
        exact ⟨h', w3, w4⟩
end DG
theorem Rel_38 {S T : vS} (R : Rel S T) (h : Int64) : Rel S (wL T 0 38 h) := by
  obtain ⟨a1, ⟨b1, b2, b3⟩, a3, a4, a5⟩ := R
  refine ⟨a1, ⟨b1, ?_, ?_⟩, a3, a4, a5⟩
  · rw [ql_s, pk_uLn (by decide)]; exact b2
  · rw [ql_s, pk_uLn (by decide)]; exact b3
theorem st_digest : St_digest Rel := by
  intro S T R
  obtain ⟨n, hn, h10, h34, hGI, hV, hK⟩ := R.2.2.2.2
  obtain ⟨hG, hS, hg1, hh1, hFI, d, hd, h14, hH, hD⟩ := id hV
  have h0 : S.1 (30 + 11) 0 = nI d := by rw [← h14]; exact hS.1
  obtain ⟨x1, u1, v1⟩ := dg_1 R hn h10 hGI hV hK FU 0 17 (by decide) (by unfold FU; omega)
  obtain ⟨x2, u2, v2⟩ := dg_2 (T := T) hS FU 0 x1 (by decide) (by unfold FU; omega)
  obtain ⟨x3, u3, v3⟩ := dg_4 hn h10 hG hS hFI FU 0 x2 (Nat.zero_le n) (by unfold FU; omega)
  obtain ⟨x4, u4, v4⟩ := dg_5 hg1 hh1 x3
  obtain ⟨x5, u5, v5⟩ := dg_6 h0 h14 hd hD FU 0 x4 (Nat.zero_le d) (by unfold FU; omega)
  obtain ⟨x6, u6, v6⟩ := dg_7 hK FU 0 x5 (by decide) (by unfold FU; omega)
  obtain ⟨x7, u7, v7⟩ := dg_8 R.2.2.1 FU 0 x6 (by decide) (by unfold FU; omega)
  obtain ⟨x8, u8, v8⟩ := dg_9 R.2.2.2.1 FU 0 x7 (by decide) (by unfold FU; omega)
  have e38 : (wL T 0 38 x8).2 0 38 = x8 := by
    rw [ql_s]
    exact pk_uLs
  have s1 : mX6_digest S = some x8 := by
    unfold mX6_digest
    rw [qi_0, u1]
    unfold bX6_digest_31
    rw [qi_0, u2]
    unfold bX6_digest_64
    rw [qi_0, u3, u4, u5]
    unfold bX6_digest_218
    rw [qi_0, u6]
    unfold bX6_digest_271 mX4_digestOnto
    rw [qi_0, u7, qb_some, u8, qb_some]
  have s2 : mX7_digest T = some (x8, wL T 0 38 x8) := by
    have m1 : mX7_mixValley (wL T 0 38 x1) = some (wL T 0 38 x6) := by
      unfold mX7_mixValley
      rw [qi_0, v2]
      unfold bX7_mixValley_26
      rw [qi_0, v3, v4, v5]
      unfold bX7_mixValley_150
      rw [qi_0, v6]
    unfold mX7_digest
    rw [qlt, qi_0, v1]
    unfold bX7_digest_31
    rw [m1, qb_some, qi_0, v7]
    unfold bX7_digest_89
    rw [qi_0, v8]
    unfold bX7_digest_142
    rw [e38]
  exact ⟨x8, _, s1, s2, rfl, Rel_38 R x8⟩
