/-! ===== PURE: days go by: offer, rest ===== -/
section G7
variable {T : vS} {n d e : Nat}
/-- the days' record with how all is ahead of day e -/
def dv1 (T : vS) (e : Nat) : Nat → Int32 := fun i => if 20 * e ≤ i ∧ i < 20 * e + 15 then fr T 0 (i - 20 * e) else T.1 12 i
def dv2 (T : vS) (n d e : Nat) : Nat → Int32 := fun i => if 20 * e + 16 ≤ i ∧ i < 20 * e + 16 + 4 then (fun g => if g < n then snt (T.1 7) n (fr T 0) d g else nI 0) (i - (20 * e + 16)) else upd (dv1 T e) (20 * e + 15) (nI d) i
/-- the reference's world behind the day -/
def dvT (T : vS) (n d e : Nat) : vS := wR (mk3 (wR T 12 (dv1 T e)) (sO (upd (T.1 0) 22 (nI (cosN (T.1 7) n (fr T 0) d))) (gsD (T.1 7) n (fr T 0) d) (hsD (T.1 7) n (fr T 0) d)) (putF (T.1 10) 0 (dyF (T.1 7) n (fr T 0) d)) (fun g => if g < n then snt (T.1 7) n (fr T 0) d g else T.1 11 g)) 12 (dv2 T n d e)
theorem goesBy7 (hn : n ≤ 4) (h10 : T.1 0 10 = nI n) (hGI : GInv n (T.1 7)) (hF : FInv n (fr T 0)) (h14 : fr T 0 14 = nI e) (he : e < 200) (hd : d = 12 ∨ d < 3 * n) (hcan : canB (T.1 7) n (fr T 0) d = true) : mX7_goesBy T (nI d) = some (dvT T n d e) := by
  have hf : (0 : Nat) < 6 := by decide
  have l1 := lp_fill0 (fun q U j => lX7_goesBy_13 (nI d) (nI (20 * e)) q U j) T 12 (20 * e) 15 (fun i => fr T 0 i) (fun U => bX7_goesBy_39 U (nI d) (nI (20 * e)))
    (by intro q f hf; show lX7_goesBy_13 (nI d) (nI (20 * e)) (q + 1) _ (nI 15) = _; rw [lX7_goesBy_13]; simp (disch := omega) only [qlt, qb_some, qb_none, ↓qn_1, ↓qn_2, ↓qn_3, ↓qn_4, ↓qn_9, ↓qn_1000, ↓qn_low, qi_0, qi_1, qi_2, qi_3, qi_4, qi_5, qi_6, qi_7, qi_8, qi_9, qi_10, qi_11, qi_12, qi_13, qi_14, qi_15, qi_16, qi_17, qi_20, qi_24, qi_30, qi_31, qi_32, qi_60, qi_99, qi_100, qi_200, qi_1000, qi_3400, qi_4000, qi_of, pu_gI, pu_pI, nI_leI, nI_ltI, nI_eq, nI_add, pk_mul, pk_sub, pk_div, qw_s, qw_o, qw_l, qr_s, qr_o, qr_l, ql_i, ql_s, ql_o, pk_us, pk_un, pk_uLs, pk_uLn, if_pos, if_neg, if_true, if_false, ite_self, eq_self, Nat.zero_add, Nat.add_zero, qwr, not_true_eq_false, not_false_eq_true, Option.some.injEq, qe_gn0, qe_m1n, qe_gng, qe_ngn, qe_gm, qe_mg, qe_lm1, qe_lgn, qe_lem, qe_leg, qe_tm1, qe_tgn])
    (by
      intro q f j hj hf2
      show lX7_goesBy_13 (nI d) (nI (20 * e)) (q + 1) _ (nI j) = _
      rw [lX7_goesBy_13]
      have hv : mX7_v (wR T 12 f) (nI 0) (nI j) = some (fr T 0 j) := by rw [m7_v (by decide) hj, fr_eq (qr_o (by decide))]
      simp (disch := omega) only [qlt, qb_some, qb_none, ↓qn_1, ↓qn_2, ↓qn_3, ↓qn_4, ↓qn_9, ↓qn_1000, ↓qn_low, qi_0, qi_1, qi_2, qi_3, qi_4, qi_5, qi_6, qi_7, qi_8, qi_9, qi_10, qi_11, qi_12, qi_13, qi_14, qi_15, qi_16, qi_17, qi_20, qi_24, qi_30, qi_31, qi_32, qi_60, qi_99, qi_100, qi_200, qi_1000, qi_3400, qi_4000, qi_of, pu_gI, pu_pI, nI_leI, nI_ltI, nI_eq, nI_add, pk_mul, pk_sub, pk_div, qw_s, qw_o, qw_l, qr_s, qr_o, qr_l, ql_i, ql_s, ql_o, pk_us, pk_un, pk_uLs, pk_uLn, if_pos, if_neg, if_true, if_false, ite_self, eq_self, Nat.zero_add, Nat.add_zero, qwr, not_true_eq_false, not_false_eq_true, Option.some.injEq, qe_gn0, qe_m1n, qe_gng, qe_ngn, qe_gm, qe_mg, qe_lm1, qe_lgn, qe_lem, qe_leg, qe_tm1, qe_tgn, hv]) (by unfold FU; omega)
  have e1 : wR T 12 (dv1 T e) = mk3 (wR T 12 (dv1 T e)) (T.1 0) (putF (T.1 10) 0 (fr T 0)) (T.1 11) := by
    have h := mk3_id (wR T 12 (dv1 T e))
    rw [qr_o (by decide), qr_o (by decide), qr_o (by decide)] at h
    unfold fr
    rw [put_fr]
    exact h.symm
  have go : mX7_goes (wR T 12 (dv1 T e)) (nI 0) (nI d) = some (nI 1, mk3 (wR T 12 (dv1 T e)) (sO (upd (T.1 0) 22 (nI (cosN (T.1 7) n (fr T 0) d))) (gsD (T.1 7) n (fr T 0) d) (hsD (T.1 7) n (fr T 0) d)) (putF (T.1 10) 0 (dyF (T.1 7) n (fr T 0) d)) (fun g => if g < n then snt (T.1 7) n (fr T 0) d g else T.1 11 g)) := by
    have h := goes7_y (T := wR T 12 (dv1 T e)) (o := T.1 0) (a := T.1 10) (s := T.1 11) (F := fr T 0) (f := 0) (d := d) hn h10 (by rw [qr_o (by decide)]; exact hGI) hf (cut_fr _ _) hF hd (by rw [qr_o (by decide)]; exact hcan)
    rw [← e1, qr_o (by decide)] at h
    exact h
  have l2 := lp_fill0 (fun q U j => lX7_goesBy_58 (nI (20 * e)) q U j) (wI (mk3 (wR T 12 (dv1 T e)) (sO (upd (T.1 0) 22 (nI (cosN (T.1 7) n (fr T 0) d))) (gsD (T.1 7) n (fr T 0) d) (hsD (T.1 7) n (fr T 0) d)) (putF (T.1 10) 0 (dyF (T.1 7) n (fr T 0) d)) (fun g => if g < n then snt (T.1 7) n (fr T 0) d g else T.1 11 g)) 12 (20 * e + 15) (nI d)) 12 (20 * e + 16) 4 (fun g => if g < n then snt (T.1 7) n (fr T 0) d g else nI 0) some
    (by intro q f hf; show lX7_goesBy_58 (nI (20 * e)) (q + 1) _ (nI 4) = _; rw [lX7_goesBy_58]; simp (disch := omega) only [qlt, qb_some, qb_none, ↓qn_1, ↓qn_2, ↓qn_3, ↓qn_4, ↓qn_9, ↓qn_1000, ↓qn_low, qi_0, qi_1, qi_2, qi_3, qi_4, qi_5, qi_6, qi_7, qi_8, qi_9, qi_10, qi_11, qi_12, qi_13, qi_14, qi_15, qi_16, qi_17, qi_20, qi_24, qi_30, qi_31, qi_32, qi_60, qi_99, qi_100, qi_200, qi_1000, qi_3400, qi_4000, qi_of, pu_gI, pu_pI, nI_leI, nI_ltI, nI_eq, nI_add, pk_mul, pk_sub, pk_div, qw_s, qw_o, qw_l, qr_s, qr_o, qr_l, ql_i, ql_s, ql_o, pk_us, pk_un, pk_uLs, pk_uLn, if_pos, if_neg, if_true, if_false, ite_self, eq_self, Nat.zero_add, Nat.add_zero, qwr, not_true_eq_false, not_false_eq_true, Option.some.injEq, qe_gn0, qe_m1n, qe_gng, qe_ngn, qe_gm, qe_mg, qe_lm1, qe_lgn, qe_lem, qe_leg, qe_tm1, qe_tgn])
    (by
      intro q f j hj hf2
      show lX7_goesBy_58 (nI (20 * e)) (q + 1) _ (nI j) = _
      rw [lX7_goesBy_58]
      unfold bX7_goesBy_91
      have h10' : sO (upd (T.1 0) 22 (nI (cosN (T.1 7) n (fr T 0) d))) (gsD (T.1 7) n (fr T 0) d) (hsD (T.1 7) n (fr T 0) d) 10 = nI n := by rw [sO_o (by decide) (by decide), pk_un (by decide)]; exact h10
      by_cases hjn : j < n
      · simp (disch := omega) only [qlt, qb_some, qb_none, ↓qn_1, ↓qn_2, ↓qn_3, ↓qn_4, ↓qn_9, ↓qn_1000, ↓qn_low, qi_0, qi_1, qi_2, qi_3, qi_4, qi_5, qi_6, qi_7, qi_8, qi_9, qi_10, qi_11, qi_12, qi_13, qi_14, qi_15, qi_16, qi_17, qi_20, qi_24, qi_30, qi_31, qi_32, qi_60, qi_99, qi_100, qi_200, qi_1000, qi_3400, qi_4000, qi_of, pu_gI, pu_pI, nI_leI, nI_ltI, nI_eq, nI_add, pk_mul, pk_sub, pk_div, qw_s, qw_o, qw_l, qr_s, qr_o, qr_l, ql_i, ql_s, ql_o, pk_us, pk_un, pk_uLs, pk_uLn, if_pos, if_neg, if_true, if_false, ite_self, eq_self, Nat.zero_add, Nat.add_zero, qwr, not_true_eq_false, not_false_eq_true, Option.some.injEq, qe_gn0, qe_m1n, qe_gng, qe_ngn, qe_gm, qe_mg, qe_lm1, qe_lgn, qe_lem, qe_leg, qe_tm1, qe_tgn, mk3_0, mk3_11, h10']
      · simp (disch := omega) only [qlt, qb_some, qb_none, ↓qn_1, ↓qn_2, ↓qn_3, ↓qn_4, ↓qn_9, ↓qn_1000, ↓qn_low, qi_0, qi_1, qi_2, qi_3, qi_4, qi_5, qi_6, qi_7, qi_8, qi_9, qi_10, qi_11, qi_12, qi_13, qi_14, qi_15, qi_16, qi_17, qi_20, qi_24, qi_30, qi_31, qi_32, qi_60, qi_99, qi_100, qi_200, qi_1000, qi_3400, qi_4000, qi_of, pu_gI, pu_pI, nI_leI, nI_ltI, nI_eq, nI_add, pk_mul, pk_sub, pk_div, qw_s, qw_o, qw_l, qr_s, qr_o, qr_l, ql_i, ql_s, ql_o, pk_us, pk_un, pk_uLs, pk_uLn, if_pos, if_neg, if_true, if_false, ite_self, eq_self, Nat.zero_add, Nat.add_zero, qwr, not_true_eq_false, not_false_eq_true, Option.some.injEq, qe_gn0, qe_m1n, qe_gng, qe_ngn, qe_gm, qe_mg, qe_lm1, qe_lgn, qe_lem, qe_leg, qe_tm1, qe_tgn, mk3_0, mk3_11, h10']) (by unfold FU; omega)
  unfold mX7_goesBy
  simp (disch := omega) only [qlt, qb_some, qb_none, ↓qn_1, ↓qn_2, ↓qn_3, ↓qn_4, ↓qn_9, ↓qn_1000, ↓qn_low, qi_0, qi_1, qi_2, qi_3, qi_4, qi_5, qi_6, qi_7, qi_8, qi_9, qi_10, qi_11, qi_12, qi_13, qi_14, qi_15, qi_16, qi_17, qi_20, qi_24, qi_30, qi_31, qi_32, qi_60, qi_99, qi_100, qi_200, qi_1000, qi_3400, qi_4000, qi_of, pu_gI, pu_pI, nI_leI, nI_ltI, nI_eq, nI_add, pk_mul, pk_sub, pk_div, qw_s, qw_o, qw_l, qr_s, qr_o, qr_l, ql_i, ql_s, ql_o, pk_us, pk_un, pk_uLs, pk_uLn, if_pos, if_neg, if_true, if_false, ite_self, eq_self, Nat.zero_add, Nat.add_zero, qwr, not_true_eq_false, not_false_eq_true, Option.some.injEq, qe_gn0, qe_m1n, qe_gng, qe_ngn, qe_gm, qe_mg, qe_lm1, qe_lgn, qe_lem, qe_leg, qe_tm1, qe_tgn, m7_v hf, h14]
  refine l1.trans ?_
  show bX7_goesBy_39 (wR T 12 (dv1 T e)) (nI d) (nI (20 * e)) = _
  unfold bX7_goesBy_39
  simp (disch := omega) only [qlt, qb_some, qb_none, ↓qn_1, ↓qn_2, ↓qn_3, ↓qn_4, ↓qn_9, ↓qn_1000, ↓qn_low, qi_0, qi_1, qi_2, qi_3, qi_4, qi_5, qi_6, qi_7, qi_8, qi_9, qi_10, qi_11, qi_12, qi_13, qi_14, qi_15, qi_16, qi_17, qi_20, qi_24, qi_30, qi_31, qi_32, qi_60, qi_99, qi_100, qi_200, qi_1000, qi_3400, qi_4000, qi_of, pu_gI, pu_pI, nI_leI, nI_ltI, nI_eq, nI_add, pk_mul, pk_sub, pk_div, qw_s, qw_o, qw_l, qr_s, qr_o, qr_l, ql_i, ql_s, ql_o, pk_us, pk_un, pk_uLs, pk_uLn, if_pos, if_neg, if_true, if_false, ite_self, eq_self, Nat.zero_add, Nat.add_zero, qwr, not_true_eq_false, not_false_eq_true, Option.some.injEq, qe_gn0, qe_m1n, qe_gng, qe_ngn, qe_gm, qe_mg, qe_lm1, qe_lgn, qe_lem, qe_leg, qe_tm1, qe_tgn, go]
  refine l2.trans ?_
  unfold dvT
  congr 1
  rw [qw_s, mk3_o (by decide) (by decide) (by decide), qr_s, pu_wI_R, pu_wR_wR]
  rfl
end G7
