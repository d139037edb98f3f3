/-! ===== PURE: the reference's other loops over plans ===== -/
section L8
variable {T0 : vS} {n u L e : Nat}
theorem ne10 : ¬ nI 1 = nI 0 := fun z => absurd ((nI_eq (by decide) (by decide)).mp z) (by decide)
/-- the row that the first plan comes to -/
def ptX (T : vS) (r L : Nat) : Nat → Int32 := fun i => if 60 * r ≤ i ∧ i < 60 * r + 60 then (fun j => if j < L then T.1 18 j else nI 0) (i - 60 * r) else T.1 3 i
theorem ptr7 {T : vS} {r : Nat} (hL : T.1 0 29 = nI L) (hL4 : L ≤ 4) (hr : r < 6) : mX7_planToRow T (nI r) = some (wR (wI T 2 r (nI L)) 3 (ptX T r L)) := by
  have l1 := lp_fill0 (fun q U j => lX7_planToRow_12 (nI r) q U j) (wI T 2 r (nI L)) 3 (60 * r) 60 (fun j => if j < L then T.1 18 j else nI 0) some
    (by intro q f hf; show lX7_planToRow_12 (nI r) (q + 1) _ (nI 60) = _; rw [lX7_planToRow_12]; simp (disch := omega) only [qlt, qb_some, qb_none, ↓qn_1, ↓qn_2, ↓qn_3, ↓qn_4, ↓qn_9, ↓qn_1000, ↓qn_low, qi_0, qi_1, qi_2, qi_3, qi_4, qi_5, qi_6, qi_7, qi_8, qi_9, qi_10, qi_11, qi_12, qi_13, qi_14, qi_15, qi_16, qi_18, qi_20, qi_24, qi_30, qi_31, qi_32, qi_60, qi_99, qi_100, qi_200, qi_1000, qi_3600, qi_4000, qi_of, pu_gI, pu_pI, nI_leI, nI_ltI, nI_eq, nI_add, pk_mul, pk_sub, pk_div, qw_s, qw_o, qw_l, qr_s, qr_o, qr_l, ql_i, ql_s, ql_o, pk_us, pk_un, pk_uLs, pk_uLn, if_pos, if_neg, if_true, if_false, ite_self, eq_self, Nat.zero_add, Nat.add_zero, qwr, not_true_eq_false, not_false_eq_true, Option.some.injEq, qe_gn0, qe_m1n, qe_gng, qe_ngn, qe_gm, qe_mg, qe_lm1, qe_lgn, qe_lem, qe_leg, qe_tm1, qe_tgn])
    (by
      intro q f j hj hf
      show lX7_planToRow_12 (nI r) (q + 1) _ (nI j) = _
      rw [lX7_planToRow_12]
      unfold bX7_planToRow_46
      by_cases hjl : j < L
      · simp (disch := omega) only [qlt, qb_some, qb_none, ↓qn_1, ↓qn_2, ↓qn_3, ↓qn_4, ↓qn_9, ↓qn_1000, ↓qn_low, qi_0, qi_1, qi_2, qi_3, qi_4, qi_5, qi_6, qi_7, qi_8, qi_9, qi_10, qi_11, qi_12, qi_13, qi_14, qi_15, qi_16, qi_18, qi_20, qi_24, qi_30, qi_31, qi_32, qi_60, qi_99, qi_100, qi_200, qi_1000, qi_3600, qi_4000, qi_of, pu_gI, pu_pI, nI_leI, nI_ltI, nI_eq, nI_add, pk_mul, pk_sub, pk_div, qw_s, qw_o, qw_l, qr_s, qr_o, qr_l, ql_i, ql_s, ql_o, pk_us, pk_un, pk_uLs, pk_uLn, if_pos, if_neg, if_true, if_false, ite_self, eq_self, Nat.zero_add, Nat.add_zero, qwr, not_true_eq_false, not_false_eq_true, Option.some.injEq, qe_gn0, qe_m1n, qe_gng, qe_ngn, qe_gm, qe_mg, qe_lm1, qe_lgn, qe_lem, qe_leg, qe_tm1, qe_tgn, hL]
      · simp (disch := omega) only [qlt, qb_some, qb_none, ↓qn_1, ↓qn_2, ↓qn_3, ↓qn_4, ↓qn_9, ↓qn_1000, ↓qn_low, qi_0, qi_1, qi_2, qi_3, qi_4, qi_5, qi_6, qi_7, qi_8, qi_9, qi_10, qi_11, qi_12, qi_13, qi_14, qi_15, qi_16, qi_18, qi_20, qi_24, qi_30, qi_31, qi_32, qi_60, qi_99, qi_100, qi_200, qi_1000, qi_3600, qi_4000, qi_of, pu_gI, pu_pI, nI_leI, nI_ltI, nI_eq, nI_add, pk_mul, pk_sub, pk_div, qw_s, qw_o, qw_l, qr_s, qr_o, qr_l, ql_i, ql_s, ql_o, pk_us, pk_un, pk_uLs, pk_uLn, if_pos, if_neg, if_true, if_false, ite_self, eq_self, Nat.zero_add, Nat.add_zero, qwr, not_true_eq_false, not_false_eq_true, Option.some.injEq, qe_gn0, qe_m1n, qe_gng, qe_ngn, qe_gm, qe_mg, qe_lm1, qe_lgn, qe_lem, qe_leg, qe_tm1, qe_tgn, hL]) (by unfold FU; omega)
  unfold mX7_planToRow
  rw [hL, pu_pI _ _ _ hr (by decide), qb_some, qi_0]
  refine l1.trans ?_
  congr 2
theorem sf_l (hB : Bs T0 n u L e) {r : Nat} (hr : r < 6) : ∀ q (l : List vP) (T : vS), l.length < q → NxR T0 n u L (T.1 18) l (mX7_nextPlan T) →
    ∃ T', Pt T0 T' L ∧ ((l.filter hz = [] ∧ lX7_safe_22 (nI r) q T = some (gN, T')) ∨ ∃ y rest, l.filter hz = y :: rest ∧ lX7_safe_22 (nI r) q T = some (nI 1, wR (wI T' 2 r (nI L)) 3 (ptX T' r L)) ∧ ∀ i, i < L → T'.1 18 i = nI (y.1.getD i 0)) := by
  intro q
  induction q with
  | zero => intro l T h; exact absurd h (Nat.not_lt_zero _)
  | succ q ih =>
    intro l T h1 hN
    obtain ⟨T', hP, h18', hh⟩ := hN
    rw [lX7_safe_22]
    rcases hh with ⟨rfl, hrr⟩ | ⟨p, o, rfl, hp1, hp2, hrr, hp3, o30, o31, o32, o33⟩
    · refine ⟨T', hP, Or.inl ⟨rfl, ?_⟩⟩
      rw [hrr]
      simp (disch := omega) only [qlt, qb_some, qb_none, ↓qn_1, ↓qn_2, ↓qn_3, ↓qn_4, ↓qn_9, ↓qn_1000, ↓qn_low, qi_0, qi_1, qi_2, qi_3, qi_4, qi_5, qi_6, qi_7, qi_8, qi_9, qi_10, qi_11, qi_12, qi_13, qi_14, qi_15, qi_16, qi_18, qi_20, qi_24, qi_30, qi_31, qi_32, qi_60, qi_99, qi_100, qi_200, qi_1000, qi_3600, qi_4000, qi_of, pu_gI, pu_pI, nI_leI, nI_ltI, nI_eq, nI_add, pk_mul, pk_sub, pk_div, qw_s, qw_o, qw_l, qr_s, qr_o, qr_l, ql_i, ql_s, ql_o, pk_us, pk_un, pk_uLs, pk_uLn, if_pos, if_neg, if_true, if_false, ite_self, eq_self, Nat.zero_add, Nat.add_zero, qwr, not_true_eq_false, not_false_eq_true, Option.some.injEq, qe_gn0, qe_m1n, qe_gng, qe_ngn, qe_gm, qe_mg, qe_lm1, qe_lgn, qe_lem, qe_leg, qe_tm1, qe_tgn]
    · have hlen : (aft (T0.1 7) n u p L (fr T0 0) 0 0 0).length < q := by rw [List.length_cons] at h1; omega
      rw [hrr]
      by_cases h0 : o.2.1 = 0
      · have hzz : hz (p, o) = true := by unfold hz; simpa using h0
        have hk := keepPlan7 (T := T') hP.2.1 hB.2.2.2.1
        refine ⟨wR T' 18 (fun i => if 0 ≤ i ∧ i < 0 + L then T'.1 17 (i - 0) else T'.1 18 i), Pt_w18 hP, Or.inr ⟨(p, o), (aft (T0.1 7) n u p L (fr T0 0) 0 0 0).filter hz, ?_, ?_, ?_⟩⟩
        · rw [List.filter_cons_of_pos hzz]
        · unfold bX7_safe_36
          simp only [qi_0, qi_1]
          rw [qb_some, if_neg ne10, o31, h0, if_pos rfl, hk, qb_some, ptr7 (by rw [qr_o (by decide)]; exact hP.2.1) hB.2.2.2.1 hr, qb_some]
        · intro i hi
          rw [qr_s, if_pos (by omega), Nat.sub_zero]
          exact hp3 i hi
      · have hzz : ¬ hz (p, o) = true := by unfold hz; simpa using h0
        have hob : o.2.1 ≤ 1000 := by
          have := allP_Bd (u := u) (hl := false) (F := fr T0 0) hB.1 hB.2.2.2.2.2.1 hB.2.2.2.1
          sorry
        sorry
end L8
