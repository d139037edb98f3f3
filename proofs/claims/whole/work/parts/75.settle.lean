/-! ===== PURE: gods that are read are settled ===== -/
def jelx (x : Int32) : Bool := decide (x = nI 2) || decide (x = nI 4)
def slpx (x : Int32) : Bool := decide (x = nI 3) || decide (x = nI 5)
section SE
variable {S : vS} {n g : Nat}
theorem isk2 (h0 : S.1 18 0 = nI n) (hn : n ≤ 4) (hg : g < n) : mX0_isOfKind S 18 (nI g) (nI 2) = some (if jelx (S.1 19 g) = true then nI 1 else nI 0) := by
  unfold mX0_isOfKind bX0_isOfKind_32 bX0_isOfKind_46 jelx
  have e : (18 + 1 : Nat) = 19 := rfl
  simp (disch := omega) only [qlt, qb_some, qb_none, ↓qn_1, ↓qn_2, ↓qn_3, ↓qn_4, ↓qn_9, ↓qn_1000, ↓qn_low, qi_0, qi_1, qi_2, qi_3, qi_4, qi_5, qi_6, qi_7, qi_8, qi_9, qi_10, qi_11, qi_12, qi_13, qi_14, qi_15, qi_16, qi_17, qi_20, qi_24, qi_30, qi_31, qi_32, qi_60, qi_99, qi_100, qi_200, qi_1000, qi_3400, qi_4000, qi_of, pu_gI, pu_pI, nI_leI, nI_ltI, nI_eq, nI_add, pk_mul, pk_sub, pk_div, qw_s, qw_o, qw_l, qr_s, qr_o, qr_l, ql_i, ql_s, ql_o, pk_us, pk_un, pk_uLs, pk_uLn, if_pos, if_neg, if_true, if_false, ite_self, eq_self, Nat.zero_add, Nat.add_zero, qwr, not_true_eq_false, not_false_eq_true, Option.some.injEq, qe_gn0, qe_m1n, qe_gng, qe_ngn, qe_gm, qe_mg, qe_lm1, qe_lgn, qe_lem, qe_leg, qe_tm1, qe_tgn, has0_y h0 hn hg, e]
  generalize S.1 19 g = x
  by_cases h2 : x = nI 2
  · subst h2
    simp (disch := omega) only [qlt, qb_some, qb_none, ↓qn_1, ↓qn_2, ↓qn_3, ↓qn_4, ↓qn_9, ↓qn_1000, ↓qn_low, qi_0, qi_1, qi_2, qi_3, qi_4, qi_5, qi_6, qi_7, qi_8, qi_9, qi_10, qi_11, qi_12, qi_13, qi_14, qi_15, qi_16, qi_17, qi_20, qi_24, qi_30, qi_31, qi_32, qi_60, qi_99, qi_100, qi_200, qi_1000, qi_3400, qi_4000, qi_of, pu_gI, pu_pI, nI_leI, nI_ltI, nI_eq, nI_add, pk_mul, pk_sub, pk_div, qw_s, qw_o, qw_l, qr_s, qr_o, qr_l, ql_i, ql_s, ql_o, pk_us, pk_un, pk_uLs, pk_uLn, if_pos, if_neg, if_true, if_false, ite_self, eq_self, Nat.zero_add, Nat.add_zero, qwr, not_true_eq_false, not_false_eq_true, Option.some.injEq, qe_gn0, qe_m1n, qe_gng, qe_ngn, qe_gm, qe_mg, qe_lm1, qe_lgn, qe_lem, qe_leg, qe_tm1, qe_tgn]
    rfl
  · by_cases h4 : x = nI 4
    · subst h4
      simp (disch := omega) only [qlt, qb_some, qb_none, ↓qn_1, ↓qn_2, ↓qn_3, ↓qn_4, ↓qn_9, ↓qn_1000, ↓qn_low, qi_0, qi_1, qi_2, qi_3, qi_4, qi_5, qi_6, qi_7, qi_8, qi_9, qi_10, qi_11, qi_12, qi_13, qi_14, qi_15, qi_16, qi_17, qi_20, qi_24, qi_30, qi_31, qi_32, qi_60, qi_99, qi_100, qi_200, qi_1000, qi_3400, qi_4000, qi_of, pu_gI, pu_pI, nI_leI, nI_ltI, nI_eq, nI_add, pk_mul, pk_sub, pk_div, qw_s, qw_o, qw_l, qr_s, qr_o, qr_l, ql_i, ql_s, ql_o, pk_us, pk_un, pk_uLs, pk_uLn, if_pos, if_neg, if_true, if_false, ite_self, eq_self, Nat.zero_add, Nat.add_zero, qwr, not_true_eq_false, not_false_eq_true, Option.some.injEq, qe_gn0, qe_m1n, qe_gng, qe_ngn, qe_gm, qe_mg, qe_lm1, qe_lgn, qe_lem, qe_leg, qe_tm1, qe_tgn]
      rfl
    · have e2 : (x = nI 2) = False := eq_false h2
      have e4 : (x = nI 4) = False := eq_false h4
      simp (disch := omega) only [qlt, qb_some, qb_none, ↓qn_1, ↓qn_2, ↓qn_3, ↓qn_4, ↓qn_9, ↓qn_1000, ↓qn_low, qi_0, qi_1, qi_2, qi_3, qi_4, qi_5, qi_6, qi_7, qi_8, qi_9, qi_10, qi_11, qi_12, qi_13, qi_14, qi_15, qi_16, qi_17, qi_20, qi_24, qi_30, qi_31, qi_32, qi_60, qi_99, qi_100, qi_200, qi_1000, qi_3400, qi_4000, qi_of, pu_gI, pu_pI, nI_leI, nI_ltI, nI_eq, nI_add, pk_mul, pk_sub, pk_div, qw_s, qw_o, qw_l, qr_s, qr_o, qr_l, ql_i, ql_s, ql_o, pk_us, pk_un, pk_uLs, pk_uLn, if_pos, if_neg, if_true, if_false, ite_self, eq_self, Nat.zero_add, Nat.add_zero, qwr, not_true_eq_false, not_false_eq_true, Option.some.injEq, qe_gn0, qe_m1n, qe_gng, qe_ngn, qe_gm, qe_mg, qe_lm1, qe_lgn, qe_lem, qe_leg, qe_tm1, qe_tgn, e2, e4, decide_false, Bool.or_self, Bool.false_eq_true]
theorem isk3 (h0 : S.1 18 0 = nI n) (hn : n ≤ 4) (hg : g < n) : mX0_isOfKind S 18 (nI g) (nI 3) = some (if slpx (S.1 19 g) = true then nI 1 else nI 0) := by
  unfold mX0_isOfKind bX0_isOfKind_32 bX0_isOfKind_46 slpx
  have e : (18 + 1 : Nat) = 19 := rfl
  simp (disch := omega) only [qlt, qb_some, qb_none, ↓qn_1, ↓qn_2, ↓qn_3, ↓qn_4, ↓qn_9, ↓qn_1000, ↓qn_low, qi_0, qi_1, qi_2, qi_3, qi_4, qi_5, qi_6, qi_7, qi_8, qi_9, qi_10, qi_11, qi_12, qi_13, qi_14, qi_15, qi_16, qi_17, qi_20, qi_24, qi_30, qi_31, qi_32, qi_60, qi_99, qi_100, qi_200, qi_1000, qi_3400, qi_4000, qi_of, pu_gI, pu_pI, nI_leI, nI_ltI, nI_eq, nI_add, pk_mul, pk_sub, pk_div, qw_s, qw_o, qw_l, qr_s, qr_o, qr_l, ql_i, ql_s, ql_o, pk_us, pk_un, pk_uLs, pk_uLn, if_pos, if_neg, if_true, if_false, ite_self, eq_self, Nat.zero_add, Nat.add_zero, qwr, not_true_eq_false, not_false_eq_true, Option.some.injEq, qe_gn0, qe_m1n, qe_gng, qe_ngn, qe_gm, qe_mg, qe_lm1, qe_lgn, qe_lem, qe_leg, qe_tm1, qe_tgn, has0_y h0 hn hg, e]
  generalize S.1 19 g = x
  by_cases h2 : x = nI 3
  · subst h2
    simp (disch := omega) only [qlt, qb_some, qb_none, ↓qn_1, ↓qn_2, ↓qn_3, ↓qn_4, ↓qn_9, ↓qn_1000, ↓qn_low, qi_0, qi_1, qi_2, qi_3, qi_4, qi_5, qi_6, qi_7, qi_8, qi_9, qi_10, qi_11, qi_12, qi_13, qi_14, qi_15, qi_16, qi_17, qi_20, qi_24, qi_30, qi_31, qi_32, qi_60, qi_99, qi_100, qi_200, qi_1000, qi_3400, qi_4000, qi_of, pu_gI, pu_pI, nI_leI, nI_ltI, nI_eq, nI_add, pk_mul, pk_sub, pk_div, qw_s, qw_o, qw_l, qr_s, qr_o, qr_l, ql_i, ql_s, ql_o, pk_us, pk_un, pk_uLs, pk_uLn, if_pos, if_neg, if_true, if_false, ite_self, eq_self, Nat.zero_add, Nat.add_zero, qwr, not_true_eq_false, not_false_eq_true, Option.some.injEq, qe_gn0, qe_m1n, qe_gng, qe_ngn, qe_gm, qe_mg, qe_lm1, qe_lgn, qe_lem, qe_leg, qe_tm1, qe_tgn]
    rfl
  · by_cases h4 : x = nI 5
    · subst h4
      simp (disch := omega) only [qlt, qb_some, qb_none, ↓qn_1, ↓qn_2, ↓qn_3, ↓qn_4, ↓qn_9, ↓qn_1000, ↓qn_low, qi_0, qi_1, qi_2, qi_3, qi_4, qi_5, qi_6, qi_7, qi_8, qi_9, qi_10, qi_11, qi_12, qi_13, qi_14, qi_15, qi_16, qi_17, qi_20, qi_24, qi_30, qi_31, qi_32, qi_60, qi_99, qi_100, qi_200, qi_1000, qi_3400, qi_4000, qi_of, pu_gI, pu_pI, nI_leI, nI_ltI, nI_eq, nI_add, pk_mul, pk_sub, pk_div, qw_s, qw_o, qw_l, qr_s, qr_o, qr_l, ql_i, ql_s, ql_o, pk_us, pk_un, pk_uLs, pk_uLn, if_pos, if_neg, if_true, if_false, ite_self, eq_self, Nat.zero_add, Nat.add_zero, qwr, not_true_eq_false, not_false_eq_true, Option.some.injEq, qe_gn0, qe_m1n, qe_gng, qe_ngn, qe_gm, qe_mg, qe_lm1, qe_lgn, qe_lem, qe_leg, qe_tm1, qe_tgn]
      rfl
    · have e2 : (x = nI 3) = False := eq_false h2
      have e4 : (x = nI 5) = False := eq_false h4
      simp (disch := omega) only [qlt, qb_some, qb_none, ↓qn_1, ↓qn_2, ↓qn_3, ↓qn_4, ↓qn_9, ↓qn_1000, ↓qn_low, qi_0, qi_1, qi_2, qi_3, qi_4, qi_5, qi_6, qi_7, qi_8, qi_9, qi_10, qi_11, qi_12, qi_13, qi_14, qi_15, qi_16, qi_17, qi_20, qi_24, qi_30, qi_31, qi_32, qi_60, qi_99, qi_100, qi_200, qi_1000, qi_3400, qi_4000, qi_of, pu_gI, pu_pI, nI_leI, nI_ltI, nI_eq, nI_add, pk_mul, pk_sub, pk_div, qw_s, qw_o, qw_l, qr_s, qr_o, qr_l, ql_i, ql_s, ql_o, pk_us, pk_un, pk_uLs, pk_uLn, if_pos, if_neg, if_true, if_false, ite_self, eq_self, Nat.zero_add, Nat.add_zero, qwr, not_true_eq_false, not_false_eq_true, Option.some.injEq, qe_gn0, qe_m1n, qe_gng, qe_ngn, qe_gm, qe_mg, qe_lm1, qe_lgn, qe_lem, qe_leg, qe_tm1, qe_tgn, e2, e4, decide_false, Bool.or_self, Bool.false_eq_true]
end SE
def one (g : Nat) : Int32 := nI 1 <<< (nI g &&& nI 31)
/-- the first round is through for g gods -/
def S19 (S : vS) (g : Nat) : Prop := nib (S.1 18 2) ∧ (∀ o, o < 4 → bt (S.1 18 2) o = (decide (o < g) && slpx (S.1 19 o))) ∧ ∀ a, a < g → S.1 25 a = one a ∧ S.1 26 a = nI 0 ∧ S.1 27 a = if jelx (S.1 19 a) = true then nI 2 else nI 1
def FrQ (S S' : vS) : Prop := (∀ c, (c < 18 ∨ (18 < c ∧ c < 25) ∨ 27 < c) → S'.1 c = S.1 c) ∧ S'.2 = S.2 ∧ S'.1 18 0 = S.1 18 0 ∧ S'.1 18 1 = S.1 18 1
theorem FrQ_r (S : vS) : FrQ S S := ⟨fun _ _ => rfl, rfl, rfl, rfl⟩
theorem FrQ_t {S S' S2 : vS} (h : FrQ S S') (h2 : FrQ S' S2) : FrQ S S2 := ⟨fun c hc => by rw [h2.1 c hc]; exact h.1 c hc, by rw [h2.2.1]; exact h.2.1, by rw [h2.2.2.1]; exact h.2.2.1, by rw [h2.2.2.2]; exact h.2.2.2⟩
theorem FrQ_w {S : vS} {c j : Nat} {x : Int32} (h : (25 ≤ c ∧ c ≤ 27) ∨ (c = 18 ∧ 1 < j)) : FrQ S (wI S c j x) := by
  refine ⟨fun p hp => qw_o (by omega), rfl, ?_, ?_⟩
  · by_cases hc : c = 18
    · subst hc
      rw [qw_s, pk_un (by omega)]
    · rw [qw_o (by omega)]
  · by_cases hc : c = 18
    · subst hc
      rw [qw_s, pk_un (by omega)]
    · rw [qw_o (by omega)]
theorem set19 {n : Nat} (hn : n ≤ 4) : ∀ q g S, g ≤ n → n - g < q → S.1 18 0 = nI n → S19 S g → ∃ S1, lX0_settle_19 18 q S (nI g) = lX0_settle_92 18 FU S1 (nI 0) ∧ FrQ S S1 ∧ S19 S1 n := by
  intro q
  induction q with
  | zero => intro g S h1 h2; omega
  | succ q ih =>
    intro g S h1 h2 h0 h
    rw [lX0_settle_19]
    by_cases hg : g = n
    · subst hg
      unfold bX0_settle_90
      simp (disch := omega) only [qlt, qb_some, qb_none, ↓qn_1, ↓qn_2, ↓qn_3, ↓qn_4, ↓qn_9, ↓qn_1000, ↓qn_low, qi_0, qi_1, qi_2, qi_3, qi_4, qi_5, qi_6, qi_7, qi_8, qi_9, qi_10, qi_11, qi_12, qi_13, qi_14, qi_15, qi_16, qi_17, qi_20, qi_24, qi_30, qi_31, qi_32, qi_60, qi_99, qi_100, qi_200, qi_1000, qi_3400, qi_4000, qi_of, pu_gI, pu_pI, nI_leI, nI_ltI, nI_eq, nI_add, pk_mul, pk_sub, pk_div, qw_s, qw_o, qw_l, qr_s, qr_o, qr_l, ql_i, ql_s, ql_o, pk_us, pk_un, pk_uLs, pk_uLn, if_pos, if_neg, if_true, if_false, ite_self, eq_self, Nat.zero_add, Nat.add_zero, qwr, not_true_eq_false, not_false_eq_true, Option.some.injEq, qe_gn0, qe_m1n, qe_gng, qe_ngn, qe_gm, qe_mg, qe_lm1, qe_lgn, qe_lem, qe_leg, qe_tm1, qe_tgn, h0]
      exact ⟨S, rfl, FrQ_r S, h⟩
    · have hgn : g < n := by omega
      have hg4 : g < 4 := by omega
      obtain ⟨s1, s2, s3⟩ := h
      have k2 := isk2 (S := wI (wI S 25 g (one g)) 26 g (nI 0)) (g := g) (n := n) (by simp (disch := omega) only [qlt, qb_some, qb_none, ↓qn_1, ↓qn_2, ↓qn_3, ↓qn_4, ↓qn_9, ↓qn_1000, ↓qn_low, qi_0, qi_1, qi_2, qi_3, qi_4, qi_5, qi_6, qi_7, qi_8, qi_9, qi_10, qi_11, qi_12, qi_13, qi_14, qi_15, qi_16, qi_17, qi_20, qi_24, qi_30, qi_31, qi_32, qi_60, qi_99, qi_100, qi_200, qi_1000, qi_3400, qi_4000, qi_of, pu_gI, pu_pI, nI_leI, nI_ltI, nI_eq, nI_add, pk_mul, pk_sub, pk_div, qw_s, qw_o, qw_l, qr_s, qr_o, qr_l, ql_i, ql_s, ql_o, pk_us, pk_un, pk_uLs, pk_uLn, if_pos, if_neg, if_true, if_false, ite_self, eq_self, Nat.zero_add, Nat.add_zero, qwr, not_true_eq_false, not_false_eq_true, Option.some.injEq, qe_gn0, qe_m1n, qe_gng, qe_ngn, qe_gm, qe_mg, qe_lm1, qe_lgn, qe_lem, qe_leg, qe_tm1, qe_tgn]; exact h0) hn hgn
      have e19 : (wI (wI S 25 g (one g)) 26 g (nI 0)).1 19 g = S.1 19 g := by simp (disch := omega) only [qlt, qb_some, qb_none, ↓qn_1, ↓qn_2, ↓qn_3, ↓qn_4, ↓qn_9, ↓qn_1000, ↓qn_low, qi_0, qi_1, qi_2, qi_3, qi_4, qi_5, qi_6, qi_7, qi_8, qi_9, qi_10, qi_11, qi_12, qi_13, qi_14, qi_15, qi_16, qi_17, qi_20, qi_24, qi_30, qi_31, qi_32, qi_60, qi_99, qi_100, qi_200, qi_1000, qi_3400, qi_4000, qi_of, pu_gI, pu_pI, nI_leI, nI_ltI, nI_eq, nI_add, pk_mul, pk_sub, pk_div, qw_s, qw_o, qw_l, qr_s, qr_o, qr_l, ql_i, ql_s, ql_o, pk_us, pk_un, pk_uLs, pk_uLn, if_pos, if_neg, if_true, if_false, ite_self, eq_self, Nat.zero_add, Nat.add_zero, qwr, not_true_eq_false, not_false_eq_true, Option.some.injEq, qe_gn0, qe_m1n, qe_gng, qe_ngn, qe_gm, qe_mg, qe_lm1, qe_lgn, qe_lem, qe_leg, qe_tm1, qe_tgn]
      rw [e19] at k2
      have k3 := fun x => isk3 (S := wI (wI (wI S 25 g (one g)) 26 g (nI 0)) 27 g x) (g := g) (n := n) (by simp (disch := omega) only [qlt, qb_some, qb_none, ↓qn_1, ↓qn_2, ↓qn_3, ↓qn_4, ↓qn_9, ↓qn_1000, ↓qn_low, qi_0, qi_1, qi_2, qi_3, qi_4, qi_5, qi_6, qi_7, qi_8, qi_9, qi_10, qi_11, qi_12, qi_13, qi_14, qi_15, qi_16, qi_17, qi_20, qi_24, qi_30, qi_31, qi_32, qi_60, qi_99, qi_100, qi_200, qi_1000, qi_3400, qi_4000, qi_of, pu_gI, pu_pI, nI_leI, nI_ltI, nI_eq, nI_add, pk_mul, pk_sub, pk_div, qw_s, qw_o, qw_l, qr_s, qr_o, qr_l, ql_i, ql_s, ql_o, pk_us, pk_un, pk_uLs, pk_uLn, if_pos, if_neg, if_true, if_false, ite_self, eq_self, Nat.zero_add, Nat.add_zero, qwr, not_true_eq_false, not_false_eq_true, Option.some.injEq, qe_gn0, qe_m1n, qe_gng, qe_ngn, qe_gm, qe_mg, qe_lm1, qe_lgn, qe_lem, qe_leg, qe_tm1, qe_tgn]; exact h0) hn hgn
      have e19' : ∀ x, (wI (wI (wI S 25 g (one g)) 26 g (nI 0)) 27 g x).1 19 g = S.1 19 g := fun x => by simp (disch := omega) only [qlt, qb_some, qb_none, ↓qn_1, ↓qn_2, ↓qn_3, ↓qn_4, ↓qn_9, ↓qn_1000, ↓qn_low, qi_0, qi_1, qi_2, qi_3, qi_4, qi_5, qi_6, qi_7, qi_8, qi_9, qi_10, qi_11, qi_12, qi_13, qi_14, qi_15, qi_16, qi_17, qi_20, qi_24, qi_30, qi_31, qi_32, qi_60, qi_99, qi_100, qi_200, qi_1000, qi_3400, qi_4000, qi_of, pu_gI, pu_pI, nI_leI, nI_ltI, nI_eq, nI_add, pk_mul, pk_sub, pk_div, qw_s, qw_o, qw_l, qr_s, qr_o, qr_l, ql_i, ql_s, ql_o, pk_us, pk_un, pk_uLs, pk_uLn, if_pos, if_neg, if_true, if_false, ite_self, eq_self, Nat.zero_add, Nat.add_zero, qwr, not_true_eq_false, not_false_eq_true, Option.some.injEq, qe_gn0, qe_m1n, qe_gng, qe_ngn, qe_gm, qe_mg, qe_lm1, qe_lgn, qe_lem, qe_leg, qe_tm1, qe_tgn]
      simp only [e19'] at k3
      have E25 : (18 + 7 : Nat) = 25 := rfl
      have E26 : (18 + 8 : Nat) = 26 := rfl
      have E27 : (18 + 9 : Nat) = 27 := rfl
      have eone : nI 1 <<< (nI g &&& nI 31) = one g := rfl
      have nx : ∀ x, x = (if jelx (S.1 19 g) = true then nI 2 else nI 1) → ∀ y, y = (if slpx (S.1 19 g) = true then S.1 18 2 ||| one g else S.1 18 2) → S19 (wI (wI (wI (wI S 25 g (one g)) 26 g (nI 0)) 27 g x) 18 2 y) (g + 1) := by
        intro x hx y hy
        refine ⟨?_, fun o ho => ?_, fun a ha => ?_⟩
        · rw [qw_s, pk_us, hy]
          split
          · exact nib_or s1 (nib_one hg4)
          · exact s1
        · rw [qw_s, pk_us, qw_o (by decide), qw_o (by decide), qw_o (by decide), qw_o (by decide), hy]
          by_cases hs : slpx (S.1 19 g) = true
          · rw [if_pos hs]
            show bt (S.1 18 2 ||| (nI 1 <<< (nI g &&& nI 31))) o = _
            rw [bt_or s1 (nib_one hg4) ho, bt_one hg4 ho, s2 o ho]
            by_cases hog : o = g
            · subst hog
              simp [hs]
            · have : decide (o < g + 1) = decide (o < g) := by simp only [decide_eq_decide]; omega
              rw [this]
              simp [hog]
          · rw [if_neg hs, s2 o ho]
            by_cases hog : o = g
            · subst hog
              simp [hs]
            · have : decide (o < g + 1) = decide (o < g) := by simp only [decide_eq_decide]; omega
              rw [this]
        · rw [qw_o (c := 25) (k := 18) (by decide), qw_o (c := 25) (k := 27) (by decide), qw_o (c := 25) (k := 26) (by decide), qw_s, qw_o (c := 26) (k := 18) (by decide), qw_o (c := 26) (k := 27) (by decide), qw_s, qw_o (c := 27) (k := 18) (by decide), qw_s, qw_o (c := 19) (k := 18) (by decide), qw_o (c := 19) (k := 27) (by decide), qw_o (c := 19) (k := 26) (by decide), qw_o (c := 19) (k := 25) (by decide)]
          rw [qw_o (c := 26) (k := 25) (by decide), qw_o (c := 27) (k := 26) (by decide), qw_o (c := 27) (k := 25) (by decide)]
          by_cases hag : a = g
          · subst hag
            rw [pk_us, pk_us, pk_us]
            exact ⟨rfl, rfl, hx⟩
          · rw [pk_un hag, pk_un hag, pk_un hag]
            exact s3 a (by omega)
      have fq : ∀ x y, FrQ S (wI (wI (wI (wI S 25 g (one g)) 26 g (nI 0)) 27 g x) 18 2 y) := fun x y => FrQ_t (FrQ_t (FrQ_t (FrQ_w (by omega)) (FrQ_w (by omega))) (FrQ_w (by omega))) (FrQ_w (by omega))
      have go := fun x y hx hy => ih (g + 1) _ (by omega) (by omega) (by rw [(fq x y).2.2.1]; exact h0) (nx x hx y hy)
      have self : ∀ x, wI (wI (wI (wI S 25 g (one g)) 26 g (nI 0)) 27 g x) 18 2 (S.1 18 2) = wI (wI (wI S 25 g (one g)) 26 g (nI 0)) 27 g x := by
        intro x
        refine Prod.ext ?_ rfl
        funext c
        show (if c = 18 then upd ((wI (wI (wI S 25 g (one g)) 26 g (nI 0)) 27 g x).1 18) 2 (S.1 18 2) else (wI (wI (wI S 25 g (one g)) 26 g (nI 0)) 27 g x).1 c) = _
        split
        · rename_i hc
          subst hc
          have : S.1 18 2 = (wI (wI (wI S 25 g (one g)) 26 g (nI 0)) 27 g x).1 18 2 := by simp (disch := omega) only [qlt, qb_some, qb_none, ↓qn_1, ↓qn_2, ↓qn_3, ↓qn_4, ↓qn_9, ↓qn_1000, ↓qn_low, qi_0, qi_1, qi_2, qi_3, qi_4, qi_5, qi_6, qi_7, qi_8, qi_9, qi_10, qi_11, qi_12, qi_13, qi_14, qi_15, qi_16, qi_17, qi_20, qi_24, qi_30, qi_31, qi_32, qi_60, qi_99, qi_100, qi_200, qi_1000, qi_3400, qi_4000, qi_of, pu_gI, pu_pI, nI_leI, nI_ltI, nI_eq, nI_add, pk_mul, pk_sub, pk_div, qw_s, qw_o, qw_l, qr_s, qr_o, qr_l, ql_i, ql_s, ql_o, pk_us, pk_un, pk_uLs, pk_uLn, if_pos, if_neg, if_true, if_false, ite_self, eq_self, Nat.zero_add, Nat.add_zero, qwr, not_true_eq_false, not_false_eq_true, Option.some.injEq, qe_gn0, qe_m1n, qe_gng, qe_ngn, qe_gm, qe_mg, qe_lm1, qe_lgn, qe_lem, qe_leg, qe_tm1, qe_tgn]
          rw [this]
          exact upd_id _ _
        · rfl
      unfold bX0_settle_62
      cases hj : jelx (S.1 19 g) <;> cases hs : slpx (S.1 19 g)
      · rw [hj] at k2 go
        rw [hs] at k3 go
        have gg := go (nI 1) (S.1 18 2) rfl rfl
        rw [self] at gg
        obtain ⟨S1, g1, g2, g3⟩ := gg
        simp only [Bool.false_eq_true, if_false] at k2 k3
        simp (disch := omega) only [qlt, qb_some, qb_none, ↓qn_1, ↓qn_2, ↓qn_3, ↓qn_4, ↓qn_9, ↓qn_1000, ↓qn_low, qi_0, qi_1, qi_2, qi_3, qi_4, qi_5, qi_6, qi_7, qi_8, qi_9, qi_10, qi_11, qi_12, qi_13, qi_14, qi_15, qi_16, qi_17, qi_20, qi_24, qi_30, qi_31, qi_32, qi_60, qi_99, qi_100, qi_200, qi_1000, qi_3400, qi_4000, qi_of, pu_gI, pu_pI, nI_leI, nI_ltI, nI_eq, nI_add, pk_mul, pk_sub, pk_div, qw_s, qw_o, qw_l, qr_s, qr_o, qr_l, ql_i, ql_s, ql_o, pk_us, pk_un, pk_uLs, pk_uLn, if_pos, if_neg, if_true, if_false, ite_self, eq_self, Nat.zero_add, Nat.add_zero, qwr, not_true_eq_false, not_false_eq_true, Option.some.injEq, qe_gn0, qe_m1n, qe_gng, qe_ngn, qe_gm, qe_mg, qe_lm1, qe_lgn, qe_lem, qe_leg, qe_tm1, qe_tgn, h0, E25, E26, E27, eone, k2, k3]
        exact ⟨S1, g1, FrQ_t (by have := fq (nI 1) (S.1 18 2); rw [self] at this; exact this) g2, g3⟩
      · rw [hj] at k2 go
        rw [hs] at k3 go
        obtain ⟨S1, g1, g2, g3⟩ := go (nI 1) (S.1 18 2 ||| one g) rfl rfl
        simp only [Bool.false_eq_true, if_false, if_true] at k2 k3
        simp (disch := omega) only [qlt, qb_some, qb_none, ↓qn_1, ↓qn_2, ↓qn_3, ↓qn_4, ↓qn_9, ↓qn_1000, ↓qn_low, qi_0, qi_1, qi_2, qi_3, qi_4, qi_5, qi_6, qi_7, qi_8, qi_9, qi_10, qi_11, qi_12, qi_13, qi_14, qi_15, qi_16, qi_17, qi_20, qi_24, qi_30, qi_31, qi_32, qi_60, qi_99, qi_100, qi_200, qi_1000, qi_3400, qi_4000, qi_of, pu_gI, pu_pI, nI_leI, nI_ltI, nI_eq, nI_add, pk_mul, pk_sub, pk_div, qw_s, qw_o, qw_l, qr_s, qr_o, qr_l, ql_i, ql_s, ql_o, pk_us, pk_un, pk_uLs, pk_uLn, if_pos, if_neg, if_true, if_false, ite_self, eq_self, Nat.zero_add, Nat.add_zero, qwr, not_true_eq_false, not_false_eq_true, Option.some.injEq, qe_gn0, qe_m1n, qe_gng, qe_ngn, qe_gm, qe_mg, qe_lm1, qe_lgn, qe_lem, qe_leg, qe_tm1, qe_tgn, h0, E25, E26, E27, eone, k2, k3]
        exact ⟨S1, g1, FrQ_t (fq _ _) g2, g3⟩
      · rw [hj] at k2 go
        rw [hs] at k3 go
        have gg := go (nI 2) (S.1 18 2) rfl rfl
        rw [self] at gg
        obtain ⟨S1, g1, g2, g3⟩ := gg
        simp only [Bool.false_eq_true, if_false, if_true] at k2 k3
        simp (disch := omega) only [qlt, qb_some, qb_none, ↓qn_1, ↓qn_2, ↓qn_3, ↓qn_4, ↓qn_9, ↓qn_1000, ↓qn_low, qi_0, qi_1, qi_2, qi_3, qi_4, qi_5, qi_6, qi_7, qi_8, qi_9, qi_10, qi_11, qi_12, qi_13, qi_14, qi_15, qi_16, qi_17, qi_20, qi_24, qi_30, qi_31, qi_32, qi_60, qi_99, qi_100, qi_200, qi_1000, qi_3400, qi_4000, qi_of, pu_gI, pu_pI, nI_leI, nI_ltI, nI_eq, nI_add, pk_mul, pk_sub, pk_div, qw_s, qw_o, qw_l, qr_s, qr_o, qr_l, ql_i, ql_s, ql_o, pk_us, pk_un, pk_uLs, pk_uLn, if_pos, if_neg, if_true, if_false, ite_self, eq_self, Nat.zero_add, Nat.add_zero, qwr, not_true_eq_false, not_false_eq_true, Option.some.injEq, qe_gn0, qe_m1n, qe_gng, qe_ngn, qe_gm, qe_mg, qe_lm1, qe_lgn, qe_lem, qe_leg, qe_tm1, qe_tgn, h0, E25, E26, E27, eone, k2, k3]
        exact ⟨S1, g1, FrQ_t (by have := fq (nI 2) (S.1 18 2); rw [self] at this; exact this) g2, g3⟩
      · rw [hj] at k2 go
        rw [hs] at k3 go
        obtain ⟨S1, g1, g2, g3⟩ := go (nI 2) (S.1 18 2 ||| one g) rfl rfl
        simp only [if_true] at k2 k3
        simp (disch := omega) only [qlt, qb_some, qb_none, ↓qn_1, ↓qn_2, ↓qn_3, ↓qn_4, ↓qn_9, ↓qn_1000, ↓qn_low, qi_0, qi_1, qi_2, qi_3, qi_4, qi_5, qi_6, qi_7, qi_8, qi_9, qi_10, qi_11, qi_12, qi_13, qi_14, qi_15, qi_16, qi_17, qi_20, qi_24, qi_30, qi_31, qi_32, qi_60, qi_99, qi_100, qi_200, qi_1000, qi_3400, qi_4000, qi_of, pu_gI, pu_pI, nI_leI, nI_ltI, nI_eq, nI_add, pk_mul, pk_sub, pk_div, qw_s, qw_o, qw_l, qr_s, qr_o, qr_l, ql_i, ql_s, ql_o, pk_us, pk_un, pk_uLs, pk_uLn, if_pos, if_neg, if_true, if_false, ite_self, eq_self, Nat.zero_add, Nat.add_zero, qwr, not_true_eq_false, not_false_eq_true, Option.some.injEq, qe_gn0, qe_m1n, qe_gng, qe_ngn, qe_gm, qe_mg, qe_lm1, qe_lgn, qe_lem, qe_leg, qe_tm1, qe_tgn, h0, E25, E26, E27, eone, k2, k3]
        exact ⟨S1, g1, FrQ_t (fq _ _) g2, g3⟩
