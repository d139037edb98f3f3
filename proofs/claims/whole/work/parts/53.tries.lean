/-! ===== PURE: scratch worlds, numbers in a row, tries ===== -/
theorem Rel_scr {S S' T T' : vS} (R : Rel S T) (hS : ∀ c, (c < 17 ∨ (30 ≤ c ∧ c < 95) ∨ c = 134) → S'.1 c = S.1 c) (hS2 : S'.2 = S.2)
    (h0 : T'.1 0 0 = T.1 0 0) (h2 : T'.1 0 2 = T.1 0 2) (h10 : T'.1 0 10 = T.1 0 10) (h34 : T'.1 0 34 = T.1 0 34) (hT : ∀ c, ((1 ≤ c ∧ c ≤ 7 ∧ c ≠ 4) ∨ (12 ≤ c ∧ c ≤ 16)) → T'.1 c = T.1 c) (hf : fr T' 0 = fr T 0) (hT2 : T'.2 = T.2) : Rel S' T' :=
  Rel_vil R ⟨fun c hc => hS c (by omega), hS 134 (by omega), hS2⟩ ⟨h0, h2, hT 1 (by omega), hT 2 (by omega), hT 3 (by omega), hT 5 (by omega), hT 6 (by omega), hT2⟩ (RV_eq (fun c h1 h2 => hS c (by omega)) h10 h34 (hT 7 (by omega)) hf (hT 12 (by omega)) (hT 13 (by omega)) (hT 14 (by omega)) (hT 15 (by omega)) (hT 16 (by omega)) R.2.2.2.2)
/-- an object row that differs in what a day tells alone -/
def okO (T : vS) (o : Nat → Int32) : Prop := ∀ p, p ≠ 20 → p ≠ 21 → p ≠ 22 → o p = T.1 0 p
theorem okO_id (T : vS) : okO T (T.1 0) := fun _ _ _ _ => rfl
theorem okO_22 {T : vS} {o : Nat → Int32} {x : Int32} (h : okO T o) : okO T (upd o 22 x) := fun p h1 h2 h3 => by rw [pk_un h3]; exact h p h1 h2 h3
theorem okO_sO {T : vS} {o : Nat → Int32} {A B : Nat} (h : okO T o) : okO T (sO o A B) := fun p h1 h2 h3 => by rw [sO_o h1 h2]; exact h p h1 h2 h3
theorem Rel_try {S T : vS} {o s F A B C D : Nat → Int32} (R : Rel S T) (ho : okO T o) : Rel (mk4 S 129 A B C D) (mk3 T o (putF (T.1 10) 1 F) s) := by
  refine Rel_scr R (fun c hc => mk4_o (by omega)) rfl (ho 0 (by decide) (by decide) (by decide)) (ho 2 (by decide) (by decide) (by decide)) (ho 10 (by decide) (by decide) (by decide)) (ho 34 (by decide) (by decide) (by decide)) (fun c hc => mk3_o (by omega) (by omega) (by omega)) ?_ rfl
  show frA (putF (T.1 10) 1 F) 0 = _
  exact frA_puto (by decide)
theorem copyV7 {T : vS} {o a s : Nat → Int32} {p q : Nat} (hp : p < 6) (hq : q < 6) (hpq : p ≠ q) : mX7_copyValley (mk3 T o a s) (nI p) (nI q) = some (mk3 T o (putF a q (frA a p)) s) := by
  have h := lp_fill0 (fun n U j => lX7_copyValley_2 (nI p) (nI q) n U j) (mk3 T o a s) 10 (15 * q) 15 (fun i => a (15 * p + i)) some
    (by intro n f hf; show lX7_copyValley_2 (nI p) (nI q) (n + 1) _ (nI 15) = _; rw [lX7_copyValley_2]; simp (disch := omega) only [qlt, qb_some, qb_none, ↓qn_1, ↓qn_2, ↓qn_3, ↓qn_4, ↓qn_9, ↓qn_1000, ↓qn_low, qi_0, qi_1, qi_2, qi_3, qi_4, qi_5, qi_6, qi_7, qi_8, qi_9, qi_10, qi_11, qi_12, qi_13, qi_14, qi_15, qi_16, qi_17, qi_20, qi_24, qi_30, qi_31, qi_32, qi_60, qi_99, qi_100, qi_200, qi_1000, qi_3400, qi_4000, qi_of, pu_gI, pu_pI, nI_leI, nI_ltI, nI_eq, nI_add, pk_mul, pk_sub, pk_div, qw_s, qw_o, qw_l, qr_s, qr_o, qr_l, ql_i, ql_s, ql_o, pk_us, pk_un, pk_uLs, pk_uLn, if_pos, if_neg, if_true, if_false, ite_self, eq_self, Nat.zero_add, Nat.add_zero, qwr, not_true_eq_false, not_false_eq_true, Option.some.injEq, qe_gn0, qe_m1n, qe_gng, qe_ngn, qe_gm, qe_mg, qe_lm1, qe_lgn, qe_lem, qe_leg, qe_tm1, qe_tgn])
    (by
      intro n f j hj hf
      show lX7_copyValley_2 (nI p) (nI q) (n + 1) _ (nI j) = _
      rw [lX7_copyValley_2]
      have e1 : f (15 * p + j) = a (15 * p + j) := hf _ (by omega)
      unfold mX7_v mX7_place
      simp (disch := omega) only [qlt, qb_some, qb_none, ↓qn_1, ↓qn_2, ↓qn_3, ↓qn_4, ↓qn_9, ↓qn_1000, ↓qn_low, qi_0, qi_1, qi_2, qi_3, qi_4, qi_5, qi_6, qi_7, qi_8, qi_9, qi_10, qi_11, qi_12, qi_13, qi_14, qi_15, qi_16, qi_17, qi_20, qi_24, qi_30, qi_31, qi_32, qi_60, qi_99, qi_100, qi_200, qi_1000, qi_3400, qi_4000, qi_of, pu_gI, pu_pI, nI_leI, nI_ltI, nI_eq, nI_add, pk_mul, pk_sub, pk_div, qw_s, qw_o, qw_l, qr_s, qr_o, qr_l, ql_i, ql_s, ql_o, pk_us, pk_un, pk_uLs, pk_uLn, if_pos, if_neg, if_true, if_false, ite_self, eq_self, Nat.zero_add, Nat.add_zero, qwr, not_true_eq_false, not_false_eq_true, Option.some.injEq, qe_gn0, qe_m1n, qe_gng, qe_ngn, qe_gm, qe_mg, qe_lm1, qe_lgn, qe_lem, qe_leg, qe_tm1, qe_tgn, e1]) (by unfold FU; omega)
  unfold mX7_copyValley
  rw [qi_0]
  refine h.trans ?_
  congr 1
  refine Prod.ext ?_ rfl
  funext c
  show (if c = 10 then _ else (mk3 T o a s).1 c) = (mk3 T o (putF a q (frA a p)) s).1 c
  by_cases hc : c = 10
  · subst hc
    rw [if_pos rfl]
    show _ = putF a q (frA a p)
    funext i
    unfold putF frA
    by_cases hi : 15 * q ≤ i ∧ i < 15 * q + 15
    · rw [if_pos hi, if_pos hi, if_pos (by omega)]
    · rw [if_neg hi, if_neg hi]
      rfl
  · rw [if_neg hc]
    show (if c = 0 then o else if c = 10 then a else if c = 11 then s else T.1 c) = if c = 0 then o else if c = 10 then putF a q (frA a p) else if c = 11 then s else T.1 c
    rw [if_neg hc, if_neg hc]
/-! numbers of offerings -/
def vld (n : Nat) (x : Int32) : Prop := ∃ d, d < 13 ∧ (d = 12 ∨ d < 3 * n) ∧ x = nI d
theorem vld_y {S T : vS} {n : Nat} (h : S.1 (30 + 1) 0 = nI n) (h10 : T.1 0 10 = nI n) (hn : n ≤ 4) {x : Int32} (hv : vld n x) : mX0_hasNumber S (30 + 1) x = nI 1 ∧ mX7_isNumber T x = nI 1 := by
  obtain ⟨d, hd, hd2, rfl⟩ := hv
  rw [num6 h hn (by omega), m7_num h10 hn (by omega), if_pos hd2]
  exact ⟨rfl, rfl⟩
theorem vld_n {S T : vS} {n : Nat} (h : S.1 (30 + 1) 0 = nI n) (h10 : T.1 0 10 = nI n) (hn : n ≤ 4) {x : Int32} (hv : ¬ vld n x) : mX0_hasNumber S (30 + 1) x = nI 0 ∧ mX7_isNumber T x = nI 0 := by
  rcases num_or h h10 hn x with hh | ⟨d, hd, hd2, rfl, _⟩
  · exact hh
  · exact absurd ⟨d, hd, hd2, rfl⟩ hv
section HN
variable {S T : vS} {n r m : Nat}
theorem hn6_y (h : S.1 (30 + 1) 0 = nI n) (h10 : T.1 0 10 = nI n) (hn : n ≤ 4) (hr : r < 6) (hs : S.1 (1 + 2 + 6) r = nI m) (hm : m ≤ 60) (hv : ∀ i, i < m → vld n (S.1 (1 + 2 + r) i)) : ∀ q j, j ≤ m → m - j < q → lX6_holdsNumbersOnly_2 S (nI r) q (nI j) = some (nI 1) := by
  intro q
  induction q with
  | zero => intro j h1 h2; omega
  | succ q ih =>
    intro j h1 h2
    rw [lX6_holdsNumbersOnly_2]
    by_cases hj : j = m
    · subst hj
      simp (disch := omega) only [qlt, qb_some, qb_none, ↓qn_1, ↓qn_2, ↓qn_3, ↓qn_4, ↓qn_9, ↓qn_1000, ↓qn_low, qi_0, qi_1, qi_2, qi_3, qi_4, qi_5, qi_6, qi_7, qi_8, qi_9, qi_10, qi_11, qi_12, qi_13, qi_14, qi_15, qi_16, qi_17, qi_20, qi_24, qi_30, qi_31, qi_32, qi_60, qi_99, qi_100, qi_200, qi_1000, qi_3400, qi_4000, qi_of, pu_gI, pu_pI, nI_leI, nI_ltI, nI_eq, nI_add, pk_mul, pk_sub, pk_div, qw_s, qw_o, qw_l, qr_s, qr_o, qr_l, ql_i, ql_s, ql_o, pk_us, pk_un, pk_uLs, pk_uLn, if_pos, if_neg, if_true, if_false, ite_self, eq_self, Nat.zero_add, Nat.add_zero, qwr, not_true_eq_false, not_false_eq_true, Option.some.injEq, qe_gn0, qe_m1n, qe_gng, qe_ngn, qe_gm, qe_mg, qe_lm1, qe_lgn, qe_lem, qe_leg, qe_tm1, qe_tgn, size_y hr (show 6 < 2 ^ 31 by decide) hs hm]
    · have hjm : j < m := by omega
      simp (disch := omega) only [qlt, qb_some, qb_none, ↓qn_1, ↓qn_2, ↓qn_3, ↓qn_4, ↓qn_9, ↓qn_1000, ↓qn_low, qi_0, qi_1, qi_2, qi_3, qi_4, qi_5, qi_6, qi_7, qi_8, qi_9, qi_10, qi_11, qi_12, qi_13, qi_14, qi_15, qi_16, qi_17, qi_20, qi_24, qi_30, qi_31, qi_32, qi_60, qi_99, qi_100, qi_200, qi_1000, qi_3400, qi_4000, qi_of, pu_gI, pu_pI, nI_leI, nI_ltI, nI_eq, nI_add, pk_mul, pk_sub, pk_div, qw_s, qw_o, qw_l, qr_s, qr_o, qr_l, ql_i, ql_s, ql_o, pk_us, pk_un, pk_uLs, pk_uLn, if_pos, if_neg, if_true, if_false, ite_self, eq_self, Nat.zero_add, Nat.add_zero, qwr, not_true_eq_false, not_false_eq_true, Option.some.injEq, qe_gn0, qe_m1n, qe_gng, qe_ngn, qe_gm, qe_mg, qe_lm1, qe_lgn, qe_lem, qe_leg, qe_tm1, qe_tgn, size_y hr (show 6 < 2 ^ 31 by decide) hs hm, read_y hr (show 6 < 2 ^ 31 by decide) hs hm hjm, (vld_y h h10 hn (hv j hjm)).1]
      exact ih (j + 1) (by omega) (by omega)
theorem hn6_n (h : S.1 (30 + 1) 0 = nI n) (h10 : T.1 0 10 = nI n) (hn : n ≤ 4) (hr : r < 6) (hs : S.1 (1 + 2 + 6) r = nI m) (hm : m ≤ 60) : ∀ q j, j ≤ m → m - j < q → (¬ ∀ i, j ≤ i → i < m → vld n (S.1 (1 + 2 + r) i)) → lX6_holdsNumbersOnly_2 S (nI r) q (nI j) = some (nI 0) := by
  intro q
  induction q with
  | zero => intro j h1 h2; omega
  | succ q ih =>
    intro j h1 h2 hv
    rw [lX6_holdsNumbersOnly_2]
    by_cases hj : j = m
    · exact absurd (fun i h3 h4 => absurd h4 (by omega)) hv
    · have hjm : j < m := by omega
      by_cases hvj : vld n (S.1 (1 + 2 + r) j)
      · simp (disch := omega) only [qlt, qb_some, qb_none, ↓qn_1, ↓qn_2, ↓qn_3, ↓qn_4, ↓qn_9, ↓qn_1000, ↓qn_low, qi_0, qi_1, qi_2, qi_3, qi_4, qi_5, qi_6, qi_7, qi_8, qi_9, qi_10, qi_11, qi_12, qi_13, qi_14, qi_15, qi_16, qi_17, qi_20, qi_24, qi_30, qi_31, qi_32, qi_60, qi_99, qi_100, qi_200, qi_1000, qi_3400, qi_4000, qi_of, pu_gI, pu_pI, nI_leI, nI_ltI, nI_eq, nI_add, pk_mul, pk_sub, pk_div, qw_s, qw_o, qw_l, qr_s, qr_o, qr_l, ql_i, ql_s, ql_o, pk_us, pk_un, pk_uLs, pk_uLn, if_pos, if_neg, if_true, if_false, ite_self, eq_self, Nat.zero_add, Nat.add_zero, qwr, not_true_eq_false, not_false_eq_true, Option.some.injEq, qe_gn0, qe_m1n, qe_gng, qe_ngn, qe_gm, qe_mg, qe_lm1, qe_lgn, qe_lem, qe_leg, qe_tm1, qe_tgn, size_y hr (show 6 < 2 ^ 31 by decide) hs hm, read_y hr (show 6 < 2 ^ 31 by decide) hs hm hjm, (vld_y h h10 hn hvj).1]
        refine ih (j + 1) (by omega) (by omega) (fun hall => hv (fun i h3 h4 => ?_))
        by_cases hij : i = j
        · subst hij; exact hvj
        · exact hall i (by omega) h4
      · simp (disch := omega) only [qlt, qb_some, qb_none, ↓qn_1, ↓qn_2, ↓qn_3, ↓qn_4, ↓qn_9, ↓qn_1000, ↓qn_low, qi_0, qi_1, qi_2, qi_3, qi_4, qi_5, qi_6, qi_7, qi_8, qi_9, qi_10, qi_11, qi_12, qi_13, qi_14, qi_15, qi_16, qi_17, qi_20, qi_24, qi_30, qi_31, qi_32, qi_60, qi_99, qi_100, qi_200, qi_1000, qi_3400, qi_4000, qi_of, pu_gI, pu_pI, nI_leI, nI_ltI, nI_eq, nI_add, pk_mul, pk_sub, pk_div, qw_s, qw_o, qw_l, qr_s, qr_o, qr_l, ql_i, ql_s, ql_o, pk_us, pk_un, pk_uLs, pk_uLn, if_pos, if_neg, if_true, if_false, ite_self, eq_self, Nat.zero_add, Nat.add_zero, qwr, not_true_eq_false, not_false_eq_true, Option.some.injEq, qe_gn0, qe_m1n, qe_gng, qe_ngn, qe_gm, qe_mg, qe_lm1, qe_lgn, qe_lem, qe_leg, qe_tm1, qe_tgn, size_y hr (show 6 < 2 ^ 31 by decide) hs hm, read_y hr (show 6 < 2 ^ 31 by decide) hs hm hjm, (vld_n h h10 hn hvj).1]
theorem np7_y (h : S.1 (30 + 1) 0 = nI n) (h10 : T.1 0 10 = nI n) (hn : n ≤ 4) (hr : r < 6) (hs : T.1 2 r = nI m) (hm : m ≤ 60) (hv : ∀ i, i < m → vld n (T.1 3 (60 * r + i))) : ∀ q j, j ≤ m → m - j < q → lX7_needPlan_36 T (nI r) q (nI 1) (nI j) = some (nI 0, T) := by
  intro q
  induction q with
  | zero => intro j h1 h2; omega
  | succ q ih =>
    intro j h1 h2
    rw [lX7_needPlan_36]
    unfold bX7_needPlan_75 bX7_needPlan_67 bX7_needPlan_68 mX7_rowAt
    by_cases hj : j = m
    · subst hj
      simp (disch := omega) only [qlt, qb_some, qb_none, ↓qn_1, ↓qn_2, ↓qn_3, ↓qn_4, ↓qn_9, ↓qn_1000, ↓qn_low, qi_0, qi_1, qi_2, qi_3, qi_4, qi_5, qi_6, qi_7, qi_8, qi_9, qi_10, qi_11, qi_12, qi_13, qi_14, qi_15, qi_16, qi_17, qi_20, qi_24, qi_30, qi_31, qi_32, qi_60, qi_99, qi_100, qi_200, qi_1000, qi_3400, qi_4000, qi_of, pu_gI, pu_pI, nI_leI, nI_ltI, nI_eq, nI_add, pk_mul, pk_sub, pk_div, qw_s, qw_o, qw_l, qr_s, qr_o, qr_l, ql_i, ql_s, ql_o, pk_us, pk_un, pk_uLs, pk_uLn, if_pos, if_neg, if_true, if_false, ite_self, eq_self, Nat.zero_add, Nat.add_zero, qwr, not_true_eq_false, not_false_eq_true, Option.some.injEq, qe_gn0, qe_m1n, qe_gng, qe_ngn, qe_gm, qe_mg, qe_lm1, qe_lgn, qe_lem, qe_leg, qe_tm1, qe_tgn, hs]
    · have hjm : j < m := by omega
      simp (disch := omega) only [qlt, qb_some, qb_none, ↓qn_1, ↓qn_2, ↓qn_3, ↓qn_4, ↓qn_9, ↓qn_1000, ↓qn_low, qi_0, qi_1, qi_2, qi_3, qi_4, qi_5, qi_6, qi_7, qi_8, qi_9, qi_10, qi_11, qi_12, qi_13, qi_14, qi_15, qi_16, qi_17, qi_20, qi_24, qi_30, qi_31, qi_32, qi_60, qi_99, qi_100, qi_200, qi_1000, qi_3400, qi_4000, qi_of, pu_gI, pu_pI, nI_leI, nI_ltI, nI_eq, nI_add, pk_mul, pk_sub, pk_div, qw_s, qw_o, qw_l, qr_s, qr_o, qr_l, ql_i, ql_s, ql_o, pk_us, pk_un, pk_uLs, pk_uLn, if_pos, if_neg, if_true, if_false, ite_self, eq_self, Nat.zero_add, Nat.add_zero, qwr, not_true_eq_false, not_false_eq_true, Option.some.injEq, qe_gn0, qe_m1n, qe_gng, qe_ngn, qe_gm, qe_mg, qe_lm1, qe_lgn, qe_lem, qe_leg, qe_tm1, qe_tgn, hs, (vld_y h h10 hn (hv j hjm)).2]
      exact ih (j + 1) (by omega) (by omega)
theorem np7_0 (hr : r < 6) (hs : T.1 2 r = nI m) (hm : m ≤ 60) : ∀ q j, j ≤ m → m - j < q → lX7_needPlan_36 T (nI r) q (nI 0) (nI j) = some (q3, fT T 3) := by
  intro q
  induction q with
  | zero => intro j h1 h2; omega
  | succ q ih =>
    intro j h1 h2
    rw [lX7_needPlan_36]
    unfold bX7_needPlan_75 bX7_needPlan_67 bX7_needPlan_68
    by_cases hj : j = m
    · subst hj
      simp (disch := omega) only [qlt, qb_some, qb_none, ↓qn_1, ↓qn_2, ↓qn_3, ↓qn_4, ↓qn_9, ↓qn_1000, ↓qn_low, qi_0, qi_1, qi_2, qi_3, qi_4, qi_5, qi_6, qi_7, qi_8, qi_9, qi_10, qi_11, qi_12, qi_13, qi_14, qi_15, qi_16, qi_17, qi_20, qi_24, qi_30, qi_31, qi_32, qi_60, qi_99, qi_100, qi_200, qi_1000, qi_3400, qi_4000, qi_of, pu_gI, pu_pI, nI_leI, nI_ltI, nI_eq, nI_add, pk_mul, pk_sub, pk_div, qw_s, qw_o, qw_l, qr_s, qr_o, qr_l, ql_i, ql_s, ql_o, pk_us, pk_un, pk_uLs, pk_uLn, if_pos, if_neg, if_true, if_false, ite_self, eq_self, Nat.zero_add, Nat.add_zero, qwr, not_true_eq_false, not_false_eq_true, Option.some.injEq, qe_gn0, qe_m1n, qe_gng, qe_ngn, qe_gm, qe_mg, qe_lm1, qe_lgn, qe_lem, qe_leg, qe_tm1, qe_tgn, hs, qf_meets]
    · simp (disch := omega) only [qlt, qb_some, qb_none, ↓qn_1, ↓qn_2, ↓qn_3, ↓qn_4, ↓qn_9, ↓qn_1000, ↓qn_low, qi_0, qi_1, qi_2, qi_3, qi_4, qi_5, qi_6, qi_7, qi_8, qi_9, qi_10, qi_11, qi_12, qi_13, qi_14, qi_15, qi_16, qi_17, qi_20, qi_24, qi_30, qi_31, qi_32, qi_60, qi_99, qi_100, qi_200, qi_1000, qi_3400, qi_4000, qi_of, pu_gI, pu_pI, nI_leI, nI_ltI, nI_eq, nI_add, pk_mul, pk_sub, pk_div, qw_s, qw_o, qw_l, qr_s, qr_o, qr_l, ql_i, ql_s, ql_o, pk_us, pk_un, pk_uLs, pk_uLn, if_pos, if_neg, if_true, if_false, ite_self, eq_self, Nat.zero_add, Nat.add_zero, qwr, not_true_eq_false, not_false_eq_true, Option.some.injEq, qe_gn0, qe_m1n, qe_gng, qe_ngn, qe_gm, qe_mg, qe_lm1, qe_lgn, qe_lem, qe_leg, qe_tm1, qe_tgn, hs]
      exact ih (j + 1) (by omega) (by omega)
theorem np7_n (h : S.1 (30 + 1) 0 = nI n) (h10 : T.1 0 10 = nI n) (hn : n ≤ 4) (hr : r < 6) (hs : T.1 2 r = nI m) (hm : m ≤ 60) : ∀ q j, j ≤ m → m - j < q → (¬ ∀ i, j ≤ i → i < m → vld n (T.1 3 (60 * r + i))) → lX7_needPlan_36 T (nI r) q (nI 1) (nI j) = some (q3, fT T 3) := by
  intro q
  induction q with
  | zero => intro j h1 h2; omega
  | succ q ih =>
    intro j h1 h2 hv
    rw [lX7_needPlan_36]
    unfold bX7_needPlan_75 bX7_needPlan_67 bX7_needPlan_68 mX7_rowAt
    by_cases hj : j = m
    · exact absurd (fun i h3 h4 => absurd h4 (by omega)) hv
    · have hjm : j < m := by omega
      by_cases hvj : vld n (T.1 3 (60 * r + j))
      · simp (disch := omega) only [qlt, qb_some, qb_none, ↓qn_1, ↓qn_2, ↓qn_3, ↓qn_4, ↓qn_9, ↓qn_1000, ↓qn_low, qi_0, qi_1, qi_2, qi_3, qi_4, qi_5, qi_6, qi_7, qi_8, qi_9, qi_10, qi_11, qi_12, qi_13, qi_14, qi_15, qi_16, qi_17, qi_20, qi_24, qi_30, qi_31, qi_32, qi_60, qi_99, qi_100, qi_200, qi_1000, qi_3400, qi_4000, qi_of, pu_gI, pu_pI, nI_leI, nI_ltI, nI_eq, nI_add, pk_mul, pk_sub, pk_div, qw_s, qw_o, qw_l, qr_s, qr_o, qr_l, ql_i, ql_s, ql_o, pk_us, pk_un, pk_uLs, pk_uLn, if_pos, if_neg, if_true, if_false, ite_self, eq_self, Nat.zero_add, Nat.add_zero, qwr, not_true_eq_false, not_false_eq_true, Option.some.injEq, qe_gn0, qe_m1n, qe_gng, qe_ngn, qe_gm, qe_mg, qe_lm1, qe_lgn, qe_lem, qe_leg, qe_tm1, qe_tgn, hs, (vld_y h h10 hn hvj).2]
        refine ih (j + 1) (by omega) (by omega) (fun hall => hv (fun i h3 h4 => ?_))
        by_cases hij : i = j
        · subst hij; exact hvj
        · exact hall i (by omega) h4
      · simp (disch := omega) only [qlt, qb_some, qb_none, ↓qn_1, ↓qn_2, ↓qn_3, ↓qn_4, ↓qn_9, ↓qn_1000, ↓qn_low, qi_0, qi_1, qi_2, qi_3, qi_4, qi_5, qi_6, qi_7, qi_8, qi_9, qi_10, qi_11, qi_12, qi_13, qi_14, qi_15, qi_16, qi_17, qi_20, qi_24, qi_30, qi_31, qi_32, qi_60, qi_99, qi_100, qi_200, qi_1000, qi_3400, qi_4000, qi_of, pu_gI, pu_pI, nI_leI, nI_ltI, nI_eq, nI_add, pk_mul, pk_sub, pk_div, qw_s, qw_o, qw_l, qr_s, qr_o, qr_l, ql_i, ql_s, ql_o, pk_us, pk_un, pk_uLs, pk_uLn, if_pos, if_neg, if_true, if_false, ite_self, eq_self, Nat.zero_add, Nat.add_zero, qwr, not_true_eq_false, not_false_eq_true, Option.some.injEq, qe_gn0, qe_m1n, qe_gng, qe_ngn, qe_gm, qe_mg, qe_lm1, qe_lgn, qe_lem, qe_leg, qe_tm1, qe_tgn, hs, (vld_n h h10 hn hvj).2]
        exact np7_0 hr hs hm q (j + 1) (by omega) (by omega)
end HN
/-! the trial -/
def fsA (A : Nat → Int32) : Nat → Int32 := upd (upd (upd A 3 (nI 0)) 4 (nI 0)) 5 (nI 0)
theorem fsA_o {A : Nat → Int32} {i : Nat} (h3 : i ≠ 3) (h4 : i ≠ 4) (h5 : i ≠ 5) : fsA A i = A i := by
  unfold fsA
  rw [pk_un h5, pk_un h4, pk_un h3]
theorem fsA_3 {A : Nat → Int32} : fsA A 3 = nI 0 := by
  unfold fsA
  rw [pk_un (by decide), pk_un (by decide), pk_us]
theorem fsA_4 {A : Nat → Int32} : fsA A 4 = nI 0 := by
  unfold fsA
  rw [pk_un (by decide), pk_us]
theorem fsA_5 {A : Nat → Int32} : fsA A 5 = nI 0 := pk_us
theorem ScR_fs {S : vS} {k n : Nat} {A B C D F : Nat → Int32} (hS : ScR (mk4 S k A B C D) k n F) : ScR (mk4 S k (fsA A) B C D) k n F := by
  obtain ⟨s1, s2, s4, s5, s6⟩ := hS
  rw [mk4_0] at s1 s2 s4
  rw [mk4_1] at s5
  rw [mk4_2] at s6
  refine ⟨?_, ?_, ?_, ?_, ?_⟩
  · rw [mk4_0, fsA_o (by decide) (by decide) (by decide)]; exact s1
  · rw [mk4_0, fsA_o (by decide) (by decide) (by decide)]; exact s2
  · rw [mk4_0, fsA_o (by decide) (by decide) (by decide)]; exact s4
  · rw [mk4_1]; exact s5
  · rw [mk4_2]; exact s6
/-- the trial begins as the village is -/
theorem start6 {S : vS} {A B C D : Nat → Int32} : mX6_startTrial (mk4 S 129 A B C D) = some (mk4 S 129 (fsA (tA A (S.1 (30 + 11)))) (tM 3 B (S.1 (30 + 11 + 1))) (tM 4 C (S.1 (30 + 11 + 2))) D) := by
  unfold mX6_startTrial mX3_forgetSums
  simp (disch := omega) only [qlt, qb_some, qb_none, ↓qn_1, ↓qn_2, ↓qn_3, ↓qn_4, ↓qn_9, ↓qn_1000, ↓qn_low, qi_0, qi_1, qi_2, qi_3, qi_4, qi_5, qi_6, qi_7, qi_8, qi_9, qi_10, qi_11, qi_12, qi_13, qi_14, qi_15, qi_16, qi_17, qi_20, qi_24, qi_30, qi_31, qi_32, qi_60, qi_99, qi_100, qi_200, qi_1000, qi_3400, qi_4000, qi_of, pu_gI, pu_pI, nI_leI, nI_ltI, nI_eq, nI_add, pk_mul, pk_sub, pk_div, qw_s, qw_o, qw_l, qr_s, qr_o, qr_l, ql_i, ql_s, ql_o, pk_us, pk_un, pk_uLs, pk_uLn, if_pos, if_neg, if_true, if_false, ite_self, eq_self, Nat.zero_add, Nat.add_zero, qwr, not_true_eq_false, not_false_eq_true, Option.some.injEq, qe_gn0, qe_m1n, qe_gng, qe_ngn, qe_gm, qe_mg, qe_lm1, qe_lgn, qe_lem, qe_leg, qe_tm1, qe_tgn, take3 (show 129 + 3 < 30 + 11 ∨ 30 + 11 + 3 < 129 by omega), mk4_w0]
  rfl
/-- both trials are alike: frame F, GOOD g, HARM h -/
def TrR (S : vS) (A B C D : Nat → Int32) (n : Nat) (F : Nat → Int32) (g h : Nat) : Prop := ScR (mk4 S 129 A B C D) 129 n F ∧ A 3 = nI g ∧ A 4 = nI h
theorem TrR_0 {S : vS} {n : Nat} {A B C D F : Nat → Int32} (hn : n ≤ 4) (hS : ScR S (30 + 11) n F) : TrR S (fsA (tA A (S.1 (30 + 11)))) (tM 3 B (S.1 (30 + 11 + 1))) (tM 4 C (S.1 (30 + 11 + 2))) D n F 0 0 :=
  ⟨ScR_fs (ScR_take hn hS), fsA_3, fsA_4⟩
theorem TrR_s {S : vS} {n d g h : Nat} {A B C D G F : Nat → Int32} (hn : n ≤ 4) (R : TrR S A B C D n F g h) : TrR S (sA A G n F d) (sB B G n F d) (CC C G F n d n) (DD D G n F d n) n (dyF G n F d) (g + gsD G n F d) (h + hsD G n F d) := by
  obtain ⟨a1, a2, a3⟩ := R
  exact ⟨ScR_day hn a1, by rw [sA_3, a2, nI_add], by rw [sA_4, a3, nI_add]⟩
theorem i32_s (a b c d : Nat) : nI a - nI b + (nI c - nI d) = nI (a + c) - nI (b + d) := by
  rw [← nI_add, ← nI_add]
  grind
theorem tries_l {S T : vS} {n r m : Nat} (R : Rel S T) (hn : n ≤ 4) (h10 : T.1 0 10 = nI n) (hG : GodR S (30 + 1) n (T.1 7)) (hGI : GInv n (T.1 7)) (hr : r < 6) (hs6 : S.1 (1 + 2 + 6) r = nI m) (hs7 : T.1 2 r = nI m) (hm : m ≤ 30) (hrow : ∀ i, i < m → S.1 (1 + 2 + r) i = T.1 3 (60 * r + i)) (hv : ∀ i, i < m → vld n (T.1 3 (60 * r + i))) :
    ∀ q j A B C D o s F g h e, j ≤ m → m - j < q → TrR S A B C D n F g h → FInv n F → cut F → F 14 = nI e → e + (m - j) < 1000 → okO T o →
    ∃ (x : Int32 × vS) (t : Int32 × vS), lX6_tries_81 (nI r) q (mk4 S 129 A B C D) (nI j) (nI j) = some x ∧ lX7_tries_42 (nI r) q (mk3 T o (putF (T.1 10) 1 F) s) (nI j) (nI g - nI h) = some t ∧ x.1 = t.1 ∧ Rel x.2 t.2 := by
  intro q
  induction q with
  | zero => intro j A B C D o s F g h e h1 h2; omega
  | succ q ih =>
    intro j A B C D o s F g h e h1 h2 hT hF hc h14 he ho
    rw [lX6_tries_81, lX7_tries_42]
    have hs6' : (mk4 S 129 A B C D).1 (1 + 2 + 6) r = nI m := by rw [mk4_o (by omega)]; exact hs6
    have fin : ∀ (A B C D o s F : Nat → Int32) (g h : Nat), TrR S A B C D n F g h → okO T o → ∃ (x : Int32 × vS) (t : Int32 × vS), bX6_tries_131 (mk4 S 129 A B C D) (nI j) = some x ∧ bX7_tries_81 (mk3 T o (putF (T.1 10) 1 F) s) (nI j) (nI g - nI h) = some t ∧ x.1 = t.1 ∧ Rel x.2 t.2 := by
      intro A B C D o s F g h hT ho
      unfold bX6_tries_131 bX7_tries_81 mX6_tell mX7_tells mX3_worth
      simp (disch := omega) only [qlt, qb_some, qb_none, ↓qn_1, ↓qn_2, ↓qn_3, ↓qn_4, ↓qn_9, ↓qn_1000, ↓qn_low, qi_0, qi_1, qi_2, qi_3, qi_4, qi_5, qi_6, qi_7, qi_8, qi_9, qi_10, qi_11, qi_12, qi_13, qi_14, qi_15, qi_16, qi_17, qi_20, qi_24, qi_30, qi_31, qi_32, qi_60, qi_99, qi_100, qi_200, qi_1000, qi_3400, qi_4000, qi_of, pu_gI, pu_pI, nI_leI, nI_ltI, nI_eq, nI_add, pk_mul, pk_sub, pk_div, qw_s, qw_o, qw_l, qr_s, qr_o, qr_l, ql_i, ql_s, ql_o, pk_us, pk_un, pk_uLs, pk_uLn, if_pos, if_neg, if_true, if_false, ite_self, eq_self, Nat.zero_add, Nat.add_zero, qwr, not_true_eq_false, not_false_eq_true, Option.some.injEq, qe_gn0, qe_m1n, qe_gng, qe_ngn, qe_gm, qe_mg, qe_lm1, qe_lgn, qe_lem, qe_leg, qe_tm1, qe_tgn, mk4_0, hT.2.1, hT.2.2]
      exact ⟨_, _, rfl, rfl, rfl, Rel_tell (Rel_try R ho) _⟩
    have h6 : 6 < 2 ^ 31 := by decide
    have hm60 : m ≤ 60 := by omega
    by_cases hj : j = m
    · subst hj
      simp (disch := omega) only [qlt, qb_some, qb_none, ↓qn_1, ↓qn_2, ↓qn_3, ↓qn_4, ↓qn_9, ↓qn_1000, ↓qn_low, qi_0, qi_1, qi_2, qi_3, qi_4, qi_5, qi_6, qi_7, qi_8, qi_9, qi_10, qi_11, qi_12, qi_13, qi_14, qi_15, qi_16, qi_17, qi_20, qi_24, qi_30, qi_31, qi_32, qi_60, qi_99, qi_100, qi_200, qi_1000, qi_3400, qi_4000, qi_of, pu_gI, pu_pI, nI_leI, nI_ltI, nI_eq, nI_add, pk_mul, pk_sub, pk_div, qw_s, qw_o, qw_l, qr_s, qr_o, qr_l, ql_i, ql_s, ql_o, pk_us, pk_un, pk_uLs, pk_uLn, if_pos, if_neg, if_true, if_false, ite_self, eq_self, Nat.zero_add, Nat.add_zero, qwr, not_true_eq_false, not_false_eq_true, Option.some.injEq, qe_gn0, qe_m1n, qe_gng, qe_ngn, qe_gm, qe_mg, qe_lm1, qe_lgn, qe_lem, qe_leg, qe_tm1, qe_tgn, size_y hr h6 hs6' hm60, mk3_o, hs7]
      exact fin A B C D o s F g h hT ho
    · have hjm : j < m := by omega
      obtain ⟨d, hd, hd2, hx⟩ := hv j hjm
      have hx6 : (mk4 S 129 A B C D).1 (1 + 2 + r) j = nI d := by rw [mk4_o (by omega), hrow j hjm, hx]
      have go6 := goOn6 (S := S) (k := 129) (k1 := 30 + 1) (A := A) (B := B) (C := C) (D := D) (d := d) (by omega) hn hG hGI hT.1 hF hd
      have ho10 : o 10 = nI n := by rw [ho 10 (by decide) (by decide) (by decide)]; exact h10
      have h16 : (1 : Nat) < 6 := by decide
      unfold mX7_rowAt
      cases hcan : canB (T.1 7) n F d
      · have go7 := goes7_n (T := T) (a := T.1 10) (s := s) hn ho10 h16 hc hF hd2 hcan
        rw [hcan] at go6
        unfold bX6_tries_119
        simp (disch := omega) only [qlt, qb_some, qb_none, ↓qn_1, ↓qn_2, ↓qn_3, ↓qn_4, ↓qn_9, ↓qn_1000, ↓qn_low, qi_0, qi_1, qi_2, qi_3, qi_4, qi_5, qi_6, qi_7, qi_8, qi_9, qi_10, qi_11, qi_12, qi_13, qi_14, qi_15, qi_16, qi_17, qi_20, qi_24, qi_30, qi_31, qi_32, qi_60, qi_99, qi_100, qi_200, qi_1000, qi_3400, qi_4000, qi_of, pu_gI, pu_pI, nI_leI, nI_ltI, nI_eq, nI_add, pk_mul, pk_sub, pk_div, qw_s, qw_o, qw_l, qr_s, qr_o, qr_l, ql_i, ql_s, ql_o, pk_us, pk_un, pk_uLs, pk_uLn, if_pos, if_neg, if_true, if_false, ite_self, eq_self, Nat.zero_add, Nat.add_zero, qwr, not_true_eq_false, not_false_eq_true, Option.some.injEq, qe_gn0, qe_m1n, qe_gng, qe_ngn, qe_gm, qe_mg, qe_lm1, qe_lgn, qe_lem, qe_leg, qe_tm1, qe_tgn, size_y hr h6 hs6' hm60, mk3_o, hs7, read_y hr h6 hs6' hm60 hjm, hx6, hx, go6, go7, Bool.false_eq_true]
        exact fin A B C D _ s F g h hT (okO_22 ho)
      · have go7 := goes7_y (T := T) (a := T.1 10) (s := s) hn ho10 hGI h16 hc hF hd2 hcan
        rw [hcan] at go6
        simp (disch := omega) only [qlt, qb_some, qb_none, ↓qn_1, ↓qn_2, ↓qn_3, ↓qn_4, ↓qn_9, ↓qn_1000, ↓qn_low, qi_0, qi_1, qi_2, qi_3, qi_4, qi_5, qi_6, qi_7, qi_8, qi_9, qi_10, qi_11, qi_12, qi_13, qi_14, qi_15, qi_16, qi_17, qi_20, qi_24, qi_30, qi_31, qi_32, qi_60, qi_99, qi_100, qi_200, qi_1000, qi_3400, qi_4000, qi_of, pu_gI, pu_pI, nI_leI, nI_ltI, nI_eq, nI_add, pk_mul, pk_sub, pk_div, qw_s, qw_o, qw_l, qr_s, qr_o, qr_l, ql_i, ql_s, ql_o, pk_us, pk_un, pk_uLs, pk_uLn, if_pos, if_neg, if_true, if_false, ite_self, eq_self, Nat.zero_add, Nat.add_zero, qwr, not_true_eq_false, not_false_eq_true, Option.some.injEq, qe_gn0, qe_m1n, qe_gng, qe_ngn, qe_gm, qe_mg, qe_lm1, qe_lgn, qe_lem, qe_leg, qe_tm1, qe_tgn, size_y hr h6 hs6' hm60, mk3_o, hs7, read_y hr h6 hs6' hm60 hjm, hx6, hx, go6, go7, mk3_0, sO_20, i32_s]
        exact ih (j + 1) _ _ _ _ _ _ _ _ _ (e + 1) (by omega) (by omega) (TrR_s hn hT) (FInv_day hn hF h14 (by omega) hd hcan) (cut_dy hc) (dy14 h14) (by omega) (okO_sO (okO_22 ho))
