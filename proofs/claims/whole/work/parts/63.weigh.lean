/-! ===== PURE: the class weighs a plan ===== -/
theorem foldl_snoc {α β : Type} (f : α → β → α) (a : α) (l : List β) (x : β) : (l ++ [x]).foldl f a = f (l.foldl f a) x := by
  rw [List.foldl_append]
  rfl
/-- what the class has found among the plans l of L days: A its object, B its best plan -/
def SmR (L : Nat) (A B : Nat → Int32) (l : List vP) : Prop :=
  A 6 = nI l.length ∧ A 7 = nI (l.filter hz).length ∧ ∀ x r, l = x :: r → A 8 = nI (bst x r).2.1 - nI (bst x r).2.2.1 ∧ A 9 = nI (hst x r).2.2.1 ∧ A 10 = nI (hst x r).2.1 ∧ A 11 = nI (cst x.2.2.2 r) ∧ ∀ i, i < L → B i = nI ((bst x r).1.getD i 0)
def WW (S : vS) (A B : Nat → Int32) : vS := wR (wR S 95 A) 118 B
theorem WW_95 {S : vS} {A B : Nat → Int32} : (WW S A B).1 95 = A := by
  unfold WW
  rw [qr_o (by decide), qr_s]
theorem WW_118 {S : vS} {A B : Nat → Int32} : (WW S A B).1 118 = B := qr_s _ _ _
theorem WW_o {S : vS} {A B : Nat → Int32} {c : Nat} (h1 : c ≠ 95) (h2 : c ≠ 118) : (WW S A B).1 c = S.1 c := by
  unfold WW
  rw [qr_o h2, qr_o h1]
theorem WW_w {S : vS} {A B : Nat → Int32} {j : Nat} {x : Int32} : wI (WW S A B) 95 j x = WW S (upd A j x) B := by
  refine Prod.ext ?_ rfl
  funext q
  show (if q = 95 then upd ((WW S A B).1 95) j x else (WW S A B).1 q) = (WW S (upd A j x) B).1 q
  by_cases h : q = 95
  · subst h
    rw [if_pos rfl, WW_95, WW_95]
  · rw [if_neg h]
    by_cases h2 : q = 118
    · subst h2; rw [WW_118, WW_118]
    · rw [WW_o h h2, WW_o h h2]
theorem WW_r {S : vS} {A B f : Nat → Int32} : wR (WW S A B) 118 f = WW S A f := by
  unfold WW
  rw [pu_wR_wR]
theorem WW_id (S : vS) : WW S (S.1 95) (S.1 118) = S := by
  unfold WW
  rw [pu_wR_self, pu_wR_self]
section WG
variable {S : vS} {L k : Nat} {g h c : Nat} {pre : List Nat}
/-- the scene at k holds what a plan brought, the numbers are the plan's -/
def EndR (S : vS) (k L g h c : Nat) (pre : List Nat) : Prop := k ≠ 95 ∧ k ≠ 118 ∧ S.1 k 3 = nI g ∧ S.1 k 4 = nI h ∧ S.1 k 5 = nI c ∧ g ≤ 1000 ∧ h ≤ 1000 ∧ c ≤ 1000 ∧ pre.length = L ∧ ∀ i, i < L → S.1 117 i = nI (pre.getD i 0)
theorem w131 (hE : EndR S k L g h c pre) (hL : L ≤ 4) {A B : Nat → Int32} : ∃ B', bX1_weigh_131 95 k (WW S A B) = some (WW S (upd A 8 (nI g - nI h)) B') ∧ ∀ i, i < L → B' i = nI (pre.getD i 0) := by
  obtain ⟨k1, k2, e3, e4, e5, b1, b2, b3, hp, hn⟩ := hE
  refine ⟨va_cpy (S.1 117) B 0 0 4, ?_, fun i hi => ?_⟩
  · unfold bX1_weigh_131 mX3_worth
    rw [WW_o k1 k2, e3, e4]
    have c1 : (95 + 22 : Nat) = 117 := rfl
    have c2 : (95 + 23 : Nat) = 118 := rfl
    rw [c1, c2]
    simp (disch := omega) only [qlt, qb_some, qb_none, ↓qn_1, ↓qn_2, ↓qn_3, ↓qn_4, ↓qn_9, ↓qn_1000, ↓qn_low, qi_0, qi_1, qi_2, qi_3, qi_4, qi_5, qi_6, qi_7, qi_8, qi_9, qi_10, qi_11, qi_12, qi_13, qi_14, qi_15, qi_16, qi_17, qi_20, qi_24, qi_30, qi_31, qi_32, qi_60, qi_99, qi_100, qi_200, qi_1000, qi_3400, qi_4000, qi_of, pu_gI, pu_pI, nI_leI, nI_ltI, nI_eq, nI_add, pk_mul, pk_div, qw_s, qw_o, qw_l, qr_s, qr_o, qr_l, ql_i, ql_s, ql_o, pk_us, pk_un, pk_uLs, pk_uLn, if_pos, if_neg, if_true, if_false, ite_self, eq_self, Nat.zero_add, Nat.add_zero, qwr, not_true_eq_false, not_false_eq_true, Option.some.injEq, qe_gn0, qe_m1n, qe_gng, qe_ngn, qe_gm, qe_mg, qe_lm1, qe_lgn, qe_lem, qe_leg, qe_tm1, qe_tgn, WW_w, cI_y, WW_118, WW_o, WW_r]
  · rw [pk_cpy_in (by omega) (by omega), show 0 + (i - 0) = i by omega]
    exact hn i hi
theorem w116_1 (hE : EndR S k L g h c pre) (hL : L ≤ 4) {A B : Nat → Int32} : ∃ B', bX1_weigh_116 95 k (WW S A B) (nI 1) = some (WW S (upd A 8 (nI g - nI h)) B') ∧ ∀ i, i < L → B' i = nI (pre.getD i 0) := by
  obtain ⟨B', e1, e2⟩ := w131 hE hL (A := A) (B := B)
  refine ⟨B', ?_, e2⟩
  unfold bX1_weigh_116
  simp (disch := omega) only [qlt, qb_some, qb_none, ↓qn_1, ↓qn_2, ↓qn_3, ↓qn_4, ↓qn_9, ↓qn_1000, ↓qn_low, qi_0, qi_1, qi_2, qi_3, qi_4, qi_5, qi_6, qi_7, qi_8, qi_9, qi_10, qi_11, qi_12, qi_13, qi_14, qi_15, qi_16, qi_17, qi_20, qi_24, qi_30, qi_31, qi_32, qi_60, qi_99, qi_100, qi_200, qi_1000, qi_3400, qi_4000, qi_of, pu_gI, pu_pI, nI_leI, nI_ltI, nI_eq, nI_add, pk_mul, pk_sub, pk_div, qw_s, qw_o, qw_l, qr_s, qr_o, qr_l, ql_i, ql_s, ql_o, pk_us, pk_un, pk_uLs, pk_uLn, if_pos, if_neg, if_true, if_false, ite_self, eq_self, Nat.zero_add, Nat.add_zero, qwr, not_true_eq_false, not_false_eq_true, Option.some.injEq, qe_gn0, qe_m1n, qe_gng, qe_ngn, qe_gm, qe_mg, qe_lm1, qe_lgn, qe_lem, qe_leg, qe_tm1, qe_tgn]
  exact e1
theorem w116_0 (hE : EndR S k L g h c pre) (hL : L ≤ 4) {A B : Nat → Int32} {y : vP} (hy : Bd L y) (h8 : A 8 = nI y.2.1 - nI y.2.2.1) (hB : ∀ i, i < L → B i = nI (y.1.getD i 0)) : ∃ A' B', bX1_weigh_116 95 k (WW S A B) (nI 0) = some (WW S A' B') ∧ (∀ i, i ≠ 8 → A' i = A i) ∧ A' 8 = nI (stM y (pre, (g, h, c))).2.1 - nI (stM y (pre, (g, h, c))).2.2.1 ∧ ∀ i, i < L → B' i = nI ((stM y (pre, (g, h, c))).1.getD i 0) := by
  obtain ⟨B2, f1, f2⟩ := w131 hE hL (A := A) (B := B)
  obtain ⟨k1, k2, e3, e4, e5, b1, b2, b3, hp, hn⟩ := hE
  obtain ⟨y1, y2, y3, y4⟩ := hy
  have hcmp : (nI g - nI h ≤ nI y.2.1 - nI y.2.2.1) = ((g : Int) - h ≤ (y.2.1 : Int) - y.2.2.1) := w_le b1 b2 y1 y2
  unfold bX1_weigh_116 mX3_worth
  simp only [qi_0, if_true]
  rw [WW_95, WW_o k1 k2, e3, e4, h8]
  simp only [hcmp]
  by_cases hw : (g : Int) - h ≤ (y.2.1 : Int) - y.2.2.1
  · have : stM y (pre, (g, h, c)) = y := if_neg (by show ¬ (y.2.1 : Int) - y.2.2.1 < (g : Int) - h; omega)
    rw [this, if_pos hw]
    exact ⟨A, B, rfl, fun _ _ => rfl, h8, hB⟩
  · have : stM y (pre, (g, h, c)) = (pre, (g, h, c)) := if_pos (by show (y.2.1 : Int) - y.2.2.1 < (g : Int) - h; omega)
    rw [this, if_neg hw]
    exact ⟨_, B2, f1, fun i hi => pk_un hi, pk_us, f2⟩
theorem w63_1 (hE : EndR S k L g h c pre) (hL : L ≤ 4) {A B : Nat → Int32} : ∃ A' B', bX1_weigh_63 95 k (WW S A B) (nI 1) = some (WW S A' B') ∧ (∀ i, i ≠ 8 → i ≠ 9 → i ≠ 10 → A' i = A i) ∧ A' 8 = nI g - nI h ∧ A' 9 = nI h ∧ A' 10 = nI g ∧ ∀ i, i < L → B' i = nI (pre.getD i 0) := by
  obtain ⟨B', f1, f2⟩ := w116_1 hE hL (A := upd (upd A 9 (nI h)) 10 (nI g)) (B := B)
  obtain ⟨k1, k2, e3, e4, e5, b1, b2, b3, hp, hn⟩ := hE
  refine ⟨upd (upd (upd A 9 (nI h)) 10 (nI g)) 8 (nI g - nI h), B', ?_, fun i i1 i2 i3 => ?_, pk_us, ?_, ?_, f2⟩
  · unfold bX1_weigh_63 bX1_weigh_100
    simp (disch := omega) only [qlt, qb_some, qb_none, ↓qn_1, ↓qn_2, ↓qn_3, ↓qn_4, ↓qn_9, ↓qn_1000, ↓qn_low, qi_0, qi_1, qi_2, qi_3, qi_4, qi_5, qi_6, qi_7, qi_8, qi_9, qi_10, qi_11, qi_12, qi_13, qi_14, qi_15, qi_16, qi_17, qi_20, qi_24, qi_30, qi_31, qi_32, qi_60, qi_99, qi_100, qi_200, qi_1000, qi_3400, qi_4000, qi_of, pu_gI, pu_pI, nI_leI, nI_ltI, nI_eq, nI_add, pk_mul, pk_sub, pk_div, qw_s, qw_o, qw_l, qr_s, qr_o, qr_l, ql_i, ql_s, ql_o, pk_us, pk_un, pk_uLs, pk_uLn, if_pos, if_neg, if_true, if_false, ite_self, eq_self, Nat.zero_add, Nat.add_zero, qwr, not_true_eq_false, not_false_eq_true, Option.some.injEq, qe_gn0, qe_m1n, qe_gng, qe_ngn, qe_gm, qe_mg, qe_lm1, qe_lgn, qe_lem, qe_leg, qe_tm1, qe_tgn, WW_w, WW_o, e4, e3]
    exact f1
  · rw [pk_un i1, pk_un i3, pk_un i2]
  · rw [pk_un (by decide), pk_un (by decide), pk_us]
  · rw [pk_un (by decide), pk_us]
theorem w63_0 (hE : EndR S k L g h c pre) (hL : L ≤ 4) {A B : Nat → Int32} {y z : vP} (hy : Bd L y) (hz : Bd L z) (h8 : A 8 = nI y.2.1 - nI y.2.2.1) (h9 : A 9 = nI z.2.2.1) (h10 : A 10 = nI z.2.1) (hB : ∀ i, i < L → B i = nI (y.1.getD i 0)) :
    ∃ A' B', bX1_weigh_63 95 k (WW S A B) (nI 0) = some (WW S A' B') ∧ (∀ i, i ≠ 8 → i ≠ 9 → i ≠ 10 → A' i = A i) ∧ A' 8 = nI (stM y (pre, (g, h, c))).2.1 - nI (stM y (pre, (g, h, c))).2.2.1 ∧ A' 9 = nI (stH z (pre, (g, h, c))).2.2.1 ∧ A' 10 = nI (stH z (pre, (g, h, c))).2.1 ∧ ∀ i, i < L → B' i = nI ((stM y (pre, (g, h, c))).1.getD i 0) := by
  obtain ⟨A1, B1, f1, f2, f3, f4⟩ := w116_0 hE hL (A := A) (B := B) hy h8 hB
  obtain ⟨A2, B2, g1, g2, g3, g4⟩ := w116_0 hE hL (A := upd (upd A 9 (nI h)) 10 (nI g)) (B := B) hy (by rw [pk_un (by decide), pk_un (by decide)]; exact h8) hB
  obtain ⟨k1, k2, e3, e4, e5, b1, b2, b3, hp, hn⟩ := hE
  obtain ⟨z1, z2, z3, z4⟩ := hz
  have yes : stH z (pre, (g, h, c)) = (pre, (g, h, c)) → bX1_weigh_63 95 k (WW S A B) (nI 0) = bX1_weigh_116 95 k (WW S (upd (upd A 9 (nI h)) 10 (nI g)) B) (nI 0) → ∃ A' B', bX1_weigh_63 95 k (WW S A B) (nI 0) = some (WW S A' B') ∧ (∀ i, i ≠ 8 → i ≠ 9 → i ≠ 10 → A' i = A i) ∧ A' 8 = nI (stM y (pre, (g, h, c))).2.1 - nI (stM y (pre, (g, h, c))).2.2.1 ∧ A' 9 = nI (stH z (pre, (g, h, c))).2.2.1 ∧ A' 10 = nI (stH z (pre, (g, h, c))).2.1 ∧ ∀ i, i < L → B' i = nI ((stM y (pre, (g, h, c))).1.getD i 0) := by
    intro hs he
    rw [he, hs]
    refine ⟨A2, B2, g1, fun i i1 i2 i3 => ?_, g3, ?_, ?_, g4⟩
    · rw [g2 i i1, pk_un i3, pk_un i2]
    · rw [g2 9 (by decide), pk_un (by decide), pk_us]
    · rw [g2 10 (by decide), pk_us]
  have no : stH z (pre, (g, h, c)) = z → bX1_weigh_63 95 k (WW S A B) (nI 0) = bX1_weigh_116 95 k (WW S A B) (nI 0) → ∃ A' B', bX1_weigh_63 95 k (WW S A B) (nI 0) = some (WW S A' B') ∧ (∀ i, i ≠ 8 → i ≠ 9 → i ≠ 10 → A' i = A i) ∧ A' 8 = nI (stM y (pre, (g, h, c))).2.1 - nI (stM y (pre, (g, h, c))).2.2.1 ∧ A' 9 = nI (stH z (pre, (g, h, c))).2.2.1 ∧ A' 10 = nI (stH z (pre, (g, h, c))).2.1 ∧ ∀ i, i < L → B' i = nI ((stM y (pre, (g, h, c))).1.getD i 0) := by
    intro hs he
    rw [he, hs]
    refine ⟨A1, B1, f1, fun i i1 i2 i3 => f2 i i1, f3, ?_, ?_, f4⟩
    · rw [f2 9 (by decide)]; exact h9
    · rw [f2 10 (by decide)]; exact h10
  by_cases c1 : h < z.2.2.1
  · refine yes (if_pos (Or.inl c1)) ?_
    unfold bX1_weigh_63 bX1_weigh_100
    simp (disch := omega) only [qlt, qb_some, qb_none, ↓qn_1, ↓qn_2, ↓qn_3, ↓qn_4, ↓qn_9, ↓qn_1000, ↓qn_low, qi_0, qi_1, qi_2, qi_3, qi_4, qi_5, qi_6, qi_7, qi_8, qi_9, qi_10, qi_11, qi_12, qi_13, qi_14, qi_15, qi_16, qi_17, qi_20, qi_24, qi_30, qi_31, qi_32, qi_60, qi_99, qi_100, qi_200, qi_1000, qi_3400, qi_4000, qi_of, pu_gI, pu_pI, nI_leI, nI_ltI, nI_eq, nI_add, pk_mul, pk_sub, pk_div, qw_s, qw_o, qw_l, qr_s, qr_o, qr_l, ql_i, ql_s, ql_o, pk_us, pk_un, pk_uLs, pk_uLn, if_pos, if_neg, if_true, if_false, ite_self, eq_self, Nat.zero_add, Nat.add_zero, qwr, not_true_eq_false, not_false_eq_true, Option.some.injEq, qe_gn0, qe_m1n, qe_gng, qe_ngn, qe_gm, qe_mg, qe_lm1, qe_lgn, qe_lem, qe_leg, qe_tm1, qe_tgn, WW_w, WW_o, WW_95, e4, e3, h9, h10]
  · by_cases c2 : h = z.2.2.1
    · by_cases c3 : g ≤ z.2.1
      · refine no (if_neg (by show ¬ (h < z.2.2.1 ∨ (h = z.2.2.1 ∧ z.2.1 < g)); omega)) ?_
        unfold bX1_weigh_63 bX1_weigh_100
        simp (disch := omega) only [qlt, qb_some, qb_none, ↓qn_1, ↓qn_2, ↓qn_3, ↓qn_4, ↓qn_9, ↓qn_1000, ↓qn_low, qi_0, qi_1, qi_2, qi_3, qi_4, qi_5, qi_6, qi_7, qi_8, qi_9, qi_10, qi_11, qi_12, qi_13, qi_14, qi_15, qi_16, qi_17, qi_20, qi_24, qi_30, qi_31, qi_32, qi_60, qi_99, qi_100, qi_200, qi_1000, qi_3400, qi_4000, qi_of, pu_gI, pu_pI, nI_leI, nI_ltI, nI_eq, nI_add, pk_mul, pk_sub, pk_div, qw_s, qw_o, qw_l, qr_s, qr_o, qr_l, ql_i, ql_s, ql_o, pk_us, pk_un, pk_uLs, pk_uLn, if_pos, if_neg, if_true, if_false, ite_self, eq_self, Nat.zero_add, Nat.add_zero, qwr, not_true_eq_false, not_false_eq_true, Option.some.injEq, qe_gn0, qe_m1n, qe_gng, qe_ngn, qe_gm, qe_mg, qe_lm1, qe_lgn, qe_lem, qe_leg, qe_tm1, qe_tgn, WW_w, WW_o, WW_95, e4, e3, h9, h10]
      · refine yes (if_pos (Or.inr ⟨c2, by show z.2.1 < g; omega⟩)) ?_
        unfold bX1_weigh_63 bX1_weigh_100
        simp (disch := omega) only [qlt, qb_some, qb_none, ↓qn_1, ↓qn_2, ↓qn_3, ↓qn_4, ↓qn_9, ↓qn_1000, ↓qn_low, qi_0, qi_1, qi_2, qi_3, qi_4, qi_5, qi_6, qi_7, qi_8, qi_9, qi_10, qi_11, qi_12, qi_13, qi_14, qi_15, qi_16, qi_17, qi_20, qi_24, qi_30, qi_31, qi_32, qi_60, qi_99, qi_100, qi_200, qi_1000, qi_3400, qi_4000, qi_of, pu_gI, pu_pI, nI_leI, nI_ltI, nI_eq, nI_add, pk_mul, pk_sub, pk_div, qw_s, qw_o, qw_l, qr_s, qr_o, qr_l, ql_i, ql_s, ql_o, pk_us, pk_un, pk_uLs, pk_uLn, if_pos, if_neg, if_true, if_false, ite_self, eq_self, Nat.zero_add, Nat.add_zero, qwr, not_true_eq_false, not_false_eq_true, Option.some.injEq, qe_gn0, qe_m1n, qe_gng, qe_ngn, qe_gm, qe_mg, qe_lm1, qe_lgn, qe_lem, qe_leg, qe_tm1, qe_tgn, WW_w, WW_o, WW_95, e4, e3, h9, h10]
    · refine no (if_neg (by show ¬ (h < z.2.2.1 ∨ (h = z.2.2.1 ∧ z.2.1 < g)); omega)) ?_
      unfold bX1_weigh_63 bX1_weigh_100
      simp (disch := omega) only [qlt, qb_some, qb_none, ↓qn_1, ↓qn_2, ↓qn_3, ↓qn_4, ↓qn_9, ↓qn_1000, ↓qn_low, qi_0, qi_1, qi_2, qi_3, qi_4, qi_5, qi_6, qi_7, qi_8, qi_9, qi_10, qi_11, qi_12, qi_13, qi_14, qi_15, qi_16, qi_17, qi_20, qi_24, qi_30, qi_31, qi_32, qi_60, qi_99, qi_100, qi_200, qi_1000, qi_3400, qi_4000, qi_of, pu_gI, pu_pI, nI_leI, nI_ltI, nI_eq, nI_add, pk_mul, pk_sub, pk_div, qw_s, qw_o, qw_l, qr_s, qr_o, qr_l, ql_i, ql_s, ql_o, pk_us, pk_un, pk_uLs, pk_uLn, if_pos, if_neg, if_true, if_false, ite_self, eq_self, Nat.zero_add, Nat.add_zero, qwr, not_true_eq_false, not_false_eq_true, Option.some.injEq, qe_gn0, qe_m1n, qe_gng, qe_ngn, qe_gm, qe_mg, qe_lm1, qe_lgn, qe_lem, qe_leg, qe_tm1, qe_tgn, WW_w, WW_o, WW_95, e4, e3, h9, h10]
theorem bst_Bd : ∀ (l : List vP) (x : vP), Bd L x → (∀ y, y ∈ l → Bd L y) → Bd L (bst x l) := by
  intro l
  induction l with
  | nil => intro x hx _; exact hx
  | cons y l ih =>
    intro x hx hl
    show Bd L (bst (stM x y) l)
    refine ih _ ?_ (fun z hz => hl z (List.mem_cons_of_mem _ hz))
    unfold stM
    split
    · exact hl y (List.mem_cons_self ..)
    · exact hx
theorem hst_Bd : ∀ (l : List vP) (x : vP), Bd L x → (∀ y, y ∈ l → Bd L y) → Bd L (hst x l) := by
  intro l
  induction l with
  | nil => intro x hx _; exact hx
  | cons y l ih =>
    intro x hx hl
    show Bd L (hst (stH x y) l)
    refine ih _ ?_ (fun z hz => hl z (List.mem_cons_of_mem _ hz))
    unfold stH
    split
    · exact hl y (List.mem_cons_self ..)
    · exact hx
theorem cst_le : ∀ (l : List vP) (m : Nat), cst m l ≤ m := by
  intro l
  induction l with
  | nil => intro m; exact Nat.le_refl m
  | cons y l ih =>
    intro m
    have h1 := ih (stC m y)
    have h2 : stC m y ≤ m := by
      unfold stC
      split <;> omega
    exact Nat.le_trans h1 h2
theorem weigh6 (hE : EndR S k L g h c pre) (hL : L ≤ 4) {A B : Nat → Int32} {l : List vP} (hl : ∀ y, y ∈ l → Bd L y) (hlen : l.length < 2 ^ 20) (hS : SmR L A B l) :
    ∃ A' B', mX1_weigh (WW S A B) 95 k = some (WW S A' B') ∧ (∀ i, i < 6 → A' i = A i) ∧ SmR L A' B' (l ++ [(pre, (g, h, c))]) := by
  obtain ⟨k1, k2, e3, e4, e5, b1, b2, b3, hp, hn⟩ := id hE
  obtain ⟨s6, s7, s8⟩ := hS
  have hfl : (l.filter hz).length ≤ l.length := List.length_filter_le _ _
  have hlen2 : (l ++ [(pre, (g, h, c))]).length = l.length + 1 := by rw [List.length_append, List.length_singleton]
  have hflt : ((l ++ [(pre, (g, h, c))]).filter hz).length = (l.filter hz).length + (if h = 0 then 1 else 0) := by
    rw [List.filter_append, List.length_append]
    congr 1
    by_cases h0 : h = 0
    · have : hz (pre, (g, h, c)) = true := by unfold hz; simpa using h0
      rw [List.filter_cons_of_pos this, if_pos h0]
      rfl
    · have : ¬ hz (pre, (g, h, c)) = true := by unfold hz; simpa using h0
      rw [List.filter_cons_of_neg this, if_neg h0]
      rfl
  -- behind the counts
  have cnt : ∀ t0, ∃ A1, (∀ i, i ≠ 6 → i ≠ 7 → A1 i = A i) ∧ A1 6 = nI (l.length + 1) ∧ A1 7 = nI ((l.filter hz).length + (if h = 0 then 1 else 0)) ∧ bX1_weigh_12 95 k (WW S A B) t0 = bX1_weigh_40 95 k (WW S A1 B) t0 := by
    intro t0
    unfold bX1_weigh_12
    by_cases h0 : h = 0
    · refine ⟨upd (upd A 6 (nI (l.length + 1))) 7 (nI ((l.filter hz).length + 1)), fun i i1 i2 => by rw [pk_un i2, pk_un i1], by rw [pk_un (by decide), pk_us], by rw [pk_us, if_pos h0], ?_⟩
      simp (disch := omega) only [qlt, qb_some, qb_none, ↓qn_1, ↓qn_2, ↓qn_3, ↓qn_4, ↓qn_9, ↓qn_1000, ↓qn_low, qi_0, qi_1, qi_2, qi_3, qi_4, qi_5, qi_6, qi_7, qi_8, qi_9, qi_10, qi_11, qi_12, qi_13, qi_14, qi_15, qi_16, qi_17, qi_20, qi_24, qi_30, qi_31, qi_32, qi_60, qi_99, qi_100, qi_200, qi_1000, qi_3400, qi_4000, qi_of, pu_gI, pu_pI, nI_leI, nI_ltI, nI_eq, nI_add, pk_mul, pk_sub, pk_div, qw_s, qw_o, qw_l, qr_s, qr_o, qr_l, ql_i, ql_s, ql_o, pk_us, pk_un, pk_uLs, pk_uLn, if_pos, if_neg, if_true, if_false, ite_self, eq_self, Nat.zero_add, Nat.add_zero, qwr, not_true_eq_false, not_false_eq_true, Option.some.injEq, qe_gn0, qe_m1n, qe_gng, qe_ngn, qe_gm, qe_mg, qe_lm1, qe_lgn, qe_lem, qe_leg, qe_tm1, qe_tgn, WW_w, WW_95, WW_o, e4, s6, s7]
    · refine ⟨upd A 6 (nI (l.length + 1)), fun i i1 i2 => by rw [pk_un i1], pk_us, by rw [pk_un (by decide), s7, if_neg h0]; rfl, ?_⟩
      simp (disch := omega) only [qlt, qb_some, qb_none, ↓qn_1, ↓qn_2, ↓qn_3, ↓qn_4, ↓qn_9, ↓qn_1000, ↓qn_low, qi_0, qi_1, qi_2, qi_3, qi_4, qi_5, qi_6, qi_7, qi_8, qi_9, qi_10, qi_11, qi_12, qi_13, qi_14, qi_15, qi_16, qi_17, qi_20, qi_24, qi_30, qi_31, qi_32, qi_60, qi_99, qi_100, qi_200, qi_1000, qi_3400, qi_4000, qi_of, pu_gI, pu_pI, nI_leI, nI_ltI, nI_eq, nI_add, pk_mul, pk_sub, pk_div, qw_s, qw_o, qw_l, qr_s, qr_o, qr_l, ql_i, ql_s, ql_o, pk_us, pk_un, pk_uLs, pk_uLn, if_pos, if_neg, if_true, if_false, ite_self, eq_self, Nat.zero_add, Nat.add_zero, qwr, not_true_eq_false, not_false_eq_true, Option.some.injEq, qe_gn0, qe_m1n, qe_gng, qe_ngn, qe_gm, qe_mg, qe_lm1, qe_lgn, qe_lem, qe_leg, qe_tm1, qe_tgn, WW_w, WW_95, WW_o, e4, s6, s7]
  unfold mX1_weigh
  rw [WW_95, s6]
  cases l with
  | nil =>
    obtain ⟨A1, a1, a2, a3, a4⟩ := cnt (nI 1)
    obtain ⟨A', B', f1, f2, f3, f4, f5, f6⟩ := w63_1 hE hL (A := upd A1 11 (nI c)) (B := B)
    refine ⟨A', B', ?_, fun i hi => ?_, ?_, ?_, fun x r hx => ?_⟩
    · simp only [List.length_nil, qi_0, if_true, qi_1]
      rw [a4]
      unfold bX1_weigh_40 bX1_weigh_55
      simp (disch := omega) only [qlt, qb_some, qb_none, ↓qn_1, ↓qn_2, ↓qn_3, ↓qn_4, ↓qn_9, ↓qn_1000, ↓qn_low, qi_0, qi_1, qi_2, qi_3, qi_4, qi_5, qi_6, qi_7, qi_8, qi_9, qi_10, qi_11, qi_12, qi_13, qi_14, qi_15, qi_16, qi_17, qi_20, qi_24, qi_30, qi_31, qi_32, qi_60, qi_99, qi_100, qi_200, qi_1000, qi_3400, qi_4000, qi_of, pu_gI, pu_pI, nI_leI, nI_ltI, nI_eq, nI_add, pk_mul, pk_sub, pk_div, qw_s, qw_o, qw_l, qr_s, qr_o, qr_l, ql_i, ql_s, ql_o, pk_us, pk_un, pk_uLs, pk_uLn, if_pos, if_neg, if_true, if_false, ite_self, eq_self, Nat.zero_add, Nat.add_zero, qwr, not_true_eq_false, not_false_eq_true, Option.some.injEq, qe_gn0, qe_m1n, qe_gng, qe_ngn, qe_gm, qe_mg, qe_lm1, qe_lgn, qe_lem, qe_leg, qe_tm1, qe_tgn, WW_w, WW_o, e5]
      exact f1
    · rw [f2 i (by omega) (by omega) (by omega), pk_un (by omega), a1 i (by omega) (by omega)]
    · rw [f2 6 (by decide) (by decide) (by decide), pk_un (by decide), a2, hlen2]
    · rw [f2 7 (by decide) (by decide) (by decide), pk_un (by decide), a3, hflt]
    · have hx2 : [(pre, (g, h, c))] = x :: r := hx
      rw [List.cons.injEq] at hx2
      obtain ⟨rfl, rfl⟩ := hx2
      refine ⟨f3, f4, f5, ?_, f6⟩
      rw [f2 11 (by decide) (by decide) (by decide), pk_us]
      rfl
  | cons x r =>
    obtain ⟨s8, s9, s10, s11, sB⟩ := s8 x r rfl
    have hxB : Bd L x := hl x (List.mem_cons_self ..)
    have hrB : ∀ y, y ∈ r → Bd L y := fun y hy => hl y (List.mem_cons_of_mem _ hy)
    have hbB := bst_Bd r x hxB hrB
    have hhB := hst_Bd r x hxB hrB
    have hcl := cst_le r x.2.2.2
    have hcl2 : cst x.2.2.2 r ≤ 1000 := Nat.le_trans hcl hxB.2.2.1
    obtain ⟨A1, a1, a2, a3, a4⟩ := cnt (nI 0)
    have hne : ¬ nI (x :: r).length = nI 0 := fun z => by
      have := (nI_eq (by omega) (by decide)).mp z
      rw [List.length_cons] at this
      omega
    -- taken
    have tk : ∃ A2, (∀ i, i ≠ 11 → A2 i = A1 i) ∧ A2 11 = nI (stC (cst x.2.2.2 r) (pre, (g, h, c))) ∧ bX1_weigh_40 95 k (WW S A1 B) (nI 0) = bX1_weigh_63 95 k (WW S A2 B) (nI 0) := by
      have a11 : A1 11 = nI (cst x.2.2.2 r) := by rw [a1 11 (by decide) (by decide)]; exact s11
      unfold bX1_weigh_40 bX1_weigh_55
      by_cases hc : c < cst x.2.2.2 r
      · refine ⟨upd A1 11 (nI c), fun i hi => pk_un hi, ?_, ?_⟩
        · rw [pk_us]
          have : stC (cst x.2.2.2 r) (pre, (g, h, c)) = c := if_pos hc
          rw [this]
        · simp (disch := omega) only [qlt, qb_some, qb_none, ↓qn_1, ↓qn_2, ↓qn_3, ↓qn_4, ↓qn_9, ↓qn_1000, ↓qn_low, qi_0, qi_1, qi_2, qi_3, qi_4, qi_5, qi_6, qi_7, qi_8, qi_9, qi_10, qi_11, qi_12, qi_13, qi_14, qi_15, qi_16, qi_17, qi_20, qi_24, qi_30, qi_31, qi_32, qi_60, qi_99, qi_100, qi_200, qi_1000, qi_3400, qi_4000, qi_of, pu_gI, pu_pI, nI_leI, nI_ltI, nI_eq, nI_add, pk_mul, pk_sub, pk_div, qw_s, qw_o, qw_l, qr_s, qr_o, qr_l, ql_i, ql_s, ql_o, pk_us, pk_un, pk_uLs, pk_uLn, if_pos, if_neg, if_true, if_false, ite_self, eq_self, Nat.zero_add, Nat.add_zero, qwr, not_true_eq_false, not_false_eq_true, Option.some.injEq, qe_gn0, qe_m1n, qe_gng, qe_ngn, qe_gm, qe_mg, qe_lm1, qe_lgn, qe_lem, qe_leg, qe_tm1, qe_tgn, WW_w, WW_95, WW_o, e5, a11]
      · refine ⟨A1, fun i hi => rfl, ?_, ?_⟩
        · have : stC (cst x.2.2.2 r) (pre, (g, h, c)) = cst x.2.2.2 r := if_neg hc
          rw [this]
          exact a11
        · simp (disch := omega) only [qlt, qb_some, qb_none, ↓qn_1, ↓qn_2, ↓qn_3, ↓qn_4, ↓qn_9, ↓qn_1000, ↓qn_low, qi_0, qi_1, qi_2, qi_3, qi_4, qi_5, qi_6, qi_7, qi_8, qi_9, qi_10, qi_11, qi_12, qi_13, qi_14, qi_15, qi_16, qi_17, qi_20, qi_24, qi_30, qi_31, qi_32, qi_60, qi_99, qi_100, qi_200, qi_1000, qi_3400, qi_4000, qi_of, pu_gI, pu_pI, nI_leI, nI_ltI, nI_eq, nI_add, pk_mul, pk_sub, pk_div, qw_s, qw_o, qw_l, qr_s, qr_o, qr_l, ql_i, ql_s, ql_o, pk_us, pk_un, pk_uLs, pk_uLn, if_pos, if_neg, if_true, if_false, ite_self, eq_self, Nat.zero_add, Nat.add_zero, qwr, not_true_eq_false, not_false_eq_true, Option.some.injEq, qe_gn0, qe_m1n, qe_gng, qe_ngn, qe_gm, qe_mg, qe_lm1, qe_lgn, qe_lem, qe_leg, qe_tm1, qe_tgn, WW_w, WW_95, WW_o, e5, a11]
    obtain ⟨A2, t1, t2, t3⟩ := tk
    obtain ⟨A', B', f1, f2, f3, f4, f5, f6⟩ := w63_0 hE hL (A := A2) (B := B) hbB hhB (by rw [t1 8 (by decide), a1 8 (by decide) (by decide)]; exact s8) (by rw [t1 9 (by decide), a1 9 (by decide) (by decide)]; exact s9) (by rw [t1 10 (by decide), a1 10 (by decide) (by decide)]; exact s10) sB
    refine ⟨A', B', ?_, fun i hi => ?_, ?_, ?_, fun x' r' hx => ?_⟩
    · simp only [qi_0, qi_1]
      rw [if_neg hne, a4, t3]
      exact f1
    · rw [f2 i (by omega) (by omega) (by omega), t1 i (by omega), a1 i (by omega) (by omega)]
    · rw [f2 6 (by decide) (by decide) (by decide), t1 6 (by decide), a2, hlen2]
    · rw [f2 7 (by decide) (by decide) (by decide), t1 7 (by decide), a3, hflt]
    · have hx2 : x :: (r ++ [(pre, (g, h, c))]) = x' :: r' := hx
      rw [List.cons.injEq] at hx2
      obtain ⟨rfl, rfl⟩ := hx2
      have q1 : bst x (r ++ [(pre, (g, h, c))]) = stM (bst x r) (pre, (g, h, c)) := foldl_snoc _ _ _ _
      have q2 : hst x (r ++ [(pre, (g, h, c))]) = stH (hst x r) (pre, (g, h, c)) := foldl_snoc _ _ _ _
      have q3 : cst x.2.2.2 (r ++ [(pre, (g, h, c))]) = stC (cst x.2.2.2 r) (pre, (g, h, c)) := foldl_snoc _ _ _ _
      rw [q1, q2, q3]
      refine ⟨f3, f4, f5, ?_, f6⟩
      rw [f2 11 (by decide) (by decide) (by decide), t2]
end WG
