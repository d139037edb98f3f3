/-! ===== PURE: mark ===== -/
def ofK (G : Nat → Int32) (g w : Nat) : Bool := decide (gK G g = nI w) || ((decide (gK G g = nI 4) && decide (w = 2)) || (decide (gK G g = nI 5) && decide (w = 3)))
theorem ofK6 {S : vS} {k n g w : Nat} {G : Nat → Int32} (hG : GodR S k n G) (hGI : GInv n G) (hn : n ≤ 4) (hg : g < n) (hw : w < 6) : mX0_isOfKind S k (nI g) (nI w) = some (if ofK G g w = true then nI 1 else nI 0) := by
  obtain ⟨g1, _⟩ := hG.2.2.2.2 g hg
  obtain ⟨⟨c, hc, hk⟩, _⟩ := hGI g hg
  have hg4 : g < 4 := by omega
  unfold mX0_isOfKind bX0_isOfKind_32 bX0_isOfKind_46 ofK
  simp (disch := omega) only [qlt, qb_some, qb_none, ↓qn_1, ↓qn_2, ↓qn_3, ↓qn_4, ↓qn_9, ↓qn_1000, ↓qn_low, qi_0, qi_1, qi_2, qi_3, qi_4, qi_5, qi_6, qi_7, qi_8, qi_9, qi_10, qi_11, qi_12, qi_13, qi_14, qi_15, qi_16, qi_17, qi_20, qi_24, qi_30, qi_31, qi_32, qi_60, qi_99, qi_100, qi_200, qi_1000, qi_3400, qi_4000, qi_of, pu_gI, pu_pI, nI_leI, nI_ltI, nI_eq, nI_add, pk_mul, pk_sub, pk_div, qw_s, qw_o, qw_l, qr_s, qr_o, qr_l, ql_i, ql_s, ql_o, pk_us, pk_un, pk_uLs, pk_uLn, if_pos, if_neg, if_true, if_false, ite_self, eq_self, Nat.zero_add, Nat.add_zero, qwr, not_true_eq_false, not_false_eq_true, Option.some.injEq, qe_gn0, qe_m1n, qe_gng, qe_ngn, qe_gm, qe_mg, qe_lm1, qe_lgn, qe_lem, qe_leg, qe_tm1, qe_tgn, has0_y hG.1 hn hg, g1, hk]
  have h : (decide (c = w) || ((decide (c = 4) && decide (w = 2)) || (decide (c = 5) && decide (w = 3)))) = true ↔ c = w ∨ (c = 4 ∧ w = 2) ∨ (c = 5 ∧ w = 3) := by simp
  by_cases h1 : c = w
  · rw [if_pos h1, if_pos (h.mpr (Or.inl h1))]
  · rw [if_neg h1]
    by_cases h4 : c = 4
    · rw [if_pos h4]
      by_cases hw2 : w = 2
      · rw [if_pos hw2, if_pos (h.mpr (Or.inr (Or.inl ⟨h4, hw2⟩)))]
      · rw [if_neg hw2, if_neg (by rw [h]; omega)]
    · rw [if_neg h4]
      by_cases h5 : c = 5
      · rw [if_pos h5]
        by_cases hw3 : w = 3
        · rw [if_pos hw3, if_pos (h.mpr (Or.inr (Or.inr ⟨h5, hw3⟩)))]
        · rw [if_neg hw3, if_neg (by rw [h]; omega)]
      · rw [if_neg h5, if_neg (by rw [h]; omega)]
theorem dsf_l {S : vS} {n d a : Nat} {G D : Nat → Int32} (h0 : S.1 (30 + 11) 0 = nI d) (hd : d ≤ 200) (ha : a < 4) (hD : ∀ e, e < d → DayR (S.1 (30 + 15)) n G D e) :
    ∀ q e, e ≤ d → e < q → lX5_daysSinceFed_26 30 S (nI a) (nI d - nI 1) q (nI e - nI 1) = some (if lastF (S.1 (30 + 15)) a e = gN then gN else nI d - nI 1 - lastF (S.1 (30 + 15)) a e) := by
  intro q
  induction q with
  | zero => intro e h1 h2; omega
  | succ q ih =>
    intro e h1 h2
    rw [lX5_daysSinceFed_26]
    cases e with
    | zero =>
      rw [z01]
      have : m1 < 0 := by decide +kernel
      rw [if_pos this]
      unfold lastF
      simp [qn_9]
    | succ e =>
      obtain ⟨_, d2, _⟩ := hD e (by omega)
      have e2 : nI e + m1 = nI e - nI 1 := by
        have : m1 = -nI 1 := by decide +kernel
        rw [this]; grind
      rw [pk_sub (show 1 ≤ e + 1 by omega), Nat.add_sub_cancel]
      unfold bX5_daysSinceFed_43
      simp (disch := omega) only [qlt, qb_some, qb_none, ↓qn_1, ↓qn_2, ↓qn_3, ↓qn_4, ↓qn_9, ↓qn_1000, ↓qn_low, qi_0, qi_1, qi_2, qi_3, qi_4, qi_5, qi_6, qi_7, qi_8, qi_9, qi_10, qi_11, qi_12, qi_13, qi_14, qi_15, qi_16, qi_17, qi_20, qi_24, qi_30, qi_31, qi_32, qi_60, qi_99, qi_100, qi_200, qi_1000, qi_3400, qi_4000, qi_of, pu_gI, pu_pI, nI_leI, nI_ltI, nI_eq, nI_add, pk_mul, pk_sub, pk_div, qw_s, qw_o, qw_l, qr_s, qr_o, qr_l, ql_i, ql_s, ql_o, pk_us, pk_un, pk_uLs, pk_uLn, if_pos, if_neg, if_true, if_false, ite_self, eq_self, Nat.zero_add, Nat.add_zero, qwr, not_true_eq_false, not_false_eq_true, Option.some.injEq, qe_gn0, qe_m1n, qe_gng, qe_ngn, qe_gm, qe_mg, qe_lm1, qe_lgn, qe_lem, qe_leg, qe_tm1, qe_tgn, noted6 (F := G) h0 hd (show e < d by omega) (show 1 < 17 by omega), bt_c d2 ha]
      unfold lastF
      cases hb : bt (S.1 (30 + 15) (17 * e + 1)) a
      · simp only [if_true, Bool.false_eq_true, if_false, e2]
        have ih' := ih e (by omega) (by omega)
        rw [pk_sub (show 1 ≤ d by omega)] at ih'
        exact ih'
      · simp only [if_true, Bool.true_eq_false, if_false]
        rw [if_neg (qe_gn (by omega)), pk_sub (show e ≤ d - 1 by omega)]
theorem mx_gr (x : Int32) : mxI (nI 0) x = mX7_greater (nI 0) x := by
  unfold mxI mX7_greater
  by_cases h1 : nI 0 < x
  · rw [if_pos h1, if_pos (Int32.le_of_lt h1)]
  · by_cases h2 : nI 0 ≤ x
    · have : x = nI 0 := Int32.le_antisymm (Int32.not_lt.mp h1) h2
      rw [if_neg h1, if_pos h2, this]
    · rw [if_neg h1, if_neg h2]
theorem in7_w {w : Nat} (h : w < 6) (h0 : ¬ w = 0) : mX7_in (nI w) (nI 1) (nI 5) = nI 1 := in7_y (by omega) (by omega) (by decide)
theorem in7_o1 {a : Int32} (h : a < nI 1) : mX7_in a (nI 1) (nI 5) = nI 0 := by
  unfold mX7_in bX7_in_14
  rw [if_pos h]
  exact qi_0
theorem in7_o5 {a : Int32} (h : nI 6 ≤ a) : mX7_in a (nI 1) (nI 5) = nI 0 := by
  unfold mX7_in bX7_in_14
  split
  · exact qi_0
  · rw [if_pos (Int32.lt_of_lt_of_le (nI_lt (by decide) (by decide)) h)]
    exact qi_0
theorem st_mark : St_mark Rel := by
  intro S T a b R
  obtain ⟨n, hn, h10, h34, hGI, hV, hK⟩ := R.2.2.2.2
  obtain ⟨hG, hS, hg1, hh1, hFI, d, hd, hd14, hH, hD⟩ := id hV
  have hf : (0 : Nat) < 6 := by decide
  have h0 : S.1 (30 + 11) 0 = nI d := hS.1.trans hd14
  rcases oR_or a (N := n) (by omega) with h | ⟨g, hg, rfl⟩
  · unfold mX6_mark mX7_mark
    simp (disch := omega) only [qlt, qb_some, qb_none, ↓qn_1, ↓qn_2, ↓qn_3, ↓qn_4, ↓qn_9, ↓qn_1000, ↓qn_low, qi_0, qi_1, qi_2, qi_3, qi_4, qi_5, qi_6, qi_7, qi_8, qi_9, qi_10, qi_11, qi_12, qi_13, qi_14, qi_15, qi_16, qi_17, qi_20, qi_24, qi_30, qi_31, qi_32, qi_60, qi_99, qi_100, qi_200, qi_1000, qi_3400, qi_4000, qi_of, pu_gI, pu_pI, nI_leI, nI_ltI, nI_eq, nI_add, pk_mul, pk_sub, pk_div, qw_s, qw_o, qw_l, qr_s, qr_o, qr_l, ql_i, ql_s, ql_o, pk_us, pk_un, pk_uLs, pk_uLn, if_pos, if_neg, if_true, if_false, ite_self, eq_self, Nat.zero_add, Nat.add_zero, qwr, not_true_eq_false, not_false_eq_true, Option.some.injEq, qe_gn0, qe_m1n, qe_gng, qe_ngn, qe_gm, qe_mg, qe_lm1, qe_lgn, qe_lem, qe_leg, qe_tm1, qe_tgn, has0_o hG.1 h, isGod_o h10 hn h]
    exact ⟨_, _, rfl, rfl, rfl, R⟩
  have hg4 : g < 4 := by omega
  rcases oR_or b (N := 6) (by decide) with h | ⟨w, hw, rfl⟩
  · unfold mX6_mark mX7_mark
    rcases h with h | h
    · simp (disch := omega) only [qlt, qb_some, qb_none, ↓qn_1, ↓qn_2, ↓qn_3, ↓qn_4, ↓qn_9, ↓qn_1000, ↓qn_low, qi_0, qi_1, qi_2, qi_3, qi_4, qi_5, qi_6, qi_7, qi_8, qi_9, qi_10, qi_11, qi_12, qi_13, qi_14, qi_15, qi_16, qi_17, qi_20, qi_24, qi_30, qi_31, qi_32, qi_60, qi_99, qi_100, qi_200, qi_1000, qi_3400, qi_4000, qi_of, pu_gI, pu_pI, nI_leI, nI_ltI, nI_eq, nI_add, pk_mul, pk_sub, pk_div, qw_s, qw_o, qw_l, qr_s, qr_o, qr_l, ql_i, ql_s, ql_o, pk_us, pk_un, pk_uLs, pk_uLn, if_pos, if_neg, if_true, if_false, ite_self, eq_self, Nat.zero_add, Nat.add_zero, qwr, not_true_eq_false, not_false_eq_true, Option.some.injEq, qe_gn0, qe_m1n, qe_gng, qe_ngn, qe_gm, qe_mg, qe_lm1, qe_lgn, qe_lem, qe_leg, qe_tm1, qe_tgn, has0_y hG.1 hn hg, isGod_y h10 hn hg, sg_leT h, sg_geF h, sg_ltT h, sg_gtF h, sg_eqF h, sg_eqF2 h, in7_o1 (sg_le h (by decide))]
      exact ⟨_, _, rfl, rfl, rfl, R⟩
    · simp (disch := omega) only [qlt, qb_some, qb_none, ↓qn_1, ↓qn_2, ↓qn_3, ↓qn_4, ↓qn_9, ↓qn_1000, ↓qn_low, qi_0, qi_1, qi_2, qi_3, qi_4, qi_5, qi_6, qi_7, qi_8, qi_9, qi_10, qi_11, qi_12, qi_13, qi_14, qi_15, qi_16, qi_17, qi_20, qi_24, qi_30, qi_31, qi_32, qi_60, qi_99, qi_100, qi_200, qi_1000, qi_3400, qi_4000, qi_of, pu_gI, pu_pI, nI_leI, nI_ltI, nI_eq, nI_add, pk_mul, pk_sub, pk_div, qw_s, qw_o, qw_l, qr_s, qr_o, qr_l, ql_i, ql_s, ql_o, pk_us, pk_un, pk_uLs, pk_uLn, if_pos, if_neg, if_true, if_false, ite_self, eq_self, Nat.zero_add, Nat.add_zero, qwr, not_true_eq_false, not_false_eq_true, Option.some.injEq, qe_gn0, qe_m1n, qe_gng, qe_ngn, qe_gm, qe_mg, qe_lm1, qe_lgn, qe_lem, qe_leg, qe_tm1, qe_tgn, has0_y hG.1 hn hg, isGod_y h10 hn hg, bg_leF h, bg_ltT h, bg_geT h, bg_ltF h, bg_eqF h, bg_eqF2 h, in7_o5 h]
      exact ⟨_, _, rfl, rfl, rfl, R⟩
  by_cases hw0 : w = 0
  · subst hw0
    unfold mX6_mark mX7_mark
    simp (disch := omega) only [qlt, qb_some, qb_none, ↓qn_1, ↓qn_2, ↓qn_3, ↓qn_4, ↓qn_9, ↓qn_1000, ↓qn_low, qi_0, qi_1, qi_2, qi_3, qi_4, qi_5, qi_6, qi_7, qi_8, qi_9, qi_10, qi_11, qi_12, qi_13, qi_14, qi_15, qi_16, qi_17, qi_20, qi_24, qi_30, qi_31, qi_32, qi_60, qi_99, qi_100, qi_200, qi_1000, qi_3400, qi_4000, qi_of, pu_gI, pu_pI, nI_leI, nI_ltI, nI_eq, nI_add, pk_mul, pk_sub, pk_div, qw_s, qw_o, qw_l, qr_s, qr_o, qr_l, ql_i, ql_s, ql_o, pk_us, pk_un, pk_uLs, pk_uLn, if_pos, if_neg, if_true, if_false, ite_self, eq_self, Nat.zero_add, Nat.add_zero, qwr, not_true_eq_false, not_false_eq_true, Option.some.injEq, qe_gn0, qe_m1n, qe_gng, qe_ngn, qe_gm, qe_mg, qe_lm1, qe_lgn, qe_lem, qe_leg, qe_tm1, qe_tgn, has0_y hG.1 hn hg, isGod_y h10 hn hg, in7_lo]
    exact ⟨_, _, rfl, rfl, rfl, R⟩
  obtain ⟨⟨c, hc, hk⟩, _, _, _, _, hA, hA1⟩ := hGI g hg
  obtain ⟨g1, _, g3, _, _, g6, _⟩ := hG.2.2.2.2 g hg
  have eo : ofK (T.1 7) g w = (decide (c = w) || ((decide (c = 4) && decide (w = 2)) || (decide (c = 5) && decide (w = 3)))) := by
    unfold ofK
    rw [hk]
    have : ∀ x, x < 6 → decide (nI c = nI x) = decide (c = x) := fun x hx => by
      have := nI_eq (a := c) (b := x) (by omega) (by omega)
      simp [this]
    rw [this w hw, this 4 (by decide), this 5 (by decide)]
  have hbk : mX7_kind T (nI g) = some (nI c) := by rw [m7_kind hg4, hk]
  have hko : mX0_isOfKind S (30 + 1) (nI g) (nI w) = some (if ofK (T.1 7) g w = true then nI 1 else nI 0) := ofK6 hG hGI hn hg hw
  have e41 : S.1 (30 + 11 + 1) = S.1 (30 + 11 + 1) := rfl
  have hc5 : w = 1 ∨ w = 2 ∨ w = 3 ∨ w = 4 ∨ w = 5 := by omega
  rcases hc5 with rfl | rfl | rfl | rfl | rfl
  · cases ho : ofK (T.1 7) g 1
    · have hno : ¬ c = 1 := by
        have ho2 := eo
        rw [ho] at ho2
        simpa using ho2.symm
      unfold mX6_mark mX7_mark bX7_mark_40 bX7_mark_50
      simp (disch := omega) only [qlt, qb_some, qb_none, ↓qn_1, ↓qn_2, ↓qn_3, ↓qn_4, ↓qn_9, ↓qn_1000, ↓qn_low, qi_0, qi_1, qi_2, qi_3, qi_4, qi_5, qi_6, qi_7, qi_8, qi_9, qi_10, qi_11, qi_12, qi_13, qi_14, qi_15, qi_16, qi_17, qi_20, qi_24, qi_30, qi_31, qi_32, qi_60, qi_99, qi_100, qi_200, qi_1000, qi_3400, qi_4000, qi_of, pu_gI, pu_pI, nI_leI, nI_ltI, nI_eq, nI_add, pk_mul, pk_sub, pk_div, qw_s, qw_o, qw_l, qr_s, qr_o, qr_l, ql_i, ql_s, ql_o, pk_us, pk_un, pk_uLs, pk_uLn, if_pos, if_neg, if_true, if_false, ite_self, eq_self, Nat.zero_add, Nat.add_zero, qwr, not_true_eq_false, not_false_eq_true, Option.some.injEq, qe_gn0, qe_m1n, qe_gng, qe_ngn, qe_gm, qe_mg, qe_lm1, qe_lgn, qe_lem, qe_leg, qe_tm1, qe_tgn, has0_y hG.1 hn hg, isGod_y h10 hn hg, in7_y, hbk, hko, ho, Bool.false_eq_true, qf_found, qf_meets]
      refine ⟨(q3, fS S 3), (q3, fT T 3), rfl, ?_, rfl, Rel_found R (by decide)⟩
      first | rfl | (split <;> first | rfl | omega)
    · have hy : c = 1 := by
        have ho2 := eo
        rw [ho] at ho2
        simpa using ho2.symm
      have e1 := hy
      · subst e1
        unfold mX6_mark mX7_mark bX7_mark_40 bX7_mark_50
        simp (disch := omega) only [qlt, qb_some, qb_none, ↓qn_1, ↓qn_2, ↓qn_3, ↓qn_4, ↓qn_9, ↓qn_1000, ↓qn_low, qi_0, qi_1, qi_2, qi_3, qi_4, qi_5, qi_6, qi_7, qi_8, qi_9, qi_10, qi_11, qi_12, qi_13, qi_14, qi_15, qi_16, qi_17, qi_20, qi_24, qi_30, qi_31, qi_32, qi_60, qi_99, qi_100, qi_200, qi_1000, qi_3400, qi_4000, qi_of, pu_gI, pu_pI, nI_leI, nI_ltI, nI_eq, nI_add, pk_mul, pk_sub, pk_div, qw_s, qw_o, qw_l, qr_s, qr_o, qr_l, ql_i, ql_s, ql_o, pk_us, pk_un, pk_uLs, pk_uLn, if_pos, if_neg, if_true, if_false, ite_self, eq_self, Nat.zero_add, Nat.add_zero, qwr, not_true_eq_false, not_false_eq_true, Option.some.injEq, qe_gn0, qe_m1n, qe_gng, qe_ngn, qe_gm, qe_mg, qe_lm1, qe_lgn, qe_lem, qe_leg, qe_tm1, qe_tgn, has0_y hG.1 hn hg, isGod_y h10 hn hg, in7_y, hbk, hko, ho]
        unfold bX7_mark_56
        simp (disch := omega) only [qlt, qb_some, qb_none, ↓qn_1, ↓qn_2, ↓qn_3, ↓qn_4, ↓qn_9, ↓qn_1000, ↓qn_low, qi_0, qi_1, qi_2, qi_3, qi_4, qi_5, qi_6, qi_7, qi_8, qi_9, qi_10, qi_11, qi_12, qi_13, qi_14, qi_15, qi_16, qi_17, qi_20, qi_24, qi_30, qi_31, qi_32, qi_60, qi_99, qi_100, qi_200, qi_1000, qi_3400, qi_4000, qi_of, pu_gI, pu_pI, nI_leI, nI_ltI, nI_eq, nI_add, pk_mul, pk_sub, pk_div, qw_s, qw_o, qw_l, qr_s, qr_o, qr_l, ql_i, ql_s, ql_o, pk_us, pk_un, pk_uLs, pk_uLn, if_pos, if_neg, if_true, if_false, ite_self, eq_self, Nat.zero_add, Nat.add_zero, qwr, not_true_eq_false, not_false_eq_true, Option.some.injEq, qe_gn0, qe_m1n, qe_gng, qe_ngn, qe_gm, qe_mg, qe_lm1, qe_lgn, qe_lem, qe_leg, qe_tm1, qe_tgn, g6, m7_abi hg4]
        exact ⟨_, _, rfl, rfl, rfl, R⟩
  · cases ho : ofK (T.1 7) g 2
    · have hno : ¬ c = 2 ∧ ¬ c = 4 := by
        have ho2 := eo
        rw [ho] at ho2
        simpa using ho2.symm
      unfold mX6_mark mX7_mark bX7_mark_40 bX7_mark_50
      simp (disch := omega) only [qlt, qb_some, qb_none, ↓qn_1, ↓qn_2, ↓qn_3, ↓qn_4, ↓qn_9, ↓qn_1000, ↓qn_low, qi_0, qi_1, qi_2, qi_3, qi_4, qi_5, qi_6, qi_7, qi_8, qi_9, qi_10, qi_11, qi_12, qi_13, qi_14, qi_15, qi_16, qi_17, qi_20, qi_24, qi_30, qi_31, qi_32, qi_60, qi_99, qi_100, qi_200, qi_1000, qi_3400, qi_4000, qi_of, pu_gI, pu_pI, nI_leI, nI_ltI, nI_eq, nI_add, pk_mul, pk_sub, pk_div, qw_s, qw_o, qw_l, qr_s, qr_o, qr_l, ql_i, ql_s, ql_o, pk_us, pk_un, pk_uLs, pk_uLn, if_pos, if_neg, if_true, if_false, ite_self, eq_self, Nat.zero_add, Nat.add_zero, qwr, not_true_eq_false, not_false_eq_true, Option.some.injEq, qe_gn0, qe_m1n, qe_gng, qe_ngn, qe_gm, qe_mg, qe_lm1, qe_lgn, qe_lem, qe_leg, qe_tm1, qe_tgn, has0_y hG.1 hn hg, isGod_y h10 hn hg, in7_y, hbk, hko, ho, Bool.false_eq_true, qf_found, qf_meets]
      refine ⟨(q3, fS S 3), (q3, fT T 3), rfl, ?_, rfl, Rel_found R (by decide)⟩
      first | rfl | (split <;> first | rfl | omega)
    · have hy : c = 2 ∨ c = 4 := by
        have ho2 := eo
        rw [ho] at ho2
        simpa using ho2.symm
      rcases hy with e2 | e4
      · subst e2
        unfold mX6_mark mX7_mark bX7_mark_40 bX7_mark_50
        simp (disch := omega) only [qlt, qb_some, qb_none, ↓qn_1, ↓qn_2, ↓qn_3, ↓qn_4, ↓qn_9, ↓qn_1000, ↓qn_low, qi_0, qi_1, qi_2, qi_3, qi_4, qi_5, qi_6, qi_7, qi_8, qi_9, qi_10, qi_11, qi_12, qi_13, qi_14, qi_15, qi_16, qi_17, qi_20, qi_24, qi_30, qi_31, qi_32, qi_60, qi_99, qi_100, qi_200, qi_1000, qi_3400, qi_4000, qi_of, pu_gI, pu_pI, nI_leI, nI_ltI, nI_eq, nI_add, pk_mul, pk_sub, pk_div, qw_s, qw_o, qw_l, qr_s, qr_o, qr_l, ql_i, ql_s, ql_o, pk_us, pk_un, pk_uLs, pk_uLn, if_pos, if_neg, if_true, if_false, ite_self, eq_self, Nat.zero_add, Nat.add_zero, qwr, not_true_eq_false, not_false_eq_true, Option.some.injEq, qe_gn0, qe_m1n, qe_gng, qe_ngn, qe_gm, qe_mg, qe_lm1, qe_lgn, qe_lem, qe_leg, qe_tm1, qe_tgn, has0_y hG.1 hn hg, isGod_y h10 hn hg, in7_y, hbk, hko, ho]
        have hk1 : gK (T.1 7) g ≠ nI 1 := by rw [hk]; exact fun z => absurd ((nI_eq (by decide) (by decide)).mp z) (by decide)
        obtain ⟨q1, q2⟩ := hH g hg hk1
        unfold bX7_mark_56 mX5_daysSinceFed
        rcases hA with ha | ⟨x, hx, ha⟩
        · have hno : mX0_has S (30 + 1) gN = nI 0 := has0_o hG.1 (Or.inl (by decide +kernel))
          simp (disch := omega) only [qlt, qb_some, qb_none, ↓qn_1, ↓qn_2, ↓qn_3, ↓qn_4, ↓qn_9, ↓qn_1000, ↓qn_low, qi_0, qi_1, qi_2, qi_3, qi_4, qi_5, qi_6, qi_7, qi_8, qi_9, qi_10, qi_11, qi_12, qi_13, qi_14, qi_15, qi_16, qi_17, qi_20, qi_24, qi_30, qi_31, qi_32, qi_60, qi_99, qi_100, qi_200, qi_1000, qi_3400, qi_4000, qi_of, pu_gI, pu_pI, nI_leI, nI_ltI, nI_eq, nI_add, pk_mul, pk_sub, pk_div, qw_s, qw_o, qw_l, qr_s, qr_o, qr_l, ql_i, ql_s, ql_o, pk_us, pk_un, pk_uLs, pk_uLn, if_pos, if_neg, if_true, if_false, ite_self, eq_self, Nat.zero_add, Nat.add_zero, qwr, not_true_eq_false, not_false_eq_true, Option.some.injEq, qe_gn0, qe_m1n, qe_gng, qe_ngn, qe_gm, qe_mg, qe_lm1, qe_lgn, qe_lem, qe_leg, qe_tm1, qe_tgn, g6, ha, hno, m7_v hf, q1 ha]
          exact ⟨_, _, rfl, rfl, rfl, R⟩
        · have hl := dsf_l (a := x) h0 hd (by omega) hD FU d (Nat.le_refl d) (by unfold FU; omega)
          have hq := q2 x (by omega) ha
          have hxn : x < n := by omega
          simp (disch := omega) only [qlt, qb_some, qb_none, ↓qn_1, ↓qn_2, ↓qn_3, ↓qn_4, ↓qn_9, ↓qn_1000, ↓qn_low, qi_0, qi_1, qi_2, qi_3, qi_4, qi_5, qi_6, qi_7, qi_8, qi_9, qi_10, qi_11, qi_12, qi_13, qi_14, qi_15, qi_16, qi_17, qi_20, qi_24, qi_30, qi_31, qi_32, qi_60, qi_99, qi_100, qi_200, qi_1000, qi_3400, qi_4000, qi_of, pu_gI, pu_pI, nI_leI, nI_ltI, nI_eq, nI_add, pk_mul, pk_sub, pk_div, qw_s, qw_o, qw_l, qr_s, qr_o, qr_l, ql_i, ql_s, ql_o, pk_us, pk_un, pk_uLs, pk_uLn, if_pos, if_neg, if_true, if_false, ite_self, eq_self, Nat.zero_add, Nat.add_zero, qwr, not_true_eq_false, not_false_eq_true, Option.some.injEq, qe_gn0, qe_m1n, qe_gng, qe_ngn, qe_gm, qe_mg, qe_lm1, qe_lgn, qe_lem, qe_leg, qe_tm1, qe_tgn, g6, ha, has0_y hG.1 hn hxn, m7_v hf, hq, h0, hl, hd14]
          by_cases e9 : lastF (S.1 (30 + 15)) x d = gN
          · rw [if_pos e9, if_pos e9]; exact ⟨_, _, rfl, rfl, rfl, R⟩
          · rw [if_neg e9, if_neg e9]; exact ⟨_, _, rfl, rfl, rfl, R⟩
      · subst e4
        unfold mX6_mark mX7_mark bX7_mark_40 bX7_mark_50
        simp (disch := omega) only [qlt, qb_some, qb_none, ↓qn_1, ↓qn_2, ↓qn_3, ↓qn_4, ↓qn_9, ↓qn_1000, ↓qn_low, qi_0, qi_1, qi_2, qi_3, qi_4, qi_5, qi_6, qi_7, qi_8, qi_9, qi_10, qi_11, qi_12, qi_13, qi_14, qi_15, qi_16, qi_17, qi_20, qi_24, qi_30, qi_31, qi_32, qi_60, qi_99, qi_100, qi_200, qi_1000, qi_3400, qi_4000, qi_of, pu_gI, pu_pI, nI_leI, nI_ltI, nI_eq, nI_add, pk_mul, pk_sub, pk_div, qw_s, qw_o, qw_l, qr_s, qr_o, qr_l, ql_i, ql_s, ql_o, pk_us, pk_un, pk_uLs, pk_uLn, if_pos, if_neg, if_true, if_false, ite_self, eq_self, Nat.zero_add, Nat.add_zero, qwr, not_true_eq_false, not_false_eq_true, Option.some.injEq, qe_gn0, qe_m1n, qe_gng, qe_ngn, qe_gm, qe_mg, qe_lm1, qe_lgn, qe_lem, qe_leg, qe_tm1, qe_tgn, has0_y hG.1 hn hg, isGod_y h10 hn hg, in7_y, hbk, hko, ho]
        have hk1 : gK (T.1 7) g ≠ nI 1 := by rw [hk]; exact fun z => absurd ((nI_eq (by decide) (by decide)).mp z) (by decide)
        obtain ⟨q1, q2⟩ := hH g hg hk1
        unfold bX7_mark_56 mX5_daysSinceFed
        rcases hA with ha | ⟨x, hx, ha⟩
        · have hno : mX0_has S (30 + 1) gN = nI 0 := has0_o hG.1 (Or.inl (by decide +kernel))
          simp (disch := omega) only [qlt, qb_some, qb_none, ↓qn_1, ↓qn_2, ↓qn_3, ↓qn_4, ↓qn_9, ↓qn_1000, ↓qn_low, qi_0, qi_1, qi_2, qi_3, qi_4, qi_5, qi_6, qi_7, qi_8, qi_9, qi_10, qi_11, qi_12, qi_13, qi_14, qi_15, qi_16, qi_17, qi_20, qi_24, qi_30, qi_31, qi_32, qi_60, qi_99, qi_100, qi_200, qi_1000, qi_3400, qi_4000, qi_of, pu_gI, pu_pI, nI_leI, nI_ltI, nI_eq, nI_add, pk_mul, pk_sub, pk_div, qw_s, qw_o, qw_l, qr_s, qr_o, qr_l, ql_i, ql_s, ql_o, pk_us, pk_un, pk_uLs, pk_uLn, if_pos, if_neg, if_true, if_false, ite_self, eq_self, Nat.zero_add, Nat.add_zero, qwr, not_true_eq_false, not_false_eq_true, Option.some.injEq, qe_gn0, qe_m1n, qe_gng, qe_ngn, qe_gm, qe_mg, qe_lm1, qe_lgn, qe_lem, qe_leg, qe_tm1, qe_tgn, g6, ha, hno, m7_v hf, q1 ha]
          exact ⟨_, _, rfl, rfl, rfl, R⟩
        · have hl := dsf_l (a := x) h0 hd (by omega) hD FU d (Nat.le_refl d) (by unfold FU; omega)
          have hq := q2 x (by omega) ha
          have hxn : x < n := by omega
          simp (disch := omega) only [qlt, qb_some, qb_none, ↓qn_1, ↓qn_2, ↓qn_3, ↓qn_4, ↓qn_9, ↓qn_1000, ↓qn_low, qi_0, qi_1, qi_2, qi_3, qi_4, qi_5, qi_6, qi_7, qi_8, qi_9, qi_10, qi_11, qi_12, qi_13, qi_14, qi_15, qi_16, qi_17, qi_20, qi_24, qi_30, qi_31, qi_32, qi_60, qi_99, qi_100, qi_200, qi_1000, qi_3400, qi_4000, qi_of, pu_gI, pu_pI, nI_leI, nI_ltI, nI_eq, nI_add, pk_mul, pk_sub, pk_div, qw_s, qw_o, qw_l, qr_s, qr_o, qr_l, ql_i, ql_s, ql_o, pk_us, pk_un, pk_uLs, pk_uLn, if_pos, if_neg, if_true, if_false, ite_self, eq_self, Nat.zero_add, Nat.add_zero, qwr, not_true_eq_false, not_false_eq_true, Option.some.injEq, qe_gn0, qe_m1n, qe_gng, qe_ngn, qe_gm, qe_mg, qe_lm1, qe_lgn, qe_lem, qe_leg, qe_tm1, qe_tgn, g6, ha, has0_y hG.1 hn hxn, m7_v hf, hq, h0, hl, hd14]
          by_cases e9 : lastF (S.1 (30 + 15)) x d = gN
          · rw [if_pos e9, if_pos e9]; exact ⟨_, _, rfl, rfl, rfl, R⟩
          · rw [if_neg e9, if_neg e9]; exact ⟨_, _, rfl, rfl, rfl, R⟩
  · cases ho : ofK (T.1 7) g 3
    · have hno : ¬ c = 3 ∧ ¬ c = 5 := by
        have ho2 := eo
        rw [ho] at ho2
        simpa using ho2.symm
      unfold mX6_mark mX7_mark bX7_mark_40 bX7_mark_50
      simp (disch := omega) only [qlt, qb_some, qb_none, ↓qn_1, ↓qn_2, ↓qn_3, ↓qn_4, ↓qn_9, ↓qn_1000, ↓qn_low, qi_0, qi_1, qi_2, qi_3, qi_4, qi_5, qi_6, qi_7, qi_8, qi_9, qi_10, qi_11, qi_12, qi_13, qi_14, qi_15, qi_16, qi_17, qi_20, qi_24, qi_30, qi_31, qi_32, qi_60, qi_99, qi_100, qi_200, qi_1000, qi_3400, qi_4000, qi_of, pu_gI, pu_pI, nI_leI, nI_ltI, nI_eq, nI_add, pk_mul, pk_sub, pk_div, qw_s, qw_o, qw_l, qr_s, qr_o, qr_l, ql_i, ql_s, ql_o, pk_us, pk_un, pk_uLs, pk_uLn, if_pos, if_neg, if_true, if_false, ite_self, eq_self, Nat.zero_add, Nat.add_zero, qwr, not_true_eq_false, not_false_eq_true, Option.some.injEq, qe_gn0, qe_m1n, qe_gng, qe_ngn, qe_gm, qe_mg, qe_lm1, qe_lgn, qe_lem, qe_leg, qe_tm1, qe_tgn, has0_y hG.1 hn hg, isGod_y h10 hn hg, in7_y, hbk, hko, ho, Bool.false_eq_true, qf_found, qf_meets]
      refine ⟨(q3, fS S 3), (q3, fT T 3), rfl, ?_, rfl, Rel_found R (by decide)⟩
      first | rfl | (split <;> first | rfl | omega)
    · have hy : c = 3 ∨ c = 5 := by
        have ho2 := eo
        rw [ho] at ho2
        simpa using ho2.symm
      rcases hy with e3 | e5
      · subst e3
        unfold mX6_mark mX7_mark bX7_mark_40 bX7_mark_50
        simp (disch := omega) only [qlt, qb_some, qb_none, ↓qn_1, ↓qn_2, ↓qn_3, ↓qn_4, ↓qn_9, ↓qn_1000, ↓qn_low, qi_0, qi_1, qi_2, qi_3, qi_4, qi_5, qi_6, qi_7, qi_8, qi_9, qi_10, qi_11, qi_12, qi_13, qi_14, qi_15, qi_16, qi_17, qi_20, qi_24, qi_30, qi_31, qi_32, qi_60, qi_99, qi_100, qi_200, qi_1000, qi_3400, qi_4000, qi_of, pu_gI, pu_pI, nI_leI, nI_ltI, nI_eq, nI_add, pk_mul, pk_sub, pk_div, qw_s, qw_o, qw_l, qr_s, qr_o, qr_l, ql_i, ql_s, ql_o, pk_us, pk_un, pk_uLs, pk_uLn, if_pos, if_neg, if_true, if_false, ite_self, eq_self, Nat.zero_add, Nat.add_zero, qwr, not_true_eq_false, not_false_eq_true, Option.some.injEq, qe_gn0, qe_m1n, qe_gng, qe_ngn, qe_gm, qe_mg, qe_lm1, qe_lgn, qe_lem, qe_leg, qe_tm1, qe_tgn, has0_y hG.1 hn hg, isGod_y h10 hn hg, in7_y, hbk, hko, ho]
        unfold bX7_mark_56 mX3_isOddDay
        have o1 := odd6 hd14 (show d ≤ 1000 by omega)
        rw [← hS.1] at o1
        have o2 : nI d - nI d / nI 2 * nI 2 = nI (d % 2) := pk_rem (by omega) (by decide) (by decide)
        have o3 : oddD (fr T 0) = decide (d % 2 = 1) := by unfold oddD; rw [hd14, nI_clamp (by omega)]
        simp only [qi_14, qi_0, m7_v hf (show 14 < 15 by decide), hd14, qb_some, qi_2, o2, qi_1, o1, o3]
        by_cases hodd : d % 2 = 1
        · simp (disch := omega) only [qlt, qb_some, qb_none, ↓qn_1, ↓qn_2, ↓qn_3, ↓qn_4, ↓qn_9, ↓qn_1000, ↓qn_low, qi_0, qi_1, qi_2, qi_3, qi_4, qi_5, qi_6, qi_7, qi_8, qi_9, qi_10, qi_11, qi_12, qi_13, qi_14, qi_15, qi_16, qi_17, qi_20, qi_24, qi_30, qi_31, qi_32, qi_60, qi_99, qi_100, qi_200, qi_1000, qi_3400, qi_4000, qi_of, pu_gI, pu_pI, nI_leI, nI_ltI, nI_eq, nI_add, pk_mul, pk_sub, pk_div, qw_s, qw_o, qw_l, qr_s, qr_o, qr_l, ql_i, ql_s, ql_o, pk_us, pk_un, pk_uLs, pk_uLn, if_pos, if_neg, if_true, if_false, ite_self, eq_self, Nat.zero_add, Nat.add_zero, qwr, not_true_eq_false, not_false_eq_true, Option.some.injEq, qe_gn0, qe_m1n, qe_gng, qe_ngn, qe_gm, qe_mg, qe_lm1, qe_lgn, qe_lem, qe_leg, qe_tm1, qe_tgn, hodd]
          refine ⟨_, _, rfl, rfl, ?_, R⟩
          simp
        · have : d % 2 = 0 := by omega
          simp (disch := omega) only [qlt, qb_some, qb_none, ↓qn_1, ↓qn_2, ↓qn_3, ↓qn_4, ↓qn_9, ↓qn_1000, ↓qn_low, qi_0, qi_1, qi_2, qi_3, qi_4, qi_5, qi_6, qi_7, qi_8, qi_9, qi_10, qi_11, qi_12, qi_13, qi_14, qi_15, qi_16, qi_17, qi_20, qi_24, qi_30, qi_31, qi_32, qi_60, qi_99, qi_100, qi_200, qi_1000, qi_3400, qi_4000, qi_of, pu_gI, pu_pI, nI_leI, nI_ltI, nI_eq, nI_add, pk_mul, pk_sub, pk_div, qw_s, qw_o, qw_l, qr_s, qr_o, qr_l, ql_i, ql_s, ql_o, pk_us, pk_un, pk_uLs, pk_uLn, if_pos, if_neg, if_true, if_false, ite_self, eq_self, Nat.zero_add, Nat.add_zero, qwr, not_true_eq_false, not_false_eq_true, Option.some.injEq, qe_gn0, qe_m1n, qe_gng, qe_ngn, qe_gm, qe_mg, qe_lm1, qe_lgn, qe_lem, qe_leg, qe_tm1, qe_tgn, this]
          refine ⟨_, _, rfl, rfl, ?_, R⟩
          simp
      · subst e5
        unfold mX6_mark mX7_mark bX7_mark_40 bX7_mark_50
        simp (disch := omega) only [qlt, qb_some, qb_none, ↓qn_1, ↓qn_2, ↓qn_3, ↓qn_4, ↓qn_9, ↓qn_1000, ↓qn_low, qi_0, qi_1, qi_2, qi_3, qi_4, qi_5, qi_6, qi_7, qi_8, qi_9, qi_10, qi_11, qi_12, qi_13, qi_14, qi_15, qi_16, qi_17, qi_20, qi_24, qi_30, qi_31, qi_32, qi_60, qi_99, qi_100, qi_200, qi_1000, qi_3400, qi_4000, qi_of, pu_gI, pu_pI, nI_leI, nI_ltI, nI_eq, nI_add, pk_mul, pk_sub, pk_div, qw_s, qw_o, qw_l, qr_s, qr_o, qr_l, ql_i, ql_s, ql_o, pk_us, pk_un, pk_uLs, pk_uLn, if_pos, if_neg, if_true, if_false, ite_self, eq_self, Nat.zero_add, Nat.add_zero, qwr, not_true_eq_false, not_false_eq_true, Option.some.injEq, qe_gn0, qe_m1n, qe_gng, qe_ngn, qe_gm, qe_mg, qe_lm1, qe_lgn, qe_lem, qe_leg, qe_tm1, qe_tgn, has0_y hG.1 hn hg, isGod_y h10 hn hg, in7_y, hbk, hko, ho]
        unfold bX7_mark_56 mX3_isOddDay
        have o1 := odd6 hd14 (show d ≤ 1000 by omega)
        rw [← hS.1] at o1
        have o2 : nI d - nI d / nI 2 * nI 2 = nI (d % 2) := pk_rem (by omega) (by decide) (by decide)
        have o3 : oddD (fr T 0) = decide (d % 2 = 1) := by unfold oddD; rw [hd14, nI_clamp (by omega)]
        simp only [qi_14, qi_0, m7_v hf (show 14 < 15 by decide), hd14, qb_some, qi_2, o2, qi_1, o1, o3]
        by_cases hodd : d % 2 = 1
        · simp (disch := omega) only [qlt, qb_some, qb_none, ↓qn_1, ↓qn_2, ↓qn_3, ↓qn_4, ↓qn_9, ↓qn_1000, ↓qn_low, qi_0, qi_1, qi_2, qi_3, qi_4, qi_5, qi_6, qi_7, qi_8, qi_9, qi_10, qi_11, qi_12, qi_13, qi_14, qi_15, qi_16, qi_17, qi_20, qi_24, qi_30, qi_31, qi_32, qi_60, qi_99, qi_100, qi_200, qi_1000, qi_3400, qi_4000, qi_of, pu_gI, pu_pI, nI_leI, nI_ltI, nI_eq, nI_add, pk_mul, pk_sub, pk_div, qw_s, qw_o, qw_l, qr_s, qr_o, qr_l, ql_i, ql_s, ql_o, pk_us, pk_un, pk_uLs, pk_uLn, if_pos, if_neg, if_true, if_false, ite_self, eq_self, Nat.zero_add, Nat.add_zero, qwr, not_true_eq_false, not_false_eq_true, Option.some.injEq, qe_gn0, qe_m1n, qe_gng, qe_ngn, qe_gm, qe_mg, qe_lm1, qe_lgn, qe_lem, qe_leg, qe_tm1, qe_tgn, hodd]
          refine ⟨_, _, rfl, rfl, ?_, R⟩
          simp
        · have : d % 2 = 0 := by omega
          simp (disch := omega) only [qlt, qb_some, qb_none, ↓qn_1, ↓qn_2, ↓qn_3, ↓qn_4, ↓qn_9, ↓qn_1000, ↓qn_low, qi_0, qi_1, qi_2, qi_3, qi_4, qi_5, qi_6, qi_7, qi_8, qi_9, qi_10, qi_11, qi_12, qi_13, qi_14, qi_15, qi_16, qi_17, qi_20, qi_24, qi_30, qi_31, qi_32, qi_60, qi_99, qi_100, qi_200, qi_1000, qi_3400, qi_4000, qi_of, pu_gI, pu_pI, nI_leI, nI_ltI, nI_eq, nI_add, pk_mul, pk_sub, pk_div, qw_s, qw_o, qw_l, qr_s, qr_o, qr_l, ql_i, ql_s, ql_o, pk_us, pk_un, pk_uLs, pk_uLn, if_pos, if_neg, if_true, if_false, ite_self, eq_self, Nat.zero_add, Nat.add_zero, qwr, not_true_eq_false, not_false_eq_true, Option.some.injEq, qe_gn0, qe_m1n, qe_gng, qe_ngn, qe_gm, qe_mg, qe_lm1, qe_lgn, qe_lem, qe_leg, qe_tm1, qe_tgn, this]
          refine ⟨_, _, rfl, rfl, ?_, R⟩
          simp
  · cases ho : ofK (T.1 7) g 4
    · have hno : ¬ c = 4 := by
        have ho2 := eo
        rw [ho] at ho2
        simpa using ho2.symm
      unfold mX6_mark mX7_mark bX7_mark_40 bX7_mark_50
      simp (disch := omega) only [qlt, qb_some, qb_none, ↓qn_1, ↓qn_2, ↓qn_3, ↓qn_4, ↓qn_9, ↓qn_1000, ↓qn_low, qi_0, qi_1, qi_2, qi_3, qi_4, qi_5, qi_6, qi_7, qi_8, qi_9, qi_10, qi_11, qi_12, qi_13, qi_14, qi_15, qi_16, qi_17, qi_20, qi_24, qi_30, qi_31, qi_32, qi_60, qi_99, qi_100, qi_200, qi_1000, qi_3400, qi_4000, qi_of, pu_gI, pu_pI, nI_leI, nI_ltI, nI_eq, nI_add, pk_mul, pk_sub, pk_div, qw_s, qw_o, qw_l, qr_s, qr_o, qr_l, ql_i, ql_s, ql_o, pk_us, pk_un, pk_uLs, pk_uLn, if_pos, if_neg, if_true, if_false, ite_self, eq_self, Nat.zero_add, Nat.add_zero, qwr, not_true_eq_false, not_false_eq_true, Option.some.injEq, qe_gn0, qe_m1n, qe_gng, qe_ngn, qe_gm, qe_mg, qe_lm1, qe_lgn, qe_lem, qe_leg, qe_tm1, qe_tgn, has0_y hG.1 hn hg, isGod_y h10 hn hg, in7_y, hbk, hko, ho, Bool.false_eq_true, qf_found, qf_meets]
      refine ⟨(q3, fS S 3), (q3, fT T 3), rfl, ?_, rfl, Rel_found R (by decide)⟩
      first | rfl | (split <;> first | rfl | omega)
    · have hy : c = 4 := by
        have ho2 := eo
        rw [ho] at ho2
        simpa using ho2.symm
      have e4 := hy
      · subst e4
        unfold mX6_mark mX7_mark bX7_mark_40 bX7_mark_50
        simp (disch := omega) only [qlt, qb_some, qb_none, ↓qn_1, ↓qn_2, ↓qn_3, ↓qn_4, ↓qn_9, ↓qn_1000, ↓qn_low, qi_0, qi_1, qi_2, qi_3, qi_4, qi_5, qi_6, qi_7, qi_8, qi_9, qi_10, qi_11, qi_12, qi_13, qi_14, qi_15, qi_16, qi_17, qi_20, qi_24, qi_30, qi_31, qi_32, qi_60, qi_99, qi_100, qi_200, qi_1000, qi_3400, qi_4000, qi_of, pu_gI, pu_pI, nI_leI, nI_ltI, nI_eq, nI_add, pk_mul, pk_sub, pk_div, qw_s, qw_o, qw_l, qr_s, qr_o, qr_l, ql_i, ql_s, ql_o, pk_us, pk_un, pk_uLs, pk_uLn, if_pos, if_neg, if_true, if_false, ite_self, eq_self, Nat.zero_add, Nat.add_zero, qwr, not_true_eq_false, not_false_eq_true, Option.some.injEq, qe_gn0, qe_m1n, qe_gng, qe_ngn, qe_gm, qe_mg, qe_lm1, qe_lgn, qe_lem, qe_leg, qe_tm1, qe_tgn, has0_y hG.1 hn hg, isGod_y h10 hn hg, in7_y, hbk, hko, ho]
        unfold bX7_mark_56 mX6_shortOfGoing mX0_leavingHunger
        by_cases hgo : fr T 0 (3 + g) = gN
        · simp (disch := omega) only [qlt, qb_some, qb_none, ↓qn_1, ↓qn_2, ↓qn_3, ↓qn_4, ↓qn_9, ↓qn_1000, ↓qn_low, qi_0, qi_1, qi_2, qi_3, qi_4, qi_5, qi_6, qi_7, qi_8, qi_9, qi_10, qi_11, qi_12, qi_13, qi_14, qi_15, qi_16, qi_17, qi_20, qi_24, qi_30, qi_31, qi_32, qi_60, qi_99, qi_100, qi_200, qi_1000, qi_3400, qi_4000, qi_of, pu_gI, pu_pI, nI_leI, nI_ltI, nI_eq, nI_add, pk_mul, pk_sub, pk_div, qw_s, qw_o, qw_l, qr_s, qr_o, qr_l, ql_i, ql_s, ql_o, pk_us, pk_un, pk_uLs, pk_uLn, if_pos, if_neg, if_true, if_false, ite_self, eq_self, Nat.zero_add, Nat.add_zero, qwr, not_true_eq_false, not_false_eq_true, Option.some.injEq, qe_gn0, qe_m1n, qe_gng, qe_ngn, qe_gm, qe_mg, qe_lm1, qe_lgn, qe_lem, qe_leg, qe_tm1, qe_tgn, gone6 hn hS hg, hgo, m7_gone hf hg4]
          exact ⟨_, _, rfl, rfl, rfl, R⟩
        · have hhu : S.1 (30 + 11 + 2) g = fr T 0 (3 + g) := hS.2.2.2.2 g hg hgo
          simp (disch := omega) only [qlt, qb_some, qb_none, ↓qn_1, ↓qn_2, ↓qn_3, ↓qn_4, ↓qn_9, ↓qn_1000, ↓qn_low, qi_0, qi_1, qi_2, qi_3, qi_4, qi_5, qi_6, qi_7, qi_8, qi_9, qi_10, qi_11, qi_12, qi_13, qi_14, qi_15, qi_16, qi_17, qi_20, qi_24, qi_30, qi_31, qi_32, qi_60, qi_99, qi_100, qi_200, qi_1000, qi_3400, qi_4000, qi_of, pu_gI, pu_pI, nI_leI, nI_ltI, nI_eq, nI_add, pk_mul, pk_sub, pk_div, qw_s, qw_o, qw_l, qr_s, qr_o, qr_l, ql_i, ql_s, ql_o, pk_us, pk_un, pk_uLs, pk_uLn, if_pos, if_neg, if_true, if_false, ite_self, eq_self, Nat.zero_add, Nat.add_zero, qwr, not_true_eq_false, not_false_eq_true, Option.some.injEq, qe_gn0, qe_m1n, qe_gng, qe_ngn, qe_gm, qe_mg, qe_lm1, qe_lgn, qe_lem, qe_leg, qe_tm1, qe_tgn, gone6 hn hS hg, hgo, m7_gone hf hg4, g3, m7_pat hg4, hhu, m7_v hf, mx_gr]
          exact ⟨_, _, rfl, rfl, rfl, R⟩
  · cases ho : ofK (T.1 7) g 5
    · have hno : ¬ c = 5 := by
        have ho2 := eo
        rw [ho] at ho2
        simpa using ho2.symm
      unfold mX6_mark mX7_mark bX7_mark_40 bX7_mark_50
      simp (disch := omega) only [qlt, qb_some, qb_none, ↓qn_1, ↓qn_2, ↓qn_3, ↓qn_4, ↓qn_9, ↓qn_1000, ↓qn_low, qi_0, qi_1, qi_2, qi_3, qi_4, qi_5, qi_6, qi_7, qi_8, qi_9, qi_10, qi_11, qi_12, qi_13, qi_14, qi_15, qi_16, qi_17, qi_20, qi_24, qi_30, qi_31, qi_32, qi_60, qi_99, qi_100, qi_200, qi_1000, qi_3400, qi_4000, qi_of, pu_gI, pu_pI, nI_leI, nI_ltI, nI_eq, nI_add, pk_mul, pk_sub, pk_div, qw_s, qw_o, qw_l, qr_s, qr_o, qr_l, ql_i, ql_s, ql_o, pk_us, pk_un, pk_uLs, pk_uLn, if_pos, if_neg, if_true, if_false, ite_self, eq_self, Nat.zero_add, Nat.add_zero, qwr, not_true_eq_false, not_false_eq_true, Option.some.injEq, qe_gn0, qe_m1n, qe_gng, qe_ngn, qe_gm, qe_mg, qe_lm1, qe_lgn, qe_lem, qe_leg, qe_tm1, qe_tgn, has0_y hG.1 hn hg, isGod_y h10 hn hg, in7_y, hbk, hko, ho, Bool.false_eq_true, qf_found, qf_meets]
      refine ⟨(q3, fS S 3), (q3, fT T 3), rfl, ?_, rfl, Rel_found R (by decide)⟩
      first | rfl | (split <;> first | rfl | omega)
    · have hy : c = 5 := by
        have ho2 := eo
        rw [ho] at ho2
        simpa using ho2.symm
      have e5 := hy
      · subst e5
        unfold mX6_mark mX7_mark bX7_mark_40 bX7_mark_50
        simp (disch := omega) only [qlt, qb_some, qb_none, ↓qn_1, ↓qn_2, ↓qn_3, ↓qn_4, ↓qn_9, ↓qn_1000, ↓qn_low, qi_0, qi_1, qi_2, qi_3, qi_4, qi_5, qi_6, qi_7, qi_8, qi_9, qi_10, qi_11, qi_12, qi_13, qi_14, qi_15, qi_16, qi_17, qi_20, qi_24, qi_30, qi_31, qi_32, qi_60, qi_99, qi_100, qi_200, qi_1000, qi_3400, qi_4000, qi_of, pu_gI, pu_pI, nI_leI, nI_ltI, nI_eq, nI_add, pk_mul, pk_sub, pk_div, qw_s, qw_o, qw_l, qr_s, qr_o, qr_l, ql_i, ql_s, ql_o, pk_us, pk_un, pk_uLs, pk_uLn, if_pos, if_neg, if_true, if_false, ite_self, eq_self, Nat.zero_add, Nat.add_zero, qwr, not_true_eq_false, not_false_eq_true, Option.some.injEq, qe_gn0, qe_m1n, qe_gng, qe_ngn, qe_gm, qe_mg, qe_lm1, qe_lgn, qe_lem, qe_leg, qe_tm1, qe_tgn, has0_y hG.1 hn hg, isGod_y h10 hn hg, in7_y, hbk, hko, ho]
        unfold bX7_mark_56 mX3_wasEverFed
        have hb7 : nib (fr T 0 7) := hFI.2.1
        have e2 : S.1 (30 + 11) 2 = fr T 0 7 := hS.2.2.1
        simp (disch := omega) only [qlt, qb_some, qb_none, ↓qn_1, ↓qn_2, ↓qn_3, ↓qn_4, ↓qn_9, ↓qn_1000, ↓qn_low, qi_0, qi_1, qi_2, qi_3, qi_4, qi_5, qi_6, qi_7, qi_8, qi_9, qi_10, qi_11, qi_12, qi_13, qi_14, qi_15, qi_16, qi_17, qi_20, qi_24, qi_30, qi_31, qi_32, qi_60, qi_99, qi_100, qi_200, qi_1000, qi_3400, qi_4000, qi_of, pu_gI, pu_pI, nI_leI, nI_ltI, nI_eq, nI_add, pk_mul, pk_sub, pk_div, qw_s, qw_o, qw_l, qr_s, qr_o, qr_l, ql_i, ql_s, ql_o, pk_us, pk_un, pk_uLs, pk_uLn, if_pos, if_neg, if_true, if_false, ite_self, eq_self, Nat.zero_add, Nat.add_zero, qwr, not_true_eq_false, not_false_eq_true, Option.some.injEq, qe_gn0, qe_m1n, qe_gng, qe_ngn, qe_gm, qe_mg, qe_lm1, qe_lgn, qe_lem, qe_leg, qe_tm1, qe_tgn, e2, bt_c hb7 hg4, m7_v hf, has7_y]
        cases bt (fr T 0 7) g
        · simp (disch := omega) only [qlt, qb_some, qb_none, ↓qn_1, ↓qn_2, ↓qn_3, ↓qn_4, ↓qn_9, ↓qn_1000, ↓qn_low, qi_0, qi_1, qi_2, qi_3, qi_4, qi_5, qi_6, qi_7, qi_8, qi_9, qi_10, qi_11, qi_12, qi_13, qi_14, qi_15, qi_16, qi_17, qi_20, qi_24, qi_30, qi_31, qi_32, qi_60, qi_99, qi_100, qi_200, qi_1000, qi_3400, qi_4000, qi_of, pu_gI, pu_pI, nI_leI, nI_ltI, nI_eq, nI_add, pk_mul, pk_sub, pk_div, qw_s, qw_o, qw_l, qr_s, qr_o, qr_l, ql_i, ql_s, ql_o, pk_us, pk_un, pk_uLs, pk_uLn, if_pos, if_neg, if_true, if_false, ite_self, eq_self, Nat.zero_add, Nat.add_zero, qwr, not_true_eq_false, not_false_eq_true, Option.some.injEq, qe_gn0, qe_m1n, qe_gng, qe_ngn, qe_gm, qe_mg, qe_lm1, qe_lgn, qe_lem, qe_leg, qe_tm1, qe_tgn, Bool.false_eq_true]
          exact ⟨_, _, rfl, rfl, rfl, R⟩
        · simp (disch := omega) only [qlt, qb_some, qb_none, ↓qn_1, ↓qn_2, ↓qn_3, ↓qn_4, ↓qn_9, ↓qn_1000, ↓qn_low, qi_0, qi_1, qi_2, qi_3, qi_4, qi_5, qi_6, qi_7, qi_8, qi_9, qi_10, qi_11, qi_12, qi_13, qi_14, qi_15, qi_16, qi_17, qi_20, qi_24, qi_30, qi_31, qi_32, qi_60, qi_99, qi_100, qi_200, qi_1000, qi_3400, qi_4000, qi_of, pu_gI, pu_pI, nI_leI, nI_ltI, nI_eq, nI_add, pk_mul, pk_sub, pk_div, qw_s, qw_o, qw_l, qr_s, qr_o, qr_l, ql_i, ql_s, ql_o, pk_us, pk_un, pk_uLs, pk_uLn, if_pos, if_neg, if_true, if_false, ite_self, eq_self, Nat.zero_add, Nat.add_zero, qwr, not_true_eq_false, not_false_eq_true, Option.some.injEq, qe_gn0, qe_m1n, qe_gng, qe_ngn, qe_gm, qe_mg, qe_lm1, qe_lgn, qe_lem, qe_leg, qe_tm1, qe_tgn, Bool.true_eq_false]
          exact ⟨_, _, rfl, rfl, rfl, R⟩
