/-! ===== PURE: rows and texts, the other calls ===== -/
theorem z01 : nI 0 - nI 1 = m1 := by decide +kernel
theorem in7_neg {a x : Int32} (h : a < nI 0) : mX7_in a (nI 0) x = nI 0 := by
  unfold mX7_in bX7_in_14
  rw [if_pos h]
  exact qi_0
theorem wI_comm {S : vS} {c c' j j' : Nat} {x y : Int32} (h : c ≠ c') : wI (wI S c j x) c' j' y = wI (wI S c' j' y) c j x := by
  refine Prod.ext ?_ rfl
  funext q
  show (if q = c' then upd ((wI S c j x).1 c') j' y else if q = c then upd (S.1 c) j x else S.1 q) = (if q = c then upd ((wI S c' j' y).1 c) j x else if q = c' then upd (S.1 c') j' y else S.1 q)
  rw [qw_o h.symm, qw_o h]
  by_cases h1 : q = c
  · subst h1
    rw [if_neg h, if_pos rfl, if_pos rfl]
  · by_cases h2 : q = c'
    · rw [if_pos h2, if_neg h1, if_pos h2]
    · rw [if_neg h2, if_neg h1, if_neg h1, if_neg h2]
/-- a place that there is not -/
def byd (i : Int32) (m : Nat) : Prop := i < nI 0 ∨ ∃ p, m ≤ p ∧ p < 2 ^ 31 ∧ i = nI p
theorem byd_or (i : Int32) (m : Nat) : byd i m ∨ ∃ p, p < m ∧ i = nI p := by
  rcases sg_or i with h | ⟨p, hp, rfl⟩
  · exact Or.inl (Or.inl h)
  · by_cases h : p < m
    · exact Or.inr ⟨p, h, rfl⟩
    · exact Or.inl (Or.inr ⟨p, by omega, hp, rfl⟩)
theorem in7_b1 {i : Int32} {m : Nat} (h : byd i m) (hm : 1 ≤ m) : mX7_in i (nI 0) (nI (m - 1)) = nI 0 := by
  rcases h with h | ⟨p, h1, h2, rfl⟩
  · exact in7_neg h
  · exact in7_hi (by omega) h2
theorem in7_b0 {i : Int32} (h : byd i 0) : mX7_in i (nI 0) m1 = nI 0 := by
  rcases h with h | ⟨p, h1, h2, rfl⟩
  · exact in7_neg h
  · exact in7_m h2
section PR
variable {S : vS} {k z r m : Nat}
theorem holds_b {i : Int32} (h : r < z) (hz : z < 2 ^ 31) (hs : S.1 (k + 2 + z) r = nI m) (hm : m ≤ 60) (hi : byd i m) : mX4_holds S k z (nI r) i (nI 1) = some (nI 0) := by
  rcases hi with h1 | ⟨p, h1, h2, rfl⟩
  · exact holds_neg h hz hs hm h1
  · exact holds_n h hz hs hm (by omega) h2 (by decide)
theorem pr_n {i : Int32} (h : r < z) (hz : z < 2 ^ 31) (hs : S.1 (k + 2 + z) r = m1) : mX6_placeRefused S k z (nI r) i = some (q3, fS S 1) := by
  unfold mX6_placeRefused
  simp (disch := omega) only [qlt, qb_some, qb_none, ↓qn_1, ↓qn_2, ↓qn_3, ↓qn_4, ↓qn_9, ↓qn_1000, ↓qn_low, qi_0, qi_1, qi_2, qi_3, qi_4, qi_5, qi_6, qi_7, qi_8, qi_9, qi_10, qi_11, qi_12, qi_13, qi_14, qi_15, qi_16, qi_17, qi_20, qi_24, qi_30, qi_31, qi_32, qi_60, qi_99, qi_100, qi_200, qi_1000, qi_3400, qi_4000, qi_of, pu_gI, pu_pI, nI_leI, nI_ltI, nI_eq, nI_add, pk_mul, pk_sub, pk_div, qw_s, qw_o, qw_l, qr_s, qr_o, qr_l, ql_i, ql_s, ql_o, pk_us, pk_un, pk_uLs, pk_uLn, if_pos, if_neg, if_true, if_false, ite_self, eq_self, Nat.zero_add, Nat.add_zero, qwr, not_true_eq_false, not_false_eq_true, Option.some.injEq, qe_gn0, qe_m1n, qe_gng, qe_ngn, qe_gm, qe_mg, qe_lm1, qe_lgn, qe_lem, qe_leg, qe_tm1, qe_tgn, there_n h hz hs, qf_found]
theorem pr_b {i : Int32} (h : r < z) (hz : z < 2 ^ 31) (hs : S.1 (k + 2 + z) r = nI m) (hm : m ≤ 60) (hi : byd i m) : mX6_placeRefused S k z (nI r) i = some (q3, fS S 2) := by
  unfold mX6_placeRefused
  simp (disch := omega) only [qlt, qb_some, qb_none, ↓qn_1, ↓qn_2, ↓qn_3, ↓qn_4, ↓qn_9, ↓qn_1000, ↓qn_low, qi_0, qi_1, qi_2, qi_3, qi_4, qi_5, qi_6, qi_7, qi_8, qi_9, qi_10, qi_11, qi_12, qi_13, qi_14, qi_15, qi_16, qi_17, qi_20, qi_24, qi_30, qi_31, qi_32, qi_60, qi_99, qi_100, qi_200, qi_1000, qi_3400, qi_4000, qi_of, pu_gI, pu_pI, nI_leI, nI_ltI, nI_eq, nI_add, pk_mul, pk_sub, pk_div, qw_s, qw_o, qw_l, qr_s, qr_o, qr_l, ql_i, ql_s, ql_o, pk_us, pk_un, pk_uLs, pk_uLn, if_pos, if_neg, if_true, if_false, ite_self, eq_self, Nat.zero_add, Nat.add_zero, qwr, not_true_eq_false, not_false_eq_true, Option.some.injEq, qe_gn0, qe_m1n, qe_gng, qe_ngn, qe_gm, qe_mg, qe_lm1, qe_lgn, qe_lem, qe_leg, qe_tm1, qe_tgn, there_y h hz hs hm, holds_b h hz hs hm hi, qf_found]
theorem pr_y {p : Nat} (h : r < z) (hz : z < 2 ^ 31) (hs : S.1 (k + 2 + z) r = nI m) (hm : m ≤ 60) (hi : p < m) : mX6_placeRefused S k z (nI r) (nI p) = some (nI 0, S) := by
  unfold mX6_placeRefused
  simp (disch := omega) only [qlt, qb_some, qb_none, ↓qn_1, ↓qn_2, ↓qn_3, ↓qn_4, ↓qn_9, ↓qn_1000, ↓qn_low, qi_0, qi_1, qi_2, qi_3, qi_4, qi_5, qi_6, qi_7, qi_8, qi_9, qi_10, qi_11, qi_12, qi_13, qi_14, qi_15, qi_16, qi_17, qi_20, qi_24, qi_30, qi_31, qi_32, qi_60, qi_99, qi_100, qi_200, qi_1000, qi_3400, qi_4000, qi_of, pu_gI, pu_pI, nI_leI, nI_ltI, nI_eq, nI_add, pk_mul, pk_sub, pk_div, qw_s, qw_o, qw_l, qr_s, qr_o, qr_l, ql_i, ql_s, ql_o, pk_us, pk_un, pk_uLs, pk_uLn, if_pos, if_neg, if_true, if_false, ite_self, eq_self, Nat.zero_add, Nat.add_zero, qwr, not_true_eq_false, not_false_eq_true, Option.some.injEq, qe_gn0, qe_m1n, qe_gng, qe_ngn, qe_gm, qe_mg, qe_lm1, qe_lgn, qe_lem, qe_leg, qe_tm1, qe_tgn, there_y h hz hs hm, holds_y h hz hs hm (show p + 1 ≤ m from hi)]
end PR
theorem q3_0 : (q3 = nI 0) = False := eq_false (by decide +kernel)
theorem Sh_write {S T : vS} {k z a b r i : Nat} {v : Int32} (hab : a ≠ b) (hr : r < z) (hi : i < 60) (R : Sh S T k z a b) : Sh (wI S (k + 2 + r) i v) (wI T b (60 * r + i) v) k z a b := by
  intro p hp
  obtain ⟨a1, a2, a3⟩ := R p hp
  simp (disch := omega) only [qlt, qb_some, qb_none, ↓qn_1, ↓qn_2, ↓qn_3, ↓qn_4, ↓qn_9, ↓qn_1000, ↓qn_low, qi_0, qi_1, qi_2, qi_3, qi_4, qi_5, qi_6, qi_7, qi_8, qi_9, qi_10, qi_11, qi_12, qi_13, qi_14, qi_15, qi_16, qi_17, qi_20, qi_24, qi_30, qi_31, qi_32, qi_60, qi_99, qi_100, qi_200, qi_1000, qi_3400, qi_4000, qi_of, pu_gI, pu_pI, nI_leI, nI_ltI, nI_eq, nI_add, pk_mul, pk_sub, pk_div, qw_s, qw_o, qw_l, qr_s, qr_o, qr_l, ql_i, ql_s, ql_o, pk_us, pk_un, pk_uLs, pk_uLn, if_pos, if_neg, if_true, if_false, ite_self, eq_self, Nat.zero_add, Nat.add_zero, qwr, not_true_eq_false, not_false_eq_true, Option.some.injEq, qe_gn0, qe_m1n, qe_gng, qe_ngn, qe_gm, qe_mg, qe_lm1, qe_lgn, qe_lem, qe_leg, qe_tm1, qe_tgn]
  refine ⟨a1, a2, fun m hm e q hq => ?_⟩
  by_cases h : p = r
  · subst h
    simp (disch := omega) only [qlt, qb_some, qb_none, ↓qn_1, ↓qn_2, ↓qn_3, ↓qn_4, ↓qn_9, ↓qn_1000, ↓qn_low, qi_0, qi_1, qi_2, qi_3, qi_4, qi_5, qi_6, qi_7, qi_8, qi_9, qi_10, qi_11, qi_12, qi_13, qi_14, qi_15, qi_16, qi_17, qi_20, qi_24, qi_30, qi_31, qi_32, qi_60, qi_99, qi_100, qi_200, qi_1000, qi_3400, qi_4000, qi_of, pu_gI, pu_pI, nI_leI, nI_ltI, nI_eq, nI_add, pk_mul, pk_sub, pk_div, qw_s, qw_o, qw_l, qr_s, qr_o, qr_l, ql_i, ql_s, ql_o, pk_us, pk_un, pk_uLs, pk_uLn, if_pos, if_neg, if_true, if_false, ite_self, eq_self, Nat.zero_add, Nat.add_zero, qwr, not_true_eq_false, not_false_eq_true, Option.some.injEq, qe_gn0, qe_m1n, qe_gng, qe_ngn, qe_gm, qe_mg, qe_lm1, qe_lgn, qe_lem, qe_leg, qe_tm1, qe_tgn]
    unfold upd
    by_cases hqi : q = i
    · rw [if_pos hqi, if_pos (by omega)]
    · rw [if_neg hqi, if_neg (by omega)]
      exact a3 m hm e q hq
  · simp (disch := omega) only [qlt, qb_some, qb_none, ↓qn_1, ↓qn_2, ↓qn_3, ↓qn_4, ↓qn_9, ↓qn_1000, ↓qn_low, qi_0, qi_1, qi_2, qi_3, qi_4, qi_5, qi_6, qi_7, qi_8, qi_9, qi_10, qi_11, qi_12, qi_13, qi_14, qi_15, qi_16, qi_17, qi_20, qi_24, qi_30, qi_31, qi_32, qi_60, qi_99, qi_100, qi_200, qi_1000, qi_3400, qi_4000, qi_of, pu_gI, pu_pI, nI_leI, nI_ltI, nI_eq, nI_add, pk_mul, pk_sub, pk_div, qw_s, qw_o, qw_l, qr_s, qr_o, qr_l, ql_i, ql_s, ql_o, pk_us, pk_un, pk_uLs, pk_uLn, if_pos, if_neg, if_true, if_false, ite_self, eq_self, Nat.zero_add, Nat.add_zero, qwr, not_true_eq_false, not_false_eq_true, Option.some.injEq, qe_gn0, qe_m1n, qe_gng, qe_ngn, qe_gm, qe_mg, qe_lm1, qe_lgn, qe_lem, qe_leg, qe_tm1, qe_tgn]
    exact a3 m hm e q hq
theorem Rel_lay {S T : vS} {r i : Nat} {v : Int32} (R : Rel S T) (hr : r < 6) (hi : i < 60) : Rel (wI S (3 + r) i v) (wI T 3 (60 * r + i) v) := by
  refine Rel_rows R (fun c h => ?_) rfl (fun c h1 h2 h3 => ?_) rfl (Sh_write (by decide) hr hi R.2.2.1)
  · simp (disch := omega) only [qlt, qb_some, qb_none, ↓qn_1, ↓qn_2, ↓qn_3, ↓qn_4, ↓qn_9, ↓qn_1000, ↓qn_low, qi_0, qi_1, qi_2, qi_3, qi_4, qi_5, qi_6, qi_7, qi_8, qi_9, qi_10, qi_11, qi_12, qi_13, qi_14, qi_15, qi_16, qi_17, qi_20, qi_24, qi_30, qi_31, qi_32, qi_60, qi_99, qi_100, qi_200, qi_1000, qi_3400, qi_4000, qi_of, pu_gI, pu_pI, nI_leI, nI_ltI, nI_eq, nI_add, pk_mul, pk_sub, pk_div, qw_s, qw_o, qw_l, qr_s, qr_o, qr_l, ql_i, ql_s, ql_o, pk_us, pk_un, pk_uLs, pk_uLn, if_pos, if_neg, if_true, if_false, ite_self, eq_self, Nat.zero_add, Nat.add_zero, qwr, not_true_eq_false, not_false_eq_true, Option.some.injEq, qe_gn0, qe_m1n, qe_gng, qe_ngn, qe_gm, qe_mg, qe_lm1, qe_lgn, qe_lem, qe_leg, qe_tm1, qe_tgn]
  · simp (disch := omega) only [qlt, qb_some, qb_none, ↓qn_1, ↓qn_2, ↓qn_3, ↓qn_4, ↓qn_9, ↓qn_1000, ↓qn_low, qi_0, qi_1, qi_2, qi_3, qi_4, qi_5, qi_6, qi_7, qi_8, qi_9, qi_10, qi_11, qi_12, qi_13, qi_14, qi_15, qi_16, qi_17, qi_20, qi_24, qi_30, qi_31, qi_32, qi_60, qi_99, qi_100, qi_200, qi_1000, qi_3400, qi_4000, qi_of, pu_gI, pu_pI, nI_leI, nI_ltI, nI_eq, nI_add, pk_mul, pk_sub, pk_div, qw_s, qw_o, qw_l, qr_s, qr_o, qr_l, ql_i, ql_s, ql_o, pk_us, pk_un, pk_uLs, pk_uLn, if_pos, if_neg, if_true, if_false, ite_self, eq_self, Nat.zero_add, Nat.add_zero, qwr, not_true_eq_false, not_false_eq_true, Option.some.injEq, qe_gn0, qe_m1n, qe_gng, qe_ngn, qe_gm, qe_mg, qe_lm1, qe_lgn, qe_lem, qe_leg, qe_tm1, qe_tgn]
theorem Rel_put {S T : vS} {r i : Nat} {v : Int32} (R : Rel S T) (hr : r < 4) (hi : i < 60) : Rel (wI S (12 + r) i v) (wI T 6 (60 * r + i) v) := by
  refine Rel_texts R (fun c h => ?_) rfl (fun c h1 h2 => ?_) rfl (Sh_write (by decide) hr hi R.2.2.2.1)
  · simp (disch := omega) only [qlt, qb_some, qb_none, ↓qn_1, ↓qn_2, ↓qn_3, ↓qn_4, ↓qn_9, ↓qn_1000, ↓qn_low, qi_0, qi_1, qi_2, qi_3, qi_4, qi_5, qi_6, qi_7, qi_8, qi_9, qi_10, qi_11, qi_12, qi_13, qi_14, qi_15, qi_16, qi_17, qi_20, qi_24, qi_30, qi_31, qi_32, qi_60, qi_99, qi_100, qi_200, qi_1000, qi_3400, qi_4000, qi_of, pu_gI, pu_pI, nI_leI, nI_ltI, nI_eq, nI_add, pk_mul, pk_sub, pk_div, qw_s, qw_o, qw_l, qr_s, qr_o, qr_l, ql_i, ql_s, ql_o, pk_us, pk_un, pk_uLs, pk_uLn, if_pos, if_neg, if_true, if_false, ite_self, eq_self, Nat.zero_add, Nat.add_zero, qwr, not_true_eq_false, not_false_eq_true, Option.some.injEq, qe_gn0, qe_m1n, qe_gng, qe_ngn, qe_gm, qe_mg, qe_lm1, qe_lgn, qe_lem, qe_leg, qe_tm1, qe_tgn]
  · simp (disch := omega) only [qlt, qb_some, qb_none, ↓qn_1, ↓qn_2, ↓qn_3, ↓qn_4, ↓qn_9, ↓qn_1000, ↓qn_low, qi_0, qi_1, qi_2, qi_3, qi_4, qi_5, qi_6, qi_7, qi_8, qi_9, qi_10, qi_11, qi_12, qi_13, qi_14, qi_15, qi_16, qi_17, qi_20, qi_24, qi_30, qi_31, qi_32, qi_60, qi_99, qi_100, qi_200, qi_1000, qi_3400, qi_4000, qi_of, pu_gI, pu_pI, nI_leI, nI_ltI, nI_eq, nI_add, pk_mul, pk_sub, pk_div, qw_s, qw_o, qw_l, qr_s, qr_o, qr_l, ql_i, ql_s, ql_o, pk_us, pk_un, pk_uLs, pk_uLn, if_pos, if_neg, if_true, if_false, ite_self, eq_self, Nat.zero_add, Nat.add_zero, qwr, not_true_eq_false, not_false_eq_true, Option.some.injEq, qe_gn0, qe_m1n, qe_gng, qe_ngn, qe_gm, qe_mg, qe_lm1, qe_lgn, qe_lem, qe_leg, qe_tm1, qe_tgn]
theorem st_lay : St_lay Rel := by
  intro S T a i v R
  unfold mX6_lay mX7_lay mX7_isRow
  rcases oR_or a (N := 6) (by decide) with h | ⟨r, hr, rfl⟩
  · simp (disch := omega) only [qlt, qb_some, qb_none, ↓qn_1, ↓qn_2, ↓qn_3, ↓qn_4, ↓qn_9, ↓qn_1000, ↓qn_low, qi_0, qi_1, qi_2, qi_3, qi_4, qi_5, qi_6, qi_7, qi_8, qi_9, qi_10, qi_11, qi_12, qi_13, qi_14, qi_15, qi_16, qi_17, qi_20, qi_24, qi_30, qi_31, qi_32, qi_60, qi_99, qi_100, qi_200, qi_1000, qi_3400, qi_4000, qi_of, pu_gI, pu_pI, nI_leI, nI_ltI, nI_eq, nI_add, pk_mul, pk_sub, pk_div, qw_s, qw_o, qw_l, qr_s, qr_o, qr_l, ql_i, ql_s, ql_o, pk_us, pk_un, pk_uLs, pk_uLn, if_pos, if_neg, if_true, if_false, ite_self, eq_self, Nat.zero_add, Nat.add_zero, qwr, not_true_eq_false, not_false_eq_true, Option.some.injEq, qe_gn0, qe_m1n, qe_gng, qe_ngn, qe_gm, qe_mg, qe_lm1, qe_lgn, qe_lem, qe_leg, qe_tm1, qe_tgn, has4_o (S := S) (k := 1) h, oR_in7 (by decide) h]
    exact ⟨_, _, rfl, rfl, rfl, R⟩
  obtain ⟨e1, e2, e3⟩ := R.2.2.1 r hr
  rcases e2 with e2 | ⟨m, hm, e2⟩
  · simp (disch := omega) only [qlt, qb_some, qb_none, ↓qn_1, ↓qn_2, ↓qn_3, ↓qn_4, ↓qn_9, ↓qn_1000, ↓qn_low, qi_0, qi_1, qi_2, qi_3, qi_4, qi_5, qi_6, qi_7, qi_8, qi_9, qi_10, qi_11, qi_12, qi_13, qi_14, qi_15, qi_16, qi_17, qi_20, qi_24, qi_30, qi_31, qi_32, qi_60, qi_99, qi_100, qi_200, qi_1000, qi_3400, qi_4000, qi_of, pu_gI, pu_pI, nI_leI, nI_ltI, nI_eq, nI_add, pk_mul, pk_sub, pk_div, qw_s, qw_o, qw_l, qr_s, qr_o, qr_l, ql_i, ql_s, ql_o, pk_us, pk_un, pk_uLs, pk_uLn, if_pos, if_neg, if_true, if_false, ite_self, eq_self, Nat.zero_add, Nat.add_zero, qwr, not_true_eq_false, not_false_eq_true, Option.some.injEq, qe_gn0, qe_m1n, qe_gng, qe_ngn, qe_gm, qe_mg, qe_lm1, qe_lgn, qe_lem, qe_leg, qe_tm1, qe_tgn, has4_y, in7_y, pr_n hr (by decide) (e1.trans e2), e2, qf_meets, q3_0]
    exact ⟨_, _, rfl, rfl, rfl, Rel_found R (by decide)⟩
  rcases byd_or i m with hb | ⟨p, hp, rfl⟩
  · by_cases h0 : m = 0
    · subst h0
      simp (disch := omega) only [qlt, qb_some, qb_none, ↓qn_1, ↓qn_2, ↓qn_3, ↓qn_4, ↓qn_9, ↓qn_1000, ↓qn_low, qi_0, qi_1, qi_2, qi_3, qi_4, qi_5, qi_6, qi_7, qi_8, qi_9, qi_10, qi_11, qi_12, qi_13, qi_14, qi_15, qi_16, qi_17, qi_20, qi_24, qi_30, qi_31, qi_32, qi_60, qi_99, qi_100, qi_200, qi_1000, qi_3400, qi_4000, qi_of, pu_gI, pu_pI, nI_leI, nI_ltI, nI_eq, nI_add, pk_mul, pk_sub, pk_div, qw_s, qw_o, qw_l, qr_s, qr_o, qr_l, ql_i, ql_s, ql_o, pk_us, pk_un, pk_uLs, pk_uLn, if_pos, if_neg, if_true, if_false, ite_self, eq_self, Nat.zero_add, Nat.add_zero, qwr, not_true_eq_false, not_false_eq_true, Option.some.injEq, qe_gn0, qe_m1n, qe_gng, qe_ngn, qe_gm, qe_mg, qe_lm1, qe_lgn, qe_lem, qe_leg, qe_tm1, qe_tgn, has4_y, in7_y, pr_b hr (by decide) (e1.trans e2) hm hb, e2, qf_meets, q3_0, z01, in7_b0 hb]
      exact ⟨_, _, rfl, rfl, rfl, Rel_found R (by decide)⟩
    · simp (disch := omega) only [qlt, qb_some, qb_none, ↓qn_1, ↓qn_2, ↓qn_3, ↓qn_4, ↓qn_9, ↓qn_1000, ↓qn_low, qi_0, qi_1, qi_2, qi_3, qi_4, qi_5, qi_6, qi_7, qi_8, qi_9, qi_10, qi_11, qi_12, qi_13, qi_14, qi_15, qi_16, qi_17, qi_20, qi_24, qi_30, qi_31, qi_32, qi_60, qi_99, qi_100, qi_200, qi_1000, qi_3400, qi_4000, qi_of, pu_gI, pu_pI, nI_leI, nI_ltI, nI_eq, nI_add, pk_mul, pk_sub, pk_div, qw_s, qw_o, qw_l, qr_s, qr_o, qr_l, ql_i, ql_s, ql_o, pk_us, pk_un, pk_uLs, pk_uLn, if_pos, if_neg, if_true, if_false, ite_self, eq_self, Nat.zero_add, Nat.add_zero, qwr, not_true_eq_false, not_false_eq_true, Option.some.injEq, qe_gn0, qe_m1n, qe_gng, qe_ngn, qe_gm, qe_mg, qe_lm1, qe_lgn, qe_lem, qe_leg, qe_tm1, qe_tgn, has4_y, in7_y, pr_b hr (by decide) (e1.trans e2) hm hb, e2, qf_meets, q3_0, in7_b1 hb]
      exact ⟨_, _, rfl, rfl, rfl, Rel_found R (by decide)⟩
  · unfold mX6_tell mX7_tells mX7_rowAt
    have hs : ∀ x, (wI S 0 11 x).1 (1 + 2 + 6) r = nI m := fun x => by rw [qw_o (by decide)]; exact e1.trans e2
    simp (disch := omega) only [qlt, qb_some, qb_none, ↓qn_1, ↓qn_2, ↓qn_3, ↓qn_4, ↓qn_9, ↓qn_1000, ↓qn_low, qi_0, qi_1, qi_2, qi_3, qi_4, qi_5, qi_6, qi_7, qi_8, qi_9, qi_10, qi_11, qi_12, qi_13, qi_14, qi_15, qi_16, qi_17, qi_20, qi_24, qi_30, qi_31, qi_32, qi_60, qi_99, qi_100, qi_200, qi_1000, qi_3400, qi_4000, qi_of, pu_gI, pu_pI, nI_leI, nI_ltI, nI_eq, nI_add, pk_mul, pk_sub, pk_div, qw_s, qw_o, qw_l, qr_s, qr_o, qr_l, ql_i, ql_s, ql_o, pk_us, pk_un, pk_uLs, pk_uLn, if_pos, if_neg, if_true, if_false, ite_self, eq_self, Nat.zero_add, Nat.add_zero, qwr, not_true_eq_false, not_false_eq_true, Option.some.injEq, qe_gn0, qe_m1n, qe_gng, qe_ngn, qe_gm, qe_mg, qe_lm1, qe_lgn, qe_lem, qe_leg, qe_tm1, qe_tgn, has4_y, in7_y, pr_y hr (by decide) (e1.trans e2) hm hp, e2, read_y hr (by decide) (e1.trans e2) hm hp, write_y hr (by decide) (hs _) hm hp]
    refine ⟨_, _, rfl, rfl, rfl, ?_⟩
    have e4 := e3 m hm e2 p hp
    have R2 := Rel_lay (v := v) (Rel_tell R (T.1 3 (60 * r + p))) hr (show p < 60 by omega)
    rw [← wI_comm (show (3 : Nat) ≠ 0 by decide), ← e4] at R2
    rw [← e4]
    exact R2
theorem st_at : St_at Rel := by
  intro S T a i R
  unfold mX6_at mX7_at mX7_isRow
  rcases oR_or a (N := 6) (by decide) with h | ⟨r, hr, rfl⟩
  · simp (disch := omega) only [qlt, qb_some, qb_none, ↓qn_1, ↓qn_2, ↓qn_3, ↓qn_4, ↓qn_9, ↓qn_1000, ↓qn_low, qi_0, qi_1, qi_2, qi_3, qi_4, qi_5, qi_6, qi_7, qi_8, qi_9, qi_10, qi_11, qi_12, qi_13, qi_14, qi_15, qi_16, qi_17, qi_20, qi_24, qi_30, qi_31, qi_32, qi_60, qi_99, qi_100, qi_200, qi_1000, qi_3400, qi_4000, qi_of, pu_gI, pu_pI, nI_leI, nI_ltI, nI_eq, nI_add, pk_mul, pk_sub, pk_div, qw_s, qw_o, qw_l, qr_s, qr_o, qr_l, ql_i, ql_s, ql_o, pk_us, pk_un, pk_uLs, pk_uLn, if_pos, if_neg, if_true, if_false, ite_self, eq_self, Nat.zero_add, Nat.add_zero, qwr, not_true_eq_false, not_false_eq_true, Option.some.injEq, qe_gn0, qe_m1n, qe_gng, qe_ngn, qe_gm, qe_mg, qe_lm1, qe_lgn, qe_lem, qe_leg, qe_tm1, qe_tgn, has4_o (S := S) (k := 1) h, oR_in7 (by decide) h]
    exact ⟨_, _, rfl, rfl, rfl, R⟩
  obtain ⟨e1, e2, e3⟩ := R.2.2.1 r hr
  rcases e2 with e2 | ⟨m, hm, e2⟩
  · simp (disch := omega) only [qlt, qb_some, qb_none, ↓qn_1, ↓qn_2, ↓qn_3, ↓qn_4, ↓qn_9, ↓qn_1000, ↓qn_low, qi_0, qi_1, qi_2, qi_3, qi_4, qi_5, qi_6, qi_7, qi_8, qi_9, qi_10, qi_11, qi_12, qi_13, qi_14, qi_15, qi_16, qi_17, qi_20, qi_24, qi_30, qi_31, qi_32, qi_60, qi_99, qi_100, qi_200, qi_1000, qi_3400, qi_4000, qi_of, pu_gI, pu_pI, nI_leI, nI_ltI, nI_eq, nI_add, pk_mul, pk_sub, pk_div, qw_s, qw_o, qw_l, qr_s, qr_o, qr_l, ql_i, ql_s, ql_o, pk_us, pk_un, pk_uLs, pk_uLn, if_pos, if_neg, if_true, if_false, ite_self, eq_self, Nat.zero_add, Nat.add_zero, qwr, not_true_eq_false, not_false_eq_true, Option.some.injEq, qe_gn0, qe_m1n, qe_gng, qe_ngn, qe_gm, qe_mg, qe_lm1, qe_lgn, qe_lem, qe_leg, qe_tm1, qe_tgn, has4_y, in7_y, pr_n hr (by decide) (e1.trans e2), e2, qf_meets, q3_0]
    exact ⟨_, _, rfl, rfl, rfl, Rel_found R (by decide)⟩
  rcases byd_or i m with hb | ⟨p, hp, rfl⟩
  · by_cases h0 : m = 0
    · subst h0
      simp (disch := omega) only [qlt, qb_some, qb_none, ↓qn_1, ↓qn_2, ↓qn_3, ↓qn_4, ↓qn_9, ↓qn_1000, ↓qn_low, qi_0, qi_1, qi_2, qi_3, qi_4, qi_5, qi_6, qi_7, qi_8, qi_9, qi_10, qi_11, qi_12, qi_13, qi_14, qi_15, qi_16, qi_17, qi_20, qi_24, qi_30, qi_31, qi_32, qi_60, qi_99, qi_100, qi_200, qi_1000, qi_3400, qi_4000, qi_of, pu_gI, pu_pI, nI_leI, nI_ltI, nI_eq, nI_add, pk_mul, pk_sub, pk_div, qw_s, qw_o, qw_l, qr_s, qr_o, qr_l, ql_i, ql_s, ql_o, pk_us, pk_un, pk_uLs, pk_uLn, if_pos, if_neg, if_true, if_false, ite_self, eq_self, Nat.zero_add, Nat.add_zero, qwr, not_true_eq_false, not_false_eq_true, Option.some.injEq, qe_gn0, qe_m1n, qe_gng, qe_ngn, qe_gm, qe_mg, qe_lm1, qe_lgn, qe_lem, qe_leg, qe_tm1, qe_tgn, has4_y, in7_y, pr_b hr (by decide) (e1.trans e2) hm hb, e2, qf_meets, q3_0, z01, in7_b0 hb]
      exact ⟨_, _, rfl, rfl, rfl, Rel_found R (by decide)⟩
    · simp (disch := omega) only [qlt, qb_some, qb_none, ↓qn_1, ↓qn_2, ↓qn_3, ↓qn_4, ↓qn_9, ↓qn_1000, ↓qn_low, qi_0, qi_1, qi_2, qi_3, qi_4, qi_5, qi_6, qi_7, qi_8, qi_9, qi_10, qi_11, qi_12, qi_13, qi_14, qi_15, qi_16, qi_17, qi_20, qi_24, qi_30, qi_31, qi_32, qi_60, qi_99, qi_100, qi_200, qi_1000, qi_3400, qi_4000, qi_of, pu_gI, pu_pI, nI_leI, nI_ltI, nI_eq, nI_add, pk_mul, pk_sub, pk_div, qw_s, qw_o, qw_l, qr_s, qr_o, qr_l, ql_i, ql_s, ql_o, pk_us, pk_un, pk_uLs, pk_uLn, if_pos, if_neg, if_true, if_false, ite_self, eq_self, Nat.zero_add, Nat.add_zero, qwr, not_true_eq_false, not_false_eq_true, Option.some.injEq, qe_gn0, qe_m1n, qe_gng, qe_ngn, qe_gm, qe_mg, qe_lm1, qe_lgn, qe_lem, qe_leg, qe_tm1, qe_tgn, has4_y, in7_y, pr_b hr (by decide) (e1.trans e2) hm hb, e2, qf_meets, q3_0, in7_b1 hb]
      exact ⟨_, _, rfl, rfl, rfl, Rel_found R (by decide)⟩
  · unfold mX6_tell mX7_tells mX7_rowAt
    simp (disch := omega) only [qlt, qb_some, qb_none, ↓qn_1, ↓qn_2, ↓qn_3, ↓qn_4, ↓qn_9, ↓qn_1000, ↓qn_low, qi_0, qi_1, qi_2, qi_3, qi_4, qi_5, qi_6, qi_7, qi_8, qi_9, qi_10, qi_11, qi_12, qi_13, qi_14, qi_15, qi_16, qi_17, qi_20, qi_24, qi_30, qi_31, qi_32, qi_60, qi_99, qi_100, qi_200, qi_1000, qi_3400, qi_4000, qi_of, pu_gI, pu_pI, nI_leI, nI_ltI, nI_eq, nI_add, pk_mul, pk_sub, pk_div, qw_s, qw_o, qw_l, qr_s, qr_o, qr_l, ql_i, ql_s, ql_o, pk_us, pk_un, pk_uLs, pk_uLn, if_pos, if_neg, if_true, if_false, ite_self, eq_self, Nat.zero_add, Nat.add_zero, qwr, not_true_eq_false, not_false_eq_true, Option.some.injEq, qe_gn0, qe_m1n, qe_gng, qe_ngn, qe_gm, qe_mg, qe_lm1, qe_lgn, qe_lem, qe_leg, qe_tm1, qe_tgn, has4_y, in7_y, pr_y hr (by decide) (e1.trans e2) hm hp, e2, read_y hr (by decide) (e1.trans e2) hm hp]
    refine ⟨_, _, rfl, rfl, rfl, ?_⟩
    rw [e3 m hm e2 p hp]
    exact Rel_tell R _
theorem st_put : St_put Rel := by
  intro S T a i v R
  unfold mX6_put mX7_put mX7_isText
  rcases oR_or a (N := 4) (by decide) with h | ⟨r, hr, rfl⟩
  · simp (disch := omega) only [qlt, qb_some, qb_none, ↓qn_1, ↓qn_2, ↓qn_3, ↓qn_4, ↓qn_9, ↓qn_1000, ↓qn_low, qi_0, qi_1, qi_2, qi_3, qi_4, qi_5, qi_6, qi_7, qi_8, qi_9, qi_10, qi_11, qi_12, qi_13, qi_14, qi_15, qi_16, qi_17, qi_20, qi_24, qi_30, qi_31, qi_32, qi_60, qi_99, qi_100, qi_200, qi_1000, qi_3400, qi_4000, qi_of, pu_gI, pu_pI, nI_leI, nI_ltI, nI_eq, nI_add, pk_mul, pk_sub, pk_div, qw_s, qw_o, qw_l, qr_s, qr_o, qr_l, ql_i, ql_s, ql_o, pk_us, pk_un, pk_uLs, pk_uLn, if_pos, if_neg, if_true, if_false, ite_self, eq_self, Nat.zero_add, Nat.add_zero, qwr, not_true_eq_false, not_false_eq_true, Option.some.injEq, qe_gn0, qe_m1n, qe_gng, qe_ngn, qe_gm, qe_mg, qe_lm1, qe_lgn, qe_lem, qe_leg, qe_tm1, qe_tgn, has4_o (S := S) (k := 10) h, oR_in7 (by decide) h]
    exact ⟨_, _, rfl, rfl, rfl, R⟩
  obtain ⟨e1, e2, e3⟩ := R.2.2.2.1 r hr
  rcases e2 with e2 | ⟨m, hm, e2⟩
  · simp (disch := omega) only [qlt, qb_some, qb_none, ↓qn_1, ↓qn_2, ↓qn_3, ↓qn_4, ↓qn_9, ↓qn_1000, ↓qn_low, qi_0, qi_1, qi_2, qi_3, qi_4, qi_5, qi_6, qi_7, qi_8, qi_9, qi_10, qi_11, qi_12, qi_13, qi_14, qi_15, qi_16, qi_17, qi_20, qi_24, qi_30, qi_31, qi_32, qi_60, qi_99, qi_100, qi_200, qi_1000, qi_3400, qi_4000, qi_of, pu_gI, pu_pI, nI_leI, nI_ltI, nI_eq, nI_add, pk_mul, pk_sub, pk_div, qw_s, qw_o, qw_l, qr_s, qr_o, qr_l, ql_i, ql_s, ql_o, pk_us, pk_un, pk_uLs, pk_uLn, if_pos, if_neg, if_true, if_false, ite_self, eq_self, Nat.zero_add, Nat.add_zero, qwr, not_true_eq_false, not_false_eq_true, Option.some.injEq, qe_gn0, qe_m1n, qe_gng, qe_ngn, qe_gm, qe_mg, qe_lm1, qe_lgn, qe_lem, qe_leg, qe_tm1, qe_tgn, has4_y, in7_y, pr_n hr (by decide) (e1.trans e2), e2, qf_meets, q3_0]
    exact ⟨_, _, rfl, rfl, rfl, Rel_found R (by decide)⟩
  rcases byd_or i m with hb | ⟨p, hp, rfl⟩
  · by_cases h0 : m = 0
    · subst h0
      simp (disch := omega) only [qlt, qb_some, qb_none, ↓qn_1, ↓qn_2, ↓qn_3, ↓qn_4, ↓qn_9, ↓qn_1000, ↓qn_low, qi_0, qi_1, qi_2, qi_3, qi_4, qi_5, qi_6, qi_7, qi_8, qi_9, qi_10, qi_11, qi_12, qi_13, qi_14, qi_15, qi_16, qi_17, qi_20, qi_24, qi_30, qi_31, qi_32, qi_60, qi_99, qi_100, qi_200, qi_1000, qi_3400, qi_4000, qi_of, pu_gI, pu_pI, nI_leI, nI_ltI, nI_eq, nI_add, pk_mul, pk_sub, pk_div, qw_s, qw_o, qw_l, qr_s, qr_o, qr_l, ql_i, ql_s, ql_o, pk_us, pk_un, pk_uLs, pk_uLn, if_pos, if_neg, if_true, if_false, ite_self, eq_self, Nat.zero_add, Nat.add_zero, qwr, not_true_eq_false, not_false_eq_true, Option.some.injEq, qe_gn0, qe_m1n, qe_gng, qe_ngn, qe_gm, qe_mg, qe_lm1, qe_lgn, qe_lem, qe_leg, qe_tm1, qe_tgn, has4_y, in7_y, pr_b hr (by decide) (e1.trans e2) hm hb, e2, qf_meets, q3_0, z01, in7_b0 hb]
      exact ⟨_, _, rfl, rfl, rfl, Rel_found R (by decide)⟩
    · simp (disch := omega) only [qlt, qb_some, qb_none, ↓qn_1, ↓qn_2, ↓qn_3, ↓qn_4, ↓qn_9, ↓qn_1000, ↓qn_low, qi_0, qi_1, qi_2, qi_3, qi_4, qi_5, qi_6, qi_7, qi_8, qi_9, qi_10, qi_11, qi_12, qi_13, qi_14, qi_15, qi_16, qi_17, qi_20, qi_24, qi_30, qi_31, qi_32, qi_60, qi_99, qi_100, qi_200, qi_1000, qi_3400, qi_4000, qi_of, pu_gI, pu_pI, nI_leI, nI_ltI, nI_eq, nI_add, pk_mul, pk_sub, pk_div, qw_s, qw_o, qw_l, qr_s, qr_o, qr_l, ql_i, ql_s, ql_o, pk_us, pk_un, pk_uLs, pk_uLn, if_pos, if_neg, if_true, if_false, ite_self, eq_self, Nat.zero_add, Nat.add_zero, qwr, not_true_eq_false, not_false_eq_true, Option.some.injEq, qe_gn0, qe_m1n, qe_gng, qe_ngn, qe_gm, qe_mg, qe_lm1, qe_lgn, qe_lem, qe_leg, qe_tm1, qe_tgn, has4_y, in7_y, pr_b hr (by decide) (e1.trans e2) hm hb, e2, qf_meets, q3_0, in7_b1 hb]
      exact ⟨_, _, rfl, rfl, rfl, Rel_found R (by decide)⟩
  · simp (disch := omega) only [qlt, qb_some, qb_none, ↓qn_1, ↓qn_2, ↓qn_3, ↓qn_4, ↓qn_9, ↓qn_1000, ↓qn_low, qi_0, qi_1, qi_2, qi_3, qi_4, qi_5, qi_6, qi_7, qi_8, qi_9, qi_10, qi_11, qi_12, qi_13, qi_14, qi_15, qi_16, qi_17, qi_20, qi_24, qi_30, qi_31, qi_32, qi_60, qi_99, qi_100, qi_200, qi_1000, qi_3400, qi_4000, qi_of, pu_gI, pu_pI, nI_leI, nI_ltI, nI_eq, nI_add, pk_mul, pk_sub, pk_div, qw_s, qw_o, qw_l, qr_s, qr_o, qr_l, ql_i, ql_s, ql_o, pk_us, pk_un, pk_uLs, pk_uLn, if_pos, if_neg, if_true, if_false, ite_self, eq_self, Nat.zero_add, Nat.add_zero, qwr, not_true_eq_false, not_false_eq_true, Option.some.injEq, qe_gn0, qe_m1n, qe_gng, qe_ngn, qe_gm, qe_mg, qe_lm1, qe_lgn, qe_lem, qe_leg, qe_tm1, qe_tgn, has4_y, in7_y, pr_y hr (by decide) (e1.trans e2) hm hp, e2, read_y hr (by decide) (e1.trans e2) hm hp, write_y hr (by decide) (e1.trans e2) hm hp, pk_vb]
    refine ⟨_, _, rfl, rfl, ?_, Rel_put R hr (by omega)⟩
    show S.1 (10 + 2 + r) p + nI 1000 = nI 1000 + T.1 6 (60 * r + p)
    rw [e3 m hm e2 p hp, Int32.add_comm]
theorem st_tear : St_tear Rel := by
  intro S T a R
  unfold mX6_tear mX7_tear mX7_isRow mX4_drop
  rcases oR_or a (N := 6) (by decide) with h | ⟨r, hr, rfl⟩
  · simp (disch := omega) only [qlt, qb_some, qb_none, ↓qn_1, ↓qn_2, ↓qn_3, ↓qn_4, ↓qn_9, ↓qn_1000, ↓qn_low, qi_0, qi_1, qi_2, qi_3, qi_4, qi_5, qi_6, qi_7, qi_8, qi_9, qi_10, qi_11, qi_12, qi_13, qi_14, qi_15, qi_16, qi_17, qi_20, qi_24, qi_30, qi_31, qi_32, qi_60, qi_99, qi_100, qi_200, qi_1000, qi_3400, qi_4000, qi_of, pu_gI, pu_pI, nI_leI, nI_ltI, nI_eq, nI_add, pk_mul, pk_sub, pk_div, qw_s, qw_o, qw_l, qr_s, qr_o, qr_l, ql_i, ql_s, ql_o, pk_us, pk_un, pk_uLs, pk_uLn, if_pos, if_neg, if_true, if_false, ite_self, eq_self, Nat.zero_add, Nat.add_zero, qwr, not_true_eq_false, not_false_eq_true, Option.some.injEq, qe_gn0, qe_m1n, qe_gng, qe_ngn, qe_gm, qe_mg, qe_lm1, qe_lgn, qe_lem, qe_leg, qe_tm1, qe_tgn, has4_o (S := S) (k := 1) h, oR_in7 (by decide) h]
    exact ⟨_, _, rfl, rfl, rfl, R⟩
  obtain ⟨e1, e2, e3⟩ := R.2.2.1 r hr
  rcases e2 with e2 | ⟨m, hm, e2⟩
  · simp (disch := omega) only [qlt, qb_some, qb_none, ↓qn_1, ↓qn_2, ↓qn_3, ↓qn_4, ↓qn_9, ↓qn_1000, ↓qn_low, qi_0, qi_1, qi_2, qi_3, qi_4, qi_5, qi_6, qi_7, qi_8, qi_9, qi_10, qi_11, qi_12, qi_13, qi_14, qi_15, qi_16, qi_17, qi_20, qi_24, qi_30, qi_31, qi_32, qi_60, qi_99, qi_100, qi_200, qi_1000, qi_3400, qi_4000, qi_of, pu_gI, pu_pI, nI_leI, nI_ltI, nI_eq, nI_add, pk_mul, pk_sub, pk_div, qw_s, qw_o, qw_l, qr_s, qr_o, qr_l, ql_i, ql_s, ql_o, pk_us, pk_un, pk_uLs, pk_uLn, if_pos, if_neg, if_true, if_false, ite_self, eq_self, Nat.zero_add, Nat.add_zero, qwr, not_true_eq_false, not_false_eq_true, Option.some.injEq, qe_gn0, qe_m1n, qe_gng, qe_ngn, qe_gm, qe_mg, qe_lm1, qe_lgn, qe_lem, qe_leg, qe_tm1, qe_tgn, has4_y, in7_y, there_n hr (by decide) (e1.trans e2), e2, qf_meets, qf_found]
    exact ⟨_, _, rfl, rfl, rfl, Rel_found R (by decide)⟩
  · simp (disch := omega) only [qlt, qb_some, qb_none, ↓qn_1, ↓qn_2, ↓qn_3, ↓qn_4, ↓qn_9, ↓qn_1000, ↓qn_low, qi_0, qi_1, qi_2, qi_3, qi_4, qi_5, qi_6, qi_7, qi_8, qi_9, qi_10, qi_11, qi_12, qi_13, qi_14, qi_15, qi_16, qi_17, qi_20, qi_24, qi_30, qi_31, qi_32, qi_60, qi_99, qi_100, qi_200, qi_1000, qi_3400, qi_4000, qi_of, pu_gI, pu_pI, nI_leI, nI_ltI, nI_eq, nI_add, pk_mul, pk_sub, pk_div, qw_s, qw_o, qw_l, qr_s, qr_o, qr_l, ql_i, ql_s, ql_o, pk_us, pk_un, pk_uLs, pk_uLn, if_pos, if_neg, if_true, if_false, ite_self, eq_self, Nat.zero_add, Nat.add_zero, qwr, not_true_eq_false, not_false_eq_true, Option.some.injEq, qe_gn0, qe_m1n, qe_gng, qe_ngn, qe_gm, qe_mg, qe_lm1, qe_lgn, qe_lem, qe_leg, qe_tm1, qe_tgn, has4_y, in7_y, there_y hr (by decide) (e1.trans e2) hm, e2]
    refine ⟨_, _, rfl, rfl, rfl, Rel_rows R (fun c h => ?_) rfl (fun c h1 h2 h3 => ?_) rfl ?_⟩
    · simp (disch := omega) only [qlt, qb_some, qb_none, ↓qn_1, ↓qn_2, ↓qn_3, ↓qn_4, ↓qn_9, ↓qn_1000, ↓qn_low, qi_0, qi_1, qi_2, qi_3, qi_4, qi_5, qi_6, qi_7, qi_8, qi_9, qi_10, qi_11, qi_12, qi_13, qi_14, qi_15, qi_16, qi_17, qi_20, qi_24, qi_30, qi_31, qi_32, qi_60, qi_99, qi_100, qi_200, qi_1000, qi_3400, qi_4000, qi_of, pu_gI, pu_pI, nI_leI, nI_ltI, nI_eq, nI_add, pk_mul, pk_sub, pk_div, qw_s, qw_o, qw_l, qr_s, qr_o, qr_l, ql_i, ql_s, ql_o, pk_us, pk_un, pk_uLs, pk_uLn, if_pos, if_neg, if_true, if_false, ite_self, eq_self, Nat.zero_add, Nat.add_zero, qwr, not_true_eq_false, not_false_eq_true, Option.some.injEq, qe_gn0, qe_m1n, qe_gng, qe_ngn, qe_gm, qe_mg, qe_lm1, qe_lgn, qe_lem, qe_leg, qe_tm1, qe_tgn]
    · simp (disch := omega) only [qlt, qb_some, qb_none, ↓qn_1, ↓qn_2, ↓qn_3, ↓qn_4, ↓qn_9, ↓qn_1000, ↓qn_low, qi_0, qi_1, qi_2, qi_3, qi_4, qi_5, qi_6, qi_7, qi_8, qi_9, qi_10, qi_11, qi_12, qi_13, qi_14, qi_15, qi_16, qi_17, qi_20, qi_24, qi_30, qi_31, qi_32, qi_60, qi_99, qi_100, qi_200, qi_1000, qi_3400, qi_4000, qi_of, pu_gI, pu_pI, nI_leI, nI_ltI, nI_eq, nI_add, pk_mul, pk_sub, pk_div, qw_s, qw_o, qw_l, qr_s, qr_o, qr_l, ql_i, ql_s, ql_o, pk_us, pk_un, pk_uLs, pk_uLn, if_pos, if_neg, if_true, if_false, ite_self, eq_self, Nat.zero_add, Nat.add_zero, qwr, not_true_eq_false, not_false_eq_true, Option.some.injEq, qe_gn0, qe_m1n, qe_gng, qe_ngn, qe_gm, qe_mg, qe_lm1, qe_lgn, qe_lem, qe_leg, qe_tm1, qe_tgn]
    · intro p hp
      obtain ⟨b1, b2, b3⟩ := R.2.2.1 p hp
      by_cases h : p = r
      · subst h
        simp (disch := omega) only [qlt, qb_some, qb_none, ↓qn_1, ↓qn_2, ↓qn_3, ↓qn_4, ↓qn_9, ↓qn_1000, ↓qn_low, qi_0, qi_1, qi_2, qi_3, qi_4, qi_5, qi_6, qi_7, qi_8, qi_9, qi_10, qi_11, qi_12, qi_13, qi_14, qi_15, qi_16, qi_17, qi_20, qi_24, qi_30, qi_31, qi_32, qi_60, qi_99, qi_100, qi_200, qi_1000, qi_3400, qi_4000, qi_of, pu_gI, pu_pI, nI_leI, nI_ltI, nI_eq, nI_add, pk_mul, pk_sub, pk_div, qw_s, qw_o, qw_l, qr_s, qr_o, qr_l, ql_i, ql_s, ql_o, pk_us, pk_un, pk_uLs, pk_uLn, if_pos, if_neg, if_true, if_false, ite_self, eq_self, Nat.zero_add, Nat.add_zero, qwr, not_true_eq_false, not_false_eq_true, Option.some.injEq, qe_gn0, qe_m1n, qe_gng, qe_ngn, qe_gm, qe_mg, qe_lm1, qe_lgn, qe_lem, qe_leg, qe_tm1, qe_tgn]
        refine ⟨trivial, Or.inl rfl, fun q hq e => ?_⟩
        exact absurd e.symm (qe_mn (by omega))
      · simp (disch := omega) only [qlt, qb_some, qb_none, ↓qn_1, ↓qn_2, ↓qn_3, ↓qn_4, ↓qn_9, ↓qn_1000, ↓qn_low, qi_0, qi_1, qi_2, qi_3, qi_4, qi_5, qi_6, qi_7, qi_8, qi_9, qi_10, qi_11, qi_12, qi_13, qi_14, qi_15, qi_16, qi_17, qi_20, qi_24, qi_30, qi_31, qi_32, qi_60, qi_99, qi_100, qi_200, qi_1000, qi_3400, qi_4000, qi_of, pu_gI, pu_pI, nI_leI, nI_ltI, nI_eq, nI_add, pk_mul, pk_sub, pk_div, qw_s, qw_o, qw_l, qr_s, qr_o, qr_l, ql_i, ql_s, ql_o, pk_us, pk_un, pk_uLs, pk_uLn, if_pos, if_neg, if_true, if_false, ite_self, eq_self, Nat.zero_add, Nat.add_zero, qwr, not_true_eq_false, not_false_eq_true, Option.some.injEq, qe_gn0, qe_m1n, qe_gng, qe_ngn, qe_gm, qe_mg, qe_lm1, qe_lgn, qe_lem, qe_leg, qe_tm1, qe_tgn]
        exact ⟨b1, b2, b3⟩
theorem st_text : St_text Rel := by
  intro S T a b R
  unfold mX6_text mX7_text mX7_isText
  rcases oR_or a (N := 4) (by decide) with h | ⟨r, hr, rfl⟩
  · simp (disch := omega) only [qlt, qb_some, qb_none, ↓qn_1, ↓qn_2, ↓qn_3, ↓qn_4, ↓qn_9, ↓qn_1000, ↓qn_low, qi_0, qi_1, qi_2, qi_3, qi_4, qi_5, qi_6, qi_7, qi_8, qi_9, qi_10, qi_11, qi_12, qi_13, qi_14, qi_15, qi_16, qi_17, qi_20, qi_24, qi_30, qi_31, qi_32, qi_60, qi_99, qi_100, qi_200, qi_1000, qi_3400, qi_4000, qi_of, pu_gI, pu_pI, nI_leI, nI_ltI, nI_eq, nI_add, pk_mul, pk_sub, pk_div, qw_s, qw_o, qw_l, qr_s, qr_o, qr_l, ql_i, ql_s, ql_o, pk_us, pk_un, pk_uLs, pk_uLn, if_pos, if_neg, if_true, if_false, ite_self, eq_self, Nat.zero_add, Nat.add_zero, qwr, not_true_eq_false, not_false_eq_true, Option.some.injEq, qe_gn0, qe_m1n, qe_gng, qe_ngn, qe_gm, qe_mg, qe_lm1, qe_lgn, qe_lem, qe_leg, qe_tm1, qe_tgn, has4_o (S := S) (k := 10) h, oR_in7 (by decide) h]
    exact ⟨_, _, rfl, rfl, rfl, R⟩
  rcases sg_or b with h | ⟨q, hq, rfl⟩
  · simp (disch := omega) only [qlt, qb_some, qb_none, ↓qn_1, ↓qn_2, ↓qn_3, ↓qn_4, ↓qn_9, ↓qn_1000, ↓qn_low, qi_0, qi_1, qi_2, qi_3, qi_4, qi_5, qi_6, qi_7, qi_8, qi_9, qi_10, qi_11, qi_12, qi_13, qi_14, qi_15, qi_16, qi_17, qi_20, qi_24, qi_30, qi_31, qi_32, qi_60, qi_99, qi_100, qi_200, qi_1000, qi_3400, qi_4000, qi_of, pu_gI, pu_pI, nI_leI, nI_ltI, nI_eq, nI_add, pk_mul, pk_sub, pk_div, qw_s, qw_o, qw_l, qr_s, qr_o, qr_l, ql_i, ql_s, ql_o, pk_us, pk_un, pk_uLs, pk_uLn, if_pos, if_neg, if_true, if_false, ite_self, eq_self, Nat.zero_add, Nat.add_zero, qwr, not_true_eq_false, not_false_eq_true, Option.some.injEq, qe_gn0, qe_m1n, qe_gng, qe_ngn, qe_gm, qe_mg, qe_lm1, qe_lgn, qe_lem, qe_leg, qe_tm1, qe_tgn, has4_y, in7_y, sg_leT h, sg_geF h, sg_ltT h, sg_gtF h, sg_eqF h, sg_eqF2 h, qf_found, qf_meets]
    exact ⟨_, _, rfl, rfl, rfl, Rel_found R (by decide)⟩
  by_cases hq2 : q ≤ 60
  · simp (disch := omega) only [qlt, qb_some, qb_none, ↓qn_1, ↓qn_2, ↓qn_3, ↓qn_4, ↓qn_9, ↓qn_1000, ↓qn_low, qi_0, qi_1, qi_2, qi_3, qi_4, qi_5, qi_6, qi_7, qi_8, qi_9, qi_10, qi_11, qi_12, qi_13, qi_14, qi_15, qi_16, qi_17, qi_20, qi_24, qi_30, qi_31, qi_32, qi_60, qi_99, qi_100, qi_200, qi_1000, qi_3400, qi_4000, qi_of, pu_gI, pu_pI, nI_leI, nI_ltI, nI_eq, nI_add, pk_mul, pk_sub, pk_div, qw_s, qw_o, qw_l, qr_s, qr_o, qr_l, ql_i, ql_s, ql_o, pk_us, pk_un, pk_uLs, pk_uLn, if_pos, if_neg, if_true, if_false, ite_self, eq_self, Nat.zero_add, Nat.add_zero, qwr, not_true_eq_false, not_false_eq_true, Option.some.injEq, qe_gn0, qe_m1n, qe_gng, qe_ngn, qe_gm, qe_mg, qe_lm1, qe_lgn, qe_lem, qe_leg, qe_tm1, qe_tgn, has4_y, in7_y, make_y, text7_y hr hq2]
    refine ⟨_, _, rfl, rfl, rfl, Rel_texts R ?_ rfl ?_ rfl ?_⟩
    · intro c h; simp (disch := omega) only [qlt, qb_some, qb_none, ↓qn_1, ↓qn_2, ↓qn_3, ↓qn_4, ↓qn_9, ↓qn_1000, ↓qn_low, qi_0, qi_1, qi_2, qi_3, qi_4, qi_5, qi_6, qi_7, qi_8, qi_9, qi_10, qi_11, qi_12, qi_13, qi_14, qi_15, qi_16, qi_17, qi_20, qi_24, qi_30, qi_31, qi_32, qi_60, qi_99, qi_100, qi_200, qi_1000, qi_3400, qi_4000, qi_of, pu_gI, pu_pI, nI_leI, nI_ltI, nI_eq, nI_add, pk_mul, pk_sub, pk_div, qw_s, qw_o, qw_l, qr_s, qr_o, qr_l, ql_i, ql_s, ql_o, pk_us, pk_un, pk_uLs, pk_uLn, if_pos, if_neg, if_true, if_false, ite_self, eq_self, Nat.zero_add, Nat.add_zero, qwr, not_true_eq_false, not_false_eq_true, Option.some.injEq, qe_gn0, qe_m1n, qe_gng, qe_ngn, qe_gm, qe_mg, qe_lm1, qe_lgn, qe_lem, qe_leg, qe_tm1, qe_tgn]
    · intro c h1 h2; simp (disch := omega) only [qlt, qb_some, qb_none, ↓qn_1, ↓qn_2, ↓qn_3, ↓qn_4, ↓qn_9, ↓qn_1000, ↓qn_low, qi_0, qi_1, qi_2, qi_3, qi_4, qi_5, qi_6, qi_7, qi_8, qi_9, qi_10, qi_11, qi_12, qi_13, qi_14, qi_15, qi_16, qi_17, qi_20, qi_24, qi_30, qi_31, qi_32, qi_60, qi_99, qi_100, qi_200, qi_1000, qi_3400, qi_4000, qi_of, pu_gI, pu_pI, nI_leI, nI_ltI, nI_eq, nI_add, pk_mul, pk_sub, pk_div, qw_s, qw_o, qw_l, qr_s, qr_o, qr_l, ql_i, ql_s, ql_o, pk_us, pk_un, pk_uLs, pk_uLn, if_pos, if_neg, if_true, if_false, ite_self, eq_self, Nat.zero_add, Nat.add_zero, qwr, not_true_eq_false, not_false_eq_true, Option.some.injEq, qe_gn0, qe_m1n, qe_gng, qe_ngn, qe_gm, qe_mg, qe_lm1, qe_lgn, qe_lem, qe_leg, qe_tm1, qe_tgn]
    · exact Sh_make (by decide) hr hq2 (fun i hi => if_pos hi) (fun i hi => if_pos (by omega)) (fun i hi => if_neg (by omega)) R.2.2.2.1
  · simp (disch := omega) only [qlt, qb_some, qb_none, ↓qn_1, ↓qn_2, ↓qn_3, ↓qn_4, ↓qn_9, ↓qn_1000, ↓qn_low, qi_0, qi_1, qi_2, qi_3, qi_4, qi_5, qi_6, qi_7, qi_8, qi_9, qi_10, qi_11, qi_12, qi_13, qi_14, qi_15, qi_16, qi_17, qi_20, qi_24, qi_30, qi_31, qi_32, qi_60, qi_99, qi_100, qi_200, qi_1000, qi_3400, qi_4000, qi_of, pu_gI, pu_pI, nI_leI, nI_ltI, nI_eq, nI_add, pk_mul, pk_sub, pk_div, qw_s, qw_o, qw_l, qr_s, qr_o, qr_l, ql_i, ql_s, ql_o, pk_us, pk_un, pk_uLs, pk_uLn, if_pos, if_neg, if_true, if_false, ite_self, eq_self, Nat.zero_add, Nat.add_zero, qwr, not_true_eq_false, not_false_eq_true, Option.some.injEq, qe_gn0, qe_m1n, qe_gng, qe_ngn, qe_gm, qe_mg, qe_lm1, qe_lgn, qe_lem, qe_leg, qe_tm1, qe_tgn, has4_y, in7_y]
    exact ⟨_, _, rfl, rfl, rfl, R⟩
