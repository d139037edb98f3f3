/-! ===== PURE: fractions; years drawn by lots ===== -/
theorem Rel_frac {S T : vS} (R : Rel S T) (x y : Int64) : Rel (wL (wL S 0 12 x) 0 13 y) (wL (wL T 0 3 x) 0 4 y) := by
  obtain ⟨a1, ⟨b1, b2, b3⟩, a3, a4, a5⟩ := R
  refine ⟨RFind_eq (S := S) (T := T) rfl rfl rfl rfl a1, ⟨b1, ?_, ?_⟩, Sh_eq (S := S) (T := T) (fun _ _ _ => rfl) rfl rfl a3, Sh_eq (S := S) (T := T) (fun _ _ _ => rfl) rfl rfl a4, RV_eq (S := S) (T := T) (fun _ _ _ => rfl) rfl rfl rfl rfl rfl rfl rfl rfl rfl a5⟩
  · simp (disch := omega) only [qlt, qb_some, qb_none, ↓qn_1, ↓qn_2, ↓qn_3, ↓qn_4, ↓qn_9, ↓qn_1000, ↓qn_low, qi_0, qi_1, qi_2, qi_3, qi_4, qi_5, qi_6, qi_7, qi_8, qi_9, qi_10, qi_11, qi_12, qi_13, qi_14, qi_15, qi_16, qi_17, qi_20, qi_24, qi_30, qi_31, qi_32, qi_60, qi_99, qi_100, qi_200, qi_1000, qi_3400, qi_4000, qi_of, pu_gI, pu_pI, nI_leI, nI_ltI, nI_eq, nI_add, pk_mul, pk_sub, pk_div, qw_s, qw_o, qw_l, qr_s, qr_o, qr_l, ql_i, ql_s, ql_o, pk_us, pk_un, pk_uLs, pk_uLn, if_pos, if_neg, if_true, if_false, ite_self, eq_self, Nat.zero_add, Nat.add_zero, qwr, not_true_eq_false, not_false_eq_true, Option.some.injEq, qe_gn0, qe_m1n, qe_gng, qe_ngn, qe_gm, qe_mg, qe_lm1, qe_lgn, qe_lem, qe_leg, qe_tm1, qe_tgn]
  · simp (disch := omega) only [qlt, qb_some, qb_none, ↓qn_1, ↓qn_2, ↓qn_3, ↓qn_4, ↓qn_9, ↓qn_1000, ↓qn_low, qi_0, qi_1, qi_2, qi_3, qi_4, qi_5, qi_6, qi_7, qi_8, qi_9, qi_10, qi_11, qi_12, qi_13, qi_14, qi_15, qi_16, qi_17, qi_20, qi_24, qi_30, qi_31, qi_32, qi_60, qi_99, qi_100, qi_200, qi_1000, qi_3400, qi_4000, qi_of, pu_gI, pu_pI, nI_leI, nI_ltI, nI_eq, nI_add, pk_mul, pk_sub, pk_div, qw_s, qw_o, qw_l, qr_s, qr_o, qr_l, ql_i, ql_s, ql_o, pk_us, pk_un, pk_uLs, pk_uLn, if_pos, if_neg, if_true, if_false, ite_self, eq_self, Nat.zero_add, Nat.add_zero, qwr, not_true_eq_false, not_false_eq_true, Option.some.injEq, qe_gn0, qe_m1n, qe_gng, qe_ngn, qe_gm, qe_mg, qe_lm1, qe_lgn, qe_lem, qe_leg, qe_tm1, qe_tgn]
theorem rI_y {a b : Nat} (ha : a < 2 ^ 31) (h0 : 0 < b) (hb : b < 2 ^ 31) : rI (nI a) (nI b) = some (nI (a % b)) := by
  unfold rI
  rw [if_neg (by rw [qi_0, nI_eq hb (by decide)]; omega), pk_rem ha h0 hb]
theorem dI_y {a b : Nat} (ha : a < 2 ^ 31) (h0 : 0 < b) (hb : b < 2 ^ 31) : dI (nI a) (nI b) = some (nI (a / b)) := by
  unfold dI
  rw [if_neg (by rw [qi_0, nI_eq hb (by decide)]; omega), pk_div ha h0 hb]
theorem rL_y {a b : Nat} (ha : a < 2 ^ 31) (h0 : 0 < b) (hb : b < 2 ^ 31) : rL (lN a) (lN b) = some (lN (a % b)) := by
  unfold rL
  have : ¬ lN b = 0 := by
    intro e
    have h : lN b = lN 0 := e
    rw [lN_eq hb (by decide)] at h
    omega
  rw [if_neg this, pk_lRem (by omega) h0 (by omega)]
theorem half {a b : Nat} (h0 : 0 < a % b) (hb : 0 < b) : b % (a % b) * 2 ≤ b := by
  have h1 : a % b < b := Nat.mod_lt a hb
  by_cases h2 : a % b * 2 ≤ b
  · have := Nat.mod_lt b h0
    omega
  · have : b % (a % b) = b - a % b := by
      rw [Nat.mod_eq_sub_mod (by omega), Nat.mod_eq_of_lt (by omega)]
    omega
theorem gcd6_l : ∀ m a b i q, b < 2 ^ m → a < 2 ^ 31 → b < 2 ^ 31 → i + 2 * m ≤ 62 → 2 * m + 1 < q → lX6_greatestCommonDivisor_7 q (nI a) (nI b) (nI i) = some (nI (Nat.gcd a b)) := by
  intro m
  induction m with
  | zero =>
    intro a b i q hb ha hb2 hi hq
    have : b = 0 := by omega
    subst this
    obtain ⟨q2, rfl⟩ : ∃ q2, q = q2 + 1 := ⟨q - 1, by omega⟩
    rw [lX6_greatestCommonDivisor_7, Nat.gcd_zero_right]
    have : (64 : Int32) = nI 64 := by decide +kernel
    rw [this]
    simp (disch := omega) only [qlt, qb_some, qb_none, ↓qn_1, ↓qn_2, ↓qn_3, ↓qn_4, ↓qn_9, ↓qn_1000, ↓qn_low, qi_0, qi_1, qi_2, qi_3, qi_4, qi_5, qi_6, qi_7, qi_8, qi_9, qi_10, qi_11, qi_12, qi_13, qi_14, qi_15, qi_16, qi_17, qi_20, qi_24, qi_30, qi_31, qi_32, qi_60, qi_99, qi_100, qi_200, qi_1000, qi_3400, qi_4000, qi_of, pu_gI, pu_pI, nI_leI, nI_ltI, nI_eq, nI_add, pk_mul, pk_sub, pk_div, qw_s, qw_o, qw_l, qr_s, qr_o, qr_l, ql_i, ql_s, ql_o, pk_us, pk_un, pk_uLs, pk_uLn, if_pos, if_neg, if_true, if_false, ite_self, eq_self, Nat.zero_add, Nat.add_zero, qwr, not_true_eq_false, not_false_eq_true, Option.some.injEq, qe_gn0, qe_m1n, qe_gng, qe_ngn, qe_gm, qe_mg, qe_lm1, qe_lgn, qe_lem, qe_leg, qe_tm1, qe_tgn]
  | succ m ih =>
    intro a b i q hb ha hb2 hi hq
    have h64 : (64 : Int32) = nI 64 := by decide +kernel
    obtain ⟨q2, rfl⟩ : ∃ q2, q = q2 + 1 := ⟨q - 1, by omega⟩
    rw [lX6_greatestCommonDivisor_7, h64]
    by_cases hb0 : b = 0
    · subst hb0
      rw [Nat.gcd_zero_right]
      simp (disch := omega) only [qlt, qb_some, qb_none, ↓qn_1, ↓qn_2, ↓qn_3, ↓qn_4, ↓qn_9, ↓qn_1000, ↓qn_low, qi_0, qi_1, qi_2, qi_3, qi_4, qi_5, qi_6, qi_7, qi_8, qi_9, qi_10, qi_11, qi_12, qi_13, qi_14, qi_15, qi_16, qi_17, qi_20, qi_24, qi_30, qi_31, qi_32, qi_60, qi_99, qi_100, qi_200, qi_1000, qi_3400, qi_4000, qi_of, pu_gI, pu_pI, nI_leI, nI_ltI, nI_eq, nI_add, pk_mul, pk_sub, pk_div, qw_s, qw_o, qw_l, qr_s, qr_o, qr_l, ql_i, ql_s, ql_o, pk_us, pk_un, pk_uLs, pk_uLn, if_pos, if_neg, if_true, if_false, ite_self, eq_self, Nat.zero_add, Nat.add_zero, qwr, not_true_eq_false, not_false_eq_true, Option.some.injEq, qe_gn0, qe_m1n, qe_gng, qe_ngn, qe_gm, qe_mg, qe_lm1, qe_lgn, qe_lem, qe_leg, qe_tm1, qe_tgn]
    · have hml : a % b < b := Nat.mod_lt a (by omega)
      have hmp : 2 ^ (m + 1) = 2 ^ m * 2 := Nat.pow_succ 2 m
      simp (disch := omega) only [qlt, qb_some, qb_none, ↓qn_1, ↓qn_2, ↓qn_3, ↓qn_4, ↓qn_9, ↓qn_1000, ↓qn_low, qi_0, qi_1, qi_2, qi_3, qi_4, qi_5, qi_6, qi_7, qi_8, qi_9, qi_10, qi_11, qi_12, qi_13, qi_14, qi_15, qi_16, qi_17, qi_20, qi_24, qi_30, qi_31, qi_32, qi_60, qi_99, qi_100, qi_200, qi_1000, qi_3400, qi_4000, qi_of, pu_gI, pu_pI, nI_leI, nI_ltI, nI_eq, nI_add, pk_mul, pk_sub, pk_div, qw_s, qw_o, qw_l, qr_s, qr_o, qr_l, ql_i, ql_s, ql_o, pk_us, pk_un, pk_uLs, pk_uLn, if_pos, if_neg, if_true, if_false, ite_self, eq_self, Nat.zero_add, Nat.add_zero, qwr, not_true_eq_false, not_false_eq_true, Option.some.injEq, qe_gn0, qe_m1n, qe_gng, qe_ngn, qe_gm, qe_mg, qe_lm1, qe_lgn, qe_lem, qe_leg, qe_tm1, qe_tgn, rI_y]
      have g1 : Nat.gcd a b = Nat.gcd b (a % b) := by rw [Nat.gcd_comm, Nat.gcd_rec, Nat.gcd_comm]
      rw [g1]
      obtain ⟨q3, rfl⟩ : ∃ q3, q2 = q3 + 1 := ⟨q2 - 1, by omega⟩
      rw [lX6_greatestCommonDivisor_7, h64]
      by_cases hr0 : a % b = 0
      · rw [hr0, Nat.gcd_zero_right]
        simp (disch := omega) only [qlt, qb_some, qb_none, ↓qn_1, ↓qn_2, ↓qn_3, ↓qn_4, ↓qn_9, ↓qn_1000, ↓qn_low, qi_0, qi_1, qi_2, qi_3, qi_4, qi_5, qi_6, qi_7, qi_8, qi_9, qi_10, qi_11, qi_12, qi_13, qi_14, qi_15, qi_16, qi_17, qi_20, qi_24, qi_30, qi_31, qi_32, qi_60, qi_99, qi_100, qi_200, qi_1000, qi_3400, qi_4000, qi_of, pu_gI, pu_pI, nI_leI, nI_ltI, nI_eq, nI_add, pk_mul, pk_sub, pk_div, qw_s, qw_o, qw_l, qr_s, qr_o, qr_l, ql_i, ql_s, ql_o, pk_us, pk_un, pk_uLs, pk_uLn, if_pos, if_neg, if_true, if_false, ite_self, eq_self, Nat.zero_add, Nat.add_zero, qwr, not_true_eq_false, not_false_eq_true, Option.some.injEq, qe_gn0, qe_m1n, qe_gng, qe_ngn, qe_gm, qe_mg, qe_lm1, qe_lgn, qe_lem, qe_leg, qe_tm1, qe_tgn]
      · have hh := half (a := a) (b := b) (by omega) (by omega)
        have hml2 : b % (a % b) < a % b := Nat.mod_lt b (by omega)
        simp (disch := omega) only [qlt, qb_some, qb_none, ↓qn_1, ↓qn_2, ↓qn_3, ↓qn_4, ↓qn_9, ↓qn_1000, ↓qn_low, qi_0, qi_1, qi_2, qi_3, qi_4, qi_5, qi_6, qi_7, qi_8, qi_9, qi_10, qi_11, qi_12, qi_13, qi_14, qi_15, qi_16, qi_17, qi_20, qi_24, qi_30, qi_31, qi_32, qi_60, qi_99, qi_100, qi_200, qi_1000, qi_3400, qi_4000, qi_of, pu_gI, pu_pI, nI_leI, nI_ltI, nI_eq, nI_add, pk_mul, pk_sub, pk_div, qw_s, qw_o, qw_l, qr_s, qr_o, qr_l, ql_i, ql_s, ql_o, pk_us, pk_un, pk_uLs, pk_uLn, if_pos, if_neg, if_true, if_false, ite_self, eq_self, Nat.zero_add, Nat.add_zero, qwr, not_true_eq_false, not_false_eq_true, Option.some.injEq, qe_gn0, qe_m1n, qe_gng, qe_ngn, qe_gm, qe_mg, qe_lm1, qe_lgn, qe_lem, qe_leg, qe_tm1, qe_tgn, rI_y]
        have g2 : Nat.gcd b (a % b) = Nat.gcd (a % b) (b % (a % b)) := by rw [Nat.gcd_comm, Nat.gcd_rec, Nat.gcd_comm]
        rw [g2]
        exact ih (a % b) (b % (a % b)) (i + 1 + 1) q3 (by omega) (by omega) (by omega) (by omega) (by omega)
theorem gcd6 {a b : Nat} (ha : a < 2 ^ 20) (hb : b < 2 ^ 20) : mX6_greatestCommonDivisor (nI a) (nI b) = some (nI (Nat.gcd a b)) := by
  unfold mX6_greatestCommonDivisor
  rw [qi_0]
  exact gcd6_l 20 a b 0 FU hb (by omega) (by omega) (by omega) (by unfold FU; omega)
theorem frac6 {S : vS} {u l : Nat} (hu : u < 2 ^ 20) (hl : l < 2 ^ 20) (h0 : 0 < l) : mX6_tellFraction S (nI u) (nI l) = some (wL (wL S 0 12 (lN (u / Nat.gcd u l))) 0 13 (lN (l / Nat.gcd u l))) := by
  have hg : 0 < Nat.gcd u l := Nat.gcd_pos_of_pos_right u h0
  have hgl : Nat.gcd u l ≤ l := Nat.le_of_dvd h0 (Nat.gcd_dvd_right u l)
  have hm : mxI (nI 1) (nI (Nat.gcd u l)) = nI (Nat.gcd u l) := by
    unfold mxI
    by_cases h : Nat.gcd u l = 1
    · rw [h]; simp (disch := omega) only [qlt, qb_some, qb_none, ↓qn_1, ↓qn_2, ↓qn_3, ↓qn_4, ↓qn_9, ↓qn_1000, ↓qn_low, qi_0, qi_1, qi_2, qi_3, qi_4, qi_5, qi_6, qi_7, qi_8, qi_9, qi_10, qi_11, qi_12, qi_13, qi_14, qi_15, qi_16, qi_17, qi_20, qi_24, qi_30, qi_31, qi_32, qi_60, qi_99, qi_100, qi_200, qi_1000, qi_3400, qi_4000, qi_of, pu_gI, pu_pI, nI_leI, nI_ltI, nI_eq, nI_add, pk_mul, pk_sub, pk_div, qw_s, qw_o, qw_l, qr_s, qr_o, qr_l, ql_i, ql_s, ql_o, pk_us, pk_un, pk_uLs, pk_uLn, if_pos, if_neg, if_true, if_false, ite_self, eq_self, Nat.zero_add, Nat.add_zero, qwr, not_true_eq_false, not_false_eq_true, Option.some.injEq, qe_gn0, qe_m1n, qe_gng, qe_ngn, qe_gm, qe_mg, qe_lm1, qe_lgn, qe_lem, qe_leg, qe_tm1, qe_tgn]
    · simp (disch := omega) only [qlt, qb_some, qb_none, ↓qn_1, ↓qn_2, ↓qn_3, ↓qn_4, ↓qn_9, ↓qn_1000, ↓qn_low, qi_0, qi_1, qi_2, qi_3, qi_4, qi_5, qi_6, qi_7, qi_8, qi_9, qi_10, qi_11, qi_12, qi_13, qi_14, qi_15, qi_16, qi_17, qi_20, qi_24, qi_30, qi_31, qi_32, qi_60, qi_99, qi_100, qi_200, qi_1000, qi_3400, qi_4000, qi_of, pu_gI, pu_pI, nI_leI, nI_ltI, nI_eq, nI_add, pk_mul, pk_sub, pk_div, qw_s, qw_o, qw_l, qr_s, qr_o, qr_l, ql_i, ql_s, ql_o, pk_us, pk_un, pk_uLs, pk_uLn, if_pos, if_neg, if_true, if_false, ite_self, eq_self, Nat.zero_add, Nat.add_zero, qwr, not_true_eq_false, not_false_eq_true, Option.some.injEq, qe_gn0, qe_m1n, qe_gng, qe_ngn, qe_gm, qe_mg, qe_lm1, qe_lgn, qe_lem, qe_leg, qe_tm1, qe_tgn]
  have d1 : u / Nat.gcd u l ≤ u := Nat.div_le_self _ _
  have d2 : l / Nat.gcd u l ≤ l := Nat.div_le_self _ _
  unfold mX6_tellFraction
  simp (disch := omega) only [qlt, qb_some, qb_none, ↓qn_1, ↓qn_2, ↓qn_3, ↓qn_4, ↓qn_9, ↓qn_1000, ↓qn_low, qi_0, qi_1, qi_2, qi_3, qi_4, qi_5, qi_6, qi_7, qi_8, qi_9, qi_10, qi_11, qi_12, qi_13, qi_14, qi_15, qi_16, qi_17, qi_20, qi_24, qi_30, qi_31, qi_32, qi_60, qi_99, qi_100, qi_200, qi_1000, qi_3400, qi_4000, qi_of, pu_gI, pu_pI, nI_leI, nI_ltI, nI_eq, nI_add, pk_mul, pk_sub, pk_div, qw_s, qw_o, qw_l, qr_s, qr_o, qr_l, ql_i, ql_s, ql_o, pk_us, pk_un, pk_uLs, pk_uLn, if_pos, if_neg, if_true, if_false, ite_self, eq_self, Nat.zero_add, Nat.add_zero, qwr, not_true_eq_false, not_false_eq_true, Option.some.injEq, qe_gn0, qe_m1n, qe_gng, qe_ngn, qe_gm, qe_mg, qe_lm1, qe_lgn, qe_lem, qe_leg, qe_tm1, qe_tgn, gcd6 hu hl, hm, dI_y, nI_l]
theorem frac7_l {T : vS} {u l : Nat} {x : Int32} (hu : u < 2 ^ 20) (hl : l < 2 ^ 20) (hg : 0 < Nat.gcd u l) : ∀ q a b, b < q → a < 2 ^ 20 → b < 2 ^ 20 → Nat.gcd a b = Nat.gcd u l → lX7_fraction_6 T (lN u) (lN l) x q (lN a) (lN b) = some (x, wL (wL T 0 3 (lN (u / Nat.gcd u l))) 0 4 (lN (l / Nat.gcd u l))) := by
  intro q
  induction q with
  | zero => intro a b h; exact absurd h (Nat.not_lt_zero _)
  | succ q ih =>
    intro a b h ha hb hgc
    have hz : (0 : Int64) = lN 0 := by decide +kernel
    rw [lX7_fraction_6, hz]
    by_cases hb0 : b = 0
    · subst hb0
      rw [Nat.gcd_zero_right] at hgc
      have : lg_cmp (lN 0) (lN 0) = nI 0 := by decide +kernel
      rw [this, hgc]
      unfold bX7_fraction_31
      have dl : ∀ y, y < 2 ^ 20 → dL (lN y) (lN (Nat.gcd u l)) = some (lN (y / Nat.gcd u l)) := by
        intro y hy
        rw [dL_y hg (by omega), pk_lDiv (by omega) hg (by omega)]
      simp (disch := omega) only [qlt, qb_some, qb_none, ↓qn_1, ↓qn_2, ↓qn_3, ↓qn_4, ↓qn_9, ↓qn_1000, ↓qn_low, qi_0, qi_1, qi_2, qi_3, qi_4, qi_5, qi_6, qi_7, qi_8, qi_9, qi_10, qi_11, qi_12, qi_13, qi_14, qi_15, qi_16, qi_17, qi_20, qi_24, qi_30, qi_31, qi_32, qi_60, qi_99, qi_100, qi_200, qi_1000, qi_3400, qi_4000, qi_of, pu_gI, pu_pI, nI_leI, nI_ltI, nI_eq, nI_add, pk_mul, pk_sub, pk_div, qw_s, qw_o, qw_l, qr_s, qr_o, qr_l, ql_i, ql_s, ql_o, pk_us, pk_un, pk_uLs, pk_uLn, if_pos, if_neg, if_true, if_false, ite_self, eq_self, Nat.zero_add, Nat.add_zero, qwr, not_true_eq_false, not_false_eq_true, Option.some.injEq, qe_gn0, qe_m1n, qe_gng, qe_ngn, qe_gm, qe_mg, qe_lm1, qe_lgn, qe_lem, qe_leg, qe_tm1, qe_tgn, dl u hu, dl l hl]
    · have hne : ¬ lg_cmp (lN b) (lN 0) = nI 0 := by
        unfold lg_cmp
        have : lN b > lN 0 := (lN_lt (by decide) (by omega)).mpr (by omega)
        rw [if_pos this]
        decide +kernel
      have hml : a % b < b := Nat.mod_lt a (by omega)
      rw [qi_0, if_neg hne]
      simp (disch := omega) only [qlt, qb_some, qb_none, ↓qn_1, ↓qn_2, ↓qn_3, ↓qn_4, ↓qn_9, ↓qn_1000, ↓qn_low, qi_0, qi_1, qi_2, qi_3, qi_4, qi_5, qi_6, qi_7, qi_8, qi_9, qi_10, qi_11, qi_12, qi_13, qi_14, qi_15, qi_16, qi_17, qi_20, qi_24, qi_30, qi_31, qi_32, qi_60, qi_99, qi_100, qi_200, qi_1000, qi_3400, qi_4000, qi_of, pu_gI, pu_pI, nI_leI, nI_ltI, nI_eq, nI_add, pk_mul, pk_sub, pk_div, qw_s, qw_o, qw_l, qr_s, qr_o, qr_l, ql_i, ql_s, ql_o, pk_us, pk_un, pk_uLs, pk_uLn, if_pos, if_neg, if_true, if_false, ite_self, eq_self, Nat.zero_add, Nat.add_zero, qwr, not_true_eq_false, not_false_eq_true, Option.some.injEq, qe_gn0, qe_m1n, qe_gng, qe_ngn, qe_gm, qe_mg, qe_lm1, qe_lgn, qe_lem, qe_leg, qe_tm1, qe_tgn, rL_y]
      exact ih b (a % b) (by omega) hb (by omega) (by rw [← hgc, Nat.gcd_comm a b, Nat.gcd_rec b a, Nat.gcd_comm])
theorem frac7 {T : vS} {u l : Nat} {x : Int32} (hu : u < 2 ^ 20) (hl : l < 2 ^ 19) (h0 : 0 < l) : mX7_fraction T (lN u) (lN l) x = some (x, wL (wL T 0 3 (lN (u / Nat.gcd u l))) 0 4 (lN (l / Nat.gcd u l))) := by
  unfold mX7_fraction
  exact frac7_l hu (by omega) (Nat.gcd_pos_of_pos_right u h0) FU u l (by unfold FU; omega) hu (by omega) rfl
theorem frac61 {S : vS} {u : Nat} (hu : u < 2 ^ 20) : mX6_tellFraction S (nI u) (nI 1) = some (wL (wL S 0 12 (lN u)) 0 13 (lN 1)) := by
  rw [frac6 hu (by decide) (by decide), Nat.gcd_one_right, Nat.div_one, Nat.div_one]
theorem lN_one : (1 : Int64) = lN 1 := by decide +kernel
/-! bounds of what a day sends -/
theorem nsum_le {p : Nat → Nat} {b : Nat} : ∀ n, (∀ g, g < n → p g ≤ b) → nsum p n ≤ b * n := by
  intro n
  induction n with
  | zero => intro _; exact Nat.zero_le _
  | succ n ih =>
    intro h
    rw [nsum_s, Nat.mul_succ]
    exact Nat.add_le_add (ih (fun g hg => h g (by omega))) (h n (by omega))
theorem gsD_le {G F : Nat → Int32} {n d : Nat} (hn : n ≤ 4) (hGI : GInv n G) : gsD G n F d ≤ 36 := by
  have : nsum (gpt G n F d) n ≤ 9 * n := nsum_le n (fun g hg => by
    obtain ⟨_, _, _, ⟨x, hx, hx2⟩, _⟩ := hGI g hg
    unfold gpt
    split
    · split
      · rw [hx2, nI_clamp (by omega)]; exact hx
      · omega
    · omega)
  unfold gsD
  omega
theorem hsD_le {G F : Nat → Int32} {n d : Nat} (hn : n ≤ 4) (hGI : GInv n G) : hsD G n F d ≤ 36 := by
  have : nsum (hpt G n F d) n ≤ 9 * n := nsum_le n (fun g hg => by
    obtain ⟨_, _, _, _, ⟨x, hx, hx2⟩, _⟩ := hGI g hg
    unfold hpt
    split
    · split
      · omega
      · rw [hx2, nI_clamp (by omega)]; exact hx
    · omega)
  unfold hsD
  omega
theorem sO_21' {T : vS} {o a s : Nat → Int32} {A B : Nat} : (mk3 T (sO o A B) a s).1 0 21 = nI B := by rw [mk3_0, sO_21]
theorem l48271 : (48271 : Int64) = lN 48271 := by decide +kernel
theorem lM31 : (2147483647 : Int64) = lN 2147483647 := by decide +kernel
theorem l13 : (13 : Int64) = lN 13 := by decide +kernel
theorem year_l {S T : vS} {n m : Nat} (R : Rel S T) (hn : n ≤ 4) (h10 : T.1 0 10 = nI n) (hG : GodR S (30 + 1) n (T.1 7)) (hGI : GInv n (T.1 7)) (hm : m ≤ 100) :
    ∀ q j A B C D o s F g h e k c, j ≤ m → m - j < q → TrR S A B C D n F g h → h ≤ 36 * j → FInv n F → cut F → F 14 = nI e → e + (m - j) < 1000 → okO T o → k < 2147483647 → c ≤ j →
    ∃ (x : Int32 × vS) (t : Int32 × vS), lX6_year_48 (nI m) q (mk4 S 129 A B C D) (lN k) (nI c) (nI j) = some x ∧ lX7_year_51 (nI m) q (mk3 T o (putF (T.1 10) 1 F) s) (lN k) (nI g - nI h) (nI c) (nI j) = some t ∧ x.1 = t.1 ∧ Rel x.2 t.2 := by
  intro q
  induction q with
  | zero => intro j A B C D o s F g h e k c h1 h2; omega
  | succ q ih =>
    intro j A B C D o s F g h e k c h1 h2 hT hh hF hc h14 he ho hk hcj
    rw [lX6_year_48, lX7_year_51]
    have ho10 : o 10 = nI n := by rw [ho 10 (by decide) (by decide) (by decide)]; exact h10
    by_cases hj : j = m
    · subst hj
      unfold bX6_year_134 bX7_year_153 mX6_tell mX7_tells mX3_worth mX7_whole
      simp only [lN_one]
      simp (disch := omega) only [qlt, qb_some, qb_none, ↓qn_1, ↓qn_2, ↓qn_3, ↓qn_4, ↓qn_9, ↓qn_1000, ↓qn_low, qi_0, qi_1, qi_2, qi_3, qi_4, qi_5, qi_6, qi_7, qi_8, qi_9, qi_10, qi_11, qi_12, qi_13, qi_14, qi_15, qi_16, qi_17, qi_20, qi_24, qi_30, qi_31, qi_32, qi_60, qi_99, qi_100, qi_200, qi_1000, qi_3400, qi_4000, qi_of, pu_gI, pu_pI, nI_leI, nI_ltI, nI_eq, nI_add, pk_mul, pk_sub, pk_div, qw_s, qw_o, qw_l, qr_s, qr_o, qr_l, ql_i, ql_s, ql_o, pk_us, pk_un, pk_uLs, pk_uLn, if_pos, if_neg, if_true, if_false, ite_self, eq_self, Nat.zero_add, Nat.add_zero, qwr, not_true_eq_false, not_false_eq_true, Option.some.injEq, qe_gn0, qe_m1n, qe_gng, qe_ngn, qe_gm, qe_mg, qe_lm1, qe_lgn, qe_lem, qe_leg, qe_tm1, qe_tgn, mk4_0, hT.2.1, hT.2.2, frac61, nI_l]
      refine ⟨_, _, rfl, rfl, rfl, ?_⟩
      have R2 := Rel_frac (Rel_tell (Rel_try (A := A) (B := B) (C := C) (D := D) (o := o) (F := F) (s := s) R ho) (nI g - nI h)) (lN c) (lN 1)
      exact R2
    · have hjm : j < m := by omega
      have e1 : lN k * lN 48271 = lN (k * 48271) := lN_mul _ _
      have e2 : lN 48271 * lN k = lN (k * 48271) := by rw [lN_mul, Nat.mul_comm]
      have e3 : lN (k * 48271) - lN (k * 48271) / lN 2147483647 * lN 2147483647 = lN (k * 48271 % 2147483647) := pk_lRem (by omega) (by decide) (by decide)
      have e4 : lN (k * 48271 % 2147483647) - lN (k * 48271 % 2147483647) / lN 13 * lN 13 = lN (k * 48271 % 2147483647 % 13) := pk_lRem (by omega) (by decide) (by decide)
      have h16 : (1 : Nat) < 6 := by decide
      have k2 : k * 48271 % 2147483647 < 2147483647 := Nat.mod_lt _ (by decide)
      have dd : k * 48271 % 2147483647 % 13 < 13 := Nat.mod_lt _ (by decide)
      simp only [l48271, lM31, l13, e1, e2, qlt, e3, e4, lN_i]
      generalize k * 48271 % 2147483647 % 13 = d at dd ⊢
      generalize k * 48271 % 2147483647 = k' at k2 ⊢
      have step : ∀ d', d' < 13 → (d' = 12 ∨ d' < 3 * n) → canB (T.1 7) n F d' = true → ∃ (x : Int32 × vS) (t : Int32 × vS), bX6_year_113 (lX6_year_48 (nI m) q) (mk4 S 129 (sA A (T.1 7) n F d') (sB B (T.1 7) n F d') (CC C (T.1 7) F n d' n) (DD D (T.1 7) n F d' n)) (nI m) (lN k') (nI c) (nI j) (nI h) = some x ∧ bX7_year_117 (lX7_year_51 (nI m) q) (mk3 T o (putF (T.1 10) 1 F) s) (nI m) (lN k') (nI g - nI h) (nI c) (nI j) (nI d') (nI 1) = some t ∧ x.1 = t.1 ∧ Rel x.2 t.2 := by
        intro d' hd1 hd2 hcan
        have go7 := goes7_y (T := T) (a := T.1 10) (s := s) hn ho10 hGI h16 hc hF hd2 hcan
        have hh2 := hsD_le (G := T.1 7) (F := F) (n := n) (d := d') hn hGI
        have st6 := fun c' (hc' : c' ≤ j + 1) => ih (j + 1) _ _ _ _ (sO (upd o 22 (nI (cosN (T.1 7) n F d'))) (gsD (T.1 7) n F d') (hsD (T.1 7) n F d')) (fun g => if g < n then snt (T.1 7) n F d' g else s g) _ _ _ (e + 1) k' c' (by omega) (by omega) (TrR_s (d := d') hn hT) (by omega) (FInv_day hn hF h14 (by omega) hd1 hcan) (cut_dy hc) (dy14 h14) (by omega) (okO_sO (okO_22 ho)) k2 hc'
        unfold bX6_year_113 bX7_year_117 bX7_year_144
        simp (disch := omega) only [qlt, qb_some, qb_none, ↓qn_1, ↓qn_2, ↓qn_3, ↓qn_4, ↓qn_9, ↓qn_1000, ↓qn_low, qi_0, qi_1, qi_2, qi_3, qi_4, qi_5, qi_6, qi_7, qi_8, qi_9, qi_10, qi_11, qi_12, qi_13, qi_14, qi_15, qi_16, qi_17, qi_20, qi_24, qi_30, qi_31, qi_32, qi_60, qi_99, qi_100, qi_200, qi_1000, qi_3400, qi_4000, qi_of, pu_gI, pu_pI, nI_leI, nI_ltI, nI_eq, nI_add, pk_mul, pk_div, qw_s, qw_o, qw_l, qr_s, qr_o, qr_l, ql_i, ql_s, ql_o, pk_us, pk_un, pk_uLs, pk_uLn, if_pos, if_neg, if_true, if_false, ite_self, eq_self, Nat.zero_add, Nat.add_zero, qwr, not_true_eq_false, not_false_eq_true, Option.some.injEq, qe_gn0, qe_m1n, qe_gng, qe_ngn, qe_gm, qe_mg, qe_lm1, qe_lgn, qe_lem, qe_leg, qe_tm1, qe_tgn, go7, mk4_0, sA_4, hT.2.2, mk3_0, sO_20, sO_21, i32_s]
        by_cases h0 : hsD (T.1 7) n F d' = 0
        · rw [if_pos (by omega), if_pos (by omega)]
          exact st6 c (by omega)
        · rw [if_neg (by omega), if_neg (by omega)]
          exact st6 (c + 1) (by omega)
      have go6 := goOn6 (S := S) (k := 129) (k1 := 30 + 1) (A := A) (B := B) (C := C) (D := D) (d := d) (by omega) hn hG hGI hT.1 hF dd
      have go12 := goOn6 (S := S) (k := 129) (k1 := 30 + 1) (A := A) (B := B) (C := C) (D := D) (d := 12) (by omega) hn hG hGI hT.1 hF (by decide)
      rw [can12, if_pos rfl] at go12
      have h44 : (mk4 S 129 A B C D).1 129 4 = nI h := by rw [mk4_0]; exact hT.2.2
      have hnum : mX7_isNumber (mk3 T o (putF (T.1 10) 1 F) s) (nI d) = (if d = 12 ∨ d < 3 * n then nI 1 else nI 0) := m7_num ho10 hn (by omega)
      cases hcan : canB (T.1 7) n F d
      · rw [hcan] at go6
        have st := step 12 (by decide) (Or.inl rfl) can12
        have h7 : ∀ x : Option (Int32 × vS), (bX7_year_117 (lX7_year_51 (nI m) q) (mk3 T o (putF (T.1 10) 1 F) s) (nI m) (lN k') (nI g - nI h) (nI c) (nI j) (nI 12) (nI 1) = x) → (if mX7_isNumber (mk3 T o (putF (T.1 10) 1 F) s) (nI d) = nI 0 then bX7_year_100 (lX7_year_51 (nI m) q) (mk3 T o (putF (T.1 10) 1 F) s) (nI m) (lN k') (nI g - nI h) (nI c) (nI j) (nI d) else (mX7_costOf (mk3 T o (putF (T.1 10) 1 F) s) (nI 1) (nI d)).bind fun a88 => if a88 = gN then bX7_year_100 (lX7_year_51 (nI m) q) (mk3 T o (putF (T.1 10) 1 F) s) (nI m) (lN k') (nI g - nI h) (nI c) (nI j) (nI d) else bX7_year_101 (lX7_year_51 (nI m) q) (mk3 T o (putF (T.1 10) 1 F) s) (nI m) (lN k') (nI g - nI h) (nI c) (nI j) (nI d) (nI 1)) = x := by
          intro x hx
          rw [hnum]
          unfold bX7_year_100 bX7_year_101
          by_cases hv : d = 12 ∨ d < 3 * n
          · rw [if_pos hv, k7_cost hn ho10 h16 hc hF hv, cosV_n hcan]
            simp (disch := omega) only [qlt, qb_some, qb_none, ↓qn_1, ↓qn_2, ↓qn_3, ↓qn_4, ↓qn_9, ↓qn_1000, ↓qn_low, qi_0, qi_1, qi_2, qi_3, qi_4, qi_5, qi_6, qi_7, qi_8, qi_9, qi_10, qi_11, qi_12, qi_13, qi_14, qi_15, qi_16, qi_17, qi_20, qi_24, qi_30, qi_31, qi_32, qi_60, qi_99, qi_100, qi_200, qi_1000, qi_3400, qi_4000, qi_of, pu_gI, pu_pI, nI_leI, nI_ltI, nI_eq, nI_add, pk_mul, pk_sub, pk_div, qw_s, qw_o, qw_l, qr_s, qr_o, qr_l, ql_i, ql_s, ql_o, pk_us, pk_un, pk_uLs, pk_uLn, if_pos, if_neg, if_true, if_false, ite_self, eq_self, Nat.zero_add, Nat.add_zero, qwr, not_true_eq_false, not_false_eq_true, Option.some.injEq, qe_gn0, qe_m1n, qe_gng, qe_ngn, qe_gm, qe_mg, qe_lm1, qe_lgn, qe_lem, qe_leg, qe_tm1, qe_tgn]
            exact hx
          · rw [if_neg hv]
            simp (disch := omega) only [qlt, qb_some, qb_none, ↓qn_1, ↓qn_2, ↓qn_3, ↓qn_4, ↓qn_9, ↓qn_1000, ↓qn_low, qi_0, qi_1, qi_2, qi_3, qi_4, qi_5, qi_6, qi_7, qi_8, qi_9, qi_10, qi_11, qi_12, qi_13, qi_14, qi_15, qi_16, qi_17, qi_20, qi_24, qi_30, qi_31, qi_32, qi_60, qi_99, qi_100, qi_200, qi_1000, qi_3400, qi_4000, qi_of, pu_gI, pu_pI, nI_leI, nI_ltI, nI_eq, nI_add, pk_mul, pk_sub, pk_div, qw_s, qw_o, qw_l, qr_s, qr_o, qr_l, ql_i, ql_s, ql_o, pk_us, pk_un, pk_uLs, pk_uLn, if_pos, if_neg, if_true, if_false, ite_self, eq_self, Nat.zero_add, Nat.add_zero, qwr, not_true_eq_false, not_false_eq_true, Option.some.injEq, qe_gn0, qe_m1n, qe_gng, qe_ngn, qe_gm, qe_mg, qe_lm1, qe_lgn, qe_lem, qe_leg, qe_tm1, qe_tgn]
            exact hx
        obtain ⟨x, t, s1, s2, s3, s4⟩ := st
        refine ⟨x, t, ?_, ?_, s3, s4⟩
        · simp (disch := omega) only [qlt, qb_some, qb_none, ↓qn_1, ↓qn_2, ↓qn_3, ↓qn_4, ↓qn_9, ↓qn_1000, ↓qn_low, qi_0, qi_1, qi_2, qi_3, qi_4, qi_5, qi_6, qi_7, qi_8, qi_9, qi_10, qi_11, qi_12, qi_13, qi_14, qi_15, qi_16, qi_17, qi_20, qi_24, qi_30, qi_31, qi_32, qi_60, qi_99, qi_100, qi_200, qi_1000, qi_3400, qi_4000, qi_of, pu_gI, pu_pI, nI_leI, nI_ltI, nI_eq, nI_add, pk_mul, pk_sub, pk_div, qw_s, qw_o, qw_l, qr_s, qr_o, qr_l, ql_i, ql_s, ql_o, pk_us, pk_un, pk_uLs, pk_uLn, if_pos, if_neg, if_true, if_false, ite_self, eq_self, Nat.zero_add, Nat.add_zero, qwr, not_true_eq_false, not_false_eq_true, Option.some.injEq, qe_gn0, qe_m1n, qe_gng, qe_ngn, qe_gm, qe_mg, qe_lm1, qe_lgn, qe_lem, qe_leg, qe_tm1, qe_tgn, h44, go6, Bool.false_eq_true, go12]
          exact s1
        · have := h7 _ s2
          simp only [qi_0, qi_1, qn_9]
          rw [if_neg (nI_ge hjm (by omega))]
          exact this
      · rw [hcan, if_pos rfl] at go6
        have hv : d = 12 ∨ d < 3 * n := by
          rcases canB_d dd hcan with h1 | ⟨h1, _⟩
          · exact Or.inl h1
          · exact Or.inr h1
        obtain ⟨x, t, s1, s2, s3, s4⟩ := step d dd hv hcan
        have hcl : cosN (T.1 7) n F d ≤ 7 := cosN_le
        refine ⟨x, t, ?_, ?_, s3, s4⟩
        · simp (disch := omega) only [qlt, qb_some, qb_none, ↓qn_1, ↓qn_2, ↓qn_3, ↓qn_4, ↓qn_9, ↓qn_1000, ↓qn_low, qi_0, qi_1, qi_2, qi_3, qi_4, qi_5, qi_6, qi_7, qi_8, qi_9, qi_10, qi_11, qi_12, qi_13, qi_14, qi_15, qi_16, qi_17, qi_20, qi_24, qi_30, qi_31, qi_32, qi_60, qi_99, qi_100, qi_200, qi_1000, qi_3400, qi_4000, qi_of, pu_gI, pu_pI, nI_leI, nI_ltI, nI_eq, nI_add, pk_mul, pk_sub, pk_div, qw_s, qw_o, qw_l, qr_s, qr_o, qr_l, ql_i, ql_s, ql_o, pk_us, pk_un, pk_uLs, pk_uLn, if_pos, if_neg, if_true, if_false, ite_self, eq_self, Nat.zero_add, Nat.add_zero, qwr, not_true_eq_false, not_false_eq_true, Option.some.injEq, qe_gn0, qe_m1n, qe_gng, qe_ngn, qe_gm, qe_mg, qe_lm1, qe_lgn, qe_lem, qe_leg, qe_tm1, qe_tgn, h44, go6]
          exact s1
        · unfold bX7_year_101
          rw [hnum, if_pos hv]
          simp (disch := omega) only [qlt, qb_some, qb_none, ↓qn_1, ↓qn_2, ↓qn_3, ↓qn_4, ↓qn_9, ↓qn_1000, ↓qn_low, qi_0, qi_1, qi_2, qi_3, qi_4, qi_5, qi_6, qi_7, qi_8, qi_9, qi_10, qi_11, qi_12, qi_13, qi_14, qi_15, qi_16, qi_17, qi_20, qi_24, qi_30, qi_31, qi_32, qi_60, qi_99, qi_100, qi_200, qi_1000, qi_3400, qi_4000, qi_of, pu_gI, pu_pI, nI_leI, nI_ltI, nI_eq, nI_add, pk_mul, pk_sub, pk_div, qw_s, qw_o, qw_l, qr_s, qr_o, qr_l, ql_i, ql_s, ql_o, pk_us, pk_un, pk_uLs, pk_uLn, if_pos, if_neg, if_true, if_false, ite_self, eq_self, Nat.zero_add, Nat.add_zero, qwr, not_true_eq_false, not_false_eq_true, Option.some.injEq, qe_gn0, qe_m1n, qe_gng, qe_ngn, qe_gm, qe_mg, qe_lm1, qe_lgn, qe_lem, qe_leg, qe_tm1, qe_tgn, k7_cost hn ho10 h16 hc hF hv, cosV_y hcan]
          exact s2
theorem st_year : St_year Rel := by
  intro S T a b R
  obtain ⟨n, hn, h10, h34, hGI, hV, hK⟩ := R.2.2.2.2
  obtain ⟨hG, hS, hg1, hh1, hFI, e, he, h14, hH, hD⟩ := id hV
  have hM : (2147483647 : Int32) = nI 2147483647 := by decide +kernel
  have hM2 : (2147483646 : Int32) = nI 2147483646 := by decide +kernel
  unfold mX6_year mX7_year
  simp only [hM, hM2]
  have in1 : ∀ {x : Int32} {N : Nat}, x < nI 1 → mX7_in x (nI 1) (nI N) = nI 0 := by
    intro x N h
    unfold mX7_in bX7_in_14
    rw [if_pos h]
    exact qi_0
  have in2 : ∀ {x : Int32} {N : Nat}, N + 1 < 2 ^ 31 → nI (N + 1) ≤ x → mX7_in x (nI 1) (nI N) = nI 0 := by
    intro x N hN h
    unfold mX7_in bX7_in_14
    split
    · exact qi_0
    · rw [if_pos (Int32.lt_of_lt_of_le (nI_lt (by omega) hN) h)]
      exact qi_0
  rcases sg_or a with h | ⟨k, hk, rfl⟩
  · simp (disch := omega) only [qlt, qb_some, qb_none, ↓qn_1, ↓qn_2, ↓qn_3, ↓qn_4, ↓qn_9, ↓qn_1000, ↓qn_low, qi_0, qi_1, qi_2, qi_3, qi_4, qi_5, qi_6, qi_7, qi_8, qi_9, qi_10, qi_11, qi_12, qi_13, qi_14, qi_15, qi_16, qi_17, qi_20, qi_24, qi_30, qi_31, qi_32, qi_60, qi_99, qi_100, qi_200, qi_1000, qi_3400, qi_4000, qi_of, pu_gI, pu_pI, nI_leI, nI_ltI, nI_eq, nI_add, pk_mul, pk_sub, pk_div, qw_s, qw_o, qw_l, qr_s, qr_o, qr_l, ql_i, ql_s, ql_o, pk_us, pk_un, pk_uLs, pk_uLn, if_pos, if_neg, if_true, if_false, ite_self, eq_self, Nat.zero_add, Nat.add_zero, qwr, not_true_eq_false, not_false_eq_true, Option.some.injEq, qe_gn0, qe_m1n, qe_gng, qe_ngn, qe_gm, qe_mg, qe_lm1, qe_lgn, qe_lem, qe_leg, qe_tm1, qe_tgn, sg_leT h, sg_geF h, sg_ltT h, sg_gtF h, sg_eqF h, sg_eqF2 h, in1 (sg_le h (show 1 < 2 ^ 31 by decide))]
    exact ⟨_, _, rfl, rfl, rfl, R⟩
  by_cases hk1 : 1 ≤ k
  · by_cases hk2 : k < 2147483647
    · rcases sg_or b with h | ⟨m, hm, rfl⟩
      · simp (disch := omega) only [qlt, qb_some, qb_none, ↓qn_1, ↓qn_2, ↓qn_3, ↓qn_4, ↓qn_9, ↓qn_1000, ↓qn_low, qi_0, qi_1, qi_2, qi_3, qi_4, qi_5, qi_6, qi_7, qi_8, qi_9, qi_10, qi_11, qi_12, qi_13, qi_14, qi_15, qi_16, qi_17, qi_20, qi_24, qi_30, qi_31, qi_32, qi_60, qi_99, qi_100, qi_200, qi_1000, qi_3400, qi_4000, qi_of, pu_gI, pu_pI, nI_leI, nI_ltI, nI_eq, nI_add, pk_mul, pk_sub, pk_div, qw_s, qw_o, qw_l, qr_s, qr_o, qr_l, ql_i, ql_s, ql_o, pk_us, pk_un, pk_uLs, pk_uLn, if_pos, if_neg, if_true, if_false, ite_self, eq_self, Nat.zero_add, Nat.add_zero, qwr, not_true_eq_false, not_false_eq_true, Option.some.injEq, qe_gn0, qe_m1n, qe_gng, qe_ngn, qe_gm, qe_mg, qe_lm1, qe_lgn, qe_lem, qe_leg, qe_tm1, qe_tgn, in7_y, sg_leT h, sg_geF h, sg_ltT h, sg_gtF h, sg_eqF h, sg_eqF2 h, in1 (sg_le h (show 1 < 2 ^ 31 by decide))]
        exact ⟨_, _, rfl, rfl, rfl, R⟩
      by_cases hm1 : 1 ≤ m
      · by_cases hm2 : m ≤ 100
        · by_cases hn0 : n = 0
          · subst hn0
            simp (disch := omega) only [qlt, qb_some, qb_none, ↓qn_1, ↓qn_2, ↓qn_3, ↓qn_4, ↓qn_9, ↓qn_1000, ↓qn_low, qi_0, qi_1, qi_2, qi_3, qi_4, qi_5, qi_6, qi_7, qi_8, qi_9, qi_10, qi_11, qi_12, qi_13, qi_14, qi_15, qi_16, qi_17, qi_20, qi_24, qi_30, qi_31, qi_32, qi_60, qi_99, qi_100, qi_200, qi_1000, qi_3400, qi_4000, qi_of, pu_gI, pu_pI, nI_leI, nI_ltI, nI_eq, nI_add, pk_mul, pk_sub, pk_div, qw_s, qw_o, qw_l, qr_s, qr_o, qr_l, ql_i, ql_s, ql_o, pk_us, pk_un, pk_uLs, pk_uLn, if_pos, if_neg, if_true, if_false, ite_self, eq_self, Nat.zero_add, Nat.add_zero, qwr, not_true_eq_false, not_false_eq_true, Option.some.injEq, qe_gn0, qe_m1n, qe_gng, qe_ngn, qe_gm, qe_mg, qe_lm1, qe_lgn, qe_lem, qe_leg, qe_tm1, qe_tgn, in7_y, noGods6 hG.1 hn, h10]
            exact ⟨_, _, rfl, rfl, rfl, R⟩
          · have h06 : (0 : Nat) < 6 := by decide
            have h16 : (1 : Nat) < 6 := by decide
            have go := year_l R hn h10 hG hGI hm2 FU 0 _ _ _ _ (T.1 0) (T.1 11) (fr T 0) 0 0 e k 0 (Nat.zero_le m) (by unfold FU; omega) (TrR_0 (A := S.1 129) (B := S.1 (129 + 1)) (C := S.1 (129 + 2)) (D := S.1 (129 + 3)) hn hS) (by omega) hFI (cut_frT T 0) h14 (by omega) (okO_id T) hk2 (by omega)
            rw [i32_00] at go
            simp (disch := omega) only [qlt, qb_some, qb_none, ↓qn_1, ↓qn_2, ↓qn_3, ↓qn_4, ↓qn_9, ↓qn_1000, ↓qn_low, qi_0, qi_1, qi_2, qi_3, qi_4, qi_5, qi_6, qi_7, qi_8, qi_9, qi_10, qi_11, qi_12, qi_13, qi_14, qi_15, qi_16, qi_17, qi_20, qi_24, qi_30, qi_31, qi_32, qi_60, qi_99, qi_100, qi_200, qi_1000, qi_3400, qi_4000, qi_of, pu_gI, pu_pI, nI_leI, nI_ltI, nI_eq, nI_add, pk_mul, pk_sub, pk_div, qw_s, qw_o, qw_l, qr_s, qr_o, qr_l, ql_i, ql_s, ql_o, pk_us, pk_un, pk_uLs, pk_uLn, if_pos, if_neg, if_true, if_false, ite_self, eq_self, Nat.zero_add, Nat.add_zero, qwr, not_true_eq_false, not_false_eq_true, Option.some.injEq, qe_gn0, qe_m1n, qe_gng, qe_ngn, qe_gm, qe_mg, qe_lm1, qe_lgn, qe_lem, qe_leg, qe_tm1, qe_tgn, in7_y, noGods6 hG.1 hn, h10, start6S, nI_l, copyV7T h06 h16 (show (0 : Nat) ≠ 1 by decide)]
            exact go
        · simp (disch := omega) only [qlt, qb_some, qb_none, ↓qn_1, ↓qn_2, ↓qn_3, ↓qn_4, ↓qn_9, ↓qn_1000, ↓qn_low, qi_0, qi_1, qi_2, qi_3, qi_4, qi_5, qi_6, qi_7, qi_8, qi_9, qi_10, qi_11, qi_12, qi_13, qi_14, qi_15, qi_16, qi_17, qi_20, qi_24, qi_30, qi_31, qi_32, qi_60, qi_99, qi_100, qi_200, qi_1000, qi_3400, qi_4000, qi_of, pu_gI, pu_pI, nI_leI, nI_ltI, nI_eq, nI_add, pk_mul, pk_sub, pk_div, qw_s, qw_o, qw_l, qr_s, qr_o, qr_l, ql_i, ql_s, ql_o, pk_us, pk_un, pk_uLs, pk_uLn, if_pos, if_neg, if_true, if_false, ite_self, eq_self, Nat.zero_add, Nat.add_zero, qwr, not_true_eq_false, not_false_eq_true, Option.some.injEq, qe_gn0, qe_m1n, qe_gng, qe_ngn, qe_gm, qe_mg, qe_lm1, qe_lgn, qe_lem, qe_leg, qe_tm1, qe_tgn, in7_y, in7_hi]
          exact ⟨_, _, rfl, rfl, rfl, R⟩
      · simp (disch := omega) only [qlt, qb_some, qb_none, ↓qn_1, ↓qn_2, ↓qn_3, ↓qn_4, ↓qn_9, ↓qn_1000, ↓qn_low, qi_0, qi_1, qi_2, qi_3, qi_4, qi_5, qi_6, qi_7, qi_8, qi_9, qi_10, qi_11, qi_12, qi_13, qi_14, qi_15, qi_16, qi_17, qi_20, qi_24, qi_30, qi_31, qi_32, qi_60, qi_99, qi_100, qi_200, qi_1000, qi_3400, qi_4000, qi_of, pu_gI, pu_pI, nI_leI, nI_ltI, nI_eq, nI_add, pk_mul, pk_sub, pk_div, qw_s, qw_o, qw_l, qr_s, qr_o, qr_l, ql_i, ql_s, ql_o, pk_us, pk_un, pk_uLs, pk_uLn, if_pos, if_neg, if_true, if_false, ite_self, eq_self, Nat.zero_add, Nat.add_zero, qwr, not_true_eq_false, not_false_eq_true, Option.some.injEq, qe_gn0, qe_m1n, qe_gng, qe_ngn, qe_gm, qe_mg, qe_lm1, qe_lgn, qe_lem, qe_leg, qe_tm1, qe_tgn, in7_y, in7_lo]
        exact ⟨_, _, rfl, rfl, rfl, R⟩
    · simp (disch := omega) only [qlt, qb_some, qb_none, ↓qn_1, ↓qn_2, ↓qn_3, ↓qn_4, ↓qn_9, ↓qn_1000, ↓qn_low, qi_0, qi_1, qi_2, qi_3, qi_4, qi_5, qi_6, qi_7, qi_8, qi_9, qi_10, qi_11, qi_12, qi_13, qi_14, qi_15, qi_16, qi_17, qi_20, qi_24, qi_30, qi_31, qi_32, qi_60, qi_99, qi_100, qi_200, qi_1000, qi_3400, qi_4000, qi_of, pu_gI, pu_pI, nI_leI, nI_ltI, nI_eq, nI_add, pk_mul, pk_sub, pk_div, qw_s, qw_o, qw_l, qr_s, qr_o, qr_l, ql_i, ql_s, ql_o, pk_us, pk_un, pk_uLs, pk_uLn, if_pos, if_neg, if_true, if_false, ite_self, eq_self, Nat.zero_add, Nat.add_zero, qwr, not_true_eq_false, not_false_eq_true, Option.some.injEq, qe_gn0, qe_m1n, qe_gng, qe_ngn, qe_gm, qe_mg, qe_lm1, qe_lgn, qe_lem, qe_leg, qe_tm1, qe_tgn, in7_hi]
      exact ⟨_, _, rfl, rfl, rfl, R⟩
  · simp (disch := omega) only [qlt, qb_some, qb_none, ↓qn_1, ↓qn_2, ↓qn_3, ↓qn_4, ↓qn_9, ↓qn_1000, ↓qn_low, qi_0, qi_1, qi_2, qi_3, qi_4, qi_5, qi_6, qi_7, qi_8, qi_9, qi_10, qi_11, qi_12, qi_13, qi_14, qi_15, qi_16, qi_17, qi_20, qi_24, qi_30, qi_31, qi_32, qi_60, qi_99, qi_100, qi_200, qi_1000, qi_3400, qi_4000, qi_of, pu_gI, pu_pI, nI_leI, nI_ltI, nI_eq, nI_add, pk_mul, pk_sub, pk_div, qw_s, qw_o, qw_l, qr_s, qr_o, qr_l, ql_i, ql_s, ql_o, pk_us, pk_un, pk_uLs, pk_uLn, if_pos, if_neg, if_true, if_false, ite_self, eq_self, Nat.zero_add, Nat.add_zero, qwr, not_true_eq_false, not_false_eq_true, Option.some.injEq, qe_gn0, qe_m1n, qe_gng, qe_ngn, qe_gm, qe_mg, qe_lm1, qe_lgn, qe_lem, qe_leg, qe_tm1, qe_tgn, in7_lo]
    exact ⟨_, _, rfl, rfl, rfl, R⟩
