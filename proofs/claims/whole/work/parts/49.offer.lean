/-! ===== PURE: offer, rest ===== -/
theorem dvT_20 {T : vS} {n d e : Nat} : (dvT T n d e).1 0 20 = nI (gsD (T.1 7) n (fr T 0) d) - nI (hsD (T.1 7) n (fr T 0) d) := by
  unfold dvT
  rw [qr_o (by decide), mk3_0, sO_20]
theorem cut_frT (T : vS) (f : Nat) : cut (fr T f) := cut_fr _ _
theorem dvT_fr {T : vS} {n d e : Nat} : fr (dvT T n d e) 0 = dyF (T.1 7) n (fr T 0) d := by
  have h : (dvT T n d e).1 10 = putF (T.1 10) 0 (dyF (T.1 7) n (fr T 0) d) := by
    unfold dvT
    rw [qr_o (by decide), mk3_10]
  show frA ((dvT T n d e).1 10) 0 = _
  rw [h]
  exact frA_put (cut_dy (cut_frT T 0))
theorem Rel_day {S T : vS} {n d e : Nat} (R : Rel S T) (hn : n ≤ 4) (h10 : T.1 0 10 = nI n) (h34 : T.1 0 34 = gN) (hGI : GInv n (T.1 7)) (hV : VilR S 30 n (T.1 7) (fr T 0) (T.1 12)) (hK : ∀ k, k < 3 → KepR S T n k)
    (h14 : fr T 0 14 = nI e) (he : e < 200) (hd : d < 13) (hcan : canB (T.1 7) n (fr T 0) d = true) : Rel (dvS S (T.1 7) n (fr T 0) d e) (dvT T n d e) := by
  have o : ∀ p, p ≠ 20 → p ≠ 21 → p ≠ 22 → (dvT T n d e).1 0 p = T.1 0 p := by
    intro p h1 h2 h3
    unfold dvT
    rw [qr_o (by decide), mk3_0, sO_o h1 h2, pk_un h3]
  have c : ∀ k, k ≠ 0 → k ≠ 10 → k ≠ 11 → k ≠ 12 → (dvT T n d e).1 k = T.1 k := by
    intro k h1 h2 h3 h4
    unfold dvT
    rw [qr_o h4, mk3_o h1 h2 h3, qr_o h4]
  have s : ∀ k, (k < 41 ∨ 45 < k) → (dvS S (T.1 7) n (fr T 0) d e).1 k = S.1 k := by
    intro k h
    unfold dvS
    rw [qr_o (by omega), mk4_o (by omega), qr_o (by omega)]
  have f0 : fr (dvT T n d e) 0 = dyF (T.1 7) n (fr T 0) d := dvT_fr
  have e12 : (dvT T n d e).1 12 = dv2 T n d e := qr_s _ _ _
  refine Rel_vil R ⟨fun k hk => s k (by omega), s 134 (by omega), rfl⟩ ⟨o 0 (by decide) (by decide) (by decide), o 2 (by decide) (by decide) (by decide), c 1 (by decide) (by decide) (by decide) (by decide), c 2 (by decide) (by decide) (by decide) (by decide), c 3 (by decide) (by decide) (by decide) (by decide), c 5 (by decide) (by decide) (by decide) (by decide), c 6 (by decide) (by decide) (by decide) (by decide), rfl⟩ ⟨n, hn, ?_, ?_, ?_, ?_, fun k hk => ?_⟩
  · rw [o 10 (by decide) (by decide) (by decide)]; exact h10
  · rw [o 34 (by decide) (by decide) (by decide)]; exact h34
  · rw [c 7 (by decide) (by decide) (by decide) (by decide)]; exact hGI
  · rw [c 7 (by decide) (by decide) (by decide) (by decide), f0, e12]
    exact VilR_day hn hGI h14 he hd hcan hV
  · exact KepR_eq hn (fun c h1 h2 => s c (by omega)) (c 7 (by decide) (by decide) (by decide) (by decide)) (c 13 (by decide) (by decide) (by decide) (by decide)) (c 14 (by decide) (by decide) (by decide) (by decide)) (c 15 (by decide) (by decide) (by decide) (by decide)) (c 16 (by decide) (by decide) (by decide) (by decide)) (hK k hk)
theorem cosV_n {G F : Nat → Int32} {n d : Nat} (h : canB G n F d = false) : cosV G n F d = gN := by
  unfold cosV
  rw [h]
  rfl
theorem cosN_le {G F : Nat → Int32} {n d : Nat} : cosN G n F d ≤ 7 := by
  unfold cosN
  split
  · omega
  · exact pc_le _ (Nat.lt_trans (setN_lt _) (by decide))
theorem cosV_y {G F : Nat → Int32} {n d : Nat} (h : canB G n F d = true) : cosV G n F d = nI (cosN G n F d) := by
  unfold cosV
  rw [h]
  rfl
theorem can12 {G F : Nat → Int32} {n : Nat} : canB G n F 12 = true := by
  unfold canB
  simp
theorem st_offer : St_offer Rel := by
  intro S T a R
  obtain ⟨n, hn, h10, h34, hGI, hV, hK⟩ := R.2.2.2.2
  obtain ⟨hG, hS, hg1, hh1, hFI, e, he, h14, hH, hD⟩ := id hV
  have hf : (0 : Nat) < 6 := by decide
  have h0 : S.1 (30 + 11) 0 = nI e := hS.1.trans h14
  unfold mX6_offer mX7_offer
  rcases num_or hG.1 h10 hn a with ⟨c1, c2⟩ | ⟨d, hd, hd2, rfl, c1, c2⟩
  · simp (disch := omega) only [qlt, qb_some, qb_none, ↓qn_1, ↓qn_2, ↓qn_3, ↓qn_4, ↓qn_9, ↓qn_1000, ↓qn_low, qi_0, qi_1, qi_2, qi_3, qi_4, qi_5, qi_6, qi_7, qi_8, qi_9, qi_10, qi_11, qi_12, qi_13, qi_14, qi_15, qi_16, qi_17, qi_20, qi_24, qi_30, qi_31, qi_32, qi_60, qi_99, qi_100, qi_200, qi_1000, qi_3400, qi_4000, qi_of, pu_gI, pu_pI, nI_leI, nI_ltI, nI_eq, nI_add, pk_mul, pk_sub, pk_div, qw_s, qw_o, qw_l, qr_s, qr_o, qr_l, ql_i, ql_s, ql_o, pk_us, pk_un, pk_uLs, pk_uLn, if_pos, if_neg, if_true, if_false, ite_self, eq_self, Nat.zero_add, Nat.add_zero, qwr, not_true_eq_false, not_false_eq_true, Option.some.injEq, qe_gn0, qe_m1n, qe_gng, qe_ngn, qe_gm, qe_mg, qe_lm1, qe_lgn, qe_lem, qe_leg, qe_tm1, qe_tgn, c1, c2]
    exact ⟨_, _, rfl, rfl, rfl, R⟩
  by_cases hn0 : n = 0
  · subst hn0
    simp (disch := omega) only [qlt, qb_some, qb_none, ↓qn_1, ↓qn_2, ↓qn_3, ↓qn_4, ↓qn_9, ↓qn_1000, ↓qn_low, qi_0, qi_1, qi_2, qi_3, qi_4, qi_5, qi_6, qi_7, qi_8, qi_9, qi_10, qi_11, qi_12, qi_13, qi_14, qi_15, qi_16, qi_17, qi_20, qi_24, qi_30, qi_31, qi_32, qi_60, qi_99, qi_100, qi_200, qi_1000, qi_3400, qi_4000, qi_of, pu_gI, pu_pI, nI_leI, nI_ltI, nI_eq, nI_add, pk_mul, pk_sub, pk_div, qw_s, qw_o, qw_l, qr_s, qr_o, qr_l, ql_i, ql_s, ql_o, pk_us, pk_un, pk_uLs, pk_uLn, if_pos, if_neg, if_true, if_false, ite_self, eq_self, Nat.zero_add, Nat.add_zero, qwr, not_true_eq_false, not_false_eq_true, Option.some.injEq, qe_gn0, qe_m1n, qe_gng, qe_ngn, qe_gm, qe_mg, qe_lm1, qe_lgn, qe_lem, qe_leg, qe_tm1, qe_tgn, c1, c2, noGods6 hG.1 hn, h10]
    exact ⟨_, _, rfl, rfl, rfl, R⟩
  have k6 := c6_cost hn hG hS hFI (show d < 2 ^ 30 by omega)
  have k7 := m7_cost hn h10 hf hFI hd2
  cases hcan : canB (T.1 7) n (fr T 0) d
  · rw [cosV_n hcan] at k6 k7
    simp (disch := omega) only [qlt, qb_some, qb_none, ↓qn_1, ↓qn_2, ↓qn_3, ↓qn_4, ↓qn_9, ↓qn_1000, ↓qn_low, qi_0, qi_1, qi_2, qi_3, qi_4, qi_5, qi_6, qi_7, qi_8, qi_9, qi_10, qi_11, qi_12, qi_13, qi_14, qi_15, qi_16, qi_17, qi_20, qi_24, qi_30, qi_31, qi_32, qi_60, qi_99, qi_100, qi_200, qi_1000, qi_3400, qi_4000, qi_of, pu_gI, pu_pI, nI_leI, nI_ltI, nI_eq, nI_add, pk_mul, pk_sub, pk_div, qw_s, qw_o, qw_l, qr_s, qr_o, qr_l, ql_i, ql_s, ql_o, pk_us, pk_un, pk_uLs, pk_uLn, if_pos, if_neg, if_true, if_false, ite_self, eq_self, Nat.zero_add, Nat.add_zero, qwr, not_true_eq_false, not_false_eq_true, Option.some.injEq, qe_gn0, qe_m1n, qe_gng, qe_ngn, qe_gm, qe_mg, qe_lm1, qe_lgn, qe_lem, qe_leg, qe_tm1, qe_tgn, c1, c2, noGods6 hG.1 hn, h10, k6, k7]
    exact ⟨_, _, rfl, rfl, rfl, R⟩
  · rw [cosV_y hcan] at k6 k7
    have hcl : cosN (T.1 7) n (fr T 0) d ≤ 7 := cosN_le
    unfold mX7_isFull
    by_cases hfull : e < 200
    · unfold mX6_tell mX7_tells
      simp (disch := omega) only [qlt, qb_some, qb_none, ↓qn_1, ↓qn_2, ↓qn_3, ↓qn_4, ↓qn_9, ↓qn_1000, ↓qn_low, qi_0, qi_1, qi_2, qi_3, qi_4, qi_5, qi_6, qi_7, qi_8, qi_9, qi_10, qi_11, qi_12, qi_13, qi_14, qi_15, qi_16, qi_17, qi_20, qi_24, qi_30, qi_31, qi_32, qi_60, qi_99, qi_100, qi_200, qi_1000, qi_3400, qi_4000, qi_of, pu_gI, pu_pI, nI_leI, nI_ltI, nI_eq, nI_add, pk_mul, pk_sub, pk_div, qw_s, qw_o, qw_l, qr_s, qr_o, qr_l, ql_i, ql_s, ql_o, pk_us, pk_un, pk_uLs, pk_uLn, if_pos, if_neg, if_true, if_false, ite_self, eq_self, Nat.zero_add, Nat.add_zero, qwr, not_true_eq_false, not_false_eq_true, Option.some.injEq, qe_gn0, qe_m1n, qe_gng, qe_ngn, qe_gm, qe_mg, qe_lm1, qe_lgn, qe_lem, qe_leg, qe_tm1, qe_tgn, c1, c2, noGods6 hG.1 hn, h10, k6, k7, h0, m7_v hf, h14, spendDay6 hn hG hGI hS hFI h14 hfull hd hcan, goesBy7 hn h10 hGI hFI h14 hfull hd2 hcan, dvT_20]
      exact ⟨_, _, rfl, rfl, rfl, Rel_tell (Rel_day R hn h10 h34 hGI hV hK h14 hfull hd hcan) _⟩
    · simp (disch := omega) only [qlt, qb_some, qb_none, ↓qn_1, ↓qn_2, ↓qn_3, ↓qn_4, ↓qn_9, ↓qn_1000, ↓qn_low, qi_0, qi_1, qi_2, qi_3, qi_4, qi_5, qi_6, qi_7, qi_8, qi_9, qi_10, qi_11, qi_12, qi_13, qi_14, qi_15, qi_16, qi_17, qi_20, qi_24, qi_30, qi_31, qi_32, qi_60, qi_99, qi_100, qi_200, qi_1000, qi_3400, qi_4000, qi_of, pu_gI, pu_pI, nI_leI, nI_ltI, nI_eq, nI_add, pk_mul, pk_sub, pk_div, qw_s, qw_o, qw_l, qr_s, qr_o, qr_l, ql_i, ql_s, ql_o, pk_us, pk_un, pk_uLs, pk_uLn, if_pos, if_neg, if_true, if_false, ite_self, eq_self, Nat.zero_add, Nat.add_zero, qwr, not_true_eq_false, not_false_eq_true, Option.some.injEq, qe_gn0, qe_m1n, qe_gng, qe_ngn, qe_gm, qe_mg, qe_lm1, qe_lgn, qe_lem, qe_leg, qe_tm1, qe_tgn, c1, c2, noGods6 hG.1 hn, h10, k6, k7, h0, m7_v hf, h14]
      exact ⟨_, _, rfl, rfl, rfl, R⟩
theorem rest_l {n m : Nat} (hm : m ≤ 30) (hn : n ≤ 4) : ∀ q j S T w e, j ≤ m → m - j < q → Rel S T → T.1 0 10 = nI n → fr T 0 14 = nI e → e + (m - j) ≤ 200 →
    ∃ (r : Int32 × vS) (t : Int32 × vS), lX6_rest_47 (nI m) q S w (nI j) = some r ∧ lX7_rest_37 (nI m) q T w (nI j) = some t ∧ r.1 = t.1 ∧ Rel r.2 t.2 := by
  intro q
  induction q with
  | zero => intro j S T w e h1 h2; omega
  | succ q ih =>
    intro j S T w e h1 h2 R h10 h14 he
    rw [lX6_rest_47, lX7_rest_37]
    by_cases hj : j = m
    · subst hj
      unfold bX6_rest_70 bX7_rest_61 mX6_tell mX7_tells
      simp (disch := omega) only [qlt, qb_some, qb_none, ↓qn_1, ↓qn_2, ↓qn_3, ↓qn_4, ↓qn_9, ↓qn_1000, ↓qn_low, qi_0, qi_1, qi_2, qi_3, qi_4, qi_5, qi_6, qi_7, qi_8, qi_9, qi_10, qi_11, qi_12, qi_13, qi_14, qi_15, qi_16, qi_17, qi_20, qi_24, qi_30, qi_31, qi_32, qi_60, qi_99, qi_100, qi_200, qi_1000, qi_3400, qi_4000, qi_of, pu_gI, pu_pI, nI_leI, nI_ltI, nI_eq, nI_add, pk_mul, pk_sub, pk_div, qw_s, qw_o, qw_l, qr_s, qr_o, qr_l, ql_i, ql_s, ql_o, pk_us, pk_un, pk_uLs, pk_uLn, if_pos, if_neg, if_true, if_false, ite_self, eq_self, Nat.zero_add, Nat.add_zero, qwr, not_true_eq_false, not_false_eq_true, Option.some.injEq, qe_gn0, qe_m1n, qe_gng, qe_ngn, qe_gm, qe_mg, qe_lm1, qe_lgn, qe_lem, qe_leg, qe_tm1, qe_tgn]
      exact ⟨_, _, rfl, rfl, rfl, Rel_tell R _⟩
    · obtain ⟨n', hn', h10', h34, hGI, hV, hK⟩ := R.2.2.2.2
      have hnn : n' = n := (nI_eq (by omega) (by omega)).mp (h10'.symm.trans h10)
      subst hnn
      obtain ⟨hG, hS, hg1, hh1, hFI, _⟩ := id hV
      have R2 := Rel_day (d := 12) R hn h10 h34 hGI hV hK h14 (by omega) (by decide) can12
      have h10'' : (dvT T n' 12 e).1 0 10 = nI n' := by
        unfold dvT
        rw [qr_o (by decide), mk3_0, sO_o (by decide) (by decide), pk_un (by decide)]
        exact h10
      have h14'' : fr (dvT T n' 12 e) 0 14 = nI (e + 1) := by
        rw [dvT_fr]
        exact dy14 h14
      have he2 : e < 200 := by omega
      have := ih (j + 1) _ _ (w + (nI (gsD (T.1 7) n' (fr T 0) 12) - nI (hsD (T.1 7) n' (fr T 0) 12))) (e + 1) (by omega) (by omega) R2 h10'' h14'' (by omega)
      simp (disch := omega) only [qlt, qb_some, qb_none, ↓qn_1, ↓qn_2, ↓qn_3, ↓qn_4, ↓qn_9, ↓qn_1000, ↓qn_low, qi_0, qi_1, qi_2, qi_3, qi_4, qi_5, qi_6, qi_7, qi_8, qi_9, qi_10, qi_11, qi_12, qi_13, qi_14, qi_15, qi_16, qi_17, qi_20, qi_24, qi_30, qi_31, qi_32, qi_60, qi_99, qi_100, qi_200, qi_1000, qi_3400, qi_4000, qi_of, pu_gI, pu_pI, nI_leI, nI_ltI, nI_eq, nI_add, pk_mul, pk_sub, pk_div, qw_s, qw_o, qw_l, qr_s, qr_o, qr_l, ql_i, ql_s, ql_o, pk_us, pk_un, pk_uLs, pk_uLn, if_pos, if_neg, if_true, if_false, ite_self, eq_self, Nat.zero_add, Nat.add_zero, qwr, not_true_eq_false, not_false_eq_true, Option.some.injEq, qe_gn0, qe_m1n, qe_gng, qe_ngn, qe_gm, qe_mg, qe_lm1, qe_lgn, qe_lem, qe_leg, qe_tm1, qe_tgn, spendDay6 hn hG hGI hS hFI h14 he2 (show 12 < 13 by decide) can12, goesBy7 hn h10 hGI hFI h14 he2 (Or.inl rfl) can12, dvT_20]
      exact this
theorem st_rest : St_rest Rel := by
  intro S T a R
  obtain ⟨n, hn, h10, h34, hGI, hV, hK⟩ := R.2.2.2.2
  obtain ⟨hG, hS, hg1, hh1, hFI, e, he, h14, hH, hD⟩ := id hV
  have hf : (0 : Nat) < 6 := by decide
  have h0 : S.1 (30 + 11) 0 = nI e := hS.1.trans h14
  unfold mX6_rest mX7_rest
  rcases oR_or a (N := 31) (by decide) with h | ⟨m, hm, rfl⟩
  · simp (disch := omega) only [qlt, qb_some, qb_none, ↓qn_1, ↓qn_2, ↓qn_3, ↓qn_4, ↓qn_9, ↓qn_1000, ↓qn_low, qi_0, qi_1, qi_2, qi_3, qi_4, qi_5, qi_6, qi_7, qi_8, qi_9, qi_10, qi_11, qi_12, qi_13, qi_14, qi_15, qi_16, qi_17, qi_20, qi_24, qi_30, qi_31, qi_32, qi_60, qi_99, qi_100, qi_200, qi_1000, qi_3400, qi_4000, qi_of, pu_gI, pu_pI, nI_leI, nI_ltI, nI_eq, nI_add, pk_mul, pk_sub, pk_div, qw_s, qw_o, qw_l, qr_s, qr_o, qr_l, ql_i, ql_s, ql_o, pk_us, pk_un, pk_uLs, pk_uLn, if_pos, if_neg, if_true, if_false, ite_self, eq_self, Nat.zero_add, Nat.add_zero, qwr, not_true_eq_false, not_false_eq_true, Option.some.injEq, qe_gn0, qe_m1n, qe_gng, qe_ngn, qe_gm, qe_mg, qe_lm1, qe_lgn, qe_lem, qe_leg, qe_tm1, qe_tgn, oR_in7 (by decide) h]
    rcases h with h | h
    · simp (disch := omega) only [qlt, qb_some, qb_none, ↓qn_1, ↓qn_2, ↓qn_3, ↓qn_4, ↓qn_9, ↓qn_1000, ↓qn_low, qi_0, qi_1, qi_2, qi_3, qi_4, qi_5, qi_6, qi_7, qi_8, qi_9, qi_10, qi_11, qi_12, qi_13, qi_14, qi_15, qi_16, qi_17, qi_20, qi_24, qi_30, qi_31, qi_32, qi_60, qi_99, qi_100, qi_200, qi_1000, qi_3400, qi_4000, qi_of, pu_gI, pu_pI, nI_leI, nI_ltI, nI_eq, nI_add, pk_mul, pk_sub, pk_div, qw_s, qw_o, qw_l, qr_s, qr_o, qr_l, ql_i, ql_s, ql_o, pk_us, pk_un, pk_uLs, pk_uLn, if_pos, if_neg, if_true, if_false, ite_self, eq_self, Nat.zero_add, Nat.add_zero, qwr, not_true_eq_false, not_false_eq_true, Option.some.injEq, qe_gn0, qe_m1n, qe_gng, qe_ngn, qe_gm, qe_mg, qe_lm1, qe_lgn, qe_lem, qe_leg, qe_tm1, qe_tgn, sg_leT h, sg_geF h, sg_ltT h, sg_gtF h, sg_eqF h, sg_eqF2 h]
      exact ⟨_, _, rfl, rfl, rfl, R⟩
    · simp (disch := omega) only [qlt, qb_some, qb_none, ↓qn_1, ↓qn_2, ↓qn_3, ↓qn_4, ↓qn_9, ↓qn_1000, ↓qn_low, qi_0, qi_1, qi_2, qi_3, qi_4, qi_5, qi_6, qi_7, qi_8, qi_9, qi_10, qi_11, qi_12, qi_13, qi_14, qi_15, qi_16, qi_17, qi_20, qi_24, qi_30, qi_31, qi_32, qi_60, qi_99, qi_100, qi_200, qi_1000, qi_3400, qi_4000, qi_of, pu_gI, pu_pI, nI_leI, nI_ltI, nI_eq, nI_add, pk_mul, pk_sub, pk_div, qw_s, qw_o, qw_l, qr_s, qr_o, qr_l, ql_i, ql_s, ql_o, pk_us, pk_un, pk_uLs, pk_uLn, if_pos, if_neg, if_true, if_false, ite_self, eq_self, Nat.zero_add, Nat.add_zero, qwr, not_true_eq_false, not_false_eq_true, Option.some.injEq, qe_gn0, qe_m1n, qe_gng, qe_ngn, qe_gm, qe_mg, qe_lm1, qe_lgn, qe_lem, qe_leg, qe_tm1, qe_tgn, bg_leF h, bg_ltT h, bg_geT h, bg_ltF h, bg_eqF h, bg_eqF2 h]
      exact ⟨_, _, rfl, rfl, rfl, R⟩
  by_cases hn0 : n = 0
  · subst hn0
    simp (disch := omega) only [qlt, qb_some, qb_none, ↓qn_1, ↓qn_2, ↓qn_3, ↓qn_4, ↓qn_9, ↓qn_1000, ↓qn_low, qi_0, qi_1, qi_2, qi_3, qi_4, qi_5, qi_6, qi_7, qi_8, qi_9, qi_10, qi_11, qi_12, qi_13, qi_14, qi_15, qi_16, qi_17, qi_20, qi_24, qi_30, qi_31, qi_32, qi_60, qi_99, qi_100, qi_200, qi_1000, qi_3400, qi_4000, qi_of, pu_gI, pu_pI, nI_leI, nI_ltI, nI_eq, nI_add, pk_mul, pk_sub, pk_div, qw_s, qw_o, qw_l, qr_s, qr_o, qr_l, ql_i, ql_s, ql_o, pk_us, pk_un, pk_uLs, pk_uLn, if_pos, if_neg, if_true, if_false, ite_self, eq_self, Nat.zero_add, Nat.add_zero, qwr, not_true_eq_false, not_false_eq_true, Option.some.injEq, qe_gn0, qe_m1n, qe_gng, qe_ngn, qe_gm, qe_mg, qe_lm1, qe_lgn, qe_lem, qe_leg, qe_tm1, qe_tgn, in7_y, noGods6 hG.1 hn, h10]
    exact ⟨_, _, rfl, rfl, rfl, R⟩
  unfold mX7_isFull
  by_cases hfull : e + m ≤ 200
  · simp (disch := omega) only [qlt, qb_some, qb_none, ↓qn_1, ↓qn_2, ↓qn_3, ↓qn_4, ↓qn_9, ↓qn_1000, ↓qn_low, qi_0, qi_1, qi_2, qi_3, qi_4, qi_5, qi_6, qi_7, qi_8, qi_9, qi_10, qi_11, qi_12, qi_13, qi_14, qi_15, qi_16, qi_17, qi_20, qi_24, qi_30, qi_31, qi_32, qi_60, qi_99, qi_100, qi_200, qi_1000, qi_3400, qi_4000, qi_of, pu_gI, pu_pI, nI_leI, nI_ltI, nI_eq, nI_add, pk_mul, pk_sub, pk_div, qw_s, qw_o, qw_l, qr_s, qr_o, qr_l, ql_i, ql_s, ql_o, pk_us, pk_un, pk_uLs, pk_uLn, if_pos, if_neg, if_true, if_false, ite_self, eq_self, Nat.zero_add, Nat.add_zero, qwr, not_true_eq_false, not_false_eq_true, Option.some.injEq, qe_gn0, qe_m1n, qe_gng, qe_ngn, qe_gm, qe_mg, qe_lm1, qe_lgn, qe_lem, qe_leg, qe_tm1, qe_tgn, in7_y, noGods6 hG.1 hn, h10, h0, m7_v hf, h14]
    exact rest_l (by omega) hn FU 0 S T (nI 0) e (Nat.zero_le m) (by unfold FU; omega) R h10 h14 (by omega)
  · simp (disch := omega) only [qlt, qb_some, qb_none, ↓qn_1, ↓qn_2, ↓qn_3, ↓qn_4, ↓qn_9, ↓qn_1000, ↓qn_low, qi_0, qi_1, qi_2, qi_3, qi_4, qi_5, qi_6, qi_7, qi_8, qi_9, qi_10, qi_11, qi_12, qi_13, qi_14, qi_15, qi_16, qi_17, qi_20, qi_24, qi_30, qi_31, qi_32, qi_60, qi_99, qi_100, qi_200, qi_1000, qi_3400, qi_4000, qi_of, pu_gI, pu_pI, nI_leI, nI_ltI, nI_eq, nI_add, pk_mul, pk_sub, pk_div, qw_s, qw_o, qw_l, qr_s, qr_o, qr_l, ql_i, ql_s, ql_o, pk_us, pk_un, pk_uLs, pk_uLn, if_pos, if_neg, if_true, if_false, ite_self, eq_self, Nat.zero_add, Nat.add_zero, qwr, not_true_eq_false, not_false_eq_true, Option.some.injEq, qe_gn0, qe_m1n, qe_gng, qe_ngn, qe_gm, qe_mg, qe_lm1, qe_lgn, qe_lem, qe_leg, qe_tm1, qe_tgn, in7_y, noGods6 hG.1 hn, h10, h0, m7_v hf, h14]
    exact ⟨_, _, rfl, rfl, rfl, R⟩
