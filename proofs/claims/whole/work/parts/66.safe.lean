/-! ===== PURE: safe, share, food, harm ===== -/
theorem Rel_fill {S T : vS} {r N : Nat} (R : Rel S T) (hr : r < 6) (hN : N ≤ 4) (hB : ∀ i, i < N → S.1 (95 + 23) i = T.1 18 i) :
    Rel (wR (wI S (1 + 2 + 6) r (nI N)) (1 + 2 + r) (fun i => if 0 ≤ i ∧ i < 0 + N then S.1 (95 + 23) (i - 0) else (if i < N then nI 0 else S.1 (1 + 2 + r) i))) (wR (wI T 2 r (nI N)) 3 (ptX T r N)) := by
  refine Rel_rows R (fun c hc => ?_) rfl (fun c c1 c2 c3 => ?_) rfl ?_
  · rw [qr_o (by omega), qw_o (by omega)]
  · rw [qr_o c2, qw_o c1]
  · intro p hp
    obtain ⟨b1, b2, b3⟩ := R.2.2.1 p hp
    by_cases hpr : p = r
    · subst hpr
      rw [qr_o (by omega), qw_s, pk_us, qr_s, qr_o (by decide), qw_s, pk_us, qr_s]
      refine ⟨rfl, Or.inr ⟨N, by omega, rfl⟩, fun m hm e9 i hi => ?_⟩
      have hNm : N = m := (nI_eq (by omega) (by omega)).mp e9
      subst hNm
      rw [if_pos (by omega), Nat.sub_zero]
      unfold ptX
      rw [if_pos (by omega), show 60 * p + i - 60 * p = i by omega]
      dsimp only
      rw [if_pos hi]
      exact hB i hi
    · simp (disch := omega) only [qw_o, qw_s, pk_un, qr_o, qr_s] at b1 b2 b3 ⊢
      refine ⟨b1, b2, fun m hm e9 i hi => ?_⟩
      unfold ptX
      rw [if_neg (by omega)]
      exact b3 m hm e9 i hi
theorem st_safe : St_safe Rel := by
  intro S T a b R
  obtain ⟨n, hn, h10, h34, hGI, hV, hK⟩ := R.2.2.2.2
  obtain ⟨hG, hS, hg1, hh1, hFI, e, he, h14, hH, hD⟩ := id hV
  unfold mX6_safe mX7_safe mX7_isRow
  rcases len_or a 4 (by decide) with h | ⟨N, hN1, hN4, rfl⟩
  · rcases h with h | h
    · have h' : a < 1 := by rw [qi_1]; exact h
      rw [if_pos h']
      simp (disch := omega) only [qlt, qb_some, qb_none, ↓qn_1, ↓qn_2, ↓qn_3, ↓qn_4, ↓qn_9, ↓qn_1000, ↓qn_low, qi_0, qi_1, qi_2, qi_3, qi_4, qi_5, qi_6, qi_7, qi_8, qi_9, qi_10, qi_11, qi_12, qi_13, qi_14, qi_15, qi_16, qi_17, qi_20, qi_24, qi_30, qi_31, qi_32, qi_60, qi_99, qi_100, qi_200, qi_1000, qi_3400, qi_4000, qi_of, pu_gI, pu_pI, nI_leI, nI_ltI, nI_eq, nI_add, pk_mul, pk_sub, pk_div, qw_s, qw_o, qw_l, qr_s, qr_o, qr_l, ql_i, ql_s, ql_o, pk_us, pk_un, pk_uLs, pk_uLn, if_pos, if_neg, if_true, if_false, ite_self, eq_self, Nat.zero_add, Nat.add_zero, qwr, not_true_eq_false, not_false_eq_true, Option.some.injEq, qe_gn0, qe_m1n, qe_gng, qe_ngn, qe_gm, qe_mg, qe_lm1, qe_lgn, qe_lem, qe_leg, qe_tm1, qe_tgn, need_0 (in7_1 (show 4 < 1000 by decide) (Or.inl h)), m1_le]
      exact ⟨_, _, rfl, rfl, rfl, R⟩
    · simp (disch := omega) only [qlt, qb_some, qb_none, ↓qn_1, ↓qn_2, ↓qn_3, ↓qn_4, ↓qn_9, ↓qn_1000, ↓qn_low, qi_0, qi_1, qi_2, qi_3, qi_4, qi_5, qi_6, qi_7, qi_8, qi_9, qi_10, qi_11, qi_12, qi_13, qi_14, qi_15, qi_16, qi_17, qi_20, qi_24, qi_30, qi_31, qi_32, qi_60, qi_99, qi_100, qi_200, qi_1000, qi_3400, qi_4000, qi_of, pu_gI, pu_pI, nI_leI, nI_ltI, nI_eq, nI_add, pk_mul, pk_sub, pk_div, qw_s, qw_o, qw_l, qr_s, qr_o, qr_l, ql_i, ql_s, ql_o, pk_us, pk_un, pk_uLs, pk_uLn, if_pos, if_neg, if_true, if_false, ite_self, eq_self, Nat.zero_add, Nat.add_zero, qwr, not_true_eq_false, not_false_eq_true, Option.some.injEq, qe_gn0, qe_m1n, qe_gng, qe_ngn, qe_gm, qe_mg, qe_lm1, qe_lgn, qe_lem, qe_leg, qe_tm1, qe_tgn, bg_leF h, bg_ltT h, bg_geT h, bg_ltF h, bg_eqF h, bg_eqF2 h, need_0 (in7_1 (show 4 < 1000 by decide) (Or.inr h)), m1_le]
      exact ⟨_, _, rfl, rfl, rfl, R⟩
  rcases oR_or b (N := 6) (by decide) with h | ⟨r, hr, rfl⟩
  · simp (disch := omega) only [qlt, qb_some, qb_none, ↓qn_1, ↓qn_2, ↓qn_3, ↓qn_4, ↓qn_9, ↓qn_1000, ↓qn_low, qi_0, qi_1, qi_2, qi_3, qi_4, qi_5, qi_6, qi_7, qi_8, qi_9, qi_10, qi_11, qi_12, qi_13, qi_14, qi_15, qi_16, qi_17, qi_20, qi_24, qi_30, qi_31, qi_32, qi_60, qi_99, qi_100, qi_200, qi_1000, qi_3400, qi_4000, qi_of, pu_gI, pu_pI, nI_leI, nI_ltI, nI_eq, nI_add, pk_mul, pk_sub, pk_div, qw_s, qw_o, qw_l, qr_s, qr_o, qr_l, ql_i, ql_s, ql_o, pk_us, pk_un, pk_uLs, pk_uLn, if_pos, if_neg, if_true, if_false, ite_self, eq_self, Nat.zero_add, Nat.add_zero, qwr, not_true_eq_false, not_false_eq_true, Option.some.injEq, qe_gn0, qe_m1n, qe_gng, qe_ngn, qe_gm, qe_mg, qe_lm1, qe_lgn, qe_lem, qe_leg, qe_tm1, qe_tgn, has4_o (S := S) (k := 1) h, oR_in7 (by decide) h, need_r, m1_le]
    exact ⟨_, _, rfl, rfl, rfl, R⟩
  have hnd := need_y (T := T) hN1 hN4 (by decide) h10 hn
  by_cases hn0 : n = 0
  · rw [if_pos hn0] at hnd
    simp (disch := omega) only [qlt, qb_some, qb_none, ↓qn_1, ↓qn_2, ↓qn_3, ↓qn_4, ↓qn_9, ↓qn_1000, ↓qn_low, qi_0, qi_1, qi_2, qi_3, qi_4, qi_5, qi_6, qi_7, qi_8, qi_9, qi_10, qi_11, qi_12, qi_13, qi_14, qi_15, qi_16, qi_17, qi_20, qi_24, qi_30, qi_31, qi_32, qi_60, qi_99, qi_100, qi_200, qi_1000, qi_3400, qi_4000, qi_of, pu_gI, pu_pI, nI_leI, nI_ltI, nI_eq, nI_add, pk_mul, pk_sub, pk_div, qw_s, qw_o, qw_l, qr_s, qr_o, qr_l, ql_i, ql_s, ql_o, pk_us, pk_un, pk_uLs, pk_uLn, if_pos, if_neg, if_true, if_false, ite_self, eq_self, Nat.zero_add, Nat.add_zero, qwr, not_true_eq_false, not_false_eq_true, Option.some.injEq, qe_gn0, qe_m1n, qe_gng, qe_ngn, qe_gm, qe_mg, qe_lm1, qe_lgn, qe_lem, qe_leg, qe_tm1, qe_tgn, has4_y, in7_y, hnd, q4_le, noGods6 hG.1 hn]
    exact ⟨_, _, rfl, rfl, rfl, R⟩
  · rw [if_neg hn0] at hnd
    obtain ⟨S', s1, s2, s3, s4⟩ := seekHarm6 (fe := true) (N := N) (kg := 30 + 1) (ks := 30 + 11) hn hN4 (by omega) (by omega) hG hGI hS hFI h14 he
    rw [if_pos rfl] at s1
    have hB := Bs_of hn h10 h34 hN1 hN4 hGI hFI h14 he
    obtain ⟨T1, t1, t2, t3⟩ := first7 hB (Pt_29 T N)
    have hbd := allP_Bd (u := 4) (hl := false) (F := fr T 0) hn hGI hN4
    have hlen := allP_len (G := T.1 7) (n := n) (u := 4) (hl := false) N (fr T 0) 0 0 0
    have h13 : 13 ^ N ≤ 13 ^ 4 := Nat.pow_le_pow_right (by decide) hN4
    rw [← t2] at t3
    obtain ⟨T', p1, p2⟩ := sf_l hB hr FU _ T1 (by unfold FU; omega) t3 hbd
    rw [allP_hl hn hGI] at p2
    obtain ⟨m6, m7, m8⟩ := s4
    have R2 := Rel_pl R s2 s3 p1
    rcases p2 with ⟨hnil, p2⟩ | ⟨y, rest, hcons, p2, p3⟩
    · have : (prc true (allP (T.1 7) n 4 true N (fr T 0) 0 0 0)).length = 0 := by rw [hnil]; rfl
      rw [this] at m6
      simp (disch := omega) only [qlt, qb_some, qb_none, ↓qn_1, ↓qn_2, ↓qn_3, ↓qn_4, ↓qn_9, ↓qn_1000, ↓qn_low, qi_0, qi_1, qi_2, qi_3, qi_4, qi_5, qi_6, qi_7, qi_8, qi_9, qi_10, qi_11, qi_12, qi_13, qi_14, qi_15, qi_16, qi_17, qi_20, qi_24, qi_30, qi_31, qi_32, qi_60, qi_99, qi_100, qi_200, qi_1000, qi_3400, qi_4000, qi_of, pu_gI, pu_pI, nI_leI, nI_ltI, nI_eq, nI_add, pk_mul, pk_sub, pk_div, qw_s, qw_o, qw_l, qr_s, qr_o, qr_l, ql_i, ql_s, ql_o, pk_us, pk_un, pk_uLs, pk_uLn, if_pos, if_neg, if_true, if_false, ite_self, eq_self, Nat.zero_add, Nat.add_zero, qwr, not_true_eq_false, not_false_eq_true, Option.some.injEq, qe_gn0, qe_m1n, qe_gng, qe_ngn, qe_gm, qe_mg, qe_lm1, qe_lgn, qe_lem, qe_leg, qe_tm1, qe_tgn, has4_y, in7_y, hnd, noGods6 hG.1 hn, s1, m6, t1, p2]
      exact ⟨_, _, rfl, rfl, rfl, R2⟩
    · have hpr : prc true (allP (T.1 7) n 4 true N (fr T 0) 0 0 0) = [y] := by rw [hcons]; rfl
      rw [hpr] at m6 m8
      obtain ⟨_, _, _, _, mB⟩ := m8 y [] rfl
      have m6' : S'.1 95 6 = nI 1 := m6
      have hf := fill6 (S := S') (r := r) hr hN4
      simp (disch := omega) only [qlt, qb_some, qb_none, ↓qn_1, ↓qn_2, ↓qn_3, ↓qn_4, ↓qn_9, ↓qn_1000, ↓qn_low, qi_0, qi_1, qi_2, qi_3, qi_4, qi_5, qi_6, qi_7, qi_8, qi_9, qi_10, qi_11, qi_12, qi_13, qi_14, qi_15, qi_16, qi_17, qi_20, qi_24, qi_30, qi_31, qi_32, qi_60, qi_99, qi_100, qi_200, qi_1000, qi_3400, qi_4000, qi_of, pu_gI, pu_pI, nI_leI, nI_ltI, nI_eq, nI_add, pk_mul, pk_div, qw_s, qw_o, qw_l, qr_s, qr_o, qr_l, ql_i, ql_s, ql_o, pk_us, pk_un, pk_uLs, pk_uLn, if_pos, if_neg, if_true, if_false, ite_self, eq_self, Nat.zero_add, Nat.add_zero, qwr, not_true_eq_false, not_false_eq_true, Option.some.injEq, qe_gn0, qe_m1n, qe_gng, qe_ngn, qe_gm, qe_mg, qe_lm1, qe_lgn, qe_lem, qe_leg, qe_tm1, qe_tgn, has4_y, in7_y, hnd, noGods6 hG.1 hn, s1, m6', t1, p2]
      rw [hf]
      simp only [qb_some]
      refine ⟨_, _, rfl, rfl, rfl, Rel_fill R2 hr hN4 (fun i hi => ?_)⟩
      rw [p3 i hi]
      exact mB i hi
theorem len_ne {G F : Nat → Int32} {n u N : Nat} : 0 < (allP G n u false N F 0 0 0).length := by
  obtain ⟨x, hx⟩ := allP_ne (G := G) (n := n) (u := u) N F 0 0 0
  exact List.length_pos_of_mem hx
theorem st_share : St_share Rel := by
  intro S T a R
  obtain ⟨n, hn, h10, h34, hGI, hV, hK⟩ := R.2.2.2.2
  obtain ⟨hG, hS, hg1, hh1, hFI, e, he, h14, hH, hD⟩ := id hV
  unfold mX6_share mX7_share
  rcases len_or a 3 (by decide) with h | ⟨N, hN1, hN3, rfl⟩
  · simp (disch := omega) only [qlt, qb_some, qb_none, ↓qn_1, ↓qn_2, ↓qn_3, ↓qn_4, ↓qn_9, ↓qn_1000, ↓qn_low, qi_0, qi_1, qi_2, qi_3, qi_4, qi_5, qi_6, qi_7, qi_8, qi_9, qi_10, qi_11, qi_12, qi_13, qi_14, qi_15, qi_16, qi_17, qi_20, qi_24, qi_30, qi_31, qi_32, qi_60, qi_99, qi_100, qi_200, qi_1000, qi_3400, qi_4000, qi_of, pu_gI, pu_pI, nI_leI, nI_ltI, nI_eq, nI_add, pk_mul, pk_sub, pk_div, qw_s, qw_o, qw_l, qr_s, qr_o, qr_l, ql_i, ql_s, ql_o, pk_us, pk_un, pk_uLs, pk_uLn, if_pos, if_neg, if_true, if_false, ite_self, eq_self, Nat.zero_add, Nat.add_zero, qwr, not_true_eq_false, not_false_eq_true, Option.some.injEq, qe_gn0, qe_m1n, qe_gng, qe_ngn, qe_gm, qe_mg, qe_lm1, qe_lgn, qe_lem, qe_leg, qe_tm1, qe_tgn, planLen_o h, need_0 (in7_1 (show 3 < 1000 by decide) h), m1_le]
    exact ⟨_, _, rfl, rfl, rfl, R⟩
  have hnd := need_y (T := T) hN1 hN3 (by decide) h10 hn
  by_cases hn0 : n = 0
  · rw [if_pos hn0] at hnd
    simp (disch := omega) only [qlt, qb_some, qb_none, ↓qn_1, ↓qn_2, ↓qn_3, ↓qn_4, ↓qn_9, ↓qn_1000, ↓qn_low, qi_0, qi_1, qi_2, qi_3, qi_4, qi_5, qi_6, qi_7, qi_8, qi_9, qi_10, qi_11, qi_12, qi_13, qi_14, qi_15, qi_16, qi_17, qi_20, qi_24, qi_30, qi_31, qi_32, qi_60, qi_99, qi_100, qi_200, qi_1000, qi_3400, qi_4000, qi_of, pu_gI, pu_pI, nI_leI, nI_ltI, nI_eq, nI_add, pk_mul, pk_sub, pk_div, qw_s, qw_o, qw_l, qr_s, qr_o, qr_l, ql_i, ql_s, ql_o, pk_us, pk_un, pk_uLs, pk_uLn, if_pos, if_neg, if_true, if_false, ite_self, eq_self, Nat.zero_add, Nat.add_zero, qwr, not_true_eq_false, not_false_eq_true, Option.some.injEq, qe_gn0, qe_m1n, qe_gng, qe_ngn, qe_gm, qe_mg, qe_lm1, qe_lgn, qe_lem, qe_leg, qe_tm1, qe_tgn, planLen_y hN1 hN3, hnd, q4_le, noGods6 hG.1 hn]
    exact ⟨_, _, rfl, rfl, rfl, R⟩
  · rw [if_neg hn0] at hnd
    have hN4 : N ≤ 4 := by omega
    obtain ⟨S', s1, s2, s3, s4⟩ := seekAll6 (N := N) (kg := 30 + 1) (ks := 30 + 11) hn hN4 (by omega) (by omega) hG hGI hS hFI h14 he
    have hB := Bs_of hn h10 h34 hN1 hN4 hGI hFI h14 he
    obtain ⟨T1, t1, t2, t3⟩ := first7 hB (Pt_29 T N)
    have hbd := allP_Bd (u := 4) (hl := false) (F := fr T 0) hn hGI hN4
    have hlen := allP_len (G := T.1 7) (n := n) (u := 4) (hl := false) N (fr T 0) 0 0 0
    have h13 : 13 ^ N ≤ 13 ^ 4 := Nat.pow_le_pow_right (by decide) hN4
    rw [← t2] at t3
    obtain ⟨T', p1, p2⟩ := sh_l hB FU _ T1 0 0 (by unfold FU; omega) t3 hbd
    rw [Nat.zero_add, Nat.zero_add] at p2
    obtain ⟨m6, m7, m8⟩ := s4
    have R2 := Rel_pl R s2 s3 p1
    have hpos := len_ne (G := T.1 7) (F := fr T 0) (n := n) (u := 4) (N := N)
    have hfl : ((allP (T.1 7) n 4 false N (fr T 0) 0 0 0).filter hz).length ≤ (allP (T.1 7) n 4 false N (fr T 0) 0 0 0).length := List.length_filter_le _ _
    generalize (allP (T.1 7) n 4 false N (fr T 0) 0 0 0).length = al at *
    generalize ((allP (T.1 7) n 4 false N (fr T 0) 0 0 0).filter hz).length = fl at *
    have fr6 := frac6 (S := S') (u := fl) (l := al) (by omega) (by omega) hpos
    have fr7 := frac7 (T := T') (u := fl) (l := al) (x := nI fl) (by omega) (by omega) hpos
    unfold bX7_share_54 at p2
    simp (disch := omega) only [qlt, qb_some, qb_none, ↓qn_1, ↓qn_2, ↓qn_3, ↓qn_4, ↓qn_9, ↓qn_1000, ↓qn_low, qi_0, qi_1, qi_2, qi_3, qi_4, qi_5, qi_6, qi_7, qi_8, qi_9, qi_10, qi_11, qi_12, qi_13, qi_14, qi_15, qi_16, qi_17, qi_20, qi_24, qi_30, qi_31, qi_32, qi_60, qi_99, qi_100, qi_200, qi_1000, qi_3400, qi_4000, qi_of, pu_gI, pu_pI, nI_leI, nI_ltI, nI_eq, nI_add, pk_mul, pk_sub, pk_div, qw_s, qw_o, qw_l, qr_s, qr_o, qr_l, ql_i, ql_s, ql_o, pk_us, pk_un, pk_uLs, pk_uLn, if_pos, if_neg, if_true, if_false, ite_self, eq_self, Nat.zero_add, Nat.add_zero, qwr, not_true_eq_false, not_false_eq_true, Option.some.injEq, qe_gn0, qe_m1n, qe_gng, qe_ngn, qe_gm, qe_mg, qe_lm1, qe_lgn, qe_lem, qe_leg, qe_tm1, qe_tgn, nI_l, fr7] at p2
    simp (disch := omega) only [qlt, qb_some, qb_none, ↓qn_1, ↓qn_2, ↓qn_3, ↓qn_4, ↓qn_9, ↓qn_1000, ↓qn_low, qi_0, qi_1, qi_2, qi_3, qi_4, qi_5, qi_6, qi_7, qi_8, qi_9, qi_10, qi_11, qi_12, qi_13, qi_14, qi_15, qi_16, qi_17, qi_20, qi_24, qi_30, qi_31, qi_32, qi_60, qi_99, qi_100, qi_200, qi_1000, qi_3400, qi_4000, qi_of, pu_gI, pu_pI, nI_leI, nI_ltI, nI_eq, nI_add, pk_mul, pk_sub, pk_div, qw_s, qw_o, qw_l, qr_s, qr_o, qr_l, ql_i, ql_s, ql_o, pk_us, pk_un, pk_uLs, pk_uLn, if_pos, if_neg, if_true, if_false, ite_self, eq_self, Nat.zero_add, Nat.add_zero, qwr, not_true_eq_false, not_false_eq_true, Option.some.injEq, qe_gn0, qe_m1n, qe_gng, qe_ngn, qe_gm, qe_mg, qe_lm1, qe_lgn, qe_lem, qe_leg, qe_tm1, qe_tgn, planLen_y hN1 hN3, hnd, noGods6 hG.1 hn, s1, m6, m7, t1, p2, fr6]
    exact ⟨_, _, rfl, rfl, rfl, Rel_frac R2 _ _⟩
theorem st_food : St_food Rel := by
  intro S T a R
  obtain ⟨n, hn, h10, h34, hGI, hV, hK⟩ := R.2.2.2.2
  obtain ⟨hG, hS, hg1, hh1, hFI, e, he, h14, hH, hD⟩ := id hV
  unfold mX6_food mX7_food
  rcases len_or a 3 (by decide) with h | ⟨N, hN1, hN3, rfl⟩
  · simp (disch := omega) only [qlt, qb_some, qb_none, ↓qn_1, ↓qn_2, ↓qn_3, ↓qn_4, ↓qn_9, ↓qn_1000, ↓qn_low, qi_0, qi_1, qi_2, qi_3, qi_4, qi_5, qi_6, qi_7, qi_8, qi_9, qi_10, qi_11, qi_12, qi_13, qi_14, qi_15, qi_16, qi_17, qi_20, qi_24, qi_30, qi_31, qi_32, qi_60, qi_99, qi_100, qi_200, qi_1000, qi_3400, qi_4000, qi_of, pu_gI, pu_pI, nI_leI, nI_ltI, nI_eq, nI_add, pk_mul, pk_sub, pk_div, qw_s, qw_o, qw_l, qr_s, qr_o, qr_l, ql_i, ql_s, ql_o, pk_us, pk_un, pk_uLs, pk_uLn, if_pos, if_neg, if_true, if_false, ite_self, eq_self, Nat.zero_add, Nat.add_zero, qwr, not_true_eq_false, not_false_eq_true, Option.some.injEq, qe_gn0, qe_m1n, qe_gng, qe_ngn, qe_gm, qe_mg, qe_lm1, qe_lgn, qe_lem, qe_leg, qe_tm1, qe_tgn, planLen_o h, need_0 (in7_1 (show 3 < 1000 by decide) h), m1_le]
    exact ⟨_, _, rfl, rfl, rfl, R⟩
  have hnd := need_y (T := T) hN1 hN3 (by decide) h10 hn
  by_cases hn0 : n = 0
  · rw [if_pos hn0] at hnd
    simp (disch := omega) only [qlt, qb_some, qb_none, ↓qn_1, ↓qn_2, ↓qn_3, ↓qn_4, ↓qn_9, ↓qn_1000, ↓qn_low, qi_0, qi_1, qi_2, qi_3, qi_4, qi_5, qi_6, qi_7, qi_8, qi_9, qi_10, qi_11, qi_12, qi_13, qi_14, qi_15, qi_16, qi_17, qi_20, qi_24, qi_30, qi_31, qi_32, qi_60, qi_99, qi_100, qi_200, qi_1000, qi_3400, qi_4000, qi_of, pu_gI, pu_pI, nI_leI, nI_ltI, nI_eq, nI_add, pk_mul, pk_sub, pk_div, qw_s, qw_o, qw_l, qr_s, qr_o, qr_l, ql_i, ql_s, ql_o, pk_us, pk_un, pk_uLs, pk_uLn, if_pos, if_neg, if_true, if_false, ite_self, eq_self, Nat.zero_add, Nat.add_zero, qwr, not_true_eq_false, not_false_eq_true, Option.some.injEq, qe_gn0, qe_m1n, qe_gng, qe_ngn, qe_gm, qe_mg, qe_lm1, qe_lgn, qe_lem, qe_leg, qe_tm1, qe_tgn, planLen_y hN1 hN3, hnd, q4_le, noGods6 hG.1 hn]
    exact ⟨_, _, rfl, rfl, rfl, R⟩
  · rw [if_neg hn0] at hnd
    have hN4 : N ≤ 4 := by omega
    obtain ⟨S', s1, s2, s3, s4⟩ := seekHarm6 (fe := false) (N := N) (kg := 30 + 1) (ks := 30 + 11) hn hN4 (by omega) (by omega) hG hGI hS hFI h14 he
    rw [if_neg (by decide)] at s1
    have hB := Bs_of hn h10 h34 hN1 hN4 hGI hFI h14 he
    obtain ⟨T1, t1, t2, t3⟩ := first7 hB (Pt_29 T N)
    have hbd := allP_Bd (u := 4) (hl := false) (F := fr T 0) hn hGI hN4
    have hlen := allP_len (G := T.1 7) (n := n) (u := 4) (hl := false) N (fr T 0) 0 0 0
    have hlen2 := allP_len (G := T.1 7) (n := n) (u := 4) (hl := true) N (fr T 0) 0 0 0
    have h13 : 13 ^ N ≤ 13 ^ 4 := Nat.pow_le_pow_right (by decide) hN4
    rw [← t2] at t3
    obtain ⟨T', p1, p2⟩ := fd_0 hB FU _ T1 (by unfold FU; omega) t3 hbd
    rw [allP_hl hn hGI] at p2
    have hpr : prc false (allP (T.1 7) n 4 true N (fr T 0) 0 0 0) = allP (T.1 7) n 4 true N (fr T 0) 0 0 0 := rfl
    rw [hpr] at s4
    obtain ⟨m6, m7, m8⟩ := s4
    have R2 := Rel_pl R s2 s3 p1
    rcases p2 with ⟨hnil, p2⟩ | ⟨y, rest, hcons, p2⟩
    · rw [hnil] at m6
      have m6' : S'.1 95 6 = nI 0 := m6
      simp (disch := omega) only [qlt, qb_some, qb_none, ↓qn_1, ↓qn_2, ↓qn_3, ↓qn_4, ↓qn_9, ↓qn_1000, ↓qn_low, qi_0, qi_1, qi_2, qi_3, qi_4, qi_5, qi_6, qi_7, qi_8, qi_9, qi_10, qi_11, qi_12, qi_13, qi_14, qi_15, qi_16, qi_17, qi_20, qi_24, qi_30, qi_31, qi_32, qi_60, qi_99, qi_100, qi_200, qi_1000, qi_3400, qi_4000, qi_of, pu_gI, pu_pI, nI_leI, nI_ltI, nI_eq, nI_add, pk_mul, pk_sub, pk_div, qw_s, qw_o, qw_l, qr_s, qr_o, qr_l, ql_i, ql_s, ql_o, pk_us, pk_un, pk_uLs, pk_uLn, if_pos, if_neg, if_true, if_false, ite_self, eq_self, Nat.zero_add, Nat.add_zero, qwr, not_true_eq_false, not_false_eq_true, Option.some.injEq, qe_gn0, qe_m1n, qe_gng, qe_ngn, qe_gm, qe_mg, qe_lm1, qe_lgn, qe_lem, qe_leg, qe_tm1, qe_tgn, planLen_y hN1 hN3, hnd, noGods6 hG.1 hn, s1, m6', t1, p2]
      exact ⟨_, _, rfl, rfl, rfl, R2⟩
    · obtain ⟨_, _, _, m11, _⟩ := m8 y rest hcons
      have hl0 : 0 < (allP (T.1 7) n 4 true N (fr T 0) 0 0 0).length := by rw [hcons]; simp
      simp (disch := omega) only [qlt, qb_some, qb_none, ↓qn_1, ↓qn_2, ↓qn_3, ↓qn_4, ↓qn_9, ↓qn_1000, ↓qn_low, qi_0, qi_1, qi_2, qi_3, qi_4, qi_5, qi_6, qi_7, qi_8, qi_9, qi_10, qi_11, qi_12, qi_13, qi_14, qi_15, qi_16, qi_17, qi_20, qi_24, qi_30, qi_31, qi_32, qi_60, qi_99, qi_100, qi_200, qi_1000, qi_3400, qi_4000, qi_of, pu_gI, pu_pI, nI_leI, nI_ltI, nI_eq, nI_add, pk_mul, pk_sub, pk_div, qw_s, qw_o, qw_l, qr_s, qr_o, qr_l, ql_i, ql_s, ql_o, pk_us, pk_un, pk_uLs, pk_uLn, if_pos, if_neg, if_true, if_false, ite_self, eq_self, Nat.zero_add, Nat.add_zero, qwr, not_true_eq_false, not_false_eq_true, Option.some.injEq, qe_gn0, qe_m1n, qe_gng, qe_ngn, qe_gm, qe_mg, qe_lm1, qe_lgn, qe_lem, qe_leg, qe_tm1, qe_tgn, planLen_y hN1 hN3, hnd, noGods6 hG.1 hn, s1, m6, m11, t1, p2]
      exact ⟨_, _, rfl, rfl, rfl, R2⟩
theorem st_harm : St_harm Rel := by
  intro S T a R
  obtain ⟨n, hn, h10, h34, hGI, hV, hK⟩ := R.2.2.2.2
  obtain ⟨hG, hS, hg1, hh1, hFI, e, he, h14, hH, hD⟩ := id hV
  unfold mX6_harm mX7_harm
  rcases len_or a 3 (by decide) with h | ⟨N, hN1, hN3, rfl⟩
  · simp (disch := omega) only [qlt, qb_some, qb_none, ↓qn_1, ↓qn_2, ↓qn_3, ↓qn_4, ↓qn_9, ↓qn_1000, ↓qn_low, qi_0, qi_1, qi_2, qi_3, qi_4, qi_5, qi_6, qi_7, qi_8, qi_9, qi_10, qi_11, qi_12, qi_13, qi_14, qi_15, qi_16, qi_17, qi_20, qi_24, qi_30, qi_31, qi_32, qi_60, qi_99, qi_100, qi_200, qi_1000, qi_3400, qi_4000, qi_of, pu_gI, pu_pI, nI_leI, nI_ltI, nI_eq, nI_add, pk_mul, pk_sub, pk_div, qw_s, qw_o, qw_l, qr_s, qr_o, qr_l, ql_i, ql_s, ql_o, pk_us, pk_un, pk_uLs, pk_uLn, if_pos, if_neg, if_true, if_false, ite_self, eq_self, Nat.zero_add, Nat.add_zero, qwr, not_true_eq_false, not_false_eq_true, Option.some.injEq, qe_gn0, qe_m1n, qe_gng, qe_ngn, qe_gm, qe_mg, qe_lm1, qe_lgn, qe_lem, qe_leg, qe_tm1, qe_tgn, planLen_o h, need_0 (in7_1 (show 3 < 1000 by decide) h), m1_le]
    exact ⟨_, _, rfl, rfl, rfl, R⟩
  have hnd := need_y (T := T) hN1 hN3 (by decide) h10 hn
  by_cases hn0 : n = 0
  · rw [if_pos hn0] at hnd
    simp (disch := omega) only [qlt, qb_some, qb_none, ↓qn_1, ↓qn_2, ↓qn_3, ↓qn_4, ↓qn_9, ↓qn_1000, ↓qn_low, qi_0, qi_1, qi_2, qi_3, qi_4, qi_5, qi_6, qi_7, qi_8, qi_9, qi_10, qi_11, qi_12, qi_13, qi_14, qi_15, qi_16, qi_17, qi_20, qi_24, qi_30, qi_31, qi_32, qi_60, qi_99, qi_100, qi_200, qi_1000, qi_3400, qi_4000, qi_of, pu_gI, pu_pI, nI_leI, nI_ltI, nI_eq, nI_add, pk_mul, pk_sub, pk_div, qw_s, qw_o, qw_l, qr_s, qr_o, qr_l, ql_i, ql_s, ql_o, pk_us, pk_un, pk_uLs, pk_uLn, if_pos, if_neg, if_true, if_false, ite_self, eq_self, Nat.zero_add, Nat.add_zero, qwr, not_true_eq_false, not_false_eq_true, Option.some.injEq, qe_gn0, qe_m1n, qe_gng, qe_ngn, qe_gm, qe_mg, qe_lm1, qe_lgn, qe_lem, qe_leg, qe_tm1, qe_tgn, planLen_y hN1 hN3, hnd, q4_le, noGods6 hG.1 hn]
    exact ⟨_, _, rfl, rfl, rfl, R⟩
  · rw [if_neg hn0] at hnd
    have hN4 : N ≤ 4 := by omega
    obtain ⟨S', s1, s2, s3, s4⟩ := seekAll6 (N := N) (kg := 30 + 1) (ks := 30 + 11) hn hN4 (by omega) (by omega) hG hGI hS hFI h14 he
    have hB := Bs_of hn h10 h34 hN1 hN4 hGI hFI h14 he
    obtain ⟨T1, t1, t2, t3⟩ := first7 hB (Pt_29 T N)
    have hbd := allP_Bd (u := 4) (hl := false) (F := fr T 0) hn hGI hN4
    have hlen := allP_len (G := T.1 7) (n := n) (u := 4) (hl := false) N (fr T 0) 0 0 0
    have h13 : 13 ^ N ≤ 13 ^ 4 := Nat.pow_le_pow_right (by decide) hN4
    rw [← t2] at t3
    obtain ⟨x, hx⟩ := allP_ne (G := T.1 7) (n := n) (u := 4) N (fr T 0) 0 0 0
    cases hal : allP (T.1 7) n 4 false N (fr T 0) 0 0 0 with
    | nil => rw [hal] at hx; exact absurd hx (List.not_mem_nil)
    | cons y l =>
      rw [hal] at t3 hbd hlen s4
      obtain ⟨T', p1, p2⟩ := ha_0 hB (q := FU) (T := T1) (by unfold FU; omega) t3 hbd
      obtain ⟨m6, m7, m8⟩ := s4
      obtain ⟨_, m9, m10, _, _⟩ := m8 y l rfl
      have R2 := Rel_pl R s2 s3 p1
      unfold bX7_harm_74 mX7_tells at p2
      simp (disch := omega) only [qlt, qb_some, qb_none, ↓qn_1, ↓qn_2, ↓qn_3, ↓qn_4, ↓qn_9, ↓qn_1000, ↓qn_low, qi_0, qi_1, qi_2, qi_3, qi_4, qi_5, qi_6, qi_7, qi_8, qi_9, qi_10, qi_11, qi_12, qi_13, qi_14, qi_15, qi_16, qi_17, qi_20, qi_24, qi_30, qi_31, qi_32, qi_60, qi_99, qi_100, qi_200, qi_1000, qi_3400, qi_4000, qi_of, pu_gI, pu_pI, nI_leI, nI_ltI, nI_eq, nI_add, pk_mul, pk_sub, pk_div, qw_s, qw_o, qw_l, qr_s, qr_o, qr_l, ql_i, ql_s, ql_o, pk_us, pk_un, pk_uLs, pk_uLn, if_pos, if_neg, if_true, if_false, ite_self, eq_self, Nat.zero_add, Nat.add_zero, qwr, not_true_eq_false, not_false_eq_true, Option.some.injEq, qe_gn0, qe_m1n, qe_gng, qe_ngn, qe_gm, qe_mg, qe_lm1, qe_lgn, qe_lem, qe_leg, qe_tm1, qe_tgn] at p2
      unfold mX6_tell
      simp (disch := omega) only [qlt, qb_some, qb_none, ↓qn_1, ↓qn_2, ↓qn_3, ↓qn_4, ↓qn_9, ↓qn_1000, ↓qn_low, qi_0, qi_1, qi_2, qi_3, qi_4, qi_5, qi_6, qi_7, qi_8, qi_9, qi_10, qi_11, qi_12, qi_13, qi_14, qi_15, qi_16, qi_17, qi_20, qi_24, qi_30, qi_31, qi_32, qi_60, qi_99, qi_100, qi_200, qi_1000, qi_3400, qi_4000, qi_of, pu_gI, pu_pI, nI_leI, nI_ltI, nI_eq, nI_add, pk_mul, pk_sub, pk_div, qw_s, qw_o, qw_l, qr_s, qr_o, qr_l, ql_i, ql_s, ql_o, pk_us, pk_un, pk_uLs, pk_uLn, if_pos, if_neg, if_true, if_false, ite_self, eq_self, Nat.zero_add, Nat.add_zero, qwr, not_true_eq_false, not_false_eq_true, Option.some.injEq, qe_gn0, qe_m1n, qe_gng, qe_ngn, qe_gm, qe_mg, qe_lm1, qe_lgn, qe_lem, qe_leg, qe_tm1, qe_tgn, planLen_y hN1 hN3, hnd, noGods6 hG.1 hn, s1, m9, m10, t1, p2]
      exact ⟨_, _, rfl, rfl, rfl, Rel_tell R2 _⟩
