/-! ===== PURE: best, safe, share, food, harm ===== -/
theorem Pt_29 (T : vS) (L : Nat) : Pt T (wI T 0 29 (nI L)) L :=
  ⟨fun p p1 p2 p3 p4 p5 p6 p7 p8 => by rw [qw_s, pk_un p4], by rw [qw_s, pk_us], fun c c1 c2 c3 c4 c5 => qw_o c1, fr_eq (qw_o (by decide)), rfl⟩
theorem Rel_pl {S S' T T' : vS} {L : Nat} (R : Rel S T) (hS : ∀ c, (c < 95 ∨ 118 < c) → S'.1 c = S.1 c) (hS2 : S'.2 = S.2) (hP : Pt T T' L) : Rel S' T' := by
  obtain ⟨a1, a2, a3, a4, a5⟩ := hP
  exact Rel_scr R (fun c hc => hS c (by omega)) hS2 (a1 0 (by decide) (by decide) (by decide) (by decide) (by decide) (by decide) (by decide) (by decide)) (a1 2 (by decide) (by decide) (by decide) (by decide) (by decide) (by decide) (by decide) (by decide)) (a1 10 (by decide) (by decide) (by decide) (by decide) (by decide) (by decide) (by decide) (by decide)) (a1 34 (by decide) (by decide) (by decide) (by decide) (by decide) (by decide) (by decide) (by decide)) (fun c hc => a3 c (by omega) (by omega) (by omega) (by omega) (by omega)) a4 a5
section SK
variable {S : vS} {n kg ks N e : Nat} {G F : Nat → Int32}
theorem start1 (hn : n ≤ 4) (hN : N ≤ 4) (hks : ks + 3 < 95 ∨ 118 < ks) (hS : ScR S ks n F) : ∃ X, mX1_start S 95 ks (nI N) = some X ∧ Wst S X N 4 false false ∧ SmR N (X.1 95) (X.1 118) [] ∧ ScR X (95 + 2 + 4 * 0) n F ∧ X.1 (95 + 2 + 4 * 0) 3 = nI 0 ∧ X.1 (95 + 2 + 4 * 0) 4 = nI 0 ∧ X.1 (95 + 2 + 4 * 0) 5 = nI 0 := by
  have t3 := take3 (S := S) (k := 95 + 2 + 4 * 0) (k1 := ks) (A := S.1 (95 + 2 + 4 * 0)) (B := S.1 (95 + 2 + 4 * 0 + 1)) (C := S.1 (95 + 2 + 4 * 0 + 2)) (D := S.1 (95 + 2 + 4 * 0 + 3)) (by omega)
  rw [mk4_id] at t3
  have hS2 := ScR_fs (ScR_take (k := 95 + 2 + 4 * 0) (A := S.1 (95 + 2 + 4 * 0)) (B := S.1 (95 + 2 + 4 * 0 + 1)) (C := S.1 (95 + 2 + 4 * 0 + 2)) (D := S.1 (95 + 2 + 4 * 0 + 3)) hn hS)
  have hmm : mxI (nI 0) (mnI (nI N) (nI 4)) = nI N := by
    have hx : mnI (nI N) (nI 4) = nI N := by
      unfold mnI
      by_cases h : N = 4
      · subst h; simp (disch := omega) only [qlt, qb_some, qb_none, ↓qn_1, ↓qn_2, ↓qn_3, ↓qn_4, ↓qn_9, ↓qn_1000, ↓qn_low, qi_0, qi_1, qi_2, qi_3, qi_4, qi_5, qi_6, qi_7, qi_8, qi_9, qi_10, qi_11, qi_12, qi_13, qi_14, qi_15, qi_16, qi_17, qi_20, qi_24, qi_30, qi_31, qi_32, qi_60, qi_99, qi_100, qi_200, qi_1000, qi_3400, qi_4000, qi_of, pu_gI, pu_pI, nI_leI, nI_ltI, nI_eq, nI_add, pk_mul, pk_sub, pk_div, qw_s, qw_o, qw_l, qr_s, qr_o, qr_l, ql_i, ql_s, ql_o, pk_us, pk_un, pk_uLs, pk_uLn, if_pos, if_neg, if_true, if_false, ite_self, eq_self, Nat.zero_add, Nat.add_zero, qwr, not_true_eq_false, not_false_eq_true, Option.some.injEq, qe_gn0, qe_m1n, qe_gng, qe_ngn, qe_gm, qe_mg, qe_lm1, qe_lgn, qe_lem, qe_leg, qe_tm1, qe_tgn]
      · simp (disch := omega) only [qlt, qb_some, qb_none, ↓qn_1, ↓qn_2, ↓qn_3, ↓qn_4, ↓qn_9, ↓qn_1000, ↓qn_low, qi_0, qi_1, qi_2, qi_3, qi_4, qi_5, qi_6, qi_7, qi_8, qi_9, qi_10, qi_11, qi_12, qi_13, qi_14, qi_15, qi_16, qi_17, qi_20, qi_24, qi_30, qi_31, qi_32, qi_60, qi_99, qi_100, qi_200, qi_1000, qi_3400, qi_4000, qi_of, pu_gI, pu_pI, nI_leI, nI_ltI, nI_eq, nI_add, pk_mul, pk_sub, pk_div, qw_s, qw_o, qw_l, qr_s, qr_o, qr_l, ql_i, ql_s, ql_o, pk_us, pk_un, pk_uLs, pk_uLn, if_pos, if_neg, if_true, if_false, ite_self, eq_self, Nat.zero_add, Nat.add_zero, qwr, not_true_eq_false, not_false_eq_true, Option.some.injEq, qe_gn0, qe_m1n, qe_gng, qe_ngn, qe_gm, qe_mg, qe_lm1, qe_lgn, qe_lem, qe_leg, qe_tm1, qe_tgn]
    rw [hx]
    unfold mxI
    by_cases h : N = 0
    · subst h; simp (disch := omega) only [qlt, qb_some, qb_none, ↓qn_1, ↓qn_2, ↓qn_3, ↓qn_4, ↓qn_9, ↓qn_1000, ↓qn_low, qi_0, qi_1, qi_2, qi_3, qi_4, qi_5, qi_6, qi_7, qi_8, qi_9, qi_10, qi_11, qi_12, qi_13, qi_14, qi_15, qi_16, qi_17, qi_20, qi_24, qi_30, qi_31, qi_32, qi_60, qi_99, qi_100, qi_200, qi_1000, qi_3400, qi_4000, qi_of, pu_gI, pu_pI, nI_leI, nI_ltI, nI_eq, nI_add, pk_mul, pk_sub, pk_div, qw_s, qw_o, qw_l, qr_s, qr_o, qr_l, ql_i, ql_s, ql_o, pk_us, pk_un, pk_uLs, pk_uLn, if_pos, if_neg, if_true, if_false, ite_self, eq_self, Nat.zero_add, Nat.add_zero, qwr, not_true_eq_false, not_false_eq_true, Option.some.injEq, qe_gn0, qe_m1n, qe_gng, qe_ngn, qe_gm, qe_mg, qe_lm1, qe_lgn, qe_lem, qe_leg, qe_tm1, qe_tgn]
    · simp (disch := omega) only [qlt, qb_some, qb_none, ↓qn_1, ↓qn_2, ↓qn_3, ↓qn_4, ↓qn_9, ↓qn_1000, ↓qn_low, qi_0, qi_1, qi_2, qi_3, qi_4, qi_5, qi_6, qi_7, qi_8, qi_9, qi_10, qi_11, qi_12, qi_13, qi_14, qi_15, qi_16, qi_17, qi_20, qi_24, qi_30, qi_31, qi_32, qi_60, qi_99, qi_100, qi_200, qi_1000, qi_3400, qi_4000, qi_of, pu_gI, pu_pI, nI_leI, nI_ltI, nI_eq, nI_add, pk_mul, pk_sub, pk_div, qw_s, qw_o, qw_l, qr_s, qr_o, qr_l, ql_i, ql_s, ql_o, pk_us, pk_un, pk_uLs, pk_uLn, if_pos, if_neg, if_true, if_false, ite_self, eq_self, Nat.zero_add, Nat.add_zero, qwr, not_true_eq_false, not_false_eq_true, Option.some.injEq, qe_gn0, qe_m1n, qe_gng, qe_ngn, qe_gm, qe_mg, qe_lm1, qe_lgn, qe_lem, qe_leg, qe_tm1, qe_tgn]
  have hsc : aI (scl 95) (nI 0) = some (95 + 2 + 4 * 0) := qa_scl 95 (by decide)
  refine ⟨wI (wI (wI (wI (wI (wI (mk4 S (95 + 2 + 4 * 0) (fsA (tA (S.1 (95 + 2 + 4 * 0)) (S.1 ks))) (tM 3 (S.1 (95 + 2 + 4 * 0 + 1)) (S.1 (ks + 1))) (tM 4 (S.1 (95 + 2 + 4 * 0 + 2)) (S.1 (ks + 2))) (S.1 (95 + 2 + 4 * 0 + 3))) 95 2 (nI N)) 95 3 (nI 0)) 95 4 (nI 0)) 95 5 (nI 0)) 95 6 (nI 0)) 95 7 (nI 0), ?_, ⟨fun c hc => ?_, rfl, ?_, ?_, ?_, ?_⟩, ⟨?_, ?_, fun x r h => by simp at h⟩, ?_, ?_, ?_, ?_⟩
  · unfold mX1_start mX3_forgetSums
    simp only [qi_0, hsc, qb_some, t3, qlt, qi_4, hmm, mk4_w0]
    rfl
  · rw [qw_o (by omega), qw_o (by omega), qw_o (by omega), qw_o (by omega), qw_o (by omega), qw_o (by omega), mk4_o (by omega)]
  · simp (disch := omega) only [qw_s, pk_us, pk_un]
  · simp (disch := omega) only [qw_s, pk_us, pk_un]; rfl
  · simp (disch := omega) only [qw_s, pk_us, pk_un]; rfl
  · simp (disch := omega) only [qw_s, pk_us, pk_un]; rfl
  · simp (disch := omega) only [qw_s, pk_us, pk_un]; rfl
  · simp (disch := omega) only [qw_s, pk_us, pk_un]; rfl
  · exact ScR_tr (S := mk4 S (95 + 2 + 4 * 0) _ _ _ _) (k := 95 + 2 + 4 * 0) hn (fun i _ => by simp (disch := omega) only [qw_o]) (fun i _ => by simp (disch := omega) only [qw_o]) (fun i _ => by simp (disch := omega) only [qw_o]) hS2
  · simp (disch := omega) only [qw_o]; rw [mk4_0, fsA_3]
  · simp (disch := omega) only [qw_o]; rw [mk4_0, fsA_4]
  · simp (disch := omega) only [qw_o]; rw [mk4_0, fsA_5]
theorem wk (hn : n ≤ 4) (hN : N ≤ 4) (hkg : kg + 9 < 95 ∨ 118 < kg) (hG : GodR S kg n G) (hGI : GInv n G) (hF : FInv n F) (h14 : F 14 = nI e) (he : e ≤ 200) {X : vS} {u : Nat} {hl fe : Bool} (hW : Wst S X N u hl fe) (hSm : SmR N (X.1 95) (X.1 118) []) (hSc : ScR X (95 + 2 + 4 * 0) n F) (h3 : X.1 (95 + 2 + 4 * 0) 3 = nI 0) (h4 : X.1 (95 + 2 + 4 * 0) 4 = nI 0) (h5 : X.1 (95 + 2 + 4 * 0) 5 = nI 0) :
    ∃ S', mX1_walk 6 X 95 kg (nI 0) = some S' ∧ (∀ c, (c < 95 ∨ 118 < c) → S'.1 c = S.1 c) ∧ S'.2 = S.2 ∧ SmR N (S'.1 95) (S'.1 118) (prc fe (allP G n u hl N F 0 0 0)) := by
  have h13 : 13 ^ N ≤ 13 ^ 4 := Nat.pow_le_pow_right (by decide) hN
  obtain ⟨S', r1, r2, r3, _⟩ := walk_l (S0 := S) (k2 := kg) (L := N) (u := u) (hl := hl) (fe := fe) hn hkg hG hGI hN N 6 0 [] F 0 0 0 e X [] (by omega) (by omega) rfl hW hSm (fun y hy => by simp at hy) (by simp; omega) (fun _ => rfl) hSc hF h14 (by omega) h3 h4 h5 (by omega) (by omega) (by omega) (fun i hi => by omega)
  refine ⟨S', r1, r2.1, r2.2.1, ?_⟩
  have : (allP G n u hl N F 0 0 0).map (preP []) = allP G n u hl N F 0 0 0 := by
    have : preP [] = id := by
      funext x
      rfl
    rw [this, List.map_id]
  rw [this, List.nil_append] at r3
  exact r3
theorem seekAll6 (hn : n ≤ 4) (hN : N ≤ 4) (hkg : kg + 9 < 95 ∨ 118 < kg) (hks : ks + 3 < 95 ∨ 118 < ks) (hG : GodR S kg n G) (hGI : GInv n G) (hS : ScR S ks n F) (hF : FInv n F) (h14 : F 14 = nI e) (he : e ≤ 200) :
    ∃ S', mX1_seekAll S 95 kg ks (nI N) = some S' ∧ (∀ c, (c < 95 ∨ 118 < c) → S'.1 c = S.1 c) ∧ S'.2 = S.2 ∧ SmR N (S'.1 95) (S'.1 118) (allP G n 4 false N F 0 0 0) := by
  obtain ⟨X, x1, x2, x3, x4, x5, x6, x7⟩ := start1 (N := N) hn hN hks hS
  obtain ⟨S', r1, r2, r3, r4⟩ := wk hn hN hkg hG hGI hF h14 he x2 x3 x4 x5 x6 x7
  refine ⟨S', ?_, r2, r3, r4⟩
  unfold mX1_seekAll
  simp (disch := omega) only [qlt, qb_some, qb_none, ↓qn_1, ↓qn_2, ↓qn_3, ↓qn_4, ↓qn_9, ↓qn_1000, ↓qn_low, qi_0, qi_1, qi_2, qi_3, qi_4, qi_5, qi_6, qi_7, qi_8, qi_9, qi_10, qi_11, qi_12, qi_13, qi_14, qi_15, qi_16, qi_17, qi_20, qi_24, qi_30, qi_31, qi_32, qi_60, qi_99, qi_100, qi_200, qi_1000, qi_3400, qi_4000, qi_of, pu_gI, pu_pI, nI_leI, nI_ltI, nI_eq, nI_add, pk_mul, pk_sub, pk_div, qw_s, qw_o, qw_l, qr_s, qr_o, qr_l, ql_i, ql_s, ql_o, pk_us, pk_un, pk_uLs, pk_uLn, if_pos, if_neg, if_true, if_false, ite_self, eq_self, Nat.zero_add, Nat.add_zero, qwr, not_true_eq_false, not_false_eq_true, Option.some.injEq, qe_gn0, qe_m1n, qe_gng, qe_ngn, qe_gm, qe_mg, qe_lm1, qe_lgn, qe_lem, qe_leg, qe_tm1, qe_tgn, x1, r1]
theorem seekUnfed6 {u : Nat} (hu : u < 4) (hn : n ≤ 4) (hN : N ≤ 4) (hkg : kg + 9 < 95 ∨ 118 < kg) (hks : ks + 3 < 95 ∨ 118 < ks) (hG : GodR S kg n G) (hGI : GInv n G) (hS : ScR S ks n F) (hF : FInv n F) (h14 : F 14 = nI e) (he : e ≤ 200) :
    ∃ S', mX1_seekUnfed S 95 kg ks (nI N) (nI u) = some S' ∧ (∀ c, (c < 95 ∨ 118 < c) → S'.1 c = S.1 c) ∧ S'.2 = S.2 ∧ SmR N (S'.1 95) (S'.1 118) (allP G n u false N F 0 0 0) := by
  obtain ⟨X, x1, ⟨w1, w2, w3, w4, w5, w6⟩, ⟨m1, m2, m3⟩, x4, x5, x6, x7⟩ := start1 (N := N) hn hN hks hS
  obtain ⟨S', r1, r2, r3, r4⟩ := wk (X := wI X 95 3 (nI 1 <<< (nI u &&& nI 31))) (u := u) (hl := false) (fe := false) hn hN hkg hG hGI hF h14 he
    ⟨fun c hc => by rw [qw_o (by omega)]; exact w1 c hc, w2, by rw [qw_s, pk_un (by decide)]; exact w3, by rw [qw_s, pk_us, if_pos hu], by rw [qw_s, pk_un (by decide)]; exact w5, by rw [qw_s, pk_un (by decide)]; exact w6⟩
    ⟨by rw [qw_s, pk_un (by decide)]; exact m1, by rw [qw_s, pk_un (by decide)]; exact m2, fun x r h => by simp at h⟩
    (ScR_tr (S := X) (k := 95 + 2 + 4 * 0) hn (fun i _ => by rw [qw_o (by decide)]) (fun i _ => by rw [qw_o (by decide)]) (fun i _ => by rw [qw_o (by decide)]) x4) (by rw [qw_o (by decide)]; exact x5) (by rw [qw_o (by decide)]; exact x6) (by rw [qw_o (by decide)]; exact x7)
  refine ⟨S', ?_, r2, r3, r4⟩
  unfold mX1_seekUnfed
  simp (disch := omega) only [qlt, qb_some, qb_none, ↓qn_1, ↓qn_2, ↓qn_3, ↓qn_4, ↓qn_9, ↓qn_1000, ↓qn_low, qi_0, qi_1, qi_2, qi_3, qi_4, qi_5, qi_6, qi_7, qi_8, qi_9, qi_10, qi_11, qi_12, qi_13, qi_14, qi_15, qi_16, qi_17, qi_20, qi_24, qi_30, qi_31, qi_32, qi_60, qi_99, qi_100, qi_200, qi_1000, qi_3400, qi_4000, qi_of, pu_gI, pu_pI, nI_leI, nI_ltI, nI_eq, nI_add, pk_mul, pk_sub, pk_div, qw_s, qw_o, qw_l, qr_s, qr_o, qr_l, ql_i, ql_s, ql_o, pk_us, pk_un, pk_uLs, pk_uLn, if_pos, if_neg, if_true, if_false, ite_self, eq_self, Nat.zero_add, Nat.add_zero, qwr, not_true_eq_false, not_false_eq_true, Option.some.injEq, qe_gn0, qe_m1n, qe_gng, qe_ngn, qe_gm, qe_mg, qe_lm1, qe_lgn, qe_lem, qe_leg, qe_tm1, qe_tgn, x1, r1]
theorem seekHarm6 {fe : Bool} (hn : n ≤ 4) (hN : N ≤ 4) (hkg : kg + 9 < 95 ∨ 118 < kg) (hks : ks + 3 < 95 ∨ 118 < ks) (hG : GodR S kg n G) (hGI : GInv n G) (hS : ScR S ks n F) (hF : FInv n F) (h14 : F 14 = nI e) (he : e ≤ 200) :
    ∃ S', mX1_seekHarmless S 95 kg ks (nI N) (if fe = true then nI 1 else nI 0) = some S' ∧ (∀ c, (c < 95 ∨ 118 < c) → S'.1 c = S.1 c) ∧ S'.2 = S.2 ∧ SmR N (S'.1 95) (S'.1 118) (prc fe (allP G n 4 true N F 0 0 0)) := by
  obtain ⟨X, x1, ⟨w1, w2, w3, w4, w5, w6⟩, ⟨m1, m2, m3⟩, x4, x5, x6, x7⟩ := start1 (N := N) hn hN hks hS
  obtain ⟨S', r1, r2, r3, r4⟩ := wk (X := wI (wI X 95 4 (nI 1)) 95 5 (if fe = true then nI 1 else nI 0)) (u := 4) (hl := true) (fe := fe) hn hN hkg hG hGI hF h14 he
    ⟨fun c hc => by rw [qw_o (by omega), qw_o (by omega)]; exact w1 c hc, w2, by simp (disch := omega) only [qw_s, pk_us, pk_un]; exact w3, by simp (disch := omega) only [qw_s, pk_us, pk_un]; exact w4, by simp (disch := omega) only [qw_s, pk_us, pk_un]; rfl, by simp (disch := omega) only [qw_s, pk_us, pk_un]⟩
    ⟨by simp (disch := omega) only [qw_s, pk_us, pk_un]; exact m1, by simp (disch := omega) only [qw_s, pk_us, pk_un]; exact m2, fun x r h => by simp at h⟩
    (ScR_tr (S := X) (k := 95 + 2 + 4 * 0) hn (fun i _ => by simp (disch := omega) only [qw_o]) (fun i _ => by simp (disch := omega) only [qw_o]) (fun i _ => by simp (disch := omega) only [qw_o]) x4) (by simp (disch := omega) only [qw_o]; exact x5) (by simp (disch := omega) only [qw_o]; exact x6) (by simp (disch := omega) only [qw_o]; exact x7)
  refine ⟨S', ?_, r2, r3, r4⟩
  unfold mX1_seekHarmless
  simp (disch := omega) only [qlt, qb_some, qb_none, ↓qn_1, ↓qn_2, ↓qn_3, ↓qn_4, ↓qn_9, ↓qn_1000, ↓qn_low, qi_0, qi_1, qi_2, qi_3, qi_4, qi_5, qi_6, qi_7, qi_8, qi_9, qi_10, qi_11, qi_12, qi_13, qi_14, qi_15, qi_16, qi_17, qi_20, qi_24, qi_30, qi_31, qi_32, qi_60, qi_99, qi_100, qi_200, qi_1000, qi_3400, qi_4000, qi_of, pu_gI, pu_pI, nI_leI, nI_ltI, nI_eq, nI_add, pk_mul, pk_sub, pk_div, qw_s, qw_o, qw_l, qr_s, qr_o, qr_l, ql_i, ql_s, ql_o, pk_us, pk_un, pk_uLs, pk_uLn, if_pos, if_neg, if_true, if_false, ite_self, eq_self, Nat.zero_add, Nat.add_zero, qwr, not_true_eq_false, not_false_eq_true, Option.some.injEq, qe_gn0, qe_m1n, qe_gng, qe_ngn, qe_gm, qe_mg, qe_lm1, qe_lgn, qe_lem, qe_leg, qe_tm1, qe_tgn, x1, r1]
end SK
theorem planLen_o {a : Int32} (h : a < nI 1 ∨ nI 4 ≤ a) : mX6_isPlanLength a = nI 0 := by
  unfold mX6_isPlanLength bX6_isPlanLength_14
  rcases h with h | h
  · simp only [qi_1, qi_0, if_pos h]
  · simp (disch := omega) only [qlt, qb_some, qb_none, ↓qn_1, ↓qn_2, ↓qn_3, ↓qn_4, ↓qn_9, ↓qn_1000, ↓qn_low, qi_0, qi_1, qi_2, qi_3, qi_4, qi_5, qi_6, qi_7, qi_8, qi_9, qi_10, qi_11, qi_12, qi_13, qi_14, qi_15, qi_16, qi_17, qi_20, qi_24, qi_30, qi_31, qi_32, qi_60, qi_99, qi_100, qi_200, qi_1000, qi_3400, qi_4000, qi_of, pu_gI, pu_pI, nI_leI, nI_ltI, nI_eq, nI_add, pk_mul, pk_sub, pk_div, qw_s, qw_o, qw_l, qr_s, qr_o, qr_l, ql_i, ql_s, ql_o, pk_us, pk_un, pk_uLs, pk_uLn, if_pos, if_neg, if_true, if_false, ite_self, eq_self, Nat.zero_add, Nat.add_zero, qwr, not_true_eq_false, not_false_eq_true, Option.some.injEq, qe_gn0, qe_m1n, qe_gng, qe_ngn, qe_gm, qe_mg, qe_lm1, qe_lgn, qe_lem, qe_leg, qe_tm1, qe_tgn, bg_leF h, bg_ltT h, bg_geT h, bg_ltF h, bg_eqF h, bg_eqF2 h]
theorem planLen_y {N : Nat} (h1 : 1 ≤ N) (h3 : N ≤ 3) : mX6_isPlanLength (nI N) = nI 1 := by
  unfold mX6_isPlanLength bX6_isPlanLength_14
  simp (disch := omega) only [qlt, qb_some, qb_none, ↓qn_1, ↓qn_2, ↓qn_3, ↓qn_4, ↓qn_9, ↓qn_1000, ↓qn_low, qi_0, qi_1, qi_2, qi_3, qi_4, qi_5, qi_6, qi_7, qi_8, qi_9, qi_10, qi_11, qi_12, qi_13, qi_14, qi_15, qi_16, qi_17, qi_20, qi_24, qi_30, qi_31, qi_32, qi_60, qi_99, qi_100, qi_200, qi_1000, qi_3400, qi_4000, qi_of, pu_gI, pu_pI, nI_leI, nI_ltI, nI_eq, nI_add, pk_mul, pk_sub, pk_div, qw_s, qw_o, qw_l, qr_s, qr_o, qr_l, ql_i, ql_s, ql_o, pk_us, pk_un, pk_uLs, pk_uLn, if_pos, if_neg, if_true, if_false, ite_self, eq_self, Nat.zero_add, Nat.add_zero, qwr, not_true_eq_false, not_false_eq_true, Option.some.injEq, qe_gn0, qe_m1n, qe_gng, qe_ngn, qe_gm, qe_mg, qe_lm1, qe_lgn, qe_lem, qe_leg, qe_tm1, qe_tgn]
/-- a number of days, or none such -/
theorem len_or (a : Int32) (M : Nat) (hM : M < 1000) : (a < nI 1 ∨ nI (M + 1) ≤ a) ∨ ∃ N, 1 ≤ N ∧ N ≤ M ∧ a = nI N := by
  rcases oR_or a (N := M + 1) (by omega) with h | ⟨N, hN, rfl⟩
  · rcases h with h | h
    · exact Or.inl (Or.inl (sg_le h (by decide)))
    · exact Or.inl (Or.inr h)
  · by_cases h0 : N = 0
    · subst h0
      exact Or.inl (Or.inl (nI_lt (by decide) (by decide)))
    · exact Or.inr ⟨N, by omega, by omega, rfl⟩
theorem in7_1 {a : Int32} {M : Nat} (hM : M < 1000) (h : a < nI 1 ∨ nI (M + 1) ≤ a) : mX7_in a (nI 1) (nI M) = nI 0 := by
  unfold mX7_in bX7_in_14
  rcases h with h | h
  · rw [if_pos h]; exact qi_0
  · split
    · exact qi_0
    · rw [if_pos (Int32.lt_of_lt_of_le (nI_lt (by omega) (by omega)) h)]; exact qi_0
theorem m1_le : (nI 0 ≤ m1) = False := eq_false (by decide +kernel)
theorem q4_le : (nI 0 ≤ q4) = False := eq_false (by decide +kernel)
theorem need_0 {T : vS} {x y : Int32} {M : Nat} (h : mX7_in y (nI 1) (nI M) = nI 0) : mX7_needDays T x y (nI M) = m1 := by
  unfold mX7_needDays
  by_cases hx : x = nI 0
  · simp (disch := omega) only [qlt, qb_some, qb_none, ↓qn_1, ↓qn_2, ↓qn_3, ↓qn_4, ↓qn_9, ↓qn_1000, ↓qn_low, qi_0, qi_1, qi_2, qi_3, qi_4, qi_5, qi_6, qi_7, qi_8, qi_9, qi_10, qi_11, qi_12, qi_13, qi_14, qi_15, qi_16, qi_17, qi_20, qi_24, qi_30, qi_31, qi_32, qi_60, qi_99, qi_100, qi_200, qi_1000, qi_3400, qi_4000, qi_of, pu_gI, pu_pI, nI_leI, nI_ltI, nI_eq, nI_add, pk_mul, pk_sub, pk_div, qw_s, qw_o, qw_l, qr_s, qr_o, qr_l, ql_i, ql_s, ql_o, pk_us, pk_un, pk_uLs, pk_uLn, if_pos, if_neg, if_true, if_false, ite_self, eq_self, Nat.zero_add, Nat.add_zero, qwr, not_true_eq_false, not_false_eq_true, Option.some.injEq, qe_gn0, qe_m1n, qe_gng, qe_ngn, qe_gm, qe_mg, qe_lm1, qe_lgn, qe_lem, qe_leg, qe_tm1, qe_tgn, h, hx]
  · simp (disch := omega) only [qlt, qb_some, qb_none, ↓qn_1, ↓qn_2, ↓qn_3, ↓qn_4, ↓qn_9, ↓qn_1000, ↓qn_low, qi_0, qi_1, qi_2, qi_3, qi_4, qi_5, qi_6, qi_7, qi_8, qi_9, qi_10, qi_11, qi_12, qi_13, qi_14, qi_15, qi_16, qi_17, qi_20, qi_24, qi_30, qi_31, qi_32, qi_60, qi_99, qi_100, qi_200, qi_1000, qi_3400, qi_4000, qi_of, pu_gI, pu_pI, nI_leI, nI_ltI, nI_eq, nI_add, pk_mul, pk_sub, pk_div, qw_s, qw_o, qw_l, qr_s, qr_o, qr_l, ql_i, ql_s, ql_o, pk_us, pk_un, pk_uLs, pk_uLn, if_pos, if_neg, if_true, if_false, ite_self, eq_self, Nat.zero_add, Nat.add_zero, qwr, not_true_eq_false, not_false_eq_true, Option.some.injEq, qe_gn0, qe_m1n, qe_gng, qe_ngn, qe_gm, qe_mg, qe_lm1, qe_lgn, qe_lem, qe_leg, qe_tm1, qe_tgn, h]
theorem need_y {T : vS} {N M n : Nat} (h1 : 1 ≤ N) (h2 : N ≤ M) (hM : M < 1000) (h10 : T.1 0 10 = nI n) (hn : n ≤ 4) : mX7_needDays T (nI 1) (nI N) (nI M) = if n = 0 then q4 else nI 0 := by
  unfold mX7_needDays
  simp (disch := omega) only [qlt, qb_some, qb_none, ↓qn_1, ↓qn_2, ↓qn_3, ↓qn_4, ↓qn_9, ↓qn_1000, ↓qn_low, qi_0, qi_1, qi_2, qi_3, qi_4, qi_5, qi_6, qi_7, qi_8, qi_9, qi_10, qi_11, qi_12, qi_13, qi_14, qi_15, qi_16, qi_17, qi_20, qi_24, qi_30, qi_31, qi_32, qi_60, qi_99, qi_100, qi_200, qi_1000, qi_3400, qi_4000, qi_of, pu_gI, pu_pI, nI_leI, nI_ltI, nI_eq, nI_add, pk_mul, pk_sub, pk_div, qw_s, qw_o, qw_l, qr_s, qr_o, qr_l, ql_i, ql_s, ql_o, pk_us, pk_un, pk_uLs, pk_uLn, if_pos, if_neg, if_true, if_false, ite_self, eq_self, Nat.zero_add, Nat.add_zero, qwr, not_true_eq_false, not_false_eq_true, Option.some.injEq, qe_gn0, qe_m1n, qe_gng, qe_ngn, qe_gm, qe_mg, qe_lm1, qe_lgn, qe_lem, qe_leg, qe_tm1, qe_tgn, in7_y, h10]
theorem need_r {T : vS} {y : Int32} {M : Nat} : mX7_needDays T (nI 0) y (nI M) = m1 := by
  unfold mX7_needDays
  simp (disch := omega) only [qlt, qb_some, qb_none, ↓qn_1, ↓qn_2, ↓qn_3, ↓qn_4, ↓qn_9, ↓qn_1000, ↓qn_low, qi_0, qi_1, qi_2, qi_3, qi_4, qi_5, qi_6, qi_7, qi_8, qi_9, qi_10, qi_11, qi_12, qi_13, qi_14, qi_15, qi_16, qi_17, qi_20, qi_24, qi_30, qi_31, qi_32, qi_60, qi_99, qi_100, qi_200, qi_1000, qi_3400, qi_4000, qi_of, pu_gI, pu_pI, nI_leI, nI_ltI, nI_eq, nI_add, pk_mul, pk_sub, pk_div, qw_s, qw_o, qw_l, qr_s, qr_o, qr_l, ql_i, ql_s, ql_o, pk_us, pk_un, pk_uLs, pk_uLn, if_pos, if_neg, if_true, if_false, ite_self, eq_self, Nat.zero_add, Nat.add_zero, qwr, not_true_eq_false, not_false_eq_true, Option.some.injEq, qe_gn0, qe_m1n, qe_gng, qe_ngn, qe_gm, qe_mg, qe_lm1, qe_lgn, qe_lem, qe_leg, qe_tm1, qe_tgn]
theorem fill6 {S : vS} {r N : Nat} (hr : r < 6) (hN : N ≤ 4) : mX4_fill S 1 6 (nI r) (95 + 23) 4 (nI N) = some (wR (wI S (1 + 2 + 6) r (nI N)) (1 + 2 + r) (fun i => if 0 ≤ i ∧ i < 0 + N then S.1 (95 + 23) (i - 0) else (if i < N then nI 0 else S.1 (1 + 2 + r) i))) := by
  have mk := make_y (S := S) (k := 1) (z := 6) (r := r) (q := N) (v := nI 0) hr (by decide) (by omega)
  have l1 := lp_fill0 (fun q U j => lX4_fill_21 1 6 (95 + 23) 4 (nI r) (nI N) q U j) (wR (wI S (1 + 2 + 6) r (nI N)) (1 + 2 + r) (fun i => if i < N then nI 0 else S.1 (1 + 2 + r) i)) (1 + 2 + r) 0 N (fun i => S.1 (95 + 23) i) some
    (by intro q f hf; show lX4_fill_21 1 6 (95 + 23) 4 (nI r) (nI N) (q + 1) _ (nI N) = _; rw [lX4_fill_21]; simp (disch := omega) only [qlt, qb_some, qb_none, ↓qn_1, ↓qn_2, ↓qn_3, ↓qn_4, ↓qn_9, ↓qn_1000, ↓qn_low, qi_0, qi_1, qi_2, qi_3, qi_4, qi_5, qi_6, qi_7, qi_8, qi_9, qi_10, qi_11, qi_12, qi_13, qi_14, qi_15, qi_16, qi_17, qi_20, qi_24, qi_30, qi_31, qi_32, qi_60, qi_99, qi_100, qi_200, qi_1000, qi_3400, qi_4000, qi_of, pu_gI, pu_pI, nI_leI, nI_ltI, nI_eq, nI_add, pk_mul, pk_sub, pk_div, qw_s, qw_o, qw_l, qr_s, qr_o, qr_l, ql_i, ql_s, ql_o, pk_us, pk_un, pk_uLs, pk_uLn, if_pos, if_neg, if_true, if_false, ite_self, eq_self, Nat.zero_add, Nat.add_zero, qwr, not_true_eq_false, not_false_eq_true, Option.some.injEq, qe_gn0, qe_m1n, qe_gng, qe_ngn, qe_gm, qe_mg, qe_lm1, qe_lgn, qe_lem, qe_leg, qe_tm1, qe_tgn])
    (by
      intro q f j hj hf
      show lX4_fill_21 1 6 (95 + 23) 4 (nI r) (nI N) (q + 1) _ (nI j) = _
      rw [lX4_fill_21]
      have hs : (wR (wR (wI S (1 + 2 + 6) r (nI N)) (1 + 2 + r) (fun i => if i < N then nI 0 else S.1 (1 + 2 + r) i)) (1 + 2 + r) f).1 (1 + 2 + 6) r = nI N := by rw [qr_o (by omega), qr_o (by omega), qw_s, pk_us]
      simp (disch := omega) only [qlt, qb_some, qb_none, ↓qn_1, ↓qn_2, ↓qn_3, ↓qn_4, ↓qn_9, ↓qn_1000, ↓qn_low, qi_0, qi_1, qi_2, qi_3, qi_4, qi_5, qi_6, qi_7, qi_8, qi_9, qi_10, qi_11, qi_12, qi_13, qi_14, qi_15, qi_16, qi_17, qi_20, qi_24, qi_30, qi_31, qi_32, qi_60, qi_99, qi_100, qi_200, qi_1000, qi_3400, qi_4000, qi_of, pu_gI, pu_pI, nI_leI, nI_ltI, nI_eq, nI_add, pk_mul, pk_sub, pk_div, qw_s, qw_o, qw_l, qr_s, qr_o, qr_l, ql_i, ql_s, ql_o, pk_us, pk_un, pk_uLs, pk_uLn, if_pos, if_neg, if_true, if_false, ite_self, eq_self, Nat.zero_add, Nat.add_zero, qwr, not_true_eq_false, not_false_eq_true, Option.some.injEq, qe_gn0, qe_m1n, qe_gng, qe_ngn, qe_gm, qe_mg, qe_lm1, qe_lgn, qe_lem, qe_leg, qe_tm1, qe_tgn, write_y hr (show 6 < 2 ^ 31 by decide) hs (show N ≤ 60 by omega) hj]) (by unfold FU; omega)
  unfold mX4_fill
  simp only [qi_0, qi_of]
  rw [if_neg (nI_pos' (by omega) |> fun h => Int32.not_lt.mpr (by rw [← nI_0] at h; exact h)), if_pos (nI_le hN (by decide)), mk, qb_some]
  refine l1.trans ?_
  rw [pu_wR_wR, qr_s]
/-- what the plans of N days start from, in the reference -/
theorem Bs_of {T : vS} {n N e : Nat} (hn : n ≤ 4) (h10 : T.1 0 10 = nI n) (h34 : T.1 0 34 = gN) (hN1 : 1 ≤ N) (hN : N ≤ 4) (hGI : GInv n (T.1 7)) (hF : FInv n (fr T 0)) (h14 : fr T 0 14 = nI e) (he : e ≤ 200) : Bs T n 4 N e :=
  ⟨hn, h10, by rw [h34]; rfl, hN, hN1, hGI, hF, h14, he⟩
theorem st_best : St_best Rel := by
  intro S T a b R
  obtain ⟨n, hn, h10, h34, hGI, hV, hK⟩ := R.2.2.2.2
  obtain ⟨hG, hS, hg1, hh1, hFI, e, he, h14, hH, hD⟩ := id hV
  unfold mX6_best mX7_best mX7_isRow
  rcases len_or a 3 (by decide) with h | ⟨N, hN1, hN3, rfl⟩
  · simp only [qi_0, qi_3, qi_1, qlt, need_0 (in7_1 (show 3 < 1000 by decide) h), planLen_o h]
    simp (disch := omega) only [qlt, qb_some, qb_none, ↓qn_1, ↓qn_2, ↓qn_3, ↓qn_4, ↓qn_9, ↓qn_1000, ↓qn_low, qi_0, qi_1, qi_2, qi_3, qi_4, qi_5, qi_6, qi_7, qi_8, qi_9, qi_10, qi_11, qi_12, qi_13, qi_14, qi_15, qi_16, qi_17, qi_20, qi_24, qi_30, qi_31, qi_32, qi_60, qi_99, qi_100, qi_200, qi_1000, qi_3400, qi_4000, qi_of, pu_gI, pu_pI, nI_leI, nI_ltI, nI_eq, nI_add, pk_mul, pk_sub, pk_div, qw_s, qw_o, qw_l, qr_s, qr_o, qr_l, ql_i, ql_s, ql_o, pk_us, pk_un, pk_uLs, pk_uLn, if_pos, if_neg, if_true, if_false, ite_self, eq_self, Nat.zero_add, Nat.add_zero, qwr, not_true_eq_false, not_false_eq_true, Option.some.injEq, qe_gn0, qe_m1n, qe_gng, qe_ngn, qe_gm, qe_mg, qe_lm1, qe_lgn, qe_lem, qe_leg, qe_tm1, qe_tgn, need_0 (in7_1 (show 3 < 1000 by decide) h), m1_le]
    exact ⟨_, _, rfl, rfl, rfl, R⟩
  rcases oR_or b (N := 6) (by decide) with h | ⟨r, hr, rfl⟩
  · simp (disch := omega) only [qlt, qb_some, qb_none, ↓qn_1, ↓qn_2, ↓qn_3, ↓qn_4, ↓qn_9, ↓qn_1000, ↓qn_low, qi_0, qi_1, qi_2, qi_3, qi_4, qi_5, qi_6, qi_7, qi_8, qi_9, qi_10, qi_11, qi_12, qi_13, qi_14, qi_15, qi_16, qi_17, qi_20, qi_24, qi_30, qi_31, qi_32, qi_60, qi_99, qi_100, qi_200, qi_1000, qi_3400, qi_4000, qi_of, pu_gI, pu_pI, nI_leI, nI_ltI, nI_eq, nI_add, pk_mul, pk_sub, pk_div, qw_s, qw_o, qw_l, qr_s, qr_o, qr_l, ql_i, ql_s, ql_o, pk_us, pk_un, pk_uLs, pk_uLn, if_pos, if_neg, if_true, if_false, ite_self, eq_self, Nat.zero_add, Nat.add_zero, qwr, not_true_eq_false, not_false_eq_true, Option.some.injEq, qe_gn0, qe_m1n, qe_gng, qe_ngn, qe_gm, qe_mg, qe_lm1, qe_lgn, qe_lem, qe_leg, qe_tm1, qe_tgn, planLen_y hN1 hN3, has4_o (S := S) (k := 1) h, oR_in7 (by decide) h, need_r, m1_le]
    exact ⟨_, _, rfl, rfl, rfl, R⟩
  have hnd := need_y (T := T) hN1 hN3 (by decide) h10 hn
  by_cases hn0 : n = 0
  · rw [if_pos hn0] at hnd
    simp (disch := omega) only [qlt, qb_some, qb_none, ↓qn_1, ↓qn_2, ↓qn_3, ↓qn_4, ↓qn_9, ↓qn_1000, ↓qn_low, qi_0, qi_1, qi_2, qi_3, qi_4, qi_5, qi_6, qi_7, qi_8, qi_9, qi_10, qi_11, qi_12, qi_13, qi_14, qi_15, qi_16, qi_17, qi_20, qi_24, qi_30, qi_31, qi_32, qi_60, qi_99, qi_100, qi_200, qi_1000, qi_3400, qi_4000, qi_of, pu_gI, pu_pI, nI_leI, nI_ltI, nI_eq, nI_add, pk_mul, pk_sub, pk_div, qw_s, qw_o, qw_l, qr_s, qr_o, qr_l, ql_i, ql_s, ql_o, pk_us, pk_un, pk_uLs, pk_uLn, if_pos, if_neg, if_true, if_false, ite_self, eq_self, Nat.zero_add, Nat.add_zero, qwr, not_true_eq_false, not_false_eq_true, Option.some.injEq, qe_gn0, qe_m1n, qe_gng, qe_ngn, qe_gm, qe_mg, qe_lm1, qe_lgn, qe_lem, qe_leg, qe_tm1, qe_tgn, planLen_y hN1 hN3, has4_y, in7_y, hnd, q4_le, noGods6 hG.1 hn]
    exact ⟨_, _, rfl, rfl, rfl, R⟩
  · rw [if_neg hn0] at hnd
    have hN4 : N ≤ 4 := by omega
    obtain ⟨S', s1, s2, s3, s4⟩ := seekAll6 (N := N) (kg := 30 + 1) (ks := 30 + 11) hn hN4 (by omega) (by omega) hG hGI hS hFI h14 he
    obtain ⟨x, l, T', t1, t2, t3, t4⟩ := most7P (Bs_of hn h10 h34 hN1 hN4 hGI hFI h14 he) (Pt_29 T N)
    rw [t1] at s4
    obtain ⟨_, _, s5⟩ := s4
    obtain ⟨m8, _, _, _, mB⟩ := s5 x l rfl
    have R2 := Rel_pl R s2 s3 t3
    unfold mX6_tell mX7_tells
    have hp := ptr7 (r := r) t3.2.1 hN4 hr
    have hf := fill6 (S := wI S' 0 11 (nI (bst x l).2.1 - nI (bst x l).2.2.1)) (r := r) hr hN4
    simp (disch := omega) only [qlt, qb_some, qb_none, ↓qn_1, ↓qn_2, ↓qn_3, ↓qn_4, ↓qn_9, ↓qn_1000, ↓qn_low, qi_0, qi_1, qi_2, qi_3, qi_4, qi_5, qi_6, qi_7, qi_8, qi_9, qi_10, qi_11, qi_12, qi_13, qi_14, qi_15, qi_16, qi_17, qi_20, qi_24, qi_30, qi_31, qi_32, qi_60, qi_99, qi_100, qi_200, qi_1000, qi_3400, qi_4000, qi_of, pu_gI, pu_pI, nI_leI, nI_ltI, nI_eq, nI_add, pk_mul, pk_div, qw_s, qw_o, qw_l, qr_s, qr_o, qr_l, ql_i, ql_s, ql_o, pk_us, pk_un, pk_uLs, pk_uLn, if_pos, if_neg, if_true, if_false, ite_self, eq_self, Nat.zero_add, Nat.add_zero, qwr, not_true_eq_false, not_false_eq_true, Option.some.injEq, qe_gn0, qe_m1n, qe_gng, qe_ngn, qe_gm, qe_mg, qe_lm1, qe_lgn, qe_lem, qe_leg, qe_tm1, qe_tgn, planLen_y hN1 hN3, has4_y, in7_y, hnd, noGods6 hG.1 hn, s1, m8, t2, hp]
    rw [hf]
    simp only [qb_some]
    refine ⟨_, _, rfl, rfl, rfl, ?_⟩
    have R3 := Rel_tell R2 (nI (bst x l).2.1 - nI (bst x l).2.2.1)
    have hsw : wI (wR (wI T' 2 r (nI N)) 3 (ptX T' r N)) 0 2 (nI (bst x l).2.1 - nI (bst x l).2.2.1) = wR (wI (wI T' 0 2 (nI (bst x l).2.1 - nI (bst x l).2.2.1)) 2 r (nI N)) 3 (ptX T' r N) := by
      rw [show wR (wI T' 2 r (nI N)) 3 (ptX T' r N) = wR (wI T' 2 r (nI N)) 3 (ptX T' r N) from rfl]
      refine Prod.ext ?_ rfl
      funext q
      show (if q = 0 then upd ((wR (wI T' 2 r (nI N)) 3 (ptX T' r N)).1 0) 2 _ else (if q = 3 then ptX T' r N else if q = 2 then upd (T'.1 2) r (nI N) else T'.1 q)) = (if q = 3 then ptX T' r N else if q = 2 then upd ((wI T' 0 2 (nI (bst x l).2.1 - nI (bst x l).2.2.1)).1 2) r (nI N) else if q = 0 then upd (T'.1 0) 2 _ else T'.1 q)
      rw [qr_o (by decide), qw_o (by decide), qw_o (by decide)]
      by_cases q0 : q = 0
      · subst q0; rfl
      · rw [if_neg q0]
        by_cases q3' : q = 3
        · rw [if_pos q3', if_pos q3']
        · rw [if_neg q3', if_neg q3']
          by_cases q2' : q = 2
          · rw [if_pos q2', if_pos q2']
          · rw [if_neg q2', if_neg q2', if_neg q0]
    rw [hsw]
    refine Rel_rows R3 (fun c hc => ?_) rfl (fun c c1 c2 c3 => ?_) rfl ?_
    · rw [qr_o (by omega), qw_o (by omega)]
    · rw [qr_o c2, qw_o c1]
    · intro p hp
      obtain ⟨b1, b2, b3⟩ := R3.2.2.1 p hp
      by_cases hpr : p = r
      · subst hpr
        rw [qr_o (by omega), qw_s, pk_us, qr_s, qr_o (by decide), qw_s, pk_us, qr_s]
        refine ⟨rfl, Or.inr ⟨N, by omega, rfl⟩, fun m hm e9 i hi => ?_⟩
        have hNm : N = m := (nI_eq (by omega) (by omega)).mp e9
        subst hNm
        rw [if_pos (by omega), Nat.sub_zero]
        unfold ptX
        rw [if_pos (by omega), show 60 * p + i - 60 * p = i by omega]
        dsimp only
        rw [if_pos hi, t4 i hi, qw_o (by decide)]
        exact mB i hi
      · simp (disch := omega) only [qw_o, qw_s, pk_un, qr_o, qr_s] at b1 b2 b3 ⊢
        refine ⟨b1, b2, fun m hm e9 i hi => ?_⟩
        unfold ptX
        rw [if_neg (by omega)]
        exact b3 m hm e9 i hi
