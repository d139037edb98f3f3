/-! ===== PURE: starve, price, altar ===== -/
/-- on its way through plans, whoever is starved -/
def PtS (T0 T : vS) : Prop :=
  (∀ p, p ≠ 20 → p ≠ 21 → p ≠ 22 → p ≠ 29 → p ≠ 30 → p ≠ 31 → p ≠ 32 → p ≠ 33 → p ≠ 34 → T.1 0 p = T0.1 0 p) ∧ (∀ c, c ≠ 0 → c ≠ 10 → c ≠ 11 → c ≠ 17 → c ≠ 18 → T.1 c = T0.1 c) ∧ fr T 0 = fr T0 0 ∧ T.2 = T0.2
theorem PtS_of {T0 T T' : vS} {L : Nat} {x : Int32} (h : PtS T0 T) (h2 : Pt (wI T 0 34 x) T' L) : PtS T0 T' := by
  obtain ⟨a1, a2, a3, a4⟩ := h
  obtain ⟨b1, b2, b3, b4, b5⟩ := h2
  refine ⟨fun p p1 p2 p3 p4 p5 p6 p7 p8 p9 => ?_, fun c c1 c2 c3 c4 c5 => ?_, ?_, ?_⟩
  · rw [b1 p p1 p2 p3 p4 p5 p6 p7 p8, qw_s, pk_un p9]
    exact a1 p p1 p2 p3 p4 p5 p6 p7 p8 p9
  · rw [b3 c c1 c2 c3 c4 c5, qw_o c1]
    exact a2 c c1 c2 c3 c4 c5
  · rw [b4, fr_eq (T := T) (qw_o (by decide))]
    exact a3
  · rw [b5]; exact a4
theorem Rel_plS {S S' T T' : vS} (R : Rel S T) (h34 : T.1 0 34 = gN) (hS : ∀ c, (c < 95 ∨ 118 < c) → S'.1 c = S.1 c) (hS2 : S'.2 = S.2) (hP : PtS T T') : Rel S' (wI T' 0 34 gN) := by
  obtain ⟨a1, a3, a4, a5⟩ := hP
  have o : ∀ p, p ≠ 20 → p ≠ 21 → p ≠ 22 → p ≠ 29 → p ≠ 30 → p ≠ 31 → p ≠ 32 → p ≠ 33 → p ≠ 34 → (wI T' 0 34 gN).1 0 p = T.1 0 p := fun p p1 p2 p3 p4 p5 p6 p7 p8 p9 => by rw [qw_s, pk_un p9]; exact a1 p p1 p2 p3 p4 p5 p6 p7 p8 p9
  refine Rel_scr R (fun c hc => hS c (by omega)) hS2 (o 0 (by decide) (by decide) (by decide) (by decide) (by decide) (by decide) (by decide) (by decide) (by decide)) (o 2 (by decide) (by decide) (by decide) (by decide) (by decide) (by decide) (by decide) (by decide) (by decide)) (o 10 (by decide) (by decide) (by decide) (by decide) (by decide) (by decide) (by decide) (by decide) (by decide)) ?_ (fun c hc => by rw [qw_o (by omega)]; exact a3 c (by omega) (by omega) (by omega) (by omega) (by omega)) (by rw [fr_eq (T := T') (qw_o (by decide))]; exact a4) a5
  rw [qw_s, pk_us, h34]
theorem starve_l {S T : vS} {n N e : Nat} (R : Rel S T) (hn : n ≤ 4) (h10 : T.1 0 10 = nI n) (h34 : T.1 0 34 = gN) (hN1 : 1 ≤ N) (hN : N ≤ 4) (hG : GodR S (30 + 1) n (T.1 7)) (hGI : GInv n (T.1 7)) (hS : ScR S (30 + 11) n (fr T 0)) (hFI : FInv n (fr T 0)) (h14 : fr T 0 14 = nI e) (he : e ≤ 200) (w : Int32) :
    ∀ q g S1 T1 (v4 v5 : Int32), g ≤ n → n - g < q → (∀ c, (c < 95 ∨ 118 < c) → S1.1 c = S.1 c) → S1.2 = S.2 → PtS T T1 →
    ∃ (x : Int32 × vS) (t : Int32 × vS), lX6_starve_58 (nI N) w q S1 v4 v5 (nI g) = some x ∧ lX7_starve_30 (nI N) w q T1 v4 v5 (nI g) = some t ∧ x.1 = t.1 ∧ Rel x.2 t.2 := by
  intro q
  induction q with
  | zero => intro g S1 T1 v4 v5 h1 h2; omega
  | succ q ih =>
    intro g S1 T1 v4 v5 h1 h2 hS1 hS2 hP
    rw [lX6_starve_58, lX7_starve_30]
    have k1 : S1.1 (30 + 1) 0 = nI n := by rw [hS1 _ (by omega)]; exact hG.1
    have k2 : T1.1 0 10 = nI n := by rw [hP.1 10 (by decide) (by decide) (by decide) (by decide) (by decide) (by decide) (by decide) (by decide) (by decide)]; exact h10
    by_cases hg : g = n
    · subst hg
      have R2 := Rel_plS R h34 hS1 hS2 hP
      unfold bX6_starve_152 bX7_starve_92 mX6_tell mX7_tells
      by_cases hv : v4 = gN
      · subst hv
        simp (disch := omega) only [qlt, qb_some, qb_none, ↓qn_1, ↓qn_2, ↓qn_3, ↓qn_4, ↓qn_9, ↓qn_1000, ↓qn_low, qi_0, qi_1, qi_2, qi_3, qi_4, qi_5, qi_6, qi_7, qi_8, qi_9, qi_10, qi_11, qi_12, qi_13, qi_14, qi_15, qi_16, qi_17, qi_20, qi_24, qi_30, qi_31, qi_32, qi_60, qi_99, qi_100, qi_200, qi_1000, qi_3400, qi_4000, qi_of, pu_gI, pu_pI, nI_leI, nI_ltI, nI_eq, nI_add, pk_mul, pk_sub, pk_div, qw_s, qw_o, qw_l, qr_s, qr_o, qr_l, ql_i, ql_s, ql_o, pk_us, pk_un, pk_uLs, pk_uLn, if_pos, if_neg, if_true, if_false, ite_self, eq_self, Nat.zero_add, Nat.add_zero, qwr, not_true_eq_false, not_false_eq_true, Option.some.injEq, qe_gn0, qe_m1n, qe_gng, qe_ngn, qe_gm, qe_mg, qe_lm1, qe_lgn, qe_lem, qe_leg, qe_tm1, qe_tgn, k1, k2]
        exact ⟨_, _, rfl, rfl, rfl, R2⟩
      · have hv2 : (v4 = gN) = False := eq_false hv
        simp (disch := omega) only [qlt, qb_some, qb_none, ↓qn_1, ↓qn_2, ↓qn_3, ↓qn_4, ↓qn_9, ↓qn_1000, ↓qn_low, qi_0, qi_1, qi_2, qi_3, qi_4, qi_5, qi_6, qi_7, qi_8, qi_9, qi_10, qi_11, qi_12, qi_13, qi_14, qi_15, qi_16, qi_17, qi_20, qi_24, qi_30, qi_31, qi_32, qi_60, qi_99, qi_100, qi_200, qi_1000, qi_3400, qi_4000, qi_of, pu_gI, pu_pI, nI_leI, nI_ltI, nI_eq, nI_add, pk_mul, pk_sub, pk_div, qw_s, qw_o, qw_l, qr_s, qr_o, qr_l, ql_i, ql_s, ql_o, pk_us, pk_un, pk_uLs, pk_uLn, if_pos, if_neg, if_true, if_false, ite_self, eq_self, Nat.zero_add, Nat.add_zero, qwr, not_true_eq_false, not_false_eq_true, Option.some.injEq, qe_gn0, qe_m1n, qe_gng, qe_ngn, qe_gm, qe_mg, qe_lm1, qe_lgn, qe_lem, qe_leg, qe_tm1, qe_tgn, k1, k2, hv2]
        exact ⟨_, _, rfl, rfl, rfl, Rel_tell R2 _⟩
    · have hgn : g < n := by omega
      have hg4 : g < 4 := by omega
      have h06 : (0 : Nat) < 6 := by decide
      have hG1 : GodR S1 (30 + 1) n (T.1 7) := GodR_tr (S := S) (k := 30 + 1) hn (fun i _ => by rw [hS1 _ (by omega)]) (fun i i1 i2 g _ => by rw [hS1 _ (by omega)]) hG
      have hSc1 : ScR S1 (30 + 11) n (fr T 0) := ScR_tr (S := S) (k := 30 + 11) hn (fun i _ => by rw [hS1 _ (by omega)]) (fun i _ => by rw [hS1 _ (by omega)]) (fun i _ => by rw [hS1 _ (by omega)]) hS
      have g6 := gone6 hn hSc1 hgn
      have g7 := m7_gone (T := T1) h06 hg4
      rw [hP.2.2.1] at g7
      by_cases hgo : fr T 0 (3 + g) = gN
      · rw [if_pos hgo] at g6 g7
        have := ih (g + 1) S1 T1 v4 v5 (by omega) (by omega) hS1 hS2 hP
        simp (disch := omega) only [qlt, qb_some, qb_none, ↓qn_1, ↓qn_2, ↓qn_3, ↓qn_4, ↓qn_9, ↓qn_1000, ↓qn_low, qi_0, qi_1, qi_2, qi_3, qi_4, qi_5, qi_6, qi_7, qi_8, qi_9, qi_10, qi_11, qi_12, qi_13, qi_14, qi_15, qi_16, qi_17, qi_20, qi_24, qi_30, qi_31, qi_32, qi_60, qi_99, qi_100, qi_200, qi_1000, qi_3400, qi_4000, qi_of, pu_gI, pu_pI, nI_leI, nI_ltI, nI_eq, nI_add, pk_mul, pk_sub, pk_div, qw_s, qw_o, qw_l, qr_s, qr_o, qr_l, ql_i, ql_s, ql_o, pk_us, pk_un, pk_uLs, pk_uLn, if_pos, if_neg, if_true, if_false, ite_self, eq_self, Nat.zero_add, Nat.add_zero, qwr, not_true_eq_false, not_false_eq_true, Option.some.injEq, qe_gn0, qe_m1n, qe_gng, qe_ngn, qe_gm, qe_mg, qe_lm1, qe_lgn, qe_lem, qe_leg, qe_tm1, qe_tgn, k1, k2, g6, g7]
        exact this
      · rw [if_neg hgo] at g6 g7
        have t7 : (wI T1 0 34 (nI g)).1 7 = T.1 7 := by rw [qw_o (by decide)]; exact hP.2.1 7 (by decide) (by decide) (by decide) (by decide) (by decide)
        have tf : fr (wI T1 0 34 (nI g)) 0 = fr T 0 := by rw [fr_eq (T := T1) (qw_o (by decide))]; exact hP.2.2.1
        have hB : Bs (wI T1 0 34 (nI g)) n g N e := ⟨hn, by rw [qw_s, pk_un (by decide)]; exact k2, by rw [qw_s, pk_us, if_pos hg4], hN, hN1, by rw [t7]; exact hGI, by rw [tf]; exact hFI, by rw [tf]; exact h14, he⟩
        obtain ⟨x, l, T2, u1, u2, u3, u4⟩ := most7P hB (Pt_29 _ N)
        rw [t7, tf] at u1
        obtain ⟨S2, s1, s2, s3, s4⟩ := seekUnfed6 (N := N) (kg := 30 + 1) (ks := 30 + 11) hg4 hn hN (by omega) (by omega) hG1 hGI hSc1 hFI h14 he
        rw [u1] at s4
        obtain ⟨_, _, s5⟩ := s4
        obtain ⟨m8, _⟩ := s5 x l rfl
        have hS3 : ∀ c, (c < 95 ∨ 118 < c) → S2.1 c = S.1 c := fun c hc => by rw [s2 c hc]; exact hS1 c hc
        have hS4 : S2.2 = S.2 := by rw [s3]; exact hS2
        have hP2 := PtS_of hP u3
        have go := fun v4 v5 => ih (g + 1) S2 T2 v4 v5 (by omega) (by omega) hS3 hS4 hP2
        generalize hw : nI (bst x l).2.1 - nI (bst x l).2.2.1 = z at m8 u2
        unfold bX6_starve_139 bX7_starve_78
        by_cases hv : v4 = gN
        · subst hv
          simp (disch := omega) only [qlt, qb_some, qb_none, ↓qn_1, ↓qn_2, ↓qn_3, ↓qn_4, ↓qn_9, ↓qn_1000, ↓qn_low, qi_0, qi_1, qi_2, qi_3, qi_4, qi_5, qi_6, qi_7, qi_8, qi_9, qi_10, qi_11, qi_12, qi_13, qi_14, qi_15, qi_16, qi_17, qi_20, qi_24, qi_30, qi_31, qi_32, qi_60, qi_99, qi_100, qi_200, qi_1000, qi_3400, qi_4000, qi_of, pu_gI, pu_pI, nI_leI, nI_ltI, nI_eq, nI_add, pk_mul, pk_div, qw_s, qw_o, qw_l, qr_s, qr_o, qr_l, ql_i, ql_s, ql_o, pk_us, pk_un, pk_uLs, pk_uLn, if_pos, if_neg, if_true, if_false, ite_self, eq_self, Nat.zero_add, Nat.add_zero, qwr, not_true_eq_false, not_false_eq_true, Option.some.injEq, qe_gn0, qe_m1n, qe_gng, qe_ngn, qe_gm, qe_mg, qe_lm1, qe_lgn, qe_lem, qe_leg, qe_tm1, qe_tgn, k1, k2, g6, g7, s1, u2, m8]
          exact go (nI g) (w - z)
        · have hv2 : (v4 = gN) = False := eq_false hv
          by_cases hle : v5 ≤ w - z
          · have hle2 : (v5 ≤ w - z) = True := eq_true hle
            simp (disch := omega) only [qlt, qb_some, qb_none, ↓qn_1, ↓qn_2, ↓qn_3, ↓qn_4, ↓qn_9, ↓qn_1000, ↓qn_low, qi_0, qi_1, qi_2, qi_3, qi_4, qi_5, qi_6, qi_7, qi_8, qi_9, qi_10, qi_11, qi_12, qi_13, qi_14, qi_15, qi_16, qi_17, qi_20, qi_24, qi_30, qi_31, qi_32, qi_60, qi_99, qi_100, qi_200, qi_1000, qi_3400, qi_4000, qi_of, pu_gI, pu_pI, nI_leI, nI_ltI, nI_eq, nI_add, pk_mul, pk_div, qw_s, qw_o, qw_l, qr_s, qr_o, qr_l, ql_i, ql_s, ql_o, pk_us, pk_un, pk_uLs, pk_uLn, if_pos, if_neg, if_true, if_false, ite_self, eq_self, Nat.zero_add, Nat.add_zero, qwr, not_true_eq_false, not_false_eq_true, Option.some.injEq, qe_gn0, qe_m1n, qe_gng, qe_ngn, qe_gm, qe_mg, qe_lm1, qe_lgn, qe_lem, qe_leg, qe_tm1, qe_tgn, k1, k2, g6, g7, s1, u2, m8, hv2, hle2]
            exact go v4 v5
          · have hle2 : (v5 ≤ w - z) = False := eq_false hle
            simp (disch := omega) only [qlt, qb_some, qb_none, ↓qn_1, ↓qn_2, ↓qn_3, ↓qn_4, ↓qn_9, ↓qn_1000, ↓qn_low, qi_0, qi_1, qi_2, qi_3, qi_4, qi_5, qi_6, qi_7, qi_8, qi_9, qi_10, qi_11, qi_12, qi_13, qi_14, qi_15, qi_16, qi_17, qi_20, qi_24, qi_30, qi_31, qi_32, qi_60, qi_99, qi_100, qi_200, qi_1000, qi_3400, qi_4000, qi_of, pu_gI, pu_pI, nI_leI, nI_ltI, nI_eq, nI_add, pk_mul, pk_div, qw_s, qw_o, qw_l, qr_s, qr_o, qr_l, ql_i, ql_s, ql_o, pk_us, pk_un, pk_uLs, pk_uLn, if_pos, if_neg, if_true, if_false, ite_self, eq_self, Nat.zero_add, Nat.add_zero, qwr, not_true_eq_false, not_false_eq_true, Option.some.injEq, qe_gn0, qe_m1n, qe_gng, qe_ngn, qe_gm, qe_mg, qe_lm1, qe_lgn, qe_lem, qe_leg, qe_tm1, qe_tgn, k1, k2, g6, g7, s1, u2, m8, hv2, hle2]
            exact go (nI g) (w - z)
theorem st_starve : St_starve Rel := by
  intro S T a R
  obtain ⟨n, hn, h10, h34, hGI, hV, hK⟩ := R.2.2.2.2
  obtain ⟨hG, hS, hg1, hh1, hFI, e, he, h14, hH, hD⟩ := id hV
  unfold mX6_starve mX7_starve
  rcases len_or a 3 (by decide) with h | ⟨N, hN1, hN3, rfl⟩
  · simp (disch := omega) only [qlt, qb_some, qb_none, ↓qn_1, ↓qn_2, ↓qn_3, ↓qn_4, ↓qn_9, ↓qn_1000, ↓qn_low, qi_0, qi_1, qi_2, qi_3, qi_4, qi_5, qi_6, qi_7, qi_8, qi_9, qi_10, qi_11, qi_12, qi_13, qi_14, qi_15, qi_16, qi_17, qi_20, qi_24, qi_30, qi_31, qi_32, qi_60, qi_99, qi_100, qi_200, qi_1000, qi_3400, qi_4000, qi_of, pu_gI, pu_pI, nI_leI, nI_ltI, nI_eq, nI_add, pk_mul, pk_sub, pk_div, qw_s, qw_o, qw_l, qr_s, qr_o, qr_l, ql_i, ql_s, ql_o, pk_us, pk_un, pk_uLs, pk_uLn, if_pos, if_neg, if_true, if_false, ite_self, eq_self, Nat.zero_add, Nat.add_zero, qwr, not_true_eq_false, not_false_eq_true, Option.some.injEq, qe_gn0, qe_m1n, qe_gng, qe_ngn, qe_gm, qe_mg, qe_lm1, qe_lgn, qe_lem, qe_leg, qe_tm1, qe_tgn, planLen_o h, need_0 (in7_1 (show 3 < 1000 by decide) h), m1_le]
    exact ⟨_, _, rfl, rfl, rfl, R⟩
  have hnd := need_y (T := T) hN1 hN3 (by decide) h10 hn
  by_cases hn0 : n = 0
  · rw [if_pos hn0] at hnd
    simp (disch := omega) only [qlt, qb_some, qb_none, ↓qn_1, ↓qn_2, ↓qn_3, ↓qn_4, ↓qn_9, ↓qn_1000, ↓qn_low, qi_0, qi_1, qi_2, qi_3, qi_4, qi_5, qi_6, qi_7, qi_8, qi_9, qi_10, qi_11, qi_12, qi_13, qi_14, qi_15, qi_16, qi_17, qi_20, qi_24, qi_30, qi_31, qi_32, qi_60, qi_99, qi_100, qi_200, qi_1000, qi_3400, qi_4000, qi_of, pu_gI, pu_pI, nI_leI, nI_ltI, nI_eq, nI_add, pk_mul, pk_sub, pk_div, qw_s, qw_o, qw_l, qr_s, qr_o, qr_l, ql_i, ql_s, ql_o, pk_us, pk_un, pk_uLs, pk_uLn, if_pos, if_neg, if_true, if_false, ite_self, eq_self, Nat.zero_add, Nat.add_zero, qwr, not_true_eq_false, not_false_eq_true, Option.some.injEq, qe_gn0, qe_m1n, qe_gng, qe_ngn, qe_gm, qe_mg, qe_lm1, qe_lgn, qe_lem, qe_leg, qe_tm1, qe_tgn, planLen_y hN1 hN3, hnd, q4_le, noGods6 hG.1 hn]
    exact ⟨_, _, rfl, rfl, rfl, R⟩
  · rw [if_neg hn0] at hnd
    have hN4 : N ≤ 4 := by omega
    obtain ⟨S', s1, s2, s3, s4⟩ := seekAll6 (N := N) (kg := 30 + 1) (ks := 30 + 11) hn hN4 (by omega) (by omega) hG hGI hS hFI h14 he
    obtain ⟨x, l, T', t1, t2, t3, t4⟩ := most7P (Bs_of hn h10 h34 hN1 hN4 hGI hFI h14 he) (Pt_29 T N)
    rw [t1] at s4
    obtain ⟨_, _, s5⟩ := s4
    obtain ⟨m8, _⟩ := s5 x l rfl
    have hP : PtS T T' := ⟨fun p p1 p2 p3 p4 p5 p6 p7 p8 _ => t3.1 p p1 p2 p3 p4 p5 p6 p7 p8, t3.2.2.1, t3.2.2.2.1, t3.2.2.2.2⟩
    have go := starve_l R hn h10 h34 hN1 hN4 hG hGI hS hFI h14 he (nI (bst x l).2.1 - nI (bst x l).2.2.1) FU 0 S' T' gN (nI 0) (Nat.zero_le n) (by unfold FU; omega) s2 s3 hP
    generalize nI (bst x l).2.1 - nI (bst x l).2.2.1 = z at m8 t2 go
    simp (disch := omega) only [qlt, qb_some, qb_none, ↓qn_1, ↓qn_2, ↓qn_3, ↓qn_4, ↓qn_9, ↓qn_1000, ↓qn_low, qi_0, qi_1, qi_2, qi_3, qi_4, qi_5, qi_6, qi_7, qi_8, qi_9, qi_10, qi_11, qi_12, qi_13, qi_14, qi_15, qi_16, qi_17, qi_20, qi_24, qi_30, qi_31, qi_32, qi_60, qi_99, qi_100, qi_200, qi_1000, qi_3400, qi_4000, qi_of, pu_gI, pu_pI, nI_leI, nI_ltI, nI_eq, nI_add, pk_mul, pk_div, qw_s, qw_o, qw_l, qr_s, qr_o, qr_l, ql_i, ql_s, ql_o, pk_us, pk_un, pk_uLs, pk_uLn, if_pos, if_neg, if_true, if_false, ite_self, eq_self, Nat.zero_add, Nat.add_zero, qwr, not_true_eq_false, not_false_eq_true, Option.some.injEq, qe_gn0, qe_m1n, qe_gng, qe_ngn, qe_gm, qe_mg, qe_lm1, qe_lgn, qe_lem, qe_leg, qe_tm1, qe_tgn, planLen_y hN1 hN3, hnd, noGods6 hG.1 hn, s1, m8, t2]
    exact go
/-! price -/
theorem ScR_away {S : vS} {k n g : Nat} {A B C D F : Nat → Int32} (hn : n ≤ 4) (hg : g < n) (hS : ScR (mk4 S k A B C D) k n F) : ScR (mk4 S k (upd A 1 (A 1 ||| (nI 1 <<< (nI g &&& nI 31)))) B C D) k n (upd F (3 + g) gN) := by
  obtain ⟨s1, ⟨s2, s3⟩, s4, s5, s6⟩ := hS
  rw [mk4_0] at s1 s2 s3 s4
  rw [mk4_1] at s5
  rw [mk4_2] at s6
  have hg4 : g < 4 := by omega
  refine ⟨?_, ⟨?_, ?_⟩, ?_, ?_, ?_⟩
  · rw [mk4_0, pk_un (by decide), pk_un (by omega)]; exact s1
  · rw [mk4_0, pk_us]; exact nib_or s2 (nib_one hg4)
  · intro p hp
    rw [mk4_0, pk_us, bt_or s2 (nib_one hg4) hp, bt_one hg4 hp, s3 p hp]
    by_cases hpg : p = g
    · subst hpg
      rw [pk_us]
      simp [hg]
    · rw [pk_un (by omega)]
      simp [hpg]
  · rw [mk4_0, pk_un (by decide), pk_un (by omega)]; exact s4
  · intro f hf
    rw [mk4_1, pk_un (by omega)]; exact s5 f hf
  · intro p hp hne
    rw [mk4_2]
    by_cases hpg : p = g
    · subst hpg
      rw [pk_us] at hne
      exact absurd rfl hne
    · rw [pk_un (by omega)] at hne ⊢
      exact s6 p hp hne
theorem FInv_away {n g : Nat} {F : Nat → Int32} (hF : FInv n F) (hg : g < 4) : FInv n (upd F (3 + g) gN) := by
  obtain ⟨⟨x, x1, x2⟩, a2, a3, a4⟩ := hF
  refine ⟨⟨x, x1, by rw [pk_un (by omega)]; exact x2⟩, by rw [pk_un (by omega)]; exact a2, fun f hf => by rw [pk_un (by omega)]; exact a3 f hf, fun p hp => ?_⟩
  by_cases hpg : p = g
  · subst hpg; rw [pk_us]; exact Or.inl rfl
  · rw [pk_un (by omega)]; exact a4 p hp
theorem fr_w {T : vS} {i : Nat} {x : Int32} (hi : i < 15) : fr (wI T 10 (15 * 0 + i) x) 0 = upd (fr T 0) i x := by
  unfold fr
  rw [qw_s, frA_w0 (by omega), show 15 * 0 + i = i by omega]
theorem st_price : St_price Rel := by
  intro S T a b R
  obtain ⟨n, hn, h10, h34, hGI, hV, hK⟩ := R.2.2.2.2
  obtain ⟨hG, hS, hg1, hh1, hFI, e, he, h14, hH, hD⟩ := id hV
  unfold mX6_price mX7_price
  rcases oR_or a (N := n) (by omega) with h | ⟨g, hg, rfl⟩
  · simp (disch := omega) only [qlt, qb_some, qb_none, ↓qn_1, ↓qn_2, ↓qn_3, ↓qn_4, ↓qn_9, ↓qn_1000, ↓qn_low, qi_0, qi_1, qi_2, qi_3, qi_4, qi_5, qi_6, qi_7, qi_8, qi_9, qi_10, qi_11, qi_12, qi_13, qi_14, qi_15, qi_16, qi_17, qi_20, qi_24, qi_30, qi_31, qi_32, qi_60, qi_99, qi_100, qi_200, qi_1000, qi_3400, qi_4000, qi_of, pu_gI, pu_pI, nI_leI, nI_ltI, nI_eq, nI_add, pk_mul, pk_sub, pk_div, qw_s, qw_o, qw_l, qr_s, qr_o, qr_l, ql_i, ql_s, ql_o, pk_us, pk_un, pk_uLs, pk_uLn, if_pos, if_neg, if_true, if_false, ite_self, eq_self, Nat.zero_add, Nat.add_zero, qwr, not_true_eq_false, not_false_eq_true, Option.some.injEq, qe_gn0, qe_m1n, qe_gng, qe_ngn, qe_gm, qe_mg, qe_lm1, qe_lgn, qe_lem, qe_leg, qe_tm1, qe_tgn, has0_o hG.1 h, isGod_o h10 hn h]
    exact ⟨_, _, rfl, rfl, rfl, R⟩
  have hg4 : g < 4 := by omega
  have h06 : (0 : Nat) < 6 := by decide
  rcases len_or b 3 (by decide) with h | ⟨N, hN1, hN3, rfl⟩
  · simp (disch := omega) only [qlt, qb_some, qb_none, ↓qn_1, ↓qn_2, ↓qn_3, ↓qn_4, ↓qn_9, ↓qn_1000, ↓qn_low, qi_0, qi_1, qi_2, qi_3, qi_4, qi_5, qi_6, qi_7, qi_8, qi_9, qi_10, qi_11, qi_12, qi_13, qi_14, qi_15, qi_16, qi_17, qi_20, qi_24, qi_30, qi_31, qi_32, qi_60, qi_99, qi_100, qi_200, qi_1000, qi_3400, qi_4000, qi_of, pu_gI, pu_pI, nI_leI, nI_ltI, nI_eq, nI_add, pk_mul, pk_sub, pk_div, qw_s, qw_o, qw_l, qr_s, qr_o, qr_l, ql_i, ql_s, ql_o, pk_us, pk_un, pk_uLs, pk_uLn, if_pos, if_neg, if_true, if_false, ite_self, eq_self, Nat.zero_add, Nat.add_zero, qwr, not_true_eq_false, not_false_eq_true, Option.some.injEq, qe_gn0, qe_m1n, qe_gng, qe_ngn, qe_gm, qe_mg, qe_lm1, qe_lgn, qe_lem, qe_leg, qe_tm1, qe_tgn, has0_y hG.1 hn hg, isGod_y h10 hn hg, planLen_o h, in7_1 (show 3 < 1000 by decide) h]
    exact ⟨_, _, rfl, rfl, rfl, R⟩
  by_cases hgo : fr T 0 (3 + g) = gN
  · simp (disch := omega) only [qlt, qb_some, qb_none, ↓qn_1, ↓qn_2, ↓qn_3, ↓qn_4, ↓qn_9, ↓qn_1000, ↓qn_low, qi_0, qi_1, qi_2, qi_3, qi_4, qi_5, qi_6, qi_7, qi_8, qi_9, qi_10, qi_11, qi_12, qi_13, qi_14, qi_15, qi_16, qi_17, qi_20, qi_24, qi_30, qi_31, qi_32, qi_60, qi_99, qi_100, qi_200, qi_1000, qi_3400, qi_4000, qi_of, pu_gI, pu_pI, nI_leI, nI_ltI, nI_eq, nI_add, pk_mul, pk_sub, pk_div, qw_s, qw_o, qw_l, qr_s, qr_o, qr_l, ql_i, ql_s, ql_o, pk_us, pk_un, pk_uLs, pk_uLn, if_pos, if_neg, if_true, if_false, ite_self, eq_self, Nat.zero_add, Nat.add_zero, qwr, not_true_eq_false, not_false_eq_true, Option.some.injEq, qe_gn0, qe_m1n, qe_gng, qe_ngn, qe_gm, qe_mg, qe_lm1, qe_lgn, qe_lem, qe_leg, qe_tm1, qe_tgn, has0_y hG.1 hn hg, isGod_y h10 hn hg, planLen_y hN1 hN3, in7_y, gone6 hn hS hg, m7_gone h06 hg4, hgo]
    exact ⟨_, _, rfl, rfl, rfl, R⟩
  · have hN4 : N ≤ 4 := by omega
    obtain ⟨S', s1, s2, s3, s4⟩ := seekAll6 (N := N) (kg := 30 + 1) (ks := 30 + 11) hn hN4 (by omega) (by omega) hG hGI hS hFI h14 he
    obtain ⟨x, l, T', t1, t2, t3, t4⟩ := most7P (Bs_of hn h10 h34 hN1 hN4 hGI hFI h14 he) (Pt_29 T N)
    rw [t1] at s4
    obtain ⟨_, _, s5⟩ := s4
    obtain ⟨m8, _⟩ := s5 x l rfl
    -- the other village
    have hG1 : GodR S' (30 + 1) n (T.1 7) := GodR_tr (S := S) (k := 30 + 1) hn (fun i _ => by rw [s2 _ (by omega)]) (fun i i1 i2 g _ => by rw [s2 _ (by omega)]) hG
    have hSc1 : ScR S' (30 + 11) n (fr T 0) := ScR_tr (S := S) (k := 30 + 11) hn (fun i _ => by rw [s2 _ (by omega)]) (fun i _ => by rw [s2 _ (by omega)]) (fun i _ => by rw [s2 _ (by omega)]) hS
    have hst := start6S (S := S')
    have hTr := TrR_0 (S := S') (A := S'.1 129) (B := S'.1 (129 + 1)) (C := S'.1 (129 + 2)) (D := S'.1 (129 + 3)) hn hSc1
    have hAw := ScR_away hn hg hTr.1
    have hFA := FInv_away (n := n) (g := g) hFI hg4
    have h14A : upd (fr T 0) (3 + g) gN 14 = nI e := by rw [pk_un (by omega)]; exact h14
    have hG2 := GodR_mk4 (S := S') (k := 129) (A := upd (fsA (tA (S'.1 129) (S'.1 (30 + 11)))) 1 (fsA (tA (S'.1 129) (S'.1 (30 + 11))) 1 ||| (nI 1 <<< (nI g &&& nI 31)))) (B := tM 3 (S'.1 (129 + 1)) (S'.1 (30 + 11 + 1))) (C := tM 4 (S'.1 (129 + 2)) (S'.1 (30 + 11 + 2))) (D := S'.1 (129 + 3)) (by omega) hn hG1
    obtain ⟨S2, r1, r2, r3, r4⟩ := seekAll6 (N := N) (kg := 30 + 1) (ks := 129) hn hN4 (by omega) (by omega) hG2 hGI hAw hFA h14A he
    have w7 : (wI T' 10 (15 * 0 + (3 + g)) gN).1 7 = T.1 7 := by rw [qw_o (by decide)]; exact t3.2.2.1 7 (by decide) (by decide) (by decide) (by decide) (by decide)
    have wf : fr (wI T' 10 (15 * 0 + (3 + g)) gN) 0 = upd (fr T 0) (3 + g) gN := by rw [fr_w (by omega), t3.2.2.2.1]
    have hB2 : Bs (wI T' 10 (15 * 0 + (3 + g)) gN) n 4 N e := Bs_of hn (by rw [qw_o (by decide), t3.1 10 (by decide) (by decide) (by decide) (by decide) (by decide) (by decide) (by decide) (by decide)]; exact h10) (by rw [qw_o (by decide), t3.1 34 (by decide) (by decide) (by decide) (by decide) (by decide) (by decide) (by decide) (by decide)]; exact h34) hN1 hN4 (by rw [w7]; exact hGI) (by rw [wf]; exact hFA) (by rw [wf]; exact h14A) he
    obtain ⟨x2, l2, T3, u1, u2, u3, u4⟩ := most7P hB2 (Pt_29 _ N)
    rw [w7, wf] at u1
    rw [u1] at r4
    obtain ⟨_, _, r5⟩ := r4
    obtain ⟨n8, _⟩ := r5 x2 l2 rfl
    have hv : mX7_v T' (nI 0) (nI (3 + g)) = some (fr T 0 (3 + g)) := by rw [m7_v h06 (by omega), t3.2.2.2.1]
    unfold mX6_tell mX7_tells mX3_sendAway
    generalize nI (bst x l).2.1 - nI (bst x l).2.2.1 = z at m8 t2
    generalize nI (bst x2 l2).2.1 - nI (bst x2 l2).2.2.1 = z2 at n8 u2
    simp (disch := omega) only [qlt, qb_some, qb_none, ↓qn_1, ↓qn_2, ↓qn_3, ↓qn_4, ↓qn_9, ↓qn_1000, ↓qn_low, qi_0, qi_1, qi_2, qi_3, qi_4, qi_5, qi_6, qi_7, qi_8, qi_9, qi_10, qi_11, qi_12, qi_13, qi_14, qi_15, qi_16, qi_17, qi_20, qi_24, qi_30, qi_31, qi_32, qi_60, qi_99, qi_100, qi_200, qi_1000, qi_3400, qi_4000, qi_of, pu_gI, pu_pI, nI_leI, nI_ltI, nI_eq, nI_add, pk_mul, pk_div, qw_s, qw_o, qw_l, qr_s, qr_o, qr_l, ql_i, ql_s, ql_o, pk_us, pk_un, pk_uLs, pk_uLn, if_pos, if_neg, if_true, if_false, ite_self, eq_self, Nat.zero_add, Nat.add_zero, qwr, not_true_eq_false, not_false_eq_true, Option.some.injEq, qe_gn0, qe_m1n, qe_gng, qe_ngn, qe_gm, qe_mg, qe_lm1, qe_lgn, qe_lem, qe_leg, qe_tm1, qe_tgn, has0_y hG.1 hn hg, isGod_y h10 hn hg, planLen_y hN1 hN3, in7_y, gone6 hn hS hg, m7_gone h06 hg4, hgo, s1, m8, t2, hst, mk4_0, mk4_w0, r1, n8, hv, m7_place h06, u2]
    refine ⟨_, _, rfl, rfl, rfl, Rel_tell (Rel_scr R (fun c hc => ?_) ?_ ?_ ?_ ?_ ?_ (fun c hc => ?_) ?_ ?_) _⟩
    · rw [r2 c (by omega), mk4_o (by omega)]
      exact s2 c (by omega)
    · rw [r3, mk4_l]; exact s3
    · rw [qw_o (by decide), u3.1 0 (by decide) (by decide) (by decide) (by decide) (by decide) (by decide) (by decide) (by decide), qw_o (by decide)]
      exact t3.1 0 (by decide) (by decide) (by decide) (by decide) (by decide) (by decide) (by decide) (by decide)
    · rw [qw_o (by decide), u3.1 2 (by decide) (by decide) (by decide) (by decide) (by decide) (by decide) (by decide) (by decide), qw_o (by decide)]
      exact t3.1 2 (by decide) (by decide) (by decide) (by decide) (by decide) (by decide) (by decide) (by decide)
    · rw [qw_o (by decide), u3.1 10 (by decide) (by decide) (by decide) (by decide) (by decide) (by decide) (by decide) (by decide), qw_o (by decide)]
      exact t3.1 10 (by decide) (by decide) (by decide) (by decide) (by decide) (by decide) (by decide) (by decide)
    · rw [qw_o (by decide), u3.1 34 (by decide) (by decide) (by decide) (by decide) (by decide) (by decide) (by decide) (by decide), qw_o (by decide)]
      exact t3.1 34 (by decide) (by decide) (by decide) (by decide) (by decide) (by decide) (by decide) (by decide)
    · rw [qw_o (by omega), u3.2.2.1 c (by omega) (by omega) (by omega) (by omega) (by omega), qw_o (by omega)]
      exact t3.2.2.1 c (by omega) (by omega) (by omega) (by omega) (by omega)
    · rw [fr_w (by omega), u3.2.2.2.1, wf, upd_upd]
      exact upd_id _ _
    · rw [qw_l, u3.2.2.2.2, qw_l]
      exact t3.2.2.2.2
/-! altar -/
theorem GodR_food {S : vS} {k n g v : Nat} {G : Nat → Int32} (hG : GodR S k n G) : GodR (wI S (k + 2) g (nI v)) k n (upd G (6 * g + 1) (nI v)) := by
  obtain ⟨a1, a2, a3, a4, a5⟩ := hG
  have eK : ∀ g', gK (upd G (6 * g + 1) (nI v)) g' = gK G g' := fun g' => pk_un (by omega)
  have eP : ∀ g', gP (upd G (6 * g + 1) (nI v)) g' = gP G g' := fun g' => pk_un (by omega)
  have eG : ∀ g', gG (upd G (6 * g + 1) (nI v)) g' = gG G g' := fun g' => pk_un (by omega)
  have eH : ∀ g', gH (upd G (6 * g + 1) (nI v)) g' = gH G g' := fun g' => pk_un (by omega)
  have eA : ∀ g', gA (upd G (6 * g + 1) (nI v)) g' = gA G g' := fun g' => pk_un (by omega)
  have eS : ∀ g', slp (upd G (6 * g + 1) (nI v)) g' = slp G g' := fun g' => by unfold slp; rw [eK]
  have eJ : ∀ g', jel (upd G (6 * g + 1) (nI v)) g' = jel G g' := fun g' => by unfold jel; rw [eK]
  have eT : ∀ g' o, tw (upd G (6 * g + 1) (nI v)) g' o = tw G g' o := fun g' o => by unfold tw; rw [eK, eA, eK, eA]
  unfold GodR
  simp only [eK, eP, eG, eH, eA, eS, eJ, eT]
  simp (disch := omega) only [qlt, qb_some, qb_none, ↓qn_1, ↓qn_2, ↓qn_3, ↓qn_4, ↓qn_9, ↓qn_1000, ↓qn_low, qi_0, qi_1, qi_2, qi_3, qi_4, qi_5, qi_6, qi_7, qi_8, qi_9, qi_10, qi_11, qi_12, qi_13, qi_14, qi_15, qi_16, qi_17, qi_20, qi_24, qi_30, qi_31, qi_32, qi_60, qi_99, qi_100, qi_200, qi_1000, qi_3400, qi_4000, qi_of, pu_gI, pu_pI, nI_leI, nI_ltI, nI_eq, nI_add, pk_mul, pk_sub, pk_div, qw_s, qw_o, qw_l, qr_s, qr_o, qr_l, ql_i, ql_s, ql_o, pk_us, pk_un, pk_uLs, pk_uLn, if_pos, if_neg, if_true, if_false, ite_self, eq_self, Nat.zero_add, Nat.add_zero, qwr, not_true_eq_false, not_false_eq_true, Option.some.injEq, qe_gn0, qe_m1n, qe_gng, qe_ngn, qe_gm, qe_mg, qe_lm1, qe_lgn, qe_lem, qe_leg, qe_tm1, qe_tgn]
  refine ⟨a1, a2, a3, a4, fun g' hg' => ?_⟩
  obtain ⟨b1, b2, b3, b4⟩ := a5 g' hg'
  refine ⟨b1, ?_, b3, b4⟩
  unfold gF
  by_cases h : g' = g
  · subst h; rw [pk_us, pk_us]
  · rw [pk_un h, pk_un (by omega)]
    exact b2
theorem GInv_food {n g v : Nat} {G : Nat → Int32} (hv : v < 3) (hG : GInv n G) : GInv n (upd G (6 * g + 1) (nI v)) := by
  intro g' hg'
  obtain ⟨b1, b2, b3, b4, b5, b6, b7⟩ := hG g' hg'
  have eK : gK (upd G (6 * g + 1) (nI v)) g' = gK G g' := pk_un (by omega)
  have eP : gP (upd G (6 * g + 1) (nI v)) g' = gP G g' := pk_un (by omega)
  have eG : gG (upd G (6 * g + 1) (nI v)) g' = gG G g' := pk_un (by omega)
  have eH : gH (upd G (6 * g + 1) (nI v)) g' = gH G g' := pk_un (by omega)
  have eA : gA (upd G (6 * g + 1) (nI v)) g' = gA G g' := pk_un (by omega)
  rw [eK, eP, eG, eH, eA]
  refine ⟨b1, ?_, b3, b4, b5, b6, b7⟩
  by_cases h : g' = g
  · subst h
    exact ⟨v, hv, pk_us⟩
  · obtain ⟨q, q1, q2⟩ := b2
    exact ⟨q, q1, by unfold gF; rw [pk_un (by omega)]; exact q2⟩
theorem st_altar : St_altar Rel := by
  intro S T a b c d R
  obtain ⟨n, hn, h10, h34, hGI, hV, hK⟩ := R.2.2.2.2
  obtain ⟨hG, hS, hg1, hh1, hFI, e, he, h14, hH, hD⟩ := id hV
  unfold mX6_altar mX7_altar
  rcases oR_or a (N := n) (by omega) with h | ⟨g, hg, rfl⟩
  · simp (disch := omega) only [qlt, qb_some, qb_none, ↓qn_1, ↓qn_2, ↓qn_3, ↓qn_4, ↓qn_9, ↓qn_1000, ↓qn_low, qi_0, qi_1, qi_2, qi_3, qi_4, qi_5, qi_6, qi_7, qi_8, qi_9, qi_10, qi_11, qi_12, qi_13, qi_14, qi_15, qi_16, qi_17, qi_20, qi_24, qi_30, qi_31, qi_32, qi_60, qi_99, qi_100, qi_200, qi_1000, qi_3400, qi_4000, qi_of, pu_gI, pu_pI, nI_leI, nI_ltI, nI_eq, nI_add, pk_mul, pk_sub, pk_div, qw_s, qw_o, qw_l, qr_s, qr_o, qr_l, ql_i, ql_s, ql_o, pk_us, pk_un, pk_uLs, pk_uLn, if_pos, if_neg, if_true, if_false, ite_self, eq_self, Nat.zero_add, Nat.add_zero, qwr, not_true_eq_false, not_false_eq_true, Option.some.injEq, qe_gn0, qe_m1n, qe_gng, qe_ngn, qe_gm, qe_mg, qe_lm1, qe_lgn, qe_lem, qe_leg, qe_tm1, qe_tgn, has0_o hG.1 h, isGod_o h10 hn h]
    exact ⟨_, _, rfl, rfl, rfl, R⟩
  have hg4 : g < 4 := by omega
  have h06 : (0 : Nat) < 6 := by decide
  have food_o : ∀ x, oR x 3 → mX6_isFood x = nI 0 := by
    intro x h
    unfold mX6_isFood bX6_isFood_13
    rcases h with h | h
    · simp (disch := omega) only [qlt, qb_some, qb_none, ↓qn_1, ↓qn_2, ↓qn_3, ↓qn_4, ↓qn_9, ↓qn_1000, ↓qn_low, qi_0, qi_1, qi_2, qi_3, qi_4, qi_5, qi_6, qi_7, qi_8, qi_9, qi_10, qi_11, qi_12, qi_13, qi_14, qi_15, qi_16, qi_17, qi_20, qi_24, qi_30, qi_31, qi_32, qi_60, qi_99, qi_100, qi_200, qi_1000, qi_3400, qi_4000, qi_of, pu_gI, pu_pI, nI_leI, nI_ltI, nI_eq, nI_add, pk_mul, pk_sub, pk_div, qw_s, qw_o, qw_l, qr_s, qr_o, qr_l, ql_i, ql_s, ql_o, pk_us, pk_un, pk_uLs, pk_uLn, if_pos, if_neg, if_true, if_false, ite_self, eq_self, Nat.zero_add, Nat.add_zero, qwr, not_true_eq_false, not_false_eq_true, Option.some.injEq, qe_gn0, qe_m1n, qe_gng, qe_ngn, qe_gm, qe_mg, qe_lm1, qe_lgn, qe_lem, qe_leg, qe_tm1, qe_tgn, sg_leT h, sg_geF h, sg_ltT h, sg_gtF h, sg_eqF h, sg_eqF2 h]
    · simp (disch := omega) only [qlt, qb_some, qb_none, ↓qn_1, ↓qn_2, ↓qn_3, ↓qn_4, ↓qn_9, ↓qn_1000, ↓qn_low, qi_0, qi_1, qi_2, qi_3, qi_4, qi_5, qi_6, qi_7, qi_8, qi_9, qi_10, qi_11, qi_12, qi_13, qi_14, qi_15, qi_16, qi_17, qi_20, qi_24, qi_30, qi_31, qi_32, qi_60, qi_99, qi_100, qi_200, qi_1000, qi_3400, qi_4000, qi_of, pu_gI, pu_pI, nI_leI, nI_ltI, nI_eq, nI_add, pk_mul, pk_sub, pk_div, qw_s, qw_o, qw_l, qr_s, qr_o, qr_l, ql_i, ql_s, ql_o, pk_us, pk_un, pk_uLs, pk_uLn, if_pos, if_neg, if_true, if_false, ite_self, eq_self, Nat.zero_add, Nat.add_zero, qwr, not_true_eq_false, not_false_eq_true, Option.some.injEq, qe_gn0, qe_m1n, qe_gng, qe_ngn, qe_gm, qe_mg, qe_lm1, qe_lgn, qe_lem, qe_leg, qe_tm1, qe_tgn, bg_leF h, bg_ltT h, bg_geT h, bg_ltF h, bg_eqF h, bg_eqF2 h]
  have food_y : ∀ f, f < 3 → mX6_isFood (nI f) = nI 1 := by
    intro f hf
    unfold mX6_isFood bX6_isFood_13
    simp (disch := omega) only [qlt, qb_some, qb_none, ↓qn_1, ↓qn_2, ↓qn_3, ↓qn_4, ↓qn_9, ↓qn_1000, ↓qn_low, qi_0, qi_1, qi_2, qi_3, qi_4, qi_5, qi_6, qi_7, qi_8, qi_9, qi_10, qi_11, qi_12, qi_13, qi_14, qi_15, qi_16, qi_17, qi_20, qi_24, qi_30, qi_31, qi_32, qi_60, qi_99, qi_100, qi_200, qi_1000, qi_3400, qi_4000, qi_of, pu_gI, pu_pI, nI_leI, nI_ltI, nI_eq, nI_add, pk_mul, pk_sub, pk_div, qw_s, qw_o, qw_l, qr_s, qr_o, qr_l, ql_i, ql_s, ql_o, pk_us, pk_un, pk_uLs, pk_uLn, if_pos, if_neg, if_true, if_false, ite_self, eq_self, Nat.zero_add, Nat.add_zero, qwr, not_true_eq_false, not_false_eq_true, Option.some.injEq, qe_gn0, qe_m1n, qe_gng, qe_ngn, qe_gm, qe_mg, qe_lm1, qe_lgn, qe_lem, qe_leg, qe_tm1, qe_tgn]
  have pat_o : ∀ x, (x < nI 1 ∨ nI 7 ≤ x) → mX6_isPatience x = nI 0 := by
    intro x h
    unfold mX6_isPatience bX6_isPatience_15
    rcases h with h | h
    · simp only [qi_1, qi_0, if_pos h]
    · simp (disch := omega) only [qlt, qb_some, qb_none, ↓qn_1, ↓qn_2, ↓qn_3, ↓qn_4, ↓qn_9, ↓qn_1000, ↓qn_low, qi_0, qi_1, qi_2, qi_3, qi_4, qi_5, qi_6, qi_7, qi_8, qi_9, qi_10, qi_11, qi_12, qi_13, qi_14, qi_15, qi_16, qi_17, qi_20, qi_24, qi_30, qi_31, qi_32, qi_60, qi_99, qi_100, qi_200, qi_1000, qi_3400, qi_4000, qi_of, pu_gI, pu_pI, nI_leI, nI_ltI, nI_eq, nI_add, pk_mul, pk_sub, pk_div, qw_s, qw_o, qw_l, qr_s, qr_o, qr_l, ql_i, ql_s, ql_o, pk_us, pk_un, pk_uLs, pk_uLn, if_pos, if_neg, if_true, if_false, ite_self, eq_self, Nat.zero_add, Nat.add_zero, qwr, not_true_eq_false, not_false_eq_true, Option.some.injEq, qe_gn0, qe_m1n, qe_gng, qe_ngn, qe_gm, qe_mg, qe_lm1, qe_lgn, qe_lem, qe_leg, qe_tm1, qe_tgn, bg_leF h, bg_ltT h, bg_geT h, bg_ltF h, bg_eqF h, bg_eqF2 h]
  have pat_y : ∀ p, 1 ≤ p → p ≤ 6 → mX6_isPatience (nI p) = nI 1 := by
    intro p h1 h2
    unfold mX6_isPatience bX6_isPatience_15
    simp (disch := omega) only [qlt, qb_some, qb_none, ↓qn_1, ↓qn_2, ↓qn_3, ↓qn_4, ↓qn_9, ↓qn_1000, ↓qn_low, qi_0, qi_1, qi_2, qi_3, qi_4, qi_5, qi_6, qi_7, qi_8, qi_9, qi_10, qi_11, qi_12, qi_13, qi_14, qi_15, qi_16, qi_17, qi_20, qi_24, qi_30, qi_31, qi_32, qi_60, qi_99, qi_100, qi_200, qi_1000, qi_3400, qi_4000, qi_of, pu_gI, pu_pI, nI_leI, nI_ltI, nI_eq, nI_add, pk_mul, pk_sub, pk_div, qw_s, qw_o, qw_l, qr_s, qr_o, qr_l, ql_i, ql_s, ql_o, pk_us, pk_un, pk_uLs, pk_uLn, if_pos, if_neg, if_true, if_false, ite_self, eq_self, Nat.zero_add, Nat.add_zero, qwr, not_true_eq_false, not_false_eq_true, Option.some.injEq, qe_gn0, qe_m1n, qe_gng, qe_ngn, qe_gm, qe_mg, qe_lm1, qe_lgn, qe_lem, qe_leg, qe_tm1, qe_tgn]
  rcases oR_or b (N := 3) (by decide) with h | ⟨f, hf, rfl⟩
  · simp (disch := omega) only [qlt, qb_some, qb_none, ↓qn_1, ↓qn_2, ↓qn_3, ↓qn_4, ↓qn_9, ↓qn_1000, ↓qn_low, qi_0, qi_1, qi_2, qi_3, qi_4, qi_5, qi_6, qi_7, qi_8, qi_9, qi_10, qi_11, qi_12, qi_13, qi_14, qi_15, qi_16, qi_17, qi_20, qi_24, qi_30, qi_31, qi_32, qi_60, qi_99, qi_100, qi_200, qi_1000, qi_3400, qi_4000, qi_of, pu_gI, pu_pI, nI_leI, nI_ltI, nI_eq, nI_add, pk_mul, pk_sub, pk_div, qw_s, qw_o, qw_l, qr_s, qr_o, qr_l, ql_i, ql_s, ql_o, pk_us, pk_un, pk_uLs, pk_uLn, if_pos, if_neg, if_true, if_false, ite_self, eq_self, Nat.zero_add, Nat.add_zero, qwr, not_true_eq_false, not_false_eq_true, Option.some.injEq, qe_gn0, qe_m1n, qe_gng, qe_ngn, qe_gm, qe_mg, qe_lm1, qe_lgn, qe_lem, qe_leg, qe_tm1, qe_tgn, has0_y hG.1 hn hg, isGod_y h10 hn hg, food_o _ h, oR_in7 (by decide) h]
    exact ⟨_, _, rfl, rfl, rfl, R⟩
  have fy := food_y f hf
  rcases len_or c 6 (by decide) with h | ⟨p, hp1, hp6, rfl⟩
  · simp (disch := omega) only [qlt, qb_some, qb_none, ↓qn_1, ↓qn_2, ↓qn_3, ↓qn_4, ↓qn_9, ↓qn_1000, ↓qn_low, qi_0, qi_1, qi_2, qi_3, qi_4, qi_5, qi_6, qi_7, qi_8, qi_9, qi_10, qi_11, qi_12, qi_13, qi_14, qi_15, qi_16, qi_17, qi_20, qi_24, qi_30, qi_31, qi_32, qi_60, qi_99, qi_100, qi_200, qi_1000, qi_3400, qi_4000, qi_of, pu_gI, pu_pI, nI_leI, nI_ltI, nI_eq, nI_add, pk_mul, pk_sub, pk_div, qw_s, qw_o, qw_l, qr_s, qr_o, qr_l, ql_i, ql_s, ql_o, pk_us, pk_un, pk_uLs, pk_uLn, if_pos, if_neg, if_true, if_false, ite_self, eq_self, Nat.zero_add, Nat.add_zero, qwr, not_true_eq_false, not_false_eq_true, Option.some.injEq, qe_gn0, qe_m1n, qe_gng, qe_ngn, qe_gm, qe_mg, qe_lm1, qe_lgn, qe_lem, qe_leg, qe_tm1, qe_tgn, has0_y hG.1 hn hg, isGod_y h10 hn hg, fy, in7_y, pat_o _ h, in7_1 (show 6 < 1000 by decide) h]
    exact ⟨_, _, rfl, rfl, rfl, R⟩
  have py := pat_y p hp1 hp6
  rcases len_or d 3 (by decide) with h | ⟨N, hN1, hN3, rfl⟩
  · simp (disch := omega) only [qlt, qb_some, qb_none, ↓qn_1, ↓qn_2, ↓qn_3, ↓qn_4, ↓qn_9, ↓qn_1000, ↓qn_low, qi_0, qi_1, qi_2, qi_3, qi_4, qi_5, qi_6, qi_7, qi_8, qi_9, qi_10, qi_11, qi_12, qi_13, qi_14, qi_15, qi_16, qi_17, qi_20, qi_24, qi_30, qi_31, qi_32, qi_60, qi_99, qi_100, qi_200, qi_1000, qi_3400, qi_4000, qi_of, pu_gI, pu_pI, nI_leI, nI_ltI, nI_eq, nI_add, pk_mul, pk_sub, pk_div, qw_s, qw_o, qw_l, qr_s, qr_o, qr_l, ql_i, ql_s, ql_o, pk_us, pk_un, pk_uLs, pk_uLn, if_pos, if_neg, if_true, if_false, ite_self, eq_self, Nat.zero_add, Nat.add_zero, qwr, not_true_eq_false, not_false_eq_true, Option.some.injEq, qe_gn0, qe_m1n, qe_gng, qe_ngn, qe_gm, qe_mg, qe_lm1, qe_lgn, qe_lem, qe_leg, qe_tm1, qe_tgn, has0_y hG.1 hn hg, isGod_y h10 hn hg, fy, py, in7_y, planLen_o h, in7_1 (show 3 < 1000 by decide) h]
    exact ⟨_, _, rfl, rfl, rfl, R⟩
  by_cases hgo : fr T 0 (3 + g) = gN
  · simp (disch := omega) only [qlt, qb_some, qb_none, ↓qn_1, ↓qn_2, ↓qn_3, ↓qn_4, ↓qn_9, ↓qn_1000, ↓qn_low, qi_0, qi_1, qi_2, qi_3, qi_4, qi_5, qi_6, qi_7, qi_8, qi_9, qi_10, qi_11, qi_12, qi_13, qi_14, qi_15, qi_16, qi_17, qi_20, qi_24, qi_30, qi_31, qi_32, qi_60, qi_99, qi_100, qi_200, qi_1000, qi_3400, qi_4000, qi_of, pu_gI, pu_pI, nI_leI, nI_ltI, nI_eq, nI_add, pk_mul, pk_sub, pk_div, qw_s, qw_o, qw_l, qr_s, qr_o, qr_l, ql_i, ql_s, ql_o, pk_us, pk_un, pk_uLs, pk_uLn, if_pos, if_neg, if_true, if_false, ite_self, eq_self, Nat.zero_add, Nat.add_zero, qwr, not_true_eq_false, not_false_eq_true, Option.some.injEq, qe_gn0, qe_m1n, qe_gng, qe_ngn, qe_gm, qe_mg, qe_lm1, qe_lgn, qe_lem, qe_leg, qe_tm1, qe_tgn, has0_y hG.1 hn hg, isGod_y h10 hn hg, fy, py, planLen_y hN1 hN3, in7_y, gone6 hn hS hg, m7_gone h06 hg4, hgo]
    exact ⟨_, _, rfl, rfl, rfl, R⟩
  · have hN4 : N ≤ 4 := by omega
    obtain ⟨S1, k1, k2, k3, k4, k5⟩ := take0 (S := S) (k := 119) (k1 := 30 + 1) (by omega)
    have hG1 : GodR S1 119 n (T.1 7) := GodR_tr hn k2 k3 hG
    have hG2 : GodR (wI (wI S1 (119 + 2) g (nI f)) (119 + 3) g (nI p)) 119 n (upd (upd (T.1 7) (6 * g + 1) (nI f)) (6 * g + 2) (nI p)) := GodR_pat (GodR_food hG1)
    have hGI2 : GInv n (upd (upd (T.1 7) (6 * g + 1) (nI f)) (6 * g + 2) (nI p)) := GInv_pat hp1 hp6 (GInv_food hf hGI)
    have kS : ∀ c, (c < 119 ∨ 128 < c) → (wI (wI S1 (119 + 2) g (nI f)) (119 + 3) g (nI p)).1 c = S.1 c := fun c hc => by rw [qw_o (by omega), qw_o (by omega)]; exact k4 c hc
    have hSc : ScR (wI (wI S1 (119 + 2) g (nI f)) (119 + 3) g (nI p)) (30 + 11) n (fr T 0) := ScR_tr (S := S) (k := 30 + 11) hn (fun i _ => by rw [kS _ (by omega)]) (fun i _ => by rw [kS _ (by omega)]) (fun i _ => by rw [kS _ (by omega)]) hS
    obtain ⟨S', s1, s2, s3, s4⟩ := seekAll6 (N := N) (kg := 119) (ks := 30 + 11) hn hN4 (by omega) (by omega) hG2 hGI2 hSc hFI h14 he
    have w7 : (wI (wI T 7 (6 * g + 1) (nI f)) 7 (6 * g + 2) (nI p)).1 7 = upd (upd (T.1 7) (6 * g + 1) (nI f)) (6 * g + 2) (nI p) := by rw [qw_s, qw_s]
    have wf : fr (wI (wI T 7 (6 * g + 1) (nI f)) 7 (6 * g + 2) (nI p)) 0 = fr T 0 := fr_eq (by rw [qw_o (by decide), qw_o (by decide)])
    have hB : Bs (wI (wI T 7 (6 * g + 1) (nI f)) 7 (6 * g + 2) (nI p)) n 4 N e := Bs_of hn (by rw [qw_o (by decide), qw_o (by decide)]; exact h10) (by rw [qw_o (by decide), qw_o (by decide)]; exact h34) hN1 hN4 (by rw [w7]; exact hGI2) (by rw [wf]; exact hFI) (by rw [wf]; exact h14) he
    obtain ⟨x, l, T', t1, t2, t3, t4⟩ := most7P hB (Pt_29 _ N)
    rw [w7, wf] at t1
    rw [t1] at s4
    obtain ⟨_, _, s5⟩ := s4
    obtain ⟨m8, _⟩ := s5 x l rfl
    unfold mX6_tell mX7_tells
    generalize nI (bst x l).2.1 - nI (bst x l).2.2.1 = z at m8 t2
    simp (disch := omega) only [qlt, qb_some, qb_none, ↓qn_1, ↓qn_2, ↓qn_3, ↓qn_4, ↓qn_9, ↓qn_1000, ↓qn_low, qi_0, qi_1, qi_2, qi_3, qi_4, qi_5, qi_6, qi_7, qi_8, qi_9, qi_10, qi_11, qi_12, qi_13, qi_14, qi_15, qi_16, qi_17, qi_20, qi_24, qi_30, qi_31, qi_32, qi_60, qi_99, qi_100, qi_200, qi_1000, qi_3400, qi_4000, qi_of, pu_gI, pu_pI, nI_leI, nI_ltI, nI_eq, nI_add, pk_mul, pk_div, qw_s, qw_o, qw_l, qr_s, qr_o, qr_l, ql_i, ql_s, ql_o, pk_us, pk_un, pk_uLs, pk_uLn, if_pos, if_neg, if_true, if_false, ite_self, eq_self, Nat.zero_add, Nat.add_zero, qwr, not_true_eq_false, not_false_eq_true, Option.some.injEq, qe_gn0, qe_m1n, qe_gng, qe_ngn, qe_gm, qe_mg, qe_lm1, qe_lgn, qe_lem, qe_leg, qe_tm1, qe_tgn, has0_y hG.1 hn hg, isGod_y h10 hn hg, fy, py, planLen_y hN1 hN3, in7_y, gone6 hn hS hg, m7_gone h06 hg4, hgo, k1, s1, m8, m7_pat hg4, t2]
    have v7 : T'.1 7 = upd (upd (T.1 7) (6 * g + 1) (nI f)) (6 * g + 2) (nI p) := by rw [t3.2.2.1 7 (by decide) (by decide) (by decide) (by decide) (by decide), w7]
    have o : ∀ q, q ≠ 20 → q ≠ 21 → q ≠ 22 → q ≠ 29 → q ≠ 30 → q ≠ 31 → q ≠ 32 → q ≠ 33 → T'.1 0 q = T.1 0 q := fun q q1 q2 q3 q4 q5 q6 q7 q8 => by rw [t3.1 q q1 q2 q3 q4 q5 q6 q7 q8, qw_o (by decide), qw_o (by decide)]
    refine ⟨_, _, rfl, rfl, rfl, Rel_tell (Rel_scr R (fun c hc => ?_) ?_ ?_ ?_ ?_ ?_ (fun c hc => ?_) ?_ ?_) _⟩
    · rw [s2 c (by omega)]
      exact kS c (by omega)
    · rw [s3, qw_l, qw_l]; exact k5
    · rw [qw_o (by decide), qw_o (by decide)]
      exact o 0 (by decide) (by decide) (by decide) (by decide) (by decide) (by decide) (by decide) (by decide)
    · rw [qw_o (by decide), qw_o (by decide)]
      exact o 2 (by decide) (by decide) (by decide) (by decide) (by decide) (by decide) (by decide) (by decide)
    · rw [qw_o (by decide), qw_o (by decide)]
      exact o 10 (by decide) (by decide) (by decide) (by decide) (by decide) (by decide) (by decide) (by decide)
    · rw [qw_o (by decide), qw_o (by decide)]
      exact o 34 (by decide) (by decide) (by decide) (by decide) (by decide) (by decide) (by decide) (by decide)
    · by_cases h7 : c = 7
      · subst h7
        rw [qw_s, qw_s, v7]
        funext i
        unfold upd gP
        by_cases i2 : i = 6 * g + 2
        · rw [if_pos i2, i2]
        · by_cases i1 : i = 6 * g + 1
          · rw [if_neg i2, if_pos i1, i1]
          · rw [if_neg i2, if_neg i1, if_neg i2, if_neg i1]
      · rw [qw_o h7, qw_o h7, t3.2.2.1 c (by omega) (by omega) (by omega) (by omega) (by omega), qw_o h7, qw_o h7]
    · rw [fr_eq (T := T') (by rw [qw_o (by decide), qw_o (by decide)]), t3.2.2.2.1, wf]
    · rw [qw_l, qw_l, t3.2.2.2.2, qw_l, qw_l]
