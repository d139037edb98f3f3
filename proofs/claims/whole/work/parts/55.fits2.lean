/-! ===== PURE: fits, whose ===== -/
theorem i32_or0 (a : Int32) : a ||| nI 0 = a := by rw [nI_0]; simp
theorem or_p : ∀ x, x < 128 → ∀ p, p < 7 → nI x ||| (nI 1 <<< (nI p &&& nI 31)) = nI (x ||| 2 ^ p) ∧ (x ||| 2 ^ p) < 128 := by decide +kernel
theorem and_p : ∀ x, x < 128 → ∀ p, p < 7 → nI x &&& ((nI 1 <<< (nI p &&& nI 31)) ^^^ m1) = nI (x - (x &&& 2 ^ p)) ∧ (x - (x &&& 2 ^ p)) < 128 := by decide +kernel
theorem GInv_pat2 {n g v : Nat} {G G0 : Nat → Int32} (hG0 : GInv n G0) (hu : ∀ x, upd G (6 * g + 2) x = upd G0 (6 * g + 2) x) (hv : 1 ≤ v) (hv6 : v ≤ 6) : GInv n (upd G (6 * g + 2) (nI v)) := by
  rw [hu]
  exact GInv_pat hv hv6 hG0
theorem fit_l {S0 T0 : vS} {n g r w m e : Nat} {was : Int32} (hn : n ≤ 4) (h10 : T0.1 0 10 = nI n) (hGI : GInv n (T0.1 7)) (hg : g < n) (hS0 : ScR S0 (30 + 11) n (fr T0 0)) (hFI : FInv n (fr T0 0)) (h14 : fr T0 0 14 = nI e) (he : e ≤ 200)
    (hr : r < 6) (hw : w < 6) (hr6 : S0.1 (1 + 2 + 6) r = nI m) (hr7 : T0.1 2 r = nI m) (hw6 : S0.1 (1 + 2 + 6) w = nI m) (hm : m ≤ 30) (hrow : ∀ i, i < m → S0.1 (1 + 2 + r) i = T0.1 3 (60 * r + i)) (hwor : ∀ i, i < m → S0.1 (1 + 2 + w) i = T0.1 3 (60 * w + i)) (hv : ∀ i, i < m → vld n (T0.1 3 (60 * r + i))) :
    ∀ q p S T x, 1 ≤ p → p ≤ 7 → 7 - p < q → x < 128 → Sc0 S0 T0 S T → GodR S 119 n (T.1 7) → (∀ y, upd (T.1 7) (6 * g + 2) y = upd (T0.1 7) (6 * g + 2) y) →
    ∃ (y : Nat) (S' T' : vS), y < 128 ∧ lX6_fittingPatiences_20 (nI g) (nI r) (nI w) q S (nI x) (nI p) = some (nI y, S') ∧ lX7_fitting_13 (nI g) (nI r) (nI w) was q T (nI x) (nI p) = some (nI y, T') ∧ Sc0 S0 T0 S' T' ∧ T'.1 7 = upd (T0.1 7) (6 * g + 2) was := by
  intro q
  induction q with
  | zero => intro p S T x h0 h1 h2; omega
  | succ q ih =>
    intro p S T x h0 h1 h2 hx hZ hG hu
    rw [lX6_fittingPatiences_20, lX7_fitting_13]
    have hg4 : g < 4 := by omega
    by_cases hp : p = 7
    · subst hp
      unfold bX7_fitting_127
      simp (disch := omega) only [qlt, qb_some, qb_none, ↓qn_1, ↓qn_2, ↓qn_3, ↓qn_4, ↓qn_9, ↓qn_1000, ↓qn_low, qi_0, qi_1, qi_2, qi_3, qi_4, qi_5, qi_6, qi_7, qi_8, qi_9, qi_10, qi_11, qi_12, qi_13, qi_14, qi_15, qi_16, qi_17, qi_20, qi_24, qi_30, qi_31, qi_32, qi_60, qi_99, qi_100, qi_200, qi_1000, qi_3400, qi_4000, qi_of, pu_gI, pu_pI, nI_leI, nI_ltI, nI_eq, nI_add, pk_mul, pk_sub, pk_div, qw_s, qw_o, qw_l, qr_s, qr_o, qr_l, ql_i, ql_s, ql_o, pk_us, pk_un, pk_uLs, pk_uLn, if_pos, if_neg, if_true, if_false, ite_self, eq_self, Nat.zero_add, Nat.add_zero, qwr, not_true_eq_false, not_false_eq_true, Option.some.injEq, qe_gn0, qe_m1n, qe_gng, qe_ngn, qe_gm, qe_mg, qe_lm1, qe_lgn, qe_lem, qe_leg, qe_tm1, qe_tgn]
      refine ⟨x, _, _, hx, rfl, rfl, ?_, ?_⟩
      · obtain ⟨a1, a2, a3, a4, a5, a6⟩ := hZ
        exact ⟨a1, a2, a3, fun c hc => by rw [qw_o (by omega)]; exact a4 c hc, by rw [fr_eq (T := T) (qw_o (by decide))]; exact a5, a6⟩
      · rw [qw_s]; exact hu was
    · have hp6 : p ≤ 6 := by omega
      have hZ2 : Sc0 S0 T0 (wI S (119 + 3) g (nI p)) (wI T 7 (6 * g + 2) (nI p)) := Sc0_pat hZ
      have hG2 : GodR (wI S (119 + 3) g (nI p)) 119 n (upd (T.1 7) (6 * g + 2) (nI p)) := GodR_pat hG
      have hGI2 : GInv n (upd (T.1 7) (6 * g + 2) (nI p)) := GInv_pat2 hGI hu (by omega) hp6
      obtain ⟨z1, z2, z3, z4, z5, z6⟩ := id hZ2
      have h06 : (0 : Nat) < 6 := by decide
      have h16 : (1 : Nat) < 6 := by decide
      have hSc : ScR (wI S (119 + 3) g (nI p)) (30 + 11) n (fr T0 0) := ScR_tr (S := S0) (k := 30 + 11) hn (fun j _ => by rw [z1 _ (by omega)]) (fun j _ => by rw [z1 _ (by omega)]) (fun j _ => by rw [z1 _ (by omega)]) hS0
      obtain ⟨b, S', T', hb, e1, e2, e3, e4, e5⟩ := book_l (S := wI S (119 + 3) g (nI p)) (T := wI T 7 (6 * g + 2) (nI p)) (S0 := S0) (T0 := T0) (n := n) (r := r) (w := w) (m := m) (K13 := lX7_fitting_13 (nI g) (nI r) (nI w) was q) (v1 := nI g) (v4 := was) (v5 := nI x) (v6 := nI p) hZ2 hn (by rw [z3 10 (by decide) (by decide) (by decide)]; exact h10) hG2 (qw_s _ _ _ _) hGI2 hr hw (by rw [z1 _ (by omega)]; exact hr6) (by rw [z4 2 (by omega)]; exact hr7) (by rw [z1 _ (by omega)]; exact hw6) hm
        (fun i hi => by rw [z1 _ (by omega), z4 3 (by omega)]; exact hrow i hi) (fun i hi => by rw [z1 _ (by omega), z4 3 (by omega)]; exact hwor i hi) (fun i hi => by rw [z4 3 (by omega)]; exact hv i hi)
        FU FU 0 _ _ _ _ ((wI T 7 (6 * g + 2) (nI p)).1 0) ((wI T 7 (6 * g + 2) (nI p)).1 11) (fr T0 0) e (Nat.zero_le m) (by unfold FU; omega) (by unfold FU; omega) (ScR_fs (ScR_take (A := (wI S (119 + 3) g (nI p)).1 129) (B := (wI S (119 + 3) g (nI p)).1 (129 + 1)) (C := (wI S (119 + 3) g (nI p)).1 (129 + 2)) (D := (wI S (119 + 3) g (nI p)).1 (129 + 3)) hn hSc)) hFI (cut_frT T0 0) h14 (by omega) (okO_id _)
      rw [← z5] at e2
      have hcv := copyV7T (T := wI T 7 (6 * g + 2) (nI p)) h06 h16 (show (0 : Nat) ≠ 1 by decide)
      have hst := start6S (S := wI S (119 + 3) g (nI p))
      simp (disch := omega) only [qw_o] at e1
      unfold mX6_bookFitsOthers
      have hu2 : ∀ y, upd (T'.1 7) (6 * g + 2) y = upd (T0.1 7) (6 * g + 2) y := fun y => by rw [e5, upd_upd]; exact hu y
      have hG3 : GodR S' 119 n (T'.1 7) := by rw [e5]; exact e4
      have hb2 : b = 0 ∨ b = 1 := by omega
      obtain ⟨o1, o2⟩ := or_p x hx p (by omega)
      rcases hb2 with rfl | rfl
      · have go := ih (p + 1) S' T' x (by omega) (by omega) (by omega) hx e3 hG3 hu2
        unfold bX7_fitting_103 bX7_fitting_118 at e2
        simp (disch := omega) only [qlt, qb_some, qb_none, ↓qn_1, ↓qn_2, ↓qn_3, ↓qn_4, ↓qn_9, ↓qn_1000, ↓qn_low, qi_0, qi_1, qi_2, qi_3, qi_4, qi_5, qi_6, qi_7, qi_8, qi_9, qi_10, qi_11, qi_12, qi_13, qi_14, qi_15, qi_16, qi_17, qi_20, qi_24, qi_30, qi_31, qi_32, qi_60, qi_99, qi_100, qi_200, qi_1000, qi_3400, qi_4000, qi_of, pu_gI, pu_pI, nI_leI, nI_ltI, nI_eq, nI_add, pk_mul, pk_sub, pk_div, qw_s, qw_o, qw_l, qr_s, qr_o, qr_l, ql_i, ql_s, ql_o, pk_us, pk_un, pk_uLs, pk_uLn, if_pos, if_neg, if_true, if_false, ite_self, eq_self, Nat.zero_add, Nat.add_zero, qwr, not_true_eq_false, not_false_eq_true, Option.some.injEq, qe_gn0, qe_m1n, qe_gng, qe_ngn, qe_gm, qe_mg, qe_lm1, qe_lgn, qe_lem, qe_leg, qe_tm1, qe_tgn, i32_or0] at e2
        simp (disch := omega) only [qlt, qb_some, qb_none, ↓qn_1, ↓qn_2, ↓qn_3, ↓qn_4, ↓qn_9, ↓qn_1000, ↓qn_low, qi_0, qi_1, qi_2, qi_3, qi_4, qi_5, qi_6, qi_7, qi_8, qi_9, qi_10, qi_11, qi_12, qi_13, qi_14, qi_15, qi_16, qi_17, qi_20, qi_24, qi_30, qi_31, qi_32, qi_60, qi_99, qi_100, qi_200, qi_1000, qi_3400, qi_4000, qi_of, pu_gI, pu_pI, nI_leI, nI_ltI, nI_eq, nI_add, pk_mul, pk_sub, pk_div, qw_s, qw_o, qw_l, qr_s, qr_o, qr_l, ql_i, ql_s, ql_o, pk_us, pk_un, pk_uLs, pk_uLn, if_pos, if_neg, if_true, if_false, ite_self, eq_self, Nat.zero_add, Nat.add_zero, qwr, not_true_eq_false, not_false_eq_true, Option.some.injEq, qe_gn0, qe_m1n, qe_gng, qe_ngn, qe_gm, qe_mg, qe_lm1, qe_lgn, qe_lem, qe_leg, qe_tm1, qe_tgn, hst, hcv, e1, e2]
        exact go
      · have go := ih (p + 1) S' T' (x ||| 2 ^ p) (by omega) (by omega) (by omega) o2 e3 hG3 hu2
        unfold bX7_fitting_103 bX7_fitting_118 at e2
        simp (disch := omega) only [qlt, qb_some, qb_none, ↓qn_1, ↓qn_2, ↓qn_3, ↓qn_4, ↓qn_9, ↓qn_1000, ↓qn_low, qi_0, qi_1, qi_2, qi_3, qi_4, qi_5, qi_6, qi_7, qi_8, qi_9, qi_10, qi_11, qi_12, qi_13, qi_14, qi_15, qi_16, qi_17, qi_20, qi_24, qi_30, qi_31, qi_32, qi_60, qi_99, qi_100, qi_200, qi_1000, qi_3400, qi_4000, qi_of, pu_gI, pu_pI, nI_leI, nI_ltI, nI_eq, nI_add, pk_mul, pk_sub, pk_div, qw_s, qw_o, qw_l, qr_s, qr_o, qr_l, ql_i, ql_s, ql_o, pk_us, pk_un, pk_uLs, pk_uLn, if_pos, if_neg, if_true, if_false, ite_self, eq_self, Nat.zero_add, Nat.add_zero, qwr, not_true_eq_false, not_false_eq_true, Option.some.injEq, qe_gn0, qe_m1n, qe_gng, qe_ngn, qe_gm, qe_mg, qe_lm1, qe_lgn, qe_lem, qe_leg, qe_tm1, qe_tgn, o1] at e2
        simp (disch := omega) only [qlt, qb_some, qb_none, ↓qn_1, ↓qn_2, ↓qn_3, ↓qn_4, ↓qn_9, ↓qn_1000, ↓qn_low, qi_0, qi_1, qi_2, qi_3, qi_4, qi_5, qi_6, qi_7, qi_8, qi_9, qi_10, qi_11, qi_12, qi_13, qi_14, qi_15, qi_16, qi_17, qi_20, qi_24, qi_30, qi_31, qi_32, qi_60, qi_99, qi_100, qi_200, qi_1000, qi_3400, qi_4000, qi_of, pu_gI, pu_pI, nI_leI, nI_ltI, nI_eq, nI_add, pk_mul, pk_sub, pk_div, qw_s, qw_o, qw_l, qr_s, qr_o, qr_l, ql_i, ql_s, ql_o, pk_us, pk_un, pk_uLs, pk_uLn, if_pos, if_neg, if_true, if_false, ite_self, eq_self, Nat.zero_add, Nat.add_zero, qwr, not_true_eq_false, not_false_eq_true, Option.some.injEq, qe_gn0, qe_m1n, qe_gng, qe_ngn, qe_gm, qe_mg, qe_lm1, qe_lgn, qe_lem, qe_leg, qe_tm1, qe_tgn, hst, hcv, e1, e2, o1]
        exact go
theorem fit {S0 T0 S T : vS} {n g r w m e : Nat} (hn : n ≤ 4) (h10 : T0.1 0 10 = nI n) (hGI : GInv n (T0.1 7)) (hG0 : GodR S0 (30 + 1) n (T0.1 7)) (hg : g < n) (hS0 : ScR S0 (30 + 11) n (fr T0 0)) (hFI : FInv n (fr T0 0)) (h14 : fr T0 0 14 = nI e) (he : e ≤ 200)
    (hr : r < 6) (hw : w < 6) (hr6 : S0.1 (1 + 2 + 6) r = nI m) (hr7 : T0.1 2 r = nI m) (hw6 : S0.1 (1 + 2 + 6) w = nI m) (hm : m ≤ 30) (hrow : ∀ i, i < m → S0.1 (1 + 2 + r) i = T0.1 3 (60 * r + i)) (hwor : ∀ i, i < m → S0.1 (1 + 2 + w) i = T0.1 3 (60 * w + i)) (hv : ∀ i, i < m → vld n (T0.1 3 (60 * r + i))) (hZ : Sc0 S0 T0 S T) (h7 : T.1 7 = T0.1 7) :
    ∃ (y : Nat) (S' T' : vS), y < 128 ∧ mX6_fittingPatiences S (nI g) (nI r) (nI w) = some (nI y, S') ∧ mX7_fitting T (nI g) (nI r) (nI w) = some (nI y, T') ∧ Sc0 S0 T0 S' T' ∧ T'.1 7 = T0.1 7 := by
  have hg4 : g < 4 := by omega
  obtain ⟨S1, e1, e2, e3, e4, e5⟩ := take0 (S := S) (k := 119) (k1 := 30 + 1) (by omega)
  obtain ⟨z1, z2, z3, z4, z5, z6⟩ := id hZ
  have hGS : GodR S (30 + 1) n (T0.1 7) := GodR_tr (S := S0) (k := 30 + 1) hn (fun j _ => by rw [z1 _ (by omega)]) (fun i h1 h2 g _ => by rw [z1 _ (by omega)]) hG0
  have hG1 : GodR S1 119 n (T.1 7) := by rw [h7]; exact GodR_tr hn e2 e3 hGS
  have hZ1 : Sc0 S0 T0 S1 T := ⟨fun c hc => by rw [e4 c (by omega)]; exact z1 c hc, by rw [e5]; exact z2, z3, z4, z5, z6⟩
  obtain ⟨y, S', T', f0, f1, f2, f3, f4⟩ := fit_l (S0 := S0) (T0 := T0) (was := gP (T.1 7) g) hn h10 hGI hg hS0 hFI h14 he hr hw hr6 hr7 hw6 hm hrow hwor hv FU 1 S1 T 0 (by omega) (by omega) (by unfold FU; omega) (by decide) hZ1 hG1 (fun y => by rw [h7])
  unfold mX6_fittingPatiences mX7_fitting
  simp (disch := omega) only [qlt, qb_some, qb_none, ↓qn_1, ↓qn_2, ↓qn_3, ↓qn_4, ↓qn_9, ↓qn_1000, ↓qn_low, qi_0, qi_1, qi_2, qi_3, qi_4, qi_5, qi_6, qi_7, qi_8, qi_9, qi_10, qi_11, qi_12, qi_13, qi_14, qi_15, qi_16, qi_17, qi_20, qi_24, qi_30, qi_31, qi_32, qi_60, qi_99, qi_100, qi_200, qi_1000, qi_3400, qi_4000, qi_of, pu_gI, pu_pI, nI_leI, nI_ltI, nI_eq, nI_add, pk_mul, pk_sub, pk_div, qw_s, qw_o, qw_l, qr_s, qr_o, qr_l, ql_i, ql_s, ql_o, pk_us, pk_un, pk_uLs, pk_uLn, if_pos, if_neg, if_true, if_false, ite_self, eq_self, Nat.zero_add, Nat.add_zero, qwr, not_true_eq_false, not_false_eq_true, Option.some.injEq, qe_gn0, qe_m1n, qe_gng, qe_ngn, qe_gm, qe_mg, qe_lm1, qe_lgn, qe_lem, qe_leg, qe_tm1, qe_tgn, e1, m7_pat hg4, f1, f2]
  refine ⟨y, S', T', f0, rfl, rfl, f3, ?_⟩
  rw [f4, h7]
  exact upd_id _ _
theorem book_or {S T : vS} {n r w : Nat} (R : Rel S T) (h : S.1 (30 + 1) 0 = nI n) (h10 : T.1 0 10 = nI n) (hn : n ≤ 4) (hr : r < 6) (hw : w < 6) :
    (∃ k, 1 ≤ k ∧ k ≤ 5 ∧ mX6_bookRefused S (nI r) (nI w) = some (q3, fS S k) ∧ mX7_needBook T (nI r) (nI w) = some (q3, fT T k)) ∨
    (mX6_bookRefused S (nI r) (nI w) = some (nI 0, S) ∧ mX7_needBook T (nI r) (nI w) = some (nI 0, T) ∧ ∃ m, m ≤ 30 ∧ S.1 (1 + 2 + 6) r = nI m ∧ T.1 2 r = nI m ∧ S.1 (1 + 2 + 6) w = nI m ∧ (∀ i, i < m → S.1 (1 + 2 + r) i = T.1 3 (60 * r + i)) ∧ (∀ i, i < m → S.1 (1 + 2 + w) i = T.1 3 (60 * w + i)) ∧ ∀ i, i < m → vld n (T.1 3 (60 * r + i))) := by
  obtain ⟨e1, e2, e3⟩ := R.2.2.1 r hr
  obtain ⟨f1, f2, f3⟩ := R.2.2.1 w hw
  have h6 : 6 < 2 ^ 31 := by decide
  unfold mX6_bookRefused mX7_needBook bX6_bookRefused_22 bX6_bookRefused_60 bX7_needBook_18 bX7_needBook_50 mX7_needPlan mX6_holdsNumbersOnly
  rcases e2 with e2 | ⟨m, hm, e2⟩
  · refine Or.inl ⟨1, by decide, by decide, ?_, ?_⟩
    · simp (disch := omega) only [qlt, qb_some, qb_none, ↓qn_1, ↓qn_2, ↓qn_3, ↓qn_4, ↓qn_9, ↓qn_1000, ↓qn_low, qi_0, qi_1, qi_2, qi_3, qi_4, qi_5, qi_6, qi_7, qi_8, qi_9, qi_10, qi_11, qi_12, qi_13, qi_14, qi_15, qi_16, qi_17, qi_20, qi_24, qi_30, qi_31, qi_32, qi_60, qi_99, qi_100, qi_200, qi_1000, qi_3400, qi_4000, qi_of, pu_gI, pu_pI, nI_leI, nI_ltI, nI_eq, nI_add, pk_mul, pk_sub, pk_div, qw_s, qw_o, qw_l, qr_s, qr_o, qr_l, ql_i, ql_s, ql_o, pk_us, pk_un, pk_uLs, pk_uLn, if_pos, if_neg, if_true, if_false, ite_self, eq_self, Nat.zero_add, Nat.add_zero, qwr, not_true_eq_false, not_false_eq_true, Option.some.injEq, qe_gn0, qe_m1n, qe_gng, qe_ngn, qe_gm, qe_mg, qe_lm1, qe_lgn, qe_lem, qe_leg, qe_tm1, qe_tgn, there_n hr h6 (e1.trans e2), qf_found]
    · simp (disch := omega) only [qlt, qb_some, qb_none, ↓qn_1, ↓qn_2, ↓qn_3, ↓qn_4, ↓qn_9, ↓qn_1000, ↓qn_low, qi_0, qi_1, qi_2, qi_3, qi_4, qi_5, qi_6, qi_7, qi_8, qi_9, qi_10, qi_11, qi_12, qi_13, qi_14, qi_15, qi_16, qi_17, qi_20, qi_24, qi_30, qi_31, qi_32, qi_60, qi_99, qi_100, qi_200, qi_1000, qi_3400, qi_4000, qi_of, pu_gI, pu_pI, nI_leI, nI_ltI, nI_eq, nI_add, pk_mul, pk_sub, pk_div, qw_s, qw_o, qw_l, qr_s, qr_o, qr_l, ql_i, ql_s, ql_o, pk_us, pk_un, pk_uLs, pk_uLn, if_pos, if_neg, if_true, if_false, ite_self, eq_self, Nat.zero_add, Nat.add_zero, qwr, not_true_eq_false, not_false_eq_true, Option.some.injEq, qe_gn0, qe_m1n, qe_gng, qe_ngn, qe_gm, qe_mg, qe_lm1, qe_lgn, qe_lem, qe_leg, qe_tm1, qe_tgn, e2, qf_meets]
  rcases f2 with f2 | ⟨m2, hm2, f2⟩
  · refine Or.inl ⟨1, by decide, by decide, ?_, ?_⟩
    · simp (disch := omega) only [qlt, qb_some, qb_none, ↓qn_1, ↓qn_2, ↓qn_3, ↓qn_4, ↓qn_9, ↓qn_1000, ↓qn_low, qi_0, qi_1, qi_2, qi_3, qi_4, qi_5, qi_6, qi_7, qi_8, qi_9, qi_10, qi_11, qi_12, qi_13, qi_14, qi_15, qi_16, qi_17, qi_20, qi_24, qi_30, qi_31, qi_32, qi_60, qi_99, qi_100, qi_200, qi_1000, qi_3400, qi_4000, qi_of, pu_gI, pu_pI, nI_leI, nI_ltI, nI_eq, nI_add, pk_mul, pk_sub, pk_div, qw_s, qw_o, qw_l, qr_s, qr_o, qr_l, ql_i, ql_s, ql_o, pk_us, pk_un, pk_uLs, pk_uLn, if_pos, if_neg, if_true, if_false, ite_self, eq_self, Nat.zero_add, Nat.add_zero, qwr, not_true_eq_false, not_false_eq_true, Option.some.injEq, qe_gn0, qe_m1n, qe_gng, qe_ngn, qe_gm, qe_mg, qe_lm1, qe_lgn, qe_lem, qe_leg, qe_tm1, qe_tgn, there_y hr h6 (e1.trans e2) hm, there_n hw h6 (f1.trans f2), qf_found]
    · simp (disch := omega) only [qlt, qb_some, qb_none, ↓qn_1, ↓qn_2, ↓qn_3, ↓qn_4, ↓qn_9, ↓qn_1000, ↓qn_low, qi_0, qi_1, qi_2, qi_3, qi_4, qi_5, qi_6, qi_7, qi_8, qi_9, qi_10, qi_11, qi_12, qi_13, qi_14, qi_15, qi_16, qi_17, qi_20, qi_24, qi_30, qi_31, qi_32, qi_60, qi_99, qi_100, qi_200, qi_1000, qi_3400, qi_4000, qi_of, pu_gI, pu_pI, nI_leI, nI_ltI, nI_eq, nI_add, pk_mul, pk_sub, pk_div, qw_s, qw_o, qw_l, qr_s, qr_o, qr_l, ql_i, ql_s, ql_o, pk_us, pk_un, pk_uLs, pk_uLn, if_pos, if_neg, if_true, if_false, ite_self, eq_self, Nat.zero_add, Nat.add_zero, qwr, not_true_eq_false, not_false_eq_true, Option.some.injEq, qe_gn0, qe_m1n, qe_gng, qe_ngn, qe_gm, qe_mg, qe_lm1, qe_lgn, qe_lem, qe_leg, qe_tm1, qe_tgn, e2, f2, qf_meets]
  by_cases hm30 : m ≤ 30
  · by_cases hmm : m = m2
    · subst hmm
      by_cases hall : ∀ i, i < m → vld n (T.1 3 (60 * r + i))
      · have hall6 : ∀ i, i < m → vld n (S.1 (1 + 2 + r) i) := fun i hi => by rw [e3 m hm e2 i hi]; exact hall i hi
        have c6 := hn6_y h h10 hn hr (e1.trans e2) hm hall6 FU 0 (Nat.zero_le m) (by unfold FU; omega)
        have c7 := np7_y (T := T) h h10 hn hr e2 hm hall FU 0 (Nat.zero_le m) (by unfold FU; omega)
        refine Or.inr ⟨?_, ?_, m, hm30, e1.trans e2, e2, f1.trans f2, fun i hi => e3 m hm e2 i hi, fun i hi => f3 m hm f2 i hi, hall⟩
        · simp (disch := omega) only [qlt, qb_some, qb_none, ↓qn_1, ↓qn_2, ↓qn_3, ↓qn_4, ↓qn_9, ↓qn_1000, ↓qn_low, qi_0, qi_1, qi_2, qi_3, qi_4, qi_5, qi_6, qi_7, qi_8, qi_9, qi_10, qi_11, qi_12, qi_13, qi_14, qi_15, qi_16, qi_17, qi_20, qi_24, qi_30, qi_31, qi_32, qi_60, qi_99, qi_100, qi_200, qi_1000, qi_3400, qi_4000, qi_of, pu_gI, pu_pI, nI_leI, nI_ltI, nI_eq, nI_add, pk_mul, pk_sub, pk_div, qw_s, qw_o, qw_l, qr_s, qr_o, qr_l, ql_i, ql_s, ql_o, pk_us, pk_un, pk_uLs, pk_uLn, if_pos, if_neg, if_true, if_false, ite_self, eq_self, Nat.zero_add, Nat.add_zero, qwr, not_true_eq_false, not_false_eq_true, Option.some.injEq, qe_gn0, qe_m1n, qe_gng, qe_ngn, qe_gm, qe_mg, qe_lm1, qe_lgn, qe_lem, qe_leg, qe_tm1, qe_tgn, there_y hr h6 (e1.trans e2) hm, there_y hw h6 (f1.trans f2) hm, size_y hr h6 (e1.trans e2) hm, size_y hw h6 (f1.trans f2) hm, c6]
        · simp (disch := omega) only [qlt, qb_some, qb_none, ↓qn_1, ↓qn_2, ↓qn_3, ↓qn_4, ↓qn_9, ↓qn_1000, ↓qn_low, qi_0, qi_1, qi_2, qi_3, qi_4, qi_5, qi_6, qi_7, qi_8, qi_9, qi_10, qi_11, qi_12, qi_13, qi_14, qi_15, qi_16, qi_17, qi_20, qi_24, qi_30, qi_31, qi_32, qi_60, qi_99, qi_100, qi_200, qi_1000, qi_3400, qi_4000, qi_of, pu_gI, pu_pI, nI_leI, nI_ltI, nI_eq, nI_add, pk_mul, pk_sub, pk_div, qw_s, qw_o, qw_l, qr_s, qr_o, qr_l, ql_i, ql_s, ql_o, pk_us, pk_un, pk_uLs, pk_uLn, if_pos, if_neg, if_true, if_false, ite_self, eq_self, Nat.zero_add, Nat.add_zero, qwr, not_true_eq_false, not_false_eq_true, Option.some.injEq, qe_gn0, qe_m1n, qe_gng, qe_ngn, qe_gm, qe_mg, qe_lm1, qe_lgn, qe_lem, qe_leg, qe_tm1, qe_tgn, e2, f2, c7]
      · have hall6 : ¬ ∀ i, 0 ≤ i → i < m → vld n (S.1 (1 + 2 + r) i) := fun z => hall (fun i hi => by rw [← e3 m hm e2 i hi]; exact z i (Nat.zero_le i) hi)
        have hall7 : ¬ ∀ i, 0 ≤ i → i < m → vld n (T.1 3 (60 * r + i)) := fun z => hall (fun i hi => z i (Nat.zero_le i) hi)
        have c6 := hn6_n h h10 hn hr (e1.trans e2) hm FU 0 (Nat.zero_le m) (by unfold FU; omega) hall6
        have c7 := np7_n (T := T) h h10 hn hr e2 hm FU 0 (Nat.zero_le m) (by unfold FU; omega) hall7
        refine Or.inl ⟨3, by decide, by decide, ?_, ?_⟩
        · simp (disch := omega) only [qlt, qb_some, qb_none, ↓qn_1, ↓qn_2, ↓qn_3, ↓qn_4, ↓qn_9, ↓qn_1000, ↓qn_low, qi_0, qi_1, qi_2, qi_3, qi_4, qi_5, qi_6, qi_7, qi_8, qi_9, qi_10, qi_11, qi_12, qi_13, qi_14, qi_15, qi_16, qi_17, qi_20, qi_24, qi_30, qi_31, qi_32, qi_60, qi_99, qi_100, qi_200, qi_1000, qi_3400, qi_4000, qi_of, pu_gI, pu_pI, nI_leI, nI_ltI, nI_eq, nI_add, pk_mul, pk_sub, pk_div, qw_s, qw_o, qw_l, qr_s, qr_o, qr_l, ql_i, ql_s, ql_o, pk_us, pk_un, pk_uLs, pk_uLn, if_pos, if_neg, if_true, if_false, ite_self, eq_self, Nat.zero_add, Nat.add_zero, qwr, not_true_eq_false, not_false_eq_true, Option.some.injEq, qe_gn0, qe_m1n, qe_gng, qe_ngn, qe_gm, qe_mg, qe_lm1, qe_lgn, qe_lem, qe_leg, qe_tm1, qe_tgn, there_y hr h6 (e1.trans e2) hm, there_y hw h6 (f1.trans f2) hm, size_y hr h6 (e1.trans e2) hm, size_y hw h6 (f1.trans f2) hm, c6, qf_found]
        · simp (disch := omega) only [qlt, qb_some, qb_none, ↓qn_1, ↓qn_2, ↓qn_3, ↓qn_4, ↓qn_9, ↓qn_1000, ↓qn_low, qi_0, qi_1, qi_2, qi_3, qi_4, qi_5, qi_6, qi_7, qi_8, qi_9, qi_10, qi_11, qi_12, qi_13, qi_14, qi_15, qi_16, qi_17, qi_20, qi_24, qi_30, qi_31, qi_32, qi_60, qi_99, qi_100, qi_200, qi_1000, qi_3400, qi_4000, qi_of, pu_gI, pu_pI, nI_leI, nI_ltI, nI_eq, nI_add, pk_mul, pk_sub, pk_div, qw_s, qw_o, qw_l, qr_s, qr_o, qr_l, ql_i, ql_s, ql_o, pk_us, pk_un, pk_uLs, pk_uLn, if_pos, if_neg, if_true, if_false, ite_self, eq_self, Nat.zero_add, Nat.add_zero, qwr, not_true_eq_false, not_false_eq_true, Option.some.injEq, qe_gn0, qe_m1n, qe_gng, qe_ngn, qe_gm, qe_mg, qe_lm1, qe_lgn, qe_lem, qe_leg, qe_tm1, qe_tgn, e2, f2, c7]
    · refine Or.inl ⟨5, by decide, by decide, ?_, ?_⟩
      · simp (disch := omega) only [qlt, qb_some, qb_none, ↓qn_1, ↓qn_2, ↓qn_3, ↓qn_4, ↓qn_9, ↓qn_1000, ↓qn_low, qi_0, qi_1, qi_2, qi_3, qi_4, qi_5, qi_6, qi_7, qi_8, qi_9, qi_10, qi_11, qi_12, qi_13, qi_14, qi_15, qi_16, qi_17, qi_20, qi_24, qi_30, qi_31, qi_32, qi_60, qi_99, qi_100, qi_200, qi_1000, qi_3400, qi_4000, qi_of, pu_gI, pu_pI, nI_leI, nI_ltI, nI_eq, nI_add, pk_mul, pk_sub, pk_div, qw_s, qw_o, qw_l, qr_s, qr_o, qr_l, ql_i, ql_s, ql_o, pk_us, pk_un, pk_uLs, pk_uLn, if_pos, if_neg, if_true, if_false, ite_self, eq_self, Nat.zero_add, Nat.add_zero, qwr, not_true_eq_false, not_false_eq_true, Option.some.injEq, qe_gn0, qe_m1n, qe_gng, qe_ngn, qe_gm, qe_mg, qe_lm1, qe_lgn, qe_lem, qe_leg, qe_tm1, qe_tgn, there_y hr h6 (e1.trans e2) hm, there_y hw h6 (f1.trans f2) hm2, size_y hr h6 (e1.trans e2) hm, size_y hw h6 (f1.trans f2) hm2, qf_found]
      · simp (disch := omega) only [qlt, qb_some, qb_none, ↓qn_1, ↓qn_2, ↓qn_3, ↓qn_4, ↓qn_9, ↓qn_1000, ↓qn_low, qi_0, qi_1, qi_2, qi_3, qi_4, qi_5, qi_6, qi_7, qi_8, qi_9, qi_10, qi_11, qi_12, qi_13, qi_14, qi_15, qi_16, qi_17, qi_20, qi_24, qi_30, qi_31, qi_32, qi_60, qi_99, qi_100, qi_200, qi_1000, qi_3400, qi_4000, qi_of, pu_gI, pu_pI, nI_leI, nI_ltI, nI_eq, nI_add, pk_mul, pk_sub, pk_div, qw_s, qw_o, qw_l, qr_s, qr_o, qr_l, ql_i, ql_s, ql_o, pk_us, pk_un, pk_uLs, pk_uLn, if_pos, if_neg, if_true, if_false, ite_self, eq_self, Nat.zero_add, Nat.add_zero, qwr, not_true_eq_false, not_false_eq_true, Option.some.injEq, qe_gn0, qe_m1n, qe_gng, qe_ngn, qe_gm, qe_mg, qe_lm1, qe_lgn, qe_lem, qe_leg, qe_tm1, qe_tgn, e2, f2, qf_meets]
  · refine Or.inl ⟨5, by decide, by decide, ?_, ?_⟩
    · simp (disch := omega) only [qlt, qb_some, qb_none, ↓qn_1, ↓qn_2, ↓qn_3, ↓qn_4, ↓qn_9, ↓qn_1000, ↓qn_low, qi_0, qi_1, qi_2, qi_3, qi_4, qi_5, qi_6, qi_7, qi_8, qi_9, qi_10, qi_11, qi_12, qi_13, qi_14, qi_15, qi_16, qi_17, qi_20, qi_24, qi_30, qi_31, qi_32, qi_60, qi_99, qi_100, qi_200, qi_1000, qi_3400, qi_4000, qi_of, pu_gI, pu_pI, nI_leI, nI_ltI, nI_eq, nI_add, pk_mul, pk_sub, pk_div, qw_s, qw_o, qw_l, qr_s, qr_o, qr_l, ql_i, ql_s, ql_o, pk_us, pk_un, pk_uLs, pk_uLn, if_pos, if_neg, if_true, if_false, ite_self, eq_self, Nat.zero_add, Nat.add_zero, qwr, not_true_eq_false, not_false_eq_true, Option.some.injEq, qe_gn0, qe_m1n, qe_gng, qe_ngn, qe_gm, qe_mg, qe_lm1, qe_lgn, qe_lem, qe_leg, qe_tm1, qe_tgn, there_y hr h6 (e1.trans e2) hm, there_y hw h6 (f1.trans f2) hm2, size_y hr h6 (e1.trans e2) hm, size_y hw h6 (f1.trans f2) hm2, qf_found]
    · simp (disch := omega) only [qlt, qb_some, qb_none, ↓qn_1, ↓qn_2, ↓qn_3, ↓qn_4, ↓qn_9, ↓qn_1000, ↓qn_low, qi_0, qi_1, qi_2, qi_3, qi_4, qi_5, qi_6, qi_7, qi_8, qi_9, qi_10, qi_11, qi_12, qi_13, qi_14, qi_15, qi_16, qi_17, qi_20, qi_24, qi_30, qi_31, qi_32, qi_60, qi_99, qi_100, qi_200, qi_1000, qi_3400, qi_4000, qi_of, pu_gI, pu_pI, nI_leI, nI_ltI, nI_eq, nI_add, pk_mul, pk_sub, pk_div, qw_s, qw_o, qw_l, qr_s, qr_o, qr_l, ql_i, ql_s, ql_o, pk_us, pk_un, pk_uLs, pk_uLn, if_pos, if_neg, if_true, if_false, ite_self, eq_self, Nat.zero_add, Nat.add_zero, qwr, not_true_eq_false, not_false_eq_true, Option.some.injEq, qe_gn0, qe_m1n, qe_gng, qe_ngn, qe_gm, qe_mg, qe_lm1, qe_lgn, qe_lem, qe_leg, qe_tm1, qe_tgn, e2, f2, qf_meets]
theorem st_fits : St_fits Rel := by
  intro S T a b c R
  obtain ⟨n, hn, h10, h34, hGI, hV, hK⟩ := R.2.2.2.2
  obtain ⟨hG, hS, hg1, hh1, hFI, e, he, h14, hH, hD⟩ := id hV
  unfold mX6_fits mX7_fits mX7_isRow
  rcases oR_or a (N := n) (by omega) with h | ⟨g, hg, rfl⟩
  · simp (disch := omega) only [qlt, qb_some, qb_none, ↓qn_1, ↓qn_2, ↓qn_3, ↓qn_4, ↓qn_9, ↓qn_1000, ↓qn_low, qi_0, qi_1, qi_2, qi_3, qi_4, qi_5, qi_6, qi_7, qi_8, qi_9, qi_10, qi_11, qi_12, qi_13, qi_14, qi_15, qi_16, qi_17, qi_20, qi_24, qi_30, qi_31, qi_32, qi_60, qi_99, qi_100, qi_200, qi_1000, qi_3400, qi_4000, qi_of, pu_gI, pu_pI, nI_leI, nI_ltI, nI_eq, nI_add, pk_mul, pk_sub, pk_div, qw_s, qw_o, qw_l, qr_s, qr_o, qr_l, ql_i, ql_s, ql_o, pk_us, pk_un, pk_uLs, pk_uLn, if_pos, if_neg, if_true, if_false, ite_self, eq_self, Nat.zero_add, Nat.add_zero, qwr, not_true_eq_false, not_false_eq_true, Option.some.injEq, qe_gn0, qe_m1n, qe_gng, qe_ngn, qe_gm, qe_mg, qe_lm1, qe_lgn, qe_lem, qe_leg, qe_tm1, qe_tgn, has0_o hG.1 h, isGod_o h10 hn h]
    exact ⟨_, _, rfl, rfl, rfl, R⟩
  rcases oR_or b (N := 6) (by decide) with h | ⟨r, hr, rfl⟩
  · simp (disch := omega) only [qlt, qb_some, qb_none, ↓qn_1, ↓qn_2, ↓qn_3, ↓qn_4, ↓qn_9, ↓qn_1000, ↓qn_low, qi_0, qi_1, qi_2, qi_3, qi_4, qi_5, qi_6, qi_7, qi_8, qi_9, qi_10, qi_11, qi_12, qi_13, qi_14, qi_15, qi_16, qi_17, qi_20, qi_24, qi_30, qi_31, qi_32, qi_60, qi_99, qi_100, qi_200, qi_1000, qi_3400, qi_4000, qi_of, pu_gI, pu_pI, nI_leI, nI_ltI, nI_eq, nI_add, pk_mul, pk_sub, pk_div, qw_s, qw_o, qw_l, qr_s, qr_o, qr_l, ql_i, ql_s, ql_o, pk_us, pk_un, pk_uLs, pk_uLn, if_pos, if_neg, if_true, if_false, ite_self, eq_self, Nat.zero_add, Nat.add_zero, qwr, not_true_eq_false, not_false_eq_true, Option.some.injEq, qe_gn0, qe_m1n, qe_gng, qe_ngn, qe_gm, qe_mg, qe_lm1, qe_lgn, qe_lem, qe_leg, qe_tm1, qe_tgn, has0_y hG.1 hn hg, isGod_y h10 hn hg, has4_o (S := S) (k := 1) h, oR_in7 (by decide) h]
    exact ⟨_, _, rfl, rfl, rfl, R⟩
  rcases oR_or c (N := 6) (by decide) with h | ⟨w, hw, rfl⟩
  · simp (disch := omega) only [qlt, qb_some, qb_none, ↓qn_1, ↓qn_2, ↓qn_3, ↓qn_4, ↓qn_9, ↓qn_1000, ↓qn_low, qi_0, qi_1, qi_2, qi_3, qi_4, qi_5, qi_6, qi_7, qi_8, qi_9, qi_10, qi_11, qi_12, qi_13, qi_14, qi_15, qi_16, qi_17, qi_20, qi_24, qi_30, qi_31, qi_32, qi_60, qi_99, qi_100, qi_200, qi_1000, qi_3400, qi_4000, qi_of, pu_gI, pu_pI, nI_leI, nI_ltI, nI_eq, nI_add, pk_mul, pk_sub, pk_div, qw_s, qw_o, qw_l, qr_s, qr_o, qr_l, ql_i, ql_s, ql_o, pk_us, pk_un, pk_uLs, pk_uLn, if_pos, if_neg, if_true, if_false, ite_self, eq_self, Nat.zero_add, Nat.add_zero, qwr, not_true_eq_false, not_false_eq_true, Option.some.injEq, qe_gn0, qe_m1n, qe_gng, qe_ngn, qe_gm, qe_mg, qe_lm1, qe_lgn, qe_lem, qe_leg, qe_tm1, qe_tgn, has0_y hG.1 hn hg, isGod_y h10 hn hg, has4_y, in7_y, has4_o (S := S) (k := 1) h, oR_in7 (by decide) h]
    exact ⟨_, _, rfl, rfl, rfl, R⟩
  rcases book_or R hG.1 h10 hn hr hw with ⟨k, k1, k5, c6, c7⟩ | ⟨c6, c7, m, hm, hr6, hr7, hw6, hrow, hwor, hv⟩
  · simp (disch := omega) only [qlt, qb_some, qb_none, ↓qn_1, ↓qn_2, ↓qn_3, ↓qn_4, ↓qn_9, ↓qn_1000, ↓qn_low, qi_0, qi_1, qi_2, qi_3, qi_4, qi_5, qi_6, qi_7, qi_8, qi_9, qi_10, qi_11, qi_12, qi_13, qi_14, qi_15, qi_16, qi_17, qi_20, qi_24, qi_30, qi_31, qi_32, qi_60, qi_99, qi_100, qi_200, qi_1000, qi_3400, qi_4000, qi_of, pu_gI, pu_pI, nI_leI, nI_ltI, nI_eq, nI_add, pk_mul, pk_sub, pk_div, qw_s, qw_o, qw_l, qr_s, qr_o, qr_l, ql_i, ql_s, ql_o, pk_us, pk_un, pk_uLs, pk_uLn, if_pos, if_neg, if_true, if_false, ite_self, eq_self, Nat.zero_add, Nat.add_zero, qwr, not_true_eq_false, not_false_eq_true, Option.some.injEq, qe_gn0, qe_m1n, qe_gng, qe_ngn, qe_gm, qe_mg, qe_lm1, qe_lgn, qe_lem, qe_leg, qe_tm1, qe_tgn, has0_y hG.1 hn hg, isGod_y h10 hn hg, has4_y, in7_y, c6, c7, q3_le, q3_0]
    exact ⟨_, _, rfl, rfl, rfl, Rel_found R k5⟩
  · obtain ⟨y, S', T', y1, f1, f2, f3, f4⟩ := fit (S0 := S) (T0 := T) hn h10 hGI hG hg hS hFI h14 he hr hw hr6 hr7 hw6 hm hrow hwor hv (Sc0_id S T) rfl
    simp (disch := omega) only [qlt, qb_some, qb_none, ↓qn_1, ↓qn_2, ↓qn_3, ↓qn_4, ↓qn_9, ↓qn_1000, ↓qn_low, qi_0, qi_1, qi_2, qi_3, qi_4, qi_5, qi_6, qi_7, qi_8, qi_9, qi_10, qi_11, qi_12, qi_13, qi_14, qi_15, qi_16, qi_17, qi_20, qi_24, qi_30, qi_31, qi_32, qi_60, qi_99, qi_100, qi_200, qi_1000, qi_3400, qi_4000, qi_of, pu_gI, pu_pI, nI_leI, nI_ltI, nI_eq, nI_add, pk_mul, pk_sub, pk_div, qw_s, qw_o, qw_l, qr_s, qr_o, qr_l, ql_i, ql_s, ql_o, pk_us, pk_un, pk_uLs, pk_uLn, if_pos, if_neg, if_true, if_false, ite_self, eq_self, Nat.zero_add, Nat.add_zero, qwr, not_true_eq_false, not_false_eq_true, Option.some.injEq, qe_gn0, qe_m1n, qe_gng, qe_ngn, qe_gm, qe_mg, qe_lm1, qe_lgn, qe_lem, qe_leg, qe_tm1, qe_tgn, has0_y hG.1 hn hg, isGod_y h10 hn hg, has4_y, in7_y, c6, c7, f1, f2]
    exact ⟨_, _, rfl, rfl, rfl, Sc0_Rel R f3 f4⟩
theorem Sc0_gP {S0 T0 S T : vS} {n g : Nat} (hG0 : GodR S0 (30 + 1) n (T0.1 7)) (hg : g < n) (hZ : Sc0 S0 T0 S T) : S.1 (30 + 1 + 3) g = gP (T0.1 7) g := by
  rw [hZ.1 _ (by omega)]
  exact (hG0.2.2.2.2 g hg).2.2.1
theorem whose_l {S0 T0 : vS} {n r w m e : Nat} (R : Rel S0 T0) (hn : n ≤ 4) (h10 : T0.1 0 10 = nI n) (hGI : GInv n (T0.1 7)) (hG0 : GodR S0 (30 + 1) n (T0.1 7)) (hS0 : ScR S0 (30 + 11) n (fr T0 0)) (hFI : FInv n (fr T0 0)) (h14 : fr T0 0 14 = nI e) (he : e ≤ 200)
    (hr : r < 6) (hw : w < 6) (hr6 : S0.1 (1 + 2 + 6) r = nI m) (hr7 : T0.1 2 r = nI m) (hw6 : S0.1 (1 + 2 + 6) w = nI m) (hm : m ≤ 30) (hrow : ∀ i, i < m → S0.1 (1 + 2 + r) i = T0.1 3 (60 * r + i)) (hwor : ∀ i, i < m → S0.1 (1 + 2 + w) i = T0.1 3 (60 * w + i)) (hv : ∀ i, i < m → vld n (T0.1 3 (60 * r + i))) :
    ∀ q g S T (v4 : Int32) (c : Nat), g ≤ n → n - g < q → Sc0 S0 T0 S T → T.1 7 = T0.1 7 →
    ∃ (x : Int32 × vS) (t : Int32 × vS), lX6_whose_56 (nI r) (nI w) q S v4 (nI c) (nI g) = some x ∧ lX7_whose_48 (nI r) (nI w) q T v4 (nI c) (nI g) = some t ∧ x.1 = t.1 ∧ Rel x.2 t.2 := by
  intro q
  induction q with
  | zero => intro g S T v4 c h1 h2; omega
  | succ q ih =>
    intro g S T v4 c h1 h2 hZ h7
    rw [lX6_whose_56, lX7_whose_48]
    have hmany : S.1 (30 + 1) 0 = nI n := by rw [hZ.1 _ (by omega)]; exact hG0.1
    have ht10 : T.1 0 10 = nI n := by rw [hZ.2.2.1 10 (by decide) (by decide) (by decide)]; exact h10
    by_cases hg : g = n
    · subst hg
      unfold bX6_whose_129 bX7_whose_112 mX6_tell mX7_tells
      simp (disch := omega) only [qlt, qb_some, qb_none, ↓qn_1, ↓qn_2, ↓qn_3, ↓qn_4, ↓qn_9, ↓qn_1000, ↓qn_low, qi_0, qi_1, qi_2, qi_3, qi_4, qi_5, qi_6, qi_7, qi_8, qi_9, qi_10, qi_11, qi_12, qi_13, qi_14, qi_15, qi_16, qi_17, qi_20, qi_24, qi_30, qi_31, qi_32, qi_60, qi_99, qi_100, qi_200, qi_1000, qi_3400, qi_4000, qi_of, pu_gI, pu_pI, nI_leI, nI_ltI, nI_eq, nI_add, pk_mul, pk_sub, pk_div, qw_s, qw_o, qw_l, qr_s, qr_o, qr_l, ql_i, ql_s, ql_o, pk_us, pk_un, pk_uLs, pk_uLn, if_pos, if_neg, if_true, if_false, ite_self, eq_self, Nat.zero_add, Nat.add_zero, qwr, not_true_eq_false, not_false_eq_true, Option.some.injEq, qe_gn0, qe_m1n, qe_gng, qe_ngn, qe_gm, qe_mg, qe_lm1, qe_lgn, qe_lem, qe_leg, qe_tm1, qe_tgn, hmany, ht10]
      exact ⟨_, _, rfl, rfl, rfl, Rel_tell (Sc0_Rel R hZ h7) _⟩
    · have hgn : g < n := by omega
      have hg4 : g < 4 := by omega
      obtain ⟨y, S', T', y1, f1, f2, f3, f4⟩ := fit (S0 := S0) (T0 := T0) (S := S) (T := T) hn h10 hGI hG0 hgn hS0 hFI h14 he hr hw hr6 hr7 hw6 hm hrow hwor hv hZ h7
      obtain ⟨_, _, ⟨p, hp1, hp2, hp⟩, _⟩ := hGI g hgn
      have g6 : S'.1 (30 + 1 + 3) g = nI p := (Sc0_gP hG0 hgn f3).trans hp
      have g7 : mX7_patienceOf T' (nI g) = some (nI p) := by rw [m7_pat hg4, f4, hp]
      obtain ⟨o1, o2⟩ := and_p y y1 p (by omega)
      have e6 := pc6 (y - (y &&& 2 ^ p)) o2
      have e7 := pc7 (m := y - (y &&& 2 ^ p)) o2
      unfold bX6_whose_113 bX7_whose_93
      simp (disch := omega) only [qlt, qb_some, qb_none, ↓qn_1, ↓qn_2, ↓qn_3, ↓qn_4, ↓qn_9, ↓qn_1000, ↓qn_low, qi_0, qi_1, qi_2, qi_3, qi_4, qi_5, qi_6, qi_7, qi_8, qi_9, qi_10, qi_11, qi_12, qi_13, qi_14, qi_15, qi_16, qi_17, qi_20, qi_24, qi_30, qi_31, qi_32, qi_60, qi_99, qi_100, qi_200, qi_1000, qi_3400, qi_4000, qi_of, pu_gI, pu_pI, nI_leI, nI_ltI, nI_eq, nI_add, pk_mul, pk_sub, pk_div, qw_s, qw_o, qw_l, qr_s, qr_o, qr_l, ql_i, ql_s, ql_o, pk_us, pk_un, pk_uLs, pk_uLn, if_pos, if_neg, if_true, if_false, ite_self, eq_self, Nat.zero_add, Nat.add_zero, qwr, not_true_eq_false, not_false_eq_true, Option.some.injEq, qe_gn0, qe_m1n, qe_gng, qe_ngn, qe_gm, qe_mg, qe_lm1, qe_lgn, qe_lem, qe_leg, qe_tm1, qe_tgn, hmany, ht10, f1, f2, g6, g7, o1, e6, e7]
      by_cases h0 : y - (y &&& 2 ^ p) = 0
      · rw [if_pos h0, if_pos h0, i32_or0]
        exact ih (g + 1) S' T' v4 (c + pcN (y - (y &&& 2 ^ p))) (by omega) (by omega) f3 f4
      · rw [if_neg h0, if_neg h0]
        exact ih (g + 1) S' T' _ (c + pcN (y - (y &&& 2 ^ p))) (by omega) (by omega) f3 f4
theorem st_whose : St_whose Rel := by
  intro S T b c R
  obtain ⟨n, hn, h10, h34, hGI, hV, hK⟩ := R.2.2.2.2
  obtain ⟨hG, hS, hg1, hh1, hFI, e, he, h14, hH, hD⟩ := id hV
  unfold mX6_whose mX7_whose mX7_isRow
  rcases oR_or b (N := 6) (by decide) with h | ⟨r, hr, rfl⟩
  · simp (disch := omega) only [qlt, qb_some, qb_none, ↓qn_1, ↓qn_2, ↓qn_3, ↓qn_4, ↓qn_9, ↓qn_1000, ↓qn_low, qi_0, qi_1, qi_2, qi_3, qi_4, qi_5, qi_6, qi_7, qi_8, qi_9, qi_10, qi_11, qi_12, qi_13, qi_14, qi_15, qi_16, qi_17, qi_20, qi_24, qi_30, qi_31, qi_32, qi_60, qi_99, qi_100, qi_200, qi_1000, qi_3400, qi_4000, qi_of, pu_gI, pu_pI, nI_leI, nI_ltI, nI_eq, nI_add, pk_mul, pk_sub, pk_div, qw_s, qw_o, qw_l, qr_s, qr_o, qr_l, ql_i, ql_s, ql_o, pk_us, pk_un, pk_uLs, pk_uLn, if_pos, if_neg, if_true, if_false, ite_self, eq_self, Nat.zero_add, Nat.add_zero, qwr, not_true_eq_false, not_false_eq_true, Option.some.injEq, qe_gn0, qe_m1n, qe_gng, qe_ngn, qe_gm, qe_mg, qe_lm1, qe_lgn, qe_lem, qe_leg, qe_tm1, qe_tgn, has4_o (S := S) (k := 1) h, oR_in7 (by decide) h]
    exact ⟨_, _, rfl, rfl, rfl, R⟩
  rcases oR_or c (N := 6) (by decide) with h | ⟨w, hw, rfl⟩
  · simp (disch := omega) only [qlt, qb_some, qb_none, ↓qn_1, ↓qn_2, ↓qn_3, ↓qn_4, ↓qn_9, ↓qn_1000, ↓qn_low, qi_0, qi_1, qi_2, qi_3, qi_4, qi_5, qi_6, qi_7, qi_8, qi_9, qi_10, qi_11, qi_12, qi_13, qi_14, qi_15, qi_16, qi_17, qi_20, qi_24, qi_30, qi_31, qi_32, qi_60, qi_99, qi_100, qi_200, qi_1000, qi_3400, qi_4000, qi_of, pu_gI, pu_pI, nI_leI, nI_ltI, nI_eq, nI_add, pk_mul, pk_sub, pk_div, qw_s, qw_o, qw_l, qr_s, qr_o, qr_l, ql_i, ql_s, ql_o, pk_us, pk_un, pk_uLs, pk_uLn, if_pos, if_neg, if_true, if_false, ite_self, eq_self, Nat.zero_add, Nat.add_zero, qwr, not_true_eq_false, not_false_eq_true, Option.some.injEq, qe_gn0, qe_m1n, qe_gng, qe_ngn, qe_gm, qe_mg, qe_lm1, qe_lgn, qe_lem, qe_leg, qe_tm1, qe_tgn, has4_y, in7_y, has4_o (S := S) (k := 1) h, oR_in7 (by decide) h]
    exact ⟨_, _, rfl, rfl, rfl, R⟩
  by_cases hn0 : n = 0
  · subst hn0
    simp (disch := omega) only [qlt, qb_some, qb_none, ↓qn_1, ↓qn_2, ↓qn_3, ↓qn_4, ↓qn_9, ↓qn_1000, ↓qn_low, qi_0, qi_1, qi_2, qi_3, qi_4, qi_5, qi_6, qi_7, qi_8, qi_9, qi_10, qi_11, qi_12, qi_13, qi_14, qi_15, qi_16, qi_17, qi_20, qi_24, qi_30, qi_31, qi_32, qi_60, qi_99, qi_100, qi_200, qi_1000, qi_3400, qi_4000, qi_of, pu_gI, pu_pI, nI_leI, nI_ltI, nI_eq, nI_add, pk_mul, pk_sub, pk_div, qw_s, qw_o, qw_l, qr_s, qr_o, qr_l, ql_i, ql_s, ql_o, pk_us, pk_un, pk_uLs, pk_uLn, if_pos, if_neg, if_true, if_false, ite_self, eq_self, Nat.zero_add, Nat.add_zero, qwr, not_true_eq_false, not_false_eq_true, Option.some.injEq, qe_gn0, qe_m1n, qe_gng, qe_ngn, qe_gm, qe_mg, qe_lm1, qe_lgn, qe_lem, qe_leg, qe_tm1, qe_tgn, has4_y, in7_y, noGods6 hG.1 hn, h10]
    exact ⟨_, _, rfl, rfl, rfl, R⟩
  rcases book_or R hG.1 h10 hn hr hw with ⟨k, k1, k5, c6, c7⟩ | ⟨c6, c7, m, hm, hr6, hr7, hw6, hrow, hwor, hv⟩
  · simp (disch := omega) only [qlt, qb_some, qb_none, ↓qn_1, ↓qn_2, ↓qn_3, ↓qn_4, ↓qn_9, ↓qn_1000, ↓qn_low, qi_0, qi_1, qi_2, qi_3, qi_4, qi_5, qi_6, qi_7, qi_8, qi_9, qi_10, qi_11, qi_12, qi_13, qi_14, qi_15, qi_16, qi_17, qi_20, qi_24, qi_30, qi_31, qi_32, qi_60, qi_99, qi_100, qi_200, qi_1000, qi_3400, qi_4000, qi_of, pu_gI, pu_pI, nI_leI, nI_ltI, nI_eq, nI_add, pk_mul, pk_sub, pk_div, qw_s, qw_o, qw_l, qr_s, qr_o, qr_l, ql_i, ql_s, ql_o, pk_us, pk_un, pk_uLs, pk_uLn, if_pos, if_neg, if_true, if_false, ite_self, eq_self, Nat.zero_add, Nat.add_zero, qwr, not_true_eq_false, not_false_eq_true, Option.some.injEq, qe_gn0, qe_m1n, qe_gng, qe_ngn, qe_gm, qe_mg, qe_lm1, qe_lgn, qe_lem, qe_leg, qe_tm1, qe_tgn, has4_y, in7_y, noGods6 hG.1 hn, h10, c6, c7, q3_le, q3_0]
    exact ⟨_, _, rfl, rfl, rfl, Rel_found R k5⟩
  · simp (disch := omega) only [qlt, qb_some, qb_none, ↓qn_1, ↓qn_2, ↓qn_3, ↓qn_4, ↓qn_9, ↓qn_1000, ↓qn_low, qi_0, qi_1, qi_2, qi_3, qi_4, qi_5, qi_6, qi_7, qi_8, qi_9, qi_10, qi_11, qi_12, qi_13, qi_14, qi_15, qi_16, qi_17, qi_20, qi_24, qi_30, qi_31, qi_32, qi_60, qi_99, qi_100, qi_200, qi_1000, qi_3400, qi_4000, qi_of, pu_gI, pu_pI, nI_leI, nI_ltI, nI_eq, nI_add, pk_mul, pk_sub, pk_div, qw_s, qw_o, qw_l, qr_s, qr_o, qr_l, ql_i, ql_s, ql_o, pk_us, pk_un, pk_uLs, pk_uLn, if_pos, if_neg, if_true, if_false, ite_self, eq_self, Nat.zero_add, Nat.add_zero, qwr, not_true_eq_false, not_false_eq_true, Option.some.injEq, qe_gn0, qe_m1n, qe_gng, qe_ngn, qe_gm, qe_mg, qe_lm1, qe_lgn, qe_lem, qe_leg, qe_tm1, qe_tgn, has4_y, in7_y, noGods6 hG.1 hn, h10, c6, c7]
    exact whose_l R hn h10 hGI hG hS hFI h14 he hr hw hr6 hr7 hw6 hm hrow hwor hv FU 0 S T (nI 0) 0 (Nat.zero_le n) (by unfold FU; omega) (Sc0_id S T) rfl
