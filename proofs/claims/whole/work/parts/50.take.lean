/-! ===== PURE: gods and scenes are copied ===== -/
theorem va_bool0 : vp_nar .boolean (nI 0) = nI 0 := by decide +kernel
theorem va_bool1 : vp_nar .boolean (nI 1) = nI 1 := by decide +kernel
theorem take0_l {k k1 : Nat} (hk : k + 9 < k1 ∨ k1 + 9 < k) : ∀ q j S, j ≤ 4 → 4 - j < q → ∃ S', lX0_take_26 k k1 q S (nI j) = some S' ∧ (∀ i, 1 ≤ i → i < 10 → ∀ g, S'.1 (k + i) g = if j ≤ g ∧ g < 4 then S.1 (k1 + i) g else S.1 (k + i) g) ∧ (∀ c, (c ≤ k ∨ k + 9 < c) → S'.1 c = S.1 c) ∧ S'.2 = S.2 := by
  intro q
  induction q with
  | zero => intro j S h1 h2; omega
  | succ q ih =>
    intro j S h1 h2
    rw [lX0_take_26]
    by_cases hj : j = 4
    · subst hj
      simp (disch := omega) only [qlt, qb_some, qb_none, ↓qn_1, ↓qn_2, ↓qn_3, ↓qn_4, ↓qn_9, ↓qn_1000, ↓qn_low, qi_0, qi_1, qi_2, qi_3, qi_4, qi_5, qi_6, qi_7, qi_8, qi_9, qi_10, qi_11, qi_12, qi_13, qi_14, qi_15, qi_16, qi_17, qi_20, qi_24, qi_30, qi_31, qi_32, qi_60, qi_99, qi_100, qi_200, qi_1000, qi_3400, qi_4000, qi_of, pu_gI, pu_pI, nI_leI, nI_ltI, nI_eq, nI_add, pk_mul, pk_sub, pk_div, qw_s, qw_o, qw_l, qr_s, qr_o, qr_l, ql_i, ql_s, ql_o, pk_us, pk_un, pk_uLs, pk_uLn, if_pos, if_neg, if_true, if_false, ite_self, eq_self, Nat.zero_add, Nat.add_zero, qwr, not_true_eq_false, not_false_eq_true, Option.some.injEq, qe_gn0, qe_m1n, qe_gng, qe_ngn, qe_gm, qe_mg, qe_lm1, qe_lgn, qe_lem, qe_leg, qe_tm1, qe_tgn]
      exact ⟨S, rfl, fun i h3 h4 g => rfl, fun _ _ => rfl, rfl⟩
    · simp (disch := omega) only [qlt, qb_some, qb_none, ↓qn_1, ↓qn_2, ↓qn_3, ↓qn_4, ↓qn_9, ↓qn_1000, ↓qn_low, qi_0, qi_1, qi_2, qi_3, qi_4, qi_5, qi_6, qi_7, qi_8, qi_9, qi_10, qi_11, qi_12, qi_13, qi_14, qi_15, qi_16, qi_17, qi_20, qi_24, qi_30, qi_31, qi_32, qi_60, qi_99, qi_100, qi_200, qi_1000, qi_3400, qi_4000, qi_of, pu_gI, pu_pI, nI_leI, nI_ltI, nI_eq, nI_add, pk_mul, pk_sub, pk_div, qw_s, qw_o, qw_l, qr_s, qr_o, qr_l, ql_i, ql_s, ql_o, pk_us, pk_un, pk_uLs, pk_uLn, if_pos, if_neg, if_true, if_false, ite_self, eq_self, Nat.zero_add, Nat.add_zero, qwr, not_true_eq_false, not_false_eq_true, Option.some.injEq, qe_gn0, qe_m1n, qe_gng, qe_ngn, qe_gm, qe_mg, qe_lm1, qe_lgn, qe_lem, qe_leg, qe_tm1, qe_tgn]
      obtain ⟨S', e1, e2, e3, e4⟩ := ih (j + 1) (wI (wI (wI (wI (wI (wI (wI (wI (wI S (k + 1) j (S.1 (k1 + 1) j)) (k + 2) j (S.1 (k1 + 2) j)) (k + 3) j (S.1 (k1 + 3) j)) (k + 4) j (S.1 (k1 + 4) j)) (k + 5) j (S.1 (k1 + 5) j)) (k + 6) j (S.1 (k1 + 6) j)) (k + 7) j (S.1 (k1 + 7) j)) (k + 8) j (S.1 (k1 + 8) j)) (k + 9) j (S.1 (k1 + 9) j)) (by omega) (by omega)
      refine ⟨S', e1, fun i h3 h4 g => ?_, fun c hc => ?_, e4⟩
      · rw [e2 i h3 h4 g]
        have fin : ∀ (f f1 : Nat → Int32), (if j + 1 ≤ g ∧ g < 4 then f1 g else upd f j (f1 j) g) = if j ≤ g ∧ g < 4 then f1 g else f g := by
          intro f f1
          by_cases hg : g = j
          · subst hg
            rw [if_neg (by omega), pk_us, if_pos (by omega)]
          · by_cases h5 : j ≤ g ∧ g < 4
            · rw [if_pos (by omega), if_pos h5]
            · rw [if_neg (by omega), if_neg h5, pk_un hg]
        have hi : i = 1 ∨ i = 2 ∨ i = 3 ∨ i = 4 ∨ i = 5 ∨ i = 6 ∨ i = 7 ∨ i = 8 ∨ i = 9 := by omega
        rcases hi with rfl | rfl | rfl | rfl | rfl | rfl | rfl | rfl | rfl
        all_goals (simp (disch := omega) only [qw_s, qw_o]; exact fin _ _)
      · rw [e3 c hc]
        simp (disch := omega) only [qw_o]
theorem take0 {S : vS} {k k1 : Nat} (hk : k + 9 < k1 ∨ k1 + 9 < k) : ∃ S', mX0_take S k k1 = some S' ∧ (∀ j, j < 3 → S'.1 k j = S.1 k1 j) ∧ (∀ i, 1 ≤ i → i < 10 → ∀ g, g < 4 → S'.1 (k + i) g = S.1 (k1 + i) g) ∧ (∀ c, (c < k ∨ k + 9 < c) → S'.1 c = S.1 c) ∧ S'.2 = S.2 := by
  unfold mX0_take
  simp (disch := omega) only [qlt, qb_some, qb_none, ↓qn_1, ↓qn_2, ↓qn_3, ↓qn_4, ↓qn_9, ↓qn_1000, ↓qn_low, qi_0, qi_1, qi_2, qi_3, qi_4, qi_5, qi_6, qi_7, qi_8, qi_9, qi_10, qi_11, qi_12, qi_13, qi_14, qi_15, qi_16, qi_17, qi_20, qi_24, qi_30, qi_31, qi_32, qi_60, qi_99, qi_100, qi_200, qi_1000, qi_3400, qi_4000, qi_of, pu_gI, pu_pI, nI_leI, nI_ltI, nI_eq, nI_add, pk_mul, pk_sub, pk_div, qw_s, qw_o, qw_l, qr_s, qr_o, qr_l, ql_i, ql_s, ql_o, pk_us, pk_un, pk_uLs, pk_uLn, if_pos, if_neg, if_true, if_false, ite_self, eq_self, Nat.zero_add, Nat.add_zero, qwr, not_true_eq_false, not_false_eq_true, Option.some.injEq, qe_gn0, qe_m1n, qe_gng, qe_ngn, qe_gm, qe_mg, qe_lm1, qe_lgn, qe_lem, qe_leg, qe_tm1, qe_tgn]
  obtain ⟨S', e1, e2, e3, e4⟩ := take0_l hk FU 0 (wI (wI (wI S k 0 (S.1 k1 0)) k 1 (S.1 k1 1)) k 2 (S.1 k1 2)) (by omega) (by unfold FU; omega)
  refine ⟨S', e1, fun j hj => ?_, fun i h1 h2 g hg => ?_, fun c hc => ?_, e4⟩
  · rw [e3 k (by omega)]
    have : j = 0 ∨ j = 1 ∨ j = 2 := by omega
    rcases this with rfl | rfl | rfl
    all_goals simp (disch := omega) only [qw_s, pk_us, pk_un]
  · rw [e2 i h1 h2 g, if_pos (by omega)]
    simp (disch := omega) only [qw_o]
  · rw [e3 c (by omega)]
    simp (disch := omega) only [qw_o]
theorem mk4_r1 {S : vS} {k : Nat} {A B C D f : Nat → Int32} : wR (mk4 S k A B C D) (k + 1) f = mk4 S k A f C D := by
  refine Prod.ext ?_ rfl
  funext q
  show (if q = k + 1 then f else if q = k then A else if q = k + 1 then B else if q = k + 2 then C else if q = k + 3 then D else S.1 q) = (if q = k then A else if q = k + 1 then f else if q = k + 2 then C else if q = k + 3 then D else S.1 q)
  by_cases h : q = k + 1
  · rw [if_pos h, if_neg (by omega), if_pos h]
  · rw [if_neg h, if_neg h, if_neg h]
theorem mk4_r2 {S : vS} {k : Nat} {A B C D f : Nat → Int32} : wR (mk4 S k A B C D) (k + 2) f = mk4 S k A B f D := by
  refine Prod.ext ?_ rfl
  funext q
  show (if q = k + 2 then f else if q = k then A else if q = k + 1 then B else if q = k + 2 then C else if q = k + 3 then D else S.1 q) = (if q = k then A else if q = k + 1 then B else if q = k + 2 then f else if q = k + 3 then D else S.1 q)
  by_cases h : q = k + 2
  · rw [if_pos h, if_neg (by omega), if_neg (by omega), if_pos h]
  · simp only [h, if_false]
theorem mk4_mk4 {S : vS} {k : Nat} {A B C D A' B' C' D' : Nat → Int32} : mk4 (mk4 S k A B C D) k A' B' C' D' = mk4 S k A' B' C' D' := by
  refine Prod.ext ?_ rfl
  funext q
  show (if q = k then A' else if q = k + 1 then B' else if q = k + 2 then C' else if q = k + 3 then D' else (if q = k then A else if q = k + 1 then B else if q = k + 2 then C else if q = k + 3 then D else S.1 q)) = (if q = k then A' else if q = k + 1 then B' else if q = k + 2 then C' else if q = k + 3 then D' else S.1 q)
  by_cases h0 : q = k
  · rw [if_pos h0, if_pos h0]
  · by_cases h1 : q = k + 1
    · simp only [if_neg h0, if_pos h1]
    · by_cases h2 : q = k + 2
      · simp only [if_neg h0, if_neg h1, if_pos h2]
      · by_cases h3 : q = k + 3
        · simp only [if_neg h0, if_neg h1, if_neg h2, if_pos h3]
        · simp only [h0, h1, h2, h3, if_false]
def tA (A A1 : Nat → Int32) : Nat → Int32 := upd (upd (upd (upd (upd (upd A 0 (A1 0)) 1 (A1 1)) 2 (A1 2)) 3 (A1 3)) 4 (A1 4)) 5 (A1 5)
def tM (m : Nat) (B B1 : Nat → Int32) : Nat → Int32 := fun i => if i < m then B1 i else B i
theorem tA_i {A A1 : Nat → Int32} {i : Nat} (h : i < 6) : tA A A1 i = A1 i := by
  unfold tA
  have : i = 0 ∨ i = 1 ∨ i = 2 ∨ i = 3 ∨ i = 4 ∨ i = 5 := by omega
  rcases this with rfl | rfl | rfl | rfl | rfl | rfl
  all_goals simp (disch := omega) only [pk_us, pk_un]
theorem tM_i {m i : Nat} {B B1 : Nat → Int32} (h : i < m) : tM m B B1 i = B1 i := if_pos h
theorem take3 {S : vS} {k k1 : Nat} {A B C D : Nat → Int32} (hk : k + 3 < k1 ∨ k1 + 3 < k) : mX3_take (mk4 S k A B C D) k k1 = some (mk4 S k (tA A (S.1 k1)) (tM 3 B (S.1 (k1 + 1))) (tM 4 C (S.1 (k1 + 2))) D) := by
  have l2 : ∀ B', lX3_take_75 k k1 FU (mk4 S k (tA A (S.1 k1)) B' C D) (nI 0) = some (mk4 S k (tA A (S.1 k1)) B' (tM 4 C (S.1 (k1 + 2))) D) := by
    intro B'
    have h := lp_fill0 (fun q U j => lX3_take_75 k k1 q U j) (mk4 S k (tA A (S.1 k1)) B' C D) (k + 2) 0 4 (fun i => S.1 (k1 + 2) i) some
      (by intro q f hf; show lX3_take_75 k k1 (q + 1) _ (nI 4) = _; rw [lX3_take_75]; simp (disch := omega) only [qlt, qb_some, qb_none, ↓qn_1, ↓qn_2, ↓qn_3, ↓qn_4, ↓qn_9, ↓qn_1000, ↓qn_low, qi_0, qi_1, qi_2, qi_3, qi_4, qi_5, qi_6, qi_7, qi_8, qi_9, qi_10, qi_11, qi_12, qi_13, qi_14, qi_15, qi_16, qi_17, qi_20, qi_24, qi_30, qi_31, qi_32, qi_60, qi_99, qi_100, qi_200, qi_1000, qi_3400, qi_4000, qi_of, pu_gI, pu_pI, nI_leI, nI_ltI, nI_eq, nI_add, pk_mul, pk_sub, pk_div, qw_s, qw_o, qw_l, qr_s, qr_o, qr_l, ql_i, ql_s, ql_o, pk_us, pk_un, pk_uLs, pk_uLn, if_pos, if_neg, if_true, if_false, ite_self, eq_self, Nat.zero_add, Nat.add_zero, qwr, not_true_eq_false, not_false_eq_true, Option.some.injEq, qe_gn0, qe_m1n, qe_gng, qe_ngn, qe_gm, qe_mg, qe_lm1, qe_lgn, qe_lem, qe_leg, qe_tm1, qe_tgn])
      (by intro q f j hj hf; show lX3_take_75 k k1 (q + 1) _ (nI j) = _; rw [lX3_take_75]; simp (disch := omega) only [qlt, qb_some, qb_none, ↓qn_1, ↓qn_2, ↓qn_3, ↓qn_4, ↓qn_9, ↓qn_1000, ↓qn_low, qi_0, qi_1, qi_2, qi_3, qi_4, qi_5, qi_6, qi_7, qi_8, qi_9, qi_10, qi_11, qi_12, qi_13, qi_14, qi_15, qi_16, qi_17, qi_20, qi_24, qi_30, qi_31, qi_32, qi_60, qi_99, qi_100, qi_200, qi_1000, qi_3400, qi_4000, qi_of, pu_gI, pu_pI, nI_leI, nI_ltI, nI_eq, nI_add, pk_mul, pk_sub, pk_div, qw_s, qw_o, qw_l, qr_s, qr_o, qr_l, ql_i, ql_s, ql_o, pk_us, pk_un, pk_uLs, pk_uLn, if_pos, if_neg, if_true, if_false, ite_self, eq_self, Nat.zero_add, Nat.add_zero, qwr, not_true_eq_false, not_false_eq_true, Option.some.injEq, qe_gn0, qe_m1n, qe_gng, qe_ngn, qe_gm, qe_mg, qe_lm1, qe_lgn, qe_lem, qe_leg, qe_tm1, qe_tgn, mk4_o]) (by unfold FU; omega)
    refine h.trans ?_
    rw [mk4_r2, mk4_2]
    congr 2
    funext i
    unfold tM
    by_cases hi : i < 4
    · rw [if_pos (by omega), if_pos hi, Nat.sub_zero]
    · rw [if_neg (by omega), if_neg hi]
  have l1 : lX3_take_50 k k1 FU (mk4 S k (tA A (S.1 k1)) B C D) (nI 0) = bX3_take_73 k k1 (mk4 S k (tA A (S.1 k1)) (tM 3 B (S.1 (k1 + 1))) C D) := by
    have h := lp_fill0 (fun q U j => lX3_take_50 k k1 q U j) (mk4 S k (tA A (S.1 k1)) B C D) (k + 1) 0 3 (fun i => S.1 (k1 + 1) i) (fun U => bX3_take_73 k k1 U)
      (by intro q f hf; show lX3_take_50 k k1 (q + 1) _ (nI 3) = _; rw [lX3_take_50]; simp (disch := omega) only [qlt, qb_some, qb_none, ↓qn_1, ↓qn_2, ↓qn_3, ↓qn_4, ↓qn_9, ↓qn_1000, ↓qn_low, qi_0, qi_1, qi_2, qi_3, qi_4, qi_5, qi_6, qi_7, qi_8, qi_9, qi_10, qi_11, qi_12, qi_13, qi_14, qi_15, qi_16, qi_17, qi_20, qi_24, qi_30, qi_31, qi_32, qi_60, qi_99, qi_100, qi_200, qi_1000, qi_3400, qi_4000, qi_of, pu_gI, pu_pI, nI_leI, nI_ltI, nI_eq, nI_add, pk_mul, pk_sub, pk_div, qw_s, qw_o, qw_l, qr_s, qr_o, qr_l, ql_i, ql_s, ql_o, pk_us, pk_un, pk_uLs, pk_uLn, if_pos, if_neg, if_true, if_false, ite_self, eq_self, Nat.zero_add, Nat.add_zero, qwr, not_true_eq_false, not_false_eq_true, Option.some.injEq, qe_gn0, qe_m1n, qe_gng, qe_ngn, qe_gm, qe_mg, qe_lm1, qe_lgn, qe_lem, qe_leg, qe_tm1, qe_tgn])
      (by intro q f j hj hf; show lX3_take_50 k k1 (q + 1) _ (nI j) = _; rw [lX3_take_50]; simp (disch := omega) only [qlt, qb_some, qb_none, ↓qn_1, ↓qn_2, ↓qn_3, ↓qn_4, ↓qn_9, ↓qn_1000, ↓qn_low, qi_0, qi_1, qi_2, qi_3, qi_4, qi_5, qi_6, qi_7, qi_8, qi_9, qi_10, qi_11, qi_12, qi_13, qi_14, qi_15, qi_16, qi_17, qi_20, qi_24, qi_30, qi_31, qi_32, qi_60, qi_99, qi_100, qi_200, qi_1000, qi_3400, qi_4000, qi_of, pu_gI, pu_pI, nI_leI, nI_ltI, nI_eq, nI_add, pk_mul, pk_sub, pk_div, qw_s, qw_o, qw_l, qr_s, qr_o, qr_l, ql_i, ql_s, ql_o, pk_us, pk_un, pk_uLs, pk_uLn, if_pos, if_neg, if_true, if_false, ite_self, eq_self, Nat.zero_add, Nat.add_zero, qwr, not_true_eq_false, not_false_eq_true, Option.some.injEq, qe_gn0, qe_m1n, qe_gng, qe_ngn, qe_gm, qe_mg, qe_lm1, qe_lgn, qe_lem, qe_leg, qe_tm1, qe_tgn, mk4_o]) (by unfold FU; omega)
    refine h.trans ?_
    rw [mk4_r1, mk4_1]
    congr 2
    funext i
    unfold tM
    by_cases hi : i < 3
    · rw [if_pos (by omega), if_pos hi, Nat.sub_zero]
    · rw [if_neg (by omega), if_neg hi]
  unfold mX3_take
  simp (disch := omega) only [qlt, qb_some, qb_none, ↓qn_1, ↓qn_2, ↓qn_3, ↓qn_4, ↓qn_9, ↓qn_1000, ↓qn_low, qi_0, qi_1, qi_2, qi_3, qi_4, qi_5, qi_6, qi_7, qi_8, qi_9, qi_10, qi_11, qi_12, qi_13, qi_14, qi_15, qi_16, qi_17, qi_20, qi_24, qi_30, qi_31, qi_32, qi_60, qi_99, qi_100, qi_200, qi_1000, qi_3400, qi_4000, qi_of, pu_gI, pu_pI, nI_leI, nI_ltI, nI_eq, nI_add, pk_mul, pk_sub, pk_div, qw_s, qw_o, qw_l, qr_s, qr_o, qr_l, ql_i, ql_s, ql_o, pk_us, pk_un, pk_uLs, pk_uLn, if_pos, if_neg, if_true, if_false, ite_self, eq_self, Nat.zero_add, Nat.add_zero, qwr, not_true_eq_false, not_false_eq_true, Option.some.injEq, qe_gn0, qe_m1n, qe_gng, qe_ngn, qe_gm, qe_mg, qe_lm1, qe_lgn, qe_lem, qe_leg, qe_tm1, qe_tgn, mk4_w0, mk4_o]
  refine (show _ = lX3_take_50 k k1 FU (mk4 S k (tA A (S.1 k1)) B C D) (nI 0) from rfl).trans ?_
  rw [l1]
  unfold bX3_take_73
  rw [qi_0]
  exact l2 _
theorem ScR_take {S : vS} {k k1 n : Nat} {A B C D F : Nat → Int32} (hn : n ≤ 4) (hS : ScR S k1 n F) : ScR (mk4 S k (tA A (S.1 k1)) (tM 3 B (S.1 (k1 + 1))) (tM 4 C (S.1 (k1 + 2))) D) k n F :=
  ScR_tr hn (fun j hj => by rw [mk4_0, tA_i (by omega)]) (fun j hj => by rw [mk4_1, tM_i (by omega)]) (fun j hj => by rw [mk4_2, tM_i (by omega)]) hS
