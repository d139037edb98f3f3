/-! ===== PURE: all of a valley is read ===== -/
section VA
variable {S0 T0 S T : vS} {t m p j z : Nat}
theorem gs4 {k : Nat} (ht : t < 4) (hm : m ≤ 60) (hj : j < 4) (hk6 : k < 6) (S T : vS) (p : Nat) (h : Go S0 T0 t m z S T p j 4) (hp : p ≤ m) (hk : T.1 9 (6 * j) = nI k) : ∀ q, 5 - 4 < q → GOut S0 T0 t m z j p (rgD S (nI j)) (lX7_readsGod_57 (nI t) (nI k) (nI (6 * j)) q T (nI 4)) := by
  have := gsi (lo := 0) (hi := 9) (F := fun S => rgE S (nI j)) h ht hm hp hj (by omega) (by omega) rfl rfl hk (fun S p h1 h2 => rgE_d h1 h2 hj) (fun S T p h1 h2 h3 q hq => by
    obtain ⟨q, rfl⟩ : ∃ q2, q = q2 + 1 := ⟨q - 1, by omega⟩
    exact gs5 h1 ht hm h2 hj h3 hk6 q)
  intro q hq
  have h2 := this q hq
  unfold rgD
  rw [qi_0, qi_9]
  exact h2
theorem gs3 {k : Nat} (ht : t < 4) (hm : m ≤ 60) (hj : j < 4) (hk6 : k < 6) (S T : vS) (p : Nat) (h : Go S0 T0 t m z S T p j 3) (hp : p ≤ m) (hk : T.1 9 (6 * j) = nI k) : ∀ q, 5 - 3 < q → GOut S0 T0 t m z j p (rgC S (nI j)) (lX7_readsGod_57 (nI t) (nI k) (nI (6 * j)) q T (nI 3)) := by
  have := gsi (lo := 0) (hi := 9) (F := fun S => rgD S (nI j)) h ht hm hp hj (by omega) (by omega) rfl rfl hk (fun S p h1 h2 => rgD_d h1 h2 hj) (fun S T p h1 h2 h3 q hq => gs4 ht hm hj hk6 S T p h1 h2 h3 q hq)
  intro q hq
  have h2 := this q hq
  unfold rgC
  rw [qi_0, qi_9]
  exact h2
theorem gs2 {k : Nat} (ht : t < 4) (hm : m ≤ 60) (hj : j < 4) (hk6 : k < 6) (S T : vS) (p : Nat) (h : Go S0 T0 t m z S T p j 2) (hp : p ≤ m) (hk : T.1 9 (6 * j) = nI k) : ∀ q, 5 - 2 < q → GOut S0 T0 t m z j p (rgB S (nI j)) (lX7_readsGod_57 (nI t) (nI k) (nI (6 * j)) q T (nI 2)) := by
  have := gsi (lo := 1) (hi := 6) (F := fun S => rgC S (nI j)) h ht hm hp hj (by omega) (by omega) rfl rfl hk (fun S p h1 h2 => rgC_d h1 h2 hj) (fun S T p h1 h2 h3 q hq => gs3 ht hm hj hk6 S T p h1 h2 h3 q hq)
  intro q hq
  have h2 := this q hq
  unfold rgB
  rw [qi_1, qi_6]
  exact h2
theorem gs1 {k : Nat} (ht : t < 4) (hm : m ≤ 60) (hj : j < 4) (hk6 : k < 6) (S T : vS) (p : Nat) (h : Go S0 T0 t m z S T p j 1) (hp : p ≤ m) (hk : T.1 9 (6 * j) = nI k) : ∀ q, 5 - 1 < q → GOut S0 T0 t m z j p (rgA S (nI j)) (lX7_readsGod_57 (nI t) (nI k) (nI (6 * j)) q T (nI 1)) := by
  have := gsi (lo := 0) (hi := 2) (F := fun S => rgB S (nI j)) h ht hm hp hj (by omega) (by omega) rfl rfl hk (fun S p h1 h2 => rgB_d h1 h2 hj) (fun S T p h1 h2 h3 q hq => gs2 ht hm hj hk6 S T p h1 h2 h3 q hq)
  intro q hq
  have h2 := this q hq
  unfold rgA
  rw [qi_0, qi_2]
  exact h2
/-- a god, from its first sign on -/
theorem god67 (ht : t < 4) (hm : m ≤ 60) (hj : j < 4) (h : Go S0 T0 t m z S T p j 0) (hp : p < m) : GOut S0 T0 t m z j p (mX2_readGod S 17 (nI j)) (mX7_readsGod T (nI t)) := by
  have s1 := sign_y h.1 hm hp
  have s2 := byte_y h.1 ht hm hp
  have h6 := h.1.2.2.2.2.2.1
  have h15 := h.2.2.1
  have h4 := h.1.2.2.2.1
  rw [rg_eq]
  unfold mX7_readsGod
  generalize T.1 6 (60 * t + p) = x at s1 s2
  rcases knd_or x with ⟨k, k1, k2, k3, k4⟩ | ⟨k2, k4⟩
  · have k5 := k4 S p s1 h4 (by omega)
    have g1 := Go_put (v := k) (Go_a (q := p + 1) h) (by decide) ⟨fun _ => k1, fun e => absurd e (by decide), fun e => absurd e (by decide), by omega⟩
    have n1 := gs1 ht hm hj k1 _ _ (p + 1) g1 (by omega) (by rw [qw_s]; exact pk_us) FU (by unfold FU; omega)
    simp (disch := omega) only [qlt, qb_some, qb_none, ↓qn_1, ↓qn_2, ↓qn_3, ↓qn_4, ↓qn_9, ↓qn_1000, ↓qn_low, qi_0, qi_1, qi_2, qi_3, qi_4, qi_5, qi_6, qi_7, qi_8, qi_9, qi_10, qi_11, qi_12, qi_13, qi_14, qi_15, qi_16, qi_17, qi_20, qi_24, qi_30, qi_31, qi_32, qi_60, qi_99, qi_100, qi_200, qi_1000, qi_3400, qi_4000, qi_of, pu_gI, pu_pI, nI_leI, nI_ltI, nI_eq, nI_add, pk_mul, pk_sub, pk_div, qw_s, qw_o, qw_l, qr_s, qr_o, qr_l, ql_i, ql_s, ql_o, pk_us, pk_un, pk_uLs, pk_uLn, if_pos, if_neg, if_true, if_false, ite_self, eq_self, Nat.zero_add, Nat.add_zero, qwr, not_true_eq_false, not_false_eq_true, Option.some.injEq, qe_gn0, qe_m1n, qe_gng, qe_ngn, qe_gm, qe_mg, qe_lm1, qe_lgn, qe_lem, qe_leg, qe_tm1, qe_tgn, k5, h6, s2, k2, h15]
    exact GOut_w n1 (by omega)
  · have k5 := k4 S p s1 h4 (by omega)
    obtain ⟨S', d1, d2⟩ := rgA_d (DeS_w (c := 17 + 1 + 1) (j := j) (x := nI 0) (De_S (De_of h.1)) (by decide) (by decide)) (show p < 100 by omega) hj
    simp (disch := omega) only [qlt, qb_some, qb_none, ↓qn_1, ↓qn_2, ↓qn_3, ↓qn_4, ↓qn_9, ↓qn_1000, ↓qn_low, qi_0, qi_1, qi_2, qi_3, qi_4, qi_5, qi_6, qi_7, qi_8, qi_9, qi_10, qi_11, qi_12, qi_13, qi_14, qi_15, qi_16, qi_17, qi_20, qi_24, qi_30, qi_31, qi_32, qi_60, qi_99, qi_100, qi_200, qi_1000, qi_3400, qi_4000, qi_of, pu_gI, pu_pI, nI_leI, nI_ltI, nI_eq, nI_add, pk_mul, pk_sub, pk_div, qw_s, qw_o, qw_l, qr_s, qr_o, qr_l, ql_i, ql_s, ql_o, pk_us, pk_un, pk_uLs, pk_uLn, if_pos, if_neg, if_true, if_false, ite_self, eq_self, Nat.zero_add, Nat.add_zero, qwr, not_true_eq_false, not_false_eq_true, Option.some.injEq, qe_gn0, qe_m1n, qe_gng, qe_ngn, qe_gm, qe_mg, qe_lm1, qe_lgn, qe_lem, qe_leg, qe_tm1, qe_tgn, k5, h6, s2, k2, h15]
    exact Or.inr ⟨S', T, p, d1, rfl, ⟨d2.1, h.1.2.1, d2.2, h6⟩, by omega⟩
/-- blanks are passed -/
theorem skip67 (ht : t < 4) (hm : m ≤ 60) : ∀ d S T p, m - p ≤ d → p ≤ m → Go S0 T0 t m z S T p j 0 →
    ∃ p' S' T', p ≤ p' ∧ p' ≤ m ∧ Go S0 T0 t m z S' T' p' j 0 ∧ (p' < m → T'.1 6 (60 * t + p') ≠ nI 32) ∧ (∀ q, d < q → lX2_skipBlanks_0 17 q S = some S') ∧
      ∀ q, m - p < q → ∃ q', m - p' < q' ∧ lX7_faultOf_15 (nI t) q T = lX7_faultOf_15 (nI t) q' T' := by
  intro d
  induction d with
  | zero =>
    intro S T p h1 h2 h
    have hpm : p = m := by omega
    subst hpm
    obtain ⟨_, _, h3, h4, h5, _⟩ := id h.1
    refine ⟨p, S, T, Nat.le_refl p, Nat.le_refl p, h, fun hp => absurd hp (by omega), fun q hq => ?_, fun q hq => ⟨q, hq, rfl⟩⟩
    obtain ⟨q, rfl⟩ : ∃ q2, q = q2 + 1 := ⟨q - 1, by omega⟩
    rw [lX2_skipBlanks_0]
    simp (disch := omega) only [qlt, qb_some, qb_none, ↓qn_1, ↓qn_2, ↓qn_3, ↓qn_4, ↓qn_9, ↓qn_1000, ↓qn_low, qi_0, qi_1, qi_2, qi_3, qi_4, qi_5, qi_6, qi_7, qi_8, qi_9, qi_10, qi_11, qi_12, qi_13, qi_14, qi_15, qi_16, qi_17, qi_20, qi_24, qi_30, qi_31, qi_32, qi_60, qi_99, qi_100, qi_200, qi_1000, qi_3400, qi_4000, qi_of, pu_gI, pu_pI, nI_leI, nI_ltI, nI_eq, nI_add, pk_mul, pk_sub, pk_div, qw_s, qw_o, qw_l, qr_s, qr_o, qr_l, ql_i, ql_s, ql_o, pk_us, pk_un, pk_uLs, pk_uLn, if_pos, if_neg, if_true, if_false, ite_self, eq_self, Nat.zero_add, Nat.add_zero, qwr, not_true_eq_false, not_false_eq_true, Option.some.injEq, qe_gn0, qe_m1n, qe_gng, qe_ngn, qe_gm, qe_mg, qe_lm1, qe_lgn, qe_lem, qe_leg, qe_tm1, qe_tgn, h3, h4, h5]
  | succ d ih =>
    intro S T p h1 h2 h
    obtain ⟨_, _, h3, h4, h5, h6, _, h8⟩ := id h.1
    by_cases hpm : p = m
    · subst hpm
      refine ⟨p, S, T, Nat.le_refl p, Nat.le_refl p, h, fun hp => absurd hp (by omega), fun q hq => ?_, fun q hq => ⟨q, hq, rfl⟩⟩
      obtain ⟨q, rfl⟩ : ∃ q2, q = q2 + 1 := ⟨q - 1, by omega⟩
      rw [lX2_skipBlanks_0]
      simp (disch := omega) only [qlt, qb_some, qb_none, ↓qn_1, ↓qn_2, ↓qn_3, ↓qn_4, ↓qn_9, ↓qn_1000, ↓qn_low, qi_0, qi_1, qi_2, qi_3, qi_4, qi_5, qi_6, qi_7, qi_8, qi_9, qi_10, qi_11, qi_12, qi_13, qi_14, qi_15, qi_16, qi_17, qi_20, qi_24, qi_30, qi_31, qi_32, qi_60, qi_99, qi_100, qi_200, qi_1000, qi_3400, qi_4000, qi_of, pu_gI, pu_pI, nI_leI, nI_ltI, nI_eq, nI_add, pk_mul, pk_sub, pk_div, qw_s, qw_o, qw_l, qr_s, qr_o, qr_l, ql_i, ql_s, ql_o, pk_us, pk_un, pk_uLs, pk_uLn, if_pos, if_neg, if_true, if_false, ite_self, eq_self, Nat.zero_add, Nat.add_zero, qwr, not_true_eq_false, not_false_eq_true, Option.some.injEq, qe_gn0, qe_m1n, qe_gng, qe_ngn, qe_gm, qe_mg, qe_lm1, qe_lgn, qe_lem, qe_leg, qe_tm1, qe_tgn, h3, h4, h5]
    · have hp : p < m := by omega
      have s1 := sign_y h.1 hm hp
      have s2 := byte_y h.1 ht hm hp
      by_cases hx : T.1 6 (60 * t + p) = nI 32
      · obtain ⟨p', S', T', i1, i2, i3, i4, i5, i6⟩ := ih _ _ (p + 1) (by omega) (by omega) (Go_a (q := p + 1) h)
        rw [hx] at s1 s2
        refine ⟨p', S', T', by omega, i2, i3, i4, fun q hq => ?_, fun q hq => ?_⟩
        · obtain ⟨q, rfl⟩ : ∃ q2, q = q2 + 1 := ⟨q - 1, by omega⟩
          have := i5 q (by omega)
          rw [lX2_skipBlanks_0]
          simp (disch := omega) only [qlt, qb_some, qb_none, ↓qn_1, ↓qn_2, ↓qn_3, ↓qn_4, ↓qn_9, ↓qn_1000, ↓qn_low, qi_0, qi_1, qi_2, qi_3, qi_4, qi_5, qi_6, qi_7, qi_8, qi_9, qi_10, qi_11, qi_12, qi_13, qi_14, qi_15, qi_16, qi_17, qi_20, qi_24, qi_30, qi_31, qi_32, qi_60, qi_99, qi_100, qi_200, qi_1000, qi_3400, qi_4000, qi_of, pu_gI, pu_pI, nI_leI, nI_ltI, nI_eq, nI_add, pk_mul, pk_sub, pk_div, qw_s, qw_o, qw_l, qr_s, qr_o, qr_l, ql_i, ql_s, ql_o, pk_us, pk_un, pk_uLs, pk_uLn, if_pos, if_neg, if_true, if_false, ite_self, eq_self, Nat.zero_add, Nat.add_zero, qwr, not_true_eq_false, not_false_eq_true, Option.some.injEq, qe_gn0, qe_m1n, qe_gng, qe_ngn, qe_gm, qe_mg, qe_lm1, qe_lgn, qe_lem, qe_leg, qe_tm1, qe_tgn, h3, h4, h5, s1]
          exact this
        · obtain ⟨q, rfl⟩ : ∃ q2, q = q2 + 1 := ⟨q - 1, by omega⟩
          obtain ⟨q', w1, w2⟩ := i6 q (by omega)
          refine ⟨q', w1, ?_⟩
          rw [lX7_faultOf_15]
          simp (disch := omega) only [qlt, qb_some, qb_none, ↓qn_1, ↓qn_2, ↓qn_3, ↓qn_4, ↓qn_9, ↓qn_1000, ↓qn_low, qi_0, qi_1, qi_2, qi_3, qi_4, qi_5, qi_6, qi_7, qi_8, qi_9, qi_10, qi_11, qi_12, qi_13, qi_14, qi_15, qi_16, qi_17, qi_20, qi_24, qi_30, qi_31, qi_32, qi_60, qi_99, qi_100, qi_200, qi_1000, qi_3400, qi_4000, qi_of, pu_gI, pu_pI, nI_leI, nI_ltI, nI_eq, nI_add, pk_mul, pk_sub, pk_div, qw_s, qw_o, qw_l, qr_s, qr_o, qr_l, ql_i, ql_s, ql_o, pk_us, pk_un, pk_uLs, pk_uLn, if_pos, if_neg, if_true, if_false, ite_self, eq_self, Nat.zero_add, Nat.add_zero, qwr, not_true_eq_false, not_false_eq_true, Option.some.injEq, qe_gn0, qe_m1n, qe_gng, qe_ngn, qe_gm, qe_mg, qe_lm1, qe_lgn, qe_lem, qe_leg, qe_tm1, qe_tgn, h6, h8, s2]
          exact w2
      · have hx0 : (T.1 6 (60 * t + p) = nI 32) = False := eq_false hx
        refine ⟨p, S, T, Nat.le_refl p, h2, h, fun _ => hx, fun q hq => ?_, fun q hq => ⟨q, hq, rfl⟩⟩
        obtain ⟨q, rfl⟩ : ∃ q2, q = q2 + 1 := ⟨q - 1, by omega⟩
        rw [lX2_skipBlanks_0]
        simp (disch := omega) only [qlt, qb_some, qb_none, ↓qn_1, ↓qn_2, ↓qn_3, ↓qn_4, ↓qn_9, ↓qn_1000, ↓qn_low, qi_0, qi_1, qi_2, qi_3, qi_4, qi_5, qi_6, qi_7, qi_8, qi_9, qi_10, qi_11, qi_12, qi_13, qi_14, qi_15, qi_16, qi_17, qi_20, qi_24, qi_30, qi_31, qi_32, qi_60, qi_99, qi_100, qi_200, qi_1000, qi_3400, qi_4000, qi_of, pu_gI, pu_pI, nI_leI, nI_ltI, nI_eq, nI_add, pk_mul, pk_sub, pk_div, qw_s, qw_o, qw_l, qr_s, qr_o, qr_l, ql_i, ql_s, ql_o, pk_us, pk_un, pk_uLs, pk_uLn, if_pos, if_neg, if_true, if_false, ite_self, eq_self, Nat.zero_add, Nat.add_zero, qwr, not_true_eq_false, not_false_eq_true, Option.some.injEq, qe_gn0, qe_m1n, qe_gng, qe_ngn, qe_gm, qe_mg, qe_lm1, qe_lgn, qe_lem, qe_leg, qe_tm1, qe_tgn, h3, h4, h5, s1, hx0]
theorem skip_d (h : DeS S0 S p) (hp : p < 100) : mX2_skipBlanks S 17 = some S := by
  have key : ∀ q, lX2_skipBlanks_0 17 (q + 1) S = some S := by
    intro q
    rw [lX2_skipBlanks_0]
    have h5 := h.2
    simp (disch := omega) only [qlt, qb_some, qb_none, ↓qn_1, ↓qn_2, ↓qn_3, ↓qn_4, ↓qn_9, ↓qn_1000, ↓qn_low, qi_0, qi_1, qi_2, qi_3, qi_4, qi_5, qi_6, qi_7, qi_8, qi_9, qi_10, qi_11, qi_12, qi_13, qi_14, qi_15, qi_16, qi_17, qi_20, qi_24, qi_30, qi_31, qi_32, qi_60, qi_99, qi_100, qi_200, qi_1000, qi_3400, qi_4000, qi_of, pu_gI, pu_pI, nI_leI, nI_ltI, nI_eq, nI_add, pk_mul, pk_sub, pk_div, qw_s, qw_o, qw_l, qr_s, qr_o, qr_l, ql_i, ql_s, ql_o, pk_us, pk_un, pk_uLs, pk_uLn, if_pos, if_neg, if_true, if_false, ite_self, eq_self, Nat.zero_add, Nat.add_zero, qwr, not_true_eq_false, not_false_eq_true, Option.some.injEq, qe_gn0, qe_m1n, qe_gng, qe_ngn, qe_gm, qe_mg, qe_lm1, qe_lgn, qe_lem, qe_leg, qe_tm1, qe_tgn, h5]
  unfold mX2_skipBlanks
  have := key (FU - 1)
  rw [show FU - 1 + 1 = FU by unfold FU; omega] at this
  exact this
theorem gods_d (h : DeS S0 S p) (hp : p < 100) (hj : j ≤ 4) (q : Nat) : lX2_readGods_2 17 (q + 1) S (nI j) = some S := by
  rw [lX2_readGods_2]
  have h5 := h.2
  simp (disch := omega) only [qlt, qb_some, qb_none, ↓qn_1, ↓qn_2, ↓qn_3, ↓qn_4, ↓qn_9, ↓qn_1000, ↓qn_low, qi_0, qi_1, qi_2, qi_3, qi_4, qi_5, qi_6, qi_7, qi_8, qi_9, qi_10, qi_11, qi_12, qi_13, qi_14, qi_15, qi_16, qi_17, qi_20, qi_24, qi_30, qi_31, qi_32, qi_60, qi_99, qi_100, qi_200, qi_1000, qi_3400, qi_4000, qi_of, pu_gI, pu_pI, nI_leI, nI_ltI, nI_eq, nI_add, pk_mul, pk_sub, pk_div, qw_s, qw_o, qw_l, qr_s, qr_o, qr_l, ql_i, ql_s, ql_o, pk_us, pk_un, pk_uLs, pk_uLn, if_pos, if_neg, if_true, if_false, ite_self, eq_self, Nat.zero_add, Nat.add_zero, qwr, not_true_eq_false, not_false_eq_true, Option.some.injEq, qe_gn0, qe_m1n, qe_gng, qe_ngn, qe_gm, qe_mg, qe_lm1, qe_lgn, qe_lem, qe_leg, qe_tm1, qe_tgn, skip_d h hp, h5]
/-- what comes of the whole -/
def Fin (S0 T0 : vS) (t m : Nat) (cls : Option vS) (md : Option (Int32 × vS)) : Prop :=
  (∃ S' T' j, j ≤ 4 ∧ cls = some S' ∧ md = some (gN, T') ∧ Go S0 T0 t m 1 S' T' m j 0) ∨ (∃ S' T' p, p ≤ 60 ∧ cls = some S' ∧ md = some (nI p, T') ∧ DeS S0 S' p ∧ FrT T0 T')
theorem gods67 (ht : t < 4) (hm : m ≤ 60) : ∀ q6 j S T p q, j ≤ 4 → 4 - j < q6 → p ≤ m → m - p < q → Go S0 T0 t m 1 S T p j 0 → Fin S0 T0 t m (lX2_readGods_2 17 q6 S (nI j)) (lX7_faultOf_15 (nI t) q T) := by
  intro q6
  induction q6 with
  | zero => intro j S T p q h1 h2; omega
  | succ q6 ih =>
    intro j S T p q hj h2 hp hq h
    obtain ⟨p', S1, T1, i1, i2, i3, i4, i5, i6⟩ := skip67 ht hm m S T p (by omega) hp h
    obtain ⟨q', w1, w2⟩ := i6 q hq
    rw [w2]
    have sk : mX2_skipBlanks S 17 = some S1 := i5 FU (by unfold FU; omega)
    obtain ⟨_, _, h3, h4, h5, h6, _, h8⟩ := id i3.1
    have h14 := i3.2.2.2.1
    obtain ⟨q', rfl⟩ : ∃ q2, q' = q2 + 1 := ⟨q' - 1, by omega⟩
    rw [lX2_readGods_2, lX7_faultOf_15]
    by_cases hpm : p' = m
    · subst hpm
      unfold bX7_faultOf_86
      simp (disch := omega) only [qlt, qb_some, qb_none, ↓qn_1, ↓qn_2, ↓qn_3, ↓qn_4, ↓qn_9, ↓qn_1000, ↓qn_low, qi_0, qi_1, qi_2, qi_3, qi_4, qi_5, qi_6, qi_7, qi_8, qi_9, qi_10, qi_11, qi_12, qi_13, qi_14, qi_15, qi_16, qi_17, qi_20, qi_24, qi_30, qi_31, qi_32, qi_60, qi_99, qi_100, qi_200, qi_1000, qi_3400, qi_4000, qi_of, pu_gI, pu_pI, nI_leI, nI_ltI, nI_eq, nI_add, pk_mul, pk_sub, pk_div, qw_s, qw_o, qw_l, qr_s, qr_o, qr_l, ql_i, ql_s, ql_o, pk_us, pk_un, pk_uLs, pk_uLn, if_pos, if_neg, if_true, if_false, ite_self, eq_self, Nat.zero_add, Nat.add_zero, qwr, not_true_eq_false, not_false_eq_true, Option.some.injEq, qe_gn0, qe_m1n, qe_gng, qe_ngn, qe_gm, qe_mg, qe_lm1, qe_lgn, qe_lem, qe_leg, qe_tm1, qe_tgn, sk, h3, h4, h5, h6, h8, h14]
      exact Or.inl ⟨S1, T1, j, hj, rfl, rfl, i3⟩
    · have hp2 : p' < m := by omega
      have s2 := byte_y i3.1 ht hm hp2
      have hx0 : (T1.1 6 (60 * t + p') = nI 32) = False := eq_false (i4 hp2)
      by_cases hj4 : j = 4
      · subst hj4
        have h15 := i3.2.2.1
        unfold bX2_readGods_37 bX7_faultOf_81 mX7_readsGod
        have d := De_of i3.1
        by_cases hkd : mX7_kindOf (T1.1 6 (60 * t + p')) = gN
        · simp (disch := omega) only [qlt, qb_some, qb_none, ↓qn_1, ↓qn_2, ↓qn_3, ↓qn_4, ↓qn_9, ↓qn_1000, ↓qn_low, qi_0, qi_1, qi_2, qi_3, qi_4, qi_5, qi_6, qi_7, qi_8, qi_9, qi_10, qi_11, qi_12, qi_13, qi_14, qi_15, qi_16, qi_17, qi_20, qi_24, qi_30, qi_31, qi_32, qi_60, qi_99, qi_100, qi_200, qi_1000, qi_3400, qi_4000, qi_of, pu_gI, pu_pI, nI_leI, nI_ltI, nI_eq, nI_add, pk_mul, pk_sub, pk_div, qw_s, qw_o, qw_l, qr_s, qr_o, qr_l, ql_i, ql_s, ql_o, pk_us, pk_un, pk_uLs, pk_uLn, if_pos, if_neg, if_true, if_false, ite_self, eq_self, Nat.zero_add, Nat.add_zero, qwr, not_true_eq_false, not_false_eq_true, Option.some.injEq, qe_gn0, qe_m1n, qe_gng, qe_ngn, qe_gm, qe_mg, qe_lm1, qe_lgn, qe_lem, qe_leg, qe_tm1, qe_tgn, sk, h3, h4, h5, h6, h8, h14, h15, s2, hx0, hkd]
          exact Or.inr ⟨_, T1, p', by omega, rfl, rfl, De_S d, d.2.1⟩
        · have hk0 : (mX7_kindOf (T1.1 6 (60 * t + p')) = gN) = False := eq_false hkd
          simp (disch := omega) only [qlt, qb_some, qb_none, ↓qn_1, ↓qn_2, ↓qn_3, ↓qn_4, ↓qn_9, ↓qn_1000, ↓qn_low, qi_0, qi_1, qi_2, qi_3, qi_4, qi_5, qi_6, qi_7, qi_8, qi_9, qi_10, qi_11, qi_12, qi_13, qi_14, qi_15, qi_16, qi_17, qi_20, qi_24, qi_30, qi_31, qi_32, qi_60, qi_99, qi_100, qi_200, qi_1000, qi_3400, qi_4000, qi_of, pu_gI, pu_pI, nI_leI, nI_ltI, nI_eq, nI_add, pk_mul, pk_sub, pk_div, qw_s, qw_o, qw_l, qr_s, qr_o, qr_l, ql_i, ql_s, ql_o, pk_us, pk_un, pk_uLs, pk_uLn, if_pos, if_neg, if_true, if_false, ite_self, eq_self, Nat.zero_add, Nat.add_zero, qwr, not_true_eq_false, not_false_eq_true, Option.some.injEq, qe_gn0, qe_m1n, qe_gng, qe_ngn, qe_gm, qe_mg, qe_lm1, qe_lgn, qe_lem, qe_leg, qe_tm1, qe_tgn, sk, h3, h4, h5, h6, h8, h14, h15, s2, hx0, hk0]
          exact Or.inr ⟨_, T1, p', by omega, rfl, rfl, De_S d, d.2.1⟩
      · have g := god67 ht hm (show j < 4 by omega) i3 hp2
        rcases g with ⟨S2, T2, p2, g1, g2, g3, g4, g5⟩ | ⟨S2, T2, p2, g1, g2, g3, g5⟩
        · have go := ih (j + 1) S2 T2 p2 q' (by omega) (by omega) g5 (by omega) g3
          simp (disch := omega) only [qlt, qb_some, qb_none, ↓qn_1, ↓qn_2, ↓qn_3, ↓qn_4, ↓qn_9, ↓qn_1000, ↓qn_low, qi_0, qi_1, qi_2, qi_3, qi_4, qi_5, qi_6, qi_7, qi_8, qi_9, qi_10, qi_11, qi_12, qi_13, qi_14, qi_15, qi_16, qi_17, qi_20, qi_24, qi_30, qi_31, qi_32, qi_60, qi_99, qi_100, qi_200, qi_1000, qi_3400, qi_4000, qi_of, pu_gI, pu_pI, nI_leI, nI_ltI, nI_eq, nI_add, pk_mul, pk_sub, pk_div, qw_s, qw_o, qw_l, qr_s, qr_o, qr_l, ql_i, ql_s, ql_o, pk_us, pk_un, pk_uLs, pk_uLn, if_pos, if_neg, if_true, if_false, ite_self, eq_self, Nat.zero_add, Nat.add_zero, qwr, not_true_eq_false, not_false_eq_true, Option.some.injEq, qe_gn0, qe_m1n, qe_gng, qe_ngn, qe_gm, qe_mg, qe_lm1, qe_lgn, qe_lem, qe_leg, qe_tm1, qe_tgn, sk, h3, h4, h5, h6, h8, h14, s2, hx0, g1, g2]
          exact go
        · obtain ⟨q6, rfl⟩ : ∃ q2, q6 = q2 + 1 := ⟨q6 - 1, by omega⟩
          have hd := De_S g3
          have e12 := g3.2.2.2
          have gd := gods_d (j := j + 1) hd (show p2 < 100 by omega) (by omega) q6
          unfold bX7_faultOf_81
          simp (disch := omega) only [qlt, qb_some, qb_none, ↓qn_1, ↓qn_2, ↓qn_3, ↓qn_4, ↓qn_9, ↓qn_1000, ↓qn_low, qi_0, qi_1, qi_2, qi_3, qi_4, qi_5, qi_6, qi_7, qi_8, qi_9, qi_10, qi_11, qi_12, qi_13, qi_14, qi_15, qi_16, qi_17, qi_20, qi_24, qi_30, qi_31, qi_32, qi_60, qi_99, qi_100, qi_200, qi_1000, qi_3400, qi_4000, qi_of, pu_gI, pu_pI, nI_leI, nI_ltI, nI_eq, nI_add, pk_mul, pk_sub, pk_div, qw_s, qw_o, qw_l, qr_s, qr_o, qr_l, ql_i, ql_s, ql_o, pk_us, pk_un, pk_uLs, pk_uLn, if_pos, if_neg, if_true, if_false, ite_self, eq_self, Nat.zero_add, Nat.add_zero, qwr, not_true_eq_false, not_false_eq_true, Option.some.injEq, qe_gn0, qe_m1n, qe_gng, qe_ngn, qe_gm, qe_mg, qe_lm1, qe_lgn, qe_lem, qe_leg, qe_tm1, qe_tgn, sk, h3, h4, h5, h6, h8, h14, s2, hx0, g1, g2, gd, e12]
          exact Or.inr ⟨S2, T2, p2, by omega, rfl, rfl, hd, g3.2.1⟩
end VA
