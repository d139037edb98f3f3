/-! ===== PURE: gods are read, one by one ===== -/
def Sto (S T : vS) : Prop := ∀ i, i < 3 → S.1 28 i = T.1 8 i ∧ ∃ s, s ≤ 9 ∧ T.1 8 i = nI s
def PVi (i v : Nat) : Prop := (i = 0 → v < 6) ∧ (i = 1 → v < 3) ∧ (i = 2 → 1 ≤ v ∧ v ≤ 6) ∧ v ≤ 9
/-- j gods are read, and i numbers of the next; z: stores are read -/
def Go (S0 T0 : vS) (t m z : Nat) (S T : vS) (p j i : Nat) : Prop :=
  Al S0 T0 t m S T p ∧ S.1 18 0 = nI j ∧ T.1 0 15 = nI j ∧ T.1 0 14 = nI z ∧ (z = 1 → Sto S T) ∧
  (∀ g i', i' < 6 → ((g < j) ∨ (g = j ∧ i' < i)) → S.1 (19 + i') g = T.1 9 (6 * g + i')) ∧ GInv j (T.1 9) ∧ ∀ i', i' < i → ∃ v, PVi i' v ∧ T.1 9 (6 * j + i') = nI v
theorem GInv_tr {n : Nat} {G G' : Nat → Int32} (h : ∀ i, i < 6 * n → G' i = G i) (R : GInv n G) : GInv n G' := by
  intro g hg
  have e1 : gK G' g = gK G g := h _ (by omega)
  have e2 : gF G' g = gF G g := h _ (by omega)
  have e3 : gP G' g = gP G g := h _ (by omega)
  have e4 : gG G' g = gG G g := h _ (by omega)
  have e5 : gH G' g = gH G g := h _ (by omega)
  have e6 : gA G' g = gA G g := h _ (by omega)
  rw [e1, e2, e3, e4, e5, e6]
  exact R g hg
section GO
variable {S0 T0 S T : vS} {t m p j i z : Nat}
theorem Go_a {q : Nat} (h : Go S0 T0 t m z S T p j i) : Go S0 T0 t m z (wI S 17 4 (nI q)) (wI T 0 12 (nI q)) q j i := by
  obtain ⟨h1, h2, h3, h4, h5, h6, h7, h8⟩ := h
  refine ⟨Al_w' h1, by simp (disch := omega) only [qlt, qb_some, qb_none, ↓qn_1, ↓qn_2, ↓qn_3, ↓qn_4, ↓qn_9, ↓qn_1000, ↓qn_low, qi_0, qi_1, qi_2, qi_3, qi_4, qi_5, qi_6, qi_7, qi_8, qi_9, qi_10, qi_11, qi_12, qi_13, qi_14, qi_15, qi_16, qi_17, qi_20, qi_24, qi_30, qi_31, qi_32, qi_60, qi_99, qi_100, qi_200, qi_1000, qi_3400, qi_4000, qi_of, pu_gI, pu_pI, nI_leI, nI_ltI, nI_eq, nI_add, pk_mul, pk_sub, pk_div, qw_s, qw_o, qw_l, qr_s, qr_o, qr_l, ql_i, ql_s, ql_o, pk_us, pk_un, pk_uLs, pk_uLn, if_pos, if_neg, if_true, if_false, ite_self, eq_self, Nat.zero_add, Nat.add_zero, qwr, not_true_eq_false, not_false_eq_true, Option.some.injEq, qe_gn0, qe_m1n, qe_gng, qe_ngn, qe_gm, qe_mg, qe_lm1, qe_lgn, qe_lem, qe_leg, qe_tm1, qe_tgn]; exact h2, by simp (disch := omega) only [qlt, qb_some, qb_none, ↓qn_1, ↓qn_2, ↓qn_3, ↓qn_4, ↓qn_9, ↓qn_1000, ↓qn_low, qi_0, qi_1, qi_2, qi_3, qi_4, qi_5, qi_6, qi_7, qi_8, qi_9, qi_10, qi_11, qi_12, qi_13, qi_14, qi_15, qi_16, qi_17, qi_20, qi_24, qi_30, qi_31, qi_32, qi_60, qi_99, qi_100, qi_200, qi_1000, qi_3400, qi_4000, qi_of, pu_gI, pu_pI, nI_leI, nI_ltI, nI_eq, nI_add, pk_mul, pk_sub, pk_div, qw_s, qw_o, qw_l, qr_s, qr_o, qr_l, ql_i, ql_s, ql_o, pk_us, pk_un, pk_uLs, pk_uLn, if_pos, if_neg, if_true, if_false, ite_self, eq_self, Nat.zero_add, Nat.add_zero, qwr, not_true_eq_false, not_false_eq_true, Option.some.injEq, qe_gn0, qe_m1n, qe_gng, qe_ngn, qe_gm, qe_mg, qe_lm1, qe_lgn, qe_lem, qe_leg, qe_tm1, qe_tgn]; exact h3, by simp (disch := omega) only [qlt, qb_some, qb_none, ↓qn_1, ↓qn_2, ↓qn_3, ↓qn_4, ↓qn_9, ↓qn_1000, ↓qn_low, qi_0, qi_1, qi_2, qi_3, qi_4, qi_5, qi_6, qi_7, qi_8, qi_9, qi_10, qi_11, qi_12, qi_13, qi_14, qi_15, qi_16, qi_17, qi_20, qi_24, qi_30, qi_31, qi_32, qi_60, qi_99, qi_100, qi_200, qi_1000, qi_3400, qi_4000, qi_of, pu_gI, pu_pI, nI_leI, nI_ltI, nI_eq, nI_add, pk_mul, pk_sub, pk_div, qw_s, qw_o, qw_l, qr_s, qr_o, qr_l, ql_i, ql_s, ql_o, pk_us, pk_un, pk_uLs, pk_uLn, if_pos, if_neg, if_true, if_false, ite_self, eq_self, Nat.zero_add, Nat.add_zero, qwr, not_true_eq_false, not_false_eq_true, Option.some.injEq, qe_gn0, qe_m1n, qe_gng, qe_ngn, qe_gm, qe_mg, qe_lm1, qe_lgn, qe_lem, qe_leg, qe_tm1, qe_tgn]; exact h4, fun hz a ha => ?_, fun g a ha hg => ?_, ?_, fun a ha => ?_⟩
  · rw [qw_o (by decide), qw_o (by decide)]; exact h5 hz a ha
  · rw [qw_o (by omega), qw_o (by decide)]; exact h6 g a ha hg
  · rw [qw_o (by decide)]; exact h7
  · rw [qw_o (by decide)]; exact h8 a ha
theorem Go_13 {w : Int32} (h : Go S0 T0 t m z S T p j i) : Go S0 T0 t m z S (wI T 0 13 w) p j i := by
  obtain ⟨h1, h2, h3, h4, h5, h6, h7, h8⟩ := h
  refine ⟨Al_t h1 (by decide), h2, by simp (disch := omega) only [qlt, qb_some, qb_none, ↓qn_1, ↓qn_2, ↓qn_3, ↓qn_4, ↓qn_9, ↓qn_1000, ↓qn_low, qi_0, qi_1, qi_2, qi_3, qi_4, qi_5, qi_6, qi_7, qi_8, qi_9, qi_10, qi_11, qi_12, qi_13, qi_14, qi_15, qi_16, qi_17, qi_20, qi_24, qi_30, qi_31, qi_32, qi_60, qi_99, qi_100, qi_200, qi_1000, qi_3400, qi_4000, qi_of, pu_gI, pu_pI, nI_leI, nI_ltI, nI_eq, nI_add, pk_mul, pk_sub, pk_div, qw_s, qw_o, qw_l, qr_s, qr_o, qr_l, ql_i, ql_s, ql_o, pk_us, pk_un, pk_uLs, pk_uLn, if_pos, if_neg, if_true, if_false, ite_self, eq_self, Nat.zero_add, Nat.add_zero, qwr, not_true_eq_false, not_false_eq_true, Option.some.injEq, qe_gn0, qe_m1n, qe_gng, qe_ngn, qe_gm, qe_mg, qe_lm1, qe_lgn, qe_lem, qe_leg, qe_tm1, qe_tgn]; exact h3, by simp (disch := omega) only [qlt, qb_some, qb_none, ↓qn_1, ↓qn_2, ↓qn_3, ↓qn_4, ↓qn_9, ↓qn_1000, ↓qn_low, qi_0, qi_1, qi_2, qi_3, qi_4, qi_5, qi_6, qi_7, qi_8, qi_9, qi_10, qi_11, qi_12, qi_13, qi_14, qi_15, qi_16, qi_17, qi_20, qi_24, qi_30, qi_31, qi_32, qi_60, qi_99, qi_100, qi_200, qi_1000, qi_3400, qi_4000, qi_of, pu_gI, pu_pI, nI_leI, nI_ltI, nI_eq, nI_add, pk_mul, pk_sub, pk_div, qw_s, qw_o, qw_l, qr_s, qr_o, qr_l, ql_i, ql_s, ql_o, pk_us, pk_un, pk_uLs, pk_uLn, if_pos, if_neg, if_true, if_false, ite_self, eq_self, Nat.zero_add, Nat.add_zero, qwr, not_true_eq_false, not_false_eq_true, Option.some.injEq, qe_gn0, qe_m1n, qe_gng, qe_ngn, qe_gm, qe_mg, qe_lm1, qe_lgn, qe_lem, qe_leg, qe_tm1, qe_tgn]; exact h4, fun hz a ha => ?_, fun g a ha hg => ?_, ?_, fun a ha => ?_⟩
  · rw [qw_o (by decide)]; exact h5 hz a ha
  · rw [qw_o (by decide)]; exact h6 g a ha hg
  · rw [qw_o (by decide)]; exact h7
  · rw [qw_o (by decide)]; exact h8 a ha
theorem Go_put {v : Nat} (h : Go S0 T0 t m z S T p j i) (hi : i < 6) (hv : PVi i v) : Go S0 T0 t m z (wI S (19 + i) j (nI v)) (wI T 9 (6 * j + i) (nI v)) p j (i + 1) := by
  obtain ⟨h1, h2, h3, h4, h5, h6, h7, h8⟩ := h
  refine ⟨Al_p h1 (by omega) (by decide), by rw [qw_o (by omega)]; exact h2, by simp (disch := omega) only [qlt, qb_some, qb_none, ↓qn_1, ↓qn_2, ↓qn_3, ↓qn_4, ↓qn_9, ↓qn_1000, ↓qn_low, qi_0, qi_1, qi_2, qi_3, qi_4, qi_5, qi_6, qi_7, qi_8, qi_9, qi_10, qi_11, qi_12, qi_13, qi_14, qi_15, qi_16, qi_17, qi_20, qi_24, qi_30, qi_31, qi_32, qi_60, qi_99, qi_100, qi_200, qi_1000, qi_3400, qi_4000, qi_of, pu_gI, pu_pI, nI_leI, nI_ltI, nI_eq, nI_add, pk_mul, pk_sub, pk_div, qw_s, qw_o, qw_l, qr_s, qr_o, qr_l, ql_i, ql_s, ql_o, pk_us, pk_un, pk_uLs, pk_uLn, if_pos, if_neg, if_true, if_false, ite_self, eq_self, Nat.zero_add, Nat.add_zero, qwr, not_true_eq_false, not_false_eq_true, Option.some.injEq, qe_gn0, qe_m1n, qe_gng, qe_ngn, qe_gm, qe_mg, qe_lm1, qe_lgn, qe_lem, qe_leg, qe_tm1, qe_tgn]; exact h3, by simp (disch := omega) only [qlt, qb_some, qb_none, ↓qn_1, ↓qn_2, ↓qn_3, ↓qn_4, ↓qn_9, ↓qn_1000, ↓qn_low, qi_0, qi_1, qi_2, qi_3, qi_4, qi_5, qi_6, qi_7, qi_8, qi_9, qi_10, qi_11, qi_12, qi_13, qi_14, qi_15, qi_16, qi_17, qi_20, qi_24, qi_30, qi_31, qi_32, qi_60, qi_99, qi_100, qi_200, qi_1000, qi_3400, qi_4000, qi_of, pu_gI, pu_pI, nI_leI, nI_ltI, nI_eq, nI_add, pk_mul, pk_sub, pk_div, qw_s, qw_o, qw_l, qr_s, qr_o, qr_l, ql_i, ql_s, ql_o, pk_us, pk_un, pk_uLs, pk_uLn, if_pos, if_neg, if_true, if_false, ite_self, eq_self, Nat.zero_add, Nat.add_zero, qwr, not_true_eq_false, not_false_eq_true, Option.some.injEq, qe_gn0, qe_m1n, qe_gng, qe_ngn, qe_gm, qe_mg, qe_lm1, qe_lgn, qe_lem, qe_leg, qe_tm1, qe_tgn]; exact h4, fun hz a ha => ?_, fun g a ha hg => ?_, ?_, fun a ha => ?_⟩
  · rw [qw_o (by omega), qw_o (by decide)]; exact h5 hz a ha
  · by_cases hga : g = j ∧ a = i
    · obtain ⟨rfl, rfl⟩ := hga
      rw [qw_s, qw_s, pk_us, pk_us]
    · have e : (wI S (19 + i) j (nI v)).1 (19 + a) g = S.1 (19 + a) g := by
        by_cases hai : a = i
        · subst hai
          rw [qw_s, pk_un (by omega)]
        · rw [qw_o (by omega)]
      rw [e, qw_s, pk_un (by omega)]
      exact h6 g a ha (by omega)
  · rw [qw_s]
    exact GInv_tr (fun a ha => pk_un (by omega)) h7
  · by_cases hai : a = i
    · subst hai
      exact ⟨v, hv, by rw [qw_s, pk_us]⟩
    · rw [qw_s, pk_un (by omega)]
      exact h8 a (by omega)
/-- the god is complete -/
theorem Go_next {b : Int32} {k : Nat} (h : Go S0 T0 t m z S T p j 5) (hj : j < 4) (hk : T.1 9 (6 * j) = nI k) (hk6 : k < 6) (hb : (b = gN ∧ k ≠ 1) ∨ ∃ o, o < j ∧ b = nI o) : Go S0 T0 t m z (wI (wI S 24 j b) 18 0 (nI (j + 1))) (wI (wI T 9 (6 * j + 5) b) 0 15 (nI (j + 1))) p (j + 1) 0 := by
  obtain ⟨h1, h2, h3, h4, h5, h6, h7, h8⟩ := h
  refine ⟨Al_m (Al_p h1 (by omega) (by decide)) (by omega) (by decide), by rw [qw_s, pk_us], by rw [qw_s, pk_us], by simp (disch := omega) only [qlt, qb_some, qb_none, ↓qn_1, ↓qn_2, ↓qn_3, ↓qn_4, ↓qn_9, ↓qn_1000, ↓qn_low, qi_0, qi_1, qi_2, qi_3, qi_4, qi_5, qi_6, qi_7, qi_8, qi_9, qi_10, qi_11, qi_12, qi_13, qi_14, qi_15, qi_16, qi_17, qi_20, qi_24, qi_30, qi_31, qi_32, qi_60, qi_99, qi_100, qi_200, qi_1000, qi_3400, qi_4000, qi_of, pu_gI, pu_pI, nI_leI, nI_ltI, nI_eq, nI_add, pk_mul, pk_sub, pk_div, qw_s, qw_o, qw_l, qr_s, qr_o, qr_l, ql_i, ql_s, ql_o, pk_us, pk_un, pk_uLs, pk_uLn, if_pos, if_neg, if_true, if_false, ite_self, eq_self, Nat.zero_add, Nat.add_zero, qwr, not_true_eq_false, not_false_eq_true, Option.some.injEq, qe_gn0, qe_m1n, qe_gng, qe_ngn, qe_gm, qe_mg, qe_lm1, qe_lgn, qe_lem, qe_leg, qe_tm1, qe_tgn]; exact h4, fun hz a ha => ?_, fun g a ha hg => ?_, ?_, fun a ha => absurd ha (by omega)⟩
  · rw [qw_o (by decide), qw_o (by decide), qw_o (by decide), qw_o (by decide)]; exact h5 hz a ha
  · rw [qw_o (by omega), qw_o (c := 9) (k := 0) (by decide)]
    by_cases hga : g = j ∧ a = 5
    · obtain ⟨rfl, rfl⟩ := hga
      rw [qw_s, qw_s, pk_us, pk_us]
    · have e : (wI S 24 j b).1 (19 + a) g = S.1 (19 + a) g := by
        by_cases hai : a = 5
        · subst hai
          rw [qw_s, pk_un (by omega)]
        · rw [qw_o (by omega)]
      rw [e, qw_s, pk_un (by omega)]
      exact h6 g a ha (by omega)
  · rw [qw_o (by decide), qw_s]
    have hG := GInv_tr (G' := upd (T.1 9) (6 * j + 5) b) (fun a ha => pk_un (by omega)) h7
    intro g hg
    by_cases hgj : g = j
    · subst hgj
      obtain ⟨v0, p0, e0⟩ := h8 0 (by decide)
      obtain ⟨v1, p1, e1⟩ := h8 1 (by decide)
      obtain ⟨v2, p2, e2⟩ := h8 2 (by decide)
      obtain ⟨v3, p3, e3⟩ := h8 3 (by decide)
      obtain ⟨v4, p4, e4⟩ := h8 4 (by decide)
      have c0 : gK (upd (T.1 9) (6 * g + 5) b) g = nI k := by unfold gK; rw [pk_un (by omega)]; exact hk
      have c1 : gF (upd (T.1 9) (6 * g + 5) b) g = nI v1 := by unfold gF; rw [pk_un (by omega)]; exact e1
      have c2 : gP (upd (T.1 9) (6 * g + 5) b) g = nI v2 := by unfold gP; rw [pk_un (by omega)]; exact e2
      have c3 : gG (upd (T.1 9) (6 * g + 5) b) g = nI v3 := by unfold gG; rw [pk_un (by omega)]; exact e3
      have c4 : gH (upd (T.1 9) (6 * g + 5) b) g = nI v4 := by unfold gH; rw [pk_un (by omega)]; exact e4
      have c5 : gA (upd (T.1 9) (6 * g + 5) b) g = b := by unfold gA; rw [pk_us]
      rw [c0, c1, c2, c3, c4, c5]
      refine ⟨⟨k, hk6, rfl⟩, ⟨v1, p1.2.1 rfl, rfl⟩, ⟨v2, (p2.2.2.1 rfl).1, (p2.2.2.1 rfl).2, rfl⟩, ⟨v3, p3.2.2.2, rfl⟩, ⟨v4, p4.2.2.2, rfl⟩, ?_, fun hk1 hbn => ?_⟩
      · rcases hb with hb | hb
        · exact Or.inl hb.1
        · exact Or.inr hb
      · have hk1 : k = 1 := (nI_eq (by omega) (by omega)).mp hk1
        rcases hb with hb | ⟨o, o1, o2⟩
        · exact hb.2 hk1
        · rw [hbn] at o2
          exact qe_gn (show o < 2 ^ 31 by omega) o2.symm
    · exact hG g (by omega)
/-- what comes of a god -/
def GOut (S0 T0 : vS) (t m z j p : Nat) (cls : Option vS) (md : Option (Int32 × vS)) : Prop :=
  (∃ S' T' p', cls = some S' ∧ md = some (nI 1, T') ∧ Go S0 T0 t m z S' T' p' (j + 1) 0 ∧ p < p' ∧ p' ≤ m) ∨ (∃ S' T' p', cls = some S' ∧ md = some (nI 0, T') ∧ De S0 T0 S' T' p' ∧ p' ≤ m)
theorem GOut_w {q : Nat} {cls : Option vS} {md : Option (Int32 × vS)} (h : GOut S0 T0 t m z j q cls md) (hq : p ≤ q) : GOut S0 T0 t m z j p cls md := by
  rcases h with ⟨S', T', p', h1, h2, h3, h4, h5⟩ | h
  · exact Or.inl ⟨S', T', p', h1, h2, h3, by omega, h5⟩
  · exact Or.inr h
theorem gs5 {k : Nat} (h : Go S0 T0 t m z S T p j 5) (ht : t < 4) (hm : m ≤ 60) (hp : p ≤ m) (hj : j < 4) (hk : T.1 9 (6 * j) = nI k) (hk6 : k < 6) : ∀ q, GOut S0 T0 t m z j p (rgE S (nI j)) (lX7_readsGod_57 (nI t) (nI k) (nI (6 * j)) (q + 1) T (nI 5)) := by
  intro q
  rw [lX7_readsGod_57]
  have hk2 : S.1 (17 + 1 + 1) j = nI k := by rw [← hk]; exact h.2.2.2.2.2.1 j 0 (by decide) (Or.inr ⟨rfl, by decide⟩)
  have hE : rgE S (nI j) = bX2_readGod_114 17 S (nI j) (if k = 1 then nI 1 else nI 0) (nI j) (nI j) := by
    unfold rgE
    by_cases hk1 : k = 1
    · subst hk1
      simp (disch := omega) only [qlt, qb_some, qb_none, ↓qn_1, ↓qn_2, ↓qn_3, ↓qn_4, ↓qn_9, ↓qn_1000, ↓qn_low, qi_0, qi_1, qi_2, qi_3, qi_4, qi_5, qi_6, qi_7, qi_8, qi_9, qi_10, qi_11, qi_12, qi_13, qi_14, qi_15, qi_16, qi_17, qi_20, qi_24, qi_30, qi_31, qi_32, qi_60, qi_99, qi_100, qi_200, qi_1000, qi_3400, qi_4000, qi_of, pu_gI, pu_pI, nI_leI, nI_ltI, nI_eq, nI_add, pk_mul, pk_sub, pk_div, qw_s, qw_o, qw_l, qr_s, qr_o, qr_l, ql_i, ql_s, ql_o, pk_us, pk_un, pk_uLs, pk_uLn, if_pos, if_neg, if_true, if_false, ite_self, eq_self, Nat.zero_add, Nat.add_zero, qwr, not_true_eq_false, not_false_eq_true, Option.some.injEq, qe_gn0, qe_m1n, qe_gng, qe_ngn, qe_gm, qe_mg, qe_lm1, qe_lgn, qe_lem, qe_leg, qe_tm1, qe_tgn, hk2]
    · simp (disch := omega) only [qlt, qb_some, qb_none, ↓qn_1, ↓qn_2, ↓qn_3, ↓qn_4, ↓qn_9, ↓qn_1000, ↓qn_low, qi_0, qi_1, qi_2, qi_3, qi_4, qi_5, qi_6, qi_7, qi_8, qi_9, qi_10, qi_11, qi_12, qi_13, qi_14, qi_15, qi_16, qi_17, qi_20, qi_24, qi_30, qi_31, qi_32, qi_60, qi_99, qi_100, qi_200, qi_1000, qi_3400, qi_4000, qi_of, pu_gI, pu_pI, nI_leI, nI_ltI, nI_eq, nI_add, pk_mul, pk_sub, pk_div, qw_s, qw_o, qw_l, qr_s, qr_o, qr_l, ql_i, ql_s, ql_o, pk_us, pk_un, pk_uLs, pk_uLn, if_pos, if_neg, if_true, if_false, ite_self, eq_self, Nat.zero_add, Nat.add_zero, qwr, not_true_eq_false, not_false_eq_true, Option.some.injEq, qe_gn0, qe_m1n, qe_gng, qe_ngn, qe_gm, qe_mg, qe_lm1, qe_lgn, qe_lem, qe_leg, qe_tm1, qe_tgn, hk2]
  rw [hE]
  unfold bX2_readGod_114
  rcases nb67 h.1 ht hm hp hj h.2.2.1 hk6 with ⟨b, b1, b2, b3, b4⟩ | ⟨b3, b4⟩
  · refine Or.inl ⟨_, _, p + 1, ?_, ?_, Go_next (Go_a (q := p + 1) h) hj (by simp (disch := omega) only [qlt, qb_some, qb_none, ↓qn_1, ↓qn_2, ↓qn_3, ↓qn_4, ↓qn_9, ↓qn_1000, ↓qn_low, qi_0, qi_1, qi_2, qi_3, qi_4, qi_5, qi_6, qi_7, qi_8, qi_9, qi_10, qi_11, qi_12, qi_13, qi_14, qi_15, qi_16, qi_17, qi_20, qi_24, qi_30, qi_31, qi_32, qi_60, qi_99, qi_100, qi_200, qi_1000, qi_3400, qi_4000, qi_of, pu_gI, pu_pI, nI_leI, nI_ltI, nI_eq, nI_add, pk_mul, pk_sub, pk_div, qw_s, qw_o, qw_l, qr_s, qr_o, qr_l, ql_i, ql_s, ql_o, pk_us, pk_un, pk_uLs, pk_uLn, if_pos, if_neg, if_true, if_false, ite_self, eq_self, Nat.zero_add, Nat.add_zero, qwr, not_true_eq_false, not_false_eq_true, Option.some.injEq, qe_gn0, qe_m1n, qe_gng, qe_ngn, qe_gm, qe_mg, qe_lm1, qe_lgn, qe_lem, qe_leg, qe_tm1, qe_tgn]; exact hk) hk6 b1, by omega, by omega⟩
    · simp (disch := omega) only [qlt, qb_some, qb_none, ↓qn_1, ↓qn_2, ↓qn_3, ↓qn_4, ↓qn_9, ↓qn_1000, ↓qn_low, qi_0, qi_1, qi_2, qi_3, qi_4, qi_5, qi_6, qi_7, qi_8, qi_9, qi_10, qi_11, qi_12, qi_13, qi_14, qi_15, qi_16, qi_17, qi_20, qi_24, qi_30, qi_31, qi_32, qi_60, qi_99, qi_100, qi_200, qi_1000, qi_3400, qi_4000, qi_of, pu_gI, pu_pI, nI_leI, nI_ltI, nI_eq, nI_add, pk_mul, pk_sub, pk_div, qw_s, qw_o, qw_l, qr_s, qr_o, qr_l, ql_i, ql_s, ql_o, pk_us, pk_un, pk_uLs, pk_uLn, if_pos, if_neg, if_true, if_false, ite_self, eq_self, Nat.zero_add, Nat.add_zero, qwr, not_true_eq_false, not_false_eq_true, Option.some.injEq, qe_gn0, qe_m1n, qe_gng, qe_ngn, qe_gm, qe_mg, qe_lm1, qe_lgn, qe_lem, qe_leg, qe_tm1, qe_tgn, b3]
    · have h15 := h.2.2.1
      have := b4 (6 * j)
      simp (disch := omega) only [qlt, qb_some, qb_none, ↓qn_1, ↓qn_2, ↓qn_3, ↓qn_4, ↓qn_9, ↓qn_1000, ↓qn_low, qi_0, qi_1, qi_2, qi_3, qi_4, qi_5, qi_6, qi_7, qi_8, qi_9, qi_10, qi_11, qi_12, qi_13, qi_14, qi_15, qi_16, qi_17, qi_20, qi_24, qi_30, qi_31, qi_32, qi_60, qi_99, qi_100, qi_200, qi_1000, qi_3400, qi_4000, qi_of, pu_gI, pu_pI, nI_leI, nI_ltI, nI_eq, nI_add, pk_mul, pk_sub, pk_div, qw_s, qw_o, qw_l, qr_s, qr_o, qr_l, ql_i, ql_s, ql_o, pk_us, pk_un, pk_uLs, pk_uLn, if_pos, if_neg, if_true, if_false, ite_self, eq_self, Nat.zero_add, Nat.add_zero, qwr, not_true_eq_false, not_false_eq_true, Option.some.injEq, qe_gn0, qe_m1n, qe_gng, qe_ngn, qe_gm, qe_mg, qe_lm1, qe_lgn, qe_lem, qe_leg, qe_tm1, qe_tgn, this]
      unfold bX7_readsGod_213
      simp (disch := omega) only [qlt, qb_some, qb_none, ↓qn_1, ↓qn_2, ↓qn_3, ↓qn_4, ↓qn_9, ↓qn_1000, ↓qn_low, qi_0, qi_1, qi_2, qi_3, qi_4, qi_5, qi_6, qi_7, qi_8, qi_9, qi_10, qi_11, qi_12, qi_13, qi_14, qi_15, qi_16, qi_17, qi_20, qi_24, qi_30, qi_31, qi_32, qi_60, qi_99, qi_100, qi_200, qi_1000, qi_3400, qi_4000, qi_of, pu_gI, pu_pI, nI_leI, nI_ltI, nI_eq, nI_add, pk_mul, pk_sub, pk_div, qw_s, qw_o, qw_l, qr_s, qr_o, qr_l, ql_i, ql_s, ql_o, pk_us, pk_un, pk_uLs, pk_uLn, if_pos, if_neg, if_true, if_false, ite_self, eq_self, Nat.zero_add, Nat.add_zero, qwr, not_true_eq_false, not_false_eq_true, Option.some.injEq, qe_gn0, qe_m1n, qe_gng, qe_ngn, qe_gm, qe_mg, qe_lm1, qe_lgn, qe_lem, qe_leg, qe_tm1, qe_tgn, h15]
  · refine Or.inr ⟨wI (wI (wI S 17 5 (nI p)) (17 + 1 + 6) j gN) (17 + 1) 0 (nI (j + 1)), T, p, ?_, ?_, ?_, hp⟩
    · simp (disch := omega) only [qlt, qb_some, qb_none, ↓qn_1, ↓qn_2, ↓qn_3, ↓qn_4, ↓qn_9, ↓qn_1000, ↓qn_low, qi_0, qi_1, qi_2, qi_3, qi_4, qi_5, qi_6, qi_7, qi_8, qi_9, qi_10, qi_11, qi_12, qi_13, qi_14, qi_15, qi_16, qi_17, qi_20, qi_24, qi_30, qi_31, qi_32, qi_60, qi_99, qi_100, qi_200, qi_1000, qi_3400, qi_4000, qi_of, pu_gI, pu_pI, nI_leI, nI_ltI, nI_eq, nI_add, pk_mul, pk_sub, pk_div, qw_s, qw_o, qw_l, qr_s, qr_o, qr_l, ql_i, ql_s, ql_o, pk_us, pk_un, pk_uLs, pk_uLn, if_pos, if_neg, if_true, if_false, ite_self, eq_self, Nat.zero_add, Nat.add_zero, qwr, not_true_eq_false, not_false_eq_true, Option.some.injEq, qe_gn0, qe_m1n, qe_gng, qe_ngn, qe_gm, qe_mg, qe_lm1, qe_lgn, qe_lem, qe_leg, qe_tm1, qe_tgn, b3]
    · have := b4 (6 * j)
      simp (disch := omega) only [qlt, qb_some, qb_none, ↓qn_1, ↓qn_2, ↓qn_3, ↓qn_4, ↓qn_9, ↓qn_1000, ↓qn_low, qi_0, qi_1, qi_2, qi_3, qi_4, qi_5, qi_6, qi_7, qi_8, qi_9, qi_10, qi_11, qi_12, qi_13, qi_14, qi_15, qi_16, qi_17, qi_20, qi_24, qi_30, qi_31, qi_32, qi_60, qi_99, qi_100, qi_200, qi_1000, qi_3400, qi_4000, qi_of, pu_gI, pu_pI, nI_leI, nI_ltI, nI_eq, nI_add, pk_mul, pk_sub, pk_div, qw_s, qw_o, qw_l, qr_s, qr_o, qr_l, ql_i, ql_s, ql_o, pk_us, pk_un, pk_uLs, pk_uLn, if_pos, if_neg, if_true, if_false, ite_self, eq_self, Nat.zero_add, Nat.add_zero, qwr, not_true_eq_false, not_false_eq_true, Option.some.injEq, qe_gn0, qe_m1n, qe_gng, qe_ngn, qe_gm, qe_mg, qe_lm1, qe_lgn, qe_lem, qe_leg, qe_tm1, qe_tgn, this]
    · have d := De_of h.1
      have d2 := DeS_18 (n := j + 1) (DeS_w (c := 17 + 1 + 6) (j := j) (x := gN) (De_S d) (by decide) (by decide)) (by omega)
      exact ⟨d2.1, d.2.1, d2.2, d.2.2.2⟩
/-- a number of a god -/
theorem gsi {k lo hi : Nat} {S T : vS} {F : vS → Option vS} (h : Go S0 T0 t m z S T p j i) (ht : t < 4) (hm : m ≤ 60) (hp : p ≤ m) (hj : j < 4) (hi1 : 1 ≤ i) (hi5 : i < 5) (hlo : lo = if i = 2 then 1 else 0) (hhi : hi = if i = 1 then 2 else if i = 2 then 6 else 9) (hk : T.1 9 (6 * j) = nI k)
    (hd : ∀ (S : vS) p, DeS S0 S p → p < 100 → ∃ S', F S = some S' ∧ DeS S0 S' p)
    (next : ∀ (S T : vS) (p : Nat), Go S0 T0 t m z S T p j (i + 1) → p ≤ m → T.1 9 (6 * j) = nI k → ∀ q, 5 - (i + 1) < q → GOut S0 T0 t m z j p (F S) (lX7_readsGod_57 (nI t) (nI k) (nI (6 * j)) q T (nI (i + 1)))) :
    ∀ q, 5 - i < q → GOut S0 T0 t m z j p ((mX2_figure S 17 (nI lo) (nI hi)).bind fun q => ((pI q.2 (19 + i) 4 (nI j) q.1).bind fun S => F S)) (lX7_readsGod_57 (nI t) (nI k) (nI (6 * j)) q T (nI i)) := by
  intro q hq
  obtain ⟨q, rfl⟩ : ∃ q2, q = q2 + 1 := ⟨q - 1, by omega⟩
  have hmod : lX7_readsGod_57 (nI t) (nI k) (nI (6 * j)) (q + 1) T (nI i) = bX7_readsGod_99 (lX7_readsGod_57 (nI t) (nI k) (nI (6 * j)) q) T (nI t) (nI k) (nI (6 * j)) (nI i) (nI hi) (nI lo) (nI t) := by
    rw [lX7_readsGod_57]
    unfold bX7_readsGod_76
    have : i = 1 ∨ i = 2 ∨ i = 3 ∨ i = 4 := by omega
    rcases this with rfl | rfl | rfl | rfl
    · rw [hlo, hhi]
      simp (disch := omega) only [qlt, qb_some, qb_none, ↓qn_1, ↓qn_2, ↓qn_3, ↓qn_4, ↓qn_9, ↓qn_1000, ↓qn_low, qi_0, qi_1, qi_2, qi_3, qi_4, qi_5, qi_6, qi_7, qi_8, qi_9, qi_10, qi_11, qi_12, qi_13, qi_14, qi_15, qi_16, qi_17, qi_20, qi_24, qi_30, qi_31, qi_32, qi_60, qi_99, qi_100, qi_200, qi_1000, qi_3400, qi_4000, qi_of, pu_gI, pu_pI, nI_leI, nI_ltI, nI_eq, nI_add, pk_mul, pk_sub, pk_div, qw_s, qw_o, qw_l, qr_s, qr_o, qr_l, ql_i, ql_s, ql_o, pk_us, pk_un, pk_uLs, pk_uLn, if_pos, if_neg, if_true, if_false, ite_self, eq_self, Nat.zero_add, Nat.add_zero, qwr, not_true_eq_false, not_false_eq_true, Option.some.injEq, qe_gn0, qe_m1n, qe_gng, qe_ngn, qe_gm, qe_mg, qe_lm1, qe_lgn, qe_lem, qe_leg, qe_tm1, qe_tgn]
    · rw [hlo, hhi]
      simp (disch := omega) only [qlt, qb_some, qb_none, ↓qn_1, ↓qn_2, ↓qn_3, ↓qn_4, ↓qn_9, ↓qn_1000, ↓qn_low, qi_0, qi_1, qi_2, qi_3, qi_4, qi_5, qi_6, qi_7, qi_8, qi_9, qi_10, qi_11, qi_12, qi_13, qi_14, qi_15, qi_16, qi_17, qi_20, qi_24, qi_30, qi_31, qi_32, qi_60, qi_99, qi_100, qi_200, qi_1000, qi_3400, qi_4000, qi_of, pu_gI, pu_pI, nI_leI, nI_ltI, nI_eq, nI_add, pk_mul, pk_sub, pk_div, qw_s, qw_o, qw_l, qr_s, qr_o, qr_l, ql_i, ql_s, ql_o, pk_us, pk_un, pk_uLs, pk_uLn, if_pos, if_neg, if_true, if_false, ite_self, eq_self, Nat.zero_add, Nat.add_zero, qwr, not_true_eq_false, not_false_eq_true, Option.some.injEq, qe_gn0, qe_m1n, qe_gng, qe_ngn, qe_gm, qe_mg, qe_lm1, qe_lgn, qe_lem, qe_leg, qe_tm1, qe_tgn]
    · rw [hlo, hhi]
      simp (disch := omega) only [qlt, qb_some, qb_none, ↓qn_1, ↓qn_2, ↓qn_3, ↓qn_4, ↓qn_9, ↓qn_1000, ↓qn_low, qi_0, qi_1, qi_2, qi_3, qi_4, qi_5, qi_6, qi_7, qi_8, qi_9, qi_10, qi_11, qi_12, qi_13, qi_14, qi_15, qi_16, qi_17, qi_20, qi_24, qi_30, qi_31, qi_32, qi_60, qi_99, qi_100, qi_200, qi_1000, qi_3400, qi_4000, qi_of, pu_gI, pu_pI, nI_leI, nI_ltI, nI_eq, nI_add, pk_mul, pk_sub, pk_div, qw_s, qw_o, qw_l, qr_s, qr_o, qr_l, ql_i, ql_s, ql_o, pk_us, pk_un, pk_uLs, pk_uLn, if_pos, if_neg, if_true, if_false, ite_self, eq_self, Nat.zero_add, Nat.add_zero, qwr, not_true_eq_false, not_false_eq_true, Option.some.injEq, qe_gn0, qe_m1n, qe_gng, qe_ngn, qe_gm, qe_mg, qe_lm1, qe_lgn, qe_lem, qe_leg, qe_tm1, qe_tgn]
    · rw [hlo, hhi]
      simp (disch := omega) only [qlt, qb_some, qb_none, ↓qn_1, ↓qn_2, ↓qn_3, ↓qn_4, ↓qn_9, ↓qn_1000, ↓qn_low, qi_0, qi_1, qi_2, qi_3, qi_4, qi_5, qi_6, qi_7, qi_8, qi_9, qi_10, qi_11, qi_12, qi_13, qi_14, qi_15, qi_16, qi_17, qi_20, qi_24, qi_30, qi_31, qi_32, qi_60, qi_99, qi_100, qi_200, qi_1000, qi_3400, qi_4000, qi_of, pu_gI, pu_pI, nI_leI, nI_ltI, nI_eq, nI_add, pk_mul, pk_sub, pk_div, qw_s, qw_o, qw_l, qr_s, qr_o, qr_l, ql_i, ql_s, ql_o, pk_us, pk_un, pk_uLs, pk_uLn, if_pos, if_neg, if_true, if_false, ite_self, eq_self, Nat.zero_add, Nat.add_zero, qwr, not_true_eq_false, not_false_eq_true, Option.some.injEq, qe_gn0, qe_m1n, qe_gng, qe_ngn, qe_gm, qe_mg, qe_lm1, qe_lgn, qe_lem, qe_leg, qe_tm1, qe_tgn]
  rw [hmod]
  unfold bX7_readsGod_99
  have hl1 : lo ≤ hi := by
    rw [hlo, hhi]
    split <;> split <;> first | omega | (split <;> omega)
  have hh9 : hi ≤ 9 := by
    rw [hhi]
    split
    · omega
    · split <;> omega
  rcases fig67 h.1 ht hm hp hl1 hh9 with ⟨v, v1, v2, v3, v4, v5⟩ | ⟨w, v4, v5⟩
  · have hPV : PVi i v := by
      refine ⟨fun e => absurd e (by omega), fun e => ?_, fun e => ?_, by omega⟩
      · subst e
        rw [if_pos rfl] at hhi
        omega
      · subst e
        rw [if_pos rfl] at hlo
        rw [if_neg (by decide), if_pos rfl] at hhi
        omega
    have g1 := Go_put (Go_a (q := p + 1) (Go_13 (w := nI v) h)) (by omega) hPV
    have n1 := next _ _ (p + 1) g1 (by omega) (by rw [qw_s, pk_un (by omega), qw_o (by decide), qw_o (by decide)]; exact hk) q (by omega)
    simp (disch := omega) only [qlt, qb_some, qb_none, ↓qn_1, ↓qn_2, ↓qn_3, ↓qn_4, ↓qn_9, ↓qn_1000, ↓qn_low, qi_0, qi_1, qi_2, qi_3, qi_4, qi_5, qi_6, qi_7, qi_8, qi_9, qi_10, qi_11, qi_12, qi_13, qi_14, qi_15, qi_16, qi_17, qi_20, qi_24, qi_30, qi_31, qi_32, qi_60, qi_99, qi_100, qi_200, qi_1000, qi_3400, qi_4000, qi_of, pu_gI, pu_pI, nI_leI, nI_ltI, nI_eq, nI_add, pk_mul, pk_sub, pk_div, qw_s, qw_o, qw_l, qr_s, qr_o, qr_l, ql_i, ql_s, ql_o, pk_us, pk_un, pk_uLs, pk_uLn, if_pos, if_neg, if_true, if_false, ite_self, eq_self, Nat.zero_add, Nat.add_zero, qwr, not_true_eq_false, not_false_eq_true, Option.some.injEq, qe_gn0, qe_m1n, qe_gng, qe_ngn, qe_gm, qe_mg, qe_lm1, qe_lgn, qe_lem, qe_leg, qe_tm1, qe_tgn, v4, v5]
    exact GOut_w n1 (by omega)
  · have g1 := De_of (Al_w (w := w) (q := p) h.1)
    have d2 := DeS_w (c := 19 + i) (j := j) (x := nI lo) (De_S (De_of h.1)) (by omega) (by omega)
    obtain ⟨S', s1, s2⟩ := hd _ p d2 (by omega)
    simp (disch := omega) only [qlt, qb_some, qb_none, ↓qn_1, ↓qn_2, ↓qn_3, ↓qn_4, ↓qn_9, ↓qn_1000, ↓qn_low, qi_0, qi_1, qi_2, qi_3, qi_4, qi_5, qi_6, qi_7, qi_8, qi_9, qi_10, qi_11, qi_12, qi_13, qi_14, qi_15, qi_16, qi_17, qi_20, qi_24, qi_30, qi_31, qi_32, qi_60, qi_99, qi_100, qi_200, qi_1000, qi_3400, qi_4000, qi_of, pu_gI, pu_pI, nI_leI, nI_ltI, nI_eq, nI_add, pk_mul, pk_sub, pk_div, qw_s, qw_o, qw_l, qr_s, qr_o, qr_l, ql_i, ql_s, ql_o, pk_us, pk_un, pk_uLs, pk_uLn, if_pos, if_neg, if_true, if_false, ite_self, eq_self, Nat.zero_add, Nat.add_zero, qwr, not_true_eq_false, not_false_eq_true, Option.some.injEq, qe_gn0, qe_m1n, qe_gng, qe_ngn, qe_gm, qe_mg, qe_lm1, qe_lgn, qe_lem, qe_leg, qe_tm1, qe_tgn, v4, v5]
    exact Or.inr ⟨S', _, p, s1, rfl, ⟨s2.1, FrT_0 (FrT_0 h.1.2.1 (by decide)) (by decide), s2.2, by simp (disch := omega) only [qlt, qb_some, qb_none, ↓qn_1, ↓qn_2, ↓qn_3, ↓qn_4, ↓qn_9, ↓qn_1000, ↓qn_low, qi_0, qi_1, qi_2, qi_3, qi_4, qi_5, qi_6, qi_7, qi_8, qi_9, qi_10, qi_11, qi_12, qi_13, qi_14, qi_15, qi_16, qi_17, qi_20, qi_24, qi_30, qi_31, qi_32, qi_60, qi_99, qi_100, qi_200, qi_1000, qi_3400, qi_4000, qi_of, pu_gI, pu_pI, nI_leI, nI_ltI, nI_eq, nI_add, pk_mul, pk_sub, pk_div, qw_s, qw_o, qw_l, qr_s, qr_o, qr_l, ql_i, ql_s, ql_o, pk_us, pk_un, pk_uLs, pk_uLn, if_pos, if_neg, if_true, if_false, ite_self, eq_self, Nat.zero_add, Nat.add_zero, qwr, not_true_eq_false, not_false_eq_true, Option.some.injEq, qe_gn0, qe_m1n, qe_gng, qe_ngn, qe_gm, qe_mg, qe_lm1, qe_lgn, qe_lem, qe_leg, qe_tm1, qe_tgn]⟩, hp⟩
end GO
