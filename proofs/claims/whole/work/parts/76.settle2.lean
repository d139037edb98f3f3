/-! ===== PURE: tables and foes ===== -/
def twL (n : Nat) (K A : Nat → Int32) (g a o : Nat) : Bool := (decide (a < g) && (decide (o < n) && (decide (K a = nI 1) && decide (A a = nI o)))) || (decide (o < g) && (decide (K o = nI 1) && decide (A o = nI a)))
def TbL (n : Nat) (K A : Nat → Int32) (f : Nat → Int32) (g : Nat) : Prop := ∀ a, a < n → nib (f a) ∧ ∀ o, o < 4 → bt (f a) o = (decide (o = a) || twL n K A g a o)
def FoL (n : Nat) (K A : Nat → Int32) (f : Nat → Int32) (g : Nat) : Prop := ∀ a, a < n → nib (f a) ∧ ∀ o, o < 4 → bt (f a) o = (decide (a < g) && (decide (o < n) && (!decide (K a = nI 1) && decide (A a = nI o))))
theorem dlt_s {a g : Nat} (h : a ≠ g) : decide (a < g + 1) = decide (a < g) := by simp only [decide_eq_decide]; omega
theorem nIq {a b : Nat} (ha : a < 4) (hb : b < 4) : (nI a = nI b) = (a = b) := propext (nI_eq (by omega) (by omega))
section TB
variable {n g b : Nat} {K A f : Nat → Int32}
theorem Tb_skip (hg : g < n) (hA : ∀ o, o < n → A g ≠ nI o) (h : TbL n K A f g) : TbL n K A f (g + 1) := by
  intro a ha
  refine ⟨(h a ha).1, fun o ho => ?_⟩
  rw [(h a ha).2 o ho]
  congr 1
  unfold twL
  have e1 : (decide (a < g + 1) && (decide (o < n) && (decide (K a = nI 1) && decide (A a = nI o)))) = (decide (a < g) && (decide (o < n) && (decide (K a = nI 1) && decide (A a = nI o)))) := by
    by_cases hag : a = g
    · subst hag
      by_cases hon : o < n
      · have := hA o hon
        simp [this]
      · simp [hon]
    · rw [dlt_s hag]
  have e2 : (decide (o < g + 1) && (decide (K o = nI 1) && decide (A o = nI a))) = (decide (o < g) && (decide (K o = nI 1) && decide (A o = nI a))) := by
    by_cases hog : o = g
    · subst hog
      have := hA a ha
      simp [this]
    · rw [dlt_s hog]
  rw [e1, e2]
theorem Tb_other (hg : g < n) (hK : K g ≠ nI 1) (h : TbL n K A f g) : TbL n K A f (g + 1) := by
  intro a ha
  refine ⟨(h a ha).1, fun o ho => ?_⟩
  rw [(h a ha).2 o ho]
  congr 1
  unfold twL
  have e1 : (decide (a < g + 1) && (decide (o < n) && (decide (K a = nI 1) && decide (A a = nI o)))) = (decide (a < g) && (decide (o < n) && (decide (K a = nI 1) && decide (A a = nI o)))) := by
    by_cases hag : a = g
    · subst hag
      simp [hK]
    · rw [dlt_s hag]
  have e2 : (decide (o < g + 1) && (decide (K o = nI 1) && decide (A o = nI a))) = (decide (o < g) && (decide (K o = nI 1) && decide (A o = nI a))) := by
    by_cases hog : o = g
    · subst hog
      simp [hK]
    · rw [dlt_s hog]
  rw [e1, e2]
theorem Tb_twin (hn : n ≤ 4) (hg : g < n) (hb : b < n) (hK : K g = nI 1) (hA : A g = nI b) (h : TbL n K A f g) : TbL n K A (upd (upd f g (f g ||| one b)) b (upd f g (f g ||| one b) b ||| one g)) (g + 1) := by
  have h1 : ∀ a, a < n → nib (upd f g (f g ||| one b) a) ∧ ∀ o, o < 4 → bt (upd f g (f g ||| one b) a) o = (bt (f a) o || (decide (a = g) && decide (o = b))) := by
    intro a ha
    by_cases hag : a = g
    · subst hag
      rw [pk_us]
      refine ⟨nib_or (h a ha).1 (nib_one (by omega)), fun o ho => ?_⟩
      show bt (f a ||| (nI 1 <<< (nI b &&& nI 31))) o = _
      rw [bt_or (h a ha).1 (nib_one (by omega)) ho, bt_one (by omega) ho]
      simp
    · rw [pk_un hag]
      refine ⟨(h a ha).1, fun o ho => ?_⟩
      simp [hag]
  have h2 : ∀ a, a < n → nib (upd (upd f g (f g ||| one b)) b (upd f g (f g ||| one b) b ||| one g) a) ∧ ∀ o, o < 4 → bt (upd (upd f g (f g ||| one b)) b (upd f g (f g ||| one b) b ||| one g) a) o = (bt (f a) o || (decide (a = g) && decide (o = b)) || (decide (a = b) && decide (o = g))) := by
    intro a ha
    by_cases hab : a = b
    · subst hab
      rw [pk_us]
      refine ⟨nib_or (h1 a ha).1 (nib_one (by omega)), fun o ho => ?_⟩
      show bt (upd f g (f g ||| one a) a ||| (nI 1 <<< (nI g &&& nI 31))) o = _
      rw [bt_or (h1 a ha).1 (nib_one (by omega)) ho, bt_one (by omega) ho, (h1 a ha).2 o ho]
      simp
    · rw [pk_un hab]
      refine ⟨(h1 a ha).1, fun o ho => ?_⟩
      rw [(h1 a ha).2 o ho]
      simp [hab]
  intro a ha
  refine ⟨(h2 a ha).1, fun o ho => ?_⟩
  rw [(h2 a ha).2 o ho, (h a ha).2 o ho]
  have e1 : (decide (a < g + 1) && (decide (o < n) && (decide (K a = nI 1) && decide (A a = nI o)))) = ((decide (a < g) && (decide (o < n) && (decide (K a = nI 1) && decide (A a = nI o)))) || (decide (a = g) && decide (o = b))) := by
    by_cases hag : a = g
    · subst hag
      by_cases hob : o = b
      · subst hob
        simp [hK, hA, hb]
      · have : (nI b = nI o) = (b = o) := nIq (by omega) ho
        have hob2 : ¬ b = o := fun e => hob e.symm
        simp [hA, this, hob, hob2]
    · rw [dlt_s hag]
      simp [hag]
  have e2 : (decide (o < g + 1) && (decide (K o = nI 1) && decide (A o = nI a))) = ((decide (o < g) && (decide (K o = nI 1) && decide (A o = nI a))) || (decide (a = b) && decide (o = g))) := by
    by_cases hog : o = g
    · subst hog
      have : (nI b = nI a) = (b = a) := nIq (by omega) (by omega)
      by_cases hab : a = b
      · subst hab
        simp [hK, hA]
      · have hab2 : ¬ b = a := fun e => hab e.symm
        simp [hA, this, hab, hab2]
    · rw [dlt_s hog]
      simp [hog]
  unfold twL
  rw [e1, e2]
  generalize (decide (a < g) && (decide (o < n) && (decide (K a = nI 1) && decide (A a = nI o)))) = p1
  generalize (decide (o < g) && (decide (K o = nI 1) && decide (A o = nI a))) = p2
  generalize (decide (a = g) && decide (o = b)) = p3
  generalize (decide (a = b) && decide (o = g)) = p4
  generalize decide (o = a) = p5
  revert p1 p2 p3 p4 p5
  decide
theorem Fo_skip (hg : g < n) (hA : (∀ o, o < n → A g ≠ nI o) ∨ K g = nI 1) (hz : f g = nI 0) (h : ∀ a, a < g → nib (f a) ∧ ∀ o, o < 4 → bt (f a) o = (decide (o < n) && (!decide (K a = nI 1) && decide (A a = nI o)))) : ∀ a, a < g + 1 → nib (f a) ∧ ∀ o, o < 4 → bt (f a) o = (decide (o < n) && (!decide (K a = nI 1) && decide (A a = nI o))) := by
  intro a ha
  by_cases hag : a = g
  · subst hag
    rw [hz]
    refine ⟨nib_0, fun o ho => ?_⟩
    rw [bt_z o ho]
    rcases hA with hA | hA
    · by_cases hon : o < n
      · have := hA o hon
        simp [this]
      · simp [hon]
    · simp [hA]
  · exact h a (by omega)
theorem Fo_put (hn : n ≤ 4) (hg : g < n) (hb : b < n) (hK : K g ≠ nI 1) (hA : A g = nI b) (h : ∀ a, a < g → nib (f a) ∧ ∀ o, o < 4 → bt (f a) o = (decide (o < n) && (!decide (K a = nI 1) && decide (A a = nI o)))) : ∀ a, a < g + 1 → nib (upd f g (one b) a) ∧ ∀ o, o < 4 → bt (upd f g (one b) a) o = (decide (o < n) && (!decide (K a = nI 1) && decide (A a = nI o))) := by
  intro a ha
  by_cases hag : a = g
  · subst hag
    rw [pk_us]
    refine ⟨nib_one (by omega), fun o ho => ?_⟩
    show bt (nI 1 <<< (nI b &&& nI 31)) o = _
    rw [bt_one (by omega) ho]
    have : (nI b = nI o) = (b = o) := nIq (by omega) ho
    by_cases hob : o = b
    · subst hob
      simp [hK, hA, hb]
    · have hob2 : ¬ b = o := fun e => hob e.symm
      simp [hA, this, hob, hob2]
  · rw [pk_un hag]
    exact h a (by omega)
end TB
def Fo2 (n : Nat) (K A : Nat → Int32) (f : Nat → Int32) (g : Nat) : Prop := (∀ a, a < g → nib (f a) ∧ ∀ o, o < 4 → bt (f a) o = (decide (o < n) && (!decide (K a = nI 1) && decide (A a = nI o)))) ∧ ∀ a, g ≤ a → a < n → f a = nI 0
theorem set92 {n : Nat} (hn : n ≤ 4) : ∀ q g S, g ≤ n → n - g < q → S.1 18 0 = nI n → TbL n (S.1 19) (S.1 24) (S.1 25) g → Fo2 n (S.1 19) (S.1 24) (S.1 26) g →
    ∃ S', lX0_settle_92 18 q S (nI g) = some S' ∧ (∀ c, c ≠ 25 → c ≠ 26 → S'.1 c = S.1 c) ∧ S'.2 = S.2 ∧ TbL n (S.1 19) (S.1 24) (S'.1 25) n ∧ Fo2 n (S.1 19) (S.1 24) (S'.1 26) n := by
  intro q
  induction q with
  | zero => intro g S h1 h2; omega
  | succ q ih =>
    intro g S h1 h2 h0 hT hF
    rw [lX0_settle_92]
    by_cases hg : g = n
    · subst hg
      simp (disch := omega) only [qlt, qb_some, qb_none, ↓qn_1, ↓qn_2, ↓qn_3, ↓qn_4, ↓qn_9, ↓qn_1000, ↓qn_low, qi_0, qi_1, qi_2, qi_3, qi_4, qi_5, qi_6, qi_7, qi_8, qi_9, qi_10, qi_11, qi_12, qi_13, qi_14, qi_15, qi_16, qi_17, qi_20, qi_24, qi_30, qi_31, qi_32, qi_60, qi_99, qi_100, qi_200, qi_1000, qi_3400, qi_4000, qi_of, pu_gI, pu_pI, nI_leI, nI_ltI, nI_eq, nI_add, pk_mul, pk_sub, pk_div, qw_s, qw_o, qw_l, qr_s, qr_o, qr_l, ql_i, ql_s, ql_o, pk_us, pk_un, pk_uLs, pk_uLn, if_pos, if_neg, if_true, if_false, ite_self, eq_self, Nat.zero_add, Nat.add_zero, qwr, not_true_eq_false, not_false_eq_true, Option.some.injEq, qe_gn0, qe_m1n, qe_gng, qe_ngn, qe_gm, qe_mg, qe_lm1, qe_lgn, qe_lem, qe_leg, qe_tm1, qe_tgn, h0]
      exact ⟨S, rfl, fun _ _ _ => rfl, rfl, hT, hF⟩
    · have hgn : g < n := by omega
      have hg4 : g < 4 := by omega
      have E24 : (18 + 6 : Nat) = 24 := rfl
      have E19 : (18 + 1 : Nat) = 19 := rfl
      have E25 : (18 + 7 : Nat) = 25 := rfl
      have E26 : (18 + 8 : Nat) = 26 := rfl
      rcases oR_or (S.1 24 g) (N := n) (by omega) with ha | ⟨b, hb, hab⟩
      · have hno : ∀ o, o < n → S.1 24 g ≠ nI o := by
          intro o ho e
          rw [e] at ha
          rcases ha with ha | ha
          · exact absurd ha (nI_nlt (Nat.zero_le o) (by omega))
          · exact absurd ha (nI_ge ho (by omega))
        have go := ih (g + 1) S (by omega) (by omega) h0 (Tb_skip hgn hno hT) ⟨Fo_skip hgn (Or.inl hno) (hF.2 g (Nat.le_refl g) hgn) hF.1, fun a h3 h4 => hF.2 a (by omega) h4⟩
        simp (disch := omega) only [qlt, qb_some, qb_none, ↓qn_1, ↓qn_2, ↓qn_3, ↓qn_4, ↓qn_9, ↓qn_1000, ↓qn_low, qi_0, qi_1, qi_2, qi_3, qi_4, qi_5, qi_6, qi_7, qi_8, qi_9, qi_10, qi_11, qi_12, qi_13, qi_14, qi_15, qi_16, qi_17, qi_20, qi_24, qi_30, qi_31, qi_32, qi_60, qi_99, qi_100, qi_200, qi_1000, qi_3400, qi_4000, qi_of, pu_gI, pu_pI, nI_leI, nI_ltI, nI_eq, nI_add, pk_mul, pk_sub, pk_div, qw_s, qw_o, qw_l, qr_s, qr_o, qr_l, ql_i, ql_s, ql_o, pk_us, pk_un, pk_uLs, pk_uLn, if_pos, if_neg, if_true, if_false, ite_self, eq_self, Nat.zero_add, Nat.add_zero, qwr, not_true_eq_false, not_false_eq_true, Option.some.injEq, qe_gn0, qe_m1n, qe_gng, qe_ngn, qe_gm, qe_mg, qe_lm1, qe_lgn, qe_lem, qe_leg, qe_tm1, qe_tgn, h0, E24, has0_o h0 ha]
        exact go
      · have hb4 : b < 4 := by omega
        have eb : nI 1 <<< (nI b &&& nI 31) = one b := rfl
        have eg : nI 1 <<< (nI g &&& nI 31) = one g := rfl
        by_cases hK : S.1 19 g = nI 1
        · have go := ih (g + 1) (wI (wI S 25 g (S.1 25 g ||| one b)) 25 b ((wI S 25 g (S.1 25 g ||| one b)).1 25 b ||| one g)) (by omega) (by omega) (by rw [qw_o (by decide), qw_o (by decide)]; exact h0)
            (by rw [qw_o (c := 19) (by decide), qw_o (c := 19) (by decide), qw_o (c := 24) (by decide), qw_o (c := 24) (by decide), qw_s, qw_s]; exact Tb_twin hn hgn hb hK hab hT)
            (by rw [qw_o (c := 19) (by decide), qw_o (c := 19) (by decide), qw_o (c := 24) (by decide), qw_o (c := 24) (by decide), qw_o (c := 26) (by decide), qw_o (c := 26) (by decide)]; exact ⟨Fo_skip hgn (Or.inr hK) (hF.2 g (Nat.le_refl g) hgn) hF.1, fun a h3 h4 => hF.2 a (by omega) h4⟩)
          obtain ⟨S', g1, g2, g3, g4, g5⟩ := go
          rw [qw_s] at g1
          rw [qw_o (c := 19) (by decide), qw_o (c := 19) (by decide), qw_o (c := 24) (by decide), qw_o (c := 24) (by decide)] at g4 g5
          refine ⟨S', ?_, fun c c1 c2 => by rw [g2 c c1 c2, qw_o c1, qw_o c1], g3, g4, g5⟩
          simp (disch := omega) only [qlt, qb_some, qb_none, ↓qn_1, ↓qn_2, ↓qn_3, ↓qn_4, ↓qn_9, ↓qn_1000, ↓qn_low, qi_0, qi_1, qi_2, qi_3, qi_4, qi_5, qi_6, qi_7, qi_8, qi_9, qi_10, qi_11, qi_12, qi_13, qi_14, qi_15, qi_16, qi_17, qi_20, qi_24, qi_30, qi_31, qi_32, qi_60, qi_99, qi_100, qi_200, qi_1000, qi_3400, qi_4000, qi_of, pu_gI, pu_pI, nI_leI, nI_ltI, nI_eq, nI_add, pk_mul, pk_sub, pk_div, qw_s, qw_o, qw_l, qr_s, qr_o, qr_l, ql_i, ql_s, ql_o, pk_us, pk_un, pk_uLs, pk_uLn, if_pos, if_neg, if_true, if_false, ite_self, eq_self, Nat.zero_add, Nat.add_zero, qwr, not_true_eq_false, not_false_eq_true, Option.some.injEq, qe_gn0, qe_m1n, qe_gng, qe_ngn, qe_gm, qe_mg, qe_lm1, qe_lgn, qe_lem, qe_leg, qe_tm1, qe_tgn, h0, E24, hab, has0_y h0 hn hb, E19, hK, E25, eb, eg]
          exact g1
        · have hK0 : (S.1 19 g = nI 1) = False := eq_false hK
          have go := ih (g + 1) (wI S 26 g (one b)) (by omega) (by omega) (by rw [qw_o (by decide)]; exact h0)
            (by rw [qw_o (c := 19) (by decide), qw_o (c := 24) (by decide), qw_o (c := 25) (by decide)]; exact Tb_other hgn hK hT)
            (by rw [qw_o (c := 19) (by decide), qw_o (c := 24) (by decide), qw_s]; exact ⟨Fo_put hn hgn hb hK hab hF.1, fun a h3 h4 => by rw [pk_un (by omega)]; exact hF.2 a (by omega) h4⟩)
          obtain ⟨S', g1, g2, g3, g4, g5⟩ := go
          rw [qw_o (c := 19) (by decide), qw_o (c := 24) (by decide)] at g4 g5
          refine ⟨S', ?_, fun c c1 c2 => by rw [g2 c c1 c2, qw_o c2], g3, g4, g5⟩
          simp (disch := omega) only [qlt, qb_some, qb_none, ↓qn_1, ↓qn_2, ↓qn_3, ↓qn_4, ↓qn_9, ↓qn_1000, ↓qn_low, qi_0, qi_1, qi_2, qi_3, qi_4, qi_5, qi_6, qi_7, qi_8, qi_9, qi_10, qi_11, qi_12, qi_13, qi_14, qi_15, qi_16, qi_17, qi_20, qi_24, qi_30, qi_31, qi_32, qi_60, qi_99, qi_100, qi_200, qi_1000, qi_3400, qi_4000, qi_of, pu_gI, pu_pI, nI_leI, nI_ltI, nI_eq, nI_add, pk_mul, pk_sub, pk_div, qw_s, qw_o, qw_l, qr_s, qr_o, qr_l, ql_i, ql_s, ql_o, pk_us, pk_un, pk_uLs, pk_uLn, if_pos, if_neg, if_true, if_false, ite_self, eq_self, Nat.zero_add, Nat.add_zero, qwr, not_true_eq_false, not_false_eq_true, Option.some.injEq, qe_gn0, qe_m1n, qe_gng, qe_ngn, qe_gm, qe_mg, qe_lm1, qe_lgn, qe_lem, qe_leg, qe_tm1, qe_tgn, h0, E24, hab, has0_y h0 hn hb, E19, hK0, E26, eb, eg]
          exact g1
/-- settled -/
theorem settle6 {S : vS} {n : Nat} (hn : n ≤ 4) (h0 : S.1 18 0 = nI n) : ∃ S', mX0_settle S 18 = some S' ∧ (∀ c, (c < 18 ∨ (18 < c ∧ c < 25) ∨ 27 < c) → S'.1 c = S.1 c) ∧ S'.2 = S.2 ∧ S'.1 18 0 = nI n ∧
    ∀ G, GInv n G → (∀ g, g < n → ∀ i, i < 6 → S.1 (19 + i) g = G (6 * g + i)) → GodR S' 18 n G := by
  have hS19 : S19 (wI (wI S 18 1 (nI (2 ^ n - 1))) 18 2 (nI 0)) 0 := ⟨by rw [qw_s, pk_us]; exact nib_0, fun o ho => by rw [qw_s, pk_us, bt_z o ho]; simp, fun a ha => absurd ha (by omega)⟩
  obtain ⟨S1, a1, a2, a3, a4, a5⟩ := set19 hn FU 0 (wI (wI S 18 1 (nI (2 ^ n - 1))) 18 2 (nI 0)) (Nat.zero_le n) (by unfold FU; omega) (by simp (disch := omega) only [qlt, qb_some, qb_none, ↓qn_1, ↓qn_2, ↓qn_3, ↓qn_4, ↓qn_9, ↓qn_1000, ↓qn_low, qi_0, qi_1, qi_2, qi_3, qi_4, qi_5, qi_6, qi_7, qi_8, qi_9, qi_10, qi_11, qi_12, qi_13, qi_14, qi_15, qi_16, qi_17, qi_20, qi_24, qi_30, qi_31, qi_32, qi_60, qi_99, qi_100, qi_200, qi_1000, qi_3400, qi_4000, qi_of, pu_gI, pu_pI, nI_leI, nI_ltI, nI_eq, nI_add, pk_mul, pk_sub, pk_div, qw_s, qw_o, qw_l, qr_s, qr_o, qr_l, ql_i, ql_s, ql_o, pk_us, pk_un, pk_uLs, pk_uLn, if_pos, if_neg, if_true, if_false, ite_self, eq_self, Nat.zero_add, Nat.add_zero, qwr, not_true_eq_false, not_false_eq_true, Option.some.injEq, qe_gn0, qe_m1n, qe_gng, qe_ngn, qe_gm, qe_mg, qe_lm1, qe_lgn, qe_lem, qe_leg, qe_tm1, qe_tgn]; exact h0) hS19
  have k0 : S1.1 18 0 = nI n := by rw [a2.2.2.1]; simp (disch := omega) only [qlt, qb_some, qb_none, ↓qn_1, ↓qn_2, ↓qn_3, ↓qn_4, ↓qn_9, ↓qn_1000, ↓qn_low, qi_0, qi_1, qi_2, qi_3, qi_4, qi_5, qi_6, qi_7, qi_8, qi_9, qi_10, qi_11, qi_12, qi_13, qi_14, qi_15, qi_16, qi_17, qi_20, qi_24, qi_30, qi_31, qi_32, qi_60, qi_99, qi_100, qi_200, qi_1000, qi_3400, qi_4000, qi_of, pu_gI, pu_pI, nI_leI, nI_ltI, nI_eq, nI_add, pk_mul, pk_sub, pk_div, qw_s, qw_o, qw_l, qr_s, qr_o, qr_l, ql_i, ql_s, ql_o, pk_us, pk_un, pk_uLs, pk_uLn, if_pos, if_neg, if_true, if_false, ite_self, eq_self, Nat.zero_add, Nat.add_zero, qwr, not_true_eq_false, not_false_eq_true, Option.some.injEq, qe_gn0, qe_m1n, qe_gng, qe_ngn, qe_gm, qe_mg, qe_lm1, qe_lgn, qe_lem, qe_leg, qe_tm1, qe_tgn]; exact h0
  have k1 : S1.1 18 1 = nI (2 ^ n - 1) := by rw [a2.2.2.2]; simp (disch := omega) only [qlt, qb_some, qb_none, ↓qn_1, ↓qn_2, ↓qn_3, ↓qn_4, ↓qn_9, ↓qn_1000, ↓qn_low, qi_0, qi_1, qi_2, qi_3, qi_4, qi_5, qi_6, qi_7, qi_8, qi_9, qi_10, qi_11, qi_12, qi_13, qi_14, qi_15, qi_16, qi_17, qi_20, qi_24, qi_30, qi_31, qi_32, qi_60, qi_99, qi_100, qi_200, qi_1000, qi_3400, qi_4000, qi_of, pu_gI, pu_pI, nI_leI, nI_ltI, nI_eq, nI_add, pk_mul, pk_sub, pk_div, qw_s, qw_o, qw_l, qr_s, qr_o, qr_l, ql_i, ql_s, ql_o, pk_us, pk_un, pk_uLs, pk_uLn, if_pos, if_neg, if_true, if_false, ite_self, eq_self, Nat.zero_add, Nat.add_zero, qwr, not_true_eq_false, not_false_eq_true, Option.some.injEq, qe_gn0, qe_m1n, qe_gng, qe_ngn, qe_gm, qe_mg, qe_lm1, qe_lgn, qe_lem, qe_leg, qe_tm1, qe_tgn]
  have hT : TbL n (S1.1 19) (S1.1 24) (S1.1 25) 0 := fun a ha => by
    rw [(a5 a ha).1]
    refine ⟨nib_one (by omega), fun o ho => ?_⟩
    show bt (nI 1 <<< (nI a &&& nI 31)) o = _
    rw [bt_one (by omega) ho]
    simp [twL]
  obtain ⟨S', b1, b2, b3, b4, b5⟩ := set92 hn FU 0 S1 (Nat.zero_le n) (by unfold FU; omega) k0 hT ⟨fun a ha => absurd ha (by omega), fun a _ ha => (a5 a ha).2.1⟩
  have fr : ∀ c, (c < 18 ∨ (18 < c ∧ c < 25) ∨ 27 < c) → S'.1 c = S.1 c := fun c hc => by rw [b2 c (by omega) (by omega), a2.1 c hc, qw_o (by omega), qw_o (by omega)]
  refine ⟨S', ?_, fr, ?_, ?_, ?_⟩
  · have hall := all7 n hn
    unfold mX0_settle
    simp (disch := omega) only [qlt, qb_some, qb_none, ↓qn_1, ↓qn_2, ↓qn_3, ↓qn_4, ↓qn_9, ↓qn_1000, ↓qn_low, qi_0, qi_1, qi_2, qi_3, qi_4, qi_5, qi_6, qi_7, qi_8, qi_9, qi_10, qi_11, qi_12, qi_13, qi_14, qi_15, qi_16, qi_17, qi_20, qi_24, qi_30, qi_31, qi_32, qi_60, qi_99, qi_100, qi_200, qi_1000, qi_3400, qi_4000, qi_of, pu_gI, pu_pI, nI_leI, nI_ltI, nI_eq, nI_add, pk_mul, pk_div, qw_s, qw_o, qw_l, qr_s, qr_o, qr_l, ql_i, ql_s, ql_o, pk_us, pk_un, pk_uLs, pk_uLn, if_pos, if_neg, if_true, if_false, ite_self, eq_self, Nat.zero_add, Nat.add_zero, qwr, not_true_eq_false, not_false_eq_true, Option.some.injEq, qe_gn0, qe_m1n, qe_gng, qe_ngn, qe_gm, qe_mg, qe_lm1, qe_lgn, qe_lem, qe_leg, qe_tm1, qe_tgn, h0, hall, a1, b1]
  · rw [b3, a2.2.1]; rfl
  · rw [b2 18 (by decide) (by decide)]; exact k0
  · intro G hGI hG
    have c18 : S'.1 18 = S1.1 18 := b2 18 (by decide) (by decide)
    have c19 : S1.1 19 = S.1 19 := by rw [← b2 19 (by decide) (by decide)]; exact fr 19 (by decide)
    have c24 : S1.1 24 = S.1 24 := by rw [← b2 24 (by decide) (by decide)]; exact fr 24 (by decide)
    rw [c19, c24] at b4 b5
    refine ⟨by rw [c18]; exact k0, by rw [c18]; exact k1, by rw [c18]; exact a3, fun g hg => ?_, fun g hg => ?_⟩
    · rw [c18, a4 g hg, c19]
      by_cases hgn : g < n
      · have e : S.1 19 g = gK G g := hG g hgn 0 (by decide)
        rw [e]
        rfl
      · simp [hgn]
    · have hg4 : g < 4 := by omega
      have eK : ∀ a, a < n → S.1 19 a = gK G a := fun a ha => hG a ha 0 (by decide)
      have eA : ∀ a, a < n → S.1 24 a = gA G a := fun a ha => hG a ha 5 (by decide)
      refine ⟨?_, ?_, ?_, ?_, ?_, ?_, (b4 g hg).1, fun o ho => ?_, (b5.1 g hg).1, fun o ho => ?_, ?_⟩
      · rw [show (18 + 1 : Nat) = 19 from rfl, fr 19 (by decide)]; exact hG g hg 0 (by decide)
      · rw [show (18 + 2 : Nat) = 20 from rfl, fr 20 (by decide)]; exact hG g hg 1 (by decide)
      · rw [show (18 + 3 : Nat) = 21 from rfl, fr 21 (by decide)]; exact hG g hg 2 (by decide)
      · rw [show (18 + 4 : Nat) = 22 from rfl, fr 22 (by decide)]; exact hG g hg 3 (by decide)
      · rw [show (18 + 5 : Nat) = 23 from rfl, fr 23 (by decide)]; exact hG g hg 4 (by decide)
      · rw [show (18 + 6 : Nat) = 24 from rfl, fr 24 (by decide)]; exact hG g hg 5 (by decide)
      · rw [show (18 + 7 : Nat) = 25 from rfl, (b4 g hg).2 o ho]
        unfold twL tw
        rw [eK g hg, eA g hg]
        by_cases hon : o < n
        · rw [eK o hon, eA o hon]
          simp only [hg, hon, decide_true, Bool.true_and]
          rw [Bool.or_comm (decide (gK G g = nI 1) && decide (gA G g = nI o))]
        · have : ¬ o = g := by omega
          simp [hon, this]
      · rw [show (18 + 8 : Nat) = 26 from rfl, (b5.1 g hg).2 o ho, eK g hg, eA g hg]
        by_cases hon : o < n
        · simp [hon]
        · have : ¬ gA G g = nI o := by
            intro e
            rcases (hGI g hg).2.2.2.2.2.1 with h | ⟨a, a1, a2⟩
            · rw [e] at h
              exact qe_gn (by omega) h
            · rw [e] at a2
              have := (nI_eq (by omega) (by omega)).mp a2
              omega
          simp [this]
      · rw [show (18 + 9 : Nat) = 27 from rfl, b2 27 (by decide) (by decide), (a5 g hg).2.2, c19, eK g hg]
        rfl
