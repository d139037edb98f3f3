/-! ===== PURE: the reference's other loops over plans ===== -/
section L8
variable {T0 : vS} {n u L e : Nat}
theorem ne10 : ¬ nI 1 = nI 0 := fun z => absurd ((nI_eq (by decide) (by decide)).mp z) (by decide)
/-- the row that the first plan comes to -/
def ptX (T : vS) (r L : Nat) : Nat → Int32 := fun i => if 60 * r ≤ i ∧ i < 60 * r + 60 then (fun j => if j < L then T.1 18 j else nI 0) (i - 60 * r) else T.1 3 i
theorem ptr7 {T : vS} {r : Nat} (hL : T.1 0 29 = nI L) (hL4 : L ≤ 4) (hr : r < 6) : mX7_planToRow T (nI r) = some (wR (wI T 2 r (nI L)) 3 (ptX T r L)) := by
  have l1 := lp_fill0 (fun q U j => lX7_planToRow_12 (nI r) q U j) (wI T 2 r (nI L)) 3 (60 * r) 60 (fun j => if j < L then T.1 18 j else nI 0) some
    (by intro q f hf; show lX7_planToRow_12 (nI r) (q + 1) _ (nI 60) = _; rw [lX7_planToRow_12]; simp (disch := omega) only [qlt, qb_some, qb_none, ↓qn_1, ↓qn_2, ↓qn_3, ↓qn_4, ↓qn_9, ↓qn_1000, ↓qn_low, qi_0, qi_1, qi_2, qi_3, qi_4, qi_5, qi_6, qi_7, qi_8, qi_9, qi_10, qi_11, qi_12, qi_13, qi_14, qi_15, qi_16, qi_17, qi_20, qi_24, qi_30, qi_31, qi_32, qi_60, qi_99, qi_100, qi_200, qi_1000, qi_3400, qi_4000, qi_of, pu_gI, pu_pI, nI_leI, nI_ltI, nI_eq, nI_add, pk_mul, pk_sub, pk_div, qw_s, qw_o, qw_l, qr_s, qr_o, qr_l, ql_i, ql_s, ql_o, pk_us, pk_un, pk_uLs, pk_uLn, if_pos, if_neg, if_true, if_false, ite_self, eq_self, Nat.zero_add, Nat.add_zero, qwr, not_true_eq_false, not_false_eq_true, Option.some.injEq, qe_gn0, qe_m1n, qe_gng, qe_ngn, qe_gm, qe_mg, qe_lm1, qe_lgn, qe_lem, qe_leg, qe_tm1, qe_tgn])
    (by
      intro q f j hj hf
      show lX7_planToRow_12 (nI r) (q + 1) _ (nI j) = _
      rw [lX7_planToRow_12]
      unfold bX7_planToRow_46
      by_cases hjl : j < L
      · simp (disch := omega) only [qlt, qb_some, qb_none, ↓qn_1, ↓qn_2, ↓qn_3, ↓qn_4, ↓qn_9, ↓qn_1000, ↓qn_low, qi_0, qi_1, qi_2, qi_3, qi_4, qi_5, qi_6, qi_7, qi_8, qi_9, qi_10, qi_11, qi_12, qi_13, qi_14, qi_15, qi_16, qi_17, qi_20, qi_24, qi_30, qi_31, qi_32, qi_60, qi_99, qi_100, qi_200, qi_1000, qi_3400, qi_4000, qi_of, pu_gI, pu_pI, nI_leI, nI_ltI, nI_eq, nI_add, pk_mul, pk_sub, pk_div, qw_s, qw_o, qw_l, qr_s, qr_o, qr_l, ql_i, ql_s, ql_o, pk_us, pk_un, pk_uLs, pk_uLn, if_pos, if_neg, if_true, if_false, ite_self, eq_self, Nat.zero_add, Nat.add_zero, qwr, not_true_eq_false, not_false_eq_true, Option.some.injEq, qe_gn0, qe_m1n, qe_gng, qe_ngn, qe_gm, qe_mg, qe_lm1, qe_lgn, qe_lem, qe_leg, qe_tm1, qe_tgn, hL]
      · simp (disch := omega) only [qlt, qb_some, qb_none, ↓qn_1, ↓qn_2, ↓qn_3, ↓qn_4, ↓qn_9, ↓qn_1000, ↓qn_low, qi_0, qi_1, qi_2, qi_3, qi_4, qi_5, qi_6, qi_7, qi_8, qi_9, qi_10, qi_11, qi_12, qi_13, qi_14, qi_15, qi_16, qi_17, qi_20, qi_24, qi_30, qi_31, qi_32, qi_60, qi_99, qi_100, qi_200, qi_1000, qi_3400, qi_4000, qi_of, pu_gI, pu_pI, nI_leI, nI_ltI, nI_eq, nI_add, pk_mul, pk_sub, pk_div, qw_s, qw_o, qw_l, qr_s, qr_o, qr_l, ql_i, ql_s, ql_o, pk_us, pk_un, pk_uLs, pk_uLn, if_pos, if_neg, if_true, if_false, ite_self, eq_self, Nat.zero_add, Nat.add_zero, qwr, not_true_eq_false, not_false_eq_true, Option.some.injEq, qe_gn0, qe_m1n, qe_gng, qe_ngn, qe_gm, qe_mg, qe_lm1, qe_lgn, qe_lem, qe_leg, qe_tm1, qe_tgn, hL]) (by unfold FU; omega)
  unfold mX7_planToRow
  rw [hL, pu_pI _ _ _ hr (by decide), qb_some, qi_0]
  refine l1.trans ?_
  congr 2
theorem sf_l (hB : Bs T0 n u L e) {r : Nat} (hr : r < 6) : ∀ q (l : List vP) (T : vS), l.length < q → NxR T0 n u L (T.1 18) l (mX7_nextPlan T) → (∀ x, x ∈ l → Bd L x) →
    ∃ T', Pt T0 T' L ∧ ((l.filter hz = [] ∧ lX7_safe_22 (nI r) q T = some (gN, T')) ∨ ∃ y rest, l.filter hz = y :: rest ∧ lX7_safe_22 (nI r) q T = some (nI 1, wR (wI T' 2 r (nI L)) 3 (ptX T' r L)) ∧ ∀ i, i < L → T'.1 18 i = nI (y.1.getD i 0)) := by
  intro q
  induction q with
  | zero => intro l T h; exact absurd h (Nat.not_lt_zero _)
  | succ q ih =>
    intro l T h1 hN hl
    obtain ⟨T', hP, h18', hh⟩ := hN
    rw [lX7_safe_22]
    rcases hh with ⟨rfl, hrr⟩ | ⟨p, o, rfl, hp1, hp2, hrr, hp3, o30, o31, o32, o33⟩
    · refine ⟨T', hP, Or.inl ⟨rfl, ?_⟩⟩
      rw [hrr]
      simp (disch := omega) only [qlt, qb_some, qb_none, ↓qn_1, ↓qn_2, ↓qn_3, ↓qn_4, ↓qn_9, ↓qn_1000, ↓qn_low, qi_0, qi_1, qi_2, qi_3, qi_4, qi_5, qi_6, qi_7, qi_8, qi_9, qi_10, qi_11, qi_12, qi_13, qi_14, qi_15, qi_16, qi_17, qi_20, qi_24, qi_30, qi_31, qi_32, qi_60, qi_99, qi_100, qi_200, qi_1000, qi_3400, qi_4000, qi_of, pu_gI, pu_pI, nI_leI, nI_ltI, nI_eq, nI_add, pk_mul, pk_sub, pk_div, qw_s, qw_o, qw_l, qr_s, qr_o, qr_l, ql_i, ql_s, ql_o, pk_us, pk_un, pk_uLs, pk_uLn, if_pos, if_neg, if_true, if_false, ite_self, eq_self, Nat.zero_add, Nat.add_zero, qwr, not_true_eq_false, not_false_eq_true, Option.some.injEq, qe_gn0, qe_m1n, qe_gng, qe_ngn, qe_gm, qe_mg, qe_lm1, qe_lgn, qe_lem, qe_leg, qe_tm1, qe_tgn]
    · have hlen : (aft (T0.1 7) n u p L (fr T0 0) 0 0 0).length < q := by rw [List.length_cons] at h1; omega
      rw [hrr]
      by_cases h0 : o.2.1 = 0
      · have hzz : hz (p, o) = true := by unfold hz; simpa using h0
        have hk := keepPlan7 (T := T') hP.2.1 hB.2.2.2.1
        refine ⟨wR T' 18 (fun i => if 0 ≤ i ∧ i < 0 + L then T'.1 17 (i - 0) else T'.1 18 i), Pt_w18 hP, Or.inr ⟨(p, o), (aft (T0.1 7) n u p L (fr T0 0) 0 0 0).filter hz, ?_, ?_, ?_⟩⟩
        · rw [List.filter_cons_of_pos hzz]
        · unfold bX7_safe_36
          simp only [qi_0, qi_1]
          rw [qb_some, if_neg ne10, o31, h0, if_pos rfl, hk, qb_some, ptr7 (by rw [qr_o (by decide)]; exact hP.2.1) hB.2.2.2.1 hr, qb_some]
        · intro i hi
          rw [qr_s, if_pos (by omega), Nat.sub_zero]
          exact hp3 i hi
      · have hzz : ¬ hz (p, o) = true := by unfold hz; simpa using h0
        obtain ⟨x1, x2, x3, x4⟩ : o.1 ≤ 1000 ∧ o.2.1 ≤ 1000 ∧ o.2.2 ≤ 1000 ∧ p.length = L := hl (p, o) (List.mem_cons_self ..)
        have hne : ¬ nI o.2.1 = nI 0 := fun z => h0 ((nI_eq (by omega) (by decide)).mp z)
        rw [List.filter_cons_of_neg hzz]
        simp only [qi_0, qi_1]
        rw [qb_some, if_neg ne10, o31, if_neg hne]
        exact ih _ T' hlen (next7 hB hp1 hp2 hp3 hP) (fun x hx => hl x (List.mem_cons_of_mem _ hx))
theorem sh_l (hB : Bs T0 n u L e) : ∀ q (l : List vP) (T : vS) (a b : Nat), l.length < q → NxR T0 n u L (T.1 18) l (mX7_nextPlan T) → (∀ x, x ∈ l → Bd L x) →
    ∃ T', Pt T0 T' L ∧ lX7_share_24 q T (nI a) (nI b) = bX7_share_54 T' (nI (a + l.length)) (nI (b + (l.filter hz).length)) := by
  intro q
  induction q with
  | zero => intro l T a b h; exact absurd h (Nat.not_lt_zero _)
  | succ q ih =>
    intro l T a b h1 hN hl
    obtain ⟨T', hP, h18', hh⟩ := hN
    rw [lX7_share_24]
    rcases hh with ⟨rfl, hrr⟩ | ⟨p, o, rfl, hp1, hp2, hrr, hp3, o30, o31, o32, o33⟩
    · refine ⟨T', hP, ?_⟩
      rw [hrr]
      simp (disch := omega) only [qlt, qb_some, qb_none, ↓qn_1, ↓qn_2, ↓qn_3, ↓qn_4, ↓qn_9, ↓qn_1000, ↓qn_low, qi_0, qi_1, qi_2, qi_3, qi_4, qi_5, qi_6, qi_7, qi_8, qi_9, qi_10, qi_11, qi_12, qi_13, qi_14, qi_15, qi_16, qi_17, qi_20, qi_24, qi_30, qi_31, qi_32, qi_60, qi_99, qi_100, qi_200, qi_1000, qi_3400, qi_4000, qi_of, pu_gI, pu_pI, nI_leI, nI_ltI, nI_eq, nI_add, pk_mul, pk_sub, pk_div, qw_s, qw_o, qw_l, qr_s, qr_o, qr_l, ql_i, ql_s, ql_o, pk_us, pk_un, pk_uLs, pk_uLn, if_pos, if_neg, if_true, if_false, ite_self, eq_self, Nat.zero_add, Nat.add_zero, qwr, not_true_eq_false, not_false_eq_true, Option.some.injEq, qe_gn0, qe_m1n, qe_gng, qe_ngn, qe_gm, qe_mg, qe_lm1, qe_lgn, qe_lem, qe_leg, qe_tm1, qe_tgn]
      rfl
    · have hlen : (aft (T0.1 7) n u p L (fr T0 0) 0 0 0).length < q := by rw [List.length_cons] at h1; omega
      obtain ⟨x1, x2, x3, x4⟩ : o.1 ≤ 1000 ∧ o.2.1 ≤ 1000 ∧ o.2.2 ≤ 1000 ∧ p.length = L := hl (p, o) (List.mem_cons_self ..)
      rw [hrr]
      unfold bX7_share_48
      simp only [qi_0, qi_1]
      rw [qb_some, if_neg ne10, o31]
      by_cases h0 : o.2.1 = 0
      · have hzz : hz (p, o) = true := by unfold hz; simpa using h0
        obtain ⟨T2, e1, e2⟩ := ih _ T' (a + 1) (b + 1) hlen (next7 hB hp1 hp2 hp3 hP) (fun x hx => hl x (List.mem_cons_of_mem _ hx))
        refine ⟨T2, e1, ?_⟩
        rw [h0, if_pos rfl, qlt, nI_add, nI_add, e2, List.filter_cons_of_pos hzz, List.length_cons, List.length_cons]
        congr 2 <;> omega
      · have hzz : ¬ hz (p, o) = true := by unfold hz; simpa using h0
        have hne : ¬ nI o.2.1 = nI 0 := fun z => h0 ((nI_eq (by omega) (by decide)).mp z)
        obtain ⟨T2, e1, e2⟩ := ih _ T' (a + 1) (b + 0) hlen (next7 hB hp1 hp2 hp3 hP) (fun x hx => hl x (List.mem_cons_of_mem _ hx))
        refine ⟨T2, e1, ?_⟩
        rw [if_neg hne, qlt, nI_add, nI_add, e2, List.filter_cons_of_neg hzz, List.length_cons]
        congr 2
        omega
theorem fd_l (hB : Bs T0 n u L e) : ∀ q (l : List vP) (T : vS) (m : Nat), l.length < q → m ≤ 1000 → NxR T0 n u L (T.1 18) l (mX7_nextPlan T) → (∀ x, x ∈ l → Bd L x) →
    ∃ T', Pt T0 T' L ∧ lX7_food_22 q T (nI m) = some (nI (cst m (l.filter hz)), T') := by
  intro q
  induction q with
  | zero => intro l T m h; exact absurd h (Nat.not_lt_zero _)
  | succ q ih =>
    intro l T m h1 hm hN hl
    obtain ⟨T', hP, h18', hh⟩ := hN
    rw [lX7_food_22]
    rcases hh with ⟨rfl, hrr⟩ | ⟨p, o, rfl, hp1, hp2, hrr, hp3, o30, o31, o32, o33⟩
    · refine ⟨T', hP, ?_⟩
      rw [hrr]
      simp (disch := omega) only [qlt, qb_some, qb_none, ↓qn_1, ↓qn_2, ↓qn_3, ↓qn_4, ↓qn_9, ↓qn_1000, ↓qn_low, qi_0, qi_1, qi_2, qi_3, qi_4, qi_5, qi_6, qi_7, qi_8, qi_9, qi_10, qi_11, qi_12, qi_13, qi_14, qi_15, qi_16, qi_17, qi_20, qi_24, qi_30, qi_31, qi_32, qi_60, qi_99, qi_100, qi_200, qi_1000, qi_3400, qi_4000, qi_of, pu_gI, pu_pI, nI_leI, nI_ltI, nI_eq, nI_add, pk_mul, pk_sub, pk_div, qw_s, qw_o, qw_l, qr_s, qr_o, qr_l, ql_i, ql_s, ql_o, pk_us, pk_un, pk_uLs, pk_uLn, if_pos, if_neg, if_true, if_false, ite_self, eq_self, Nat.zero_add, Nat.add_zero, qwr, not_true_eq_false, not_false_eq_true, Option.some.injEq, qe_gn0, qe_m1n, qe_gng, qe_ngn, qe_gm, qe_mg, qe_lm1, qe_lgn, qe_lem, qe_leg, qe_tm1, qe_tgn]
      rfl
    · have hlen : (aft (T0.1 7) n u p L (fr T0 0) 0 0 0).length < q := by rw [List.length_cons] at h1; omega
      obtain ⟨x1, x2, x3, x4⟩ : o.1 ≤ 1000 ∧ o.2.1 ≤ 1000 ∧ o.2.2 ≤ 1000 ∧ p.length = L := hl (p, o) (List.mem_cons_self ..)
      have hnx := next7 hB hp1 hp2 hp3 hP
      have hl2 : ∀ x, x ∈ aft (T0.1 7) n u p L (fr T0 0) 0 0 0 → Bd L x := fun x hx => hl x (List.mem_cons_of_mem _ hx)
      have hmg : ¬ nI m = gN := qe_gn (by omega)
      rw [hrr]
      unfold bX7_food_50 bX7_food_57 bX7_food_58
      simp only [qi_0, qi_1, qn_9]
      rw [qb_some, if_neg ne10, o31]
      by_cases h0 : o.2.1 = 0
      · have hzz : hz (p, o) = true := by unfold hz; simpa using h0
        rw [h0, if_pos rfl, List.filter_cons_of_pos hzz]
        simp only [eq_false hmg, if_false]
        rw [o33]
        have hc : cst m ((p, o) :: (aft (T0.1 7) n u p L (fr T0 0) 0 0 0).filter hz) = cst (stC m (p, o)) ((aft (T0.1 7) n u p L (fr T0 0) 0 0 0).filter hz) := rfl
        rw [hc]
        by_cases hle : m ≤ o.2.2
        · have : stC m (p, o) = m := if_neg (by show ¬ o.2.2 < m; omega)
          rw [this, if_pos (nI_le hle (by omega))]
          exact ih _ T' m hlen hm hnx hl2
        · have : stC m (p, o) = o.2.2 := if_pos (by show o.2.2 < m; omega)
          rw [this, if_neg (by rw [nI_leI (by omega) (by omega)]; exact hle)]
          exact ih _ T' o.2.2 hlen x3 hnx hl2
      · have hzz : ¬ hz (p, o) = true := by unfold hz; simpa using h0
        have hne : ¬ nI o.2.1 = nI 0 := fun z => h0 ((nI_eq (by omega) (by decide)).mp z)
        rw [if_neg hne, List.filter_cons_of_neg hzz]
        exact ih _ T' m hlen hm hnx hl2
theorem fd_0 (hB : Bs T0 n u L e) : ∀ q (l : List vP) (T : vS), l.length < q → NxR T0 n u L (T.1 18) l (mX7_nextPlan T) → (∀ x, x ∈ l → Bd L x) →
    ∃ T', Pt T0 T' L ∧ ((l.filter hz = [] ∧ lX7_food_22 q T gN = some (gN, T')) ∨ ∃ y r, l.filter hz = y :: r ∧ lX7_food_22 q T gN = some (nI (cst y.2.2.2 r), T')) := by
  intro q
  induction q with
  | zero => intro l T h; exact absurd h (Nat.not_lt_zero _)
  | succ q ih =>
    intro l T h1 hN hl
    obtain ⟨T', hP, h18', hh⟩ := hN
    rw [lX7_food_22]
    rcases hh with ⟨rfl, hrr⟩ | ⟨p, o, rfl, hp1, hp2, hrr, hp3, o30, o31, o32, o33⟩
    · refine ⟨T', hP, Or.inl ⟨rfl, ?_⟩⟩
      rw [hrr]
      simp (disch := omega) only [qlt, qb_some, qb_none, ↓qn_1, ↓qn_2, ↓qn_3, ↓qn_4, ↓qn_9, ↓qn_1000, ↓qn_low, qi_0, qi_1, qi_2, qi_3, qi_4, qi_5, qi_6, qi_7, qi_8, qi_9, qi_10, qi_11, qi_12, qi_13, qi_14, qi_15, qi_16, qi_17, qi_20, qi_24, qi_30, qi_31, qi_32, qi_60, qi_99, qi_100, qi_200, qi_1000, qi_3400, qi_4000, qi_of, pu_gI, pu_pI, nI_leI, nI_ltI, nI_eq, nI_add, pk_mul, pk_sub, pk_div, qw_s, qw_o, qw_l, qr_s, qr_o, qr_l, ql_i, ql_s, ql_o, pk_us, pk_un, pk_uLs, pk_uLn, if_pos, if_neg, if_true, if_false, ite_self, eq_self, Nat.zero_add, Nat.add_zero, qwr, not_true_eq_false, not_false_eq_true, Option.some.injEq, qe_gn0, qe_m1n, qe_gng, qe_ngn, qe_gm, qe_mg, qe_lm1, qe_lgn, qe_lem, qe_leg, qe_tm1, qe_tgn]
    · have hlen : (aft (T0.1 7) n u p L (fr T0 0) 0 0 0).length < q := by rw [List.length_cons] at h1; omega
      obtain ⟨x1, x2, x3, x4⟩ : o.1 ≤ 1000 ∧ o.2.1 ≤ 1000 ∧ o.2.2 ≤ 1000 ∧ p.length = L := hl (p, o) (List.mem_cons_self ..)
      have hnx := next7 hB hp1 hp2 hp3 hP
      have hl2 : ∀ x, x ∈ aft (T0.1 7) n u p L (fr T0 0) 0 0 0 → Bd L x := fun x hx => hl x (List.mem_cons_of_mem _ hx)
      rw [hrr]
      unfold bX7_food_50 bX7_food_57 bX7_food_58
      simp only [qi_0, qi_1, qn_9]
      rw [qb_some, if_neg ne10, o31]
      by_cases h0 : o.2.1 = 0
      · have hzz : hz (p, o) = true := by unfold hz; simpa using h0
        rw [h0, if_pos rfl, List.filter_cons_of_pos hzz]
        simp only [if_true]
        rw [o33]
        obtain ⟨T2, e1, e2⟩ := fd_l hB q _ T' o.2.2 hlen x3 hnx hl2
        exact ⟨T2, e1, Or.inr ⟨(p, o), _, rfl, e2⟩⟩
      · have hzz : ¬ hz (p, o) = true := by unfold hz; simpa using h0
        have hne : ¬ nI o.2.1 = nI 0 := fun z => h0 ((nI_eq (by omega) (by decide)).mp z)
        rw [if_neg hne, List.filter_cons_of_neg hzz]
        exact ih _ T' hlen hnx hl2
theorem ha_l (hB : Bs T0 n u L e) : ∀ q (l : List vP) (T : vS) (b : vP), l.length < q → Bd L b → NxR T0 n u L (T.1 18) l (mX7_nextPlan T) → (∀ x, x ∈ l → Bd L x) →
    ∃ T', Pt T0 T' L ∧ lX7_harm_24 q T (nI b.2.2.1) (nI b.2.1) = bX7_harm_74 T' (nI (hst b l).2.2.1) (nI (hst b l).2.1) := by
  intro q
  induction q with
  | zero => intro l T b h; exact absurd h (Nat.not_lt_zero _)
  | succ q ih =>
    intro l T b h1 hb hN hl
    obtain ⟨T', hP, h18', hh⟩ := hN
    rw [lX7_harm_24]
    rcases hh with ⟨rfl, hrr⟩ | ⟨p, o, rfl, hp1, hp2, hrr, hp3, o30, o31, o32, o33⟩
    · refine ⟨T', hP, ?_⟩
      rw [hrr]
      simp only [qi_0, qi_1]
      rw [qb_some, if_pos rfl]
      rfl
    · have hlen : (aft (T0.1 7) n u p L (fr T0 0) 0 0 0).length < q := by rw [List.length_cons] at h1; omega
      obtain ⟨x1, x2, x3, x4⟩ : o.1 ≤ 1000 ∧ o.2.1 ≤ 1000 ∧ o.2.2 ≤ 1000 ∧ p.length = L := hl (p, o) (List.mem_cons_self ..)
      obtain ⟨y1, y2, y3, y4⟩ := id hb
      have hnx := next7 hB hp1 hp2 hp3 hP
      have hl2 : ∀ x, x ∈ aft (T0.1 7) n u p L (fr T0 0) 0 0 0 → Bd L x := fun x hx => hl x (List.mem_cons_of_mem _ hx)
      have g0 : ¬ nI b.2.2.1 < nI 0 := nI_nlt (Nat.zero_le _) (by omega)
      have hc : hst b ((p, o) :: aft (T0.1 7) n u p L (fr T0 0) 0 0 0) = hst (stH b (p, o)) (aft (T0.1 7) n u p L (fr T0 0) 0 0 0) := rfl
      rw [hc, hrr]
      unfold bX7_harm_60
      simp only [qi_0, qi_1]
      rw [qb_some, if_neg ne10, if_neg g0, o31, o32]
      have go := fun b' (hb' : Bd L b') => ih _ T' b' hlen hb' hnx hl2
      by_cases c1 : o.2.1 < b.2.2.1
      · have : stH b (p, o) = (p, o) := if_pos (Or.inl c1)
        rw [this, if_pos (nI_lt c1 (by omega)), qlt, qlt]
        exact go (p, o) ⟨x1, x2, x3, x4⟩
      · rw [if_neg (nI_nlt (by omega) (by omega))]
        by_cases c2 : o.2.1 = b.2.2.1
        · rw [if_pos (by rw [c2])]
          by_cases c3 : o.1 ≤ b.2.1
          · have : stH b (p, o) = b := if_neg (by show ¬ (o.2.1 < b.2.2.1 ∨ (o.2.1 = b.2.2.1 ∧ b.2.1 < o.1)); omega)
            rw [this, if_pos (nI_le c3 (by omega))]
            exact go b hb
          · have : stH b (p, o) = (p, o) := if_pos (Or.inr ⟨c2, by show b.2.1 < o.1; omega⟩)
            rw [this, if_neg (by rw [nI_leI (by omega) (by omega)]; exact c3), qlt, qlt]
            exact go (p, o) ⟨x1, x2, x3, x4⟩
        · have : stH b (p, o) = b := if_neg (by show ¬ (o.2.1 < b.2.2.1 ∨ (o.2.1 = b.2.2.1 ∧ b.2.1 < o.1)); omega)
          rw [this, if_neg (by rw [nI_eq (by omega) (by omega)]; exact c2)]
          exact go b hb
theorem ha_0 (hB : Bs T0 n u L e) {q : Nat} {x : vP} {l : List vP} {T : vS} (h1 : (x :: l).length < q) (hN : NxR T0 n u L (T.1 18) (x :: l) (mX7_nextPlan T)) (hl : ∀ y, y ∈ x :: l → Bd L y) :
    ∃ T', Pt T0 T' L ∧ lX7_harm_24 q T m1 (nI 0) = bX7_harm_74 T' (nI (hst x l).2.2.1) (nI (hst x l).2.1) := by
  obtain ⟨q, rfl⟩ : ∃ q2, q = q2 + 1 := ⟨q - 1, by omega⟩
  obtain ⟨T', hP, h18', hh⟩ := hN
  rw [lX7_harm_24]
  rcases hh with ⟨h0, _⟩ | ⟨p, o, hx, hp1, hp2, hrr, hp3, o30, o31, o32, o33⟩
  · exact absurd h0 (by simp)
  · rw [List.cons.injEq] at hx
    obtain ⟨rfl, rfl⟩ := hx
    have hlen : (aft (T0.1 7) n u p L (fr T0 0) 0 0 0).length < q := by rw [List.length_cons] at h1; omega
    have mlt : m1 < nI 0 := by decide +kernel
    rw [hrr]
    unfold bX7_harm_60
    simp only [qi_0, qi_1]
    rw [qb_some, if_neg ne10, if_pos mlt, o31, o32, qlt, qlt]
    exact ha_l hB q _ T' (p, o) hlen (hl (p, o) (List.mem_cons_self ..)) (next7 hB hp1 hp2 hp3 hP) (fun x hx => hl x (List.mem_cons_of_mem _ hx))
end L8
