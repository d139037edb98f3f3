/-! ===== PURE: the next plan ===== -/
/-- a world of the reference that is on its way through plans of L days -/
def Pt (T0 T : vS) (L : Nat) : Prop :=
  (∀ p, p ≠ 20 → p ≠ 21 → p ≠ 22 → p ≠ 29 → p ≠ 30 → p ≠ 31 → p ≠ 32 → p ≠ 33 → T.1 0 p = T0.1 0 p) ∧ T.1 0 29 = nI L ∧ (∀ c, c ≠ 0 → c ≠ 10 → c ≠ 11 → c ≠ 17 → c ≠ 18 → T.1 c = T0.1 c) ∧ fr T 0 = fr T0 0 ∧ T.2 = T0.2
theorem Pt_w17 {T0 T : vS} {L : Nat} {f : Nat → Int32} (h : Pt T0 T L) : Pt T0 (wR T 17 f) L := by
  obtain ⟨a1, a2, a3, a4, a5⟩ := h
  exact ⟨fun p p1 p2 p3 p4 p5 p6 p7 p8 => by rw [qr_o (by decide)]; exact a1 p p1 p2 p3 p4 p5 p6 p7 p8, by rw [qr_o (by decide)]; exact a2, fun c c1 c2 c3 c4 c5 => by rw [qr_o c4]; exact a3 c c1 c2 c3 c4 c5, by rw [fr_eq (T := T) (qr_o (by decide))]; exact a4, a5⟩
theorem snoc_cases : ∀ ds : List Nat, ds = [] ∨ ∃ es d, ds = es ++ [d] := by
  intro ds
  induction ds with
  | nil => exact Or.inl rfl
  | cons a ds ih =>
    rcases ih with rfl | ⟨es, d, rfl⟩
    · exact Or.inr ⟨[], a, rfl⟩
    · exact Or.inr ⟨a :: es, d, rfl⟩
section NX
variable {T0 : vS} {n u L e : Nat}
/-- what holds of the world that the plans start from -/
def Bs (T0 : vS) (n u L e : Nat) : Prop := n ≤ 4 ∧ T0.1 0 10 = nI n ∧ (T0.1 0 34 = if u < 4 then nI u else gN) ∧ L ≤ 4 ∧ 1 ≤ L ∧ GInv n (T0.1 7) ∧ FInv n (fr T0 0) ∧ fr T0 0 14 = nI e ∧ e ≤ 200
theorem layPlan7 {T : vS} {q : List Nat} (hB : Bs T0 n u L e) (hP : Pt T0 T L) (hq : q.length = L) (hq2 : ∀ x, x ∈ q → x ≤ 12) (h17 : ∀ i, i < L → T.1 17 i = nI (q.getD i 0)) :
    ∃ T', mX7_layPlan T = some (nI (badI (T0.1 7) n u q (fr T0 0)), T') ∧ Pt T0 T' L ∧ T'.1 17 = T.1 17 ∧ T'.1 18 = T.1 18 ∧ (badI (T0.1 7) n u q (fr T0 0) = L → T'.1 0 30 = nI (layO (T0.1 7) n q (fr T0 0) 0 0 0).1 - nI (layO (T0.1 7) n q (fr T0 0) 0 0 0).2.1 ∧ T'.1 0 31 = nI (layO (T0.1 7) n q (fr T0 0) 0 0 0).2.1 ∧ T'.1 0 32 = nI (layO (T0.1 7) n q (fr T0 0) 0 0 0).1 ∧ T'.1 0 33 = nI (layO (T0.1 7) n q (fr T0 0) 0 0 0).2.2) := by
  obtain ⟨hn, h10, hu, hL4, hL1, hGI, hFI, h14, he⟩ := hB
  obtain ⟨a1, a2, a3, a4, a5⟩ := hP
  have t7 : T.1 7 = T0.1 7 := a3 7 (by decide) (by decide) (by decide) (by decide) (by decide)
  have h06 : (0 : Nat) < 6 := by decide
  have h16 : (1 : Nat) < 6 := by decide
  have hcv := copyV7T (T := T) h06 h16 (show (0 : Nat) ≠ 1 by decide)
  obtain ⟨o', F', s', e1, e2, e3⟩ := lay_l (T := T) (n := n) (u := u) (L := L) hn (by rw [a1 10 (by decide) (by decide) (by decide) (by decide) (by decide) (by decide) (by decide) (by decide)]; exact h10) (by rw [a1 34 (by decide) (by decide) (by decide) (by decide) (by decide) (by decide) (by decide) (by decide)]; exact hu) a2 hL4 (by rw [t7]; exact hGI) q FU 0 (upd (upd (upd (T.1 0) 30 (nI 0)) 31 (nI 0)) 33 (nI 0)) (fr T 0) (T.1 11) 0 0 0 e (by omega) (by rw [hq]; unfold FU; omega)
    (fun i hi => by rw [Nat.zero_add]; exact h17 i (by omega)) hq2 (fun p p1 p2 p3 p4 p5 p6 p7 => by rw [pk_un p7, pk_un p5, pk_un p4]) (by rw [a4]; exact hFI) (cut_frT T 0) (by rw [a4]; exact h14) (by omega)
    (by rw [pk_un (by decide), pk_un (by decide), pk_us, i32_00]) (by rw [pk_un (by decide), pk_us]) pk_us
  rw [t7, a4] at e1 e3
  unfold mX7_layPlan
  refine ⟨mk3 T o' (putF (T.1 10) 1 F') s', ?_, ⟨fun p p1 p2 p3 p4 p5 p6 p7 p8 => ?_, ?_, fun c c1 c2 c3 c4 c5 => ?_, ?_, a5⟩, mk3_o (by decide) (by decide) (by decide), mk3_o (by decide) (by decide) (by decide), fun z => ?_⟩
  · rw [a4] at hcv
    simp (disch := omega) only [qlt, qb_some, qb_none, ↓qn_1, ↓qn_2, ↓qn_3, ↓qn_4, ↓qn_9, ↓qn_1000, ↓qn_low, qi_0, qi_1, qi_2, qi_3, qi_4, qi_5, qi_6, qi_7, qi_8, qi_9, qi_10, qi_11, qi_12, qi_13, qi_14, qi_15, qi_16, qi_17, qi_20, qi_24, qi_30, qi_31, qi_32, qi_60, qi_99, qi_100, qi_200, qi_1000, qi_3400, qi_4000, qi_of, pu_gI, pu_pI, nI_leI, nI_ltI, nI_eq, nI_add, pk_mul, pk_sub, pk_div, qw_s, qw_o, qw_l, qr_s, qr_o, qr_l, ql_i, ql_s, ql_o, pk_us, pk_un, pk_uLs, pk_uLn, if_pos, if_neg, if_true, if_false, ite_self, eq_self, Nat.zero_add, Nat.add_zero, qwr, not_true_eq_false, not_false_eq_true, Option.some.injEq, qe_gn0, qe_m1n, qe_gng, qe_ngn, qe_gm, qe_mg, qe_lm1, qe_lgn, qe_lem, qe_leg, qe_tm1, qe_tgn, hcv, mk3_w0]
    rw [Nat.zero_add] at e1
    exact e1
  · rw [mk3_0, e2 p p1 p2 p3 p5 p6 p7 p8]
    exact a1 p p1 p2 p3 p4 p5 p6 p7 p8
  · rw [mk3_0, e2 29 (by decide) (by decide) (by decide) (by decide) (by decide) (by decide) (by decide)]
    exact a2
  · rw [mk3_o c1 c2 c3]
    exact a3 c c1 c2 c3 c4 c5
  · rw [← a4]
    show frA (putF (T.1 10) 1 F') 0 = _
    exact frA_puto (by decide)
  · rw [mk3_0]
    exact e3 (by rw [hq]; exact z)
/-- what nextPlan answers, when the plans of a list are left -/
def NxR (T0 : vS) (n u L : Nat) (t18 : Nat → Int32) (l : List vP) (r : Option (Int32 × vS)) : Prop :=
  ∃ T', Pt T0 T' L ∧ T'.1 18 = t18 ∧ ((l = [] ∧ r = some (nI 0, T')) ∨ ∃ p o, l = (p, o) :: aft (T0.1 7) n u p L (fr T0 0) 0 0 0 ∧ p.length = L ∧ (∀ x, x ∈ p → x ≤ 12) ∧ r = some (nI 1, T') ∧ (∀ i, i < L → T'.1 17 i = nI (p.getD i 0)) ∧ T'.1 0 30 = nI o.1 - nI o.2.1 ∧ T'.1 0 31 = nI o.2.1 ∧ T'.1 0 32 = nI o.1 ∧ T'.1 0 33 = nI o.2.2)
theorem getD_app_l {a b : List Nat} {i : Nat} (h : i < a.length) : (a ++ b).getD i 0 = a.getD i 0 := by
  rw [List.getD_eq_getElem?_getD, List.getD_eq_getElem?_getD, List.getElem?_append_left h]
theorem getD_app_r {a b : List Nat} {i : Nat} (h : a.length ≤ i) : (a ++ b).getD i 0 = b.getD (i - a.length) 0 := by
  rw [List.getD_eq_getElem?_getD, List.getD_eq_getElem?_getD, List.getElem?_append_right h]
theorem getD_rep {k i x : Nat} (h : i < k) : (List.replicate k x).getD i 0 = x := by
  rw [List.getD_eq_getElem?_getD, List.getElem?_replicate, if_pos h]
  rfl
theorem getD_take {l : List Nat} {k i : Nat} (h : i < k) : (l.take k).getD i 0 = l.getD i 0 := by
  rw [List.getD_eq_getElem?_getD, List.getD_eq_getElem?_getD, List.getElem?_take, if_pos h]
theorem step_l {K : vS → Int32 → Option (Int32 × vS)} {B : Nat} (hB : Bs T0 n u L e)
    (hK : ∀ (ds : List Nat) (T : vS), ds.length = L → rc ds L < B → (∀ x, x ∈ ds → x ≤ 12) → (∀ i, i < ds.length → T.1 17 i = nI (ds.getD i 0)) → Pt T0 T L → NxR T0 n u L (T.1 18) (aft (T0.1 7) n u ds L (fr T0 0) 0 0 0) (K T (nI ds.length - nI 1)))
    {pre : List Nat} {T : vS} (h1 : 1 ≤ pre.length) (h2 : pre.length ≤ L) (h3 : rc (pre ++ List.replicate (L - pre.length) 0) L < B) (h4 : ∀ x, x ∈ pre → x ≤ 12) (h5 : ∀ i, i < pre.length → T.1 17 i = nI (pre.getD i 0)) (hP : Pt T0 T L) :
    NxR T0 n u L (T.1 18) (geP (T0.1 7) n u (pre ++ List.replicate (L - pre.length) 0) L (fr T0 0) 0 0 0) (lX7_nextPlan_42 K FU T (nI pre.length)) := by
  obtain ⟨hn, h10, hu, hL4, hL1, hGI, hFI, h14, he⟩ := id hB
  have e29 : T.1 0 29 = nI L := hP.2.1
  have l1 := lp_fill (fun q U j => lX7_nextPlan_42 K q U j) T 17 0 L (fun _ => nI 0) (fun U => bX7_nextPlan_63 K U)
    (by intro q f hf; show lX7_nextPlan_42 K (q + 1) _ (nI L) = _; rw [lX7_nextPlan_42]; simp (disch := omega) only [qlt, qb_some, qb_none, ↓qn_1, ↓qn_2, ↓qn_3, ↓qn_4, ↓qn_9, ↓qn_1000, ↓qn_low, qi_0, qi_1, qi_2, qi_3, qi_4, qi_5, qi_6, qi_7, qi_8, qi_9, qi_10, qi_11, qi_12, qi_13, qi_14, qi_15, qi_16, qi_17, qi_20, qi_24, qi_30, qi_31, qi_32, qi_60, qi_99, qi_100, qi_200, qi_1000, qi_3400, qi_4000, qi_of, pu_gI, pu_pI, nI_leI, nI_ltI, nI_eq, nI_add, pk_mul, pk_sub, pk_div, qw_s, qw_o, qw_l, qr_s, qr_o, qr_l, ql_i, ql_s, ql_o, pk_us, pk_un, pk_uLs, pk_uLn, if_pos, if_neg, if_true, if_false, ite_self, eq_self, Nat.zero_add, Nat.add_zero, qwr, not_true_eq_false, not_false_eq_true, Option.some.injEq, qe_gn0, qe_m1n, qe_gng, qe_ngn, qe_gm, qe_mg, qe_lm1, qe_lgn, qe_lem, qe_leg, qe_tm1, qe_tgn, e29])
    (by intro q f j hj hf; show lX7_nextPlan_42 K (q + 1) _ (nI j) = _; rw [lX7_nextPlan_42]; simp (disch := omega) only [qlt, qb_some, qb_none, ↓qn_1, ↓qn_2, ↓qn_3, ↓qn_4, ↓qn_9, ↓qn_1000, ↓qn_low, qi_0, qi_1, qi_2, qi_3, qi_4, qi_5, qi_6, qi_7, qi_8, qi_9, qi_10, qi_11, qi_12, qi_13, qi_14, qi_15, qi_16, qi_17, qi_20, qi_24, qi_30, qi_31, qi_32, qi_60, qi_99, qi_100, qi_200, qi_1000, qi_3400, qi_4000, qi_of, pu_gI, pu_pI, nI_leI, nI_ltI, nI_eq, nI_add, pk_mul, pk_sub, pk_div, qw_s, qw_o, qw_l, qr_s, qr_o, qr_l, ql_i, ql_s, ql_o, pk_us, pk_un, pk_uLs, pk_uLn, if_pos, if_neg, if_true, if_false, ite_self, eq_self, Nat.zero_add, Nat.add_zero, qwr, not_true_eq_false, not_false_eq_true, Option.some.injEq, qe_gn0, qe_m1n, qe_gng, qe_ngn, qe_gm, qe_mg, qe_lm1, qe_lgn, qe_lem, qe_leg, qe_tm1, qe_tgn, e29]) FU pre.length (T.1 17) h2 (by unfold FU; omega) (fun _ _ => rfl)
  rw [pu_wR_self] at l1
  have l1' : lX7_nextPlan_42 K FU T (nI pre.length) = bX7_nextPlan_63 K (wR T 17 (fun i => if 0 + pre.length ≤ i ∧ i < 0 + L then nI 0 else T.1 17 i)) := l1
  rw [l1']
  generalize hq : pre ++ List.replicate (L - pre.length) 0 = q at h3 ⊢
  have hql : q.length = L := by rw [← hq, List.length_append, List.length_replicate]; omega
  have hq12 : ∀ x, x ∈ q → x ≤ 12 := by
    intro x hx
    rw [← hq, List.mem_append] at hx
    rcases hx with hx | hx
    · exact h4 x hx
    · rw [List.mem_replicate] at hx; omega
  have h17 : ∀ i, i < L → (wR T 17 (fun i => if 0 + pre.length ≤ i ∧ i < 0 + L then nI 0 else T.1 17 i)).1 17 i = nI (q.getD i 0) := by
    intro i hi
    rw [qr_s, ← hq]
    by_cases h : pre.length ≤ i
    · rw [if_pos (by omega), getD_app_r h, getD_rep (by omega)]
    · rw [if_neg (by omega), getD_app_l (by omega)]
      exact h5 i (by omega)
  obtain ⟨T2, f1, f2, f3, f4, f5⟩ := layPlan7 hB (Pt_w17 hP) hql hq12 h17
  have hs := ge_split (G := T0.1 7) (n := n) (u := u) q (fr T0 0) 0 0 0
  rw [hql] at hs
  have hbl := badI_le (G := T0.1 7) (n := n) (u := u) q (fr T0 0)
  rw [hql] at hbl
  have b29 : T2.1 0 29 = nI L := f2.2.1
  unfold bX7_nextPlan_63
  by_cases hbad : badI (T0.1 7) n u q (fr T0 0) = L
  · rw [hs.1 hbad]
    refine ⟨T2, f2, by rw [f4, qr_o (by decide)], Or.inr ⟨q, _, rfl, hql, hq12, ?_, fun i hi => by rw [f3]; exact h17 i hi, f5 hbad⟩⟩
    rw [f1, qb_some]
    simp (disch := omega) only [qlt, qb_some, qb_none, ↓qn_1, ↓qn_2, ↓qn_3, ↓qn_4, ↓qn_9, ↓qn_1000, ↓qn_low, qi_0, qi_1, qi_2, qi_3, qi_4, qi_5, qi_6, qi_7, qi_8, qi_9, qi_10, qi_11, qi_12, qi_13, qi_14, qi_15, qi_16, qi_17, qi_20, qi_24, qi_30, qi_31, qi_32, qi_60, qi_99, qi_100, qi_200, qi_1000, qi_3400, qi_4000, qi_of, pu_gI, pu_pI, nI_leI, nI_ltI, nI_eq, nI_add, pk_mul, pk_sub, pk_div, qw_s, qw_o, qw_l, qr_s, qr_o, qr_l, ql_i, ql_s, ql_o, pk_us, pk_un, pk_uLs, pk_uLn, if_pos, if_neg, if_true, if_false, ite_self, eq_self, Nat.zero_add, Nat.add_zero, qwr, not_true_eq_false, not_false_eq_true, Option.some.injEq, qe_gn0, qe_m1n, qe_gng, qe_ngn, qe_gm, qe_mg, qe_lm1, qe_lgn, qe_lem, qe_leg, qe_tm1, qe_tgn, b29, hbad]
  · have hbL : badI (T0.1 7) n u q (fr T0 0) < L := by omega
    rw [hs.2 hbL]
    generalize badI (T0.1 7) n u q (fr T0 0) = b at *
    have l2 := lp_fill (fun q U j => lX7_nextPlan_82 K q U j) T2 17 0 L (fun _ => nI 12) (fun U => bX7_nextPlan_104 K U)
      (by intro q f hf; show lX7_nextPlan_82 K (q + 1) _ (nI L) = _; rw [lX7_nextPlan_82]; simp (disch := omega) only [qlt, qb_some, qb_none, ↓qn_1, ↓qn_2, ↓qn_3, ↓qn_4, ↓qn_9, ↓qn_1000, ↓qn_low, qi_0, qi_1, qi_2, qi_3, qi_4, qi_5, qi_6, qi_7, qi_8, qi_9, qi_10, qi_11, qi_12, qi_13, qi_14, qi_15, qi_16, qi_17, qi_20, qi_24, qi_30, qi_31, qi_32, qi_60, qi_99, qi_100, qi_200, qi_1000, qi_3400, qi_4000, qi_of, pu_gI, pu_pI, nI_leI, nI_ltI, nI_eq, nI_add, pk_mul, pk_sub, pk_div, qw_s, qw_o, qw_l, qr_s, qr_o, qr_l, ql_i, ql_s, ql_o, pk_us, pk_un, pk_uLs, pk_uLn, if_pos, if_neg, if_true, if_false, ite_self, eq_self, Nat.zero_add, Nat.add_zero, qwr, not_true_eq_false, not_false_eq_true, Option.some.injEq, qe_gn0, qe_m1n, qe_gng, qe_ngn, qe_gm, qe_mg, qe_lm1, qe_lgn, qe_lem, qe_leg, qe_tm1, qe_tgn, b29])
      (by intro q f j hj hf; show lX7_nextPlan_82 K (q + 1) _ (nI j) = _; rw [lX7_nextPlan_82]; simp (disch := omega) only [qlt, qb_some, qb_none, ↓qn_1, ↓qn_2, ↓qn_3, ↓qn_4, ↓qn_9, ↓qn_1000, ↓qn_low, qi_0, qi_1, qi_2, qi_3, qi_4, qi_5, qi_6, qi_7, qi_8, qi_9, qi_10, qi_11, qi_12, qi_13, qi_14, qi_15, qi_16, qi_17, qi_20, qi_24, qi_30, qi_31, qi_32, qi_60, qi_99, qi_100, qi_200, qi_1000, qi_3400, qi_4000, qi_of, pu_gI, pu_pI, nI_leI, nI_ltI, nI_eq, nI_add, pk_mul, pk_sub, pk_div, qw_s, qw_o, qw_l, qr_s, qr_o, qr_l, ql_i, ql_s, ql_o, pk_us, pk_un, pk_uLs, pk_uLn, if_pos, if_neg, if_true, if_false, ite_self, eq_self, Nat.zero_add, Nat.add_zero, qwr, not_true_eq_false, not_false_eq_true, Option.some.injEq, qe_gn0, qe_m1n, qe_gng, qe_ngn, qe_gm, qe_mg, qe_lm1, qe_lgn, qe_lem, qe_leg, qe_tm1, qe_tgn, b29]) FU (b + 1) (T2.1 17) (by omega) (by unfold FU; omega) (fun _ _ => rfl)
    rw [pu_wR_self] at l2
    have l2' : lX7_nextPlan_82 K FU T2 (nI (b + 1)) = bX7_nextPlan_104 K (wR T2 17 (fun i => if 0 + (b + 1) ≤ i ∧ i < 0 + L then nI 12 else T2.1 17 i)) := l2
    have hdl : (q.take (b + 1) ++ List.replicate (L - (b + 1)) 12).length = L := by
      rw [List.length_append, List.length_take, List.length_replicate, hql]
      omega
    have go := hK (q.take (b + 1) ++ List.replicate (L - (b + 1)) 12) (wR T2 17 (fun i => if 0 + (b + 1) ≤ i ∧ i < 0 + L then nI 12 else T2.1 17 i)) hdl (by
        rw [rc_12s]
        exact Nat.lt_of_le_of_lt (rc_take _ _ _) h3)
      (by
        intro x hx
        rw [List.mem_append] at hx
        rcases hx with hx | hx
        · exact hq12 x (List.mem_of_mem_take hx)
        · rw [List.mem_replicate] at hx; omega)
      (by
        intro i hi
        rw [hdl] at hi
        rw [qr_s]
        by_cases h : b + 1 ≤ i
        · rw [if_pos (by omega), getD_app_r (by rw [List.length_take]; omega), getD_rep (by rw [List.length_take]; omega)]
        · rw [if_neg (by omega), getD_app_l (by rw [List.length_take]; omega), getD_take (by omega), f3]
          exact h17 i hi) (Pt_w17 f2)
    rw [aft_12s, hdl, qr_o (by decide), f4, qr_o (by decide)] at go
    have l3 : lX7_nextPlan_82 K FU T2 (nI (b + 1)) = K (wR T2 17 (fun i => if 0 + (b + 1) ≤ i ∧ i < 0 + L then nI 12 else T2.1 17 i)) (nI L - nI 1) := by
      rw [l2']
      unfold bX7_nextPlan_104
      simp only [qlt, qi_1]
      rw [qr_o (show (0 : Nat) ≠ 17 by decide), b29]
    have hbne : ¬ b = L := hbad
    rw [f1, qb_some]
    simp (disch := omega) only [qlt, qb_some, qb_none, ↓qn_1, ↓qn_2, ↓qn_3, ↓qn_4, ↓qn_9, ↓qn_1000, ↓qn_low, qi_0, qi_1, qi_2, qi_3, qi_4, qi_5, qi_6, qi_7, qi_8, qi_9, qi_10, qi_11, qi_12, qi_13, qi_14, qi_15, qi_16, qi_17, qi_20, qi_24, qi_30, qi_31, qi_32, qi_60, qi_99, qi_100, qi_200, qi_1000, qi_3400, qi_4000, qi_of, pu_gI, pu_pI, nI_leI, nI_ltI, nI_eq, nI_add, pk_mul, pk_sub, pk_div, qw_s, qw_o, qw_l, qr_s, qr_o, qr_l, ql_i, ql_s, ql_o, pk_us, pk_un, pk_uLs, pk_uLn, if_pos, if_neg, if_true, if_false, ite_self, eq_self, Nat.zero_add, Nat.add_zero, qwr, not_true_eq_false, not_false_eq_true, Option.some.injEq, qe_gn0, qe_m1n, qe_gng, qe_ngn, qe_gm, qe_mg, qe_lm1, qe_lgn, qe_lem, qe_leg, qe_tm1, qe_tgn, b29, hbne]
    rw [l3]
    exact go
theorem next_l (hB : Bs T0 n u L e) : ∀ q (ds : List Nat) (T : vS), ds.length ≤ L → rc ds L * 5 + ds.length < q → (∀ x, x ∈ ds → x ≤ 12) → (∀ i, i < ds.length → T.1 17 i = nI (ds.getD i 0)) → Pt T0 T L →
    NxR T0 n u L (T.1 18) (aft (T0.1 7) n u ds L (fr T0 0) 0 0 0) (lX7_nextPlan_7 q T (nI ds.length - nI 1)) := by
  obtain ⟨hn, h10, hu, hL4, hL1, hGI, hFI, h14, he⟩ := id hB
  intro q
  induction q with
  | zero => intro ds T h1 h2; omega
  | succ q ih =>
    intro ds T h1 h2 h3 h4 hP
    rw [lX7_nextPlan_7]
    rcases snoc_cases ds with rfl | ⟨es, d, rfl⟩
    · have : m1 < 0 := by decide +kernel
      rw [List.length_nil, z01, if_pos this]
      exact ⟨T, hP, rfl, Or.inl ⟨rfl, rfl⟩⟩
    · rw [List.length_append, List.length_singleton] at h1 h2 h4 ⊢
      have hd : d ≤ 12 := h3 d (by simp)
      have hg : T.1 17 es.length = nI d := by
        rw [h4 es.length (by omega), getD_app_r (Nat.le_refl _), Nat.sub_self]
        rfl
      have hel : es.length < L := by omega
      have e2 : nI es.length + m1 = nI es.length - nI 1 := by
        have : m1 = -nI 1 := by decide +kernel
        rw [this]; grind
      rw [pk_sub (show 1 ≤ es.length + 1 by omega), Nat.add_sub_cancel]
      by_cases h12 : d = 12
      · subst h12
        have go := ih es (wI T 17 es.length (nI 13)) (by omega) (by rw [rc_12] at h2; omega) (fun x hx => h3 x (by simp [hx])) (fun i hi => by
          rw [qw_s, pk_un (by omega), h4 i (by omega), getD_app_l hi]) (by
            have := Pt_w17 (f := upd (T.1 17) es.length (nI 13)) hP
            exact this)
        rw [aft_12]
        rw [qw_o (by decide)] at go
        simp (disch := omega) only [qlt, qb_some, qb_none, ↓qn_1, ↓qn_2, ↓qn_3, ↓qn_4, ↓qn_9, ↓qn_1000, ↓qn_low, qi_0, qi_1, qi_2, qi_3, qi_4, qi_5, qi_6, qi_7, qi_8, qi_9, qi_10, qi_11, qi_12, qi_13, qi_14, qi_15, qi_16, qi_17, qi_20, qi_24, qi_30, qi_31, qi_32, qi_60, qi_99, qi_100, qi_200, qi_1000, qi_3400, qi_4000, qi_of, pu_gI, pu_pI, nI_leI, nI_ltI, nI_eq, nI_add, pk_mul, pk_div, qw_s, qw_o, qw_l, qr_s, qr_o, qr_l, ql_i, ql_s, ql_o, pk_us, pk_un, pk_uLs, pk_uLn, if_pos, if_neg, if_true, if_false, ite_self, eq_self, Nat.zero_add, Nat.add_zero, qwr, not_true_eq_false, not_false_eq_true, Option.some.injEq, qe_gn0, qe_m1n, qe_gng, qe_ngn, qe_gm, qe_mg, qe_lm1, qe_lgn, qe_lem, qe_leg, qe_tm1, qe_tgn, hg]
        rw [e2]
        exact go
      · have hd12 : d < 12 := by omega
        have hrs := rc_succ es d (L - (es.length + 1)) hd12
        rw [show es.length + 1 + (L - (es.length + 1)) = L by omega] at hrs
        have has := aft_succ (G := T0.1 7) (n := n) (u := u) es d (L - (es.length + 1)) (fr T0 0) 0 0 0 hd12
        rw [show es.length + 1 + (L - (es.length + 1)) = L by omega] at has
        have hlen : (es ++ [d + 1]).length = es.length + 1 := by rw [List.length_append, List.length_singleton]
        have heq : es ++ (d + 1) :: List.replicate (L - (es.length + 1)) 0 = (es ++ [d + 1]) ++ List.replicate (L - (es ++ [d + 1]).length) 0 := by
          rw [hlen]; simp
        rw [heq] at hrs has
        have st := step_l (K := lX7_nextPlan_7 q) (B := rc (es ++ [d]) L) hB (fun ds' T' k1 k2 k3 k4 k5 => ih ds' T' (by omega) (by omega) k3 k4 k5) (pre := es ++ [d + 1]) (T := wI T 17 es.length (nI (d + 1))) (by rw [hlen]; omega) (by rw [hlen]; exact h1) (by omega)
          (by
            intro x hx
            rw [List.mem_append] at hx
            rcases hx with hx | hx
            · exact h3 x (by simp [hx])
            · rw [List.mem_singleton] at hx; omega)
          (by
            intro i hi
            rw [hlen] at hi
            rw [qw_s]
            by_cases hie : i = es.length
            · subst hie
              rw [pk_us, getD_app_r (Nat.le_refl _), Nat.sub_self]
              rfl
            · rw [pk_un hie, h4 i (by omega), getD_app_l (by omega), getD_app_l (by omega)])
          (by
            have := Pt_w17 (f := upd (T.1 17) es.length (nI (d + 1))) hP
            exact this)
        rw [has]
        rw [qw_o (by decide), hlen] at st
        simp (disch := omega) only [qlt, qb_some, qb_none, ↓qn_1, ↓qn_2, ↓qn_3, ↓qn_4, ↓qn_9, ↓qn_1000, ↓qn_low, qi_0, qi_1, qi_2, qi_3, qi_4, qi_5, qi_6, qi_7, qi_8, qi_9, qi_10, qi_11, qi_12, qi_13, qi_14, qi_15, qi_16, qi_17, qi_20, qi_24, qi_30, qi_31, qi_32, qi_60, qi_99, qi_100, qi_200, qi_1000, qi_3400, qi_4000, qi_of, pu_gI, pu_pI, nI_leI, nI_ltI, nI_eq, nI_add, pk_mul, pk_div, qw_s, qw_o, qw_l, qr_s, qr_o, qr_l, ql_i, ql_s, ql_o, pk_us, pk_un, pk_uLs, pk_uLn, if_pos, if_neg, if_true, if_false, ite_self, eq_self, Nat.zero_add, Nat.add_zero, qwr, not_true_eq_false, not_false_eq_true, Option.some.injEq, qe_gn0, qe_m1n, qe_gng, qe_ngn, qe_gm, qe_mg, qe_lm1, qe_lgn, qe_lem, qe_leg, qe_tm1, qe_tgn, hg]
        rw [hlen]
        exact st
/-- from plan to plan -/
theorem next7 (hB : Bs T0 n u L e) {p : List Nat} {T : vS} (h1 : p.length = L) (h3 : ∀ x, x ∈ p → x ≤ 12) (h4 : ∀ i, i < L → T.1 17 i = nI (p.getD i 0)) (hP : Pt T0 T L) : NxR T0 n u L (T.1 18) (aft (T0.1 7) n u p L (fr T0 0) 0 0 0) (mX7_nextPlan T) := by
  obtain ⟨hn, h10, hu, hL4, hL1, hGI, hFI, h14, he⟩ := id hB
  have hr := rc_lt p L
  have h13 : 13 ^ L ≤ 13 ^ 4 := Nat.pow_le_pow_right (by decide) hL4
  have := next_l hB FU p T (by omega) (by unfold FU; omega) h3 (fun i hi => h4 i (by omega)) hP
  rw [h1] at this
  unfold mX7_nextPlan
  simp (disch := omega) only [qlt, qb_some, qb_none, ↓qn_1, ↓qn_2, ↓qn_3, ↓qn_4, ↓qn_9, ↓qn_1000, ↓qn_low, qi_0, qi_1, qi_2, qi_3, qi_4, qi_5, qi_6, qi_7, qi_8, qi_9, qi_10, qi_11, qi_12, qi_13, qi_14, qi_15, qi_16, qi_17, qi_20, qi_24, qi_30, qi_31, qi_32, qi_60, qi_99, qi_100, qi_200, qi_1000, qi_3400, qi_4000, qi_of, pu_gI, pu_pI, nI_leI, nI_ltI, nI_eq, nI_add, pk_mul, pk_div, qw_s, qw_o, qw_l, qr_s, qr_o, qr_l, ql_i, ql_s, ql_o, pk_us, pk_un, pk_uLs, pk_uLn, if_pos, if_neg, if_true, if_false, ite_self, eq_self, Nat.zero_add, Nat.add_zero, qwr, not_true_eq_false, not_false_eq_true, Option.some.injEq, qe_gn0, qe_m1n, qe_gng, qe_ngn, qe_gm, qe_mg, qe_lm1, qe_lgn, qe_lem, qe_leg, qe_tm1, qe_tgn, hP.2.1]
  exact this
/-- the first of all plans -/
theorem first7 (hB : Bs T0 n u L e) (T0p : Pt T0 (wI T0 0 29 (nI L)) L) : ∃ T', mX7_noPlan T0 (nI L) = some T' ∧ T'.1 18 = T0.1 18 ∧ NxR T0 n u L (T0.1 18) (allP (T0.1 7) n u false L (fr T0 0) 0 0 0) (mX7_nextPlan T') := by
  obtain ⟨hn, h10, hu, hL4, hL1, hGI, hFI, h14, he⟩ := id hB
  have l1 := lp_fill0 (fun q U j => lX7_noPlan_7 (nI L) q U j) (wI T0 0 29 (nI L)) 17 0 L (fun i => if i = L - 1 then m1 else nI 0) some
    (by intro q f hf; show lX7_noPlan_7 (nI L) (q + 1) _ (nI L) = _; rw [lX7_noPlan_7]; simp (disch := omega) only [qlt, qb_some, qb_none, ↓qn_1, ↓qn_2, ↓qn_3, ↓qn_4, ↓qn_9, ↓qn_1000, ↓qn_low, qi_0, qi_1, qi_2, qi_3, qi_4, qi_5, qi_6, qi_7, qi_8, qi_9, qi_10, qi_11, qi_12, qi_13, qi_14, qi_15, qi_16, qi_17, qi_20, qi_24, qi_30, qi_31, qi_32, qi_60, qi_99, qi_100, qi_200, qi_1000, qi_3400, qi_4000, qi_of, pu_gI, pu_pI, nI_leI, nI_ltI, nI_eq, nI_add, pk_mul, pk_sub, pk_div, qw_s, qw_o, qw_l, qr_s, qr_o, qr_l, ql_i, ql_s, ql_o, pk_us, pk_un, pk_uLs, pk_uLn, if_pos, if_neg, if_true, if_false, ite_self, eq_self, Nat.zero_add, Nat.add_zero, qwr, not_true_eq_false, not_false_eq_true, Option.some.injEq, qe_gn0, qe_m1n, qe_gng, qe_ngn, qe_gm, qe_mg, qe_lm1, qe_lgn, qe_lem, qe_leg, qe_tm1, qe_tgn])
    (by
      intro q f j hj hf
      show lX7_noPlan_7 (nI L) (q + 1) _ (nI j) = _
      rw [lX7_noPlan_7]
      unfold bX7_noPlan_29
      by_cases hjl : j = L - 1
      · simp (disch := omega) only [qlt, qb_some, qb_none, ↓qn_1, ↓qn_2, ↓qn_3, ↓qn_4, ↓qn_9, ↓qn_1000, ↓qn_low, qi_0, qi_1, qi_2, qi_3, qi_4, qi_5, qi_6, qi_7, qi_8, qi_9, qi_10, qi_11, qi_12, qi_13, qi_14, qi_15, qi_16, qi_17, qi_20, qi_24, qi_30, qi_31, qi_32, qi_60, qi_99, qi_100, qi_200, qi_1000, qi_3400, qi_4000, qi_of, pu_gI, pu_pI, nI_leI, nI_ltI, nI_eq, nI_add, pk_mul, pk_sub, pk_div, qw_s, qw_o, qw_l, qr_s, qr_o, qr_l, ql_i, ql_s, ql_o, pk_us, pk_un, pk_uLs, pk_uLn, if_pos, if_neg, if_true, if_false, ite_self, eq_self, Nat.zero_add, Nat.add_zero, qwr, not_true_eq_false, not_false_eq_true, Option.some.injEq, qe_gn0, qe_m1n, qe_gng, qe_ngn, qe_gm, qe_mg, qe_lm1, qe_lgn, qe_lem, qe_leg, qe_tm1, qe_tgn]
      · simp (disch := omega) only [qlt, qb_some, qb_none, ↓qn_1, ↓qn_2, ↓qn_3, ↓qn_4, ↓qn_9, ↓qn_1000, ↓qn_low, qi_0, qi_1, qi_2, qi_3, qi_4, qi_5, qi_6, qi_7, qi_8, qi_9, qi_10, qi_11, qi_12, qi_13, qi_14, qi_15, qi_16, qi_17, qi_20, qi_24, qi_30, qi_31, qi_32, qi_60, qi_99, qi_100, qi_200, qi_1000, qi_3400, qi_4000, qi_of, pu_gI, pu_pI, nI_leI, nI_ltI, nI_eq, nI_add, pk_mul, pk_sub, pk_div, qw_s, qw_o, qw_l, qr_s, qr_o, qr_l, ql_i, ql_s, ql_o, pk_us, pk_un, pk_uLs, pk_uLn, if_pos, if_neg, if_true, if_false, ite_self, eq_self, Nat.zero_add, Nat.add_zero, qwr, not_true_eq_false, not_false_eq_true, Option.some.injEq, qe_gn0, qe_m1n, qe_gng, qe_ngn, qe_gm, qe_mg, qe_lm1, qe_lgn, qe_lem, qe_leg, qe_tm1, qe_tgn]) (by unfold FU; omega)
  refine ⟨wR (wI T0 0 29 (nI L)) 17 (fun i => if 0 ≤ i ∧ i < 0 + L then (fun i => if i = L - 1 then m1 else nI 0) (i - 0) else (wI T0 0 29 (nI L)).1 17 i), ?_, ?_, ?_⟩
  · unfold mX7_noPlan
    simp only [qlt, qi_0]
    exact l1
  · rw [qr_o (by decide), qw_o (by decide)]
  · have hP := Pt_w17 (f := fun i => if 0 ≤ i ∧ i < 0 + L then (fun i => if i = L - 1 then m1 else nI 0) (i - 0) else (wI T0 0 29 (nI L)).1 17 i) T0p
    generalize hTT : wR (wI T0 0 29 (nI L)) 17 (fun i => if 0 ≤ i ∧ i < 0 + L then (fun i => if i = L - 1 then m1 else nI 0) (i - 0) else (wI T0 0 29 (nI L)).1 17 i) = TT at hP ⊢
    have v17 : ∀ i, i < L → TT.1 17 i = if i = L - 1 then m1 else nI 0 := by
      intro i hi
      rw [← hTT, qr_s, if_pos (by omega), Nat.sub_zero]
    have v18 : TT.1 18 = T0.1 18 := by rw [← hTT, qr_o (by decide), qw_o (by decide)]
    have hlr : (List.replicate L 0).length = L := List.length_replicate ..
    have h13 : 13 ^ L ≤ 13 ^ 4 := Nat.pow_le_pow_right (by decide) hL4
    have hrz := rc_zero L
    obtain ⟨q, hq⟩ : ∃ q, FU = q + 1 := ⟨999999, rfl⟩
    have st := step_l (K := lX7_nextPlan_7 q) (B := 13 ^ L) hB (fun ds' T' k1 k2 k3 k4 k5 => next_l hB q ds' T' (by omega) (by
      have : FU = 1000000 := rfl
      omega) k3 k4 k5) (pre := List.replicate L 0) (T := wI TT 17 (L - 1) (nI 0)) (by omega) (by omega) (by rw [hlr, Nat.sub_self, List.replicate_zero, List.append_nil]; omega)
      (by intro x hx; rw [List.mem_replicate] at hx; omega)
      (by
        intro i hi
        rw [hlr] at hi
        rw [qw_s, getD_rep hi]
        by_cases hil : i = L - 1
        · subst hil; exact pk_us
        · rw [pk_un hil, v17 i hi, if_neg hil])
      (by
        have := Pt_w17 (f := upd (TT.1 17) (L - 1) (nI 0)) hP
        exact this)
    rw [hlr, Nat.sub_self, List.replicate_zero, List.append_nil, ge_zero, qw_o (by decide), v18] at st
    unfold mX7_nextPlan
    have vl : TT.1 17 (L - 1) = m1 := by rw [v17 _ (by omega), if_pos rfl]
    have m10 : m1 + nI 1 = nI 0 := by decide +kernel
    have hL11 : L - 1 + 1 = L := by omega
    simp (disch := omega) only [qlt, qb_some, qb_none, ↓qn_1, ↓qn_2, ↓qn_3, ↓qn_4, ↓qn_9, ↓qn_1000, ↓qn_low, qi_0, qi_1, qi_2, qi_3, qi_4, qi_5, qi_6, qi_7, qi_8, qi_9, qi_10, qi_11, qi_12, qi_13, qi_14, qi_15, qi_16, qi_17, qi_20, qi_24, qi_30, qi_31, qi_32, qi_60, qi_99, qi_100, qi_200, qi_1000, qi_3400, qi_4000, qi_of, pu_gI, pu_pI, nI_leI, nI_ltI, nI_eq, nI_add, pk_mul, pk_sub, pk_div, qw_s, qw_o, qw_l, qr_s, qr_o, qr_l, ql_i, ql_s, ql_o, pk_us, pk_un, pk_uLs, pk_uLn, if_pos, if_neg, if_true, if_false, ite_self, eq_self, Nat.zero_add, Nat.add_zero, qwr, not_true_eq_false, not_false_eq_true, Option.some.injEq, qe_gn0, qe_m1n, qe_gng, qe_ngn, qe_gm, qe_mg, qe_lm1, qe_lgn, qe_lem, qe_leg, qe_tm1, qe_tgn, hP.2.1]
    rw [hq, lX7_nextPlan_7]
    simp (disch := omega) only [qlt, qb_some, qb_none, ↓qn_1, ↓qn_2, ↓qn_3, ↓qn_4, ↓qn_9, ↓qn_1000, ↓qn_low, qi_0, qi_1, qi_2, qi_3, qi_4, qi_5, qi_6, qi_7, qi_8, qi_9, qi_10, qi_11, qi_12, qi_13, qi_14, qi_15, qi_16, qi_17, qi_20, qi_24, qi_30, qi_31, qi_32, qi_60, qi_99, qi_100, qi_200, qi_1000, qi_3400, qi_4000, qi_of, pu_gI, pu_pI, nI_leI, nI_ltI, nI_eq, nI_add, pk_mul, pk_sub, pk_div, qw_s, qw_o, qw_l, qr_s, qr_o, qr_l, ql_i, ql_s, ql_o, pk_us, pk_un, pk_uLs, pk_uLn, if_pos, if_neg, if_true, if_false, ite_self, eq_self, Nat.zero_add, Nat.add_zero, qwr, not_true_eq_false, not_false_eq_true, Option.some.injEq, qe_gn0, qe_m1n, qe_gng, qe_ngn, qe_gm, qe_mg, qe_lm1, qe_lgn, qe_lem, qe_leg, qe_tm1, qe_tgn, vl, m10, hL11]
    exact st
end NX
