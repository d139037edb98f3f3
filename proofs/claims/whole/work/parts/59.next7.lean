/-! ===== PURE: the reference goes from plan to plan ===== -/
/-- an object row that differs in what a plan tells alone -/
def okP (T : vS) (o : Nat → Int32) : Prop := ∀ p, p ≠ 20 → p ≠ 21 → p ≠ 22 → p ≠ 30 → p ≠ 31 → p ≠ 32 → p ≠ 33 → o p = T.1 0 p
theorem i32_gh (a b : Int32) : a - b + b = a := by grind
theorem mk3_wo {T : vS} {o a s : Nat → Int32} {c j : Nat} {x : Int32} (h0 : c ≠ 0) (h1 : c ≠ 10) (h2 : c ≠ 11) : wI (mk3 T o a s) c j x = mk3 (wI T c j x) o a s := by
  refine Prod.ext ?_ rfl
  funext q
  show (if q = c then upd ((mk3 T o a s).1 c) j x else if q = 0 then o else if q = 10 then a else if q = 11 then s else T.1 q) = (if q = 0 then o else if q = 10 then a else if q = 11 then s else if q = c then upd (T.1 c) j x else T.1 q)
  rw [mk3_o h0 h1 h2]
  by_cases hq : q = c
  · subst hq
    simp only [h0, h1, h2, if_false, if_true]
  · simp only [hq, if_false]
section N7
variable {T : vS} {n u L : Nat}
theorem starved7 {o F s : Nat → Int32} {d : Nat} (hn : n ≤ 4) (h10 : o 10 = nI n) (hu : o 34 = if u < 4 then nI u else gN) (hc : cut F) (hF : FInv n F) (hd13 : d < 13) (hcan : canB (T.1 7) n F d = true) : mX7_isStarved (mk3 T o (putF (T.1 10) 1 F) s) (nI 1) (nI d) = some (if (decide (u < 4) && bt (fdD (T.1 7) n F d) u) = true then nI 1 else nI 0) := by
  have h16 : (1 : Nat) < 6 := by decide
  unfold mX7_isStarved bX7_isStarved_37
  by_cases hu4 : u < 4
  · rw [if_pos hu4] at hu
    simp (disch := omega) only [qlt, qb_some, qb_none, ↓qn_1, ↓qn_2, ↓qn_3, ↓qn_4, ↓qn_9, ↓qn_1000, ↓qn_low, qi_0, qi_1, qi_2, qi_3, qi_4, qi_5, qi_6, qi_7, qi_8, qi_9, qi_10, qi_11, qi_12, qi_13, qi_14, qi_15, qi_16, qi_17, qi_20, qi_24, qi_30, qi_31, qi_32, qi_60, qi_99, qi_100, qi_200, qi_1000, qi_3400, qi_4000, qi_of, pu_gI, pu_pI, nI_leI, nI_ltI, nI_eq, nI_add, pk_mul, pk_sub, pk_div, qw_s, qw_o, qw_l, qr_s, qr_o, qr_l, ql_i, ql_s, ql_o, pk_us, pk_un, pk_uLs, pk_uLn, if_pos, if_neg, if_true, if_false, ite_self, eq_self, Nat.zero_add, Nat.add_zero, qwr, not_true_eq_false, not_false_eq_true, Option.some.injEq, qe_gn0, qe_m1n, qe_gng, qe_ngn, qe_gm, qe_mg, qe_lm1, qe_lgn, qe_lem, qe_leg, qe_tm1, qe_tgn, mk3_0, hu]
    by_cases h12 : d = 12
    · subst h12
      simp (disch := omega) only [qlt, qb_some, qb_none, ↓qn_1, ↓qn_2, ↓qn_3, ↓qn_4, ↓qn_9, ↓qn_1000, ↓qn_low, qi_0, qi_1, qi_2, qi_3, qi_4, qi_5, qi_6, qi_7, qi_8, qi_9, qi_10, qi_11, qi_12, qi_13, qi_14, qi_15, qi_16, qi_17, qi_20, qi_24, qi_30, qi_31, qi_32, qi_60, qi_99, qi_100, qi_200, qi_1000, qi_3400, qi_4000, qi_of, pu_gI, pu_pI, nI_leI, nI_ltI, nI_eq, nI_add, pk_mul, pk_sub, pk_div, qw_s, qw_o, qw_l, qr_s, qr_o, qr_l, ql_i, ql_s, ql_o, pk_us, pk_un, pk_uLs, pk_uLn, if_pos, if_neg, if_true, if_false, ite_self, eq_self, Nat.zero_add, Nat.add_zero, qwr, not_true_eq_false, not_false_eq_true, Option.some.injEq, qe_gn0, qe_m1n, qe_gng, qe_ngn, qe_gm, qe_mg, qe_lm1, qe_lgn, qe_lem, qe_leg, qe_tm1, qe_tgn]
      unfold fdD
      rw [if_pos rfl, bt_z u hu4]
      simp
    · have hg4 : d / 3 < 4 := by omega
      have e1 : fdD (T.1 7) n F d = nI (fedN (T.1 7) n F (d / 3)) := if_neg h12
      simp (disch := omega) only [qlt, qb_some, qb_none, ↓qn_1, ↓qn_2, ↓qn_3, ↓qn_4, ↓qn_9, ↓qn_1000, ↓qn_low, qi_0, qi_1, qi_2, qi_3, qi_4, qi_5, qi_6, qi_7, qi_8, qi_9, qi_10, qi_11, qi_12, qi_13, qi_14, qi_15, qi_16, qi_17, qi_20, qi_24, qi_30, qi_31, qi_32, qi_60, qi_99, qi_100, qi_200, qi_1000, qi_3400, qi_4000, qi_of, pu_gI, pu_pI, nI_leI, nI_ltI, nI_eq, nI_add, pk_mul, pk_sub, pk_div, qw_s, qw_o, qw_l, qr_s, qr_o, qr_l, ql_i, ql_s, ql_o, pk_us, pk_un, pk_uLs, pk_uLn, if_pos, if_neg, if_true, if_false, ite_self, eq_self, Nat.zero_add, Nat.add_zero, qwr, not_true_eq_false, not_false_eq_true, Option.some.injEq, qe_gn0, qe_m1n, qe_gng, qe_ngn, qe_gm, qe_mg, qe_lm1, qe_lgn, qe_lem, qe_leg, qe_tm1, qe_tgn, k7_fed hn h10 h16 hc hF hg4, has7_y, e1]
      cases bt (nI (fedN (T.1 7) n F (d / 3))) u
      · simp [hu4]
      · simp [hu4, nI_eq]
  · rw [if_neg hu4] at hu
    simp (disch := omega) only [qlt, qb_some, qb_none, ↓qn_1, ↓qn_2, ↓qn_3, ↓qn_4, ↓qn_9, ↓qn_1000, ↓qn_low, qi_0, qi_1, qi_2, qi_3, qi_4, qi_5, qi_6, qi_7, qi_8, qi_9, qi_10, qi_11, qi_12, qi_13, qi_14, qi_15, qi_16, qi_17, qi_20, qi_24, qi_30, qi_31, qi_32, qi_60, qi_99, qi_100, qi_200, qi_1000, qi_3400, qi_4000, qi_of, pu_gI, pu_pI, nI_leI, nI_ltI, nI_eq, nI_add, pk_mul, pk_sub, pk_div, qw_s, qw_o, qw_l, qr_s, qr_o, qr_l, ql_i, ql_s, ql_o, pk_us, pk_un, pk_uLs, pk_uLn, if_pos, if_neg, if_true, if_false, ite_self, eq_self, Nat.zero_add, Nat.add_zero, qwr, not_true_eq_false, not_false_eq_true, Option.some.injEq, qe_gn0, qe_m1n, qe_gng, qe_ngn, qe_gm, qe_mg, qe_lm1, qe_lgn, qe_lem, qe_leg, qe_tm1, qe_tgn, mk3_0, hu]
    simp [hu4]
theorem okB_split {G F : Nat → Int32} {d : Nat} : okB G n u false F 0 d = (canB G n F d && !(decide (u < 4) && bt (fdD G n F d) u)) := by unfold okB; simp
theorem lay_l (hn : n ≤ 4) (h10 : T.1 0 10 = nI n) (hu : T.1 0 34 = if u < 4 then nI u else gN) (hL : T.1 0 29 = nI L) (hL4 : L ≤ 4) (hGI : GInv n (T.1 7)) :
    ∀ (ds : List Nat) q j o F s g h c e, j + ds.length = L → ds.length < q → (∀ i, i < ds.length → T.1 17 (j + i) = nI (ds.getD i 0)) → (∀ x, x ∈ ds → x ≤ 12) → okP T o → FInv n F → cut F → F 14 = nI e → e + ds.length ≤ 900 → o 30 = nI g - nI h → o 31 = nI h → o 33 = nI c →
    ∃ o' F' s', lX7_layPlan_23 q (mk3 T o (putF (T.1 10) 1 F) s) (nI j) = some (nI (j + badI (T.1 7) n u ds F), mk3 T o' (putF (T.1 10) 1 F') s') ∧ okP T o' ∧ (badI (T.1 7) n u ds F = ds.length → o' 30 = nI (layO (T.1 7) n ds F g h c).1 - nI (layO (T.1 7) n ds F g h c).2.1 ∧ o' 31 = nI (layO (T.1 7) n ds F g h c).2.1 ∧ o' 32 = nI (layO (T.1 7) n ds F g h c).1 ∧ o' 33 = nI (layO (T.1 7) n ds F g h c).2.2) := by
  intro ds
  induction ds with
  | nil =>
    intro q j o F s g h c e h1 h2 h3 h4 ho hF hc h14 he o30 o31 o33
    obtain ⟨q2, rfl⟩ : ∃ q2, q = q2 + 1 := ⟨q - 1, by omega⟩
    have hjL : j = L := h1
    subst hjL
    have o29 : o 29 = nI j := by rw [ho 29 (by decide) (by decide) (by decide) (by decide) (by decide) (by decide) (by decide)]; exact hL
    rw [lX7_layPlan_23]
    unfold bX7_layPlan_133
    simp (disch := omega) only [qlt, qb_some, qb_none, ↓qn_1, ↓qn_2, ↓qn_3, ↓qn_4, ↓qn_9, ↓qn_1000, ↓qn_low, qi_0, qi_1, qi_2, qi_3, qi_4, qi_5, qi_6, qi_7, qi_8, qi_9, qi_10, qi_11, qi_12, qi_13, qi_14, qi_15, qi_16, qi_17, qi_20, qi_24, qi_30, qi_31, qi_32, qi_60, qi_99, qi_100, qi_200, qi_1000, qi_3400, qi_4000, qi_of, pu_gI, pu_pI, nI_leI, nI_ltI, nI_eq, nI_add, pk_mul, pk_sub, pk_div, qw_s, qw_o, qw_l, qr_s, qr_o, qr_l, ql_i, ql_s, ql_o, pk_us, pk_un, pk_uLs, pk_uLn, if_pos, if_neg, if_true, if_false, ite_self, eq_self, Nat.zero_add, Nat.add_zero, qwr, not_true_eq_false, not_false_eq_true, Option.some.injEq, qe_gn0, qe_m1n, qe_gng, qe_ngn, qe_gm, qe_mg, qe_lm1, qe_lgn, qe_lem, qe_leg, qe_tm1, qe_tgn, mk3_0, o29, mk3_w0, o30, o31, i32_gh]
    refine ⟨upd o 32 (nI g), F, s, ?_, fun p p1 p2 p3 p4 p5 p6 p7 => by rw [pk_un p6]; exact ho p p1 p2 p3 p4 p5 p6 p7, fun _ => ⟨by rw [pk_un (by decide)]; exact o30, by rw [pk_un (by decide)]; exact o31, pk_us, by rw [pk_un (by decide)]; exact o33⟩⟩
    rfl
  | cons d ds ih =>
    intro q j o F s g h c e h1 h2 h3 h4 ho hF hc h14 he o30 o31 o33
    obtain ⟨q2, rfl⟩ : ∃ q2, q = q2 + 1 := ⟨q - 1, by omega⟩
    rw [List.length_cons] at h1 h2 he
    have o29 : o 29 = nI L := by rw [ho 29 (by decide) (by decide) (by decide) (by decide) (by decide) (by decide) (by decide)]; exact hL
    have o10 : o 10 = nI n := by rw [ho 10 (by decide) (by decide) (by decide) (by decide) (by decide) (by decide) (by decide)]; exact h10
    have o34 : o 34 = if u < 4 then nI u else gN := by rw [ho 34 (by decide) (by decide) (by decide) (by decide) (by decide) (by decide) (by decide)]; exact hu
    have hd : d ≤ 12 := h4 d (List.mem_cons_self ..)
    have hd13 : d < 13 := by omega
    have hjL : j < L := by omega
    have hpj : T.1 17 j = nI d := h3 0 (by rw [List.length_cons]; omega)
    have h16 : (1 : Nat) < 6 := by decide
    have hnum : mX7_isNumber (mk3 T o (putF (T.1 10) 1 F) s) (nI d) = (if d = 12 ∨ d < 3 * n then nI 1 else nI 0) := m7_num o10 hn (by omega)
    have hbad : badI (T.1 7) n u (d :: ds) F = if okB (T.1 7) n u false F 0 d = true then badI (T.1 7) n u ds (dyF (T.1 7) n F d) + 1 else 0 := rfl
    rw [hbad, okB_split]
    rw [lX7_layPlan_23]
    cases hcan : canB (T.1 7) n F d
    · simp only [Bool.false_and, Bool.false_eq_true, if_false, Nat.add_zero]
      refine ⟨o, F, s, ?_, ho, fun z => absurd z (by simp)⟩
      by_cases hv : d = 12 ∨ d < 3 * n
      · rw [if_pos hv] at hnum
        simp (disch := omega) only [qlt, qb_some, qb_none, ↓qn_1, ↓qn_2, ↓qn_3, ↓qn_4, ↓qn_9, ↓qn_1000, ↓qn_low, qi_0, qi_1, qi_2, qi_3, qi_4, qi_5, qi_6, qi_7, qi_8, qi_9, qi_10, qi_11, qi_12, qi_13, qi_14, qi_15, qi_16, qi_17, qi_20, qi_24, qi_30, qi_31, qi_32, qi_60, qi_99, qi_100, qi_200, qi_1000, qi_3400, qi_4000, qi_of, pu_gI, pu_pI, nI_leI, nI_ltI, nI_eq, nI_add, pk_mul, pk_sub, pk_div, qw_s, qw_o, qw_l, qr_s, qr_o, qr_l, ql_i, ql_s, ql_o, pk_us, pk_un, pk_uLs, pk_uLn, if_pos, if_neg, if_true, if_false, ite_self, eq_self, Nat.zero_add, Nat.add_zero, qwr, not_true_eq_false, not_false_eq_true, Option.some.injEq, qe_gn0, qe_m1n, qe_gng, qe_ngn, qe_gm, qe_mg, qe_lm1, qe_lgn, qe_lem, qe_leg, qe_tm1, qe_tgn, mk3_0, o29, mk3_o, hpj, hnum, k7_cost hn o10 h16 hc hF hv, cosV_n hcan]
      · rw [if_neg hv] at hnum
        simp (disch := omega) only [qlt, qb_some, qb_none, ↓qn_1, ↓qn_2, ↓qn_3, ↓qn_4, ↓qn_9, ↓qn_1000, ↓qn_low, qi_0, qi_1, qi_2, qi_3, qi_4, qi_5, qi_6, qi_7, qi_8, qi_9, qi_10, qi_11, qi_12, qi_13, qi_14, qi_15, qi_16, qi_17, qi_20, qi_24, qi_30, qi_31, qi_32, qi_60, qi_99, qi_100, qi_200, qi_1000, qi_3400, qi_4000, qi_of, pu_gI, pu_pI, nI_leI, nI_ltI, nI_eq, nI_add, pk_mul, pk_sub, pk_div, qw_s, qw_o, qw_l, qr_s, qr_o, qr_l, ql_i, ql_s, ql_o, pk_us, pk_un, pk_uLs, pk_uLn, if_pos, if_neg, if_true, if_false, ite_self, eq_self, Nat.zero_add, Nat.add_zero, qwr, not_true_eq_false, not_false_eq_true, Option.some.injEq, qe_gn0, qe_m1n, qe_gng, qe_ngn, qe_gm, qe_mg, qe_lm1, qe_lgn, qe_lem, qe_leg, qe_tm1, qe_tgn, mk3_0, o29, mk3_o, hpj, hnum]
    · have hv : d = 12 ∨ d < 3 * n := by
        rcases canB_d hd13 hcan with z | ⟨z, _⟩
        · exact Or.inl z
        · exact Or.inr z
      have hcl : cosN (T.1 7) n F d ≤ 7 := cosN_le
      rw [if_pos hv] at hnum
      have hst := starved7 (T := T) (s := s) hn o10 o34 hc hF hd13 hcan
      cases hs : (decide (u < 4) && bt (fdD (T.1 7) n F d) u)
      · rw [hs] at hst
        have go := goes7_y (T := T) (a := T.1 10) (s := s) hn o10 hGI h16 hc hF hv hcan
        obtain ⟨o', F', s', e1, e2, e3⟩ := ih q2 (j + 1) (upd (upd (upd (sO (upd o 22 (nI (cosN (T.1 7) n F d))) (gsD (T.1 7) n F d) (hsD (T.1 7) n F d)) 30 (nI (g + gsD (T.1 7) n F d) - nI (h + hsD (T.1 7) n F d))) 31 (nI (h + hsD (T.1 7) n F d))) 33 (nI (c + cosN (T.1 7) n F d))) (dyF (T.1 7) n F d) (fun g => if g < n then snt (T.1 7) n F d g else s g) (g + gsD (T.1 7) n F d) (h + hsD (T.1 7) n F d) (c + cosN (T.1 7) n F d) (e + 1) (by omega) (by omega)
          (fun i hi => by
            have := h3 (i + 1) (by rw [List.length_cons]; omega)
            rw [show j + 1 + i = j + (i + 1) by omega, this, List.getD_cons_succ])
          (fun x hx => h4 x (List.mem_cons_of_mem _ hx)) (fun p p1 p2 p3 p4 p5 p6 p7 => by rw [pk_un p7, pk_un p5, pk_un p4, sO_o p1 p2, pk_un p3]; exact ho p p1 p2 p3 p4 p5 p6 p7) (FInv_day hn hF h14 (by omega) hd13 hcan) (cut_dy hc) (dy14 h14) (by omega)
          (by rw [pk_un (by decide), pk_un (by decide), pk_us]) (by rw [pk_un (by decide), pk_us]) pk_us
        simp only [Bool.not_false, Bool.and_true, if_true]
        refine ⟨o', F', s', ?_, e2, fun z => ?_⟩
        · rw [show j + (badI (T.1 7) n u ds (dyF (T.1 7) n F d) + 1) = j + 1 + badI (T.1 7) n u ds (dyF (T.1 7) n F d) by omega, ← e1]
          have r20 : ∀ A B, sO (upd o 22 (nI (cosN (T.1 7) n F d))) A B 30 = nI g - nI h := fun A B => by rw [sO_o (by decide) (by decide), pk_un (by decide)]; exact o30
          have r31 : ∀ A B, sO (upd o 22 (nI (cosN (T.1 7) n F d))) A B 31 = nI h := fun A B => by rw [sO_o (by decide) (by decide), pk_un (by decide)]; exact o31
          have r33 : ∀ A B, sO (upd o 22 (nI (cosN (T.1 7) n F d))) A B 33 = nI c := fun A B => by rw [sO_o (by decide) (by decide), pk_un (by decide)]; exact o33
          have r22 : ∀ A B, sO (upd o 22 (nI (cosN (T.1 7) n F d))) A B 22 = nI (cosN (T.1 7) n F d) := fun A B => by rw [sO_o (by decide) (by decide), pk_us]
          simp (disch := omega) only [qlt, qb_some, qb_none, ↓qn_1, ↓qn_2, ↓qn_3, ↓qn_4, ↓qn_9, ↓qn_1000, ↓qn_low, qi_0, qi_1, qi_2, qi_3, qi_4, qi_5, qi_6, qi_7, qi_8, qi_9, qi_10, qi_11, qi_12, qi_13, qi_14, qi_15, qi_16, qi_17, qi_20, qi_24, qi_30, qi_31, qi_32, qi_60, qi_99, qi_100, qi_200, qi_1000, qi_3400, qi_4000, qi_of, pu_gI, pu_pI, nI_leI, nI_ltI, nI_eq, nI_add, pk_mul, pk_div, qw_s, qw_o, qw_l, qr_s, qr_o, qr_l, ql_i, ql_s, ql_o, pk_us, pk_un, pk_uLs, pk_uLn, if_pos, if_neg, if_true, if_false, ite_self, eq_self, Nat.zero_add, Nat.add_zero, qwr, not_true_eq_false, not_false_eq_true, Option.some.injEq, qe_gn0, qe_m1n, qe_gng, qe_ngn, qe_gm, qe_mg, qe_lm1, qe_lgn, qe_lem, qe_leg, qe_tm1, qe_tgn, mk3_0, o29, mk3_o, hpj, hnum, k7_cost hn o10 h16 hc hF hv, cosV_y hcan, hst, Bool.false_eq_true, go, mk3_w0, sO_20, sO_21, r20, r31, r33, r22, i32_s]
        · exact e3 (by rw [List.length_cons] at z; omega)
      · rw [hs] at hst
        simp only [Bool.not_true, Bool.and_false, Bool.false_eq_true, if_false, Nat.add_zero]
        refine ⟨o, F, s, ?_, ho, fun z => absurd z (by simp)⟩
        simp (disch := omega) only [qlt, qb_some, qb_none, ↓qn_1, ↓qn_2, ↓qn_3, ↓qn_4, ↓qn_9, ↓qn_1000, ↓qn_low, qi_0, qi_1, qi_2, qi_3, qi_4, qi_5, qi_6, qi_7, qi_8, qi_9, qi_10, qi_11, qi_12, qi_13, qi_14, qi_15, qi_16, qi_17, qi_20, qi_24, qi_30, qi_31, qi_32, qi_60, qi_99, qi_100, qi_200, qi_1000, qi_3400, qi_4000, qi_of, pu_gI, pu_pI, nI_leI, nI_ltI, nI_eq, nI_add, pk_mul, pk_sub, pk_div, qw_s, qw_o, qw_l, qr_s, qr_o, qr_l, ql_i, ql_s, ql_o, pk_us, pk_un, pk_uLs, pk_uLn, if_pos, if_neg, if_true, if_false, ite_self, eq_self, Nat.zero_add, Nat.add_zero, qwr, not_true_eq_false, not_false_eq_true, Option.some.injEq, qe_gn0, qe_m1n, qe_gng, qe_ngn, qe_gm, qe_mg, qe_lm1, qe_lgn, qe_lem, qe_leg, qe_tm1, qe_tgn, mk3_0, o29, mk3_o, hpj, hnum, k7_cost hn o10 h16 hc hF hv, cosV_y hcan, hst]
end N7
