/-! ===== PURE: the class's day ===== -/
/-- the class's world with another scene at the cell k -/
def mk4 (S : vS) (k : Nat) (A B C D : Nat → Int32) : vS := (fun c => if c = k then A else if c = k + 1 then B else if c = k + 2 then C else if c = k + 3 then D else S.1 c, S.2)
section MK4
variable {S : vS} {k : Nat} {A B C D : Nat → Int32} {j c : Nat} {x : Int32}
theorem mk4_0 : (mk4 S k A B C D).1 k = A := if_pos rfl
theorem mk4_1 : (mk4 S k A B C D).1 (k + 1) = B := by
  show (if k + 1 = k then A else if k + 1 = k + 1 then B else _) = B
  rw [if_neg (by omega), if_pos rfl]
theorem mk4_2 : (mk4 S k A B C D).1 (k + 2) = C := by
  show (if k + 2 = k then A else if k + 2 = k + 1 then B else if k + 2 = k + 2 then C else _) = C
  rw [if_neg (by omega), if_neg (by omega), if_pos rfl]
theorem mk4_3 : (mk4 S k A B C D).1 (k + 3) = D := by
  show (if k + 3 = k then A else if k + 3 = k + 1 then B else if k + 3 = k + 2 then C else if k + 3 = k + 3 then D else _) = D
  rw [if_neg (by omega), if_neg (by omega), if_neg (by omega), if_pos rfl]
theorem mk4_o (h : c < k ∨ k + 3 < c) : (mk4 S k A B C D).1 c = S.1 c := by
  show (if c = k then A else if c = k + 1 then B else if c = k + 2 then C else if c = k + 3 then D else S.1 c) = S.1 c
  rw [if_neg (by omega), if_neg (by omega), if_neg (by omega), if_neg (by omega)]
theorem mk4_l : (mk4 S k A B C D).2 = S.2 := rfl
theorem mk4_w0 : wI (mk4 S k A B C D) k j x = mk4 S k (upd A j x) B C D := by
  refine Prod.ext ?_ rfl
  funext q
  show (if q = k then upd ((mk4 S k A B C D).1 k) j x else if q = k then A else if q = k + 1 then B else if q = k + 2 then C else if q = k + 3 then D else S.1 q) = (if q = k then upd A j x else if q = k + 1 then B else if q = k + 2 then C else if q = k + 3 then D else S.1 q)
  rw [mk4_0]
  by_cases h : q = k
  · rw [if_pos h, if_pos h]
  · rw [if_neg h, if_neg h, if_neg h]
theorem mk4_w1 : wI (mk4 S k A B C D) (k + 1) j x = mk4 S k A (upd B j x) C D := by
  refine Prod.ext ?_ rfl
  funext q
  show (if q = k + 1 then upd ((mk4 S k A B C D).1 (k + 1)) j x else if q = k then A else if q = k + 1 then B else if q = k + 2 then C else if q = k + 3 then D else S.1 q) = (if q = k then A else if q = k + 1 then upd B j x else if q = k + 2 then C else if q = k + 3 then D else S.1 q)
  rw [mk4_1]
  by_cases h : q = k + 1
  · rw [if_pos h, if_neg (by omega), if_pos h]
  · rw [if_neg h, if_neg h, if_neg h]
theorem mk4_w2 : wI (mk4 S k A B C D) (k + 2) j x = mk4 S k A B (upd C j x) D := by
  refine Prod.ext ?_ rfl
  funext q
  show (if q = k + 2 then upd ((mk4 S k A B C D).1 (k + 2)) j x else if q = k then A else if q = k + 1 then B else if q = k + 2 then C else if q = k + 3 then D else S.1 q) = (if q = k then A else if q = k + 1 then B else if q = k + 2 then upd C j x else if q = k + 3 then D else S.1 q)
  rw [mk4_2]
  by_cases h : q = k + 2
  · rw [if_pos h, if_neg (by omega), if_neg (by omega), if_pos h]
  · rw [if_neg h, if_neg h, if_neg h]
theorem mk4_w3 : wI (mk4 S k A B C D) (k + 3) j x = mk4 S k A B C (upd D j x) := by
  refine Prod.ext ?_ rfl
  funext q
  show (if q = k + 3 then upd ((mk4 S k A B C D).1 (k + 3)) j x else if q = k then A else if q = k + 1 then B else if q = k + 2 then C else if q = k + 3 then D else S.1 q) = (if q = k then A else if q = k + 1 then B else if q = k + 2 then C else if q = k + 3 then upd D j x else S.1 q)
  rw [mk4_3]
  by_cases h : q = k + 3
  · rw [if_pos h, if_neg (by omega), if_neg (by omega), if_neg (by omega), if_pos h]
  · simp only [h, if_false]
theorem mk4_id (S : vS) (k : Nat) : mk4 S k (S.1 k) (S.1 (k + 1)) (S.1 (k + 2)) (S.1 (k + 3)) = S := by
  refine Prod.ext ?_ rfl
  funext q
  show (if q = k then S.1 k else if q = k + 1 then S.1 (k + 1) else if q = k + 2 then S.1 (k + 2) else if q = k + 3 then S.1 (k + 3) else S.1 q) = S.1 q
  split
  · rename_i h; rw [h]
  · split
    · rename_i h; rw [h]
    · split
      · rename_i h; rw [h]
      · split
        · rename_i h; rw [h]
        · rfl
end MK4
theorem odd6 {F : Nat → Int32} {d : Nat} (hd : F 14 = nI d) (h : d ≤ 1000) : ((F 14 &&& nI 1) = nI 0) = (oddD F = false) := by
  unfold oddD
  rw [hd, nI_clamp (by omega), pk_andN (by omega) 1 (by decide +kernel)]
  simp (disch := omega) only [qlt, qb_some, qb_none, ↓qn_1, ↓qn_2, ↓qn_3, ↓qn_4, ↓qn_9, ↓qn_1000, ↓qn_low, qi_0, qi_1, qi_2, qi_3, qi_4, qi_5, qi_6, qi_7, qi_8, qi_9, qi_10, qi_11, qi_12, qi_13, qi_14, qi_15, qi_16, qi_17, qi_20, qi_24, qi_30, qi_31, qi_32, qi_60, qi_99, qi_100, qi_200, qi_1000, qi_3400, qi_4000, qi_of, pu_gI, pu_pI, nI_leI, nI_ltI, nI_eq, nI_add, pk_mul, pk_sub, pk_div, qw_s, qw_o, qw_l, qr_s, qr_o, qr_l, ql_i, ql_s, ql_o, pk_us, pk_un, pk_uLs, pk_uLn, if_pos, if_neg, if_true, if_false, ite_self, eq_self, Nat.zero_add, Nat.add_zero, qwr, not_true_eq_false, not_false_eq_true, Option.some.injEq, qe_gn0, qe_m1n, qe_gng, qe_ngn, qe_gm, qe_mg, qe_lm1, qe_lgn, qe_lem, qe_leg, qe_tm1, qe_tgn, decide_eq_false_iff_not]
  apply propext
  omega
section CG
variable {S : vS} {k k1 n : Nat} {G F : Nat → Int32}
theorem c6_has {g : Nat} (hG : GodR S k1 n G) (hn : n ≤ 4) (hg : g < 2 ^ 31) : mX0_has S k1 (nI g) = if g < n then nI 1 else nI 0 := by
  unfold mX0_has bX0_has_16
  rw [hG.1]
  by_cases h : g < n
  · simp (disch := omega) only [qlt, qb_some, qb_none, ↓qn_1, ↓qn_2, ↓qn_3, ↓qn_4, ↓qn_9, ↓qn_1000, ↓qn_low, qi_0, qi_1, qi_2, qi_3, qi_4, qi_5, qi_6, qi_7, qi_8, qi_9, qi_10, qi_11, qi_12, qi_13, qi_14, qi_15, qi_16, qi_17, qi_20, qi_24, qi_30, qi_31, qi_32, qi_60, qi_99, qi_100, qi_200, qi_1000, qi_3400, qi_4000, qi_of, pu_gI, pu_pI, nI_leI, nI_ltI, nI_eq, nI_add, pk_mul, pk_sub, pk_div, qw_s, qw_o, qw_l, qr_s, qr_o, qr_l, ql_i, ql_s, ql_o, pk_us, pk_un, pk_uLs, pk_uLn, if_pos, if_neg, if_true, if_false, ite_self, eq_self, Nat.zero_add, Nat.add_zero, qwr, not_true_eq_false, not_false_eq_true, Option.some.injEq, qe_gn0, qe_m1n, qe_gng, qe_ngn, qe_gm, qe_mg, qe_lm1, qe_lgn, qe_lem, qe_leg, qe_tm1, qe_tgn]
  · simp (disch := omega) only [qlt, qb_some, qb_none, ↓qn_1, ↓qn_2, ↓qn_3, ↓qn_4, ↓qn_9, ↓qn_1000, ↓qn_low, qi_0, qi_1, qi_2, qi_3, qi_4, qi_5, qi_6, qi_7, qi_8, qi_9, qi_10, qi_11, qi_12, qi_13, qi_14, qi_15, qi_16, qi_17, qi_20, qi_24, qi_30, qi_31, qi_32, qi_60, qi_99, qi_100, qi_200, qi_1000, qi_3400, qi_4000, qi_of, pu_gI, pu_pI, nI_leI, nI_ltI, nI_eq, nI_add, pk_mul, pk_sub, pk_div, qw_s, qw_o, qw_l, qr_s, qr_o, qr_l, ql_i, ql_s, ql_o, pk_us, pk_un, pk_uLs, pk_uLn, if_pos, if_neg, if_true, if_false, ite_self, eq_self, Nat.zero_add, Nat.add_zero, qwr, not_true_eq_false, not_false_eq_true, Option.some.injEq, qe_gn0, qe_m1n, qe_gng, qe_ngn, qe_gm, qe_mg, qe_lm1, qe_lgn, qe_lem, qe_leg, qe_tm1, qe_tgn]
theorem c6_awake {d : Nat} (hn : n ≤ 4) (hG : GodR S k1 n G) (hS : ScR S k n F) (hd : F 14 = nI d) (h : d ≤ 1000) : mX3_awake S k k1 = nI (setN (fun g => decide (g < n) && upB G F g)) := by
  obtain ⟨_, g2, g3, g4, _⟩ := hG
  obtain ⟨s1, ⟨s2, s3⟩, _⟩ := hS
  obtain ⟨a1, a2⟩ := nib_all hn
  unfold mX3_awake bX3_awake_17
  simp only [qi_1, qi_0, qn_1, s1, odd6 hd h, g2]
  cases ho : oddD F
  · simp only [if_true]
    refine set_of (nib_not (nib_not a1 s2) nib_0) _ (fun g hg => ?_)
    rw [bt_not (nib_not a1 s2) nib_0 hg, bt_not a1 s2 hg, a2 g hg, s3 g hg, bt_z g hg]
    unfold upB
    rw [ho]
    by_cases hgn : g < n <;> simp [hgn]
  · simp only [Bool.true_eq_false, if_false]
    refine set_of (nib_not (nib_not a1 s2) g3) _ (fun g hg => ?_)
    rw [bt_not (nib_not a1 s2) g3 hg, bt_not a1 s2 hg, a2 g hg, s3 g hg, g4 g hg]
    unfold upB
    rw [ho]
    by_cases hgn : g < n <;> simp [hgn]
theorem c6_fed {d e : Nat} (hn : n ≤ 4) (hG : GodR S k1 n G) (hS : ScR S k n F) (hd : F 14 = nI e) (h : e ≤ 1000) (hd1 : d < 2 ^ 30) : mX3_fedBy S k k1 (nI d) = some (if d ≠ 12 ∧ d < 3 * n ∧ upB G F (d / 3) = true then nI (fedN G n F (d / 3)) else nI 0) := by
  unfold mX3_fedBy
  have hw := c6_awake hn hG hS hd h
  have hh := c6_has (g := d / 3) hG hn (by omega)
  simp (disch := omega) only [qlt, qb_some, qb_none, ↓qn_1, ↓qn_2, ↓qn_3, ↓qn_4, ↓qn_9, ↓qn_1000, ↓qn_low, qi_0, qi_1, qi_2, qi_3, qi_4, qi_5, qi_6, qi_7, qi_8, qi_9, qi_10, qi_11, qi_12, qi_13, qi_14, qi_15, qi_16, qi_17, qi_20, qi_24, qi_30, qi_31, qi_32, qi_60, qi_99, qi_100, qi_200, qi_1000, qi_3400, qi_4000, qi_of, pu_gI, pu_pI, nI_leI, nI_ltI, nI_eq, nI_add, pk_mul, pk_sub, pk_div, qw_s, qw_o, qw_l, qr_s, qr_o, qr_l, ql_i, ql_s, ql_o, pk_us, pk_un, pk_uLs, pk_uLn, if_pos, if_neg, if_true, if_false, ite_self, eq_self, Nat.zero_add, Nat.add_zero, qwr, not_true_eq_false, not_false_eq_true, Option.some.injEq, qe_gn0, qe_m1n, qe_gng, qe_ngn, qe_gm, qe_mg, qe_lm1, qe_lgn, qe_lem, qe_leg, qe_tm1, qe_tgn, hh, hw]
  by_cases h1 : d = 12
  · simp (disch := omega) only [qlt, qb_some, qb_none, ↓qn_1, ↓qn_2, ↓qn_3, ↓qn_4, ↓qn_9, ↓qn_1000, ↓qn_low, qi_0, qi_1, qi_2, qi_3, qi_4, qi_5, qi_6, qi_7, qi_8, qi_9, qi_10, qi_11, qi_12, qi_13, qi_14, qi_15, qi_16, qi_17, qi_20, qi_24, qi_30, qi_31, qi_32, qi_60, qi_99, qi_100, qi_200, qi_1000, qi_3400, qi_4000, qi_of, pu_gI, pu_pI, nI_leI, nI_ltI, nI_eq, nI_add, pk_mul, pk_sub, pk_div, qw_s, qw_o, qw_l, qr_s, qr_o, qr_l, ql_i, ql_s, ql_o, pk_us, pk_un, pk_uLs, pk_uLn, if_pos, if_neg, if_true, if_false, ite_self, eq_self, Nat.zero_add, Nat.add_zero, qwr, not_true_eq_false, not_false_eq_true, Option.some.injEq, qe_gn0, qe_m1n, qe_gng, qe_ngn, qe_gm, qe_mg, qe_lm1, qe_lgn, qe_lem, qe_leg, qe_tm1, qe_tgn]
  · by_cases h2 : d < 3 * n
    · have h3 : d / 3 < n := by omega
      have h4 : d / 3 < 4 := by omega
      simp (disch := omega) only [qlt, qb_some, qb_none, ↓qn_1, ↓qn_2, ↓qn_3, ↓qn_4, ↓qn_9, ↓qn_1000, ↓qn_low, qi_0, qi_1, qi_2, qi_3, qi_4, qi_5, qi_6, qi_7, qi_8, qi_9, qi_10, qi_11, qi_12, qi_13, qi_14, qi_15, qi_16, qi_17, qi_20, qi_24, qi_30, qi_31, qi_32, qi_60, qi_99, qi_100, qi_200, qi_1000, qi_3400, qi_4000, qi_of, pu_gI, pu_pI, nI_leI, nI_ltI, nI_eq, nI_add, pk_mul, pk_sub, pk_div, qw_s, qw_o, qw_l, qr_s, qr_o, qr_l, ql_i, ql_s, ql_o, pk_us, pk_un, pk_uLs, pk_uLn, if_pos, if_neg, if_true, if_false, ite_self, eq_self, Nat.zero_add, Nat.add_zero, qwr, not_true_eq_false, not_false_eq_true, Option.some.injEq, qe_gn0, qe_m1n, qe_gng, qe_ngn, qe_gm, qe_mg, qe_lm1, qe_lgn, qe_lem, qe_leg, qe_tm1, qe_tgn, bt_c (nib_set _) h4, setN_b _ h4]
      cases hu : upB G F (d / 3)
      · simp [h3]
      · obtain ⟨_, _, _, _, _, _, g7, g8, _⟩ := hG.2.2.2.2 (d / 3) h3
        have e9 : S.1 (k1 + 7) (d / 3) &&& nI (setN (fun g => decide (g < n) && upB G F g)) = nI (fedN G n F (d / 3)) := by
          refine set_of (nib_and g7 (nib_set _)) _ (fun o ho => ?_)
          rw [bt_and g7 (nib_set _) ho, g8 o ho, setN_b _ ho]
          unfold fedP
          by_cases e1 : o = d / 3
          · subst e1
            simp [h3, hu]
          · by_cases e2 : o < n <;> cases tw G (d / 3) o <;> simp [e1, e2]
        simp [h3, e9, h1, h2, nI_eq]
    · have h3 : ¬ d / 3 < n := by omega
      simp (disch := omega) only [qlt, qb_some, qb_none, ↓qn_1, ↓qn_2, ↓qn_3, ↓qn_4, ↓qn_9, ↓qn_1000, ↓qn_low, qi_0, qi_1, qi_2, qi_3, qi_4, qi_5, qi_6, qi_7, qi_8, qi_9, qi_10, qi_11, qi_12, qi_13, qi_14, qi_15, qi_16, qi_17, qi_20, qi_24, qi_30, qi_31, qi_32, qi_60, qi_99, qi_100, qi_200, qi_1000, qi_3400, qi_4000, qi_of, pu_gI, pu_pI, nI_leI, nI_ltI, nI_eq, nI_add, pk_mul, pk_sub, pk_div, qw_s, qw_o, qw_l, qr_s, qr_o, qr_l, ql_i, ql_s, ql_o, pk_us, pk_un, pk_uLs, pk_uLn, if_pos, if_neg, if_true, if_false, ite_self, eq_self, Nat.zero_add, Nat.add_zero, qwr, not_true_eq_false, not_false_eq_true, Option.some.injEq, qe_gn0, qe_m1n, qe_gng, qe_ngn, qe_gm, qe_mg, qe_lm1, qe_lgn, qe_lem, qe_leg, qe_tm1, qe_tgn]
theorem fed_pc {g : Nat} (hg : g < 4) : 0 < pcN (fedN G n F g) := by
  have h1 : fedN G n F g ≠ 0 := by
    intro e
    have h2 := setN_b (fedP G n F g) hg
    have h3 : setN (fedP G n F g) = 0 := e
    rw [h3, bt_z g hg] at h2
    unfold fedP at h2
    simp at h2
  have h4 := pc_0 (fedN G n F g) (Nat.lt_trans (setN_lt _) (by decide))
  omega
theorem c6_cost {d : Nat} (hn : n ≤ 4) (hG : GodR S k1 n G) (hS : ScR S k n F) (hF : FInv n F) (hd1 : d < 2 ^ 30) : mX3_costOf S k k1 (nI d) = some (cosV G n F d) := by
  obtain ⟨⟨e, he, h14⟩, _, hs, _⟩ := hF
  unfold mX3_costOf cosV canB cosN
  by_cases h1 : d = 12
  · subst h1
    simp (disch := omega) only [qlt, qb_some, qb_none, ↓qn_1, ↓qn_2, ↓qn_3, ↓qn_4, ↓qn_9, ↓qn_1000, ↓qn_low, qi_0, qi_1, qi_2, qi_3, qi_4, qi_5, qi_6, qi_7, qi_8, qi_9, qi_10, qi_11, qi_12, qi_13, qi_14, qi_15, qi_16, qi_17, qi_20, qi_24, qi_30, qi_31, qi_32, qi_60, qi_99, qi_100, qi_200, qi_1000, qi_3400, qi_4000, qi_of, pu_gI, pu_pI, nI_leI, nI_ltI, nI_eq, nI_add, pk_mul, pk_sub, pk_div, qw_s, qw_o, qw_l, qr_s, qr_o, qr_l, ql_i, ql_s, ql_o, pk_us, pk_un, pk_uLs, pk_uLn, if_pos, if_neg, if_true, if_false, ite_self, eq_self, Nat.zero_add, Nat.add_zero, qwr, not_true_eq_false, not_false_eq_true, Option.some.injEq, qe_gn0, qe_m1n, qe_gng, qe_ngn, qe_gm, qe_mg, qe_lm1, qe_lgn, qe_lem, qe_leg, qe_tm1, qe_tgn]
    simp
  · have hd3 : d % 3 < 3 := by omega
    obtain ⟨s, hs1, hs2⟩ := hs (d % 3) hd3
    have e3 : nI d - nI d / nI 3 * nI 3 = nI (d % 3) := pk_rem (by omega) (by decide) (by decide)
    simp only [qlt, qi_12, qi_3, e3, qi_0]
    have hst : S.1 (k + 1) (d % 3) = nI s := by rw [hS.2.2.2.1 _ hd3, hs2]
    by_cases h2 : d < 3 * n ∧ upB G F (d / 3) = true
    · have hp := setN_lt (fedP G n F (d / 3))
      have hp0 : 0 < pcN (fedN G n F (d / 3)) := fed_pc (by omega)
      have hp5 : pcN (fedN G n F (d / 3)) ≤ 4 := pc_le4 _ hp
      have efed : mX3_fedBy S k k1 (nI d) = some (nI (fedN G n F (d / 3))) := by rw [c6_fed hn hG hS h14 he hd1, if_pos ⟨h1, h2⟩]
      simp (disch := omega) only [qlt, qb_some, qb_none, ↓qn_1, ↓qn_2, ↓qn_3, ↓qn_4, ↓qn_9, ↓qn_1000, ↓qn_low, qi_0, qi_1, qi_2, qi_3, qi_4, qi_5, qi_6, qi_7, qi_8, qi_9, qi_10, qi_11, qi_12, qi_13, qi_14, qi_15, qi_16, qi_17, qi_20, qi_24, qi_30, qi_31, qi_32, qi_60, qi_99, qi_100, qi_200, qi_1000, qi_3400, qi_4000, qi_of, pu_gI, pu_pI, nI_leI, nI_ltI, nI_eq, nI_add, pk_mul, pk_sub, pk_div, qw_s, qw_o, qw_l, qr_s, qr_o, qr_l, ql_i, ql_s, ql_o, pk_us, pk_un, pk_uLs, pk_uLn, if_pos, if_neg, if_true, if_false, ite_self, eq_self, Nat.zero_add, Nat.add_zero, qwr, not_true_eq_false, not_false_eq_true, Option.some.injEq, qe_gn0, qe_m1n, qe_gng, qe_ngn, qe_gm, qe_mg, qe_lm1, qe_lgn, qe_lem, qe_leg, qe_tm1, qe_tgn, efed, pc6 (fedN G n F (d / 3)) (Nat.lt_trans hp (by decide)), hst, hs2, nI_clamp]
      by_cases hc : pcN (fedN G n F (d / 3)) ≤ s
      · simp [h1, h2.1, h2.2, hc]
      · simp [h1, h2.1, h2.2, hc]
    · have efed : mX3_fedBy S k k1 (nI d) = some (nI 0) := by rw [c6_fed hn hG hS h14 he hd1, if_neg (fun z => h2 z.2)]
      have e0 : mJ6_bitCount_0f7a4 (nI 0) = nI 0 := pc6 0 (by decide)
      simp (disch := omega) only [qlt, qb_some, qb_none, ↓qn_1, ↓qn_2, ↓qn_3, ↓qn_4, ↓qn_9, ↓qn_1000, ↓qn_low, qi_0, qi_1, qi_2, qi_3, qi_4, qi_5, qi_6, qi_7, qi_8, qi_9, qi_10, qi_11, qi_12, qi_13, qi_14, qi_15, qi_16, qi_17, qi_20, qi_24, qi_30, qi_31, qi_32, qi_60, qi_99, qi_100, qi_200, qi_1000, qi_3400, qi_4000, qi_of, pu_gI, pu_pI, nI_leI, nI_ltI, nI_eq, nI_add, pk_mul, pk_sub, pk_div, qw_s, qw_o, qw_l, qr_s, qr_o, qr_l, ql_i, ql_s, ql_o, pk_us, pk_un, pk_uLs, pk_uLn, if_pos, if_neg, if_true, if_false, ite_self, eq_self, Nat.zero_add, Nat.add_zero, qwr, not_true_eq_false, not_false_eq_true, Option.some.injEq, qe_gn0, qe_m1n, qe_gng, qe_ngn, qe_gm, qe_mg, qe_lm1, qe_lgn, qe_lem, qe_leg, qe_tm1, qe_tgn, efed, e0]
      by_cases h4 : d < 3 * n
      · have h5 : upB G F (d / 3) = false := by
          cases hu : upB G F (d / 3)
          · rfl
          · exact absurd ⟨h4, hu⟩ h2
        simp [h5, h1]
      · simp [h4, h1]
end CG
