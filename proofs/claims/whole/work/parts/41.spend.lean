/-! ===== PURE: the class's day, whole ===== -/
theorem GodR_mk4 {S : vS} {k k1 n : Nat} {G A B C D : Nat → Int32} (hk : k1 + 9 < k ∨ k + 3 < k1) (hn : n ≤ 4) (hG : GodR S k1 n G) : GodR (mk4 S k A B C D) k1 n G :=
  GodR_tr hn (fun j _ => by rw [mk4_o (by omega)]) (fun i h1 h2 g _ => by rw [mk4_o (by omega)]) hG
/-- the scene's object row behind the day -/
def sA (A G : Nat → Int32) (n : Nat) (F : Nat → Int32) (d : Nat) : Nat → Int32 := upd (AA (upd (upd (upd A 8 (fdD G n F d)) 5 (A 5 + nI (cosN G n F d))) 2 (A 2 ||| fdD G n F d)) G n F d n) 0 (A 0 + nI 1)
def sB (B G : Nat → Int32) (n : Nat) (F : Nat → Int32) (d : Nat) : Nat → Int32 := upd B (d % 3) (B (d % 3) - nI (cosN G n F d))
section SP
variable {A B C D G F : Nat → Int32} {S : vS} {k k1 n d : Nat}
theorem AA_0 (h : nib (A 1)) : AA A G n F d 0 = A := by
  funext i
  by_cases h1 : i = 1
  · subst h1
    rw [AA_1]
    exact (set_of h _ (fun g hg => by simp)).symm
  · by_cases h3 : i = 3
    · subst h3
      show A 3 + nI 0 = A 3
      exact i32_0 _
    · by_cases h4 : i = 4
      · subst h4
        show A 4 + nI 0 = A 4
        exact i32_0 _
      · exact AA_o h1 h3 h4
theorem CC_0 : CC C G F n d 0 = C := by
  funext g
  exact if_neg (fun z => absurd z.1 (by omega))
theorem DD_0 : DD D G n F d 0 = D := by
  funext g
  exact if_neg (by omega)
theorem sA_0 : sA A G n F d 0 = A 0 + nI 1 := pk_us
theorem sA_1 : sA A G n F d 1 = nI (setN (fun g => bt (A 1) g || (decide (g < n) && lvB G n F d g))) := by
  unfold sA
  rw [pk_un (by decide), AA_1, pk_un (by decide), pk_un (by decide), pk_un (by decide)]
theorem sA_2 : sA A G n F d 2 = A 2 ||| fdD G n F d := by
  unfold sA
  rw [pk_un (by decide), AA_o (by decide) (by decide) (by decide), pk_us]
theorem sA_3 : sA A G n F d 3 = A 3 + nI (gsD G n F d) := by
  unfold sA
  rw [pk_un (by decide)]
  show upd _ 2 _ 3 + _ = _
  rw [pk_un (by decide), pk_un (by decide), pk_un (by decide)]
  rfl
theorem sA_4 : sA A G n F d 4 = A 4 + nI (hsD G n F d) := by
  unfold sA
  rw [pk_un (by decide)]
  show upd _ 2 _ 4 + _ = _
  rw [pk_un (by decide), pk_un (by decide), pk_un (by decide)]
  rfl
theorem sA_5 : sA A G n F d 5 = A 5 + nI (cosN G n F d) := by
  unfold sA
  rw [pk_un (by decide), AA_o (by decide) (by decide) (by decide), pk_un (by decide), pk_us]
theorem sA_8 : sA A G n F d 8 = fdD G n F d := by
  unfold sA
  rw [pk_un (by decide), AA_o (by decide) (by decide) (by decide), pk_un (by decide), pk_un (by decide), pk_us]
theorem canB_d (hd : d < 13) (h : canB G n F d = true) : d = 12 ∨ (d < 3 * n ∧ d / 3 < n ∧ upB G F (d / 3) = true ∧ pcN (fedN G n F (d / 3)) ≤ (F (d % 3)).toNatClampNeg) := by
  unfold canB at h
  by_cases h1 : d = 12
  · exact Or.inl h1
  · simp [h1] at h
    exact Or.inr ⟨h.1, by omega, h.2.1, h.2.2⟩
theorem c6_fdD {e : Nat} (hn : n ≤ 4) (hG : GodR S k1 n G) (hS : ScR S k n F) (hd : F 14 = nI e) (he : e ≤ 1000) (hd13 : d < 13) (hcan : canB G n F d = true) : mX3_fedBy S k k1 (nI d) = some (fdD G n F d) := by
  rw [c6_fed hn hG hS hd he (by omega)]
  unfold fdD
  rcases canB_d hd13 hcan with h | ⟨h1, h2, h3, _⟩
  · rw [if_pos h, if_neg (fun z => z.1 h)]
  · by_cases h : d = 12
    · rw [if_pos h, if_neg (fun z => z.1 h)]
    · rw [if_neg h, if_pos ⟨h, h1, h3⟩]
theorem spend6 (hk : k1 + 9 < k ∨ k + 3 < k1) (hn : n ≤ 4) (hG : GodR S k1 n G) (hGI : GInv n G) (hS : ScR (mk4 S k A B C D) k n F) (hF : FInv n F) (hd : d < 13) (hcan : canB G n F d = true) :
    mX3_spendDay (mk4 S k A B C D) k k1 (nI d) (nI (cosN G n F d)) = some (mk4 S k (sA A G n F d) (sB B G n F d) (CC C G F n d n) (DD D G n F d n)) := by
  have hG' : ∀ A B C D, GodR (mk4 S k A B C D) k1 n G := fun _ _ _ _ => GodR_mk4 hk hn hG
  obtain ⟨⟨e, he, h14⟩, h7, hs, hh⟩ := hF
  obtain ⟨s1, ⟨s2, s3⟩, s4, s5, s6⟩ := id hS
  rw [mk4_0] at s1 s2 s3 s4
  rw [mk4_2] at s6
  have e3 : nI d - nI d / nI 3 * nI 3 = nI (d % 3) := pk_rem (by omega) (by decide) (by decide)
  have mx : mxI (nI 0) (nI (d % 3)) = nI (d % 3) := by
    unfold mxI
    by_cases h : d % 3 = 0
    · rw [h]
      simp (disch := omega) only [qlt, qb_some, qb_none, ↓qn_1, ↓qn_2, ↓qn_3, ↓qn_4, ↓qn_9, ↓qn_1000, ↓qn_low, qi_0, qi_1, qi_2, qi_3, qi_4, qi_5, qi_6, qi_7, qi_8, qi_9, qi_10, qi_11, qi_12, qi_13, qi_14, qi_15, qi_16, qi_17, qi_20, qi_24, qi_30, qi_31, qi_32, qi_60, qi_99, qi_100, qi_200, qi_1000, qi_3400, qi_4000, qi_of, pu_gI, pu_pI, nI_leI, nI_ltI, nI_eq, nI_add, pk_mul, pk_sub, pk_div, qw_s, qw_o, qw_l, qr_s, qr_o, qr_l, ql_i, ql_s, ql_o, pk_us, pk_un, pk_uLs, pk_uLn, if_pos, if_neg, if_true, if_false, ite_self, eq_self, Nat.zero_add, Nat.add_zero, qwr, not_true_eq_false, not_false_eq_true, Option.some.injEq, qe_gn0, qe_m1n, qe_gng, qe_ngn, qe_gm, qe_mg, qe_lm1, qe_lgn, qe_lem, qe_leg, qe_tm1, qe_tgn]
    · simp (disch := omega) only [qlt, qb_some, qb_none, ↓qn_1, ↓qn_2, ↓qn_3, ↓qn_4, ↓qn_9, ↓qn_1000, ↓qn_low, qi_0, qi_1, qi_2, qi_3, qi_4, qi_5, qi_6, qi_7, qi_8, qi_9, qi_10, qi_11, qi_12, qi_13, qi_14, qi_15, qi_16, qi_17, qi_20, qi_24, qi_30, qi_31, qi_32, qi_60, qi_99, qi_100, qi_200, qi_1000, qi_3400, qi_4000, qi_of, pu_gI, pu_pI, nI_leI, nI_ltI, nI_eq, nI_add, pk_mul, pk_sub, pk_div, qw_s, qw_o, qw_l, qr_s, qr_o, qr_l, ql_i, ql_s, ql_o, pk_us, pk_un, pk_uLs, pk_uLn, if_pos, if_neg, if_true, if_false, ite_self, eq_self, Nat.zero_add, Nat.add_zero, qwr, not_true_eq_false, not_false_eq_true, Option.some.injEq, qe_gn0, qe_m1n, qe_gng, qe_ngn, qe_gm, qe_mg, qe_lm1, qe_lgn, qe_lem, qe_leg, qe_tm1, qe_tgn]
  have hd3 : d % 3 < 3 := by omega
  have day := day6_l (S := S) (k := k) (k1 := k1) (B := sB B G n F d) (C := C) (D := D) (A := upd (upd (upd A 8 (fdD G n F d)) 5 (A 5 + nI (cosN G n F d))) 2 (A 2 ||| fdD G n F d)) (G := G) (F := F) (n := n) (d := d) hk hn hG hGI
    (by rw [pk_un (by decide), pk_un (by decide), pk_us]) (by rw [pk_us, s4]; rfl) h7 s6 hh FU 0 (Nat.zero_le n) (by unfold FU; omega)
  have a0 : upd (upd (upd A 8 (fdD G n F d)) 5 (A 5 + nI (cosN G n F d))) 2 (A 2 ||| fdD G n F d) 0 = A 0 := by rw [pk_un (by decide), pk_un (by decide), pk_un (by decide)]
  rw [AA_0 (by rw [pk_un (by decide), pk_un (by decide), pk_un (by decide)]; exact s2), CC_0, DD_0, a0] at day
  unfold mX3_spendDay
  simp only [qi_3, e3, qi_0, qlt, mx, c6_awake hn (hG' _ _ _ _) hS h14 he, c6_fdD hn (hG' _ _ _ _) hS h14 he hd hcan, qb_some]
  simp (disch := omega) only [qlt, qb_some, qb_none, ↓qn_1, ↓qn_2, ↓qn_3, ↓qn_4, ↓qn_9, ↓qn_1000, ↓qn_low, qi_0, qi_1, qi_2, qi_3, qi_4, qi_5, qi_6, qi_7, qi_8, qi_9, qi_10, qi_11, qi_12, qi_13, qi_14, qi_15, qi_16, qi_17, qi_20, qi_24, qi_30, qi_31, qi_32, qi_60, qi_99, qi_100, qi_200, qi_1000, qi_3400, qi_4000, qi_of, pu_gI, pu_pI, nI_leI, nI_ltI, nI_eq, nI_add, pk_mul, pk_sub, pk_div, qw_s, qw_o, qw_l, qr_s, qr_o, qr_l, ql_i, ql_s, ql_o, pk_us, pk_un, pk_uLs, pk_uLn, if_pos, if_neg, if_true, if_false, ite_self, eq_self, Nat.zero_add, Nat.add_zero, qwr, not_true_eq_false, not_false_eq_true, Option.some.injEq, qe_gn0, qe_m1n, qe_gng, qe_ngn, qe_gm, qe_mg, qe_lm1, qe_lgn, qe_lem, qe_leg, qe_tm1, qe_tgn, mk4_0, mk4_1, mk4_w0, mk4_w1]
  exact day
theorem dyF_3 {g : Nat} (hn : n ≤ 4) (hg : g < n) : dyF G n F d (3 + g) = dyH G n F d g := by
  unfold dyF
  rw [if_neg (by omega), if_pos (by omega), if_pos (by omega)]
  congr 1
  omega
theorem dyF_3o {g : Nat} (hg : ¬ g < n) (h4 : g < 4) : dyF G n F d (3 + g) = F (3 + g) := by
  unfold dyF
  rw [if_neg (by omega), if_pos (by omega), if_neg (by omega)]
theorem dyF_s {f : Nat} (hf : f < 3) : dyF G n F d f = if d ≠ 12 ∧ f = d % 3 then F f - nI (cosN G n F d) else F f := if_pos hf
theorem lvB_up {g : Nat} (h : lvB G n F d g = true) : upB G F g = true := by
  unfold lvB at h
  cases hu : upB G F g
  · rw [hu] at h; exact absurd h (by simp)
  · rfl
theorem dyH_gone {g : Nat} : decide (dyH G n F d g = gN) = (decide (F (3 + g) = gN) || lvB G n F d g) := by
  unfold dyH
  have hle : huD G n F d g ≤ 9 := huD_le
  have h2 : ¬ nI (huD G n F d g) = gN := qe_gn (by omega)
  cases hu : upB G F g
  · have hl : lvB G n F d g = false := by unfold lvB; rw [hu]; rfl
    simp [hl]
  · have hne := upB_ne hu
    cases hl : lvB G n F d g
    · simp [hne, h2]
    · simp
theorem goneR_day {s : Int32} (hn : n ≤ 4) (h : goneR s n F) : goneR (nI (setN (fun g => bt s g || (decide (g < n) && lvB G n F d g)))) n (dyF G n F d) := by
  obtain ⟨h1, h2⟩ := h
  refine ⟨nib_set _, fun g hg => ?_⟩
  rw [setN_b _ hg, h2 g hg]
  by_cases hgn : g < n
  · rw [dyF_3 hn hgn, dyH_gone]
    simp [hgn]
  · simp [hgn]
theorem ScR_day (hn : n ≤ 4) (hS : ScR (mk4 S k A B C D) k n F) : ScR (mk4 S k (sA A G n F d) (sB B G n F d) (CC C G F n d n) (DD D G n F d n)) k n (dyF G n F d) := by
  obtain ⟨s1, s2, s4, s5, s6⟩ := hS
  rw [mk4_0] at s1 s2 s4
  rw [mk4_1] at s5
  rw [mk4_2] at s6
  refine ⟨?_, ?_, ?_, ?_, ?_⟩
  · rw [mk4_0, sA_0, s1]; rfl
  · rw [mk4_0, sA_1]; exact goneR_day hn s2
  · rw [mk4_0, sA_2, s4]; rfl
  · intro f hf
    rw [mk4_1, dyF_s hf]
    unfold sB
    by_cases h : f = d % 3
    · subst h
      rw [pk_us, s5 _ hf]
      by_cases h12 : d = 12
      · rw [if_neg (fun z => z.1 h12)]
        unfold cosN
        rw [if_pos h12]
        exact i32_00 _
      · rw [if_pos ⟨h12, rfl⟩]
    · rw [pk_un h, if_neg (fun z => h z.2)]
      exact s5 f hf
  · intro g hg hne
    rw [mk4_2]
    rw [dyF_3 hn hg] at hne ⊢
    unfold CC
    unfold dyH at hne ⊢
    by_cases hu : upB G F g = true
    · rw [if_pos ⟨hg, hu⟩, if_pos hu]
      rw [if_pos hu] at hne
      by_cases hl : lvB G n F d g = true
      · rw [if_pos hl] at hne; exact absurd rfl hne
      · rw [if_neg hl]
    · rw [if_neg (fun z => hu z.2), if_neg hu]
      rw [if_neg hu] at hne
      exact s6 g hg hne
theorem FInv_day {e : Nat} (hn : n ≤ 4) (hF : FInv n F) (h14 : F 14 = nI e) (he : e < 1000) (hd : d < 13) (hcan : canB G n F d = true) : FInv n (dyF G n F d) := by
  obtain ⟨_, h7, hs, hh⟩ := hF
  refine ⟨⟨e + 1, by omega, ?_⟩, ?_, ?_, ?_⟩
  · show F 14 + nI 1 = _
    rw [h14, nI_add]
  · exact nib_ev h7
  · intro f hf
    obtain ⟨s, hs1, hs2⟩ := hs f hf
    rw [dyF_s hf]
    by_cases h : d ≠ 12 ∧ f = d % 3
    · rw [if_pos h]
      obtain ⟨h1, h2⟩ := h
      subst h2
      rcases canB_d hd hcan with h3 | ⟨_, _, _, h4⟩
      · exact absurd h3 h1
      · have hc : cosN G n F d = pcN (fedN G n F (d / 3)) := if_neg h1
        rw [hs2, nI_clamp (by omega)] at h4
        rw [hs2, hc, pk_sub h4]
        exact ⟨s - pcN (fedN G n F (d / 3)), by omega, rfl⟩
    · rw [if_neg h]; exact ⟨s, hs1, hs2⟩
  · intro g hg
    rw [dyF_3 hn hg]
    unfold dyH
    split
    · split
      · exact Or.inl rfl
      · exact Or.inr ⟨_, huD_le, rfl⟩
    · exact hh g hg
theorem dy14 {e : Nat} (h14 : F 14 = nI e) : dyF G n F d 14 = nI (e + 1) := by
  show F 14 + nI 1 = _
  rw [h14, nI_add]
theorem cut_dy (hc : cut F) : cut (dyF G n F d) := by
  intro i hi
  unfold dyF
  rw [if_neg (by omega), if_neg (by omega), if_neg (by omega), if_neg (by omega), if_neg (by omega), if_neg (by omega), if_neg (by omega)]
  exact hc i hi
/-- one day of the class, or none -/
theorem goOn6 (hk : k1 + 9 < k ∨ k + 3 < k1) (hn : n ≤ 4) (hG : GodR S k1 n G) (hGI : GInv n G) (hS : ScR (mk4 S k A B C D) k n F) (hF : FInv n F) (hd : d < 13) :
    mX3_goOn (mk4 S k A B C D) k k1 (nI d) = some (if canB G n F d = true then (nI 1, mk4 S k (sA A G n F d) (sB B G n F d) (CC C G F n d n) (DD D G n F d n)) else (nI 0, mk4 S k A B C D)) := by
  have hcl : cosN G n F d ≤ 7 := by
    unfold cosN
    split
    · omega
    · exact pc_le _ (Nat.lt_trans (setN_lt _) (by decide))
  unfold mX3_goOn
  simp (disch := omega) only [qlt, qb_some, qb_none, ↓qn_1, ↓qn_2, ↓qn_3, ↓qn_4, ↓qn_9, ↓qn_1000, ↓qn_low, qi_0, qi_1, qi_2, qi_3, qi_4, qi_5, qi_6, qi_7, qi_8, qi_9, qi_10, qi_11, qi_12, qi_13, qi_14, qi_15, qi_16, qi_17, qi_20, qi_24, qi_30, qi_31, qi_32, qi_60, qi_99, qi_100, qi_200, qi_1000, qi_3400, qi_4000, qi_of, pu_gI, pu_pI, nI_leI, nI_ltI, nI_eq, nI_add, pk_mul, pk_sub, pk_div, qw_s, qw_o, qw_l, qr_s, qr_o, qr_l, ql_i, ql_s, ql_o, pk_us, pk_un, pk_uLs, pk_uLn, if_pos, if_neg, if_true, if_false, ite_self, eq_self, Nat.zero_add, Nat.add_zero, qwr, not_true_eq_false, not_false_eq_true, Option.some.injEq, qe_gn0, qe_m1n, qe_gng, qe_ngn, qe_gm, qe_mg, qe_lm1, qe_lgn, qe_lem, qe_leg, qe_tm1, qe_tgn, c6_cost hn (GodR_mk4 hk hn hG) hS hF (show d < 2 ^ 30 by omega)]
  unfold cosV
  cases hcan : canB G n F d
  · simp (disch := omega) only [qlt, qb_some, qb_none, ↓qn_1, ↓qn_2, ↓qn_3, ↓qn_4, ↓qn_9, ↓qn_1000, ↓qn_low, qi_0, qi_1, qi_2, qi_3, qi_4, qi_5, qi_6, qi_7, qi_8, qi_9, qi_10, qi_11, qi_12, qi_13, qi_14, qi_15, qi_16, qi_17, qi_20, qi_24, qi_30, qi_31, qi_32, qi_60, qi_99, qi_100, qi_200, qi_1000, qi_3400, qi_4000, qi_of, pu_gI, pu_pI, nI_leI, nI_ltI, nI_eq, nI_add, pk_mul, pk_sub, pk_div, qw_s, qw_o, qw_l, qr_s, qr_o, qr_l, ql_i, ql_s, ql_o, pk_us, pk_un, pk_uLs, pk_uLn, if_pos, if_neg, if_true, if_false, ite_self, eq_self, Nat.zero_add, Nat.add_zero, qwr, not_true_eq_false, not_false_eq_true, Option.some.injEq, qe_gn0, qe_m1n, qe_gng, qe_ngn, qe_gm, qe_mg, qe_lm1, qe_lgn, qe_lem, qe_leg, qe_tm1, qe_tgn, Bool.false_eq_true]
  · simp (disch := omega) only [qlt, qb_some, qb_none, ↓qn_1, ↓qn_2, ↓qn_3, ↓qn_4, ↓qn_9, ↓qn_1000, ↓qn_low, qi_0, qi_1, qi_2, qi_3, qi_4, qi_5, qi_6, qi_7, qi_8, qi_9, qi_10, qi_11, qi_12, qi_13, qi_14, qi_15, qi_16, qi_17, qi_20, qi_24, qi_30, qi_31, qi_32, qi_60, qi_99, qi_100, qi_200, qi_1000, qi_3400, qi_4000, qi_of, pu_gI, pu_pI, nI_leI, nI_ltI, nI_eq, nI_add, pk_mul, pk_sub, pk_div, qw_s, qw_o, qw_l, qr_s, qr_o, qr_l, ql_i, ql_s, ql_o, pk_us, pk_un, pk_uLs, pk_uLn, if_pos, if_neg, if_true, if_false, ite_self, eq_self, Nat.zero_add, Nat.add_zero, qwr, not_true_eq_false, not_false_eq_true, Option.some.injEq, qe_gn0, qe_m1n, qe_gng, qe_ngn, qe_gm, qe_mg, qe_lm1, qe_lgn, qe_lem, qe_leg, qe_tm1, qe_tgn, spend6 hk hn hG hGI hS hF hd hcan]
end SP
