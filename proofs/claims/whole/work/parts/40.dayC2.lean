/-! ===== PURE: the class's day, god by god ===== -/
def AA (A : Nat → Int32) (G : Nat → Int32) (n : Nat) (F : Nat → Int32) (d j : Nat) : Nat → Int32 := fun i =>
  if i = 1 then nI (setN (fun g => bt (A 1) g || (decide (g < j) && lvB G n F d g))) else if i = 3 then A 3 + nI (nsum (gpt G n F d) j) else if i = 4 then A 4 + nI (nsum (hpt G n F d) j) else A i
/-- the same with god j's sending, who is gone as before -/
def AB (A : Nat → Int32) (G : Nat → Int32) (n : Nat) (F : Nat → Int32) (d j : Nat) : Nat → Int32 := fun i =>
  if i = 3 then A 3 + nI (nsum (gpt G n F d) (j + 1)) else if i = 4 then A 4 + nI (nsum (hpt G n F d) (j + 1)) else AA A G n F d j i
def CC (C G F : Nat → Int32) (n d j : Nat) : Nat → Int32 := fun g => if g < j ∧ upB G F g = true then nI (huD G n F d g) else C g
def DD (D G : Nat → Int32) (n : Nat) (F : Nat → Int32) (d j : Nat) : Nat → Int32 := fun g => if g < j then snt G n F d g else D g
section DC
variable {A B C D G F : Nat → Int32} {S : vS} {k k1 n d j : Nat}
theorem AA_1 : AA A G n F d j 1 = nI (setN (fun g => bt (A 1) g || (decide (g < j) && lvB G n F d g))) := rfl
theorem AA_o {i : Nat} (h1 : i ≠ 1) (h3 : i ≠ 3) (h4 : i ≠ 4) : AA A G n F d j i = A i := by
  unfold AA
  rw [if_neg h1, if_neg h3, if_neg h4]
theorem AB_s (hl : lvB G n F d j = false) : AB A G n F d j = AA A G n F d (j + 1) := by
  funext i
  by_cases h3 : i = 3
  · subst h3; rfl
  · by_cases h4 : i = 4
    · subst h4; rfl
    · unfold AB
      rw [if_neg h3, if_neg h4]
      by_cases h1 : i = 1
      · subst h1
        rw [AA_1, AA_1]
        congr 2
        funext g
        by_cases hg : g = j
        · subst hg; simp [hl]
        · have : (g < j + 1) ↔ g < j := by omega
          simp [this]
      · rw [AA_o h1 h3 h4, AA_o h1 h3 h4]
theorem AB_l (hj : j < 4) (hl : lvB G n F d j = true) : upd (AB A G n F d j) 1 (AB A G n F d j 1 ||| (nI 1 <<< (nI j &&& nI 31))) = AA A G n F d (j + 1) := by
  refine up_ext ?_ (fun i h1 => ?_)
  · rw [AA_1]
    have e : AB A G n F d j 1 = nI (setN (fun g => bt (A 1) g || (decide (g < j) && lvB G n F d g))) := rfl
    rw [e]
    refine (set_of (nib_or (nib_set _) (nib_one hj)) _ (fun g hg => ?_)).symm
    rw [bt_or (nib_set _) (nib_one hj) hg, bt_one hj hg, setN_b _ hg]
    by_cases hgj : g = j
    · subst hgj; simp [hl]
    · have : (g < j + 1) ↔ g < j := by omega
      simp [hgj, this]
  · by_cases h3 : i = 3
    · subst h3; rfl
    · by_cases h4 : i = 4
      · subst h4; rfl
      · unfold AB
        rw [if_neg h3, if_neg h4, AA_o h1 h3 h4, AA_o h1 h3 h4]
theorem CC_s {x : Int32} (hu : upB G F j = true) (hx : x = nI (huD G n F d j)) : upd (CC C G F n d j) j x = CC C G F n d (j + 1) := by
  refine up_ext ?_ (fun i h1 => ?_)
  · unfold CC
    rw [if_pos ⟨by omega, hu⟩, hx]
  · unfold CC
    have : (i < j + 1) = (i < j) := propext (by omega)
    simp only [this]
theorem CC_n (hu : upB G F j = false) : CC C G F n d j = CC C G F n d (j + 1) := by
  funext i
  unfold CC
  by_cases h : i = j
  · subst h
    rw [if_neg (fun z => by rw [hu] at z; exact absurd z.2 (by decide)), if_neg (fun z => by rw [hu] at z; exact absurd z.2 (by decide))]
  · have : (i < j + 1) = (i < j) := propext (by omega)
    simp only [this]
theorem DD_s {x : Int32} (hx : x = snt G n F d j) : upd (DD D G n F d j) j x = DD D G n F d (j + 1) := by
  refine up_ext ?_ (fun i h1 => ?_)
  · unfold DD
    rw [if_pos (by omega), hx]
  · unfold DD
    have : (i < j + 1) = (i < j) := propext (by omega)
    simp only [this]
theorem AB_0 (hB : snB G n F d j = false) : AB A G n F d j = AA A G n F d j := by
  have q1 : gpt G n F d j = 0 := by unfold gpt; rw [hB]; rfl
  have q2 : hpt G n F d j = 0 := by unfold hpt; rw [hB]; rfl
  funext i
  unfold AB
  rw [nsum_s, nsum_s, q1, q2, Nat.add_zero, Nat.add_zero]
  by_cases h3 : i = 3
  · subst h3; rfl
  · by_cases h4 : i = 4
    · subst h4; rfl
    · rw [if_neg h3, if_neg h4]
theorem AB_3 {x : Nat} (h1 : gpt G n F d j = x) (h2 : hpt G n F d j = 0) : upd (AA A G n F d j) 3 (AA A G n F d j 3 + nI x) = AB A G n F d j := by
  refine up_ext ?_ (fun i h => ?_)
  · unfold AB
    rw [if_pos rfl, nsum_s, h1, ← nI_add]
    show _ = A 3 + nI _ + nI x
    grind
  · unfold AB
    rw [if_neg h, nsum_s _ j, h2, Nat.add_zero]
    by_cases h4 : i = 4
    · subst h4; rfl
    · rw [if_neg h4]
theorem AB_4 {x : Nat} (h1 : gpt G n F d j = 0) (h2 : hpt G n F d j = x) : upd (AA A G n F d j) 4 (AA A G n F d j 4 + nI x) = AB A G n F d j := by
  refine up_ext ?_ (fun i h => ?_)
  · unfold AB
    rw [if_neg (by decide), if_pos rfl, nsum_s _ j, h2, ← nI_add]
    show _ = A 4 + nI _ + nI x
    grind
  · unfold AB
    rw [if_neg h, nsum_s _ j, h1, Nat.add_zero]
    by_cases h3 : i = 3
    · subst h3; rfl
    · rw [if_neg h3]
theorem foe_hat {s fed : Int32} (hs : nib s) (hf : nib fed) (ha : gA G j = gN ∨ ∃ a, a < 4 ∧ gA G j = nI a) (hb : ∀ o, o < 4 → bt s o = (!decide (gK G j = nI 1) && decide (gA G j = nI o))) : ((s &&& fed) = nI 0) = (hatS G fed j = false) := by
  apply propext
  unfold hatS
  by_cases hk : gK G j = nI 1
  · simp only [hk, decide_true, Bool.not_true, Bool.false_and, iff_true]
    refine bt_ext (nib_and hs hf) nib_0 (fun g hg => ?_)
    rw [bt_and hs hf hg, hb g hg, hk, bt_z g hg]
    simp
  · rcases ha with ha | ⟨a, ha4, ha⟩
    · simp only [ha, decide_true, Bool.not_true, Bool.false_and, Bool.and_false, iff_true]
      refine bt_ext (nib_and hs hf) nib_0 (fun g hg => ?_)
      rw [bt_and hs hf hg, hb g hg, ha, bt_z g hg]
      have : ¬ gN = nI g := fun z => qe_gn (by omega) z.symm
      simp [this]
    · have hne : ¬ nI a = gN := qe_gn (by omega)
      rw [ha, nI_clamp (by omega)]
      simp only [hk, hne, decide_false, Bool.not_false, Bool.true_and]
      constructor
      · intro h
        have h1 : bt (s &&& fed) a = bt (nI 0) a := by rw [h]
        rw [bt_and hs hf ha4, hb a ha4, bt_z a ha4, ha] at h1
        simpa [hk] using h1
      · intro h
        refine bt_ext (nib_and hs hf) nib_0 (fun g hg => ?_)
        rw [bt_and hs hf hg, hb g hg, bt_z g hg, ha]
        by_cases e : g = a
        · subst e; simp [h]
        · have : ¬ nI a = nI g := fun z => e ((nI_eq (by omega) (by omega)).mp z).symm
          simp [this]
theorem max2 : ∀ h, h < 10 → mxI (nI 0) (nI h - nI 2) = nI (h - 2) := by decide +kernel
theorem min9 {x : Nat} (h : x < 2 ^ 31) : mnI (nI 9) (nI x) = nI (min 9 x) := by
  unfold mnI
  by_cases h1 : x < 9
  · simp (disch := omega) only [qlt, qb_some, qb_none, ↓qn_1, ↓qn_2, ↓qn_3, ↓qn_4, ↓qn_9, ↓qn_1000, ↓qn_low, qi_0, qi_1, qi_2, qi_3, qi_4, qi_5, qi_6, qi_7, qi_8, qi_9, qi_10, qi_11, qi_12, qi_13, qi_14, qi_15, qi_16, qi_17, qi_20, qi_24, qi_30, qi_31, qi_32, qi_60, qi_99, qi_100, qi_200, qi_1000, qi_3400, qi_4000, qi_of, pu_gI, pu_pI, nI_leI, nI_ltI, nI_eq, nI_add, pk_mul, pk_sub, pk_div, qw_s, qw_o, qw_l, qr_s, qr_o, qr_l, ql_i, ql_s, ql_o, pk_us, pk_un, pk_uLs, pk_uLn, if_pos, if_neg, if_true, if_false, ite_self, eq_self, Nat.zero_add, Nat.add_zero, qwr, not_true_eq_false, not_false_eq_true, Option.some.injEq, qe_gn0, qe_m1n, qe_gng, qe_ngn, qe_gm, qe_mg, qe_lm1, qe_lgn, qe_lem, qe_leg, qe_tm1, qe_tgn]
    rw [Nat.min_eq_right (by omega)]
  · simp (disch := omega) only [qlt, qb_some, qb_none, ↓qn_1, ↓qn_2, ↓qn_3, ↓qn_4, ↓qn_9, ↓qn_1000, ↓qn_low, qi_0, qi_1, qi_2, qi_3, qi_4, qi_5, qi_6, qi_7, qi_8, qi_9, qi_10, qi_11, qi_12, qi_13, qi_14, qi_15, qi_16, qi_17, qi_20, qi_24, qi_30, qi_31, qi_32, qi_60, qi_99, qi_100, qi_200, qi_1000, qi_3400, qi_4000, qi_of, pu_gI, pu_pI, nI_leI, nI_ltI, nI_eq, nI_add, pk_mul, pk_sub, pk_div, qw_s, qw_o, qw_l, qr_s, qr_o, qr_l, ql_i, ql_s, ql_o, pk_us, pk_un, pk_uLs, pk_uLn, if_pos, if_neg, if_true, if_false, ite_self, eq_self, Nat.zero_add, Nat.add_zero, qwr, not_true_eq_false, not_false_eq_true, Option.some.injEq, qe_gn0, qe_m1n, qe_gng, qe_ngn, qe_gm, qe_mg, qe_lm1, qe_lgn, qe_lem, qe_leg, qe_tm1, qe_tgn]
    rw [Nat.min_eq_left (by omega)]
theorem hunger6 {h : Nat} (hk : k1 + 9 < k ∨ k + 3 < k1) (hn : n ≤ 4) (hG : GodR S k1 n G) (hGI : GInv n G) (hj : j < n) (h8 : A 8 = fdD G n F d) (hC : C j = nI h) (h9 : h ≤ 9) (hF : F (3 + j) = nI h) :
    mX3_hungerAfter (mk4 S k A B C D) k k1 (nI j) (nI (d % 3)) = some (nI (huD G n F d j)) := by
  obtain ⟨g1, g2, g3, g4, g5, g6, g7, g8, g9, g10, g11⟩ := hG.2.2.2.2 j hj
  have hj4 : j < 4 := by omega
  have hfed : nib (fdD G n F d) := nib_fd
  have ha : gA G j = gN ∨ ∃ a, a < 4 ∧ gA G j = nI a := by
    rcases (hGI j hj).2.2.2.2.2.1 with e | ⟨a, h1, h2⟩
    · exact Or.inl e
    · exact Or.inr ⟨a, by omega, h2⟩
  have hcl : (nI h).toNatClampNeg = h := nI_clamp (by omega)
  unfold mX3_hungerAfter bX3_hungerAfter_64
  simp (disch := omega) only [qlt, qb_some, qb_none, ↓qn_1, ↓qn_2, ↓qn_3, ↓qn_4, ↓qn_9, ↓qn_1000, ↓qn_low, qi_0, qi_1, qi_2, qi_3, qi_4, qi_5, qi_6, qi_7, qi_8, qi_9, qi_10, qi_11, qi_12, qi_13, qi_14, qi_15, qi_16, qi_17, qi_20, qi_24, qi_30, qi_31, qi_32, qi_60, qi_99, qi_100, qi_200, qi_1000, qi_3400, qi_4000, qi_of, pu_gI, pu_pI, nI_leI, nI_ltI, nI_eq, nI_add, pk_mul, pk_sub, pk_div, qw_s, qw_o, qw_l, qr_s, qr_o, qr_l, ql_i, ql_s, ql_o, pk_us, pk_un, pk_uLs, pk_uLn, if_pos, if_neg, if_true, if_false, ite_self, eq_self, Nat.zero_add, Nat.add_zero, qwr, not_true_eq_false, not_false_eq_true, Option.some.injEq, qe_gn0, qe_m1n, qe_gng, qe_ngn, qe_gm, qe_mg, qe_lm1, qe_lgn, qe_lem, qe_leg, qe_tm1, qe_tgn, mk4_0, mk4_2, mk4_o, h8, bt_c hfed hj4, foe_hat g9 hfed ha g10, hC, g2, g11]
  unfold huD hunN
  rw [hF, hcl]
  cases hb : bt (fdD G n F d) j
  · simp only [if_true, Bool.false_eq_true, if_false]
    cases hh : hatS G (fdD G n F d) j
    · simp only [if_true, Bool.false_eq_true, if_false]
      rw [min9 (by omega)]
    · simp only [if_true, Bool.true_eq_false, if_false]
      cases hjl : jel G j
      · simp only [Bool.false_eq_true, if_false, nI_add]
        rw [min9 (by omega)]
      · simp only [if_true, nI_add]
        rw [min9 (by omega)]
  · simp only [if_true, Bool.true_eq_false, if_false]
    by_cases hf : gF G j = nI (d % 3)
    · rw [if_pos hf, if_pos hf.symm]
      rfl
    · rw [if_neg hf, if_neg (fun z => hf z.symm), max2 h (by omega), Nat.min_eq_right (by omega)]
theorem send6 {h : Nat} (hk : k1 + 9 < k ∨ k + 3 < k1) (hn : n ≤ 4) (hG : GodR S k1 n G) (hGI : GInv n G) (hj : j < n) (h2 : A 2 = evD G n F d) (h7 : nib (F 7)) (hC : C j = nI h) (hh : h = huD G n F d j) (hu : upB G F j = true) :
    mX3_send (mk4 S k (AA A G n F d j) B C (upd (DD D G n F d j) j (nI 0))) k k1 (nI j) = some (mk4 S k (AB A G n F d j) B C (DD D G n F d (j + 1))) := by
  obtain ⟨g1, g2, g3, g4, g5, _⟩ := hG.2.2.2.2 j hj
  have hj4 : j < 4 := by omega
  obtain ⟨_, _, ⟨p, hp1, hp2, hp⟩, ⟨x, hx1, hx⟩, ⟨y, hy1, hy⟩, _⟩ := hGI j hj
  have hle : h ≤ 9 := by rw [hh]; exact huD_le
  have a2 : AA A G n F d j 2 = evD G n F d := by rw [AA_o (by decide) (by decide) (by decide)]; exact h2
  have no : snB G n F d j = false → mk4 S k (AA A G n F d j) B C (upd (DD D G n F d j) j (nI 0)) = mk4 S k (AB A G n F d j) B C (DD D G n F d (j + 1)) := by
    intro hB
    rw [AB_0 hB, DD_s (by unfold snt; rw [hB]; rfl)]
  have yes : snB G n F d j = true → bX3_send_19 k k1 (mk4 S k (AA A G n F d j) B C (upd (DD D G n F d j) j (nI 0))) (nI j) = some (mk4 S k (AB A G n F d j) B C (DD D G n F d (j + 1))) := by
    intro hB
    have hgo : goB G n F d j = decide (h ≤ p) := by
      unfold goB
      rw [hp, nI_clamp (by omega), ← hh]
    unfold bX3_send_19
    simp (disch := omega) only [qlt, qb_some, qb_none, ↓qn_1, ↓qn_2, ↓qn_3, ↓qn_4, ↓qn_9, ↓qn_1000, ↓qn_low, qi_0, qi_1, qi_2, qi_3, qi_4, qi_5, qi_6, qi_7, qi_8, qi_9, qi_10, qi_11, qi_12, qi_13, qi_14, qi_15, qi_16, qi_17, qi_20, qi_24, qi_30, qi_31, qi_32, qi_60, qi_99, qi_100, qi_200, qi_1000, qi_3400, qi_4000, qi_of, pu_gI, pu_pI, nI_leI, nI_ltI, nI_eq, nI_add, pk_mul, pk_sub, pk_div, qw_s, qw_o, qw_l, qr_s, qr_o, qr_l, ql_i, ql_s, ql_o, pk_us, pk_un, pk_uLs, pk_uLn, if_pos, if_neg, if_true, if_false, ite_self, eq_self, Nat.zero_add, Nat.add_zero, qwr, not_true_eq_false, not_false_eq_true, Option.some.injEq, qe_gn0, qe_m1n, qe_gng, qe_ngn, qe_gm, qe_mg, qe_lm1, qe_lgn, qe_lem, qe_leg, qe_tm1, qe_tgn, mk4_2, mk4_o, hC, g3, hp, g4, hx, g5, hy]
    by_cases hl : h ≤ p
    · have q1 : gpt G n F d j = x := by unfold gpt; rw [hB, hgo, hx, nI_clamp (by omega)]; simp [hl]
      have q2 : hpt G n F d j = 0 := by unfold hpt; rw [hB, hgo]; simp [hl]
      have q3 : nI x = snt G n F d j := by unfold snt; rw [hB, hgo, hx]; simp [hl]
      simp (disch := omega) only [qlt, qb_some, qb_none, ↓qn_1, ↓qn_2, ↓qn_3, ↓qn_4, ↓qn_9, ↓qn_1000, ↓qn_low, qi_0, qi_1, qi_2, qi_3, qi_4, qi_5, qi_6, qi_7, qi_8, qi_9, qi_10, qi_11, qi_12, qi_13, qi_14, qi_15, qi_16, qi_17, qi_20, qi_24, qi_30, qi_31, qi_32, qi_60, qi_99, qi_100, qi_200, qi_1000, qi_3400, qi_4000, qi_of, pu_gI, pu_pI, nI_leI, nI_ltI, nI_eq, nI_add, pk_mul, pk_sub, pk_div, qw_s, qw_o, qw_l, qr_s, qr_o, qr_l, ql_i, ql_s, ql_o, pk_us, pk_un, pk_uLs, pk_uLn, if_pos, if_neg, if_true, if_false, ite_self, eq_self, Nat.zero_add, Nat.add_zero, qwr, not_true_eq_false, not_false_eq_true, Option.some.injEq, qe_gn0, qe_m1n, qe_gng, qe_ngn, qe_gm, qe_mg, qe_lm1, qe_lgn, qe_lem, qe_leg, qe_tm1, qe_tgn, mk4_w3, mk4_0, mk4_o, g4, hx, upd_upd, DD_s q3, mk4_w0, AB_3 q1 q2]
    · have q1 : gpt G n F d j = 0 := by unfold gpt; rw [hB, hgo]; simp [hl]
      have q2 : hpt G n F d j = y := by unfold hpt; rw [hB, hgo, hy, nI_clamp (by omega)]; simp [hl]
      have q3 : -nI y = snt G n F d j := by unfold snt; rw [hB, hgo, hy]; simp [hl]
      simp (disch := omega) only [qlt, qb_some, qb_none, ↓qn_1, ↓qn_2, ↓qn_3, ↓qn_4, ↓qn_9, ↓qn_1000, ↓qn_low, qi_0, qi_1, qi_2, qi_3, qi_4, qi_5, qi_6, qi_7, qi_8, qi_9, qi_10, qi_11, qi_12, qi_13, qi_14, qi_15, qi_16, qi_17, qi_20, qi_24, qi_30, qi_31, qi_32, qi_60, qi_99, qi_100, qi_200, qi_1000, qi_3400, qi_4000, qi_of, pu_gI, pu_pI, nI_leI, nI_ltI, nI_eq, nI_add, pk_mul, pk_sub, pk_div, qw_s, qw_o, qw_l, qr_s, qr_o, qr_l, ql_i, ql_s, ql_o, pk_us, pk_un, pk_uLs, pk_uLn, if_pos, if_neg, if_true, if_false, ite_self, eq_self, Nat.zero_add, Nat.add_zero, qwr, not_true_eq_false, not_false_eq_true, Option.some.injEq, qe_gn0, qe_m1n, qe_gng, qe_ngn, qe_gm, qe_mg, qe_lm1, qe_lgn, qe_lem, qe_leg, qe_tm1, qe_tgn, mk4_w3, mk4_0, mk4_o, g5, hy, upd_upd, DD_s q3, mk4_w0, AB_4 q1 q2]
  unfold mX3_send mX3_wasEverFed
  simp (disch := omega) only [qlt, qb_some, qb_none, ↓qn_1, ↓qn_2, ↓qn_3, ↓qn_4, ↓qn_9, ↓qn_1000, ↓qn_low, qi_0, qi_1, qi_2, qi_3, qi_4, qi_5, qi_6, qi_7, qi_8, qi_9, qi_10, qi_11, qi_12, qi_13, qi_14, qi_15, qi_16, qi_17, qi_20, qi_24, qi_30, qi_31, qi_32, qi_60, qi_99, qi_100, qi_200, qi_1000, qi_3400, qi_4000, qi_of, pu_gI, pu_pI, nI_leI, nI_ltI, nI_eq, nI_add, pk_mul, pk_sub, pk_div, qw_s, qw_o, qw_l, qr_s, qr_o, qr_l, ql_i, ql_s, ql_o, pk_us, pk_un, pk_uLs, pk_uLn, if_pos, if_neg, if_true, if_false, ite_self, eq_self, Nat.zero_add, Nat.add_zero, qwr, not_true_eq_false, not_false_eq_true, Option.some.injEq, qe_gn0, qe_m1n, qe_gng, qe_ngn, qe_gm, qe_mg, qe_lm1, qe_lgn, qe_lem, qe_leg, qe_tm1, qe_tgn, mk4_0, mk4_o, g1, a2, bt_c (nib_ev h7) hj4]
  by_cases e5 : gK G j = nI 5
  · rw [if_pos e5]
    cases hb : bt (evD G n F d) j
    · simp (disch := omega) only [qlt, qb_some, qb_none, ↓qn_1, ↓qn_2, ↓qn_3, ↓qn_4, ↓qn_9, ↓qn_1000, ↓qn_low, qi_0, qi_1, qi_2, qi_3, qi_4, qi_5, qi_6, qi_7, qi_8, qi_9, qi_10, qi_11, qi_12, qi_13, qi_14, qi_15, qi_16, qi_17, qi_20, qi_24, qi_30, qi_31, qi_32, qi_60, qi_99, qi_100, qi_200, qi_1000, qi_3400, qi_4000, qi_of, pu_gI, pu_pI, nI_leI, nI_ltI, nI_eq, nI_add, pk_mul, pk_sub, pk_div, qw_s, qw_o, qw_l, qr_s, qr_o, qr_l, ql_i, ql_s, ql_o, pk_us, pk_un, pk_uLs, pk_uLn, if_pos, if_neg, if_true, if_false, ite_self, eq_self, Nat.zero_add, Nat.add_zero, qwr, not_true_eq_false, not_false_eq_true, Option.some.injEq, qe_gn0, qe_m1n, qe_gng, qe_ngn, qe_gm, qe_mg, qe_lm1, qe_lgn, qe_lem, qe_leg, qe_tm1, qe_tgn]
      rw [no (by unfold snB; rw [hu, hb]; simp [e5])]
    · simp (disch := omega) only [qlt, qb_some, qb_none, ↓qn_1, ↓qn_2, ↓qn_3, ↓qn_4, ↓qn_9, ↓qn_1000, ↓qn_low, qi_0, qi_1, qi_2, qi_3, qi_4, qi_5, qi_6, qi_7, qi_8, qi_9, qi_10, qi_11, qi_12, qi_13, qi_14, qi_15, qi_16, qi_17, qi_20, qi_24, qi_30, qi_31, qi_32, qi_60, qi_99, qi_100, qi_200, qi_1000, qi_3400, qi_4000, qi_of, pu_gI, pu_pI, nI_leI, nI_ltI, nI_eq, nI_add, pk_mul, pk_sub, pk_div, qw_s, qw_o, qw_l, qr_s, qr_o, qr_l, ql_i, ql_s, ql_o, pk_us, pk_un, pk_uLs, pk_uLn, if_pos, if_neg, if_true, if_false, ite_self, eq_self, Nat.zero_add, Nat.add_zero, qwr, not_true_eq_false, not_false_eq_true, Option.some.injEq, qe_gn0, qe_m1n, qe_gng, qe_ngn, qe_gm, qe_mg, qe_lm1, qe_lgn, qe_lem, qe_leg, qe_tm1, qe_tgn, Bool.true_eq_false]
      exact yes (by unfold snB; rw [hu, hb]; simp)
  · rw [if_neg e5]
    exact yes (by unfold snB; rw [hu]; simp [e5])
theorem day6_l (hk : k1 + 9 < k ∨ k + 3 < k1) (hn : n ≤ 4) (hG : GodR S k1 n G) (hGI : GInv n G) (h8 : A 8 = fdD G n F d) (h2 : A 2 = evD G n F d) (h7 : nib (F 7)) (hC : ∀ g, g < n → F (3 + g) ≠ gN → C g = F (3 + g)) (hF : hInv n F) :
    ∀ q j, j ≤ n → n - j < q → lX3_spendDay_63 k k1 (nI (d % 3)) (nI (setN (fun g => decide (g < n) && upB G F g))) q (mk4 S k (AA A G n F d j) B (CC C G F n d j) (DD D G n F d j)) (nI j)
      = some (mk4 S k (upd (AA A G n F d n) 0 (A 0 + nI 1)) B (CC C G F n d n) (DD D G n F d n)) := by
  intro q
  induction q with
  | zero => intro j h1 h2; omega
  | succ q ih =>
    intro j h1 h3
    rw [lX3_spendDay_63]
    have hn0 : ∀ A B C D, (mk4 S k A B C D).1 k1 0 = nI n := fun A B C D => by rw [mk4_o (by omega)]; exact hG.1
    by_cases hj : j = n
    · subst hj
      have a0 : AA A G j F d j 0 = A 0 := rfl
      unfold bX3_spendDay_155
      simp (disch := omega) only [qlt, qb_some, qb_none, ↓qn_1, ↓qn_2, ↓qn_3, ↓qn_4, ↓qn_9, ↓qn_1000, ↓qn_low, qi_0, qi_1, qi_2, qi_3, qi_4, qi_5, qi_6, qi_7, qi_8, qi_9, qi_10, qi_11, qi_12, qi_13, qi_14, qi_15, qi_16, qi_17, qi_20, qi_24, qi_30, qi_31, qi_32, qi_60, qi_99, qi_100, qi_200, qi_1000, qi_3400, qi_4000, qi_of, pu_gI, pu_pI, nI_leI, nI_ltI, nI_eq, nI_add, pk_mul, pk_sub, pk_div, qw_s, qw_o, qw_l, qr_s, qr_o, qr_l, ql_i, ql_s, ql_o, pk_us, pk_un, pk_uLs, pk_uLn, if_pos, if_neg, if_true, if_false, ite_self, eq_self, Nat.zero_add, Nat.add_zero, qwr, not_true_eq_false, not_false_eq_true, Option.some.injEq, qe_gn0, qe_m1n, qe_gng, qe_ngn, qe_gm, qe_mg, qe_lm1, qe_lgn, qe_lem, qe_leg, qe_tm1, qe_tgn, hn0, mk4_0, a0, mk4_w0]
    · have hj4 : j < 4 := by omega
      have hjn : j < n := by omega
      have go := ih (j + 1) (by omega) (by omega)
      obtain ⟨g1, _, g3, _⟩ := hG.2.2.2.2 j hjn
      obtain ⟨_, _, ⟨p, hp1, hp2, hp⟩, _⟩ := hGI j hjn
      have eb : bt (nI (setN (fun g => decide (g < n) && upB G F g))) j = upB G F j := by rw [setN_b _ hj4]; simp [hjn]
      simp (disch := omega) only [qlt, qb_some, qb_none, ↓qn_1, ↓qn_2, ↓qn_3, ↓qn_4, ↓qn_9, ↓qn_1000, ↓qn_low, qi_0, qi_1, qi_2, qi_3, qi_4, qi_5, qi_6, qi_7, qi_8, qi_9, qi_10, qi_11, qi_12, qi_13, qi_14, qi_15, qi_16, qi_17, qi_20, qi_24, qi_30, qi_31, qi_32, qi_60, qi_99, qi_100, qi_200, qi_1000, qi_3400, qi_4000, qi_of, pu_gI, pu_pI, nI_leI, nI_ltI, nI_eq, nI_add, pk_mul, pk_sub, pk_div, qw_s, qw_o, qw_l, qr_s, qr_o, qr_l, ql_i, ql_s, ql_o, pk_us, pk_un, pk_uLs, pk_uLn, if_pos, if_neg, if_true, if_false, ite_self, eq_self, Nat.zero_add, Nat.add_zero, qwr, not_true_eq_false, not_false_eq_true, Option.some.injEq, qe_gn0, qe_m1n, qe_gng, qe_ngn, qe_gm, qe_mg, qe_lm1, qe_lgn, qe_lem, qe_leg, qe_tm1, qe_tgn, hn0, mk4_3, mk4_w3, bt_c (nib_set _) hj4, eb]
      cases hu : upB G F j
      · have hB : snB G n F d j = false := by unfold snB; rw [hu]; rfl
        have hl : lvB G n F d j = false := by unfold lvB; rw [hu]; rfl
        simp (disch := omega) only [qlt, qb_some, qb_none, ↓qn_1, ↓qn_2, ↓qn_3, ↓qn_4, ↓qn_9, ↓qn_1000, ↓qn_low, qi_0, qi_1, qi_2, qi_3, qi_4, qi_5, qi_6, qi_7, qi_8, qi_9, qi_10, qi_11, qi_12, qi_13, qi_14, qi_15, qi_16, qi_17, qi_20, qi_24, qi_30, qi_31, qi_32, qi_60, qi_99, qi_100, qi_200, qi_1000, qi_3400, qi_4000, qi_of, pu_gI, pu_pI, nI_leI, nI_ltI, nI_eq, nI_add, pk_mul, pk_sub, pk_div, qw_s, qw_o, qw_l, qr_s, qr_o, qr_l, ql_i, ql_s, ql_o, pk_us, pk_un, pk_uLs, pk_uLn, if_pos, if_neg, if_true, if_false, ite_self, eq_self, Nat.zero_add, Nat.add_zero, qwr, not_true_eq_false, not_false_eq_true, Option.some.injEq, qe_gn0, qe_m1n, qe_gng, qe_ngn, qe_gm, qe_mg, qe_lm1, qe_lgn, qe_lem, qe_leg, qe_tm1, qe_tgn]
        rw [DD_s (by unfold snt; rw [hB]; rfl), ← AB_0 hB, AB_s hl, CC_n hu]
        exact go
      · have hne := upB_ne hu
        obtain ⟨h, h9, hx⟩ := (hF j hjn).resolve_left hne
        have c1 : CC C G F n d j j = nI h := by
          unfold CC
          rw [if_neg (by omega), hC j hjn hne, hx]
        have a8 : AA A G n F d j 8 = fdD G n F d := by rw [AA_o (by decide) (by decide) (by decide)]; exact h8
        have hle : huD G n F d j ≤ 9 := huD_le
        have c2 : CC C G F n d (j + 1) j = nI (huD G n F d j) := by
          unfold CC
          rw [if_pos ⟨by omega, hu⟩]
        simp (disch := omega) only [qlt, qb_some, qb_none, ↓qn_1, ↓qn_2, ↓qn_3, ↓qn_4, ↓qn_9, ↓qn_1000, ↓qn_low, qi_0, qi_1, qi_2, qi_3, qi_4, qi_5, qi_6, qi_7, qi_8, qi_9, qi_10, qi_11, qi_12, qi_13, qi_14, qi_15, qi_16, qi_17, qi_20, qi_24, qi_30, qi_31, qi_32, qi_60, qi_99, qi_100, qi_200, qi_1000, qi_3400, qi_4000, qi_of, pu_gI, pu_pI, nI_leI, nI_ltI, nI_eq, nI_add, pk_mul, pk_sub, pk_div, qw_s, qw_o, qw_l, qr_s, qr_o, qr_l, ql_i, ql_s, ql_o, pk_us, pk_un, pk_uLs, pk_uLn, if_pos, if_neg, if_true, if_false, ite_self, eq_self, Nat.zero_add, Nat.add_zero, qwr, not_true_eq_false, not_false_eq_true, Option.some.injEq, qe_gn0, qe_m1n, qe_gng, qe_ngn, qe_gm, qe_mg, qe_lm1, qe_lgn, qe_lem, qe_leg, qe_tm1, qe_tgn, Bool.true_eq_false, hunger6 hk hn hG hGI hjn a8 c1 h9 hx, mk4_2, mk4_w2, CC_s hu rfl, send6 hk hn hG hGI hjn h2 h7 c2 rfl hu, mk4_o, g1]
        by_cases e4 : gK G j = nI 4
        · rw [if_pos e4]
          unfold mX0_leavingHunger
          simp (disch := omega) only [qlt, qb_some, qb_none, ↓qn_1, ↓qn_2, ↓qn_3, ↓qn_4, ↓qn_9, ↓qn_1000, ↓qn_low, qi_0, qi_1, qi_2, qi_3, qi_4, qi_5, qi_6, qi_7, qi_8, qi_9, qi_10, qi_11, qi_12, qi_13, qi_14, qi_15, qi_16, qi_17, qi_20, qi_24, qi_30, qi_31, qi_32, qi_60, qi_99, qi_100, qi_200, qi_1000, qi_3400, qi_4000, qi_of, pu_gI, pu_pI, nI_leI, nI_ltI, nI_eq, nI_add, pk_mul, pk_sub, pk_div, qw_s, qw_o, qw_l, qr_s, qr_o, qr_l, ql_i, ql_s, ql_o, pk_us, pk_un, pk_uLs, pk_uLn, if_pos, if_neg, if_true, if_false, ite_self, eq_self, Nat.zero_add, Nat.add_zero, qwr, not_true_eq_false, not_false_eq_true, Option.some.injEq, qe_gn0, qe_m1n, qe_gng, qe_ngn, qe_gm, qe_mg, qe_lm1, qe_lgn, qe_lem, qe_leg, qe_tm1, qe_tgn, mk4_2, c2, mk4_o, g3, hp]
          have el : lvB G n F d j = decide (p + 1 < huD G n F d j) := by
            unfold lvB
            rw [hu, hp, nI_clamp (by omega), e4]
            simp
          by_cases hl : huD G n F d j < p + 2
          · simp (disch := omega) only [qlt, qb_some, qb_none, ↓qn_1, ↓qn_2, ↓qn_3, ↓qn_4, ↓qn_9, ↓qn_1000, ↓qn_low, qi_0, qi_1, qi_2, qi_3, qi_4, qi_5, qi_6, qi_7, qi_8, qi_9, qi_10, qi_11, qi_12, qi_13, qi_14, qi_15, qi_16, qi_17, qi_20, qi_24, qi_30, qi_31, qi_32, qi_60, qi_99, qi_100, qi_200, qi_1000, qi_3400, qi_4000, qi_of, pu_gI, pu_pI, nI_leI, nI_ltI, nI_eq, nI_add, pk_mul, pk_sub, pk_div, qw_s, qw_o, qw_l, qr_s, qr_o, qr_l, ql_i, ql_s, ql_o, pk_us, pk_un, pk_uLs, pk_uLn, if_pos, if_neg, if_true, if_false, ite_self, eq_self, Nat.zero_add, Nat.add_zero, qwr, not_true_eq_false, not_false_eq_true, Option.some.injEq, qe_gn0, qe_m1n, qe_gng, qe_ngn, qe_gm, qe_mg, qe_lm1, qe_lgn, qe_lem, qe_leg, qe_tm1, qe_tgn]
            rw [AB_s (by rw [el]; simpa using by omega)]
            exact go
          · unfold mX3_sendAway
            simp (disch := omega) only [qlt, qb_some, qb_none, ↓qn_1, ↓qn_2, ↓qn_3, ↓qn_4, ↓qn_9, ↓qn_1000, ↓qn_low, qi_0, qi_1, qi_2, qi_3, qi_4, qi_5, qi_6, qi_7, qi_8, qi_9, qi_10, qi_11, qi_12, qi_13, qi_14, qi_15, qi_16, qi_17, qi_20, qi_24, qi_30, qi_31, qi_32, qi_60, qi_99, qi_100, qi_200, qi_1000, qi_3400, qi_4000, qi_of, pu_gI, pu_pI, nI_leI, nI_ltI, nI_eq, nI_add, pk_mul, pk_sub, pk_div, qw_s, qw_o, qw_l, qr_s, qr_o, qr_l, ql_i, ql_s, ql_o, pk_us, pk_un, pk_uLs, pk_uLn, if_pos, if_neg, if_true, if_false, ite_self, eq_self, Nat.zero_add, Nat.add_zero, qwr, not_true_eq_false, not_false_eq_true, Option.some.injEq, qe_gn0, qe_m1n, qe_gng, qe_ngn, qe_gm, qe_mg, qe_lm1, qe_lgn, qe_lem, qe_leg, qe_tm1, qe_tgn, mk4_0, mk4_w0]
            rw [AB_l hj4 (by rw [el]; simpa using by omega)]
            exact go
        · rw [if_neg e4]
          have hl : lvB G n F d j = false := by unfold lvB; rw [hu]; simp [e4]
          rw [AB_s hl]
          exact go
end DC
