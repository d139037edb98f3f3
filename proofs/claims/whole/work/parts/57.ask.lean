/-! ===== PURE: ask ===== -/
def cntT (w : Nat → Int32) (p : Nat) : Nat → Nat
  | 0 => 0
  | j + 1 => cntT w p j + (if w (j + 1) = w p then 1 else 0)
def most6 (w : Nat → Int32) : Nat → Nat
  | 0 => 0
  | p + 1 => max (most6 w p) (cntT w (p + 1) (p + 1))
def most7 (w : Nat → Int32) : Nat → Nat
  | 0 => 0
  | p + 1 => max (most7 w p) (cntT w (p + 1) 6)
theorem cntT_le (w : Nat → Int32) (p : Nat) : ∀ j, cntT w p j ≤ j := by
  intro j
  induction j with
  | zero => exact Nat.le_refl 0
  | succ j ih => unfold cntT; split <;> omega
theorem cntT_mono (w : Nat → Int32) (p : Nat) : ∀ k j, cntT w p j ≤ cntT w p (j + k) := by
  intro k
  induction k with
  | zero => intro j; exact Nat.le_refl _
  | succ k ih =>
    intro j
    have := ih j
    show _ ≤ cntT w p (j + k) + _
    omega
theorem cntT_eq {w : Nat → Int32} {p p' : Nat} (h : w p = w p') : ∀ j, cntT w p j = cntT w p' j := by
  intro j
  induction j with
  | zero => rfl
  | succ j ih => unfold cntT; rw [ih, h]
theorem most_a (w : Nat → Int32) : ∀ j p, cntT w p j ≤ most6 w j := by
  intro j
  induction j with
  | zero => intro p; exact Nat.le_refl 0
  | succ j ih =>
    intro p
    have h1 : most6 w (j + 1) = max (most6 w j) (cntT w (j + 1) (j + 1)) := rfl
    have h2 : cntT w p (j + 1) = cntT w p j + (if w (j + 1) = w p then 1 else 0) := rfl
    by_cases h : w (j + 1) = w p
    · rw [cntT_eq h.symm (j + 1), h1]
      exact Nat.le_max_right _ _
    · rw [h2, if_neg h, h1]
      exact Nat.le_trans (ih p) (Nat.le_max_left _ _)
theorem most_b (w : Nat → Int32) : ∀ j, j ≤ 6 → most6 w j ≤ most7 w j := by
  intro j
  induction j with
  | zero => intro _; exact Nat.le_refl 0
  | succ j ih =>
    intro h
    have h1 : most6 w (j + 1) = max (most6 w j) (cntT w (j + 1) (j + 1)) := rfl
    have h2 : most7 w (j + 1) = max (most7 w j) (cntT w (j + 1) 6) := rfl
    have h3 := ih (by omega)
    have h4 := cntT_mono w (j + 1) (6 - (j + 1)) (j + 1)
    rw [show j + 1 + (6 - (j + 1)) = 6 by omega] at h4
    omega
theorem most_c (w : Nat → Int32) : ∀ j, most7 w j ≤ most6 w 6 := by
  intro j
  induction j with
  | zero => exact Nat.zero_le _
  | succ j ih =>
    have h2 : most7 w (j + 1) = max (most7 w j) (cntT w (j + 1) 6) := rfl
    have h3 := most_a w 6 (j + 1)
    omega
theorem most67 (w : Nat → Int32) : most7 w 6 = most6 w 6 := Nat.le_antisymm (most_c w 6) (most_b w 6 (by decide))
theorem most6_le (w : Nat → Int32) : ∀ j, most6 w j ≤ j := by
  intro j
  induction j with
  | zero => exact Nat.le_refl 0
  | succ j ih =>
    have h1 : most6 w (j + 1) = max (most6 w j) (cntT w (j + 1) (j + 1)) := rfl
    have h2 := cntT_le w (j + 1) (j + 1)
    omega
theorem mxI_n {a b : Nat} (ha : a < 2 ^ 31) (hb : b < 2 ^ 31) : mxI (nI a) (nI b) = nI (max a b) := by
  unfold mxI
  by_cases h : a < b
  · simp (disch := omega) only [qlt, qb_some, qb_none, ↓qn_1, ↓qn_2, ↓qn_3, ↓qn_4, ↓qn_9, ↓qn_1000, ↓qn_low, qi_0, qi_1, qi_2, qi_3, qi_4, qi_5, qi_6, qi_7, qi_8, qi_9, qi_10, qi_11, qi_12, qi_13, qi_14, qi_15, qi_16, qi_17, qi_20, qi_24, qi_30, qi_31, qi_32, qi_60, qi_99, qi_100, qi_200, qi_1000, qi_3400, qi_4000, qi_of, pu_gI, pu_pI, nI_leI, nI_ltI, nI_eq, nI_add, pk_mul, pk_sub, pk_div, qw_s, qw_o, qw_l, qr_s, qr_o, qr_l, ql_i, ql_s, ql_o, pk_us, pk_un, pk_uLs, pk_uLn, if_pos, if_neg, if_true, if_false, ite_self, eq_self, Nat.zero_add, Nat.add_zero, qwr, not_true_eq_false, not_false_eq_true, Option.some.injEq, qe_gn0, qe_m1n, qe_gng, qe_ngn, qe_gm, qe_mg, qe_lm1, qe_lgn, qe_lem, qe_leg, qe_tm1, qe_tgn]
    rw [Nat.max_eq_right (by omega)]
  · simp (disch := omega) only [qlt, qb_some, qb_none, ↓qn_1, ↓qn_2, ↓qn_3, ↓qn_4, ↓qn_9, ↓qn_1000, ↓qn_low, qi_0, qi_1, qi_2, qi_3, qi_4, qi_5, qi_6, qi_7, qi_8, qi_9, qi_10, qi_11, qi_12, qi_13, qi_14, qi_15, qi_16, qi_17, qi_20, qi_24, qi_30, qi_31, qi_32, qi_60, qi_99, qi_100, qi_200, qi_1000, qi_3400, qi_4000, qi_of, pu_gI, pu_pI, nI_leI, nI_ltI, nI_eq, nI_add, pk_mul, pk_sub, pk_div, qw_s, qw_o, qw_l, qr_s, qr_o, qr_l, ql_i, ql_s, ql_o, pk_us, pk_un, pk_uLs, pk_uLn, if_pos, if_neg, if_true, if_false, ite_self, eq_self, Nat.zero_add, Nat.add_zero, qwr, not_true_eq_false, not_false_eq_true, Option.some.injEq, qe_gn0, qe_m1n, qe_gng, qe_ngn, qe_gm, qe_mg, qe_lm1, qe_lgn, qe_lem, qe_leg, qe_tm1, qe_tgn]
    rw [Nat.max_eq_left (by omega)]
theorem greater_n {a b : Nat} (ha : a < 2 ^ 31) (hb : b < 2 ^ 31) : mX7_greater (nI a) (nI b) = nI (max a b) := by
  unfold mX7_greater
  by_cases h : a ≤ b
  · simp (disch := omega) only [qlt, qb_some, qb_none, ↓qn_1, ↓qn_2, ↓qn_3, ↓qn_4, ↓qn_9, ↓qn_1000, ↓qn_low, qi_0, qi_1, qi_2, qi_3, qi_4, qi_5, qi_6, qi_7, qi_8, qi_9, qi_10, qi_11, qi_12, qi_13, qi_14, qi_15, qi_16, qi_17, qi_20, qi_24, qi_30, qi_31, qi_32, qi_60, qi_99, qi_100, qi_200, qi_1000, qi_3400, qi_4000, qi_of, pu_gI, pu_pI, nI_leI, nI_ltI, nI_eq, nI_add, pk_mul, pk_sub, pk_div, qw_s, qw_o, qw_l, qr_s, qr_o, qr_l, ql_i, ql_s, ql_o, pk_us, pk_un, pk_uLs, pk_uLn, if_pos, if_neg, if_true, if_false, ite_self, eq_self, Nat.zero_add, Nat.add_zero, qwr, not_true_eq_false, not_false_eq_true, Option.some.injEq, qe_gn0, qe_m1n, qe_gng, qe_ngn, qe_gm, qe_mg, qe_lm1, qe_lgn, qe_lem, qe_leg, qe_tm1, qe_tgn]
    rw [Nat.max_eq_right h]
  · simp (disch := omega) only [qlt, qb_some, qb_none, ↓qn_1, ↓qn_2, ↓qn_3, ↓qn_4, ↓qn_9, ↓qn_1000, ↓qn_low, qi_0, qi_1, qi_2, qi_3, qi_4, qi_5, qi_6, qi_7, qi_8, qi_9, qi_10, qi_11, qi_12, qi_13, qi_14, qi_15, qi_16, qi_17, qi_20, qi_24, qi_30, qi_31, qi_32, qi_60, qi_99, qi_100, qi_200, qi_1000, qi_3400, qi_4000, qi_of, pu_gI, pu_pI, nI_leI, nI_ltI, nI_eq, nI_add, pk_mul, pk_sub, pk_div, qw_s, qw_o, qw_l, qr_s, qr_o, qr_l, ql_i, ql_s, ql_o, pk_us, pk_un, pk_uLs, pk_uLn, if_pos, if_neg, if_true, if_false, ite_self, eq_self, Nat.zero_add, Nat.add_zero, qwr, not_true_eq_false, not_false_eq_true, Option.some.injEq, qe_gn0, qe_m1n, qe_gng, qe_ngn, qe_gm, qe_mg, qe_lm1, qe_lgn, qe_lem, qe_leg, qe_tm1, qe_tgn]
    rw [Nat.max_eq_left (by omega)]
/-! patience doesn't matter for whether an offering can be -/
section PT
variable {G F : Nat → Int32} {n g d : Nat} {x : Int32}
theorem pat_K (o : Nat) : gK (upd G (6 * g + 2) x) o = gK G o := pk_un (by omega)
theorem pat_A (o : Nat) : gA (upd G (6 * g + 2) x) o = gA G o := pk_un (by omega)
theorem pat_slp (o : Nat) : slp (upd G (6 * g + 2) x) o = slp G o := by unfold slp; rw [pat_K]
theorem pat_tw (o p : Nat) : tw (upd G (6 * g + 2) x) o p = tw G o p := by unfold tw; rw [pat_K, pat_A, pat_K, pat_A]
theorem pat_up (o : Nat) : upB (upd G (6 * g + 2) x) F o = upB G F o := by unfold upB; rw [pat_slp]
theorem pat_fed (o : Nat) : fedN (upd G (6 * g + 2) x) n F o = fedN G n F o := by
  unfold fedN
  congr 1
  funext p
  unfold fedP
  rw [pat_tw, pat_up]
theorem pat_can : canB (upd G (6 * g + 2) x) n F d = canB G n F d := by unfold canB; rw [pat_up, pat_fed]
end PT
/-- WORTH of the day by patience q -/
def wq (G F : Nat → Int32) (n d g q : Nat) : Int32 := nI (gsD (upd G (6 * g + 2) (nI q)) n F d) - nI (hsD (upd G (6 * g + 2) (nI q)) n F d)
theorem alike6 {S : vS} {K : vS → Int32 → Int32 → Option (Int32 × vS)} {v1 v2 : Int32} {w : Nat → Int32} {p M : Nat} (hp1 : 1 ≤ p) (hp : p ≤ 6) (hM : M ≤ 6) (hw : ∀ q, 1 ≤ q → q ≤ p → S.1 133 q = w q) :
    ∀ q j, j ≤ p → p - j < q → lX6_mostLeftBy_74 S K v1 v2 (nI M) (nI p) q (nI (cntT w p j)) (nI (j + 1)) = K S (nI (max M (cntT w p p))) (nI (p + 1)) := by
  intro q
  induction q with
  | zero => intro j h1 h2; omega
  | succ q ih =>
    intro j h1 h2
    rw [lX6_mostLeftBy_74]
    have hc := cntT_le w p p
    have hcj := cntT_le w p j
    by_cases hj : j = p
    · subst hj
      unfold bX6_mostLeftBy_107
      simp (disch := omega) only [qlt, qb_some, qb_none, ↓qn_1, ↓qn_2, ↓qn_3, ↓qn_4, ↓qn_9, ↓qn_1000, ↓qn_low, qi_0, qi_1, qi_2, qi_3, qi_4, qi_5, qi_6, qi_7, qi_8, qi_9, qi_10, qi_11, qi_12, qi_13, qi_14, qi_15, qi_16, qi_17, qi_20, qi_24, qi_30, qi_31, qi_32, qi_60, qi_99, qi_100, qi_200, qi_1000, qi_3400, qi_4000, qi_of, pu_gI, pu_pI, nI_leI, nI_ltI, nI_eq, nI_add, pk_mul, pk_sub, pk_div, qw_s, qw_o, qw_l, qr_s, qr_o, qr_l, ql_i, ql_s, ql_o, pk_us, pk_un, pk_uLs, pk_uLn, if_pos, if_neg, if_true, if_false, ite_self, eq_self, Nat.zero_add, Nat.add_zero, qwr, not_true_eq_false, not_false_eq_true, Option.some.injEq, qe_gn0, qe_m1n, qe_gng, qe_ngn, qe_gm, qe_mg, qe_lm1, qe_lgn, qe_lem, qe_leg, qe_tm1, qe_tgn, mxI_n]
    · simp (disch := omega) only [qlt, qb_some, qb_none, ↓qn_1, ↓qn_2, ↓qn_3, ↓qn_4, ↓qn_9, ↓qn_1000, ↓qn_low, qi_0, qi_1, qi_2, qi_3, qi_4, qi_5, qi_6, qi_7, qi_8, qi_9, qi_10, qi_11, qi_12, qi_13, qi_14, qi_15, qi_16, qi_17, qi_20, qi_24, qi_30, qi_31, qi_32, qi_60, qi_99, qi_100, qi_200, qi_1000, qi_3400, qi_4000, qi_of, pu_gI, pu_pI, nI_leI, nI_ltI, nI_eq, nI_add, pk_mul, pk_sub, pk_div, qw_s, qw_o, qw_l, qr_s, qr_o, qr_l, ql_i, ql_s, ql_o, pk_us, pk_un, pk_uLs, pk_uLn, if_pos, if_neg, if_true, if_false, ite_self, eq_self, Nat.zero_add, Nat.add_zero, qwr, not_true_eq_false, not_false_eq_true, Option.some.injEq, qe_gn0, qe_m1n, qe_gng, qe_ngn, qe_gm, qe_mg, qe_lm1, qe_lgn, qe_lem, qe_leg, qe_tm1, qe_tgn]
      rw [hw (j + 1) (by omega) (by omega), hw p hp1 (Nat.le_refl p)]
      have go := ih (j + 1) (by omega) (by omega)
      have h3 : cntT w p (j + 1) = cntT w p j + (if w (j + 1) = w p then 1 else 0) := rfl
      rw [h3] at go
      by_cases h : w (j + 1) = w p
      · rw [if_pos h] at go ⊢
        exact go
      · rw [if_neg h] at go ⊢
        exact go
theorem ml6_l {S0 : vS} {n g d : Nat} {G0 F : Nat → Int32} (hn : n ≤ 4) (hGI : GInv n G0) (hg : g < n) (hS0 : ScR S0 (30 + 11) n F) (hFI : FInv n F) (hd : d < 13) (hcan : canB G0 n F d = true) :
    ∀ q p S, 1 ≤ p → p ≤ 7 → 7 - p < q → (∀ c, (c < 17 ∨ (30 ≤ c ∧ c < 95) ∨ c = 134) → S.1 c = S0.1 c) → S.2 = S0.2 → (∃ G, GodR S 119 n G ∧ ∀ y, upd G (6 * g + 2) y = upd G0 (6 * g + 2) y) → (∀ q', 1 ≤ q' → q' < p → S.1 133 q' = wq G0 F n d g q') →
    ∃ S', lX6_mostLeftBy_19 (nI g) (nI d) q S (nI (most6 (wq G0 F n d g) (p - 1))) (nI p) = some (nI (most6 (wq G0 F n d g) 6), S') ∧ (∀ c, (c < 17 ∨ (30 ≤ c ∧ c < 95) ∨ c = 134) → S'.1 c = S0.1 c) ∧ S'.2 = S0.2 := by
  intro q
  induction q with
  | zero => intro p S h1 h2 h3; omega
  | succ q ih =>
    intro p S h1 h2 h3 hS hS2 hG hW
    rw [lX6_mostLeftBy_19]
    have hg4 : g < 4 := by omega
    by_cases hp : p = 7
    · subst hp
      simp (disch := omega) only [qlt, qb_some, qb_none, ↓qn_1, ↓qn_2, ↓qn_3, ↓qn_4, ↓qn_9, ↓qn_1000, ↓qn_low, qi_0, qi_1, qi_2, qi_3, qi_4, qi_5, qi_6, qi_7, qi_8, qi_9, qi_10, qi_11, qi_12, qi_13, qi_14, qi_15, qi_16, qi_17, qi_20, qi_24, qi_30, qi_31, qi_32, qi_60, qi_99, qi_100, qi_200, qi_1000, qi_3400, qi_4000, qi_of, pu_gI, pu_pI, nI_leI, nI_ltI, nI_eq, nI_add, pk_mul, pk_sub, pk_div, qw_s, qw_o, qw_l, qr_s, qr_o, qr_l, ql_i, ql_s, ql_o, pk_us, pk_un, pk_uLs, pk_uLn, if_pos, if_neg, if_true, if_false, ite_self, eq_self, Nat.zero_add, Nat.add_zero, qwr, not_true_eq_false, not_false_eq_true, Option.some.injEq, qe_gn0, qe_m1n, qe_gng, qe_ngn, qe_gm, qe_mg, qe_lm1, qe_lgn, qe_lem, qe_leg, qe_tm1, qe_tgn]
      exact ⟨S, rfl, hS, hS2⟩
    · have hp6 : p ≤ 6 := by omega
      obtain ⟨G, hG1, hG2⟩ := hG
      have hG3 : GodR (wI S (119 + 3) g (nI p)) 119 n (upd G (6 * g + 2) (nI p)) := GodR_pat hG1
      have hGI3 : GInv n (upd G (6 * g + 2) (nI p)) := GInv_pat2 hGI hG2 h1 hp6
      have hSc : ScR (wI S (119 + 3) g (nI p)) (30 + 11) n F := ScR_tr (S := S0) (k := 30 + 11) hn (fun j _ => by rw [qw_o (by decide), hS _ (by omega)]) (fun j _ => by rw [qw_o (by decide), hS _ (by omega)]) (fun j _ => by rw [qw_o (by decide), hS _ (by omega)]) hS0
      have hst := start6S (S := wI S (119 + 3) g (nI p))
      have hTr := TrR_0 (S := wI S (119 + 3) g (nI p)) (A := (wI S (119 + 3) g (nI p)).1 129) (B := (wI S (119 + 3) g (nI p)).1 (129 + 1)) (C := (wI S (119 + 3) g (nI p)).1 (129 + 2)) (D := (wI S (119 + 3) g (nI p)).1 (129 + 3)) hn hSc
      have go6 := goOn6 (S := wI S (119 + 3) g (nI p)) (k := 129) (k1 := 119) (d := d) (by omega) hn hG3 hGI3 hTr.1 hFI hd
      rw [pat_can] at go6
      have hcan2 : canB G n F d = true := by
        rw [← pat_can (g := g) (x := nI 0), hG2, pat_can]
        exact hcan
      rw [hcan2, if_pos rfl] at go6
      obtain ⟨_, t3, t4⟩ := hTr
      have w3 : ∀ A : Nat → Int32, A 3 = nI 0 → A 4 = nI 0 → sA A (upd G (6 * g + 2) (nI p)) n F d 3 - sA A (upd G (6 * g + 2) (nI p)) n F d 4 = wq G0 F n d g p := by
        intro A a3 a4
        rw [sA_3, sA_4, a3, a4, nI_add, nI_add, Nat.zero_add, Nat.zero_add, hG2]
        rfl
      have hwp := w3 _ t3 t4
      have hle := most6_le (wq G0 F n d g) (p - 1)
      simp (disch := omega) only [qw_o] at go6 hwp
      unfold mX3_worth
      simp (disch := omega) only [qlt, qb_some, qb_none, ↓qn_1, ↓qn_2, ↓qn_3, ↓qn_4, ↓qn_9, ↓qn_1000, ↓qn_low, qi_0, qi_1, qi_2, qi_3, qi_4, qi_5, qi_6, qi_7, qi_8, qi_9, qi_10, qi_11, qi_12, qi_13, qi_14, qi_15, qi_16, qi_17, qi_20, qi_24, qi_30, qi_31, qi_32, qi_60, qi_99, qi_100, qi_200, qi_1000, qi_3400, qi_4000, qi_of, pu_gI, pu_pI, nI_leI, nI_ltI, nI_eq, nI_add, pk_mul, pk_sub, pk_div, qw_s, qw_o, qw_l, qr_s, qr_o, qr_l, ql_i, ql_s, ql_o, pk_us, pk_un, pk_uLs, pk_uLn, if_pos, if_neg, if_true, if_false, ite_self, eq_self, Nat.zero_add, Nat.add_zero, qwr, not_true_eq_false, not_false_eq_true, Option.some.injEq, qe_gn0, qe_m1n, qe_gng, qe_ngn, qe_gm, qe_mg, qe_lm1, qe_lgn, qe_lem, qe_leg, qe_tm1, qe_tgn, hst, go6, mk4_0, hwp]
      have al := alike6 (S := wI (mk4 (wI S (119 + 3) g (nI p)) 129 (sA (fsA (tA (S.1 129) (S.1 (30 + 11)))) (upd G (6 * g + 2) (nI p)) n F d) (sB (tM 3 (S.1 (129 + 1)) (S.1 (30 + 11 + 1))) (upd G (6 * g + 2) (nI p)) n F d) (CC (tM 4 (S.1 (129 + 2)) (S.1 (30 + 11 + 2))) (upd G (6 * g + 2) (nI p)) F n d n) (DD (S.1 (129 + 3)) (upd G (6 * g + 2) (nI p)) n F d n)) 133 p (wq G0 F n d g p))
        (K := lX6_mostLeftBy_19 (nI g) (nI d) q) (v1 := nI g) (v2 := nI d) (w := wq G0 F n d g) (p := p) (M := most6 (wq G0 F n d g) (p - 1)) h1 hp6 (by omega) (fun q' hq1 hq2 => by
          rw [qw_s, mk4_o (by omega)]
          by_cases hqp : q' = p
          · subst hqp; exact pk_us
          · rw [pk_un hqp, qw_o (by decide)]
            exact hW q' hq1 (by omega)) FU 0 (Nat.zero_le p) (by unfold FU; omega)
      have c0 : cntT (wq G0 F n d g) p 0 = 0 := rfl
      rw [c0, Nat.zero_add] at al
      rw [al]
      have hm : most6 (wq G0 F n d g) p = max (most6 (wq G0 F n d g) (p - 1)) (cntT (wq G0 F n d g) p p) := by
        obtain ⟨p', rfl⟩ : ∃ p', p = p' + 1 := ⟨p - 1, by omega⟩
        rfl
      rw [← hm]
      refine ih (p + 1) _ (by omega) (by omega) (by omega) (fun c hc => ?_) hS2 ⟨upd G (6 * g + 2) (nI p), ?_, fun y => by rw [upd_upd]; exact hG2 y⟩ (fun q' hq1 hq2 => ?_)
      · rw [qw_o (by omega), mk4_o (by omega), qw_o (by omega)]
        exact hS c hc
      · exact GodR_tr (S := wI S (119 + 3) g (nI p)) (k := 119) hn (fun j _ => by rw [qw_o (by decide), mk4_o (by omega)]) (fun i i1 i2 g' _ => by rw [qw_o (by omega), mk4_o (by omega)]) hG3
      · rw [qw_s, mk4_o (by omega)]
        by_cases hqp : q' = p
        · subst hqp; exact pk_us
        · rw [pk_un hqp, qw_o (by decide)]
          exact hW q' hq1 (by omega)
theorem ml6 {S0 S : vS} {n g d : Nat} {G0 F : Nat → Int32} (hn : n ≤ 4) (hGI : GInv n G0) (hg : g < n) (hG0 : GodR S0 (30 + 1) n G0) (hS0 : ScR S0 (30 + 11) n F) (hFI : FInv n F) (hd : d < 13) (hcan : canB G0 n F d = true) (hS : ∀ c, (c < 17 ∨ (30 ≤ c ∧ c < 95) ∨ c = 134) → S.1 c = S0.1 c) (hS2 : S.2 = S0.2) :
    ∃ S', mX6_mostLeftBy S (nI g) (nI d) = some (nI (most6 (wq G0 F n d g) 6), S') ∧ (∀ c, (c < 17 ∨ (30 ≤ c ∧ c < 95) ∨ c = 134) → S'.1 c = S0.1 c) ∧ S'.2 = S0.2 := by
  obtain ⟨S1, e1, e2, e3, e4, e5⟩ := take0 (S := S) (k := 119) (k1 := 30 + 1) (by omega)
  have hGS : GodR S (30 + 1) n G0 := GodR_tr (S := S0) (k := 30 + 1) hn (fun j _ => by rw [hS _ (by omega)]) (fun i h1 h2 g _ => by rw [hS _ (by omega)]) hG0
  have hG1 : GodR S1 119 n G0 := GodR_tr hn e2 e3 hGS
  obtain ⟨S', f1, f2, f3⟩ := ml6_l (S0 := S0) hn hGI hg hS0 hFI hd hcan FU 1 S1 (by omega) (by omega) (by unfold FU; omega) (fun c hc => by rw [e4 c (by omega)]; exact hS c hc) (by rw [e5]; exact hS2) ⟨G0, hG1, fun _ => rfl⟩ (fun q' h1 h2 => by omega)
  unfold mX6_mostLeftBy
  refine ⟨S', ?_, f2, f3⟩
  simp (disch := omega) only [qlt, qb_some, qb_none, ↓qn_1, ↓qn_2, ↓qn_3, ↓qn_4, ↓qn_9, ↓qn_1000, ↓qn_low, qi_0, qi_1, qi_2, qi_3, qi_4, qi_5, qi_6, qi_7, qi_8, qi_9, qi_10, qi_11, qi_12, qi_13, qi_14, qi_15, qi_16, qi_17, qi_20, qi_24, qi_30, qi_31, qi_32, qi_60, qi_99, qi_100, qi_200, qi_1000, qi_3400, qi_4000, qi_of, pu_gI, pu_pI, nI_leI, nI_ltI, nI_eq, nI_add, pk_mul, pk_sub, pk_div, qw_s, qw_o, qw_l, qr_s, qr_o, qr_l, ql_i, ql_s, ql_o, pk_us, pk_un, pk_uLs, pk_uLn, if_pos, if_neg, if_true, if_false, ite_self, eq_self, Nat.zero_add, Nat.add_zero, qwr, not_true_eq_false, not_false_eq_true, Option.some.injEq, qe_gn0, qe_m1n, qe_gng, qe_ngn, qe_gm, qe_mg, qe_lm1, qe_lgn, qe_lem, qe_leg, qe_tm1, qe_tgn, e1]
  exact f1
/-! the reference -/
theorem alike7 {T : vS} {K : Int32 → Int32 → Option (Int32 × vS)} {w : Nat → Int32} {p M : Nat} (hp1 : 1 ≤ p) (hp : p ≤ 6) (hM : M ≤ 6) (hw : ∀ q, 1 ≤ q → q ≤ 6 → T.1 19 q = w q) :
    ∀ q j, j ≤ 6 → 6 - j < q → lX7_leftBy_90 T K (nI M) (nI p) q (nI (cntT w p j)) (nI (j + 1)) = K (nI (max M (cntT w p 6))) (nI (p + 1)) := by
  intro q
  induction q with
  | zero => intro j h1 h2; omega
  | succ q ih =>
    intro j h1 h2
    rw [lX7_leftBy_90]
    have hc := cntT_le w p 6
    have hcj := cntT_le w p j
    by_cases hj : j = 6
    · subst hj
      unfold bX7_leftBy_130
      simp (disch := omega) only [qlt, qb_some, qb_none, ↓qn_1, ↓qn_2, ↓qn_3, ↓qn_4, ↓qn_9, ↓qn_1000, ↓qn_low, qi_0, qi_1, qi_2, qi_3, qi_4, qi_5, qi_6, qi_7, qi_8, qi_9, qi_10, qi_11, qi_12, qi_13, qi_14, qi_15, qi_16, qi_17, qi_20, qi_24, qi_30, qi_31, qi_32, qi_60, qi_99, qi_100, qi_200, qi_1000, qi_3400, qi_4000, qi_of, pu_gI, pu_pI, nI_leI, nI_ltI, nI_eq, nI_add, pk_mul, pk_sub, pk_div, qw_s, qw_o, qw_l, qr_s, qr_o, qr_l, ql_i, ql_s, ql_o, pk_us, pk_un, pk_uLs, pk_uLn, if_pos, if_neg, if_true, if_false, ite_self, eq_self, Nat.zero_add, Nat.add_zero, qwr, not_true_eq_false, not_false_eq_true, Option.some.injEq, qe_gn0, qe_m1n, qe_gng, qe_ngn, qe_gm, qe_mg, qe_lm1, qe_lgn, qe_lem, qe_leg, qe_tm1, qe_tgn, greater_n]
    · unfold bX7_leftBy_121
      simp (disch := omega) only [qlt, qb_some, qb_none, ↓qn_1, ↓qn_2, ↓qn_3, ↓qn_4, ↓qn_9, ↓qn_1000, ↓qn_low, qi_0, qi_1, qi_2, qi_3, qi_4, qi_5, qi_6, qi_7, qi_8, qi_9, qi_10, qi_11, qi_12, qi_13, qi_14, qi_15, qi_16, qi_17, qi_20, qi_24, qi_30, qi_31, qi_32, qi_60, qi_99, qi_100, qi_200, qi_1000, qi_3400, qi_4000, qi_of, pu_gI, pu_pI, nI_leI, nI_ltI, nI_eq, nI_add, pk_mul, pk_sub, pk_div, qw_s, qw_o, qw_l, qr_s, qr_o, qr_l, ql_i, ql_s, ql_o, pk_us, pk_un, pk_uLs, pk_uLn, if_pos, if_neg, if_true, if_false, ite_self, eq_self, Nat.zero_add, Nat.add_zero, qwr, not_true_eq_false, not_false_eq_true, Option.some.injEq, qe_gn0, qe_m1n, qe_gng, qe_ngn, qe_gm, qe_mg, qe_lm1, qe_lgn, qe_lem, qe_leg, qe_tm1, qe_tgn]
      rw [hw (j + 1) (by omega) (by omega), hw p hp1 hp]
      have go := ih (j + 1) (by omega) (by omega)
      have h3 : cntT w p (j + 1) = cntT w p j + (if w (j + 1) = w p then 1 else 0) := rfl
      rw [h3] at go
      by_cases h : w (j + 1) = w p
      · rw [if_pos h] at go ⊢
        exact go
      · rw [if_neg h] at go ⊢
        exact go
theorem count7_l {T : vS} {w : Nat → Int32} (hw : ∀ q, 1 ≤ q → q ≤ 6 → T.1 19 q = w q) : ∀ q p, 1 ≤ p → p ≤ 7 → 7 - p < q → lX7_leftBy_77 T q (nI (most7 w (p - 1))) (nI p) = some (nI (most7 w 6), T) := by
  intro q
  induction q with
  | zero => intro p h1 h2 h3; omega
  | succ q ih =>
    intro p h1 h2 h3
    rw [lX7_leftBy_77]
    have hM : most7 w (p - 1) ≤ 6 := Nat.le_trans (most_c w _) (most6_le w 6)
    by_cases hp : p = 7
    · subst hp
      simp (disch := omega) only [qlt, qb_some, qb_none, ↓qn_1, ↓qn_2, ↓qn_3, ↓qn_4, ↓qn_9, ↓qn_1000, ↓qn_low, qi_0, qi_1, qi_2, qi_3, qi_4, qi_5, qi_6, qi_7, qi_8, qi_9, qi_10, qi_11, qi_12, qi_13, qi_14, qi_15, qi_16, qi_17, qi_20, qi_24, qi_30, qi_31, qi_32, qi_60, qi_99, qi_100, qi_200, qi_1000, qi_3400, qi_4000, qi_of, pu_gI, pu_pI, nI_leI, nI_ltI, nI_eq, nI_add, pk_mul, pk_sub, pk_div, qw_s, qw_o, qw_l, qr_s, qr_o, qr_l, ql_i, ql_s, ql_o, pk_us, pk_un, pk_uLs, pk_uLn, if_pos, if_neg, if_true, if_false, ite_self, eq_self, Nat.zero_add, Nat.add_zero, qwr, not_true_eq_false, not_false_eq_true, Option.some.injEq, qe_gn0, qe_m1n, qe_gng, qe_ngn, qe_gm, qe_mg, qe_lm1, qe_lgn, qe_lem, qe_leg, qe_tm1, qe_tgn]
    · have al := alike7 (T := T) (K := lX7_leftBy_77 T q) (w := w) (p := p) (M := most7 w (p - 1)) h1 (by omega) hM hw FU 0 (by omega) (by unfold FU; omega)
      have c0 : cntT w p 0 = 0 := rfl
      rw [c0, Nat.zero_add] at al
      simp (disch := omega) only [qlt, qb_some, qb_none, ↓qn_1, ↓qn_2, ↓qn_3, ↓qn_4, ↓qn_9, ↓qn_1000, ↓qn_low, qi_0, qi_1, qi_2, qi_3, qi_4, qi_5, qi_6, qi_7, qi_8, qi_9, qi_10, qi_11, qi_12, qi_13, qi_14, qi_15, qi_16, qi_17, qi_20, qi_24, qi_30, qi_31, qi_32, qi_60, qi_99, qi_100, qi_200, qi_1000, qi_3400, qi_4000, qi_of, pu_gI, pu_pI, nI_leI, nI_ltI, nI_eq, nI_add, pk_mul, pk_sub, pk_div, qw_s, qw_o, qw_l, qr_s, qr_o, qr_l, ql_i, ql_s, ql_o, pk_us, pk_un, pk_uLs, pk_uLn, if_pos, if_neg, if_true, if_false, ite_self, eq_self, Nat.zero_add, Nat.add_zero, qwr, not_true_eq_false, not_false_eq_true, Option.some.injEq, qe_gn0, qe_m1n, qe_gng, qe_ngn, qe_gm, qe_mg, qe_lm1, qe_lgn, qe_lem, qe_leg, qe_tm1, qe_tgn]
      rw [al]
      have hm : most7 w p = max (most7 w (p - 1)) (cntT w p 6) := by
        obtain ⟨p', rfl⟩ : ∃ p', p = p' + 1 := ⟨p - 1, by omega⟩
        rfl
      rw [← hm]
      exact ih (p + 1) (by omega) (by omega) (by omega)
def Tb (T0 T : vS) : Prop := okO T0 (T.1 0) ∧ (∀ c, ((1 ≤ c ∧ c ≤ 6 ∧ c ≠ 4) ∨ (12 ≤ c ∧ c ≤ 16)) → T.1 c = T0.1 c) ∧ fr T 0 = fr T0 0 ∧ T.2 = T0.2
theorem ml7_l {T0 : vS} {n g d : Nat} {was : Int32} (hn : n ≤ 4) (h10 : T0.1 0 10 = nI n) (hGI : GInv n (T0.1 7)) (hg : g < n) (hFI : FInv n (fr T0 0)) (hd : d = 12 ∨ d < 3 * n) (hcan : canB (T0.1 7) n (fr T0 0) d = true) :
    ∀ q p T, 1 ≤ p → p ≤ 7 → 7 - p < q → Tb T0 T → (∀ y, upd (T.1 7) (6 * g + 2) y = upd (T0.1 7) (6 * g + 2) y) → (∀ q', 1 ≤ q' → q' < p → T.1 19 q' = wq (T0.1 7) (fr T0 0) n d g q') →
    ∃ T', lX7_leftBy_9 (nI g) (nI d) was q T (nI p) = some (nI (most7 (wq (T0.1 7) (fr T0 0) n d g) 6), T') ∧ Tb T0 T' ∧ T'.1 7 = upd (T0.1 7) (6 * g + 2) was := by
  intro q
  induction q with
  | zero => intro p T h1 h2 h3; omega
  | succ q ih =>
    intro p T h1 h2 h3 hT hG hW
    rw [lX7_leftBy_9]
    have hg4 : g < 4 := by omega
    obtain ⟨z3, z4, z5, z6⟩ := id hT
    by_cases hp : p = 7
    · subst hp
      unfold bX7_leftBy_59
      simp (disch := omega) only [qlt, qb_some, qb_none, ↓qn_1, ↓qn_2, ↓qn_3, ↓qn_4, ↓qn_9, ↓qn_1000, ↓qn_low, qi_0, qi_1, qi_2, qi_3, qi_4, qi_5, qi_6, qi_7, qi_8, qi_9, qi_10, qi_11, qi_12, qi_13, qi_14, qi_15, qi_16, qi_17, qi_20, qi_24, qi_30, qi_31, qi_32, qi_60, qi_99, qi_100, qi_200, qi_1000, qi_3400, qi_4000, qi_of, pu_gI, pu_pI, nI_leI, nI_ltI, nI_eq, nI_add, pk_mul, pk_sub, pk_div, qw_s, qw_o, qw_l, qr_s, qr_o, qr_l, ql_i, ql_s, ql_o, pk_us, pk_un, pk_uLs, pk_uLn, if_pos, if_neg, if_true, if_false, ite_self, eq_self, Nat.zero_add, Nat.add_zero, qwr, not_true_eq_false, not_false_eq_true, Option.some.injEq, qe_gn0, qe_m1n, qe_gng, qe_ngn, qe_gm, qe_mg, qe_lm1, qe_lgn, qe_lem, qe_leg, qe_tm1, qe_tgn]
      have cc := count7_l (T := wI T 7 (6 * g + 2) was) (w := wq (T0.1 7) (fr T0 0) n d g) (fun q' h1 h2 => by rw [qw_o (by decide)]; exact hW q' h1 (by omega)) FU 1 (by omega) (by omega) (by unfold FU; omega)
      refine ⟨_, cc, ⟨z3, fun c hc => by rw [qw_o (by omega)]; exact z4 c hc, by rw [fr_eq (T := T) (qw_o (by decide))]; exact z5, z6⟩, ?_⟩
      rw [qw_s]
      exact hG was
    · have hp6 : p ≤ 6 := by omega
      have h06 : (0 : Nat) < 6 := by decide
      have h16 : (1 : Nat) < 6 := by decide
      have hcv := copyV7T (T := wI T 7 (6 * g + 2) (nI p)) h06 h16 (show (0 : Nat) ≠ 1 by decide)
      have t7 : (wI T 7 (6 * g + 2) (nI p)).1 7 = upd (T0.1 7) (6 * g + 2) (nI p) := by rw [qw_s]; exact hG _
      have hGI3 : GInv n ((wI T 7 (6 * g + 2) (nI p)).1 7) := by rw [t7]; exact GInv_pat (by omega) hp6 hGI
      have hfr : fr (wI T 7 (6 * g + 2) (nI p)) 0 = fr T0 0 := by rw [fr_eq (T := T) (qw_o (by decide))]; exact z5
      have hcan2 : canB ((wI T 7 (6 * g + 2) (nI p)).1 7) n (fr (wI T 7 (6 * g + 2) (nI p)) 0) d = true := by rw [t7, hfr, pat_can]; exact hcan
      have go := goes7_y (T := wI T 7 (6 * g + 2) (nI p)) (o := (wI T 7 (6 * g + 2) (nI p)).1 0) (a := (wI T 7 (6 * g + 2) (nI p)).1 10) (s := (wI T 7 (6 * g + 2) (nI p)).1 11) (F := fr (wI T 7 (6 * g + 2) (nI p)) 0) (f := 1) (d := d) hn (by rw [qw_o (by decide), z3 10 (by decide) (by decide) (by decide)]; exact h10) hGI3 h16 (cut_frT _ _) (by rw [hfr]; exact hFI) hd hcan2
      rw [t7, hfr] at go
      rw [hfr] at hcv
      simp (disch := omega) only [qw_o] at go hcv
      have hw : nI (gsD (upd (T0.1 7) (6 * g + 2) (nI p)) n (fr T0 0) d) - nI (hsD (upd (T0.1 7) (6 * g + 2) (nI p)) n (fr T0 0) d) = wq (T0.1 7) (fr T0 0) n d g p := rfl
      simp (disch := omega) only [qlt, qb_some, qb_none, ↓qn_1, ↓qn_2, ↓qn_3, ↓qn_4, ↓qn_9, ↓qn_1000, ↓qn_low, qi_0, qi_1, qi_2, qi_3, qi_4, qi_5, qi_6, qi_7, qi_8, qi_9, qi_10, qi_11, qi_12, qi_13, qi_14, qi_15, qi_16, qi_17, qi_20, qi_24, qi_30, qi_31, qi_32, qi_60, qi_99, qi_100, qi_200, qi_1000, qi_3400, qi_4000, qi_of, pu_gI, pu_pI, nI_leI, nI_ltI, nI_eq, nI_add, pk_mul, pk_div, qw_s, qw_o, qw_l, qr_s, qr_o, qr_l, ql_i, ql_s, ql_o, pk_us, pk_un, pk_uLs, pk_uLn, if_pos, if_neg, if_true, if_false, ite_self, eq_self, Nat.zero_add, Nat.add_zero, qwr, not_true_eq_false, not_false_eq_true, Option.some.injEq, qe_gn0, qe_m1n, qe_gng, qe_ngn, qe_gm, qe_mg, qe_lm1, qe_lgn, qe_lem, qe_leg, qe_tm1, qe_tgn, hcv, go, mk3_0, sO_20, hw]
      refine ih (p + 1) _ (by omega) (by omega) (by omega) ⟨?_, fun c hc => ?_, ?_, z6⟩ (fun y => ?_) (fun q' hq1 hq2 => ?_)
      · rw [qw_o (by decide), mk3_0]
        exact okO_tr z3 (okO_sO (okO_22 (okO_id T)))
      · rw [qw_o (by omega), mk3_o (by omega) (by omega) (by omega), qw_o (by omega)]
        exact z4 c hc
      · rw [fr_eq (T := mk3 (wI T 7 (6 * g + 2) (nI p)) _ _ _) (qw_o (by decide)), ← z5]
        show frA (putF (T.1 10) 1 _) 0 = _
        exact frA_puto (by decide)
      · rw [qw_o (by decide), mk3_o (by decide) (by decide) (by decide), t7, upd_upd]
      · rw [qw_s, mk3_o (by decide) (by decide) (by decide), qw_o (by decide)]
        by_cases hqp : q' = p
        · subst hqp; exact pk_us
        · rw [pk_un hqp]
          exact hW q' hq1 (by omega)
theorem ml7 {T0 T : vS} {n g d : Nat} (hn : n ≤ 4) (h10 : T0.1 0 10 = nI n) (hGI : GInv n (T0.1 7)) (hg : g < n) (hFI : FInv n (fr T0 0)) (hd : d = 12 ∨ d < 3 * n) (hcan : canB (T0.1 7) n (fr T0 0) d = true) (hT : Tb T0 T) (h7 : T.1 7 = T0.1 7) :
    ∃ T', mX7_leftBy T (nI g) (nI d) = some (nI (most6 (wq (T0.1 7) (fr T0 0) n d g) 6), T') ∧ Tb T0 T' ∧ T'.1 7 = T0.1 7 := by
  have hg4 : g < 4 := by omega
  obtain ⟨T', f1, f2, f3⟩ := ml7_l (T0 := T0) (was := gP (T.1 7) g) hn h10 hGI hg hFI hd hcan FU 1 T (by omega) (by omega) (by unfold FU; omega) hT (fun y => by rw [h7]) (fun q' h1 h2 => by omega)
  rw [most67] at f1
  unfold mX7_leftBy
  refine ⟨T', ?_, f2, ?_⟩
  · simp (disch := omega) only [qlt, qb_some, qb_none, ↓qn_1, ↓qn_2, ↓qn_3, ↓qn_4, ↓qn_9, ↓qn_1000, ↓qn_low, qi_0, qi_1, qi_2, qi_3, qi_4, qi_5, qi_6, qi_7, qi_8, qi_9, qi_10, qi_11, qi_12, qi_13, qi_14, qi_15, qi_16, qi_17, qi_20, qi_24, qi_30, qi_31, qi_32, qi_60, qi_99, qi_100, qi_200, qi_1000, qi_3400, qi_4000, qi_of, pu_gI, pu_pI, nI_leI, nI_ltI, nI_eq, nI_add, pk_mul, pk_sub, pk_div, qw_s, qw_o, qw_l, qr_s, qr_o, qr_l, ql_i, ql_s, ql_o, pk_us, pk_un, pk_uLs, pk_uLn, if_pos, if_neg, if_true, if_false, ite_self, eq_self, Nat.zero_add, Nat.add_zero, qwr, not_true_eq_false, not_false_eq_true, Option.some.injEq, qe_gn0, qe_m1n, qe_gng, qe_ngn, qe_gm, qe_mg, qe_lm1, qe_lgn, qe_lem, qe_leg, qe_tm1, qe_tgn, m7_pat hg4]
    exact f1
  · rw [f3, h7]
    exact upd_id _ _
theorem ask_l {S0 T0 : vS} {n g : Nat} (R : Rel S0 T0) (hn : n ≤ 4) (h10 : T0.1 0 10 = nI n) (hGI : GInv n (T0.1 7)) (hG0 : GodR S0 (30 + 1) n (T0.1 7)) (hS0 : ScR S0 (30 + 11) n (fr T0 0)) (hFI : FInv n (fr T0 0)) (hg : g < n) :
    ∀ q d S T b l b' l', d ≤ 13 → 13 - d < q → Sc0 S0 T0 S T → T.1 7 = T0.1 7 → ((d ≤ 12 ∧ b = 12 ∧ l = 7 ∧ b' = gN ∧ l' = nI 0) ∨ (b ≤ 12 ∧ l ≤ 6 ∧ b' = nI b ∧ l' = nI l)) →
    ∃ (x : Int32 × vS) (t : Int32 × vS), lX6_ask_42 (nI g) q S (nI b) (nI l) (nI d) = some x ∧ lX7_ask_30 (nI g) q T b' l' (nI d) = some t ∧ x.1 = t.1 ∧ Rel x.2 t.2 := by
  intro q
  induction q with
  | zero => intro d S T b l b' l' h1 h2; omega
  | succ q ih =>
    intro d S T b l b' l' h1 h2 hZ h7 hb
    rw [lX6_ask_42, lX7_ask_30]
    by_cases hd : d = 13
    · subst hd
      rcases hb with ⟨hb, _⟩ | ⟨hb1, hb2, rfl, rfl⟩
      · omega
      · unfold bX6_ask_103 bX7_ask_91 mX6_tell mX7_tells
        simp (disch := omega) only [qlt, qb_some, qb_none, ↓qn_1, ↓qn_2, ↓qn_3, ↓qn_4, ↓qn_9, ↓qn_1000, ↓qn_low, qi_0, qi_1, qi_2, qi_3, qi_4, qi_5, qi_6, qi_7, qi_8, qi_9, qi_10, qi_11, qi_12, qi_13, qi_14, qi_15, qi_16, qi_17, qi_20, qi_24, qi_30, qi_31, qi_32, qi_60, qi_99, qi_100, qi_200, qi_1000, qi_3400, qi_4000, qi_of, pu_gI, pu_pI, nI_leI, nI_ltI, nI_eq, nI_add, pk_mul, pk_sub, pk_div, qw_s, qw_o, qw_l, qr_s, qr_o, qr_l, ql_i, ql_s, ql_o, pk_us, pk_un, pk_uLs, pk_uLn, if_pos, if_neg, if_true, if_false, ite_self, eq_self, Nat.zero_add, Nat.add_zero, qwr, not_true_eq_false, not_false_eq_true, Option.some.injEq, qe_gn0, qe_m1n, qe_gng, qe_ngn, qe_gm, qe_mg, qe_lm1, qe_lgn, qe_lem, qe_leg, qe_tm1, qe_tgn]
        exact ⟨_, _, rfl, rfl, rfl, Rel_tell (Sc0_Rel R hZ h7) _⟩
    · have hd13 : d < 13 := by omega
      obtain ⟨z1, z2, z3, z4, z5, z6⟩ := id hZ
      have hGS : GodR S (30 + 1) n (T0.1 7) := GodR_tr (S := S0) (k := 30 + 1) hn (fun j _ => by rw [z1 _ (by omega)]) (fun i h1 h2 g _ => by rw [z1 _ (by omega)]) hG0
      have hSS : ScR S (30 + 11) n (fr T0 0) := ScR_tr (S := S0) (k := 30 + 11) hn (fun j _ => by rw [z1 _ (by omega)]) (fun j _ => by rw [z1 _ (by omega)]) (fun j _ => by rw [z1 _ (by omega)]) hS0
      have ht10 : T.1 0 10 = nI n := by rw [z3 10 (by decide) (by decide) (by decide)]; exact h10
      have k6 := c6_cost (d := d) hn hGS hSS hFI (by omega)
      have hnum := m7_num (T := T) (d := d) ht10 hn (by omega)
      have h06 : (0 : Nat) < 6 := by decide
      cases hcan : canB (T0.1 7) n (fr T0 0) d
      · rw [cosV_n hcan] at k6
        have hd12 : d ≠ 12 := by
          intro e
          subst e
          rw [can12] at hcan
          exact absurd hcan (by decide)
        have go := ih (d + 1) S T b l b' l' (by omega) (by omega) hZ h7 (by
          rcases hb with ⟨q1, q2⟩ | q2
          · exact Or.inl ⟨by omega, q2⟩
          · exact Or.inr q2)
        by_cases hv : d = 12 ∨ d < 3 * n
        · have k7 := m7_cost (T := T) (f := 0) (d := d) hn ht10 h06 (by rw [z5]; exact hFI) hv
          rw [h7, z5, cosV_n hcan] at k7
          rw [if_pos hv] at hnum
          simp (disch := omega) only [qlt, qb_some, qb_none, ↓qn_1, ↓qn_2, ↓qn_3, ↓qn_4, ↓qn_9, ↓qn_1000, ↓qn_low, qi_0, qi_1, qi_2, qi_3, qi_4, qi_5, qi_6, qi_7, qi_8, qi_9, qi_10, qi_11, qi_12, qi_13, qi_14, qi_15, qi_16, qi_17, qi_20, qi_24, qi_30, qi_31, qi_32, qi_60, qi_99, qi_100, qi_200, qi_1000, qi_3400, qi_4000, qi_of, pu_gI, pu_pI, nI_leI, nI_ltI, nI_eq, nI_add, pk_mul, pk_sub, pk_div, qw_s, qw_o, qw_l, qr_s, qr_o, qr_l, ql_i, ql_s, ql_o, pk_us, pk_un, pk_uLs, pk_uLn, if_pos, if_neg, if_true, if_false, ite_self, eq_self, Nat.zero_add, Nat.add_zero, qwr, not_true_eq_false, not_false_eq_true, Option.some.injEq, qe_gn0, qe_m1n, qe_gng, qe_ngn, qe_gm, qe_mg, qe_lm1, qe_lgn, qe_lem, qe_leg, qe_tm1, qe_tgn, k6, hnum, k7]
          exact go
        · rw [if_neg hv] at hnum
          simp (disch := omega) only [qlt, qb_some, qb_none, ↓qn_1, ↓qn_2, ↓qn_3, ↓qn_4, ↓qn_9, ↓qn_1000, ↓qn_low, qi_0, qi_1, qi_2, qi_3, qi_4, qi_5, qi_6, qi_7, qi_8, qi_9, qi_10, qi_11, qi_12, qi_13, qi_14, qi_15, qi_16, qi_17, qi_20, qi_24, qi_30, qi_31, qi_32, qi_60, qi_99, qi_100, qi_200, qi_1000, qi_3400, qi_4000, qi_of, pu_gI, pu_pI, nI_leI, nI_ltI, nI_eq, nI_add, pk_mul, pk_sub, pk_div, qw_s, qw_o, qw_l, qr_s, qr_o, qr_l, ql_i, ql_s, ql_o, pk_us, pk_un, pk_uLs, pk_uLn, if_pos, if_neg, if_true, if_false, ite_self, eq_self, Nat.zero_add, Nat.add_zero, qwr, not_true_eq_false, not_false_eq_true, Option.some.injEq, qe_gn0, qe_m1n, qe_gng, qe_ngn, qe_gm, qe_mg, qe_lm1, qe_lgn, qe_lem, qe_leg, qe_tm1, qe_tgn, k6, hnum]
          exact go
      · rw [cosV_y hcan] at k6
        have hcl : cosN (T0.1 7) n (fr T0 0) d ≤ 7 := cosN_le
        have hv : d = 12 ∨ d < 3 * n := by
          rcases canB_d hd13 hcan with h1 | ⟨h1, _⟩
          · exact Or.inl h1
          · exact Or.inr h1
        have k7 := m7_cost (T := T) (f := 0) (d := d) hn ht10 h06 (by rw [z5]; exact hFI) hv
        rw [h7, z5, cosV_y hcan] at k7
        rw [if_pos hv] at hnum
        obtain ⟨S', f1, f2, f3⟩ := ml6 (S0 := S0) (S := S) hn hGI hg hG0 hS0 hFI hd13 hcan z1 z2
        obtain ⟨T', g1, ⟨g2, g3, g4, g5⟩, g6⟩ := ml7 (T0 := T0) (T := T) hn h10 hGI hg hFI hv hcan ⟨z3, z4, z5, z6⟩ h7
        have hle := most6_le (wq (T0.1 7) (fr T0 0) n d g) 6
        have hZ' : Sc0 S0 T0 S' T' := ⟨f2, f3, g2, g3, g4, g5⟩
        generalize most6 (wq (T0.1 7) (fr T0 0) n d g) 6 = y at f1 g1 hle
        have go := fun b l b' l' hh => ih (d + 1) S' T' b l b' l' (by omega) (by omega) hZ' g6 hh
        unfold bX7_ask_79
        rcases hb with ⟨_, rfl, rfl, rfl, rfl⟩ | ⟨hb1, hb2, rfl, rfl⟩
        · simp (disch := omega) only [qlt, qb_some, qb_none, ↓qn_1, ↓qn_2, ↓qn_3, ↓qn_4, ↓qn_9, ↓qn_1000, ↓qn_low, qi_0, qi_1, qi_2, qi_3, qi_4, qi_5, qi_6, qi_7, qi_8, qi_9, qi_10, qi_11, qi_12, qi_13, qi_14, qi_15, qi_16, qi_17, qi_20, qi_24, qi_30, qi_31, qi_32, qi_60, qi_99, qi_100, qi_200, qi_1000, qi_3400, qi_4000, qi_of, pu_gI, pu_pI, nI_leI, nI_ltI, nI_eq, nI_add, pk_mul, pk_sub, pk_div, qw_s, qw_o, qw_l, qr_s, qr_o, qr_l, ql_i, ql_s, ql_o, pk_us, pk_un, pk_uLs, pk_uLn, if_pos, if_neg, if_true, if_false, ite_self, eq_self, Nat.zero_add, Nat.add_zero, qwr, not_true_eq_false, not_false_eq_true, Option.some.injEq, qe_gn0, qe_m1n, qe_gng, qe_ngn, qe_gm, qe_mg, qe_lm1, qe_lgn, qe_lem, qe_leg, qe_tm1, qe_tgn, k6, hnum, k7, f1, g1]
          exact go d y _ _ (Or.inr ⟨by omega, by omega, rfl, rfl⟩)
        · by_cases hly : l ≤ y
          · simp (disch := omega) only [qlt, qb_some, qb_none, ↓qn_1, ↓qn_2, ↓qn_3, ↓qn_4, ↓qn_9, ↓qn_1000, ↓qn_low, qi_0, qi_1, qi_2, qi_3, qi_4, qi_5, qi_6, qi_7, qi_8, qi_9, qi_10, qi_11, qi_12, qi_13, qi_14, qi_15, qi_16, qi_17, qi_20, qi_24, qi_30, qi_31, qi_32, qi_60, qi_99, qi_100, qi_200, qi_1000, qi_3400, qi_4000, qi_of, pu_gI, pu_pI, nI_leI, nI_ltI, nI_eq, nI_add, pk_mul, pk_sub, pk_div, qw_s, qw_o, qw_l, qr_s, qr_o, qr_l, ql_i, ql_s, ql_o, pk_us, pk_un, pk_uLs, pk_uLn, if_pos, if_neg, if_true, if_false, ite_self, eq_self, Nat.zero_add, Nat.add_zero, qwr, not_true_eq_false, not_false_eq_true, Option.some.injEq, qe_gn0, qe_m1n, qe_gng, qe_ngn, qe_gm, qe_mg, qe_lm1, qe_lgn, qe_lem, qe_leg, qe_tm1, qe_tgn, k6, hnum, k7, f1, g1]
            exact go b l _ _ (Or.inr ⟨by omega, by omega, rfl, rfl⟩)
          · simp (disch := omega) only [qlt, qb_some, qb_none, ↓qn_1, ↓qn_2, ↓qn_3, ↓qn_4, ↓qn_9, ↓qn_1000, ↓qn_low, qi_0, qi_1, qi_2, qi_3, qi_4, qi_5, qi_6, qi_7, qi_8, qi_9, qi_10, qi_11, qi_12, qi_13, qi_14, qi_15, qi_16, qi_17, qi_20, qi_24, qi_30, qi_31, qi_32, qi_60, qi_99, qi_100, qi_200, qi_1000, qi_3400, qi_4000, qi_of, pu_gI, pu_pI, nI_leI, nI_ltI, nI_eq, nI_add, pk_mul, pk_sub, pk_div, qw_s, qw_o, qw_l, qr_s, qr_o, qr_l, ql_i, ql_s, ql_o, pk_us, pk_un, pk_uLs, pk_uLn, if_pos, if_neg, if_true, if_false, ite_self, eq_self, Nat.zero_add, Nat.add_zero, qwr, not_true_eq_false, not_false_eq_true, Option.some.injEq, qe_gn0, qe_m1n, qe_gng, qe_ngn, qe_gm, qe_mg, qe_lm1, qe_lgn, qe_lem, qe_leg, qe_tm1, qe_tgn, k6, hnum, k7, f1, g1]
            exact go d y _ _ (Or.inr ⟨by omega, by omega, rfl, rfl⟩)
theorem st_ask : St_ask Rel := by
  intro S T a R
  obtain ⟨n, hn, h10, h34, hGI, hV, hK⟩ := R.2.2.2.2
  obtain ⟨hG, hS, hg1, hh1, hFI, e, he, h14, hH, hD⟩ := id hV
  unfold mX6_ask mX7_ask
  rcases oR_or a (N := n) (by omega) with h | ⟨g, hg, rfl⟩
  · simp (disch := omega) only [qlt, qb_some, qb_none, ↓qn_1, ↓qn_2, ↓qn_3, ↓qn_4, ↓qn_9, ↓qn_1000, ↓qn_low, qi_0, qi_1, qi_2, qi_3, qi_4, qi_5, qi_6, qi_7, qi_8, qi_9, qi_10, qi_11, qi_12, qi_13, qi_14, qi_15, qi_16, qi_17, qi_20, qi_24, qi_30, qi_31, qi_32, qi_60, qi_99, qi_100, qi_200, qi_1000, qi_3400, qi_4000, qi_of, pu_gI, pu_pI, nI_leI, nI_ltI, nI_eq, nI_add, pk_mul, pk_sub, pk_div, qw_s, qw_o, qw_l, qr_s, qr_o, qr_l, ql_i, ql_s, ql_o, pk_us, pk_un, pk_uLs, pk_uLn, if_pos, if_neg, if_true, if_false, ite_self, eq_self, Nat.zero_add, Nat.add_zero, qwr, not_true_eq_false, not_false_eq_true, Option.some.injEq, qe_gn0, qe_m1n, qe_gng, qe_ngn, qe_gm, qe_mg, qe_lm1, qe_lgn, qe_lem, qe_leg, qe_tm1, qe_tgn, has0_o hG.1 h, isGod_o h10 hn h]
    exact ⟨_, _, rfl, rfl, rfl, R⟩
  have hf : (0 : Nat) < 6 := by decide
  have hg4 : g < 4 := by omega
  by_cases hgo : fr T 0 (3 + g) = gN
  · simp (disch := omega) only [qlt, qb_some, qb_none, ↓qn_1, ↓qn_2, ↓qn_3, ↓qn_4, ↓qn_9, ↓qn_1000, ↓qn_low, qi_0, qi_1, qi_2, qi_3, qi_4, qi_5, qi_6, qi_7, qi_8, qi_9, qi_10, qi_11, qi_12, qi_13, qi_14, qi_15, qi_16, qi_17, qi_20, qi_24, qi_30, qi_31, qi_32, qi_60, qi_99, qi_100, qi_200, qi_1000, qi_3400, qi_4000, qi_of, pu_gI, pu_pI, nI_leI, nI_ltI, nI_eq, nI_add, pk_mul, pk_sub, pk_div, qw_s, qw_o, qw_l, qr_s, qr_o, qr_l, ql_i, ql_s, ql_o, pk_us, pk_un, pk_uLs, pk_uLn, if_pos, if_neg, if_true, if_false, ite_self, eq_self, Nat.zero_add, Nat.add_zero, qwr, not_true_eq_false, not_false_eq_true, Option.some.injEq, qe_gn0, qe_m1n, qe_gng, qe_ngn, qe_gm, qe_mg, qe_lm1, qe_lgn, qe_lem, qe_leg, qe_tm1, qe_tgn, has0_y hG.1 hn hg, isGod_y h10 hn hg, gone6 hn hS hg, m7_gone hf hg4, hgo]
    exact ⟨_, _, rfl, rfl, rfl, R⟩
  · simp (disch := omega) only [qlt, qb_some, qb_none, ↓qn_1, ↓qn_2, ↓qn_3, ↓qn_4, ↓qn_9, ↓qn_1000, ↓qn_low, qi_0, qi_1, qi_2, qi_3, qi_4, qi_5, qi_6, qi_7, qi_8, qi_9, qi_10, qi_11, qi_12, qi_13, qi_14, qi_15, qi_16, qi_17, qi_20, qi_24, qi_30, qi_31, qi_32, qi_60, qi_99, qi_100, qi_200, qi_1000, qi_3400, qi_4000, qi_of, pu_gI, pu_pI, nI_leI, nI_ltI, nI_eq, nI_add, pk_mul, pk_sub, pk_div, qw_s, qw_o, qw_l, qr_s, qr_o, qr_l, ql_i, ql_s, ql_o, pk_us, pk_un, pk_uLs, pk_uLn, if_pos, if_neg, if_true, if_false, ite_self, eq_self, Nat.zero_add, Nat.add_zero, qwr, not_true_eq_false, not_false_eq_true, Option.some.injEq, qe_gn0, qe_m1n, qe_gng, qe_ngn, qe_gm, qe_mg, qe_lm1, qe_lgn, qe_lem, qe_leg, qe_tm1, qe_tgn, has0_y hG.1 hn hg, isGod_y h10 hn hg, gone6 hn hS hg, m7_gone hf hg4, hgo]
    exact ask_l R hn h10 hGI hG hS hFI hg FU 0 S T 12 7 gN (nI 0) (by omega) (by unfold FU; omega) (Sc0_id S T) rfl (Or.inl ⟨by omega, rfl, rfl, rfl, rfl⟩)
