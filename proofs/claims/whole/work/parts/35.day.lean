/-! ===== PURE: a day, as the reference has it ===== -/
def oddD (F : Nat → Int32) : Bool := decide ((F 14).toNatClampNeg % 2 = 1)
def upB (G F : Nat → Int32) (g : Nat) : Bool := !decide (F (3 + g) = gN) && !(slp G g && oddD F)
def fedP (G : Nat → Int32) (n : Nat) (F : Nat → Int32) (g o : Nat) : Bool := decide (o = g) || (decide (o < n) && (tw G g o && upB G F o))
def fedN (G : Nat → Int32) (n : Nat) (F : Nat → Int32) (g : Nat) : Nat := setN (fedP G n F g)
/-- what an offering costs, by its number -/
def canB (G : Nat → Int32) (n : Nat) (F : Nat → Int32) (d : Nat) : Bool := decide (d = 12) || (decide (d < 3 * n) && (upB G F (d / 3) && decide (pcN (fedN G n F (d / 3)) ≤ (F (d % 3)).toNatClampNeg)))
def cosN (G : Nat → Int32) (n : Nat) (F : Nat → Int32) (d : Nat) : Nat := if d = 12 then 0 else pcN (fedN G n F (d / 3))
def cosV (G : Nat → Int32) (n : Nat) (F : Nat → Int32) (d : Nat) : Int32 := if canB G n F d = true then nI (cosN G n F d) else gN
/-- who is fed -/
def fdD (G : Nat → Int32) (n : Nat) (F : Nat → Int32) (d : Nat) : Int32 := if d = 12 then nI 0 else nI (fedN G n F (d / 3))
def evD (G : Nat → Int32) (n : Nat) (F : Nat → Int32) (d : Nat) : Int32 := F 7 ||| fdD G n F d
def hatS (G : Nat → Int32) (fed : Int32) (g : Nat) : Bool := !decide (gK G g = nI 1) && (!decide (gA G g = gN) && bt fed (gA G g).toNatClampNeg)
/-- hunger behind (b) of one that is up -/
def hunN (G : Nat → Int32) (fed : Int32) (d : Nat) (g : Nat) (x : Int32) : Nat :=
  min 9 (if bt fed g = true then (if gF G g = nI (d % 3) then 0 else x.toNatClampNeg - 2) else x.toNatClampNeg + (1 + (if hatS G fed g = true then (if jel G g = true then 2 else 1) else 0)))
def huD (G : Nat → Int32) (n : Nat) (F : Nat → Int32) (d g : Nat) : Nat := hunN G (fdD G n F d) d g (F (3 + g))
def goB (G : Nat → Int32) (n : Nat) (F : Nat → Int32) (d g : Nat) : Bool := decide (huD G n F d g ≤ (gP G g).toNatClampNeg)
def snB (G : Nat → Int32) (n : Nat) (F : Nat → Int32) (d g : Nat) : Bool := upB G F g && !(decide (gK G g = nI 5) && !bt (evD G n F d) g)
def snt (G : Nat → Int32) (n : Nat) (F : Nat → Int32) (d g : Nat) : Int32 := if snB G n F d g = true then (if goB G n F d g = true then gG G g else -gH G g) else nI 0
def gpt (G : Nat → Int32) (n : Nat) (F : Nat → Int32) (d g : Nat) : Nat := if snB G n F d g = true then (if goB G n F d g = true then (gG G g).toNatClampNeg else 0) else 0
def hpt (G : Nat → Int32) (n : Nat) (F : Nat → Int32) (d g : Nat) : Nat := if snB G n F d g = true then (if goB G n F d g = true then 0 else (gH G g).toNatClampNeg) else 0
def lvB (G : Nat → Int32) (n : Nat) (F : Nat → Int32) (d g : Nat) : Bool := upB G F g && (decide (gK G g = nI 4) && decide ((gP G g).toNatClampNeg + 1 < huD G n F d g))
def nsum (p : Nat → Nat) : Nat → Nat
  | 0 => 0
  | n + 1 => nsum p n + p n
/-- all GOOD, all HARM of the day -/
def gsD (G : Nat → Int32) (n : Nat) (F : Nat → Int32) (d : Nat) : Nat := nsum (gpt G n F d) n
def hsD (G : Nat → Int32) (n : Nat) (F : Nat → Int32) (d : Nat) : Nat := nsum (hpt G n F d) n
def dyH (G : Nat → Int32) (n : Nat) (F : Nat → Int32) (d g : Nat) : Int32 := if upB G F g = true then (if lvB G n F d g = true then gN else nI (huD G n F d g)) else F (3 + g)
/-- how all is behind the day -/
def dyF (G : Nat → Int32) (n : Nat) (F : Nat → Int32) (d : Nat) : Nat → Int32 := fun i =>
  if i < 3 then (if d ≠ 12 ∧ i = d % 3 then F i - nI (cosN G n F d) else F i)
  else if i < 7 then (if i - 3 < n then dyH G n F d (i - 3) else F i)
  else if i = 7 then evD G n F d
  else if i < 12 then (if i - 8 < n ∧ hatS G (fdD G n F d) (i - 8) = true then F 14 else F i)
  else if i = 12 then F 12 + nI (gsD G n F d)
  else if i = 13 then F 13 + nI (hsD G n F d)
  else if i = 14 then F 14 + nI 1 else F i
/-! ### the reference's pieces -/
theorem m7_v {T : vS} {f i : Nat} (hf : f < 6) (hi : i < 15) : mX7_v T (nI f) (nI i) = some (fr T f i) := by
  unfold mX7_v
  simp (disch := omega) only [qlt, qb_some, qb_none, ↓qn_1, ↓qn_2, ↓qn_3, ↓qn_4, ↓qn_9, ↓qn_1000, ↓qn_low, qi_0, qi_1, qi_2, qi_3, qi_4, qi_5, qi_6, qi_7, qi_8, qi_9, qi_10, qi_11, qi_12, qi_13, qi_14, qi_15, qi_16, qi_17, qi_20, qi_24, qi_30, qi_31, qi_32, qi_60, qi_99, qi_100, qi_200, qi_1000, qi_3400, qi_4000, qi_of, pu_gI, pu_pI, nI_leI, nI_ltI, nI_eq, nI_add, pk_mul, pk_sub, pk_div, qw_s, qw_o, qw_l, qr_s, qr_o, qr_l, ql_i, ql_s, ql_o, pk_us, pk_un, pk_uLs, pk_uLn, if_pos, if_neg, if_true, if_false, ite_self, eq_self, Nat.zero_add, Nat.add_zero, qwr, not_true_eq_false, not_false_eq_true, Option.some.injEq, qe_gn0, qe_m1n, qe_gng, qe_ngn, qe_gm, qe_mg, qe_lm1, qe_lgn, qe_lem, qe_leg, qe_tm1, qe_tgn]
  rw [fr_i hi]
theorem m7_place {T : vS} {f i : Nat} {x : Int32} (hf : f < 6) (hi : i < 15) : mX7_place T (nI f) (nI i) x = some (wI T 10 (15 * f + i) x) := by
  unfold mX7_place
  simp (disch := omega) only [qlt, qb_some, qb_none, ↓qn_1, ↓qn_2, ↓qn_3, ↓qn_4, ↓qn_9, ↓qn_1000, ↓qn_low, qi_0, qi_1, qi_2, qi_3, qi_4, qi_5, qi_6, qi_7, qi_8, qi_9, qi_10, qi_11, qi_12, qi_13, qi_14, qi_15, qi_16, qi_17, qi_20, qi_24, qi_30, qi_31, qi_32, qi_60, qi_99, qi_100, qi_200, qi_1000, qi_3400, qi_4000, qi_of, pu_gI, pu_pI, nI_leI, nI_ltI, nI_eq, nI_add, pk_mul, pk_sub, pk_div, qw_s, qw_o, qw_l, qr_s, qr_o, qr_l, ql_i, ql_s, ql_o, pk_us, pk_un, pk_uLs, pk_uLn, if_pos, if_neg, if_true, if_false, ite_self, eq_self, Nat.zero_add, Nat.add_zero, qwr, not_true_eq_false, not_false_eq_true, Option.some.injEq, qe_gn0, qe_m1n, qe_gng, qe_ngn, qe_gm, qe_mg, qe_lm1, qe_lgn, qe_lem, qe_leg, qe_tm1, qe_tgn]
section M7
variable {T : vS} {n f g : Nat}
theorem m7_kind (hg : g < 4) : mX7_kind T (nI g) = some (gK (T.1 7) g) := by
  unfold mX7_kind gK
  simp (disch := omega) only [qlt, qb_some, qb_none, ↓qn_1, ↓qn_2, ↓qn_3, ↓qn_4, ↓qn_9, ↓qn_1000, ↓qn_low, qi_0, qi_1, qi_2, qi_3, qi_4, qi_5, qi_6, qi_7, qi_8, qi_9, qi_10, qi_11, qi_12, qi_13, qi_14, qi_15, qi_16, qi_17, qi_20, qi_24, qi_30, qi_31, qi_32, qi_60, qi_99, qi_100, qi_200, qi_1000, qi_3400, qi_4000, qi_of, pu_gI, pu_pI, nI_leI, nI_ltI, nI_eq, nI_add, pk_mul, pk_sub, pk_div, qw_s, qw_o, qw_l, qr_s, qr_o, qr_l, ql_i, ql_s, ql_o, pk_us, pk_un, pk_uLs, pk_uLn, if_pos, if_neg, if_true, if_false, ite_self, eq_self, Nat.zero_add, Nat.add_zero, qwr, not_true_eq_false, not_false_eq_true, Option.some.injEq, qe_gn0, qe_m1n, qe_gng, qe_ngn, qe_gm, qe_mg, qe_lm1, qe_lgn, qe_lem, qe_leg, qe_tm1, qe_tgn]
theorem m7_pat (hg : g < 4) : mX7_patienceOf T (nI g) = some (gP (T.1 7) g) := by
  unfold mX7_patienceOf gP
  simp (disch := omega) only [qlt, qb_some, qb_none, ↓qn_1, ↓qn_2, ↓qn_3, ↓qn_4, ↓qn_9, ↓qn_1000, ↓qn_low, qi_0, qi_1, qi_2, qi_3, qi_4, qi_5, qi_6, qi_7, qi_8, qi_9, qi_10, qi_11, qi_12, qi_13, qi_14, qi_15, qi_16, qi_17, qi_20, qi_24, qi_30, qi_31, qi_32, qi_60, qi_99, qi_100, qi_200, qi_1000, qi_3400, qi_4000, qi_of, pu_gI, pu_pI, nI_leI, nI_ltI, nI_eq, nI_add, pk_mul, pk_sub, pk_div, qw_s, qw_o, qw_l, qr_s, qr_o, qr_l, ql_i, ql_s, ql_o, pk_us, pk_un, pk_uLs, pk_uLn, if_pos, if_neg, if_true, if_false, ite_self, eq_self, Nat.zero_add, Nat.add_zero, qwr, not_true_eq_false, not_false_eq_true, Option.some.injEq, qe_gn0, qe_m1n, qe_gng, qe_ngn, qe_gm, qe_mg, qe_lm1, qe_lgn, qe_lem, qe_leg, qe_tm1, qe_tgn]
theorem m7_abi (hg : g < 4) : mX7_abides T (nI g) = some (gA (T.1 7) g) := by
  unfold mX7_abides gA
  simp (disch := omega) only [qlt, qb_some, qb_none, ↓qn_1, ↓qn_2, ↓qn_3, ↓qn_4, ↓qn_9, ↓qn_1000, ↓qn_low, qi_0, qi_1, qi_2, qi_3, qi_4, qi_5, qi_6, qi_7, qi_8, qi_9, qi_10, qi_11, qi_12, qi_13, qi_14, qi_15, qi_16, qi_17, qi_20, qi_24, qi_30, qi_31, qi_32, qi_60, qi_99, qi_100, qi_200, qi_1000, qi_3400, qi_4000, qi_of, pu_gI, pu_pI, nI_leI, nI_ltI, nI_eq, nI_add, pk_mul, pk_sub, pk_div, qw_s, qw_o, qw_l, qr_s, qr_o, qr_l, ql_i, ql_s, ql_o, pk_us, pk_un, pk_uLs, pk_uLn, if_pos, if_neg, if_true, if_false, ite_self, eq_self, Nat.zero_add, Nat.add_zero, qwr, not_true_eq_false, not_false_eq_true, Option.some.injEq, qe_gn0, qe_m1n, qe_gng, qe_ngn, qe_gm, qe_mg, qe_lm1, qe_lgn, qe_lem, qe_leg, qe_tm1, qe_tgn]
theorem m7_slp (hg : g < 4) : mX7_isSleeper T (nI g) = some (if slp (T.1 7) g = true then nI 1 else nI 0) := by
  unfold mX7_isSleeper slp
  simp (disch := omega) only [qlt, qb_some, qb_none, ↓qn_1, ↓qn_2, ↓qn_3, ↓qn_4, ↓qn_9, ↓qn_1000, ↓qn_low, qi_0, qi_1, qi_2, qi_3, qi_4, qi_5, qi_6, qi_7, qi_8, qi_9, qi_10, qi_11, qi_12, qi_13, qi_14, qi_15, qi_16, qi_17, qi_20, qi_24, qi_30, qi_31, qi_32, qi_60, qi_99, qi_100, qi_200, qi_1000, qi_3400, qi_4000, qi_of, pu_gI, pu_pI, nI_leI, nI_ltI, nI_eq, nI_add, pk_mul, pk_sub, pk_div, qw_s, qw_o, qw_l, qr_s, qr_o, qr_l, ql_i, ql_s, ql_o, pk_us, pk_un, pk_uLs, pk_uLn, if_pos, if_neg, if_true, if_false, ite_self, eq_self, Nat.zero_add, Nat.add_zero, qwr, not_true_eq_false, not_false_eq_true, Option.some.injEq, qe_gn0, qe_m1n, qe_gng, qe_ngn, qe_gm, qe_mg, qe_lm1, qe_lgn, qe_lem, qe_leg, qe_tm1, qe_tgn, m7_kind hg]
  by_cases h1 : gK (T.1 7) g = nI 3 <;> by_cases h2 : gK (T.1 7) g = nI 5 <;> simp [h1, h2]
theorem m7_jel (hg : g < 4) : mX7_isJealous T (nI g) = some (if jel (T.1 7) g = true then nI 1 else nI 0) := by
  unfold mX7_isJealous jel
  simp (disch := omega) only [qlt, qb_some, qb_none, ↓qn_1, ↓qn_2, ↓qn_3, ↓qn_4, ↓qn_9, ↓qn_1000, ↓qn_low, qi_0, qi_1, qi_2, qi_3, qi_4, qi_5, qi_6, qi_7, qi_8, qi_9, qi_10, qi_11, qi_12, qi_13, qi_14, qi_15, qi_16, qi_17, qi_20, qi_24, qi_30, qi_31, qi_32, qi_60, qi_99, qi_100, qi_200, qi_1000, qi_3400, qi_4000, qi_of, pu_gI, pu_pI, nI_leI, nI_ltI, nI_eq, nI_add, pk_mul, pk_sub, pk_div, qw_s, qw_o, qw_l, qr_s, qr_o, qr_l, ql_i, ql_s, ql_o, pk_us, pk_un, pk_uLs, pk_uLn, if_pos, if_neg, if_true, if_false, ite_self, eq_self, Nat.zero_add, Nat.add_zero, qwr, not_true_eq_false, not_false_eq_true, Option.some.injEq, qe_gn0, qe_m1n, qe_gng, qe_ngn, qe_gm, qe_mg, qe_lm1, qe_lgn, qe_lem, qe_leg, qe_tm1, qe_tgn, m7_kind hg]
  by_cases h1 : gK (T.1 7) g = nI 2 <;> by_cases h2 : gK (T.1 7) g = nI 4 <;> simp [h1, h2]
theorem m7_gone (hf : f < 6) (hg : g < 4) : mX7_isGone T (nI f) (nI g) = some (if fr T f (3 + g) = gN then nI 1 else nI 0) := by
  unfold mX7_isGone
  simp (disch := omega) only [qlt, qb_some, qb_none, ↓qn_1, ↓qn_2, ↓qn_3, ↓qn_4, ↓qn_9, ↓qn_1000, ↓qn_low, qi_0, qi_1, qi_2, qi_3, qi_4, qi_5, qi_6, qi_7, qi_8, qi_9, qi_10, qi_11, qi_12, qi_13, qi_14, qi_15, qi_16, qi_17, qi_20, qi_24, qi_30, qi_31, qi_32, qi_60, qi_99, qi_100, qi_200, qi_1000, qi_3400, qi_4000, qi_of, pu_gI, pu_pI, nI_leI, nI_ltI, nI_eq, nI_add, pk_mul, pk_sub, pk_div, qw_s, qw_o, qw_l, qr_s, qr_o, qr_l, ql_i, ql_s, ql_o, pk_us, pk_un, pk_uLs, pk_uLn, if_pos, if_neg, if_true, if_false, ite_self, eq_self, Nat.zero_add, Nat.add_zero, qwr, not_true_eq_false, not_false_eq_true, Option.some.injEq, qe_gn0, qe_m1n, qe_gng, qe_ngn, qe_gm, qe_mg, qe_lm1, qe_lgn, qe_lem, qe_leg, qe_tm1, qe_tgn, m7_v hf]
  split <;> rfl
theorem m7_odd {F : Nat → Int32} {d : Nat} (hd : F 14 = nI d) (h : d ≤ 1000) : (F 14 - F 14 / nI 2 * nI 2 = nI 1) = (oddD F = true) := by
  unfold oddD
  rw [hd, nI_clamp (by omega), pk_rem (by omega) (by decide) (by decide)]
  simp (disch := omega) only [qlt, qb_some, qb_none, ↓qn_1, ↓qn_2, ↓qn_3, ↓qn_4, ↓qn_9, ↓qn_1000, ↓qn_low, qi_0, qi_1, qi_2, qi_3, qi_4, qi_5, qi_6, qi_7, qi_8, qi_9, qi_10, qi_11, qi_12, qi_13, qi_14, qi_15, qi_16, qi_17, qi_20, qi_24, qi_30, qi_31, qi_32, qi_60, qi_99, qi_100, qi_200, qi_1000, qi_3400, qi_4000, qi_of, pu_gI, pu_pI, nI_leI, nI_ltI, nI_eq, nI_add, pk_mul, pk_sub, pk_div, qw_s, qw_o, qw_l, qr_s, qr_o, qr_l, ql_i, ql_s, ql_o, pk_us, pk_un, pk_uLs, pk_uLn, if_pos, if_neg, if_true, if_false, ite_self, eq_self, Nat.zero_add, Nat.add_zero, qwr, not_true_eq_false, not_false_eq_true, Option.some.injEq, qe_gn0, qe_m1n, qe_gng, qe_ngn, qe_gm, qe_mg, qe_lm1, qe_lgn, qe_lem, qe_leg, qe_tm1, qe_tgn, decide_eq_true_eq]
theorem m7_sleeps {d : Nat} (hf : f < 6) (hg : g < 4) (hd : fr T f 14 = nI d) (h : d ≤ 1000) : mX7_sleeps T (nI f) (nI g) = some (if (slp (T.1 7) g && oddD (fr T f)) = true then nI 1 else nI 0) := by
  unfold mX7_sleeps bX7_sleeps_25
  simp (disch := omega) only [m7_slp hg, qb_some, qi_14, m7_v hf, qi_2, qi_1, m7_odd hd h, qi_0]
  cases slp (T.1 7) g <;> cases oddD (fr T f) <;> simp [nI_eq]
theorem m7_up {d : Nat} (hf : f < 6) (hg : g < 4) (hd : fr T f 14 = nI d) (h : d ≤ 1000) : mX7_isUp T (nI f) (nI g) = some (if upB (T.1 7) (fr T f) g = true then nI 1 else nI 0) := by
  unfold mX7_isUp bX7_isUp_22
  simp (disch := omega) only [qlt, qb_some, qb_none, ↓qn_1, ↓qn_2, ↓qn_3, ↓qn_4, ↓qn_9, ↓qn_1000, ↓qn_low, qi_0, qi_1, qi_2, qi_3, qi_4, qi_5, qi_6, qi_7, qi_8, qi_9, qi_10, qi_11, qi_12, qi_13, qi_14, qi_15, qi_16, qi_17, qi_20, qi_24, qi_30, qi_31, qi_32, qi_60, qi_99, qi_100, qi_200, qi_1000, qi_3400, qi_4000, qi_of, pu_gI, pu_pI, nI_leI, nI_ltI, nI_eq, nI_add, pk_mul, pk_sub, pk_div, qw_s, qw_o, qw_l, qr_s, qr_o, qr_l, ql_i, ql_s, ql_o, pk_us, pk_un, pk_uLs, pk_uLn, if_pos, if_neg, if_true, if_false, ite_self, eq_self, Nat.zero_add, Nat.add_zero, qwr, not_true_eq_false, not_false_eq_true, Option.some.injEq, qe_gn0, qe_m1n, qe_gng, qe_ngn, qe_gm, qe_mg, qe_lm1, qe_lgn, qe_lem, qe_leg, qe_tm1, qe_tgn, m7_gone hf hg, m7_sleeps hf hg hd h]
  unfold upB
  by_cases h1 : fr T f (3 + g) = gN <;> cases slp (T.1 7) g <;> cases oddD (fr T f) <;> simp [h1, nI_eq]
theorem m7_num (h10 : T.1 0 10 = nI n) (hn : n ≤ 4) {d : Nat} (hd : d < 2 ^ 30) : mX7_isNumber T (nI d) = (if d = 12 ∨ d < 3 * n then nI 1 else nI 0) := by
  unfold mX7_isNumber
  rw [h10]
  by_cases h1 : d = 12
  · subst h1; simp (disch := omega) only [qlt, qb_some, qb_none, ↓qn_1, ↓qn_2, ↓qn_3, ↓qn_4, ↓qn_9, ↓qn_1000, ↓qn_low, qi_0, qi_1, qi_2, qi_3, qi_4, qi_5, qi_6, qi_7, qi_8, qi_9, qi_10, qi_11, qi_12, qi_13, qi_14, qi_15, qi_16, qi_17, qi_20, qi_24, qi_30, qi_31, qi_32, qi_60, qi_99, qi_100, qi_200, qi_1000, qi_3400, qi_4000, qi_of, pu_gI, pu_pI, nI_leI, nI_ltI, nI_eq, nI_add, pk_mul, pk_sub, pk_div, qw_s, qw_o, qw_l, qr_s, qr_o, qr_l, ql_i, ql_s, ql_o, pk_us, pk_un, pk_uLs, pk_uLn, if_pos, if_neg, if_true, if_false, ite_self, eq_self, Nat.zero_add, Nat.add_zero, qwr, not_true_eq_false, not_false_eq_true, Option.some.injEq, qe_gn0, qe_m1n, qe_gng, qe_ngn, qe_gm, qe_mg, qe_lm1, qe_lgn, qe_lem, qe_leg, qe_tm1, qe_tgn]
    simp
  · by_cases h0 : n = 0
    · subst h0
      have e : (3 : Int32) * nI 0 - 1 = m1 := by decide +kernel
      rw [e]
      simp (disch := omega) only [qlt, qb_some, qb_none, ↓qn_1, ↓qn_2, ↓qn_3, ↓qn_4, ↓qn_9, ↓qn_1000, ↓qn_low, qi_0, qi_1, qi_2, qi_3, qi_4, qi_5, qi_6, qi_7, qi_8, qi_9, qi_10, qi_11, qi_12, qi_13, qi_14, qi_15, qi_16, qi_17, qi_20, qi_24, qi_30, qi_31, qi_32, qi_60, qi_99, qi_100, qi_200, qi_1000, qi_3400, qi_4000, qi_of, pu_gI, pu_pI, nI_leI, nI_ltI, nI_eq, nI_add, pk_mul, pk_sub, pk_div, qw_s, qw_o, qw_l, qr_s, qr_o, qr_l, ql_i, ql_s, ql_o, pk_us, pk_un, pk_uLs, pk_uLn, if_pos, if_neg, if_true, if_false, ite_self, eq_self, Nat.zero_add, Nat.add_zero, qwr, not_true_eq_false, not_false_eq_true, Option.some.injEq, qe_gn0, qe_m1n, qe_gng, qe_ngn, qe_gm, qe_mg, qe_lm1, qe_lgn, qe_lem, qe_leg, qe_tm1, qe_tgn, in7_m]
    · by_cases h2 : d < 3 * n
      · simp (disch := omega) only [qlt, qb_some, qb_none, ↓qn_1, ↓qn_2, ↓qn_3, ↓qn_4, ↓qn_9, ↓qn_1000, ↓qn_low, qi_0, qi_1, qi_2, qi_3, qi_4, qi_5, qi_6, qi_7, qi_8, qi_9, qi_10, qi_11, qi_12, qi_13, qi_14, qi_15, qi_16, qi_17, qi_20, qi_24, qi_30, qi_31, qi_32, qi_60, qi_99, qi_100, qi_200, qi_1000, qi_3400, qi_4000, qi_of, pu_gI, pu_pI, nI_leI, nI_ltI, nI_eq, nI_add, pk_mul, pk_sub, pk_div, qw_s, qw_o, qw_l, qr_s, qr_o, qr_l, ql_i, ql_s, ql_o, pk_us, pk_un, pk_uLs, pk_uLn, if_pos, if_neg, if_true, if_false, ite_self, eq_self, Nat.zero_add, Nat.add_zero, qwr, not_true_eq_false, not_false_eq_true, Option.some.injEq, qe_gn0, qe_m1n, qe_gng, qe_ngn, qe_gm, qe_mg, qe_lm1, qe_lgn, qe_lem, qe_leg, qe_tm1, qe_tgn, in7_y]
      · simp (disch := omega) only [qlt, qb_some, qb_none, ↓qn_1, ↓qn_2, ↓qn_3, ↓qn_4, ↓qn_9, ↓qn_1000, ↓qn_low, qi_0, qi_1, qi_2, qi_3, qi_4, qi_5, qi_6, qi_7, qi_8, qi_9, qi_10, qi_11, qi_12, qi_13, qi_14, qi_15, qi_16, qi_17, qi_20, qi_24, qi_30, qi_31, qi_32, qi_60, qi_99, qi_100, qi_200, qi_1000, qi_3400, qi_4000, qi_of, pu_gI, pu_pI, nI_leI, nI_ltI, nI_eq, nI_add, pk_mul, pk_sub, pk_div, qw_s, qw_o, qw_l, qr_s, qr_o, qr_l, ql_i, ql_s, ql_o, pk_us, pk_un, pk_uLs, pk_uLn, if_pos, if_neg, if_true, if_false, ite_self, eq_self, Nat.zero_add, Nat.add_zero, qwr, not_true_eq_false, not_false_eq_true, Option.some.injEq, qe_gn0, qe_m1n, qe_gng, qe_ngn, qe_gm, qe_mg, qe_lm1, qe_lgn, qe_lem, qe_leg, qe_tm1, qe_tgn, in7_hi]
end M7
/-- who is fed by an offering to one, as the reference finds it -/
theorem m7_fed_l {T : vS} {n f g d : Nat} (hn : n ≤ 4) (h10 : T.1 0 10 = nI n) (hf : f < 6) (hg : g < 4) (hd : fr T f 14 = nI d) (h : d ≤ 1000) :
    ∀ q j s, j ≤ n → n - j < q → nib s → (∀ o, o < 4 → bt s o = (decide (o = g) || (decide (o < j) && (tw (T.1 7) g o && upB (T.1 7) (fr T f) o)))) → lX7_fedBy_7 T (nI f) (nI g) q s (nI j) = some (nI (fedN (T.1 7) n (fr T f) g)) := by
  intro q
  induction q with
  | zero => intro j s h1 h2; omega
  | succ q ih =>
    intro j s h1 h2 h3 h4
    rw [lX7_fedBy_7, h10]
    by_cases hj : j = n
    · subst hj
      simp (disch := omega) only [qlt, qb_some, qb_none, ↓qn_1, ↓qn_2, ↓qn_3, ↓qn_4, ↓qn_9, ↓qn_1000, ↓qn_low, qi_0, qi_1, qi_2, qi_3, qi_4, qi_5, qi_6, qi_7, qi_8, qi_9, qi_10, qi_11, qi_12, qi_13, qi_14, qi_15, qi_16, qi_17, qi_20, qi_24, qi_30, qi_31, qi_32, qi_60, qi_99, qi_100, qi_200, qi_1000, qi_3400, qi_4000, qi_of, pu_gI, pu_pI, nI_leI, nI_ltI, nI_eq, nI_add, pk_mul, pk_sub, pk_div, qw_s, qw_o, qw_l, qr_s, qr_o, qr_l, ql_i, ql_s, ql_o, pk_us, pk_un, pk_uLs, pk_uLn, if_pos, if_neg, if_true, if_false, ite_self, eq_self, Nat.zero_add, Nat.add_zero, qwr, not_true_eq_false, not_false_eq_true, Option.some.injEq, qe_gn0, qe_m1n, qe_gng, qe_ngn, qe_gm, qe_mg, qe_lm1, qe_lgn, qe_lem, qe_leg, qe_tm1, qe_tgn]
      exact set_of h3 _ h4
    · have hj4 : j < 4 := by omega
      have key : ∀ t, nib t → (∀ o, o < 4 → bt t o = (bt s o || (decide (o = j) && (decide (j ≠ g) && (tw (T.1 7) g j && upB (T.1 7) (fr T f) j))))) → lX7_fedBy_7 T (nI f) (nI g) q t (nI (j + 1)) = some (nI (fedN (T.1 7) n (fr T f) g)) := by
        intro t k1 k2
        refine ih (j + 1) t (by omega) (by omega) k1 (fun o ho => ?_)
        rw [k2 o ho, h4 o ho]
        by_cases e1 : o = j
        · subst e1
          by_cases e2 : o = g
          · subst e2; simp
          · simp [e2]
        · by_cases e2 : o < j
          · have : o < j + 1 := by omega
            simp [e1, e2, this]
          · have : ¬ o < j + 1 := by omega
            simp [e1, e2, this]
      have n0 : ∀ o, o < 4 → bt (s ||| nI 0) o = bt s o := fun o ho => by rw [bt_or h3 nib_0 ho, bt_z o ho, Bool.or_false]
      have c1 : tw (T.1 7) g j = true → bX7_fedBy_55 (lX7_fedBy_7 T (nI f) (nI g) q) T (nI f) (nI g) s (nI j) = some (nI (fedN (T.1 7) n (fr T f) g)) := by
        intro ht
        unfold bX7_fedBy_55 bX7_fedBy_60 bX7_fedBy_91 bX7_fedBy_92
        by_cases e : j = g
        · simp (disch := omega) only [qlt, qb_some, qb_none, ↓qn_1, ↓qn_2, ↓qn_3, ↓qn_4, ↓qn_9, ↓qn_1000, ↓qn_low, qi_0, qi_1, qi_2, qi_3, qi_4, qi_5, qi_6, qi_7, qi_8, qi_9, qi_10, qi_11, qi_12, qi_13, qi_14, qi_15, qi_16, qi_17, qi_20, qi_24, qi_30, qi_31, qi_32, qi_60, qi_99, qi_100, qi_200, qi_1000, qi_3400, qi_4000, qi_of, pu_gI, pu_pI, nI_leI, nI_ltI, nI_eq, nI_add, pk_mul, pk_sub, pk_div, qw_s, qw_o, qw_l, qr_s, qr_o, qr_l, ql_i, ql_s, ql_o, pk_us, pk_un, pk_uLs, pk_uLn, if_pos, if_neg, if_true, if_false, ite_self, eq_self, Nat.zero_add, Nat.add_zero, qwr, not_true_eq_false, not_false_eq_true, Option.some.injEq, qe_gn0, qe_m1n, qe_gng, qe_ngn, qe_gm, qe_mg, qe_lm1, qe_lgn, qe_lem, qe_leg, qe_tm1, qe_tgn]
          exact key _ (nib_or h3 nib_0) (fun o ho => by rw [n0 o ho]; simp [e])
        · simp (disch := omega) only [qlt, qb_some, qb_none, ↓qn_1, ↓qn_2, ↓qn_3, ↓qn_4, ↓qn_9, ↓qn_1000, ↓qn_low, qi_0, qi_1, qi_2, qi_3, qi_4, qi_5, qi_6, qi_7, qi_8, qi_9, qi_10, qi_11, qi_12, qi_13, qi_14, qi_15, qi_16, qi_17, qi_20, qi_24, qi_30, qi_31, qi_32, qi_60, qi_99, qi_100, qi_200, qi_1000, qi_3400, qi_4000, qi_of, pu_gI, pu_pI, nI_leI, nI_ltI, nI_eq, nI_add, pk_mul, pk_sub, pk_div, qw_s, qw_o, qw_l, qr_s, qr_o, qr_l, ql_i, ql_s, ql_o, pk_us, pk_un, pk_uLs, pk_uLn, if_pos, if_neg, if_true, if_false, ite_self, eq_self, Nat.zero_add, Nat.add_zero, qwr, not_true_eq_false, not_false_eq_true, Option.some.injEq, qe_gn0, qe_m1n, qe_gng, qe_ngn, qe_gm, qe_mg, qe_lm1, qe_lgn, qe_lem, qe_leg, qe_tm1, qe_tgn, m7_up hf hj4 hd h]
          cases hu : upB (T.1 7) (fr T f) j
          · simp (disch := omega) only [qlt, qb_some, qb_none, ↓qn_1, ↓qn_2, ↓qn_3, ↓qn_4, ↓qn_9, ↓qn_1000, ↓qn_low, qi_0, qi_1, qi_2, qi_3, qi_4, qi_5, qi_6, qi_7, qi_8, qi_9, qi_10, qi_11, qi_12, qi_13, qi_14, qi_15, qi_16, qi_17, qi_20, qi_24, qi_30, qi_31, qi_32, qi_60, qi_99, qi_100, qi_200, qi_1000, qi_3400, qi_4000, qi_of, pu_gI, pu_pI, nI_leI, nI_ltI, nI_eq, nI_add, pk_mul, pk_sub, pk_div, qw_s, qw_o, qw_l, qr_s, qr_o, qr_l, ql_i, ql_s, ql_o, pk_us, pk_un, pk_uLs, pk_uLn, if_pos, if_neg, if_true, if_false, ite_self, eq_self, Nat.zero_add, Nat.add_zero, qwr, not_true_eq_false, not_false_eq_true, Option.some.injEq, qe_gn0, qe_m1n, qe_gng, qe_ngn, qe_gm, qe_mg, qe_lm1, qe_lgn, qe_lem, qe_leg, qe_tm1, qe_tgn, Bool.false_eq_true]
            exact key _ (nib_or h3 nib_0) (fun o ho => by rw [n0 o ho]; simp [hu])
          · simp (disch := omega) only [qlt, qb_some, qb_none, ↓qn_1, ↓qn_2, ↓qn_3, ↓qn_4, ↓qn_9, ↓qn_1000, ↓qn_low, qi_0, qi_1, qi_2, qi_3, qi_4, qi_5, qi_6, qi_7, qi_8, qi_9, qi_10, qi_11, qi_12, qi_13, qi_14, qi_15, qi_16, qi_17, qi_20, qi_24, qi_30, qi_31, qi_32, qi_60, qi_99, qi_100, qi_200, qi_1000, qi_3400, qi_4000, qi_of, pu_gI, pu_pI, nI_leI, nI_ltI, nI_eq, nI_add, pk_mul, pk_sub, pk_div, qw_s, qw_o, qw_l, qr_s, qr_o, qr_l, ql_i, ql_s, ql_o, pk_us, pk_un, pk_uLs, pk_uLn, if_pos, if_neg, if_true, if_false, ite_self, eq_self, Nat.zero_add, Nat.add_zero, qwr, not_true_eq_false, not_false_eq_true, Option.some.injEq, qe_gn0, qe_m1n, qe_gng, qe_ngn, qe_gm, qe_mg, qe_lm1, qe_lgn, qe_lem, qe_leg, qe_tm1, qe_tgn]
            exact key _ (nib_or h3 (nib_one hj4)) (fun o ho => by rw [bt_or h3 (nib_one hj4) ho, bt_one hj4 ho]; simp [hu, ht, e])
      have c2 : tw (T.1 7) g j = false → bX7_fedBy_59 (lX7_fedBy_7 T (nI f) (nI g) q) T (nI f) (nI g) s (nI j) = some (nI (fedN (T.1 7) n (fr T f) g)) := by
        intro ht
        unfold bX7_fedBy_59 bX7_fedBy_60 bX7_fedBy_91 bX7_fedBy_92
        have fin := key _ (nib_or h3 nib_0) (fun o ho => by rw [n0 o ho]; simp [ht])
        by_cases e : j = g
        · simp (disch := omega) only [qlt, qb_some, qb_none, ↓qn_1, ↓qn_2, ↓qn_3, ↓qn_4, ↓qn_9, ↓qn_1000, ↓qn_low, qi_0, qi_1, qi_2, qi_3, qi_4, qi_5, qi_6, qi_7, qi_8, qi_9, qi_10, qi_11, qi_12, qi_13, qi_14, qi_15, qi_16, qi_17, qi_20, qi_24, qi_30, qi_31, qi_32, qi_60, qi_99, qi_100, qi_200, qi_1000, qi_3400, qi_4000, qi_of, pu_gI, pu_pI, nI_leI, nI_ltI, nI_eq, nI_add, pk_mul, pk_sub, pk_div, qw_s, qw_o, qw_l, qr_s, qr_o, qr_l, ql_i, ql_s, ql_o, pk_us, pk_un, pk_uLs, pk_uLn, if_pos, if_neg, if_true, if_false, ite_self, eq_self, Nat.zero_add, Nat.add_zero, qwr, not_true_eq_false, not_false_eq_true, Option.some.injEq, qe_gn0, qe_m1n, qe_gng, qe_ngn, qe_gm, qe_mg, qe_lm1, qe_lgn, qe_lem, qe_leg, qe_tm1, qe_tgn]
          exact fin
        · simp (disch := omega) only [qlt, qb_some, qb_none, ↓qn_1, ↓qn_2, ↓qn_3, ↓qn_4, ↓qn_9, ↓qn_1000, ↓qn_low, qi_0, qi_1, qi_2, qi_3, qi_4, qi_5, qi_6, qi_7, qi_8, qi_9, qi_10, qi_11, qi_12, qi_13, qi_14, qi_15, qi_16, qi_17, qi_20, qi_24, qi_30, qi_31, qi_32, qi_60, qi_99, qi_100, qi_200, qi_1000, qi_3400, qi_4000, qi_of, pu_gI, pu_pI, nI_leI, nI_ltI, nI_eq, nI_add, pk_mul, pk_sub, pk_div, qw_s, qw_o, qw_l, qr_s, qr_o, qr_l, ql_i, ql_s, ql_o, pk_us, pk_un, pk_uLs, pk_uLn, if_pos, if_neg, if_true, if_false, ite_self, eq_self, Nat.zero_add, Nat.add_zero, qwr, not_true_eq_false, not_false_eq_true, Option.some.injEq, qe_gn0, qe_m1n, qe_gng, qe_ngn, qe_gm, qe_mg, qe_lm1, qe_lgn, qe_lem, qe_leg, qe_tm1, qe_tgn]
          exact fin
      have c3 : (tw (T.1 7) g j = (decide (gK (T.1 7) g = nI 1) && decide (gA (T.1 7) g = nI j))) → bX7_fedBy_36 (lX7_fedBy_7 T (nI f) (nI g) q) T (nI f) (nI g) s (nI j) = some (nI (fedN (T.1 7) n (fr T f) g)) := by
        intro ht
        unfold bX7_fedBy_36
        simp (disch := omega) only [qlt, qb_some, qb_none, ↓qn_1, ↓qn_2, ↓qn_3, ↓qn_4, ↓qn_9, ↓qn_1000, ↓qn_low, qi_0, qi_1, qi_2, qi_3, qi_4, qi_5, qi_6, qi_7, qi_8, qi_9, qi_10, qi_11, qi_12, qi_13, qi_14, qi_15, qi_16, qi_17, qi_20, qi_24, qi_30, qi_31, qi_32, qi_60, qi_99, qi_100, qi_200, qi_1000, qi_3400, qi_4000, qi_of, pu_gI, pu_pI, nI_leI, nI_ltI, nI_eq, nI_add, pk_mul, pk_sub, pk_div, qw_s, qw_o, qw_l, qr_s, qr_o, qr_l, ql_i, ql_s, ql_o, pk_us, pk_un, pk_uLs, pk_uLn, if_pos, if_neg, if_true, if_false, ite_self, eq_self, Nat.zero_add, Nat.add_zero, qwr, not_true_eq_false, not_false_eq_true, Option.some.injEq, qe_gn0, qe_m1n, qe_gng, qe_ngn, qe_gm, qe_mg, qe_lm1, qe_lgn, qe_lem, qe_leg, qe_tm1, qe_tgn, m7_kind hg, m7_abi hg]
        by_cases e1 : gK (T.1 7) g = nI 1
        · rw [if_pos e1]
          by_cases e2 : gA (T.1 7) g = nI j
          · rw [if_pos e2]; exact c1 (by rw [ht]; simp [e1, e2])
          · rw [if_neg e2]; exact c2 (by rw [ht]; simp [e2])
        · rw [if_neg e1]; exact c2 (by rw [ht]; simp [e1])
      simp (disch := omega) only [qlt, qb_some, qb_none, ↓qn_1, ↓qn_2, ↓qn_3, ↓qn_4, ↓qn_9, ↓qn_1000, ↓qn_low, qi_0, qi_1, qi_2, qi_3, qi_4, qi_5, qi_6, qi_7, qi_8, qi_9, qi_10, qi_11, qi_12, qi_13, qi_14, qi_15, qi_16, qi_17, qi_20, qi_24, qi_30, qi_31, qi_32, qi_60, qi_99, qi_100, qi_200, qi_1000, qi_3400, qi_4000, qi_of, pu_gI, pu_pI, nI_leI, nI_ltI, nI_eq, nI_add, pk_mul, pk_sub, pk_div, qw_s, qw_o, qw_l, qr_s, qr_o, qr_l, ql_i, ql_s, ql_o, pk_us, pk_un, pk_uLs, pk_uLn, if_pos, if_neg, if_true, if_false, ite_self, eq_self, Nat.zero_add, Nat.add_zero, qwr, not_true_eq_false, not_false_eq_true, Option.some.injEq, qe_gn0, qe_m1n, qe_gng, qe_ngn, qe_gm, qe_mg, qe_lm1, qe_lgn, qe_lem, qe_leg, qe_tm1, qe_tgn, m7_kind hj4, m7_abi hj4]
      by_cases e1 : gK (T.1 7) j = nI 1
      · rw [if_pos e1]
        by_cases e2 : gA (T.1 7) j = nI g
        · rw [if_pos e2]; exact c1 (by unfold tw; simp [e1, e2])
        · rw [if_neg e2]; exact c3 (by unfold tw; simp [e2])
      · rw [if_neg e1]; exact c3 (by unfold tw; simp [e1])
theorem m7_fed {T : vS} {n f g d : Nat} (hn : n ≤ 4) (h10 : T.1 0 10 = nI n) (hf : f < 6) (hg : g < 4) (hd : fr T f 14 = nI d) (h : d ≤ 1000) : mX7_fedBy T (nI f) (nI g) = some (nI (fedN (T.1 7) n (fr T f) g)) := by
  unfold mX7_fedBy
  simp only [qlt, qi_1, qi_31, qi_0]
  exact m7_fed_l hn h10 hf hg hd h FU 0 _ (Nat.zero_le n) (by unfold FU; omega) (nib_one hg) (fun o ho => by rw [bt_one hg ho]; simp)
theorem m7_cost {T : vS} {n f d : Nat} (hn : n ≤ 4) (h10 : T.1 0 10 = nI n) (hf : f < 6) (hF : FInv n (fr T f)) (hd : d = 12 ∨ d < 3 * n) : mX7_costOf T (nI f) (nI d) = some (cosV (T.1 7) n (fr T f) d) := by
  obtain ⟨⟨e, he, h14⟩, _, hs, _⟩ := hF
  unfold mX7_costOf cosV canB cosN
  by_cases h1 : d = 12
  · subst h1
    simp (disch := omega) only [qlt, qb_some, qb_none, ↓qn_1, ↓qn_2, ↓qn_3, ↓qn_4, ↓qn_9, ↓qn_1000, ↓qn_low, qi_0, qi_1, qi_2, qi_3, qi_4, qi_5, qi_6, qi_7, qi_8, qi_9, qi_10, qi_11, qi_12, qi_13, qi_14, qi_15, qi_16, qi_17, qi_20, qi_24, qi_30, qi_31, qi_32, qi_60, qi_99, qi_100, qi_200, qi_1000, qi_3400, qi_4000, qi_of, pu_gI, pu_pI, nI_leI, nI_ltI, nI_eq, nI_add, pk_mul, pk_sub, pk_div, qw_s, qw_o, qw_l, qr_s, qr_o, qr_l, ql_i, ql_s, ql_o, pk_us, pk_un, pk_uLs, pk_uLn, if_pos, if_neg, if_true, if_false, ite_self, eq_self, Nat.zero_add, Nat.add_zero, qwr, not_true_eq_false, not_false_eq_true, Option.some.injEq, qe_gn0, qe_m1n, qe_gng, qe_ngn, qe_gm, qe_mg, qe_lm1, qe_lgn, qe_lem, qe_leg, qe_tm1, qe_tgn]
    simp
  · have hd3 : d < 3 * n := by omega
    have hg : d / 3 < 4 := by omega
    obtain ⟨s, hs1, hs2⟩ := hs (d % 3) (by omega)
    have e3 : nI d - nI d / nI 3 * nI 3 = nI (d % 3) := pk_rem (by omega) (by decide) (by decide)
    simp only [qlt, qi_12, qi_3, e3, qi_0]
    simp (disch := omega) only [qlt, qb_some, qb_none, ↓qn_1, ↓qn_2, ↓qn_3, ↓qn_4, ↓qn_9, ↓qn_1000, ↓qn_low, qi_0, qi_1, qi_2, qi_3, qi_4, qi_5, qi_6, qi_7, qi_8, qi_9, qi_10, qi_11, qi_12, qi_13, qi_14, qi_15, qi_16, qi_17, qi_20, qi_24, qi_30, qi_31, qi_32, qi_60, qi_99, qi_100, qi_200, qi_1000, qi_3400, qi_4000, qi_of, pu_gI, pu_pI, nI_leI, nI_ltI, nI_eq, nI_add, pk_mul, pk_sub, pk_div, qw_s, qw_o, qw_l, qr_s, qr_o, qr_l, ql_i, ql_s, ql_o, pk_us, pk_un, pk_uLs, pk_uLn, if_pos, if_neg, if_true, if_false, ite_self, eq_self, Nat.zero_add, Nat.add_zero, qwr, not_true_eq_false, not_false_eq_true, Option.some.injEq, qe_gn0, qe_m1n, qe_gng, qe_ngn, qe_gm, qe_mg, qe_lm1, qe_lgn, qe_lem, qe_leg, qe_tm1, qe_tgn, m7_up hf hg h14 he, m7_fed hn h10 hf hg h14 he]
    cases hu : upB (T.1 7) (fr T f) (d / 3)
    · simp (disch := omega) only [qlt, qb_some, qb_none, ↓qn_1, ↓qn_2, ↓qn_3, ↓qn_4, ↓qn_9, ↓qn_1000, ↓qn_low, qi_0, qi_1, qi_2, qi_3, qi_4, qi_5, qi_6, qi_7, qi_8, qi_9, qi_10, qi_11, qi_12, qi_13, qi_14, qi_15, qi_16, qi_17, qi_20, qi_24, qi_30, qi_31, qi_32, qi_60, qi_99, qi_100, qi_200, qi_1000, qi_3400, qi_4000, qi_of, pu_gI, pu_pI, nI_leI, nI_ltI, nI_eq, nI_add, pk_mul, pk_sub, pk_div, qw_s, qw_o, qw_l, qr_s, qr_o, qr_l, ql_i, ql_s, ql_o, pk_us, pk_un, pk_uLs, pk_uLn, if_pos, if_neg, if_true, if_false, ite_self, eq_self, Nat.zero_add, Nat.add_zero, qwr, not_true_eq_false, not_false_eq_true, Option.some.injEq, qe_gn0, qe_m1n, qe_gng, qe_ngn, qe_gm, qe_mg, qe_lm1, qe_lgn, qe_lem, qe_leg, qe_tm1, qe_tgn, Bool.false_eq_true]
      simp [h1]
    · have hp : fedN (T.1 7) n (fr T f) (d / 3) < 128 := Nat.lt_trans (setN_lt _) (by decide)
      have hp4 := pc_le _ hp
      simp (disch := omega) only [qlt, qb_some, qb_none, ↓qn_1, ↓qn_2, ↓qn_3, ↓qn_4, ↓qn_9, ↓qn_1000, ↓qn_low, qi_0, qi_1, qi_2, qi_3, qi_4, qi_5, qi_6, qi_7, qi_8, qi_9, qi_10, qi_11, qi_12, qi_13, qi_14, qi_15, qi_16, qi_17, qi_20, qi_24, qi_30, qi_31, qi_32, qi_60, qi_99, qi_100, qi_200, qi_1000, qi_3400, qi_4000, qi_of, pu_gI, pu_pI, nI_leI, nI_ltI, nI_eq, nI_add, pk_mul, pk_sub, pk_div, qw_s, qw_o, qw_l, qr_s, qr_o, qr_l, ql_i, ql_s, ql_o, pk_us, pk_un, pk_uLs, pk_uLn, if_pos, if_neg, if_true, if_false, ite_self, eq_self, Nat.zero_add, Nat.add_zero, qwr, not_true_eq_false, not_false_eq_true, Option.some.injEq, qe_gn0, qe_m1n, qe_gng, qe_ngn, qe_gm, qe_mg, qe_lm1, qe_lgn, qe_lem, qe_leg, qe_tm1, qe_tgn, pc7 hp, m7_v hf, hs2, nI_clamp]
      by_cases hc : s < pcN (fedN (T.1 7) n (fr T f) (d / 3))
      · simp (disch := omega) only [qlt, qb_some, qb_none, ↓qn_1, ↓qn_2, ↓qn_3, ↓qn_4, ↓qn_9, ↓qn_1000, ↓qn_low, qi_0, qi_1, qi_2, qi_3, qi_4, qi_5, qi_6, qi_7, qi_8, qi_9, qi_10, qi_11, qi_12, qi_13, qi_14, qi_15, qi_16, qi_17, qi_20, qi_24, qi_30, qi_31, qi_32, qi_60, qi_99, qi_100, qi_200, qi_1000, qi_3400, qi_4000, qi_of, pu_gI, pu_pI, nI_leI, nI_ltI, nI_eq, nI_add, pk_mul, pk_sub, pk_div, qw_s, qw_o, qw_l, qr_s, qr_o, qr_l, ql_i, ql_s, ql_o, pk_us, pk_un, pk_uLs, pk_uLn, if_pos, if_neg, if_true, if_false, ite_self, eq_self, Nat.zero_add, Nat.add_zero, qwr, not_true_eq_false, not_false_eq_true, Option.some.injEq, qe_gn0, qe_m1n, qe_gng, qe_ngn, qe_gm, qe_mg, qe_lm1, qe_lgn, qe_lem, qe_leg, qe_tm1, qe_tgn]
        simp [h1, hc]
        omega
      · simp (disch := omega) only [qlt, qb_some, qb_none, ↓qn_1, ↓qn_2, ↓qn_3, ↓qn_4, ↓qn_9, ↓qn_1000, ↓qn_low, qi_0, qi_1, qi_2, qi_3, qi_4, qi_5, qi_6, qi_7, qi_8, qi_9, qi_10, qi_11, qi_12, qi_13, qi_14, qi_15, qi_16, qi_17, qi_20, qi_24, qi_30, qi_31, qi_32, qi_60, qi_99, qi_100, qi_200, qi_1000, qi_3400, qi_4000, qi_of, pu_gI, pu_pI, nI_leI, nI_ltI, nI_eq, nI_add, pk_mul, pk_sub, pk_div, qw_s, qw_o, qw_l, qr_s, qr_o, qr_l, ql_i, ql_s, ql_o, pk_us, pk_un, pk_uLs, pk_uLn, if_pos, if_neg, if_true, if_false, ite_self, eq_self, Nat.zero_add, Nat.add_zero, qwr, not_true_eq_false, not_false_eq_true, Option.some.injEq, qe_gn0, qe_m1n, qe_gng, qe_ngn, qe_gm, qe_mg, qe_lm1, qe_lgn, qe_lem, qe_leg, qe_tm1, qe_tgn]
        have : pcN (fedN (T.1 7) n (fr T f) (d / 3)) ≤ s := by omega
        simp [h1, hd3, this]
