/-! ===== PURE: numbers by nI, reads and writes of the two worlds ===== -/
/-- (no proof by rfl: the kernel would unfold a loop's fuel) -/
theorem qb_some {α β : Type} (a : α) (f : α → Option β) : (some a).bind f = f a := by
  have h : ∀ o : Option α, o = some a → o.bind f = f a := by
    intro o ho
    subst ho
    rfl
  exact h _ rfl
theorem qb_none {α β : Type} (f : α → Option β) : (none : Option α).bind f = none := by
  have h : ∀ o : Option α, o = none → o.bind f = none := by
    intro o ho
    subst ho
    rfl
  exact h _ rfl
theorem qlt {α β : Type} (e : α) (K : α → β) : lt e K = K e := by
  have h : ∀ x, x = e → lt x K = K e := by
    intro x hx
    subst hx
    rfl
  exact h e rfl
def gN : Int32 := -9
def m1 : Int32 := -1
def q2 : Int32 := -2
def q3 : Int32 := -3
def q4 : Int32 := -4
def qE : Int32 := -1000
def qL : Int32 := -99999
theorem qn_1 : (-1 : Int32) = m1 := rfl
theorem qn_2 : (-2 : Int32) = q2 := rfl
theorem qn_3 : (-3 : Int32) = q3 := rfl
theorem qn_4 : (-4 : Int32) = q4 := rfl
theorem qn_9 : (-9 : Int32) = gN := rfl
theorem qn_1000 : (-1000 : Int32) = qE := rfl
theorem qn_low : (-99999 : Int32) = qL := rfl
theorem qi_0 : (0 : Int32) = nI 0 := by decide +kernel
theorem qi_1 : (1 : Int32) = nI 1 := by decide +kernel
theorem qi_2 : (2 : Int32) = nI 2 := by decide +kernel
theorem qi_3 : (3 : Int32) = nI 3 := by decide +kernel
theorem qi_4 : (4 : Int32) = nI 4 := by decide +kernel
theorem qi_5 : (5 : Int32) = nI 5 := by decide +kernel
theorem qi_6 : (6 : Int32) = nI 6 := by decide +kernel
theorem qi_7 : (7 : Int32) = nI 7 := by decide +kernel
theorem qi_8 : (8 : Int32) = nI 8 := by decide +kernel
theorem qi_9 : (9 : Int32) = nI 9 := by decide +kernel
theorem qi_10 : (10 : Int32) = nI 10 := by decide +kernel
theorem qi_11 : (11 : Int32) = nI 11 := by decide +kernel
theorem qi_12 : (12 : Int32) = nI 12 := by decide +kernel
theorem qi_13 : (13 : Int32) = nI 13 := by decide +kernel
theorem qi_14 : (14 : Int32) = nI 14 := by decide +kernel
theorem qi_15 : (15 : Int32) = nI 15 := by decide +kernel
theorem qi_16 : (16 : Int32) = nI 16 := by decide +kernel
theorem qi_17 : (17 : Int32) = nI 17 := by decide +kernel
theorem qi_20 : (20 : Int32) = nI 20 := by decide +kernel
theorem qi_24 : (24 : Int32) = nI 24 := by decide +kernel
theorem qi_30 : (30 : Int32) = nI 30 := by decide +kernel
theorem qi_31 : (31 : Int32) = nI 31 := by decide +kernel
theorem qi_32 : (32 : Int32) = nI 32 := by decide +kernel
theorem qi_60 : (60 : Int32) = nI 60 := by decide +kernel
theorem qi_99 : (99 : Int32) = nI 99 := by decide +kernel
theorem qi_100 : (100 : Int32) = nI 100 := by decide +kernel
theorem qi_200 : (200 : Int32) = nI 200 := by decide +kernel
theorem qi_1000 : (1000 : Int32) = nI 1000 := by decide +kernel
theorem qi_3400 : (3400 : Int32) = nI 3400 := by decide +kernel
theorem qi_4000 : (4000 : Int32) = nI 4000 := by decide +kernel
theorem qi_of (z : Nat) : Int32.ofNat z = nI z := rfl
theorem qg_int : gN.toInt = -9 := by decide +kernel
theorem qm_int : m1.toInt = -1 := by decide +kernel
/-- gone or missing is no number of those -/
theorem qe_gn {n : Nat} (h : n < 2 ^ 31) : nI n ≠ gN := by
  intro e
  have := congrArg Int32.toInt e
  rw [nI_toInt h, qg_int] at this
  omega
theorem qe_mn {n : Nat} (h : n < 2 ^ 31) : nI n ≠ m1 := by
  intro e
  have := congrArg Int32.toInt e
  rw [nI_toInt h, qm_int] at this
  omega
theorem qe_gn0 {n : Nat} (h : n < 2 ^ 31) : (nI n = gN) = False := eq_false (qe_gn h)
theorem qe_m1n {n : Nat} (h : n < 2 ^ 31) : (nI n = m1) = False := eq_false (qe_mn h)
theorem qe_gng {n : Nat} (h : n < 2 ^ 31) : (gN = nI n) = False := eq_false (fun e => qe_gn h e.symm)
theorem qe_ngn {n : Nat} (h : n < 2 ^ 31) : (m1 = nI n) = False := eq_false (fun e => qe_mn h e.symm)
theorem qe_gm : (gN = m1) = False := eq_false (by decide +kernel)
theorem qe_mg : (m1 = gN) = False := eq_false (by decide +kernel)
theorem qe_lm1 {n : Nat} (h : n < 2 ^ 31) : (m1 < nI n) = True := eq_true (by
  rw [Int32.lt_iff_toInt_lt, qm_int, nI_toInt h]; omega)
theorem qe_lgn {n : Nat} (h : n < 2 ^ 31) : (gN < nI n) = True := eq_true (by
  rw [Int32.lt_iff_toInt_lt, qg_int, nI_toInt h]; omega)
theorem qe_lem {n : Nat} (h : n < 2 ^ 31) : (nI n ≤ m1) = False := eq_false (by
  rw [Int32.le_iff_toInt_le, qm_int, nI_toInt h]; omega)
theorem qe_leg {n : Nat} (h : n < 2 ^ 31) : (nI n ≤ gN) = False := eq_false (by
  rw [Int32.le_iff_toInt_le, qg_int, nI_toInt h]; omega)
theorem qe_tm1 {n : Nat} (h : n < 2 ^ 31) : (nI n < m1) = False := eq_false (by
  rw [Int32.lt_iff_toInt_lt, qm_int, nI_toInt h]; omega)
theorem qe_tgn {n : Nat} (h : n < 2 ^ 31) : (nI n < gN) = False := eq_false (by
  rw [Int32.lt_iff_toInt_lt, qg_int, nI_toInt h]; omega)
theorem qw_s (S : vS) (k j : Nat) (v : Int32) : (wI S k j v).1 k = upd (S.1 k) j v := if_pos rfl
theorem qw_o {S : vS} {k j c : Nat} {v : Int32} (h : c ≠ k) : (wI S k j v).1 c = S.1 c := if_neg h
theorem qw_l (S : vS) (k j : Nat) (v : Int32) : (wI S k j v).2 = S.2 := rfl
theorem qr_s (S : vS) (k : Nat) (f : Nat → Int32) : (wR S k f).1 k = f := if_pos rfl
theorem qr_o {S : vS} {k c : Nat} {f : Nat → Int32} (h : c ≠ k) : (wR S k f).1 c = S.1 c := if_neg h
theorem qr_l (S : vS) (k : Nat) (f : Nat → Int32) : (wR S k f).2 = S.2 := rfl
theorem ql_i (S : vS) (k j : Nat) (v : Int64) : (wL S k j v).1 = S.1 := rfl
theorem ql_s (S : vS) (k j : Nat) (v : Int64) : (wL S k j v).2 k = vp_updL (S.2 k) j v := if_pos rfl
theorem ql_o {S : vS} {k j c : Nat} {v : Int64} (h : c ≠ k) : (wL S k j v).2 c = S.2 c := if_neg h
theorem qwr (S : vS) (c j : Nat) (f : Nat → Int32) (x : Int32) : wI (wR S c f) c j x = wR S c (upd f j x) := by
  refine Prod.ext ?_ rfl
  funext q
  show (if q = c then upd ((wR S c f).1 c) j x else if q = c then f else S.1 q) = if q = c then upd f j x else S.1 q
  rw [qr_s]
  split <;> rfl
theorem qa_rwl {k z r : Nat} (h : r < z) (hz : z < 2 ^ 31) : aI (rwl k z) (nI r) = some (k + 2 + r) := by
  unfold aI
  rw [if_neg (nI_pos (by omega)), nI_clamp (by omega)]
  simp [rwl, h]
theorem qa_scl (k : Nat) {j : Nat} (h : j < 5) : aI (scl k) (nI j) = some (k + 2 + 4 * j) := by
  unfold aI
  rw [if_neg (nI_pos (by omega)), nI_clamp (by omega)]
  have : j = 0 ∨ j = 1 ∨ j = 2 ∨ j = 3 ∨ j = 4 := by omega
  rcases this with rfl | rfl | rfl | rfl | rfl <;> rfl
theorem qa_kept {j : Nat} (h : j < 3) : aI [47, 63, 79] (nI j) = some (47 + 16 * j) := by
  unfold aI
  rw [if_neg (nI_pos (by omega)), nI_clamp (by omega)]
  have : j = 0 ∨ j = 1 ∨ j = 2 := by omega
  rcases this with rfl | rfl | rfl <;> rfl
/-- a number between bounds, or none such -/
def oR (a : Int32) (N : Nat) : Prop := a < nI 0 ∨ nI N ≤ a
theorem oR_or (a : Int32) {N : Nat} (h : N < 2 ^ 31) : oR a N ∨ ∃ k, k < N ∧ a = nI k := by
  rcases pk_ix a h with h1 | h1 | h1
  · exact Or.inl (Or.inl (by rw [nI_0]; exact h1))
  · exact Or.inl (Or.inr h1)
  · exact Or.inr h1
theorem oR_in7 {a : Int32} {N : Nat} (hN : N < 2 ^ 30) (h : oR a (N + 1)) : mX7_in a (nI 0) (nI N) = nI 0 := by
  unfold mX7_in bX7_in_14
  rcases h with h | h
  · rw [if_pos h]; exact qi_0
  · rw [if_neg (by rw [Int32.not_lt]; exact Int32.le_trans (nI_le (by omega) (by omega)) h), if_pos (Int32.lt_of_lt_of_le (nI_lt (Nat.lt_succ_self N) (by omega)) h)]
    exact qi_0
theorem in7_y {a l h : Nat} (h1 : l ≤ a) (h2 : a ≤ h) (h3 : h < 2 ^ 31) : mX7_in (nI a) (nI l) (nI h) = nI 1 := by
  unfold mX7_in bX7_in_14
  rw [if_neg (nI_nlt h1 (by omega)), if_neg (nI_nlt h2 h3)]
  exact qi_1
theorem in7_lo {a l h : Nat} (h1 : a < l) (h3 : l < 2 ^ 31) : mX7_in (nI a) (nI l) (nI h) = nI 0 := by
  unfold mX7_in bX7_in_14
  rw [if_pos (nI_lt h1 h3)]
  exact qi_0
theorem in7_hi {a l h : Nat} (h1 : h < a) (h3 : a < 2 ^ 31) : mX7_in (nI a) (nI l) (nI h) = nI 0 := by
  unfold mX7_in bX7_in_14
  split
  · exact qi_0
  · rw [if_pos (nI_lt h1 h3)]
    exact qi_0
theorem in7_m {a : Nat} (h3 : a < 2 ^ 31) : mX7_in (nI a) (nI 0) m1 = nI 0 := by
  unfold mX7_in bX7_in_14
  rw [if_neg (nI_nlt (Nat.zero_le a) h3), if_pos (by rw [qe_lm1 h3]; trivial)]
  exact qi_0
/-- a number as told: its sign, or it is a Nat -/
theorem sg_or (a : Int32) : a < nI 0 ∨ ∃ k, k < 2 ^ 31 ∧ a = nI k := by
  by_cases h : a < 0
  · exact Or.inl (by rw [nI_0]; exact h)
  · exact Or.inr (nI_of h)
theorem sg_le {a : Int32} {n : Nat} (h : a < nI 0) (hn : n < 2 ^ 31) : a < nI n :=
  Int32.lt_of_lt_of_le h (nI_le (Nat.zero_le n) hn)
theorem sg_nle {a : Int32} {n : Nat} (h : a < nI 0) (hn : n < 2 ^ 31) : ¬ nI n ≤ a :=
  Int32.not_le.mpr (sg_le h hn)
theorem qI_le (n : Nat) (h : n < 2 ^ 31) (k : Nat) (hk : k ≤ n) : nI k = nI n ↔ k = n := nI_eq (by omega) h
theorem up_ext {f g : Nat → Int32} {k : Nat} {x : Int32} (h1 : g k = x) (h2 : ∀ i, i ≠ k → g i = f i) : upd f k x = g := by
  funext i
  unfold upd
  split
  · rename_i h; rw [h, h1]
  · rename_i h; rw [h2 i h]
theorem sg_leT {a : Int32} {n : Nat} (h : a < nI 0) (hn : n < 2 ^ 31) : (a ≤ nI n) = True := eq_true (Int32.le_of_lt (sg_le h hn))
theorem sg_geF {a : Int32} {n : Nat} (h : a < nI 0) (hn : n < 2 ^ 31) : (nI n ≤ a) = False := eq_false (sg_nle h hn)
theorem sg_ltT {a : Int32} {n : Nat} (h : a < nI 0) (hn : n < 2 ^ 31) : (a < nI n) = True := eq_true (sg_le h hn)
theorem sg_gtF {a : Int32} {n : Nat} (h : a < nI 0) (hn : n < 2 ^ 31) : (nI n < a) = False := eq_false (fun g => absurd (Int32.lt_trans g (sg_le h hn)) (Int32.lt_irrefl))
theorem sg_eqF {a : Int32} {n : Nat} (h : a < nI 0) (hn : n < 2 ^ 31) : (a = nI n) = False := eq_false (fun g => absurd (sg_le h hn) (by rw [g]; exact Int32.lt_irrefl))
theorem bg_leF {a : Int32} {N n : Nat} (h : nI N ≤ a) (hn : n < N) (hN : N < 2 ^ 31) : (a ≤ nI n) = False := eq_false (fun g => absurd (Int32.le_trans h g) (Int32.not_le.mpr (nI_lt hn hN)))
theorem bg_ltT {a : Int32} {N n : Nat} (h : nI N ≤ a) (hn : n < N) (hN : N < 2 ^ 31) : (nI n < a) = True := eq_true (Int32.lt_of_lt_of_le (nI_lt hn hN) h)
theorem bg_geT {a : Int32} {N n : Nat} (h : nI N ≤ a) (hn : n ≤ N) (hN : N < 2 ^ 31) : (nI n ≤ a) = True := eq_true (Int32.le_trans (nI_le hn hN) h)
theorem bg_ltF {a : Int32} {N n : Nat} (h : nI N ≤ a) (hn : n ≤ N) (hN : N < 2 ^ 31) : (a < nI n) = False := eq_false (fun g => absurd (Int32.lt_of_le_of_lt h g) (nI_nlt hn hN))
theorem bg_eqF {a : Int32} {N n : Nat} (h : nI N ≤ a) (hn : n < N) (hN : N < 2 ^ 31) : (a = nI n) = False := eq_false (fun g => absurd (by rw [g] at h; exact h) (nI_ge hn hN))
theorem bg_eqF2 {a : Int32} {N n : Nat} (h : nI N ≤ a) (hn : n < N) (hN : N < 2 ^ 31) : (nI n = a) = False := eq_false (fun g => absurd (by rw [← g] at h; exact h) (nI_ge hn hN))
theorem sg_eqF2 {a : Int32} {n : Nat} (h : a < nI 0) (hn : n < 2 ^ 31) : (nI n = a) = False := eq_false (fun g => absurd (sg_le h hn) (by rw [← g]; exact Int32.lt_irrefl))
