/-! ===== PURE: sets of gods ===== -/
theorem nb_and0 : ∀ a, a < 16 → ∀ b, b < 16 → nI a &&& nI b = nI (a &&& b) ∧ (a &&& b) < 16 := by decide +kernel
theorem nb_or0 : ∀ a, a < 16 → ∀ b, b < 16 → nI a ||| nI b = nI (a ||| b) ∧ (a ||| b) < 16 := by decide +kernel
theorem nb_not0 : ∀ a, a < 16 → ∀ b, b < 16 → nI a &&& (nI b ^^^ m1) = nI (a - (a &&& b)) ∧ (a - (a &&& b)) < 16 := by decide +kernel
theorem bt_and0 : ∀ a, a < 16 → ∀ b, b < 16 → ∀ g, g < 4 → bt (nI a &&& nI b) g = (bt (nI a) g && bt (nI b) g) := by decide +kernel
theorem bt_or0 : ∀ a, a < 16 → ∀ b, b < 16 → ∀ g, g < 4 → bt (nI a ||| nI b) g = (bt (nI a) g || bt (nI b) g) := by decide +kernel
theorem bt_not0 : ∀ a, a < 16 → ∀ b, b < 16 → ∀ g, g < 4 → bt (nI a &&& (nI b ^^^ m1)) g = (bt (nI a) g && !bt (nI b) g) := by decide +kernel
theorem bt_one0 : ∀ a, a < 4 → (nib (nI 1 <<< (nI a &&& nI 31)) ∧ ∀ g, g < 4 → bt (nI 1 <<< (nI a &&& nI 31)) g = decide (g = a)) := by
  intro a ha
  refine ⟨?_, ?_⟩
  · have : ∀ a, a < 4 → nI 1 <<< (nI a &&& nI 31) = nI (2 ^ a) ∧ 2 ^ a < 16 := by decide +kernel
    exact ⟨2 ^ a, (this a ha).2, (this a ha).1⟩
  · have : ∀ a, a < 4 → ∀ g, g < 4 → bt (nI 1 <<< (nI a &&& nI 31)) g = decide (g = a) := by decide +kernel
    exact this a ha
theorem bt_ext0 : ∀ a, a < 16 → ∀ b, b < 16 → (bt (nI a) 0 = bt (nI b) 0 ∧ bt (nI a) 1 = bt (nI b) 1 ∧ bt (nI a) 2 = bt (nI b) 2 ∧ bt (nI a) 3 = bt (nI b) 3) → a = b := by decide +kernel
theorem bt_c0 : ∀ a, a < 16 → ∀ g, g < 4 → ((((nI a >>> (nI g &&& nI 31)) &&& nI 1) = nI 0) ↔ bt (nI a) g = false) := by decide +kernel
theorem bt_z : ∀ g, g < 4 → bt (nI 0) g = false := by decide +kernel
theorem nib_and {a b : Int32} (ha : nib a) (hb : nib b) : nib (a &&& b) := by
  obtain ⟨x, hx, rfl⟩ := ha
  obtain ⟨y, hy, rfl⟩ := hb
  exact ⟨_, (nb_and0 x hx y hy).2, (nb_and0 x hx y hy).1⟩
theorem nib_or {a b : Int32} (ha : nib a) (hb : nib b) : nib (a ||| b) := by
  obtain ⟨x, hx, rfl⟩ := ha
  obtain ⟨y, hy, rfl⟩ := hb
  exact ⟨_, (nb_or0 x hx y hy).2, (nb_or0 x hx y hy).1⟩
theorem nib_not {a b : Int32} (ha : nib a) (hb : nib b) : nib (a &&& (b ^^^ m1)) := by
  obtain ⟨x, hx, rfl⟩ := ha
  obtain ⟨y, hy, rfl⟩ := hb
  exact ⟨_, (nb_not0 x hx y hy).2, (nb_not0 x hx y hy).1⟩
theorem bt_and {a b : Int32} (ha : nib a) (hb : nib b) {g : Nat} (hg : g < 4) : bt (a &&& b) g = (bt a g && bt b g) := by
  obtain ⟨x, hx, rfl⟩ := ha
  obtain ⟨y, hy, rfl⟩ := hb
  exact bt_and0 x hx y hy g hg
theorem bt_or {a b : Int32} (ha : nib a) (hb : nib b) {g : Nat} (hg : g < 4) : bt (a ||| b) g = (bt a g || bt b g) := by
  obtain ⟨x, hx, rfl⟩ := ha
  obtain ⟨y, hy, rfl⟩ := hb
  exact bt_or0 x hx y hy g hg
theorem bt_not {a b : Int32} (ha : nib a) (hb : nib b) {g : Nat} (hg : g < 4) : bt (a &&& (b ^^^ m1)) g = (bt a g && !bt b g) := by
  obtain ⟨x, hx, rfl⟩ := ha
  obtain ⟨y, hy, rfl⟩ := hb
  exact bt_not0 x hx y hy g hg
theorem bt_c {a : Int32} (ha : nib a) {g : Nat} (hg : g < 4) : (((a >>> (nI g &&& nI 31)) &&& nI 1) = nI 0) = (bt a g = false) := by
  obtain ⟨x, hx, rfl⟩ := ha
  exact propext (bt_c0 x hx g hg)
theorem nib_one {a : Nat} (h : a < 4) : nib (nI 1 <<< (nI a &&& nI 31)) := (bt_one0 a h).1
theorem bt_one {a g : Nat} (h : a < 4) (hg : g < 4) : bt (nI 1 <<< (nI a &&& nI 31)) g = decide (g = a) := (bt_one0 a h).2 g hg
theorem nib_0 : nib (nI 0) := ⟨0, by decide, rfl⟩
theorem bt_ext {a b : Int32} (ha : nib a) (hb : nib b) (h : ∀ g, g < 4 → bt a g = bt b g) : a = b := by
  obtain ⟨x, hx, rfl⟩ := ha
  obtain ⟨y, hy, rfl⟩ := hb
  rw [bt_ext0 x hx y hy ⟨h 0 (by decide), h 1 (by decide), h 2 (by decide), h 3 (by decide)⟩]
theorem nib_all {n : Nat} (h : n ≤ 4) : nib (nI (2 ^ n - 1)) ∧ ∀ g, g < 4 → bt (nI (2 ^ n - 1)) g = decide (g < n) := by
  have : ∀ n, n < 5 → (2 ^ n - 1 < 16 ∧ ∀ g, g < 4 → bt (nI (2 ^ n - 1)) g = decide (g < n)) := by decide +kernel
  obtain ⟨h1, h2⟩ := this n (by omega)
  exact ⟨⟨_, h1, rfl⟩, h2⟩
theorem has7_y (s : Int32) (g : Nat) : mX7_has s (nI g) = if bt s g = true then nI 1 else nI 0 := by
  unfold mX7_has bt
  simp (disch := omega) only [qlt, qb_some, qb_none, ↓qn_1, ↓qn_2, ↓qn_3, ↓qn_4, ↓qn_9, ↓qn_1000, ↓qn_low, qi_0, qi_1, qi_2, qi_3, qi_4, qi_5, qi_6, qi_7, qi_8, qi_9, qi_10, qi_11, qi_12, qi_13, qi_14, qi_15, qi_16, qi_17, qi_20, qi_24, qi_30, qi_31, qi_32, qi_60, qi_99, qi_100, qi_200, qi_1000, qi_3400, qi_4000, qi_of, pu_gI, pu_pI, nI_leI, nI_ltI, nI_eq, nI_add, pk_mul, pk_sub, pk_div, qw_s, qw_o, qw_l, qr_s, qr_o, qr_l, ql_i, ql_s, ql_o, pk_us, pk_un, pk_uLs, pk_uLn, if_pos, if_neg, if_true, if_false, ite_self, eq_self, Nat.zero_add, Nat.add_zero, qwr, not_true_eq_false, not_false_eq_true, Option.some.injEq, qe_gn0, qe_m1n, qe_gng, qe_ngn, qe_gm, qe_mg, qe_lm1, qe_lgn, qe_lem, qe_leg, qe_tm1, qe_tgn, decide_eq_true_eq]
/-! sets by what is in them -/
def setN (p : Nat → Bool) : Nat := (if p 0 = true then 1 else 0) + (if p 1 = true then 2 else 0) + (if p 2 = true then 4 else 0) + (if p 3 = true then 8 else 0)
theorem setN_lt (p : Nat → Bool) : setN p < 16 := by unfold setN; split <;> split <;> split <;> split <;> decide
theorem setN_b (p : Nat → Bool) {g : Nat} (hg : g < 4) : bt (nI (setN p)) g = p g := by
  have key : ∀ a b c d : Bool, bt (nI ((if a = true then 1 else 0) + (if b = true then 2 else 0) + (if c = true then 4 else 0) + (if d = true then 8 else 0))) 0 = a ∧ bt (nI ((if a = true then 1 else 0) + (if b = true then 2 else 0) + (if c = true then 4 else 0) + (if d = true then 8 else 0))) 1 = b ∧ bt (nI ((if a = true then 1 else 0) + (if b = true then 2 else 0) + (if c = true then 4 else 0) + (if d = true then 8 else 0))) 2 = c ∧ bt (nI ((if a = true then 1 else 0) + (if b = true then 2 else 0) + (if c = true then 4 else 0) + (if d = true then 8 else 0))) 3 = d := by decide +kernel
  obtain ⟨k0, k1, k2, k3⟩ := key (p 0) (p 1) (p 2) (p 3)
  have : g = 0 ∨ g = 1 ∨ g = 2 ∨ g = 3 := by omega
  rcases this with rfl | rfl | rfl | rfl
  · exact k0
  · exact k1
  · exact k2
  · exact k3
theorem nib_set (p : Nat → Bool) : nib (nI (setN p)) := ⟨_, setN_lt p, rfl⟩
theorem set_of {s : Int32} (h : nib s) (p : Nat → Bool) (hp : ∀ g, g < 4 → bt s g = p g) : s = nI (setN p) :=
  bt_ext h (nib_set p) (fun g hg => by rw [hp g hg, setN_b p hg])
/-! how many -/
def pcN (m : Nat) : Nat := m % 2 + m / 2 % 2 + m / 4 % 2 + m / 8 % 2 + m / 16 % 2 + m / 32 % 2 + m / 64 % 2
theorem pc6 : ∀ m, m < 128 → mJ6_bitCount_0f7a4 (nI m) = nI (pcN m) := by decide +kernel
theorem pc7_s : ∀ m, m < 128 → m ≠ 0 → nI m &&& nI (m - 1) = nI (m &&& (m - 1)) ∧ (m &&& (m - 1)) < m ∧ pcN (m &&& (m - 1)) + 1 = pcN m := by decide +kernel
theorem pc7_l : ∀ n m c, m < 128 → m < n → lX7_bits_4 n (nI c) (nI m) = some (nI (c + pcN m)) := by
  intro n
  induction n with
  | zero => intro m c _ h; omega
  | succ n ih =>
    intro m c h1 h2
    rw [lX7_bits_4]
    by_cases h : m = 0
    · subst h
      simp (disch := omega) only [qlt, qb_some, qb_none, ↓qn_1, ↓qn_2, ↓qn_3, ↓qn_4, ↓qn_9, ↓qn_1000, ↓qn_low, qi_0, qi_1, qi_2, qi_3, qi_4, qi_5, qi_6, qi_7, qi_8, qi_9, qi_10, qi_11, qi_12, qi_13, qi_14, qi_15, qi_16, qi_17, qi_20, qi_24, qi_30, qi_31, qi_32, qi_60, qi_99, qi_100, qi_200, qi_1000, qi_3400, qi_4000, qi_of, pu_gI, pu_pI, nI_leI, nI_ltI, nI_eq, nI_add, pk_mul, pk_sub, pk_div, qw_s, qw_o, qw_l, qr_s, qr_o, qr_l, ql_i, ql_s, ql_o, pk_us, pk_un, pk_uLs, pk_uLn, if_pos, if_neg, if_true, if_false, ite_self, eq_self, Nat.zero_add, Nat.add_zero, qwr, not_true_eq_false, not_false_eq_true, Option.some.injEq, qe_gn0, qe_m1n, qe_gng, qe_ngn, qe_gm, qe_mg, qe_lm1, qe_lgn, qe_lem, qe_leg, qe_tm1, qe_tgn]
      rfl
    · obtain ⟨e1, e2, e3⟩ := pc7_s m h1 h
      simp (disch := omega) only [qlt, qb_some, qb_none, ↓qn_1, ↓qn_2, ↓qn_3, ↓qn_4, ↓qn_9, ↓qn_1000, ↓qn_low, qi_0, qi_1, qi_2, qi_3, qi_4, qi_5, qi_6, qi_7, qi_8, qi_9, qi_10, qi_11, qi_12, qi_13, qi_14, qi_15, qi_16, qi_17, qi_20, qi_24, qi_30, qi_31, qi_32, qi_60, qi_99, qi_100, qi_200, qi_1000, qi_3400, qi_4000, qi_of, pu_gI, pu_pI, nI_leI, nI_ltI, nI_eq, nI_add, pk_mul, pk_sub, pk_div, qw_s, qw_o, qw_l, qr_s, qr_o, qr_l, ql_i, ql_s, ql_o, pk_us, pk_un, pk_uLs, pk_uLn, if_pos, if_neg, if_true, if_false, ite_self, eq_self, Nat.zero_add, Nat.add_zero, qwr, not_true_eq_false, not_false_eq_true, Option.some.injEq, qe_gn0, qe_m1n, qe_gng, qe_ngn, qe_gm, qe_mg, qe_lm1, qe_lgn, qe_lem, qe_leg, qe_tm1, qe_tgn, e1]
      rw [ih _ _ (by omega) (by omega), ← e3]
      congr 2
      omega
theorem pc7 {m : Nat} (h : m < 128) : mX7_bits (nI m) = some (nI (pcN m)) := by
  unfold mX7_bits
  have := pc7_l FU m 0 h (by unfold FU; omega)
  rw [Nat.zero_add] at this
  exact this
theorem pc_le : ∀ m, m < 128 → pcN m ≤ 7 := by decide +kernel
theorem pc_0 : ∀ m, m < 128 → (pcN m = 0 ↔ m = 0) := by decide +kernel
theorem pc_le4 : ∀ m, m < 16 → pcN m ≤ 4 := by decide +kernel
