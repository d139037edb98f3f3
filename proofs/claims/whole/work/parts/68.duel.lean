/-! ===== PURE: two villages by turns ===== -/
def iS (p : Nat → Int32) : Nat → Int32
  | 0 => nI 0
  | k + 1 => iS p k + p k
def stD (much : Bool) (d : Nat) (v : Option Int32) (s : Bool × Int32 × Nat) : Bool × Int32 × Nat :=
  match v with
  | none => s
  | some v => if s.1 = false then (true, v, d) else if much = true then (if s.2.1 < v then (true, v, d) else s) else (if v < s.2.1 then (true, v, d) else s)
def dfold (X : Nat → Option Int32) (much : Bool) : Nat → (Bool × Int32 × Nat) → (Bool × Int32 × Nat)
  | 0, s => s
  | k + 1, s => dfold X much k (stD much (12 - k) (X (12 - k)) s)
def sentS (G : Nat → Int32) (n : Nat) (F : Nat → Int32) (d : Nat) (set : Int32) : Int32 := iS (fun g => if bt set g = true then snt G n F d g else nI 0) n
/-- what it comes to, and the first offering -/
def duelV (G : Nat → Int32) (n : Nat) (set : Int32) : Nat → Bool → (Nat → Int32) → Bool × Int32 × Nat
  | 0, _, _ => (false, nI 0, 12)
  | L + 1, much, F => dfold (fun d => if canB G n F d = true then some (sentS G n F d set + (duelV G n set L (!much) (dyF G n F d)).2.1) else none) much 13 (false, nI 0, 12)
def dX (G : Nat → Int32) (n : Nat) (set : Int32) (L : Nat) (much : Bool) (F : Nat → Int32) (d : Nat) : Option Int32 := if canB G n F d = true then some (sentS G n F d set + (duelV G n set L (!much) (dyF G n F d)).2.1) else none
theorem duelV_s (G : Nat → Int32) (n : Nat) (set : Int32) (L : Nat) (much : Bool) (F : Nat → Int32) : duelV G n set (L + 1) much F = dfold (dX G n set L much F) much 13 (false, nI 0, 12) := rfl
theorem dfold_s (X : Nat → Option Int32) (much : Bool) {d : Nat} (hd : d < 13) (s : Bool × Int32 × Nat) : dfold X much (13 - d) s = dfold X much (12 - d) (stD much d (X d) s) := by
  have : 13 - d = (12 - d) + 1 := by omega
  rw [this]
  show dfold X much (12 - d) (stD much (12 - (12 - d)) (X (12 - (12 - d))) s) = _
  rw [show 12 - (12 - d) = d by omega]
theorem stD_first {much : Bool} {d : Nat} {v : Option Int32} {s : Bool × Int32 × Nat} (hd : d ≤ 12) (hs : s.2.2 ≤ 12) : (stD much d v s).2.2 ≤ 12 := by
  unfold stD
  cases v with
  | none => exact hs
  | some v =>
    dsimp only
    split
    · exact hd
    · split
      · split
        · exact hd
        · exact hs
      · split
        · exact hd
        · exact hs
theorem dfold_first {X : Nat → Option Int32} {much : Bool} : ∀ k (s : Bool × Int32 × Nat), s.2.2 ≤ 12 → (dfold X much k s).2.2 ≤ 12 := by
  intro k
  induction k with
  | zero => intro s hs; exact hs
  | succ k ih => intro s hs; exact ih _ (stD_first (by omega) hs)
theorem duelV_first {G : Nat → Int32} {n : Nat} {set : Int32} {L : Nat} {much : Bool} {F : Nat → Int32} : (duelV G n set L much F).2.2 ≤ 12 := by
  cases L with
  | zero => exact Nat.le_refl 12
  | succ L => rw [duelV_s]; exact dfold_first 13 _ (Nat.le_refl 12)
theorem stD_any {much : Bool} {d : Nat} {v : Option Int32} {s : Bool × Int32 × Nat} (hs : s.1 = true) : (stD much d v s).1 = true := by
  unfold stD
  cases v with
  | none => exact hs
  | some v =>
    dsimp only
    split
    · rfl
    · split
      · split
        · rfl
        · exact hs
      · split
        · rfl
        · exact hs
theorem sentBy6 {X : vS} {k n : Nat} {set : Int32} {p : Nat → Int32} (hn : n ≤ 4) (hset : nib set) (hb : ∀ g, g < 4 → bt set g = true → g < n) (hp : ∀ g, g < n → X.1 (k + 3) g = p g) : mX3_sentBy X k set = some (iS (fun g => if bt set g = true then p g else nI 0) n) := by
  have key : ∀ q j, j ≤ 4 → 4 - j < q → lX3_sentBy_4 k X set q (iS (fun g => if bt set g = true then p g else nI 0) j) (nI j) = some (iS (fun g => if bt set g = true then p g else nI 0) 4) := by
    intro q
    induction q with
    | zero => intro j h1 h2; omega
    | succ q ih =>
      intro j h1 h2
      rw [lX3_sentBy_4]
      by_cases hj : j = 4
      · subst hj
        simp (disch := omega) only [qlt, qb_some, qb_none, ↓qn_1, ↓qn_2, ↓qn_3, ↓qn_4, ↓qn_9, ↓qn_1000, ↓qn_low, qi_0, qi_1, qi_2, qi_3, qi_4, qi_5, qi_6, qi_7, qi_8, qi_9, qi_10, qi_11, qi_12, qi_13, qi_14, qi_15, qi_16, qi_17, qi_20, qi_24, qi_30, qi_31, qi_32, qi_60, qi_99, qi_100, qi_200, qi_1000, qi_3400, qi_4000, qi_of, pu_gI, pu_pI, nI_leI, nI_ltI, nI_eq, nI_add, pk_mul, pk_sub, pk_div, qw_s, qw_o, qw_l, qr_s, qr_o, qr_l, ql_i, ql_s, ql_o, pk_us, pk_un, pk_uLs, pk_uLn, if_pos, if_neg, if_true, if_false, ite_self, eq_self, Nat.zero_add, Nat.add_zero, qwr, not_true_eq_false, not_false_eq_true, Option.some.injEq, qe_gn0, qe_m1n, qe_gng, qe_ngn, qe_gm, qe_mg, qe_lm1, qe_lgn, qe_lem, qe_leg, qe_tm1, qe_tgn]
      · have hj4 : j < 4 := by omega
        have go := ih (j + 1) (by omega) (by omega)
        have hi : iS (fun g => if bt set g = true then p g else nI 0) (j + 1) = iS (fun g => if bt set g = true then p g else nI 0) j + (if bt set j = true then p j else nI 0) := rfl
        rw [hi] at go
        cases hbj : bt set j
        · rw [hbj] at go
          simp only [Bool.false_eq_true, if_false, i32_0] at go
          simp (disch := omega) only [qlt, qb_some, qb_none, ↓qn_1, ↓qn_2, ↓qn_3, ↓qn_4, ↓qn_9, ↓qn_1000, ↓qn_low, qi_0, qi_1, qi_2, qi_3, qi_4, qi_5, qi_6, qi_7, qi_8, qi_9, qi_10, qi_11, qi_12, qi_13, qi_14, qi_15, qi_16, qi_17, qi_20, qi_24, qi_30, qi_31, qi_32, qi_60, qi_99, qi_100, qi_200, qi_1000, qi_3400, qi_4000, qi_of, pu_gI, pu_pI, nI_leI, nI_ltI, nI_eq, nI_add, pk_mul, pk_sub, pk_div, qw_s, qw_o, qw_l, qr_s, qr_o, qr_l, ql_i, ql_s, ql_o, pk_us, pk_un, pk_uLs, pk_uLn, if_pos, if_neg, if_true, if_false, ite_self, eq_self, Nat.zero_add, Nat.add_zero, qwr, not_true_eq_false, not_false_eq_true, Option.some.injEq, qe_gn0, qe_m1n, qe_gng, qe_ngn, qe_gm, qe_mg, qe_lm1, qe_lgn, qe_lem, qe_leg, qe_tm1, qe_tgn, bt_c hset hj4, hbj]
          exact go
        · rw [hbj] at go
          rw [if_pos rfl, ← hp j (hb j hj4 hbj)] at go
          simp (disch := omega) only [qlt, qb_some, qb_none, ↓qn_1, ↓qn_2, ↓qn_3, ↓qn_4, ↓qn_9, ↓qn_1000, ↓qn_low, qi_0, qi_1, qi_2, qi_3, qi_4, qi_5, qi_6, qi_7, qi_8, qi_9, qi_10, qi_11, qi_12, qi_13, qi_14, qi_15, qi_16, qi_17, qi_20, qi_24, qi_30, qi_31, qi_32, qi_60, qi_99, qi_100, qi_200, qi_1000, qi_3400, qi_4000, qi_of, pu_gI, pu_pI, nI_leI, nI_ltI, nI_eq, nI_add, pk_mul, pk_sub, pk_div, qw_s, qw_o, qw_l, qr_s, qr_o, qr_l, ql_i, ql_s, ql_o, pk_us, pk_un, pk_uLs, pk_uLn, if_pos, if_neg, if_true, if_false, ite_self, eq_self, Nat.zero_add, Nat.add_zero, qwr, not_true_eq_false, not_false_eq_true, Option.some.injEq, qe_gn0, qe_m1n, qe_gng, qe_ngn, qe_gm, qe_mg, qe_lm1, qe_lgn, qe_lem, qe_leg, qe_tm1, qe_tgn, bt_c hset hj4, hbj, Bool.true_eq_false]
          exact go
  have ext : ∀ m, n ≤ m → m ≤ 4 → iS (fun g => if bt set g = true then p g else nI 0) m = iS (fun g => if bt set g = true then p g else nI 0) n := by
    intro m
    induction m with
    | zero => intro h1 h2; have : n = 0 := by omega
              subst this; rfl
    | succ m ih =>
      intro h1 h2
      by_cases hm : n = m + 1
      · rw [hm]
      · have hi : iS (fun g => if bt set g = true then p g else nI 0) (m + 1) = iS (fun g => if bt set g = true then p g else nI 0) m + (if bt set m = true then p m else nI 0) := rfl
        have hnb : ¬ bt set m = true := fun z => by have := hb m (by omega) z; omega
        rw [hi, if_neg hnb, i32_0]
        exact ih (by omega) (by omega)
  unfold mX3_sentBy
  have := key FU 0 (by omega) (by unfold FU; omega)
  rw [ext 4 hn (by omega)] at this
  rw [qi_0]
  exact this
theorem sentOf7 {T : vS} {n : Nat} {set : Int32} {p : Nat → Int32} (hn : n ≤ 4) (h10 : T.1 0 10 = nI n) (hp : ∀ g, g < n → T.1 11 g = p g) : mX7_sentOf T set = some (iS (fun g => if bt set g = true then p g else nI 0) n) := by
  have key : ∀ q j, j ≤ n → n - j < q → lX7_sentOf_4 T set q (iS (fun g => if bt set g = true then p g else nI 0) j) (nI j) = some (iS (fun g => if bt set g = true then p g else nI 0) n) := by
    intro q
    induction q with
    | zero => intro j h1 h2; omega
    | succ q ih =>
      intro j h1 h2
      rw [lX7_sentOf_4]
      by_cases hj : j = n
      · subst hj
        simp (disch := omega) only [qlt, qb_some, qb_none, ↓qn_1, ↓qn_2, ↓qn_3, ↓qn_4, ↓qn_9, ↓qn_1000, ↓qn_low, qi_0, qi_1, qi_2, qi_3, qi_4, qi_5, qi_6, qi_7, qi_8, qi_9, qi_10, qi_11, qi_12, qi_13, qi_14, qi_15, qi_16, qi_17, qi_20, qi_24, qi_30, qi_31, qi_32, qi_60, qi_99, qi_100, qi_200, qi_1000, qi_3400, qi_4000, qi_of, pu_gI, pu_pI, nI_leI, nI_ltI, nI_eq, nI_add, pk_mul, pk_sub, pk_div, qw_s, qw_o, qw_l, qr_s, qr_o, qr_l, ql_i, ql_s, ql_o, pk_us, pk_un, pk_uLs, pk_uLn, if_pos, if_neg, if_true, if_false, ite_self, eq_self, Nat.zero_add, Nat.add_zero, qwr, not_true_eq_false, not_false_eq_true, Option.some.injEq, qe_gn0, qe_m1n, qe_gng, qe_ngn, qe_gm, qe_mg, qe_lm1, qe_lgn, qe_lem, qe_leg, qe_tm1, qe_tgn, h10]
      · have hj4 : j < 4 := by omega
        have go := ih (j + 1) (by omega) (by omega)
        have hi : iS (fun g => if bt set g = true then p g else nI 0) (j + 1) = iS (fun g => if bt set g = true then p g else nI 0) j + (if bt set j = true then p j else nI 0) := rfl
        rw [hi] at go
        unfold bX7_sentOf_31
        cases hbj : bt set j
        · rw [hbj] at go
          simp only [Bool.false_eq_true, if_false] at go
          simp (disch := omega) only [qlt, qb_some, qb_none, ↓qn_1, ↓qn_2, ↓qn_3, ↓qn_4, ↓qn_9, ↓qn_1000, ↓qn_low, qi_0, qi_1, qi_2, qi_3, qi_4, qi_5, qi_6, qi_7, qi_8, qi_9, qi_10, qi_11, qi_12, qi_13, qi_14, qi_15, qi_16, qi_17, qi_20, qi_24, qi_30, qi_31, qi_32, qi_60, qi_99, qi_100, qi_200, qi_1000, qi_3400, qi_4000, qi_of, pu_gI, pu_pI, nI_leI, nI_ltI, nI_eq, nI_add, pk_mul, pk_sub, pk_div, qw_s, qw_o, qw_l, qr_s, qr_o, qr_l, ql_i, ql_s, ql_o, pk_us, pk_un, pk_uLs, pk_uLn, if_pos, if_neg, if_true, if_false, ite_self, eq_self, Nat.zero_add, Nat.add_zero, qwr, not_true_eq_false, not_false_eq_true, Option.some.injEq, qe_gn0, qe_m1n, qe_gng, qe_ngn, qe_gm, qe_mg, qe_lm1, qe_lgn, qe_lem, qe_leg, qe_tm1, qe_tgn, h10, has7_y, hbj, Bool.false_eq_true]
          exact go
        · rw [hbj] at go
          rw [if_pos rfl, ← hp j (by omega)] at go
          simp (disch := omega) only [qlt, qb_some, qb_none, ↓qn_1, ↓qn_2, ↓qn_3, ↓qn_4, ↓qn_9, ↓qn_1000, ↓qn_low, qi_0, qi_1, qi_2, qi_3, qi_4, qi_5, qi_6, qi_7, qi_8, qi_9, qi_10, qi_11, qi_12, qi_13, qi_14, qi_15, qi_16, qi_17, qi_20, qi_24, qi_30, qi_31, qi_32, qi_60, qi_99, qi_100, qi_200, qi_1000, qi_3400, qi_4000, qi_of, pu_gI, pu_pI, nI_leI, nI_ltI, nI_eq, nI_add, pk_mul, pk_sub, pk_div, qw_s, qw_o, qw_l, qr_s, qr_o, qr_l, ql_i, ql_s, ql_o, pk_us, pk_un, pk_uLs, pk_uLn, if_pos, if_neg, if_true, if_false, ite_self, eq_self, Nat.zero_add, Nat.add_zero, qwr, not_true_eq_false, not_false_eq_true, Option.some.injEq, qe_gn0, qe_m1n, qe_gng, qe_ngn, qe_gm, qe_mg, qe_lm1, qe_lgn, qe_lem, qe_leg, qe_tm1, qe_tgn, h10, has7_y, hbj]
          exact go
  unfold mX7_sentOf
  rw [qi_0]
  exact key FU 0 (Nat.zero_le n) (by unfold FU; omega)
/-- the class's state of its choice -/
def chI (s : Bool × Int32 × Nat) : Int32 := if s.1 = true then nI s.2.2 else gN
theorem muchB (j : Nat) (hj : j < 4) : ((nI j &&& nI 1) = nI 0) = (decide (j % 2 = 0) = true) := by
  rw [pk_andN (by omega) 1 (by decide +kernel)]
  simp (disch := omega) only [qlt, qb_some, qb_none, ↓qn_1, ↓qn_2, ↓qn_3, ↓qn_4, ↓qn_9, ↓qn_1000, ↓qn_low, qi_0, qi_1, qi_2, qi_3, qi_4, qi_5, qi_6, qi_7, qi_8, qi_9, qi_10, qi_11, qi_12, qi_13, qi_14, qi_15, qi_16, qi_17, qi_20, qi_24, qi_30, qi_31, qi_32, qi_60, qi_99, qi_100, qi_200, qi_1000, qi_3400, qi_4000, qi_of, pu_gI, pu_pI, nI_leI, nI_ltI, nI_eq, nI_add, pk_mul, pk_sub, pk_div, qw_s, qw_o, qw_l, qr_s, qr_o, qr_l, ql_i, ql_s, ql_o, pk_us, pk_un, pk_uLs, pk_uLn, if_pos, if_neg, if_true, if_false, ite_self, eq_self, Nat.zero_add, Nat.add_zero, qwr, not_true_eq_false, not_false_eq_true, Option.some.injEq, qe_gn0, qe_m1n, qe_gng, qe_ngn, qe_gm, qe_mg, qe_lm1, qe_lgn, qe_lem, qe_leg, qe_tm1, qe_tgn, decide_eq_true_eq]
section DU
variable {S0 : vS} {G : Nat → Int32} {n k2 L : Nat} {set : Int32}
theorem duel_l (hn : n ≤ 4) (hk2 : k2 + 9 < 95 ∨ 118 < k2) (hG : GodR S0 k2 n G) (hGI : GInv n G) (hL : L ≤ 4) (hset : nib set) (hb : ∀ g, g < 4 → bt set g = true → g < n) :
    ∀ (m D j : Nat) (F : Nat → Int32) (e : Nat) (S : vS), j + m = L → m < D → (∀ c, (c < 95 ∨ 118 < c) → S.1 c = S0.1 c) → S.2 = S0.2 → S.1 95 2 = nI L → ScR S (95 + 2 + 4 * j) n F → FInv n F → F 14 = nI e → e + m ≤ 900 →
      ∃ S', mX1_valueOfDuel D S 95 k2 set (nI j) = some ((duelV G n set m (decide (j % 2 = 0)) F).2.1, S') ∧ (∀ c, (c < 95 ∨ 118 < c) → S'.1 c = S0.1 c) ∧ S'.2 = S0.2 ∧ S'.1 95 2 = nI L ∧ (∀ c, 95 < c → c ≤ (95 + 2 + 4 * j) + 3 → S'.1 c = S.1 c) ∧ (∀ i, i < j → S'.1 117 i = S.1 117 i) ∧ (1 ≤ m → S'.1 117 j = nI (duelV G n set m (decide (j % 2 = 0)) F).2.2) := by
  intro m
  induction m with
  | zero =>
    intro D j F e S h1 h2 w1 w2 w3 hS hF h14 he
    obtain ⟨D, rfl⟩ : ∃ D2, D = D2 + 1 := ⟨D - 1, by omega⟩
    have hjL : j = L := h1
    subst hjL
    refine ⟨S, ?_, w1, w2, w3, fun _ _ _ => rfl, fun _ _ => rfl, fun z => absurd z (by omega)⟩
    rw [mX1_valueOfDuel]
    simp (disch := omega) only [qlt, qb_some, qb_none, ↓qn_1, ↓qn_2, ↓qn_3, ↓qn_4, ↓qn_9, ↓qn_1000, ↓qn_low, qi_0, qi_1, qi_2, qi_3, qi_4, qi_5, qi_6, qi_7, qi_8, qi_9, qi_10, qi_11, qi_12, qi_13, qi_14, qi_15, qi_16, qi_17, qi_20, qi_24, qi_30, qi_31, qi_32, qi_60, qi_99, qi_100, qi_200, qi_1000, qi_3400, qi_4000, qi_of, pu_gI, pu_pI, nI_leI, nI_ltI, nI_eq, nI_add, pk_mul, pk_sub, pk_div, qw_s, qw_o, qw_l, qr_s, qr_o, qr_l, ql_i, ql_s, ql_o, pk_us, pk_un, pk_uLs, pk_uLn, if_pos, if_neg, if_true, if_false, ite_self, eq_self, Nat.zero_add, Nat.add_zero, qwr, not_true_eq_false, not_false_eq_true, Option.some.injEq, qe_gn0, qe_m1n, qe_gng, qe_ngn, qe_gm, qe_mg, qe_lm1, qe_lgn, qe_lem, qe_leg, qe_tm1, qe_tgn, w3]
    rfl
  | succ m ih =>
    intro D j F e S h1 h2 w1 w2 w3 hS hF h14 he
    obtain ⟨D, rfl⟩ : ∃ D2, D = D2 + 1 := ⟨D - 1, by omega⟩
    have hj4 : j < 4 := by omega
    generalize hmu : decide (j % 2 = 0) = mu
    have hmu2 : decide ((j + 1) % 2 = 0) = !mu := by
      rw [← hmu]
      by_cases hjp : j % 2 = 0
      · have : ¬ (j + 1) % 2 = 0 := by omega
        simp [hjp, this]
      · have : (j + 1) % 2 = 0 := by omega
        simp [hjp, this]
    have loop : ∀ q d (S1 : vS) (s : Bool × Int32 × Nat), d ≤ 13 → 13 - d < q → (∀ c, (c < 95 ∨ 118 < c) → S1.1 c = S0.1 c) → S1.2 = S0.2 → S1.1 95 2 = nI L → (∀ c, 95 < c → c ≤ (95 + 2 + 4 * j) + 3 → S1.1 c = S.1 c) → (∀ i, i < j → S1.1 117 i = S.1 117 i) → s.2.2 ≤ 12 → (d = 13 → s.1 = true) →
        ∃ S', lX1_valueOfDuel_46 (mX1_valueOfDuel D) 95 k2 set (nI j) (if mu = true then nI 1 else nI 0) q S1 (chI s) s.2.1 (nI d) = some ((dfold (dX G n set m mu F) mu (13 - d) s).2.1, S') ∧ (∀ c, (c < 95 ∨ 118 < c) → S'.1 c = S0.1 c) ∧ S'.2 = S0.2 ∧ S'.1 95 2 = nI L ∧ (∀ c, 95 < c → c ≤ (95 + 2 + 4 * j) + 3 → S'.1 c = S.1 c) ∧ (∀ i, i < j → S'.1 117 i = S.1 117 i) ∧ S'.1 117 j = nI (dfold (dX G n set m mu F) mu (13 - d) s).2.2 := by
      intro q
      induction q with
      | zero => intro d S1 s k1 k2; omega
      | succ q ihq =>
        intro d S1 s k1 kq x1 x2 x3 x4 x5 hs hany
        rw [lX1_valueOfDuel_46]
        by_cases hd : d = 13
        · subst hd
          have e22 : (95 + 22 : Nat) = 117 := rfl
          have hch : chI s = nI s.2.2 := if_pos (hany rfl)
          unfold bX1_valueOfDuel_134
          simp (disch := omega) only [qlt, qb_some, qb_none, ↓qn_1, ↓qn_2, ↓qn_3, ↓qn_4, ↓qn_9, ↓qn_1000, ↓qn_low, qi_0, qi_1, qi_2, qi_3, qi_4, qi_5, qi_6, qi_7, qi_8, qi_9, qi_10, qi_11, qi_12, qi_13, qi_14, qi_15, qi_16, qi_17, qi_20, qi_24, qi_30, qi_31, qi_32, qi_60, qi_99, qi_100, qi_200, qi_1000, qi_3400, qi_4000, qi_of, pu_gI, pu_pI, nI_leI, nI_ltI, nI_eq, nI_add, pk_mul, pk_sub, pk_div, qw_s, qw_o, qw_l, qr_s, qr_o, qr_l, ql_i, ql_s, ql_o, pk_us, pk_un, pk_uLs, pk_uLn, if_pos, if_neg, if_true, if_false, ite_self, eq_self, Nat.zero_add, Nat.add_zero, qwr, not_true_eq_false, not_false_eq_true, Option.some.injEq, qe_gn0, qe_m1n, qe_gng, qe_ngn, qe_gm, qe_mg, qe_lm1, qe_lgn, qe_lem, qe_leg, qe_tm1, qe_tgn, e22, hch]
          refine ⟨_, rfl, fun c hc => by rw [qw_o (by omega)]; exact x1 c hc, x2, by rw [qw_o (by decide)]; exact x3, fun c c1 c2 => by rw [qw_o (by omega)]; exact x4 c c1 c2, fun i hi => by rw [qw_s, pk_un (by omega)]; exact x5 i hi, by rw [qw_s, pk_us]; rfl⟩
        · have hd13 : d < 13 := by omega
          rw [dfold_s _ _ hd13]
          have hG1 : GodR S1 k2 n G := GodR_tr (S := S0) (k := k2) hn (fun i _ => by rw [x1 _ (by omega)]) (fun i i1 i2 g _ => by rw [x1 _ (by omega)]) hG
          have hS1 : ScR S1 (95 + 2 + 4 * j) n F := ScR_tr (S := S) (k := (95 + 2 + 4 * j)) hn (fun i _ => by rw [x4 _ (by omega) (by omega)]) (fun i _ => by rw [x4 _ (by omega) (by omega)]) (fun i _ => by rw [x4 _ (by omega) (by omega)]) hS
          obtain ⟨go0, go1⟩ := goOn1 (d := d) hn hk2 hG1 hGI hj4 hS1 hF hd13
          cases hcan : canB G n F d
          · have hX : dX G n set m mu F d = none := by unfold dX; rw [hcan]; rfl
            have hd12 : d ≠ 12 := by
              intro z
              subst z
              rw [can12] at hcan
              exact absurd hcan (by decide)
            rw [hX]
            have go := ihq (d + 1) S1 s (by omega) (by omega) x1 x2 x3 x4 x5 hs (fun z => absurd z (by omega))
            rw [show 13 - (d + 1) = 12 - d by omega] at go
            simp (disch := omega) only [qlt, qb_some, qb_none, ↓qn_1, ↓qn_2, ↓qn_3, ↓qn_4, ↓qn_9, ↓qn_1000, ↓qn_low, qi_0, qi_1, qi_2, qi_3, qi_4, qi_5, qi_6, qi_7, qi_8, qi_9, qi_10, qi_11, qi_12, qi_13, qi_14, qi_15, qi_16, qi_17, qi_20, qi_24, qi_30, qi_31, qi_32, qi_60, qi_99, qi_100, qi_200, qi_1000, qi_3400, qi_4000, qi_of, pu_gI, pu_pI, nI_leI, nI_ltI, nI_eq, nI_add, pk_mul, pk_sub, pk_div, qw_s, qw_o, qw_l, qr_s, qr_o, qr_l, ql_i, ql_s, ql_o, pk_us, pk_un, pk_uLs, pk_uLn, if_pos, if_neg, if_true, if_false, ite_self, eq_self, Nat.zero_add, Nat.add_zero, qwr, not_true_eq_false, not_false_eq_true, Option.some.injEq, qe_gn0, qe_m1n, qe_gng, qe_ngn, qe_gm, qe_mg, qe_lm1, qe_lgn, qe_lem, qe_leg, qe_tm1, qe_tgn, go0 hcan]
            exact go
          · obtain ⟨X, y1, y2, y3, y4, y5, y6, y7, y8, y9, y10⟩ := go1 hcan
            have hX : dX G n set m mu F d = some (sentS G n F d set + (duelV G n set m (!mu) (dyF G n F d)).2.1) := by unfold dX; rw [hcan]; rfl
            have hsent : mX3_sentBy X (95 + 2 + 4 * (j + 1)) set = some (sentS G n F d set) := sentBy6 hn hset hb y7
            obtain ⟨S2, r1, r2, r3, r4, r5, r6, _⟩ := ih D (j + 1) (dyF G n F d) (e + 1) X (by omega) (by omega) (fun c hc => by rw [y9 c (by omega) (by omega)]; exact x1 c hc) (by rw [y10]; exact x2) (by rw [y9 95 (by omega) (by decide)]; exact x3) y2 (FInv_day hn hF h14 (by omega) hd13 hcan) (dy14 h14) (by omega)
            rw [hmu2] at r1
            generalize hv : sentS G n F d set + (duelV G n set m (!mu) (dyF G n F d)).2.1 = v at hX
            rw [hX]
            have z4 : ∀ c, 95 < c → c ≤ (95 + 2 + 4 * j) + 3 → S2.1 c = S.1 c := fun c c1 c2 => by rw [r5 c c1 (by omega), y9 c (by omega) (by omega)]; exact x4 c c1 c2
            have z5 : ∀ i, i < j → S2.1 117 i = S.1 117 i := fun i hi => by rw [r6 i (by omega), y8, pk_un (by omega)]; exact x5 i hi
            have take := ihq (d + 1) S2 (true, v, d) (by omega) (by omega) r2 r3 r4 z4 z5 (by show d ≤ 12; omega) (fun _ => rfl)
            rw [show 13 - (d + 1) = 12 - d by omega] at take
            have hct : chI (true, v, d) = nI d := if_pos rfl
            rw [hct] at take
            unfold bX1_valueOfDuel_120
            cases hs1 : s.1
            · have hch : chI s = gN := by unfold chI; rw [hs1]; rfl
              have hst : stD mu d (some v) s = (true, v, d) := by unfold stD; rw [hs1]; rfl
              rw [hst]
              simp (disch := omega) only [qlt, qb_some, qb_none, ↓qn_1, ↓qn_2, ↓qn_3, ↓qn_4, ↓qn_9, ↓qn_1000, ↓qn_low, qi_0, qi_1, qi_2, qi_3, qi_4, qi_5, qi_6, qi_7, qi_8, qi_9, qi_10, qi_11, qi_12, qi_13, qi_14, qi_15, qi_16, qi_17, qi_20, qi_24, qi_30, qi_31, qi_32, qi_60, qi_99, qi_100, qi_200, qi_1000, qi_3400, qi_4000, qi_of, pu_gI, pu_pI, nI_leI, nI_ltI, nI_eq, nI_add, pk_mul, pk_sub, pk_div, qw_s, qw_o, qw_l, qr_s, qr_o, qr_l, ql_i, ql_s, ql_o, pk_us, pk_un, pk_uLs, pk_uLn, if_pos, if_neg, if_true, if_false, ite_self, eq_self, Nat.zero_add, Nat.add_zero, qwr, not_true_eq_false, not_false_eq_true, Option.some.injEq, qe_gn0, qe_m1n, qe_gng, qe_ngn, qe_gm, qe_mg, qe_lm1, qe_lgn, qe_lem, qe_leg, qe_tm1, qe_tgn, y1, qa_scl, hsent, r1, hv, hch]
              exact take
            · have hch : chI s = nI s.2.2 := by unfold chI; rw [hs1]; rfl
              have hcg : (nI s.2.2 = gN) = False := eq_false (qe_gn (by omega))
              have keep := ihq (d + 1) S2 s (by omega) (by omega) r2 r3 r4 z4 z5 hs (fun _ => hs1)
              rw [show 13 - (d + 1) = 12 - d by omega, hch] at keep
              cases mu
              · by_cases hlt : v < s.2.1
                · have hst : stD false d (some v) s = (true, v, d) := by unfold stD; rw [hs1]; simp [hlt]
                  have hle : (s.2.1 ≤ v) = False := eq_false (Int32.not_le.mpr hlt)
                  rw [hst]
                  simp (disch := omega) only [qlt, qb_some, qb_none, ↓qn_1, ↓qn_2, ↓qn_3, ↓qn_4, ↓qn_9, ↓qn_1000, ↓qn_low, qi_0, qi_1, qi_2, qi_3, qi_4, qi_5, qi_6, qi_7, qi_8, qi_9, qi_10, qi_11, qi_12, qi_13, qi_14, qi_15, qi_16, qi_17, qi_20, qi_24, qi_30, qi_31, qi_32, qi_60, qi_99, qi_100, qi_200, qi_1000, qi_3400, qi_4000, qi_of, pu_gI, pu_pI, nI_leI, nI_ltI, nI_eq, nI_add, pk_mul, pk_sub, pk_div, qw_s, qw_o, qw_l, qr_s, qr_o, qr_l, ql_i, ql_s, ql_o, pk_us, pk_un, pk_uLs, pk_uLn, if_pos, if_neg, if_true, if_false, ite_self, eq_self, Nat.zero_add, Nat.add_zero, qwr, not_true_eq_false, not_false_eq_true, Option.some.injEq, qe_gn0, qe_m1n, qe_gng, qe_ngn, qe_gm, qe_mg, qe_lm1, qe_lgn, qe_lem, qe_leg, qe_tm1, qe_tgn, y1, qa_scl, hsent, r1, hv, hch, hcg, hle, Bool.false_eq_true]
                  simp only [Bool.false_eq_true, if_false] at take
                  exact take
                · have hst : stD false d (some v) s = s := by unfold stD; rw [hs1]; simp [hlt]
                  have hle : (s.2.1 ≤ v) = True := eq_true (Int32.not_lt.mp hlt)
                  rw [hst]
                  simp (disch := omega) only [qlt, qb_some, qb_none, ↓qn_1, ↓qn_2, ↓qn_3, ↓qn_4, ↓qn_9, ↓qn_1000, ↓qn_low, qi_0, qi_1, qi_2, qi_3, qi_4, qi_5, qi_6, qi_7, qi_8, qi_9, qi_10, qi_11, qi_12, qi_13, qi_14, qi_15, qi_16, qi_17, qi_20, qi_24, qi_30, qi_31, qi_32, qi_60, qi_99, qi_100, qi_200, qi_1000, qi_3400, qi_4000, qi_of, pu_gI, pu_pI, nI_leI, nI_ltI, nI_eq, nI_add, pk_mul, pk_sub, pk_div, qw_s, qw_o, qw_l, qr_s, qr_o, qr_l, ql_i, ql_s, ql_o, pk_us, pk_un, pk_uLs, pk_uLn, if_pos, if_neg, if_true, if_false, ite_self, eq_self, Nat.zero_add, Nat.add_zero, qwr, not_true_eq_false, not_false_eq_true, Option.some.injEq, qe_gn0, qe_m1n, qe_gng, qe_ngn, qe_gm, qe_mg, qe_lm1, qe_lgn, qe_lem, qe_leg, qe_tm1, qe_tgn, y1, qa_scl, hsent, r1, hv, hch, hcg, hle, Bool.false_eq_true]
                  simp only [Bool.false_eq_true, if_false] at keep
                  exact keep
              · by_cases hlt : s.2.1 < v
                · have hst : stD true d (some v) s = (true, v, d) := by unfold stD; rw [hs1]; simp [hlt]
                  have hle : (v ≤ s.2.1) = False := eq_false (Int32.not_le.mpr hlt)
                  rw [hst]
                  simp (disch := omega) only [qlt, qb_some, qb_none, ↓qn_1, ↓qn_2, ↓qn_3, ↓qn_4, ↓qn_9, ↓qn_1000, ↓qn_low, qi_0, qi_1, qi_2, qi_3, qi_4, qi_5, qi_6, qi_7, qi_8, qi_9, qi_10, qi_11, qi_12, qi_13, qi_14, qi_15, qi_16, qi_17, qi_20, qi_24, qi_30, qi_31, qi_32, qi_60, qi_99, qi_100, qi_200, qi_1000, qi_3400, qi_4000, qi_of, pu_gI, pu_pI, nI_leI, nI_ltI, nI_eq, nI_add, pk_mul, pk_sub, pk_div, qw_s, qw_o, qw_l, qr_s, qr_o, qr_l, ql_i, ql_s, ql_o, pk_us, pk_un, pk_uLs, pk_uLn, if_pos, if_neg, if_true, if_false, ite_self, eq_self, Nat.zero_add, Nat.add_zero, qwr, not_true_eq_false, not_false_eq_true, Option.some.injEq, qe_gn0, qe_m1n, qe_gng, qe_ngn, qe_gm, qe_mg, qe_lm1, qe_lgn, qe_lem, qe_leg, qe_tm1, qe_tgn, y1, qa_scl, hsent, r1, hv, hch, hcg, hle]
                  simp only [if_true] at take
                  exact take
                · have hst : stD true d (some v) s = s := by unfold stD; rw [hs1]; simp [hlt]
                  have hle : (v ≤ s.2.1) = True := eq_true (Int32.not_lt.mp hlt)
                  rw [hst]
                  simp (disch := omega) only [qlt, qb_some, qb_none, ↓qn_1, ↓qn_2, ↓qn_3, ↓qn_4, ↓qn_9, ↓qn_1000, ↓qn_low, qi_0, qi_1, qi_2, qi_3, qi_4, qi_5, qi_6, qi_7, qi_8, qi_9, qi_10, qi_11, qi_12, qi_13, qi_14, qi_15, qi_16, qi_17, qi_20, qi_24, qi_30, qi_31, qi_32, qi_60, qi_99, qi_100, qi_200, qi_1000, qi_3400, qi_4000, qi_of, pu_gI, pu_pI, nI_leI, nI_ltI, nI_eq, nI_add, pk_mul, pk_sub, pk_div, qw_s, qw_o, qw_l, qr_s, qr_o, qr_l, ql_i, ql_s, ql_o, pk_us, pk_un, pk_uLs, pk_uLn, if_pos, if_neg, if_true, if_false, ite_self, eq_self, Nat.zero_add, Nat.add_zero, qwr, not_true_eq_false, not_false_eq_true, Option.some.injEq, qe_gn0, qe_m1n, qe_gng, qe_ngn, qe_gm, qe_mg, qe_lm1, qe_lgn, qe_lem, qe_leg, qe_tm1, qe_tgn, y1, qa_scl, hsent, r1, hv, hch, hcg, hle]
                  simp only [if_true] at keep
                  exact keep
    obtain ⟨S', e1, e2, e3, e4, e5, e6, e7⟩ := loop FU 0 S (false, nI 0, 12) (by omega) (by unfold FU; omega) w1 w2 w3 (fun _ _ _ => rfl) (fun _ _ => rfl) (Nat.le_refl 12) (fun z => absurd z (by decide))
    have hc0 : chI (false, nI 0, 12) = gN := rfl
    rw [hc0] at e1
    refine ⟨S', ?_, e2, e3, e4, e5, e6, fun _ => ?_⟩
    · rw [mX1_valueOfDuel]
      unfold bX1_valueOfDuel_34
      rw [duelV_s]
      cases mu
      · have hpar : ((nI j &&& nI 1) = nI 0) = False := by rw [muchB j hj4, hmu]; simp
        simp only [Bool.false_eq_true, if_false] at e1
        simp (disch := omega) only [qlt, qb_some, qb_none, ↓qn_1, ↓qn_2, ↓qn_3, ↓qn_4, ↓qn_9, ↓qn_1000, ↓qn_low, qi_0, qi_1, qi_2, qi_3, qi_4, qi_5, qi_6, qi_7, qi_8, qi_9, qi_10, qi_11, qi_12, qi_13, qi_14, qi_15, qi_16, qi_17, qi_20, qi_24, qi_30, qi_31, qi_32, qi_60, qi_99, qi_100, qi_200, qi_1000, qi_3400, qi_4000, qi_of, pu_gI, pu_pI, nI_leI, nI_ltI, nI_eq, nI_add, pk_mul, pk_sub, pk_div, qw_s, qw_o, qw_l, qr_s, qr_o, qr_l, ql_i, ql_s, ql_o, pk_us, pk_un, pk_uLs, pk_uLn, if_pos, if_neg, if_true, if_false, ite_self, eq_self, Nat.zero_add, Nat.add_zero, qwr, not_true_eq_false, not_false_eq_true, Option.some.injEq, qe_gn0, qe_m1n, qe_gng, qe_ngn, qe_gm, qe_mg, qe_lm1, qe_lgn, qe_lem, qe_leg, qe_tm1, qe_tgn, w3, hpar]
        exact e1
      · have hpar : ((nI j &&& nI 1) = nI 0) = True := by rw [muchB j hj4, hmu]; simp
        simp only [if_true] at e1
        simp (disch := omega) only [qlt, qb_some, qb_none, ↓qn_1, ↓qn_2, ↓qn_3, ↓qn_4, ↓qn_9, ↓qn_1000, ↓qn_low, qi_0, qi_1, qi_2, qi_3, qi_4, qi_5, qi_6, qi_7, qi_8, qi_9, qi_10, qi_11, qi_12, qi_13, qi_14, qi_15, qi_16, qi_17, qi_20, qi_24, qi_30, qi_31, qi_32, qi_60, qi_99, qi_100, qi_200, qi_1000, qi_3400, qi_4000, qi_of, pu_gI, pu_pI, nI_leI, nI_ltI, nI_eq, nI_add, pk_mul, pk_sub, pk_div, qw_s, qw_o, qw_l, qr_s, qr_o, qr_l, ql_i, ql_s, ql_o, pk_us, pk_un, pk_uLs, pk_uLn, if_pos, if_neg, if_true, if_false, ite_self, eq_self, Nat.zero_add, Nat.add_zero, qwr, not_true_eq_false, not_false_eq_true, Option.some.injEq, qe_gn0, qe_m1n, qe_gng, qe_ngn, qe_gm, qe_mg, qe_lm1, qe_lgn, qe_lem, qe_leg, qe_tm1, qe_tgn, w3, hpar]
        exact e1
    · rw [duelV_s]
      exact e7
end DU
