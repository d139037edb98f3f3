/-! ===== PURE: small tools ===== -/
theorem pu_ex {a : Int32} {N : Nat} (h0 : ¬ a < 0) (h1 : ¬ nI N ≤ a) (hN : N < 2 ^ 31) : ∃ k, k < N ∧ a = nI k := by
  have e : a = nI a.toNatClampNeg := by
    refine Int32.toInt_inj.mp ?_
    have hb : a.toNatClampNeg < 2 ^ 31 := by
      have := Int32.toInt_lt a
      have h2 : a.toNatClampNeg = a.toInt.toNat := rfl
      omega
    rw [nI_toInt hb]
    have h3 : 0 ≤ a.toInt := by
      have := mt Int32.lt_iff_toInt_lt.mpr h0
      have z : (0 : Int32).toInt = 0 := rfl
      omega
    have h2 : a.toNatClampNeg = a.toInt.toNat := rfl
    omega
  have hb : a.toNatClampNeg < 2 ^ 31 := by
    have := Int32.toInt_lt a
    have h2 : a.toNatClampNeg = a.toInt.toNat := rfl
    omega
  refine ⟨a.toNatClampNeg, ?_, e⟩
  rcases Nat.lt_or_ge a.toNatClampNeg N with h | h
  · exact h
  · exact absurd (by rw [e]; exact nI_le h hb) h1
theorem pu_gI (f : Nat → Int32) {n k : Nat} (h : k < n) (hn : n < 2 ^ 31) : gI f n (nI k) = some (f k) := by
  unfold gI
  rw [if_neg (nI_in h hn), nI_clamp (by omega)]
theorem pu_pI (S : vS) (c : Nat) {n k : Nat} (x : Int32) (h : k < n) (hn : n < 2 ^ 31) : pI S c n (nI k) x = some (wI S c k x) := by
  unfold pI
  rw [if_neg (nI_in h hn), nI_clamp (by omega)]
/-- the findings' piece of the relation -/
def RFind (S T : vS) : Prop := S.1 0 10 = T.1 0 0 ∧ ∀ i, i < 6 → S.1 134 i = T.1 1 i
theorem pu_finding {S T : vS} (h : RFind S T) : mX6_finding S = mX7_finding T := h.1
theorem pu_findings {S T : vS} (a : Int32) (h : RFind S T) : ∃ r, mX6_findings S a = some r ∧ mX7_findings T a = some r := by
  unfold mX6_findings mX7_findings mX7_in
  by_cases h1 : a < (1 : Int32)
  · exact ⟨-1, by rw [if_pos h1], by rw [if_pos h1]; rfl⟩
  · rw [if_neg h1, if_neg h1]
    by_cases h2 : a ≤ (5 : Int32)
    · rw [if_pos h2, if_neg (show ¬ (5 : Int32) < a by grind)]
      obtain ⟨k, hk, e⟩ := pu_ex (a := a) (N := 6) (by grind) (by have : nI 6 = (6 : Int32) := rfl; grind) (by decide)
      subst e
      rw [pu_gI _ hk (by decide), pu_gI _ hk (by decide)]
      exact ⟨S.1 134 k, rfl, by rw [h.2 k hk]; rfl⟩
    · rw [if_neg h2, if_pos (show (5 : Int32) < a by grind)]
      exact ⟨-1, rfl, rfl⟩
theorem pu_mul (a b : Nat) : nI a * nI b = nI (a * b) := (Int32.ofNat_mul a b).symm
theorem pu_wR_self (S : vS) (k : Nat) : wR S k (S.1 k) = S := by
  unfold wR
  refine Prod.ext ?_ rfl
  funext x
  show (if x = k then S.1 k else S.1 x) = S.1 x
  split
  · rename_i h; rw [h]
  · rfl
theorem pu_wR_wR (S : vS) (k : Nat) (f g : Nat → Int32) : wR (wR S k f) k g = wR S k g := by
  unfold wR
  refine Prod.ext ?_ rfl
  funext x
  show (if x = k then g else if x = k then f else S.1 x) = if x = k then g else S.1 x
  split <;> rfl
theorem pu_wI_R (S : vS) (k j : Nat) (x : Int32) : wI S k j x = wR S k (fun i => if i = j then x else S.1 k i) := rfl
theorem pu_wR_1 (S : vS) (k : Nat) (f : Nat → Int32) : (wR S k f).1 k = f := by
  show va_up S.1 k f k = f
  unfold va_up
  exact if_pos rfl
theorem pu_wR_o (S : vS) {k c : Nat} (f : Nat → Int32) (h : c ≠ k) : (wR S k f).1 c = S.1 c := by
  show va_up S.1 k f c = S.1 c
  unfold va_up
  exact if_neg h
theorem pm_row_loop (k : Nat) (hk : k < 6) (v2 : Int32) : ∀ (n j : Nat) (T : vS), j ≤ 60 → 60 - j < n → lX7_row_34 (nI k) v2 n T (nI j) = some (v2, wR T 3 (fun i => if 60 * k + j ≤ i ∧ i < 60 * k + 60 then 0 else T.1 3 i)) := by
  intro n
  induction n with
  | zero => intro j T h1 h2; omega
  | succ n ih =>
    intro j T h1 h2
    rw [lX7_row_34]
    by_cases h : j = 60
    · subst h
      rw [if_pos (show (60 : Int32) ≤ nI 60 by decide)]
      congr 2
      have e : (fun i => if 60 * k + 60 ≤ i ∧ i < 60 * k + 60 then 0 else T.1 3 i) = T.1 3 := by
        funext i
        exact if_neg (by omega)
      rw [e, pu_wR_self]
    · rw [if_neg (show ¬ (60 : Int32) ≤ nI j from nI_ge (b := 60) (by omega) (by decide))]
      rw [show (60 : Int32) * nI k + nI j = nI (60 * k + j) from by rw [← nI_add, ← pu_mul]; rfl]
      rw [pu_pI _ _ _ (by omega) (by decide)]
      show lX7_row_34 (nI k) v2 n (wI T 3 (60 * k + j) 0) (nI j + 1) = _
      rw [nI_1, ih _ _ (by omega) (by omega)]
      congr 2
      rw [pu_wI_R, pu_wR_wR, pu_wR_1]
      congr 1
      funext i
      grind
theorem pu_found (S : vS) (k : Nat) (h1 : 1 ≤ k) (h5 : k ≤ 5) : mX6_found S (nI k) = some (-3, wI (wI S 0 10 (nI k)) 134 k (S.1 134 k + 1)) := by
  unfold mX6_found lt
  rw [if_neg (show ¬ nI k < 1 from nI_nlt (b := 1) h1 (by omega)), if_neg (show ¬ 5 < nI k from nI_nlt (a := 5) h5 (by decide))]
  dsimp only
  rw [pu_gI _ (by omega) (by decide)]
  show (pI _ 134 6 (nI k) _).bind _ = _
  rw [pu_pI _ _ _ (by omega) (by decide)]
  rfl
theorem pu_meets (T : vS) (k : Nat) (h5 : k ≤ 5) : mX7_meets T (nI k) = some (-3, wI (wI T 0 0 (nI k)) 1 k (T.1 1 k + 1)) := by
  unfold mX7_meets lt
  dsimp only
  rw [pu_gI _ (by omega) (by decide)]
  show (pI _ 1 6 (nI k) _).bind _ = _
  rw [pu_pI _ _ _ (by omega) (by decide)]
  rfl
