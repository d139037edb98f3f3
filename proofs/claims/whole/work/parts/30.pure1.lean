/-! ===== PURE: small tools ===== -/
theorem pu_ex {a : Int32} {N : Nat} (h0 : ¬ a < 0) (h1 : ¬ nI N ≤ a) (hN : N < 2 ^ 31) : ∃ k, k < N ∧ a = nI k := by
  have e : a = nI a.toNatClampNeg := by
    refine Int32.toInt_inj.mp ?_
    have hb : a.toNatClampNeg < 2 ^ 31 := by
      have := Int32.toInt_lt a
      have h2 : a.toNatClampNeg = a.toInt.toNat := rfl
      omega
    rw [nI_toInt hb]
    have h3 : 0 ≤ a.toInt := by
      have := mt Int32.lt_iff_toInt_lt.mpr h0
      have z : (0 : Int32).toInt = 0 := rfl
      omega
    have h2 : a.toNatClampNeg = a.toInt.toNat := rfl
    omega
  have hb : a.toNatClampNeg < 2 ^ 31 := by
    have := Int32.toInt_lt a
    have h2 : a.toNatClampNeg = a.toInt.toNat := rfl
    omega
  refine ⟨a.toNatClampNeg, ?_, e⟩
  rcases Nat.lt_or_ge a.toNatClampNeg N with h | h
  · exact h
  · exact absurd (by rw [e]; exact nI_le h hb) h1
theorem pu_gI (f : Nat → Int32) {n k : Nat} (h : k < n) (hn : n < 2 ^ 31) : gI f n (nI k) = some (f k) := by
  unfold gI
  rw [if_neg (nI_in h hn), nI_clamp (by omega)]
theorem pu_pI (S : vS) (c : Nat) {n k : Nat} (x : Int32) (h : k < n) (hn : n < 2 ^ 31) : pI S c n (nI k) x = some (wI S c k x) := by
  unfold pI
  rw [if_neg (nI_in h hn), nI_clamp (by omega)]
/-- the findings' piece of the relation -/
def RFind (S T : vS) : Prop := S.1 0 10 = T.1 0 0 ∧ ∀ i, i < 6 → S.1 134 i = T.1 1 i
theorem pu_finding {S T : vS} (h : RFind S T) : mX6_finding S = mX7_finding T := h.1
theorem pu_findings {S T : vS} (a : Int32) (h : RFind S T) : ∃ r, mX6_findings S a = some r ∧ mX7_findings T a = some r := by
  unfold mX6_findings mX7_findings mX7_in
  by_cases h1 : a < (1 : Int32)
  · exact ⟨-1, by rw [if_pos h1], by rw [if_pos h1]; rfl⟩
  · rw [if_neg h1, if_neg h1]
    by_cases h2 : a ≤ (5 : Int32)
    · rw [if_pos h2, if_neg (show ¬ (5 : Int32) < a by grind)]
      obtain ⟨k, hk, e⟩ := pu_ex (a := a) (N := 6) (by grind) (by have : nI 6 = (6 : Int32) := rfl; grind) (by decide)
      subst e
      rw [pu_gI _ hk (by decide), pu_gI _ hk (by decide)]
      exact ⟨S.1 134 k, rfl, by rw [h.2 k hk]; rfl⟩
    · rw [if_neg h2, if_pos (show (5 : Int32) < a by grind)]
      exact ⟨-1, rfl, rfl⟩
