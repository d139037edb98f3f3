/-! ===== PURE: what gods send, by the reference ===== -/
def sgB (G F : Nat → Int32) (g : Nat) : Bool := upB G F g && !(decide (gK G g = nI 5) && !bt (F 7) g)
def sgo (G F : Nat → Int32) (g : Nat) : Bool := decide ((F (3 + g)).toNatClampNeg ≤ (gP G g).toNatClampNeg)
def sgt (G F : Nat → Int32) (g : Nat) : Int32 := if sgB G F g = true then (if sgo G F g = true then gG G g else -gH G g) else nI 0
def sgg (G F : Nat → Int32) (g : Nat) : Nat := if sgB G F g = true then (if sgo G F g = true then (gG G g).toNatClampNeg else 0) else 0
def sgh (G F : Nat → Int32) (g : Nat) : Nat := if sgB G F g = true then (if sgo G F g = true then 0 else (gH G g).toNatClampNeg) else 0
def sO (o : Nat → Int32) (A B : Nat) : Nat → Int32 := upd (upd o 20 (nI A - nI B)) 21 (nI B)
def sF (F : Nat → Int32) (A B : Nat) : Nat → Int32 := upd (upd F 12 (F 12 + nI A)) 13 (F 13 + nI B)
def sS (G F s : Nat → Int32) (j : Nat) : Nat → Int32 := fun g => if g < j then sgt G F g else s g
theorem upd4 (o : Nat → Int32) (w b b' w' : Int32) {x y : Nat} (h : x ≠ y) : upd (upd (upd (upd o x w) y b) y b') x w' = upd (upd o x w') y b' := by
  funext i
  unfold upd
  by_cases h1 : i = x
  · subst h1
    rw [if_pos rfl, if_neg h, if_pos rfl]
  · by_cases h2 : i = y
    · rw [if_neg h1, if_pos h2, if_pos h2]
    · rw [if_neg h1, if_neg h2, if_neg h2, if_neg h1, if_neg h2, if_neg h1]
theorem upd4' (o : Nat → Int32) (w b b' w' : Int32) {x y : Nat} (h : x ≠ y) : upd (upd (upd (upd o x w) y b) x w') y b' = upd (upd o x w') y b' := by
  funext i
  unfold upd
  by_cases h1 : i = y
  · rw [if_pos h1, if_pos h1]
  · by_cases h2 : i = x
    · rw [if_neg h1, if_pos h2, if_neg h1, if_pos h2]
    · rw [if_neg h1, if_neg h2, if_neg h1, if_neg h2, if_neg h1, if_neg h2]
theorem i32_a (x a b : Int32) : x + a + b = x + (a + b) := by grind
theorem i32_b (a b c : Int32) : a - b + c = a + c - b := by grind
theorem i32_c (a b c : Int32) : a - b + -c = a - (b + c) := by grind
theorem i32_d (a b c : Int32) : a + b - -c = a + (b + c) := by grind
theorem i32_e (b c : Int32) : b - -c = b + c := by grind
theorem i32_0 (a : Int32) : a + nI 0 = a := by rw [nI_0]; grind
theorem i32_00 (a : Int32) : a - nI 0 = a := by rw [nI_0]; grind
theorem sS_s {G F s : Nat → Int32} {j : Nat} {x : Int32} (h : x = sgt G F j) : upd (sS G F s j) j x = sS G F s (j + 1) := by
  funext g
  unfold upd sS
  by_cases h1 : g = j
  · subst h1; rw [if_pos rfl, if_pos (by omega), h]
  · rw [if_neg h1]
    by_cases h2 : g < j
    · rw [if_pos h2, if_pos (by omega)]
    · rw [if_neg h2, if_neg (by omega)]
theorem upd_upd (f : Nat → Int32) (j : Nat) (x y : Int32) : upd (upd f j x) j y = upd f j y := by
  funext i
  unfold upd
  split <;> rfl
theorem sF_o {F : Nat → Int32} {A B i : Nat} (h1 : i ≠ 12) (h2 : i ≠ 13) : sF F A B i = F i := by
  unfold sF
  rw [pk_un h2, pk_un h1]
theorem cut_sF {F : Nat → Int32} {A B : Nat} (h : cut F) : cut (sF F A B) := cut_upd (cut_upd h (by decide)) (by decide)
section D8
variable {T : vS} {o a s F : Nat → Int32} {n f g d : Nat}
theorem k7_gods {i : Nat} (hi : i < 24) : gI ((mk3 T o a s).1 7) 24 (nI i) = some (T.1 7 i) := by
  rw [mk3_o (by decide) (by decide) (by decide)]
  exact pu_gI _ hi (by decide)
theorem sends7_y {K : vS → Int32 → Option vS} {j e A B h : Nat} {st : Nat → Int32} (hc : cut F) (hf : f < 6) (hj : j < 4) (hGI : GInv n (T.1 7)) (hjn : j < n) (hh : F (3 + j) = nI h) (h9 : h ≤ 9) (hB : sgB (T.1 7) F j = true) :
    bX7_sends_59 K (mk3 T (sO o A B) (putF a f (sF F A B)) (upd (sS (T.1 7) F s j) j (nI 0))) (nI f) (nI j) = K (mk3 T (sO o (A + sgg (T.1 7) F j) (B + sgh (T.1 7) F j)) (putF a f (sF F (A + sgg (T.1 7) F j) (B + sgh (T.1 7) F j))) (sS (T.1 7) F s (j + 1))) (nI (j + 1)) := by
  obtain ⟨_, _, ⟨p, hp1, hp2, hp⟩, ⟨x, hx1, hx⟩, ⟨y, hy1, hy⟩, _⟩ := hGI j hjn
  have e3 : sF F A B (3 + j) = nI h := by rw [sF_o (by omega) (by omega)]; exact hh
  have hx' : T.1 7 (6 * j + 3) = nI x := hx
  have hy' : T.1 7 (6 * j + 4) = nI y := hy
  unfold bX7_sends_59
  simp (disch := omega) only [qlt, qb_some, qb_none, ↓qn_1, ↓qn_2, ↓qn_3, ↓qn_4, ↓qn_9, ↓qn_1000, ↓qn_low, qi_0, qi_1, qi_2, qi_3, qi_4, qi_5, qi_6, qi_7, qi_8, qi_9, qi_10, qi_11, qi_12, qi_13, qi_14, qi_15, qi_16, qi_18, qi_20, qi_24, qi_30, qi_31, qi_32, qi_60, qi_99, qi_100, qi_200, qi_1000, qi_3600, qi_4000, qi_of, pu_gI, pu_pI, nI_leI, nI_ltI, nI_eq, nI_add, pk_mul, pk_sub, pk_div, qw_s, qw_o, qw_l, qr_s, qr_o, qr_l, ql_i, ql_s, ql_o, pk_us, pk_un, pk_uLs, pk_uLn, if_pos, if_neg, if_true, if_false, ite_self, eq_self, Nat.zero_add, Nat.add_zero, qwr, not_true_eq_false, not_false_eq_true, Option.some.injEq, qe_gn0, qe_m1n, qe_gng, qe_ngn, qe_gm, qe_mg, qe_lm1, qe_lgn, qe_lem, qe_leg, qe_tm1, qe_tgn, k7_v (cut_sF hc) hf, e3, k7_pat hj, hp]
  by_cases hle : h ≤ p
  · have hg : sgo (T.1 7) F j = true := by unfold sgo; rw [hh, hp, nI_clamp (by omega), nI_clamp (by omega)]; simpa using hle
    have q1 : sgg (T.1 7) F j = x := by unfold sgg; rw [hB, hg, hx, nI_clamp (by omega)]; rfl
    have q2 : sgh (T.1 7) F j = 0 := by unfold sgh; rw [hB, hg]; rfl
    have q3 : nI x = sgt (T.1 7) F j := by unfold sgt; rw [hB, hg, hx]; rfl
    rw [q1, q2, if_neg (by omega)]
    unfold bX7_sends_80 bX7_sends_116 bX7_sends_142 bX7_sends_171 bX7_sends_194
    simp (disch := omega) only [qlt, qb_some, qb_none, ↓qn_1, ↓qn_2, ↓qn_3, ↓qn_4, ↓qn_9, ↓qn_1000, ↓qn_low, qi_0, qi_1, qi_2, qi_3, qi_4, qi_5, qi_6, qi_7, qi_8, qi_9, qi_10, qi_11, qi_12, qi_13, qi_14, qi_15, qi_16, qi_18, qi_20, qi_24, qi_30, qi_31, qi_32, qi_60, qi_99, qi_100, qi_200, qi_1000, qi_3600, qi_4000, qi_of, pu_gI, pu_pI, nI_leI, nI_ltI, nI_eq, nI_add, pk_mul, pk_sub, pk_div, qw_s, qw_o, qw_l, qr_s, qr_o, qr_l, ql_i, ql_s, ql_o, pk_us, pk_un, pk_uLs, pk_uLn, if_pos, if_neg, if_true, if_false, ite_self, eq_self, Nat.zero_add, Nat.add_zero, qwr, not_true_eq_false, not_false_eq_true, Option.some.injEq, qe_gn0, qe_m1n, qe_gng, qe_ngn, qe_gm, qe_mg, qe_lm1, qe_lgn, qe_lem, qe_leg, qe_tm1, qe_tgn, k7_gods, hx', mk3_11, mk3_w11, k7_v (cut_sF hc) hf, k7_place hf, upd_upd, sS_s q3]
    sorry
  · sorry
end D8
