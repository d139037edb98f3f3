/-! ===== PURE: what gods send, by the reference ===== -/
def sgB (G F : Nat → Int32) (g : Nat) : Bool := upB G F g && !(decide (gK G g = nI 5) && !bt (F 7) g)
def sgo (G F : Nat → Int32) (g : Nat) : Bool := decide ((F (3 + g)).toNatClampNeg ≤ (gP G g).toNatClampNeg)
def sgt (G F : Nat → Int32) (g : Nat) : Int32 := if sgB G F g = true then (if sgo G F g = true then gG G g else -gH G g) else nI 0
def sgg (G F : Nat → Int32) (g : Nat) : Nat := if sgB G F g = true then (if sgo G F g = true then (gG G g).toNatClampNeg else 0) else 0
def sgh (G F : Nat → Int32) (g : Nat) : Nat := if sgB G F g = true then (if sgo G F g = true then 0 else (gH G g).toNatClampNeg) else 0
def sO (o : Nat → Int32) (A B : Nat) : Nat → Int32 := upd (upd o 20 (nI A - nI B)) 21 (nI B)
def sF (F : Nat → Int32) (A B : Nat) : Nat → Int32 := upd (upd F 12 (F 12 + nI A)) 13 (F 13 + nI B)
def sS (G F s : Nat → Int32) (j : Nat) : Nat → Int32 := fun g => if g < j then sgt G F g else s g
theorem upd4 (o : Nat → Int32) (w b b' w' : Int32) {x y : Nat} (h : x ≠ y) : upd (upd (upd (upd o x w) y b) y b') x w' = upd (upd o x w') y b' := by
  funext i
  unfold upd
  by_cases h1 : i = x
  · subst h1
    rw [if_pos rfl, if_neg h, if_pos rfl]
  · by_cases h2 : i = y
    · rw [if_neg h1, if_pos h2, if_pos h2]
    · rw [if_neg h1, if_neg h2, if_neg h2, if_neg h1, if_neg h2, if_neg h1]
theorem upd4' (o : Nat → Int32) (w b b' w' : Int32) {x y : Nat} (h : x ≠ y) : upd (upd (upd (upd o x w) y b) x w') y b' = upd (upd o x w') y b' := by
  funext i
  unfold upd
  by_cases h1 : i = y
  · rw [if_pos h1, if_pos h1]
  · by_cases h2 : i = x
    · rw [if_neg h1, if_pos h2, if_neg h1, if_pos h2]
    · rw [if_neg h1, if_neg h2, if_neg h1, if_neg h2, if_neg h1, if_neg h2]
theorem i32_a (x a b : Int32) : x + a + b = x + (a + b) := by grind
theorem i32_b (a b c : Int32) : a - b + c = a + c - b := by grind
theorem i32_c (a b c : Int32) : a - b + -c = a - (b + c) := by grind
theorem i32_d (a b c : Int32) : a + b - -c = a + (b + c) := by grind
theorem i32_e (b c : Int32) : b - -c = b + c := by grind
theorem i32_0 (a : Int32) : a + nI 0 = a := by rw [nI_0]; grind
theorem i32_00 (a : Int32) : a - nI 0 = a := by rw [nI_0]; grind
theorem sS_s {G F s : Nat → Int32} {j : Nat} {x : Int32} (h : x = sgt G F j) : upd (sS G F s j) j x = sS G F s (j + 1) := by
  funext g
  unfold upd sS
  by_cases h1 : g = j
  · subst h1; rw [if_pos rfl, if_pos (by omega), h]
  · rw [if_neg h1]
    by_cases h2 : g < j
    · rw [if_pos h2, if_pos (by omega)]
    · rw [if_neg h2, if_neg (by omega)]
theorem nsum_s (p : Nat → Nat) (n : Nat) : nsum p (n + 1) = nsum p n + p n := rfl
theorem upd_id (f : Nat → Int32) (j : Nat) : upd f j (f j) = f := up_ext rfl (fun _ _ => rfl)
theorem upd_upd (f : Nat → Int32) (j : Nat) (x y : Int32) : upd (upd f j x) j y = upd f j y := by
  funext i
  unfold upd
  split <;> rfl
theorem sF_o {F : Nat → Int32} {A B i : Nat} (h1 : i ≠ 12) (h2 : i ≠ 13) : sF F A B i = F i := by
  unfold sF
  rw [pk_un h2, pk_un h1]
theorem cut_sF {F : Nat → Int32} {A B : Nat} (h : cut F) : cut (sF F A B) := cut_upd (cut_upd h (by decide)) (by decide)
theorem sO_21 {o : Nat → Int32} {A B : Nat} : sO o A B 21 = nI B := pk_us
theorem sO_20 {o : Nat → Int32} {A B : Nat} : sO o A B 20 = nI A - nI B := by
  unfold sO
  rw [pk_un (by decide), pk_us]
theorem sO_o {o : Nat → Int32} {A B i : Nat} (h1 : i ≠ 20) (h2 : i ≠ 21) : sO o A B i = o i := by
  unfold sO
  rw [pk_un h2, pk_un h1]
theorem sO_w {o : Nat → Int32} {A B : Nat} {b w : Int32} : upd (upd (sO o A B) 21 b) 20 w = upd (upd o 20 w) 21 b := upd4 o _ _ b w (by decide)
theorem sF_12 {F : Nat → Int32} {A B : Nat} : sF F A B 12 = F 12 + nI A := by
  unfold sF
  rw [pk_un (by decide), pk_us]
theorem sF_13 {F : Nat → Int32} {A B : Nat} : sF F A B 13 = F 13 + nI B := pk_us
theorem sF_w {F : Nat → Int32} {A B : Nat} {p q : Int32} : upd (upd (sF F A B) 12 p) 13 q = upd (upd F 12 p) 13 q := upd4' F _ _ q p (by decide)
section D8
variable {T : vS} {o a s F : Nat → Int32} {n f g d : Nat}
theorem k7_gods {i : Nat} (hi : i < 24) : gI ((mk3 T o a s).1 7) 24 (nI i) = some (T.1 7 i) := by
  rw [mk3_o (by decide) (by decide) (by decide)]
  exact pu_gI _ hi (by decide)
theorem sends7_y {K : vS → Int32 → Option vS} {j A B h : Nat} (hf : f < 6) (hj : j < 4) (hGI : GInv n (T.1 7)) (hjn : j < n) (hh : F (3 + j) = nI h) (h9 : h ≤ 9) (hB : sgB (T.1 7) F j = true) :
    bX7_sends_59 K (mk3 T (sO o A B) (putF a f (sF F A B)) (upd (sS (T.1 7) F s j) j (nI 0))) (nI f) (nI j) = K (mk3 T (sO o (A + sgg (T.1 7) F j) (B + sgh (T.1 7) F j)) (putF a f (sF F (A + sgg (T.1 7) F j) (B + sgh (T.1 7) F j))) (sS (T.1 7) F s (j + 1))) (nI (j + 1)) := by
  obtain ⟨_, _, ⟨p, hp1, hp2, hp⟩, ⟨x, hx1, hx⟩, ⟨y, hy1, hy⟩, _⟩ := hGI j hjn
  have e3 : sF F A B (3 + j) = nI h := by rw [sF_o (by omega) (by omega)]; exact hh
  have hx' : T.1 7 (6 * j + 3) = nI x := hx
  have hy' : T.1 7 (6 * j + 4) = nI y := hy
  unfold bX7_sends_59
  simp (disch := omega) only [qlt, qb_some, qb_none, ↓qn_1, ↓qn_2, ↓qn_3, ↓qn_4, ↓qn_9, ↓qn_1000, ↓qn_low, qi_0, qi_1, qi_2, qi_3, qi_4, qi_5, qi_6, qi_7, qi_8, qi_9, qi_10, qi_11, qi_12, qi_13, qi_14, qi_15, qi_16, qi_17, qi_20, qi_24, qi_30, qi_31, qi_32, qi_60, qi_99, qi_100, qi_200, qi_1000, qi_3400, qi_4000, qi_of, pu_gI, pu_pI, nI_leI, nI_ltI, nI_eq, nI_add, pk_mul, pk_sub, pk_div, qw_s, qw_o, qw_l, qr_s, qr_o, qr_l, ql_i, ql_s, ql_o, pk_us, pk_un, pk_uLs, pk_uLn, if_pos, if_neg, if_true, if_false, ite_self, eq_self, Nat.zero_add, Nat.add_zero, qwr, not_true_eq_false, not_false_eq_true, Option.some.injEq, qe_gn0, qe_m1n, qe_gng, qe_ngn, qe_gm, qe_mg, qe_lm1, qe_lgn, qe_lem, qe_leg, qe_tm1, qe_tgn, k7_v hf, e3, k7_pat hj, hp]
  by_cases hle : h ≤ p
  · have hg : sgo (T.1 7) F j = true := by unfold sgo; rw [hh, hp, nI_clamp (by omega), nI_clamp (by omega)]; simpa using hle
    have q1 : sgg (T.1 7) F j = x := by unfold sgg; rw [hB, hg, hx, nI_clamp (by omega)]; rfl
    have q2 : sgh (T.1 7) F j = 0 := by unfold sgh; rw [hB, hg]; rfl
    have q3 : nI x = sgt (T.1 7) F j := by unfold sgt; rw [hB, hg, hx]; rfl
    rw [q1, q2, if_neg (by omega)]
    unfold bX7_sends_80 bX7_sends_116 bX7_sends_142 bX7_sends_171 bX7_sends_194
    simp (disch := omega) only [qlt, qb_some, qb_none, ↓qn_1, ↓qn_2, ↓qn_3, ↓qn_4, ↓qn_9, ↓qn_1000, ↓qn_low, qi_0, qi_1, qi_2, qi_3, qi_4, qi_5, qi_6, qi_7, qi_8, qi_9, qi_10, qi_11, qi_12, qi_13, qi_14, qi_15, qi_16, qi_17, qi_20, qi_24, qi_30, qi_31, qi_32, qi_60, qi_99, qi_100, qi_200, qi_1000, qi_3400, qi_4000, qi_of, pu_gI, pu_pI, nI_leI, nI_ltI, nI_eq, nI_add, pk_mul, pk_sub, pk_div, qw_s, qw_o, qw_l, qr_s, qr_o, qr_l, ql_i, ql_s, ql_o, pk_us, pk_un, pk_uLs, pk_uLn, if_pos, if_neg, if_true, if_false, ite_self, eq_self, Nat.zero_add, Nat.add_zero, qwr, not_true_eq_false, not_false_eq_true, Option.some.injEq, qe_gn0, qe_m1n, qe_gng, qe_ngn, qe_gm, qe_mg, qe_lm1, qe_lgn, qe_lem, qe_leg, qe_tm1, qe_tgn, mk3_o, mk3_0, mk3_w0, hx', mk3_11, mk3_w11, k7_v hf, k7_place hf, upd_upd, sS_s q3]
    rw [sO_w, sF_w, sO_21, sO_20, sF_12, sF_13, i32_00, i32_00, i32_b, i32_a, nI_add]
    rfl
  · have hg : sgo (T.1 7) F j = false := by unfold sgo; rw [hh, hp, nI_clamp (by omega), nI_clamp (by omega)]; simpa using hle
    have q1 : sgg (T.1 7) F j = 0 := by unfold sgg; rw [hB, hg]; rfl
    have q2 : sgh (T.1 7) F j = y := by unfold sgh; rw [hB, hg, hy, nI_clamp (by omega)]; rfl
    have q3 : -nI y = sgt (T.1 7) F j := by unfold sgt; rw [hB, hg, hy]; rfl
    rw [q1, q2, if_pos (by omega)]
    unfold bX7_sends_80 bX7_sends_116 bX7_sends_142 bX7_sends_171 bX7_sends_194
    simp (disch := omega) only [qlt, qb_some, qb_none, ↓qn_1, ↓qn_2, ↓qn_3, ↓qn_4, ↓qn_9, ↓qn_1000, ↓qn_low, qi_0, qi_1, qi_2, qi_3, qi_4, qi_5, qi_6, qi_7, qi_8, qi_9, qi_10, qi_11, qi_12, qi_13, qi_14, qi_15, qi_16, qi_17, qi_20, qi_24, qi_30, qi_31, qi_32, qi_60, qi_99, qi_100, qi_200, qi_1000, qi_3400, qi_4000, qi_of, pu_gI, pu_pI, nI_leI, nI_ltI, nI_eq, nI_add, pk_mul, pk_sub, pk_div, qw_s, qw_o, qw_l, qr_s, qr_o, qr_l, ql_i, ql_s, ql_o, pk_us, pk_un, pk_uLs, pk_uLn, if_pos, if_neg, if_true, if_false, ite_self, eq_self, Nat.zero_add, Nat.add_zero, qwr, not_true_eq_false, not_false_eq_true, Option.some.injEq, qe_gn0, qe_m1n, qe_gng, qe_ngn, qe_gm, qe_mg, qe_lm1, qe_lgn, qe_lem, qe_leg, qe_tm1, qe_tgn, mk3_o, mk3_0, mk3_w0, hy', mk3_11, mk3_w11, k7_v hf, k7_place hf, upd_upd, sS_s q3]
    rw [sO_w, sF_w, sO_21, sO_20, sF_12, sF_13, i32_0, i32_c, i32_e, i32_d, nI_add]
    rfl
/-- who goes behind the day, from god j on -/
def lv7 (G F : Nat → Int32) (g : Nat) : Bool := upB G F g && (decide (gK G g = nI 4) && decide ((gP G g).toNatClampNeg + 1 < (F (3 + g)).toNatClampNeg))
def lvF (G : Nat → Int32) (n j : Nat) (F : Nat → Int32) : Nat → Int32 := fun i => if 3 + j ≤ i ∧ i < 3 + n ∧ lv7 G F (i - 3) = true then gN else F i
theorem leave7_l {e : Nat} (hn : n ≤ 4) (h10 : o 10 = nI n) (hGI : GInv n (T.1 7)) (hf : f < 6) (he : e ≤ 1000) :
    ∀ q j F, j ≤ n → n - j < q → cut F → F 14 = nI e → hInv n F → lX7_sends_221 (nI f) q (mk3 T o (putF a f F) s) (nI j) = some (mk3 T o (putF a f (lvF (T.1 7) n j F)) s) := by
  intro q
  induction q with
  | zero => intro j F h1 h2; omega
  | succ q ih =>
    intro j F h1 h2 hc hd hh
    rw [lX7_sends_221]
    by_cases hj : j = n
    · subst hj
      have e0 : lvF (T.1 7) j j F = F := by
        funext i
        unfold lvF
        rw [if_neg (by omega)]
      simp (disch := omega) only [qlt, qb_some, qb_none, ↓qn_1, ↓qn_2, ↓qn_3, ↓qn_4, ↓qn_9, ↓qn_1000, ↓qn_low, qi_0, qi_1, qi_2, qi_3, qi_4, qi_5, qi_6, qi_7, qi_8, qi_9, qi_10, qi_11, qi_12, qi_13, qi_14, qi_15, qi_16, qi_17, qi_20, qi_24, qi_30, qi_31, qi_32, qi_60, qi_99, qi_100, qi_200, qi_1000, qi_3400, qi_4000, qi_of, pu_gI, pu_pI, nI_leI, nI_ltI, nI_eq, nI_add, pk_mul, pk_sub, pk_div, qw_s, qw_o, qw_l, qr_s, qr_o, qr_l, ql_i, ql_s, ql_o, pk_us, pk_un, pk_uLs, pk_uLn, if_pos, if_neg, if_true, if_false, ite_self, eq_self, Nat.zero_add, Nat.add_zero, qwr, not_true_eq_false, not_false_eq_true, Option.some.injEq, qe_gn0, qe_m1n, qe_gng, qe_ngn, qe_gm, qe_mg, qe_lm1, qe_lgn, qe_lem, qe_leg, qe_tm1, qe_tgn, mk3_0, h10, e0]
    · have hj4 : j < 4 := by omega
      obtain ⟨_, _, ⟨p, hp1, hp2, hp⟩, _⟩ := hGI j (by omega)
      have keep : lv7 (T.1 7) F j = false → lX7_sends_221 (nI f) q (mk3 T o (putF a f F) s) (nI (j + 1)) = some (mk3 T o (putF a f (lvF (T.1 7) n j F)) s) := by
        intro hl
        rw [ih (j + 1) F (by omega) (by omega) hc hd hh]
        congr 3
        funext i
        unfold lvF
        have c1 : (3 + (j + 1) ≤ i ∧ i < 3 + n ∧ lv7 (T.1 7) F (i - 3) = true) = (3 + j ≤ i ∧ i < 3 + n ∧ lv7 (T.1 7) F (i - 3) = true) := by
          apply propext
          constructor
          · rintro ⟨z1, z2, z3⟩
            exact ⟨by omega, z2, z3⟩
          · rintro ⟨z1, z2, z3⟩
            by_cases z4 : i = 3 + j
            · subst z4
              rw [show 3 + j - 3 = j by omega, hl] at z3
              exact absurd z3 (by decide)
            · exact ⟨by omega, z2, z3⟩
        simp only [c1]
      simp (disch := omega) only [qlt, qb_some, qb_none, ↓qn_1, ↓qn_2, ↓qn_3, ↓qn_4, ↓qn_9, ↓qn_1000, ↓qn_low, qi_0, qi_1, qi_2, qi_3, qi_4, qi_5, qi_6, qi_7, qi_8, qi_9, qi_10, qi_11, qi_12, qi_13, qi_14, qi_15, qi_16, qi_17, qi_20, qi_24, qi_30, qi_31, qi_32, qi_60, qi_99, qi_100, qi_200, qi_1000, qi_3400, qi_4000, qi_of, pu_gI, pu_pI, nI_leI, nI_ltI, nI_eq, nI_add, pk_mul, pk_sub, pk_div, qw_s, qw_o, qw_l, qr_s, qr_o, qr_l, ql_i, ql_s, ql_o, pk_us, pk_un, pk_uLs, pk_uLn, if_pos, if_neg, if_true, if_false, ite_self, eq_self, Nat.zero_add, Nat.add_zero, qwr, not_true_eq_false, not_false_eq_true, Option.some.injEq, qe_gn0, qe_m1n, qe_gng, qe_ngn, qe_gm, qe_mg, qe_lm1, qe_lgn, qe_lem, qe_leg, qe_tm1, qe_tgn, mk3_0, h10, k7_kind hj4]
      by_cases e1 : gK (T.1 7) j = nI 4
      · rw [if_pos e1]
        simp (disch := omega) only [qlt, qb_some, qb_none, ↓qn_1, ↓qn_2, ↓qn_3, ↓qn_4, ↓qn_9, ↓qn_1000, ↓qn_low, qi_0, qi_1, qi_2, qi_3, qi_4, qi_5, qi_6, qi_7, qi_8, qi_9, qi_10, qi_11, qi_12, qi_13, qi_14, qi_15, qi_16, qi_17, qi_20, qi_24, qi_30, qi_31, qi_32, qi_60, qi_99, qi_100, qi_200, qi_1000, qi_3400, qi_4000, qi_of, pu_gI, pu_pI, nI_leI, nI_ltI, nI_eq, nI_add, pk_mul, pk_sub, pk_div, qw_s, qw_o, qw_l, qr_s, qr_o, qr_l, ql_i, ql_s, ql_o, pk_us, pk_un, pk_uLs, pk_uLn, if_pos, if_neg, if_true, if_false, ite_self, eq_self, Nat.zero_add, Nat.add_zero, qwr, not_true_eq_false, not_false_eq_true, Option.some.injEq, qe_gn0, qe_m1n, qe_gng, qe_ngn, qe_gm, qe_mg, qe_lm1, qe_lgn, qe_lem, qe_leg, qe_tm1, qe_tgn, k7_up hc hf hj4 hd he]
        cases hu : upB (T.1 7) F j
        · simp (disch := omega) only [qlt, qb_some, qb_none, ↓qn_1, ↓qn_2, ↓qn_3, ↓qn_4, ↓qn_9, ↓qn_1000, ↓qn_low, qi_0, qi_1, qi_2, qi_3, qi_4, qi_5, qi_6, qi_7, qi_8, qi_9, qi_10, qi_11, qi_12, qi_13, qi_14, qi_15, qi_16, qi_17, qi_20, qi_24, qi_30, qi_31, qi_32, qi_60, qi_99, qi_100, qi_200, qi_1000, qi_3400, qi_4000, qi_of, pu_gI, pu_pI, nI_leI, nI_ltI, nI_eq, nI_add, pk_mul, pk_sub, pk_div, qw_s, qw_o, qw_l, qr_s, qr_o, qr_l, ql_i, ql_s, ql_o, pk_us, pk_un, pk_uLs, pk_uLn, if_pos, if_neg, if_true, if_false, ite_self, eq_self, Nat.zero_add, Nat.add_zero, qwr, not_true_eq_false, not_false_eq_true, Option.some.injEq, qe_gn0, qe_m1n, qe_gng, qe_ngn, qe_gm, qe_mg, qe_lm1, qe_lgn, qe_lem, qe_leg, qe_tm1, qe_tgn, Bool.false_eq_true]
          exact keep (by unfold lv7; rw [hu]; rfl)
        · have hne : F (3 + j) ≠ gN := by
            intro e9
            unfold upB at hu
            simp [e9] at hu
          obtain ⟨h, h9, hx⟩ := (hh j (by omega)).resolve_left hne
          simp (disch := omega) only [qlt, qb_some, qb_none, ↓qn_1, ↓qn_2, ↓qn_3, ↓qn_4, ↓qn_9, ↓qn_1000, ↓qn_low, qi_0, qi_1, qi_2, qi_3, qi_4, qi_5, qi_6, qi_7, qi_8, qi_9, qi_10, qi_11, qi_12, qi_13, qi_14, qi_15, qi_16, qi_17, qi_20, qi_24, qi_30, qi_31, qi_32, qi_60, qi_99, qi_100, qi_200, qi_1000, qi_3400, qi_4000, qi_of, pu_gI, pu_pI, nI_leI, nI_ltI, nI_eq, nI_add, pk_mul, pk_sub, pk_div, qw_s, qw_o, qw_l, qr_s, qr_o, qr_l, ql_i, ql_s, ql_o, pk_us, pk_un, pk_uLs, pk_uLn, if_pos, if_neg, if_true, if_false, ite_self, eq_self, Nat.zero_add, Nat.add_zero, qwr, not_true_eq_false, not_false_eq_true, Option.some.injEq, qe_gn0, qe_m1n, qe_gng, qe_ngn, qe_gm, qe_mg, qe_lm1, qe_lgn, qe_lem, qe_leg, qe_tm1, qe_tgn, k7_v hf, hx, k7_pat hj4, hp]
          have el : lv7 (T.1 7) F j = decide (p + 1 < h) := by
            unfold lv7
            rw [hu, hx, hp, nI_clamp (by omega), nI_clamp (by omega), e1]
            simp
          by_cases hl : h ≤ p + 1
          · rw [if_pos hl]
            exact keep (by rw [el]; simpa using hl)
          · rw [if_neg hl]
            simp (disch := omega) only [qlt, qb_some, qb_none, ↓qn_1, ↓qn_2, ↓qn_3, ↓qn_4, ↓qn_9, ↓qn_1000, ↓qn_low, qi_0, qi_1, qi_2, qi_3, qi_4, qi_5, qi_6, qi_7, qi_8, qi_9, qi_10, qi_11, qi_12, qi_13, qi_14, qi_15, qi_16, qi_17, qi_20, qi_24, qi_30, qi_31, qi_32, qi_60, qi_99, qi_100, qi_200, qi_1000, qi_3400, qi_4000, qi_of, pu_gI, pu_pI, nI_leI, nI_ltI, nI_eq, nI_add, pk_mul, pk_sub, pk_div, qw_s, qw_o, qw_l, qr_s, qr_o, qr_l, ql_i, ql_s, ql_o, pk_us, pk_un, pk_uLs, pk_uLn, if_pos, if_neg, if_true, if_false, ite_self, eq_self, Nat.zero_add, Nat.add_zero, qwr, not_true_eq_false, not_false_eq_true, Option.some.injEq, qe_gn0, qe_m1n, qe_gng, qe_ngn, qe_gm, qe_mg, qe_lm1, qe_lgn, qe_lem, qe_leg, qe_tm1, qe_tgn, k7_place hf]
            rw [ih (j + 1) (upd F (3 + j) gN) (by omega) (by omega) (cut_upd hc (by omega)) (by rw [pk_un (by omega)]; exact hd) (fun g hg => by
              by_cases e9 : g = j
              · subst e9; exact Or.inl pk_us
              · rw [pk_un (by omega)]; exact hh g hg)]
            congr 3
            funext i
            unfold lvF
            by_cases z4 : i = 3 + j
            · subst z4
              rw [if_neg (by omega), pk_us, show 3 + j - 3 = j by omega, if_pos ⟨by omega, by omega, by rw [el]; simpa using hl⟩]
            · rw [pk_un z4]
              have c1 : (3 + (j + 1) ≤ i ∧ i < 3 + n ∧ lv7 (T.1 7) (upd F (3 + j) gN) (i - 3) = true) = (3 + j ≤ i ∧ i < 3 + n ∧ lv7 (T.1 7) F (i - 3) = true) := by
                have e8 : 3 + j ≤ i → i < 3 + n → lv7 (T.1 7) (upd F (3 + j) gN) (i - 3) = lv7 (T.1 7) F (i - 3) := by
                  intro y1 y2
                  unfold lv7
                  rw [upB_eq (F := F) (F' := upd F (3 + j) gN) (pk_un (by omega)) (pk_un (by omega)), pk_un (by omega)]
                apply propext
                constructor
                · rintro ⟨z1, z2, z3⟩
                  rw [e8 (by omega) z2] at z3
                  exact ⟨by omega, z2, z3⟩
                · rintro ⟨z1, z2, z3⟩
                  rw [← e8 z1 z2] at z3
                  exact ⟨by omega, z2, z3⟩
              simp only [c1]
      · rw [if_neg e1]
        exact keep (by unfold lv7; simp [e1])
theorem sends7_l {e : Nat} (hn : n ≤ 4) (h10 : o 10 = nI n) (hGI : GInv n (T.1 7)) (hf : f < 6) (he : e ≤ 1000) (hc : cut F) (hd : F 14 = nI e) (h7 : nib (F 7)) (hh : hInv n F) :
    ∀ q j, j ≤ n → n - j < q → lX7_sends_12 (nI f) q (mk3 T (sO o (nsum (sgg (T.1 7) F) j) (nsum (sgh (T.1 7) F) j)) (putF a f (sF F (nsum (sgg (T.1 7) F) j) (nsum (sgh (T.1 7) F) j))) (sS (T.1 7) F s j)) (nI j)
      = some (mk3 T (sO o (nsum (sgg (T.1 7) F) n) (nsum (sgh (T.1 7) F) n)) (putF a f (lvF (T.1 7) n 0 (sF F (nsum (sgg (T.1 7) F) n) (nsum (sgh (T.1 7) F) n)))) (sS (T.1 7) F s n)) := by
  intro q
  induction q with
  | zero => intro j h1 h2; omega
  | succ q ih =>
    intro j h1 h2
    rw [lX7_sends_12]
    have hO : ∀ A B, sO o A B 10 = nI n := fun A B => by rw [sO_o (by decide) (by decide)]; exact h10
    have hs14 : ∀ A B, sF F A B 14 = nI e := fun A B => by rw [sF_o (by decide) (by decide)]; exact hd
    by_cases hj : j = n
    · subst hj
      simp (disch := omega) only [qlt, qb_some, qb_none, ↓qn_1, ↓qn_2, ↓qn_3, ↓qn_4, ↓qn_9, ↓qn_1000, ↓qn_low, qi_0, qi_1, qi_2, qi_3, qi_4, qi_5, qi_6, qi_7, qi_8, qi_9, qi_10, qi_11, qi_12, qi_13, qi_14, qi_15, qi_16, qi_17, qi_20, qi_24, qi_30, qi_31, qi_32, qi_60, qi_99, qi_100, qi_200, qi_1000, qi_3400, qi_4000, qi_of, pu_gI, pu_pI, nI_leI, nI_ltI, nI_eq, nI_add, pk_mul, pk_sub, pk_div, qw_s, qw_o, qw_l, qr_s, qr_o, qr_l, ql_i, ql_s, ql_o, pk_us, pk_un, pk_uLs, pk_uLn, if_pos, if_neg, if_true, if_false, ite_self, eq_self, Nat.zero_add, Nat.add_zero, qwr, not_true_eq_false, not_false_eq_true, Option.some.injEq, qe_gn0, qe_m1n, qe_gng, qe_ngn, qe_gm, qe_mg, qe_lm1, qe_lgn, qe_lem, qe_leg, qe_tm1, qe_tgn, mk3_0, hO]
      unfold bX7_sends_219
      rw [qi_0]
      exact leave7_l hn (hO _ _) hGI hf he FU 0 _ (Nat.zero_le _) (by unfold FU; omega) (cut_sF hc) (hs14 _ _) (fun g hg => by rw [sF_o (by omega) (by omega)]; exact hh g hg)
    · have hj4 : j < 4 := by omega
      have eu : ∀ A B, upB (T.1 7) (sF F A B) j = upB (T.1 7) F j := fun A B => upB_eq (sF_o (by omega) (by omega)) (sF_o (by decide) (by decide))
      have e7 : ∀ A B, sF F A B 7 = F 7 := fun A B => sF_o (by decide) (by decide)
      have go := ih (j + 1) (by omega) (by omega)
      have keep : sgB (T.1 7) F j = false → lX7_sends_12 (nI f) q (mk3 T (sO o (nsum (sgg (T.1 7) F) j) (nsum (sgh (T.1 7) F) j)) (putF a f (sF F (nsum (sgg (T.1 7) F) j) (nsum (sgh (T.1 7) F) j))) (upd (sS (T.1 7) F s j) j (nI 0))) (nI (j + 1)) = some (mk3 T (sO o (nsum (sgg (T.1 7) F) n) (nsum (sgh (T.1 7) F) n)) (putF a f (lvF (T.1 7) n 0 (sF F (nsum (sgg (T.1 7) F) n) (nsum (sgh (T.1 7) F) n)))) (sS (T.1 7) F s n)) := by
        intro hB
        have q1 : sgg (T.1 7) F j = 0 := by unfold sgg; rw [hB]; rfl
        have q2 : sgh (T.1 7) F j = 0 := by unfold sgh; rw [hB]; rfl
        have q3 : nI 0 = sgt (T.1 7) F j := by unfold sgt; rw [hB]; rfl
        rw [sS_s q3]
        rw [nsum_s _ j, nsum_s _ j, q1, q2, Nat.add_zero, Nat.add_zero] at go
        exact go
      simp (disch := omega) only [qlt, qb_some, qb_none, ↓qn_1, ↓qn_2, ↓qn_3, ↓qn_4, ↓qn_9, ↓qn_1000, ↓qn_low, qi_0, qi_1, qi_2, qi_3, qi_4, qi_5, qi_6, qi_7, qi_8, qi_9, qi_10, qi_11, qi_12, qi_13, qi_14, qi_15, qi_16, qi_17, qi_20, qi_24, qi_30, qi_31, qi_32, qi_60, qi_99, qi_100, qi_200, qi_1000, qi_3400, qi_4000, qi_of, pu_gI, pu_pI, nI_leI, nI_ltI, nI_eq, nI_add, pk_mul, pk_sub, pk_div, qw_s, qw_o, qw_l, qr_s, qr_o, qr_l, ql_i, ql_s, ql_o, pk_us, pk_un, pk_uLs, pk_uLn, if_pos, if_neg, if_true, if_false, ite_self, eq_self, Nat.zero_add, Nat.add_zero, qwr, not_true_eq_false, not_false_eq_true, Option.some.injEq, qe_gn0, qe_m1n, qe_gng, qe_ngn, qe_gm, qe_mg, qe_lm1, qe_lgn, qe_lem, qe_leg, qe_tm1, qe_tgn, mk3_0, mk3_11, mk3_w11, hO, k7_up (cut_sF hc) hf hj4 (hs14 _ _) he, eu]
      cases hu : upB (T.1 7) F j
      · simp (disch := omega) only [qlt, qb_some, qb_none, ↓qn_1, ↓qn_2, ↓qn_3, ↓qn_4, ↓qn_9, ↓qn_1000, ↓qn_low, qi_0, qi_1, qi_2, qi_3, qi_4, qi_5, qi_6, qi_7, qi_8, qi_9, qi_10, qi_11, qi_12, qi_13, qi_14, qi_15, qi_16, qi_17, qi_20, qi_24, qi_30, qi_31, qi_32, qi_60, qi_99, qi_100, qi_200, qi_1000, qi_3400, qi_4000, qi_of, pu_gI, pu_pI, nI_leI, nI_ltI, nI_eq, nI_add, pk_mul, pk_sub, pk_div, qw_s, qw_o, qw_l, qr_s, qr_o, qr_l, ql_i, ql_s, ql_o, pk_us, pk_un, pk_uLs, pk_uLn, if_pos, if_neg, if_true, if_false, ite_self, eq_self, Nat.zero_add, Nat.add_zero, qwr, not_true_eq_false, not_false_eq_true, Option.some.injEq, qe_gn0, qe_m1n, qe_gng, qe_ngn, qe_gm, qe_mg, qe_lm1, qe_lgn, qe_lem, qe_leg, qe_tm1, qe_tgn, Bool.false_eq_true]
        exact keep (by unfold sgB; rw [hu]; rfl)
      · have hne : F (3 + j) ≠ gN := by
          intro e9
          unfold upB at hu
          simp [e9] at hu
        obtain ⟨h, h9, hx⟩ := (hh j (by omega)).resolve_left hne
        have yes : sgB (T.1 7) F j = true → bX7_sends_59 (lX7_sends_12 (nI f) q) (mk3 T (sO o (nsum (sgg (T.1 7) F) j) (nsum (sgh (T.1 7) F) j)) (putF a f (sF F (nsum (sgg (T.1 7) F) j) (nsum (sgh (T.1 7) F) j))) (upd (sS (T.1 7) F s j) j (nI 0))) (nI f) (nI j) = some (mk3 T (sO o (nsum (sgg (T.1 7) F) n) (nsum (sgh (T.1 7) F) n)) (putF a f (lvF (T.1 7) n 0 (sF F (nsum (sgg (T.1 7) F) n) (nsum (sgh (T.1 7) F) n)))) (sS (T.1 7) F s n)) := by
          intro hB
          rw [sends7_y hf hj4 hGI (by omega) hx h9 hB]
          exact go
        simp (disch := omega) only [qlt, qb_some, qb_none, ↓qn_1, ↓qn_2, ↓qn_3, ↓qn_4, ↓qn_9, ↓qn_1000, ↓qn_low, qi_0, qi_1, qi_2, qi_3, qi_4, qi_5, qi_6, qi_7, qi_8, qi_9, qi_10, qi_11, qi_12, qi_13, qi_14, qi_15, qi_16, qi_17, qi_20, qi_24, qi_30, qi_31, qi_32, qi_60, qi_99, qi_100, qi_200, qi_1000, qi_3400, qi_4000, qi_of, pu_gI, pu_pI, nI_leI, nI_ltI, nI_eq, nI_add, pk_mul, pk_sub, pk_div, qw_s, qw_o, qw_l, qr_s, qr_o, qr_l, ql_i, ql_s, ql_o, pk_us, pk_un, pk_uLs, pk_uLn, if_pos, if_neg, if_true, if_false, ite_self, eq_self, Nat.zero_add, Nat.add_zero, qwr, not_true_eq_false, not_false_eq_true, Option.some.injEq, qe_gn0, qe_m1n, qe_gng, qe_ngn, qe_gm, qe_mg, qe_lm1, qe_lgn, qe_lem, qe_leg, qe_tm1, qe_tgn, k7_kind hj4]
        by_cases e1 : gK (T.1 7) j = nI 5
        · rw [if_pos e1]
          simp (disch := omega) only [qlt, qb_some, qb_none, ↓qn_1, ↓qn_2, ↓qn_3, ↓qn_4, ↓qn_9, ↓qn_1000, ↓qn_low, qi_0, qi_1, qi_2, qi_3, qi_4, qi_5, qi_6, qi_7, qi_8, qi_9, qi_10, qi_11, qi_12, qi_13, qi_14, qi_15, qi_16, qi_17, qi_20, qi_24, qi_30, qi_31, qi_32, qi_60, qi_99, qi_100, qi_200, qi_1000, qi_3400, qi_4000, qi_of, pu_gI, pu_pI, nI_leI, nI_ltI, nI_eq, nI_add, pk_mul, pk_sub, pk_div, qw_s, qw_o, qw_l, qr_s, qr_o, qr_l, ql_i, ql_s, ql_o, pk_us, pk_un, pk_uLs, pk_uLn, if_pos, if_neg, if_true, if_false, ite_self, eq_self, Nat.zero_add, Nat.add_zero, qwr, not_true_eq_false, not_false_eq_true, Option.some.injEq, qe_gn0, qe_m1n, qe_gng, qe_ngn, qe_gm, qe_mg, qe_lm1, qe_lgn, qe_lem, qe_leg, qe_tm1, qe_tgn, k7_v hf, e7, has7_y]
          cases hb : bt (F 7) j
          · simp (disch := omega) only [qlt, qb_some, qb_none, ↓qn_1, ↓qn_2, ↓qn_3, ↓qn_4, ↓qn_9, ↓qn_1000, ↓qn_low, qi_0, qi_1, qi_2, qi_3, qi_4, qi_5, qi_6, qi_7, qi_8, qi_9, qi_10, qi_11, qi_12, qi_13, qi_14, qi_15, qi_16, qi_17, qi_20, qi_24, qi_30, qi_31, qi_32, qi_60, qi_99, qi_100, qi_200, qi_1000, qi_3400, qi_4000, qi_of, pu_gI, pu_pI, nI_leI, nI_ltI, nI_eq, nI_add, pk_mul, pk_sub, pk_div, qw_s, qw_o, qw_l, qr_s, qr_o, qr_l, ql_i, ql_s, ql_o, pk_us, pk_un, pk_uLs, pk_uLn, if_pos, if_neg, if_true, if_false, ite_self, eq_self, Nat.zero_add, Nat.add_zero, qwr, not_true_eq_false, not_false_eq_true, Option.some.injEq, qe_gn0, qe_m1n, qe_gng, qe_ngn, qe_gm, qe_mg, qe_lm1, qe_lgn, qe_lem, qe_leg, qe_tm1, qe_tgn, Bool.false_eq_true]
            exact keep (by unfold sgB; rw [hu, hb]; simp [e1])
          · simp (disch := omega) only [qlt, qb_some, qb_none, ↓qn_1, ↓qn_2, ↓qn_3, ↓qn_4, ↓qn_9, ↓qn_1000, ↓qn_low, qi_0, qi_1, qi_2, qi_3, qi_4, qi_5, qi_6, qi_7, qi_8, qi_9, qi_10, qi_11, qi_12, qi_13, qi_14, qi_15, qi_16, qi_17, qi_20, qi_24, qi_30, qi_31, qi_32, qi_60, qi_99, qi_100, qi_200, qi_1000, qi_3400, qi_4000, qi_of, pu_gI, pu_pI, nI_leI, nI_ltI, nI_eq, nI_add, pk_mul, pk_sub, pk_div, qw_s, qw_o, qw_l, qr_s, qr_o, qr_l, ql_i, ql_s, ql_o, pk_us, pk_un, pk_uLs, pk_uLn, if_pos, if_neg, if_true, if_false, ite_self, eq_self, Nat.zero_add, Nat.add_zero, qwr, not_true_eq_false, not_false_eq_true, Option.some.injEq, qe_gn0, qe_m1n, qe_gng, qe_ngn, qe_gm, qe_mg, qe_lm1, qe_lgn, qe_lem, qe_leg, qe_tm1, qe_tgn]
            exact yes (by unfold sgB; rw [hu, hb]; simp)
        · rw [if_neg e1]
          exact yes (by unfold sgB; rw [hu]; simp [e1])
theorem sends7 {e : Nat} (hn : n ≤ 4) (h10 : o 10 = nI n) (hGI : GInv n (T.1 7)) (hf : f < 6) (he : e ≤ 1000) (hc : cut F) (hd : F 14 = nI e) (h7 : nib (F 7)) (hh : hInv n F) :
    mX7_sends (mk3 T o (putF a f F) s) (nI f) = some (mk3 T (sO o (nsum (sgg (T.1 7) F) n) (nsum (sgh (T.1 7) F) n)) (putF a f (lvF (T.1 7) n 0 (sF F (nsum (sgg (T.1 7) F) n) (nsum (sgh (T.1 7) F) n)))) (sS (T.1 7) F s n)) := by
  unfold mX7_sends
  simp (disch := omega) only [qlt, qb_some, qb_none, ↓qn_1, ↓qn_2, ↓qn_3, ↓qn_4, ↓qn_9, ↓qn_1000, ↓qn_low, qi_0, qi_1, qi_2, qi_3, qi_4, qi_5, qi_6, qi_7, qi_8, qi_9, qi_10, qi_11, qi_12, qi_13, qi_14, qi_15, qi_16, qi_17, qi_20, qi_24, qi_30, qi_31, qi_32, qi_60, qi_99, qi_100, qi_200, qi_1000, qi_3400, qi_4000, qi_of, pu_gI, pu_pI, nI_leI, nI_ltI, nI_eq, nI_add, pk_mul, pk_sub, pk_div, qw_s, qw_o, qw_l, qr_s, qr_o, qr_l, ql_i, ql_s, ql_o, pk_us, pk_un, pk_uLs, pk_uLn, if_pos, if_neg, if_true, if_false, ite_self, eq_self, Nat.zero_add, Nat.add_zero, qwr, not_true_eq_false, not_false_eq_true, Option.some.injEq, qe_gn0, qe_m1n, qe_gng, qe_ngn, qe_gm, qe_mg, qe_lm1, qe_lgn, qe_lem, qe_leg, qe_tm1, qe_tgn, mk3_w0]
  have h := sends7_l (s := s) (a := a) hn h10 hGI hf he hc hd h7 hh FU 0 (Nat.zero_le n) (by unfold FU; omega)
  have e1 : sO o (nsum (sgg (T.1 7) F) 0) (nsum (sgh (T.1 7) F) 0) = upd (upd o 20 (nI 0)) 21 (nI 0) := by
    unfold sO nsum
    rw [i32_00]
  have e2 : sF F (nsum (sgg (T.1 7) F) 0) (nsum (sgh (T.1 7) F) 0) = F := by
    unfold sF nsum
    rw [i32_0, i32_0]
    rw [upd_id, upd_id]
  have e3 : sS (T.1 7) F s 0 = s := by
    funext g
    exact if_neg (by omega)
  rw [e1, e2, e3] at h
  exact h
end D8
