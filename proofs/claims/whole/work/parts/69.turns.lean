/-! ===== PURE: two villages by turns, the reference ===== -/
def bI (b : Bool) : Int32 := if b = true then nI 1 else nI 0
/-- what turns leave alone: of the object all but four places, frames up to f -/
def okT (f : Nat) (o a o' a' : Nat → Int32) : Prop := (∀ p, p ≠ 20 → p ≠ 21 → p ≠ 22 → p ≠ 36 → o' p = o p) ∧ ∀ p, p ≤ f → frA a' p = frA a p
theorem okT_r {f : Nat} {o a : Nat → Int32} : okT f o a o a := ⟨fun _ _ _ _ _ => rfl, fun _ _ => rfl⟩
theorem okT_t {f : Nat} {o a o' a' o2 a2 : Nat → Int32} (h : okT f o a o' a') (h2 : okT f o' a' o2 a2) : okT f o a o2 a2 :=
  ⟨fun p p1 p2 p3 p4 => by rw [h2.1 p p1 p2 p3 p4]; exact h.1 p p1 p2 p3 p4, fun p hp => by rw [h2.2 p hp]; exact h.2 p hp⟩
theorem okT_s {f f' : Nat} {o a o' a' : Nat → Int32} (hf : f ≤ f') (h : okT f' o a o' a') : okT f o a o' a' := ⟨h.1, fun p hp => h.2 p (by omega)⟩
theorem okT_p {f : Nat} {o a o' a' F : Nat → Int32} (h : okT f o a o' a') : okT f o a o' (putF a' (f + 1) F) := ⟨h.1, fun p hp => by rw [frA_puto (by omega)]; exact h.2 p hp⟩
theorem okT_22 {f : Nat} {o a o' a' : Nat → Int32} {x : Int32} (h : okT f o a o' a') : okT f o a (upd o' 22 x) a' := ⟨fun p p1 p2 p3 p4 => by rw [pk_un p3]; exact h.1 p p1 p2 p3 p4, h.2⟩
theorem okT_36 {f : Nat} {o a o' a' : Nat → Int32} {x : Int32} (h : okT f o a o' a') : okT f o a (upd o' 36 x) a' := ⟨fun p p1 p2 p3 p4 => by rw [pk_un p4]; exact h.1 p p1 p2 p3 p4, h.2⟩
theorem okT_sO {f A B : Nat} {o a o' a' : Nat → Int32} (h : okT f o a o' a') : okT f o a (sO o' A B) a' := ⟨fun p p1 p2 p3 p4 => by rw [sO_o p1 p2]; exact h.1 p p1 p2 p3 p4, h.2⟩
theorem bI_f : bI false = nI 0 := rfl
theorem bI_t : bI true = nI 1 := rfl
theorem canB_v {G F : Nat → Int32} {n d : Nat} (h : canB G n F d = true) : d = 12 ∨ d < 3 * n := by
  unfold canB at h
  simp only [Bool.or_eq_true, Bool.and_eq_true, decide_eq_true_eq] at h
  rcases h with h | h
  · exact Or.inl h
  · exact Or.inr h.1
section TU
variable {T : vS} {n : Nat} {set : Int32}
/-- one offering in the frame behind -/
theorem turn_y {f d : Nat} {o a s F : Nat → Int32} (hn : n ≤ 4) (hGI : GInv n (T.1 7)) (hf : f < 5) (h10 : o 10 = nI n) (hfr : frA a f = F) (hF : FInv n F) (hcan : canB (T.1 7) n F d = true) :
    mX7_copyValley (mk3 T o a s) (nI f) (nI (f + 1)) = some (mk3 T o (putF a (f + 1) F) s) ∧ mX7_isNumber (mk3 T o (putF a (f + 1) F) s) (nI d) = nI 1 ∧
    ∃ o' a' s', mX7_goes (mk3 T o (putF a (f + 1) F) s) (nI (f + 1)) (nI d) = some (nI 1, mk3 T o' a' s') ∧ okT f o a o' a' ∧ o' 36 = o 36 ∧ frA a' (f + 1) = dyF (T.1 7) n F d ∧ mX7_sentOf (mk3 T o' a' s') set = some (sentS (T.1 7) n F d set) := by
  have hv := canB_v hcan
  have hc : cut F := by rw [← hfr]; exact cut_fr a f
  have hcp := copyV7 (T := T) (o := o) (a := a) (s := s) (p := f) (q := f + 1) (by omega) (by omega) (by omega)
  rw [hfr] at hcp
  have go7 := goes7_y (T := T) (o := o) (a := a) (s := s) (f := f + 1) hn h10 hGI (by omega) hc hF hv hcan
  refine ⟨hcp, ?_, _, _, _, go7, okT_p (okT_sO (okT_22 okT_r)), ?_, frA_put (cut_dy hc), ?_⟩
  · rw [m7_num (n := n) h10 hn (by omega), if_pos hv]
  · rw [sO_o (by decide) (by decide), pk_un (by decide)]
  · exact sentOf7 hn (by rw [mk3_0, sO_o (by decide) (by decide), pk_un (by decide)]; exact h10) (fun g hg => by rw [mk3_11]; exact if_pos hg)
theorem turn_n {f d : Nat} {o a s F : Nat → Int32} (hn : n ≤ 4) (hf : f < 5) (h10 : o 10 = nI n) (hfr : frA a f = F) (hF : FInv n F) (hd : d < 13) (hcan : canB (T.1 7) n F d = false) :
    mX7_copyValley (mk3 T o a s) (nI f) (nI (f + 1)) = some (mk3 T o (putF a (f + 1) F) s) ∧
    ((mX7_isNumber (mk3 T o (putF a (f + 1) F) s) (nI d) = nI 0) ∨ (mX7_isNumber (mk3 T o (putF a (f + 1) F) s) (nI d) = nI 1 ∧ mX7_goes (mk3 T o (putF a (f + 1) F) s) (nI (f + 1)) (nI d) = some (nI 0, mk3 T (upd o 22 gN) (putF a (f + 1) F) s))) := by
  have hc : cut F := by rw [← hfr]; exact cut_fr a f
  have hcp := copyV7 (T := T) (o := o) (a := a) (s := s) (p := f) (q := f + 1) (by omega) (by omega) (by omega)
  rw [hfr] at hcp
  refine ⟨hcp, ?_⟩
  by_cases hv : d = 12 ∨ d < 3 * n
  · refine Or.inr ⟨by rw [m7_num (n := n) h10 hn (by omega), if_pos hv], goes7_n (T := T) (o := o) (a := a) (s := s) (f := f + 1) hn h10 (by omega) hc hF hv hcan⟩
  · exact Or.inl (by rw [m7_num (n := n) h10 hn (by omega), if_neg hv])
/-- the last turn -/
theorem last7 {f : Nat} {o a s F : Nat → Int32} (mu : Bool) (hn : n ≤ 4) (hGI : GInv n (T.1 7)) (hf : f < 5) (h10 : o 10 = nI n) (hfr : frA a f = F) (hF : FInv n F) :
    ∃ o' a' s', mX7_lastTurn (mk3 T o a s) (nI f) set (bI mu) = some ((duelV (T.1 7) n set 1 mu F).2.1, mk3 T o' a' s') ∧ okT f o a o' a' ∧ o' 36 = nI (duelV (T.1 7) n set 1 mu F).2.2 := by
  have loop : ∀ q d (o2 a2 s2 : Nat → Int32) (t : Bool × Int32 × Nat), d ≤ 13 → 13 - d < q → okT f o a o2 a2 → o2 36 = nI t.2.2 →
      ∃ o' a' s', lX7_lastTurn_15 (nI f) set (bI mu) q (mk3 T o2 a2 s2) t.2.1 (bI t.1) (nI d) = some ((dfold (dX (T.1 7) n set 0 mu F) mu (13 - d) t).2.1, mk3 T o' a' s') ∧ okT f o a o' a' ∧ o' 36 = nI (dfold (dX (T.1 7) n set 0 mu F) mu (13 - d) t).2.2 := by
    intro q
    induction q with
    | zero => intro d o2 a2 s2 t k1 k2; omega
    | succ q ih =>
      intro d o2 a2 s2 t k1 k2 hk h36
      rw [lX7_lastTurn_15]
      by_cases hd : d = 13
      · subst hd
        simp (disch := omega) only [qlt, qb_some, qb_none, ↓qn_1, ↓qn_2, ↓qn_3, ↓qn_4, ↓qn_9, ↓qn_1000, ↓qn_low, qi_0, qi_1, qi_2, qi_3, qi_4, qi_5, qi_6, qi_7, qi_8, qi_9, qi_10, qi_11, qi_12, qi_13, qi_14, qi_15, qi_16, qi_17, qi_20, qi_24, qi_30, qi_31, qi_32, qi_60, qi_99, qi_100, qi_200, qi_1000, qi_3400, qi_4000, qi_of, pu_gI, pu_pI, nI_leI, nI_ltI, nI_eq, nI_add, pk_mul, pk_sub, pk_div, qw_s, qw_o, qw_l, qr_s, qr_o, qr_l, ql_i, ql_s, ql_o, pk_us, pk_un, pk_uLs, pk_uLn, if_pos, if_neg, if_true, if_false, ite_self, eq_self, Nat.zero_add, Nat.add_zero, qwr, not_true_eq_false, not_false_eq_true, Option.some.injEq, qe_gn0, qe_m1n, qe_gng, qe_ngn, qe_gm, qe_mg, qe_lm1, qe_lgn, qe_lem, qe_leg, qe_tm1, qe_tgn]
        exact ⟨_, _, _, rfl, hk, h36⟩
      · have hd13 : d < 13 := by omega
        have k10 : o2 10 = nI n := by rw [hk.1 10 (by decide) (by decide) (by decide) (by decide)]; exact h10
        have kfr : frA a2 f = F := by rw [hk.2 f (Nat.le_refl f)]; exact hfr
        rw [dfold_s _ _ hd13]
        have hst0 : (13 - (d + 1)) = 12 - d := by omega
        cases hcan : canB (T.1 7) n F d
        · have hX : dX (T.1 7) n set 0 mu F d = none := by unfold dX; rw [hcan]; rfl
          rw [hX]
          obtain ⟨w1, w2⟩ := turn_n (T := T) (s := s2) hn hf k10 kfr hF hd13 hcan
          have go := fun o3 s3 h1 h2 => ih (d + 1) o3 (putF a2 (f + 1) F) s3 t (by omega) (by omega) h1 h2
          rw [hst0] at go
          rcases w2 with w2 | ⟨w2, w3⟩
          · simp (disch := omega) only [qlt, qb_some, qb_none, ↓qn_1, ↓qn_2, ↓qn_3, ↓qn_4, ↓qn_9, ↓qn_1000, ↓qn_low, qi_0, qi_1, qi_2, qi_3, qi_4, qi_5, qi_6, qi_7, qi_8, qi_9, qi_10, qi_11, qi_12, qi_13, qi_14, qi_15, qi_16, qi_17, qi_20, qi_24, qi_30, qi_31, qi_32, qi_60, qi_99, qi_100, qi_200, qi_1000, qi_3400, qi_4000, qi_of, pu_gI, pu_pI, nI_leI, nI_ltI, nI_eq, nI_add, pk_mul, pk_sub, pk_div, qw_s, qw_o, qw_l, qr_s, qr_o, qr_l, ql_i, ql_s, ql_o, pk_us, pk_un, pk_uLs, pk_uLn, if_pos, if_neg, if_true, if_false, ite_self, eq_self, Nat.zero_add, Nat.add_zero, qwr, not_true_eq_false, not_false_eq_true, Option.some.injEq, qe_gn0, qe_m1n, qe_gng, qe_ngn, qe_gm, qe_mg, qe_lm1, qe_lgn, qe_lem, qe_leg, qe_tm1, qe_tgn, w1, w2]
            exact go o2 s2 (okT_p hk) h36
          · simp (disch := omega) only [qlt, qb_some, qb_none, ↓qn_1, ↓qn_2, ↓qn_3, ↓qn_4, ↓qn_9, ↓qn_1000, ↓qn_low, qi_0, qi_1, qi_2, qi_3, qi_4, qi_5, qi_6, qi_7, qi_8, qi_9, qi_10, qi_11, qi_12, qi_13, qi_14, qi_15, qi_16, qi_17, qi_20, qi_24, qi_30, qi_31, qi_32, qi_60, qi_99, qi_100, qi_200, qi_1000, qi_3400, qi_4000, qi_of, pu_gI, pu_pI, nI_leI, nI_ltI, nI_eq, nI_add, pk_mul, pk_sub, pk_div, qw_s, qw_o, qw_l, qr_s, qr_o, qr_l, ql_i, ql_s, ql_o, pk_us, pk_un, pk_uLs, pk_uLn, if_pos, if_neg, if_true, if_false, ite_self, eq_self, Nat.zero_add, Nat.add_zero, qwr, not_true_eq_false, not_false_eq_true, Option.some.injEq, qe_gn0, qe_m1n, qe_gng, qe_ngn, qe_gm, qe_mg, qe_lm1, qe_lgn, qe_lem, qe_leg, qe_tm1, qe_tgn, w1, w2, w3]
            exact go _ s2 (okT_p (okT_22 hk)) (by rw [pk_un (by decide)]; exact h36)
        · obtain ⟨w1, w2, o3, a3, s3, w3, w4, w5, w6, w7⟩ := turn_y (T := T) (s := s2) (set := set) hn hGI hf k10 kfr hF hcan
          have hX : dX (T.1 7) n set 0 mu F d = some (sentS (T.1 7) n F d set) := by
            unfold dX
            rw [hcan, if_pos rfl]
            show some (sentS (T.1 7) n F d set + nI 0) = _
            rw [i32_0]
          rw [hX]
          generalize sentS (T.1 7) n F d set = v at w7
          have take := ih (d + 1) (upd o3 36 (nI d)) a3 s3 (true, v, d) (by omega) (by omega) (okT_t hk (okT_36 w4)) pk_us
          have keep := ih (d + 1) o3 a3 s3 t (by omega) (by omega) (okT_t hk w4) (by rw [w5]; exact h36)
          rw [hst0] at take keep
          obtain ⟨t1, t2, t3⟩ := t
          unfold bX7_lastTurn_84 bX7_lastTurn_94
          cases t1
          · have hs : stD mu d (some v) (false, t2, t3) = (true, v, d) := rfl
            rw [hs]
            simp (disch := omega) only [qlt, qb_some, qb_none, ↓qn_1, ↓qn_2, ↓qn_3, ↓qn_4, ↓qn_9, ↓qn_1000, ↓qn_low, qi_0, qi_1, qi_2, qi_3, qi_4, qi_5, qi_6, qi_7, qi_8, qi_9, qi_10, qi_11, qi_12, qi_13, qi_14, qi_15, qi_16, qi_17, qi_20, qi_24, qi_30, qi_31, qi_32, qi_60, qi_99, qi_100, qi_200, qi_1000, qi_3400, qi_4000, qi_of, pu_gI, pu_pI, nI_leI, nI_ltI, nI_eq, nI_add, pk_mul, pk_sub, pk_div, qw_s, qw_o, qw_l, qr_s, qr_o, qr_l, ql_i, ql_s, ql_o, pk_us, pk_un, pk_uLs, pk_uLn, if_pos, if_neg, if_true, if_false, ite_self, eq_self, Nat.zero_add, Nat.add_zero, qwr, not_true_eq_false, not_false_eq_true, Option.some.injEq, qe_gn0, qe_m1n, qe_gng, qe_ngn, qe_gm, qe_mg, qe_lm1, qe_lgn, qe_lem, qe_leg, qe_tm1, qe_tgn, w1, w2, w3, w7, bI_f, mk3_w0]
            exact take
          · cases mu
            · by_cases hlt : v < t2
              · have hs : stD false d (some v) (true, t2, t3) = (true, v, d) := by simp [stD, hlt]
                have hle : (t2 ≤ v) = False := eq_false (Int32.not_le.mpr hlt)
                rw [hs]
                simp only [bI_f, bI_t] at take ⊢
                simp (disch := omega) only [qlt, qb_some, qb_none, ↓qn_1, ↓qn_2, ↓qn_3, ↓qn_4, ↓qn_9, ↓qn_1000, ↓qn_low, qi_0, qi_1, qi_2, qi_3, qi_4, qi_5, qi_6, qi_7, qi_8, qi_9, qi_10, qi_11, qi_12, qi_13, qi_14, qi_15, qi_16, qi_17, qi_20, qi_24, qi_30, qi_31, qi_32, qi_60, qi_99, qi_100, qi_200, qi_1000, qi_3400, qi_4000, qi_of, pu_gI, pu_pI, nI_leI, nI_ltI, nI_eq, nI_add, pk_mul, pk_sub, pk_div, qw_s, qw_o, qw_l, qr_s, qr_o, qr_l, ql_i, ql_s, ql_o, pk_us, pk_un, pk_uLs, pk_uLn, if_pos, if_neg, if_true, if_false, ite_self, eq_self, Nat.zero_add, Nat.add_zero, qwr, not_true_eq_false, not_false_eq_true, Option.some.injEq, qe_gn0, qe_m1n, qe_gng, qe_ngn, qe_gm, qe_mg, qe_lm1, qe_lgn, qe_lem, qe_leg, qe_tm1, qe_tgn, w1, w2, w3, w7, mk3_w0, hle]
                exact take
              · have hs : stD false d (some v) (true, t2, t3) = (true, t2, t3) := by simp [stD, hlt]
                have hle : (t2 ≤ v) = True := eq_true (Int32.not_lt.mp hlt)
                rw [hs]
                simp only [bI_f, bI_t] at keep ⊢
                simp (disch := omega) only [qlt, qb_some, qb_none, ↓qn_1, ↓qn_2, ↓qn_3, ↓qn_4, ↓qn_9, ↓qn_1000, ↓qn_low, qi_0, qi_1, qi_2, qi_3, qi_4, qi_5, qi_6, qi_7, qi_8, qi_9, qi_10, qi_11, qi_12, qi_13, qi_14, qi_15, qi_16, qi_17, qi_20, qi_24, qi_30, qi_31, qi_32, qi_60, qi_99, qi_100, qi_200, qi_1000, qi_3400, qi_4000, qi_of, pu_gI, pu_pI, nI_leI, nI_ltI, nI_eq, nI_add, pk_mul, pk_sub, pk_div, qw_s, qw_o, qw_l, qr_s, qr_o, qr_l, ql_i, ql_s, ql_o, pk_us, pk_un, pk_uLs, pk_uLn, if_pos, if_neg, if_true, if_false, ite_self, eq_self, Nat.zero_add, Nat.add_zero, qwr, not_true_eq_false, not_false_eq_true, Option.some.injEq, qe_gn0, qe_m1n, qe_gng, qe_ngn, qe_gm, qe_mg, qe_lm1, qe_lgn, qe_lem, qe_leg, qe_tm1, qe_tgn, w1, w2, w3, w7, mk3_w0, hle]
                exact keep
            · by_cases hlt : t2 < v
              · have hs : stD true d (some v) (true, t2, t3) = (true, v, d) := by simp [stD, hlt]
                have hle : (v ≤ t2) = False := eq_false (Int32.not_le.mpr hlt)
                rw [hs]
                simp only [bI_t] at take ⊢
                simp (disch := omega) only [qlt, qb_some, qb_none, ↓qn_1, ↓qn_2, ↓qn_3, ↓qn_4, ↓qn_9, ↓qn_1000, ↓qn_low, qi_0, qi_1, qi_2, qi_3, qi_4, qi_5, qi_6, qi_7, qi_8, qi_9, qi_10, qi_11, qi_12, qi_13, qi_14, qi_15, qi_16, qi_17, qi_20, qi_24, qi_30, qi_31, qi_32, qi_60, qi_99, qi_100, qi_200, qi_1000, qi_3400, qi_4000, qi_of, pu_gI, pu_pI, nI_leI, nI_ltI, nI_eq, nI_add, pk_mul, pk_sub, pk_div, qw_s, qw_o, qw_l, qr_s, qr_o, qr_l, ql_i, ql_s, ql_o, pk_us, pk_un, pk_uLs, pk_uLn, if_pos, if_neg, if_true, if_false, ite_self, eq_self, Nat.zero_add, Nat.add_zero, qwr, not_true_eq_false, not_false_eq_true, Option.some.injEq, qe_gn0, qe_m1n, qe_gng, qe_ngn, qe_gm, qe_mg, qe_lm1, qe_lgn, qe_lem, qe_leg, qe_tm1, qe_tgn, w1, w2, w3, w7, mk3_w0, hle]
                exact take
              · have hs : stD true d (some v) (true, t2, t3) = (true, t2, t3) := by simp [stD, hlt]
                have hle : (v ≤ t2) = True := eq_true (Int32.not_lt.mp hlt)
                rw [hs]
                simp only [bI_t] at keep ⊢
                simp (disch := omega) only [qlt, qb_some, qb_none, ↓qn_1, ↓qn_2, ↓qn_3, ↓qn_4, ↓qn_9, ↓qn_1000, ↓qn_low, qi_0, qi_1, qi_2, qi_3, qi_4, qi_5, qi_6, qi_7, qi_8, qi_9, qi_10, qi_11, qi_12, qi_13, qi_14, qi_15, qi_16, qi_17, qi_20, qi_24, qi_30, qi_31, qi_32, qi_60, qi_99, qi_100, qi_200, qi_1000, qi_3400, qi_4000, qi_of, pu_gI, pu_pI, nI_leI, nI_ltI, nI_eq, nI_add, pk_mul, pk_sub, pk_div, qw_s, qw_o, qw_l, qr_s, qr_o, qr_l, ql_i, ql_s, ql_o, pk_us, pk_un, pk_uLs, pk_uLn, if_pos, if_neg, if_true, if_false, ite_self, eq_self, Nat.zero_add, Nat.add_zero, qwr, not_true_eq_false, not_false_eq_true, Option.some.injEq, qe_gn0, qe_m1n, qe_gng, qe_ngn, qe_gm, qe_mg, qe_lm1, qe_lgn, qe_lem, qe_leg, qe_tm1, qe_tgn, w1, w2, w3, w7, mk3_w0, hle]
                exact keep
  have go := loop FU 0 (upd o 36 (nI 12)) a s (false, nI 0, 12) (by omega) (by unfold FU; omega) (okT_36 okT_r) pk_us
  rw [bI_f] at go
  unfold mX7_lastTurn
  rw [duelV_s]
  simp (disch := omega) only [qlt, qb_some, qb_none, ↓qn_1, ↓qn_2, ↓qn_3, ↓qn_4, ↓qn_9, ↓qn_1000, ↓qn_low, qi_0, qi_1, qi_2, qi_3, qi_4, qi_5, qi_6, qi_7, qi_8, qi_9, qi_10, qi_11, qi_12, qi_13, qi_14, qi_15, qi_16, qi_17, qi_20, qi_24, qi_30, qi_31, qi_32, qi_60, qi_99, qi_100, qi_200, qi_1000, qi_3400, qi_4000, qi_of, pu_gI, pu_pI, nI_leI, nI_ltI, nI_eq, nI_add, pk_mul, pk_sub, pk_div, qw_s, qw_o, qw_l, qr_s, qr_o, qr_l, ql_i, ql_s, ql_o, pk_us, pk_un, pk_uLs, pk_uLn, if_pos, if_neg, if_true, if_false, ite_self, eq_self, Nat.zero_add, Nat.add_zero, qwr, not_true_eq_false, not_false_eq_true, Option.some.injEq, qe_gn0, qe_m1n, qe_gng, qe_ngn, qe_gm, qe_mg, qe_lm1, qe_lgn, qe_lem, qe_leg, qe_tm1, qe_tgn, mk3_w0]
  exact go
/-- two turns -/
theorem two7 {f : Nat} {o a s F : Nat → Int32} {e : Nat} (mu : Bool) (hn : n ≤ 4) (hGI : GInv n (T.1 7)) (hf : f < 4) (h10 : o 10 = nI n) (hfr : frA a f = F) (hF : FInv n F) (h14 : F 14 = nI e) (he : e < 1000) :
    ∃ o' a' s', mX7_twoTurns (mk3 T o a s) (nI f) set (bI mu) = some ((duelV (T.1 7) n set 2 mu F).2.1, mk3 T o' a' s') ∧ okT f o a o' a' ∧ o' 36 = nI (duelV (T.1 7) n set 2 mu F).2.2 := by
  have loop : ∀ q d (o2 a2 s2 : Nat → Int32) (t : Bool × Int32 × Nat), d ≤ 13 → 13 - d < q → okT f o a o2 a2 →
      ∃ o' a' s', lX7_twoTurns_13 (nI f) set (bI mu) q (mk3 T o2 a2 s2) t.2.1 (bI t.1) (nI t.2.2) (nI d) = some ((dfold (dX (T.1 7) n set 1 mu F) mu (13 - d) t).2.1, mk3 T o' a' s') ∧ okT f o a o' a' ∧ o' 36 = nI (dfold (dX (T.1 7) n set 1 mu F) mu (13 - d) t).2.2 := by
    intro q
    induction q with
    | zero => intro d o2 a2 s2 t k1 k2; omega
    | succ q ih =>
      intro d o2 a2 s2 t k1 k2 hk
      rw [lX7_twoTurns_13]
      by_cases hd : d = 13
      · subst hd
        unfold bX7_twoTurns_121
        simp (disch := omega) only [qlt, qb_some, qb_none, ↓qn_1, ↓qn_2, ↓qn_3, ↓qn_4, ↓qn_9, ↓qn_1000, ↓qn_low, qi_0, qi_1, qi_2, qi_3, qi_4, qi_5, qi_6, qi_7, qi_8, qi_9, qi_10, qi_11, qi_12, qi_13, qi_14, qi_15, qi_16, qi_17, qi_20, qi_24, qi_30, qi_31, qi_32, qi_60, qi_99, qi_100, qi_200, qi_1000, qi_3400, qi_4000, qi_of, pu_gI, pu_pI, nI_leI, nI_ltI, nI_eq, nI_add, pk_mul, pk_sub, pk_div, qw_s, qw_o, qw_l, qr_s, qr_o, qr_l, ql_i, ql_s, ql_o, pk_us, pk_un, pk_uLs, pk_uLn, if_pos, if_neg, if_true, if_false, ite_self, eq_self, Nat.zero_add, Nat.add_zero, qwr, not_true_eq_false, not_false_eq_true, Option.some.injEq, qe_gn0, qe_m1n, qe_gng, qe_ngn, qe_gm, qe_mg, qe_lm1, qe_lgn, qe_lem, qe_leg, qe_tm1, qe_tgn, mk3_w0]
        exact ⟨_, _, _, rfl, okT_36 hk, pk_us⟩
      · have hd13 : d < 13 := by omega
        have k10 : o2 10 = nI n := by rw [hk.1 10 (by decide) (by decide) (by decide) (by decide)]; exact h10
        have kfr : frA a2 f = F := by rw [hk.2 f (Nat.le_refl f)]; exact hfr
        rw [dfold_s _ _ hd13]
        have hst0 : (13 - (d + 1)) = 12 - d := by omega
        cases hcan : canB (T.1 7) n F d
        · have hX : dX (T.1 7) n set 1 mu F d = none := by unfold dX; rw [hcan]; rfl
          rw [hX]
          obtain ⟨w1, w2⟩ := turn_n (T := T) (s := s2) hn (by omega) k10 kfr hF hd13 hcan
          have go := fun o3 s3 h1 => ih (d + 1) o3 (putF a2 (f + 1) F) s3 t (by omega) (by omega) h1
          rw [hst0] at go
          rcases w2 with w2 | ⟨w2, w3⟩
          · simp (disch := omega) only [qlt, qb_some, qb_none, ↓qn_1, ↓qn_2, ↓qn_3, ↓qn_4, ↓qn_9, ↓qn_1000, ↓qn_low, qi_0, qi_1, qi_2, qi_3, qi_4, qi_5, qi_6, qi_7, qi_8, qi_9, qi_10, qi_11, qi_12, qi_13, qi_14, qi_15, qi_16, qi_17, qi_20, qi_24, qi_30, qi_31, qi_32, qi_60, qi_99, qi_100, qi_200, qi_1000, qi_3400, qi_4000, qi_of, pu_gI, pu_pI, nI_leI, nI_ltI, nI_eq, nI_add, pk_mul, pk_sub, pk_div, qw_s, qw_o, qw_l, qr_s, qr_o, qr_l, ql_i, ql_s, ql_o, pk_us, pk_un, pk_uLs, pk_uLn, if_pos, if_neg, if_true, if_false, ite_self, eq_self, Nat.zero_add, Nat.add_zero, qwr, not_true_eq_false, not_false_eq_true, Option.some.injEq, qe_gn0, qe_m1n, qe_gng, qe_ngn, qe_gm, qe_mg, qe_lm1, qe_lgn, qe_lem, qe_leg, qe_tm1, qe_tgn, w1, w2]
            exact go o2 s2 (okT_p hk)
          · simp (disch := omega) only [qlt, qb_some, qb_none, ↓qn_1, ↓qn_2, ↓qn_3, ↓qn_4, ↓qn_9, ↓qn_1000, ↓qn_low, qi_0, qi_1, qi_2, qi_3, qi_4, qi_5, qi_6, qi_7, qi_8, qi_9, qi_10, qi_11, qi_12, qi_13, qi_14, qi_15, qi_16, qi_17, qi_20, qi_24, qi_30, qi_31, qi_32, qi_60, qi_99, qi_100, qi_200, qi_1000, qi_3400, qi_4000, qi_of, pu_gI, pu_pI, nI_leI, nI_ltI, nI_eq, nI_add, pk_mul, pk_sub, pk_div, qw_s, qw_o, qw_l, qr_s, qr_o, qr_l, ql_i, ql_s, ql_o, pk_us, pk_un, pk_uLs, pk_uLn, if_pos, if_neg, if_true, if_false, ite_self, eq_self, Nat.zero_add, Nat.add_zero, qwr, not_true_eq_false, not_false_eq_true, Option.some.injEq, qe_gn0, qe_m1n, qe_gng, qe_ngn, qe_gm, qe_mg, qe_lm1, qe_lgn, qe_lem, qe_leg, qe_tm1, qe_tgn, w1, w2, w3]
            exact go _ s2 (okT_p (okT_22 hk))
        · obtain ⟨w1, w2, o3, a3, s3, w3, w4, w5, w6, w7⟩ := turn_y (T := T) (s := s2) (set := set) hn hGI (by omega) k10 kfr hF hcan
          have hk3 := okT_t hk w4
          have p10 : o3 10 = nI n := by rw [hk3.1 10 (by decide) (by decide) (by decide) (by decide)]; exact h10
          obtain ⟨o4, a4, s4, x1, x2, x3⟩ := last7 (T := T) (set := set) (o := o3) (a := a3) (s := s3) (f := f + 1) (!mu) hn hGI (by omega) p10 w6 (FInv_day hn hF h14 he hd13 hcan)
          have hk4 := okT_t hk3 (okT_s (by omega) x2)
          have hX : dX (T.1 7) n set 1 mu F d = some (sentS (T.1 7) n F d set + (duelV (T.1 7) n set 1 (!mu) (dyF (T.1 7) n F d)).2.1) := by
            unfold dX
            rw [hcan, if_pos rfl]
          rw [hX]
          generalize sentS (T.1 7) n F d set = v1 at w7
          generalize (duelV (T.1 7) n set 1 (!mu) (dyF (T.1 7) n F d)).2.1 = v2 at x1
          have take := ih (d + 1) o4 a4 s4 (true, v1 + v2, d) (by omega) (by omega) hk4
          have keep := ih (d + 1) o4 a4 s4 t (by omega) (by omega) hk4
          rw [hst0] at take keep
          generalize hv : v1 + v2 = v at take
          obtain ⟨t1, t2, t3⟩ := t
          unfold bX7_twoTurns_72 bX7_twoTurns_104 bX7_twoTurns_112
          cases mu
          · simp only [bI_f, bI_t, Bool.not_false] at take keep x1 ⊢
            cases t1
            · have hs : stD false d (some v) (false, t2, t3) = (true, v, d) := rfl
              rw [hs]
              simp only [bI_f]
              simp (disch := omega) only [qlt, qb_some, qb_none, ↓qn_1, ↓qn_2, ↓qn_3, ↓qn_4, ↓qn_9, ↓qn_1000, ↓qn_low, qi_0, qi_1, qi_2, qi_3, qi_4, qi_5, qi_6, qi_7, qi_8, qi_9, qi_10, qi_11, qi_12, qi_13, qi_14, qi_15, qi_16, qi_17, qi_20, qi_24, qi_30, qi_31, qi_32, qi_60, qi_99, qi_100, qi_200, qi_1000, qi_3400, qi_4000, qi_of, pu_gI, pu_pI, nI_leI, nI_ltI, nI_eq, nI_add, pk_mul, pk_sub, pk_div, qw_s, qw_o, qw_l, qr_s, qr_o, qr_l, ql_i, ql_s, ql_o, pk_us, pk_un, pk_uLs, pk_uLn, if_pos, if_neg, if_true, if_false, ite_self, eq_self, Nat.zero_add, Nat.add_zero, qwr, not_true_eq_false, not_false_eq_true, Option.some.injEq, qe_gn0, qe_m1n, qe_gng, qe_ngn, qe_gm, qe_mg, qe_lm1, qe_lgn, qe_lem, qe_leg, qe_tm1, qe_tgn, w1, w2, w3, w7, x1, hv]
              exact take
            · simp only [bI_t] at keep ⊢
              by_cases hlt : v < t2
              · have hs : stD false d (some v) (true, t2, t3) = (true, v, d) := by simp [stD, hlt]
                have hle : (t2 ≤ v) = False := eq_false (Int32.not_le.mpr hlt)
                rw [hs]
                simp (disch := omega) only [qlt, qb_some, qb_none, ↓qn_1, ↓qn_2, ↓qn_3, ↓qn_4, ↓qn_9, ↓qn_1000, ↓qn_low, qi_0, qi_1, qi_2, qi_3, qi_4, qi_5, qi_6, qi_7, qi_8, qi_9, qi_10, qi_11, qi_12, qi_13, qi_14, qi_15, qi_16, qi_17, qi_20, qi_24, qi_30, qi_31, qi_32, qi_60, qi_99, qi_100, qi_200, qi_1000, qi_3400, qi_4000, qi_of, pu_gI, pu_pI, nI_leI, nI_ltI, nI_eq, nI_add, pk_mul, pk_sub, pk_div, qw_s, qw_o, qw_l, qr_s, qr_o, qr_l, ql_i, ql_s, ql_o, pk_us, pk_un, pk_uLs, pk_uLn, if_pos, if_neg, if_true, if_false, ite_self, eq_self, Nat.zero_add, Nat.add_zero, qwr, not_true_eq_false, not_false_eq_true, Option.some.injEq, qe_gn0, qe_m1n, qe_gng, qe_ngn, qe_gm, qe_mg, qe_lm1, qe_lgn, qe_lem, qe_leg, qe_tm1, qe_tgn, w1, w2, w3, w7, x1, hv, hle]
                exact take
              · have hs : stD false d (some v) (true, t2, t3) = (true, t2, t3) := by simp [stD, hlt]
                have hle : (t2 ≤ v) = True := eq_true (Int32.not_lt.mp hlt)
                rw [hs]
                simp (disch := omega) only [qlt, qb_some, qb_none, ↓qn_1, ↓qn_2, ↓qn_3, ↓qn_4, ↓qn_9, ↓qn_1000, ↓qn_low, qi_0, qi_1, qi_2, qi_3, qi_4, qi_5, qi_6, qi_7, qi_8, qi_9, qi_10, qi_11, qi_12, qi_13, qi_14, qi_15, qi_16, qi_17, qi_20, qi_24, qi_30, qi_31, qi_32, qi_60, qi_99, qi_100, qi_200, qi_1000, qi_3400, qi_4000, qi_of, pu_gI, pu_pI, nI_leI, nI_ltI, nI_eq, nI_add, pk_mul, pk_sub, pk_div, qw_s, qw_o, qw_l, qr_s, qr_o, qr_l, ql_i, ql_s, ql_o, pk_us, pk_un, pk_uLs, pk_uLn, if_pos, if_neg, if_true, if_false, ite_self, eq_self, Nat.zero_add, Nat.add_zero, qwr, not_true_eq_false, not_false_eq_true, Option.some.injEq, qe_gn0, qe_m1n, qe_gng, qe_ngn, qe_gm, qe_mg, qe_lm1, qe_lgn, qe_lem, qe_leg, qe_tm1, qe_tgn, w1, w2, w3, w7, x1, hv, hle]
                exact keep
          · simp only [bI_f, bI_t, Bool.not_true] at take keep x1 ⊢
            cases t1
            · have hs : stD true d (some v) (false, t2, t3) = (true, v, d) := rfl
              rw [hs]
              simp only [bI_f]
              simp (disch := omega) only [qlt, qb_some, qb_none, ↓qn_1, ↓qn_2, ↓qn_3, ↓qn_4, ↓qn_9, ↓qn_1000, ↓qn_low, qi_0, qi_1, qi_2, qi_3, qi_4, qi_5, qi_6, qi_7, qi_8, qi_9, qi_10, qi_11, qi_12, qi_13, qi_14, qi_15, qi_16, qi_17, qi_20, qi_24, qi_30, qi_31, qi_32, qi_60, qi_99, qi_100, qi_200, qi_1000, qi_3400, qi_4000, qi_of, pu_gI, pu_pI, nI_leI, nI_ltI, nI_eq, nI_add, pk_mul, pk_sub, pk_div, qw_s, qw_o, qw_l, qr_s, qr_o, qr_l, ql_i, ql_s, ql_o, pk_us, pk_un, pk_uLs, pk_uLn, if_pos, if_neg, if_true, if_false, ite_self, eq_self, Nat.zero_add, Nat.add_zero, qwr, not_true_eq_false, not_false_eq_true, Option.some.injEq, qe_gn0, qe_m1n, qe_gng, qe_ngn, qe_gm, qe_mg, qe_lm1, qe_lgn, qe_lem, qe_leg, qe_tm1, qe_tgn, w1, w2, w3, w7, x1, hv]
              exact take
            · simp only [bI_t] at keep ⊢
              by_cases hlt : t2 < v
              · have hs : stD true d (some v) (true, t2, t3) = (true, v, d) := by simp [stD, hlt]
                have hle : (v ≤ t2) = False := eq_false (Int32.not_le.mpr hlt)
                rw [hs]
                simp (disch := omega) only [qlt, qb_some, qb_none, ↓qn_1, ↓qn_2, ↓qn_3, ↓qn_4, ↓qn_9, ↓qn_1000, ↓qn_low, qi_0, qi_1, qi_2, qi_3, qi_4, qi_5, qi_6, qi_7, qi_8, qi_9, qi_10, qi_11, qi_12, qi_13, qi_14, qi_15, qi_16, qi_17, qi_20, qi_24, qi_30, qi_31, qi_32, qi_60, qi_99, qi_100, qi_200, qi_1000, qi_3400, qi_4000, qi_of, pu_gI, pu_pI, nI_leI, nI_ltI, nI_eq, nI_add, pk_mul, pk_sub, pk_div, qw_s, qw_o, qw_l, qr_s, qr_o, qr_l, ql_i, ql_s, ql_o, pk_us, pk_un, pk_uLs, pk_uLn, if_pos, if_neg, if_true, if_false, ite_self, eq_self, Nat.zero_add, Nat.add_zero, qwr, not_true_eq_false, not_false_eq_true, Option.some.injEq, qe_gn0, qe_m1n, qe_gng, qe_ngn, qe_gm, qe_mg, qe_lm1, qe_lgn, qe_lem, qe_leg, qe_tm1, qe_tgn, w1, w2, w3, w7, x1, hv, hle]
                exact take
              · have hs : stD true d (some v) (true, t2, t3) = (true, t2, t3) := by simp [stD, hlt]
                have hle : (v ≤ t2) = True := eq_true (Int32.not_lt.mp hlt)
                rw [hs]
                simp (disch := omega) only [qlt, qb_some, qb_none, ↓qn_1, ↓qn_2, ↓qn_3, ↓qn_4, ↓qn_9, ↓qn_1000, ↓qn_low, qi_0, qi_1, qi_2, qi_3, qi_4, qi_5, qi_6, qi_7, qi_8, qi_9, qi_10, qi_11, qi_12, qi_13, qi_14, qi_15, qi_16, qi_17, qi_20, qi_24, qi_30, qi_31, qi_32, qi_60, qi_99, qi_100, qi_200, qi_1000, qi_3400, qi_4000, qi_of, pu_gI, pu_pI, nI_leI, nI_ltI, nI_eq, nI_add, pk_mul, pk_sub, pk_div, qw_s, qw_o, qw_l, qr_s, qr_o, qr_l, ql_i, ql_s, ql_o, pk_us, pk_un, pk_uLs, pk_uLn, if_pos, if_neg, if_true, if_false, ite_self, eq_self, Nat.zero_add, Nat.add_zero, qwr, not_true_eq_false, not_false_eq_true, Option.some.injEq, qe_gn0, qe_m1n, qe_gng, qe_ngn, qe_gm, qe_mg, qe_lm1, qe_lgn, qe_lem, qe_leg, qe_tm1, qe_tgn, w1, w2, w3, w7, x1, hv, hle]
                exact keep
  have go := loop FU 0 o a s (false, nI 0, 12) (by omega) (by unfold FU; omega) okT_r
  rw [bI_f] at go
  unfold mX7_twoTurns
  rw [duelV_s]
  rw [qi_0, qi_12]
  exact go
/-- three turns -/
theorem three7 {f : Nat} {o a s F : Nat → Int32} {e : Nat} (hn : n ≤ 4) (hGI : GInv n (T.1 7)) (hf : f < 3) (h10 : o 10 = nI n) (hfr : frA a f = F) (hF : FInv n F) (h14 : F 14 = nI e) (he : e < 900) :
    ∃ o' a' s', mX7_threeTurns (mk3 T o a s) (nI f) set = some ((duelV (T.1 7) n set 3 true F).2.1, mk3 T o' a' s') ∧ okT f o a o' a' ∧ o' 36 = nI (duelV (T.1 7) n set 3 true F).2.2 := by
  have loop : ∀ q d (o2 a2 s2 : Nat → Int32) (t : Bool × Int32 × Nat), d ≤ 13 → 13 - d < q → okT f o a o2 a2 →
      ∃ o' a' s', lX7_threeTurns_12 (nI f) set q (mk3 T o2 a2 s2) t.2.1 (bI t.1) (nI t.2.2) (nI d) = some ((dfold (dX (T.1 7) n set 2 true F) true (13 - d) t).2.1, mk3 T o' a' s') ∧ okT f o a o' a' ∧ o' 36 = nI (dfold (dX (T.1 7) n set 2 true F) true (13 - d) t).2.2 := by
    intro q
    induction q with
    | zero => intro d o2 a2 s2 t k1 k2; omega
    | succ q ih =>
      intro d o2 a2 s2 t k1 k2 hk
      rw [lX7_threeTurns_12]
      by_cases hd : d = 13
      · subst hd
        unfold bX7_threeTurns_96
        simp (disch := omega) only [qlt, qb_some, qb_none, ↓qn_1, ↓qn_2, ↓qn_3, ↓qn_4, ↓qn_9, ↓qn_1000, ↓qn_low, qi_0, qi_1, qi_2, qi_3, qi_4, qi_5, qi_6, qi_7, qi_8, qi_9, qi_10, qi_11, qi_12, qi_13, qi_14, qi_15, qi_16, qi_17, qi_20, qi_24, qi_30, qi_31, qi_32, qi_60, qi_99, qi_100, qi_200, qi_1000, qi_3400, qi_4000, qi_of, pu_gI, pu_pI, nI_leI, nI_ltI, nI_eq, nI_add, pk_mul, pk_sub, pk_div, qw_s, qw_o, qw_l, qr_s, qr_o, qr_l, ql_i, ql_s, ql_o, pk_us, pk_un, pk_uLs, pk_uLn, if_pos, if_neg, if_true, if_false, ite_self, eq_self, Nat.zero_add, Nat.add_zero, qwr, not_true_eq_false, not_false_eq_true, Option.some.injEq, qe_gn0, qe_m1n, qe_gng, qe_ngn, qe_gm, qe_mg, qe_lm1, qe_lgn, qe_lem, qe_leg, qe_tm1, qe_tgn, mk3_w0]
        exact ⟨_, _, _, rfl, okT_36 hk, pk_us⟩
      · have hd13 : d < 13 := by omega
        have k10 : o2 10 = nI n := by rw [hk.1 10 (by decide) (by decide) (by decide) (by decide)]; exact h10
        have kfr : frA a2 f = F := by rw [hk.2 f (Nat.le_refl f)]; exact hfr
        rw [dfold_s _ _ hd13]
        have hst0 : (13 - (d + 1)) = 12 - d := by omega
        cases hcan : canB (T.1 7) n F d
        · have hX : dX (T.1 7) n set 2 true F d = none := by unfold dX; rw [hcan]; rfl
          rw [hX]
          obtain ⟨w1, w2⟩ := turn_n (T := T) (s := s2) hn (by omega) k10 kfr hF hd13 hcan
          have go := fun o3 s3 h1 => ih (d + 1) o3 (putF a2 (f + 1) F) s3 t (by omega) (by omega) h1
          rw [hst0] at go
          rcases w2 with w2 | ⟨w2, w3⟩
          · simp (disch := omega) only [qlt, qb_some, qb_none, ↓qn_1, ↓qn_2, ↓qn_3, ↓qn_4, ↓qn_9, ↓qn_1000, ↓qn_low, qi_0, qi_1, qi_2, qi_3, qi_4, qi_5, qi_6, qi_7, qi_8, qi_9, qi_10, qi_11, qi_12, qi_13, qi_14, qi_15, qi_16, qi_17, qi_20, qi_24, qi_30, qi_31, qi_32, qi_60, qi_99, qi_100, qi_200, qi_1000, qi_3400, qi_4000, qi_of, pu_gI, pu_pI, nI_leI, nI_ltI, nI_eq, nI_add, pk_mul, pk_sub, pk_div, qw_s, qw_o, qw_l, qr_s, qr_o, qr_l, ql_i, ql_s, ql_o, pk_us, pk_un, pk_uLs, pk_uLn, if_pos, if_neg, if_true, if_false, ite_self, eq_self, Nat.zero_add, Nat.add_zero, qwr, not_true_eq_false, not_false_eq_true, Option.some.injEq, qe_gn0, qe_m1n, qe_gng, qe_ngn, qe_gm, qe_mg, qe_lm1, qe_lgn, qe_lem, qe_leg, qe_tm1, qe_tgn, w1, w2]
            exact go o2 s2 (okT_p hk)
          · simp (disch := omega) only [qlt, qb_some, qb_none, ↓qn_1, ↓qn_2, ↓qn_3, ↓qn_4, ↓qn_9, ↓qn_1000, ↓qn_low, qi_0, qi_1, qi_2, qi_3, qi_4, qi_5, qi_6, qi_7, qi_8, qi_9, qi_10, qi_11, qi_12, qi_13, qi_14, qi_15, qi_16, qi_17, qi_20, qi_24, qi_30, qi_31, qi_32, qi_60, qi_99, qi_100, qi_200, qi_1000, qi_3400, qi_4000, qi_of, pu_gI, pu_pI, nI_leI, nI_ltI, nI_eq, nI_add, pk_mul, pk_sub, pk_div, qw_s, qw_o, qw_l, qr_s, qr_o, qr_l, ql_i, ql_s, ql_o, pk_us, pk_un, pk_uLs, pk_uLn, if_pos, if_neg, if_true, if_false, ite_self, eq_self, Nat.zero_add, Nat.add_zero, qwr, not_true_eq_false, not_false_eq_true, Option.some.injEq, qe_gn0, qe_m1n, qe_gng, qe_ngn, qe_gm, qe_mg, qe_lm1, qe_lgn, qe_lem, qe_leg, qe_tm1, qe_tgn, w1, w2, w3]
            exact go _ s2 (okT_p (okT_22 hk))
        · obtain ⟨w1, w2, o3, a3, s3, w3, w4, w5, w6, w7⟩ := turn_y (T := T) (s := s2) (set := set) hn hGI (by omega) k10 kfr hF hcan
          have hk3 := okT_t hk w4
          have p10 : o3 10 = nI n := by rw [hk3.1 10 (by decide) (by decide) (by decide) (by decide)]; exact h10
          obtain ⟨o4, a4, s4, x1, x2, x3⟩ := two7 (T := T) (set := set) (o := o3) (a := a3) (s := s3) (f := f + 1) false hn hGI (by omega) p10 w6 (FInv_day hn hF h14 (by omega) hd13 hcan) (dy14 h14) (by omega)
          have hk4 := okT_t hk3 (okT_s (by omega) x2)
          have hX : dX (T.1 7) n set 2 true F d = some (sentS (T.1 7) n F d set + (duelV (T.1 7) n set 2 false (dyF (T.1 7) n F d)).2.1) := by
            unfold dX
            rw [hcan, if_pos rfl]
            rfl
          rw [hX]
          generalize sentS (T.1 7) n F d set = v1 at w7
          generalize (duelV (T.1 7) n set 2 false (dyF (T.1 7) n F d)).2.1 = v2 at x1
          have take := ih (d + 1) o4 a4 s4 (true, v1 + v2, d) (by omega) (by omega) hk4
          have keep := ih (d + 1) o4 a4 s4 t (by omega) (by omega) hk4
          rw [hst0] at take keep
          generalize hv : v1 + v2 = v at take
          obtain ⟨t1, t2, t3⟩ := t
          unfold bX7_threeTurns_80 bX7_threeTurns_87
          simp only [bI_f, bI_t] at take keep x1 ⊢
          cases t1
          · have hs : stD true d (some v) (false, t2, t3) = (true, v, d) := rfl
            rw [hs]
            simp only [bI_f]
            simp (disch := omega) only [qlt, qb_some, qb_none, ↓qn_1, ↓qn_2, ↓qn_3, ↓qn_4, ↓qn_9, ↓qn_1000, ↓qn_low, qi_0, qi_1, qi_2, qi_3, qi_4, qi_5, qi_6, qi_7, qi_8, qi_9, qi_10, qi_11, qi_12, qi_13, qi_14, qi_15, qi_16, qi_17, qi_20, qi_24, qi_30, qi_31, qi_32, qi_60, qi_99, qi_100, qi_200, qi_1000, qi_3400, qi_4000, qi_of, pu_gI, pu_pI, nI_leI, nI_ltI, nI_eq, nI_add, pk_mul, pk_sub, pk_div, qw_s, qw_o, qw_l, qr_s, qr_o, qr_l, ql_i, ql_s, ql_o, pk_us, pk_un, pk_uLs, pk_uLn, if_pos, if_neg, if_true, if_false, ite_self, eq_self, Nat.zero_add, Nat.add_zero, qwr, not_true_eq_false, not_false_eq_true, Option.some.injEq, qe_gn0, qe_m1n, qe_gng, qe_ngn, qe_gm, qe_mg, qe_lm1, qe_lgn, qe_lem, qe_leg, qe_tm1, qe_tgn, w1, w2, w3, w7, x1, hv]
            exact take
          · simp only [bI_t] at keep ⊢
            by_cases hlt : t2 < v
            · have hs : stD true d (some v) (true, t2, t3) = (true, v, d) := by simp [stD, hlt]
              have hle : (v ≤ t2) = False := eq_false (Int32.not_le.mpr hlt)
              rw [hs]
              simp (disch := omega) only [qlt, qb_some, qb_none, ↓qn_1, ↓qn_2, ↓qn_3, ↓qn_4, ↓qn_9, ↓qn_1000, ↓qn_low, qi_0, qi_1, qi_2, qi_3, qi_4, qi_5, qi_6, qi_7, qi_8, qi_9, qi_10, qi_11, qi_12, qi_13, qi_14, qi_15, qi_16, qi_17, qi_20, qi_24, qi_30, qi_31, qi_32, qi_60, qi_99, qi_100, qi_200, qi_1000, qi_3400, qi_4000, qi_of, pu_gI, pu_pI, nI_leI, nI_ltI, nI_eq, nI_add, pk_mul, pk_sub, pk_div, qw_s, qw_o, qw_l, qr_s, qr_o, qr_l, ql_i, ql_s, ql_o, pk_us, pk_un, pk_uLs, pk_uLn, if_pos, if_neg, if_true, if_false, ite_self, eq_self, Nat.zero_add, Nat.add_zero, qwr, not_true_eq_false, not_false_eq_true, Option.some.injEq, qe_gn0, qe_m1n, qe_gng, qe_ngn, qe_gm, qe_mg, qe_lm1, qe_lgn, qe_lem, qe_leg, qe_tm1, qe_tgn, w1, w2, w3, w7, x1, hv, hle]
              exact take
            · have hs : stD true d (some v) (true, t2, t3) = (true, t2, t3) := by simp [stD, hlt]
              have hle : (v ≤ t2) = True := eq_true (Int32.not_lt.mp hlt)
              rw [hs]
              simp (disch := omega) only [qlt, qb_some, qb_none, ↓qn_1, ↓qn_2, ↓qn_3, ↓qn_4, ↓qn_9, ↓qn_1000, ↓qn_low, qi_0, qi_1, qi_2, qi_3, qi_4, qi_5, qi_6, qi_7, qi_8, qi_9, qi_10, qi_11, qi_12, qi_13, qi_14, qi_15, qi_16, qi_17, qi_20, qi_24, qi_30, qi_31, qi_32, qi_60, qi_99, qi_100, qi_200, qi_1000, qi_3400, qi_4000, qi_of, pu_gI, pu_pI, nI_leI, nI_ltI, nI_eq, nI_add, pk_mul, pk_sub, pk_div, qw_s, qw_o, qw_l, qr_s, qr_o, qr_l, ql_i, ql_s, ql_o, pk_us, pk_un, pk_uLs, pk_uLn, if_pos, if_neg, if_true, if_false, ite_self, eq_self, Nat.zero_add, Nat.add_zero, qwr, not_true_eq_false, not_false_eq_true, Option.some.injEq, qe_gn0, qe_m1n, qe_gng, qe_ngn, qe_gm, qe_mg, qe_lm1, qe_lgn, qe_lem, qe_leg, qe_tm1, qe_tgn, w1, w2, w3, w7, x1, hv, hle]
              exact keep
  have go := loop FU 0 o a s (false, nI 0, 12) (by omega) (by unfold FU; omega) okT_r
  rw [bI_f] at go
  unfold mX7_threeTurns
  rw [duelV_s]
  rw [qi_0, qi_12]
  exact go
end TU
/-! the call -/
theorem m1_bv : m1.toBitVec = BitVec.allOnes 32 := by decide +kernel
theorem setB_n {a : Int32} {n : Nat} (hn : n ≤ 4) (h : (a &&& (nI (2 ^ n - 1) ^^^ m1)) = nI 0) : ∃ m, m < 2 ^ n ∧ a = nI m := by
  have hM : (nI (2 ^ n - 1)).toBitVec.toNat = 2 ^ n - 1 := by
    have : n = 0 ∨ n = 1 ∨ n = 2 ∨ n = 3 ∨ n = 4 := by omega
    rcases this with rfl | rfl | rfl | rfl | rfl <;> decide +kernel
  have e : a &&& nI (2 ^ n - 1) = a := by
    refine Int32.toBitVec_inj.mp ?_
    have h2 := congrArg Int32.toBitVec h
    rw [Int32.toBitVec_and, Int32.toBitVec_xor, m1_bv] at h2
    rw [Int32.toBitVec_and]
    have h3 : (nI 0).toBitVec = 0#32 := by decide +kernel
    rw [h3] at h2
    ext i hi
    have h4 := congrArg (fun b => b.getLsbD i) h2
    simp [hi, BitVec.getLsbD_eq_getElem] at h4 ⊢
    intro h5
    exact (h4 h5).trans (by show (BitVec.allOnes 32)[i] = true; simp [-BitVec.reduceAllOnes])
  refine ⟨a.toBitVec.toNat % 2 ^ n, Nat.mod_lt _ (Nat.two_pow_pos n), ?_⟩
  rw [← pk_and a n hM]
  exact e.symm
theorem setB_y0 : ∀ n, n ≤ 4 → ∀ m, m < 16 → m < 2 ^ n → (nI m &&& (nI (2 ^ n - 1) ^^^ m1)) = nI 0 := by decide +kernel
theorem setB_y {m n : Nat} (hn : n ≤ 4) (hm : m < 2 ^ n) : (nI m &&& (nI (2 ^ n - 1) ^^^ m1)) = nI 0 := setB_y0 n hn m (by
  have : 2 ^ n ≤ 2 ^ 4 := Nat.pow_le_pow_right (by decide) hn
  omega) hm
theorem setB_b0 : ∀ n, n ≤ 4 → ∀ m, m < 16 → m < 2 ^ n → ∀ g, g < 4 → bt (nI m) g = true → g < n := by decide +kernel
theorem all7 : ∀ n, n ≤ 4 → ((nI 1 <<< (nI n &&& nI 31)) - nI 1) = nI (2 ^ n - 1) := by decide +kernel
theorem in7_all {a : Int32} {n : Nat} (hn : n ≤ 4) (h : ¬ ∃ m, m < 2 ^ n ∧ a = nI m) : mX7_in a (nI 0) (nI (2 ^ n - 1)) = nI 0 := by
  have hp : 0 < 2 ^ n := Nat.two_pow_pos n
  have h16 : 2 ^ n ≤ 2 ^ 4 := Nat.pow_le_pow_right (by decide) hn
  rcases oR_or a (N := 2 ^ n) (by omega) with h2 | ⟨k, k1, k2⟩
  · have e : 2 ^ n = (2 ^ n - 1) + 1 := by omega
    rw [e] at h2
    exact oR_in7 (by omega) h2
  · exact absurd ⟨k, k1, k2⟩ h
theorem st_turns : St_turns Rel := by
  intro S T a b R
  obtain ⟨n, hn, h10, h34, hGI, hV, hK⟩ := R.2.2.2.2
  obtain ⟨hG, hS, hg1, hh1, hFI, e, he, h14, hH, hD⟩ := id hV
  unfold mX6_turns mX7_turns
  have h311 : S.1 (30 + 1) 1 = nI (2 ^ n - 1) := hG.2.1
  have hall := all7 n hn
  by_cases ha : ∃ m, m < 2 ^ n ∧ a = nI m
  · obtain ⟨m, hm, rfl⟩ := ha
    have h16 : 2 ^ n ≤ 2 ^ 4 := Nat.pow_le_pow_right (by decide) hn
    have c6 : ((nI m &&& (S.1 (30 + 1) 1 ^^^ m1)) = nI 0) = True := eq_true (by rw [h311]; exact setB_y hn hm)
    have c7 : mX7_in (nI m) (nI 0) (nI (2 ^ n - 1)) = nI 1 := in7_y (Nat.zero_le m) (by omega) (by omega)
    rcases oR_or b (N := 4) (by decide) with hb | ⟨N, hN, rfl⟩
    · have b7 : mX7_in b (nI 0) (nI 3) = nI 0 := oR_in7 (by decide) hb
      rcases hb with hb | hb
      · simp (disch := omega) only [qlt, qb_some, qb_none, ↓qn_1, ↓qn_2, ↓qn_3, ↓qn_4, ↓qn_9, ↓qn_1000, ↓qn_low, qi_0, qi_1, qi_2, qi_3, qi_4, qi_5, qi_6, qi_7, qi_8, qi_9, qi_10, qi_11, qi_12, qi_13, qi_14, qi_15, qi_16, qi_17, qi_20, qi_24, qi_30, qi_31, qi_32, qi_60, qi_99, qi_100, qi_200, qi_1000, qi_3400, qi_4000, qi_of, pu_gI, pu_pI, nI_leI, nI_ltI, nI_eq, nI_add, pk_mul, pk_div, qw_s, qw_o, qw_l, qr_s, qr_o, qr_l, ql_i, ql_s, ql_o, pk_us, pk_un, pk_uLs, pk_uLn, if_pos, if_neg, if_true, if_false, ite_self, eq_self, Nat.zero_add, Nat.add_zero, qwr, not_true_eq_false, not_false_eq_true, Option.some.injEq, qe_gn0, qe_m1n, qe_gng, qe_ngn, qe_gm, qe_mg, qe_lm1, qe_lgn, qe_lem, qe_leg, qe_tm1, qe_tgn, c6, c7, h10, hall, b7, sg_leT hb, sg_geF hb, sg_ltT hb, sg_gtF hb, sg_eqF hb, sg_eqF2 hb]
        exact ⟨_, _, rfl, rfl, rfl, R⟩
      · simp (disch := omega) only [qlt, qb_some, qb_none, ↓qn_1, ↓qn_2, ↓qn_3, ↓qn_4, ↓qn_9, ↓qn_1000, ↓qn_low, qi_0, qi_1, qi_2, qi_3, qi_4, qi_5, qi_6, qi_7, qi_8, qi_9, qi_10, qi_11, qi_12, qi_13, qi_14, qi_15, qi_16, qi_17, qi_20, qi_24, qi_30, qi_31, qi_32, qi_60, qi_99, qi_100, qi_200, qi_1000, qi_3400, qi_4000, qi_of, pu_gI, pu_pI, nI_leI, nI_ltI, nI_eq, nI_add, pk_mul, pk_div, qw_s, qw_o, qw_l, qr_s, qr_o, qr_l, ql_i, ql_s, ql_o, pk_us, pk_un, pk_uLs, pk_uLn, if_pos, if_neg, if_true, if_false, ite_self, eq_self, Nat.zero_add, Nat.add_zero, qwr, not_true_eq_false, not_false_eq_true, Option.some.injEq, qe_gn0, qe_m1n, qe_gng, qe_ngn, qe_gm, qe_mg, qe_lm1, qe_lgn, qe_lem, qe_leg, qe_tm1, qe_tgn, c6, c7, h10, hall, b7, bg_leF hb, bg_ltT hb, bg_geT hb, bg_ltF hb, bg_eqF hb, bg_eqF2 hb]
        exact ⟨_, _, rfl, rfl, rfl, R⟩
    · have b7 : mX7_in (nI N) (nI 0) (nI 3) = nI 1 := in7_y (Nat.zero_le N) (by omega) (by omega)
      by_cases hn0 : n = 0
      · simp (disch := omega) only [qlt, qb_some, qb_none, ↓qn_1, ↓qn_2, ↓qn_3, ↓qn_4, ↓qn_9, ↓qn_1000, ↓qn_low, qi_0, qi_1, qi_2, qi_3, qi_4, qi_5, qi_6, qi_7, qi_8, qi_9, qi_10, qi_11, qi_12, qi_13, qi_14, qi_15, qi_16, qi_17, qi_20, qi_24, qi_30, qi_31, qi_32, qi_60, qi_99, qi_100, qi_200, qi_1000, qi_3400, qi_4000, qi_of, pu_gI, pu_pI, nI_leI, nI_ltI, nI_eq, nI_add, pk_mul, pk_div, qw_s, qw_o, qw_l, qr_s, qr_o, qr_l, ql_i, ql_s, ql_o, pk_us, pk_un, pk_uLs, pk_uLn, if_pos, if_neg, if_true, if_false, ite_self, eq_self, Nat.zero_add, Nat.add_zero, qwr, not_true_eq_false, not_false_eq_true, Option.some.injEq, qe_gn0, qe_m1n, qe_gng, qe_ngn, qe_gm, qe_mg, qe_lm1, qe_lgn, qe_lem, qe_leg, qe_tm1, qe_tgn, c6, c7, h10, hall, b7, noGods6 hG.1 hn]
        exact ⟨_, _, rfl, rfl, rfl, R⟩
      · have hset : nib (nI m) := ⟨m, by omega, rfl⟩
        have hbb := setB_b0 n hn m (by omega) hm
        obtain ⟨X, x1, ⟨w1, w2, w3, _, _, _⟩, _, x4, _⟩ := start1 (N := N) (ks := 30 + 11) hn (by omega) (by omega) hS
        obtain ⟨S', s1, s2, s3, s4, s5, s6, s7⟩ := duel_l (L := N) (k2 := 30 + 1) hn (by omega) hG hGI (by omega) hset hbb N 6 0 (fr T 0) e X (by omega) (by omega) w1 w2 w3 x4 hFI h14 (by omega)
        have hdec : decide (0 % 2 = 0) = true := rfl
        rw [hdec] at s1 s7
        -- the reference
        have hfr0 : frA (T.1 10) 0 = fr T 0 := rfl
        have fin : ∀ (o' a' s' : Nat → Int32) (v : Int32) (u : Nat), u ≤ 12 → okT 0 (upd (T.1 0) 36 (nI 12)) (T.1 10) o' a' → o' 36 = nI u →
            ∃ t, bX7_turns_87 (mk3 T o' a' s') v = some (nI 1, t) ∧ ∀ S2 : vS, (∀ c, (c < 95 ∨ 118 < c) → S2.1 c = S.1 c) → S2.2 = S.2 → Rel (wL (wL (wI S2 0 11 v) 0 12 (lN u)) 0 13 (lN 1)) t := by
          intro o' a' s' v u hu hk h36
          have hR : ∀ S2 : vS, (∀ c, (c < 95 ∨ 118 < c) → S2.1 c = S.1 c) → S2.2 = S.2 → Rel S2 (mk3 T o' a' s') := by
            intro S2 k1 k2
            have ko : ∀ p, p ≠ 20 → p ≠ 21 → p ≠ 22 → p ≠ 36 → o' p = T.1 0 p := fun p p1 p2 p3 p4 => by rw [hk.1 p p1 p2 p3 p4, pk_un p4]
            exact Rel_scr R (fun c hc => k1 c (by omega)) k2 (ko 0 (by decide) (by decide) (by decide) (by decide)) (ko 2 (by decide) (by decide) (by decide) (by decide)) (ko 10 (by decide) (by decide) (by decide) (by decide)) (ko 34 (by decide) (by decide) (by decide) (by decide)) (fun c hc => mk3_o (by omega) (by omega) (by omega)) (hk.2 0 (Nat.le_refl 0)) rfl
          unfold bX7_turns_87 mX7_whole mX7_tells
          have h64 : Int32.toInt64 (nI u) = lN u := nI_l (by omega)
          simp (disch := omega) only [qlt, qb_some, qb_none, ↓qn_1, ↓qn_2, ↓qn_3, ↓qn_4, ↓qn_9, ↓qn_1000, ↓qn_low, qi_0, qi_1, qi_2, qi_3, qi_4, qi_5, qi_6, qi_7, qi_8, qi_9, qi_10, qi_11, qi_12, qi_13, qi_14, qi_15, qi_16, qi_17, qi_20, qi_24, qi_30, qi_31, qi_32, qi_60, qi_99, qi_100, qi_200, qi_1000, qi_3400, qi_4000, qi_of, pu_gI, pu_pI, nI_leI, nI_ltI, nI_eq, nI_add, pk_mul, pk_div, qw_s, qw_o, qw_l, qr_s, qr_o, qr_l, ql_i, ql_s, ql_o, pk_us, pk_un, pk_uLs, pk_uLn, if_pos, if_neg, if_true, if_false, ite_self, eq_self, Nat.zero_add, Nat.add_zero, qwr, not_true_eq_false, not_false_eq_true, Option.some.injEq, qe_gn0, qe_m1n, qe_gng, qe_ngn, qe_gm, qe_mg, qe_lm1, qe_lgn, qe_lem, qe_leg, qe_tm1, qe_tgn, mk3_0, h36, h64, lN_one]
          refine ⟨_, rfl, fun S2 k1 k2 => ?_⟩
          exact Rel_frac (Rel_tell (hR S2 k1 k2) v) (lN u) (lN 1)
        have u12 : ∀ L mu, (duelV (T.1 7) n (nI m) L mu (fr T 0)).2.2 ≤ 12 := fun L mu => duelV_first
        have hNN : N = 0 ∨ N = 1 ∨ N = 2 ∨ N = 3 := by omega
        have hmk : wI T 0 36 (nI 12) = mk3 T (upd (T.1 0) 36 (nI 12)) (T.1 10) (T.1 11) := by
          have := mk3_w0 (T := T) (o := T.1 0) (a := T.1 10) (s := T.1 11) (j := 36) (x := nI 12)
          rw [mk3_id] at this
          exact this
        have o10 : upd (T.1 0) 36 (nI 12) 10 = nI n := by rw [pk_un (by decide)]; exact h10
        have e22 : (95 + 22 : Nat) = 117 := rfl
        unfold mX1_duel mX1_firstOfDuel bX6_turns_82 mX6_tell
        rcases hNN with rfl | rfl | rfl | rfl
        · obtain ⟨t, t1, t2⟩ := fin (upd (T.1 0) 36 (nI 12)) (T.1 10) (T.1 11) (nI 0) 12 (by omega) okT_r pk_us
          have hv0 : (duelV (T.1 7) n (nI m) 0 true (fr T 0)).2.1 = nI 0 := rfl
          rw [hv0] at s1
          simp (disch := omega) only [qlt, qb_some, qb_none, ↓qn_1, ↓qn_2, ↓qn_3, ↓qn_4, ↓qn_9, ↓qn_1000, ↓qn_low, qi_0, qi_1, qi_2, qi_3, qi_4, qi_5, qi_6, qi_7, qi_8, qi_9, qi_10, qi_11, qi_12, qi_13, qi_14, qi_15, qi_16, qi_17, qi_20, qi_24, qi_30, qi_31, qi_32, qi_60, qi_99, qi_100, qi_200, qi_1000, qi_3400, qi_4000, qi_of, pu_gI, pu_pI, nI_leI, nI_ltI, nI_eq, nI_add, pk_mul, pk_div, qw_s, qw_o, qw_l, qr_s, qr_o, qr_l, ql_i, ql_s, ql_o, pk_us, pk_un, pk_uLs, pk_uLn, if_pos, if_neg, if_true, if_false, ite_self, eq_self, Nat.zero_add, Nat.add_zero, qwr, not_true_eq_false, not_false_eq_true, Option.some.injEq, qe_gn0, qe_m1n, qe_gng, qe_ngn, qe_gm, qe_mg, qe_lm1, qe_lgn, qe_lem, qe_leg, qe_tm1, qe_tgn, c6, c7, h10, hall, b7, noGods6 hG.1 hn, x1, s1, hmk, t1, frac61]
          exact ⟨_, _, rfl, rfl, rfl, t2 S' s2 s3⟩
        · obtain ⟨o', a', s', y1, y2, y3⟩ := last7 (T := T) (set := nI m) (o := upd (T.1 0) 36 (nI 12)) (a := T.1 10) (s := T.1 11) (f := 0) true hn hGI (by omega) o10 hfr0 hFI
          have hf := s7 (by omega)
          have hu := u12 1 true
          generalize duelV (T.1 7) n (nI m) 1 true (fr T 0) = w at s1 hf y1 y3 hu
          obtain ⟨t, t1, t2⟩ := fin o' a' s' w.2.1 w.2.2 hu y2 y3
          rw [bI_t] at y1
          simp (disch := omega) only [qlt, qb_some, qb_none, ↓qn_1, ↓qn_2, ↓qn_3, ↓qn_4, ↓qn_9, ↓qn_1000, ↓qn_low, qi_0, qi_1, qi_2, qi_3, qi_4, qi_5, qi_6, qi_7, qi_8, qi_9, qi_10, qi_11, qi_12, qi_13, qi_14, qi_15, qi_16, qi_17, qi_20, qi_24, qi_30, qi_31, qi_32, qi_60, qi_99, qi_100, qi_200, qi_1000, qi_3400, qi_4000, qi_of, pu_gI, pu_pI, nI_leI, nI_ltI, nI_eq, nI_add, pk_mul, pk_div, qw_s, qw_o, qw_l, qr_s, qr_o, qr_l, ql_i, ql_s, ql_o, pk_us, pk_un, pk_uLs, pk_uLn, if_pos, if_neg, if_true, if_false, ite_self, eq_self, Nat.zero_add, Nat.add_zero, qwr, not_true_eq_false, not_false_eq_true, Option.some.injEq, qe_gn0, qe_m1n, qe_gng, qe_ngn, qe_gm, qe_mg, qe_lm1, qe_lgn, qe_lem, qe_leg, qe_tm1, qe_tgn, c6, c7, h10, hall, b7, noGods6 hG.1 hn, x1, s1, hmk, y1, t1, e22, hf, frac61]
          exact ⟨_, _, rfl, rfl, rfl, t2 S' s2 s3⟩
        · obtain ⟨o', a', s', y1, y2, y3⟩ := two7 (T := T) (set := nI m) (o := upd (T.1 0) 36 (nI 12)) (a := T.1 10) (s := T.1 11) (f := 0) true hn hGI (by omega) o10 hfr0 hFI h14 (by omega)
          have hf := s7 (by omega)
          have hu := u12 2 true
          generalize duelV (T.1 7) n (nI m) 2 true (fr T 0) = w at s1 hf y1 y3 hu
          obtain ⟨t, t1, t2⟩ := fin o' a' s' w.2.1 w.2.2 hu y2 y3
          rw [bI_t] at y1
          simp (disch := omega) only [qlt, qb_some, qb_none, ↓qn_1, ↓qn_2, ↓qn_3, ↓qn_4, ↓qn_9, ↓qn_1000, ↓qn_low, qi_0, qi_1, qi_2, qi_3, qi_4, qi_5, qi_6, qi_7, qi_8, qi_9, qi_10, qi_11, qi_12, qi_13, qi_14, qi_15, qi_16, qi_17, qi_20, qi_24, qi_30, qi_31, qi_32, qi_60, qi_99, qi_100, qi_200, qi_1000, qi_3400, qi_4000, qi_of, pu_gI, pu_pI, nI_leI, nI_ltI, nI_eq, nI_add, pk_mul, pk_div, qw_s, qw_o, qw_l, qr_s, qr_o, qr_l, ql_i, ql_s, ql_o, pk_us, pk_un, pk_uLs, pk_uLn, if_pos, if_neg, if_true, if_false, ite_self, eq_self, Nat.zero_add, Nat.add_zero, qwr, not_true_eq_false, not_false_eq_true, Option.some.injEq, qe_gn0, qe_m1n, qe_gng, qe_ngn, qe_gm, qe_mg, qe_lm1, qe_lgn, qe_lem, qe_leg, qe_tm1, qe_tgn, c6, c7, h10, hall, b7, noGods6 hG.1 hn, x1, s1, hmk, y1, t1, e22, hf, frac61]
          exact ⟨_, _, rfl, rfl, rfl, t2 S' s2 s3⟩
        · obtain ⟨o', a', s', y1, y2, y3⟩ := three7 (T := T) (set := nI m) (o := upd (T.1 0) 36 (nI 12)) (a := T.1 10) (s := T.1 11) (f := 0) hn hGI (by omega) o10 hfr0 hFI h14 (by omega)
          have hf := s7 (by omega)
          have hu := u12 3 true
          generalize duelV (T.1 7) n (nI m) 3 true (fr T 0) = w at s1 hf y1 y3 hu
          obtain ⟨t, t1, t2⟩ := fin o' a' s' w.2.1 w.2.2 hu y2 y3
          simp (disch := omega) only [qlt, qb_some, qb_none, ↓qn_1, ↓qn_2, ↓qn_3, ↓qn_4, ↓qn_9, ↓qn_1000, ↓qn_low, qi_0, qi_1, qi_2, qi_3, qi_4, qi_5, qi_6, qi_7, qi_8, qi_9, qi_10, qi_11, qi_12, qi_13, qi_14, qi_15, qi_16, qi_17, qi_20, qi_24, qi_30, qi_31, qi_32, qi_60, qi_99, qi_100, qi_200, qi_1000, qi_3400, qi_4000, qi_of, pu_gI, pu_pI, nI_leI, nI_ltI, nI_eq, nI_add, pk_mul, pk_div, qw_s, qw_o, qw_l, qr_s, qr_o, qr_l, ql_i, ql_s, ql_o, pk_us, pk_un, pk_uLs, pk_uLn, if_pos, if_neg, if_true, if_false, ite_self, eq_self, Nat.zero_add, Nat.add_zero, qwr, not_true_eq_false, not_false_eq_true, Option.some.injEq, qe_gn0, qe_m1n, qe_gng, qe_ngn, qe_gm, qe_mg, qe_lm1, qe_lgn, qe_lem, qe_leg, qe_tm1, qe_tgn, c6, c7, h10, hall, b7, noGods6 hG.1 hn, x1, s1, hmk, y1, t1, e22, hf, frac61]
          exact ⟨_, _, rfl, rfl, rfl, t2 S' s2 s3⟩
  · have c6 : ((a &&& (S.1 (30 + 1) 1 ^^^ m1)) = nI 0) = False := eq_false (fun h => ha (setB_n hn (by rw [← h311]; exact h)))
    have c7 := in7_all hn ha
    simp (disch := omega) only [qlt, qb_some, qb_none, ↓qn_1, ↓qn_2, ↓qn_3, ↓qn_4, ↓qn_9, ↓qn_1000, ↓qn_low, qi_0, qi_1, qi_2, qi_3, qi_4, qi_5, qi_6, qi_7, qi_8, qi_9, qi_10, qi_11, qi_12, qi_13, qi_14, qi_15, qi_16, qi_17, qi_20, qi_24, qi_30, qi_31, qi_32, qi_60, qi_99, qi_100, qi_200, qi_1000, qi_3400, qi_4000, qi_of, pu_gI, pu_pI, nI_leI, nI_ltI, nI_eq, nI_add, pk_mul, pk_div, qw_s, qw_o, qw_l, qr_s, qr_o, qr_l, ql_i, ql_s, ql_o, pk_us, pk_un, pk_uLs, pk_uLn, if_pos, if_neg, if_true, if_false, ite_self, eq_self, Nat.zero_add, Nat.add_zero, qwr, not_true_eq_false, not_false_eq_true, Option.some.injEq, qe_gn0, qe_m1n, qe_gng, qe_ngn, qe_gm, qe_mg, qe_lm1, qe_lgn, qe_lem, qe_leg, qe_tm1, qe_tgn, c6, c7, h10, hall]
    exact ⟨_, _, rfl, rfl, rfl, R⟩
