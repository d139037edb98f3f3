/-! ===== PURE: the class walks through plans ===== -/
theorem goOn1 {S : vS} {k2 n j d : Nat} {G F : Nat → Int32} (hn : n ≤ 4) (hk2 : k2 + 9 < 95 ∨ 118 < k2) (hG : GodR S k2 n G) (hGI : GInv n G) (hj : j < 4) (hS : ScR S (95 + 2 + 4 * j) n F) (hF : FInv n F) (hd : d < 13) :
    (canB G n F d = false → mX1_goOn S 95 k2 (nI j) (nI d) = some (nI 0, S)) ∧
    (canB G n F d = true → ∃ X, mX1_goOn S 95 k2 (nI j) (nI d) = some (nI 1, X) ∧ ScR X (95 + 2 + 4 * (j + 1)) n (dyF G n F d) ∧ X.1 (95 + 2 + 4 * (j + 1)) 3 = S.1 (95 + 2 + 4 * j) 3 + nI (gsD G n F d) ∧ X.1 (95 + 2 + 4 * (j + 1)) 4 = S.1 (95 + 2 + 4 * j) 4 + nI (hsD G n F d) ∧ X.1 (95 + 2 + 4 * (j + 1)) 5 = S.1 (95 + 2 + 4 * j) 5 + nI (cosN G n F d) ∧ X.1 (95 + 2 + 4 * (j + 1)) 8 = fdD G n F d ∧ (∀ g, g < n → X.1 ((95 + 2 + 4 * (j + 1)) + 3) g = snt G n F d g) ∧ X.1 117 = upd (S.1 117) j (nI d) ∧ (∀ c, (c < (95 + 2 + 4 * (j + 1)) ∨ (95 + 2 + 4 * (j + 1)) + 3 < c) → c ≠ 117 → X.1 c = S.1 c) ∧ X.2 = S.2) := by
  have hc := c6_cost (d := d) hn hG hS hF (by omega)
  have hcl : cosN G n F d ≤ 7 := cosN_le
  have e22 : (95 + 22 : Nat) = 117 := rfl
  refine ⟨fun hcan => ?_, fun hcan => ?_⟩
  · rw [cosV_n hcan] at hc
    unfold mX1_goOn
    simp (disch := omega) only [qlt, qb_some, qb_none, ↓qn_1, ↓qn_2, ↓qn_3, ↓qn_4, ↓qn_9, ↓qn_1000, ↓qn_low, qi_0, qi_1, qi_2, qi_3, qi_4, qi_5, qi_6, qi_7, qi_8, qi_9, qi_10, qi_11, qi_12, qi_13, qi_14, qi_15, qi_16, qi_17, qi_20, qi_24, qi_30, qi_31, qi_32, qi_60, qi_99, qi_100, qi_200, qi_1000, qi_3400, qi_4000, qi_of, pu_gI, pu_pI, nI_leI, nI_ltI, nI_eq, nI_add, pk_mul, pk_sub, pk_div, qw_s, qw_o, qw_l, qr_s, qr_o, qr_l, ql_i, ql_s, ql_o, pk_us, pk_un, pk_uLs, pk_uLn, if_pos, if_neg, if_true, if_false, ite_self, eq_self, Nat.zero_add, Nat.add_zero, qwr, not_true_eq_false, not_false_eq_true, Option.some.injEq, qe_gn0, qe_m1n, qe_gng, qe_ngn, qe_gm, qe_mg, qe_lm1, qe_lgn, qe_lem, qe_leg, qe_tm1, qe_tgn, qa_scl, hc]
  · rw [cosV_y hcan] at hc
    have t3 := take3 (S := S) (k := (95 + 2 + 4 * (j + 1))) (k1 := (95 + 2 + 4 * j)) (A := S.1 (95 + 2 + 4 * (j + 1))) (B := S.1 ((95 + 2 + 4 * (j + 1)) + 1)) (C := S.1 ((95 + 2 + 4 * (j + 1)) + 2)) (D := S.1 ((95 + 2 + 4 * (j + 1)) + 3)) (by omega)
    rw [mk4_id] at t3
    have hS2 := ScR_take (k := (95 + 2 + 4 * (j + 1))) (A := S.1 (95 + 2 + 4 * (j + 1))) (B := S.1 ((95 + 2 + 4 * (j + 1)) + 1)) (C := S.1 ((95 + 2 + 4 * (j + 1)) + 2)) (D := S.1 ((95 + 2 + 4 * (j + 1)) + 3)) hn hS
    have sp := spend6 (S := S) (k := (95 + 2 + 4 * (j + 1))) (k1 := k2) (by omega) hn hG hGI hS2 hF hd hcan
    have hday := ScR_day (d := d) (G := G) hn hS2
    refine ⟨wI (mk4 S (95 + 2 + 4 * (j + 1)) (sA (tA (S.1 (95 + 2 + 4 * (j + 1))) (S.1 (95 + 2 + 4 * j))) G n F d) (sB (tM 3 (S.1 ((95 + 2 + 4 * (j + 1)) + 1)) (S.1 ((95 + 2 + 4 * j) + 1))) G n F d) (CC (tM 4 (S.1 ((95 + 2 + 4 * (j + 1)) + 2)) (S.1 ((95 + 2 + 4 * j) + 2))) G F n d n) (DD (S.1 ((95 + 2 + 4 * (j + 1)) + 3)) G n F d n)) 117 j (nI d), ?_, ?_, ?_, ?_, ?_, ?_, ?_, ?_, ?_, rfl⟩
    · unfold mX1_goOn
      simp (disch := omega) only [qlt, qb_some, qb_none, ↓qn_1, ↓qn_2, ↓qn_3, ↓qn_4, ↓qn_9, ↓qn_1000, ↓qn_low, qi_0, qi_1, qi_2, qi_3, qi_4, qi_5, qi_6, qi_7, qi_8, qi_9, qi_10, qi_11, qi_12, qi_13, qi_14, qi_15, qi_16, qi_17, qi_20, qi_24, qi_30, qi_31, qi_32, qi_60, qi_99, qi_100, qi_200, qi_1000, qi_3400, qi_4000, qi_of, pu_gI, pu_pI, nI_leI, nI_ltI, nI_eq, nI_add, pk_mul, pk_sub, pk_div, qw_s, qw_o, qw_l, qr_s, qr_o, qr_l, ql_i, ql_s, ql_o, pk_us, pk_un, pk_uLs, pk_uLn, if_pos, if_neg, if_true, if_false, ite_self, eq_self, Nat.zero_add, Nat.add_zero, qwr, not_true_eq_false, not_false_eq_true, Option.some.injEq, qe_gn0, qe_m1n, qe_gng, qe_ngn, qe_gm, qe_mg, qe_lm1, qe_lgn, qe_lem, qe_leg, qe_tm1, qe_tgn, qa_scl, hc, t3, sp, e22]
    · exact ScR_tr (S := mk4 S (95 + 2 + 4 * (j + 1)) _ _ _ _) (k := (95 + 2 + 4 * (j + 1))) hn (fun i _ => by rw [qw_o (by omega)]) (fun i _ => by rw [qw_o (by omega)]) (fun i _ => by rw [qw_o (by omega)]) hday
    · rw [qw_o (by omega), mk4_0, sA_3, tA_i (by decide)]
    · rw [qw_o (by omega), mk4_0, sA_4, tA_i (by decide)]
    · rw [qw_o (by omega), mk4_0, sA_5, tA_i (by decide)]
    · rw [qw_o (by omega), mk4_0, sA_8]
    · intro g hg
      rw [qw_o (by omega), mk4_3]
      unfold DD
      rw [if_pos hg]
    · rw [qw_s, mk4_o (by omega)]
    · intro c hc1 hc2
      rw [qw_o hc2, mk4_o hc1]
def Wst (S0 S : vS) (L u : Nat) (hl fe : Bool) : Prop :=
  (∀ c, (c < 95 ∨ 118 < c) → S.1 c = S0.1 c) ∧ S.2 = S0.2 ∧ S.1 95 2 = nI L ∧ S.1 95 3 = (if u < 4 then nI 1 <<< (nI u &&& nI 31) else nI 0) ∧ S.1 95 4 = (if hl = true then nI 1 else nI 0) ∧ S.1 95 5 = (if fe = true then nI 1 else nI 0)
def prc (fe : Bool) (l : List vP) : List vP := if fe = true then l.take 1 else l
def preP (pre : List Nat) (x : vP) : vP := (pre ++ x.1, x.2)
theorem prc_prc {fe : Bool} {a b : List vP} : prc fe (prc fe a ++ b) = prc fe (a ++ b) := by
  unfold prc
  cases fe
  · rfl
  · simp only [if_true]
    cases a with
    | nil => rfl
    | cons x a => rfl
theorem prc_len {fe : Bool} {a : List vP} : (prc fe a).length ≤ a.length := by
  unfold prc
  split
  · rw [List.length_take]; omega
  · exact Nat.le_refl _
theorem prc_mem {fe : Bool} {a : List vP} {y : vP} (h : y ∈ prc fe a) : y ∈ a := by
  unfold prc at h
  split at h
  · exact List.mem_of_mem_take h
  · exact h
theorem and_one {a : Int32} {u : Nat} (ha : nib a) (hu : u < 4) : ((a &&& (nI 1 <<< (nI u &&& nI 31))) = nI 0) = (bt a u = false) := by
  apply propext
  constructor
  · intro h
    have h1 : bt (a &&& (nI 1 <<< (nI u &&& nI 31))) u = bt (nI 0) u := by rw [h]
    rw [bt_and ha (nib_one hu) hu, bt_one hu hu, bt_z u hu] at h1
    simpa using h1
  · intro h
    refine bt_ext (nib_and ha (nib_one hu)) nib_0 (fun g hg => ?_)
    rw [bt_and ha (nib_one hu) hg, bt_one hu hg, bt_z g hg]
    by_cases e : g = u
    · subst e; simp [h]
    · simp [e]
theorem wanted6 {X : vS} {j u h : Nat} {hl : Bool} {fd : Int32} (hj : j < 5) (h8 : X.1 (95 + 2 + 4 * j) 8 = fd) (hfd : nib fd) (h4 : X.1 (95 + 2 + 4 * j) 4 = nI h) (hh : h ≤ 1000) (w3 : X.1 95 3 = if u < 4 then nI 1 <<< (nI u &&& nI 31) else nI 0) (w4 : X.1 95 4 = if hl = true then nI 1 else nI 0) :
    mX1_isWanted X 95 (nI j) = some (if (!(decide (u < 4) && bt fd u) && (!hl || decide (h = 0))) = true then nI 1 else nI 0) := by
  have hand : ((fd &&& (if u < 4 then nI 1 <<< (nI u &&& nI 31) else nI 0)) = nI 0) = ((decide (u < 4) && bt fd u) = false) := by
    by_cases hu : u < 4
    · rw [if_pos hu, and_one hfd hu]
      simp [hu]
    · rw [if_neg hu]
      have : fd &&& nI 0 = nI 0 := bt_ext (nib_and hfd nib_0) nib_0 (fun g hg => by rw [bt_and hfd nib_0 hg, bt_z g hg, Bool.and_false])
      rw [this]
      simp [hu]
  unfold mX1_isWanted bX1_isWanted_55
  have h8' : X.1 (95 + 2 + 4 * j) 8 = fd := h8
  have h4' : X.1 (95 + 2 + 4 * j) 4 = nI h := h4
  simp (disch := omega) only [qlt, qb_some, qb_none, ↓qn_1, ↓qn_2, ↓qn_3, ↓qn_4, ↓qn_9, ↓qn_1000, ↓qn_low, qi_0, qi_1, qi_2, qi_3, qi_4, qi_5, qi_6, qi_7, qi_8, qi_9, qi_10, qi_11, qi_12, qi_13, qi_14, qi_15, qi_16, qi_17, qi_20, qi_24, qi_30, qi_31, qi_32, qi_60, qi_99, qi_100, qi_200, qi_1000, qi_3400, qi_4000, qi_of, pu_gI, pu_pI, nI_leI, nI_ltI, nI_eq, nI_add, pk_mul, pk_sub, pk_div, qw_s, qw_o, qw_l, qr_s, qr_o, qr_l, ql_i, ql_s, ql_o, pk_us, pk_un, pk_uLs, pk_uLn, if_pos, if_neg, if_true, if_false, ite_self, eq_self, Nat.zero_add, Nat.add_zero, qwr, not_true_eq_false, not_false_eq_true, Option.some.injEq, qe_gn0, qe_m1n, qe_gng, qe_ngn, qe_gm, qe_mg, qe_lm1, qe_lgn, qe_lem, qe_leg, qe_tm1, qe_tgn, qa_scl, h8', w3, hand, w4, h4']
  cases hb : (decide (u < 4) && bt fd u)
  · cases hl
    · simp [nI_eq]
    · by_cases h0 : h = 0
      · simp [h0, nI_eq]
      · simp [h0, nI_eq]
  · simp [nI_eq]
section WK
variable {S0 : vS} {G : Nat → Int32} {n k2 L u : Nat} {hl fe : Bool}
theorem preP_cons (pre : List Nat) (d : Nat) (l : List vP) : (l.map (consP d)).map (preP pre) = l.map (preP (pre ++ [d])) := by
  rw [List.map_map]
  congr 1
  funext x
  show (pre ++ d :: x.1, x.2) = (pre ++ [d] ++ x.1, x.2)
  simp
theorem walk_l (hn : n ≤ 4) (hk2 : k2 + 9 < 95 ∨ 118 < k2) (hG : GodR S0 k2 n G) (hGI : GInv n G) (hL : L ≤ 4) :
    ∀ (m D j : Nat) (pre : List Nat) (F : Nat → Int32) (g h c e : Nat) (S : vS) (done : List vP), j + m = L → m < D → pre.length = j → Wst S0 S L u hl fe → SmR L (S.1 95) (S.1 118) done → (∀ y, y ∈ done → Bd L y) → done.length + 13 ^ m ≤ 30000 → (fe = true → done = []) →
      ScR S (95 + 2 + 4 * j) n F → FInv n F → F 14 = nI e → e + m ≤ 900 → S.1 (95 + 2 + 4 * j) 3 = nI g → S.1 (95 + 2 + 4 * j) 4 = nI h → S.1 (95 + 2 + 4 * j) 5 = nI c → g ≤ 36 * j → h ≤ 36 * j → c ≤ 7 * j → (∀ i, i < j → S.1 117 i = nI (pre.getD i 0)) →
      ∃ S', mX1_walk D S 95 k2 (nI j) = some S' ∧ Wst S0 S' L u hl fe ∧ SmR L (S'.1 95) (S'.1 118) (prc fe (done ++ (allP G n u hl m F g h c).map (preP pre))) ∧ (∀ c, 95 < c → c ≤ (95 + 2 + 4 * j) + 3 → S'.1 c = S.1 c) ∧ (∀ i, i < j → S'.1 117 i = S.1 117 i) := by
  intro m
  induction m with
  | zero =>
    intro D j pre F g h c e S done h1 h2 h3 hW hSm hdB hlen hfe hS hF h14 he eg eh ec bg bh bc hnum
    obtain ⟨D, rfl⟩ : ∃ D2, D = D2 + 1 := ⟨D - 1, by omega⟩
    have hjL : j = L := h1
    subst hjL
    obtain ⟨w1, w2, w3, w4, w5, w6⟩ := id hW
    have hE : EndR S (95 + 2 + 4 * j) j g h c pre := ⟨by omega, by omega, eg, eh, ec, by omega, by omega, by omega, h3, hnum⟩
    obtain ⟨A', B', f1, f2, f3⟩ := weigh6 (A := S.1 95) (B := S.1 118) hE hL hdB (by omega) hSm
    rw [WW_id] at f1
    refine ⟨WW S A' B', ?_, ⟨fun c hc => by rw [WW_o (by omega) (by omega)]; exact w1 c hc, w2, by rw [WW_95, f2 2 (by decide)]; exact w3, by rw [WW_95, f2 3 (by decide)]; exact w4, by rw [WW_95, f2 4 (by decide)]; exact w5, by rw [WW_95, f2 5 (by decide)]; exact w6⟩, ?_, fun c hc1 hc2 => WW_o (by omega) (by omega), fun i hi => by rw [WW_o (by decide) (by decide)]⟩
    · rw [mX1_walk]
      simp (disch := omega) only [qlt, qb_some, qb_none, ↓qn_1, ↓qn_2, ↓qn_3, ↓qn_4, ↓qn_9, ↓qn_1000, ↓qn_low, qi_0, qi_1, qi_2, qi_3, qi_4, qi_5, qi_6, qi_7, qi_8, qi_9, qi_10, qi_11, qi_12, qi_13, qi_14, qi_15, qi_16, qi_17, qi_20, qi_24, qi_30, qi_31, qi_32, qi_60, qi_99, qi_100, qi_200, qi_1000, qi_3400, qi_4000, qi_of, pu_gI, pu_pI, nI_leI, nI_ltI, nI_eq, nI_add, pk_mul, pk_sub, pk_div, qw_s, qw_o, qw_l, qr_s, qr_o, qr_l, ql_i, ql_s, ql_o, pk_us, pk_un, pk_uLs, pk_uLn, if_pos, if_neg, if_true, if_false, ite_self, eq_self, Nat.zero_add, Nat.add_zero, qwr, not_true_eq_false, not_false_eq_true, Option.some.injEq, qe_gn0, qe_m1n, qe_gng, qe_ngn, qe_gm, qe_mg, qe_lm1, qe_lgn, qe_lem, qe_leg, qe_tm1, qe_tgn, w3, qa_scl, f1]
    · rw [WW_95, WW_118]
      have : prc fe (done ++ (allP G n u hl 0 F g h c).map (preP pre)) = done ++ [(pre, (g, h, c))] := by
        have e1 : (allP G n u hl 0 F g h c).map (preP pre) = [(pre, (g, h, c))] := by
          show [preP pre ([], (g, h, c))] = _
          unfold preP
          rw [List.append_nil]
        rw [e1]
        unfold prc
        by_cases hf : fe = true
        · rw [if_pos hf, hfe hf]
          rfl
        · rw [if_neg hf]
      rw [this]
      exact f3
  | succ m ih =>
    intro D j pre F g h c e S done h1 h2 h3 hW hSm hdB hlen hfe hS hF h14 he eg eh ec bg bh bc hnum
    obtain ⟨D, rfl⟩ : ∃ D2, D = D2 + 1 := ⟨D - 1, by omega⟩
    have hj4 : j < 4 := by omega
    have loop : ∀ q d (S1 : vS) (done1 : List vP), d ≤ 13 → 13 - d < q → Wst S0 S1 L u hl fe → SmR L (S1.1 95) (S1.1 118) done1 → (∀ y, y ∈ done1 → Bd L y) → done1.length + (13 - d) * 13 ^ m ≤ 30000 → (fe = true → done1.length ≤ 1) → (∀ c, 95 < c → c ≤ (95 + 2 + 4 * j) + 3 → S1.1 c = S.1 c) → (∀ i, i < j → S1.1 117 i = S.1 117 i) →
        ∃ S', lX1_walk_24 (mX1_walk D) 95 k2 (nI j) q S1 (nI d) = some S' ∧ Wst S0 S' L u hl fe ∧ SmR L (S'.1 95) (S'.1 118) (prc fe (done1 ++ (fromP (hdP G n u hl m F g h c) (13 - d)).map (preP pre))) ∧ (∀ c, 95 < c → c ≤ (95 + 2 + 4 * j) + 3 → S'.1 c = S.1 c) ∧ (∀ i, i < j → S'.1 117 i = S.1 117 i) := by
      intro q
      induction q with
      | zero => intro d S1 done1 k1 k2; omega
      | succ q ihq =>
        intro d S1 done1 k1 kq kW kSm kdB klen kfe kS knum
        rw [lX1_walk_24]
        obtain ⟨w1, w2, w3, w4, w5, w6⟩ := id kW
        by_cases hd : d = 13
        · subst hd
          have e0 : prc fe (done1 ++ (fromP (hdP G n u hl m F g h c) (13 - 13)).map (preP pre)) = done1 := by
            show prc fe (done1 ++ []) = done1
            rw [List.append_nil]
            unfold prc
            by_cases hf : fe = true
            · rw [if_pos hf]
              exact List.take_of_length_le (kfe hf)
            · rw [if_neg hf]
          rw [e0]
          refine ⟨S1, ?_, kW, kSm, kS, knum⟩
          simp (disch := omega) only [qlt, qb_some, qb_none, ↓qn_1, ↓qn_2, ↓qn_3, ↓qn_4, ↓qn_9, ↓qn_1000, ↓qn_low, qi_0, qi_1, qi_2, qi_3, qi_4, qi_5, qi_6, qi_7, qi_8, qi_9, qi_10, qi_11, qi_12, qi_13, qi_14, qi_15, qi_16, qi_17, qi_20, qi_24, qi_30, qi_31, qi_32, qi_60, qi_99, qi_100, qi_200, qi_1000, qi_3400, qi_4000, qi_of, pu_gI, pu_pI, nI_leI, nI_ltI, nI_eq, nI_add, pk_mul, pk_sub, pk_div, qw_s, qw_o, qw_l, qr_s, qr_o, qr_l, ql_i, ql_s, ql_o, pk_us, pk_un, pk_uLs, pk_uLn, if_pos, if_neg, if_true, if_false, ite_self, eq_self, Nat.zero_add, Nat.add_zero, qwr, not_true_eq_false, not_false_eq_true, Option.some.injEq, qe_gn0, qe_m1n, qe_gng, qe_ngn, qe_gm, qe_mg, qe_lm1, qe_lgn, qe_lem, qe_leg, qe_tm1, qe_tgn]
        · have hd13 : d < 13 := by omega
          have hfs := fromP_s (hdP G n u hl m F g h c) hd13
          rw [hfs, List.map_append, ← List.append_assoc]
          by_cases hstop : fe = true ∧ done1 ≠ []
          · obtain ⟨hf, hne⟩ := hstop
            have hl1 : done1.length = 1 := by
              have := kfe hf
              have : done1.length ≠ 0 := fun z => hne (List.eq_nil_of_length_eq_zero z)
              omega
            have e0 : prc fe (done1 ++ (hdP G n u hl m F g h c d).map (preP pre) ++ (fromP (hdP G n u hl m F g h c) (12 - d)).map (preP pre)) = done1 := by
              unfold prc
              rw [if_pos hf]
              cases done1 with
              | nil => exact absurd rfl hne
              | cons x r =>
                have : r = [] := List.eq_nil_of_length_eq_zero (by rw [List.length_cons] at hl1; omega)
                subst this
                rfl
            rw [e0]
            refine ⟨S1, ?_, kW, kSm, kS, knum⟩
            have c6 : S1.1 95 6 = nI 1 := by rw [kSm.1, hl1]
            rw [if_pos hf] at w6
            simp (disch := omega) only [qlt, qb_some, qb_none, ↓qn_1, ↓qn_2, ↓qn_3, ↓qn_4, ↓qn_9, ↓qn_1000, ↓qn_low, qi_0, qi_1, qi_2, qi_3, qi_4, qi_5, qi_6, qi_7, qi_8, qi_9, qi_10, qi_11, qi_12, qi_13, qi_14, qi_15, qi_16, qi_17, qi_20, qi_24, qi_30, qi_31, qi_32, qi_60, qi_99, qi_100, qi_200, qi_1000, qi_3400, qi_4000, qi_of, pu_gI, pu_pI, nI_leI, nI_ltI, nI_eq, nI_add, pk_mul, pk_sub, pk_div, qw_s, qw_o, qw_l, qr_s, qr_o, qr_l, ql_i, ql_s, ql_o, pk_us, pk_un, pk_uLs, pk_uLn, if_pos, if_neg, if_true, if_false, ite_self, eq_self, Nat.zero_add, Nat.add_zero, qwr, not_true_eq_false, not_false_eq_true, Option.some.injEq, qe_gn0, qe_m1n, qe_gng, qe_ngn, qe_gm, qe_mg, qe_lm1, qe_lgn, qe_lem, qe_leg, qe_tm1, qe_tgn, w6, c6]
          · have hgo : (fe = true → done1 = []) := fun hf => by
              cases done1 with
              | nil => rfl
              | cons x r => exact absurd ⟨hf, by simp⟩ hstop
            have hbody : lX1_walk_24 (mX1_walk D) 95 k2 (nI j) (q + 1) S1 (nI d) = bX1_walk_45 (mX1_walk D) 95 k2 (lX1_walk_24 (mX1_walk D) 95 k2 (nI j) q) S1 (nI j) (nI d) := by
              rw [lX1_walk_24]
              by_cases hf : fe = true
              · have c6 : S1.1 95 6 = nI 0 := by rw [kSm.1, hgo hf]; rfl
                rw [if_pos hf] at w6
                simp (disch := omega) only [qlt, qb_some, qb_none, ↓qn_1, ↓qn_2, ↓qn_3, ↓qn_4, ↓qn_9, ↓qn_1000, ↓qn_low, qi_0, qi_1, qi_2, qi_3, qi_4, qi_5, qi_6, qi_7, qi_8, qi_9, qi_10, qi_11, qi_12, qi_13, qi_14, qi_15, qi_16, qi_17, qi_20, qi_24, qi_30, qi_31, qi_32, qi_60, qi_99, qi_100, qi_200, qi_1000, qi_3400, qi_4000, qi_of, pu_gI, pu_pI, nI_leI, nI_ltI, nI_eq, nI_add, pk_mul, pk_sub, pk_div, qw_s, qw_o, qw_l, qr_s, qr_o, qr_l, ql_i, ql_s, ql_o, pk_us, pk_un, pk_uLs, pk_uLn, if_pos, if_neg, if_true, if_false, ite_self, eq_self, Nat.zero_add, Nat.add_zero, qwr, not_true_eq_false, not_false_eq_true, Option.some.injEq, qe_gn0, qe_m1n, qe_gng, qe_ngn, qe_gm, qe_mg, qe_lm1, qe_lgn, qe_lem, qe_leg, qe_tm1, qe_tgn, w6, c6]
              · rw [if_neg hf] at w6
                simp (disch := omega) only [qlt, qb_some, qb_none, ↓qn_1, ↓qn_2, ↓qn_3, ↓qn_4, ↓qn_9, ↓qn_1000, ↓qn_low, qi_0, qi_1, qi_2, qi_3, qi_4, qi_5, qi_6, qi_7, qi_8, qi_9, qi_10, qi_11, qi_12, qi_13, qi_14, qi_15, qi_16, qi_17, qi_20, qi_24, qi_30, qi_31, qi_32, qi_60, qi_99, qi_100, qi_200, qi_1000, qi_3400, qi_4000, qi_of, pu_gI, pu_pI, nI_leI, nI_ltI, nI_eq, nI_add, pk_mul, pk_sub, pk_div, qw_s, qw_o, qw_l, qr_s, qr_o, qr_l, ql_i, ql_s, ql_o, pk_us, pk_un, pk_uLs, pk_uLn, if_pos, if_neg, if_true, if_false, ite_self, eq_self, Nat.zero_add, Nat.add_zero, qwr, not_true_eq_false, not_false_eq_true, Option.some.injEq, qe_gn0, qe_m1n, qe_gng, qe_ngn, qe_gm, qe_mg, qe_lm1, qe_lgn, qe_lem, qe_leg, qe_tm1, qe_tgn, w6]
            rw [lX1_walk_24] at hbody
            rw [hbody]
            have hG1 : GodR S1 k2 n G := GodR_tr (S := S0) (k := k2) hn (fun i _ => by rw [w1 _ (by omega)]) (fun i i1 i2 g _ => by rw [w1 _ (by omega)]) hG
            have hS1 : ScR S1 (95 + 2 + 4 * j) n F := ScR_tr (S := S) (k := (95 + 2 + 4 * j)) hn (fun i _ => by rw [kS _ (by omega) (by omega)]) (fun i _ => by rw [kS _ (by omega) (by omega)]) (fun i _ => by rw [kS _ (by omega) (by omega)]) hS
            obtain ⟨go0, go1⟩ := goOn1 (d := d) hn hk2 hG1 hGI hj4 hS1 hF hd13
            have hmul : (13 - d) * 13 ^ m = (12 - d) * 13 ^ m + 13 ^ m := by
              rw [show 13 - d = (12 - d) + 1 by omega, Nat.succ_mul]
            have hle12 : done1.length + (12 - d) * 13 ^ m ≤ 30000 := Nat.le_trans (Nat.add_le_add_left (Nat.mul_le_mul_right _ (show 12 - d ≤ 13 - d by omega)) _) klen
            have hge : 13 ^ m ≤ (13 - d) * 13 ^ m := Nat.le_mul_of_pos_left _ (by omega)
            have hdone : done1.length + 13 ^ m ≤ 30000 := Nat.le_trans (Nat.add_le_add_left hge _) klen
            have skip : hdP G n u hl m F g h c d = [] → ∀ X : vS, Wst S0 X L u hl fe → SmR L (X.1 95) (X.1 118) done1 → (∀ c, 95 < c → c ≤ (95 + 2 + 4 * j) + 3 → X.1 c = S.1 c) → (∀ i, i < j → X.1 117 i = S.1 117 i) →
                ∃ S', lX1_walk_24 (mX1_walk D) 95 k2 (nI j) q X (nI (d + 1)) = some S' ∧ Wst S0 S' L u hl fe ∧ SmR L (S'.1 95) (S'.1 118) (prc fe (done1 ++ (hdP G n u hl m F g h c d).map (preP pre) ++ (fromP (hdP G n u hl m F g h c) (12 - d)).map (preP pre))) ∧ (∀ c, 95 < c → c ≤ (95 + 2 + 4 * j) + 3 → S'.1 c = S.1 c) ∧ (∀ i, i < j → S'.1 117 i = S.1 117 i) := by
              intro hnil X xW xSm xS xnum
              rw [hnil]
              have := ihq (d + 1) X done1 (by omega) (by omega) xW xSm kdB (by rw [show 13 - (d + 1) = 12 - d by omega]; exact hle12) kfe xS xnum
              rw [show 13 - (d + 1) = 12 - d by omega] at this
              rw [List.map_nil, List.append_nil]
              exact this
            unfold bX1_walk_45
            cases hcan : canB G n F d
            · have hnil : hdP G n u hl m F g h c d = [] := by
                unfold hdP okB
                rw [hcan]
                simp
              simp (disch := omega) only [qlt, qb_some, qb_none, ↓qn_1, ↓qn_2, ↓qn_3, ↓qn_4, ↓qn_9, ↓qn_1000, ↓qn_low, qi_0, qi_1, qi_2, qi_3, qi_4, qi_5, qi_6, qi_7, qi_8, qi_9, qi_10, qi_11, qi_12, qi_13, qi_14, qi_15, qi_16, qi_17, qi_20, qi_24, qi_30, qi_31, qi_32, qi_60, qi_99, qi_100, qi_200, qi_1000, qi_3400, qi_4000, qi_of, pu_gI, pu_pI, nI_leI, nI_ltI, nI_eq, nI_add, pk_mul, pk_sub, pk_div, qw_s, qw_o, qw_l, qr_s, qr_o, qr_l, ql_i, ql_s, ql_o, pk_us, pk_un, pk_uLs, pk_uLn, if_pos, if_neg, if_true, if_false, ite_self, eq_self, Nat.zero_add, Nat.add_zero, qwr, not_true_eq_false, not_false_eq_true, Option.some.injEq, qe_gn0, qe_m1n, qe_gng, qe_ngn, qe_gm, qe_mg, qe_lm1, qe_lgn, qe_lem, qe_leg, qe_tm1, qe_tgn, go0 hcan]
              exact skip hnil S1 kW kSm kS knum
            · obtain ⟨X, x1, x2, x3, x4, x5, x6, x7, x8, x9, x10⟩ := go1 hcan
              have xW : Wst S0 X L u hl fe := ⟨fun c hc => by rw [x9 c (by omega) (by omega)]; exact w1 c hc, by rw [x10]; exact w2, by rw [x9 95 (by omega) (by decide)]; exact w3, by rw [x9 95 (by omega) (by decide)]; exact w4, by rw [x9 95 (by omega) (by decide)]; exact w5, by rw [x9 95 (by omega) (by decide)]; exact w6⟩
              have xSm : SmR L (X.1 95) (X.1 118) done1 := by rw [x9 95 (by omega) (by decide), x9 118 (by omega) (by decide)]; exact kSm
              have xS : ∀ c, 95 < c → c ≤ (95 + 2 + 4 * j) + 3 → X.1 c = S.1 c := fun c c1 c2 => by rw [x9 c (by omega) (by omega)]; exact kS c c1 c2
              have xnum : ∀ i, i < j → X.1 117 i = S.1 117 i := fun i hi => by rw [x8, pk_un (by omega)]; exact knum i hi
              have bgs := gsD_le (G := G) (F := F) (n := n) (d := d) hn hGI
              have bhs := hsD_le (G := G) (F := F) (n := n) (d := d) hn hGI
              have bcs : cosN G n F d ≤ 7 := cosN_le
              have x3' : X.1 (95 + 2 + 4 * (j + 1)) 3 = nI (g + gsD G n F d) := by rw [x3, kS _ (by omega) (by omega), eg, nI_add]
              have x4' : X.1 (95 + 2 + 4 * (j + 1)) 4 = nI (h + hsD G n F d) := by rw [x4, kS _ (by omega) (by omega), eh, nI_add]
              have x5' : X.1 (95 + 2 + 4 * (j + 1)) 5 = nI (c + cosN G n F d) := by rw [x5, kS _ (by omega) (by omega), ec, nI_add]
              have hwant := wanted6 (X := X) (j := j + 1) (u := u) (hl := hl) (h := h + hsD G n F d) (by omega) x6 nib_fd x4' (by omega) xW.2.2.2.1 xW.2.2.2.2.1
              have hok : okB G n u hl F h d = (!(decide (u < 4) && bt (fdD G n F d) u) && (!hl || decide (h + hsD G n F d = 0))) := by
                unfold okB
                rw [hcan, Bool.true_and]
              rw [← hok] at hwant
              by_cases hw : okB G n u hl F h d = true
              · rw [if_pos hw] at hwant
                have hhd : hdP G n u hl m F g h c d = (allP G n u hl m (dyF G n F d) (g + gsD G n F d) (h + hsD G n F d) (c + cosN G n F d)).map (consP d) := if_pos hw
                have hal := allP_len (G := G) (n := n) (u := u) (hl := hl) m (dyF G n F d) (g + gsD G n F d) (h + hsD G n F d) (c + cosN G n F d)
                obtain ⟨S2, r1, r2, r3, r4, r5⟩ := ih D (j + 1) (pre ++ [d]) (dyF G n F d) (g + gsD G n F d) (h + hsD G n F d) (c + cosN G n F d) (e + 1) X done1 (by omega) (by omega) (by rw [List.length_append, List.length_singleton, h3]) xW xSm kdB hdone hgo x2 (FInv_day hn hF h14 (by omega) hd13 hcan) (dy14 h14) (by omega) x3' x4' x5' (by omega) (by omega) (by omega)
                  (fun i hi => by
                    rw [x8]
                    by_cases hij : i = j
                    · subst hij
                      rw [pk_us, getD_app_r (by omega), h3, Nat.sub_self]
                      rfl
                    · rw [pk_un hij, getD_app_l (by omega), knum i (by omega)]
                      exact hnum i (by omega))
                rw [← preP_cons, ← hhd] at r3
                have hBd2 : ∀ y, y ∈ prc fe (done1 ++ (hdP G n u hl m F g h c d).map (preP pre)) → Bd L y := by
                  intro y hy
                  have hy2 := prc_mem hy
                  rw [List.mem_append] at hy2
                  rcases hy2 with hy2 | hy2
                  · exact kdB y hy2
                  · rw [hhd, preP_cons, List.mem_map] at hy2
                    obtain ⟨z, hz, rfl⟩ := hy2
                    obtain ⟨b1, b2, b3, b4, _⟩ := allP_bd hn hGI _ _ _ _ _ z hz
                    refine ⟨?_, ?_, ?_, ?_⟩
                    · show z.2.1 ≤ 1000; omega
                    · show z.2.2.1 ≤ 1000; omega
                    · show z.2.2.2 ≤ 1000; omega
                    · show (pre ++ [d] ++ z.1).length = L
                      rw [List.length_append, List.length_append, List.length_singleton, b4, h3]
                      omega
                have hln : (prc fe (done1 ++ (hdP G n u hl m F g h c d).map (preP pre))).length ≤ done1.length + 13 ^ m := by
                  refine Nat.le_trans prc_len ?_
                  rw [List.length_append, hhd, List.length_map, List.length_map]
                  omega
                have := ihq (d + 1) S2 (prc fe (done1 ++ (hdP G n u hl m F g h c d).map (preP pre))) (by omega) (by omega) r2 r3 hBd2 (by rw [show 13 - (d + 1) = 12 - d by omega]; omega) (fun hf => by
                  unfold prc
                  rw [if_pos hf]
                  exact List.length_take_le _ _) (fun c c1 c2 => by rw [r4 c c1 (by omega)]; exact xS c c1 c2) (fun i hi => by rw [r5 i (by omega)]; exact xnum i hi)
                rw [show 13 - (d + 1) = 12 - d by omega, prc_prc] at this
                simp (disch := omega) only [qlt, qb_some, qb_none, ↓qn_1, ↓qn_2, ↓qn_3, ↓qn_4, ↓qn_9, ↓qn_1000, ↓qn_low, qi_0, qi_1, qi_2, qi_3, qi_4, qi_5, qi_6, qi_7, qi_8, qi_9, qi_10, qi_11, qi_12, qi_13, qi_14, qi_15, qi_16, qi_17, qi_20, qi_24, qi_30, qi_31, qi_32, qi_60, qi_99, qi_100, qi_200, qi_1000, qi_3400, qi_4000, qi_of, pu_gI, pu_pI, nI_leI, nI_ltI, nI_eq, nI_add, pk_mul, pk_sub, pk_div, qw_s, qw_o, qw_l, qr_s, qr_o, qr_l, ql_i, ql_s, ql_o, pk_us, pk_un, pk_uLs, pk_uLn, if_pos, if_neg, if_true, if_false, ite_self, eq_self, Nat.zero_add, Nat.add_zero, qwr, not_true_eq_false, not_false_eq_true, Option.some.injEq, qe_gn0, qe_m1n, qe_gng, qe_ngn, qe_gm, qe_mg, qe_lm1, qe_lgn, qe_lem, qe_leg, qe_tm1, qe_tgn, x1, hwant, r1]
                exact this
              · rw [if_neg hw] at hwant
                have hnil : hdP G n u hl m F g h c d = [] := if_neg hw
                simp (disch := omega) only [qlt, qb_some, qb_none, ↓qn_1, ↓qn_2, ↓qn_3, ↓qn_4, ↓qn_9, ↓qn_1000, ↓qn_low, qi_0, qi_1, qi_2, qi_3, qi_4, qi_5, qi_6, qi_7, qi_8, qi_9, qi_10, qi_11, qi_12, qi_13, qi_14, qi_15, qi_16, qi_17, qi_20, qi_24, qi_30, qi_31, qi_32, qi_60, qi_99, qi_100, qi_200, qi_1000, qi_3400, qi_4000, qi_of, pu_gI, pu_pI, nI_leI, nI_ltI, nI_eq, nI_add, pk_mul, pk_sub, pk_div, qw_s, qw_o, qw_l, qr_s, qr_o, qr_l, ql_i, ql_s, ql_o, pk_us, pk_un, pk_uLs, pk_uLn, if_pos, if_neg, if_true, if_false, ite_self, eq_self, Nat.zero_add, Nat.add_zero, qwr, not_true_eq_false, not_false_eq_true, Option.some.injEq, qe_gn0, qe_m1n, qe_gng, qe_ngn, qe_gm, qe_mg, qe_lm1, qe_lgn, qe_lem, qe_leg, qe_tm1, qe_tgn, x1, hwant]
                exact skip hnil X xW xSm xS xnum
    have hpow : 13 ^ (m + 1) = 13 * 13 ^ m := by rw [Nat.pow_succ, Nat.mul_comm]
    obtain ⟨S', e1, e2, e3, e4, e5⟩ := loop FU 0 S done (by omega) (by unfold FU; omega) hW hSm hdB (by rw [show 13 - 0 = 13 by omega]; omega) (fun hf => by rw [hfe hf]; exact Nat.zero_le _) (fun _ _ _ => rfl) (fun _ _ => rfl)
    refine ⟨S', ?_, e2, ?_, e4, e5⟩
    · rw [mX1_walk]
      simp (disch := omega) only [qlt, qb_some, qb_none, ↓qn_1, ↓qn_2, ↓qn_3, ↓qn_4, ↓qn_9, ↓qn_1000, ↓qn_low, qi_0, qi_1, qi_2, qi_3, qi_4, qi_5, qi_6, qi_7, qi_8, qi_9, qi_10, qi_11, qi_12, qi_13, qi_14, qi_15, qi_16, qi_17, qi_20, qi_24, qi_30, qi_31, qi_32, qi_60, qi_99, qi_100, qi_200, qi_1000, qi_3400, qi_4000, qi_of, pu_gI, pu_pI, nI_leI, nI_ltI, nI_eq, nI_add, pk_mul, pk_sub, pk_div, qw_s, qw_o, qw_l, qr_s, qr_o, qr_l, ql_i, ql_s, ql_o, pk_us, pk_un, pk_uLs, pk_uLn, if_pos, if_neg, if_true, if_false, ite_self, eq_self, Nat.zero_add, Nat.add_zero, qwr, not_true_eq_false, not_false_eq_true, Option.some.injEq, qe_gn0, qe_m1n, qe_gng, qe_ngn, qe_gm, qe_mg, qe_lm1, qe_lgn, qe_lem, qe_leg, qe_tm1, qe_tgn, hW.2.2.1]
      exact e1
    · rw [allP_s]
      exact e3
end WK
