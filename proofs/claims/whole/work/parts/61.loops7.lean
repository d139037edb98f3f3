/-! ===== PURE: the reference's loops over plans ===== -/
def wrt (x : vP) : Int := (x.2.1 : Int) - (x.2.2.1 : Int)
def stM (b x : vP) : vP := if wrt b < wrt x then x else b
def bst (b : vP) (l : List vP) : vP := l.foldl stM b
def stH (b x : vP) : vP := if x.2.2.1 < b.2.2.1 ∨ (x.2.2.1 = b.2.2.1 ∧ b.2.1 < x.2.1) then x else b
def hst (b : vP) (l : List vP) : vP := l.foldl stH b
def stC (m : Nat) (x : vP) : Nat := if x.2.2.2 < m then x.2.2.2 else m
def cst (m : Nat) (l : List vP) : Nat := l.foldl stC m
def hz (x : vP) : Bool := decide (x.2.2.1 = 0)
/-- small numbers, L days -/
def Bd (L : Nat) (x : vP) : Prop := x.2.1 ≤ 1000 ∧ x.2.2.1 ≤ 1000 ∧ x.2.2.2 ≤ 1000 ∧ x.1.length = L
theorem w_le {a b c d : Nat} (ha : a ≤ 1000) (hb : b ≤ 1000) (hc : c ≤ 1000) (hd : d ≤ 1000) : (nI a - nI b ≤ nI c - nI d) = ((a : Int) - b ≤ (c : Int) - d) := by
  rw [Int32.le_iff_toInt_le, pk_sub_toInt (by omega) (by omega), pk_sub_toInt (by omega) (by omega)]
theorem w_lo {a b : Nat} (ha : a ≤ 1000) (hb : b ≤ 1000) : ¬ nI a - nI b ≤ qL := by
  rw [Int32.le_iff_toInt_le, pk_sub_toInt (by omega) (by omega)]
  have : qL.toInt = -99999 := by decide +kernel
  omega
theorem fromP_mem {X : Nat → List vP} {x : vP} : ∀ k, k ≤ 13 → x ∈ fromP X k → ∃ d, d < 13 ∧ x ∈ X d := by
  intro k
  induction k with
  | zero => intro _ h; exact absurd h (List.not_mem_nil)
  | succ k ih =>
    intro hk h
    have h2 : x ∈ X (12 - k) ++ fromP X k := h
    rw [List.mem_append] at h2
    rcases h2 with h2 | h2
    · exact ⟨12 - k, by omega, h2⟩
    · exact ih (by omega) h2
theorem fromP_len {X : Nat → List vP} {B : Nat} (h : ∀ d, (X d).length ≤ B) : ∀ k, (fromP X k).length ≤ B * k := by
  intro k
  induction k with
  | zero => exact Nat.zero_le _
  | succ k ih =>
    show (X (12 - k) ++ fromP X k).length ≤ _
    rw [List.length_append, Nat.mul_succ]
    have := h (12 - k)
    omega
theorem fromP_12 {X : Nat → List vP} {x : vP} (h : x ∈ X 12) : x ∈ fromP X 13 := by
  have : ∀ k, x ∈ fromP X (k + 1) := by
    intro k
    induction k with
    | zero => show x ∈ X 12 ++ []; simp [h]
    | succ k ih => show x ∈ X (12 - (k + 1)) ++ fromP X (k + 1); simp [ih]
  exact this 12
section AL
variable {G : Nat → Int32} {n u : Nat} {hl : Bool}
theorem allP_bd (hn : n ≤ 4) (hGI : GInv n G) : ∀ (L : Nat) (F : Nat → Int32) (g h c : Nat) (x : vP), x ∈ allP G n u hl L F g h c → x.2.1 ≤ g + 36 * L ∧ x.2.2.1 ≤ h + 36 * L ∧ x.2.2.2 ≤ c + 7 * L ∧ x.1.length = L ∧ h ≤ x.2.2.1 := by
  intro L
  induction L with
  | zero =>
    intro F g h c x hx
    have : x = ([], (g, h, c)) := by simpa [allP] using hx
    subst this
    simp
  | succ L ih =>
    intro F g h c x hx
    rw [allP_s] at hx
    obtain ⟨d, hd, hx2⟩ := fromP_mem 13 (Nat.le_refl _) hx
    unfold hdP at hx2
    by_cases ho : okB G n u hl F h d = true
    · rw [if_pos ho, List.mem_map] at hx2
      obtain ⟨y, hy, rfl⟩ := hx2
      obtain ⟨b1, b2, b3, b4, b5⟩ := ih _ _ _ _ y hy
      have h1 := gsD_le (G := G) (F := F) (n := n) (d := d) hn hGI
      have h2 := hsD_le (G := G) (F := F) (n := n) (d := d) hn hGI
      have h3 : cosN G n F d ≤ 7 := cosN_le
      show y.2.1 ≤ _ ∧ y.2.2.1 ≤ _ ∧ y.2.2.2 ≤ _ ∧ (d :: y.1).length = _ ∧ h ≤ y.2.2.1
      rw [List.length_cons]
      omega
    · rw [if_neg ho] at hx2
      exact absurd hx2 (List.not_mem_nil)
theorem allP_Bd (hn : n ≤ 4) (hGI : GInv n G) {L : Nat} (hL : L ≤ 4) {F : Nat → Int32} : ∀ x, x ∈ allP G n u hl L F 0 0 0 → Bd L x := by
  intro x hx
  obtain ⟨b1, b2, b3, b4, _⟩ := allP_bd hn hGI L F 0 0 0 x hx
  exact ⟨by omega, by omega, by omega, b4⟩
theorem allP_len : ∀ (L : Nat) (F : Nat → Int32) (g h c : Nat), (allP G n u hl L F g h c).length ≤ 13 ^ L := by
  intro L
  induction L with
  | zero => intro F g h c; exact Nat.le_refl 1
  | succ L ih =>
    intro F g h c
    rw [allP_s, Nat.pow_succ]
    refine fromP_len (fun d => ?_) 13
    unfold hdP
    split
    · rw [List.length_map]; exact ih _ _ _ _
    · exact Nat.zero_le _
theorem ok12 {F : Nat → Int32} {h : Nat} : okB G n u false F h 12 = true := by
  unfold okB
  rw [can12]
  have : fdD G n F 12 = nI 0 := if_pos rfl
  rw [this]
  by_cases hu : u < 4
  · rw [bt_z u hu]; simp
  · simp [hu]
theorem allP_ne : ∀ (L : Nat) (F : Nat → Int32) (g h c : Nat), ∃ x, x ∈ allP G n u false L F g h c := by
  intro L
  induction L with
  | zero => intro F g h c; exact ⟨_, List.mem_cons_self ..⟩
  | succ L ih =>
    intro F g h c
    obtain ⟨y, hy⟩ := ih (dyF G n F 12) (g + gsD G n F 12) (h + hsD G n F 12) (c + cosN G n F 12)
    refine ⟨consP 12 y, ?_⟩
    rw [allP_s]
    refine fromP_12 ?_
    unfold hdP
    rw [if_pos ok12, List.mem_map]
    exact ⟨y, hy, rfl⟩
/-- no HARM wanted: the plans that send none -/
theorem allP_hl (hn : n ≤ 4) (hGI : GInv n G) : ∀ (L : Nat) (F : Nat → Int32) (g c : Nat), (allP G n u false L F g 0 c).filter hz = allP G n u true L F g 0 c := by
  intro L
  induction L with
  | zero => intro F g c; rfl
  | succ L ih =>
    intro F g c
    rw [allP_s, allP_s]
    have key : ∀ k, (fromP (hdP G n u false L F g 0 c) k).filter hz = fromP (hdP G n u true L F g 0 c) k := by
      intro k
      induction k with
      | zero => rfl
      | succ k ihk =>
        show (hdP G n u false L F g 0 c (12 - k) ++ fromP _ k).filter hz = hdP G n u true L F g 0 c (12 - k) ++ fromP _ k
        rw [List.filter_append, ihk]
        congr 1
        generalize 12 - k = d
        unfold hdP
        have hf : ∀ l : List vP, (l.map (consP d)).filter hz = (l.filter hz).map (consP d) := by
          intro l
          rw [List.filter_map]
          rfl
        by_cases ho : okB G n u false F 0 d = true
        · rw [if_pos ho, hf]
          by_cases h0 : hsD G n F d = 0
          · have ho2 : okB G n u true F 0 d = true := by
              unfold okB at ho ⊢
              simp at ho ⊢
              exact ⟨ho.1, ho.2, h0⟩
            rw [if_pos ho2, h0, ih]
          · have ho2 : ¬ okB G n u true F 0 d = true := by
              unfold okB
              simp
              intro _ _
              exact h0
            rw [if_neg ho2]
            have : (allP G n u false L (dyF G n F d) (g + gsD G n F d) (0 + hsD G n F d) (c + cosN G n F d)).filter hz = [] := by
              rw [List.filter_eq_nil_iff]
              intro x hx
              obtain ⟨_, _, _, _, b5⟩ := allP_bd hn hGI _ _ _ _ _ x hx
              unfold hz
              simp
              omega
            rw [this]
            rfl
        · have ho2 : ¬ okB G n u true F 0 d = true := by
            intro z
            apply ho
            unfold okB at z ⊢
            simp at z ⊢
            exact ⟨z.1, z.2.1⟩
          rw [if_neg ho, if_neg ho2]
          rfl
    exact key 13
end AL
section L7
variable {T0 : vS} {n u L e : Nat}
theorem Pt_w18 {T : vS} {f : Nat → Int32} (h : Pt T0 T L) : Pt T0 (wR T 18 f) L := by
  obtain ⟨a1, a2, a3, a4, a5⟩ := h
  exact ⟨fun p p1 p2 p3 p4 p5 p6 p7 p8 => by rw [qr_o (by decide)]; exact a1 p p1 p2 p3 p4 p5 p6 p7 p8, by rw [qr_o (by decide)]; exact a2, fun c c1 c2 c3 c4 c5 => by rw [qr_o c5]; exact a3 c c1 c2 c3 c4 c5, by rw [fr_eq (T := T) (qr_o (by decide))]; exact a4, a5⟩
theorem keepPlan7 {T : vS} (hL : T.1 0 29 = nI L) (hL4 : L ≤ 4) : mX7_keepPlan T = some (wR T 18 (fun i => if 0 ≤ i ∧ i < 0 + L then T.1 17 (i - 0) else T.1 18 i)) := by
  unfold mX7_keepPlan
  rw [qi_0]
  exact lp_fill0 (fun q U j => lX7_keepPlan_2 q U j) T 18 0 L (fun i => T.1 17 i) some
    (by intro q f hf; show lX7_keepPlan_2 (q + 1) _ (nI L) = _; rw [lX7_keepPlan_2]; simp (disch := omega) only [qlt, qb_some, qb_none, ↓qn_1, ↓qn_2, ↓qn_3, ↓qn_4, ↓qn_9, ↓qn_1000, ↓qn_low, qi_0, qi_1, qi_2, qi_3, qi_4, qi_5, qi_6, qi_7, qi_8, qi_9, qi_10, qi_11, qi_12, qi_13, qi_14, qi_15, qi_16, qi_17, qi_20, qi_24, qi_30, qi_31, qi_32, qi_60, qi_99, qi_100, qi_200, qi_1000, qi_3400, qi_4000, qi_of, pu_gI, pu_pI, nI_leI, nI_ltI, nI_eq, nI_add, pk_mul, pk_sub, pk_div, qw_s, qw_o, qw_l, qr_s, qr_o, qr_l, ql_i, ql_s, ql_o, pk_us, pk_un, pk_uLs, pk_uLn, if_pos, if_neg, if_true, if_false, ite_self, eq_self, Nat.zero_add, Nat.add_zero, qwr, not_true_eq_false, not_false_eq_true, Option.some.injEq, qe_gn0, qe_m1n, qe_gng, qe_ngn, qe_gm, qe_mg, qe_lm1, qe_lgn, qe_lem, qe_leg, qe_tm1, qe_tgn, hL])
    (by intro q f j hj hf; show lX7_keepPlan_2 (q + 1) _ (nI j) = _; rw [lX7_keepPlan_2]; simp (disch := omega) only [qlt, qb_some, qb_none, ↓qn_1, ↓qn_2, ↓qn_3, ↓qn_4, ↓qn_9, ↓qn_1000, ↓qn_low, qi_0, qi_1, qi_2, qi_3, qi_4, qi_5, qi_6, qi_7, qi_8, qi_9, qi_10, qi_11, qi_12, qi_13, qi_14, qi_15, qi_16, qi_17, qi_20, qi_24, qi_30, qi_31, qi_32, qi_60, qi_99, qi_100, qi_200, qi_1000, qi_3400, qi_4000, qi_of, pu_gI, pu_pI, nI_leI, nI_ltI, nI_eq, nI_add, pk_mul, pk_sub, pk_div, qw_s, qw_o, qw_l, qr_s, qr_o, qr_l, ql_i, ql_s, ql_o, pk_us, pk_un, pk_uLs, pk_uLn, if_pos, if_neg, if_true, if_false, ite_self, eq_self, Nat.zero_add, Nat.add_zero, qwr, not_true_eq_false, not_false_eq_true, Option.some.injEq, qe_gn0, qe_m1n, qe_gng, qe_ngn, qe_gm, qe_mg, qe_lm1, qe_lgn, qe_lem, qe_leg, qe_tm1, qe_tgn, hL]) (by unfold FU; omega)
/-- the next step of a loop over plans -/
theorem again7 (hB : Bs T0 n u L e) {p : List Nat} {T : vS} {f : Nat → Int32} (h1 : p.length = L) (h3 : ∀ x, x ∈ p → x ≤ 12) (h4 : ∀ i, i < L → T.1 17 i = nI (p.getD i 0)) (hP : Pt T0 T L) : NxR T0 n u L f (aft (T0.1 7) n u p L (fr T0 0) 0 0 0) (mX7_nextPlan (wR T 18 f)) := by
  have := next7 (T := wR T 18 f) hB h1 h3 (fun i hi => by rw [qr_o (by decide)]; exact h4 i hi) (Pt_w18 hP)
  rw [qr_s] at this
  exact this
theorem mo_l (hB : Bs T0 n u L e) : ∀ q (l : List vP) (T : vS) (b : vP), l.length < q → NxR T0 n u L (T.1 18) l (mX7_nextPlan T) → (∀ x, x ∈ l → Bd L x) → Bd L b → (∀ i, i < L → T.1 18 i = nI (b.1.getD i 0)) →
    ∃ T', lX7_mostOf_8 q T (nI b.2.1 - nI b.2.2.1) = some (nI (bst b l).2.1 - nI (bst b l).2.2.1, T') ∧ Pt T0 T' L ∧ (∀ i, i < L → T'.1 18 i = nI ((bst b l).1.getD i 0)) := by
  intro q
  induction q with
  | zero => intro l T b h; exact absurd h (Nat.not_lt_zero _)
  | succ q ih =>
    intro l T b h1 hN hl hb h18
    obtain ⟨T', hP, h18', hh⟩ := hN
    rw [lX7_mostOf_8]
    rcases hh with ⟨rfl, hr⟩ | ⟨p, o, rfl, hp1, hp2, hr, hp3, o30, o31, o32, o33⟩
    · rw [hr]
      simp (disch := omega) only [qlt, qb_some, qb_none, ↓qn_1, ↓qn_2, ↓qn_3, ↓qn_4, ↓qn_9, ↓qn_1000, ↓qn_low, qi_0, qi_1, qi_2, qi_3, qi_4, qi_5, qi_6, qi_7, qi_8, qi_9, qi_10, qi_11, qi_12, qi_13, qi_14, qi_15, qi_16, qi_17, qi_20, qi_24, qi_30, qi_31, qi_32, qi_60, qi_99, qi_100, qi_200, qi_1000, qi_3400, qi_4000, qi_of, pu_gI, pu_pI, nI_leI, nI_ltI, nI_eq, nI_add, pk_mul, pk_sub, pk_div, qw_s, qw_o, qw_l, qr_s, qr_o, qr_l, ql_i, ql_s, ql_o, pk_us, pk_un, pk_uLs, pk_uLn, if_pos, if_neg, if_true, if_false, ite_self, eq_self, Nat.zero_add, Nat.add_zero, qwr, not_true_eq_false, not_false_eq_true, Option.some.injEq, qe_gn0, qe_m1n, qe_gng, qe_ngn, qe_gm, qe_mg, qe_lm1, qe_lgn, qe_lem, qe_leg, qe_tm1, qe_tgn]
      exact ⟨T', rfl, hP, fun i hi => by rw [h18']; exact h18 i hi⟩
    · obtain ⟨x1, x2, x3, x4⟩ := hl (p, o) (List.mem_cons_self ..)
      obtain ⟨y1, y2, y3, y4⟩ := hb
      have hlen : (aft (T0.1 7) n u p L (fr T0 0) 0 0 0).length < q := by rw [List.length_cons] at h1; omega
      rw [hr]
      have hcmp : (nI o.1 - nI o.2.1 ≤ nI b.2.1 - nI b.2.2.1) = ((o.1 : Int) - o.2.1 ≤ (b.2.1 : Int) - b.2.2.1) := w_le x1 x2 y1 y2
      have hb2 : bst b ((p, o) :: aft (T0.1 7) n u p L (fr T0 0) 0 0 0) = bst (stM b (p, o)) (aft (T0.1 7) n u p L (fr T0 0) 0 0 0) := rfl
      rw [hb2]
      by_cases hw : (o.1 : Int) - o.2.1 ≤ (b.2.1 : Int) - b.2.2.1
      · have hst : stM b (p, o) = b := by
          unfold stM wrt
          exact if_neg (by show ¬ (b.2.1 : Int) - b.2.2.1 < (o.1 : Int) - o.2.1; omega)
        rw [hst]
        have hw2 : nI o.1 - nI o.2.1 ≤ nI b.2.1 - nI b.2.2.1 := by rw [hcmp]; exact hw
        simp (disch := omega) only [qlt, qb_some, qb_none, ↓qn_1, ↓qn_2, ↓qn_3, ↓qn_4, ↓qn_9, ↓qn_1000, ↓qn_low, qi_0, qi_1, qi_2, qi_3, qi_4, qi_5, qi_6, qi_7, qi_8, qi_9, qi_10, qi_11, qi_12, qi_13, qi_14, qi_15, qi_16, qi_17, qi_20, qi_24, qi_30, qi_31, qi_32, qi_60, qi_99, qi_100, qi_200, qi_1000, qi_3400, qi_4000, qi_of, pu_gI, pu_pI, nI_leI, nI_ltI, nI_eq, nI_add, pk_mul, pk_div, qw_s, qw_o, qw_l, qr_s, qr_o, qr_l, ql_i, ql_s, ql_o, pk_us, pk_un, pk_uLs, pk_uLn, if_pos, if_neg, if_true, if_false, ite_self, eq_self, Nat.zero_add, Nat.add_zero, qwr, not_true_eq_false, not_false_eq_true, Option.some.injEq, qe_gn0, qe_m1n, qe_gng, qe_ngn, qe_gm, qe_mg, qe_lm1, qe_lgn, qe_lem, qe_leg, qe_tm1, qe_tgn, o30]
        try rw [if_pos hw2]
        exact ih _ T' b hlen (by
          have := next7 hB hp1 hp2 hp3 hP
          exact this) (fun x hx => hl x (List.mem_cons_of_mem _ hx)) ⟨y1, y2, y3, y4⟩ (fun i hi => by rw [h18']; exact h18 i hi)
      · have hst : stM b (p, o) = (p, o) := by
          unfold stM wrt
          exact if_pos (by show (b.2.1 : Int) - b.2.2.1 < (o.1 : Int) - o.2.1; omega)
        rw [hst]
        have hw2 : ¬ nI o.1 - nI o.2.1 ≤ nI b.2.1 - nI b.2.2.1 := by rw [hcmp]; exact hw
        have hk := keepPlan7 (T := T') hP.2.1 hB.2.2.2.1
        simp only [qi_0, qi_1] at *
        rw [qb_some]
        rw [if_neg (by show ¬ nI 1 = nI 0; exact fun z => absurd ((nI_eq (by decide) (by decide)).mp z) (by decide))]
        rw [o30, if_neg hw2, qlt, hk, qb_some]
        refine ih _ _ (p, o) hlen ?_ (fun x hx => hl x (List.mem_cons_of_mem _ hx)) ⟨x1, x2, x3, x4⟩ (fun i hi => ?_)
        · rw [qr_s]
          exact again7 hB hp1 hp2 hp3 hP
        · rw [qr_s, if_pos (by omega), Nat.sub_zero]
          exact hp3 i hi
theorem most7P (hB : Bs T0 n u L e) (T0p : Pt T0 (wI T0 0 29 (nI L)) L) : ∃ x l T', allP (T0.1 7) n u false L (fr T0 0) 0 0 0 = x :: l ∧ mX7_mostOf T0 (nI L) = some (nI (bst x l).2.1 - nI (bst x l).2.2.1, T') ∧ Pt T0 T' L ∧ (∀ i, i < L → T'.1 18 i = nI ((bst x l).1.getD i 0)) := by
  obtain ⟨T1, e1, e2, hN⟩ := first7 hB T0p
  obtain ⟨T', hP, h18', hh⟩ := hN
  have hbd := allP_Bd (u := u) (hl := false) (F := fr T0 0) hB.1 hB.2.2.2.2.2.1 hB.2.2.2.1
  have hlen := allP_len (G := T0.1 7) (n := n) (u := u) (hl := false) L (fr T0 0) 0 0 0
  have h13 : 13 ^ L ≤ 13 ^ 4 := Nat.pow_le_pow_right (by decide) hB.2.2.2.1
  rcases hh with ⟨h0, _⟩ | ⟨p, o, hl, hp1, hp2, hr, hp3, o30, o31, o32, o33⟩
  · obtain ⟨x, hx⟩ := allP_ne (G := T0.1 7) (n := n) (u := u) L (fr T0 0) 0 0 0
    rw [h0] at hx
    exact absurd hx (List.not_mem_nil)
  · rw [hl] at hbd hlen
    obtain ⟨x1, x2, x3, x4⟩ := hbd (p, o) (List.mem_cons_self ..)
    have hk := keepPlan7 (T := T') hP.2.1 hB.2.2.2.1
    obtain ⟨q, hq⟩ : ∃ q, FU = q + 1 := ⟨999999, rfl⟩
    have hq2 : q = 999999 := by have : FU = 1000000 := rfl; omega
    obtain ⟨T2, f1, f2, f3⟩ := mo_l hB q (aft (T0.1 7) n u p L (fr T0 0) 0 0 0) (wR T' 18 (fun i => if 0 ≤ i ∧ i < 0 + L then T'.1 17 (i - 0) else T'.1 18 i)) (p, o) (by rw [List.length_cons] at hlen; omega) (by rw [qr_s]; exact again7 hB hp1 hp2 hp3 hP) (fun x hx => hbd x (List.mem_cons_of_mem _ hx)) ⟨x1, x2, x3, x4⟩ (fun i hi => by rw [qr_s, if_pos (by omega), Nat.sub_zero]; exact hp3 i hi)
    refine ⟨(p, o), _, T2, hl, ?_, f2, f3⟩
    unfold mX7_mostOf
    simp only [qn_low]
    rw [e1, qb_some, hq, lX7_mostOf_8, hr]
    simp only [qi_0, qi_1]
    rw [qb_some]
    rw [if_neg (by show ¬ nI 1 = nI 0; exact fun z => absurd ((nI_eq (by decide) (by decide)).mp z) (by decide))]
    have x12 : ¬ nI o.1 - nI o.2.1 ≤ qL := w_lo x1 x2
    rw [o30, if_neg x12, qlt, hk, qb_some]
    exact f1
end L7
