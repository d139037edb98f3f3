/-! ===== PURE: the reference's day ===== -/
/-- the reference's world with another object row, other frames, another row of what was sent -/
def mk3 (T : vS) (o a s : Nat → Int32) : vS := (fun c => if c = 0 then o else if c = 10 then a else if c = 11 then s else T.1 c, T.2)
section MK3
variable {T : vS} {o a s : Nat → Int32} {j c : Nat} {x : Int32}
theorem mk3_0 : (mk3 T o a s).1 0 = o := rfl
theorem mk3_10 : (mk3 T o a s).1 10 = a := rfl
theorem mk3_11 : (mk3 T o a s).1 11 = s := rfl
theorem mk3_o (h0 : c ≠ 0) (h1 : c ≠ 10) (h2 : c ≠ 11) : (mk3 T o a s).1 c = T.1 c := by
  show (if c = 0 then o else if c = 10 then a else if c = 11 then s else T.1 c) = T.1 c
  rw [if_neg h0, if_neg h1, if_neg h2]
theorem mk3_2 : (mk3 T o a s).2 = T.2 := rfl
theorem mk3_w0 : wI (mk3 T o a s) 0 j x = mk3 T (upd o j x) a s := by
  refine Prod.ext ?_ rfl
  funext q
  show (if q = 0 then upd o j x else if q = 0 then o else if q = 10 then a else if q = 11 then s else T.1 q) = (if q = 0 then upd o j x else if q = 10 then a else if q = 11 then s else T.1 q)
  split
  · rfl
  · rfl
theorem mk3_w10 : wI (mk3 T o a s) 10 j x = mk3 T o (upd a j x) s := by
  refine Prod.ext ?_ rfl
  funext q
  show (if q = 10 then upd a j x else if q = 0 then o else if q = 10 then a else if q = 11 then s else T.1 q) = (if q = 0 then o else if q = 10 then upd a j x else if q = 11 then s else T.1 q)
  by_cases h : q = 10
  · subst h; rfl
  · rw [if_neg h]; simp only [h, if_false]
theorem mk3_w11 : wI (mk3 T o a s) 11 j x = mk3 T o a (upd s j x) := by
  refine Prod.ext ?_ rfl
  funext q
  show (if q = 11 then upd s j x else if q = 0 then o else if q = 10 then a else if q = 11 then s else T.1 q) = (if q = 0 then o else if q = 10 then a else if q = 11 then upd s j x else T.1 q)
  by_cases h : q = 11
  · subst h; rfl
  · rw [if_neg h]; simp only [h, if_false]
theorem mk3_id (T : vS) : mk3 T (T.1 0) (T.1 10) (T.1 11) = T := by
  refine Prod.ext ?_ rfl
  funext q
  show (if q = 0 then T.1 0 else if q = 10 then T.1 10 else if q = 11 then T.1 11 else T.1 q) = T.1 q
  split
  · rename_i h; rw [h]
  · split
    · rename_i h; rw [h]
    · split
      · rename_i h; rw [h]
      · rfl
theorem mk3_mk3 {o' a' s' : Nat → Int32} : mk3 (mk3 T o a s) o' a' s' = mk3 T o' a' s' := by
  refine Prod.ext ?_ rfl
  funext q
  show (if q = 0 then o' else if q = 10 then a' else if q = 11 then s' else (if q = 0 then o else if q = 10 then a else if q = 11 then s else T.1 q)) = (if q = 0 then o' else if q = 10 then a' else if q = 11 then s' else T.1 q)
  split
  · rfl
  · split
    · rfl
    · split
      · rfl
      · rfl
end MK3
/-- frame f is F -/
def putF (a : Nat → Int32) (f : Nat) (F : Nat → Int32) : Nat → Int32 := fun i => if 15 * f ≤ i ∧ i < 15 * f + 15 then F (i - 15 * f) else a i
def cut (F : Nat → Int32) : Prop := ∀ i, 15 ≤ i → F i = nI 0
theorem cut_fr (a : Nat → Int32) (f : Nat) : cut (frA a f) := fun i h => if_neg (by omega)
theorem cut_upd {F : Nat → Int32} (h : cut F) {i : Nat} {x : Int32} (hi : i < 15) : cut (upd F i x) := fun j hj => by rw [pk_un (by omega)]; exact h j hj
theorem frA_put {a F : Nat → Int32} {f : Nat} (h : cut F) : frA (putF a f F) f = F := by
  funext i
  unfold frA putF
  by_cases hi : i < 15
  · rw [if_pos hi, if_pos (by omega)]
    congr 1
    omega
  · rw [if_neg hi, h i (by omega)]
theorem frA_puto {a F : Nat → Int32} {f p : Nat} (h : p ≠ f) : frA (putF a f F) p = frA a p := by
  funext i
  unfold frA putF
  by_cases hi : i < 15
  · rw [if_pos hi, if_pos hi, if_neg (by omega)]
  · rw [if_neg hi, if_neg hi]
theorem put_put {a F F' : Nat → Int32} {f : Nat} : putF (putF a f F) f F' = putF a f F' := by
  funext i
  unfold putF
  split
  · rfl
  · rfl
theorem put_fr (a : Nat → Int32) (f : Nat) : putF a f (frA a f) = a := by
  funext i
  unfold putF frA
  by_cases h : 15 * f ≤ i ∧ i < 15 * f + 15
  · rw [if_pos h, if_pos (by omega)]
    congr 1
    omega
  · rw [if_neg h]
theorem upd_put {a F : Nat → Int32} {f i : Nat} {x : Int32} (hi : i < 15) : upd (putF a f F) (15 * f + i) x = putF a f (upd F i x) := by
  funext j
  unfold upd putF
  dsimp only
  by_cases h : j = 15 * f + i
  · subst h
    rw [if_pos rfl, if_pos (by omega), if_pos (by omega)]
  · rw [if_neg h]
    by_cases h2 : 15 * f ≤ j ∧ j < 15 * f + 15
    · rw [if_pos h2, if_pos h2, if_neg (by omega)]
    · rw [if_neg h2, if_neg h2]
theorem put_eq {a F F' : Nat → Int32} {f : Nat} (h : ∀ i, i < 15 → F i = F' i) : putF a f F = putF a f F' := by
  funext i
  unfold putF
  by_cases h2 : 15 * f ≤ i ∧ i < 15 * f + 15
  · rw [if_pos h2, if_pos h2, h _ (by omega)]
  · rw [if_neg h2, if_neg h2]
section D7
variable {T : vS} {o a s F : Nat → Int32} {n f g d : Nat}
theorem k7_fr (hc : cut F) : fr (mk3 T o (putF a f F) s) f = F := frA_put hc
theorem frA_puti {i : Nat} (hi : i < 15) : frA (putF a f F) f i = F i := by
  unfold frA putF
  rw [if_pos hi, if_pos (by omega)]
  congr 1
  omega
theorem k7_v {i : Nat} (hf : f < 6) (hi : i < 15) : mX7_v (mk3 T o (putF a f F) s) (nI f) (nI i) = some (F i) := by
  rw [m7_v hf hi]
  exact congrArg some (frA_puti hi)
theorem k7_place {i : Nat} {x : Int32} (hf : f < 6) (hi : i < 15) : mX7_place (mk3 T o (putF a f F) s) (nI f) (nI i) x = some (mk3 T o (putF a f (upd F i x)) s) := by
  rw [m7_place hf hi, mk3_w10, upd_put hi]
theorem k7_up (hc : cut F) (hf : f < 6) (hg : g < 4) (hd : F 14 = nI d) (h : d ≤ 1000) : mX7_isUp (mk3 T o (putF a f F) s) (nI f) (nI g) = some (if upB (T.1 7) F g = true then nI 1 else nI 0) := by
  have e := m7_up (T := mk3 T o (putF a f F) s) (d := d) hf hg (by rw [k7_fr hc]; exact hd) h
  rw [k7_fr hc, mk3_o (by decide) (by decide) (by decide)] at e
  exact e
theorem k7_kind (hg : g < 4) : mX7_kind (mk3 T o a s) (nI g) = some (gK (T.1 7) g) := by
  rw [m7_kind hg, mk3_o (by decide) (by decide) (by decide)]
theorem k7_abi (hg : g < 4) : mX7_abides (mk3 T o a s) (nI g) = some (gA (T.1 7) g) := by
  rw [m7_abi hg, mk3_o (by decide) (by decide) (by decide)]
theorem k7_pat (hg : g < 4) : mX7_patienceOf (mk3 T o a s) (nI g) = some (gP (T.1 7) g) := by
  rw [m7_pat hg, mk3_o (by decide) (by decide) (by decide)]
theorem k7_jel (hg : g < 4) : mX7_isJealous (mk3 T o a s) (nI g) = some (if jel (T.1 7) g = true then nI 1 else nI 0) := by
  rw [m7_jel hg, mk3_o (by decide) (by decide) (by decide)]
theorem lesser9 {x : Nat} (h : x < 2 ^ 31) : mX7_lesser (nI 9) (nI x) = nI (min 9 x) := by
  unfold mX7_lesser
  by_cases h1 : x ≤ 9
  · simp (disch := omega) only [qlt, qb_some, qb_none, ↓qn_1, ↓qn_2, ↓qn_3, ↓qn_4, ↓qn_9, ↓qn_1000, ↓qn_low, qi_0, qi_1, qi_2, qi_3, qi_4, qi_5, qi_6, qi_7, qi_8, qi_9, qi_10, qi_11, qi_12, qi_13, qi_14, qi_15, qi_16, qi_17, qi_20, qi_24, qi_30, qi_31, qi_32, qi_60, qi_99, qi_100, qi_200, qi_1000, qi_3400, qi_4000, qi_of, pu_gI, pu_pI, nI_leI, nI_ltI, nI_eq, nI_add, pk_mul, pk_sub, pk_div, qw_s, qw_o, qw_l, qr_s, qr_o, qr_l, ql_i, ql_s, ql_o, pk_us, pk_un, pk_uLs, pk_uLn, if_pos, if_neg, if_true, if_false, ite_self, eq_self, Nat.zero_add, Nat.add_zero, qwr, not_true_eq_false, not_false_eq_true, Option.some.injEq, qe_gn0, qe_m1n, qe_gng, qe_ngn, qe_gm, qe_mg, qe_lm1, qe_lgn, qe_lem, qe_leg, qe_tm1, qe_tgn]
    rw [Nat.min_eq_right h1]
  · simp (disch := omega) only [qlt, qb_some, qb_none, ↓qn_1, ↓qn_2, ↓qn_3, ↓qn_4, ↓qn_9, ↓qn_1000, ↓qn_low, qi_0, qi_1, qi_2, qi_3, qi_4, qi_5, qi_6, qi_7, qi_8, qi_9, qi_10, qi_11, qi_12, qi_13, qi_14, qi_15, qi_16, qi_17, qi_20, qi_24, qi_30, qi_31, qi_32, qi_60, qi_99, qi_100, qi_200, qi_1000, qi_3400, qi_4000, qi_of, pu_gI, pu_pI, nI_leI, nI_ltI, nI_eq, nI_add, pk_mul, pk_sub, pk_div, qw_s, qw_o, qw_l, qr_s, qr_o, qr_l, ql_i, ql_s, ql_o, pk_us, pk_un, pk_uLs, pk_uLn, if_pos, if_neg, if_true, if_false, ite_self, eq_self, Nat.zero_add, Nat.add_zero, qwr, not_true_eq_false, not_false_eq_true, Option.some.injEq, qe_gn0, qe_m1n, qe_gng, qe_ngn, qe_gm, qe_mg, qe_lm1, qe_lgn, qe_lem, qe_leg, qe_tm1, qe_tgn]
    rw [Nat.min_eq_left (by omega)]
theorem greater2 : ∀ h, h < 10 → mX7_greater (nI 0) (nI h - nI 2) = nI (h - 2) := by decide +kernel
/-- the frame behind (b), from god j on -/
def hgF (G : Nat → Int32) (n : Nat) (fed : Int32) (d j : Nat) (F : Nat → Int32) : Nat → Int32 := fun i =>
  if 3 + j ≤ i ∧ i < 3 + n ∧ upB G F (i - 3) = true then nI (hunN G fed d (i - 3) (F i)) else if 8 + j ≤ i ∧ i < 8 + n ∧ hatS G fed (i - 8) = true then F 14 else F i
def hgS (G : Nat → Int32) (fed : Int32) (d j : Nat) (F : Nat → Int32) : Nat → Int32 :=
  if hatS G fed j = true then upd (if upB G F j = true then upd F (3 + j) (nI (hunN G fed d j (F (3 + j)))) else F) (8 + j) (F 14) else (if upB G F j = true then upd F (3 + j) (nI (hunN G fed d j (F (3 + j)))) else F)
theorem hgS_o {G : Nat → Int32} {fed : Int32} {d j i : Nat} {F : Nat → Int32} (h1 : i ≠ 3 + j) (h2 : i ≠ 8 + j) : hgS G fed d j F i = F i := by
  unfold hgS
  split <;> split <;> simp only [pk_un h1, pk_un h2]
theorem hgS_3 {G : Nat → Int32} {fed : Int32} {d j : Nat} {F : Nat → Int32} : hgS G fed d j F (3 + j) = if upB G F j = true then nI (hunN G fed d j (F (3 + j))) else F (3 + j) := by
  unfold hgS
  have e : 3 + j ≠ 8 + j := by omega
  split <;> split <;> simp only [pk_un e, pk_us]
theorem hgS_8 {G : Nat → Int32} {fed : Int32} {d j : Nat} {F : Nat → Int32} : hgS G fed d j F (8 + j) = if hatS G fed j = true then F 14 else F (8 + j) := by
  unfold hgS
  have e : 8 + j ≠ 3 + j := by omega
  split <;> split <;> simp only [pk_un e, pk_us]
theorem upB_eq {G F F' : Nat → Int32} {g : Nat} (h1 : F' (3 + g) = F (3 + g)) (h2 : F' 14 = F 14) : upB G F' g = upB G F g := by
  unfold upB oddD
  rw [h1, h2]
theorem hgF_s {G : Nat → Int32} {fed : Int32} {d j : Nat} {F : Nat → Int32} (hn : n ≤ 4) (hj : j < n) : hgF G n fed d (j + 1) (hgS G fed d j F) = hgF G n fed d j F := by
  have e14 : hgS G fed d j F 14 = F 14 := hgS_o (by omega) (by omega)
  funext i
  unfold hgF
  rw [e14]
  by_cases h3 : i = 3 + j
  · subst h3
    rw [if_neg (by omega), if_neg (by omega), hgS_3]
    have e : 3 + j - 3 = j := by omega
    by_cases hu : upB G F j = true
    · rw [if_pos hu, if_pos ⟨by omega, by omega, by rw [e]; exact hu⟩, e]
    · rw [if_neg hu, if_neg (fun z => hu (by have := z.2.2; rw [e] at this; exact this)), if_neg (by omega)]
  · by_cases h8 : i = 8 + j
    · subst h8
      have e : 8 + j - 8 = j := by omega
      rw [if_neg (by omega), if_neg (by omega), hgS_8]
      by_cases hh : hatS G fed j = true
      · rw [if_pos hh, if_neg (by omega), if_pos ⟨by omega, by omega, by rw [e]; exact hh⟩]
      · rw [if_neg hh, if_neg (by omega), if_neg (fun z => hh (by have := z.2.2; rw [e] at this; exact this))]
    · rw [hgS_o h3 h8]
      have c1 : (3 + (j + 1) ≤ i ∧ i < 3 + n ∧ upB G (hgS G fed d j F) (i - 3) = true) = (3 + j ≤ i ∧ i < 3 + n ∧ upB G F (i - 3) = true) := by
        apply propext
        constructor
        · rintro ⟨z1, z2, z3⟩
          rw [upB_eq (F := F) (hgS_o (by omega) (by omega)) e14] at z3
          exact ⟨by omega, z2, z3⟩
        · rintro ⟨z1, z2, z3⟩
          refine ⟨by omega, z2, ?_⟩
          rw [upB_eq (F := F) (hgS_o (by omega) (by omega)) e14]
          exact z3
      have c2 : (8 + (j + 1) ≤ i ∧ i < 8 + n ∧ hatS G fed (i - 8) = true) = (8 + j ≤ i ∧ i < 8 + n ∧ hatS G fed (i - 8) = true) := by
        apply propext
        constructor
        · rintro ⟨z1, z2, z3⟩
          exact ⟨by omega, z2, z3⟩
        · rintro ⟨z1, z2, z3⟩
          exact ⟨by omega, z2, z3⟩
      simp only [c1, c2]
theorem hgF_n {G : Nat → Int32} {fed : Int32} {d : Nat} {F : Nat → Int32} : hgF G n fed d n F = F := by
  funext i
  unfold hgF
  rw [if_neg (by omega), if_neg (by omega)]
/-- hungers of gods that are there: a number up to 9, or gone; the day; who was ever fed -/
def hInv (n : Nat) (F : Nat → Int32) : Prop := ∀ g, g < n → F (3 + g) = gN ∨ ∃ h, h ≤ 9 ∧ F (3 + g) = nI h
theorem hungers7_s {fed : Int32} {j e : Nat} (K : vS → Int32 → Option vS) (hc : cut F) (hf : f < 6) (hj : j < 4) (hd : F 14 = nI e) (he : e ≤ 1000) (hh : F (3 + j) = gN ∨ ∃ h, h ≤ 9 ∧ F (3 + j) = nI h) :
    bX7_hungers_51 K (mk3 T o (putF a f F) s) (nI f) fed (nI (d % 3)) (nI j) (if hatS (T.1 7) fed j = true then nI 1 else nI 0) = K (mk3 T o (putF a f (hgS (T.1 7) fed d j F)) s) (nI (j + 1)) := by
  have fin : ∀ F', cut F' → F' 14 = F 14 → bX7_hungers_162 K (mk3 T o (putF a f F') s) (nI f) fed (nI (d % 3)) (nI j) (if hatS (T.1 7) fed j = true then nI 1 else nI 0) = K (mk3 T o (putF a f (if hatS (T.1 7) fed j = true then upd F' (8 + j) (F 14) else F')) s) (nI (j + 1)) := by
    intro F' h1 h2
    unfold bX7_hungers_162
    cases hatS (T.1 7) fed j
    · simp (disch := omega) only [qlt, qb_some, qb_none, ↓qn_1, ↓qn_2, ↓qn_3, ↓qn_4, ↓qn_9, ↓qn_1000, ↓qn_low, qi_0, qi_1, qi_2, qi_3, qi_4, qi_5, qi_6, qi_7, qi_8, qi_9, qi_10, qi_11, qi_12, qi_13, qi_14, qi_15, qi_16, qi_17, qi_20, qi_24, qi_30, qi_31, qi_32, qi_60, qi_99, qi_100, qi_200, qi_1000, qi_3400, qi_4000, qi_of, pu_gI, pu_pI, nI_leI, nI_ltI, nI_eq, nI_add, pk_mul, pk_sub, pk_div, qw_s, qw_o, qw_l, qr_s, qr_o, qr_l, ql_i, ql_s, ql_o, pk_us, pk_un, pk_uLs, pk_uLn, if_pos, if_neg, if_true, if_false, ite_self, eq_self, Nat.zero_add, Nat.add_zero, qwr, not_true_eq_false, not_false_eq_true, Option.some.injEq, qe_gn0, qe_m1n, qe_gng, qe_ngn, qe_gm, qe_mg, qe_lm1, qe_lgn, qe_lem, qe_leg, qe_tm1, qe_tgn, Bool.false_eq_true]
    · simp (disch := omega) only [qlt, qb_some, qb_none, ↓qn_1, ↓qn_2, ↓qn_3, ↓qn_4, ↓qn_9, ↓qn_1000, ↓qn_low, qi_0, qi_1, qi_2, qi_3, qi_4, qi_5, qi_6, qi_7, qi_8, qi_9, qi_10, qi_11, qi_12, qi_13, qi_14, qi_15, qi_16, qi_17, qi_20, qi_24, qi_30, qi_31, qi_32, qi_60, qi_99, qi_100, qi_200, qi_1000, qi_3400, qi_4000, qi_of, pu_gI, pu_pI, nI_leI, nI_ltI, nI_eq, nI_add, pk_mul, pk_sub, pk_div, qw_s, qw_o, qw_l, qr_s, qr_o, qr_l, ql_i, ql_s, ql_o, pk_us, pk_un, pk_uLs, pk_uLn, if_pos, if_neg, if_true, if_false, ite_self, eq_self, Nat.zero_add, Nat.add_zero, qwr, not_true_eq_false, not_false_eq_true, Option.some.injEq, qe_gn0, qe_m1n, qe_gng, qe_ngn, qe_gm, qe_mg, qe_lm1, qe_lgn, qe_lem, qe_leg, qe_tm1, qe_tgn, k7_v hf, k7_place hf, h2]
  have put : ∀ x y, x < 2 ^ 31 → y = nI x → min 9 x = hunN (T.1 7) fed d j (F (3 + j)) → bX7_hungers_146 K (mk3 T o (putF a f F) s) (nI f) fed (nI (d % 3)) (nI j) (if hatS (T.1 7) fed j = true then nI 1 else nI 0) y = K (mk3 T o (putF a f (if hatS (T.1 7) fed j = true then upd (upd F (3 + j) (nI (hunN (T.1 7) fed d j (F (3 + j))))) (8 + j) (F 14) else upd F (3 + j) (nI (hunN (T.1 7) fed d j (F (3 + j)))))) s) (nI (j + 1)) := by
    intro x y h1 h2 h3
    subst h2
    unfold bX7_hungers_146
    simp (disch := omega) only [qlt, qb_some, qb_none, ↓qn_1, ↓qn_2, ↓qn_3, ↓qn_4, ↓qn_9, ↓qn_1000, ↓qn_low, qi_0, qi_1, qi_2, qi_3, qi_4, qi_5, qi_6, qi_7, qi_8, qi_9, qi_10, qi_11, qi_12, qi_13, qi_14, qi_15, qi_16, qi_17, qi_20, qi_24, qi_30, qi_31, qi_32, qi_60, qi_99, qi_100, qi_200, qi_1000, qi_3400, qi_4000, qi_of, pu_gI, pu_pI, nI_leI, nI_ltI, nI_eq, nI_add, pk_mul, pk_sub, pk_div, qw_s, qw_o, qw_l, qr_s, qr_o, qr_l, ql_i, ql_s, ql_o, pk_us, pk_un, pk_uLs, pk_uLn, if_pos, if_neg, if_true, if_false, ite_self, eq_self, Nat.zero_add, Nat.add_zero, qwr, not_true_eq_false, not_false_eq_true, Option.some.injEq, qe_gn0, qe_m1n, qe_gng, qe_ngn, qe_gm, qe_mg, qe_lm1, qe_lgn, qe_lem, qe_leg, qe_tm1, qe_tgn, lesser9 h1, h3, k7_place hf]
    exact fin _ (cut_upd hc (by omega)) (pk_un (by omega))
  unfold bX7_hungers_51
  simp (disch := omega) only [qlt, qb_some, qb_none, ↓qn_1, ↓qn_2, ↓qn_3, ↓qn_4, ↓qn_9, ↓qn_1000, ↓qn_low, qi_0, qi_1, qi_2, qi_3, qi_4, qi_5, qi_6, qi_7, qi_8, qi_9, qi_10, qi_11, qi_12, qi_13, qi_14, qi_15, qi_16, qi_17, qi_20, qi_24, qi_30, qi_31, qi_32, qi_60, qi_99, qi_100, qi_200, qi_1000, qi_3400, qi_4000, qi_of, pu_gI, pu_pI, nI_leI, nI_ltI, nI_eq, nI_add, pk_mul, pk_sub, pk_div, qw_s, qw_o, qw_l, qr_s, qr_o, qr_l, ql_i, ql_s, ql_o, pk_us, pk_un, pk_uLs, pk_uLn, if_pos, if_neg, if_true, if_false, ite_self, eq_self, Nat.zero_add, Nat.add_zero, qwr, not_true_eq_false, not_false_eq_true, Option.some.injEq, qe_gn0, qe_m1n, qe_gng, qe_ngn, qe_gm, qe_mg, qe_lm1, qe_lgn, qe_lem, qe_leg, qe_tm1, qe_tgn, k7_up hc hf hj hd he]
  unfold hgS
  cases hu : upB (T.1 7) F j
  · simp (disch := omega) only [qlt, qb_some, qb_none, ↓qn_1, ↓qn_2, ↓qn_3, ↓qn_4, ↓qn_9, ↓qn_1000, ↓qn_low, qi_0, qi_1, qi_2, qi_3, qi_4, qi_5, qi_6, qi_7, qi_8, qi_9, qi_10, qi_11, qi_12, qi_13, qi_14, qi_15, qi_16, qi_17, qi_20, qi_24, qi_30, qi_31, qi_32, qi_60, qi_99, qi_100, qi_200, qi_1000, qi_3400, qi_4000, qi_of, pu_gI, pu_pI, nI_leI, nI_ltI, nI_eq, nI_add, pk_mul, pk_sub, pk_div, qw_s, qw_o, qw_l, qr_s, qr_o, qr_l, ql_i, ql_s, ql_o, pk_us, pk_un, pk_uLs, pk_uLn, if_pos, if_neg, if_true, if_false, ite_self, eq_self, Nat.zero_add, Nat.add_zero, qwr, not_true_eq_false, not_false_eq_true, Option.some.injEq, qe_gn0, qe_m1n, qe_gng, qe_ngn, qe_gm, qe_mg, qe_lm1, qe_lgn, qe_lem, qe_leg, qe_tm1, qe_tgn, Bool.false_eq_true]
    exact fin F hc rfl
  · have hne : F (3 + j) ≠ gN := by
      intro e9
      unfold upB at hu
      simp [e9] at hu
    obtain ⟨h, h9, hx⟩ := hh.resolve_left hne
    simp (disch := omega) only [qlt, qb_some, qb_none, ↓qn_1, ↓qn_2, ↓qn_3, ↓qn_4, ↓qn_9, ↓qn_1000, ↓qn_low, qi_0, qi_1, qi_2, qi_3, qi_4, qi_5, qi_6, qi_7, qi_8, qi_9, qi_10, qi_11, qi_12, qi_13, qi_14, qi_15, qi_16, qi_17, qi_20, qi_24, qi_30, qi_31, qi_32, qi_60, qi_99, qi_100, qi_200, qi_1000, qi_3400, qi_4000, qi_of, pu_gI, pu_pI, nI_leI, nI_ltI, nI_eq, nI_add, pk_mul, pk_sub, pk_div, qw_s, qw_o, qw_l, qr_s, qr_o, qr_l, ql_i, ql_s, ql_o, pk_us, pk_un, pk_uLs, pk_uLn, if_pos, if_neg, if_true, if_false, ite_self, eq_self, Nat.zero_add, Nat.add_zero, qwr, not_true_eq_false, not_false_eq_true, Option.some.injEq, qe_gn0, qe_m1n, qe_gng, qe_ngn, qe_gm, qe_mg, qe_lm1, qe_lgn, qe_lem, qe_leg, qe_tm1, qe_tgn, k7_v hf, has7_y, mk3_o, hx]
    rw [hx] at put
    have hcl : (nI h).toNatClampNeg = h := nI_clamp (by omega)
    cases hb : bt fed j
    · simp (disch := omega) only [qlt, qb_some, qb_none, ↓qn_1, ↓qn_2, ↓qn_3, ↓qn_4, ↓qn_9, ↓qn_1000, ↓qn_low, qi_0, qi_1, qi_2, qi_3, qi_4, qi_5, qi_6, qi_7, qi_8, qi_9, qi_10, qi_11, qi_12, qi_13, qi_14, qi_15, qi_16, qi_17, qi_20, qi_24, qi_30, qi_31, qi_32, qi_60, qi_99, qi_100, qi_200, qi_1000, qi_3400, qi_4000, qi_of, pu_gI, pu_pI, nI_leI, nI_ltI, nI_eq, nI_add, pk_mul, pk_sub, pk_div, qw_s, qw_o, qw_l, qr_s, qr_o, qr_l, ql_i, ql_s, ql_o, pk_us, pk_un, pk_uLs, pk_uLn, if_pos, if_neg, if_true, if_false, ite_self, eq_self, Nat.zero_add, Nat.add_zero, qwr, not_true_eq_false, not_false_eq_true, Option.some.injEq, qe_gn0, qe_m1n, qe_gng, qe_ngn, qe_gm, qe_mg, qe_lm1, qe_lgn, qe_lem, qe_leg, qe_tm1, qe_tgn, Bool.false_eq_true]
      cases hh2 : hatS (T.1 7) fed j
      · rw [hh2] at put
        unfold bX7_hungers_142
        simp (disch := omega) only [qlt, qb_some, qb_none, ↓qn_1, ↓qn_2, ↓qn_3, ↓qn_4, ↓qn_9, ↓qn_1000, ↓qn_low, qi_0, qi_1, qi_2, qi_3, qi_4, qi_5, qi_6, qi_7, qi_8, qi_9, qi_10, qi_11, qi_12, qi_13, qi_14, qi_15, qi_16, qi_17, qi_20, qi_24, qi_30, qi_31, qi_32, qi_60, qi_99, qi_100, qi_200, qi_1000, qi_3400, qi_4000, qi_of, pu_gI, pu_pI, nI_leI, nI_ltI, nI_eq, nI_add, pk_mul, pk_sub, pk_div, qw_s, qw_o, qw_l, qr_s, qr_o, qr_l, ql_i, ql_s, ql_o, pk_us, pk_un, pk_uLs, pk_uLn, if_pos, if_neg, if_true, if_false, ite_self, eq_self, Nat.zero_add, Nat.add_zero, qwr, not_true_eq_false, not_false_eq_true, Option.some.injEq, qe_gn0, qe_m1n, qe_gng, qe_ngn, qe_gm, qe_mg, qe_lm1, qe_lgn, qe_lem, qe_leg, qe_tm1, qe_tgn, Bool.false_eq_true]
        have := put (h + (1 + 0)) _ (by omega) rfl (by unfold hunN; rw [hb, hh2, hcl]; simp)
        simp only [Bool.false_eq_true, if_false] at this
        exact this
      · rw [hh2] at put
        unfold bX7_hungers_142
        simp (disch := omega) only [qlt, qb_some, qb_none, ↓qn_1, ↓qn_2, ↓qn_3, ↓qn_4, ↓qn_9, ↓qn_1000, ↓qn_low, qi_0, qi_1, qi_2, qi_3, qi_4, qi_5, qi_6, qi_7, qi_8, qi_9, qi_10, qi_11, qi_12, qi_13, qi_14, qi_15, qi_16, qi_17, qi_20, qi_24, qi_30, qi_31, qi_32, qi_60, qi_99, qi_100, qi_200, qi_1000, qi_3400, qi_4000, qi_of, pu_gI, pu_pI, nI_leI, nI_ltI, nI_eq, nI_add, pk_mul, pk_sub, pk_div, qw_s, qw_o, qw_l, qr_s, qr_o, qr_l, ql_i, ql_s, ql_o, pk_us, pk_un, pk_uLs, pk_uLn, if_pos, if_neg, if_true, if_false, ite_self, eq_self, Nat.zero_add, Nat.add_zero, qwr, not_true_eq_false, not_false_eq_true, Option.some.injEq, qe_gn0, qe_m1n, qe_gng, qe_ngn, qe_gm, qe_mg, qe_lm1, qe_lgn, qe_lem, qe_leg, qe_tm1, qe_tgn, k7_jel hj]
        cases hj2 : jel (T.1 7) j
        · simp (disch := omega) only [qlt, qb_some, qb_none, ↓qn_1, ↓qn_2, ↓qn_3, ↓qn_4, ↓qn_9, ↓qn_1000, ↓qn_low, qi_0, qi_1, qi_2, qi_3, qi_4, qi_5, qi_6, qi_7, qi_8, qi_9, qi_10, qi_11, qi_12, qi_13, qi_14, qi_15, qi_16, qi_17, qi_20, qi_24, qi_30, qi_31, qi_32, qi_60, qi_99, qi_100, qi_200, qi_1000, qi_3400, qi_4000, qi_of, pu_gI, pu_pI, nI_leI, nI_ltI, nI_eq, nI_add, pk_mul, pk_sub, pk_div, qw_s, qw_o, qw_l, qr_s, qr_o, qr_l, ql_i, ql_s, ql_o, pk_us, pk_un, pk_uLs, pk_uLn, if_pos, if_neg, if_true, if_false, ite_self, eq_self, Nat.zero_add, Nat.add_zero, qwr, not_true_eq_false, not_false_eq_true, Option.some.injEq, qe_gn0, qe_m1n, qe_gng, qe_ngn, qe_gm, qe_mg, qe_lm1, qe_lgn, qe_lem, qe_leg, qe_tm1, qe_tgn, Bool.false_eq_true]
          have := put (h + (1 + 1)) _ (by omega) rfl (by unfold hunN; rw [hb, hh2, hj2, hcl]; simp)
          simp only [if_true] at this
          exact this
        · simp (disch := omega) only [qlt, qb_some, qb_none, ↓qn_1, ↓qn_2, ↓qn_3, ↓qn_4, ↓qn_9, ↓qn_1000, ↓qn_low, qi_0, qi_1, qi_2, qi_3, qi_4, qi_5, qi_6, qi_7, qi_8, qi_9, qi_10, qi_11, qi_12, qi_13, qi_14, qi_15, qi_16, qi_17, qi_20, qi_24, qi_30, qi_31, qi_32, qi_60, qi_99, qi_100, qi_200, qi_1000, qi_3400, qi_4000, qi_of, pu_gI, pu_pI, nI_leI, nI_ltI, nI_eq, nI_add, pk_mul, pk_sub, pk_div, qw_s, qw_o, qw_l, qr_s, qr_o, qr_l, ql_i, ql_s, ql_o, pk_us, pk_un, pk_uLs, pk_uLn, if_pos, if_neg, if_true, if_false, ite_self, eq_self, Nat.zero_add, Nat.add_zero, qwr, not_true_eq_false, not_false_eq_true, Option.some.injEq, qe_gn0, qe_m1n, qe_gng, qe_ngn, qe_gm, qe_mg, qe_lm1, qe_lgn, qe_lem, qe_leg, qe_tm1, qe_tgn]
          have := put (h + (1 + 2)) _ (by omega) rfl (by unfold hunN; rw [hb, hh2, hj2, hcl]; simp)
          simp only [if_true] at this
          exact this
    · unfold bX7_hungers_111
      simp (disch := omega) only [qlt, qb_some, qb_none, ↓qn_1, ↓qn_2, ↓qn_3, ↓qn_4, ↓qn_9, ↓qn_1000, ↓qn_low, qi_0, qi_1, qi_2, qi_3, qi_4, qi_5, qi_6, qi_7, qi_8, qi_9, qi_10, qi_11, qi_12, qi_13, qi_14, qi_15, qi_16, qi_17, qi_20, qi_24, qi_30, qi_31, qi_32, qi_60, qi_99, qi_100, qi_200, qi_1000, qi_3400, qi_4000, qi_of, pu_gI, pu_pI, nI_leI, nI_ltI, nI_eq, nI_add, pk_mul, pk_sub, pk_div, qw_s, qw_o, qw_l, qr_s, qr_o, qr_l, ql_i, ql_s, ql_o, pk_us, pk_un, pk_uLs, pk_uLn, if_pos, if_neg, if_true, if_false, ite_self, eq_self, Nat.zero_add, Nat.add_zero, qwr, not_true_eq_false, not_false_eq_true, Option.some.injEq, qe_gn0, qe_m1n, qe_gng, qe_ngn, qe_gm, qe_mg, qe_lm1, qe_lgn, qe_lem, qe_leg, qe_tm1, qe_tgn]
      by_cases hfo : gF (T.1 7) j = nI (d % 3)
      · have e0 : T.1 7 (6 * j + 1) = nI (d % 3) := hfo
        rw [if_pos e0]
        exact put 0 _ (by omega) rfl (by unfold hunN; rw [hb, if_pos rfl, if_pos hfo])
      · have e0 : ¬ T.1 7 (6 * j + 1) = nI (d % 3) := hfo
        rw [if_neg e0, greater2 h (by omega)]
        exact put (h - 2) _ (by omega) rfl (by unfold hunN; rw [hb, if_pos rfl, if_neg hfo, hcl])
theorem hungers7_l {fed : Int32} {e : Nat} (hn : n ≤ 4) (h10 : o 10 = nI n) (hA : ∀ g, g < n → gA (T.1 7) g = gN ∨ ∃ b, b < g ∧ gA (T.1 7) g = nI b) (hf : f < 6) (he : e ≤ 1000) :
    ∀ q j F, j ≤ n → n - j < q → cut F → F 14 = nI e → hInv n F → lX7_hungers_3 (nI f) fed (nI (d % 3)) q (mk3 T o (putF a f F) s) (nI j) = some (mk3 T o (putF a f (hgF (T.1 7) n fed d j F)) s) := by
  intro q
  induction q with
  | zero => intro j F h1 h2; omega
  | succ q ih =>
    intro j F h1 h2 hc hd hh
    rw [lX7_hungers_3]
    by_cases hj : j = n
    · subst hj
      simp (disch := omega) only [qlt, qb_some, qb_none, ↓qn_1, ↓qn_2, ↓qn_3, ↓qn_4, ↓qn_9, ↓qn_1000, ↓qn_low, qi_0, qi_1, qi_2, qi_3, qi_4, qi_5, qi_6, qi_7, qi_8, qi_9, qi_10, qi_11, qi_12, qi_13, qi_14, qi_15, qi_16, qi_17, qi_20, qi_24, qi_30, qi_31, qi_32, qi_60, qi_99, qi_100, qi_200, qi_1000, qi_3400, qi_4000, qi_of, pu_gI, pu_pI, nI_leI, nI_ltI, nI_eq, nI_add, pk_mul, pk_sub, pk_div, qw_s, qw_o, qw_l, qr_s, qr_o, qr_l, ql_i, ql_s, ql_o, pk_us, pk_un, pk_uLs, pk_uLn, if_pos, if_neg, if_true, if_false, ite_self, eq_self, Nat.zero_add, Nat.add_zero, qwr, not_true_eq_false, not_false_eq_true, Option.some.injEq, qe_gn0, qe_m1n, qe_gng, qe_ngn, qe_gm, qe_mg, qe_lm1, qe_lgn, qe_lem, qe_leg, qe_tm1, qe_tgn, mk3_0, h10]
      rw [hgF_n]
    · have hj4 : j < 4 := by omega
      have st := hungers7_s (T := T) (o := o) (a := a) (s := s) (fed := fed) (d := d) (lX7_hungers_3 (nI f) fed (nI (d % 3)) q) hc hf hj4 hd he (hh j (by omega))
      have c1 : cut (hgS (T.1 7) fed d j F) := fun i hi => by rw [hgS_o (by omega) (by omega)]; exact hc i hi
      have c2 : hInv n (hgS (T.1 7) fed d j F) := by
        intro g hg
        by_cases e1 : g = j
        · subst e1
          rw [hgS_3]
          split
          · exact Or.inr ⟨_, Nat.min_le_left _ _, rfl⟩
          · exact hh g hg
        · rw [hgS_o (by omega) (by omega)]
          exact hh g hg
      have go := ih (j + 1) _ (by omega) (by omega) c1 (by rw [hgS_o (by omega) (by omega)]; exact hd) c2
      rw [hgF_s hn (by omega)] at go
      rw [go] at st
      simp (disch := omega) only [qlt, qb_some, qb_none, ↓qn_1, ↓qn_2, ↓qn_3, ↓qn_4, ↓qn_9, ↓qn_1000, ↓qn_low, qi_0, qi_1, qi_2, qi_3, qi_4, qi_5, qi_6, qi_7, qi_8, qi_9, qi_10, qi_11, qi_12, qi_13, qi_14, qi_15, qi_16, qi_17, qi_20, qi_24, qi_30, qi_31, qi_32, qi_60, qi_99, qi_100, qi_200, qi_1000, qi_3400, qi_4000, qi_of, pu_gI, pu_pI, nI_leI, nI_ltI, nI_eq, nI_add, pk_mul, pk_sub, pk_div, qw_s, qw_o, qw_l, qr_s, qr_o, qr_l, ql_i, ql_s, ql_o, pk_us, pk_un, pk_uLs, pk_uLn, if_pos, if_neg, if_true, if_false, ite_self, eq_self, Nat.zero_add, Nat.add_zero, qwr, not_true_eq_false, not_false_eq_true, Option.some.injEq, qe_gn0, qe_m1n, qe_gng, qe_ngn, qe_gm, qe_mg, qe_lm1, qe_lgn, qe_lem, qe_leg, qe_tm1, qe_tgn, mk3_0, h10, k7_kind hj4, k7_abi hj4]
      unfold bX7_hungers_50
      by_cases e1 : gK (T.1 7) j = nI 1
      · have : hatS (T.1 7) fed j = false := by unfold hatS; simp [e1]
        rw [this] at st
        rw [if_pos e1]
        exact st
      · rw [if_neg e1]
        rcases hA j (by omega) with e2 | ⟨b, hb, e2⟩
        · have : hatS (T.1 7) fed j = false := by unfold hatS; simp [e2]
          rw [this] at st
          rw [if_pos e2]
          exact st
        · have e3 : hatS (T.1 7) fed j = bt fed b := by
            unfold hatS
            rw [e2, nI_clamp (by omega)]
            simp [e1, qe_gn (show b < 2 ^ 31 by omega)]
          rw [e3] at st
          rw [e2]
          simp (disch := omega) only [qlt, qb_some, qb_none, ↓qn_1, ↓qn_2, ↓qn_3, ↓qn_4, ↓qn_9, ↓qn_1000, ↓qn_low, qi_0, qi_1, qi_2, qi_3, qi_4, qi_5, qi_6, qi_7, qi_8, qi_9, qi_10, qi_11, qi_12, qi_13, qi_14, qi_15, qi_16, qi_17, qi_20, qi_24, qi_30, qi_31, qi_32, qi_60, qi_99, qi_100, qi_200, qi_1000, qi_3400, qi_4000, qi_of, pu_gI, pu_pI, nI_leI, nI_ltI, nI_eq, nI_add, pk_mul, pk_sub, pk_div, qw_s, qw_o, qw_l, qr_s, qr_o, qr_l, ql_i, ql_s, ql_o, pk_us, pk_un, pk_uLs, pk_uLn, if_pos, if_neg, if_true, if_false, ite_self, eq_self, Nat.zero_add, Nat.add_zero, qwr, not_true_eq_false, not_false_eq_true, Option.some.injEq, qe_gn0, qe_m1n, qe_gng, qe_ngn, qe_gm, qe_mg, qe_lm1, qe_lgn, qe_lem, qe_leg, qe_tm1, qe_tgn, has7_y]
          cases hb : bt fed b
          · rw [hb] at st
            simp (disch := omega) only [qlt, qb_some, qb_none, ↓qn_1, ↓qn_2, ↓qn_3, ↓qn_4, ↓qn_9, ↓qn_1000, ↓qn_low, qi_0, qi_1, qi_2, qi_3, qi_4, qi_5, qi_6, qi_7, qi_8, qi_9, qi_10, qi_11, qi_12, qi_13, qi_14, qi_15, qi_16, qi_17, qi_20, qi_24, qi_30, qi_31, qi_32, qi_60, qi_99, qi_100, qi_200, qi_1000, qi_3400, qi_4000, qi_of, pu_gI, pu_pI, nI_leI, nI_ltI, nI_eq, nI_add, pk_mul, pk_sub, pk_div, qw_s, qw_o, qw_l, qr_s, qr_o, qr_l, ql_i, ql_s, ql_o, pk_us, pk_un, pk_uLs, pk_uLn, if_pos, if_neg, if_true, if_false, ite_self, eq_self, Nat.zero_add, Nat.add_zero, qwr, not_true_eq_false, not_false_eq_true, Option.some.injEq, qe_gn0, qe_m1n, qe_gng, qe_ngn, qe_gm, qe_mg, qe_lm1, qe_lgn, qe_lem, qe_leg, qe_tm1, qe_tgn, Bool.false_eq_true]
            exact st
          · rw [hb] at st
            simp (disch := omega) only [qlt, qb_some, qb_none, ↓qn_1, ↓qn_2, ↓qn_3, ↓qn_4, ↓qn_9, ↓qn_1000, ↓qn_low, qi_0, qi_1, qi_2, qi_3, qi_4, qi_5, qi_6, qi_7, qi_8, qi_9, qi_10, qi_11, qi_12, qi_13, qi_14, qi_15, qi_16, qi_17, qi_20, qi_24, qi_30, qi_31, qi_32, qi_60, qi_99, qi_100, qi_200, qi_1000, qi_3400, qi_4000, qi_of, pu_gI, pu_pI, nI_leI, nI_ltI, nI_eq, nI_add, pk_mul, pk_sub, pk_div, qw_s, qw_o, qw_l, qr_s, qr_o, qr_l, ql_i, ql_s, ql_o, pk_us, pk_un, pk_uLs, pk_uLn, if_pos, if_neg, if_true, if_false, ite_self, eq_self, Nat.zero_add, Nat.add_zero, qwr, not_true_eq_false, not_false_eq_true, Option.some.injEq, qe_gn0, qe_m1n, qe_gng, qe_ngn, qe_gm, qe_mg, qe_lm1, qe_lgn, qe_lem, qe_leg, qe_tm1, qe_tgn]
            exact st
theorem hungers7 {fed : Int32} {e : Nat} (hn : n ≤ 4) (h10 : o 10 = nI n) (hA : ∀ g, g < n → gA (T.1 7) g = gN ∨ ∃ b, b < g ∧ gA (T.1 7) g = nI b) (hf : f < 6) (he : e ≤ 1000) (hc : cut F) (hd : F 14 = nI e) (hh : hInv n F) : mX7_hungers (mk3 T o (putF a f F) s) (nI f) fed (nI (d % 3)) = some (mk3 T o (putF a f (hgF (T.1 7) n fed d 0 F)) s) := by
  unfold mX7_hungers
  rw [qi_0]
  exact hungers7_l hn h10 hA hf he FU 0 F (Nat.zero_le n) (by unfold FU; omega) hc hd hh
end D7
