/-! ===== PURE: the reference's day, whole ===== -/
section GO
variable {G F : Nat → Int32} {fed : Int32} {n d g i : Nat}
theorem hg_3 (hn : n ≤ 4) (hg : g < n) : hgF G n fed d 0 F (3 + g) = if upB G F g = true then nI (hunN G fed d g (F (3 + g))) else F (3 + g) := by
  unfold hgF
  have e : 3 + g - 3 = g := by omega
  by_cases hu : upB G F g = true
  · rw [if_pos ⟨by omega, by omega, by rw [e]; exact hu⟩, if_pos hu, e]
  · rw [if_neg (fun z => hu (by have := z.2.2; rw [e] at this; exact this)), if_neg hu, if_neg (by omega)]
theorem hg_8 (hn : n ≤ 4) (hg : g < n) : hgF G n fed d 0 F (8 + g) = if hatS G fed g = true then F 14 else F (8 + g) := by
  unfold hgF
  have e : 8 + g - 8 = g := by omega
  by_cases hh : hatS G fed g = true
  · rw [if_neg (by omega), if_pos ⟨by omega, by omega, by rw [e]; exact hh⟩, if_pos hh]
  · rw [if_neg (by omega), if_neg (fun z => hh (by have := z.2.2; rw [e] at this; exact this)), if_neg hh]
theorem hg_o (hn : n ≤ 4) (hi : i < 3 ∨ (3 + n ≤ i ∧ i < 8) ∨ 8 + n ≤ i) : hgF G n fed d 0 F i = F i := by
  unfold hgF
  rw [if_neg (by omega), if_neg (by omega)]
theorem upB_F14 {F' : Nat → Int32} (h14 : F' 14 = F 14) (h3 : F' (3 + g) = gN ↔ F (3 + g) = gN) : upB G F' g = upB G F g := by
  unfold upB oddD
  rw [h14]
  have : decide (F' (3 + g) = gN) = decide (F (3 + g) = gN) := by
    by_cases h : F (3 + g) = gN
    · simp [h, h3.mpr h]
    · simp [h, mt h3.mp h]
  rw [this]
theorem upB_ne (hu : upB G F g = true) : F (3 + g) ≠ gN := by
  intro e9
  unfold upB at hu
  simp [e9] at hu
theorem hunN_le {x : Int32} : hunN G fed d g x ≤ 9 := Nat.min_le_left _ _
theorem upB_hg (hn : n ≤ 4) (hg : g < n) : upB G (hgF G n fed d 0 F) g = upB G F g := by
  refine upB_F14 (hg_o hn (by omega)) ?_
  rw [hg_3 hn hg]
  by_cases hu : upB G F g = true
  · rw [if_pos hu]
    have h1 := upB_ne hu
    have h2 : nI (hunN G fed d g (F (3 + g))) ≠ gN := qe_gn (by have := hunN_le (G := G) (fed := fed) (d := d) (g := g) (x := F (3 + g)); omega)
    exact ⟨fun z => absurd z h2, fun z => absurd z h1⟩
  · rw [if_neg hu]
/-- stores and who was ever fed, ahead of (b) -/
def stF (G : Nat → Int32) (n : Nat) (F : Nat → Int32) (d : Nat) : Nat → Int32 := if d = 12 then F else upd (upd F (d % 3) (F (d % 3) - nI (cosN G n F d))) 7 (evD G n F d)
theorem st_o {i : Nat} (h1 : 3 ≤ i) (h2 : i ≠ 7) : stF G n F d i = F i := by
  unfold stF
  split
  · rfl
  · rw [pk_un h2, pk_un (by omega)]
theorem nib_or0 {a : Int32} (h : nib a) : a ||| nI 0 = a :=
  bt_ext (nib_or h nib_0) h (fun g hg => by rw [bt_or h nib_0 hg, bt_z g hg, Bool.or_false])
theorem nib_fd : nib (fdD G n F d) := by
  unfold fdD
  split
  · exact nib_0
  · exact nib_set _
theorem nib_ev (h7 : nib (F 7)) : nib (evD G n F d) := nib_or h7 nib_fd
theorem st_7 (h7 : nib (F 7)) : stF G n F d 7 = evD G n F d := by
  unfold stF
  by_cases h : d = 12
  · rw [if_pos h]
    unfold evD fdD
    rw [if_pos h, nib_or0 h7]
  · rw [if_neg h, pk_us]
theorem st_s (h : i < 3) : stF G n F d i = if d ≠ 12 ∧ i = d % 3 then F i - nI (cosN G n F d) else F i := by
  unfold stF
  by_cases h1 : d = 12
  · rw [if_pos h1, if_neg (fun z => z.1 h1)]
  · rw [if_neg h1, pk_un (by omega)]
    by_cases h2 : i = d % 3
    · rw [if_pos ⟨h1, h2⟩, h2, pk_us]
    · rw [if_neg (fun z => h2 z.2), pk_un h2]
theorem cut_st (hc : cut F) : cut (stF G n F d) := fun i hi => by rw [st_o (by omega) (by omega)]; exact hc i hi
theorem up_st (hg : g < 4) : upB G (stF G n F d) g = upB G F g := upB_eq (st_o (by omega) (by omega)) (st_o (by omega) (by omega))
/-- how all is behind (b) -/
def h2F (G : Nat → Int32) (n : Nat) (F : Nat → Int32) (d : Nat) : Nat → Int32 := hgF G n (fdD G n F d) d 0 (stF G n F d)
theorem up_h2 (hn : n ≤ 4) (hg : g < n) : upB G (h2F G n F d) g = upB G F g := by
  unfold h2F
  rw [upB_hg hn hg, up_st (by omega)]
theorem h2_3 (hn : n ≤ 4) (hg : g < n) : h2F G n F d (3 + g) = if upB G F g = true then nI (huD G n F d g) else F (3 + g) := by
  unfold h2F huD
  rw [hg_3 hn hg, up_st (by omega), st_o (by omega) (by omega)]
theorem h2_7 (hn : n ≤ 4) (h7 : nib (F 7)) : h2F G n F d 7 = evD G n F d := by
  unfold h2F
  rw [hg_o hn (by omega), st_7 h7]
theorem sgB_h2 (hn : n ≤ 4) (h7 : nib (F 7)) (hg : g < n) : sgB G (h2F G n F d) g = snB G n F d g := by
  unfold sgB snB
  rw [up_h2 hn hg, h2_7 hn h7]
theorem huD_le : huD G n F d g ≤ 9 := Nat.min_le_left _ _
theorem sgo_h2 (hn : n ≤ 4) (hg : g < n) (hu : upB G F g = true) : sgo G (h2F G n F d) g = goB G n F d g := by
  unfold sgo goB
  rw [h2_3 hn hg, if_pos hu, nI_clamp (by have := huD_le (G := G) (n := n) (F := F) (d := d) (g := g); omega)]
theorem snB_up (h : snB G n F d g = true) : upB G F g = true := by
  unfold snB at h
  cases hu : upB G F g
  · rw [hu] at h; exact absurd h (by simp)
  · rfl
theorem sgt_h2 (hn : n ≤ 4) (h7 : nib (F 7)) (hg : g < n) : sgt G (h2F G n F d) g = snt G n F d g := by
  unfold sgt snt
  rw [sgB_h2 hn h7 hg]
  by_cases hs : snB G n F d g = true
  · rw [if_pos hs, if_pos hs, sgo_h2 hn hg (snB_up hs)]
  · rw [if_neg hs, if_neg hs]
theorem sgg_h2 (hn : n ≤ 4) (h7 : nib (F 7)) (hg : g < n) : sgg G (h2F G n F d) g = gpt G n F d g := by
  unfold sgg gpt
  rw [sgB_h2 hn h7 hg]
  by_cases hs : snB G n F d g = true
  · rw [if_pos hs, if_pos hs, sgo_h2 hn hg (snB_up hs)]
  · rw [if_neg hs, if_neg hs]
theorem sgh_h2 (hn : n ≤ 4) (h7 : nib (F 7)) (hg : g < n) : sgh G (h2F G n F d) g = hpt G n F d g := by
  unfold sgh hpt
  rw [sgB_h2 hn h7 hg]
  by_cases hs : snB G n F d g = true
  · rw [if_pos hs, if_pos hs, sgo_h2 hn hg (snB_up hs)]
  · rw [if_neg hs, if_neg hs]
theorem nsum_eq {p q : Nat → Nat} : ∀ n, (∀ g, g < n → p g = q g) → nsum p n = nsum q n := by
  intro n
  induction n with
  | zero => intro _; rfl
  | succ n ih =>
    intro h
    rw [nsum_s, nsum_s, ih (fun g hg => h g (by omega)), h n (by omega)]
theorem lv_h2 {A B : Nat} (hn : n ≤ 4) (hg : g < n) : lv7 G (sF (h2F G n F d) A B) g = lvB G n F d g := by
  unfold lv7 lvB
  rw [upB_eq (F := h2F G n F d) (sF_o (by omega) (by omega)) (sF_o (by omega) (by omega)), up_h2 hn hg, sF_o (by omega) (by omega), h2_3 hn hg]
  cases hu : upB G F g
  · rfl
  · rw [if_pos rfl, nI_clamp (by have := huD_le (G := G) (n := n) (F := F) (d := d) (g := g); omega)]
/-- the reference's day in its five steps is the day as told -/
theorem dy_eq (hn : n ≤ 4) (h7 : nib (F 7)) : ∀ i, i < 15 → upd (lvF G n 0 (sF (h2F G n F d) (gsD G n F d) (hsD G n F d))) 14 (lvF G n 0 (sF (h2F G n F d) (gsD G n F d) (hsD G n F d)) 14 + nI 1) i = dyF G n F d i := by
  intro i hi
  have lo : ∀ i, (i < 3 ∨ 3 + n ≤ i) → lvF G n 0 (sF (h2F G n F d) (gsD G n F d) (hsD G n F d)) i = sF (h2F G n F d) (gsD G n F d) (hsD G n F d) i := by
    intro i h
    unfold lvF
    rw [if_neg (by omega)]
  have h2o : ∀ i, (i < 3 ∨ (3 + n ≤ i ∧ i < 8) ∨ 8 + n ≤ i) → h2F G n F d i = stF G n F d i := fun i h => hg_o hn h
  by_cases c1 : i < 3
  · have e : dyF G n F d i = if d ≠ 12 ∧ i = d % 3 then F i - nI (cosN G n F d) else F i := if_pos c1
    rw [e, pk_un (by omega), lo i (by omega), sF_o (by omega) (by omega), h2o i (by omega), st_s c1]
  · by_cases c2 : i < 7
    · have e : dyF G n F d i = if i - 3 < n then dyH G n F d (i - 3) else F i := by
        unfold dyF
        rw [if_neg c1, if_pos c2]
      rw [e, pk_un (by omega)]
      by_cases c3 : i - 3 < n
      · rw [if_pos c3]
        obtain ⟨g, rfl⟩ : ∃ g, i = 3 + g := ⟨i - 3, by omega⟩
        have e3 : 3 + g - 3 = g := by omega
        have e4 : lvF G n 0 (sF (h2F G n F d) (gsD G n F d) (hsD G n F d)) (3 + g) = if lvB G n F d g = true then gN else sF (h2F G n F d) (gsD G n F d) (hsD G n F d) (3 + g) := by
          unfold lvF
          by_cases hl : lvB G n F d g = true
          · rw [if_pos ⟨by omega, by omega, by rw [e3, lv_h2 hn (by omega)]; exact hl⟩, if_pos hl]
          · rw [if_neg (fun z => hl (by have := z.2.2; rw [e3, lv_h2 hn (by omega)] at this; exact this)), if_neg hl]
        rw [e3, e4, sF_o (by omega) (by omega), h2_3 hn (by omega)]
        unfold dyH
        by_cases hu : upB G F g = true
        · rw [if_pos hu, if_pos hu]
        · have hl : ¬ lvB G n F d g = true := by
            intro z
            unfold lvB at z
            cases hb : upB G F g
            · rw [hb] at z; exact absurd z (by simp)
            · exact hu hb
          rw [if_neg hl, if_neg hu, if_neg hu]
      · rw [if_neg c3, lo i (by omega), sF_o (by omega) (by omega), h2o i (by omega), st_o (by omega) (by omega)]
    · by_cases c4 : i = 7
      · subst c4
        have e : dyF G n F d 7 = evD G n F d := rfl
        rw [e, pk_un (by omega), lo 7 (by omega), sF_o (by omega) (by omega), h2_7 hn h7]
      · by_cases c5 : i < 12
        · have e : dyF G n F d i = if i - 8 < n ∧ hatS G (fdD G n F d) (i - 8) = true then F 14 else F i := by
            unfold dyF
            rw [if_neg c1, if_neg c2, if_neg c4, if_pos c5]
          rw [e, pk_un (by omega), lo i (by omega), sF_o (by omega) (by omega)]
          by_cases c6 : i - 8 < n
          · obtain ⟨g, rfl⟩ : ∃ g, i = 8 + g := ⟨i - 8, by omega⟩
            have e3 : 8 + g - 8 = g := by omega
            unfold h2F
            rw [hg_8 hn (by omega), e3, st_o (by omega) (by omega), st_o (by omega) (by omega)]
            by_cases hh : hatS G (fdD G n F d) g = true
            · rw [if_pos hh, if_pos ⟨by omega, hh⟩]
            · rw [if_neg hh, if_neg (fun z => hh z.2)]
          · rw [if_neg (fun z => c6 z.1), h2o i (by omega), st_o (by omega) (by omega)]
        · have c7 : i = 12 ∨ i = 13 ∨ i = 14 := by omega
          rcases c7 with rfl | rfl | rfl
          · have e : dyF G n F d 12 = F 12 + nI (gsD G n F d) := rfl
            rw [e, pk_un (by omega), lo 12 (by omega), sF_12, h2o 12 (by omega), st_o (by omega) (by omega)]
          · have e : dyF G n F d 13 = F 13 + nI (hsD G n F d) := rfl
            rw [e, pk_un (by omega), lo 13 (by omega), sF_13, h2o 13 (by omega), st_o (by omega) (by omega)]
          · have e : dyF G n F d 14 = F 14 + nI 1 := rfl
            rw [e, pk_us, lo 14 (by omega), sF_o (by omega) (by omega), h2o 14 (by omega), st_o (by omega) (by omega)]
end GO
section GO7
variable {T : vS} {o a s F : Nat → Int32} {n f d : Nat}
theorem k7_cost (hn : n ≤ 4) (h10 : o 10 = nI n) (hf : f < 6) (hc : cut F) (hF : FInv n F) (hd : d = 12 ∨ d < 3 * n) : mX7_costOf (mk3 T o (putF a f F) s) (nI f) (nI d) = some (cosV (T.1 7) n F d) := by
  have e := m7_cost (T := mk3 T o (putF a f F) s) (f := f) (d := d) hn h10 hf (by rw [k7_fr hc]; exact hF) hd
  rw [k7_fr hc, mk3_o (by decide) (by decide) (by decide)] at e
  exact e
theorem k7_fed {g : Nat} (hn : n ≤ 4) (h10 : o 10 = nI n) (hf : f < 6) (hc : cut F) (hF : FInv n F) (hg : g < 4) : mX7_fedBy (mk3 T o (putF a f F) s) (nI f) (nI g) = some (nI (fedN (T.1 7) n F g)) := by
  obtain ⟨⟨e, he, h14⟩, _⟩ := hF
  have e := m7_fed (T := mk3 T o (putF a f F) s) (f := f) (g := g) (d := e) hn h10 hf hg (by rw [k7_fr hc]; exact h14) he
  rw [k7_fr hc, mk3_o (by decide) (by decide) (by decide)] at e
  exact e
theorem goes7_n (hn : n ≤ 4) (h10 : o 10 = nI n) (hf : f < 6) (hc : cut F) (hF : FInv n F) (hd : d = 12 ∨ d < 3 * n) (hcan : canB (T.1 7) n F d = false) : mX7_goes (mk3 T o (putF a f F) s) (nI f) (nI d) = some (nI 0, mk3 T (upd o 22 gN) (putF a f F) s) := by
  have e : cosV (T.1 7) n F d = gN := by
    unfold cosV
    rw [hcan]
    rfl
  unfold mX7_goes
  simp (disch := omega) only [qlt, qb_some, qb_none, ↓qn_1, ↓qn_2, ↓qn_3, ↓qn_4, ↓qn_9, ↓qn_1000, ↓qn_low, qi_0, qi_1, qi_2, qi_3, qi_4, qi_5, qi_6, qi_7, qi_8, qi_9, qi_10, qi_11, qi_12, qi_13, qi_14, qi_15, qi_16, qi_17, qi_20, qi_24, qi_30, qi_31, qi_32, qi_60, qi_99, qi_100, qi_200, qi_1000, qi_3400, qi_4000, qi_of, pu_gI, pu_pI, nI_leI, nI_ltI, nI_eq, nI_add, pk_mul, pk_sub, pk_div, qw_s, qw_o, qw_l, qr_s, qr_o, qr_l, ql_i, ql_s, ql_o, pk_us, pk_un, pk_uLs, pk_uLn, if_pos, if_neg, if_true, if_false, ite_self, eq_self, Nat.zero_add, Nat.add_zero, qwr, not_true_eq_false, not_false_eq_true, Option.some.injEq, qe_gn0, qe_m1n, qe_gng, qe_ngn, qe_gm, qe_mg, qe_lm1, qe_lgn, qe_lem, qe_leg, qe_tm1, qe_tgn, k7_cost hn h10 hf hc hF hd, e, mk3_w0, mk3_0]
theorem goes7_79 (hn : n ≤ 4) (h10 : o 10 = nI n) (hGI : GInv n (T.1 7)) (hf : f < 6) (hc : cut F) (hF : FInv n F) (hd : d < 13) : bX7_goes_79 (mk3 T o (putF a f (stF (T.1 7) n F d)) s) (nI f) (nI d) (fdD (T.1 7) n F d) = some (nI 1, mk3 T (sO o (gsD (T.1 7) n F d) (hsD (T.1 7) n F d)) (putF a f (dyF (T.1 7) n F d)) (fun g => if g < n then snt (T.1 7) n F d g else s g)) := by
  obtain ⟨⟨e, he, h14⟩, h7, hs, hh⟩ := hF
  have e3 : nI d - nI d / nI 3 * nI 3 = nI (d % 3) := pk_rem (by omega) (by decide) (by decide)
  have s14 : stF (T.1 7) n F d 14 = nI e := by rw [st_o (by decide) (by decide)]; exact h14
  have sh : hInv n (stF (T.1 7) n F d) := fun g hg => by rw [st_o (by omega) (by omega)]; exact hh g hg
  have hun := hungers7 (T := T) (o := o) (a := a) (s := s) (F := stF (T.1 7) n F d) (f := f) (d := d) (fed := fdD (T.1 7) n F d) hn h10 (fun g hg => (hGI g hg).2.2.2.2.2.1) hf he (cut_st hc) s14 sh
  have h2c : cut (h2F (T.1 7) n F d) := fun i hi => by
    unfold h2F
    rw [hg_o hn (by omega)]
    exact cut_st hc i hi
  have h214 : h2F (T.1 7) n F d 14 = nI e := by
    unfold h2F
    rw [hg_o hn (by omega)]
    exact s14
  have h2h : hInv n (h2F (T.1 7) n F d) := fun g hg => by
    rw [h2_3 hn hg]
    split
    · exact Or.inr ⟨_, huD_le, rfl⟩
    · exact hh g hg
  have sen := sends7 (T := T) (o := o) (a := a) (s := s) (F := h2F (T.1 7) n F d) (f := f) hn h10 hGI hf he h2c h214 (by rw [h2_7 hn h7]; exact nib_ev h7) h2h
  have ga : nsum (sgg (T.1 7) (h2F (T.1 7) n F d)) n = gsD (T.1 7) n F d := nsum_eq n (fun g hg => sgg_h2 hn h7 hg)
  have gb : nsum (sgh (T.1 7) (h2F (T.1 7) n F d)) n = hsD (T.1 7) n F d := nsum_eq n (fun g hg => sgh_h2 hn h7 hg)
  rw [ga, gb] at sen
  have es : sS (T.1 7) (h2F (T.1 7) n F d) s n = (fun g => if g < n then snt (T.1 7) n F d g else s g) := by
    funext g
    unfold sS
    by_cases hg : g < n
    · rw [if_pos hg, if_pos hg, sgt_h2 hn h7 hg]
    · rw [if_neg hg, if_neg hg]
  rw [es] at sen
  unfold bX7_goes_79
  simp only [qi_3, e3, hun, qb_some]
  rw [show hgF (T.1 7) n (fdD (T.1 7) n F d) d 0 (stF (T.1 7) n F d) = h2F (T.1 7) n F d from rfl, sen]
  simp (disch := omega) only [qlt, qb_some, qb_none, ↓qn_1, ↓qn_2, ↓qn_3, ↓qn_4, ↓qn_9, ↓qn_1000, ↓qn_low, qi_0, qi_1, qi_2, qi_3, qi_4, qi_5, qi_6, qi_7, qi_8, qi_9, qi_10, qi_11, qi_12, qi_13, qi_14, qi_15, qi_16, qi_17, qi_20, qi_24, qi_30, qi_31, qi_32, qi_60, qi_99, qi_100, qi_200, qi_1000, qi_3400, qi_4000, qi_of, pu_gI, pu_pI, nI_leI, nI_ltI, nI_eq, nI_add, pk_mul, pk_sub, pk_div, qw_s, qw_o, qw_l, qr_s, qr_o, qr_l, ql_i, ql_s, ql_o, pk_us, pk_un, pk_uLs, pk_uLn, if_pos, if_neg, if_true, if_false, ite_self, eq_self, Nat.zero_add, Nat.add_zero, qwr, not_true_eq_false, not_false_eq_true, Option.some.injEq, qe_gn0, qe_m1n, qe_gng, qe_ngn, qe_gm, qe_mg, qe_lm1, qe_lgn, qe_lem, qe_leg, qe_tm1, qe_tgn, k7_v hf, k7_place hf]
  rw [put_eq (dy_eq hn h7)]
theorem goes7_y (hn : n ≤ 4) (h10 : o 10 = nI n) (hGI : GInv n (T.1 7)) (hf : f < 6) (hc : cut F) (hF : FInv n F) (hd : d = 12 ∨ d < 3 * n) (hcan : canB (T.1 7) n F d = true) :
    mX7_goes (mk3 T o (putF a f F) s) (nI f) (nI d) = some (nI 1, mk3 T (sO (upd o 22 (nI (cosN (T.1 7) n F d))) (gsD (T.1 7) n F d) (hsD (T.1 7) n F d)) (putF a f (dyF (T.1 7) n F d)) (fun g => if g < n then snt (T.1 7) n F d g else s g)) := by
  have e : cosV (T.1 7) n F d = nI (cosN (T.1 7) n F d) := by
    unfold cosV
    rw [hcan]
    rfl
  have hd13 : d < 13 := by omega
  have hcl : cosN (T.1 7) n F d ≤ 7 := by
    unfold cosN
    split
    · omega
    · exact pc_le _ (Nat.lt_trans (setN_lt _) (by decide))
  have h10' : upd o 22 (nI (cosN (T.1 7) n F d)) 10 = nI n := by rw [pk_un (by decide)]; exact h10
  have e3 : nI d - nI d / nI 3 * nI 3 = nI (d % 3) := pk_rem (by omega) (by decide) (by decide)
  have go := goes7_79 (T := T) (o := upd o 22 (nI (cosN (T.1 7) n F d))) (a := a) (s := s) hn h10' hGI hf hc hF hd13
  unfold mX7_goes
  by_cases h12 : d = 12
  · subst h12
    simp (disch := omega) only [qlt, qb_some, qb_none, ↓qn_1, ↓qn_2, ↓qn_3, ↓qn_4, ↓qn_9, ↓qn_1000, ↓qn_low, qi_0, qi_1, qi_2, qi_3, qi_4, qi_5, qi_6, qi_7, qi_8, qi_9, qi_10, qi_11, qi_12, qi_13, qi_14, qi_15, qi_16, qi_17, qi_20, qi_24, qi_30, qi_31, qi_32, qi_60, qi_99, qi_100, qi_200, qi_1000, qi_3400, qi_4000, qi_of, pu_gI, pu_pI, nI_leI, nI_ltI, nI_eq, nI_add, pk_mul, pk_sub, pk_div, qw_s, qw_o, qw_l, qr_s, qr_o, qr_l, ql_i, ql_s, ql_o, pk_us, pk_un, pk_uLs, pk_uLn, if_pos, if_neg, if_true, if_false, ite_self, eq_self, Nat.zero_add, Nat.add_zero, qwr, not_true_eq_false, not_false_eq_true, Option.some.injEq, qe_gn0, qe_m1n, qe_gng, qe_ngn, qe_gm, qe_mg, qe_lm1, qe_lgn, qe_lem, qe_leg, qe_tm1, qe_tgn, k7_cost hn h10 hf hc hF hd, e, mk3_w0, mk3_0]
    exact go
  · have hg4 : d / 3 < 4 := by omega
    simp only [qi_3, e3]
    simp (disch := omega) only [qlt, qb_some, qb_none, ↓qn_1, ↓qn_2, ↓qn_3, ↓qn_4, ↓qn_9, ↓qn_1000, ↓qn_low, qi_0, qi_1, qi_2, qi_3, qi_4, qi_5, qi_6, qi_7, qi_8, qi_9, qi_10, qi_11, qi_12, qi_13, qi_14, qi_15, qi_16, qi_17, qi_20, qi_24, qi_30, qi_31, qi_32, qi_60, qi_99, qi_100, qi_200, qi_1000, qi_3400, qi_4000, qi_of, pu_gI, pu_pI, nI_leI, nI_ltI, nI_eq, nI_add, pk_mul, pk_sub, pk_div, qw_s, qw_o, qw_l, qr_s, qr_o, qr_l, ql_i, ql_s, ql_o, pk_us, pk_un, pk_uLs, pk_uLn, if_pos, if_neg, if_true, if_false, ite_self, eq_self, Nat.zero_add, Nat.add_zero, qwr, not_true_eq_false, not_false_eq_true, Option.some.injEq, qe_gn0, qe_m1n, qe_gng, qe_ngn, qe_gm, qe_mg, qe_lm1, qe_lgn, qe_lem, qe_leg, qe_tm1, qe_tgn, k7_cost hn h10 hf hc hF hd, e, mk3_w0, mk3_0, k7_fed hn h10' hf hc hF hg4, k7_v hf, k7_place hf]
    have e1 : fdD (T.1 7) n F d = nI (fedN (T.1 7) n F (d / 3)) := if_neg h12
    have e2 : stF (T.1 7) n F d = upd (upd F (d % 3) (F (d % 3) - nI (cosN (T.1 7) n F d))) 7 (evD (T.1 7) n F d) := if_neg h12
    rw [e2, e1] at go
    have e4 : evD (T.1 7) n F d = F 7 ||| nI (fedN (T.1 7) n F (d / 3)) := by unfold evD; rw [e1]
    rw [e4] at go
    exact go
end GO7
