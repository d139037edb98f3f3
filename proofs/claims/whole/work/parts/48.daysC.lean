/-! ===== PURE: days go by, in the class; both together ===== -/
def svY (S : vS) (Y : Nat → Int32) (b : Nat) : Nat → Int32 :=
  va_cpy (S.1 (30 + 11 + 2)) (va_cpy (S.1 (30 + 11 + 1)) (upd (upd (upd (upd Y b (S.1 (30 + 11) 1)) (b + 1) (S.1 (30 + 11) 2)) (b + 2) (S.1 (30 + 11) 3)) (b + 3) (S.1 (30 + 11) 4)) 0 (b + 4) 3) 0 (b + 4 + 3) 4
theorem save6 {S : vS} {b : Nat} (hb : b ≤ 3389) : mX3_save S (30 + 11) (30 + 15) 3400 (nI b) = some (wR S (30 + 15) (svY S (S.1 (30 + 15)) b)) := by
  have h0 : S = wR S (30 + 15) (S.1 (30 + 15)) := (pu_wR_self S (30 + 15)).symm
  have key : ∀ Y, mX3_save (wR S (30 + 15) Y) (30 + 11) (30 + 15) 3400 (nI b) = some (wR S (30 + 15) (svY S Y b)) := by
    intro Y
    unfold mX3_save
    simp (disch := omega) only [qlt, qb_some, qb_none, ↓qn_1, ↓qn_2, ↓qn_3, ↓qn_4, ↓qn_9, ↓qn_1000, ↓qn_low, qi_0, qi_1, qi_2, qi_3, qi_4, qi_5, qi_6, qi_7, qi_8, qi_9, qi_10, qi_11, qi_12, qi_13, qi_14, qi_15, qi_16, qi_17, qi_20, qi_24, qi_30, qi_31, qi_32, qi_60, qi_99, qi_100, qi_200, qi_1000, qi_3400, qi_4000, qi_of, pu_gI, pu_pI, nI_leI, nI_ltI, nI_eq, nI_add, pk_mul, pk_sub, pk_div, qw_s, qw_o, qw_l, qr_s, qr_o, qr_l, ql_i, ql_s, ql_o, pk_us, pk_un, pk_uLs, pk_uLn, if_pos, if_neg, if_true, if_false, ite_self, eq_self, Nat.zero_add, Nat.add_zero, qwr, not_true_eq_false, not_false_eq_true, Option.some.injEq, qe_gn0, qe_m1n, qe_gng, qe_ngn, qe_gm, qe_mg, qe_lm1, qe_lgn, qe_lem, qe_leg, qe_tm1, qe_tgn, cI_y, pu_wR_wR]
    rfl
  have := key (S.1 (30 + 15))
  rw [← h0] at this
  exact this
/-- the diary behind the day -/
def dyY (S : vS) (D G : Nat → Int32) (n : Nat) (F : Nat → Int32) (d e : Nat) : Nat → Int32 :=
  va_cpy (DD D G n F d n) (upd (upd (svY S (S.1 (30 + 15)) (e * 17 + 6)) (e * 17) (nI d)) (e * 17 + 1) (fdD G n F d)) 0 (e * 17 + 2) 4
/-- the class's world behind the day -/
def dvS (S : vS) (G : Nat → Int32) (n : Nat) (F : Nat → Int32) (d e : Nat) : vS :=
  wR (mk4 (wR S (30 + 15) (svY S (S.1 (30 + 15)) (e * 17 + 6))) (30 + 11) (sA (S.1 (30 + 11)) G n F d) (sB (S.1 (30 + 11 + 1)) G n F d) (CC (S.1 (30 + 11 + 2)) G F n d n) (DD (S.1 (30 + 11 + 3)) G n F d n)) (30 + 15) (dyY S (S.1 (30 + 11 + 3)) G n F d e)
theorem GodR_wR {S : vS} {k n c : Nat} {G Y : Nat → Int32} (hn : n ≤ 4) (hc : c < k ∨ k + 9 < c) (hG : GodR S k n G) : GodR (wR S c Y) k n G :=
  GodR_tr hn (fun j _ => by rw [qr_o (by omega)]) (fun i h1 h2 g _ => by rw [qr_o (by omega)]) hG
theorem ScR_wR {S : vS} {k n c : Nat} {F Y : Nat → Int32} (hn : n ≤ 4) (hc : c < k ∨ k + 2 < c) (hS : ScR S k n F) : ScR (wR S c Y) k n F :=
  ScR_tr hn (fun j _ => by rw [qr_o (by omega)]) (fun j _ => by rw [qr_o (by omega)]) (fun j _ => by rw [qr_o (by omega)]) hS
theorem i32_w (a b x y : Int32) : a + x - (b + y) - (a - b) = x - y := by grind
theorem spendDay6 {S : vS} {n d e : Nat} {G F : Nat → Int32} (hn : n ≤ 4) (hG : GodR S (30 + 1) n G) (hGI : GInv n G) (hS : ScR S (30 + 11) n F) (hF : FInv n F) (h14 : F 14 = nI e) (he : e < 200) (hd : d < 13) (hcan : canB G n F d = true) :
    mX5_spendDay S 30 (nI d) = some (nI (gsD G n F d) - nI (hsD G n F d), dvS S G n F d e) := by
  have h0 : S.1 (30 + 11) 0 = nI e := hS.1.trans h14
  have hG1 : GodR (wR S (30 + 15) (svY S (S.1 (30 + 15)) (e * 17 + 6))) (30 + 1) n G := GodR_wR hn (by omega) hG
  have hS1 : ScR (wR S (30 + 15) (svY S (S.1 (30 + 15)) (e * 17 + 6))) (30 + 11) n F := ScR_wR hn (by omega) hS
  have e1 : wR S (30 + 15) (svY S (S.1 (30 + 15)) (e * 17 + 6)) = mk4 (wR S (30 + 15) (svY S (S.1 (30 + 15)) (e * 17 + 6))) (30 + 11) (S.1 (30 + 11)) (S.1 (30 + 11 + 1)) (S.1 (30 + 11 + 2)) (S.1 (30 + 11 + 3)) := by
    have h := mk4_id (wR S (30 + 15) (svY S (S.1 (30 + 15)) (e * 17 + 6))) (30 + 11)
    rw [qr_o (by decide), qr_o (by decide), qr_o (by decide), qr_o (by decide)] at h
    exact h.symm
  have go := goOn6 (S := wR S (30 + 15) (svY S (S.1 (30 + 15)) (e * 17 + 6))) (k := 30 + 11) (k1 := 30 + 1) (A := S.1 (30 + 11)) (B := S.1 (30 + 11 + 1)) (C := S.1 (30 + 11 + 2)) (D := S.1 (30 + 11 + 3)) (d := d) (by omega) hn hG1 hGI (by rw [← e1]; exact hS1) hF hd
  rw [← e1, hcan, if_pos rfl] at go
  have e2 : ∀ A B C D, mk4 (wR S (30 + 15) (svY S (S.1 (30 + 15)) (e * 17 + 6))) (30 + 11) A B C D = wR (mk4 (wR S (30 + 15) (svY S (S.1 (30 + 15)) (e * 17 + 6))) (30 + 11) A B C D) (30 + 15) (svY S (S.1 (30 + 15)) (e * 17 + 6)) := by
    intro A B C D
    have h := pu_wR_self (mk4 (wR S (30 + 15) (svY S (S.1 (30 + 15)) (e * 17 + 6))) (30 + 11) A B C D) (30 + 15)
    rw [mk4_o (by omega), qr_s] at h
    exact h.symm
  rw [e2] at go
  unfold mX5_spendDay mX3_worth
  simp (disch := omega) only [qlt, qb_some, qb_none, ↓qn_1, ↓qn_2, ↓qn_3, ↓qn_4, ↓qn_9, ↓qn_1000, ↓qn_low, qi_0, qi_1, qi_2, qi_3, qi_4, qi_5, qi_6, qi_7, qi_8, qi_9, qi_10, qi_11, qi_12, qi_13, qi_14, qi_15, qi_16, qi_17, qi_20, qi_24, qi_30, qi_31, qi_32, qi_60, qi_99, qi_100, qi_200, qi_1000, qi_3400, qi_4000, qi_of, pu_gI, pu_pI, nI_leI, nI_ltI, nI_eq, nI_add, pk_mul, pk_sub, pk_div, qw_s, qw_o, qw_l, qr_s, qr_o, qr_l, ql_i, ql_s, ql_o, pk_us, pk_un, pk_uLs, pk_uLn, if_pos, if_neg, if_true, if_false, ite_self, eq_self, Nat.zero_add, Nat.add_zero, qwr, not_true_eq_false, not_false_eq_true, Option.some.injEq, qe_gn0, qe_m1n, qe_gng, qe_ngn, qe_gm, qe_mg, qe_lm1, qe_lgn, qe_lem, qe_leg, qe_tm1, qe_tgn, h0, save6 (show e * 17 + 6 ≤ 3389 by omega), go, mk4_0, mk4_3, sA_8, cI_y, pu_wR_wR, sA_3, sA_4, i32_w]
  rfl
section DY
variable {S : vS} {D G F : Nat → Int32} {n d e i : Nat}
theorem svY_o {Y : Nat → Int32} {b : Nat} (h : i < b ∨ b + 11 ≤ i) : svY S Y b i = Y i := by
  unfold svY
  rw [pk_cpy_out (by omega), pk_cpy_out (by omega), pk_un (by omega), pk_un (by omega), pk_un (by omega), pk_un (by omega)]
theorem dyY_lo (h : i < e * 17 ∨ e * 17 + 17 ≤ i) : dyY S D G n F d e i = S.1 (30 + 15) i := by
  unfold dyY
  rw [pk_cpy_out (by omega), pk_un (by omega), pk_un (by omega), svY_o (by omega)]
theorem dyY_0 : dyY S D G n F d e (e * 17) = nI d := by
  unfold dyY
  rw [pk_cpy_out (by omega), pk_un (by omega), pk_us]
theorem dyY_1 : dyY S D G n F d e (e * 17 + 1) = fdD G n F d := by
  unfold dyY
  rw [pk_cpy_out (by omega), pk_us]
theorem dyY_2 {g : Nat} (hn : n ≤ 4) (hg : g < n) : dyY S D G n F d e (e * 17 + 2 + g) = snt G n F d g := by
  unfold dyY
  rw [pk_cpy_in (by omega) (by omega), show 0 + (e * 17 + 2 + g - (e * 17 + 2)) = g by omega]
  unfold DD
  rw [if_pos hg]
theorem dyY_6 (h : e * 17 + 6 ≤ i) (h2 : i < e * 17 + 17) : dyY S D G n F d e i = svY S (S.1 (30 + 15)) (e * 17 + 6) i := by
  unfold dyY
  rw [pk_cpy_out (by omega), pk_un (by omega), pk_un (by omega)]
theorem SavR_sv {Y : Nat → Int32} {b : Nat} (hn : n ≤ 4) (hS : ScR S (30 + 11) n F) (hg : S.1 (30 + 11) 3 = F 12) (hh : S.1 (30 + 11) 4 = F 13) : SavR (svY S Y b) b n F := by
  obtain ⟨s1, s2, s4, s5, s6⟩ := hS
  unfold svY
  refine ⟨?_, ?_, ?_, ?_, ?_, ?_⟩
  · rw [pk_cpy_out (by omega), pk_cpy_out (by omega), pk_un (by omega), pk_un (by omega), pk_un (by omega), pk_us]
    exact s2
  · rw [pk_cpy_out (by omega), pk_cpy_out (by omega), pk_un (by omega), pk_un (by omega), pk_us]
    exact s4
  · rw [pk_cpy_out (by omega), pk_cpy_out (by omega), pk_un (by omega), pk_us]
    exact hg
  · rw [pk_cpy_out (by omega), pk_cpy_out (by omega), pk_us]
    exact hh
  · intro f hf
    rw [pk_cpy_out (by omega), pk_cpy_in (by omega) (by omega), show 0 + (b + 4 + f - (b + 4)) = f by omega]
    exact s5 f hf
  · intro g hgn hne
    rw [pk_cpy_in (by omega) (by omega), show 0 + (b + 7 + g - (b + 4 + 3)) = g by omega]
    exact s6 g hgn hne
theorem SavR_D {Y : Nat → Int32} {b : Nat} {A A' : Nat → Int32} (hn : n ≤ 4) (h : ∀ i, i < 15 → A' i = A i) (R : SavR Y b n A) : SavR Y b n A' := by
  obtain ⟨⟨a1, a1'⟩, a2, a3, a4, a5, a6⟩ := R
  refine ⟨⟨a1, fun g hg => by rw [h _ (by omega)]; exact a1' g hg⟩, by rw [h _ (by omega)]; exact a2, by rw [h _ (by omega)]; exact a3, by rw [h _ (by omega)]; exact a4, fun f hf => by rw [h _ (by omega)]; exact a5 f hf, fun g hg hf => ?_⟩
  rw [h _ (by omega)] at hf ⊢
  exact a6 g hg hf
theorem FInv_D {A A' : Nat → Int32} (hn : n ≤ 4) (h : ∀ i, i < 15 → A' i = A i) (R : FInv n A) : FInv n A' := by
  obtain ⟨⟨x, hx, a1⟩, a2, a3, a4⟩ := R
  refine ⟨⟨x, hx, by rw [h _ (by omega)]; exact a1⟩, by rw [h _ (by omega)]; exact a2, fun f hf => by rw [h _ (by omega)]; exact a3 f hf, fun g hg => by rw [h _ (by omega)]; exact a4 g hg⟩
theorem HatR_D {Y : Nat → Int32} {A A' : Nat → Int32} (hn : n ≤ 4) (h : ∀ i, i < 15 → A' i = A i) (R : HatR Y n G A e) : HatR Y n G A' e := by
  intro g hg hk
  obtain ⟨b1, b2⟩ := R g hg hk
  rw [h _ (by omega)]
  exact ⟨b1, b2⟩
theorem DayR_D {Y D' : Nat → Int32} (hn : n ≤ 4) (h : ∀ i, i < 20 * (e + 1) → D' i = D i) (R : DayR Y n G D e) : DayR Y n G D' e := by
  obtain ⟨a1, a2, a3, a4, a5, a6, a7⟩ := R
  exact ⟨by rw [h _ (by omega)]; exact a1, a2, fun g hg => by rw [h _ (by omega)]; exact a3 g hg, SavR_D hn (fun i hi => h _ (by omega)) a4, FInv_D hn (fun i hi => h _ (by omega)) a5, by rw [h _ (by omega)]; exact a6, HatR_D hn (fun i hi => h _ (by omega)) a7⟩
/-- the diary's hate, one day on -/
theorem HatR_day {Y Y' : Nat → Int32} (hn : n ≤ 4) (hGI : GInv n G) (h14 : F 14 = nI e) (hlo : ∀ i, i < 17 * e → Y' i = Y i) (h1 : Y' (17 * e + 1) = fdD G n F d) (R : HatR Y n G F e) : HatR Y' n G (dyF G n F d) (e + 1) := by
  intro g hg hk
  obtain ⟨b1, b2⟩ := R g hg hk
  have e8 : dyF G n F d (8 + g) = if hatS G (fdD G n F d) g = true then F 14 else F (8 + g) := by
    unfold dyF
    have e9 : 8 + g - 8 = g := by omega
    rw [if_neg (by omega), if_neg (by omega), if_neg (by omega), if_pos (by omega), e9]
    by_cases hh : hatS G (fdD G n F d) g = true
    · rw [if_pos ⟨hg, hh⟩, if_pos hh]
    · rw [if_neg (fun z => hh z.2), if_neg hh]
  rw [e8]
  refine ⟨fun ha => ?_, fun a ha he => ?_⟩
  · have : hatS G (fdD G n F d) g = false := by unfold hatS; simp [ha]
    rw [this]
    exact b1 ha
  · have : hatS G (fdD G n F d) g = bt (fdD G n F d) a := by
      unfold hatS
      rw [he, nI_clamp (by omega)]
      simp [hk, qe_gn (show a < 2 ^ 31 by omega)]
    rw [this]
    unfold lastF
    rw [h1, h14, lastF_tr e hlo]
    by_cases hb : bt (fdD G n F d) a = true
    · rw [if_pos hb, if_pos hb]
    · rw [if_neg hb, if_neg hb]
      exact b2 a ha he
end DY
/-- both villages go one day on alike -/
theorem VilR_day {S T : vS} {n d e : Nat} (hn : n ≤ 4) (hGI : GInv n (T.1 7)) (h14 : fr T 0 14 = nI e) (he : e < 200) (hd : d < 13) (hcan : canB (T.1 7) n (fr T 0) d = true) (R : VilR S 30 n (T.1 7) (fr T 0) (T.1 12)) :
    VilR (dvS S (T.1 7) n (fr T 0) d e) 30 n (T.1 7) (dyF (T.1 7) n (fr T 0) d) (dv2 T n d e) := by
  obtain ⟨hG, hS, hg, hh, hF, d', hd', hd14, hH, hD⟩ := R
  have hde : d' = e := (nI_eq (by omega) (by omega)).mp (hd14.symm.trans h14)
  subst hde
  have hS4 : ScR (mk4 (wR S (30 + 15) (svY S (S.1 (30 + 15)) (d' * 17 + 6))) (30 + 11) (S.1 (30 + 11)) (S.1 (30 + 11 + 1)) (S.1 (30 + 11 + 2)) (S.1 (30 + 11 + 3))) (30 + 11) n (fr T 0) := by
    refine ScR_tr (S := S) (k := 30 + 11) hn (fun j _ => by rw [mk4_0]) (fun j _ => by rw [mk4_1]) (fun j _ => by rw [mk4_2]) hS
  have e45 : (dvS S (T.1 7) n (fr T 0) d d').1 (30 + 15) = dyY S (S.1 (30 + 11 + 3)) (T.1 7) n (fr T 0) d d' := qr_s _ _ _
  have e41 : (dvS S (T.1 7) n (fr T 0) d d').1 (30 + 11) = sA (S.1 (30 + 11)) (T.1 7) n (fr T 0) d := by
    unfold dvS
    rw [qr_o (by decide), mk4_0]
  have c18 : ∀ x, 17 * x = x * 17 := fun x => by omega
  have dlo : ∀ i, i < 20 * d' → dv2 T n d d' i = T.1 12 i := by
    intro i hi
    unfold dv2 dv1
    rw [if_neg (by omega), pk_un (by omega), if_neg (by omega)]
  have dhi : ∀ i, i < 15 → dv2 T n d d' (20 * d' + i) = fr T 0 i := by
    intro i hi
    unfold dv2 dv1
    rw [if_neg (by omega), pk_un (by omega), if_pos (by omega)]
    congr 1
    omega
  refine ⟨?_, ?_, ?_, ?_, ?_, d' + 1, by omega, ?_, ?_, ?_⟩
  · unfold dvS
    exact GodR_wR hn (by omega) (GodR_mk4 (by omega) hn (GodR_wR hn (by omega) hG))
  · unfold dvS
    exact ScR_wR hn (by omega) (ScR_day hn hS4)
  · rw [e41, sA_3, hg]; rfl
  · rw [e41, sA_4, hh]; rfl
  · exact FInv_day hn hF h14 (by omega) hd hcan
  · exact dy14 h14
  · rw [e45]
    refine HatR_day hn hGI h14 (fun i hi => dyY_lo (by omega)) ?_ hH
    rw [c18]; exact dyY_1
  · intro x hx
    rw [e45]
    by_cases hxe : x = d'
    · subst hxe
      refine ⟨?_, ?_, ?_, ?_, ?_, ?_, ?_⟩
      · rw [c18, dyY_0]
        unfold dv2
        rw [if_neg (by omega), pk_us]
      · rw [c18, dyY_1]
        exact nib_fd
      · intro g hgn
        rw [c18, dyY_2 hn hgn]
        unfold dv2
        rw [if_pos (by omega), show 20 * x + 16 + g - (20 * x + 16) = g by omega]
        exact (if_pos hgn).symm
      · refine SavR_D hn dhi ?_
        rw [c18]
        exact SavR_tr hn (fun i h1 h2 => dyY_6 h1 (by omega)) (SavR_sv hn hS hg hh)
      · exact FInv_D hn dhi hF
      · rw [dhi 14 (by omega)]; exact h14
      · refine HatR_D hn dhi (HatR_tr (fun i hi => dyY_lo (by omega)) hH)
    · refine DayR_D hn (fun i hi => dlo i (by omega)) (DayR_tr hn (fun i hi => dyY_lo (by omega)) (hD x (by omega)))
