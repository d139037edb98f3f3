theorem lg_cmp_self (x : Int64) : lg_cmp x x = 0 := by simp [lg_cmp]
def St_row (Rel : vS → vS → Prop) : Prop := ∀ (S T : vS) (a1 a2 : Int32), Rel S T → ∃ (r : Int32 × vS) (t : Int32 × vS), mX6_row S a1 a2 = some r ∧ mX7_row T a1 a2 = some t ∧ r.1 = t.1 ∧ Rel r.2 t.2
def St_lay (Rel : vS → vS → Prop) : Prop := ∀ (S T : vS) (a1 a2 a3 : Int32), Rel S T → ∃ (r : Int32 × vS) (t : Int32 × vS), mX6_lay S a1 a2 a3 = some r ∧ mX7_lay T a1 a2 a3 = some t ∧ r.1 = t.1 ∧ Rel r.2 t.2
def St_at (Rel : vS → vS → Prop) : Prop := ∀ (S T : vS) (a1 a2 : Int32), Rel S T → ∃ (r : Int32 × vS) (t : Int32 × vS), mX6_at S a1 a2 = some r ∧ mX7_at T a1 a2 = some t ∧ r.1 = t.1 ∧ Rel r.2 t.2
def St_tear (Rel : vS → vS → Prop) : Prop := ∀ (S T : vS) (a1 : Int32), Rel S T → ∃ (r : Int32 × vS) (t : Int32 × vS), mX6_tear S a1 = some r ∧ mX7_tear T a1 = some t ∧ r.1 = t.1 ∧ Rel r.2 t.2
def St_copy (Rel : vS → vS → Prop) : Prop := ∀ (S T : vS) (a1 a2 a3 a4 a5 : Int32), Rel S T → ∃ (r : Int32 × vS) (t : Int32 × vS), mX6_copy S a1 a2 a3 a4 a5 = some r ∧ mX7_copy T a1 a2 a3 a4 a5 = some t ∧ r.1 = t.1 ∧ Rel r.2 t.2
def St_mean (Rel : vS → vS → Prop) : Prop := ∀ (S T : vS) (a1 : Int32), Rel S T → ∃ (r : Int32 × vS) (t : Int32 × vS), mX6_mean S a1 = some r ∧ mX7_mean T a1 = some t ∧ r.1 = t.1 ∧ Rel r.2 t.2
def St_text (Rel : vS → vS → Prop) : Prop := ∀ (S T : vS) (a1 a2 : Int32), Rel S T → ∃ (r : Int32 × vS) (t : Int32 × vS), mX6_text S a1 a2 = some r ∧ mX7_text T a1 a2 = some t ∧ r.1 = t.1 ∧ Rel r.2 t.2
def St_put (Rel : vS → vS → Prop) : Prop := ∀ (S T : vS) (a1 a2 a3 : Int32), Rel S T → ∃ (r : Int32 × vS) (t : Int32 × vS), mX6_put S a1 a2 a3 = some r ∧ mX7_put T a1 a2 a3 = some t ∧ r.1 = t.1 ∧ Rel r.2 t.2
def St_fault (Rel : vS → vS → Prop) : Prop := ∀ (S T : vS) (a1 : Int32), Rel S T → ∃ (r : Int32 × vS) (t : Int32 × vS), mX6_fault S a1 = some r ∧ mX7_fault T a1 = some t ∧ r.1 = t.1 ∧ Rel r.2 t.2
def St_valley (Rel : vS → vS → Prop) : Prop := ∀ (S T : vS) (a1 : Int32), Rel S T → ∃ (r : Int32 × vS) (t : Int32 × vS), mX6_valley S a1 = some r ∧ mX7_valley T a1 = some t ∧ r.1 = t.1 ∧ Rel r.2 t.2
def St_god (Rel : vS → vS → Prop) : Prop := ∀ (S T : vS) (a1 a2 : Int32), Rel S T → ∃ (r : Int32 × vS) (t : Int32 × vS), mX6_god S a1 a2 = some r ∧ mX7_god T a1 a2 = some t ∧ r.1 = t.1 ∧ Rel r.2 t.2
def St_mark (Rel : vS → vS → Prop) : Prop := ∀ (S T : vS) (a1 a2 : Int32), Rel S T → ∃ (r : Int32 × vS) (t : Int32 × vS), mX6_mark S a1 a2 = some r ∧ mX7_mark T a1 a2 = some t ∧ r.1 = t.1 ∧ Rel r.2 t.2
def St_store (Rel : vS → vS → Prop) : Prop := ∀ (S T : vS) (a1 a2 : Int32), Rel S T → ∃ (r : Int32 × vS) (t : Int32 × vS), mX6_store S a1 a2 = some r ∧ mX7_store T a1 a2 = some t ∧ r.1 = t.1 ∧ Rel r.2 t.2
def St_stores (Rel : vS → vS → Prop) : Prop := ∀ (S T : vS) (a1 : Int32), Rel S T → ∃ (r : Int32) (t : Int32), mX6_stores S a1 = some r ∧ mX7_stores T a1 = some t ∧ r = t ∧ Rel S T
def St_patience (Rel : vS → vS → Prop) : Prop := ∀ (S T : vS) (a1 a2 : Int32), Rel S T → ∃ (r : Int32 × vS) (t : Int32 × vS), mX6_patience S a1 a2 = some r ∧ mX7_patience T a1 a2 = some t ∧ r.1 = t.1 ∧ Rel r.2 t.2
def St_offer (Rel : vS → vS → Prop) : Prop := ∀ (S T : vS) (a1 : Int32), Rel S T → ∃ (r : Int32 × vS) (t : Int32 × vS), mX6_offer S a1 = some r ∧ mX7_offer T a1 = some t ∧ r.1 = t.1 ∧ Rel r.2 t.2
def St_may (Rel : vS → vS → Prop) : Prop := ∀ (S T : vS) (a1 : Int32), Rel S T → ∃ (r : Int32) (t : Int32), mX6_may S a1 = some r ∧ mX7_may T a1 = some t ∧ r = t ∧ Rel S T
def St_rest (Rel : vS → vS → Prop) : Prop := ∀ (S T : vS) (a1 : Int32), Rel S T → ∃ (r : Int32 × vS) (t : Int32 × vS), mX6_rest S a1 = some r ∧ mX7_rest T a1 = some t ∧ r.1 = t.1 ∧ Rel r.2 t.2
def St_sent (Rel : vS → vS → Prop) : Prop := ∀ (S T : vS) (a1 a2 : Int32), Rel S T → ∃ (r : Int32 × vS) (t : Int32 × vS), mX6_sent S a1 a2 = some r ∧ mX7_sent T a1 a2 = some t ∧ r.1 = t.1 ∧ Rel r.2 t.2
def St_offered (Rel : vS → vS → Prop) : Prop := ∀ (S T : vS) (a1 : Int32), Rel S T → ∃ (r : Int32 × vS) (t : Int32 × vS), mX6_offered S a1 = some r ∧ mX7_offered T a1 = some t ∧ r.1 = t.1 ∧ Rel r.2 t.2
def St_undo (Rel : vS → vS → Prop) : Prop := ∀ (S T : vS) (a1 : Int32), Rel S T → ∃ (r : Int32 × vS) (t : Int32 × vS), mX6_undo S a1 = some r ∧ mX7_undo T a1 = some t ∧ r.1 = t.1 ∧ Rel r.2 t.2
def St_sums (Rel : vS → vS → Prop) : Prop := ∀ (S T : vS), Rel S T → ∃ (t : Int32 × vS), mX7_sums T = some t ∧ (mX6_sums S).1 = t.1 ∧ Rel (mX6_sums S).2 t.2
def St_keep (Rel : vS → vS → Prop) : Prop := ∀ (S T : vS) (a1 : Int32), Rel S T → ∃ (r : Int32 × vS) (t : Int32 × vS), mX6_keep S a1 = some r ∧ mX7_keep T a1 = some t ∧ r.1 = t.1 ∧ Rel r.2 t.2
def St_on (Rel : vS → vS → Prop) : Prop := ∀ (S T : vS) (a1 : Int32), Rel S T → ∃ (r : Int32 × vS) (t : Int32 × vS), mX6_on S a1 = some r ∧ mX7_on T a1 = some t ∧ r.1 = t.1 ∧ Rel r.2 t.2
def St_best (Rel : vS → vS → Prop) : Prop := ∀ (S T : vS) (a1 a2 : Int32), Rel S T → ∃ (r : Int32 × vS) (t : Int32 × vS), mX6_best S a1 a2 = some r ∧ mX7_best T a1 a2 = some t ∧ r.1 = t.1 ∧ Rel r.2 t.2
def St_tries (Rel : vS → vS → Prop) : Prop := ∀ (S T : vS) (a1 : Int32), Rel S T → ∃ (r : Int32 × vS) (t : Int32 × vS), mX6_tries S a1 = some r ∧ mX7_tries T a1 = some t ∧ r.1 = t.1 ∧ Rel r.2 t.2
def St_safe (Rel : vS → vS → Prop) : Prop := ∀ (S T : vS) (a1 a2 : Int32), Rel S T → ∃ (r : Int32 × vS) (t : Int32 × vS), mX6_safe S a1 a2 = some r ∧ mX7_safe T a1 a2 = some t ∧ r.1 = t.1 ∧ Rel r.2 t.2
def St_share (Rel : vS → vS → Prop) : Prop := ∀ (S T : vS) (a1 : Int32), Rel S T → ∃ (r : Int32 × vS) (t : Int32 × vS), mX6_share S a1 = some r ∧ mX7_share T a1 = some t ∧ r.1 = t.1 ∧ Rel r.2 t.2
def St_food (Rel : vS → vS → Prop) : Prop := ∀ (S T : vS) (a1 : Int32), Rel S T → ∃ (r : Int32 × vS) (t : Int32 × vS), mX6_food S a1 = some r ∧ mX7_food T a1 = some t ∧ r.1 = t.1 ∧ Rel r.2 t.2
def St_harm (Rel : vS → vS → Prop) : Prop := ∀ (S T : vS) (a1 : Int32), Rel S T → ∃ (r : Int32 × vS) (t : Int32 × vS), mX6_harm S a1 = some r ∧ mX7_harm T a1 = some t ∧ r.1 = t.1 ∧ Rel r.2 t.2
def St_starve (Rel : vS → vS → Prop) : Prop := ∀ (S T : vS) (a1 : Int32), Rel S T → ∃ (r : Int32 × vS) (t : Int32 × vS), mX6_starve S a1 = some r ∧ mX7_starve T a1 = some t ∧ r.1 = t.1 ∧ Rel r.2 t.2
def St_price (Rel : vS → vS → Prop) : Prop := ∀ (S T : vS) (a1 a2 : Int32), Rel S T → ∃ (r : Int32 × vS) (t : Int32 × vS), mX6_price S a1 a2 = some r ∧ mX7_price T a1 a2 = some t ∧ r.1 = t.1 ∧ Rel r.2 t.2
def St_altar (Rel : vS → vS → Prop) : Prop := ∀ (S T : vS) (a1 a2 a3 a4 : Int32), Rel S T → ∃ (r : Int32 × vS) (t : Int32 × vS), mX6_altar S a1 a2 a3 a4 = some r ∧ mX7_altar T a1 a2 a3 a4 = some t ∧ r.1 = t.1 ∧ Rel r.2 t.2
def St_turns (Rel : vS → vS → Prop) : Prop := ∀ (S T : vS) (a1 a2 : Int32), Rel S T → ∃ (r : Int32 × vS) (t : Int32 × vS), mX6_turns S a1 a2 = some r ∧ mX7_turns T a1 a2 = some t ∧ r.1 = t.1 ∧ Rel r.2 t.2
def St_fits (Rel : vS → vS → Prop) : Prop := ∀ (S T : vS) (a1 a2 a3 : Int32), Rel S T → ∃ (r : Int32 × vS) (t : Int32 × vS), mX6_fits S a1 a2 a3 = some r ∧ mX7_fits T a1 a2 a3 = some t ∧ r.1 = t.1 ∧ Rel r.2 t.2
def St_whose (Rel : vS → vS → Prop) : Prop := ∀ (S T : vS) (a1 a2 : Int32), Rel S T → ∃ (r : Int32 × vS) (t : Int32 × vS), mX6_whose S a1 a2 = some r ∧ mX7_whose T a1 a2 = some t ∧ r.1 = t.1 ∧ Rel r.2 t.2
def St_ask (Rel : vS → vS → Prop) : Prop := ∀ (S T : vS) (a1 : Int32), Rel S T → ∃ (r : Int32 × vS) (t : Int32 × vS), mX6_ask S a1 = some r ∧ mX7_ask T a1 = some t ∧ r.1 = t.1 ∧ Rel r.2 t.2
def St_year (Rel : vS → vS → Prop) : Prop := ∀ (S T : vS) (a1 a2 : Int32), Rel S T → ∃ (r : Int32 × vS) (t : Int32 × vS), mX6_year S a1 a2 = some r ∧ mX7_year T a1 a2 = some t ∧ r.1 = t.1 ∧ Rel r.2 t.2
def St_asked (Rel : vS → vS → Prop) : Prop := ∀ (S T : vS), Rel S T → (mX6_asked S) = (mX7_asked T) ∧ Rel S T
def St_upper (Rel : vS → vS → Prop) : Prop := ∀ (S T : vS), Rel S T → (mX6_upper S) = (mX7_upper T) ∧ Rel S T
def St_lower (Rel : vS → vS → Prop) : Prop := ∀ (S T : vS), Rel S T → (mX6_lower S) = (mX7_lower T) ∧ Rel S T
def St_count (Rel : vS → vS → Prop) : Prop := ∀ (S T : vS) (a1 : Int32), Rel S T → ∃ (r : Int32) (t : Int32), mX6_count S a1 = some r ∧ mX7_count T a1 = some t ∧ r = t ∧ Rel S T
def St_finding (Rel : vS → vS → Prop) : Prop := ∀ (S T : vS), Rel S T → (mX6_finding S) = (mX7_finding T) ∧ Rel S T
def St_findings (Rel : vS → vS → Prop) : Prop := ∀ (S T : vS) (a1 : Int32), Rel S T → ∃ (r : Int32) (t : Int32), mX6_findings S a1 = some r ∧ mX7_findings T a1 = some t ∧ r = t ∧ Rel S T
def St_digest (Rel : vS → vS → Prop) : Prop := ∀ (S T : vS), Rel S T → ∃ (r : Int64) (t : Int64 × vS), mX6_digest S = some r ∧ mX7_digest T = some t ∧ r = t.1 ∧ Rel S t.2
def AllSteps (Rel : vS → vS → Prop) : Prop := St_row Rel ∧ St_lay Rel ∧ St_at Rel ∧ St_tear Rel ∧ St_copy Rel ∧ St_mean Rel ∧ St_text Rel ∧ St_put Rel ∧ St_fault Rel ∧ St_valley Rel ∧ St_god Rel ∧ St_mark Rel ∧ St_store Rel ∧ St_stores Rel ∧ St_patience Rel ∧ St_offer Rel ∧ St_may Rel ∧ St_rest Rel ∧ St_sent Rel ∧ St_offered Rel ∧ St_undo Rel ∧ St_sums Rel ∧ St_keep Rel ∧ St_on Rel ∧ St_best Rel ∧ St_tries Rel ∧ St_safe Rel ∧ St_share Rel ∧ St_food Rel ∧ St_harm Rel ∧ St_starve Rel ∧ St_price Rel ∧ St_altar Rel ∧ St_turns Rel ∧ St_fits Rel ∧ St_whose Rel ∧ St_ask Rel ∧ St_year Rel ∧ St_asked Rel ∧ St_upper Rel ∧ St_lower Rel ∧ St_count Rel ∧ St_finding Rel ∧ St_findings Rel ∧ St_digest Rel
set_option maxHeartbeats 4000000 in
set_option maxRecDepth 100000 in
theorem lc_row {p : Program} {l : Launch} {e : Env} {s : State} {m : MethodId} {below : List Frame} {meth : Method} {c : Code} {D : va_G} {cA : Nat → ClassId} {aC : Nat → Nat} {cM : Nat → ClassId} {aM : Nat → Nat} {kl b L : Nat} {xs : Nat → Int32} {Rel : vS → vS → Prop} (hL : L ≤ 3072) (C0 : lw_At p s m meth c b L xs) (hG : LG D cA aC cM aM kl s) (hst : St_row Rel) {i : Nat} (hi : i + 6 ≤ L) {S T : vS} (hR : Rel S T) {H : Heap} {locs : List Loc} (hH : LH D cA aC cM aM s S T H locs) {ls : Array Slot} (hl : lv_has ls 4 [(0, .ref b), (1, .ref (aC 0)), (2, .ref (aM 0)), (3, .int (nI i))]) (kk : ∀ (S T : vS) (H : Heap) (locs : List Loc), Rel S T → LH D cA aC cM aM s S T H locs → W p l e room_1 s m #[Value.ref b] below meth c H locs 600000 7302250 (lw_Z below #[Value.ref b] s) (F0 m 1476 ls [])) : W p l e room_1 s m #[Value.ref b] below meth c H locs 600000 7302250 (lw_Z below #[Value.ref b] s) (F0 m 228 ls []) := by
  obtain ⟨hx, hb, hr, hml, hown, hts, hX, hbl, hlocks, hgv⟩ := id C0
  have hbA : ¬ A0 s b := Nat.not_le.mpr hbl
  obtain ⟨G1, G2, K1, K2, E1, hne, hn1, hn2⟩ := id hG
  obtain ⟨hP, hT, hS⟩ := hH
  have h_1 : vp_in (nI i + 1) L := by rw [show (1 : Int32) = nI 1 from rfl, nI_add]; exact vp_in_nI (by omega) (by omega)
  have h_2 : vp_in (nI i + 2) L := by rw [show (2 : Int32) = nI 2 from rfl, nI_add]; exact vp_in_nI (by omega) (by omega)
  obtain ⟨r, t, e1, e2, hv, hR1⟩ := hst S T (xs (nI i + 1).toNatClampNeg) (xs (nI i + 2).toNatClampNeg) hR
  refine lv_aload_n hx hb dL_law_228 rfl (lv_at hl 1 rfl) ?_
  refine lv_aload_n hx hb dL_law_229 rfl (lv_at hl 0 rfl) ?_
  refine lv_iload_n hx hb dL_law_230 rfl (lv_at hl 3 rfl) ?_
  refine lv_iconst (v := 1) hx hb dL_law_231 (by decide) ?_
  refine lv_iadd hx hb dL_law_232 ?_
  refine va_sld hx hb hX hbl hbA hS h_1 dL_law_233 ?_
  refine lv_aload_n hx hb dL_law_234 rfl (lv_at hl 0 rfl) ?_
  refine lv_iload_n hx hb dL_law_235 rfl (lv_at hl 3 rfl) ?_
  refine lv_iconst (v := 2) hx hb dL_law_236 (by decide) ?_
  refine lv_iadd hx hb dL_law_237 ?_
  refine va_sld hx hb hX hbl hbA hS h_2 dL_law_238 ?_
  refine lw_call (n := 2) (As := [.int (xs (nI i + 1).toNatClampNeg), .int (xs (nI i + 2).toNatClampNeg)]) C0 G1 K1 E1 hn1 (c_X6_row G1 (xs (nI i + 1).toNatClampNeg) (xs (nI i + 2).toNatClampNeg) S _ e1) wc_X6_row wm_L_13 wz_X6 (by decide +kernel) wi_X6_row ws_X6_row rfl is6 rfl ⟨rfl, rfl⟩ ⟨Nat.le_of_ble_eq_true rfl, Nat.le_of_ble_eq_true rfl⟩ ⟨Nat.le_refl _, Nat.le_refl _⟩ rfl hl.1 (Nat.le_of_ble_eq_true rfl) rfl dL_law_239 hP hS (fun H1 locs1 hP hS hk => ?_)
  replace hT := wsl_kept hT hne hk
  refine lv_aload_n hx hb dL_law_242 rfl (lv_at hl 2 rfl) ?_
  refine lv_aload_n hx hb dL_law_243 rfl (lv_at hl 0 rfl) ?_
  refine lv_iload_n hx hb dL_law_244 rfl (lv_at hl 3 rfl) ?_
  refine lv_iconst (v := 1) hx hb dL_law_245 (by decide) ?_
  refine lv_iadd hx hb dL_law_246 ?_
  refine va_sld hx hb hX hbl hbA hS h_1 dL_law_247 ?_
  refine lv_aload_n hx hb dL_law_248 rfl (lv_at hl 0 rfl) ?_
  refine lv_iload_n hx hb dL_law_249 rfl (lv_at hl 3 rfl) ?_
  refine lv_iconst (v := 2) hx hb dL_law_250 (by decide) ?_
  refine lv_iadd hx hb dL_law_251 ?_
  refine va_sld hx hb hX hbl hbA hS h_2 dL_law_252 ?_
  refine lw_call (n := 2) (As := [.int (xs (nI i + 1).toNatClampNeg), .int (xs (nI i + 2).toNatClampNeg)]) C0 G2 K2 trivial hn2 (c_X7_row G2 (xs (nI i + 1).toNatClampNeg) (xs (nI i + 2).toNatClampNeg) T _ e2) wc_X7_row wm_L_17 wz_X7 (by decide +kernel) wi_X7_row ws_X7_row rfl is7 rfl ⟨rfl, rfl⟩ ⟨Nat.le_of_ble_eq_true rfl, Nat.le_of_ble_eq_true rfl⟩ ⟨Nat.le_refl _, Nat.le_refl _⟩ rfl hl.1 (Nat.le_of_ble_eq_true rfl) rfl dL_law_253 hT hS (fun H2 locs2 hT hS hk => ?_)
  replace hP := wsl_kept hP (fun j k h1 h2 z => hne k j h2 h1 z.symm) hk
  refine lv_icmp_eq (tgt := 1476) hx hb dL_law_256 (by decide) (fun _ => ?_) (fun h => absurd hv h)
  exact kk _ _ _ _ hR1 ⟨hP, hT, hS⟩
set_option maxHeartbeats 4000000 in
set_option maxRecDepth 100000 in
theorem lc_lay {p : Program} {l : Launch} {e : Env} {s : State} {m : MethodId} {below : List Frame} {meth : Method} {c : Code} {D : va_G} {cA : Nat → ClassId} {aC : Nat → Nat} {cM : Nat → ClassId} {aM : Nat → Nat} {kl b L : Nat} {xs : Nat → Int32} {Rel : vS → vS → Prop} (hL : L ≤ 3072) (C0 : lw_At p s m meth c b L xs) (hG : LG D cA aC cM aM kl s) (hst : St_lay Rel) {i : Nat} (hi : i + 6 ≤ L) {S T : vS} (hR : Rel S T) {H : Heap} {locs : List Loc} (hH : LH D cA aC cM aM s S T H locs) {ls : Array Slot} (hl : lv_has ls 4 [(0, .ref b), (1, .ref (aC 0)), (2, .ref (aM 0)), (3, .int (nI i))]) (kk : ∀ (S T : vS) (H : Heap) (locs : List Loc), Rel S T → LH D cA aC cM aM s S T H locs → W p l e room_1 s m #[Value.ref b] below meth c H locs 600000 7302250 (lw_Z below #[Value.ref b] s) (F0 m 1476 ls [])) : W p l e room_1 s m #[Value.ref b] below meth c H locs 600000 7302250 (lw_Z below #[Value.ref b] s) (F0 m 261 ls []) := by
  obtain ⟨hx, hb, hr, hml, hown, hts, hX, hbl, hlocks, hgv⟩ := id C0
  have hbA : ¬ A0 s b := Nat.not_le.mpr hbl
  obtain ⟨G1, G2, K1, K2, E1, hne, hn1, hn2⟩ := id hG
  obtain ⟨hP, hT, hS⟩ := hH
  have h_1 : vp_in (nI i + 1) L := by rw [show (1 : Int32) = nI 1 from rfl, nI_add]; exact vp_in_nI (by omega) (by omega)
  have h_2 : vp_in (nI i + 2) L := by rw [show (2 : Int32) = nI 2 from rfl, nI_add]; exact vp_in_nI (by omega) (by omega)
  have h_3 : vp_in (nI i + 3) L := by rw [show (3 : Int32) = nI 3 from rfl, nI_add]; exact vp_in_nI (by omega) (by omega)
  obtain ⟨r, t, e1, e2, hv, hR1⟩ := hst S T (xs (nI i + 1).toNatClampNeg) (xs (nI i + 2).toNatClampNeg) (xs (nI i + 3).toNatClampNeg) hR
  refine lv_aload_n hx hb dL_law_261 rfl (lv_at hl 1 rfl) ?_
  refine lv_aload_n hx hb dL_law_262 rfl (lv_at hl 0 rfl) ?_
  refine lv_iload_n hx hb dL_law_263 rfl (lv_at hl 3 rfl) ?_
  refine lv_iconst (v := 1) hx hb dL_law_264 (by decide) ?_
  refine lv_iadd hx hb dL_law_265 ?_
  refine va_sld hx hb hX hbl hbA hS h_1 dL_law_266 ?_
  refine lv_aload_n hx hb dL_law_267 rfl (lv_at hl 0 rfl) ?_
  refine lv_iload_n hx hb dL_law_268 rfl (lv_at hl 3 rfl) ?_
  refine lv_iconst (v := 2) hx hb dL_law_269 (by decide) ?_
  refine lv_iadd hx hb dL_law_270 ?_
  refine va_sld hx hb hX hbl hbA hS h_2 dL_law_271 ?_
  refine lv_aload_n hx hb dL_law_272 rfl (lv_at hl 0 rfl) ?_
  refine lv_iload_n hx hb dL_law_273 rfl (lv_at hl 3 rfl) ?_
  refine lv_iconst (v := 3) hx hb dL_law_274 (by decide) ?_
  refine lv_iadd hx hb dL_law_275 ?_
  refine va_sld hx hb hX hbl hbA hS h_3 dL_law_276 ?_
  refine lw_call (n := 3) (As := [.int (xs (nI i + 1).toNatClampNeg), .int (xs (nI i + 2).toNatClampNeg), .int (xs (nI i + 3).toNatClampNeg)]) C0 G1 K1 E1 hn1 (c_X6_lay G1 (xs (nI i + 1).toNatClampNeg) (xs (nI i + 2).toNatClampNeg) (xs (nI i + 3).toNatClampNeg) S _ e1) wc_X6_lay wm_L_18 wz_X6 (by decide +kernel) wi_X6_lay ws_X6_lay rfl is6 rfl ⟨rfl, rfl⟩ ⟨Nat.le_of_ble_eq_true rfl, Nat.le_of_ble_eq_true rfl⟩ ⟨Nat.le_refl _, Nat.le_refl _⟩ rfl hl.1 (Nat.le_of_ble_eq_true rfl) rfl dL_law_277 hP hS (fun H1 locs1 hP hS hk => ?_)
  replace hT := wsl_kept hT hne hk
  refine lv_aload_n hx hb dL_law_280 rfl (lv_at hl 2 rfl) ?_
  refine lv_aload_n hx hb dL_law_281 rfl (lv_at hl 0 rfl) ?_
  refine lv_iload_n hx hb dL_law_282 rfl (lv_at hl 3 rfl) ?_
  refine lv_iconst (v := 1) hx hb dL_law_283 (by decide) ?_
  refine lv_iadd hx hb dL_law_284 ?_
  refine va_sld hx hb hX hbl hbA hS h_1 dL_law_285 ?_
  refine lv_aload_n hx hb dL_law_286 rfl (lv_at hl 0 rfl) ?_
  refine lv_iload_n hx hb dL_law_287 rfl (lv_at hl 3 rfl) ?_
  refine lv_iconst (v := 2) hx hb dL_law_288 (by decide) ?_
  refine lv_iadd hx hb dL_law_289 ?_
  refine va_sld hx hb hX hbl hbA hS h_2 dL_law_290 ?_
  refine lv_aload_n hx hb dL_law_291 rfl (lv_at hl 0 rfl) ?_
  refine lv_iload_n hx hb dL_law_292 rfl (lv_at hl 3 rfl) ?_
  refine lv_iconst (v := 3) hx hb dL_law_293 (by decide) ?_
  refine lv_iadd hx hb dL_law_294 ?_
  refine va_sld hx hb hX hbl hbA hS h_3 dL_law_295 ?_
  refine lw_call (n := 3) (As := [.int (xs (nI i + 1).toNatClampNeg), .int (xs (nI i + 2).toNatClampNeg), .int (xs (nI i + 3).toNatClampNeg)]) C0 G2 K2 trivial hn2 (c_X7_lay G2 (xs (nI i + 1).toNatClampNeg) (xs (nI i + 2).toNatClampNeg) (xs (nI i + 3).toNatClampNeg) T _ e2) wc_X7_lay wm_L_22 wz_X7 (by decide +kernel) wi_X7_lay ws_X7_lay rfl is7 rfl ⟨rfl, rfl⟩ ⟨Nat.le_of_ble_eq_true rfl, Nat.le_of_ble_eq_true rfl⟩ ⟨Nat.le_refl _, Nat.le_refl _⟩ rfl hl.1 (Nat.le_of_ble_eq_true rfl) rfl dL_law_296 hT hS (fun H2 locs2 hT hS hk => ?_)
  replace hP := wsl_kept hP (fun j k h1 h2 z => hne k j h2 h1 z.symm) hk
  refine lv_icmp_eq (tgt := 1476) hx hb dL_law_299 (by decide) (fun _ => ?_) (fun h => absurd hv h)
  exact kk _ _ _ _ hR1 ⟨hP, hT, hS⟩
set_option maxHeartbeats 4000000 in
set_option maxRecDepth 100000 in
theorem lc_at {p : Program} {l : Launch} {e : Env} {s : State} {m : MethodId} {below : List Frame} {meth : Method} {c : Code} {D : va_G} {cA : Nat → ClassId} {aC : Nat → Nat} {cM : Nat → ClassId} {aM : Nat → Nat} {kl b L : Nat} {xs : Nat → Int32} {Rel : vS → vS → Prop} (hL : L ≤ 3072) (C0 : lw_At p s m meth c b L xs) (hG : LG D cA aC cM aM kl s) (hst : St_at Rel) {i : Nat} (hi : i + 6 ≤ L) {S T : vS} (hR : Rel S T) {H : Heap} {locs : List Loc} (hH : LH D cA aC cM aM s S T H locs) {ls : Array Slot} (hl : lv_has ls 4 [(0, .ref b), (1, .ref (aC 0)), (2, .ref (aM 0)), (3, .int (nI i))]) (kk : ∀ (S T : vS) (H : Heap) (locs : List Loc), Rel S T → LH D cA aC cM aM s S T H locs → W p l e room_1 s m #[Value.ref b] below meth c H locs 600000 7302250 (lw_Z below #[Value.ref b] s) (F0 m 1476 ls [])) : W p l e room_1 s m #[Value.ref b] below meth c H locs 600000 7302250 (lw_Z below #[Value.ref b] s) (F0 m 304 ls []) := by
  obtain ⟨hx, hb, hr, hml, hown, hts, hX, hbl, hlocks, hgv⟩ := id C0
  have hbA : ¬ A0 s b := Nat.not_le.mpr hbl
  obtain ⟨G1, G2, K1, K2, E1, hne, hn1, hn2⟩ := id hG
  obtain ⟨hP, hT, hS⟩ := hH
  have h_1 : vp_in (nI i + 1) L := by rw [show (1 : Int32) = nI 1 from rfl, nI_add]; exact vp_in_nI (by omega) (by omega)
  have h_2 : vp_in (nI i + 2) L := by rw [show (2 : Int32) = nI 2 from rfl, nI_add]; exact vp_in_nI (by omega) (by omega)
  obtain ⟨r, t, e1, e2, hv, hR1⟩ := hst S T (xs (nI i + 1).toNatClampNeg) (xs (nI i + 2).toNatClampNeg) hR
  refine lv_aload_n hx hb dL_law_304 rfl (lv_at hl 1 rfl) ?_
  refine lv_aload_n hx hb dL_law_305 rfl (lv_at hl 0 rfl) ?_
  refine lv_iload_n hx hb dL_law_306 rfl (lv_at hl 3 rfl) ?_
  refine lv_iconst (v := 1) hx hb dL_law_307 (by decide) ?_
  refine lv_iadd hx hb dL_law_308 ?_
  refine va_sld hx hb hX hbl hbA hS h_1 dL_law_309 ?_
  refine lv_aload_n hx hb dL_law_310 rfl (lv_at hl 0 rfl) ?_
  refine lv_iload_n hx hb dL_law_311 rfl (lv_at hl 3 rfl) ?_
  refine lv_iconst (v := 2) hx hb dL_law_312 (by decide) ?_
  refine lv_iadd hx hb dL_law_313 ?_
  refine va_sld hx hb hX hbl hbA hS h_2 dL_law_314 ?_
  refine lw_call (n := 2) (As := [.int (xs (nI i + 1).toNatClampNeg), .int (xs (nI i + 2).toNatClampNeg)]) C0 G1 K1 E1 hn1 (c_X6_at G1 (xs (nI i + 1).toNatClampNeg) (xs (nI i + 2).toNatClampNeg) S _ e1) wc_X6_at wm_L_23 wz_X6 (by decide +kernel) wi_X6_at ws_X6_at rfl is6 rfl ⟨rfl, rfl⟩ ⟨Nat.le_of_ble_eq_true rfl, Nat.le_of_ble_eq_true rfl⟩ ⟨Nat.le_refl _, Nat.le_refl _⟩ rfl hl.1 (Nat.le_of_ble_eq_true rfl) rfl dL_law_315 hP hS (fun H1 locs1 hP hS hk => ?_)
  replace hT := wsl_kept hT hne hk
  refine lv_aload_n hx hb dL_law_318 rfl (lv_at hl 2 rfl) ?_
  refine lv_aload_n hx hb dL_law_319 rfl (lv_at hl 0 rfl) ?_
  refine lv_iload_n hx hb dL_law_320 rfl (lv_at hl 3 rfl) ?_
  refine lv_iconst (v := 1) hx hb dL_law_321 (by decide) ?_
  refine lv_iadd hx hb dL_law_322 ?_
  refine va_sld hx hb hX hbl hbA hS h_1 dL_law_323 ?_
  refine lv_aload_n hx hb dL_law_324 rfl (lv_at hl 0 rfl) ?_
  refine lv_iload_n hx hb dL_law_325 rfl (lv_at hl 3 rfl) ?_
  refine lv_iconst (v := 2) hx hb dL_law_326 (by decide) ?_
  refine lv_iadd hx hb dL_law_327 ?_
  refine va_sld hx hb hX hbl hbA hS h_2 dL_law_328 ?_
  refine lw_call (n := 2) (As := [.int (xs (nI i + 1).toNatClampNeg), .int (xs (nI i + 2).toNatClampNeg)]) C0 G2 K2 trivial hn2 (c_X7_at G2 (xs (nI i + 1).toNatClampNeg) (xs (nI i + 2).toNatClampNeg) T _ e2) wc_X7_at wm_L_26 wz_X7 (by decide +kernel) wi_X7_at ws_X7_at rfl is7 rfl ⟨rfl, rfl⟩ ⟨Nat.le_of_ble_eq_true rfl, Nat.le_of_ble_eq_true rfl⟩ ⟨Nat.le_refl _, Nat.le_refl _⟩ rfl hl.1 (Nat.le_of_ble_eq_true rfl) rfl dL_law_329 hT hS (fun H2 locs2 hT hS hk => ?_)
  replace hP := wsl_kept hP (fun j k h1 h2 z => hne k j h2 h1 z.symm) hk
  refine lv_icmp_eq (tgt := 1476) hx hb dL_law_332 (by decide) (fun _ => ?_) (fun h => absurd hv h)
  exact kk _ _ _ _ hR1 ⟨hP, hT, hS⟩
set_option maxHeartbeats 4000000 in
set_option maxRecDepth 100000 in
theorem lc_tear {p : Program} {l : Launch} {e : Env} {s : State} {m : MethodId} {below : List Frame} {meth : Method} {c : Code} {D : va_G} {cA : Nat → ClassId} {aC : Nat → Nat} {cM : Nat → ClassId} {aM : Nat → Nat} {kl b L : Nat} {xs : Nat → Int32} {Rel : vS → vS → Prop} (hL : L ≤ 3072) (C0 : lw_At p s m meth c b L xs) (hG : LG D cA aC cM aM kl s) (hst : St_tear Rel) {i : Nat} (hi : i + 6 ≤ L) {S T : vS} (hR : Rel S T) {H : Heap} {locs : List Loc} (hH : LH D cA aC cM aM s S T H locs) {ls : Array Slot} (hl : lv_has ls 4 [(0, .ref b), (1, .ref (aC 0)), (2, .ref (aM 0)), (3, .int (nI i))]) (kk : ∀ (S T : vS) (H : Heap) (locs : List Loc), Rel S T → LH D cA aC cM aM s S T H locs → W p l e room_1 s m #[Value.ref b] below meth c H locs 600000 7302250 (lw_Z below #[Value.ref b] s) (F0 m 1476 ls [])) : W p l e room_1 s m #[Value.ref b] below meth c H locs 600000 7302250 (lw_Z below #[Value.ref b] s) (F0 m 337 ls []) := by
  obtain ⟨hx, hb, hr, hml, hown, hts, hX, hbl, hlocks, hgv⟩ := id C0
  have hbA : ¬ A0 s b := Nat.not_le.mpr hbl
  obtain ⟨G1, G2, K1, K2, E1, hne, hn1, hn2⟩ := id hG
  obtain ⟨hP, hT, hS⟩ := hH
  have h_1 : vp_in (nI i + 1) L := by rw [show (1 : Int32) = nI 1 from rfl, nI_add]; exact vp_in_nI (by omega) (by omega)
  obtain ⟨r, t, e1, e2, hv, hR1⟩ := hst S T (xs (nI i + 1).toNatClampNeg) hR
  refine lv_aload_n hx hb dL_law_337 rfl (lv_at hl 1 rfl) ?_
  refine lv_aload_n hx hb dL_law_338 rfl (lv_at hl 0 rfl) ?_
  refine lv_iload_n hx hb dL_law_339 rfl (lv_at hl 3 rfl) ?_
  refine lv_iconst (v := 1) hx hb dL_law_340 (by decide) ?_
  refine lv_iadd hx hb dL_law_341 ?_
  refine va_sld hx hb hX hbl hbA hS h_1 dL_law_342 ?_
  refine lw_call (n := 1) (As := [.int (xs (nI i + 1).toNatClampNeg)]) C0 G1 K1 E1 hn1 (c_X6_tear G1 (xs (nI i + 1).toNatClampNeg) S _ e1) wc_X6_tear wm_L_27 wz_X6 (by decide +kernel) wi_X6_tear ws_X6_tear rfl is6 rfl ⟨rfl, rfl⟩ ⟨Nat.le_of_ble_eq_true rfl, Nat.le_of_ble_eq_true rfl⟩ ⟨Nat.le_refl _, Nat.le_refl _⟩ rfl hl.1 (Nat.le_of_ble_eq_true rfl) rfl dL_law_343 hP hS (fun H1 locs1 hP hS hk => ?_)
  replace hT := wsl_kept hT hne hk
  refine lv_aload_n hx hb dL_law_346 rfl (lv_at hl 2 rfl) ?_
  refine lv_aload_n hx hb dL_law_347 rfl (lv_at hl 0 rfl) ?_
  refine lv_iload_n hx hb dL_law_348 rfl (lv_at hl 3 rfl) ?_
  refine lv_iconst (v := 1) hx hb dL_law_349 (by decide) ?_
  refine lv_iadd hx hb dL_law_350 ?_
  refine va_sld hx hb hX hbl hbA hS h_1 dL_law_351 ?_
  refine lw_call (n := 1) (As := [.int (xs (nI i + 1).toNatClampNeg)]) C0 G2 K2 trivial hn2 (c_X7_tear G2 (xs (nI i + 1).toNatClampNeg) T _ e2) wc_X7_tear wm_L_31 wz_X7 (by decide +kernel) wi_X7_tear ws_X7_tear rfl is7 rfl ⟨rfl, rfl⟩ ⟨Nat.le_of_ble_eq_true rfl, Nat.le_of_ble_eq_true rfl⟩ ⟨Nat.le_refl _, Nat.le_refl _⟩ rfl hl.1 (Nat.le_of_ble_eq_true rfl) rfl dL_law_352 hT hS (fun H2 locs2 hT hS hk => ?_)
  replace hP := wsl_kept hP (fun j k h1 h2 z => hne k j h2 h1 z.symm) hk
  refine lv_icmp_eq (tgt := 1476) hx hb dL_law_355 (by decide) (fun _ => ?_) (fun h => absurd hv h)
  exact kk _ _ _ _ hR1 ⟨hP, hT, hS⟩
set_option maxHeartbeats 4000000 in
set_option maxRecDepth 100000 in
theorem lc_copy {p : Program} {l : Launch} {e : Env} {s : State} {m : MethodId} {below : List Frame} {meth : Method} {c : Code} {D : va_G} {cA : Nat → ClassId} {aC : Nat → Nat} {cM : Nat → ClassId} {aM : Nat → Nat} {kl b L : Nat} {xs : Nat → Int32} {Rel : vS → vS → Prop} (hL : L ≤ 3072) (C0 : lw_At p s m meth c b L xs) (hG : LG D cA aC cM aM kl s) (hst : St_copy Rel) {i : Nat} (hi : i + 6 ≤ L) {S T : vS} (hR : Rel S T) {H : Heap} {locs : List Loc} (hH : LH D cA aC cM aM s S T H locs) {ls : Array Slot} (hl : lv_has ls 4 [(0, .ref b), (1, .ref (aC 0)), (2, .ref (aM 0)), (3, .int (nI i))]) (kk : ∀ (S T : vS) (H : Heap) (locs : List Loc), Rel S T → LH D cA aC cM aM s S T H locs → W p l e room_1 s m #[Value.ref b] below meth c H locs 600000 7302250 (lw_Z below #[Value.ref b] s) (F0 m 1476 ls [])) : W p l e room_1 s m #[Value.ref b] below meth c H locs 600000 7302250 (lw_Z below #[Value.ref b] s) (F0 m 360 ls []) := by
  obtain ⟨hx, hb, hr, hml, hown, hts, hX, hbl, hlocks, hgv⟩ := id C0
  have hbA : ¬ A0 s b := Nat.not_le.mpr hbl
  obtain ⟨G1, G2, K1, K2, E1, hne, hn1, hn2⟩ := id hG
  obtain ⟨hP, hT, hS⟩ := hH
  have h_1 : vp_in (nI i + 1) L := by rw [show (1 : Int32) = nI 1 from rfl, nI_add]; exact vp_in_nI (by omega) (by omega)
  have h_2 : vp_in (nI i + 2) L := by rw [show (2 : Int32) = nI 2 from rfl, nI_add]; exact vp_in_nI (by omega) (by omega)
  have h_3 : vp_in (nI i + 3) L := by rw [show (3 : Int32) = nI 3 from rfl, nI_add]; exact vp_in_nI (by omega) (by omega)
  have h_4 : vp_in (nI i + 4) L := by rw [show (4 : Int32) = nI 4 from rfl, nI_add]; exact vp_in_nI (by omega) (by omega)
  have h_5 : vp_in (nI i + 5) L := by rw [show (5 : Int32) = nI 5 from rfl, nI_add]; exact vp_in_nI (by omega) (by omega)
  obtain ⟨r, t, e1, e2, hv, hR1⟩ := hst S T (xs (nI i + 1).toNatClampNeg) (xs (nI i + 2).toNatClampNeg) (xs (nI i + 3).toNatClampNeg) (xs (nI i + 4).toNatClampNeg) (xs (nI i + 5).toNatClampNeg) hR
  refine lv_aload_n hx hb dL_law_360 rfl (lv_at hl 1 rfl) ?_
  refine lv_aload_n hx hb dL_law_361 rfl (lv_at hl 0 rfl) ?_
  refine lv_iload_n hx hb dL_law_362 rfl (lv_at hl 3 rfl) ?_
  refine lv_iconst (v := 1) hx hb dL_law_363 (by decide) ?_
  refine lv_iadd hx hb dL_law_364 ?_
  refine va_sld hx hb hX hbl hbA hS h_1 dL_law_365 ?_
  refine lv_aload_n hx hb dL_law_366 rfl (lv_at hl 0 rfl) ?_
  refine lv_iload_n hx hb dL_law_367 rfl (lv_at hl 3 rfl) ?_
  refine lv_iconst (v := 2) hx hb dL_law_368 (by decide) ?_
  refine lv_iadd hx hb dL_law_369 ?_
  refine va_sld hx hb hX hbl hbA hS h_2 dL_law_370 ?_
  refine lv_aload_n hx hb dL_law_371 rfl (lv_at hl 0 rfl) ?_
  refine lv_iload_n hx hb dL_law_372 rfl (lv_at hl 3 rfl) ?_
  refine lv_iconst (v := 3) hx hb dL_law_373 (by decide) ?_
  refine lv_iadd hx hb dL_law_374 ?_
  refine va_sld hx hb hX hbl hbA hS h_3 dL_law_375 ?_
  refine lv_aload_n hx hb dL_law_376 rfl (lv_at hl 0 rfl) ?_
  refine lv_iload_n hx hb dL_law_377 rfl (lv_at hl 3 rfl) ?_
  refine lv_iconst (v := 4) hx hb dL_law_378 (by decide) ?_
  refine lv_iadd hx hb dL_law_379 ?_
  refine va_sld hx hb hX hbl hbA hS h_4 dL_law_380 ?_
  refine lv_aload_n hx hb dL_law_381 rfl (lv_at hl 0 rfl) ?_
  refine lv_iload_n hx hb dL_law_382 rfl (lv_at hl 3 rfl) ?_
  refine lv_iconst (v := 5) hx hb dL_law_383 (by decide) ?_
  refine lv_iadd hx hb dL_law_384 ?_
  refine va_sld hx hb hX hbl hbA hS h_5 dL_law_385 ?_
  refine lw_call (n := 5) (As := [.int (xs (nI i + 1).toNatClampNeg), .int (xs (nI i + 2).toNatClampNeg), .int (xs (nI i + 3).toNatClampNeg), .int (xs (nI i + 4).toNatClampNeg), .int (xs (nI i + 5).toNatClampNeg)]) C0 G1 K1 E1 hn1 (c_X6_copy G1 (xs (nI i + 1).toNatClampNeg) (xs (nI i + 2).toNatClampNeg) (xs (nI i + 3).toNatClampNeg) (xs (nI i + 4).toNatClampNeg) (xs (nI i + 5).toNatClampNeg) S _ e1) wc_X6_copy wm_L_32 wz_X6 (by decide +kernel) wi_X6_copy ws_X6_copy rfl is6 rfl ⟨rfl, rfl⟩ ⟨Nat.le_of_ble_eq_true rfl, Nat.le_of_ble_eq_true rfl⟩ ⟨Nat.le_refl _, Nat.le_refl _⟩ rfl hl.1 (Nat.le_of_ble_eq_true rfl) rfl dL_law_386 hP hS (fun H1 locs1 hP hS hk => ?_)
  replace hT := wsl_kept hT hne hk
  refine lv_aload_n hx hb dL_law_389 rfl (lv_at hl 2 rfl) ?_
  refine lv_aload_n hx hb dL_law_390 rfl (lv_at hl 0 rfl) ?_
  refine lv_iload_n hx hb dL_law_391 rfl (lv_at hl 3 rfl) ?_
  refine lv_iconst (v := 1) hx hb dL_law_392 (by decide) ?_
  refine lv_iadd hx hb dL_law_393 ?_
  refine va_sld hx hb hX hbl hbA hS h_1 dL_law_394 ?_
  refine lv_aload_n hx hb dL_law_395 rfl (lv_at hl 0 rfl) ?_
  refine lv_iload_n hx hb dL_law_396 rfl (lv_at hl 3 rfl) ?_
  refine lv_iconst (v := 2) hx hb dL_law_397 (by decide) ?_
  refine lv_iadd hx hb dL_law_398 ?_
  refine va_sld hx hb hX hbl hbA hS h_2 dL_law_399 ?_
  refine lv_aload_n hx hb dL_law_400 rfl (lv_at hl 0 rfl) ?_
  refine lv_iload_n hx hb dL_law_401 rfl (lv_at hl 3 rfl) ?_
  refine lv_iconst (v := 3) hx hb dL_law_402 (by decide) ?_
  refine lv_iadd hx hb dL_law_403 ?_
  refine va_sld hx hb hX hbl hbA hS h_3 dL_law_404 ?_
  refine lv_aload_n hx hb dL_law_405 rfl (lv_at hl 0 rfl) ?_
  refine lv_iload_n hx hb dL_law_406 rfl (lv_at hl 3 rfl) ?_
  refine lv_iconst (v := 4) hx hb dL_law_407 (by decide) ?_
  refine lv_iadd hx hb dL_law_408 ?_
  refine va_sld hx hb hX hbl hbA hS h_4 dL_law_409 ?_
  refine lv_aload_n hx hb dL_law_410 rfl (lv_at hl 0 rfl) ?_
  refine lv_iload_n hx hb dL_law_411 rfl (lv_at hl 3 rfl) ?_
  refine lv_iconst (v := 5) hx hb dL_law_412 (by decide) ?_
  refine lv_iadd hx hb dL_law_413 ?_
  refine va_sld hx hb hX hbl hbA hS h_5 dL_law_414 ?_
  refine lw_call (n := 5) (As := [.int (xs (nI i + 1).toNatClampNeg), .int (xs (nI i + 2).toNatClampNeg), .int (xs (nI i + 3).toNatClampNeg), .int (xs (nI i + 4).toNatClampNeg), .int (xs (nI i + 5).toNatClampNeg)]) C0 G2 K2 trivial hn2 (c_X7_copy G2 (xs (nI i + 1).toNatClampNeg) (xs (nI i + 2).toNatClampNeg) (xs (nI i + 3).toNatClampNeg) (xs (nI i + 4).toNatClampNeg) (xs (nI i + 5).toNatClampNeg) T _ e2) wc_X7_copy wm_L_36 wz_X7 (by decide +kernel) wi_X7_copy ws_X7_copy rfl is7 rfl ⟨rfl, rfl⟩ ⟨Nat.le_of_ble_eq_true rfl, Nat.le_of_ble_eq_true rfl⟩ ⟨Nat.le_refl _, Nat.le_refl _⟩ rfl hl.1 (Nat.le_of_ble_eq_true rfl) rfl dL_law_415 hT hS (fun H2 locs2 hT hS hk => ?_)
  replace hP := wsl_kept hP (fun j k h1 h2 z => hne k j h2 h1 z.symm) hk
  refine lv_icmp_eq (tgt := 1476) hx hb dL_law_418 (by decide) (fun _ => ?_) (fun h => absurd hv h)
  exact kk _ _ _ _ hR1 ⟨hP, hT, hS⟩
set_option maxHeartbeats 4000000 in
set_option maxRecDepth 100000 in
theorem lc_mean {p : Program} {l : Launch} {e : Env} {s : State} {m : MethodId} {below : List Frame} {meth : Method} {c : Code} {D : va_G} {cA : Nat → ClassId} {aC : Nat → Nat} {cM : Nat → ClassId} {aM : Nat → Nat} {kl b L : Nat} {xs : Nat → Int32} {Rel : vS → vS → Prop} (hL : L ≤ 3072) (C0 : lw_At p s m meth c b L xs) (hG : LG D cA aC cM aM kl s) (hst : St_mean Rel) {i : Nat} (hi : i + 6 ≤ L) {S T : vS} (hR : Rel S T) {H : Heap} {locs : List Loc} (hH : LH D cA aC cM aM s S T H locs) {ls : Array Slot} (hl : lv_has ls 4 [(0, .ref b), (1, .ref (aC 0)), (2, .ref (aM 0)), (3, .int (nI i))]) (kk : ∀ (S T : vS) (H : Heap) (locs : List Loc), Rel S T → LH D cA aC cM aM s S T H locs → W p l e room_1 s m #[Value.ref b] below meth c H locs 600000 7302250 (lw_Z below #[Value.ref b] s) (F0 m 1476 ls [])) : W p l e room_1 s m #[Value.ref b] below meth c H locs 600000 7302250 (lw_Z below #[Value.ref b] s) (F0 m 423 ls []) := by
  obtain ⟨hx, hb, hr, hml, hown, hts, hX, hbl, hlocks, hgv⟩ := id C0
  have hbA : ¬ A0 s b := Nat.not_le.mpr hbl
  obtain ⟨G1, G2, K1, K2, E1, hne, hn1, hn2⟩ := id hG
  obtain ⟨hP, hT, hS⟩ := hH
  have h_1 : vp_in (nI i + 1) L := by rw [show (1 : Int32) = nI 1 from rfl, nI_add]; exact vp_in_nI (by omega) (by omega)
  obtain ⟨r, t, e1, e2, hv, hR1⟩ := hst S T (xs (nI i + 1).toNatClampNeg) hR
  refine lv_aload_n hx hb dL_law_423 rfl (lv_at hl 1 rfl) ?_
  refine lv_aload_n hx hb dL_law_424 rfl (lv_at hl 0 rfl) ?_
  refine lv_iload_n hx hb dL_law_425 rfl (lv_at hl 3 rfl) ?_
  refine lv_iconst (v := 1) hx hb dL_law_426 (by decide) ?_
  refine lv_iadd hx hb dL_law_427 ?_
  refine va_sld hx hb hX hbl hbA hS h_1 dL_law_428 ?_
  refine lw_call (n := 1) (As := [.int (xs (nI i + 1).toNatClampNeg)]) C0 G1 K1 E1 hn1 (c_X6_mean G1 (xs (nI i + 1).toNatClampNeg) S _ e1) wc_X6_mean wm_L_37 wz_X6 (by decide +kernel) wi_X6_mean ws_X6_mean rfl is6 rfl ⟨rfl, rfl⟩ ⟨Nat.le_of_ble_eq_true rfl, Nat.le_of_ble_eq_true rfl⟩ ⟨Nat.le_refl _, Nat.le_refl _⟩ rfl hl.1 (Nat.le_of_ble_eq_true rfl) rfl dL_law_429 hP hS (fun H1 locs1 hP hS hk => ?_)
  replace hT := wsl_kept hT hne hk
  refine lv_aload_n hx hb dL_law_432 rfl (lv_at hl 2 rfl) ?_
  refine lv_aload_n hx hb dL_law_433 rfl (lv_at hl 0 rfl) ?_
  refine lv_iload_n hx hb dL_law_434 rfl (lv_at hl 3 rfl) ?_
  refine lv_iconst (v := 1) hx hb dL_law_435 (by decide) ?_
  refine lv_iadd hx hb dL_law_436 ?_
  refine va_sld hx hb hX hbl hbA hS h_1 dL_law_437 ?_
  refine lw_call (n := 1) (As := [.int (xs (nI i + 1).toNatClampNeg)]) C0 G2 K2 trivial hn2 (c_X7_mean G2 (xs (nI i + 1).toNatClampNeg) T _ e2) wc_X7_mean wm_L_40 wz_X7 (by decide +kernel) wi_X7_mean ws_X7_mean rfl is7 rfl ⟨rfl, rfl⟩ ⟨Nat.le_of_ble_eq_true rfl, Nat.le_of_ble_eq_true rfl⟩ ⟨Nat.le_refl _, Nat.le_refl _⟩ rfl hl.1 (Nat.le_of_ble_eq_true rfl) rfl dL_law_438 hT hS (fun H2 locs2 hT hS hk => ?_)
  replace hP := wsl_kept hP (fun j k h1 h2 z => hne k j h2 h1 z.symm) hk
  refine lv_icmp_eq (tgt := 1476) hx hb dL_law_441 (by decide) (fun _ => ?_) (fun h => absurd hv h)
  exact kk _ _ _ _ hR1 ⟨hP, hT, hS⟩
set_option maxHeartbeats 4000000 in
set_option maxRecDepth 100000 in
theorem lc_text {p : Program} {l : Launch} {e : Env} {s : State} {m : MethodId} {below : List Frame} {meth : Method} {c : Code} {D : va_G} {cA : Nat → ClassId} {aC : Nat → Nat} {cM : Nat → ClassId} {aM : Nat → Nat} {kl b L : Nat} {xs : Nat → Int32} {Rel : vS → vS → Prop} (hL : L ≤ 3072) (C0 : lw_At p s m meth c b L xs) (hG : LG D cA aC cM aM kl s) (hst : St_text Rel) {i : Nat} (hi : i + 6 ≤ L) {S T : vS} (hR : Rel S T) {H : Heap} {locs : List Loc} (hH : LH D cA aC cM aM s S T H locs) {ls : Array Slot} (hl : lv_has ls 4 [(0, .ref b), (1, .ref (aC 0)), (2, .ref (aM 0)), (3, .int (nI i))]) (kk : ∀ (S T : vS) (H : Heap) (locs : List Loc), Rel S T → LH D cA aC cM aM s S T H locs → W p l e room_1 s m #[Value.ref b] below meth c H locs 600000 7302250 (lw_Z below #[Value.ref b] s) (F0 m 1476 ls [])) : W p l e room_1 s m #[Value.ref b] below meth c H locs 600000 7302250 (lw_Z below #[Value.ref b] s) (F0 m 446 ls []) := by
  obtain ⟨hx, hb, hr, hml, hown, hts, hX, hbl, hlocks, hgv⟩ := id C0
  have hbA : ¬ A0 s b := Nat.not_le.mpr hbl
  obtain ⟨G1, G2, K1, K2, E1, hne, hn1, hn2⟩ := id hG
  obtain ⟨hP, hT, hS⟩ := hH
  have h_1 : vp_in (nI i + 1) L := by rw [show (1 : Int32) = nI 1 from rfl, nI_add]; exact vp_in_nI (by omega) (by omega)
  have h_2 : vp_in (nI i + 2) L := by rw [show (2 : Int32) = nI 2 from rfl, nI_add]; exact vp_in_nI (by omega) (by omega)
  obtain ⟨r, t, e1, e2, hv, hR1⟩ := hst S T (xs (nI i + 1).toNatClampNeg) (xs (nI i + 2).toNatClampNeg) hR
  refine lv_aload_n hx hb dL_law_446 rfl (lv_at hl 1 rfl) ?_
  refine lv_aload_n hx hb dL_law_447 rfl (lv_at hl 0 rfl) ?_
  refine lv_iload_n hx hb dL_law_448 rfl (lv_at hl 3 rfl) ?_
  refine lv_iconst (v := 1) hx hb dL_law_449 (by decide) ?_
  refine lv_iadd hx hb dL_law_450 ?_
  refine va_sld hx hb hX hbl hbA hS h_1 dL_law_451 ?_
  refine lv_aload_n hx hb dL_law_452 rfl (lv_at hl 0 rfl) ?_
  refine lv_iload_n hx hb dL_law_453 rfl (lv_at hl 3 rfl) ?_
  refine lv_iconst (v := 2) hx hb dL_law_454 (by decide) ?_
  refine lv_iadd hx hb dL_law_455 ?_
  refine va_sld hx hb hX hbl hbA hS h_2 dL_law_456 ?_
  refine lw_call (n := 2) (As := [.int (xs (nI i + 1).toNatClampNeg), .int (xs (nI i + 2).toNatClampNeg)]) C0 G1 K1 E1 hn1 (c_X6_text G1 (xs (nI i + 1).toNatClampNeg) (xs (nI i + 2).toNatClampNeg) S _ e1) wc_X6_text wm_L_41 wz_X6 (by decide +kernel) wi_X6_text ws_X6_text rfl is6 rfl ⟨rfl, rfl⟩ ⟨Nat.le_of_ble_eq_true rfl, Nat.le_of_ble_eq_true rfl⟩ ⟨Nat.le_refl _, Nat.le_refl _⟩ rfl hl.1 (Nat.le_of_ble_eq_true rfl) rfl dL_law_457 hP hS (fun H1 locs1 hP hS hk => ?_)
  replace hT := wsl_kept hT hne hk
  refine lv_aload_n hx hb dL_law_460 rfl (lv_at hl 2 rfl) ?_
  refine lv_aload_n hx hb dL_law_461 rfl (lv_at hl 0 rfl) ?_
  refine lv_iload_n hx hb dL_law_462 rfl (lv_at hl 3 rfl) ?_
  refine lv_iconst (v := 1) hx hb dL_law_463 (by decide) ?_
  refine lv_iadd hx hb dL_law_464 ?_
  refine va_sld hx hb hX hbl hbA hS h_1 dL_law_465 ?_
  refine lv_aload_n hx hb dL_law_466 rfl (lv_at hl 0 rfl) ?_
  refine lv_iload_n hx hb dL_law_467 rfl (lv_at hl 3 rfl) ?_
  refine lv_iconst (v := 2) hx hb dL_law_468 (by decide) ?_
  refine lv_iadd hx hb dL_law_469 ?_
  refine va_sld hx hb hX hbl hbA hS h_2 dL_law_470 ?_
  refine lw_call (n := 2) (As := [.int (xs (nI i + 1).toNatClampNeg), .int (xs (nI i + 2).toNatClampNeg)]) C0 G2 K2 trivial hn2 (c_X7_text G2 (xs (nI i + 1).toNatClampNeg) (xs (nI i + 2).toNatClampNeg) T _ e2) wc_X7_text wm_L_44 wz_X7 (by decide +kernel) wi_X7_text ws_X7_text rfl is7 rfl ⟨rfl, rfl⟩ ⟨Nat.le_of_ble_eq_true rfl, Nat.le_of_ble_eq_true rfl⟩ ⟨Nat.le_refl _, Nat.le_refl _⟩ rfl hl.1 (Nat.le_of_ble_eq_true rfl) rfl dL_law_471 hT hS (fun H2 locs2 hT hS hk => ?_)
  replace hP := wsl_kept hP (fun j k h1 h2 z => hne k j h2 h1 z.symm) hk
  refine lv_icmp_eq (tgt := 1476) hx hb dL_law_474 (by decide) (fun _ => ?_) (fun h => absurd hv h)
  exact kk _ _ _ _ hR1 ⟨hP, hT, hS⟩
set_option maxHeartbeats 4000000 in
set_option maxRecDepth 100000 in
theorem lc_put {p : Program} {l : Launch} {e : Env} {s : State} {m : MethodId} {below : List Frame} {meth : Method} {c : Code} {D : va_G} {cA : Nat → ClassId} {aC : Nat → Nat} {cM : Nat → ClassId} {aM : Nat → Nat} {kl b L : Nat} {xs : Nat → Int32} {Rel : vS → vS → Prop} (hL : L ≤ 3072) (C0 : lw_At p s m meth c b L xs) (hG : LG D cA aC cM aM kl s) (hst : St_put Rel) {i : Nat} (hi : i + 6 ≤ L) {S T : vS} (hR : Rel S T) {H : Heap} {locs : List Loc} (hH : LH D cA aC cM aM s S T H locs) {ls : Array Slot} (hl : lv_has ls 4 [(0, .ref b), (1, .ref (aC 0)), (2, .ref (aM 0)), (3, .int (nI i))]) (kk : ∀ (S T : vS) (H : Heap) (locs : List Loc), Rel S T → LH D cA aC cM aM s S T H locs → W p l e room_1 s m #[Value.ref b] below meth c H locs 600000 7302250 (lw_Z below #[Value.ref b] s) (F0 m 1476 ls [])) : W p l e room_1 s m #[Value.ref b] below meth c H locs 600000 7302250 (lw_Z below #[Value.ref b] s) (F0 m 479 ls []) := by
  obtain ⟨hx, hb, hr, hml, hown, hts, hX, hbl, hlocks, hgv⟩ := id C0
  have hbA : ¬ A0 s b := Nat.not_le.mpr hbl
  obtain ⟨G1, G2, K1, K2, E1, hne, hn1, hn2⟩ := id hG
  obtain ⟨hP, hT, hS⟩ := hH
  have h_1 : vp_in (nI i + 1) L := by rw [show (1 : Int32) = nI 1 from rfl, nI_add]; exact vp_in_nI (by omega) (by omega)
  have h_2 : vp_in (nI i + 2) L := by rw [show (2 : Int32) = nI 2 from rfl, nI_add]; exact vp_in_nI (by omega) (by omega)
  have h_3 : vp_in (nI i + 3) L := by rw [show (3 : Int32) = nI 3 from rfl, nI_add]; exact vp_in_nI (by omega) (by omega)
  obtain ⟨r, t, e1, e2, hv, hR1⟩ := hst S T (xs (nI i + 1).toNatClampNeg) (xs (nI i + 2).toNatClampNeg) (xs (nI i + 3).toNatClampNeg) hR
  refine lv_aload_n hx hb dL_law_479 rfl (lv_at hl 1 rfl) ?_
  refine lv_aload_n hx hb dL_law_480 rfl (lv_at hl 0 rfl) ?_
  refine lv_iload_n hx hb dL_law_481 rfl (lv_at hl 3 rfl) ?_
  refine lv_iconst (v := 1) hx hb dL_law_482 (by decide) ?_
  refine lv_iadd hx hb dL_law_483 ?_
  refine va_sld hx hb hX hbl hbA hS h_1 dL_law_484 ?_
  refine lv_aload_n hx hb dL_law_485 rfl (lv_at hl 0 rfl) ?_
  refine lv_iload_n hx hb dL_law_486 rfl (lv_at hl 3 rfl) ?_
  refine lv_iconst (v := 2) hx hb dL_law_487 (by decide) ?_
  refine lv_iadd hx hb dL_law_488 ?_
  refine va_sld hx hb hX hbl hbA hS h_2 dL_law_489 ?_
  refine lv_aload_n hx hb dL_law_490 rfl (lv_at hl 0 rfl) ?_
  refine lv_iload_n hx hb dL_law_491 rfl (lv_at hl 3 rfl) ?_
  refine lv_iconst (v := 3) hx hb dL_law_492 (by decide) ?_
  refine lv_iadd hx hb dL_law_493 ?_
  refine va_sld hx hb hX hbl hbA hS h_3 dL_law_494 ?_
  refine lw_call (n := 3) (As := [.int (xs (nI i + 1).toNatClampNeg), .int (xs (nI i + 2).toNatClampNeg), .int (xs (nI i + 3).toNatClampNeg)]) C0 G1 K1 E1 hn1 (c_X6_put G1 (xs (nI i + 1).toNatClampNeg) (xs (nI i + 2).toNatClampNeg) (xs (nI i + 3).toNatClampNeg) S _ e1) wc_X6_put wm_L_45 wz_X6 (by decide +kernel) wi_X6_put ws_X6_put rfl is6 rfl ⟨rfl, rfl⟩ ⟨Nat.le_of_ble_eq_true rfl, Nat.le_of_ble_eq_true rfl⟩ ⟨Nat.le_refl _, Nat.le_refl _⟩ rfl hl.1 (Nat.le_of_ble_eq_true rfl) rfl dL_law_495 hP hS (fun H1 locs1 hP hS hk => ?_)
  replace hT := wsl_kept hT hne hk
  refine lv_aload_n hx hb dL_law_498 rfl (lv_at hl 2 rfl) ?_
  refine lv_aload_n hx hb dL_law_499 rfl (lv_at hl 0 rfl) ?_
  refine lv_iload_n hx hb dL_law_500 rfl (lv_at hl 3 rfl) ?_
  refine lv_iconst (v := 1) hx hb dL_law_501 (by decide) ?_
  refine lv_iadd hx hb dL_law_502 ?_
  refine va_sld hx hb hX hbl hbA hS h_1 dL_law_503 ?_
  refine lv_aload_n hx hb dL_law_504 rfl (lv_at hl 0 rfl) ?_
  refine lv_iload_n hx hb dL_law_505 rfl (lv_at hl 3 rfl) ?_
  refine lv_iconst (v := 2) hx hb dL_law_506 (by decide) ?_
  refine lv_iadd hx hb dL_law_507 ?_
  refine va_sld hx hb hX hbl hbA hS h_2 dL_law_508 ?_
  refine lv_aload_n hx hb dL_law_509 rfl (lv_at hl 0 rfl) ?_
  refine lv_iload_n hx hb dL_law_510 rfl (lv_at hl 3 rfl) ?_
  refine lv_iconst (v := 3) hx hb dL_law_511 (by decide) ?_
  refine lv_iadd hx hb dL_law_512 ?_
  refine va_sld hx hb hX hbl hbA hS h_3 dL_law_513 ?_
  refine lw_call (n := 3) (As := [.int (xs (nI i + 1).toNatClampNeg), .int (xs (nI i + 2).toNatClampNeg), .int (xs (nI i + 3).toNatClampNeg)]) C0 G2 K2 trivial hn2 (c_X7_put G2 (xs (nI i + 1).toNatClampNeg) (xs (nI i + 2).toNatClampNeg) (xs (nI i + 3).toNatClampNeg) T _ e2) wc_X7_put wm_L_48 wz_X7 (by decide +kernel) wi_X7_put ws_X7_put rfl is7 rfl ⟨rfl, rfl⟩ ⟨Nat.le_of_ble_eq_true rfl, Nat.le_of_ble_eq_true rfl⟩ ⟨Nat.le_refl _, Nat.le_refl _⟩ rfl hl.1 (Nat.le_of_ble_eq_true rfl) rfl dL_law_514 hT hS (fun H2 locs2 hT hS hk => ?_)
  replace hP := wsl_kept hP (fun j k h1 h2 z => hne k j h2 h1 z.symm) hk
  refine lv_icmp_eq (tgt := 1476) hx hb dL_law_517 (by decide) (fun _ => ?_) (fun h => absurd hv h)
  exact kk _ _ _ _ hR1 ⟨hP, hT, hS⟩
set_option maxHeartbeats 4000000 in
set_option maxRecDepth 100000 in
theorem lc_fault {p : Program} {l : Launch} {e : Env} {s : State} {m : MethodId} {below : List Frame} {meth : Method} {c : Code} {D : va_G} {cA : Nat → ClassId} {aC : Nat → Nat} {cM : Nat → ClassId} {aM : Nat → Nat} {kl b L : Nat} {xs : Nat → Int32} {Rel : vS → vS → Prop} (hL : L ≤ 3072) (C0 : lw_At p s m meth c b L xs) (hG : LG D cA aC cM aM kl s) (hst : St_fault Rel) {i : Nat} (hi : i + 6 ≤ L) {S T : vS} (hR : Rel S T) {H : Heap} {locs : List Loc} (hH : LH D cA aC cM aM s S T H locs) {ls : Array Slot} (hl : lv_has ls 4 [(0, .ref b), (1, .ref (aC 0)), (2, .ref (aM 0)), (3, .int (nI i))]) (kk : ∀ (S T : vS) (H : Heap) (locs : List Loc), Rel S T → LH D cA aC cM aM s S T H locs → W p l e room_1 s m #[Value.ref b] below meth c H locs 600000 7302250 (lw_Z below #[Value.ref b] s) (F0 m 1476 ls [])) : W p l e room_1 s m #[Value.ref b] below meth c H locs 600000 7302250 (lw_Z below #[Value.ref b] s) (F0 m 522 ls []) := by
  obtain ⟨hx, hb, hr, hml, hown, hts, hX, hbl, hlocks, hgv⟩ := id C0
  have hbA : ¬ A0 s b := Nat.not_le.mpr hbl
  obtain ⟨G1, G2, K1, K2, E1, hne, hn1, hn2⟩ := id hG
  obtain ⟨hP, hT, hS⟩ := hH
  have h_1 : vp_in (nI i + 1) L := by rw [show (1 : Int32) = nI 1 from rfl, nI_add]; exact vp_in_nI (by omega) (by omega)
  obtain ⟨r, t, e1, e2, hv, hR1⟩ := hst S T (xs (nI i + 1).toNatClampNeg) hR
  refine lv_aload_n hx hb dL_law_522 rfl (lv_at hl 1 rfl) ?_
  refine lv_aload_n hx hb dL_law_523 rfl (lv_at hl 0 rfl) ?_
  refine lv_iload_n hx hb dL_law_524 rfl (lv_at hl 3 rfl) ?_
  refine lv_iconst (v := 1) hx hb dL_law_525 (by decide) ?_
  refine lv_iadd hx hb dL_law_526 ?_
  refine va_sld hx hb hX hbl hbA hS h_1 dL_law_527 ?_
  refine lw_call (n := 1) (As := [.int (xs (nI i + 1).toNatClampNeg)]) C0 G1 K1 E1 hn1 (c_X6_fault G1 (xs (nI i + 1).toNatClampNeg) S _ e1) wc_X6_fault wm_L_49 wz_X6 (by decide +kernel) wi_X6_fault ws_X6_fault rfl is6 rfl ⟨rfl, rfl⟩ ⟨Nat.le_of_ble_eq_true rfl, Nat.le_of_ble_eq_true rfl⟩ ⟨Nat.le_refl _, Nat.le_refl _⟩ rfl hl.1 (Nat.le_of_ble_eq_true rfl) rfl dL_law_528 hP hS (fun H1 locs1 hP hS hk => ?_)
  replace hT := wsl_kept hT hne hk
  refine lv_aload_n hx hb dL_law_531 rfl (lv_at hl 2 rfl) ?_
  refine lv_aload_n hx hb dL_law_532 rfl (lv_at hl 0 rfl) ?_
  refine lv_iload_n hx hb dL_law_533 rfl (lv_at hl 3 rfl) ?_
  refine lv_iconst (v := 1) hx hb dL_law_534 (by decide) ?_
  refine lv_iadd hx hb dL_law_535 ?_
  refine va_sld hx hb hX hbl hbA hS h_1 dL_law_536 ?_
  refine lw_call (n := 1) (As := [.int (xs (nI i + 1).toNatClampNeg)]) C0 G2 K2 trivial hn2 (c_X7_fault G2 (xs (nI i + 1).toNatClampNeg) T _ e2) wc_X7_fault wm_L_52 wz_X7 (by decide +kernel) wi_X7_fault ws_X7_fault rfl is7 rfl ⟨rfl, rfl⟩ ⟨Nat.le_of_ble_eq_true rfl, Nat.le_of_ble_eq_true rfl⟩ ⟨Nat.le_refl _, Nat.le_refl _⟩ rfl hl.1 (Nat.le_of_ble_eq_true rfl) rfl dL_law_537 hT hS (fun H2 locs2 hT hS hk => ?_)
  replace hP := wsl_kept hP (fun j k h1 h2 z => hne k j h2 h1 z.symm) hk
  refine lv_icmp_eq (tgt := 1476) hx hb dL_law_540 (by decide) (fun _ => ?_) (fun h => absurd hv h)
  exact kk _ _ _ _ hR1 ⟨hP, hT, hS⟩
set_option maxHeartbeats 4000000 in
set_option maxRecDepth 100000 in
theorem lc_valley {p : Program} {l : Launch} {e : Env} {s : State} {m : MethodId} {below : List Frame} {meth : Method} {c : Code} {D : va_G} {cA : Nat → ClassId} {aC : Nat → Nat} {cM : Nat → ClassId} {aM : Nat → Nat} {kl b L : Nat} {xs : Nat → Int32} {Rel : vS → vS → Prop} (hL : L ≤ 3072) (C0 : lw_At p s m meth c b L xs) (hG : LG D cA aC cM aM kl s) (hst : St_valley Rel) {i : Nat} (hi : i + 6 ≤ L) {S T : vS} (hR : Rel S T) {H : Heap} {locs : List Loc} (hH : LH D cA aC cM aM s S T H locs) {ls : Array Slot} (hl : lv_has ls 4 [(0, .ref b), (1, .ref (aC 0)), (2, .ref (aM 0)), (3, .int (nI i))]) (kk : ∀ (S T : vS) (H : Heap) (locs : List Loc), Rel S T → LH D cA aC cM aM s S T H locs → W p l e room_1 s m #[Value.ref b] below meth c H locs 600000 7302250 (lw_Z below #[Value.ref b] s) (F0 m 1476 ls [])) : W p l e room_1 s m #[Value.ref b] below meth c H locs 600000 7302250 (lw_Z below #[Value.ref b] s) (F0 m 545 ls []) := by
  obtain ⟨hx, hb, hr, hml, hown, hts, hX, hbl, hlocks, hgv⟩ := id C0
  have hbA : ¬ A0 s b := Nat.not_le.mpr hbl
  obtain ⟨G1, G2, K1, K2, E1, hne, hn1, hn2⟩ := id hG
  obtain ⟨hP, hT, hS⟩ := hH
  have h_1 : vp_in (nI i + 1) L := by rw [show (1 : Int32) = nI 1 from rfl, nI_add]; exact vp_in_nI (by omega) (by omega)
  obtain ⟨r, t, e1, e2, hv, hR1⟩ := hst S T (xs (nI i + 1).toNatClampNeg) hR
  refine lv_aload_n hx hb dL_law_545 rfl (lv_at hl 1 rfl) ?_
  refine lv_aload_n hx hb dL_law_546 rfl (lv_at hl 0 rfl) ?_
  refine lv_iload_n hx hb dL_law_547 rfl (lv_at hl 3 rfl) ?_
  refine lv_iconst (v := 1) hx hb dL_law_548 (by decide) ?_
  refine lv_iadd hx hb dL_law_549 ?_
  refine va_sld hx hb hX hbl hbA hS h_1 dL_law_550 ?_
  refine lw_call (n := 1) (As := [.int (xs (nI i + 1).toNatClampNeg)]) C0 G1 K1 E1 hn1 (c_X6_valley G1 (xs (nI i + 1).toNatClampNeg) S _ e1) wc_X6_valley wm_L_53 wz_X6 (by decide +kernel) wi_X6_valley ws_X6_valley rfl is6 rfl ⟨rfl, rfl⟩ ⟨Nat.le_of_ble_eq_true rfl, Nat.le_of_ble_eq_true rfl⟩ ⟨Nat.le_refl _, Nat.le_refl _⟩ rfl hl.1 (Nat.le_of_ble_eq_true rfl) rfl dL_law_551 hP hS (fun H1 locs1 hP hS hk => ?_)
  replace hT := wsl_kept hT hne hk
  refine lv_aload_n hx hb dL_law_554 rfl (lv_at hl 2 rfl) ?_
  refine lv_aload_n hx hb dL_law_555 rfl (lv_at hl 0 rfl) ?_
  refine lv_iload_n hx hb dL_law_556 rfl (lv_at hl 3 rfl) ?_
  refine lv_iconst (v := 1) hx hb dL_law_557 (by decide) ?_
  refine lv_iadd hx hb dL_law_558 ?_
  refine va_sld hx hb hX hbl hbA hS h_1 dL_law_559 ?_
  refine lw_call (n := 1) (As := [.int (xs (nI i + 1).toNatClampNeg)]) C0 G2 K2 trivial hn2 (c_X7_valley G2 (xs (nI i + 1).toNatClampNeg) T _ e2) wc_X7_valley wm_L_56 wz_X7 (by decide +kernel) wi_X7_valley ws_X7_valley rfl is7 rfl ⟨rfl, rfl⟩ ⟨Nat.le_of_ble_eq_true rfl, Nat.le_of_ble_eq_true rfl⟩ ⟨Nat.le_refl _, Nat.le_refl _⟩ rfl hl.1 (Nat.le_of_ble_eq_true rfl) rfl dL_law_560 hT hS (fun H2 locs2 hT hS hk => ?_)
  replace hP := wsl_kept hP (fun j k h1 h2 z => hne k j h2 h1 z.symm) hk
  refine lv_icmp_eq (tgt := 1476) hx hb dL_law_563 (by decide) (fun _ => ?_) (fun h => absurd hv h)
  exact kk _ _ _ _ hR1 ⟨hP, hT, hS⟩
set_option maxHeartbeats 4000000 in
set_option maxRecDepth 100000 in
theorem lc_god {p : Program} {l : Launch} {e : Env} {s : State} {m : MethodId} {below : List Frame} {meth : Method} {c : Code} {D : va_G} {cA : Nat → ClassId} {aC : Nat → Nat} {cM : Nat → ClassId} {aM : Nat → Nat} {kl b L : Nat} {xs : Nat → Int32} {Rel : vS → vS → Prop} (hL : L ≤ 3072) (C0 : lw_At p s m meth c b L xs) (hG : LG D cA aC cM aM kl s) (hst : St_god Rel) {i : Nat} (hi : i + 6 ≤ L) {S T : vS} (hR : Rel S T) {H : Heap} {locs : List Loc} (hH : LH D cA aC cM aM s S T H locs) {ls : Array Slot} (hl : lv_has ls 4 [(0, .ref b), (1, .ref (aC 0)), (2, .ref (aM 0)), (3, .int (nI i))]) (kk : ∀ (S T : vS) (H : Heap) (locs : List Loc), Rel S T → LH D cA aC cM aM s S T H locs → W p l e room_1 s m #[Value.ref b] below meth c H locs 600000 7302250 (lw_Z below #[Value.ref b] s) (F0 m 1476 ls [])) : W p l e room_1 s m #[Value.ref b] below meth c H locs 600000 7302250 (lw_Z below #[Value.ref b] s) (F0 m 568 ls []) := by
  obtain ⟨hx, hb, hr, hml, hown, hts, hX, hbl, hlocks, hgv⟩ := id C0
  have hbA : ¬ A0 s b := Nat.not_le.mpr hbl
  obtain ⟨G1, G2, K1, K2, E1, hne, hn1, hn2⟩ := id hG
  obtain ⟨hP, hT, hS⟩ := hH
  have h_1 : vp_in (nI i + 1) L := by rw [show (1 : Int32) = nI 1 from rfl, nI_add]; exact vp_in_nI (by omega) (by omega)
  have h_2 : vp_in (nI i + 2) L := by rw [show (2 : Int32) = nI 2 from rfl, nI_add]; exact vp_in_nI (by omega) (by omega)
  obtain ⟨r, t, e1, e2, hv, hR1⟩ := hst S T (xs (nI i + 1).toNatClampNeg) (xs (nI i + 2).toNatClampNeg) hR
  refine lv_aload_n hx hb dL_law_568 rfl (lv_at hl 1 rfl) ?_
  refine lv_aload_n hx hb dL_law_569 rfl (lv_at hl 0 rfl) ?_
  refine lv_iload_n hx hb dL_law_570 rfl (lv_at hl 3 rfl) ?_
  refine lv_iconst (v := 1) hx hb dL_law_571 (by decide) ?_
  refine lv_iadd hx hb dL_law_572 ?_
  refine va_sld hx hb hX hbl hbA hS h_1 dL_law_573 ?_
  refine lv_aload_n hx hb dL_law_574 rfl (lv_at hl 0 rfl) ?_
  refine lv_iload_n hx hb dL_law_575 rfl (lv_at hl 3 rfl) ?_
  refine lv_iconst (v := 2) hx hb dL_law_576 (by decide) ?_
  refine lv_iadd hx hb dL_law_577 ?_
  refine va_sld hx hb hX hbl hbA hS h_2 dL_law_578 ?_
  refine lw_call (n := 2) (As := [.int (xs (nI i + 1).toNatClampNeg), .int (xs (nI i + 2).toNatClampNeg)]) C0 G1 K1 E1 hn1 (c_X6_god G1 (xs (nI i + 1).toNatClampNeg) (xs (nI i + 2).toNatClampNeg) S _ e1) wc_X6_god wm_L_57 wz_X6 (by decide +kernel) wi_X6_god ws_X6_god rfl is6 rfl ⟨rfl, rfl⟩ ⟨Nat.le_of_ble_eq_true rfl, Nat.le_of_ble_eq_true rfl⟩ ⟨Nat.le_refl _, Nat.le_refl _⟩ rfl hl.1 (Nat.le_of_ble_eq_true rfl) rfl dL_law_579 hP hS (fun H1 locs1 hP hS hk => ?_)
  replace hT := wsl_kept hT hne hk
  refine lv_aload_n hx hb dL_law_582 rfl (lv_at hl 2 rfl) ?_
  refine lv_aload_n hx hb dL_law_583 rfl (lv_at hl 0 rfl) ?_
  refine lv_iload_n hx hb dL_law_584 rfl (lv_at hl 3 rfl) ?_
  refine lv_iconst (v := 1) hx hb dL_law_585 (by decide) ?_
  refine lv_iadd hx hb dL_law_586 ?_
  refine va_sld hx hb hX hbl hbA hS h_1 dL_law_587 ?_
  refine lv_aload_n hx hb dL_law_588 rfl (lv_at hl 0 rfl) ?_
  refine lv_iload_n hx hb dL_law_589 rfl (lv_at hl 3 rfl) ?_
  refine lv_iconst (v := 2) hx hb dL_law_590 (by decide) ?_
  refine lv_iadd hx hb dL_law_591 ?_
  refine va_sld hx hb hX hbl hbA hS h_2 dL_law_592 ?_
  refine lw_call (n := 2) (As := [.int (xs (nI i + 1).toNatClampNeg), .int (xs (nI i + 2).toNatClampNeg)]) C0 G2 K2 trivial hn2 (c_X7_god G2 (xs (nI i + 1).toNatClampNeg) (xs (nI i + 2).toNatClampNeg) T _ e2) wc_X7_god wm_L_60 wz_X7 (by decide +kernel) wi_X7_god ws_X7_god rfl is7 rfl ⟨rfl, rfl⟩ ⟨Nat.le_of_ble_eq_true rfl, Nat.le_of_ble_eq_true rfl⟩ ⟨Nat.le_refl _, Nat.le_refl _⟩ rfl hl.1 (Nat.le_of_ble_eq_true rfl) rfl dL_law_593 hT hS (fun H2 locs2 hT hS hk => ?_)
  replace hP := wsl_kept hP (fun j k h1 h2 z => hne k j h2 h1 z.symm) hk
  refine lv_icmp_eq (tgt := 1476) hx hb dL_law_596 (by decide) (fun _ => ?_) (fun h => absurd hv h)
  exact kk _ _ _ _ hR1 ⟨hP, hT, hS⟩
set_option maxHeartbeats 4000000 in
set_option maxRecDepth 100000 in
theorem lc_mark {p : Program} {l : Launch} {e : Env} {s : State} {m : MethodId} {below : List Frame} {meth : Method} {c : Code} {D : va_G} {cA : Nat → ClassId} {aC : Nat → Nat} {cM : Nat → ClassId} {aM : Nat → Nat} {kl b L : Nat} {xs : Nat → Int32} {Rel : vS → vS → Prop} (hL : L ≤ 3072) (C0 : lw_At p s m meth c b L xs) (hG : LG D cA aC cM aM kl s) (hst : St_mark Rel) {i : Nat} (hi : i + 6 ≤ L) {S T : vS} (hR : Rel S T) {H : Heap} {locs : List Loc} (hH : LH D cA aC cM aM s S T H locs) {ls : Array Slot} (hl : lv_has ls 4 [(0, .ref b), (1, .ref (aC 0)), (2, .ref (aM 0)), (3, .int (nI i))]) (kk : ∀ (S T : vS) (H : Heap) (locs : List Loc), Rel S T → LH D cA aC cM aM s S T H locs → W p l e room_1 s m #[Value.ref b] below meth c H locs 600000 7302250 (lw_Z below #[Value.ref b] s) (F0 m 1476 ls [])) : W p l e room_1 s m #[Value.ref b] below meth c H locs 600000 7302250 (lw_Z below #[Value.ref b] s) (F0 m 601 ls []) := by
  obtain ⟨hx, hb, hr, hml, hown, hts, hX, hbl, hlocks, hgv⟩ := id C0
  have hbA : ¬ A0 s b := Nat.not_le.mpr hbl
  obtain ⟨G1, G2, K1, K2, E1, hne, hn1, hn2⟩ := id hG
  obtain ⟨hP, hT, hS⟩ := hH
  have h_1 : vp_in (nI i + 1) L := by rw [show (1 : Int32) = nI 1 from rfl, nI_add]; exact vp_in_nI (by omega) (by omega)
  have h_2 : vp_in (nI i + 2) L := by rw [show (2 : Int32) = nI 2 from rfl, nI_add]; exact vp_in_nI (by omega) (by omega)
  obtain ⟨r, t, e1, e2, hv, hR1⟩ := hst S T (xs (nI i + 1).toNatClampNeg) (xs (nI i + 2).toNatClampNeg) hR
  refine lv_aload_n hx hb dL_law_601 rfl (lv_at hl 1 rfl) ?_
  refine lv_aload_n hx hb dL_law_602 rfl (lv_at hl 0 rfl) ?_
  refine lv_iload_n hx hb dL_law_603 rfl (lv_at hl 3 rfl) ?_
  refine lv_iconst (v := 1) hx hb dL_law_604 (by decide) ?_
  refine lv_iadd hx hb dL_law_605 ?_
  refine va_sld hx hb hX hbl hbA hS h_1 dL_law_606 ?_
  refine lv_aload_n hx hb dL_law_607 rfl (lv_at hl 0 rfl) ?_
  refine lv_iload_n hx hb dL_law_608 rfl (lv_at hl 3 rfl) ?_
  refine lv_iconst (v := 2) hx hb dL_law_609 (by decide) ?_
  refine lv_iadd hx hb dL_law_610 ?_
  refine va_sld hx hb hX hbl hbA hS h_2 dL_law_611 ?_
  refine lw_call (n := 2) (As := [.int (xs (nI i + 1).toNatClampNeg), .int (xs (nI i + 2).toNatClampNeg)]) C0 G1 K1 E1 hn1 (c_X6_mark G1 (xs (nI i + 1).toNatClampNeg) (xs (nI i + 2).toNatClampNeg) S _ e1) wc_X6_mark wm_L_61 wz_X6 (by decide +kernel) wi_X6_mark ws_X6_mark rfl is6 rfl ⟨rfl, rfl⟩ ⟨Nat.le_of_ble_eq_true rfl, Nat.le_of_ble_eq_true rfl⟩ ⟨Nat.le_refl _, Nat.le_refl _⟩ rfl hl.1 (Nat.le_of_ble_eq_true rfl) rfl dL_law_612 hP hS (fun H1 locs1 hP hS hk => ?_)
  replace hT := wsl_kept hT hne hk
  refine lv_aload_n hx hb dL_law_615 rfl (lv_at hl 2 rfl) ?_
  refine lv_aload_n hx hb dL_law_616 rfl (lv_at hl 0 rfl) ?_
  refine lv_iload_n hx hb dL_law_617 rfl (lv_at hl 3 rfl) ?_
  refine lv_iconst (v := 1) hx hb dL_law_618 (by decide) ?_
  refine lv_iadd hx hb dL_law_619 ?_
  refine va_sld hx hb hX hbl hbA hS h_1 dL_law_620 ?_
  refine lv_aload_n hx hb dL_law_621 rfl (lv_at hl 0 rfl) ?_
  refine lv_iload_n hx hb dL_law_622 rfl (lv_at hl 3 rfl) ?_
  refine lv_iconst (v := 2) hx hb dL_law_623 (by decide) ?_
  refine lv_iadd hx hb dL_law_624 ?_
  refine va_sld hx hb hX hbl hbA hS h_2 dL_law_625 ?_
  refine lw_call (n := 2) (As := [.int (xs (nI i + 1).toNatClampNeg), .int (xs (nI i + 2).toNatClampNeg)]) C0 G2 K2 trivial hn2 (c_X7_mark G2 (xs (nI i + 1).toNatClampNeg) (xs (nI i + 2).toNatClampNeg) T _ e2) wc_X7_mark wm_L_64 wz_X7 (by decide +kernel) wi_X7_mark ws_X7_mark rfl is7 rfl ⟨rfl, rfl⟩ ⟨Nat.le_of_ble_eq_true rfl, Nat.le_of_ble_eq_true rfl⟩ ⟨Nat.le_refl _, Nat.le_refl _⟩ rfl hl.1 (Nat.le_of_ble_eq_true rfl) rfl dL_law_626 hT hS (fun H2 locs2 hT hS hk => ?_)
  replace hP := wsl_kept hP (fun j k h1 h2 z => hne k j h2 h1 z.symm) hk
  refine lv_icmp_eq (tgt := 1476) hx hb dL_law_629 (by decide) (fun _ => ?_) (fun h => absurd hv h)
  exact kk _ _ _ _ hR1 ⟨hP, hT, hS⟩
set_option maxHeartbeats 4000000 in
set_option maxRecDepth 100000 in
theorem lc_store {p : Program} {l : Launch} {e : Env} {s : State} {m : MethodId} {below : List Frame} {meth : Method} {c : Code} {D : va_G} {cA : Nat → ClassId} {aC : Nat → Nat} {cM : Nat → ClassId} {aM : Nat → Nat} {kl b L : Nat} {xs : Nat → Int32} {Rel : vS → vS → Prop} (hL : L ≤ 3072) (C0 : lw_At p s m meth c b L xs) (hG : LG D cA aC cM aM kl s) (hst : St_store Rel) {i : Nat} (hi : i + 6 ≤ L) {S T : vS} (hR : Rel S T) {H : Heap} {locs : List Loc} (hH : LH D cA aC cM aM s S T H locs) {ls : Array Slot} (hl : lv_has ls 4 [(0, .ref b), (1, .ref (aC 0)), (2, .ref (aM 0)), (3, .int (nI i))]) (kk : ∀ (S T : vS) (H : Heap) (locs : List Loc), Rel S T → LH D cA aC cM aM s S T H locs → W p l e room_1 s m #[Value.ref b] below meth c H locs 600000 7302250 (lw_Z below #[Value.ref b] s) (F0 m 1476 ls [])) : W p l e room_1 s m #[Value.ref b] below meth c H locs 600000 7302250 (lw_Z below #[Value.ref b] s) (F0 m 634 ls []) := by
  obtain ⟨hx, hb, hr, hml, hown, hts, hX, hbl, hlocks, hgv⟩ := id C0
  have hbA : ¬ A0 s b := Nat.not_le.mpr hbl
  obtain ⟨G1, G2, K1, K2, E1, hne, hn1, hn2⟩ := id hG
  obtain ⟨hP, hT, hS⟩ := hH
  have h_1 : vp_in (nI i + 1) L := by rw [show (1 : Int32) = nI 1 from rfl, nI_add]; exact vp_in_nI (by omega) (by omega)
  have h_2 : vp_in (nI i + 2) L := by rw [show (2 : Int32) = nI 2 from rfl, nI_add]; exact vp_in_nI (by omega) (by omega)
  obtain ⟨r, t, e1, e2, hv, hR1⟩ := hst S T (xs (nI i + 1).toNatClampNeg) (xs (nI i + 2).toNatClampNeg) hR
  refine lv_aload_n hx hb dL_law_634 rfl (lv_at hl 1 rfl) ?_
  refine lv_aload_n hx hb dL_law_635 rfl (lv_at hl 0 rfl) ?_
  refine lv_iload_n hx hb dL_law_636 rfl (lv_at hl 3 rfl) ?_
  refine lv_iconst (v := 1) hx hb dL_law_637 (by decide) ?_
  refine lv_iadd hx hb dL_law_638 ?_
  refine va_sld hx hb hX hbl hbA hS h_1 dL_law_639 ?_
  refine lv_aload_n hx hb dL_law_640 rfl (lv_at hl 0 rfl) ?_
  refine lv_iload_n hx hb dL_law_641 rfl (lv_at hl 3 rfl) ?_
  refine lv_iconst (v := 2) hx hb dL_law_642 (by decide) ?_
  refine lv_iadd hx hb dL_law_643 ?_
  refine va_sld hx hb hX hbl hbA hS h_2 dL_law_644 ?_
  refine lw_call (n := 2) (As := [.int (xs (nI i + 1).toNatClampNeg), .int (xs (nI i + 2).toNatClampNeg)]) C0 G1 K1 E1 hn1 (c_X6_store G1 (xs (nI i + 1).toNatClampNeg) (xs (nI i + 2).toNatClampNeg) S _ e1) wc_X6_store wm_L_65 wz_X6 (by decide +kernel) wi_X6_store ws_X6_store rfl is6 rfl ⟨rfl, rfl⟩ ⟨Nat.le_of_ble_eq_true rfl, Nat.le_of_ble_eq_true rfl⟩ ⟨Nat.le_refl _, Nat.le_refl _⟩ rfl hl.1 (Nat.le_of_ble_eq_true rfl) rfl dL_law_645 hP hS (fun H1 locs1 hP hS hk => ?_)
  replace hT := wsl_kept hT hne hk
  refine lv_aload_n hx hb dL_law_648 rfl (lv_at hl 2 rfl) ?_
  refine lv_aload_n hx hb dL_law_649 rfl (lv_at hl 0 rfl) ?_
  refine lv_iload_n hx hb dL_law_650 rfl (lv_at hl 3 rfl) ?_
  refine lv_iconst (v := 1) hx hb dL_law_651 (by decide) ?_
  refine lv_iadd hx hb dL_law_652 ?_
  refine va_sld hx hb hX hbl hbA hS h_1 dL_law_653 ?_
  refine lv_aload_n hx hb dL_law_654 rfl (lv_at hl 0 rfl) ?_
  refine lv_iload_n hx hb dL_law_655 rfl (lv_at hl 3 rfl) ?_
  refine lv_iconst (v := 2) hx hb dL_law_656 (by decide) ?_
  refine lv_iadd hx hb dL_law_657 ?_
  refine va_sld hx hb hX hbl hbA hS h_2 dL_law_658 ?_
  refine lw_call (n := 2) (As := [.int (xs (nI i + 1).toNatClampNeg), .int (xs (nI i + 2).toNatClampNeg)]) C0 G2 K2 trivial hn2 (c_X7_store G2 (xs (nI i + 1).toNatClampNeg) (xs (nI i + 2).toNatClampNeg) T _ e2) wc_X7_store wm_L_68 wz_X7 (by decide +kernel) wi_X7_store ws_X7_store rfl is7 rfl ⟨rfl, rfl⟩ ⟨Nat.le_of_ble_eq_true rfl, Nat.le_of_ble_eq_true rfl⟩ ⟨Nat.le_refl _, Nat.le_refl _⟩ rfl hl.1 (Nat.le_of_ble_eq_true rfl) rfl dL_law_659 hT hS (fun H2 locs2 hT hS hk => ?_)
  replace hP := wsl_kept hP (fun j k h1 h2 z => hne k j h2 h1 z.symm) hk
  refine lv_icmp_eq (tgt := 1476) hx hb dL_law_662 (by decide) (fun _ => ?_) (fun h => absurd hv h)
  exact kk _ _ _ _ hR1 ⟨hP, hT, hS⟩
set_option maxHeartbeats 4000000 in
set_option maxRecDepth 100000 in
theorem lc_stores {p : Program} {l : Launch} {e : Env} {s : State} {m : MethodId} {below : List Frame} {meth : Method} {c : Code} {D : va_G} {cA : Nat → ClassId} {aC : Nat → Nat} {cM : Nat → ClassId} {aM : Nat → Nat} {kl b L : Nat} {xs : Nat → Int32} {Rel : vS → vS → Prop} (hL : L ≤ 3072) (C0 : lw_At p s m meth c b L xs) (hG : LG D cA aC cM aM kl s) (hst : St_stores Rel) {i : Nat} (hi : i + 6 ≤ L) {S T : vS} (hR : Rel S T) {H : Heap} {locs : List Loc} (hH : LH D cA aC cM aM s S T H locs) {ls : Array Slot} (hl : lv_has ls 4 [(0, .ref b), (1, .ref (aC 0)), (2, .ref (aM 0)), (3, .int (nI i))]) (kk : ∀ (S T : vS) (H : Heap) (locs : List Loc), Rel S T → LH D cA aC cM aM s S T H locs → W p l e room_1 s m #[Value.ref b] below meth c H locs 600000 7302250 (lw_Z below #[Value.ref b] s) (F0 m 1476 ls [])) : W p l e room_1 s m #[Value.ref b] below meth c H locs 600000 7302250 (lw_Z below #[Value.ref b] s) (F0 m 667 ls []) := by
  obtain ⟨hx, hb, hr, hml, hown, hts, hX, hbl, hlocks, hgv⟩ := id C0
  have hbA : ¬ A0 s b := Nat.not_le.mpr hbl
  obtain ⟨G1, G2, K1, K2, E1, hne, hn1, hn2⟩ := id hG
  obtain ⟨hP, hT, hS⟩ := hH
  have h_1 : vp_in (nI i + 1) L := by rw [show (1 : Int32) = nI 1 from rfl, nI_add]; exact vp_in_nI (by omega) (by omega)
  obtain ⟨r, t, e1, e2, hv, hR1⟩ := hst S T (xs (nI i + 1).toNatClampNeg) hR
  refine lv_aload_n hx hb dL_law_667 rfl (lv_at hl 1 rfl) ?_
  refine lv_aload_n hx hb dL_law_668 rfl (lv_at hl 0 rfl) ?_
  refine lv_iload_n hx hb dL_law_669 rfl (lv_at hl 3 rfl) ?_
  refine lv_iconst (v := 1) hx hb dL_law_670 (by decide) ?_
  refine lv_iadd hx hb dL_law_671 ?_
  refine va_sld hx hb hX hbl hbA hS h_1 dL_law_672 ?_
  refine lw_call (n := 1) (As := [.int (xs (nI i + 1).toNatClampNeg)]) C0 G1 K1 E1 hn1 (c_X6_stores G1 (xs (nI i + 1).toNatClampNeg) S _ e1) wc_X6_stores wm_L_69 wz_X6 (by decide +kernel) wi_X6_stores ws_X6_stores rfl is6 rfl ⟨rfl, rfl⟩ ⟨Nat.le_of_ble_eq_true rfl, Nat.le_of_ble_eq_true rfl⟩ ⟨Nat.le_refl _, Nat.le_refl _⟩ rfl hl.1 (Nat.le_of_ble_eq_true rfl) rfl dL_law_673 hP hS (fun H1 locs1 hP hS hk => ?_)
  replace hT := wsl_kept hT hne hk
  refine lv_aload_n hx hb dL_law_676 rfl (lv_at hl 2 rfl) ?_
  refine lv_aload_n hx hb dL_law_677 rfl (lv_at hl 0 rfl) ?_
  refine lv_iload_n hx hb dL_law_678 rfl (lv_at hl 3 rfl) ?_
  refine lv_iconst (v := 1) hx hb dL_law_679 (by decide) ?_
  refine lv_iadd hx hb dL_law_680 ?_
  refine va_sld hx hb hX hbl hbA hS h_1 dL_law_681 ?_
  refine lw_call (n := 1) (As := [.int (xs (nI i + 1).toNatClampNeg)]) C0 G2 K2 trivial hn2 (c_X7_stores G2 (xs (nI i + 1).toNatClampNeg) T _ e2) wc_X7_stores wm_L_72 wz_X7 (by decide +kernel) wi_X7_stores ws_X7_stores rfl is7 rfl ⟨rfl, rfl⟩ ⟨Nat.le_of_ble_eq_true rfl, Nat.le_of_ble_eq_true rfl⟩ ⟨Nat.le_refl _, Nat.le_refl _⟩ rfl hl.1 (Nat.le_of_ble_eq_true rfl) rfl dL_law_682 hT hS (fun H2 locs2 hT hS hk => ?_)
  replace hP := wsl_kept hP (fun j k h1 h2 z => hne k j h2 h1 z.symm) hk
  refine lv_icmp_eq (tgt := 1476) hx hb dL_law_685 (by decide) (fun _ => ?_) (fun h => absurd hv h)
  exact kk _ _ _ _ hR1 ⟨hP, hT, hS⟩
set_option maxHeartbeats 4000000 in
set_option maxRecDepth 100000 in
theorem lc_patience {p : Program} {l : Launch} {e : Env} {s : State} {m : MethodId} {below : List Frame} {meth : Method} {c : Code} {D : va_G} {cA : Nat → ClassId} {aC : Nat → Nat} {cM : Nat → ClassId} {aM : Nat → Nat} {kl b L : Nat} {xs : Nat → Int32} {Rel : vS → vS → Prop} (hL : L ≤ 3072) (C0 : lw_At p s m meth c b L xs) (hG : LG D cA aC cM aM kl s) (hst : St_patience Rel) {i : Nat} (hi : i + 6 ≤ L) {S T : vS} (hR : Rel S T) {H : Heap} {locs : List Loc} (hH : LH D cA aC cM aM s S T H locs) {ls : Array Slot} (hl : lv_has ls 4 [(0, .ref b), (1, .ref (aC 0)), (2, .ref (aM 0)), (3, .int (nI i))]) (kk : ∀ (S T : vS) (H : Heap) (locs : List Loc), Rel S T → LH D cA aC cM aM s S T H locs → W p l e room_1 s m #[Value.ref b] below meth c H locs 600000 7302250 (lw_Z below #[Value.ref b] s) (F0 m 1476 ls [])) : W p l e room_1 s m #[Value.ref b] below meth c H locs 600000 7302250 (lw_Z below #[Value.ref b] s) (F0 m 690 ls []) := by
  obtain ⟨hx, hb, hr, hml, hown, hts, hX, hbl, hlocks, hgv⟩ := id C0
  have hbA : ¬ A0 s b := Nat.not_le.mpr hbl
  obtain ⟨G1, G2, K1, K2, E1, hne, hn1, hn2⟩ := id hG
  obtain ⟨hP, hT, hS⟩ := hH
  have h_1 : vp_in (nI i + 1) L := by rw [show (1 : Int32) = nI 1 from rfl, nI_add]; exact vp_in_nI (by omega) (by omega)
  have h_2 : vp_in (nI i + 2) L := by rw [show (2 : Int32) = nI 2 from rfl, nI_add]; exact vp_in_nI (by omega) (by omega)
  obtain ⟨r, t, e1, e2, hv, hR1⟩ := hst S T (xs (nI i + 1).toNatClampNeg) (xs (nI i + 2).toNatClampNeg) hR
  refine lv_aload_n hx hb dL_law_690 rfl (lv_at hl 1 rfl) ?_
  refine lv_aload_n hx hb dL_law_691 rfl (lv_at hl 0 rfl) ?_
  refine lv_iload_n hx hb dL_law_692 rfl (lv_at hl 3 rfl) ?_
  refine lv_iconst (v := 1) hx hb dL_law_693 (by decide) ?_
  refine lv_iadd hx hb dL_law_694 ?_
  refine va_sld hx hb hX hbl hbA hS h_1 dL_law_695 ?_
  refine lv_aload_n hx hb dL_law_696 rfl (lv_at hl 0 rfl) ?_
  refine lv_iload_n hx hb dL_law_697 rfl (lv_at hl 3 rfl) ?_
  refine lv_iconst (v := 2) hx hb dL_law_698 (by decide) ?_
  refine lv_iadd hx hb dL_law_699 ?_
  refine va_sld hx hb hX hbl hbA hS h_2 dL_law_700 ?_
  refine lw_call (n := 2) (As := [.int (xs (nI i + 1).toNatClampNeg), .int (xs (nI i + 2).toNatClampNeg)]) C0 G1 K1 E1 hn1 (c_X6_patience G1 (xs (nI i + 1).toNatClampNeg) (xs (nI i + 2).toNatClampNeg) S _ e1) wc_X6_patience wm_L_73 wz_X6 (by decide +kernel) wi_X6_patience ws_X6_patience rfl is6 rfl ⟨rfl, rfl⟩ ⟨Nat.le_of_ble_eq_true rfl, Nat.le_of_ble_eq_true rfl⟩ ⟨Nat.le_refl _, Nat.le_refl _⟩ rfl hl.1 (Nat.le_of_ble_eq_true rfl) rfl dL_law_701 hP hS (fun H1 locs1 hP hS hk => ?_)
  replace hT := wsl_kept hT hne hk
  refine lv_aload_n hx hb dL_law_704 rfl (lv_at hl 2 rfl) ?_
  refine lv_aload_n hx hb dL_law_705 rfl (lv_at hl 0 rfl) ?_
  refine lv_iload_n hx hb dL_law_706 rfl (lv_at hl 3 rfl) ?_
  refine lv_iconst (v := 1) hx hb dL_law_707 (by decide) ?_
  refine lv_iadd hx hb dL_law_708 ?_
  refine va_sld hx hb hX hbl hbA hS h_1 dL_law_709 ?_
  refine lv_aload_n hx hb dL_law_710 rfl (lv_at hl 0 rfl) ?_
  refine lv_iload_n hx hb dL_law_711 rfl (lv_at hl 3 rfl) ?_
  refine lv_iconst (v := 2) hx hb dL_law_712 (by decide) ?_
  refine lv_iadd hx hb dL_law_713 ?_
  refine va_sld hx hb hX hbl hbA hS h_2 dL_law_714 ?_
  refine lw_call (n := 2) (As := [.int (xs (nI i + 1).toNatClampNeg), .int (xs (nI i + 2).toNatClampNeg)]) C0 G2 K2 trivial hn2 (c_X7_patience G2 (xs (nI i + 1).toNatClampNeg) (xs (nI i + 2).toNatClampNeg) T _ e2) wc_X7_patience wm_L_76 wz_X7 (by decide +kernel) wi_X7_patience ws_X7_patience rfl is7 rfl ⟨rfl, rfl⟩ ⟨Nat.le_of_ble_eq_true rfl, Nat.le_of_ble_eq_true rfl⟩ ⟨Nat.le_refl _, Nat.le_refl _⟩ rfl hl.1 (Nat.le_of_ble_eq_true rfl) rfl dL_law_715 hT hS (fun H2 locs2 hT hS hk => ?_)
  replace hP := wsl_kept hP (fun j k h1 h2 z => hne k j h2 h1 z.symm) hk
  refine lv_icmp_eq (tgt := 1476) hx hb dL_law_718 (by decide) (fun _ => ?_) (fun h => absurd hv h)
  exact kk _ _ _ _ hR1 ⟨hP, hT, hS⟩
set_option maxHeartbeats 4000000 in
set_option maxRecDepth 100000 in
theorem lc_offer {p : Program} {l : Launch} {e : Env} {s : State} {m : MethodId} {below : List Frame} {meth : Method} {c : Code} {D : va_G} {cA : Nat → ClassId} {aC : Nat → Nat} {cM : Nat → ClassId} {aM : Nat → Nat} {kl b L : Nat} {xs : Nat → Int32} {Rel : vS → vS → Prop} (hL : L ≤ 3072) (C0 : lw_At p s m meth c b L xs) (hG : LG D cA aC cM aM kl s) (hst : St_offer Rel) {i : Nat} (hi : i + 6 ≤ L) {S T : vS} (hR : Rel S T) {H : Heap} {locs : List Loc} (hH : LH D cA aC cM aM s S T H locs) {ls : Array Slot} (hl : lv_has ls 4 [(0, .ref b), (1, .ref (aC 0)), (2, .ref (aM 0)), (3, .int (nI i))]) (kk : ∀ (S T : vS) (H : Heap) (locs : List Loc), Rel S T → LH D cA aC cM aM s S T H locs → W p l e room_1 s m #[Value.ref b] below meth c H locs 600000 7302250 (lw_Z below #[Value.ref b] s) (F0 m 1476 ls [])) : W p l e room_1 s m #[Value.ref b] below meth c H locs 600000 7302250 (lw_Z below #[Value.ref b] s) (F0 m 723 ls []) := by
  obtain ⟨hx, hb, hr, hml, hown, hts, hX, hbl, hlocks, hgv⟩ := id C0
  have hbA : ¬ A0 s b := Nat.not_le.mpr hbl
  obtain ⟨G1, G2, K1, K2, E1, hne, hn1, hn2⟩ := id hG
  obtain ⟨hP, hT, hS⟩ := hH
  have h_1 : vp_in (nI i + 1) L := by rw [show (1 : Int32) = nI 1 from rfl, nI_add]; exact vp_in_nI (by omega) (by omega)
  obtain ⟨r, t, e1, e2, hv, hR1⟩ := hst S T (xs (nI i + 1).toNatClampNeg) hR
  refine lv_aload_n hx hb dL_law_723 rfl (lv_at hl 1 rfl) ?_
  refine lv_aload_n hx hb dL_law_724 rfl (lv_at hl 0 rfl) ?_
  refine lv_iload_n hx hb dL_law_725 rfl (lv_at hl 3 rfl) ?_
  refine lv_iconst (v := 1) hx hb dL_law_726 (by decide) ?_
  refine lv_iadd hx hb dL_law_727 ?_
  refine va_sld hx hb hX hbl hbA hS h_1 dL_law_728 ?_
  refine lw_call (n := 1) (As := [.int (xs (nI i + 1).toNatClampNeg)]) C0 G1 K1 E1 hn1 (c_X6_offer G1 (xs (nI i + 1).toNatClampNeg) S _ e1) wc_X6_offer wm_L_77 wz_X6 (by decide +kernel) wi_X6_offer ws_X6_offer rfl is6 rfl ⟨rfl, rfl⟩ ⟨Nat.le_of_ble_eq_true rfl, Nat.le_of_ble_eq_true rfl⟩ ⟨Nat.le_refl _, Nat.le_refl _⟩ rfl hl.1 (Nat.le_of_ble_eq_true rfl) rfl dL_law_729 hP hS (fun H1 locs1 hP hS hk => ?_)
  replace hT := wsl_kept hT hne hk
  refine lv_aload_n hx hb dL_law_732 rfl (lv_at hl 2 rfl) ?_
  refine lv_aload_n hx hb dL_law_733 rfl (lv_at hl 0 rfl) ?_
  refine lv_iload_n hx hb dL_law_734 rfl (lv_at hl 3 rfl) ?_
  refine lv_iconst (v := 1) hx hb dL_law_735 (by decide) ?_
  refine lv_iadd hx hb dL_law_736 ?_
  refine va_sld hx hb hX hbl hbA hS h_1 dL_law_737 ?_
  refine lw_call (n := 1) (As := [.int (xs (nI i + 1).toNatClampNeg)]) C0 G2 K2 trivial hn2 (c_X7_offer G2 (xs (nI i + 1).toNatClampNeg) T _ e2) wc_X7_offer wm_L_80 wz_X7 (by decide +kernel) wi_X7_offer ws_X7_offer rfl is7 rfl ⟨rfl, rfl⟩ ⟨Nat.le_of_ble_eq_true rfl, Nat.le_of_ble_eq_true rfl⟩ ⟨Nat.le_refl _, Nat.le_refl _⟩ rfl hl.1 (Nat.le_of_ble_eq_true rfl) rfl dL_law_738 hT hS (fun H2 locs2 hT hS hk => ?_)
  replace hP := wsl_kept hP (fun j k h1 h2 z => hne k j h2 h1 z.symm) hk
  refine lv_icmp_eq (tgt := 1476) hx hb dL_law_741 (by decide) (fun _ => ?_) (fun h => absurd hv h)
  exact kk _ _ _ _ hR1 ⟨hP, hT, hS⟩
set_option maxHeartbeats 4000000 in
set_option maxRecDepth 100000 in
theorem lc_may {p : Program} {l : Launch} {e : Env} {s : State} {m : MethodId} {below : List Frame} {meth : Method} {c : Code} {D : va_G} {cA : Nat → ClassId} {aC : Nat → Nat} {cM : Nat → ClassId} {aM : Nat → Nat} {kl b L : Nat} {xs : Nat → Int32} {Rel : vS → vS → Prop} (hL : L ≤ 3072) (C0 : lw_At p s m meth c b L xs) (hG : LG D cA aC cM aM kl s) (hst : St_may Rel) {i : Nat} (hi : i + 6 ≤ L) {S T : vS} (hR : Rel S T) {H : Heap} {locs : List Loc} (hH : LH D cA aC cM aM s S T H locs) {ls : Array Slot} (hl : lv_has ls 4 [(0, .ref b), (1, .ref (aC 0)), (2, .ref (aM 0)), (3, .int (nI i))]) (kk : ∀ (S T : vS) (H : Heap) (locs : List Loc), Rel S T → LH D cA aC cM aM s S T H locs → W p l e room_1 s m #[Value.ref b] below meth c H locs 600000 7302250 (lw_Z below #[Value.ref b] s) (F0 m 1476 ls [])) : W p l e room_1 s m #[Value.ref b] below meth c H locs 600000 7302250 (lw_Z below #[Value.ref b] s) (F0 m 746 ls []) := by
  obtain ⟨hx, hb, hr, hml, hown, hts, hX, hbl, hlocks, hgv⟩ := id C0
  have hbA : ¬ A0 s b := Nat.not_le.mpr hbl
  obtain ⟨G1, G2, K1, K2, E1, hne, hn1, hn2⟩ := id hG
  obtain ⟨hP, hT, hS⟩ := hH
  have h_1 : vp_in (nI i + 1) L := by rw [show (1 : Int32) = nI 1 from rfl, nI_add]; exact vp_in_nI (by omega) (by omega)
  obtain ⟨r, t, e1, e2, hv, hR1⟩ := hst S T (xs (nI i + 1).toNatClampNeg) hR
  refine lv_aload_n hx hb dL_law_746 rfl (lv_at hl 1 rfl) ?_
  refine lv_aload_n hx hb dL_law_747 rfl (lv_at hl 0 rfl) ?_
  refine lv_iload_n hx hb dL_law_748 rfl (lv_at hl 3 rfl) ?_
  refine lv_iconst (v := 1) hx hb dL_law_749 (by decide) ?_
  refine lv_iadd hx hb dL_law_750 ?_
  refine va_sld hx hb hX hbl hbA hS h_1 dL_law_751 ?_
  refine lw_call (n := 1) (As := [.int (xs (nI i + 1).toNatClampNeg)]) C0 G1 K1 E1 hn1 (c_X6_may G1 (xs (nI i + 1).toNatClampNeg) S _ e1) wc_X6_may wm_L_81 wz_X6 (by decide +kernel) wi_X6_may ws_X6_may rfl is6 rfl ⟨rfl, rfl⟩ ⟨Nat.le_of_ble_eq_true rfl, Nat.le_of_ble_eq_true rfl⟩ ⟨Nat.le_refl _, Nat.le_refl _⟩ rfl hl.1 (Nat.le_of_ble_eq_true rfl) rfl dL_law_752 hP hS (fun H1 locs1 hP hS hk => ?_)
  replace hT := wsl_kept hT hne hk
  refine lv_aload_n hx hb dL_law_755 rfl (lv_at hl 2 rfl) ?_
  refine lv_aload_n hx hb dL_law_756 rfl (lv_at hl 0 rfl) ?_
  refine lv_iload_n hx hb dL_law_757 rfl (lv_at hl 3 rfl) ?_
  refine lv_iconst (v := 1) hx hb dL_law_758 (by decide) ?_
  refine lv_iadd hx hb dL_law_759 ?_
  refine va_sld hx hb hX hbl hbA hS h_1 dL_law_760 ?_
  refine lw_call (n := 1) (As := [.int (xs (nI i + 1).toNatClampNeg)]) C0 G2 K2 trivial hn2 (c_X7_may G2 (xs (nI i + 1).toNatClampNeg) T _ e2) wc_X7_may wm_L_84 wz_X7 (by decide +kernel) wi_X7_may ws_X7_may rfl is7 rfl ⟨rfl, rfl⟩ ⟨Nat.le_of_ble_eq_true rfl, Nat.le_of_ble_eq_true rfl⟩ ⟨Nat.le_refl _, Nat.le_refl _⟩ rfl hl.1 (Nat.le_of_ble_eq_true rfl) rfl dL_law_761 hT hS (fun H2 locs2 hT hS hk => ?_)
  replace hP := wsl_kept hP (fun j k h1 h2 z => hne k j h2 h1 z.symm) hk
  refine lv_icmp_eq (tgt := 1476) hx hb dL_law_764 (by decide) (fun _ => ?_) (fun h => absurd hv h)
  exact kk _ _ _ _ hR1 ⟨hP, hT, hS⟩
set_option maxHeartbeats 4000000 in
set_option maxRecDepth 100000 in
theorem lc_rest {p : Program} {l : Launch} {e : Env} {s : State} {m : MethodId} {below : List Frame} {meth : Method} {c : Code} {D : va_G} {cA : Nat → ClassId} {aC : Nat → Nat} {cM : Nat → ClassId} {aM : Nat → Nat} {kl b L : Nat} {xs : Nat → Int32} {Rel : vS → vS → Prop} (hL : L ≤ 3072) (C0 : lw_At p s m meth c b L xs) (hG : LG D cA aC cM aM kl s) (hst : St_rest Rel) {i : Nat} (hi : i + 6 ≤ L) {S T : vS} (hR : Rel S T) {H : Heap} {locs : List Loc} (hH : LH D cA aC cM aM s S T H locs) {ls : Array Slot} (hl : lv_has ls 4 [(0, .ref b), (1, .ref (aC 0)), (2, .ref (aM 0)), (3, .int (nI i))]) (kk : ∀ (S T : vS) (H : Heap) (locs : List Loc), Rel S T → LH D cA aC cM aM s S T H locs → W p l e room_1 s m #[Value.ref b] below meth c H locs 600000 7302250 (lw_Z below #[Value.ref b] s) (F0 m 1476 ls [])) : W p l e room_1 s m #[Value.ref b] below meth c H locs 600000 7302250 (lw_Z below #[Value.ref b] s) (F0 m 769 ls []) := by
  obtain ⟨hx, hb, hr, hml, hown, hts, hX, hbl, hlocks, hgv⟩ := id C0
  have hbA : ¬ A0 s b := Nat.not_le.mpr hbl
  obtain ⟨G1, G2, K1, K2, E1, hne, hn1, hn2⟩ := id hG
  obtain ⟨hP, hT, hS⟩ := hH
  have h_1 : vp_in (nI i + 1) L := by rw [show (1 : Int32) = nI 1 from rfl, nI_add]; exact vp_in_nI (by omega) (by omega)
  obtain ⟨r, t, e1, e2, hv, hR1⟩ := hst S T (xs (nI i + 1).toNatClampNeg) hR
  refine lv_aload_n hx hb dL_law_769 rfl (lv_at hl 1 rfl) ?_
  refine lv_aload_n hx hb dL_law_770 rfl (lv_at hl 0 rfl) ?_
  refine lv_iload_n hx hb dL_law_771 rfl (lv_at hl 3 rfl) ?_
  refine lv_iconst (v := 1) hx hb dL_law_772 (by decide) ?_
  refine lv_iadd hx hb dL_law_773 ?_
  refine va_sld hx hb hX hbl hbA hS h_1 dL_law_774 ?_
  refine lw_call (n := 1) (As := [.int (xs (nI i + 1).toNatClampNeg)]) C0 G1 K1 E1 hn1 (c_X6_rest G1 (xs (nI i + 1).toNatClampNeg) S _ e1) wc_X6_rest wm_L_85 wz_X6 (by decide +kernel) wi_X6_rest ws_X6_rest rfl is6 rfl ⟨rfl, rfl⟩ ⟨Nat.le_of_ble_eq_true rfl, Nat.le_of_ble_eq_true rfl⟩ ⟨Nat.le_refl _, Nat.le_refl _⟩ rfl hl.1 (Nat.le_of_ble_eq_true rfl) rfl dL_law_775 hP hS (fun H1 locs1 hP hS hk => ?_)
  replace hT := wsl_kept hT hne hk
  refine lv_aload_n hx hb dL_law_778 rfl (lv_at hl 2 rfl) ?_
  refine lv_aload_n hx hb dL_law_779 rfl (lv_at hl 0 rfl) ?_
  refine lv_iload_n hx hb dL_law_780 rfl (lv_at hl 3 rfl) ?_
  refine lv_iconst (v := 1) hx hb dL_law_781 (by decide) ?_
  refine lv_iadd hx hb dL_law_782 ?_
  refine va_sld hx hb hX hbl hbA hS h_1 dL_law_783 ?_
  refine lw_call (n := 1) (As := [.int (xs (nI i + 1).toNatClampNeg)]) C0 G2 K2 trivial hn2 (c_X7_rest G2 (xs (nI i + 1).toNatClampNeg) T _ e2) wc_X7_rest wm_L_88 wz_X7 (by decide +kernel) wi_X7_rest ws_X7_rest rfl is7 rfl ⟨rfl, rfl⟩ ⟨Nat.le_of_ble_eq_true rfl, Nat.le_of_ble_eq_true rfl⟩ ⟨Nat.le_refl _, Nat.le_refl _⟩ rfl hl.1 (Nat.le_of_ble_eq_true rfl) rfl dL_law_784 hT hS (fun H2 locs2 hT hS hk => ?_)
  replace hP := wsl_kept hP (fun j k h1 h2 z => hne k j h2 h1 z.symm) hk
  refine lv_icmp_eq (tgt := 1476) hx hb dL_law_787 (by decide) (fun _ => ?_) (fun h => absurd hv h)
  exact kk _ _ _ _ hR1 ⟨hP, hT, hS⟩
set_option maxHeartbeats 4000000 in
set_option maxRecDepth 100000 in
theorem lc_sent {p : Program} {l : Launch} {e : Env} {s : State} {m : MethodId} {below : List Frame} {meth : Method} {c : Code} {D : va_G} {cA : Nat → ClassId} {aC : Nat → Nat} {cM : Nat → ClassId} {aM : Nat → Nat} {kl b L : Nat} {xs : Nat → Int32} {Rel : vS → vS → Prop} (hL : L ≤ 3072) (C0 : lw_At p s m meth c b L xs) (hG : LG D cA aC cM aM kl s) (hst : St_sent Rel) {i : Nat} (hi : i + 6 ≤ L) {S T : vS} (hR : Rel S T) {H : Heap} {locs : List Loc} (hH : LH D cA aC cM aM s S T H locs) {ls : Array Slot} (hl : lv_has ls 4 [(0, .ref b), (1, .ref (aC 0)), (2, .ref (aM 0)), (3, .int (nI i))]) (kk : ∀ (S T : vS) (H : Heap) (locs : List Loc), Rel S T → LH D cA aC cM aM s S T H locs → W p l e room_1 s m #[Value.ref b] below meth c H locs 600000 7302250 (lw_Z below #[Value.ref b] s) (F0 m 1476 ls [])) : W p l e room_1 s m #[Value.ref b] below meth c H locs 600000 7302250 (lw_Z below #[Value.ref b] s) (F0 m 792 ls []) := by
  obtain ⟨hx, hb, hr, hml, hown, hts, hX, hbl, hlocks, hgv⟩ := id C0
  have hbA : ¬ A0 s b := Nat.not_le.mpr hbl
  obtain ⟨G1, G2, K1, K2, E1, hne, hn1, hn2⟩ := id hG
  obtain ⟨hP, hT, hS⟩ := hH
  have h_1 : vp_in (nI i + 1) L := by rw [show (1 : Int32) = nI 1 from rfl, nI_add]; exact vp_in_nI (by omega) (by omega)
  have h_2 : vp_in (nI i + 2) L := by rw [show (2 : Int32) = nI 2 from rfl, nI_add]; exact vp_in_nI (by omega) (by omega)
  obtain ⟨r, t, e1, e2, hv, hR1⟩ := hst S T (xs (nI i + 1).toNatClampNeg) (xs (nI i + 2).toNatClampNeg) hR
  refine lv_aload_n hx hb dL_law_792 rfl (lv_at hl 1 rfl) ?_
  refine lv_aload_n hx hb dL_law_793 rfl (lv_at hl 0 rfl) ?_
  refine lv_iload_n hx hb dL_law_794 rfl (lv_at hl 3 rfl) ?_
  refine lv_iconst (v := 1) hx hb dL_law_795 (by decide) ?_
  refine lv_iadd hx hb dL_law_796 ?_
  refine va_sld hx hb hX hbl hbA hS h_1 dL_law_797 ?_
  refine lv_aload_n hx hb dL_law_798 rfl (lv_at hl 0 rfl) ?_
  refine lv_iload_n hx hb dL_law_799 rfl (lv_at hl 3 rfl) ?_
  refine lv_iconst (v := 2) hx hb dL_law_800 (by decide) ?_
  refine lv_iadd hx hb dL_law_801 ?_
  refine va_sld hx hb hX hbl hbA hS h_2 dL_law_802 ?_
  refine lw_call (n := 2) (As := [.int (xs (nI i + 1).toNatClampNeg), .int (xs (nI i + 2).toNatClampNeg)]) C0 G1 K1 E1 hn1 (c_X6_sent G1 (xs (nI i + 1).toNatClampNeg) (xs (nI i + 2).toNatClampNeg) S _ e1) wc_X6_sent wm_L_89 wz_X6 (by decide +kernel) wi_X6_sent ws_X6_sent rfl is6 rfl ⟨rfl, rfl⟩ ⟨Nat.le_of_ble_eq_true rfl, Nat.le_of_ble_eq_true rfl⟩ ⟨Nat.le_refl _, Nat.le_refl _⟩ rfl hl.1 (Nat.le_of_ble_eq_true rfl) rfl dL_law_803 hP hS (fun H1 locs1 hP hS hk => ?_)
  replace hT := wsl_kept hT hne hk
  refine lv_aload_n hx hb dL_law_806 rfl (lv_at hl 2 rfl) ?_
  refine lv_aload_n hx hb dL_law_807 rfl (lv_at hl 0 rfl) ?_
  refine lv_iload_n hx hb dL_law_808 rfl (lv_at hl 3 rfl) ?_
  refine lv_iconst (v := 1) hx hb dL_law_809 (by decide) ?_
  refine lv_iadd hx hb dL_law_810 ?_
  refine va_sld hx hb hX hbl hbA hS h_1 dL_law_811 ?_
  refine lv_aload_n hx hb dL_law_812 rfl (lv_at hl 0 rfl) ?_
  refine lv_iload_n hx hb dL_law_813 rfl (lv_at hl 3 rfl) ?_
  refine lv_iconst (v := 2) hx hb dL_law_814 (by decide) ?_
  refine lv_iadd hx hb dL_law_815 ?_
  refine va_sld hx hb hX hbl hbA hS h_2 dL_law_816 ?_
  refine lw_call (n := 2) (As := [.int (xs (nI i + 1).toNatClampNeg), .int (xs (nI i + 2).toNatClampNeg)]) C0 G2 K2 trivial hn2 (c_X7_sent G2 (xs (nI i + 1).toNatClampNeg) (xs (nI i + 2).toNatClampNeg) T _ e2) wc_X7_sent wm_L_92 wz_X7 (by decide +kernel) wi_X7_sent ws_X7_sent rfl is7 rfl ⟨rfl, rfl⟩ ⟨Nat.le_of_ble_eq_true rfl, Nat.le_of_ble_eq_true rfl⟩ ⟨Nat.le_refl _, Nat.le_refl _⟩ rfl hl.1 (Nat.le_of_ble_eq_true rfl) rfl dL_law_817 hT hS (fun H2 locs2 hT hS hk => ?_)
  replace hP := wsl_kept hP (fun j k h1 h2 z => hne k j h2 h1 z.symm) hk
  refine lv_icmp_eq (tgt := 1476) hx hb dL_law_820 (by decide) (fun _ => ?_) (fun h => absurd hv h)
  exact kk _ _ _ _ hR1 ⟨hP, hT, hS⟩
set_option maxHeartbeats 4000000 in
set_option maxRecDepth 100000 in
theorem lc_offered {p : Program} {l : Launch} {e : Env} {s : State} {m : MethodId} {below : List Frame} {meth : Method} {c : Code} {D : va_G} {cA : Nat → ClassId} {aC : Nat → Nat} {cM : Nat → ClassId} {aM : Nat → Nat} {kl b L : Nat} {xs : Nat → Int32} {Rel : vS → vS → Prop} (hL : L ≤ 3072) (C0 : lw_At p s m meth c b L xs) (hG : LG D cA aC cM aM kl s) (hst : St_offered Rel) {i : Nat} (hi : i + 6 ≤ L) {S T : vS} (hR : Rel S T) {H : Heap} {locs : List Loc} (hH : LH D cA aC cM aM s S T H locs) {ls : Array Slot} (hl : lv_has ls 4 [(0, .ref b), (1, .ref (aC 0)), (2, .ref (aM 0)), (3, .int (nI i))]) (kk : ∀ (S T : vS) (H : Heap) (locs : List Loc), Rel S T → LH D cA aC cM aM s S T H locs → W p l e room_1 s m #[Value.ref b] below meth c H locs 600000 7302250 (lw_Z below #[Value.ref b] s) (F0 m 1476 ls [])) : W p l e room_1 s m #[Value.ref b] below meth c H locs 600000 7302250 (lw_Z below #[Value.ref b] s) (F0 m 825 ls []) := by
  obtain ⟨hx, hb, hr, hml, hown, hts, hX, hbl, hlocks, hgv⟩ := id C0
  have hbA : ¬ A0 s b := Nat.not_le.mpr hbl
  obtain ⟨G1, G2, K1, K2, E1, hne, hn1, hn2⟩ := id hG
  obtain ⟨hP, hT, hS⟩ := hH
  have h_1 : vp_in (nI i + 1) L := by rw [show (1 : Int32) = nI 1 from rfl, nI_add]; exact vp_in_nI (by omega) (by omega)
  obtain ⟨r, t, e1, e2, hv, hR1⟩ := hst S T (xs (nI i + 1).toNatClampNeg) hR
  refine lv_aload_n hx hb dL_law_825 rfl (lv_at hl 1 rfl) ?_
  refine lv_aload_n hx hb dL_law_826 rfl (lv_at hl 0 rfl) ?_
  refine lv_iload_n hx hb dL_law_827 rfl (lv_at hl 3 rfl) ?_
  refine lv_iconst (v := 1) hx hb dL_law_828 (by decide) ?_
  refine lv_iadd hx hb dL_law_829 ?_
  refine va_sld hx hb hX hbl hbA hS h_1 dL_law_830 ?_
  refine lw_call (n := 1) (As := [.int (xs (nI i + 1).toNatClampNeg)]) C0 G1 K1 E1 hn1 (c_X6_offered G1 (xs (nI i + 1).toNatClampNeg) S _ e1) wc_X6_offered wm_L_93 wz_X6 (by decide +kernel) wi_X6_offered ws_X6_offered rfl is6 rfl ⟨rfl, rfl⟩ ⟨Nat.le_of_ble_eq_true rfl, Nat.le_of_ble_eq_true rfl⟩ ⟨Nat.le_refl _, Nat.le_refl _⟩ rfl hl.1 (Nat.le_of_ble_eq_true rfl) rfl dL_law_831 hP hS (fun H1 locs1 hP hS hk => ?_)
  replace hT := wsl_kept hT hne hk
  refine lv_aload_n hx hb dL_law_834 rfl (lv_at hl 2 rfl) ?_
  refine lv_aload_n hx hb dL_law_835 rfl (lv_at hl 0 rfl) ?_
  refine lv_iload_n hx hb dL_law_836 rfl (lv_at hl 3 rfl) ?_
  refine lv_iconst (v := 1) hx hb dL_law_837 (by decide) ?_
  refine lv_iadd hx hb dL_law_838 ?_
  refine va_sld hx hb hX hbl hbA hS h_1 dL_law_839 ?_
  refine lw_call (n := 1) (As := [.int (xs (nI i + 1).toNatClampNeg)]) C0 G2 K2 trivial hn2 (c_X7_offered G2 (xs (nI i + 1).toNatClampNeg) T _ e2) wc_X7_offered wm_L_96 wz_X7 (by decide +kernel) wi_X7_offered ws_X7_offered rfl is7 rfl ⟨rfl, rfl⟩ ⟨Nat.le_of_ble_eq_true rfl, Nat.le_of_ble_eq_true rfl⟩ ⟨Nat.le_refl _, Nat.le_refl _⟩ rfl hl.1 (Nat.le_of_ble_eq_true rfl) rfl dL_law_840 hT hS (fun H2 locs2 hT hS hk => ?_)
  replace hP := wsl_kept hP (fun j k h1 h2 z => hne k j h2 h1 z.symm) hk
  refine lv_icmp_eq (tgt := 1476) hx hb dL_law_843 (by decide) (fun _ => ?_) (fun h => absurd hv h)
  exact kk _ _ _ _ hR1 ⟨hP, hT, hS⟩
set_option maxHeartbeats 4000000 in
set_option maxRecDepth 100000 in
theorem lc_undo {p : Program} {l : Launch} {e : Env} {s : State} {m : MethodId} {below : List Frame} {meth : Method} {c : Code} {D : va_G} {cA : Nat → ClassId} {aC : Nat → Nat} {cM : Nat → ClassId} {aM : Nat → Nat} {kl b L : Nat} {xs : Nat → Int32} {Rel : vS → vS → Prop} (hL : L ≤ 3072) (C0 : lw_At p s m meth c b L xs) (hG : LG D cA aC cM aM kl s) (hst : St_undo Rel) {i : Nat} (hi : i + 6 ≤ L) {S T : vS} (hR : Rel S T) {H : Heap} {locs : List Loc} (hH : LH D cA aC cM aM s S T H locs) {ls : Array Slot} (hl : lv_has ls 4 [(0, .ref b), (1, .ref (aC 0)), (2, .ref (aM 0)), (3, .int (nI i))]) (kk : ∀ (S T : vS) (H : Heap) (locs : List Loc), Rel S T → LH D cA aC cM aM s S T H locs → W p l e room_1 s m #[Value.ref b] below meth c H locs 600000 7302250 (lw_Z below #[Value.ref b] s) (F0 m 1476 ls [])) : W p l e room_1 s m #[Value.ref b] below meth c H locs 600000 7302250 (lw_Z below #[Value.ref b] s) (F0 m 848 ls []) := by
  obtain ⟨hx, hb, hr, hml, hown, hts, hX, hbl, hlocks, hgv⟩ := id C0
  have hbA : ¬ A0 s b := Nat.not_le.mpr hbl
  obtain ⟨G1, G2, K1, K2, E1, hne, hn1, hn2⟩ := id hG
  obtain ⟨hP, hT, hS⟩ := hH
  have h_1 : vp_in (nI i + 1) L := by rw [show (1 : Int32) = nI 1 from rfl, nI_add]; exact vp_in_nI (by omega) (by omega)
  obtain ⟨r, t, e1, e2, hv, hR1⟩ := hst S T (xs (nI i + 1).toNatClampNeg) hR
  refine lv_aload_n hx hb dL_law_848 rfl (lv_at hl 1 rfl) ?_
  refine lv_aload_n hx hb dL_law_849 rfl (lv_at hl 0 rfl) ?_
  refine lv_iload_n hx hb dL_law_850 rfl (lv_at hl 3 rfl) ?_
  refine lv_iconst (v := 1) hx hb dL_law_851 (by decide) ?_
  refine lv_iadd hx hb dL_law_852 ?_
  refine va_sld hx hb hX hbl hbA hS h_1 dL_law_853 ?_
  refine lw_call (n := 1) (As := [.int (xs (nI i + 1).toNatClampNeg)]) C0 G1 K1 E1 hn1 (c_X6_undo G1 (xs (nI i + 1).toNatClampNeg) S _ e1) wc_X6_undo wm_L_97 wz_X6 (by decide +kernel) wi_X6_undo ws_X6_undo rfl is6 rfl ⟨rfl, rfl⟩ ⟨Nat.le_of_ble_eq_true rfl, Nat.le_of_ble_eq_true rfl⟩ ⟨Nat.le_refl _, Nat.le_refl _⟩ rfl hl.1 (Nat.le_of_ble_eq_true rfl) rfl dL_law_854 hP hS (fun H1 locs1 hP hS hk => ?_)
  replace hT := wsl_kept hT hne hk
  refine lv_aload_n hx hb dL_law_857 rfl (lv_at hl 2 rfl) ?_
  refine lv_aload_n hx hb dL_law_858 rfl (lv_at hl 0 rfl) ?_
  refine lv_iload_n hx hb dL_law_859 rfl (lv_at hl 3 rfl) ?_
  refine lv_iconst (v := 1) hx hb dL_law_860 (by decide) ?_
  refine lv_iadd hx hb dL_law_861 ?_
  refine va_sld hx hb hX hbl hbA hS h_1 dL_law_862 ?_
  refine lw_call (n := 1) (As := [.int (xs (nI i + 1).toNatClampNeg)]) C0 G2 K2 trivial hn2 (c_X7_undo G2 (xs (nI i + 1).toNatClampNeg) T _ e2) wc_X7_undo wm_L_100 wz_X7 (by decide +kernel) wi_X7_undo ws_X7_undo rfl is7 rfl ⟨rfl, rfl⟩ ⟨Nat.le_of_ble_eq_true rfl, Nat.le_of_ble_eq_true rfl⟩ ⟨Nat.le_refl _, Nat.le_refl _⟩ rfl hl.1 (Nat.le_of_ble_eq_true rfl) rfl dL_law_863 hT hS (fun H2 locs2 hT hS hk => ?_)
  replace hP := wsl_kept hP (fun j k h1 h2 z => hne k j h2 h1 z.symm) hk
  refine lv_icmp_eq (tgt := 1476) hx hb dL_law_866 (by decide) (fun _ => ?_) (fun h => absurd hv h)
  exact kk _ _ _ _ hR1 ⟨hP, hT, hS⟩
set_option maxHeartbeats 4000000 in
set_option maxRecDepth 100000 in
theorem lc_sums {p : Program} {l : Launch} {e : Env} {s : State} {m : MethodId} {below : List Frame} {meth : Method} {c : Code} {D : va_G} {cA : Nat → ClassId} {aC : Nat → Nat} {cM : Nat → ClassId} {aM : Nat → Nat} {kl b L : Nat} {xs : Nat → Int32} {Rel : vS → vS → Prop} (hL : L ≤ 3072) (C0 : lw_At p s m meth c b L xs) (hG : LG D cA aC cM aM kl s) (hst : St_sums Rel) {i : Nat} (hi : i + 6 ≤ L) {S T : vS} (hR : Rel S T) {H : Heap} {locs : List Loc} (hH : LH D cA aC cM aM s S T H locs) {ls : Array Slot} (hl : lv_has ls 4 [(0, .ref b), (1, .ref (aC 0)), (2, .ref (aM 0)), (3, .int (nI i))]) (kk : ∀ (S T : vS) (H : Heap) (locs : List Loc), Rel S T → LH D cA aC cM aM s S T H locs → W p l e room_1 s m #[Value.ref b] below meth c H locs 600000 7302250 (lw_Z below #[Value.ref b] s) (F0 m 1476 ls [])) : W p l e room_1 s m #[Value.ref b] below meth c H locs 600000 7302250 (lw_Z below #[Value.ref b] s) (F0 m 871 ls []) := by
  obtain ⟨hx, hb, hr, hml, hown, hts, hX, hbl, hlocks, hgv⟩ := id C0
  have hbA : ¬ A0 s b := Nat.not_le.mpr hbl
  obtain ⟨G1, G2, K1, K2, E1, hne, hn1, hn2⟩ := id hG
  obtain ⟨hP, hT, hS⟩ := hH
  obtain ⟨t, e2, hv, hR1⟩ := hst S T hR
  refine lv_aload_n hx hb dL_law_871 rfl (lv_at hl 1 rfl) ?_
  refine lw_call (n := 0) (As := []) C0 G1 K1 E1 hn1 (c_X6_sums G1  S ) wc_X6_sums wm_L_101 wz_X6 (by decide +kernel) wi_X6_sums ws_X6_sums rfl is6 rfl ⟨rfl, rfl⟩ ⟨Nat.le_of_ble_eq_true rfl, Nat.le_of_ble_eq_true rfl⟩ ⟨Nat.le_refl _, Nat.le_refl _⟩ rfl hl.1 (Nat.le_of_ble_eq_true rfl) rfl dL_law_872 hP hS (fun H1 locs1 hP hS hk => ?_)
  replace hT := wsl_kept hT hne hk
  refine lv_aload_n hx hb dL_law_875 rfl (lv_at hl 2 rfl) ?_
  refine lw_call (n := 0) (As := []) C0 G2 K2 trivial hn2 (c_X7_sums G2  T _ e2) wc_X7_sums wm_L_105 wz_X7 (by decide +kernel) wi_X7_sums ws_X7_sums rfl is7 rfl ⟨rfl, rfl⟩ ⟨Nat.le_of_ble_eq_true rfl, Nat.le_of_ble_eq_true rfl⟩ ⟨Nat.le_refl _, Nat.le_refl _⟩ rfl hl.1 (Nat.le_of_ble_eq_true rfl) rfl dL_law_876 hT hS (fun H2 locs2 hT hS hk => ?_)
  replace hP := wsl_kept hP (fun j k h1 h2 z => hne k j h2 h1 z.symm) hk
  refine lv_icmp_eq (tgt := 1476) hx hb dL_law_879 (by decide) (fun _ => ?_) (fun h => absurd hv h)
  exact kk _ _ _ _ hR1 ⟨hP, hT, hS⟩
set_option maxHeartbeats 4000000 in
set_option maxRecDepth 100000 in
theorem lc_keep {p : Program} {l : Launch} {e : Env} {s : State} {m : MethodId} {below : List Frame} {meth : Method} {c : Code} {D : va_G} {cA : Nat → ClassId} {aC : Nat → Nat} {cM : Nat → ClassId} {aM : Nat → Nat} {kl b L : Nat} {xs : Nat → Int32} {Rel : vS → vS → Prop} (hL : L ≤ 3072) (C0 : lw_At p s m meth c b L xs) (hG : LG D cA aC cM aM kl s) (hst : St_keep Rel) {i : Nat} (hi : i + 6 ≤ L) {S T : vS} (hR : Rel S T) {H : Heap} {locs : List Loc} (hH : LH D cA aC cM aM s S T H locs) {ls : Array Slot} (hl : lv_has ls 4 [(0, .ref b), (1, .ref (aC 0)), (2, .ref (aM 0)), (3, .int (nI i))]) (kk : ∀ (S T : vS) (H : Heap) (locs : List Loc), Rel S T → LH D cA aC cM aM s S T H locs → W p l e room_1 s m #[Value.ref b] below meth c H locs 600000 7302250 (lw_Z below #[Value.ref b] s) (F0 m 1476 ls [])) : W p l e room_1 s m #[Value.ref b] below meth c H locs 600000 7302250 (lw_Z below #[Value.ref b] s) (F0 m 884 ls []) := by
  obtain ⟨hx, hb, hr, hml, hown, hts, hX, hbl, hlocks, hgv⟩ := id C0
  have hbA : ¬ A0 s b := Nat.not_le.mpr hbl
  obtain ⟨G1, G2, K1, K2, E1, hne, hn1, hn2⟩ := id hG
  obtain ⟨hP, hT, hS⟩ := hH
  have h_1 : vp_in (nI i + 1) L := by rw [show (1 : Int32) = nI 1 from rfl, nI_add]; exact vp_in_nI (by omega) (by omega)
  obtain ⟨r, t, e1, e2, hv, hR1⟩ := hst S T (xs (nI i + 1).toNatClampNeg) hR
  refine lv_aload_n hx hb dL_law_884 rfl (lv_at hl 1 rfl) ?_
  refine lv_aload_n hx hb dL_law_885 rfl (lv_at hl 0 rfl) ?_
  refine lv_iload_n hx hb dL_law_886 rfl (lv_at hl 3 rfl) ?_
  refine lv_iconst (v := 1) hx hb dL_law_887 (by decide) ?_
  refine lv_iadd hx hb dL_law_888 ?_
  refine va_sld hx hb hX hbl hbA hS h_1 dL_law_889 ?_
  refine lw_call (n := 1) (As := [.int (xs (nI i + 1).toNatClampNeg)]) C0 G1 K1 E1 hn1 (c_X6_keep G1 (xs (nI i + 1).toNatClampNeg) S _ e1) wc_X6_keep wm_L_106 wz_X6 (by decide +kernel) wi_X6_keep ws_X6_keep rfl is6 rfl ⟨rfl, rfl⟩ ⟨Nat.le_of_ble_eq_true rfl, Nat.le_of_ble_eq_true rfl⟩ ⟨Nat.le_refl _, Nat.le_refl _⟩ rfl hl.1 (Nat.le_of_ble_eq_true rfl) rfl dL_law_890 hP hS (fun H1 locs1 hP hS hk => ?_)
  replace hT := wsl_kept hT hne hk
  refine lv_aload_n hx hb dL_law_893 rfl (lv_at hl 2 rfl) ?_
  refine lv_aload_n hx hb dL_law_894 rfl (lv_at hl 0 rfl) ?_
  refine lv_iload_n hx hb dL_law_895 rfl (lv_at hl 3 rfl) ?_
  refine lv_iconst (v := 1) hx hb dL_law_896 (by decide) ?_
  refine lv_iadd hx hb dL_law_897 ?_
  refine va_sld hx hb hX hbl hbA hS h_1 dL_law_898 ?_
  refine lw_call (n := 1) (As := [.int (xs (nI i + 1).toNatClampNeg)]) C0 G2 K2 trivial hn2 (c_X7_keep G2 (xs (nI i + 1).toNatClampNeg) T _ e2) wc_X7_keep wm_L_109 wz_X7 (by decide +kernel) wi_X7_keep ws_X7_keep rfl is7 rfl ⟨rfl, rfl⟩ ⟨Nat.le_of_ble_eq_true rfl, Nat.le_of_ble_eq_true rfl⟩ ⟨Nat.le_refl _, Nat.le_refl _⟩ rfl hl.1 (Nat.le_of_ble_eq_true rfl) rfl dL_law_899 hT hS (fun H2 locs2 hT hS hk => ?_)
  replace hP := wsl_kept hP (fun j k h1 h2 z => hne k j h2 h1 z.symm) hk
  refine lv_icmp_eq (tgt := 1476) hx hb dL_law_902 (by decide) (fun _ => ?_) (fun h => absurd hv h)
  exact kk _ _ _ _ hR1 ⟨hP, hT, hS⟩
set_option maxHeartbeats 4000000 in
set_option maxRecDepth 100000 in
theorem lc_on {p : Program} {l : Launch} {e : Env} {s : State} {m : MethodId} {below : List Frame} {meth : Method} {c : Code} {D : va_G} {cA : Nat → ClassId} {aC : Nat → Nat} {cM : Nat → ClassId} {aM : Nat → Nat} {kl b L : Nat} {xs : Nat → Int32} {Rel : vS → vS → Prop} (hL : L ≤ 3072) (C0 : lw_At p s m meth c b L xs) (hG : LG D cA aC cM aM kl s) (hst : St_on Rel) {i : Nat} (hi : i + 6 ≤ L) {S T : vS} (hR : Rel S T) {H : Heap} {locs : List Loc} (hH : LH D cA aC cM aM s S T H locs) {ls : Array Slot} (hl : lv_has ls 4 [(0, .ref b), (1, .ref (aC 0)), (2, .ref (aM 0)), (3, .int (nI i))]) (kk : ∀ (S T : vS) (H : Heap) (locs : List Loc), Rel S T → LH D cA aC cM aM s S T H locs → W p l e room_1 s m #[Value.ref b] below meth c H locs 600000 7302250 (lw_Z below #[Value.ref b] s) (F0 m 1476 ls [])) : W p l e room_1 s m #[Value.ref b] below meth c H locs 600000 7302250 (lw_Z below #[Value.ref b] s) (F0 m 907 ls []) := by
  obtain ⟨hx, hb, hr, hml, hown, hts, hX, hbl, hlocks, hgv⟩ := id C0
  have hbA : ¬ A0 s b := Nat.not_le.mpr hbl
  obtain ⟨G1, G2, K1, K2, E1, hne, hn1, hn2⟩ := id hG
  obtain ⟨hP, hT, hS⟩ := hH
  have h_1 : vp_in (nI i + 1) L := by rw [show (1 : Int32) = nI 1 from rfl, nI_add]; exact vp_in_nI (by omega) (by omega)
  obtain ⟨r, t, e1, e2, hv, hR1⟩ := hst S T (xs (nI i + 1).toNatClampNeg) hR
  refine lv_aload_n hx hb dL_law_907 rfl (lv_at hl 1 rfl) ?_
  refine lv_aload_n hx hb dL_law_908 rfl (lv_at hl 0 rfl) ?_
  refine lv_iload_n hx hb dL_law_909 rfl (lv_at hl 3 rfl) ?_
  refine lv_iconst (v := 1) hx hb dL_law_910 (by decide) ?_
  refine lv_iadd hx hb dL_law_911 ?_
  refine va_sld hx hb hX hbl hbA hS h_1 dL_law_912 ?_
  refine lw_call (n := 1) (As := [.int (xs (nI i + 1).toNatClampNeg)]) C0 G1 K1 E1 hn1 (c_X6_on G1 (xs (nI i + 1).toNatClampNeg) S _ e1) wc_X6_on wm_L_110 wz_X6 (by decide +kernel) wi_X6_on ws_X6_on rfl is6 rfl ⟨rfl, rfl⟩ ⟨Nat.le_of_ble_eq_true rfl, Nat.le_of_ble_eq_true rfl⟩ ⟨Nat.le_refl _, Nat.le_refl _⟩ rfl hl.1 (Nat.le_of_ble_eq_true rfl) rfl dL_law_913 hP hS (fun H1 locs1 hP hS hk => ?_)
  replace hT := wsl_kept hT hne hk
  refine lv_aload_n hx hb dL_law_916 rfl (lv_at hl 2 rfl) ?_
  refine lv_aload_n hx hb dL_law_917 rfl (lv_at hl 0 rfl) ?_
  refine lv_iload_n hx hb dL_law_918 rfl (lv_at hl 3 rfl) ?_
  refine lv_iconst (v := 1) hx hb dL_law_919 (by decide) ?_
  refine lv_iadd hx hb dL_law_920 ?_
  refine va_sld hx hb hX hbl hbA hS h_1 dL_law_921 ?_
  refine lw_call (n := 1) (As := [.int (xs (nI i + 1).toNatClampNeg)]) C0 G2 K2 trivial hn2 (c_X7_on G2 (xs (nI i + 1).toNatClampNeg) T _ e2) wc_X7_on wm_L_113 wz_X7 (by decide +kernel) wi_X7_on ws_X7_on rfl is7 rfl ⟨rfl, rfl⟩ ⟨Nat.le_of_ble_eq_true rfl, Nat.le_of_ble_eq_true rfl⟩ ⟨Nat.le_refl _, Nat.le_refl _⟩ rfl hl.1 (Nat.le_of_ble_eq_true rfl) rfl dL_law_922 hT hS (fun H2 locs2 hT hS hk => ?_)
  replace hP := wsl_kept hP (fun j k h1 h2 z => hne k j h2 h1 z.symm) hk
  refine lv_icmp_eq (tgt := 1476) hx hb dL_law_925 (by decide) (fun _ => ?_) (fun h => absurd hv h)
  exact kk _ _ _ _ hR1 ⟨hP, hT, hS⟩
set_option maxHeartbeats 4000000 in
set_option maxRecDepth 100000 in
theorem lc_best {p : Program} {l : Launch} {e : Env} {s : State} {m : MethodId} {below : List Frame} {meth : Method} {c : Code} {D : va_G} {cA : Nat → ClassId} {aC : Nat → Nat} {cM : Nat → ClassId} {aM : Nat → Nat} {kl b L : Nat} {xs : Nat → Int32} {Rel : vS → vS → Prop} (hL : L ≤ 3072) (C0 : lw_At p s m meth c b L xs) (hG : LG D cA aC cM aM kl s) (hst : St_best Rel) {i : Nat} (hi : i + 6 ≤ L) {S T : vS} (hR : Rel S T) {H : Heap} {locs : List Loc} (hH : LH D cA aC cM aM s S T H locs) {ls : Array Slot} (hl : lv_has ls 4 [(0, .ref b), (1, .ref (aC 0)), (2, .ref (aM 0)), (3, .int (nI i))]) (kk : ∀ (S T : vS) (H : Heap) (locs : List Loc), Rel S T → LH D cA aC cM aM s S T H locs → W p l e room_1 s m #[Value.ref b] below meth c H locs 600000 7302250 (lw_Z below #[Value.ref b] s) (F0 m 1476 ls [])) : W p l e room_1 s m #[Value.ref b] below meth c H locs 600000 7302250 (lw_Z below #[Value.ref b] s) (F0 m 930 ls []) := by
  obtain ⟨hx, hb, hr, hml, hown, hts, hX, hbl, hlocks, hgv⟩ := id C0
  have hbA : ¬ A0 s b := Nat.not_le.mpr hbl
  obtain ⟨G1, G2, K1, K2, E1, hne, hn1, hn2⟩ := id hG
  obtain ⟨hP, hT, hS⟩ := hH
  have h_1 : vp_in (nI i + 1) L := by rw [show (1 : Int32) = nI 1 from rfl, nI_add]; exact vp_in_nI (by omega) (by omega)
  have h_2 : vp_in (nI i + 2) L := by rw [show (2 : Int32) = nI 2 from rfl, nI_add]; exact vp_in_nI (by omega) (by omega)
  obtain ⟨r, t, e1, e2, hv, hR1⟩ := hst S T (xs (nI i + 1).toNatClampNeg) (xs (nI i + 2).toNatClampNeg) hR
  refine lv_aload_n hx hb dL_law_930 rfl (lv_at hl 1 rfl) ?_
  refine lv_aload_n hx hb dL_law_931 rfl (lv_at hl 0 rfl) ?_
  refine lv_iload_n hx hb dL_law_932 rfl (lv_at hl 3 rfl) ?_
  refine lv_iconst (v := 1) hx hb dL_law_933 (by decide) ?_
  refine lv_iadd hx hb dL_law_934 ?_
  refine va_sld hx hb hX hbl hbA hS h_1 dL_law_935 ?_
  refine lv_aload_n hx hb dL_law_936 rfl (lv_at hl 0 rfl) ?_
  refine lv_iload_n hx hb dL_law_937 rfl (lv_at hl 3 rfl) ?_
  refine lv_iconst (v := 2) hx hb dL_law_938 (by decide) ?_
  refine lv_iadd hx hb dL_law_939 ?_
  refine va_sld hx hb hX hbl hbA hS h_2 dL_law_940 ?_
  refine lw_call (n := 2) (As := [.int (xs (nI i + 1).toNatClampNeg), .int (xs (nI i + 2).toNatClampNeg)]) C0 G1 K1 E1 hn1 (c_X6_best G1 (xs (nI i + 1).toNatClampNeg) (xs (nI i + 2).toNatClampNeg) S _ e1) wc_X6_best wm_L_114 wz_X6 (by decide +kernel) wi_X6_best ws_X6_best rfl is6 rfl ⟨rfl, rfl⟩ ⟨Nat.le_of_ble_eq_true rfl, Nat.le_of_ble_eq_true rfl⟩ ⟨Nat.le_refl _, Nat.le_refl _⟩ rfl hl.1 (Nat.le_of_ble_eq_true rfl) rfl dL_law_941 hP hS (fun H1 locs1 hP hS hk => ?_)
  replace hT := wsl_kept hT hne hk
  refine lv_aload_n hx hb dL_law_944 rfl (lv_at hl 2 rfl) ?_
  refine lv_aload_n hx hb dL_law_945 rfl (lv_at hl 0 rfl) ?_
  refine lv_iload_n hx hb dL_law_946 rfl (lv_at hl 3 rfl) ?_
  refine lv_iconst (v := 1) hx hb dL_law_947 (by decide) ?_
  refine lv_iadd hx hb dL_law_948 ?_
  refine va_sld hx hb hX hbl hbA hS h_1 dL_law_949 ?_
  refine lv_aload_n hx hb dL_law_950 rfl (lv_at hl 0 rfl) ?_
  refine lv_iload_n hx hb dL_law_951 rfl (lv_at hl 3 rfl) ?_
  refine lv_iconst (v := 2) hx hb dL_law_952 (by decide) ?_
  refine lv_iadd hx hb dL_law_953 ?_
  refine va_sld hx hb hX hbl hbA hS h_2 dL_law_954 ?_
  refine lw_call (n := 2) (As := [.int (xs (nI i + 1).toNatClampNeg), .int (xs (nI i + 2).toNatClampNeg)]) C0 G2 K2 trivial hn2 (c_X7_best G2 (xs (nI i + 1).toNatClampNeg) (xs (nI i + 2).toNatClampNeg) T _ e2) wc_X7_best wm_L_117 wz_X7 (by decide +kernel) wi_X7_best ws_X7_best rfl is7 rfl ⟨rfl, rfl⟩ ⟨Nat.le_of_ble_eq_true rfl, Nat.le_of_ble_eq_true rfl⟩ ⟨Nat.le_refl _, Nat.le_refl _⟩ rfl hl.1 (Nat.le_of_ble_eq_true rfl) rfl dL_law_955 hT hS (fun H2 locs2 hT hS hk => ?_)
  replace hP := wsl_kept hP (fun j k h1 h2 z => hne k j h2 h1 z.symm) hk
  refine lv_icmp_eq (tgt := 1476) hx hb dL_law_958 (by decide) (fun _ => ?_) (fun h => absurd hv h)
  exact kk _ _ _ _ hR1 ⟨hP, hT, hS⟩
set_option maxHeartbeats 4000000 in
set_option maxRecDepth 100000 in
theorem lc_tries {p : Program} {l : Launch} {e : Env} {s : State} {m : MethodId} {below : List Frame} {meth : Method} {c : Code} {D : va_G} {cA : Nat → ClassId} {aC : Nat → Nat} {cM : Nat → ClassId} {aM : Nat → Nat} {kl b L : Nat} {xs : Nat → Int32} {Rel : vS → vS → Prop} (hL : L ≤ 3072) (C0 : lw_At p s m meth c b L xs) (hG : LG D cA aC cM aM kl s) (hst : St_tries Rel) {i : Nat} (hi : i + 6 ≤ L) {S T : vS} (hR : Rel S T) {H : Heap} {locs : List Loc} (hH : LH D cA aC cM aM s S T H locs) {ls : Array Slot} (hl : lv_has ls 4 [(0, .ref b), (1, .ref (aC 0)), (2, .ref (aM 0)), (3, .int (nI i))]) (kk : ∀ (S T : vS) (H : Heap) (locs : List Loc), Rel S T → LH D cA aC cM aM s S T H locs → W p l e room_1 s m #[Value.ref b] below meth c H locs 600000 7302250 (lw_Z below #[Value.ref b] s) (F0 m 1476 ls [])) : W p l e room_1 s m #[Value.ref b] below meth c H locs 600000 7302250 (lw_Z below #[Value.ref b] s) (F0 m 963 ls []) := by
  obtain ⟨hx, hb, hr, hml, hown, hts, hX, hbl, hlocks, hgv⟩ := id C0
  have hbA : ¬ A0 s b := Nat.not_le.mpr hbl
  obtain ⟨G1, G2, K1, K2, E1, hne, hn1, hn2⟩ := id hG
  obtain ⟨hP, hT, hS⟩ := hH
  have h_1 : vp_in (nI i + 1) L := by rw [show (1 : Int32) = nI 1 from rfl, nI_add]; exact vp_in_nI (by omega) (by omega)
  obtain ⟨r, t, e1, e2, hv, hR1⟩ := hst S T (xs (nI i + 1).toNatClampNeg) hR
  refine lv_aload_n hx hb dL_law_963 rfl (lv_at hl 1 rfl) ?_
  refine lv_aload_n hx hb dL_law_964 rfl (lv_at hl 0 rfl) ?_
  refine lv_iload_n hx hb dL_law_965 rfl (lv_at hl 3 rfl) ?_
  refine lv_iconst (v := 1) hx hb dL_law_966 (by decide) ?_
  refine lv_iadd hx hb dL_law_967 ?_
  refine va_sld hx hb hX hbl hbA hS h_1 dL_law_968 ?_
  refine lw_call (n := 1) (As := [.int (xs (nI i + 1).toNatClampNeg)]) C0 G1 K1 E1 hn1 (c_X6_tries G1 (xs (nI i + 1).toNatClampNeg) S _ e1) wc_X6_tries wm_L_118 wz_X6 (by decide +kernel) wi_X6_tries ws_X6_tries rfl is6 rfl ⟨rfl, rfl⟩ ⟨Nat.le_of_ble_eq_true rfl, Nat.le_of_ble_eq_true rfl⟩ ⟨Nat.le_refl _, Nat.le_refl _⟩ rfl hl.1 (Nat.le_of_ble_eq_true rfl) rfl dL_law_969 hP hS (fun H1 locs1 hP hS hk => ?_)
  replace hT := wsl_kept hT hne hk
  refine lv_aload_n hx hb dL_law_972 rfl (lv_at hl 2 rfl) ?_
  refine lv_aload_n hx hb dL_law_973 rfl (lv_at hl 0 rfl) ?_
  refine lv_iload_n hx hb dL_law_974 rfl (lv_at hl 3 rfl) ?_
  refine lv_iconst (v := 1) hx hb dL_law_975 (by decide) ?_
  refine lv_iadd hx hb dL_law_976 ?_
  refine va_sld hx hb hX hbl hbA hS h_1 dL_law_977 ?_
  refine lw_call (n := 1) (As := [.int (xs (nI i + 1).toNatClampNeg)]) C0 G2 K2 trivial hn2 (c_X7_tries G2 (xs (nI i + 1).toNatClampNeg) T _ e2) wc_X7_tries wm_L_121 wz_X7 (by decide +kernel) wi_X7_tries ws_X7_tries rfl is7 rfl ⟨rfl, rfl⟩ ⟨Nat.le_of_ble_eq_true rfl, Nat.le_of_ble_eq_true rfl⟩ ⟨Nat.le_refl _, Nat.le_refl _⟩ rfl hl.1 (Nat.le_of_ble_eq_true rfl) rfl dL_law_978 hT hS (fun H2 locs2 hT hS hk => ?_)
  replace hP := wsl_kept hP (fun j k h1 h2 z => hne k j h2 h1 z.symm) hk
  refine lv_icmp_eq (tgt := 1476) hx hb dL_law_981 (by decide) (fun _ => ?_) (fun h => absurd hv h)
  exact kk _ _ _ _ hR1 ⟨hP, hT, hS⟩
set_option maxHeartbeats 4000000 in
set_option maxRecDepth 100000 in
theorem lc_safe {p : Program} {l : Launch} {e : Env} {s : State} {m : MethodId} {below : List Frame} {meth : Method} {c : Code} {D : va_G} {cA : Nat → ClassId} {aC : Nat → Nat} {cM : Nat → ClassId} {aM : Nat → Nat} {kl b L : Nat} {xs : Nat → Int32} {Rel : vS → vS → Prop} (hL : L ≤ 3072) (C0 : lw_At p s m meth c b L xs) (hG : LG D cA aC cM aM kl s) (hst : St_safe Rel) {i : Nat} (hi : i + 6 ≤ L) {S T : vS} (hR : Rel S T) {H : Heap} {locs : List Loc} (hH : LH D cA aC cM aM s S T H locs) {ls : Array Slot} (hl : lv_has ls 4 [(0, .ref b), (1, .ref (aC 0)), (2, .ref (aM 0)), (3, .int (nI i))]) (kk : ∀ (S T : vS) (H : Heap) (locs : List Loc), Rel S T → LH D cA aC cM aM s S T H locs → W p l e room_1 s m #[Value.ref b] below meth c H locs 600000 7302250 (lw_Z below #[Value.ref b] s) (F0 m 1476 ls [])) : W p l e room_1 s m #[Value.ref b] below meth c H locs 600000 7302250 (lw_Z below #[Value.ref b] s) (F0 m 986 ls []) := by
  obtain ⟨hx, hb, hr, hml, hown, hts, hX, hbl, hlocks, hgv⟩ := id C0
  have hbA : ¬ A0 s b := Nat.not_le.mpr hbl
  obtain ⟨G1, G2, K1, K2, E1, hne, hn1, hn2⟩ := id hG
  obtain ⟨hP, hT, hS⟩ := hH
  have h_1 : vp_in (nI i + 1) L := by rw [show (1 : Int32) = nI 1 from rfl, nI_add]; exact vp_in_nI (by omega) (by omega)
  have h_2 : vp_in (nI i + 2) L := by rw [show (2 : Int32) = nI 2 from rfl, nI_add]; exact vp_in_nI (by omega) (by omega)
  obtain ⟨r, t, e1, e2, hv, hR1⟩ := hst S T (xs (nI i + 1).toNatClampNeg) (xs (nI i + 2).toNatClampNeg) hR
  refine lv_aload_n hx hb dL_law_986 rfl (lv_at hl 1 rfl) ?_
  refine lv_aload_n hx hb dL_law_987 rfl (lv_at hl 0 rfl) ?_
  refine lv_iload_n hx hb dL_law_988 rfl (lv_at hl 3 rfl) ?_
  refine lv_iconst (v := 1) hx hb dL_law_989 (by decide) ?_
  refine lv_iadd hx hb dL_law_990 ?_
  refine va_sld hx hb hX hbl hbA hS h_1 dL_law_991 ?_
  refine lv_aload_n hx hb dL_law_992 rfl (lv_at hl 0 rfl) ?_
  refine lv_iload_n hx hb dL_law_993 rfl (lv_at hl 3 rfl) ?_
  refine lv_iconst (v := 2) hx hb dL_law_994 (by decide) ?_
  refine lv_iadd hx hb dL_law_995 ?_
  refine va_sld hx hb hX hbl hbA hS h_2 dL_law_996 ?_
  refine lw_call (n := 2) (As := [.int (xs (nI i + 1).toNatClampNeg), .int (xs (nI i + 2).toNatClampNeg)]) C0 G1 K1 E1 hn1 (c_X6_safe G1 (xs (nI i + 1).toNatClampNeg) (xs (nI i + 2).toNatClampNeg) S _ e1) wc_X6_safe wm_L_122 wz_X6 (by decide +kernel) wi_X6_safe ws_X6_safe rfl is6 rfl ⟨rfl, rfl⟩ ⟨Nat.le_of_ble_eq_true rfl, Nat.le_of_ble_eq_true rfl⟩ ⟨Nat.le_refl _, Nat.le_refl _⟩ rfl hl.1 (Nat.le_of_ble_eq_true rfl) rfl dL_law_997 hP hS (fun H1 locs1 hP hS hk => ?_)
  replace hT := wsl_kept hT hne hk
  refine lv_aload_n hx hb dL_law_1000 rfl (lv_at hl 2 rfl) ?_
  refine lv_aload_n hx hb dL_law_1001 rfl (lv_at hl 0 rfl) ?_
  refine lv_iload_n hx hb dL_law_1002 rfl (lv_at hl 3 rfl) ?_
  refine lv_iconst (v := 1) hx hb dL_law_1003 (by decide) ?_
  refine lv_iadd hx hb dL_law_1004 ?_
  refine va_sld hx hb hX hbl hbA hS h_1 dL_law_1005 ?_
  refine lv_aload_n hx hb dL_law_1006 rfl (lv_at hl 0 rfl) ?_
  refine lv_iload_n hx hb dL_law_1007 rfl (lv_at hl 3 rfl) ?_
  refine lv_iconst (v := 2) hx hb dL_law_1008 (by decide) ?_
  refine lv_iadd hx hb dL_law_1009 ?_
  refine va_sld hx hb hX hbl hbA hS h_2 dL_law_1010 ?_
  refine lw_call (n := 2) (As := [.int (xs (nI i + 1).toNatClampNeg), .int (xs (nI i + 2).toNatClampNeg)]) C0 G2 K2 trivial hn2 (c_X7_safe G2 (xs (nI i + 1).toNatClampNeg) (xs (nI i + 2).toNatClampNeg) T _ e2) wc_X7_safe wm_L_125 wz_X7 (by decide +kernel) wi_X7_safe ws_X7_safe rfl is7 rfl ⟨rfl, rfl⟩ ⟨Nat.le_of_ble_eq_true rfl, Nat.le_of_ble_eq_true rfl⟩ ⟨Nat.le_refl _, Nat.le_refl _⟩ rfl hl.1 (Nat.le_of_ble_eq_true rfl) rfl dL_law_1011 hT hS (fun H2 locs2 hT hS hk => ?_)
  replace hP := wsl_kept hP (fun j k h1 h2 z => hne k j h2 h1 z.symm) hk
  refine lv_icmp_eq (tgt := 1476) hx hb dL_law_1014 (by decide) (fun _ => ?_) (fun h => absurd hv h)
  exact kk _ _ _ _ hR1 ⟨hP, hT, hS⟩
set_option maxHeartbeats 4000000 in
set_option maxRecDepth 100000 in
theorem lc_share {p : Program} {l : Launch} {e : Env} {s : State} {m : MethodId} {below : List Frame} {meth : Method} {c : Code} {D : va_G} {cA : Nat → ClassId} {aC : Nat → Nat} {cM : Nat → ClassId} {aM : Nat → Nat} {kl b L : Nat} {xs : Nat → Int32} {Rel : vS → vS → Prop} (hL : L ≤ 3072) (C0 : lw_At p s m meth c b L xs) (hG : LG D cA aC cM aM kl s) (hst : St_share Rel) {i : Nat} (hi : i + 6 ≤ L) {S T : vS} (hR : Rel S T) {H : Heap} {locs : List Loc} (hH : LH D cA aC cM aM s S T H locs) {ls : Array Slot} (hl : lv_has ls 4 [(0, .ref b), (1, .ref (aC 0)), (2, .ref (aM 0)), (3, .int (nI i))]) (kk : ∀ (S T : vS) (H : Heap) (locs : List Loc), Rel S T → LH D cA aC cM aM s S T H locs → W p l e room_1 s m #[Value.ref b] below meth c H locs 600000 7302250 (lw_Z below #[Value.ref b] s) (F0 m 1476 ls [])) : W p l e room_1 s m #[Value.ref b] below meth c H locs 600000 7302250 (lw_Z below #[Value.ref b] s) (F0 m 1019 ls []) := by
  obtain ⟨hx, hb, hr, hml, hown, hts, hX, hbl, hlocks, hgv⟩ := id C0
  have hbA : ¬ A0 s b := Nat.not_le.mpr hbl
  obtain ⟨G1, G2, K1, K2, E1, hne, hn1, hn2⟩ := id hG
  obtain ⟨hP, hT, hS⟩ := hH
  have h_1 : vp_in (nI i + 1) L := by rw [show (1 : Int32) = nI 1 from rfl, nI_add]; exact vp_in_nI (by omega) (by omega)
  obtain ⟨r, t, e1, e2, hv, hR1⟩ := hst S T (xs (nI i + 1).toNatClampNeg) hR
  refine lv_aload_n hx hb dL_law_1019 rfl (lv_at hl 1 rfl) ?_
  refine lv_aload_n hx hb dL_law_1020 rfl (lv_at hl 0 rfl) ?_
  refine lv_iload_n hx hb dL_law_1021 rfl (lv_at hl 3 rfl) ?_
  refine lv_iconst (v := 1) hx hb dL_law_1022 (by decide) ?_
  refine lv_iadd hx hb dL_law_1023 ?_
  refine va_sld hx hb hX hbl hbA hS h_1 dL_law_1024 ?_
  refine lw_call (n := 1) (As := [.int (xs (nI i + 1).toNatClampNeg)]) C0 G1 K1 E1 hn1 (c_X6_share G1 (xs (nI i + 1).toNatClampNeg) S _ e1) wc_X6_share wm_L_126 wz_X6 (by decide +kernel) wi_X6_share ws_X6_share rfl is6 rfl ⟨rfl, rfl⟩ ⟨Nat.le_of_ble_eq_true rfl, Nat.le_of_ble_eq_true rfl⟩ ⟨Nat.le_refl _, Nat.le_refl _⟩ rfl hl.1 (Nat.le_of_ble_eq_true rfl) rfl dL_law_1025 hP hS (fun H1 locs1 hP hS hk => ?_)
  replace hT := wsl_kept hT hne hk
  refine lv_aload_n hx hb dL_law_1028 rfl (lv_at hl 2 rfl) ?_
  refine lv_aload_n hx hb dL_law_1029 rfl (lv_at hl 0 rfl) ?_
  refine lv_iload_n hx hb dL_law_1030 rfl (lv_at hl 3 rfl) ?_
  refine lv_iconst (v := 1) hx hb dL_law_1031 (by decide) ?_
  refine lv_iadd hx hb dL_law_1032 ?_
  refine va_sld hx hb hX hbl hbA hS h_1 dL_law_1033 ?_
  refine lw_call (n := 1) (As := [.int (xs (nI i + 1).toNatClampNeg)]) C0 G2 K2 trivial hn2 (c_X7_share G2 (xs (nI i + 1).toNatClampNeg) T _ e2) wc_X7_share wm_L_129 wz_X7 (by decide +kernel) wi_X7_share ws_X7_share rfl is7 rfl ⟨rfl, rfl⟩ ⟨Nat.le_of_ble_eq_true rfl, Nat.le_of_ble_eq_true rfl⟩ ⟨Nat.le_refl _, Nat.le_refl _⟩ rfl hl.1 (Nat.le_of_ble_eq_true rfl) rfl dL_law_1034 hT hS (fun H2 locs2 hT hS hk => ?_)
  replace hP := wsl_kept hP (fun j k h1 h2 z => hne k j h2 h1 z.symm) hk
  refine lv_icmp_eq (tgt := 1476) hx hb dL_law_1037 (by decide) (fun _ => ?_) (fun h => absurd hv h)
  exact kk _ _ _ _ hR1 ⟨hP, hT, hS⟩
set_option maxHeartbeats 4000000 in
set_option maxRecDepth 100000 in
theorem lc_food {p : Program} {l : Launch} {e : Env} {s : State} {m : MethodId} {below : List Frame} {meth : Method} {c : Code} {D : va_G} {cA : Nat → ClassId} {aC : Nat → Nat} {cM : Nat → ClassId} {aM : Nat → Nat} {kl b L : Nat} {xs : Nat → Int32} {Rel : vS → vS → Prop} (hL : L ≤ 3072) (C0 : lw_At p s m meth c b L xs) (hG : LG D cA aC cM aM kl s) (hst : St_food Rel) {i : Nat} (hi : i + 6 ≤ L) {S T : vS} (hR : Rel S T) {H : Heap} {locs : List Loc} (hH : LH D cA aC cM aM s S T H locs) {ls : Array Slot} (hl : lv_has ls 4 [(0, .ref b), (1, .ref (aC 0)), (2, .ref (aM 0)), (3, .int (nI i))]) (kk : ∀ (S T : vS) (H : Heap) (locs : List Loc), Rel S T → LH D cA aC cM aM s S T H locs → W p l e room_1 s m #[Value.ref b] below meth c H locs 600000 7302250 (lw_Z below #[Value.ref b] s) (F0 m 1476 ls [])) : W p l e room_1 s m #[Value.ref b] below meth c H locs 600000 7302250 (lw_Z below #[Value.ref b] s) (F0 m 1042 ls []) := by
  obtain ⟨hx, hb, hr, hml, hown, hts, hX, hbl, hlocks, hgv⟩ := id C0
  have hbA : ¬ A0 s b := Nat.not_le.mpr hbl
  obtain ⟨G1, G2, K1, K2, E1, hne, hn1, hn2⟩ := id hG
  obtain ⟨hP, hT, hS⟩ := hH
  have h_1 : vp_in (nI i + 1) L := by rw [show (1 : Int32) = nI 1 from rfl, nI_add]; exact vp_in_nI (by omega) (by omega)
  obtain ⟨r, t, e1, e2, hv, hR1⟩ := hst S T (xs (nI i + 1).toNatClampNeg) hR
  refine lv_aload_n hx hb dL_law_1042 rfl (lv_at hl 1 rfl) ?_
  refine lv_aload_n hx hb dL_law_1043 rfl (lv_at hl 0 rfl) ?_
  refine lv_iload_n hx hb dL_law_1044 rfl (lv_at hl 3 rfl) ?_
  refine lv_iconst (v := 1) hx hb dL_law_1045 (by decide) ?_
  refine lv_iadd hx hb dL_law_1046 ?_
  refine va_sld hx hb hX hbl hbA hS h_1 dL_law_1047 ?_
  refine lw_call (n := 1) (As := [.int (xs (nI i + 1).toNatClampNeg)]) C0 G1 K1 E1 hn1 (c_X6_food G1 (xs (nI i + 1).toNatClampNeg) S _ e1) wc_X6_food wm_L_130 wz_X6 (by decide +kernel) wi_X6_food ws_X6_food rfl is6 rfl ⟨rfl, rfl⟩ ⟨Nat.le_of_ble_eq_true rfl, Nat.le_of_ble_eq_true rfl⟩ ⟨Nat.le_refl _, Nat.le_refl _⟩ rfl hl.1 (Nat.le_of_ble_eq_true rfl) rfl dL_law_1048 hP hS (fun H1 locs1 hP hS hk => ?_)
  replace hT := wsl_kept hT hne hk
  refine lv_aload_n hx hb dL_law_1051 rfl (lv_at hl 2 rfl) ?_
  refine lv_aload_n hx hb dL_law_1052 rfl (lv_at hl 0 rfl) ?_
  refine lv_iload_n hx hb dL_law_1053 rfl (lv_at hl 3 rfl) ?_
  refine lv_iconst (v := 1) hx hb dL_law_1054 (by decide) ?_
  refine lv_iadd hx hb dL_law_1055 ?_
  refine va_sld hx hb hX hbl hbA hS h_1 dL_law_1056 ?_
  refine lw_call (n := 1) (As := [.int (xs (nI i + 1).toNatClampNeg)]) C0 G2 K2 trivial hn2 (c_X7_food G2 (xs (nI i + 1).toNatClampNeg) T _ e2) wc_X7_food wm_L_133 wz_X7 (by decide +kernel) wi_X7_food ws_X7_food rfl is7 rfl ⟨rfl, rfl⟩ ⟨Nat.le_of_ble_eq_true rfl, Nat.le_of_ble_eq_true rfl⟩ ⟨Nat.le_refl _, Nat.le_refl _⟩ rfl hl.1 (Nat.le_of_ble_eq_true rfl) rfl dL_law_1057 hT hS (fun H2 locs2 hT hS hk => ?_)
  replace hP := wsl_kept hP (fun j k h1 h2 z => hne k j h2 h1 z.symm) hk
  refine lv_icmp_eq (tgt := 1476) hx hb dL_law_1060 (by decide) (fun _ => ?_) (fun h => absurd hv h)
  exact kk _ _ _ _ hR1 ⟨hP, hT, hS⟩
set_option maxHeartbeats 4000000 in
set_option maxRecDepth 100000 in
theorem lc_harm {p : Program} {l : Launch} {e : Env} {s : State} {m : MethodId} {below : List Frame} {meth : Method} {c : Code} {D : va_G} {cA : Nat → ClassId} {aC : Nat → Nat} {cM : Nat → ClassId} {aM : Nat → Nat} {kl b L : Nat} {xs : Nat → Int32} {Rel : vS → vS → Prop} (hL : L ≤ 3072) (C0 : lw_At p s m meth c b L xs) (hG : LG D cA aC cM aM kl s) (hst : St_harm Rel) {i : Nat} (hi : i + 6 ≤ L) {S T : vS} (hR : Rel S T) {H : Heap} {locs : List Loc} (hH : LH D cA aC cM aM s S T H locs) {ls : Array Slot} (hl : lv_has ls 4 [(0, .ref b), (1, .ref (aC 0)), (2, .ref (aM 0)), (3, .int (nI i))]) (kk : ∀ (S T : vS) (H : Heap) (locs : List Loc), Rel S T → LH D cA aC cM aM s S T H locs → W p l e room_1 s m #[Value.ref b] below meth c H locs 600000 7302250 (lw_Z below #[Value.ref b] s) (F0 m 1476 ls [])) : W p l e room_1 s m #[Value.ref b] below meth c H locs 600000 7302250 (lw_Z below #[Value.ref b] s) (F0 m 1065 ls []) := by
  obtain ⟨hx, hb, hr, hml, hown, hts, hX, hbl, hlocks, hgv⟩ := id C0
  have hbA : ¬ A0 s b := Nat.not_le.mpr hbl
  obtain ⟨G1, G2, K1, K2, E1, hne, hn1, hn2⟩ := id hG
  obtain ⟨hP, hT, hS⟩ := hH
  have h_1 : vp_in (nI i + 1) L := by rw [show (1 : Int32) = nI 1 from rfl, nI_add]; exact vp_in_nI (by omega) (by omega)
  obtain ⟨r, t, e1, e2, hv, hR1⟩ := hst S T (xs (nI i + 1).toNatClampNeg) hR
  refine lv_aload_n hx hb dL_law_1065 rfl (lv_at hl 1 rfl) ?_
  refine lv_aload_n hx hb dL_law_1066 rfl (lv_at hl 0 rfl) ?_
  refine lv_iload_n hx hb dL_law_1067 rfl (lv_at hl 3 rfl) ?_
  refine lv_iconst (v := 1) hx hb dL_law_1068 (by decide) ?_
  refine lv_iadd hx hb dL_law_1069 ?_
  refine va_sld hx hb hX hbl hbA hS h_1 dL_law_1070 ?_
  refine lw_call (n := 1) (As := [.int (xs (nI i + 1).toNatClampNeg)]) C0 G1 K1 E1 hn1 (c_X6_harm G1 (xs (nI i + 1).toNatClampNeg) S _ e1) wc_X6_harm wm_L_134 wz_X6 (by decide +kernel) wi_X6_harm ws_X6_harm rfl is6 rfl ⟨rfl, rfl⟩ ⟨Nat.le_of_ble_eq_true rfl, Nat.le_of_ble_eq_true rfl⟩ ⟨Nat.le_refl _, Nat.le_refl _⟩ rfl hl.1 (Nat.le_of_ble_eq_true rfl) rfl dL_law_1071 hP hS (fun H1 locs1 hP hS hk => ?_)
  replace hT := wsl_kept hT hne hk
  refine lv_aload_n hx hb dL_law_1074 rfl (lv_at hl 2 rfl) ?_
  refine lv_aload_n hx hb dL_law_1075 rfl (lv_at hl 0 rfl) ?_
  refine lv_iload_n hx hb dL_law_1076 rfl (lv_at hl 3 rfl) ?_
  refine lv_iconst (v := 1) hx hb dL_law_1077 (by decide) ?_
  refine lv_iadd hx hb dL_law_1078 ?_
  refine va_sld hx hb hX hbl hbA hS h_1 dL_law_1079 ?_
  refine lw_call (n := 1) (As := [.int (xs (nI i + 1).toNatClampNeg)]) C0 G2 K2 trivial hn2 (c_X7_harm G2 (xs (nI i + 1).toNatClampNeg) T _ e2) wc_X7_harm wm_L_137 wz_X7 (by decide +kernel) wi_X7_harm ws_X7_harm rfl is7 rfl ⟨rfl, rfl⟩ ⟨Nat.le_of_ble_eq_true rfl, Nat.le_of_ble_eq_true rfl⟩ ⟨Nat.le_refl _, Nat.le_refl _⟩ rfl hl.1 (Nat.le_of_ble_eq_true rfl) rfl dL_law_1080 hT hS (fun H2 locs2 hT hS hk => ?_)
  replace hP := wsl_kept hP (fun j k h1 h2 z => hne k j h2 h1 z.symm) hk
  refine lv_icmp_eq (tgt := 1476) hx hb dL_law_1083 (by decide) (fun _ => ?_) (fun h => absurd hv h)
  exact kk _ _ _ _ hR1 ⟨hP, hT, hS⟩
set_option maxHeartbeats 4000000 in
set_option maxRecDepth 100000 in
theorem lc_starve {p : Program} {l : Launch} {e : Env} {s : State} {m : MethodId} {below : List Frame} {meth : Method} {c : Code} {D : va_G} {cA : Nat → ClassId} {aC : Nat → Nat} {cM : Nat → ClassId} {aM : Nat → Nat} {kl b L : Nat} {xs : Nat → Int32} {Rel : vS → vS → Prop} (hL : L ≤ 3072) (C0 : lw_At p s m meth c b L xs) (hG : LG D cA aC cM aM kl s) (hst : St_starve Rel) {i : Nat} (hi : i + 6 ≤ L) {S T : vS} (hR : Rel S T) {H : Heap} {locs : List Loc} (hH : LH D cA aC cM aM s S T H locs) {ls : Array Slot} (hl : lv_has ls 4 [(0, .ref b), (1, .ref (aC 0)), (2, .ref (aM 0)), (3, .int (nI i))]) (kk : ∀ (S T : vS) (H : Heap) (locs : List Loc), Rel S T → LH D cA aC cM aM s S T H locs → W p l e room_1 s m #[Value.ref b] below meth c H locs 600000 7302250 (lw_Z below #[Value.ref b] s) (F0 m 1476 ls [])) : W p l e room_1 s m #[Value.ref b] below meth c H locs 600000 7302250 (lw_Z below #[Value.ref b] s) (F0 m 1088 ls []) := by
  obtain ⟨hx, hb, hr, hml, hown, hts, hX, hbl, hlocks, hgv⟩ := id C0
  have hbA : ¬ A0 s b := Nat.not_le.mpr hbl
  obtain ⟨G1, G2, K1, K2, E1, hne, hn1, hn2⟩ := id hG
  obtain ⟨hP, hT, hS⟩ := hH
  have h_1 : vp_in (nI i + 1) L := by rw [show (1 : Int32) = nI 1 from rfl, nI_add]; exact vp_in_nI (by omega) (by omega)
  obtain ⟨r, t, e1, e2, hv, hR1⟩ := hst S T (xs (nI i + 1).toNatClampNeg) hR
  refine lv_aload_n hx hb dL_law_1088 rfl (lv_at hl 1 rfl) ?_
  refine lv_aload_n hx hb dL_law_1089 rfl (lv_at hl 0 rfl) ?_
  refine lv_iload_n hx hb dL_law_1090 rfl (lv_at hl 3 rfl) ?_
  refine lv_iconst (v := 1) hx hb dL_law_1091 (by decide) ?_
  refine lv_iadd hx hb dL_law_1092 ?_
  refine va_sld hx hb hX hbl hbA hS h_1 dL_law_1093 ?_
  refine lw_call (n := 1) (As := [.int (xs (nI i + 1).toNatClampNeg)]) C0 G1 K1 E1 hn1 (c_X6_starve G1 (xs (nI i + 1).toNatClampNeg) S _ e1) wc_X6_starve wm_L_138 wz_X6 (by decide +kernel) wi_X6_starve ws_X6_starve rfl is6 rfl ⟨rfl, rfl⟩ ⟨Nat.le_of_ble_eq_true rfl, Nat.le_of_ble_eq_true rfl⟩ ⟨Nat.le_refl _, Nat.le_refl _⟩ rfl hl.1 (Nat.le_of_ble_eq_true rfl) rfl dL_law_1094 hP hS (fun H1 locs1 hP hS hk => ?_)
  replace hT := wsl_kept hT hne hk
  refine lv_aload_n hx hb dL_law_1097 rfl (lv_at hl 2 rfl) ?_
  refine lv_aload_n hx hb dL_law_1098 rfl (lv_at hl 0 rfl) ?_
  refine lv_iload_n hx hb dL_law_1099 rfl (lv_at hl 3 rfl) ?_
  refine lv_iconst (v := 1) hx hb dL_law_1100 (by decide) ?_
  refine lv_iadd hx hb dL_law_1101 ?_
  refine va_sld hx hb hX hbl hbA hS h_1 dL_law_1102 ?_
  refine lw_call (n := 1) (As := [.int (xs (nI i + 1).toNatClampNeg)]) C0 G2 K2 trivial hn2 (c_X7_starve G2 (xs (nI i + 1).toNatClampNeg) T _ e2) wc_X7_starve wm_L_141 wz_X7 (by decide +kernel) wi_X7_starve ws_X7_starve rfl is7 rfl ⟨rfl, rfl⟩ ⟨Nat.le_of_ble_eq_true rfl, Nat.le_of_ble_eq_true rfl⟩ ⟨Nat.le_refl _, Nat.le_refl _⟩ rfl hl.1 (Nat.le_of_ble_eq_true rfl) rfl dL_law_1103 hT hS (fun H2 locs2 hT hS hk => ?_)
  replace hP := wsl_kept hP (fun j k h1 h2 z => hne k j h2 h1 z.symm) hk
  refine lv_icmp_eq (tgt := 1476) hx hb dL_law_1106 (by decide) (fun _ => ?_) (fun h => absurd hv h)
  exact kk _ _ _ _ hR1 ⟨hP, hT, hS⟩
set_option maxHeartbeats 4000000 in
set_option maxRecDepth 100000 in
theorem lc_price {p : Program} {l : Launch} {e : Env} {s : State} {m : MethodId} {below : List Frame} {meth : Method} {c : Code} {D : va_G} {cA : Nat → ClassId} {aC : Nat → Nat} {cM : Nat → ClassId} {aM : Nat → Nat} {kl b L : Nat} {xs : Nat → Int32} {Rel : vS → vS → Prop} (hL : L ≤ 3072) (C0 : lw_At p s m meth c b L xs) (hG : LG D cA aC cM aM kl s) (hst : St_price Rel) {i : Nat} (hi : i + 6 ≤ L) {S T : vS} (hR : Rel S T) {H : Heap} {locs : List Loc} (hH : LH D cA aC cM aM s S T H locs) {ls : Array Slot} (hl : lv_has ls 4 [(0, .ref b), (1, .ref (aC 0)), (2, .ref (aM 0)), (3, .int (nI i))]) (kk : ∀ (S T : vS) (H : Heap) (locs : List Loc), Rel S T → LH D cA aC cM aM s S T H locs → W p l e room_1 s m #[Value.ref b] below meth c H locs 600000 7302250 (lw_Z below #[Value.ref b] s) (F0 m 1476 ls [])) : W p l e room_1 s m #[Value.ref b] below meth c H locs 600000 7302250 (lw_Z below #[Value.ref b] s) (F0 m 1111 ls []) := by
  obtain ⟨hx, hb, hr, hml, hown, hts, hX, hbl, hlocks, hgv⟩ := id C0
  have hbA : ¬ A0 s b := Nat.not_le.mpr hbl
  obtain ⟨G1, G2, K1, K2, E1, hne, hn1, hn2⟩ := id hG
  obtain ⟨hP, hT, hS⟩ := hH
  have h_1 : vp_in (nI i + 1) L := by rw [show (1 : Int32) = nI 1 from rfl, nI_add]; exact vp_in_nI (by omega) (by omega)
  have h_2 : vp_in (nI i + 2) L := by rw [show (2 : Int32) = nI 2 from rfl, nI_add]; exact vp_in_nI (by omega) (by omega)
  obtain ⟨r, t, e1, e2, hv, hR1⟩ := hst S T (xs (nI i + 1).toNatClampNeg) (xs (nI i + 2).toNatClampNeg) hR
  refine lv_aload_n hx hb dL_law_1111 rfl (lv_at hl 1 rfl) ?_
  refine lv_aload_n hx hb dL_law_1112 rfl (lv_at hl 0 rfl) ?_
  refine lv_iload_n hx hb dL_law_1113 rfl (lv_at hl 3 rfl) ?_
  refine lv_iconst (v := 1) hx hb dL_law_1114 (by decide) ?_
  refine lv_iadd hx hb dL_law_1115 ?_
  refine va_sld hx hb hX hbl hbA hS h_1 dL_law_1116 ?_
  refine lv_aload_n hx hb dL_law_1117 rfl (lv_at hl 0 rfl) ?_
  refine lv_iload_n hx hb dL_law_1118 rfl (lv_at hl 3 rfl) ?_
  refine lv_iconst (v := 2) hx hb dL_law_1119 (by decide) ?_
  refine lv_iadd hx hb dL_law_1120 ?_
  refine va_sld hx hb hX hbl hbA hS h_2 dL_law_1121 ?_
  refine lw_call (n := 2) (As := [.int (xs (nI i + 1).toNatClampNeg), .int (xs (nI i + 2).toNatClampNeg)]) C0 G1 K1 E1 hn1 (c_X6_price G1 (xs (nI i + 1).toNatClampNeg) (xs (nI i + 2).toNatClampNeg) S _ e1) wc_X6_price wm_L_142 wz_X6 (by decide +kernel) wi_X6_price ws_X6_price rfl is6 rfl ⟨rfl, rfl⟩ ⟨Nat.le_of_ble_eq_true rfl, Nat.le_of_ble_eq_true rfl⟩ ⟨Nat.le_refl _, Nat.le_refl _⟩ rfl hl.1 (Nat.le_of_ble_eq_true rfl) rfl dL_law_1122 hP hS (fun H1 locs1 hP hS hk => ?_)
  replace hT := wsl_kept hT hne hk
  refine lv_aload_n hx hb dL_law_1125 rfl (lv_at hl 2 rfl) ?_
  refine lv_aload_n hx hb dL_law_1126 rfl (lv_at hl 0 rfl) ?_
  refine lv_iload_n hx hb dL_law_1127 rfl (lv_at hl 3 rfl) ?_
  refine lv_iconst (v := 1) hx hb dL_law_1128 (by decide) ?_
  refine lv_iadd hx hb dL_law_1129 ?_
  refine va_sld hx hb hX hbl hbA hS h_1 dL_law_1130 ?_
  refine lv_aload_n hx hb dL_law_1131 rfl (lv_at hl 0 rfl) ?_
  refine lv_iload_n hx hb dL_law_1132 rfl (lv_at hl 3 rfl) ?_
  refine lv_iconst (v := 2) hx hb dL_law_1133 (by decide) ?_
  refine lv_iadd hx hb dL_law_1134 ?_
  refine va_sld hx hb hX hbl hbA hS h_2 dL_law_1135 ?_
  refine lw_call (n := 2) (As := [.int (xs (nI i + 1).toNatClampNeg), .int (xs (nI i + 2).toNatClampNeg)]) C0 G2 K2 trivial hn2 (c_X7_price G2 (xs (nI i + 1).toNatClampNeg) (xs (nI i + 2).toNatClampNeg) T _ e2) wc_X7_price wm_L_145 wz_X7 (by decide +kernel) wi_X7_price ws_X7_price rfl is7 rfl ⟨rfl, rfl⟩ ⟨Nat.le_of_ble_eq_true rfl, Nat.le_of_ble_eq_true rfl⟩ ⟨Nat.le_refl _, Nat.le_refl _⟩ rfl hl.1 (Nat.le_of_ble_eq_true rfl) rfl dL_law_1136 hT hS (fun H2 locs2 hT hS hk => ?_)
  replace hP := wsl_kept hP (fun j k h1 h2 z => hne k j h2 h1 z.symm) hk
  refine lv_icmp_eq (tgt := 1476) hx hb dL_law_1139 (by decide) (fun _ => ?_) (fun h => absurd hv h)
  exact kk _ _ _ _ hR1 ⟨hP, hT, hS⟩
set_option maxHeartbeats 4000000 in
set_option maxRecDepth 100000 in
theorem lc_altar {p : Program} {l : Launch} {e : Env} {s : State} {m : MethodId} {below : List Frame} {meth : Method} {c : Code} {D : va_G} {cA : Nat → ClassId} {aC : Nat → Nat} {cM : Nat → ClassId} {aM : Nat → Nat} {kl b L : Nat} {xs : Nat → Int32} {Rel : vS → vS → Prop} (hL : L ≤ 3072) (C0 : lw_At p s m meth c b L xs) (hG : LG D cA aC cM aM kl s) (hst : St_altar Rel) {i : Nat} (hi : i + 6 ≤ L) {S T : vS} (hR : Rel S T) {H : Heap} {locs : List Loc} (hH : LH D cA aC cM aM s S T H locs) {ls : Array Slot} (hl : lv_has ls 4 [(0, .ref b), (1, .ref (aC 0)), (2, .ref (aM 0)), (3, .int (nI i))]) (kk : ∀ (S T : vS) (H : Heap) (locs : List Loc), Rel S T → LH D cA aC cM aM s S T H locs → W p l e room_1 s m #[Value.ref b] below meth c H locs 600000 7302250 (lw_Z below #[Value.ref b] s) (F0 m 1476 ls [])) : W p l e room_1 s m #[Value.ref b] below meth c H locs 600000 7302250 (lw_Z below #[Value.ref b] s) (F0 m 1144 ls []) := by
  obtain ⟨hx, hb, hr, hml, hown, hts, hX, hbl, hlocks, hgv⟩ := id C0
  have hbA : ¬ A0 s b := Nat.not_le.mpr hbl
  obtain ⟨G1, G2, K1, K2, E1, hne, hn1, hn2⟩ := id hG
  obtain ⟨hP, hT, hS⟩ := hH
  have h_1 : vp_in (nI i + 1) L := by rw [show (1 : Int32) = nI 1 from rfl, nI_add]; exact vp_in_nI (by omega) (by omega)
  have h_2 : vp_in (nI i + 2) L := by rw [show (2 : Int32) = nI 2 from rfl, nI_add]; exact vp_in_nI (by omega) (by omega)
  have h_3 : vp_in (nI i + 3) L := by rw [show (3 : Int32) = nI 3 from rfl, nI_add]; exact vp_in_nI (by omega) (by omega)
  have h_4 : vp_in (nI i + 4) L := by rw [show (4 : Int32) = nI 4 from rfl, nI_add]; exact vp_in_nI (by omega) (by omega)
  obtain ⟨r, t, e1, e2, hv, hR1⟩ := hst S T (xs (nI i + 1).toNatClampNeg) (xs (nI i + 2).toNatClampNeg) (xs (nI i + 3).toNatClampNeg) (xs (nI i + 4).toNatClampNeg) hR
  refine lv_aload_n hx hb dL_law_1144 rfl (lv_at hl 1 rfl) ?_
  refine lv_aload_n hx hb dL_law_1145 rfl (lv_at hl 0 rfl) ?_
  refine lv_iload_n hx hb dL_law_1146 rfl (lv_at hl 3 rfl) ?_
  refine lv_iconst (v := 1) hx hb dL_law_1147 (by decide) ?_
  refine lv_iadd hx hb dL_law_1148 ?_
  refine va_sld hx hb hX hbl hbA hS h_1 dL_law_1149 ?_
  refine lv_aload_n hx hb dL_law_1150 rfl (lv_at hl 0 rfl) ?_
  refine lv_iload_n hx hb dL_law_1151 rfl (lv_at hl 3 rfl) ?_
  refine lv_iconst (v := 2) hx hb dL_law_1152 (by decide) ?_
  refine lv_iadd hx hb dL_law_1153 ?_
  refine va_sld hx hb hX hbl hbA hS h_2 dL_law_1154 ?_
  refine lv_aload_n hx hb dL_law_1155 rfl (lv_at hl 0 rfl) ?_
  refine lv_iload_n hx hb dL_law_1156 rfl (lv_at hl 3 rfl) ?_
  refine lv_iconst (v := 3) hx hb dL_law_1157 (by decide) ?_
  refine lv_iadd hx hb dL_law_1158 ?_
  refine va_sld hx hb hX hbl hbA hS h_3 dL_law_1159 ?_
  refine lv_aload_n hx hb dL_law_1160 rfl (lv_at hl 0 rfl) ?_
  refine lv_iload_n hx hb dL_law_1161 rfl (lv_at hl 3 rfl) ?_
  refine lv_iconst (v := 4) hx hb dL_law_1162 (by decide) ?_
  refine lv_iadd hx hb dL_law_1163 ?_
  refine va_sld hx hb hX hbl hbA hS h_4 dL_law_1164 ?_
  refine lw_call (n := 4) (As := [.int (xs (nI i + 1).toNatClampNeg), .int (xs (nI i + 2).toNatClampNeg), .int (xs (nI i + 3).toNatClampNeg), .int (xs (nI i + 4).toNatClampNeg)]) C0 G1 K1 E1 hn1 (c_X6_altar G1 (xs (nI i + 1).toNatClampNeg) (xs (nI i + 2).toNatClampNeg) (xs (nI i + 3).toNatClampNeg) (xs (nI i + 4).toNatClampNeg) S _ e1) wc_X6_altar wm_L_146 wz_X6 (by decide +kernel) wi_X6_altar ws_X6_altar rfl is6 rfl ⟨rfl, rfl⟩ ⟨Nat.le_of_ble_eq_true rfl, Nat.le_of_ble_eq_true rfl⟩ ⟨Nat.le_refl _, Nat.le_refl _⟩ rfl hl.1 (Nat.le_of_ble_eq_true rfl) rfl dL_law_1165 hP hS (fun H1 locs1 hP hS hk => ?_)
  replace hT := wsl_kept hT hne hk
  refine lv_aload_n hx hb dL_law_1168 rfl (lv_at hl 2 rfl) ?_
  refine lv_aload_n hx hb dL_law_1169 rfl (lv_at hl 0 rfl) ?_
  refine lv_iload_n hx hb dL_law_1170 rfl (lv_at hl 3 rfl) ?_
  refine lv_iconst (v := 1) hx hb dL_law_1171 (by decide) ?_
  refine lv_iadd hx hb dL_law_1172 ?_
  refine va_sld hx hb hX hbl hbA hS h_1 dL_law_1173 ?_
  refine lv_aload_n hx hb dL_law_1174 rfl (lv_at hl 0 rfl) ?_
  refine lv_iload_n hx hb dL_law_1175 rfl (lv_at hl 3 rfl) ?_
  refine lv_iconst (v := 2) hx hb dL_law_1176 (by decide) ?_
  refine lv_iadd hx hb dL_law_1177 ?_
  refine va_sld hx hb hX hbl hbA hS h_2 dL_law_1178 ?_
  refine lv_aload_n hx hb dL_law_1179 rfl (lv_at hl 0 rfl) ?_
  refine lv_iload_n hx hb dL_law_1180 rfl (lv_at hl 3 rfl) ?_
  refine lv_iconst (v := 3) hx hb dL_law_1181 (by decide) ?_
  refine lv_iadd hx hb dL_law_1182 ?_
  refine va_sld hx hb hX hbl hbA hS h_3 dL_law_1183 ?_
  refine lv_aload_n hx hb dL_law_1184 rfl (lv_at hl 0 rfl) ?_
  refine lv_iload_n hx hb dL_law_1185 rfl (lv_at hl 3 rfl) ?_
  refine lv_iconst (v := 4) hx hb dL_law_1186 (by decide) ?_
  refine lv_iadd hx hb dL_law_1187 ?_
  refine va_sld hx hb hX hbl hbA hS h_4 dL_law_1188 ?_
  refine lw_call (n := 4) (As := [.int (xs (nI i + 1).toNatClampNeg), .int (xs (nI i + 2).toNatClampNeg), .int (xs (nI i + 3).toNatClampNeg), .int (xs (nI i + 4).toNatClampNeg)]) C0 G2 K2 trivial hn2 (c_X7_altar G2 (xs (nI i + 1).toNatClampNeg) (xs (nI i + 2).toNatClampNeg) (xs (nI i + 3).toNatClampNeg) (xs (nI i + 4).toNatClampNeg) T _ e2) wc_X7_altar wm_L_150 wz_X7 (by decide +kernel) wi_X7_altar ws_X7_altar rfl is7 rfl ⟨rfl, rfl⟩ ⟨Nat.le_of_ble_eq_true rfl, Nat.le_of_ble_eq_true rfl⟩ ⟨Nat.le_refl _, Nat.le_refl _⟩ rfl hl.1 (Nat.le_of_ble_eq_true rfl) rfl dL_law_1189 hT hS (fun H2 locs2 hT hS hk => ?_)
  replace hP := wsl_kept hP (fun j k h1 h2 z => hne k j h2 h1 z.symm) hk
  refine lv_icmp_eq (tgt := 1476) hx hb dL_law_1192 (by decide) (fun _ => ?_) (fun h => absurd hv h)
  exact kk _ _ _ _ hR1 ⟨hP, hT, hS⟩
set_option maxHeartbeats 4000000 in
set_option maxRecDepth 100000 in
theorem lc_turns {p : Program} {l : Launch} {e : Env} {s : State} {m : MethodId} {below : List Frame} {meth : Method} {c : Code} {D : va_G} {cA : Nat → ClassId} {aC : Nat → Nat} {cM : Nat → ClassId} {aM : Nat → Nat} {kl b L : Nat} {xs : Nat → Int32} {Rel : vS → vS → Prop} (hL : L ≤ 3072) (C0 : lw_At p s m meth c b L xs) (hG : LG D cA aC cM aM kl s) (hst : St_turns Rel) {i : Nat} (hi : i + 6 ≤ L) {S T : vS} (hR : Rel S T) {H : Heap} {locs : List Loc} (hH : LH D cA aC cM aM s S T H locs) {ls : Array Slot} (hl : lv_has ls 4 [(0, .ref b), (1, .ref (aC 0)), (2, .ref (aM 0)), (3, .int (nI i))]) (kk : ∀ (S T : vS) (H : Heap) (locs : List Loc), Rel S T → LH D cA aC cM aM s S T H locs → W p l e room_1 s m #[Value.ref b] below meth c H locs 600000 7302250 (lw_Z below #[Value.ref b] s) (F0 m 1476 ls [])) : W p l e room_1 s m #[Value.ref b] below meth c H locs 600000 7302250 (lw_Z below #[Value.ref b] s) (F0 m 1197 ls []) := by
  obtain ⟨hx, hb, hr, hml, hown, hts, hX, hbl, hlocks, hgv⟩ := id C0
  have hbA : ¬ A0 s b := Nat.not_le.mpr hbl
  obtain ⟨G1, G2, K1, K2, E1, hne, hn1, hn2⟩ := id hG
  obtain ⟨hP, hT, hS⟩ := hH
  have h_1 : vp_in (nI i + 1) L := by rw [show (1 : Int32) = nI 1 from rfl, nI_add]; exact vp_in_nI (by omega) (by omega)
  have h_2 : vp_in (nI i + 2) L := by rw [show (2 : Int32) = nI 2 from rfl, nI_add]; exact vp_in_nI (by omega) (by omega)
  obtain ⟨r, t, e1, e2, hv, hR1⟩ := hst S T (xs (nI i + 1).toNatClampNeg) (xs (nI i + 2).toNatClampNeg) hR
  refine lv_aload_n hx hb dL_law_1197 rfl (lv_at hl 1 rfl) ?_
  refine lv_aload_n hx hb dL_law_1198 rfl (lv_at hl 0 rfl) ?_
  refine lv_iload_n hx hb dL_law_1199 rfl (lv_at hl 3 rfl) ?_
  refine lv_iconst (v := 1) hx hb dL_law_1200 (by decide) ?_
  refine lv_iadd hx hb dL_law_1201 ?_
  refine va_sld hx hb hX hbl hbA hS h_1 dL_law_1202 ?_
  refine lv_aload_n hx hb dL_law_1203 rfl (lv_at hl 0 rfl) ?_
  refine lv_iload_n hx hb dL_law_1204 rfl (lv_at hl 3 rfl) ?_
  refine lv_iconst (v := 2) hx hb dL_law_1205 (by decide) ?_
  refine lv_iadd hx hb dL_law_1206 ?_
  refine va_sld hx hb hX hbl hbA hS h_2 dL_law_1207 ?_
  refine lw_call (n := 2) (As := [.int (xs (nI i + 1).toNatClampNeg), .int (xs (nI i + 2).toNatClampNeg)]) C0 G1 K1 E1 hn1 (c_X6_turns G1 (xs (nI i + 1).toNatClampNeg) (xs (nI i + 2).toNatClampNeg) S _ e1) wc_X6_turns wm_L_151 wz_X6 (by decide +kernel) wi_X6_turns ws_X6_turns rfl is6 rfl ⟨rfl, rfl⟩ ⟨Nat.le_of_ble_eq_true rfl, Nat.le_of_ble_eq_true rfl⟩ ⟨Nat.le_refl _, Nat.le_refl _⟩ rfl hl.1 (Nat.le_of_ble_eq_true rfl) rfl dL_law_1208 hP hS (fun H1 locs1 hP hS hk => ?_)
  replace hT := wsl_kept hT hne hk
  refine lv_aload_n hx hb dL_law_1211 rfl (lv_at hl 2 rfl) ?_
  refine lv_aload_n hx hb dL_law_1212 rfl (lv_at hl 0 rfl) ?_
  refine lv_iload_n hx hb dL_law_1213 rfl (lv_at hl 3 rfl) ?_
  refine lv_iconst (v := 1) hx hb dL_law_1214 (by decide) ?_
  refine lv_iadd hx hb dL_law_1215 ?_
  refine va_sld hx hb hX hbl hbA hS h_1 dL_law_1216 ?_
  refine lv_aload_n hx hb dL_law_1217 rfl (lv_at hl 0 rfl) ?_
  refine lv_iload_n hx hb dL_law_1218 rfl (lv_at hl 3 rfl) ?_
  refine lv_iconst (v := 2) hx hb dL_law_1219 (by decide) ?_
  refine lv_iadd hx hb dL_law_1220 ?_
  refine va_sld hx hb hX hbl hbA hS h_2 dL_law_1221 ?_
  refine lw_call (n := 2) (As := [.int (xs (nI i + 1).toNatClampNeg), .int (xs (nI i + 2).toNatClampNeg)]) C0 G2 K2 trivial hn2 (c_X7_turns G2 (xs (nI i + 1).toNatClampNeg) (xs (nI i + 2).toNatClampNeg) T _ e2) wc_X7_turns wm_L_154 wz_X7 (by decide +kernel) wi_X7_turns ws_X7_turns rfl is7 rfl ⟨rfl, rfl⟩ ⟨Nat.le_of_ble_eq_true rfl, Nat.le_of_ble_eq_true rfl⟩ ⟨Nat.le_refl _, Nat.le_refl _⟩ rfl hl.1 (Nat.le_of_ble_eq_true rfl) rfl dL_law_1222 hT hS (fun H2 locs2 hT hS hk => ?_)
  replace hP := wsl_kept hP (fun j k h1 h2 z => hne k j h2 h1 z.symm) hk
  refine lv_icmp_eq (tgt := 1476) hx hb dL_law_1225 (by decide) (fun _ => ?_) (fun h => absurd hv h)
  exact kk _ _ _ _ hR1 ⟨hP, hT, hS⟩
set_option maxHeartbeats 4000000 in
set_option maxRecDepth 100000 in
theorem lc_fits {p : Program} {l : Launch} {e : Env} {s : State} {m : MethodId} {below : List Frame} {meth : Method} {c : Code} {D : va_G} {cA : Nat → ClassId} {aC : Nat → Nat} {cM : Nat → ClassId} {aM : Nat → Nat} {kl b L : Nat} {xs : Nat → Int32} {Rel : vS → vS → Prop} (hL : L ≤ 3072) (C0 : lw_At p s m meth c b L xs) (hG : LG D cA aC cM aM kl s) (hst : St_fits Rel) {i : Nat} (hi : i + 6 ≤ L) {S T : vS} (hR : Rel S T) {H : Heap} {locs : List Loc} (hH : LH D cA aC cM aM s S T H locs) {ls : Array Slot} (hl : lv_has ls 4 [(0, .ref b), (1, .ref (aC 0)), (2, .ref (aM 0)), (3, .int (nI i))]) (kk : ∀ (S T : vS) (H : Heap) (locs : List Loc), Rel S T → LH D cA aC cM aM s S T H locs → W p l e room_1 s m #[Value.ref b] below meth c H locs 600000 7302250 (lw_Z below #[Value.ref b] s) (F0 m 1476 ls [])) : W p l e room_1 s m #[Value.ref b] below meth c H locs 600000 7302250 (lw_Z below #[Value.ref b] s) (F0 m 1230 ls []) := by
  obtain ⟨hx, hb, hr, hml, hown, hts, hX, hbl, hlocks, hgv⟩ := id C0
  have hbA : ¬ A0 s b := Nat.not_le.mpr hbl
  obtain ⟨G1, G2, K1, K2, E1, hne, hn1, hn2⟩ := id hG
  obtain ⟨hP, hT, hS⟩ := hH
  have h_1 : vp_in (nI i + 1) L := by rw [show (1 : Int32) = nI 1 from rfl, nI_add]; exact vp_in_nI (by omega) (by omega)
  have h_2 : vp_in (nI i + 2) L := by rw [show (2 : Int32) = nI 2 from rfl, nI_add]; exact vp_in_nI (by omega) (by omega)
  have h_3 : vp_in (nI i + 3) L := by rw [show (3 : Int32) = nI 3 from rfl, nI_add]; exact vp_in_nI (by omega) (by omega)
  obtain ⟨r, t, e1, e2, hv, hR1⟩ := hst S T (xs (nI i + 1).toNatClampNeg) (xs (nI i + 2).toNatClampNeg) (xs (nI i + 3).toNatClampNeg) hR
  refine lv_aload_n hx hb dL_law_1230 rfl (lv_at hl 1 rfl) ?_
  refine lv_aload_n hx hb dL_law_1231 rfl (lv_at hl 0 rfl) ?_
  refine lv_iload_n hx hb dL_law_1232 rfl (lv_at hl 3 rfl) ?_
  refine lv_iconst (v := 1) hx hb dL_law_1233 (by decide) ?_
  refine lv_iadd hx hb dL_law_1234 ?_
  refine va_sld hx hb hX hbl hbA hS h_1 dL_law_1235 ?_
  refine lv_aload_n hx hb dL_law_1236 rfl (lv_at hl 0 rfl) ?_
  refine lv_iload_n hx hb dL_law_1237 rfl (lv_at hl 3 rfl) ?_
  refine lv_iconst (v := 2) hx hb dL_law_1238 (by decide) ?_
  refine lv_iadd hx hb dL_law_1239 ?_
  refine va_sld hx hb hX hbl hbA hS h_2 dL_law_1240 ?_
  refine lv_aload_n hx hb dL_law_1241 rfl (lv_at hl 0 rfl) ?_
  refine lv_iload_n hx hb dL_law_1242 rfl (lv_at hl 3 rfl) ?_
  refine lv_iconst (v := 3) hx hb dL_law_1243 (by decide) ?_
  refine lv_iadd hx hb dL_law_1244 ?_
  refine va_sld hx hb hX hbl hbA hS h_3 dL_law_1245 ?_
  refine lw_call (n := 3) (As := [.int (xs (nI i + 1).toNatClampNeg), .int (xs (nI i + 2).toNatClampNeg), .int (xs (nI i + 3).toNatClampNeg)]) C0 G1 K1 E1 hn1 (c_X6_fits G1 (xs (nI i + 1).toNatClampNeg) (xs (nI i + 2).toNatClampNeg) (xs (nI i + 3).toNatClampNeg) S _ e1) wc_X6_fits wm_L_155 wz_X6 (by decide +kernel) wi_X6_fits ws_X6_fits rfl is6 rfl ⟨rfl, rfl⟩ ⟨Nat.le_of_ble_eq_true rfl, Nat.le_of_ble_eq_true rfl⟩ ⟨Nat.le_refl _, Nat.le_refl _⟩ rfl hl.1 (Nat.le_of_ble_eq_true rfl) rfl dL_law_1246 hP hS (fun H1 locs1 hP hS hk => ?_)
  replace hT := wsl_kept hT hne hk
  refine lv_aload_n hx hb dL_law_1249 rfl (lv_at hl 2 rfl) ?_
  refine lv_aload_n hx hb dL_law_1250 rfl (lv_at hl 0 rfl) ?_
  refine lv_iload_n hx hb dL_law_1251 rfl (lv_at hl 3 rfl) ?_
  refine lv_iconst (v := 1) hx hb dL_law_1252 (by decide) ?_
  refine lv_iadd hx hb dL_law_1253 ?_
  refine va_sld hx hb hX hbl hbA hS h_1 dL_law_1254 ?_
  refine lv_aload_n hx hb dL_law_1255 rfl (lv_at hl 0 rfl) ?_
  refine lv_iload_n hx hb dL_law_1256 rfl (lv_at hl 3 rfl) ?_
  refine lv_iconst (v := 2) hx hb dL_law_1257 (by decide) ?_
  refine lv_iadd hx hb dL_law_1258 ?_
  refine va_sld hx hb hX hbl hbA hS h_2 dL_law_1259 ?_
  refine lv_aload_n hx hb dL_law_1260 rfl (lv_at hl 0 rfl) ?_
  refine lv_iload_n hx hb dL_law_1261 rfl (lv_at hl 3 rfl) ?_
  refine lv_iconst (v := 3) hx hb dL_law_1262 (by decide) ?_
  refine lv_iadd hx hb dL_law_1263 ?_
  refine va_sld hx hb hX hbl hbA hS h_3 dL_law_1264 ?_
  refine lw_call (n := 3) (As := [.int (xs (nI i + 1).toNatClampNeg), .int (xs (nI i + 2).toNatClampNeg), .int (xs (nI i + 3).toNatClampNeg)]) C0 G2 K2 trivial hn2 (c_X7_fits G2 (xs (nI i + 1).toNatClampNeg) (xs (nI i + 2).toNatClampNeg) (xs (nI i + 3).toNatClampNeg) T _ e2) wc_X7_fits wm_L_158 wz_X7 (by decide +kernel) wi_X7_fits ws_X7_fits rfl is7 rfl ⟨rfl, rfl⟩ ⟨Nat.le_of_ble_eq_true rfl, Nat.le_of_ble_eq_true rfl⟩ ⟨Nat.le_refl _, Nat.le_refl _⟩ rfl hl.1 (Nat.le_of_ble_eq_true rfl) rfl dL_law_1265 hT hS (fun H2 locs2 hT hS hk => ?_)
  replace hP := wsl_kept hP (fun j k h1 h2 z => hne k j h2 h1 z.symm) hk
  refine lv_icmp_eq (tgt := 1476) hx hb dL_law_1268 (by decide) (fun _ => ?_) (fun h => absurd hv h)
  exact kk _ _ _ _ hR1 ⟨hP, hT, hS⟩
set_option maxHeartbeats 4000000 in
set_option maxRecDepth 100000 in
theorem lc_whose {p : Program} {l : Launch} {e : Env} {s : State} {m : MethodId} {below : List Frame} {meth : Method} {c : Code} {D : va_G} {cA : Nat → ClassId} {aC : Nat → Nat} {cM : Nat → ClassId} {aM : Nat → Nat} {kl b L : Nat} {xs : Nat → Int32} {Rel : vS → vS → Prop} (hL : L ≤ 3072) (C0 : lw_At p s m meth c b L xs) (hG : LG D cA aC cM aM kl s) (hst : St_whose Rel) {i : Nat} (hi : i + 6 ≤ L) {S T : vS} (hR : Rel S T) {H : Heap} {locs : List Loc} (hH : LH D cA aC cM aM s S T H locs) {ls : Array Slot} (hl : lv_has ls 4 [(0, .ref b), (1, .ref (aC 0)), (2, .ref (aM 0)), (3, .int (nI i))]) (kk : ∀ (S T : vS) (H : Heap) (locs : List Loc), Rel S T → LH D cA aC cM aM s S T H locs → W p l e room_1 s m #[Value.ref b] below meth c H locs 600000 7302250 (lw_Z below #[Value.ref b] s) (F0 m 1476 ls [])) : W p l e room_1 s m #[Value.ref b] below meth c H locs 600000 7302250 (lw_Z below #[Value.ref b] s) (F0 m 1273 ls []) := by
  obtain ⟨hx, hb, hr, hml, hown, hts, hX, hbl, hlocks, hgv⟩ := id C0
  have hbA : ¬ A0 s b := Nat.not_le.mpr hbl
  obtain ⟨G1, G2, K1, K2, E1, hne, hn1, hn2⟩ := id hG
  obtain ⟨hP, hT, hS⟩ := hH
  have h_1 : vp_in (nI i + 1) L := by rw [show (1 : Int32) = nI 1 from rfl, nI_add]; exact vp_in_nI (by omega) (by omega)
  have h_2 : vp_in (nI i + 2) L := by rw [show (2 : Int32) = nI 2 from rfl, nI_add]; exact vp_in_nI (by omega) (by omega)
  obtain ⟨r, t, e1, e2, hv, hR1⟩ := hst S T (xs (nI i + 1).toNatClampNeg) (xs (nI i + 2).toNatClampNeg) hR
  refine lv_aload_n hx hb dL_law_1273 rfl (lv_at hl 1 rfl) ?_
  refine lv_aload_n hx hb dL_law_1274 rfl (lv_at hl 0 rfl) ?_
  refine lv_iload_n hx hb dL_law_1275 rfl (lv_at hl 3 rfl) ?_
  refine lv_iconst (v := 1) hx hb dL_law_1276 (by decide) ?_
  refine lv_iadd hx hb dL_law_1277 ?_
  refine va_sld hx hb hX hbl hbA hS h_1 dL_law_1278 ?_
  refine lv_aload_n hx hb dL_law_1279 rfl (lv_at hl 0 rfl) ?_
  refine lv_iload_n hx hb dL_law_1280 rfl (lv_at hl 3 rfl) ?_
  refine lv_iconst (v := 2) hx hb dL_law_1281 (by decide) ?_
  refine lv_iadd hx hb dL_law_1282 ?_
  refine va_sld hx hb hX hbl hbA hS h_2 dL_law_1283 ?_
  refine lw_call (n := 2) (As := [.int (xs (nI i + 1).toNatClampNeg), .int (xs (nI i + 2).toNatClampNeg)]) C0 G1 K1 E1 hn1 (c_X6_whose G1 (xs (nI i + 1).toNatClampNeg) (xs (nI i + 2).toNatClampNeg) S _ e1) wc_X6_whose wm_L_159 wz_X6 (by decide +kernel) wi_X6_whose ws_X6_whose rfl is6 rfl ⟨rfl, rfl⟩ ⟨Nat.le_of_ble_eq_true rfl, Nat.le_of_ble_eq_true rfl⟩ ⟨Nat.le_refl _, Nat.le_refl _⟩ rfl hl.1 (Nat.le_of_ble_eq_true rfl) rfl dL_law_1284 hP hS (fun H1 locs1 hP hS hk => ?_)
  replace hT := wsl_kept hT hne hk
  refine lv_aload_n hx hb dL_law_1287 rfl (lv_at hl 2 rfl) ?_
  refine lv_aload_n hx hb dL_law_1288 rfl (lv_at hl 0 rfl) ?_
  refine lv_iload_n hx hb dL_law_1289 rfl (lv_at hl 3 rfl) ?_
  refine lv_iconst (v := 1) hx hb dL_law_1290 (by decide) ?_
  refine lv_iadd hx hb dL_law_1291 ?_
  refine va_sld hx hb hX hbl hbA hS h_1 dL_law_1292 ?_
  refine lv_aload_n hx hb dL_law_1293 rfl (lv_at hl 0 rfl) ?_
  refine lv_iload_n hx hb dL_law_1294 rfl (lv_at hl 3 rfl) ?_
  refine lv_iconst (v := 2) hx hb dL_law_1295 (by decide) ?_
  refine lv_iadd hx hb dL_law_1296 ?_
  refine va_sld hx hb hX hbl hbA hS h_2 dL_law_1297 ?_
  refine lw_call (n := 2) (As := [.int (xs (nI i + 1).toNatClampNeg), .int (xs (nI i + 2).toNatClampNeg)]) C0 G2 K2 trivial hn2 (c_X7_whose G2 (xs (nI i + 1).toNatClampNeg) (xs (nI i + 2).toNatClampNeg) T _ e2) wc_X7_whose wm_L_162 wz_X7 (by decide +kernel) wi_X7_whose ws_X7_whose rfl is7 rfl ⟨rfl, rfl⟩ ⟨Nat.le_of_ble_eq_true rfl, Nat.le_of_ble_eq_true rfl⟩ ⟨Nat.le_refl _, Nat.le_refl _⟩ rfl hl.1 (Nat.le_of_ble_eq_true rfl) rfl dL_law_1298 hT hS (fun H2 locs2 hT hS hk => ?_)
  replace hP := wsl_kept hP (fun j k h1 h2 z => hne k j h2 h1 z.symm) hk
  refine lv_icmp_eq (tgt := 1476) hx hb dL_law_1301 (by decide) (fun _ => ?_) (fun h => absurd hv h)
  exact kk _ _ _ _ hR1 ⟨hP, hT, hS⟩
set_option maxHeartbeats 4000000 in
set_option maxRecDepth 100000 in
theorem lc_ask {p : Program} {l : Launch} {e : Env} {s : State} {m : MethodId} {below : List Frame} {meth : Method} {c : Code} {D : va_G} {cA : Nat → ClassId} {aC : Nat → Nat} {cM : Nat → ClassId} {aM : Nat → Nat} {kl b L : Nat} {xs : Nat → Int32} {Rel : vS → vS → Prop} (hL : L ≤ 3072) (C0 : lw_At p s m meth c b L xs) (hG : LG D cA aC cM aM kl s) (hst : St_ask Rel) {i : Nat} (hi : i + 6 ≤ L) {S T : vS} (hR : Rel S T) {H : Heap} {locs : List Loc} (hH : LH D cA aC cM aM s S T H locs) {ls : Array Slot} (hl : lv_has ls 4 [(0, .ref b), (1, .ref (aC 0)), (2, .ref (aM 0)), (3, .int (nI i))]) (kk : ∀ (S T : vS) (H : Heap) (locs : List Loc), Rel S T → LH D cA aC cM aM s S T H locs → W p l e room_1 s m #[Value.ref b] below meth c H locs 600000 7302250 (lw_Z below #[Value.ref b] s) (F0 m 1476 ls [])) : W p l e room_1 s m #[Value.ref b] below meth c H locs 600000 7302250 (lw_Z below #[Value.ref b] s) (F0 m 1306 ls []) := by
  obtain ⟨hx, hb, hr, hml, hown, hts, hX, hbl, hlocks, hgv⟩ := id C0
  have hbA : ¬ A0 s b := Nat.not_le.mpr hbl
  obtain ⟨G1, G2, K1, K2, E1, hne, hn1, hn2⟩ := id hG
  obtain ⟨hP, hT, hS⟩ := hH
  have h_1 : vp_in (nI i + 1) L := by rw [show (1 : Int32) = nI 1 from rfl, nI_add]; exact vp_in_nI (by omega) (by omega)
  obtain ⟨r, t, e1, e2, hv, hR1⟩ := hst S T (xs (nI i + 1).toNatClampNeg) hR
  refine lv_aload_n hx hb dL_law_1306 rfl (lv_at hl 1 rfl) ?_
  refine lv_aload_n hx hb dL_law_1307 rfl (lv_at hl 0 rfl) ?_
  refine lv_iload_n hx hb dL_law_1308 rfl (lv_at hl 3 rfl) ?_
  refine lv_iconst (v := 1) hx hb dL_law_1309 (by decide) ?_
  refine lv_iadd hx hb dL_law_1310 ?_
  refine va_sld hx hb hX hbl hbA hS h_1 dL_law_1311 ?_
  refine lw_call (n := 1) (As := [.int (xs (nI i + 1).toNatClampNeg)]) C0 G1 K1 E1 hn1 (c_X6_ask G1 (xs (nI i + 1).toNatClampNeg) S _ e1) wc_X6_ask wm_L_163 wz_X6 (by decide +kernel) wi_X6_ask ws_X6_ask rfl is6 rfl ⟨rfl, rfl⟩ ⟨Nat.le_of_ble_eq_true rfl, Nat.le_of_ble_eq_true rfl⟩ ⟨Nat.le_refl _, Nat.le_refl _⟩ rfl hl.1 (Nat.le_of_ble_eq_true rfl) rfl dL_law_1312 hP hS (fun H1 locs1 hP hS hk => ?_)
  replace hT := wsl_kept hT hne hk
  refine lv_aload_n hx hb dL_law_1315 rfl (lv_at hl 2 rfl) ?_
  refine lv_aload_n hx hb dL_law_1316 rfl (lv_at hl 0 rfl) ?_
  refine lv_iload_n hx hb dL_law_1317 rfl (lv_at hl 3 rfl) ?_
  refine lv_iconst (v := 1) hx hb dL_law_1318 (by decide) ?_
  refine lv_iadd hx hb dL_law_1319 ?_
  refine va_sld hx hb hX hbl hbA hS h_1 dL_law_1320 ?_
  refine lw_call (n := 1) (As := [.int (xs (nI i + 1).toNatClampNeg)]) C0 G2 K2 trivial hn2 (c_X7_ask G2 (xs (nI i + 1).toNatClampNeg) T _ e2) wc_X7_ask wm_L_166 wz_X7 (by decide +kernel) wi_X7_ask ws_X7_ask rfl is7 rfl ⟨rfl, rfl⟩ ⟨Nat.le_of_ble_eq_true rfl, Nat.le_of_ble_eq_true rfl⟩ ⟨Nat.le_refl _, Nat.le_refl _⟩ rfl hl.1 (Nat.le_of_ble_eq_true rfl) rfl dL_law_1321 hT hS (fun H2 locs2 hT hS hk => ?_)
  replace hP := wsl_kept hP (fun j k h1 h2 z => hne k j h2 h1 z.symm) hk
  refine lv_icmp_eq (tgt := 1476) hx hb dL_law_1324 (by decide) (fun _ => ?_) (fun h => absurd hv h)
  exact kk _ _ _ _ hR1 ⟨hP, hT, hS⟩
set_option maxHeartbeats 4000000 in
set_option maxRecDepth 100000 in
theorem lc_year {p : Program} {l : Launch} {e : Env} {s : State} {m : MethodId} {below : List Frame} {meth : Method} {c : Code} {D : va_G} {cA : Nat → ClassId} {aC : Nat → Nat} {cM : Nat → ClassId} {aM : Nat → Nat} {kl b L : Nat} {xs : Nat → Int32} {Rel : vS → vS → Prop} (hL : L ≤ 3072) (C0 : lw_At p s m meth c b L xs) (hG : LG D cA aC cM aM kl s) (hst : St_year Rel) {i : Nat} (hi : i + 6 ≤ L) {S T : vS} (hR : Rel S T) {H : Heap} {locs : List Loc} (hH : LH D cA aC cM aM s S T H locs) {ls : Array Slot} (hl : lv_has ls 4 [(0, .ref b), (1, .ref (aC 0)), (2, .ref (aM 0)), (3, .int (nI i))]) (kk : ∀ (S T : vS) (H : Heap) (locs : List Loc), Rel S T → LH D cA aC cM aM s S T H locs → W p l e room_1 s m #[Value.ref b] below meth c H locs 600000 7302250 (lw_Z below #[Value.ref b] s) (F0 m 1476 ls [])) : W p l e room_1 s m #[Value.ref b] below meth c H locs 600000 7302250 (lw_Z below #[Value.ref b] s) (F0 m 1329 ls []) := by
  obtain ⟨hx, hb, hr, hml, hown, hts, hX, hbl, hlocks, hgv⟩ := id C0
  have hbA : ¬ A0 s b := Nat.not_le.mpr hbl
  obtain ⟨G1, G2, K1, K2, E1, hne, hn1, hn2⟩ := id hG
  obtain ⟨hP, hT, hS⟩ := hH
  have h_1 : vp_in (nI i + 1) L := by rw [show (1 : Int32) = nI 1 from rfl, nI_add]; exact vp_in_nI (by omega) (by omega)
  have h_2 : vp_in (nI i + 2) L := by rw [show (2 : Int32) = nI 2 from rfl, nI_add]; exact vp_in_nI (by omega) (by omega)
  obtain ⟨r, t, e1, e2, hv, hR1⟩ := hst S T (xs (nI i + 1).toNatClampNeg) (xs (nI i + 2).toNatClampNeg) hR
  refine lv_aload_n hx hb dL_law_1329 rfl (lv_at hl 1 rfl) ?_
  refine lv_aload_n hx hb dL_law_1330 rfl (lv_at hl 0 rfl) ?_
  refine lv_iload_n hx hb dL_law_1331 rfl (lv_at hl 3 rfl) ?_
  refine lv_iconst (v := 1) hx hb dL_law_1332 (by decide) ?_
  refine lv_iadd hx hb dL_law_1333 ?_
  refine va_sld hx hb hX hbl hbA hS h_1 dL_law_1334 ?_
  refine lv_aload_n hx hb dL_law_1335 rfl (lv_at hl 0 rfl) ?_
  refine lv_iload_n hx hb dL_law_1336 rfl (lv_at hl 3 rfl) ?_
  refine lv_iconst (v := 2) hx hb dL_law_1337 (by decide) ?_
  refine lv_iadd hx hb dL_law_1338 ?_
  refine va_sld hx hb hX hbl hbA hS h_2 dL_law_1339 ?_
  refine lw_call (n := 2) (As := [.int (xs (nI i + 1).toNatClampNeg), .int (xs (nI i + 2).toNatClampNeg)]) C0 G1 K1 E1 hn1 (c_X6_year G1 (xs (nI i + 1).toNatClampNeg) (xs (nI i + 2).toNatClampNeg) S _ e1) wc_X6_year wm_L_167 wz_X6 (by decide +kernel) wi_X6_year ws_X6_year rfl is6 rfl ⟨rfl, rfl⟩ ⟨Nat.le_of_ble_eq_true rfl, Nat.le_of_ble_eq_true rfl⟩ ⟨Nat.le_refl _, Nat.le_refl _⟩ rfl hl.1 (Nat.le_of_ble_eq_true rfl) rfl dL_law_1340 hP hS (fun H1 locs1 hP hS hk => ?_)
  replace hT := wsl_kept hT hne hk
  refine lv_aload_n hx hb dL_law_1343 rfl (lv_at hl 2 rfl) ?_
  refine lv_aload_n hx hb dL_law_1344 rfl (lv_at hl 0 rfl) ?_
  refine lv_iload_n hx hb dL_law_1345 rfl (lv_at hl 3 rfl) ?_
  refine lv_iconst (v := 1) hx hb dL_law_1346 (by decide) ?_
  refine lv_iadd hx hb dL_law_1347 ?_
  refine va_sld hx hb hX hbl hbA hS h_1 dL_law_1348 ?_
  refine lv_aload_n hx hb dL_law_1349 rfl (lv_at hl 0 rfl) ?_
  refine lv_iload_n hx hb dL_law_1350 rfl (lv_at hl 3 rfl) ?_
  refine lv_iconst (v := 2) hx hb dL_law_1351 (by decide) ?_
  refine lv_iadd hx hb dL_law_1352 ?_
  refine va_sld hx hb hX hbl hbA hS h_2 dL_law_1353 ?_
  refine lw_call (n := 2) (As := [.int (xs (nI i + 1).toNatClampNeg), .int (xs (nI i + 2).toNatClampNeg)]) C0 G2 K2 trivial hn2 (c_X7_year G2 (xs (nI i + 1).toNatClampNeg) (xs (nI i + 2).toNatClampNeg) T _ e2) wc_X7_year wm_L_170 wz_X7 (by decide +kernel) wi_X7_year ws_X7_year rfl is7 rfl ⟨rfl, rfl⟩ ⟨Nat.le_of_ble_eq_true rfl, Nat.le_of_ble_eq_true rfl⟩ ⟨Nat.le_refl _, Nat.le_refl _⟩ rfl hl.1 (Nat.le_of_ble_eq_true rfl) rfl dL_law_1354 hT hS (fun H2 locs2 hT hS hk => ?_)
  replace hP := wsl_kept hP (fun j k h1 h2 z => hne k j h2 h1 z.symm) hk
  refine lv_icmp_eq (tgt := 1476) hx hb dL_law_1357 (by decide) (fun _ => ?_) (fun h => absurd hv h)
  exact kk _ _ _ _ hR1 ⟨hP, hT, hS⟩
set_option maxHeartbeats 4000000 in
set_option maxRecDepth 100000 in
theorem lc_asked {p : Program} {l : Launch} {e : Env} {s : State} {m : MethodId} {below : List Frame} {meth : Method} {c : Code} {D : va_G} {cA : Nat → ClassId} {aC : Nat → Nat} {cM : Nat → ClassId} {aM : Nat → Nat} {kl b L : Nat} {xs : Nat → Int32} {Rel : vS → vS → Prop} (hL : L ≤ 3072) (C0 : lw_At p s m meth c b L xs) (hG : LG D cA aC cM aM kl s) (hst : St_asked Rel) {i : Nat} (hi : i + 6 ≤ L) {S T : vS} (hR : Rel S T) {H : Heap} {locs : List Loc} (hH : LH D cA aC cM aM s S T H locs) {ls : Array Slot} (hl : lv_has ls 4 [(0, .ref b), (1, .ref (aC 0)), (2, .ref (aM 0)), (3, .int (nI i))]) (kk : ∀ (S T : vS) (H : Heap) (locs : List Loc), Rel S T → LH D cA aC cM aM s S T H locs → W p l e room_1 s m #[Value.ref b] below meth c H locs 600000 7302250 (lw_Z below #[Value.ref b] s) (F0 m 1476 ls [])) : W p l e room_1 s m #[Value.ref b] below meth c H locs 600000 7302250 (lw_Z below #[Value.ref b] s) (F0 m 1362 ls []) := by
  obtain ⟨hx, hb, hr, hml, hown, hts, hX, hbl, hlocks, hgv⟩ := id C0
  have hbA : ¬ A0 s b := Nat.not_le.mpr hbl
  obtain ⟨G1, G2, K1, K2, E1, hne, hn1, hn2⟩ := id hG
  obtain ⟨hP, hT, hS⟩ := hH
  obtain ⟨hv, hR1⟩ := hst S T hR
  refine lv_aload_n hx hb dL_law_1362 rfl (lv_at hl 1 rfl) ?_
  refine lw_call (n := 0) (As := []) C0 G1 K1 E1 hn1 (c_X6_asked G1  S ) wc_X6_asked wm_L_171 wz_X6 (by decide +kernel) wi_X6_asked ws_X6_asked rfl is6 rfl ⟨rfl, rfl⟩ ⟨Nat.le_of_ble_eq_true rfl, Nat.le_of_ble_eq_true rfl⟩ ⟨Nat.le_refl _, Nat.le_refl _⟩ rfl hl.1 (Nat.le_of_ble_eq_true rfl) rfl dL_law_1363 hP hS (fun H1 locs1 hP hS hk => ?_)
  replace hT := wsl_kept hT hne hk
  refine lv_aload_n hx hb dL_law_1366 rfl (lv_at hl 2 rfl) ?_
  refine lw_call (n := 0) (As := []) C0 G2 K2 trivial hn2 (c_X7_asked G2  T ) wc_X7_asked wm_L_174 wz_X7 (by decide +kernel) wi_X7_asked ws_X7_asked rfl is7 rfl ⟨rfl, rfl⟩ ⟨Nat.le_of_ble_eq_true rfl, Nat.le_of_ble_eq_true rfl⟩ ⟨Nat.le_refl _, Nat.le_refl _⟩ rfl hl.1 (Nat.le_of_ble_eq_true rfl) rfl dL_law_1367 hT hS (fun H2 locs2 hT hS hk => ?_)
  replace hP := wsl_kept hP (fun j k h1 h2 z => hne k j h2 h1 z.symm) hk
  refine lv_icmp_eq (tgt := 1476) hx hb dL_law_1370 (by decide) (fun _ => ?_) (fun h => absurd hv h)
  exact kk _ _ _ _ hR1 ⟨hP, hT, hS⟩
set_option maxHeartbeats 4000000 in
set_option maxRecDepth 100000 in
theorem lc_upper {p : Program} {l : Launch} {e : Env} {s : State} {m : MethodId} {below : List Frame} {meth : Method} {c : Code} {D : va_G} {cA : Nat → ClassId} {aC : Nat → Nat} {cM : Nat → ClassId} {aM : Nat → Nat} {kl b L : Nat} {xs : Nat → Int32} {Rel : vS → vS → Prop} (hL : L ≤ 3072) (C0 : lw_At p s m meth c b L xs) (hG : LG D cA aC cM aM kl s) (hst : St_upper Rel) {i : Nat} (hi : i + 6 ≤ L) {S T : vS} (hR : Rel S T) {H : Heap} {locs : List Loc} (hH : LH D cA aC cM aM s S T H locs) {ls : Array Slot} (hl : lv_has ls 4 [(0, .ref b), (1, .ref (aC 0)), (2, .ref (aM 0)), (3, .int (nI i))]) (kk : ∀ (S T : vS) (H : Heap) (locs : List Loc), Rel S T → LH D cA aC cM aM s S T H locs → W p l e room_1 s m #[Value.ref b] below meth c H locs 600000 7302250 (lw_Z below #[Value.ref b] s) (F0 m 1476 ls [])) : W p l e room_1 s m #[Value.ref b] below meth c H locs 600000 7302250 (lw_Z below #[Value.ref b] s) (F0 m 1375 ls []) := by
  obtain ⟨hx, hb, hr, hml, hown, hts, hX, hbl, hlocks, hgv⟩ := id C0
  have hbA : ¬ A0 s b := Nat.not_le.mpr hbl
  obtain ⟨G1, G2, K1, K2, E1, hne, hn1, hn2⟩ := id hG
  obtain ⟨hP, hT, hS⟩ := hH
  obtain ⟨hv, hR1⟩ := hst S T hR
  refine lv_aload_n hx hb dL_law_1375 rfl (lv_at hl 1 rfl) ?_
  refine lw_call (n := 0) (As := []) C0 G1 K1 E1 hn1 (c_X6_upper G1  S ) wc_X6_upper wm_L_175 wz_X6 (by decide +kernel) wi_X6_upper ws_X6_upper rfl is6 rfl ⟨rfl, rfl⟩ ⟨Nat.le_of_ble_eq_true rfl, Nat.le_of_ble_eq_true rfl⟩ ⟨Nat.le_refl _, Nat.le_refl _⟩ rfl hl.1 (Nat.le_of_ble_eq_true rfl) rfl dL_law_1376 hP hS (fun H1 locs1 hP hS hk => ?_)
  replace hT := wsl_kept hT hne hk
  refine lv_aload_n hx hb dL_law_1379 rfl (lv_at hl 2 rfl) ?_
  refine lw_call (n := 0) (As := []) C0 G2 K2 trivial hn2 (c_X7_upper G2  T ) wc_X7_upper wm_L_179 wz_X7 (by decide +kernel) wi_X7_upper ws_X7_upper rfl is7 rfl ⟨rfl, rfl⟩ ⟨Nat.le_of_ble_eq_true rfl, Nat.le_of_ble_eq_true rfl⟩ ⟨Nat.le_refl _, Nat.le_refl _⟩ rfl hl.1 (Nat.le_of_ble_eq_true rfl) rfl dL_law_1380 hT hS (fun H2 locs2 hT hS hk => ?_)
  replace hP := wsl_kept hP (fun j k h1 h2 z => hne k j h2 h1 z.symm) hk
  refine W.lcmp hx hb dL_law_1383 ?_
  refine lv_if_eq (tgt := 1476) hx hb dL_law_1384 (by decide) (fun _ => ?_) (fun h => absurd (by rw [hv]; exact lg_cmp_self _) h)
  exact kk _ _ _ _ hR1 ⟨hP, hT, hS⟩
set_option maxHeartbeats 4000000 in
set_option maxRecDepth 100000 in
theorem lc_lower {p : Program} {l : Launch} {e : Env} {s : State} {m : MethodId} {below : List Frame} {meth : Method} {c : Code} {D : va_G} {cA : Nat → ClassId} {aC : Nat → Nat} {cM : Nat → ClassId} {aM : Nat → Nat} {kl b L : Nat} {xs : Nat → Int32} {Rel : vS → vS → Prop} (hL : L ≤ 3072) (C0 : lw_At p s m meth c b L xs) (hG : LG D cA aC cM aM kl s) (hst : St_lower Rel) {i : Nat} (hi : i + 6 ≤ L) {S T : vS} (hR : Rel S T) {H : Heap} {locs : List Loc} (hH : LH D cA aC cM aM s S T H locs) {ls : Array Slot} (hl : lv_has ls 4 [(0, .ref b), (1, .ref (aC 0)), (2, .ref (aM 0)), (3, .int (nI i))]) (kk : ∀ (S T : vS) (H : Heap) (locs : List Loc), Rel S T → LH D cA aC cM aM s S T H locs → W p l e room_1 s m #[Value.ref b] below meth c H locs 600000 7302250 (lw_Z below #[Value.ref b] s) (F0 m 1476 ls [])) : W p l e room_1 s m #[Value.ref b] below meth c H locs 600000 7302250 (lw_Z below #[Value.ref b] s) (F0 m 1389 ls []) := by
  obtain ⟨hx, hb, hr, hml, hown, hts, hX, hbl, hlocks, hgv⟩ := id C0
  have hbA : ¬ A0 s b := Nat.not_le.mpr hbl
  obtain ⟨G1, G2, K1, K2, E1, hne, hn1, hn2⟩ := id hG
  obtain ⟨hP, hT, hS⟩ := hH
  obtain ⟨hv, hR1⟩ := hst S T hR
  refine lv_aload_n hx hb dL_law_1389 rfl (lv_at hl 1 rfl) ?_
  refine lw_call (n := 0) (As := []) C0 G1 K1 E1 hn1 (c_X6_lower G1  S ) wc_X6_lower wm_L_180 wz_X6 (by decide +kernel) wi_X6_lower ws_X6_lower rfl is6 rfl ⟨rfl, rfl⟩ ⟨Nat.le_of_ble_eq_true rfl, Nat.le_of_ble_eq_true rfl⟩ ⟨Nat.le_refl _, Nat.le_refl _⟩ rfl hl.1 (Nat.le_of_ble_eq_true rfl) rfl dL_law_1390 hP hS (fun H1 locs1 hP hS hk => ?_)
  replace hT := wsl_kept hT hne hk
  refine lv_aload_n hx hb dL_law_1393 rfl (lv_at hl 2 rfl) ?_
  refine lw_call (n := 0) (As := []) C0 G2 K2 trivial hn2 (c_X7_lower G2  T ) wc_X7_lower wm_L_183 wz_X7 (by decide +kernel) wi_X7_lower ws_X7_lower rfl is7 rfl ⟨rfl, rfl⟩ ⟨Nat.le_of_ble_eq_true rfl, Nat.le_of_ble_eq_true rfl⟩ ⟨Nat.le_refl _, Nat.le_refl _⟩ rfl hl.1 (Nat.le_of_ble_eq_true rfl) rfl dL_law_1394 hT hS (fun H2 locs2 hT hS hk => ?_)
  replace hP := wsl_kept hP (fun j k h1 h2 z => hne k j h2 h1 z.symm) hk
  refine W.lcmp hx hb dL_law_1397 ?_
  refine lv_if_eq (tgt := 1476) hx hb dL_law_1398 (by decide) (fun _ => ?_) (fun h => absurd (by rw [hv]; exact lg_cmp_self _) h)
  exact kk _ _ _ _ hR1 ⟨hP, hT, hS⟩
set_option maxHeartbeats 4000000 in
set_option maxRecDepth 100000 in
theorem lc_count {p : Program} {l : Launch} {e : Env} {s : State} {m : MethodId} {below : List Frame} {meth : Method} {c : Code} {D : va_G} {cA : Nat → ClassId} {aC : Nat → Nat} {cM : Nat → ClassId} {aM : Nat → Nat} {kl b L : Nat} {xs : Nat → Int32} {Rel : vS → vS → Prop} (hL : L ≤ 3072) (C0 : lw_At p s m meth c b L xs) (hG : LG D cA aC cM aM kl s) (hst : St_count Rel) {i : Nat} (hi : i + 6 ≤ L) {S T : vS} (hR : Rel S T) {H : Heap} {locs : List Loc} (hH : LH D cA aC cM aM s S T H locs) {ls : Array Slot} (hl : lv_has ls 4 [(0, .ref b), (1, .ref (aC 0)), (2, .ref (aM 0)), (3, .int (nI i))]) (kk : ∀ (S T : vS) (H : Heap) (locs : List Loc), Rel S T → LH D cA aC cM aM s S T H locs → W p l e room_1 s m #[Value.ref b] below meth c H locs 600000 7302250 (lw_Z below #[Value.ref b] s) (F0 m 1476 ls [])) : W p l e room_1 s m #[Value.ref b] below meth c H locs 600000 7302250 (lw_Z below #[Value.ref b] s) (F0 m 1403 ls []) := by
  obtain ⟨hx, hb, hr, hml, hown, hts, hX, hbl, hlocks, hgv⟩ := id C0
  have hbA : ¬ A0 s b := Nat.not_le.mpr hbl
  obtain ⟨G1, G2, K1, K2, E1, hne, hn1, hn2⟩ := id hG
  obtain ⟨hP, hT, hS⟩ := hH
  have h_1 : vp_in (nI i + 1) L := by rw [show (1 : Int32) = nI 1 from rfl, nI_add]; exact vp_in_nI (by omega) (by omega)
  obtain ⟨r, t, e1, e2, hv, hR1⟩ := hst S T (xs (nI i + 1).toNatClampNeg) hR
  refine lv_aload_n hx hb dL_law_1403 rfl (lv_at hl 1 rfl) ?_
  refine lv_aload_n hx hb dL_law_1404 rfl (lv_at hl 0 rfl) ?_
  refine lv_iload_n hx hb dL_law_1405 rfl (lv_at hl 3 rfl) ?_
  refine lv_iconst (v := 1) hx hb dL_law_1406 (by decide) ?_
  refine lv_iadd hx hb dL_law_1407 ?_
  refine va_sld hx hb hX hbl hbA hS h_1 dL_law_1408 ?_
  refine lw_call (n := 1) (As := [.int (xs (nI i + 1).toNatClampNeg)]) C0 G1 K1 E1 hn1 (c_X6_count G1 (xs (nI i + 1).toNatClampNeg) S _ e1) wc_X6_count wm_L_184 wz_X6 (by decide +kernel) wi_X6_count ws_X6_count rfl is6 rfl ⟨rfl, rfl⟩ ⟨Nat.le_of_ble_eq_true rfl, Nat.le_of_ble_eq_true rfl⟩ ⟨Nat.le_refl _, Nat.le_refl _⟩ rfl hl.1 (Nat.le_of_ble_eq_true rfl) rfl dL_law_1409 hP hS (fun H1 locs1 hP hS hk => ?_)
  replace hT := wsl_kept hT hne hk
  refine lv_aload_n hx hb dL_law_1412 rfl (lv_at hl 2 rfl) ?_
  refine lv_aload_n hx hb dL_law_1413 rfl (lv_at hl 0 rfl) ?_
  refine lv_iload_n hx hb dL_law_1414 rfl (lv_at hl 3 rfl) ?_
  refine lv_iconst (v := 1) hx hb dL_law_1415 (by decide) ?_
  refine lv_iadd hx hb dL_law_1416 ?_
  refine va_sld hx hb hX hbl hbA hS h_1 dL_law_1417 ?_
  refine lw_call (n := 1) (As := [.int (xs (nI i + 1).toNatClampNeg)]) C0 G2 K2 trivial hn2 (c_X7_count G2 (xs (nI i + 1).toNatClampNeg) T _ e2) wc_X7_count wm_L_187 wz_X7 (by decide +kernel) wi_X7_count ws_X7_count rfl is7 rfl ⟨rfl, rfl⟩ ⟨Nat.le_of_ble_eq_true rfl, Nat.le_of_ble_eq_true rfl⟩ ⟨Nat.le_refl _, Nat.le_refl _⟩ rfl hl.1 (Nat.le_of_ble_eq_true rfl) rfl dL_law_1418 hT hS (fun H2 locs2 hT hS hk => ?_)
  replace hP := wsl_kept hP (fun j k h1 h2 z => hne k j h2 h1 z.symm) hk
  refine lv_icmp_eq (tgt := 1476) hx hb dL_law_1421 (by decide) (fun _ => ?_) (fun h => absurd hv h)
  exact kk _ _ _ _ hR1 ⟨hP, hT, hS⟩
set_option maxHeartbeats 4000000 in
set_option maxRecDepth 100000 in
theorem lc_finding {p : Program} {l : Launch} {e : Env} {s : State} {m : MethodId} {below : List Frame} {meth : Method} {c : Code} {D : va_G} {cA : Nat → ClassId} {aC : Nat → Nat} {cM : Nat → ClassId} {aM : Nat → Nat} {kl b L : Nat} {xs : Nat → Int32} {Rel : vS → vS → Prop} (hL : L ≤ 3072) (C0 : lw_At p s m meth c b L xs) (hG : LG D cA aC cM aM kl s) (hst : St_finding Rel) {i : Nat} (hi : i + 6 ≤ L) {S T : vS} (hR : Rel S T) {H : Heap} {locs : List Loc} (hH : LH D cA aC cM aM s S T H locs) {ls : Array Slot} (hl : lv_has ls 4 [(0, .ref b), (1, .ref (aC 0)), (2, .ref (aM 0)), (3, .int (nI i))]) (kk : ∀ (S T : vS) (H : Heap) (locs : List Loc), Rel S T → LH D cA aC cM aM s S T H locs → W p l e room_1 s m #[Value.ref b] below meth c H locs 600000 7302250 (lw_Z below #[Value.ref b] s) (F0 m 1476 ls [])) : W p l e room_1 s m #[Value.ref b] below meth c H locs 600000 7302250 (lw_Z below #[Value.ref b] s) (F0 m 1426 ls []) := by
  obtain ⟨hx, hb, hr, hml, hown, hts, hX, hbl, hlocks, hgv⟩ := id C0
  have hbA : ¬ A0 s b := Nat.not_le.mpr hbl
  obtain ⟨G1, G2, K1, K2, E1, hne, hn1, hn2⟩ := id hG
  obtain ⟨hP, hT, hS⟩ := hH
  obtain ⟨hv, hR1⟩ := hst S T hR
  refine lv_aload_n hx hb dL_law_1426 rfl (lv_at hl 1 rfl) ?_
  refine lw_call (n := 0) (As := []) C0 G1 K1 E1 hn1 (c_X6_finding G1  S ) wc_X6_finding wm_L_188 wz_X6 (by decide +kernel) wi_X6_finding ws_X6_finding rfl is6 rfl ⟨rfl, rfl⟩ ⟨Nat.le_of_ble_eq_true rfl, Nat.le_of_ble_eq_true rfl⟩ ⟨Nat.le_refl _, Nat.le_refl _⟩ rfl hl.1 (Nat.le_of_ble_eq_true rfl) rfl dL_law_1427 hP hS (fun H1 locs1 hP hS hk => ?_)
  replace hT := wsl_kept hT hne hk
  refine lv_aload_n hx hb dL_law_1430 rfl (lv_at hl 2 rfl) ?_
  refine lw_call (n := 0) (As := []) C0 G2 K2 trivial hn2 (c_X7_finding G2  T ) wc_X7_finding wm_L_191 wz_X7 (by decide +kernel) wi_X7_finding ws_X7_finding rfl is7 rfl ⟨rfl, rfl⟩ ⟨Nat.le_of_ble_eq_true rfl, Nat.le_of_ble_eq_true rfl⟩ ⟨Nat.le_refl _, Nat.le_refl _⟩ rfl hl.1 (Nat.le_of_ble_eq_true rfl) rfl dL_law_1431 hT hS (fun H2 locs2 hT hS hk => ?_)
  replace hP := wsl_kept hP (fun j k h1 h2 z => hne k j h2 h1 z.symm) hk
  refine lv_icmp_eq (tgt := 1476) hx hb dL_law_1434 (by decide) (fun _ => ?_) (fun h => absurd hv h)
  exact kk _ _ _ _ hR1 ⟨hP, hT, hS⟩
set_option maxHeartbeats 4000000 in
set_option maxRecDepth 100000 in
theorem lc_findings {p : Program} {l : Launch} {e : Env} {s : State} {m : MethodId} {below : List Frame} {meth : Method} {c : Code} {D : va_G} {cA : Nat → ClassId} {aC : Nat → Nat} {cM : Nat → ClassId} {aM : Nat → Nat} {kl b L : Nat} {xs : Nat → Int32} {Rel : vS → vS → Prop} (hL : L ≤ 3072) (C0 : lw_At p s m meth c b L xs) (hG : LG D cA aC cM aM kl s) (hst : St_findings Rel) {i : Nat} (hi : i + 6 ≤ L) {S T : vS} (hR : Rel S T) {H : Heap} {locs : List Loc} (hH : LH D cA aC cM aM s S T H locs) {ls : Array Slot} (hl : lv_has ls 4 [(0, .ref b), (1, .ref (aC 0)), (2, .ref (aM 0)), (3, .int (nI i))]) (kk : ∀ (S T : vS) (H : Heap) (locs : List Loc), Rel S T → LH D cA aC cM aM s S T H locs → W p l e room_1 s m #[Value.ref b] below meth c H locs 600000 7302250 (lw_Z below #[Value.ref b] s) (F0 m 1476 ls [])) : W p l e room_1 s m #[Value.ref b] below meth c H locs 600000 7302250 (lw_Z below #[Value.ref b] s) (F0 m 1439 ls []) := by
  obtain ⟨hx, hb, hr, hml, hown, hts, hX, hbl, hlocks, hgv⟩ := id C0
  have hbA : ¬ A0 s b := Nat.not_le.mpr hbl
  obtain ⟨G1, G2, K1, K2, E1, hne, hn1, hn2⟩ := id hG
  obtain ⟨hP, hT, hS⟩ := hH
  have h_1 : vp_in (nI i + 1) L := by rw [show (1 : Int32) = nI 1 from rfl, nI_add]; exact vp_in_nI (by omega) (by omega)
  obtain ⟨r, t, e1, e2, hv, hR1⟩ := hst S T (xs (nI i + 1).toNatClampNeg) hR
  refine lv_aload_n hx hb dL_law_1439 rfl (lv_at hl 1 rfl) ?_
  refine lv_aload_n hx hb dL_law_1440 rfl (lv_at hl 0 rfl) ?_
  refine lv_iload_n hx hb dL_law_1441 rfl (lv_at hl 3 rfl) ?_
  refine lv_iconst (v := 1) hx hb dL_law_1442 (by decide) ?_
  refine lv_iadd hx hb dL_law_1443 ?_
  refine va_sld hx hb hX hbl hbA hS h_1 dL_law_1444 ?_
  refine lw_call (n := 1) (As := [.int (xs (nI i + 1).toNatClampNeg)]) C0 G1 K1 E1 hn1 (c_X6_findings G1 (xs (nI i + 1).toNatClampNeg) S _ e1) wc_X6_findings wm_L_192 wz_X6 (by decide +kernel) wi_X6_findings ws_X6_findings rfl is6 rfl ⟨rfl, rfl⟩ ⟨Nat.le_of_ble_eq_true rfl, Nat.le_of_ble_eq_true rfl⟩ ⟨Nat.le_refl _, Nat.le_refl _⟩ rfl hl.1 (Nat.le_of_ble_eq_true rfl) rfl dL_law_1445 hP hS (fun H1 locs1 hP hS hk => ?_)
  replace hT := wsl_kept hT hne hk
  refine lv_aload_n hx hb dL_law_1448 rfl (lv_at hl 2 rfl) ?_
  refine lv_aload_n hx hb dL_law_1449 rfl (lv_at hl 0 rfl) ?_
  refine lv_iload_n hx hb dL_law_1450 rfl (lv_at hl 3 rfl) ?_
  refine lv_iconst (v := 1) hx hb dL_law_1451 (by decide) ?_
  refine lv_iadd hx hb dL_law_1452 ?_
  refine va_sld hx hb hX hbl hbA hS h_1 dL_law_1453 ?_
  refine lw_call (n := 1) (As := [.int (xs (nI i + 1).toNatClampNeg)]) C0 G2 K2 trivial hn2 (c_X7_findings G2 (xs (nI i + 1).toNatClampNeg) T _ e2) wc_X7_findings wm_L_195 wz_X7 (by decide +kernel) wi_X7_findings ws_X7_findings rfl is7 rfl ⟨rfl, rfl⟩ ⟨Nat.le_of_ble_eq_true rfl, Nat.le_of_ble_eq_true rfl⟩ ⟨Nat.le_refl _, Nat.le_refl _⟩ rfl hl.1 (Nat.le_of_ble_eq_true rfl) rfl dL_law_1454 hT hS (fun H2 locs2 hT hS hk => ?_)
  replace hP := wsl_kept hP (fun j k h1 h2 z => hne k j h2 h1 z.symm) hk
  refine lv_icmp_eq (tgt := 1476) hx hb dL_law_1457 (by decide) (fun _ => ?_) (fun h => absurd hv h)
  exact kk _ _ _ _ hR1 ⟨hP, hT, hS⟩
set_option maxHeartbeats 4000000 in
set_option maxRecDepth 100000 in
theorem lc_digest {p : Program} {l : Launch} {e : Env} {s : State} {m : MethodId} {below : List Frame} {meth : Method} {c : Code} {D : va_G} {cA : Nat → ClassId} {aC : Nat → Nat} {cM : Nat → ClassId} {aM : Nat → Nat} {kl b L : Nat} {xs : Nat → Int32} {Rel : vS → vS → Prop} (hL : L ≤ 3072) (C0 : lw_At p s m meth c b L xs) (hG : LG D cA aC cM aM kl s) (hst : St_digest Rel) {i : Nat} (hi : i + 6 ≤ L) {S T : vS} (hR : Rel S T) {H : Heap} {locs : List Loc} (hH : LH D cA aC cM aM s S T H locs) {ls : Array Slot} (hl : lv_has ls 4 [(0, .ref b), (1, .ref (aC 0)), (2, .ref (aM 0)), (3, .int (nI i))]) (kk : ∀ (S T : vS) (H : Heap) (locs : List Loc), Rel S T → LH D cA aC cM aM s S T H locs → W p l e room_1 s m #[Value.ref b] below meth c H locs 600000 7302250 (lw_Z below #[Value.ref b] s) (F0 m 1476 ls [])) : W p l e room_1 s m #[Value.ref b] below meth c H locs 600000 7302250 (lw_Z below #[Value.ref b] s) (F0 m 1462 ls []) := by
  obtain ⟨hx, hb, hr, hml, hown, hts, hX, hbl, hlocks, hgv⟩ := id C0
  have hbA : ¬ A0 s b := Nat.not_le.mpr hbl
  obtain ⟨G1, G2, K1, K2, E1, hne, hn1, hn2⟩ := id hG
  obtain ⟨hP, hT, hS⟩ := hH
  obtain ⟨r, t, e1, e2, hv, hR1⟩ := hst S T hR
  refine lv_aload_n hx hb dL_law_1462 rfl (lv_at hl 1 rfl) ?_
  refine lw_call (n := 0) (As := []) C0 G1 K1 E1 hn1 (c_X6_digest G1  S _ e1) wc_X6_digest wm_L_196 wz_X6 (by decide +kernel) wi_X6_digest ws_X6_digest rfl is6 rfl ⟨rfl, rfl⟩ ⟨Nat.le_of_ble_eq_true rfl, Nat.le_of_ble_eq_true rfl⟩ ⟨Nat.le_refl _, Nat.le_refl _⟩ rfl hl.1 (Nat.le_of_ble_eq_true rfl) rfl dL_law_1463 hP hS (fun H1 locs1 hP hS hk => ?_)
  replace hT := wsl_kept hT hne hk
  refine lv_aload_n hx hb dL_law_1466 rfl (lv_at hl 2 rfl) ?_
  refine lw_call (n := 0) (As := []) C0 G2 K2 trivial hn2 (c_X7_digest G2  T _ e2) wc_X7_digest wm_L_199 wz_X7 (by decide +kernel) wi_X7_digest ws_X7_digest rfl is7 rfl ⟨rfl, rfl⟩ ⟨Nat.le_of_ble_eq_true rfl, Nat.le_of_ble_eq_true rfl⟩ ⟨Nat.le_refl _, Nat.le_refl _⟩ rfl hl.1 (Nat.le_of_ble_eq_true rfl) rfl dL_law_1467 hT hS (fun H2 locs2 hT hS hk => ?_)
  replace hP := wsl_kept hP (fun j k h1 h2 z => hne k j h2 h1 z.symm) hk
  refine W.lcmp hx hb dL_law_1470 ?_
  refine lv_if_eq (tgt := 1476) hx hb dL_law_1471 (by decide) (fun _ => ?_) (fun h => absurd (by rw [hv]; exact lg_cmp_self _) h)
  exact kk _ _ _ _ hR1 ⟨hP, hT, hS⟩
set_option maxHeartbeats 4000000 in
set_option maxRecDepth 100000 in
theorem law_loop {p : Program} {l : Launch} {e : Env} {s : State} {m : MethodId} {below : List Frame} {meth : Method} {c : Code} {D : va_G} {cA : Nat → ClassId} {aC : Nat → Nat} {cM : Nat → ClassId} {aM : Nat → Nat} {kl b L : Nat} {xs : Nat → Int32} {Rel : vS → vS → Prop} (hL : L ≤ 3072) (C0 : lw_At p s m meth c b L xs) (hG : LG D cA aC cM aM kl s) (hst : AllSteps Rel) :
    ∀ (n i : Nat), i ≤ L → L + 1 ≤ i + n → ∀ (S T : vS), Rel S T → ∀ (H : Heap) (locs : List Loc), LH D cA aC cM aM s S T H locs → ∀ (ls : Array Slot), lv_has ls 4 [(0, .ref b), (1, .ref (aC 0)), (2, .ref (aM 0)), (3, .int (nI i))] → W p l e room_1 s m #[Value.ref b] below meth c H locs 600000 7302250 (lw_Z below #[Value.ref b] s) (F0 m 18 ls []) := by
  intro n
  induction n with
  | zero => intro i h1 h2; omega
  | succ n ih =>
    intro i hiL hin S T hR H locs hH ls hl
    obtain ⟨hx, hb, hr, hml, hown, hts, hX, hbl, hlocks, hgv⟩ := id C0
    have hbA : ¬ A0 s b := Nat.not_le.mpr hbl
    obtain ⟨hP, hT, hS⟩ := id hH
    refine lv_iload_n hx hb dL_law_18 rfl (lv_at hl 3 rfl) ?_
    refine lv_aload_n hx hb dL_law_19 rfl (lv_at hl 0 rfl) ?_
    refine va_slen hx hb hX hbl hbA hS dL_law_20 ?_
    refine lv_bipush (v := 6) hx hb dL_law_21 (by decide) ?_
    refine lv_isub hx hb dL_law_23 ?_
    refine lv_icmp_gt (tgt := 1482) hx hb dL_law_24 (by decide) (fun _ => ?_) (fun hle => ?_)
    · refine lv_iconst (v := 1) hx hb dL_law_1482 (by decide) ?_
      refine va_forget hS.2.2 ?_
      exact lw_ret hx hb hr hlocks dL_law_1483
    · have hi : i + 6 ≤ L := by
        have e1 : (nI L - nI 6).toInt = (L : Int) - 6 := pk_sub_toInt (by omega) (by decide)
        have e2 : (nI i).toInt = (i : Int) := nI_toInt (by omega)
        have h3 := mt Int32.lt_iff_toInt_lt.mpr hle
        have h4 : ¬ (nI L - nI 6).toInt < (nI i).toInt := h3
        rw [e1, e2] at h4
        omega
      have h_0 : vp_in (nI i) L := vp_in_nI (by omega) (by omega)
      refine lv_aload_n hx hb dL_law_27 rfl (lv_at hl 0 rfl) ?_
      refine lv_iload_n hx hb dL_law_28 rfl (lv_at hl 3 rfl) ?_
      refine va_sld hx hb hX hbl hbA hS h_0 dL_law_29 ?_
      refine lv_bipush (v := 63) hx hb dL_law_30 (by decide) ?_
      refine lv_iand hx hb dL_law_32 ?_
      have kk : ∀ (S T : vS) (H : Heap) (locs : List Loc), Rel S T → LH D cA aC cM aM s S T H locs → W p l e room_1 s m #[Value.ref b] below meth c H locs 600000 7302250 (lw_Z below #[Value.ref b] s) (F0 m 1476 ls []) := by
        intro S T H locs hR hH
        refine lv_iinc (v := nI (i + 6)) (lv' := [(3, .int (nI (i + 6))), (0, .ref b), (1, .ref (aC 0)), (2, .ref (aM 0))]) hx hb dL_law_1476 hl (k := 3) rfl (by rw [← nI_add]; rfl) (by decide) rfl (fun ls hl => ?_)
        refine lv_goto (tgt := 18) hx hb dL_law_1479 (by decide) ?_
        exact ih (i + 6) hi (by omega) S T hR H locs hH ls (lv_sub hl [1, 2, 3, 0] rfl)
      generalize xs (nI i).toNatClampNeg &&& 63 = x
      obtain ⟨s0, s1, s2, s3, s4, s5, s6, s7, s8, s9, s10, s11, s12, s13, s14, s15, s16, s17, s18, s19, s20, s21, s22, s23, s24, s25, s26, s27, s28, s29, s30, s31, s32, s33, s34, s35, s36, s37, s38, s39, s40, s41, s42, s43, s44⟩ := id hst
      by_cases c0 : x = 0
      · exact lv_tableIn (off := 195) (tgt := 228) hx hb dL_law_33 (by rw [c0]; decide) (by rw [c0]; decide) (by rw [c0]; decide) (by decide) (lc_row hL C0 hG s0 hi hR hH hl kk)
      by_cases c1 : x = 1
      · exact lv_tableIn (off := 228) (tgt := 261) hx hb dL_law_33 (by rw [c1]; decide) (by rw [c1]; decide) (by rw [c1]; decide) (by decide) (lc_lay hL C0 hG s1 hi hR hH hl kk)
      by_cases c2 : x = 2
      · exact lv_tableIn (off := 271) (tgt := 304) hx hb dL_law_33 (by rw [c2]; decide) (by rw [c2]; decide) (by rw [c2]; decide) (by decide) (lc_at hL C0 hG s2 hi hR hH hl kk)
      by_cases c3 : x = 3
      · exact lv_tableIn (off := 304) (tgt := 337) hx hb dL_law_33 (by rw [c3]; decide) (by rw [c3]; decide) (by rw [c3]; decide) (by decide) (lc_tear hL C0 hG s3 hi hR hH hl kk)
      by_cases c4 : x = 4
      · exact lv_tableIn (off := 327) (tgt := 360) hx hb dL_law_33 (by rw [c4]; decide) (by rw [c4]; decide) (by rw [c4]; decide) (by decide) (lc_copy hL C0 hG s4 hi hR hH hl kk)
      by_cases c5 : x = 5
      · exact lv_tableIn (off := 390) (tgt := 423) hx hb dL_law_33 (by rw [c5]; decide) (by rw [c5]; decide) (by rw [c5]; decide) (by decide) (lc_mean hL C0 hG s5 hi hR hH hl kk)
      by_cases c6 : x = 6
      · exact lv_tableIn (off := 413) (tgt := 446) hx hb dL_law_33 (by rw [c6]; decide) (by rw [c6]; decide) (by rw [c6]; decide) (by decide) (lc_text hL C0 hG s6 hi hR hH hl kk)
      by_cases c7 : x = 7
      · exact lv_tableIn (off := 446) (tgt := 479) hx hb dL_law_33 (by rw [c7]; decide) (by rw [c7]; decide) (by rw [c7]; decide) (by decide) (lc_put hL C0 hG s7 hi hR hH hl kk)
      by_cases c8 : x = 8
      · exact lv_tableIn (off := 489) (tgt := 522) hx hb dL_law_33 (by rw [c8]; decide) (by rw [c8]; decide) (by rw [c8]; decide) (by decide) (lc_fault hL C0 hG s8 hi hR hH hl kk)
      by_cases c9 : x = 9
      · exact lv_tableIn (off := 512) (tgt := 545) hx hb dL_law_33 (by rw [c9]; decide) (by rw [c9]; decide) (by rw [c9]; decide) (by decide) (lc_valley hL C0 hG s9 hi hR hH hl kk)
      by_cases c10 : x = 10
      · exact lv_tableIn (off := 535) (tgt := 568) hx hb dL_law_33 (by rw [c10]; decide) (by rw [c10]; decide) (by rw [c10]; decide) (by decide) (lc_god hL C0 hG s10 hi hR hH hl kk)
      by_cases c11 : x = 11
      · exact lv_tableIn (off := 568) (tgt := 601) hx hb dL_law_33 (by rw [c11]; decide) (by rw [c11]; decide) (by rw [c11]; decide) (by decide) (lc_mark hL C0 hG s11 hi hR hH hl kk)
      by_cases c12 : x = 12
      · exact lv_tableIn (off := 601) (tgt := 634) hx hb dL_law_33 (by rw [c12]; decide) (by rw [c12]; decide) (by rw [c12]; decide) (by decide) (lc_store hL C0 hG s12 hi hR hH hl kk)
      by_cases c13 : x = 13
      · exact lv_tableIn (off := 634) (tgt := 667) hx hb dL_law_33 (by rw [c13]; decide) (by rw [c13]; decide) (by rw [c13]; decide) (by decide) (lc_stores hL C0 hG s13 hi hR hH hl kk)
      by_cases c14 : x = 14
      · exact lv_tableIn (off := 657) (tgt := 690) hx hb dL_law_33 (by rw [c14]; decide) (by rw [c14]; decide) (by rw [c14]; decide) (by decide) (lc_patience hL C0 hG s14 hi hR hH hl kk)
      by_cases c15 : x = 15
      · exact lv_tableIn (off := 690) (tgt := 723) hx hb dL_law_33 (by rw [c15]; decide) (by rw [c15]; decide) (by rw [c15]; decide) (by decide) (lc_offer hL C0 hG s15 hi hR hH hl kk)
      by_cases c16 : x = 16
      · exact lv_tableIn (off := 713) (tgt := 746) hx hb dL_law_33 (by rw [c16]; decide) (by rw [c16]; decide) (by rw [c16]; decide) (by decide) (lc_may hL C0 hG s16 hi hR hH hl kk)
      by_cases c17 : x = 17
      · exact lv_tableIn (off := 736) (tgt := 769) hx hb dL_law_33 (by rw [c17]; decide) (by rw [c17]; decide) (by rw [c17]; decide) (by decide) (lc_rest hL C0 hG s17 hi hR hH hl kk)
      by_cases c18 : x = 18
      · exact lv_tableIn (off := 759) (tgt := 792) hx hb dL_law_33 (by rw [c18]; decide) (by rw [c18]; decide) (by rw [c18]; decide) (by decide) (lc_sent hL C0 hG s18 hi hR hH hl kk)
      by_cases c19 : x = 19
      · exact lv_tableIn (off := 792) (tgt := 825) hx hb dL_law_33 (by rw [c19]; decide) (by rw [c19]; decide) (by rw [c19]; decide) (by decide) (lc_offered hL C0 hG s19 hi hR hH hl kk)
      by_cases c20 : x = 20
      · exact lv_tableIn (off := 815) (tgt := 848) hx hb dL_law_33 (by rw [c20]; decide) (by rw [c20]; decide) (by rw [c20]; decide) (by decide) (lc_undo hL C0 hG s20 hi hR hH hl kk)
      by_cases c21 : x = 21
      · exact lv_tableIn (off := 838) (tgt := 871) hx hb dL_law_33 (by rw [c21]; decide) (by rw [c21]; decide) (by rw [c21]; decide) (by decide) (lc_sums hL C0 hG s21 hi hR hH hl kk)
      by_cases c22 : x = 22
      · exact lv_tableIn (off := 851) (tgt := 884) hx hb dL_law_33 (by rw [c22]; decide) (by rw [c22]; decide) (by rw [c22]; decide) (by decide) (lc_keep hL C0 hG s22 hi hR hH hl kk)
      by_cases c23 : x = 23
      · exact lv_tableIn (off := 874) (tgt := 907) hx hb dL_law_33 (by rw [c23]; decide) (by rw [c23]; decide) (by rw [c23]; decide) (by decide) (lc_on hL C0 hG s23 hi hR hH hl kk)
      by_cases c24 : x = 24
      · exact lv_tableIn (off := 897) (tgt := 930) hx hb dL_law_33 (by rw [c24]; decide) (by rw [c24]; decide) (by rw [c24]; decide) (by decide) (lc_best hL C0 hG s24 hi hR hH hl kk)
      by_cases c25 : x = 25
      · exact lv_tableIn (off := 930) (tgt := 963) hx hb dL_law_33 (by rw [c25]; decide) (by rw [c25]; decide) (by rw [c25]; decide) (by decide) (lc_tries hL C0 hG s25 hi hR hH hl kk)
      by_cases c26 : x = 26
      · exact lv_tableIn (off := 953) (tgt := 986) hx hb dL_law_33 (by rw [c26]; decide) (by rw [c26]; decide) (by rw [c26]; decide) (by decide) (lc_safe hL C0 hG s26 hi hR hH hl kk)
      by_cases c27 : x = 27
      · exact lv_tableIn (off := 986) (tgt := 1019) hx hb dL_law_33 (by rw [c27]; decide) (by rw [c27]; decide) (by rw [c27]; decide) (by decide) (lc_share hL C0 hG s27 hi hR hH hl kk)
      by_cases c28 : x = 28
      · exact lv_tableIn (off := 1009) (tgt := 1042) hx hb dL_law_33 (by rw [c28]; decide) (by rw [c28]; decide) (by rw [c28]; decide) (by decide) (lc_food hL C0 hG s28 hi hR hH hl kk)
      by_cases c29 : x = 29
      · exact lv_tableIn (off := 1032) (tgt := 1065) hx hb dL_law_33 (by rw [c29]; decide) (by rw [c29]; decide) (by rw [c29]; decide) (by decide) (lc_harm hL C0 hG s29 hi hR hH hl kk)
      by_cases c30 : x = 30
      · exact lv_tableIn (off := 1055) (tgt := 1088) hx hb dL_law_33 (by rw [c30]; decide) (by rw [c30]; decide) (by rw [c30]; decide) (by decide) (lc_starve hL C0 hG s30 hi hR hH hl kk)
      by_cases c31 : x = 31
      · exact lv_tableIn (off := 1078) (tgt := 1111) hx hb dL_law_33 (by rw [c31]; decide) (by rw [c31]; decide) (by rw [c31]; decide) (by decide) (lc_price hL C0 hG s31 hi hR hH hl kk)
      by_cases c32 : x = 32
      · exact lv_tableIn (off := 1111) (tgt := 1144) hx hb dL_law_33 (by rw [c32]; decide) (by rw [c32]; decide) (by rw [c32]; decide) (by decide) (lc_altar hL C0 hG s32 hi hR hH hl kk)
      by_cases c33 : x = 33
      · exact lv_tableIn (off := 1164) (tgt := 1197) hx hb dL_law_33 (by rw [c33]; decide) (by rw [c33]; decide) (by rw [c33]; decide) (by decide) (lc_turns hL C0 hG s33 hi hR hH hl kk)
      by_cases c34 : x = 34
      · exact lv_tableIn (off := 1197) (tgt := 1230) hx hb dL_law_33 (by rw [c34]; decide) (by rw [c34]; decide) (by rw [c34]; decide) (by decide) (lc_fits hL C0 hG s34 hi hR hH hl kk)
      by_cases c35 : x = 35
      · exact lv_tableIn (off := 1240) (tgt := 1273) hx hb dL_law_33 (by rw [c35]; decide) (by rw [c35]; decide) (by rw [c35]; decide) (by decide) (lc_whose hL C0 hG s35 hi hR hH hl kk)
      by_cases c36 : x = 36
      · exact lv_tableIn (off := 1273) (tgt := 1306) hx hb dL_law_33 (by rw [c36]; decide) (by rw [c36]; decide) (by rw [c36]; decide) (by decide) (lc_ask hL C0 hG s36 hi hR hH hl kk)
      by_cases c37 : x = 37
      · exact lv_tableIn (off := 1296) (tgt := 1329) hx hb dL_law_33 (by rw [c37]; decide) (by rw [c37]; decide) (by rw [c37]; decide) (by decide) (lc_year hL C0 hG s37 hi hR hH hl kk)
      by_cases c38 : x = 38
      · exact lv_tableIn (off := 1329) (tgt := 1362) hx hb dL_law_33 (by rw [c38]; decide) (by rw [c38]; decide) (by rw [c38]; decide) (by decide) (lc_asked hL C0 hG s38 hi hR hH hl kk)
      by_cases c39 : x = 39
      · exact lv_tableIn (off := 1342) (tgt := 1375) hx hb dL_law_33 (by rw [c39]; decide) (by rw [c39]; decide) (by rw [c39]; decide) (by decide) (lc_upper hL C0 hG s39 hi hR hH hl kk)
      by_cases c40 : x = 40
      · exact lv_tableIn (off := 1356) (tgt := 1389) hx hb dL_law_33 (by rw [c40]; decide) (by rw [c40]; decide) (by rw [c40]; decide) (by decide) (lc_lower hL C0 hG s40 hi hR hH hl kk)
      by_cases c41 : x = 41
      · exact lv_tableIn (off := 1370) (tgt := 1403) hx hb dL_law_33 (by rw [c41]; decide) (by rw [c41]; decide) (by rw [c41]; decide) (by decide) (lc_count hL C0 hG s41 hi hR hH hl kk)
      by_cases c42 : x = 42
      · exact lv_tableIn (off := 1393) (tgt := 1426) hx hb dL_law_33 (by rw [c42]; decide) (by rw [c42]; decide) (by rw [c42]; decide) (by decide) (lc_finding hL C0 hG s42 hi hR hH hl kk)
      by_cases c43 : x = 43
      · exact lv_tableIn (off := 1406) (tgt := 1439) hx hb dL_law_33 (by rw [c43]; decide) (by rw [c43]; decide) (by rw [c43]; decide) (by decide) (lc_findings hL C0 hG s43 hi hR hH hl kk)
      by_cases c44 : x = 44
      · exact lv_tableIn (off := 1429) (tgt := 1462) hx hb dL_law_33 (by rw [c44]; decide) (by rw [c44]; decide) (by rw [c44]; decide) (by decide) (lc_digest hL C0 hG s44 hi hR hH hl kk)
      by_cases hlo : x.toInt < 0
      · exact lv_tableOut (tgt := 1476) hx hb dL_law_33 (Or.inl hlo) (by decide) (kk S T H locs hR hH)
      by_cases hhi : 44 < x.toInt
      · exact lv_tableOut (tgt := 1476) hx hb dL_law_33 (Or.inr hhi) (by decide) (kk S T H locs hR hH)
      have t0 : x.toInt ≠ 0 := fun h => c0 (Int32.toInt_inj.mp (h.trans (by decide)))
      have t1 : x.toInt ≠ 1 := fun h => c1 (Int32.toInt_inj.mp (h.trans (by decide)))
      have t2 : x.toInt ≠ 2 := fun h => c2 (Int32.toInt_inj.mp (h.trans (by decide)))
      have t3 : x.toInt ≠ 3 := fun h => c3 (Int32.toInt_inj.mp (h.trans (by decide)))
      have t4 : x.toInt ≠ 4 := fun h => c4 (Int32.toInt_inj.mp (h.trans (by decide)))
      have t5 : x.toInt ≠ 5 := fun h => c5 (Int32.toInt_inj.mp (h.trans (by decide)))
      have t6 : x.toInt ≠ 6 := fun h => c6 (Int32.toInt_inj.mp (h.trans (by decide)))
      have t7 : x.toInt ≠ 7 := fun h => c7 (Int32.toInt_inj.mp (h.trans (by decide)))
      have t8 : x.toInt ≠ 8 := fun h => c8 (Int32.toInt_inj.mp (h.trans (by decide)))
      have t9 : x.toInt ≠ 9 := fun h => c9 (Int32.toInt_inj.mp (h.trans (by decide)))
      have t10 : x.toInt ≠ 10 := fun h => c10 (Int32.toInt_inj.mp (h.trans (by decide)))
      have t11 : x.toInt ≠ 11 := fun h => c11 (Int32.toInt_inj.mp (h.trans (by decide)))
      have t12 : x.toInt ≠ 12 := fun h => c12 (Int32.toInt_inj.mp (h.trans (by decide)))
      have t13 : x.toInt ≠ 13 := fun h => c13 (Int32.toInt_inj.mp (h.trans (by decide)))
      have t14 : x.toInt ≠ 14 := fun h => c14 (Int32.toInt_inj.mp (h.trans (by decide)))
      have t15 : x.toInt ≠ 15 := fun h => c15 (Int32.toInt_inj.mp (h.trans (by decide)))
      have t16 : x.toInt ≠ 16 := fun h => c16 (Int32.toInt_inj.mp (h.trans (by decide)))
      have t17 : x.toInt ≠ 17 := fun h => c17 (Int32.toInt_inj.mp (h.trans (by decide)))
      have t18 : x.toInt ≠ 18 := fun h => c18 (Int32.toInt_inj.mp (h.trans (by decide)))
      have t19 : x.toInt ≠ 19 := fun h => c19 (Int32.toInt_inj.mp (h.trans (by decide)))
      have t20 : x.toInt ≠ 20 := fun h => c20 (Int32.toInt_inj.mp (h.trans (by decide)))
      have t21 : x.toInt ≠ 21 := fun h => c21 (Int32.toInt_inj.mp (h.trans (by decide)))
      have t22 : x.toInt ≠ 22 := fun h => c22 (Int32.toInt_inj.mp (h.trans (by decide)))
      have t23 : x.toInt ≠ 23 := fun h => c23 (Int32.toInt_inj.mp (h.trans (by decide)))
      have t24 : x.toInt ≠ 24 := fun h => c24 (Int32.toInt_inj.mp (h.trans (by decide)))
      have t25 : x.toInt ≠ 25 := fun h => c25 (Int32.toInt_inj.mp (h.trans (by decide)))
      have t26 : x.toInt ≠ 26 := fun h => c26 (Int32.toInt_inj.mp (h.trans (by decide)))
      have t27 : x.toInt ≠ 27 := fun h => c27 (Int32.toInt_inj.mp (h.trans (by decide)))
      have t28 : x.toInt ≠ 28 := fun h => c28 (Int32.toInt_inj.mp (h.trans (by decide)))
      have t29 : x.toInt ≠ 29 := fun h => c29 (Int32.toInt_inj.mp (h.trans (by decide)))
      have t30 : x.toInt ≠ 30 := fun h => c30 (Int32.toInt_inj.mp (h.trans (by decide)))
      have t31 : x.toInt ≠ 31 := fun h => c31 (Int32.toInt_inj.mp (h.trans (by decide)))
      have t32 : x.toInt ≠ 32 := fun h => c32 (Int32.toInt_inj.mp (h.trans (by decide)))
      have t33 : x.toInt ≠ 33 := fun h => c33 (Int32.toInt_inj.mp (h.trans (by decide)))
      have t34 : x.toInt ≠ 34 := fun h => c34 (Int32.toInt_inj.mp (h.trans (by decide)))
      have t35 : x.toInt ≠ 35 := fun h => c35 (Int32.toInt_inj.mp (h.trans (by decide)))
      have t36 : x.toInt ≠ 36 := fun h => c36 (Int32.toInt_inj.mp (h.trans (by decide)))
      have t37 : x.toInt ≠ 37 := fun h => c37 (Int32.toInt_inj.mp (h.trans (by decide)))
      have t38 : x.toInt ≠ 38 := fun h => c38 (Int32.toInt_inj.mp (h.trans (by decide)))
      have t39 : x.toInt ≠ 39 := fun h => c39 (Int32.toInt_inj.mp (h.trans (by decide)))
      have t40 : x.toInt ≠ 40 := fun h => c40 (Int32.toInt_inj.mp (h.trans (by decide)))
      have t41 : x.toInt ≠ 41 := fun h => c41 (Int32.toInt_inj.mp (h.trans (by decide)))
      have t42 : x.toInt ≠ 42 := fun h => c42 (Int32.toInt_inj.mp (h.trans (by decide)))
      have t43 : x.toInt ≠ 43 := fun h => c43 (Int32.toInt_inj.mp (h.trans (by decide)))
      have t44 : x.toInt ≠ 44 := fun h => c44 (Int32.toInt_inj.mp (h.trans (by decide)))
      omega
