/-! ===== THE LAW FROM ITS ENTRY ===== -/
theorem arrOf_of {s : State} {cB comp : ClassId} {k : Class} {ty : FieldType} (h2 : s.vm.classes[cB]? = some k) (h3 : k.kind = .array comp ty) : ArrOfT s cB ty := fun _ _ => ⟨(fun _ h => by cases h), k, h2, comp, h3⟩
theorem wn_born {Ts : List Cond} {s : State} {args : Array Value} {D : va_G} {cA : Nat → ClassId} {base : Nat} {sl : List vSh} {S : vS} {H H1 : Heap} {C : String} {T : u_T} {N ci : Nat} {fd : List (Nat × Nat)} {kC : Class} (tyf : Nat → FieldType) (hts : ∀ w ∈ Ts, w.before args s = true) (hin : ∀ w ∈ u_ws C T N, w ∈ Ts) (hty : ∀ k, k < N → parseFieldDescriptor (T k).2.2.1 = some (tyf k)) (hc : vwCl[ci]? = some (C, T, N)) (hKn : u_Kn s C T N (D.1 ci) (D.2 ci)) (hkC : s.vm.classes[D.1 ci]? = some kC) (e1 : H1[H.size]? = some (blank (D.1 ci) kC)) (z1 : H1.size = H.size + 1) (o1 : ∀ q, q < H.size → H1[q]? = H[q]?) (hfs : ∀ (ad : Nat → Nat) (S : vS) (k : Nat), S.1 k = (fun _ => 0) → S.2 k = (fun _ => 0) → ∀ j, j < N → defaultValue (tyf j) = vp_V (fd.mapIdx (sxf ad S k)) j) (hP : WPn D cA base sl S H) : WPn D cA base (sl ++ [.inr (.inr (ci, fd))]) S H1 := by
  have hz := hP.2.2 sl.length (Nat.le_refl _)
  exact wn_push (sh := .inr (.inr (ci, fd))) hP z1 o1 ⟨_, hc, (u_born tyf hts hin hKn hkC e1 hty).to (hfs _ S _ hz.1 hz.2)⟩
section LWI
variable {p : Program} {l : Launch} {e : Env} {s : State} {m : MethodId} {below : List Frame} {meth : Method} {c : Code} {H : Heap} {locs : List Loc} {cells slots : Nat} {Q : State → Prop} {b L : Nat} {xs : Nat → Int32}
theorem lw_init {D : va_G} {tl : List FieldType} {cA : Nat → ClassId} {base : Nat} (C0 : lw_At p s m meth c b L xs) (hK : va_K D vwCl (tyl tl cA) s) (hN : NW s) (hbase : s.heap.size ≤ base)
    {y : MethodName} {bytes : ByteArray} {maxL index pc mc ms a : Nat} {rm : Room} {sl sl1 : List vSh} {S S1 : vS} {st : List Value} {ls : Array Slot}
    (hM : Met l y (Cond.code y bytes maxL none :: ALL) rm (PoN D tl cA base [.ref a] sl S) (QoN D cA base sl1 S1) mc ms (Ab base))
    (hcode : Cond.code y bytes maxL none ∈ ALL) (hlk : Cond.methodLink R_law index y ∈ ALL) (hini : Cond.initialized y.cls ∈ ALL) (hy1 : y.name = "<init>") (hno : y.cls ≠ "java/lang/invoke/MethodHandle" ∧ y.cls ≠ "java/lang/invoke/VarHandle" ∧ (parseMethodDescriptor y.desc).map (fun d => d.parameters.length) = some 0)
    (hi : Cond.instanceMethod y ∈ ALL) (hrc : rm.cells = mc ∧ rm.slots = ms) (hR : rm.frames + 1 ≤ room_1.frames ∧ 8 + (maxL + 11) + rm.locals ≤ room_1.locals)
    (hf : cells + mc ≤ room_1.cells ∧ slots + ms ≤ room_1.slots) (hsz : ls.size = 4) (hrest : (st.map fun v => v.category).sum ≤ 8) (hdg : decode code pc = .ok (.invokespecial index, 3))
    (hP : WPn D cA base sl S H) (hS : va_S (A0 s) s.heap H locs)
    (kk : ∀ (H1 : Heap) (locs1 : List Loc), WPn D cA base sl1 S1 H1 → va_S (A0 s) s.heap H1 locs1 → (∀ q, q < H.size → ¬ Ab base q → H1[q]? = H[q]?) → W p l e room_1 s m #[Value.ref b] below meth c H1 locs1 (cells + mc) (slots + ms) Q (F0 m (pc + 3) ls st)) :
    W p l e room_1 s m #[Value.ref b] below meth c H locs cells slots Q (F0 m pc ls (.ref a :: st)) := by
  obtain ⟨hx, hb, hr, hml, hown, hts, hX, hbl, hlocks, hgv⟩ := id C0
  have htA : ∀ w ∈ ALL, w.before #[Value.ref b] s = true := fun w hw => hts w (al_tbl hw)
  have hG : GoodIn ALL (Cond.code y bytes maxL none :: ALL) := fun w h => by
    rcases List.mem_cons.mp h with rfl | h
    · exact al_self _ hcode
    · exact al_self w h
  have hbl2 : FrameBlind (PoN D tl cA base [.ref a] sl S) := by
    intro av U g mk q
    obtain ⟨q0, qP, qK, qE⟩ := q
    exact ⟨q0, qP, va_K.moved (u := U) (U := U.calling g mk av) (Vm.Alike.refl U.vm) qK, NW.same rfl qE⟩
  have hsub : ∀ q, Ab base q → A0 s q := fun q h => Nat.le_trans hbase h
  have run : va_Run p l e room_1 s m #[Value.ref b] below meth c H locs cells slots mc ms (F0 m pc ls (.ref a :: st)) st _ (Ab base) := va_runI (As := []) (rest := st) (b := a) ⟨hx, hb, hml, hown, htA⟩ hM (cwI 0 htA hG rfl hrc.1 hrc.2 (htA _ hini) (htA _ hlk) (htA _ hi) hy1 hno hR) ⟨hbl2, fun U hU hW => ⟨rfl, by rw [hU]; exact hP, va_K.moved hW.alike hK, NW.warm hW hN⟩⟩ rfl rfl hsz rfl (lv_room hrest) hdg hf
  intro T hT X
  obtain ⟨v', st₀, t, T', L', h0, X', hL, e1, e2, ⟨hv, hP1, hF⟩, stp⟩ := run T hT X
  cases hv
  have hF2 : va_F (Ab base) st₀ t := hF
  unfold va_F at hF2
  rw [h0] at hF2
  obtain ⟨t2, a1, b1⟩ := kk T'.heap (locs ++ L') (by rw [e1]; exact hP1)
    ⟨Nat.le_trans hS.1 (by rw [e1]; exact hF2.1), fun q h1 h2 => by rw [e1, hF2.2 q (Nat.lt_of_lt_of_le h1 hS.1) (fun z => h2 (hsub q z))]; exact hS.2.1 q h1 h2, fun q hq => by
      rcases List.mem_append.mp hq with h | h
      · exact hS.2.2 q h
      · exact hsub _ (hL q h)⟩ (fun q h1 h2 => by rw [e1]; exact hF2.2 q h1 h2) T' rfl X'
  exact ⟨t2, stp t2 a1, b1⟩
end LWI
set_option maxHeartbeats 4000000 in
set_option maxRecDepth 100000 in
theorem whole_go {Rel : vS → vS → Prop} (hst : AllSteps Rel) (hR0 : Rel S6i (S7i Sz)) {p : Program} {e : Env} {s : State} {m : MethodId} {below : List Frame} {meth : Method} {c : Code} (l : Launch) {b L : Nat} {xs : Nat → Int32} (hL : L ≤ 3072) (C0 : lw_At p s m meth c b L xs) : W p l e room_1 s m #[Value.ref b] below meth c s.heap [] 0 0 (lw_Z below #[Value.ref b] s) (entryFrame m ([Value.ref b] : List Value).toArray 4) := by
  obtain ⟨hx, hb, hr, hml, hown, hts, hX, hbl, hlocks, hgv⟩ := id C0
  obtain ⟨c0, i0, k0⟩ := u_known (C := RX0) (T := TX0) hts (fun w h => al_tbl (inX0 w h)) (hts _ (al_tbl wn_X0))
  obtain ⟨c1, i1, k1⟩ := u_known (C := RX1) (T := TX1) hts (fun w h => al_tbl (inX1 w h)) (hts _ (al_tbl wn_X1))
  obtain ⟨c2, i2, k2⟩ := u_known (C := RX2) (T := TX2) hts (fun w h => al_tbl (inX2 w h)) (hts _ (al_tbl wn_X2))
  obtain ⟨c3, i3, k3⟩ := u_known (C := RX3) (T := TX3) hts (fun w h => al_tbl (inX3 w h)) (hts _ (al_tbl wn_X3))
  obtain ⟨c4, i4, k4⟩ := u_known (C := RX4) (T := TX4) hts (fun w h => al_tbl (inX4 w h)) (hts _ (al_tbl wn_X4))
  obtain ⟨c5, i5, k5⟩ := u_known (C := RX5) (T := TX5) hts (fun w h => al_tbl (inX5 w h)) (hts _ (al_tbl wn_X5))
  obtain ⟨c6, i6, k6⟩ := u_known (C := RX6) (T := TX6) hts (fun w h => al_tbl (inX6 w h)) (hts _ (al_tbl wn_X6))
  obtain ⟨c7, i7, k7⟩ := u_known (C := RX7) (T := TX7) hts (fun w h => al_tbl (inX7 w h)) (hts _ (al_tbl wn_X7))
  obtain ⟨D, hD⟩ : ∃ D : va_G, ∀ (k : Nat) (q : vw_C), vwCl[k]? = some q → u_Kn s q.1 q.2.1 q.2.2 (D.1 k) (D.2 k) := by
    refine ⟨(fun k => if k = 0 then c0 else if k = 1 then c1 else if k = 2 then c2 else if k = 3 then c3 else if k = 4 then c4 else if k = 5 then c5 else if k = 6 then c6 else c7, fun k => if k = 0 then i0 else if k = 1 then i1 else if k = 2 then i2 else if k = 3 then i3 else if k = 4 then i4 else if k = 5 then i5 else if k = 6 then i6 else i7), ?_⟩
    intro k q hq
    match k, hq with
    | 0, hq => cases hq; exact k0
    | 1, hq => cases hq; exact k1
    | 2, hq => cases hq; exact k2
    | 3, hq => cases hq; exact k3
    | 4, hq => cases hq; exact k4
    | 5, hq => cases hq; exact k5
    | 6, hq => cases hq; exact k6
    | 7, hq => cases hq; exact k7
    | k + 8, hq => simp [vwCl] at hq
  obtain ⟨a0, ka0, m0, f0, g0, q0⟩ := Cond.arrayClass_spec (hts _ (al_tbl wa_int))
  obtain ⟨a1, ka1, m1, f1, g1, q1⟩ := Cond.arrayClass_spec (hts _ (al_tbl wa_byte))
  obtain ⟨a2, ka2, m2, f2, g2, q2⟩ := Cond.arrayClass_spec (hts _ (al_tbl wa_boolean))
  obtain ⟨m3, a3, ka3, d3, -, g3, q3, f3⟩ := Jvm.Stand.arrayOver_specB (hts _ wo_array_Jvm_ClassFile_FieldType_int)
  obtain ⟨m4, a4, ka4, d4, -, g4, q4, f4⟩ := Cond.arrayOver_spec (hts _ wo_object__OfferTurn_Scene)
  obtain ⟨m5, a5, ka5, d5, -, g5, q5, f5⟩ := Cond.arrayOver_spec (hts _ wo_object__OfferTurn_Village)
  obtain ⟨cA, hcA⟩ : ∃ cA : Nat → ClassId, cA 0 = a0 ∧ cA 1 = a3 ∧ cA 2 = a4 ∧ cA 3 = a5 := ⟨fun k => if k = 0 then a0 else if k = 1 then a3 else if k = 2 then a4 else a5, rfl, rfl, rfl, rfl⟩
  obtain ⟨cM, hcM⟩ : ∃ cM : Nat → ClassId, cM 0 = a0 ∧ cM 1 = a1 ∧ cM 2 = a2 := ⟨fun k => if k = 0 then a0 else if k = 1 then a1 else a2, rfl, rfl, rfl⟩
  have K1 : va_K D vwCl (tyl tlC cA) s := by
    refine ⟨hD, fun k q hq => ?_⟩
    match k, hq with
    | 0, hq => cases (tyl_get (tl := tlC) (cA := cA) (t := 0) (ty := .int) rfl).symm.trans hq; show ArrOfT s (cA 0) .int ∧ va_RA s (cA 0) .int; rw [hcA.1]; exact ⟨arrOf_of g0 q0, f0⟩
    | 1, hq => cases (tyl_get (tl := tlC) (cA := cA) (t := 1) (ty := (.array .int)) rfl).symm.trans hq; show ArrOfT s (cA 1) (.array .int) ∧ va_RA s (cA 1) (.array .int); rw [hcA.2.1]; exact ⟨arrOf_of g3 q3, f3⟩
    | 2, hq => cases (tyl_get (tl := tlC) (cA := cA) (t := 2) (ty := (.object "OfferTurn$Scene")) rfl).symm.trans hq; show ArrOfT s (cA 2) (.object "OfferTurn$Scene") ∧ va_RA s (cA 2) (.object "OfferTurn$Scene"); rw [hcA.2.2.1]; exact ⟨arrOf_of g4 q4, ka4, m4, g4, q4, d4, f4⟩
    | 3, hq => cases (tyl_get (tl := tlC) (cA := cA) (t := 3) (ty := (.object "OfferTurn$Village")) rfl).symm.trans hq; show ArrOfT s (cA 3) (.object "OfferTurn$Village") ∧ va_RA s (cA 3) (.object "OfferTurn$Village"); rw [hcA.2.2.2]; exact ⟨arrOf_of g5 q5, ka5, m5, g5, q5, d5, f5⟩
    | k + 4, hq => simp [tyl, tlC] at hq
  have K2 : va_K D vwCl (tyl tlM cM) s := by
    refine ⟨hD, fun k q hq => ?_⟩
    match k, hq with
    | 0, hq => cases (tyl_get (tl := tlM) (cA := cM) (t := 0) (ty := .int) rfl).symm.trans hq; show ArrOfT s (cM 0) .int ∧ va_RA s (cM 0) .int; rw [hcM.1]; exact ⟨arrOf_of g0 q0, f0⟩
    | 1, hq => cases (tyl_get (tl := tlM) (cA := cM) (t := 1) (ty := .byte) rfl).symm.trans hq; show ArrOfT s (cM 1) .byte ∧ va_RA s (cM 1) .byte; rw [hcM.2.1]; exact ⟨arrOf_of g1 q1, f1⟩
    | 2, hq => cases (tyl_get (tl := tlM) (cA := cM) (t := 2) (ty := .boolean) rfl).symm.trans hq; show ArrOfT s (cM 2) .boolean ∧ va_RA s (cM 2) .boolean; rw [hcM.2.2]; exact ⟨arrOf_of g2 q2, f2⟩
    | k + 3, hq => simp [tyl, tlM] at hq
  have hNW : NW s := ⟨va_Nw.of rfl (hts _ wmn_X6_25), va_Nw.of rfl (hts _ wmn_X2_11), va_Nw.of rfl (hts _ wmn_X6_32), va_Nw.of rfl (hts _ wmn_X5_15), va_Nw.of rfl (hts _ wmn_X5_20), va_Nw.of rfl (hts _ wmn_X6_43), va_Nw.of rfl (hts _ wmn_X1_11), va_Nw.of rfl (hts _ wmn_X6_50), va_Nw.of rfl (hts _ wmn_X6_57), va_AO.of (hts _ wo_object__OfferTurn_Scene), va_AO.of (hts _ wo_object__OfferTurn_Village), hts _ wo_array_Jvm_ClassFile_FieldType_int⟩
  have hfl := flat_of_before _ hgv
  have hAaw : ∀ a : Nat, a < s.heap.size → ¬ aw shC (adb s.heap.size) a := fun a ha ⟨k, _, hk⟩ => by have h9 : a = s.heap.size + k := hk; omega
  obtain ⟨kl, hkl, hTk⟩ := va_Tof (tm := .static RX2 "KIND_LETTERS" "[I") (ty := .int) (N := 6) (f := fun j => .int (kindL j)) (A := aw shC (adb s.heap.size)) (by decide) (hfl _ (by decide +kernel)) (va_eqt (z := 6) (hfl _ (by decide +kernel))) (fun j hj => by
    rcases (show j = 0 ∨ j = 1 ∨ j = 2 ∨ j = 3 ∨ j = 4 ∨ j = 5 by omega) with rfl | rfl | rfl | rfl | rfl | rfl
    · exact va_eqt (t := .elem (.static RX2 "KIND_LETTERS" "[I") (.int 0)) (z := 103) (hfl _ (by decide +kernel))
    · exact va_eqt (t := .elem (.static RX2 "KIND_LETTERS" "[I") (.int 1)) (z := 116) (hfl _ (by decide +kernel))
    · exact va_eqt (t := .elem (.static RX2 "KIND_LETTERS" "[I") (.int 2)) (z := 106) (hfl _ (by decide +kernel))
    · exact va_eqt (t := .elem (.static RX2 "KIND_LETTERS" "[I") (.int 3)) (z := 115) (hfl _ (by decide +kernel))
    · exact va_eqt (t := .elem (.static RX2 "KIND_LETTERS" "[I") (.int 4)) (z := 111) (hfl _ (by decide +kernel))
    · exact va_eqt (t := .elem (.static RX2 "KIND_LETTERS" "[I") (.int 5)) (z := 118) (hfl _ (by decide +kernel))) hAaw
  have hE : ExC (adb s.heap.size) kl s s.heap := ⟨va_Zof (hts _ wys_X2_KIND_LETTERS) (hts _ (al_tbl wz_X2)) hkl hAaw, hTk⟩
  have hl := lv_entry ([.ref b]) (n := 4) (Nat.le_of_ble_eq_true rfl)
  rw [lg_entry_eq]
  generalize (lg_sl ([.ref b]) ++ List.replicate (4 - (lg_sl ([.ref b])).length) Slot.unset).toArray = ls at hl ⊢
  have hl : lv_has ls 4 [(0, .ref b)] := hl
  have hS : va_S (A0 s) s.heap s.heap [] := va_S.rf
  have hP0 : WPn D cA s.heap.size [] Sz s.heap := ⟨fun k q h => by simp [wsl] at h, rfl, fun _ _ => ⟨rfl, rfl⟩⟩
  refine W.newcK hx hb hown (hts _ (al_tbl wl_L_7)) (hts _ (al_tbl wn_X6)) (hts _ (al_tbl wz_X6)) rfl dL_law_0 (Nat.le_of_ble_eq_true rfl) (Nat.le_of_ble_eq_true rfl) (hD 6 _ rfl).2.1 rfl fun H1 kC hkC e1 z1 o1 => ?_
  have hP1 : WPn D cA s.heap.size ([] ++ [.inr (.inr (6, nul6))]) Sz H1 := wn_born tyX6 hts (fun w h => al_tbl (inX6 w h)) tyX6_ok rfl (hD 6 _ rfl) hkC e1 z1 o1 nok_X6 hP0
  have hS1 : va_S (A0 s) s.heap H1 [] := ⟨by omega, fun q h1 _ => o1 q h1, fun _ h => by cases h⟩
  refine lv_dup hx hb dL_law_3 rfl ?_
  refine lw_init (a := s.heap.size) C0 K1 hNW (Nat.le_refl _) (cn_X6 (l := l) (D := D) (cA := cA) (base := s.heap.size) (tl := tlC) rfl rfl rfl rfl) wc_X6_init wm_L_9 wz_X6 rfl (by decide +kernel) wi_X6_init ⟨rfl, rfl⟩ ⟨Nat.le_of_ble_eq_true rfl, Nat.le_of_ble_eq_true rfl⟩ ⟨Nat.le_of_ble_eq_true rfl, Nat.le_of_ble_eq_true rfl⟩ hl.1 (Nat.le_of_ble_eq_true rfl) dL_law_4 hP1 hS1 (fun H2 locs2 hP2 hS2 _ => ?_)
  refine lv_astore_n (lv' := [(1, .ref s.heap.size), (0, .ref b)]) hx hb dL_law_7 rfl hl (by decide) rfl (fun ls hl => ?_)
  have hz2 : H2.size = s.heap.size + 135 := hP2.2.1
  have hQ0 : WPn D cM H2.size [] Sz H2 := ⟨fun k q h => by simp [wsl] at h, rfl, fun _ _ => ⟨rfl, rfl⟩⟩
  refine W.newcK hx hb hown (hts _ (al_tbl wl_L_10)) (hts _ (al_tbl wn_X7)) (hts _ (al_tbl wz_X7)) rfl dL_law_8 (Nat.le_of_ble_eq_true rfl) (Nat.le_of_ble_eq_true rfl) (hD 7 _ rfl).2.1 rfl fun H3 kC7 hkC7 e3 z3 o3 => ?_
  have hP3 : WPn D cM H2.size ([] ++ [.inr (.inr (7, nul7))]) Sz H3 := wn_born tyX7 hts (fun w h => al_tbl (inX7 w h)) tyX7_ok rfl (hD 7 _ rfl) hkC7 e3 z3 o3 nok_X7 hQ0
  have hS3 : va_S (A0 s) s.heap H3 locs2 := ⟨by have := hS2.1; omega, fun q h1 h2 => (o3 q (by omega)).trans (hS2.2.1 q h1 h2), hS2.2.2⟩
  refine lv_dup hx hb dL_law_11 rfl ?_
  refine lw_init (a := H2.size) C0 K2 hNW (by omega) (cn_X7 (l := l) (D := D) (cA := cM) (base := H2.size) (tl := tlM) (S := Sz) rfl rfl rfl rfl rfl) wc_X7_init wm_L_12 wz_X7 rfl (by decide +kernel) wi_X7_init ⟨rfl, rfl⟩ ⟨Nat.le_of_ble_eq_true rfl, Nat.le_of_ble_eq_true rfl⟩ ⟨Nat.le_of_ble_eq_true rfl, Nat.le_of_ble_eq_true rfl⟩ hl.1 (Nat.le_of_ble_eq_true rfl) dL_law_12 hP3 hS3 (fun H4 locs4 hP4 hS4 hk4 => ?_)
  refine lv_astore_n (lv' := [(2, .ref H2.size), (1, .ref s.heap.size), (0, .ref b)]) hx hb dL_law_15 rfl hl (by decide) rfl (fun ls hl => ?_)
  refine lv_iconst (v := 0) hx hb dL_law_16 (by decide) ?_
  refine lv_istore_n (lv' := [(3, .int 0), (2, .ref H2.size), (1, .ref s.heap.size), (0, .ref b)]) hx hb dL_law_17 rfl hl (by decide) rfl (fun ls hl => ?_)
  refine W.widen (k := 600000) (n := 7302250) (Nat.le_of_ble_eq_true rfl) (Nat.le_of_ble_eq_true rfl) ?_
  have hPC : va_P D vwCl (wsl shC cA (adb s.heap.size) S6i) H4 := hP2.1.kept (fun k q hq => by
    have hlt := (hP2.1 k q hq).lt
    rw [hk4 q.1 (by omega) (fun z => by have z2 : H2.size ≤ q.1 := z; omega)]
    exact o3 q.1 hlt)
  have hG1 : Gx shC (adb s.heap.size) (ExC (adb s.heap.size) kl) := ⟨fun i j _ _ h => by have h9 : s.heap.size + i = s.heap.size + j := h; omega, exC_stable _ _⟩
  have hG2 : Gx shM (adb H2.size) ExM := ⟨fun i j _ _ h => by have h9 : H2.size + i = H2.size + j := h; omega, fun _ _ _ _ _ _ => trivial⟩
  have hLG : LG D cA (adb s.heap.size) cM (adb H2.size) kl s := ⟨hG1, hG2, K1, K2, hE, fun k j hk _ h => by
    have h9 : s.heap.size + k = H2.size + j := h
    have hk2 : k < 135 := hk
    omega, fun k _ => Nat.le_add_right _ _, fun j _ => by show s.heap.size ≤ H2.size + j; omega⟩
  exact law_loop hL C0 hLG hst (L + 1) 0 (Nat.zero_le L) (by omega) _ _ hR0 _ _ ⟨hPC, hP4.1, hS4⟩ ls (lv_sub hl [3, 2, 1, 0] rfl)
