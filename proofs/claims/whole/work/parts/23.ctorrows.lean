section WNM
variable {p : Program} {l : Launch} {e : Env} {R : Room} {s : State} {m : MethodId} {args : Array Value} {below : List Frame} {meth : Method} {c : Code} {D : va_G} {tl : List FieldType} {cA : Nat → ClassId} {base : Nat} {own : String} {cc : ByteArray} {nL : Nat} {Q : State → Prop} {cells slots : Nat} {sl : List vSh} {S : vS} {pc : Nat} {ls : Array Slot} {st : List Value}
theorem wn_cast {sl2 : List vSh} (h : sl = sl2) (kk : WN p l e R s m args below meth c D cA base Q cells slots sl2 S pc ls st) : WN p l e R s m args below meth c D cA base Q cells slots sl S pc ls st := by subst h; exact kk
theorem len_pre {pre L : List vSh} {k i j : Nat} (hk : pre.length = k) (hL : L.length = i) (hj : j = k + i) : (pre ++ L).length = j := by rw [List.length_append, hk, hL, hj]
theorem wL_zero {S : vS} {k j : Nat} (h : S.2 k = fun _ => 0) : wL S k j 0 = S := by
  unfold wL
  have e : va_up S.2 k (vp_updL (S.2 k) j 0) = S.2 := by
    funext a
    by_cases ha : a = k
    · subst ha
      funext b
      simp only [va_up, if_pos]
      unfold vp_updL
      by_cases hb : b = j
      · rw [if_pos hb, h]
      · rw [if_neg hb]
    · simp [va_up, ha]
  rw [e]
theorem gx_adb {sl : List vSh} {base : Nat} : Gx sl (adb base) (fun _ _ => True) := ⟨fun i j _ _ h => by have h9 : base + i = base + j := h; omega, fun _ _ _ _ _ _ => trivial⟩
/-- Arrays.fill over a whole row -/
theorem fill_val {n1 : Nat} (hn : n1 < 2 ^ 31) (k1 : Nat) (v : Int32) : ∀ (n i : Nat) (S : vS), i ≤ n1 → n1 < i + n → lJ7_fill_53178_5 k1 n1 v (nI n1) n S (nI i) = some (wR S k1 (fun j => if i ≤ j ∧ j < n1 then v else S.1 k1 j)) := by
  intro n
  induction n with
  | zero => intro i S h1 h2; omega
  | succ n ih =>
    intro i S h1 h2
    rw [lJ7_fill_53178_5]
    by_cases hi : i < n1
    · rw [if_neg (nI_ge hi hn)]
      unfold pI
      rw [if_neg (vp_in_nI hi hn), nI_clamp (by omega)]
      show lJ7_fill_53178_5 k1 n1 v (nI n1) n (wI S k1 i v) (nI i + 1) = _
      rw [nI_1, ih (i + 1) _ hi (by omega)]
      congr 1
      have e : ∀ f g : Nat → Int32, f = g → wR (wI S k1 i v) k1 f = wR S k1 g := by
        intro f g hfg
        subst hfg
        unfold wR wI
        congr 1
        funext a
        by_cases ha : a = k1 <;> simp [va_up, ha]
      apply e
      funext j
      by_cases hj : j = i
      · subst hj
        rw [if_neg (by omega), if_pos (by omega)]
        simp [wI, va_up, upd]
      · by_cases h9 : i ≤ j ∧ j < n1
        · rw [if_pos h9, if_pos (by omega)]
        · rw [if_neg h9, if_neg (by omega)]
          simp [wI, va_up, upd, hj]
    · have he : i = n1 := by omega
      subst he
      rw [if_pos (nI_le (Nat.le_refl _) hn)]
      congr 1
      unfold wR
      have e : va_up S.1 k1 (fun j => if i ≤ j ∧ j < i then v else S.1 k1 j) = S.1 := by
        funext a
        by_cases ha : a = k1
        · subst ha
          funext j
          simp only [va_up, if_pos]
          rw [if_neg (by omega)]
        · simp [va_up, ha]
      rw [e]
theorem fill_all {n1 : Nat} (hn : n1 < 1000000) (S : vS) (k1 : Nat) (v : Int32) : mJ7_fill_53178 S k1 n1 v = some (wR S k1 (fun j => if j < n1 then v else S.1 k1 j)) := by
  have h := fill_val (n1 := n1) (by omega) k1 v FU 0 S (Nat.zero_le _) (by unfold FU; omega)
  have e : (fun j => if 0 ≤ j ∧ j < n1 then v else S.1 k1 j) = (fun j => if j < n1 then v else S.1 k1 j) := by funext j; simp
  rw [e] at h
  unfold mJ7_fill_53178 lt
  rw [show Int32.ofNat n1 = nI n1 from rfl, show (0 : Int32) = nI 0 from rfl]
  exact h
theorem wn_fill (C0 : CN D tl cA own cc nL p s m args meth c) {idx K n N : Nat} {v : Int32} {S' : vS} (ht : tl[0]? = some .int) (hk : sl[K]? = some (.inl (0, n))) (hn : n < 1000000) (hlk : Cond.methodLink own idx yJ7_fill_53178 ∈ ALL) (hR : rm_J7_fill_53178.frames + 1 ≤ R.frames ∧ 8 + (4 + 11) + rm_J7_fill_53178.locals ≤ R.locals) (hf : cells ≤ R.cells ∧ slots ≤ R.slots) (hsz : ls.size = nL) (hrest : (st.map fun v => v.category).sum ≤ 8) (hcnt : s.heap.size = base + N) (hN : sl.length = N + cells) (hS' : wR S K (fun j => if j < n then v else S.1 K j) = S') (hdg : decode cc pc = .ok (.invokestatic idx, 3)) (kk : WN p l e R s m args below meth c D cA base Q cells slots sl S' (pc + 3) ls st) : WN p l e R s m args below meth c D cA base Q cells slots sl S pc ls (.int v :: .ref (base + K) :: st) := by
  intro H locs hP hS
  subst hS'
  have hl : K < sl.length := (List.getElem?_eq_some_iff.mp hk).1
  have hts := C0.2.2.2.2.1
  have hM := c_J7_fill_53178 (l := l) (D := D) (cA := cA) (ad := adb base) (gx_adb (sl := sl) (base := base)) ht K n hk v S _ (fill_all hn S K v)
  have hG : GoodIn ALL (Cond.code yJ7_fill_53178 cJ7_fill_53178 4 none :: ALL) := fun w h => by
    rcases List.mem_cons.mp h with rfl | h
    · exact al_self _ wc_J7_fill_53178
    · exact al_self w h
  have cw : CallB R s args own idx yJ7_fill_53178 cJ7_fill_53178 4 none (Cond.code yJ7_fill_53178 cJ7_fill_53178 4 none :: ALL) rm_J7_fill_53178 0 0 2 ∧ (Cond.static yJ7_fill_53178).before args s = true := ⟨callB_of 2 hts hG rfl rfl rfl (hts _ wz_J7) (hts _ hlk) (by decide +kernel) hR, hts _ wt_J7_fill_53178⟩
  have run : va_Run p l e R s m args below meth c H locs cells slots 0 0 (F0 m pc ls (.int v :: .ref (base + K) :: st)) st _ (aw sl (adb base)) := va_runS (As := [.ref (base + K), .int v]) (rest := st) ⟨C0.1, C0.2.1, C0.2.2.1, C0.2.2.2.1, hts⟩ hM cw ⟨Po.blind gx_adb, fun U hU hW => ⟨rfl, by rw [hU]; exact hP.1, va_K.moved hW.alike C0.2.2.2.2.2.1, trivial⟩⟩ rfl rfl hsz rfl (lv_room hrest) hdg ⟨hf.1, hf.2⟩
  intro T hT X
  obtain ⟨v', st₀, t, T', L, h0, X', hL, e1, e2, ⟨hv, hBB, hP1, hF⟩, stp⟩ := run T hT X
  cases hv
  have hF2 : va_F (aw sl (adb base)) st₀ t := hF
  unfold va_F at hF2
  rw [h0] at hF2
  have hsub : ∀ q, aw sl (adb base) q → Ab base q := fun q ⟨k, h1, h2⟩ => by rw [h2]; show base ≤ base + k; omega
  have hz : T'.heap.size = H.size := by
    have a1 := X'.heapSize
    have a2 := hP.2.1
    have a3 := hF2.1
    rw [e1] at a1 ⊢
    omega
  obtain ⟨t2, a1, b1⟩ := kk T'.heap (locs ++ L) (wn_setS hP hl (fun k hk => by simp [wR, va_up, hk]) hz (by rw [e1]; exact hP1))
    ⟨Nat.le_trans hS.1 (by rw [e1]; exact hF2.1), fun q h1 h2 => by rw [e1, hF2.2 q (Nat.lt_of_lt_of_le h1 hS.1) (fun z => h2 (hsub q z))]; exact hS.2.1 q h1 h2, fun q hq => by
      rcases List.mem_append.mp hq with h | h
      · exact hS.2.2 q h
      · exact hsub _ (hL q h)⟩ T' rfl X'
  exact ⟨t2, stp t2 a1, b1⟩
theorem wn_alenR (C0 : CN D tl cA own cc nL p s m args meth c) {K t n : Nat} {l0 : List Nat} {v : Int32} {ty : FieldType} (hk : sl[K]? = some (.inr (.inl (t, n, l0)))) (ht : tl[t]? = some ty) (hv : Int32.ofNat n = v) (hdg : decode cc pc = .ok (.arraylength, 1)) (kk : WN p l e R s m args below meth c D cA base Q cells slots sl S (pc + 1) ls (.int v :: st)) : WN p l e R s m args below meth c D cA base Q cells slots sl S pc ls (.ref (base + K) :: st) := fun H locs hP hS => va_alen (D := D) (cl := vwCl) (tys := tyl tl cA) C0.1 C0.2.1 C0.2.2.2.2.2.1 hP.1 K t (wsl_get hk) (tyl_get ht) hv hdg (kk H locs hP hS)
theorem wn_getR (C0 : CN D tl cA own cc nL p s m args meth c) {ref C : String} {T : u_T} {N ci index K j z : Nat} {fds : List (Nat × Nat)} (hin : ∀ w ∈ u_ws C T N, w ∈ ALL) (hc : vwCl[ci]? = some (C, T, N)) (hj : j < N) (hlk : Cond.fieldLink own index ref (T j).2.1 (T j).2.2.1 ∈ ALL) (hsame : (T j).1 = ref) (hk : sl[K]? = some (.inr (.inr (ci, fds)))) (hf : fds[j]? = some (2, z)) (hdg : decode cc pc = .ok (.getfield index, 3)) (kk : WN p l e R s m args below meth c D cA base Q cells slots sl S (pc + 3) ls (.ref (base + z) :: st)) : WN p l e R s m args below meth c D cA base Q cells slots sl S pc ls (.ref (base + K) :: st) := fun H locs hP hS => va_get (D := D) (cl := vwCl) (tys := tyl tl cA) (ci := ci) (v := .ref (base + z)) (C := C) (T := T) (N := N) C0.1 C0.2.1 C0.2.2.2.2.1 hin C0.2.2.2.1 C0.2.2.2.2.2.1 hP.1 K (wsl_get hk) hc j hj (C0.2.2.2.2.1 _ hlk) (fun _ h9 => by rw [← hsame]; exact h9) (by rw [List.getElem?_mapIdx, hf]; rfl) hdg (kk H locs hP hS)
theorem sh_defaults (fd : List (Nat × Nat)) (ty : Nat → FieldType) (N : Nat) (h : ∀ j, j < N → ∃ q, fd[j]? = some q ∧ ((q.1 = 0 ∧ defaultValue (ty j) = .int 0) ∨ (q.1 = 1 ∧ defaultValue (ty j) = .long 0) ∨ (q.1 = 3 ∧ defaultValue (ty j) = .null))) : ∀ (ad : Nat → Nat) (S : vS) (k : Nat), S.1 k = (fun _ => 0) → S.2 k = (fun _ => 0) → ∀ j, j < N → defaultValue (ty j) = vp_V (fd.mapIdx (sxf ad S k)) j := by
  intro ad S k h1 h2 j hj
  obtain ⟨q, hq, hd⟩ := h j hj
  unfold vp_V
  rw [List.getD_eq_getElem?_getD, List.getElem?_mapIdx, hq]
  obtain ⟨a, b⟩ := q
  rcases hd with ⟨ha, hd⟩ | ⟨ha, hd⟩ | ⟨ha, hd⟩
  · cases ha; rw [hd]; simp [sxf, h1]
  · cases ha; rw [hd]; simp [sxf, h2]
  · cases ha; rw [hd]; simp [sxf]
end WNM
