def R_law : String := "OfferTurnLaw"
def lw_P (b : Addr) (xs : List Int32) (args : Array Value) (s : State) : Prop := args = #[.ref b] ∧ s.IntsAt b xs ∧ xs.length ≤ 3072 ∧ (Jvm.Cond.and given_1 narrow_1).before args s = true
def lw_Q (_ : Array Value) (s : State) (o : Outcome) (t : State) : Prop := o = .returned (some (.int 1)) ∧ Framed s o t [] 600000 7302250
def lw_Z (below : List Frame) (a : Array Value) (s : State) : State → Prop := fun t => ∃ o, t.status = .running ∧ Ended t below o ∧ lw_Q a s o t
/-- the law's own end, with 1 on the stack, nothing written that was there before, its room as the claim has it -/
theorem lw_ret {p : Program} {l : Launch} {e : Env} {s : State} {m : MethodId} {below : List Frame} {meth : Method} {c : Code} {b : Nat} (hx : p.tables.exec = Jvm.exec) (hb : c.code = code) (hr : meth.sig.returnType = ret) (hlocks : meth.locks = false) {pc : Nat} {H : Heap} {ls : Array Slot} (hdg : decode code pc = .ok (.ireturn, 1)) : W p l e room_1 s m #[Value.ref b] below meth c H [] 600000 7302250 (lw_Z below #[Value.ref b] s) (F0 m pc ls [.int 1]) := by
  intro T hT X
  obtain ⟨fs, hret, hrun, hended, hW, hframe⟩ := X.leave (v := some (.int 1)) (hlocks := hlocks) (fun h => by rw [hr] at h; cases h)
  have hmeth' : T.vm.method? m = some meth := X.method'
  refine ⟨T.setFrames fs, ?_, .returned (some (.int 1)), hrun, hended, rfl, ⟨_, rfl⟩, hW, hframe⟩
  jvm_step X.here [X.here.top, hx, hb, hdg, hmeth', hr, ret, narrow_b1]
  (try refine ⟨rfl, ?_⟩); (try refine ⟨rfl, ?_⟩)
  first | (intro acts; rw [hret _ acts rfl rfl rfl]) | rw [hret _ _ rfl rfl rfl]
  exact Steps.refl _
/-- what holds at the law's entry: the machine, the code, the tables' words (any of lw_tbl by 'hts w (by decide +kernel)'), the script of L ints xs at the cell b, what the Statement gives of the start (any of its parts by flat_of_before) -/
def lw_At (p : Program) (s : State) (m : MethodId) (meth : Method) (c : Code) (b L : Nat) (xs : Nat → Int32) : Prop :=
  p.tables.exec = Jvm.exec ∧ c.code = code ∧ meth.sig.returnType = ret ∧ c.maxLocals = 4 ∧ s.vm.findClass R_law = some m.cls ∧ (∀ w ∈ lw_tbl, w.before #[Value.ref b] s = true) ∧ va_X b L xs s s.heap ∧ b < s.heap.size ∧ meth.locks = false ∧ (Jvm.Cond.and given_1 narrow_1).before #[Value.ref b] s = true
/-! ===== THE LAW: its calls into two worlds side by side ===== -/
def A0 (s : State) : Nat → Prop := fun q => s.heap.size ≤ q
theorem exC_stable (ad : Nat → Nat) (kl : Nat) : ∀ (u U : State) (H : Heap), ExC ad kl u u.heap → u.vm.Alike U.vm → (∀ q, q < u.heap.size → ¬ aw shC ad q → H[q]? = u.heap[q]?) → ExC ad kl U H :=
  fun u U H h hvm hk => ⟨(h.1.moved hvm).kept hk, (h.2.moved hvm).kept hk⟩
def LG (D : va_G) (cA : Nat → ClassId) (aC : Nat → Nat) (cM : Nat → ClassId) (aM : Nat → Nat) (kl : Nat) (s : State) : Prop :=
  Gx shC aC (ExC aC kl) ∧ Gx shM aM ExM ∧ va_K D vwCl (tyl tlC cA) s ∧ va_K D vwCl (tyl tlM cM) s ∧ ExC aC kl s s.heap ∧ (∀ k j, k < shC.length → j < shM.length → aC k ≠ aM j) ∧ (∀ k, k < shC.length → s.heap.size ≤ aC k) ∧ (∀ j, j < shM.length → s.heap.size ≤ aM j)
def LH (D : va_G) (cA : Nat → ClassId) (aC : Nat → Nat) (cM : Nat → ClassId) (aM : Nat → Nat) (s : State) (S T : vS) (H : Heap) (locs : List Loc) : Prop :=
  va_P D vwCl (wsl shC cA aC S) H ∧ va_P D vwCl (wsl shM cM aM T) H ∧ va_S (A0 s) s.heap H locs
theorem wsl_kept {D : va_G} {sl sl2 : List vSh} {cM : Nat → ClassId} {aC aM : Nat → Nat} {T : vS} {H H1 : Heap} (hP : va_P D vwCl (wsl sl2 cM aM T) H) (hne : ∀ k j, k < sl.length → j < sl2.length → aC k ≠ aM j) (hk : ∀ q, q < H.size → ¬ aw sl aC q → H1[q]? = H[q]?) : va_P D vwCl (wsl sl2 cM aM T) H1 :=
  hP.kept (fun k q hq => hk q.1 ((hP k q hq).lt) (fun ⟨j, hj, e⟩ => by
    have hl : k < sl2.length := by have := (List.getElem?_eq_some_iff.mp hq).1; rwa [wsl_len] at this
    have hs : sl2[k]? = some sl2[k] := List.getElem?_eq_getElem hl
    rw [wsl_get hs] at hq
    cases hq
    exact hne j k hj hl e.symm))
section LWC
variable {p : Program} {l : Launch} {e : Env} {s : State} {m : MethodId} {below : List Frame} {meth : Method} {c : Code} {H : Heap} {locs : List Loc} {cells slots : Nat} {Q : State → Prop} {b L : Nat} {xs : Nat → Int32}
theorem lw_call {D : va_G} {tl : List FieldType} {sl : List vSh} {cA : Nat → ClassId} {ad : Nat → Nat} {Ex : State → Heap → Prop} (C0 : lw_At p s m meth c b L xs) (G : Gx sl ad Ex) (hK : va_K D vwCl (tyl tl cA) s) (hE : Ex s s.heap) (hnew : ∀ k, k < sl.length → s.heap.size ≤ ad k)
    {y : MethodName} {bytes : ByteArray} {maxL index n pc : Nat} {ret : Option FieldType} {rm : Room} {S S1 : vS} {B : Prop} {As stk st : List Value} {vr : Value} {C : String} {T : u_T} {N ci : Nat} {fds : List (Nat × Nat)} {ls : Array Slot}
    (hM : Met l y (Cond.code y bytes maxL ret :: ALL) rm (Po D vwCl tl sl cA ad Ex (.ref (ad 0) :: As) S) (Qo D vwCl sl cA ad (some vr) S1 B) 0 0 (aw sl ad))
    (hcode : Cond.code y bytes maxL ret ∈ ALL) (hlk : Cond.methodLink R_law index y ∈ ALL) (hini : Cond.initialized y.cls ∈ ALL) (hno : y.cls ≠ "java/lang/invoke/MethodHandle" ∧ y.cls ≠ "java/lang/invoke/VarHandle" ∧ (parseMethodDescriptor y.desc).map (fun d => d.parameters.length) = some n)
    (hi : Cond.instanceMethod y ∈ ALL) (hse : Cond.selects C y y ∈ ALL) (hcls : y.cls = C) (hk : sl[0]? = some (.inr (.inr (ci, fds)))) (hc : vwCl[ci]? = some (C, T, N)) (hrc : rm.cells = 0 ∧ rm.slots = 0) (hR : rm.frames + 1 ≤ room_1.frames ∧ 8 + (maxL + 11) + rm.locals ≤ room_1.locals)
    (hf : cells ≤ room_1.cells ∧ slots ≤ room_1.slots) (hn : As.length = n) (hsz : ls.size = 4) (hrest : (st.map fun v => v.category).sum ≤ 8) (hst : stk = As.reverse ++ .ref (ad 0) :: st) (hdg : decode code pc = .ok (.invokevirtual index, 3))
    (hP : va_P D vwCl (wsl sl cA ad S) H) (hS : va_S (A0 s) s.heap H locs)
    (kk : ∀ (H1 : Heap) (locs1 : List Loc), va_P D vwCl (wsl sl cA ad S1) H1 → va_S (A0 s) s.heap H1 locs1 → (∀ q, q < H.size → ¬ aw sl ad q → H1[q]? = H[q]?) → W p l e room_1 s m #[Value.ref b] below meth c H1 locs1 cells slots Q (F0 m (pc + 3) ls (vr :: st))) :
    W p l e room_1 s m #[Value.ref b] below meth c H locs cells slots Q (F0 m pc ls stk) := by
  obtain ⟨hx, hb, hr, hml, hown, hts, hX, hbl, hlocks, hgv⟩ := id C0
  have htA : ∀ w ∈ ALL, w.before #[Value.ref b] s = true := fun w hw => hts w (al_tbl hw)
  have hG : GoodIn ALL (Cond.code y bytes maxL ret :: ALL) := fun w h => by
    rcases List.mem_cons.mp h with rfl | h
    · exact al_self _ hcode
    · exact al_self w h
  have cw : CallW room_1 s #[Value.ref b] R_law C index y bytes maxL ret (Cond.code y bytes maxL ret :: ALL) rm 0 0 n := ⟨callB_of n htA hG rfl hrc.1 hrc.2 (htA _ hini) (htA _ hlk) hno hR, htA _ hi, htA _ hse⟩
  have hsub : ∀ q, aw sl ad q → A0 s q := fun q ⟨k, h1, h2⟩ => by rw [h2]; exact hnew k h1
  have run : va_Run p l e room_1 s m #[Value.ref b] below meth c H locs cells slots 0 0 (F0 m pc ls stk) st _ (aw sl ad) := va_runV (As := As) (rest := st) ⟨hx, hb, hml, hown, htA⟩ hM cw ⟨Po.blind G, va_recv hK hP hc (wsl_get hk), fun U hU hW => ⟨rfl, by rw [hU]; exact hP, va_K.moved hW.alike hK, G.2 s U U.heap hE hW.alike (fun q h1 h2 => by rw [hU]; exact hS.2.1 q h1 (fun z => absurd h1 (Nat.not_lt.mpr z)))⟩⟩ rfl hn hsz hst (lv_room hrest) hdg hf
  intro T hT X
  obtain ⟨v', st₀, t, T', L', h0, X', hL, e1, e2, ⟨hv, hBB, hP1, hF⟩, stp⟩ := run T hT X
  cases hv
  have hF2 : va_F (aw sl ad) st₀ t := hF
  unfold va_F at hF2
  rw [h0] at hF2
  obtain ⟨t2, a1, b1⟩ := kk T'.heap (locs ++ L') (by rw [e1]; exact hP1)
    ⟨Nat.le_trans hS.1 (by rw [e1]; exact hF2.1), fun q h1 h2 => by rw [e1, hF2.2 q (Nat.lt_of_lt_of_le h1 hS.1) (fun z => h2 (hsub q z))]; exact hS.2.1 q h1 h2, fun q hq => by
      rcases List.mem_append.mp hq with h | h
      · exact hS.2.2 q h
      · exact hsub _ (hL q h)⟩ (fun q h1 h2 => by rw [e1]; exact hF2.2 q h1 h2) T' rfl X'
  exact ⟨t2, stp t2 a1, b1⟩
end LWC
