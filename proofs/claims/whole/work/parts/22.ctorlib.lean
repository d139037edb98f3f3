/-! ===== CONSTRUCTORS: a world that grows; cell k lies at base + k ===== -/
def adb (base : Nat) : Nat → Nat := fun k => base + k
def Ab (base : Nat) : Nat → Prop := fun q => base ≤ q
def WPn (D : va_G) (cA : Nat → ClassId) (base : Nat) (sl : List vSh) (S : vS) (H : Heap) : Prop :=
  va_P D vwCl (wsl sl cA (adb base) S) H ∧ H.size = base + sl.length ∧ ∀ k, sl.length ≤ k → S.1 k = (fun _ => 0) ∧ S.2 k = (fun _ => 0)
theorem wn_D {base : Nat} {sl : List vSh} {cA : Nat → ClassId} {S : vS} : va_D (Ab base) (wsl sl cA (adb base) S) := by
  have key : ∀ (k : Nat) (q : Nat × va_E), (wsl sl cA (adb base) S)[k]? = some q → q.1 = base + k := by
    intro k q h
    have hl : k < sl.length := by have := (List.getElem?_eq_some_iff.mp h).1; rwa [wsl_len] at this
    rw [wsl_get (List.getElem?_eq_getElem hl)] at h
    cases h
    rfl
  refine ⟨fun i j p q hi hj hpq => ?_, fun k q hk => ?_⟩
  · have a := key i p hi
    have b := key j q hj
    omega
  · have a := key k q hk
    show base ≤ q.1
    omega
theorem wn_push {D : va_G} {cA : Nat → ClassId} {base : Nat} {sl : List vSh} {S : vS} {H H1 : Heap} {sh : vSh} (h : WPn D cA base sl S H) (hz : H1.size = H.size + 1) (ho : ∀ q : Nat, q < H.size → H1[q]? = H[q]?) (hc : va_at D vwCl (H.size, sxc cA (adb base) S sl.length sh) H1) : WPn D cA base (sl ++ [sh]) S H1 := by
  obtain ⟨h1, h2, h3⟩ := h
  refine ⟨?_, by rw [hz, h2, List.length_append]; rfl, fun k hk => h3 k (by rw [List.length_append] at hk; omega)⟩
  have e : wsl (sl ++ [sh]) cA (adb base) S = wsl sl cA (adb base) S ++ [(H.size, sxc cA (adb base) S sl.length sh)] := by
    unfold wsl
    rw [List.mapIdx_append]
    simp [adb, h2]
  rw [e]
  refine va_P.app (h1.kept fun k q hq => ho q.1 ((h1 k q hq).lt)) (fun k q hq => ?_)
  have hz2 : k < 1 := (List.getElem?_eq_some_iff.mp hq).1
  rw [show k = 0 by omega] at hq
  cases hq
  exact hc
theorem wn_grow {s : State} {base : Nat} {H H1 : Heap} {locs : List Loc} (hS : va_S (Ab base) s.heap H locs) (hz : H.size ≤ H1.size) (ho : ∀ q : Nat, q < H.size → H1[q]? = H[q]?) : va_S (Ab base) s.heap H1 locs :=
  ⟨Nat.le_trans hS.1 hz, fun x h1 h2 => (ho x (Nat.lt_of_lt_of_le h1 hS.1)).trans (hS.2.1 x h1 h2), hS.2.2⟩
theorem get_pre {pre L : List vSh} {k i j : Nat} {x : vSh} (hk : pre.length = k) (hj : j = k + i) (h : L[i]? = some x) : (pre ++ L)[j]? = some x := by
  subst hj; subst hk
  rw [List.getElem?_append_right (by omega)]
  rw [show pre.length + i - pre.length = i by omega]
  exact h
theorem set_pre {pre L L' : List vSh} {k i j : Nat} {x : vSh} (hk : pre.length = k) (hj : j = k + i) (h : L.set i x = L') : (pre ++ L).set j x = pre ++ L' := by
  subst hj; subst hk; subst h
  rw [List.set_append, if_neg (by omega), show pre.length + i - pre.length = i by omega]
def va_AOA (ty : FieldType) (U : State) : Prop := (Cond.arrayOver (.array ty)).before #[] U = true
theorem aoa_moved {t : FieldType} {u U : State} (hvm : u.vm.Alike U.vm) (h : va_AOA t u) : va_AOA t U := Jvm.Stand.arrayOver_alikeB hvm h
/-- what the constructors link by their nest, and the classes of their arrays -/
def NW (s : State) : Prop := va_Nw (.methodLinkNest RX6 25 yX2_init RX6) s ∧ va_Nw (.methodLinkNest RX2 11 yX0_init RX6) s ∧ va_Nw (.methodLinkNest RX6 32 yX5_init RX6) s ∧ va_Nw (.methodLinkNest RX5 15 yX0_init RX6) s ∧ va_Nw (.methodLinkNest RX5 20 yX3_init RX6) s ∧ va_Nw (.methodLinkNest RX6 43 yX1_init RX6) s ∧ va_Nw (.methodLinkNest RX1 11 yX3_init RX6) s ∧ va_Nw (.methodLinkNest RX6 50 yX0_init RX6) s ∧ va_Nw (.methodLinkNest RX6 57 yX3_init RX6) s ∧ va_AO "OfferTurn$Scene" s ∧ va_AO "OfferTurn$Village" s ∧ va_AOA .int s
theorem NW.warm {s U : State} (hW : s.WarmedH U.vm) (h : NW s) : NW U := by
  obtain ⟨h1, h2, h3, h4, h5, h6, h7, h8, h9, h10, h11, h12⟩ := h
  exact ⟨h1.warmM hW, h2.warmM hW, h3.warmM hW, h4.warmM hW, h5.warmM hW, h6.warmM hW, h7.warmM hW, h8.warmM hW, h9.warmM hW, h10.moved hW.alike, h11.moved hW.alike, aoa_moved hW.alike h12⟩
theorem NW.same {s U : State} (e : s.vm = U.vm) (h : NW s) : NW U := by
  obtain ⟨h1, h2, h3, h4, h5, h6, h7, h8, h9, h10, h11, h12⟩ := h
  exact ⟨h1.same rfl e, h2.same rfl e, h3.same rfl e, h4.same rfl e, h5.same rfl e, h6.same rfl e, h7.same rfl e, h8.same rfl e, h9.same rfl e, h10.moved (e ▸ Vm.Alike.refl s.vm), h11.moved (e ▸ Vm.Alike.refl s.vm), aoa_moved (e ▸ Vm.Alike.refl s.vm) h12⟩
def CN (D : va_G) (tl : List FieldType) (cA : Nat → ClassId) (own : String) (cc : ByteArray) (nL : Nat) (p : Program) (s : State) (m : MethodId) (args : Array Value) (meth : Method) (c : Code) : Prop :=
  p.tables.exec = Jvm.exec ∧ c.code = cc ∧ c.maxLocals = nL ∧ s.vm.findClass own = some m.cls ∧ (∀ w ∈ ALL, w.before args s = true) ∧ va_K D vwCl (tyl tl cA) s ∧ NW s ∧ meth.locks = false ∧ meth.sig.returnType = none ∧ meth.name = "<init>"
def PoN (D : va_G) (tl : List FieldType) (cA : Nat → ClassId) (base : Nat) (av : List Value) (sl : List vSh) (S : vS) : Array Value → State → Prop :=
  va_Pc av (fun U => WPn D cA base sl S U.heap ∧ va_K D vwCl (tyl tl cA) U ∧ NW U)
def QoN (D : va_G) (cA : Nat → ClassId) (base : Nat) (sl : List vSh) (S : vS) : Array Value → State → Outcome → State → Prop :=
  fun _ st oc t => oc = .returned none ∧ WPn D cA base sl S t.heap ∧ va_F (Ab base) st t
def WN (p : Program) (l : Launch) (e : Env) (R : Room) (s : State) (m : MethodId) (args : Array Value) (below : List Frame) (meth : Method) (c : Code) (D : va_G) (cA : Nat → ClassId) (base : Nat) (Q : State → Prop) (cells slots : Nat) (sl : List vSh) (S : vS) (pc : Nat) (ls : Array Slot) (st : List Value) : Prop :=
  ∀ (H : Heap) (locs : List Loc), WPn D cA base sl S H → va_S (Ab base) s.heap H locs → W p l e R s m args below meth c H locs cells slots Q (F0 m pc ls st)
theorem wI_zero {S : vS} {k j : Nat} (h : S.1 k = fun _ => 0) : wI S k j 0 = S := by
  unfold wI
  have e : va_up S.1 k (upd (S.1 k) j 0) = S.1 := by
    funext a
    by_cases ha : a = k
    · subst ha
      funext b
      simp only [va_up, if_pos]
      unfold upd
      by_cases hb : b = j
      · rw [if_pos hb, h]
      · rw [if_neg hb]
    · simp [va_up, ha]
  rw [e]
section WNR
variable {p : Program} {l : Launch} {e : Env} {R : Room} {s : State} {m : MethodId} {args : Array Value} {below : List Frame} {meth : Method} {c : Code} {D : va_G} {tl : List FieldType} {cA : Nat → ClassId} {base : Nat} {own : String} {cc : ByteArray} {nL : Nat} {Q : State → Prop} {cells slots : Nat} {sl : List vSh} {S : vS} {pc : Nat} {ls : Array Slot} {st : List Value}
theorem Met.wn {y : MethodName} {rm : Room} {mc ms : Nat} {av : List Value} {sl' : List vSh} {S' : vS} (hy : plainName y.cls = true) (hyn : y.name = "<init>") (hlen : (lg_sl av).length ≤ nL)
    (body : ∀ p e s m args below meth c, CN D tl cA y.cls cc nL p s m args meth c → ∀ ls, lv_has ls nL (lv_args 0 av) → s.heap.size = base + sl.length → WN p l e rm s m args below meth c D cA base (MQ below (QoN D cA base sl' S') args s mc ms (Ab base)) 0 0 sl S 0 ls []) :
    Met l y (Cond.code y cc nL none :: ALL) rm (PoN D tl cA base av sl S) (QoN D cA base sl' S') mc ms (Ab base) := by
  refine Met.ofW (cc := cc) (maxL := nL) (ret := none) hy rfl ?_
  intro p e s m args below meth c s₁ B hml hv
  obtain ⟨rfl, hP, hK, hE⟩ := hv
  have hts := atoms_spec (ws := Cond.code y cc nL none :: ALL) B.pre
  have hl := lv_entry av (n := nL) hlen
  rw [lg_entry_eq]
  exact body p e s m av.toArray below meth c ⟨B.exec, B.bytes, hml, findClass_of_methodNamed B.named, fun w hw => hts w (List.mem_cons_of_mem _ hw), hK, hE, B.notSynchronized, B.returns, (name_of_methodNamed B.named B.method).1.trans hyn⟩ _ hl hP.2.1 s.heap [] hP va_S.rf
theorem wn_iconst (C0 : CN D tl cA own cc nL p s m args meth c) {n : Int} {v : Int32} (hdg : decode cc pc = .ok (.iconst n, 1)) (hv : Int32.ofInt n = v) (kk : WN p l e R s m args below meth c D cA base Q cells slots sl S (pc + 1) ls (.int v :: st)) : WN p l e R s m args below meth c D cA base Q cells slots sl S pc ls (st) := fun H locs hP hS => lv_iconst C0.1 C0.2.1 hdg hv (kk H locs hP hS)
theorem wn_bipush (C0 : CN D tl cA own cc nL p s m args meth c) {n : Int} {v : Int32} (hdg : decode cc pc = .ok (.bipush n, 2)) (hv : (Int8.ofInt n).toInt32 = v) (kk : WN p l e R s m args below meth c D cA base Q cells slots sl S (pc + 2) ls (.int v :: st)) : WN p l e R s m args below meth c D cA base Q cells slots sl S pc ls (st) := fun H locs hP hS => lv_bipush C0.1 C0.2.1 hdg hv (kk H locs hP hS)
theorem wn_sipush (C0 : CN D tl cA own cc nL p s m args meth c) {n : Int} {v : Int32} (hdg : decode cc pc = .ok (.sipush n, 3)) (hv : (Int16.ofInt n).toInt32 = v) (kk : WN p l e R s m args below meth c D cA base Q cells slots sl S (pc + 3) ls (.int v :: st)) : WN p l e R s m args below meth c D cA base Q cells slots sl S pc ls (st) := fun H locs hP hS => lv_sipush C0.1 C0.2.1 hdg hv (kk H locs hP hS)
theorem wn_lconst (C0 : CN D tl cA own cc nL p s m args meth c) {n : Fin 2} {v : Int64} (hdg : decode cc pc = .ok (.lconst n, 1)) (hv : Int64.ofNat (n : Nat) = v) (kk : WN p l e R s m args below meth c D cA base Q cells slots sl S (pc + 1) ls (.long v :: st)) : WN p l e R s m args below meth c D cA base Q cells slots sl S pc ls (st) := fun H locs hP hS => lv_lconst C0.1 C0.2.1 hdg hv (kk H locs hP hS)
theorem wn_iload_n (C0 : CN D tl cA own cc nL p s m args meth c) {k : Fin 4} {i : Nat} {x : Int32} (hdg : decode cc pc = .ok (.iload_n k, 1)) (hi : (k : Nat) = i) (hl : ls[i]? = some (.val (.int x))) (kk : WN p l e R s m args below meth c D cA base Q cells slots sl S (pc + 1) ls (.int x :: st)) : WN p l e R s m args below meth c D cA base Q cells slots sl S pc ls (st) := fun H locs hP hS => lv_iload_n C0.1 C0.2.1 hdg hi hl (kk H locs hP hS)
theorem wn_aload_n (C0 : CN D tl cA own cc nL p s m args meth c) {k : Fin 4} {i x : Nat} (hdg : decode cc pc = .ok (.aload_n k, 1)) (hi : (k : Nat) = i) (hl : ls[i]? = some (.val (.ref x))) (kk : WN p l e R s m args below meth c D cA base Q cells slots sl S (pc + 1) ls (.ref x :: st)) : WN p l e R s m args below meth c D cA base Q cells slots sl S pc ls (st) := fun H locs hP hS => lv_aload_n C0.1 C0.2.1 hdg hi hl (kk H locs hP hS)
theorem wn_dup (C0 : CN D tl cA own cc nL p s m args meth c) {v : Value} (hdg : decode cc pc = .ok (.dup, 1)) (hv : v.category = 1) (kk : WN p l e R s m args below meth c D cA base Q cells slots sl S (pc + 1) ls (v :: v :: st)) : WN p l e R s m args below meth c D cA base Q cells slots sl S pc ls (v :: st) := fun H locs hP hS => lv_dup C0.1 C0.2.1 hdg hv (kk H locs hP hS)
theorem wn_goto (C0 : CN D tl cA own cc nL p s m args meth c) {off : Int} {tgt : Nat} (hdg : decode cc pc = .ok (.goto off, 3)) (ht : (pc : Int) + off = (tgt : Int)) (kk : WN p l e R s m args below meth c D cA base Q cells slots sl S (tgt) ls (st)) : WN p l e R s m args below meth c D cA base Q cells slots sl S pc ls (st) := fun H locs hP hS => lv_goto C0.1 C0.2.1 hdg ht (kk H locs hP hS)
theorem wn_istore_n (C0 : CN D tl cA own cc nL p s m args meth c) {k : Fin 4} {i : Nat} {x : Int32} {lv lv' : List (Nat × Value)} (hdg : decode cc pc = .ok (.istore_n k, 1)) (hi : (k : Nat) = i) (h : lv_has ls nL lv) (hn : i < nL) (hl : (i, Value.int x) :: lv.filter (fun q => !(q.1 == i) && !(q.1 + 1 == i && q.2.category == 2)) = lv') (kk : ∀ lsq : Array Slot, lv_has lsq nL lv' → WN p l e R s m args below meth c D cA base Q cells slots sl S (pc + 1) lsq st) : WN p l e R s m args below meth c D cA base Q cells slots sl S pc ls (.int x :: st) := fun H locs hP hS => lv_istore_n C0.1 C0.2.1 hdg hi h hn hl (fun lsq h9 => kk lsq h9 H locs hP hS)
theorem wn_iinc (C0 : CN D tl cA own cc nL p s m args meth c) {i k : Nat} {n : Int} {x v : Int32} {lv lv' : List (Nat × Value)} (hdg : decode cc pc = .ok (.iinc i n, 3)) (h : lv_has ls nL lv) (hk : lv[k]? = some (i, .int x)) (hv : x + Int32.ofInt n = v) (hn : i < nL) (hl : (i, Value.int v) :: lv.filter (fun q => !(q.1 == i) && !(q.1 + 1 == i && q.2.category == 2)) = lv') (kk : ∀ lsq : Array Slot, lv_has lsq nL lv' → WN p l e R s m args below meth c D cA base Q cells slots sl S (pc + 3) lsq st) : WN p l e R s m args below meth c D cA base Q cells slots sl S pc ls st := fun H locs hP hS => lv_iinc C0.1 C0.2.1 hdg h hk hv hn hl (fun lsq h9 => kk lsq h9 H locs hP hS)
theorem wn_geT (C0 : CN D tl cA own cc nL p s m args meth c) {x y : Int32} {off : Int} {tgt : Nat} (hdg : decode cc pc = .ok (.if_icmp .ge off, 3)) (ht : (pc : Int) + off = (tgt : Int)) (hc : y ≤ x) (kk : WN p l e R s m args below meth c D cA base Q cells slots sl S tgt ls st) : WN p l e R s m args below meth c D cA base Q cells slots sl S pc ls (.int y :: .int x :: st) := fun H locs hP hS => lv_icmp_ge C0.1 C0.2.1 hdg ht (fun _ => kk H locs hP hS) (fun h => absurd hc h)
theorem wn_geF (C0 : CN D tl cA own cc nL p s m args meth c) {x y : Int32} {off : Int} {tgt : Nat} (hdg : decode cc pc = .ok (.if_icmp .ge off, 3)) (ht : (pc : Int) + off = (tgt : Int)) (hc : ¬ y ≤ x) (kk : WN p l e R s m args below meth c D cA base Q cells slots sl S (pc + 3) ls st) : WN p l e R s m args below meth c D cA base Q cells slots sl S pc ls (.int y :: .int x :: st) := fun H locs hP hS => lv_icmp_ge C0.1 C0.2.1 hdg ht (fun h => absurd h hc) (fun _ => kk H locs hP hS)
theorem wn_obj (C0 : CN D tl cA own cc nL p s m args meth c) {a idx : Nat} (hlk : Cond.methodLink own idx objectInit ∈ ALL) (hsz : ls.size = nL) (hR : 1 ≤ R.frames ∧ (st.map fun v => v.category).sum + 12 ≤ R.locals) (hdg : decode cc pc = .ok (.invokespecial idx, 3)) (kk : WN p l e R s m args below meth c D cA base Q cells slots sl S (pc + 3) ls st) : WN p l e R s m args below meth c D cA base Q cells slots sl S pc ls (.ref a :: st) := fun H locs hP hS => W.objInit C0.1 C0.2.1 C0.2.2.2.1 (C0.2.2.2.2.1 _ hlk) (C0.2.2.2.2.1 _ wi_objinit) (C0.2.2.2.2.1 _ wc_objinit) rfl (hsz.trans C0.2.2.1.symm) rfl hdg hR.1 (by show 2 * 0 + _ + 12 ≤ _; omega) (kk H locs hP hS)
theorem wn_new (C0 : CN D tl cA own cc nL p s m args meth c) {C : String} {T : u_T} {N ci index K : Nat} {fd : List (Nat × Nat)} {sl' : List vSh} (hin : ∀ w ∈ u_ws C T N, w ∈ ALL) (tyf : Nat → FieldType) (hty : ∀ k, k < N → parseFieldDescriptor (T k).2.2.1 = some (tyf k)) (hcl : Cond.classLink own index C ∈ ALL) (hins : Cond.instantiable C N ∈ ALL) (hini : Cond.initialized C ∈ ALL) (hc : vwCl[ci]? = some (C, T, N)) (hN : sl.length = K)
    (hfs : ∀ (ad : Nat → Nat) (S : vS) (k : Nat), S.1 k = (fun _ => 0) → S.2 k = (fun _ => 0) → ∀ j, j < N → defaultValue (tyf j) = vp_V (fd.mapIdx (sxf ad S k)) j) (hcells : cells + 1 ≤ R.cells) (hslots : slots + N ≤ R.slots) (hsl : sl ++ [.inr (.inr (ci, fd))] = sl') (hdg : decode cc pc = .ok (.new index, 3))
    (kk : S.1 K = (fun _ => 0) → S.2 K = (fun _ => 0) → WN p l e R s m args below meth c D cA base Q (cells + 1) (slots + N) sl' S (pc + 3) ls (.ref (base + K) :: st)) : WN p l e R s m args below meth c D cA base Q cells slots sl S pc ls st := by
  intro H locs hP hS
  subst hN; subst hsl
  have hKn := C0.2.2.2.2.2.1.1 ci _ hc
  have hz := hP.2.2 sl.length (Nat.le_refl _)
  refine W.newcK C0.1 C0.2.1 C0.2.2.2.1 (C0.2.2.2.2.1 _ hcl) (C0.2.2.2.2.1 _ hins) (C0.2.2.2.2.1 _ hini) rfl hdg hcells hslots hKn.2.1 rfl fun H1 kC hkC e1 z1 o1 => ?_
  have hP1 := wn_push (sh := .inr (.inr (ci, fd))) hP z1 o1 ⟨_, hc, (u_born tyf C0.2.2.2.2.1 hin hKn hkC e1 hty).to (hfs _ S _ hz.1 hz.2)⟩
  have hk := kk hz.1 hz.2 H1 locs hP1 (wn_grow hS (by omega) o1)
  rw [← hP.2.1] at hk
  exact hk
theorem wn_newa (C0 : CN D tl cA own cc nL p s m args meth c) {atype : ArrayType} {ty : FieldType} {t N K : Nat} {n : Int32} {sl' : List vSh} (hw : Cond.arrayClass (newarray.typeOf atype) ∈ ALL) (hty : newarray.typeOf atype = ty) (ht : tl[t]? = some ty) (hRA : ∀ {cB : ClassId} {U : State}, va_RA U cB ty = (U.vm.findClass ("[" ++ ty.toString) = some cB)) (hd : defaultValue ty = .int 0) (hn : ¬ n < 0) (hNn : n.toNatClampNeg = N) (hN : sl.length = K) (hbytes : N * componentBytes ty ≤ 536870912) (hcells : cells + 1 ≤ R.cells) (hslots : slots + N ≤ R.slots) (hsl : sl ++ [.inl (t, N)] = sl') (hdg : decode cc pc = .ok (.newarray atype, 2))
    (kk : WN p l e R s m args below meth c D cA base Q (cells + 1) (slots + N) sl' S (pc + 2) ls (.ref (base + K) :: st)) : WN p l e R s m args below meth c D cA base Q cells slots sl S pc ls (.int n :: st) := by
  intro H locs hP hS
  subst hN; subst hsl; subst hty
  have hz := hP.2.2 sl.length (Nat.le_refl _)
  refine va_newaK C0.1 C0.2.1 (C0.2.2.2.2.1 _ hw) rfl hdg rfl hn hNn hbytes hcells hslots rfl fun H1 cB e1 z1 o1 hAr hNm => ?_
  have hcB : cA t = cB := by
    have h9 := (C0.2.2.2.2.2.1.2 t _ (tyl_get ht)).2
    rw [hRA] at h9
    exact Option.some.inj (h9.symm.trans hNm)
  have hP1 := wn_push (sh := .inl (t, N)) hP z1 o1 (by
    show H1[H.size]? = some (vp_cell (cA t) (N, .inl (S.1 sl.length)))
    rw [e1, hcB, hz.1, hd]
    rfl)
  have hk := kk H1 locs hP1 (wn_grow hS (by omega) o1)
  rw [← hP.2.1] at hk
  exact hk
theorem wn_anew (C0 : CN D tl cA own cc nL p s m args meth c) {C : String} {index t N K : Nat} {n : Int32} {sl' : List vSh} (hcl : Cond.classLink own index C ∈ ALL) (hover : va_AO C s) (ht : tl[t]? = some (.object C)) (hn : ¬ n < 0) (hNn : n.toNatClampNeg = N) (hN : sl.length = K) (hbytes : N * 4 ≤ 536870912) (hcells : cells + 1 ≤ R.cells) (hslots : slots + N ≤ R.slots) (hsl : sl ++ [.inr (.inl (t, N, []))] = sl') (hdg : decode cc pc = .ok (.anewarray index, 3))
    (kk : WN p l e R s m args below meth c D cA base Q (cells + 1) (slots + N) sl' S (pc + 3) ls (.ref (base + K) :: st)) : WN p l e R s m args below meth c D cA base Q cells slots sl S pc ls (.int n :: st) := by
  intro H locs hP hS
  subst hN; subst hsl; subst hNn
  refine W.anew C0.1 C0.2.1 C0.2.2.2.1 (C0.2.2.2.2.1 _ hcl) (va_AO.use hover) rfl hdg rfl hn hbytes hcells hslots fun cB kA comp f1 f2 f3 f4 => ?_
  generalize hH1 : H.push ({ cls := cB, slots := Array.replicate n.toNatClampNeg .null, vm := .none } : Cell) = H1
  have z1 : H1.size = H.size + 1 := by rw [← hH1, Array.size_push]
  have e1 : H1[H.size]? = some (arrV cB n.toNatClampNeg (fun _ => .null)) := by rw [← hH1, Array.getElem?_push_size, ← arrV_new]
  have o1 : ∀ q : Nat, q < H.size → H1[q]? = H[q]? := fun q hq => by rw [← hH1, Array.getElem?_push, if_neg (Nat.ne_of_lt hq)]
  have hcB : cA t = cB := by
    obtain ⟨kA2, comp2, -, -, -, h9⟩ := (C0.2.2.2.2.2.1.2 t _ (tyl_get ht)).2
    exact Option.some.inj (h9.symm.trans f1)
  have hP1 := wn_push (sh := .inr (.inl (t, n.toNatClampNeg, []))) hP z1 o1 (by
    show H1[H.size]? = some (vp_cell (cA t) (n.toNatClampNeg, .inr (.inr (.inr (.inr (fun i => (([] : List Nat)[i]?).map (adb base)))))))
    rw [vp_cell_q, hcB, e1]
    rfl)
  have hk := kk H1 locs hP1 (wn_grow hS (by omega) o1)
  rw [← hP.2.1] at hk
  exact hk
theorem wn_setSh {D : va_G} {cA : Nat → ClassId} {base K : Nat} {sl sl2 : List vSh} {S : vS} {H H1 : Heap} {e : va_E} {sh : vSh} (h : WPn D cA base sl S H) (hl : K < sl.length) (hsl : sl.set K sh = sl2) (he : e = sxc cA (adb base) S K sh) (hz : H1.size = H.size) (hP1 : va_P D vwCl ((wsl sl cA (adb base) S).set K (base + K, e)) H1) : WPn D cA base sl2 S H1 := by
  subst hsl; subst he
  refine ⟨?_, by rw [hz, h.2.1, List.length_set], fun k hk => h.2.2 k (by rwa [List.length_set] at hk)⟩
  have e : wsl (sl.set K sh) cA (adb base) S = (wsl sl cA (adb base) S).set K (base + K, sxc cA (adb base) S K sh) := by
    apply List.ext_getElem?
    intro q
    by_cases hq : q = K
    · subst hq
      rw [List.getElem?_set_self (by rw [wsl_len]; exact hl), wsl_get (List.getElem?_set_self hl)]
      rfl
    · rw [List.getElem?_set_ne (fun z => hq z.symm)]
      simp only [wsl, List.getElem?_mapIdx]
      rw [List.getElem?_set_ne (fun z => hq z.symm)]
  rw [e]
  exact hP1
theorem wn_setS {D : va_G} {cA : Nat → ClassId} {base K : Nat} {sl : List vSh} {S S2 : vS} {H H1 : Heap} (h : WPn D cA base sl S H) (hl : K < sl.length) (hS2 : ∀ k, k ≠ K → S2.1 k = S.1 k ∧ S2.2 k = S.2 k) (hz : H1.size = H.size) (hP1 : va_P D vwCl (wsl sl cA (adb base) S2) H1) : WPn D cA base sl S2 H1 :=
  ⟨hP1, by rw [hz, h.2.1], fun k hk => by
    obtain ⟨a, b⟩ := hS2 k (by omega)
    rw [a, b]
    exact h.2.2 k hk⟩
theorem wn_putF (C0 : CN D tl cA own cc nL p s m args meth c) {ref C : String} {T : u_T} {N ci index K j : Nat} {fds : List (Nat × Nat)} {v : Value} {ty : FieldType} (tyf : Nat → FieldType) (hty : ∀ k, k < N → parseFieldDescriptor (T k).2.2.1 = some (tyf k)) (hnm : ∀ a, a < N → ∀ b, b < N → a ≠ b → (T a).2.1 ≠ (T b).2.1) (hin : ∀ w ∈ u_ws C T N, w ∈ ALL) (hc : vwCl[ci]? = some (C, T, N)) (hj : j < N) (hlk : Cond.fieldLink own index ref (T j).2.1 (T j).2.2.1 ∈ ALL) (hsame : (T j).1 = ref) (hk : sl[K]? = some (.inr (.inr (ci, fds)))) (hjl : j < fds.length) (hfin : (T j).2.2.2 = true) (hown : (T j).1 = own) (hd : parseFieldDescriptor (T j).2.2.1 = some ty) (hn : narrow ty v = v) (hfit : fits ty v = true) (hdg : decode cc pc = .ok (.putfield index, 3)) {H : Heap} {locs : List Loc} (hP : WPn D cA base sl S H) (hS : va_S (Ab base) s.heap H locs)
    (kk : ∀ (H1 : Heap) (locs1 : List Loc), H1.size = H.size → va_P D vwCl ((wsl sl cA (adb base) S).set K (base + K, .inr (ci, (fds.mapIdx (sxf (adb base) S K)).set j v))) H1 → va_S (Ab base) s.heap H1 locs1 → W p l e R s m args below meth c H1 locs1 cells slots Q (F0 m (pc + 3) ls st)) : W p l e R s m args below meth c H locs cells slots Q (F0 m pc ls (v :: .ref (base + K) :: st)) := by
  obtain ⟨hx, hb, hml, how, hts, hK, hNW, hlo, hrt, hin2⟩ := id C0
  have he := wsl_get (cA := cA) (ad := adb base) (S := S) hk
  have hap := va_apart (own := own) hts hin tyf hty hnm hK hc
  obtain ⟨r, h1, cell, q1, q2, q3, q4⟩ := hP.1 K _ he
  cases h1.symm.trans hc
  obtain ⟨hSl, hfc, kC, hkC, hkind⟩ := hK.1 ci _ hc
  obtain ⟨cf, kf, fi, f, hi, hsl⟩ := hSl j hj
  have hlay := hts _ (hin _ (u_in_lay hj))
  have hst := (u_facts hfc hkC (u_lays hts hin hj) hi).1
  unfold u_lay at hlay
  have key : ∀ (H' : Heap), H'[base + K]? = some (cell.setSlot ((D.2 ci) j) v) → H'.size = H.size → (∀ q, q ≠ base + K → H'[q]? = H[q]?) → va_P D vwCl ((wsl sl cA (adb base) S).set K (base + K, .inr (ci, (fds.mapIdx (sxf (adb base) S K)).set j v))) H' := fun H' e1 _ e3 =>
    hP.1.set (wn_D) he ⟨_, hc, t_OB.to (V := updV (vp_V (fds.mapIdx (sxf (adb base) S K))) j v) ⟨_, e1, q2, q3, t_set q4 hap hj v⟩ (fun x _ => vp_updV_set (by rw [List.length_mapIdx]; exact hjl) v x)⟩ e3
  rw [if_pos hfin] at hlay
  have hcf : m.cls = cf := by
    obtain ⟨_, _, c', _, _, _, -, -, hf', -, -, -, hown2, -⟩ := Cond.laysFinal_spec hlay
    have e9 := Option.some.inj (hi.symm.trans hf')
    rw [hown] at hown2
    rw [(Prod.mk.inj e9).1]
    exact Option.some.inj (how.symm.trans hown2)
  have h6 := u_fits hfc hkC hkind (Or.inr hlay) hi hd hn hfit
  refine W.putFinK hx hb how (hts _ hlk) (by rw [← hsame]; exact hi) hst hcf hin2 (by rw [q2]; exact h6) q1 q3 (by rw [hsl]; exact k2_hasslot (q4 j hj)) rfl rfl hdg fun H' e1 e2 e3 => ?_
  rw [hsl] at e1 ⊢
  exact kk H' _ e2 (key H' e1 e2 e3) (hS.put e2 e3 (by show base ≤ base + K; omega))
theorem wn_putN (C0 : CN D tl cA own cc nL p s m args meth c) {ref C : String} {T : u_T} {N ci index K j : Nat} {fds : List (Nat × Nat)} {v : Value} {ty : FieldType} (tyf : Nat → FieldType) (hty : ∀ k, k < N → parseFieldDescriptor (T k).2.2.1 = some (tyf k)) (hnm : ∀ a, a < N → ∀ b, b < N → a ≠ b → (T a).2.1 ≠ (T b).2.1) (hin : ∀ w ∈ u_ws C T N, w ∈ ALL) (hc : vwCl[ci]? = some (C, T, N)) (hj : j < N) (hlk : Cond.fieldLink own index ref (T j).2.1 (T j).2.2.1 ∈ ALL) (hsame : (T j).1 = ref) (hk : sl[K]? = some (.inr (.inr (ci, fds)))) (hjl : j < fds.length) (hfin : (T j).2.2.2 = false) (hd : parseFieldDescriptor (T j).2.2.1 = some ty) (hn : narrow ty v = v) (hfit : fits ty v = true) (hdg : decode cc pc = .ok (.putfield index, 3)) {H : Heap} {locs : List Loc} (hP : WPn D cA base sl S H) (hS : va_S (Ab base) s.heap H locs)
    (kk : ∀ (H1 : Heap) (locs1 : List Loc), H1.size = H.size → va_P D vwCl ((wsl sl cA (adb base) S).set K (base + K, .inr (ci, (fds.mapIdx (sxf (adb base) S K)).set j v))) H1 → va_S (Ab base) s.heap H1 locs1 → W p l e R s m args below meth c H1 locs1 cells slots Q (F0 m (pc + 3) ls st)) : W p l e R s m args below meth c H locs cells slots Q (F0 m pc ls (v :: .ref (base + K) :: st)) := by
  obtain ⟨hx, hb, hml, how, hts, hK, hNW, hlo, hrt, hin2⟩ := id C0
  have he := wsl_get (cA := cA) (ad := adb base) (S := S) hk
  have hap := va_apart (own := own) hts hin tyf hty hnm hK hc
  obtain ⟨r, h1, cell, q1, q2, q3, q4⟩ := hP.1 K _ he
  cases h1.symm.trans hc
  obtain ⟨hSl, hfc, kC, hkC, hkind⟩ := hK.1 ci _ hc
  obtain ⟨cf, kf, fi, f, hi, hsl⟩ := hSl j hj
  have hlay := hts _ (hin _ (u_in_lay hj))
  have hst := (u_facts hfc hkC (u_lays hts hin hj) hi).1
  unfold u_lay at hlay
  have key : ∀ (H' : Heap), H'[base + K]? = some (cell.setSlot ((D.2 ci) j) v) → H'.size = H.size → (∀ q, q ≠ base + K → H'[q]? = H[q]?) → va_P D vwCl ((wsl sl cA (adb base) S).set K (base + K, .inr (ci, (fds.mapIdx (sxf (adb base) S K)).set j v))) H' := fun H' e1 _ e3 =>
    hP.1.set (wn_D) he ⟨_, hc, t_OB.to (V := updV (vp_V (fds.mapIdx (sxf (adb base) S K))) j v) ⟨_, e1, q2, q3, t_set q4 hap hj v⟩ (fun x _ => vp_updV_set (by rw [List.length_mapIdx]; exact hjl) v x)⟩ e3
  rw [if_neg (by rw [hfin]; decide)] at hlay
  have h6 := u_store hfc hkC hkind hlay hi hd hn hfit
  refine W.putK hx hb (f := f) ⟨how, hts _ hlk, ⟨_, _, _, by rw [← hsame]; exact hi⟩, hst⟩ (by rw [q2]; exact h6) q1 q3 (by rw [hsl]; exact k2_hasslot (q4 j hj)) rfl rfl hdg fun H' e1 e2 e3 => ?_
  rw [hsl] at e1 ⊢
  exact kk H' _ e2 (key H' e1 e2 e3) (hS.put e2 e3 (by show base ≤ base + K; omega))
theorem wn_putR (C0 : CN D tl cA own cc nL p s m args meth c) {ref C : String} {T : u_T} {N ci index K j : Nat} {fds : List (Nat × Nat)} {v : Nat} {ty : FieldType} {sl' : List vSh} (tyf : Nat → FieldType) (hty : ∀ k, k < N → parseFieldDescriptor (T k).2.2.1 = some (tyf k)) (hnm : ∀ a, a < N → ∀ b, b < N → a ≠ b → (T a).2.1 ≠ (T b).2.1) (hin : ∀ w ∈ u_ws C T N, w ∈ ALL) (hc : vwCl[ci]? = some (C, T, N)) (hj : j < N) (hlk : Cond.fieldLink own index ref (T j).2.1 (T j).2.2.1 ∈ ALL) (hsame : (T j).1 = ref) (hk : sl[K]? = some (.inr (.inr (ci, fds)))) (hjl : j < fds.length) (hfin : (T j).2.2.2 = true) (hown : (T j).1 = own) (hd : parseFieldDescriptor (T j).2.2.1 = some ty) (hn : narrow ty (.ref (base + v)) = .ref (base + v)) (hfit : fits ty (.ref (base + v)) = true) (hsl : sl.set K (.inr (.inr (ci, fds.set j (2, v)))) = sl') (hdg : decode cc pc = .ok (.putfield index, 3)) (kk : WN p l e R s m args below meth c D cA base Q cells slots sl' S (pc + 3) ls st) : WN p l e R s m args below meth c D cA base Q cells slots sl S pc ls (.ref (base + v) :: .ref (base + K) :: st) := by
  intro H locs hP hS
  have hl : K < sl.length := (List.getElem?_eq_some_iff.mp hk).1
  refine wn_putF C0 tyf hty hnm hin hc hj hlk hsame hk hjl hfin hown hd hn hfit hdg hP hS (fun H1 locs1 hz hP1 hS1 => ?_)
  refine kk H1 locs1 (wn_setSh hP hl hsl ?_ hz hP1) hS1
  simp only [sxc]
  congr 2
  apply List.ext_getElem?
  intro q
  by_cases hq : q = j
  · subst hq
    have a1 : ((fds.mapIdx (sxf (adb base) S K)).set q (.ref (base + v)))[q]? = some (.ref (base + v)) := List.getElem?_set_self (by simpa using hjl)
    have a2 : ((fds.set q (2, v)).mapIdx (sxf (adb base) S K))[q]? = some (.ref (base + v)) := by rw [List.getElem?_mapIdx, List.getElem?_set_self hjl]; rfl
    first | exact a1.trans a2.symm | exact a2.trans a1.symm
  · rw [List.getElem?_set_ne (fun z => hq z.symm)]
    simp only [List.getElem?_mapIdx, List.getElem?_set_ne (fun z => hq z.symm)]
theorem wn_putI (C0 : CN D tl cA own cc nL p s m args meth c) {ref C : String} {T : u_T} {N ci index K j : Nat} {fds : List (Nat × Nat)} {v : Int32} {z : Nat} {ty : FieldType} {S' : vS} (tyf : Nat → FieldType) (hty : ∀ k, k < N → parseFieldDescriptor (T k).2.2.1 = some (tyf k)) (hnm : ∀ a, a < N → ∀ b, b < N → a ≠ b → (T a).2.1 ≠ (T b).2.1) (hin : ∀ w ∈ u_ws C T N, w ∈ ALL) (hc : vwCl[ci]? = some (C, T, N)) (hj : j < N) (hlk : Cond.fieldLink own index ref (T j).2.1 (T j).2.2.1 ∈ ALL) (hsame : (T j).1 = ref) (hk : sl[K]? = some (.inr (.inr (ci, fds)))) (hjl : j < fds.length) (hf : fds[j]? = some (0, z)) (hfin : (T j).2.2.2 = false) (hd : parseFieldDescriptor (T j).2.2.1 = some ty) (hn : narrow ty (.int v) = .int v) (hfit : fits ty (.int v) = true) (hS' : wI S K j v = S') (hdg : decode cc pc = .ok (.putfield index, 3)) (kk : WN p l e R s m args below meth c D cA base Q cells slots sl S' (pc + 3) ls st) : WN p l e R s m args below meth c D cA base Q cells slots sl S pc ls (.int v :: .ref (base + K) :: st) := by
  intro H locs hP hS
  subst hS'
  have hl : K < sl.length := (List.getElem?_eq_some_iff.mp hk).1
  refine wn_putN C0 tyf hty hnm hin hc hj hlk hsame hk hjl hfin hd hn hfit hdg hP hS (fun H1 locs1 hz hP1 hS1 => ?_)
  refine kk H1 locs1 (wn_setS hP hl (fun k hk => by simp [wI, va_up, hk]) hz ?_) hS1
  rw [← wsl_setI hk (sxc_setI hf)]
  exact hP1
theorem wn_putL (C0 : CN D tl cA own cc nL p s m args meth c) {ref C : String} {T : u_T} {N ci index K j : Nat} {fds : List (Nat × Nat)} {v : Int64} {z : Nat} {ty : FieldType} {S' : vS} (tyf : Nat → FieldType) (hty : ∀ k, k < N → parseFieldDescriptor (T k).2.2.1 = some (tyf k)) (hnm : ∀ a, a < N → ∀ b, b < N → a ≠ b → (T a).2.1 ≠ (T b).2.1) (hin : ∀ w ∈ u_ws C T N, w ∈ ALL) (hc : vwCl[ci]? = some (C, T, N)) (hj : j < N) (hlk : Cond.fieldLink own index ref (T j).2.1 (T j).2.2.1 ∈ ALL) (hsame : (T j).1 = ref) (hk : sl[K]? = some (.inr (.inr (ci, fds)))) (hjl : j < fds.length) (hf : fds[j]? = some (1, z)) (hfin : (T j).2.2.2 = false) (hd : parseFieldDescriptor (T j).2.2.1 = some ty) (hn : narrow ty (.long v) = .long v) (hfit : fits ty (.long v) = true) (hS' : wL S K j v = S') (hdg : decode cc pc = .ok (.putfield index, 3)) (kk : WN p l e R s m args below meth c D cA base Q cells slots sl S' (pc + 3) ls st) : WN p l e R s m args below meth c D cA base Q cells slots sl S pc ls (.long v :: .ref (base + K) :: st) := by
  intro H locs hP hS
  subst hS'
  have hl : K < sl.length := (List.getElem?_eq_some_iff.mp hk).1
  refine wn_putN C0 tyf hty hnm hin hc hj hlk hsame hk hjl hfin hd hn hfit hdg hP hS (fun H1 locs1 hz hP1 hS1 => ?_)
  refine kk H1 locs1 (wn_setS hP hl (fun k hk => by simp [wL, va_up, hk]) hz ?_) hS1
  rw [← wsl_setL hk (sxc_setL hf)]
  exact hP1
theorem wn_iast (C0 : CN D tl cA own cc nL p s m args meth c) {K t n : Nat} {i x : Int32} {S' : vS} (hk : sl[K]? = some (.inl (t, n))) (ht : tl[t]? = some .int) (hi : ¬ (i < 0 ∨ n ≤ i.toNatClampNeg)) (hS' : wI S K i.toNatClampNeg x = S') (hdg : decode cc pc = .ok (.iastore, 1)) (kk : WN p l e R s m args below meth c D cA base Q cells slots sl S' (pc + 1) ls st) : WN p l e R s m args below meth c D cA base Q cells slots sl S pc ls (.int x :: .int i :: .ref (base + K) :: st) := by
  intro H locs hP hS
  subst hS'
  have hl : K < sl.length := (List.getElem?_eq_some_iff.mp hk).1
  have he := wsl_get (cA := cA) (ad := adb base) (S := S) hk
  refine W.iast C0.1 C0.2.1 (hP.1 K _ he) ((C0.2.2.2.2.2.1.2 t _ (tyl_get ht)).1 n (fun j => .int (S.1 K j))) (fun q => by cases q) (by show ¬ (i < 0 ∨ (arrV _ _ _).slots.size ≤ _); rw [arrV_size]; exact hi) rfl rfl hdg fun H1 e1 z1 oq => ?_
  refine kk H1 _ (wn_setS hP hl (fun k hk => by simp [wI, va_up, hk]) z1 ?_) (hS.put z1 oq (by show base ≤ base + K; omega))
  rw [← wsl_setI hk (e := .inl (cA t, n, .inl (upd (S.1 K) i.toNatClampNeg x))) (by simp [sxc, wI, va_up])]
  refine hP.1.set wn_D he ?_ oq
  have e2 : H1[base + K]? = some (Cell.setSlot (vp_cell (cA t) (n, .inl (S.1 K))) i.toNatClampNeg (.int x)) := e1
  show H1[base + K]? = some (vp_cell _ _)
  rw [e2]
  rw [vp_cell_i, vp_cell_i, arrV_store]
  congr 2
  funext q
  by_cases hq : q = i.toNatClampNeg
  · subst hq; simp [updV, upd]
  · simp [updV, upd, hq]
theorem wn_aast (C0 : CN D tl cA own cc nL p s m args meth c) {K t n v ci : Nat} {C : String} {T : u_T} {N : Nat} {l0 l1 : List Nat} {fd : List (Nat × Nat)} {i : Int32} {sl' : List vSh} (hk : sl[K]? = some (.inr (.inl (t, n, l0)))) (ht : tl[t]? = some (.object C)) (hv : sl[v]? = some (.inr (.inr (ci, fd)))) (hc : vwCl[ci]? = some (C, T, N)) (hi : ¬ (i < 0 ∨ n ≤ i.toNatClampNeg)) (hil : i.toNatClampNeg = l0.length) (hl1 : l0 ++ [v] = l1) (hsl : sl.set K (.inr (.inl (t, n, l1))) = sl') (hdg : decode cc pc = .ok (.aastore, 1)) (kk : WN p l e R s m args below meth c D cA base Q cells slots sl' S (pc + 1) ls st) : WN p l e R s m args below meth c D cA base Q cells slots sl S pc ls (.ref (base + v) :: .int i :: .ref (base + K) :: st) := by
  intro H locs hP hS
  subst hl1
  have hl : K < sl.length := (List.getElem?_eq_some_iff.mp hk).1
  have he := wsl_get (cA := cA) (ad := adb base) (S := S) hk
  have hlt : i.toNatClampNeg < n := Nat.not_le.mp fun q => hi (Or.inr q)
  have h0 : ¬ i < 0 := fun q => hi (Or.inl q)
  obtain ⟨r', hr', cellV, g1, g2, g3, -⟩ := hP.1 v _ (wsl_get hv)
  have hcls := (C0.2.2.2.2.2.1.1 ci _ hc).2
  obtain ⟨kA, comp, k1, k2, k3, -⟩ := (C0.2.2.2.2.2.1.2 t _ (tyl_get ht)).2
  have hcomp : comp = D.1 ci := Option.some.inj (k3.symm.trans hcls.1)
  subst hcomp
  obtain ⟨-, kC, hkC, hkd⟩ := id hcls
  refine W.aast C0.1 C0.2.1 (hP.1 K _ he) (fun q h => by cases h) (fun h => by cases h) k1 k2 rfl hkC ⟨h0, by show _ < (arrV _ _ _).slots.size; rw [arrV_size]; exact hlt⟩ g1 (fun q h => by rw [g3] at h; cases h) (by rw [g2]; exact hkC) (by rw [g2]; exact va_assign hcls) rfl rfl hdg fun H1 e1 z1 oq => ?_
  refine kk H1 _ (wn_setSh (e := .inl (cA t, n, .inr (.inr (.inr (.inr (va_up (fun j => (l0[j]?).map (adb base)) i.toNatClampNeg (some (base + v)))))))) hP hl hsl ?_ z1 (hP.1.set wn_D he ?_ oq)) (hS.put z1 oq (by show base ≤ base + K; omega))
  · have hfn : va_up (fun j => (l0[j]?).map (adb base)) i.toNatClampNeg (some (base + v)) = fun j => ((l0 ++ [v])[j]?).map (adb base) := by
      funext q
      by_cases hq : q = i.toNatClampNeg
      · subst hq
        rw [hil]
        simp [va_up, adb]
      · simp only [va_up, if_neg hq]
        rw [List.getElem?_append]
        split
        · rfl
        · rw [List.getElem?_eq_none (by omega), List.getElem?_eq_none (by simp; omega)]
    simp only [sxc]
    rw [hfn]
  · have e2 : H1[base + K]? = some (Cell.setSlot (vp_cell (cA t) (n, .inr (.inr (.inr (.inr (fun i => (l0[i]?).map (adb base))))))) i.toNatClampNeg (.ref (base + v))) := e1
    show H1[base + K]? = some (vp_cell _ _)
    rw [e2]
    rw [vp_cell_q, vp_cell_q, arrV_store]
    congr 2
    funext q
    by_cases hq : q = i.toNatClampNeg
    · subst hq; simp [updV, va_up, va_rf]
    · simp [updV, va_up, hq]
theorem wn_vret (C0 : CN D tl cA own cc nL p s m args meth c) {sl' : List vSh} {S' : vS} (hs : sl = sl') (hS' : S = S') (hdg : decode cc pc = .ok (.return_, 1)) : WN p l e R s m args below meth c D cA base (MQ below (QoN D cA base sl' S') args s cells slots (Ab base)) cells slots sl S pc ls [] := by
  intro H locs hP hS
  subst hs; subst hS'
  have hlocks : meth.locks = false := C0.2.2.2.2.2.2.2.1
  exact W.vret C0.1 C0.2.1 C0.2.2.2.2.2.2.2.2.1 (fun t ht hW => ⟨rfl, by rw [ht]; exact hP, hS.F ht⟩) hS.2.2 hdg hlocks
theorem wn_init (C0 : CN D tl cA own cc nL p s m args meth c) {y : MethodName} {bytes : ByteArray} {maxL index n mc ms : Nat} {rm : Room} {sl1 : List vSh} {S1 : vS} {As stk : List Value} {a : Nat}  (hM : Met l y (Cond.code y bytes maxL none :: ALL) rm (PoN D tl cA base (.ref a :: As) sl S) (QoN D cA base sl1 S1) mc ms (Ab base)) (hlk : Cond.methodLink own index y ∈ ALL) (hcode : Cond.code y bytes maxL none ∈ ALL) (hini : Cond.initialized y.cls ∈ ALL) (hy1 : y.name = "<init>") (hno : y.cls ≠ "java/lang/invoke/MethodHandle" ∧ y.cls ≠ "java/lang/invoke/VarHandle" ∧ (parseMethodDescriptor y.desc).map (fun d => d.parameters.length) = some n) (hi : Cond.instanceMethod y ∈ ALL) (hrc : rm.cells = mc ∧ rm.slots = ms) (hR : rm.frames + 1 ≤ R.frames ∧ 8 + (maxL + 11) + rm.locals ≤ R.locals) (hf : cells + mc ≤ R.cells ∧ slots + ms ≤ R.slots) (hn : As.length = n) (hsz : ls.size = nL) (hrest : (st.map fun v => v.category).sum ≤ 8) (hst : stk = As.reverse ++ .ref a :: st) (hdg : decode cc pc = .ok (.invokespecial index, 3)) (kk : WN p l e R s m args below meth c D cA base Q (cells + mc) (slots + ms) sl1 S1 (pc + 3) ls st) : WN p l e R s m args below meth c D cA base Q cells slots sl S pc ls stk := by
  intro H locs hP hS
  have hts := C0.2.2.2.2.1
  have hG : GoodIn ALL (Cond.code y bytes maxL none :: ALL) := fun w h => by
    rcases List.mem_cons.mp h with rfl | h
    · exact al_self _ hcode
    · exact al_self w h
  have hbl : FrameBlind (PoN D tl cA base (.ref a :: As) sl S) := by
    intro av U g mk q
    obtain ⟨q0, qP, qK, qE⟩ := q
    exact ⟨q0, qP, va_K.moved (u := U) (U := U.calling g mk av) (Vm.Alike.refl U.vm) qK, NW.same rfl qE⟩
  have run : va_Run p l e R s m args below meth c H locs cells slots mc ms (F0 m pc ls stk) st _ (Ab base) := va_runI (As := As) (rest := st) (b := a) ⟨C0.1, C0.2.1, C0.2.2.1, C0.2.2.2.1, hts⟩ hM (cwI n hts hG rfl hrc.1 hrc.2 (hts _ hini) (hts _ hlk) (hts _ hi) hy1 hno hR) ⟨hbl, fun U hU hW => ⟨rfl, by rw [hU]; exact hP, va_K.moved hW.alike C0.2.2.2.2.2.1, NW.warm hW C0.2.2.2.2.2.2.1⟩⟩ rfl hn hsz hst (lv_room hrest) hdg hf
  intro T hT X
  obtain ⟨v', st₀, t, T', L, h0, X', hL, e1, e2, ⟨hv, hP1, hF⟩, stp⟩ := run T hT X
  cases hv
  have hF2 : va_F (Ab base) st₀ t := hF
  unfold va_F at hF2
  rw [h0] at hF2
  obtain ⟨t2, a1, b1⟩ := kk T'.heap (locs ++ L) (by rw [e1]; exact hP1)
    ⟨Nat.le_trans hS.1 (by rw [e1]; exact hF2.1), fun q h1 h2 => by rw [e1, hF2.2 q (Nat.lt_of_lt_of_le h1 hS.1) h2]; exact hS.2.1 q h1 h2, fun q hq => by
      rcases List.mem_append.mp hq with h | h
      · exact hS.2.2 q h
      · exact hL q h⟩ T' rfl X'
  exact ⟨t2, stp t2 a1, b1⟩
theorem wn_initN (C0 : CN D tl cA own cc nL p s m args meth c) {y : MethodName} {bytes : ByteArray} {maxL index n mc ms : Nat} {rm : Room} {sl1 : List vSh} {S1 : vS} {As stk : List Value} {a : Nat} {host : String} (hM : Met l y (Cond.code y bytes maxL none :: ALL) rm (PoN D tl cA base (.ref a :: As) sl S) (QoN D cA base sl1 S1) mc ms (Ab base)) (hlk : va_Nw (.methodLinkNest own index y host) s) (hcode : Cond.code y bytes maxL none ∈ ALL) (hini : Cond.initialized y.cls ∈ ALL) (hy1 : y.name = "<init>") (hno : y.cls ≠ "java/lang/invoke/MethodHandle" ∧ y.cls ≠ "java/lang/invoke/VarHandle" ∧ (parseMethodDescriptor y.desc).map (fun d => d.parameters.length) = some n) (hi : Cond.instanceMethod y ∈ ALL) (hrc : rm.cells = mc ∧ rm.slots = ms) (hR : rm.frames + 1 ≤ R.frames ∧ 8 + (maxL + 11) + rm.locals ≤ R.locals) (hf : cells + mc ≤ R.cells ∧ slots + ms ≤ R.slots) (hn : As.length = n) (hsz : ls.size = nL) (hrest : (st.map fun v => v.category).sum ≤ 8) (hst : stk = As.reverse ++ .ref a :: st) (hdg : decode cc pc = .ok (.invokespecial index, 3)) (kk : WN p l e R s m args below meth c D cA base Q (cells + mc) (slots + ms) sl1 S1 (pc + 3) ls st) : WN p l e R s m args below meth c D cA base Q cells slots sl S pc ls stk := by
  intro H locs hP hS
  have hts := C0.2.2.2.2.1
  have hG : GoodIn ALL (Cond.code y bytes maxL none :: ALL) := fun w h => by
    rcases List.mem_cons.mp h with rfl | h
    · exact al_self _ hcode
    · exact al_self w h
  have hbl : FrameBlind (PoN D tl cA base (.ref a :: As) sl S) := by
    intro av U g mk q
    obtain ⟨q0, qP, qK, qE⟩ := q
    exact ⟨q0, qP, va_K.moved (u := U) (U := U.calling g mk av) (Vm.Alike.refl U.vm) qK, NW.same rfl qE⟩
  have run : va_Run p l e R s m args below meth c H locs cells slots mc ms (F0 m pc ls stk) st _ (Ab base) := va_runIN (As := As) (rest := st) (b := a) ⟨C0.1, C0.2.1, C0.2.2.1, C0.2.2.2.1, hts⟩ hM (⟨va_cnB n hts hG rfl hrc.1 hrc.2 hlk (hts _ hini) hno hR, hy1, hts _ hi⟩) ⟨hbl, fun U hU hW => ⟨rfl, by rw [hU]; exact hP, va_K.moved hW.alike C0.2.2.2.2.2.1, NW.warm hW C0.2.2.2.2.2.2.1⟩⟩ rfl hn hsz hst (lv_room hrest) hdg hf
  intro T hT X
  obtain ⟨v', st₀, t, T', L, h0, X', hL, e1, e2, ⟨hv, hP1, hF⟩, stp⟩ := run T hT X
  cases hv
  have hF2 : va_F (Ab base) st₀ t := hF
  unfold va_F at hF2
  rw [h0] at hF2
  obtain ⟨t2, a1, b1⟩ := kk T'.heap (locs ++ L) (by rw [e1]; exact hP1)
    ⟨Nat.le_trans hS.1 (by rw [e1]; exact hF2.1), fun q h1 h2 => by rw [e1, hF2.2 q (Nat.lt_of_lt_of_le h1 hS.1) h2]; exact hS.2.1 q h1 h2, fun q hq => by
      rcases List.mem_append.mp hq with h | h
      · exact hS.2.2 q h
      · exact hL q h⟩ T' rfl X'
  exact ⟨t2, stp t2 a1, b1⟩
end WNR
