/-! ===== A WORLD OF FIXED SHAPE: cells by number, the numbers that change in one function; a method's mirror and the rows that hold the machine against it ===== -/
/-- what changes: the ints and the longs of cell k at place j -/
abbrev vS : Type := (Nat → Nat → Int32) × (Nat → Nat → Int64)
def wI (S : vS) (k j : Nat) (v : Int32) : vS := (va_up S.1 k (upd (S.1 k) j v), S.2)
def wL (S : vS) (k j : Nat) (v : Int64) : vS := (S.1, va_up S.2 k (vp_updL (S.2 k) j v))
def wR (S : vS) (k : Nat) (f : Nat → Int32) : vS := (va_up S.1 k f, S.2)
/-- a cell's shape: an array of ints (its type's place, its length); of references (type's place, length, the cells of its first places); an object (class's place; a field is 0 an int, 1 a long, 2 a cell, 3 null) -/
abbrev vSh : Type := (Nat × Nat) ⊕ ((Nat × Nat × List Nat) ⊕ (Nat × List (Nat × Nat)))
def sxf (ad : Nat → Nat) (S : vS) (k : Nat) (j : Nat) (q : Nat × Nat) : Value := match q with
  | (0, _) => .int (S.1 k j)
  | (1, _) => .long (S.2 k j)
  | (2, t) => .ref (ad t)
  | _ => .null
def sxc (cA : Nat → ClassId) (ad : Nat → Nat) (S : vS) (k : Nat) (sh : vSh) : va_E := match sh with
  | .inl a => .inl (cA a.1, a.2, .inl (S.1 k))
  | .inr (.inl a) => .inl (cA a.1, a.2.1, .inr (.inr (.inr (.inr (fun i => (a.2.2[i]?).map ad)))))
  | .inr (.inr q) => .inr (q.1, q.2.mapIdx (sxf ad S k))
def wsl (sl : List vSh) (cA : Nat → ClassId) (ad : Nat → Nat) (S : vS) : va_W := sl.mapIdx (fun k sh => (ad k, sxc cA ad S k sh))
def tyl (tl : List FieldType) (cA : Nat → ClassId) : List (ClassId × FieldType) := tl.mapIdx (fun t ty => (cA t, ty))
def aw (sl : List vSh) (ad : Nat → Nat) : Nat → Prop := fun q => ∃ k, k < sl.length ∧ q = ad k
/-- a value of two uses -/
def lt {α β : Type} (e : α) (K : α → β) : β := K e
def isB (r : Int32) : Prop := r = 0 ∨ r = 1
def gI (f : Nat → Int32) (n : Nat) (i : Int32) : Option Int32 := if i < 0 ∨ n ≤ i.toNatClampNeg then none else some (f i.toNatClampNeg)
def pI (S : vS) (k n : Nat) (i x : Int32) : Option vS := if i < 0 ∨ n ≤ i.toNatClampNeg then none else some (wI S k i.toNatClampNeg x)
def aI (l : List Nat) (i : Int32) : Option Nat := if i < 0 then none else l[i.toNatClampNeg]?
def mxI (x y : Int32) : Int32 := if x < y then y else x
def mnI (x y : Int32) : Int32 := if y < x then y else x
def dI (x y : Int32) : Option Int32 := if y = 0 then none else some (x / y)
def rI (x y : Int32) : Option Int32 := if y = 0 then none else some (x - x / y * y)
def dL (x y : Int64) : Option Int64 := if y = 0 then none else some (x / y)
def rL (x y : Int64) : Option Int64 := if y = 0 then none else some (x - x / y * y)
def cI (S : vS) (k0 n0 : Nat) (sp : Int32) (k1 n1 : Nat) (dp n : Int32) : Option vS := if sp < 0 ∨ dp < 0 ∨ n < 0 ∨ n0 < sp.toNatClampNeg + n.toNatClampNeg ∨ n1 < dp.toNatClampNeg + n.toNatClampNeg then none else some (wR S k1 (va_cpy (S.1 k0) (S.1 k1) sp.toNatClampNeg dp.toNatClampNeg n.toNatClampNeg))
theorem wsl_get {sl : List vSh} {cA : Nat → ClassId} {ad : Nat → Nat} {S : vS} {k : Nat} {sh : vSh} (h : sl[k]? = some sh) : (wsl sl cA ad S)[k]? = some (ad k, sxc cA ad S k sh) := by
  simp [wsl, List.getElem?_mapIdx, h]
theorem wsl_len {sl : List vSh} {cA : Nat → ClassId} {ad : Nat → Nat} {S : vS} : (wsl sl cA ad S).length = sl.length := by simp [wsl]
theorem tyl_get {tl : List FieldType} {cA : Nat → ClassId} {t : Nat} {ty : FieldType} (h : tl[t]? = some ty) : (tyl tl cA)[t]? = some (cA t, ty) := by
  simp [tyl, List.getElem?_mapIdx, h]
theorem sxc_neI {cA : Nat → ClassId} {ad : Nat → Nat} {S : vS} {k q : Nat} {f : Nat → Int32} {sh : vSh} (h : q ≠ k) : sxc cA ad (wR S k f) q sh = sxc cA ad S q sh := by
  have e : (wR S k f).1 q = S.1 q := by simp [wR, va_up, h]
  have e2 : (wR S k f).2 = S.2 := rfl
  rcases sh with a | a | a
  · simp only [sxc, e]
  · rfl
  · simp only [sxc]
    congr 2
    apply List.ext_getElem?
    intro j
    simp only [List.getElem?_mapIdx]
    cases a.2[j]? with
    | none => rfl
    | some v =>
      simp only [Option.map_some]
      congr 1
      unfold sxf
      split <;> simp only [e, e2]
theorem wsl_setR {sl : List vSh} {cA : Nat → ClassId} {ad : Nat → Nat} {S : vS} {k : Nat} {f : Nat → Int32} {e : va_E} {sh : vSh} (h : sl[k]? = some sh) (he : e = sxc cA ad (wR S k f) k sh) : (wsl sl cA ad S).set k (ad k, e) = wsl sl cA ad (wR S k f) := by
  subst he
  have hl := (List.getElem?_eq_some_iff.mp h).1
  apply List.ext_getElem?
  intro q
  by_cases hq : q = k
  · subst hq
    rw [List.getElem?_set_self (by rw [wsl_len]; exact hl), wsl_get h]
  · rw [List.getElem?_set_ne (fun z => hq z.symm)]
    simp only [wsl, List.getElem?_mapIdx]
    cases sl[q]? with
    | none => rfl
    | some v => simp only [Option.map_some]; rw [sxc_neI hq]
theorem sxc_neL {cA : Nat → ClassId} {ad : Nat → Nat} {S : vS} {k j q : Nat} {v : Int64} {sh : vSh} (h : q ≠ k) : sxc cA ad (wL S k j v) q sh = sxc cA ad S q sh := by
  have e : (wL S k j v).2 q = S.2 q := by simp [wL, va_up, h]
  have e2 : (wL S k j v).1 = S.1 := rfl
  rcases sh with a | a | a
  · simp only [sxc, e2]
  · rfl
  · simp only [sxc]
    congr 2
    apply List.ext_getElem?
    intro j
    simp only [List.getElem?_mapIdx]
    cases a.2[j]? with
    | none => rfl
    | some v =>
      simp only [Option.map_some]
      congr 1
      unfold sxf
      split <;> simp only [e, e2]
theorem wsl_setL {sl : List vSh} {cA : Nat → ClassId} {ad : Nat → Nat} {S : vS} {k j : Nat} {v : Int64} {e : va_E} {sh : vSh} (h : sl[k]? = some sh) (he : e = sxc cA ad (wL S k j v) k sh) : (wsl sl cA ad S).set k (ad k, e) = wsl sl cA ad (wL S k j v) := by
  subst he
  have hl := (List.getElem?_eq_some_iff.mp h).1
  apply List.ext_getElem?
  intro q
  by_cases hq : q = k
  · subst hq
    rw [List.getElem?_set_self (by rw [wsl_len]; exact hl), wsl_get h]
  · rw [List.getElem?_set_ne (fun z => hq z.symm)]
    simp only [wsl, List.getElem?_mapIdx]
    cases sl[q]? with
    | none => rfl
    | some v => simp only [Option.map_some]; rw [sxc_neL hq]
theorem sxc_setI {cA : Nat → ClassId} {ad : Nat → Nat} {S : vS} {k j z ci : Nat} {v : Int32} {fds : List (Nat × Nat)} (hf : fds[j]? = some (0, z)) : (Sum.inr (ci, ((fds.mapIdx (sxf ad S k)).set j (.int v))) : va_E) = sxc cA ad (wI S k j v) k (.inr (.inr (ci, fds))) := by
  have hl := (List.getElem?_eq_some_iff.mp hf).1
  simp only [sxc]
  congr 2
  apply List.ext_getElem?
  intro q
  by_cases hq : q = j
  · subst hq
    rw [List.getElem?_set_self (by simpa using hl)]
    simp [List.getElem?_mapIdx, hf, sxf, wI, va_up, upd]
  · rw [List.getElem?_set_ne (fun z => hq z.symm)]
    simp only [List.getElem?_mapIdx]
    cases fds[q]? with
    | none => rfl
    | some w =>
      simp only [Option.map_some]
      congr 1
      unfold sxf
      split <;> simp [wI, va_up, upd, hq]
theorem sxc_setL {cA : Nat → ClassId} {ad : Nat → Nat} {S : vS} {k j z ci : Nat} {v : Int64} {fds : List (Nat × Nat)} (hf : fds[j]? = some (1, z)) : (Sum.inr (ci, ((fds.mapIdx (sxf ad S k)).set j (.long v))) : va_E) = sxc cA ad (wL S k j v) k (.inr (.inr (ci, fds))) := by
  have hl := (List.getElem?_eq_some_iff.mp hf).1
  simp only [sxc]
  congr 2
  apply List.ext_getElem?
  intro q
  by_cases hq : q = j
  · subst hq
    rw [List.getElem?_set_self (by simpa using hl)]
    simp [List.getElem?_mapIdx, hf, sxf, wL, va_up, vp_updL]
  · rw [List.getElem?_set_ne (fun z => hq z.symm)]
    simp only [List.getElem?_mapIdx]
    cases fds[q]? with
    | none => rfl
    | some w =>
      simp only [Option.map_some]
      congr 1
      unfold sxf
      split <;> simp [wL, va_up, vp_updL, hq]
theorem wsl_setI {sl : List vSh} {cA : Nat → ClassId} {ad : Nat → Nat} {S : vS} {k j : Nat} {v : Int32} {e : va_E} {sh : vSh} (h : sl[k]? = some sh) (he : e = sxc cA ad (wI S k j v) k sh) : (wsl sl cA ad S).set k (ad k, e) = wsl sl cA ad (wI S k j v) := wsl_setR (f := upd (S.1 k) j v) h he
/-- what the addresses are: apart; and a fact of what nobody writes -/
def Gx (sl : List vSh) (ad : Nat → Nat) (Ex : State → Heap → Prop) : Prop := (∀ i j, i < sl.length → j < sl.length → ad i = ad j → i = j) ∧ (∀ (u U : State) (H : Heap), Ex u u.heap → u.vm.Alike U.vm → (∀ q, q < u.heap.size → ¬ aw sl ad q → H[q]? = u.heap[q]?) → Ex U H)
theorem Gx.D {sl : List vSh} {ad : Nat → Nat} {Ex : State → Heap → Prop} (G : Gx sl ad Ex) {cA : Nat → ClassId} {S : vS} : va_D (aw sl ad) (wsl sl cA ad S) := by
  have key : ∀ (k : Nat) (q : Nat × va_E), (wsl sl cA ad S)[k]? = some q → k < sl.length ∧ q.1 = ad k := by
    intro k q h
    have hl : k < sl.length := by have := (List.getElem?_eq_some_iff.mp h).1; rwa [wsl_len] at this
    have hs : sl[k]? = some sl[k] := List.getElem?_eq_getElem hl
    rw [wsl_get hs] at h
    cases h
    exact ⟨hl, rfl⟩
  refine ⟨fun i j p q hi hj hpq => ?_, fun k q hk => ?_⟩
  · obtain ⟨a1, a2⟩ := key i p hi
    obtain ⟨b1, b2⟩ := key j q hj
    exact G.1 i j a1 b1 (by rw [← a2, ← b2]; exact hpq)
  · obtain ⟨a1, a2⟩ := key k q hk
    exact ⟨k, a1, a2⟩
def Po (D : va_G) (cl : List vw_C) (tl : List FieldType) (sl : List vSh) (cA : Nat → ClassId) (ad : Nat → Nat) (Ex : State → Heap → Prop) (av : List Value) (S : vS) : Array Value → State → Prop :=
  va_Pc av (fun U => va_P D cl (wsl sl cA ad S) U.heap ∧ va_K D cl (tyl tl cA) U ∧ Ex U U.heap)
def Qo (D : va_G) (cl : List vw_C) (sl : List vSh) (cA : Nat → ClassId) (ad : Nat → Nat) (v : Option Value) (S : vS) (B : Prop) : Array Value → State → Outcome → State → Prop :=
  fun _ st oc t => oc = .returned v ∧ B ∧ va_P D cl (wsl sl cA ad S) t.heap ∧ va_F (aw sl ad) st t
def Cx (D : va_G) (cl : List vw_C) (tl : List FieldType) (sl : List vSh) (cA : Nat → ClassId) (ad : Nat → Nat) (Ex : State → Heap → Prop) (own : String) (cc : ByteArray) (nL : Nat) (rt : Option FieldType) (p : Program) (s : State) (m : MethodId) (args : Array Value) (meth : Method) (c : Code) : Prop :=
  p.tables.exec = Jvm.exec ∧ c.code = cc ∧ c.maxLocals = nL ∧ s.vm.findClass own = some m.cls ∧ (∀ w ∈ ALL, w.before args s = true) ∧ va_K D cl (tyl tl cA) s ∧ Ex s s.heap ∧ Gx sl ad Ex ∧ meth.locks = false ∧ meth.sig.returnType = rt
def SW {α : Type} (p : Program) (l : Launch) (e : Env) (R : Room) (s : State) (m : MethodId) (args : Array Value) (below : List Frame) (meth : Method) (c : Code) (D : va_G) (cl : List vw_C) (sl : List vSh) (cA : Nat → ClassId) (ad : Nat → Nat) (Qf : α → State → Prop) (M : Option α) (S : vS) (pc : Nat) (ls : Array Slot) (st : List Value) : Prop :=
  ∀ a, M = some a → ∀ (H : Heap) (locs : List Loc), va_P D cl (wsl sl cA ad S) H → va_S (aw sl ad) s.heap H locs → W p l e R s m args below meth c H locs 0 0 (Qf a) (F0 m pc ls st)
def Fq {α : Type} (D : va_G) (cl : List vw_C) (sl : List vSh) (cA : Nat → ClassId) (ad : Nat → Nat) (below : List Frame) (args : Array Value) (s : State) (rv : α → Option Value) (rs : α → vS) (B : α → Prop) : α → State → Prop :=
  fun a => MQ below (Qo D cl sl cA ad (rv a) (rs a) (B a)) args s 0 0 (aw sl ad)
theorem Po.blind {D : va_G} {cl : List vw_C} {tl : List FieldType} {sl : List vSh} {cA : Nat → ClassId} {ad : Nat → Nat} {Ex : State → Heap → Prop} {av : List Value} {S : vS} (G : Gx sl ad Ex) : FrameBlind (Po D cl tl sl cA ad Ex av S) := by
  intro a U g mk q
  obtain ⟨q0, qP, qK, qE⟩ := q
  exact ⟨q0, qP, va_K.moved (u := U) (U := U.calling g mk a) (Vm.Alike.refl U.vm) qK, G.2 U _ _ qE (Vm.Alike.refl U.vm) (fun _ _ _ => rfl)⟩
section SX
variable {α : Type} {p : Program} {l : Launch} {e : Env} {R : Room} {s : State} {m : MethodId} {args : Array Value} {below : List Frame} {meth : Method} {c : Code} {D : va_G} {cl : List vw_C} {tl : List FieldType} {sl : List vSh} {cA : Nat → ClassId} {ad : Nat → Nat} {Ex : State → Heap → Prop} {own : String} {cc : ByteArray} {nL : Nat} {rt : Option FieldType} {Qf : α → State → Prop} {M : Option α} {S : vS} {pc : Nat} {ls : Array Slot} {st : List Value}
/-- a contract out of a walk against a mirror -/
theorem Met.sx {y : MethodName} {rm : Room} {av : List Value} {rv : α → Option Value} {rs : α → vS} {B : α → Prop} (hy : plainName y.cls = true) (hrc : rm.cells = 0 ∧ rm.slots = 0) (hlen : (lg_sl av).length ≤ nL) (G : Gx sl ad Ex)
    (body : ∀ p e s m args below meth c, Cx D cl tl sl cA ad Ex y.cls cc nL rt p s m args meth c → ∀ ls, lv_has ls nL (lv_args 0 av) → SW p l e rm s m args below meth c D cl sl cA ad (Fq D cl sl cA ad below args s rv rs B) M S 0 ls [])
    {a : α} (ha : M = some a) : Met l y (Cond.code y cc nL rt :: ALL) rm (Po D cl tl sl cA ad Ex av S) (Qo D cl sl cA ad (rv a) (rs a) (B a)) 0 0 (aw sl ad) := by
  refine Met.ofW (cc := cc) (maxL := nL) (ret := rt) hy rfl ?_
  intro p e s m args below meth c s₁ B hml hv
  obtain ⟨rfl, hP, hK, hE⟩ := hv
  have hts := atoms_spec (ws := Cond.code y cc nL rt :: ALL) B.pre
  have hl := lv_entry av (n := nL) hlen
  rw [lg_entry_eq]
  exact body p e s m av.toArray below meth c ⟨B.exec, B.bytes, hml, findClass_of_methodNamed B.named, fun w hw => hts w (List.mem_cons_of_mem _ hw), hK, hE, G, B.notSynchronized, B.returns⟩ _ hl a ha s.heap [] hP va_S.rf
theorem sw_none : SW p l e R s m args below meth c D cl sl cA ad Qf none S pc ls st := fun _ h => nomatch h
theorem sw_lt {β : Type} {v : β} {val : β → Value} {K : β → Option α} (kk : ∀ x : β, SW p l e R s m args below meth c D cl sl cA ad Qf (K x) S pc ls (val x :: st)) : SW p l e R s m args below meth c D cl sl cA ad Qf (lt v K) S pc ls (val v :: st) := kk v
theorem sw_lts {β : Type} {v : β} {val : β → Value} {K : β → α} (kk : ∀ x : β, SW p l e R s m args below meth c D cl sl cA ad Qf (some (K x)) S pc ls (val x :: st)) : SW p l e R s m args below meth c D cl sl cA ad Qf (some (lt v K)) S pc ls (val v :: st) := kk v

theorem sx_iconst (C0 : Cx D cl tl sl cA ad Ex own cc nL rt p s m args meth c) {n : Int} {v : Int32} (hdg : decode cc pc = .ok (.iconst n, 1)) (hv : Int32.ofInt n = v) (kk : SW p l e R s m args below meth c D cl sl cA ad Qf M S (pc + 1) ls (.int v :: st)) : SW p l e R s m args below meth c D cl sl cA ad Qf M S pc ls st := fun a ha H locs hP hS => lv_iconst C0.1 C0.2.1 hdg hv (kk a ha H locs hP hS)
theorem sx_bipush (C0 : Cx D cl tl sl cA ad Ex own cc nL rt p s m args meth c) {n : Int} {v : Int32} (hdg : decode cc pc = .ok (.bipush n, 2)) (hv : (Int8.ofInt n).toInt32 = v) (kk : SW p l e R s m args below meth c D cl sl cA ad Qf M S (pc + 2) ls (.int v :: st)) : SW p l e R s m args below meth c D cl sl cA ad Qf M S pc ls st := fun a ha H locs hP hS => lv_bipush C0.1 C0.2.1 hdg hv (kk a ha H locs hP hS)
theorem sx_sipush (C0 : Cx D cl tl sl cA ad Ex own cc nL rt p s m args meth c) {n : Int} {v : Int32} (hdg : decode cc pc = .ok (.sipush n, 3)) (hv : (Int16.ofInt n).toInt32 = v) (kk : SW p l e R s m args below meth c D cl sl cA ad Qf M S (pc + 3) ls (.int v :: st)) : SW p l e R s m args below meth c D cl sl cA ad Qf M S pc ls st := fun a ha H locs hP hS => lv_sipush C0.1 C0.2.1 hdg hv (kk a ha H locs hP hS)
theorem sx_lconst (C0 : Cx D cl tl sl cA ad Ex own cc nL rt p s m args meth c) {n : Fin 2} {v : Int64} (hdg : decode cc pc = .ok (.lconst n, 1)) (hv : Int64.ofNat (n : Nat) = v) (kk : SW p l e R s m args below meth c D cl sl cA ad Qf M S (pc + 1) ls (.long v :: st)) : SW p l e R s m args below meth c D cl sl cA ad Qf M S pc ls st := fun a ha H locs hP hS => lv_lconst C0.1 C0.2.1 hdg hv (kk a ha H locs hP hS)
theorem sx_ldc (C0 : Cx D cl tl sl cA ad Ex own cc nL rt p s m args meth c) {index : Nat} {v : Int32} (hw : Cond.constant own index v ∈ ALL) (hdg : decode cc pc = .ok (.ldc index, 2)) (kk : SW p l e R s m args below meth c D cl sl cA ad Qf M S (pc + 2) ls (.int v :: st)) : SW p l e R s m args below meth c D cl sl cA ad Qf M S pc ls st := fun a ha H locs hP hS => lv_ldc C0.1 C0.2.1 C0.2.2.2.1 (C0.2.2.2.2.1 _ hw) hdg (kk a ha H locs hP hS)
theorem sx_ldcw (C0 : Cx D cl tl sl cA ad Ex own cc nL rt p s m args meth c) {index : Nat} {v : Int32} (hw : Cond.constant own index v ∈ ALL) (hdg : decode cc pc = .ok (.ldc_w index, 3)) (kk : SW p l e R s m args below meth c D cl sl cA ad Qf M S (pc + 3) ls (.int v :: st)) : SW p l e R s m args below meth c D cl sl cA ad Qf M S pc ls st := fun a ha H locs hP hS => lv_ldcw C0.1 C0.2.1 C0.2.2.2.1 (C0.2.2.2.2.1 _ hw) hdg (kk a ha H locs hP hS)
theorem sx_ldc2 (C0 : Cx D cl tl sl cA ad Ex own cc nL rt p s m args meth c) {index : Nat} {v : Int64} (hw : Cond.constantLong own index v ∈ ALL) (hdg : decode cc pc = .ok (.ldc2_w index, 3)) (kk : SW p l e R s m args below meth c D cl sl cA ad Qf M S (pc + 3) ls (.long v :: st)) : SW p l e R s m args below meth c D cl sl cA ad Qf M S pc ls st := fun a ha H locs hP hS => lv_ldc2 C0.1 C0.2.1 C0.2.2.2.1 (C0.2.2.2.2.1 _ hw) hdg (kk a ha H locs hP hS)
theorem sx_iload_n (C0 : Cx D cl tl sl cA ad Ex own cc nL rt p s m args meth c) {k : Fin 4} {i : Nat} {x : Int32} (hdg : decode cc pc = .ok (.iload_n k, 1)) (hi : (k : Nat) = i) (hl : ls[i]? = some (.val (.int x))) (kk : SW p l e R s m args below meth c D cl sl cA ad Qf M S (pc + 1) ls (.int x :: st)) : SW p l e R s m args below meth c D cl sl cA ad Qf M S pc ls st := fun a ha H locs hP hS => lv_iload_n C0.1 C0.2.1 hdg hi hl (kk a ha H locs hP hS)
theorem sx_iload (C0 : Cx D cl tl sl cA ad Ex own cc nL rt p s m args meth c) {i : Nat} {x : Int32} (hdg : decode cc pc = .ok (.iload i, 2)) (hl : ls[i]? = some (.val (.int x))) (kk : SW p l e R s m args below meth c D cl sl cA ad Qf M S (pc + 2) ls (.int x :: st)) : SW p l e R s m args below meth c D cl sl cA ad Qf M S pc ls st := fun a ha H locs hP hS => lv_iload C0.1 C0.2.1 hdg hl (kk a ha H locs hP hS)
theorem sx_lload_n (C0 : Cx D cl tl sl cA ad Ex own cc nL rt p s m args meth c) {k : Fin 4} {i : Nat} {x : Int64} (hdg : decode cc pc = .ok (.lload_n k, 1)) (hi : (k : Nat) = i) (hl : ls[i]? = some (.val (.long x))) (kk : SW p l e R s m args below meth c D cl sl cA ad Qf M S (pc + 1) ls (.long x :: st)) : SW p l e R s m args below meth c D cl sl cA ad Qf M S pc ls st := fun a ha H locs hP hS => lv_lload_n C0.1 C0.2.1 hdg hi hl (kk a ha H locs hP hS)
theorem sx_lload (C0 : Cx D cl tl sl cA ad Ex own cc nL rt p s m args meth c) {i : Nat} {x : Int64} (hdg : decode cc pc = .ok (.lload i, 2)) (hl : ls[i]? = some (.val (.long x))) (kk : SW p l e R s m args below meth c D cl sl cA ad Qf M S (pc + 2) ls (.long x :: st)) : SW p l e R s m args below meth c D cl sl cA ad Qf M S pc ls st := fun a ha H locs hP hS => lv_lload C0.1 C0.2.1 hdg hl (kk a ha H locs hP hS)
theorem sx_aload_n (C0 : Cx D cl tl sl cA ad Ex own cc nL rt p s m args meth c) {k : Fin 4} {i x : Nat} (hdg : decode cc pc = .ok (.aload_n k, 1)) (hi : (k : Nat) = i) (hl : ls[i]? = some (.val (.ref x))) (kk : SW p l e R s m args below meth c D cl sl cA ad Qf M S (pc + 1) ls (.ref x :: st)) : SW p l e R s m args below meth c D cl sl cA ad Qf M S pc ls st := fun a ha H locs hP hS => lv_aload_n C0.1 C0.2.1 hdg hi hl (kk a ha H locs hP hS)
theorem sx_aload (C0 : Cx D cl tl sl cA ad Ex own cc nL rt p s m args meth c) {i x : Nat} (hdg : decode cc pc = .ok (.aload i, 2)) (hl : ls[i]? = some (.val (.ref x))) (kk : SW p l e R s m args below meth c D cl sl cA ad Qf M S (pc + 2) ls (.ref x :: st)) : SW p l e R s m args below meth c D cl sl cA ad Qf M S pc ls st := fun a ha H locs hP hS => lv_aload C0.1 C0.2.1 hdg hl (kk a ha H locs hP hS)
theorem sx_istore_n (C0 : Cx D cl tl sl cA ad Ex own cc nL rt p s m args meth c) {k : Fin 4} {i : Nat} {x : Int32} {lv lv' : List (Nat × Value)} (hdg : decode cc pc = .ok (.istore_n k, 1)) (hi : (k : Nat) = i) (h : lv_has ls nL lv) (hn : i < nL) (hl : (i, Value.int x) :: lv.filter (fun q => !(q.1 == i) && !(q.1 + 1 == i && q.2.category == 2)) = lv') (kk : ∀ lsq : Array Slot, lv_has lsq nL lv' → SW p l e R s m args below meth c D cl sl cA ad Qf M S (pc + 1) lsq st) : SW p l e R s m args below meth c D cl sl cA ad Qf M S pc ls (.int x :: st) := fun a ha H locs hP hS => lv_istore_n C0.1 C0.2.1 hdg hi h hn hl (fun lsq h9 => kk lsq h9 a ha H locs hP hS)
theorem sx_istore (C0 : Cx D cl tl sl cA ad Ex own cc nL rt p s m args meth c) {i : Nat} {x : Int32} {lv lv' : List (Nat × Value)} (hdg : decode cc pc = .ok (.istore i, 2)) (h : lv_has ls nL lv) (hn : i < nL) (hl : (i, Value.int x) :: lv.filter (fun q => !(q.1 == i) && !(q.1 + 1 == i && q.2.category == 2)) = lv') (kk : ∀ lsq : Array Slot, lv_has lsq nL lv' → SW p l e R s m args below meth c D cl sl cA ad Qf M S (pc + 2) lsq st) : SW p l e R s m args below meth c D cl sl cA ad Qf M S pc ls (.int x :: st) := fun a ha H locs hP hS => lv_istore C0.1 C0.2.1 hdg h hn hl (fun lsq h9 => kk lsq h9 a ha H locs hP hS)
theorem sx_lstore_n (C0 : Cx D cl tl sl cA ad Ex own cc nL rt p s m args meth c) {k : Fin 4} {i : Nat} {x : Int64} {lv lv' : List (Nat × Value)} (hdg : decode cc pc = .ok (.lstore_n k, 1)) (hi : (k : Nat) = i) (h : lv_has ls nL lv) (hn : i + 1 < nL) (hl : (i, Value.long x) :: lv.filter (fun q => !(q.1 == i) && (!(q.1 == i + 1) && !(q.1 + 1 == i && q.2.category == 2))) = lv') (kk : ∀ lsq : Array Slot, lv_has lsq nL lv' → SW p l e R s m args below meth c D cl sl cA ad Qf M S (pc + 1) lsq st) : SW p l e R s m args below meth c D cl sl cA ad Qf M S pc ls (.long x :: st) := fun a ha H locs hP hS => lv_lstore_n C0.1 C0.2.1 hdg hi h hn hl (fun lsq h9 => kk lsq h9 a ha H locs hP hS)
theorem sx_lstore (C0 : Cx D cl tl sl cA ad Ex own cc nL rt p s m args meth c) {i : Nat} {x : Int64} {lv lv' : List (Nat × Value)} (hdg : decode cc pc = .ok (.lstore i, 2)) (h : lv_has ls nL lv) (hn : i + 1 < nL) (hl : (i, Value.long x) :: lv.filter (fun q => !(q.1 == i) && (!(q.1 == i + 1) && !(q.1 + 1 == i && q.2.category == 2))) = lv') (kk : ∀ lsq : Array Slot, lv_has lsq nL lv' → SW p l e R s m args below meth c D cl sl cA ad Qf M S (pc + 2) lsq st) : SW p l e R s m args below meth c D cl sl cA ad Qf M S pc ls (.long x :: st) := fun a ha H locs hP hS => lv_lstore C0.1 C0.2.1 hdg h hn hl (fun lsq h9 => kk lsq h9 a ha H locs hP hS)
theorem sx_astore_n (C0 : Cx D cl tl sl cA ad Ex own cc nL rt p s m args meth c) {k : Fin 4} {i : Nat} {x : Nat} {lv lv' : List (Nat × Value)} (hdg : decode cc pc = .ok (.astore_n k, 1)) (hi : (k : Nat) = i) (h : lv_has ls nL lv) (hn : i < nL) (hl : (i, Value.ref x) :: lv.filter (fun q => !(q.1 == i) && !(q.1 + 1 == i && q.2.category == 2)) = lv') (kk : ∀ lsq : Array Slot, lv_has lsq nL lv' → SW p l e R s m args below meth c D cl sl cA ad Qf M S (pc + 1) lsq st) : SW p l e R s m args below meth c D cl sl cA ad Qf M S pc ls (.ref x :: st) := fun a ha H locs hP hS => lv_astore_n C0.1 C0.2.1 hdg hi h hn hl (fun lsq h9 => kk lsq h9 a ha H locs hP hS)
theorem sx_iinc (C0 : Cx D cl tl sl cA ad Ex own cc nL rt p s m args meth c) {i k : Nat} {n : Int} {x v : Int32} {lv lv' : List (Nat × Value)} (hdg : decode cc pc = .ok (.iinc i n, 3)) (h : lv_has ls nL lv) (hk : lv[k]? = some (i, .int x)) (hv : x + Int32.ofInt n = v) (hn : i < nL) (hl : (i, Value.int v) :: lv.filter (fun q => !(q.1 == i) && !(q.1 + 1 == i && q.2.category == 2)) = lv') (kk : ∀ lsq : Array Slot, lv_has lsq nL lv' → SW p l e R s m args below meth c D cl sl cA ad Qf M S (pc + 3) lsq st) : SW p l e R s m args below meth c D cl sl cA ad Qf M S pc ls st := fun a ha H locs hP hS => lv_iinc C0.1 C0.2.1 hdg h hk hv hn hl (fun lsq h9 => kk lsq h9 a ha H locs hP hS)
theorem sx_iadd (C0 : Cx D cl tl sl cA ad Ex own cc nL rt p s m args meth c) {x y : Int32} (hdg : decode cc pc = .ok (.iadd, 1)) (kk : SW p l e R s m args below meth c D cl sl cA ad Qf M S (pc + 1) ls (.int (x + y) :: st)) : SW p l e R s m args below meth c D cl sl cA ad Qf M S pc ls (.int y :: .int x :: st) := fun a ha H locs hP hS => lv_iadd C0.1 C0.2.1 hdg (kk a ha H locs hP hS)
theorem sx_isub (C0 : Cx D cl tl sl cA ad Ex own cc nL rt p s m args meth c) {x y : Int32} (hdg : decode cc pc = .ok (.isub, 1)) (kk : SW p l e R s m args below meth c D cl sl cA ad Qf M S (pc + 1) ls (.int (x - y) :: st)) : SW p l e R s m args below meth c D cl sl cA ad Qf M S pc ls (.int y :: .int x :: st) := fun a ha H locs hP hS => lv_isub C0.1 C0.2.1 hdg (kk a ha H locs hP hS)
theorem sx_imul (C0 : Cx D cl tl sl cA ad Ex own cc nL rt p s m args meth c) {x y : Int32} (hdg : decode cc pc = .ok (.imul, 1)) (kk : SW p l e R s m args below meth c D cl sl cA ad Qf M S (pc + 1) ls (.int (x * y) :: st)) : SW p l e R s m args below meth c D cl sl cA ad Qf M S pc ls (.int y :: .int x :: st) := fun a ha H locs hP hS => lv_imul C0.1 C0.2.1 hdg (kk a ha H locs hP hS)
theorem sx_iand (C0 : Cx D cl tl sl cA ad Ex own cc nL rt p s m args meth c) {x y : Int32} (hdg : decode cc pc = .ok (.iand, 1)) (kk : SW p l e R s m args below meth c D cl sl cA ad Qf M S (pc + 1) ls (.int (x &&& y) :: st)) : SW p l e R s m args below meth c D cl sl cA ad Qf M S pc ls (.int y :: .int x :: st) := fun a ha H locs hP hS => lv_iand C0.1 C0.2.1 hdg (kk a ha H locs hP hS)
theorem sx_ior (C0 : Cx D cl tl sl cA ad Ex own cc nL rt p s m args meth c) {x y : Int32} (hdg : decode cc pc = .ok (.ior, 1)) (kk : SW p l e R s m args below meth c D cl sl cA ad Qf M S (pc + 1) ls (.int (x ||| y) :: st)) : SW p l e R s m args below meth c D cl sl cA ad Qf M S pc ls (.int y :: .int x :: st) := fun a ha H locs hP hS => lv_ior C0.1 C0.2.1 hdg (kk a ha H locs hP hS)
theorem sx_ixor (C0 : Cx D cl tl sl cA ad Ex own cc nL rt p s m args meth c) {x y : Int32} (hdg : decode cc pc = .ok (.ixor, 1)) (kk : SW p l e R s m args below meth c D cl sl cA ad Qf M S (pc + 1) ls (.int (x ^^^ y) :: st)) : SW p l e R s m args below meth c D cl sl cA ad Qf M S pc ls (.int y :: .int x :: st) := fun a ha H locs hP hS => lv_ixor C0.1 C0.2.1 hdg (kk a ha H locs hP hS)
theorem sx_ishl (C0 : Cx D cl tl sl cA ad Ex own cc nL rt p s m args meth c) {x y : Int32} (hdg : decode cc pc = .ok (.ishl, 1)) (kk : SW p l e R s m args below meth c D cl sl cA ad Qf M S (pc + 1) ls (.int (x <<< (y &&& 31)) :: st)) : SW p l e R s m args below meth c D cl sl cA ad Qf M S pc ls (.int y :: .int x :: st) := fun a ha H locs hP hS => lv_ishl C0.1 C0.2.1 hdg (kk a ha H locs hP hS)
theorem sx_ishr (C0 : Cx D cl tl sl cA ad Ex own cc nL rt p s m args meth c) {x y : Int32} (hdg : decode cc pc = .ok (.ishr, 1)) (kk : SW p l e R s m args below meth c D cl sl cA ad Qf M S (pc + 1) ls (.int (x >>> (y &&& 31)) :: st)) : SW p l e R s m args below meth c D cl sl cA ad Qf M S pc ls (.int y :: .int x :: st) := fun a ha H locs hP hS => lv_ishr C0.1 C0.2.1 hdg (kk a ha H locs hP hS)
theorem sx_iushr (C0 : Cx D cl tl sl cA ad Ex own cc nL rt p s m args meth c) {x y : Int32} (hdg : decode cc pc = .ok (.iushr, 1)) (kk : SW p l e R s m args below meth c D cl sl cA ad Qf M S (pc + 1) ls (.int ((x.toUInt32 >>> (y.toUInt32 &&& Int32.toUInt32 31)).toInt32) :: st)) : SW p l e R s m args below meth c D cl sl cA ad Qf M S pc ls (.int y :: .int x :: st) := fun a ha H locs hP hS => lv_iushr C0.1 C0.2.1 hdg rfl (kk a ha H locs hP hS)
theorem sx_ladd (C0 : Cx D cl tl sl cA ad Ex own cc nL rt p s m args meth c) {x y : Int64} (hdg : decode cc pc = .ok (.ladd, 1)) (kk : SW p l e R s m args below meth c D cl sl cA ad Qf M S (pc + 1) ls (.long (x + y) :: st)) : SW p l e R s m args below meth c D cl sl cA ad Qf M S pc ls (.long y :: .long x :: st) := fun a ha H locs hP hS => lv_ladd C0.1 C0.2.1 hdg (kk a ha H locs hP hS)
theorem sx_lsub (C0 : Cx D cl tl sl cA ad Ex own cc nL rt p s m args meth c) {x y : Int64} (hdg : decode cc pc = .ok (.lsub, 1)) (kk : SW p l e R s m args below meth c D cl sl cA ad Qf M S (pc + 1) ls (.long (x - y) :: st)) : SW p l e R s m args below meth c D cl sl cA ad Qf M S pc ls (.long y :: .long x :: st) := fun a ha H locs hP hS => lv_lsub C0.1 C0.2.1 hdg (kk a ha H locs hP hS)
theorem sx_lmul (C0 : Cx D cl tl sl cA ad Ex own cc nL rt p s m args meth c) {x y : Int64} (hdg : decode cc pc = .ok (.lmul, 1)) (kk : SW p l e R s m args below meth c D cl sl cA ad Qf M S (pc + 1) ls (.long (x * y) :: st)) : SW p l e R s m args below meth c D cl sl cA ad Qf M S pc ls (.long y :: .long x :: st) := fun a ha H locs hP hS => lv_lmul C0.1 C0.2.1 hdg (kk a ha H locs hP hS)
theorem sx_ineg (C0 : Cx D cl tl sl cA ad Ex own cc nL rt p s m args meth c) {x : Int32} (hdg : decode cc pc = .ok (.ineg, 1)) (kk : SW p l e R s m args below meth c D cl sl cA ad Qf M S (pc + 1) ls (.int (-x) :: st)) : SW p l e R s m args below meth c D cl sl cA ad Qf M S pc ls (.int x :: st) := fun a ha H locs hP hS => lv_ineg C0.1 C0.2.1 hdg (kk a ha H locs hP hS)
theorem sx_i2l (C0 : Cx D cl tl sl cA ad Ex own cc nL rt p s m args meth c) {x : Int32} (hdg : decode cc pc = .ok (.i2l, 1)) (kk : SW p l e R s m args below meth c D cl sl cA ad Qf M S (pc + 1) ls (.long x.toInt64 :: st)) : SW p l e R s m args below meth c D cl sl cA ad Qf M S pc ls (.int x :: st) := fun a ha H locs hP hS => lv_i2l C0.1 C0.2.1 hdg rfl (kk a ha H locs hP hS)
theorem sx_l2i (C0 : Cx D cl tl sl cA ad Ex own cc nL rt p s m args meth c) {x : Int64} (hdg : decode cc pc = .ok (.l2i, 1)) (kk : SW p l e R s m args below meth c D cl sl cA ad Qf M S (pc + 1) ls (.int x.toInt32 :: st)) : SW p l e R s m args below meth c D cl sl cA ad Qf M S pc ls (.long x :: st) := fun a ha H locs hP hS => lv_l2i C0.1 C0.2.1 hdg rfl (kk a ha H locs hP hS)
theorem sx_i2b (C0 : Cx D cl tl sl cA ad Ex own cc nL rt p s m args meth c) {x : Int32} (hdg : decode cc pc = .ok (.i2b, 1)) (kk : SW p l e R s m args below meth c D cl sl cA ad Qf M S (pc + 1) ls (.int x.toInt8.toInt32 :: st)) : SW p l e R s m args below meth c D cl sl cA ad Qf M S pc ls (.int x :: st) := fun a ha H locs hP hS => lv_i2b C0.1 C0.2.1 hdg rfl (kk a ha H locs hP hS)
theorem sx_lcmp (C0 : Cx D cl tl sl cA ad Ex own cc nL rt p s m args meth c) {x y : Int64} (hdg : decode cc pc = .ok (.lcmp, 1)) (kk : SW p l e R s m args below meth c D cl sl cA ad Qf M S (pc + 1) ls (.int (lg_cmp x y) :: st)) : SW p l e R s m args below meth c D cl sl cA ad Qf M S pc ls (.long y :: .long x :: st) := fun a ha H locs hP hS => W.lcmp C0.1 C0.2.1 hdg (kk a ha H locs hP hS)
theorem sx_goto (C0 : Cx D cl tl sl cA ad Ex own cc nL rt p s m args meth c) {off : Int} {tgt : Nat} (hdg : decode cc pc = .ok (.goto off, 3)) (ht : (pc : Int) + off = (tgt : Int)) (kk : SW p l e R s m args below meth c D cl sl cA ad Qf M S tgt ls st) : SW p l e R s m args below meth c D cl sl cA ad Qf M S pc ls st := fun a ha H locs hP hS => lv_goto C0.1 C0.2.1 hdg ht (kk a ha H locs hP hS)
theorem sx_dup (C0 : Cx D cl tl sl cA ad Ex own cc nL rt p s m args meth c) {v : Value} (hdg : decode cc pc = .ok (.dup, 1)) (hv : v.category = 1) (kk : SW p l e R s m args below meth c D cl sl cA ad Qf M S (pc + 1) ls (v :: v :: st)) : SW p l e R s m args below meth c D cl sl cA ad Qf M S pc ls (v :: st) := fun a ha H locs hP hS => lv_dup C0.1 C0.2.1 hdg hv (kk a ha H locs hP hS)
theorem sx_dup2 (C0 : Cx D cl tl sl cA ad Ex own cc nL rt p s m args meth c) {v w : Value} (hdg : decode cc pc = .ok (.dup2, 1)) (hv : v.category = 1) (hw : w.category = 1) (kk : SW p l e R s m args below meth c D cl sl cA ad Qf M S (pc + 1) ls (v :: w :: v :: w :: st)) : SW p l e R s m args below meth c D cl sl cA ad Qf M S pc ls (v :: w :: st) := fun a ha H locs hP hS => lv_dup2_11 C0.1 C0.2.1 hdg hv hw (kk a ha H locs hP hS)
theorem sx_pop (C0 : Cx D cl tl sl cA ad Ex own cc nL rt p s m args meth c) {v : Value} (hdg : decode cc pc = .ok (.pop, 1)) (hv : v.category = 1) (kk : SW p l e R s m args below meth c D cl sl cA ad Qf M S (pc + 1) ls st) : SW p l e R s m args below meth c D cl sl cA ad Qf M S pc ls (v :: st) := fun a ha H locs hP hS => lv_pop C0.1 C0.2.1 hdg hv (kk a ha H locs hP hS)
theorem sx_idiv (C0 : Cx D cl tl sl cA ad Ex own cc nL rt p s m args meth c) {x y : Int32} (hdg : decode cc pc = .ok (.idiv, 1)) (hne : ¬ y = 0) (kk : SW p l e R s m args below meth c D cl sl cA ad Qf M S (pc + 1) ls (.int (x / y) :: st)) : SW p l e R s m args below meth c D cl sl cA ad Qf M S pc ls (.int y :: .int x :: st) := fun a ha H locs hP hS => lv_idiv C0.1 C0.2.1 hdg hne (kk a ha H locs hP hS)
theorem sx_idivO (C0 : Cx D cl tl sl cA ad Ex own cc nL rt p s m args meth c) {x y : Int32} {K : Int32 → Option α} (hdg : decode cc pc = .ok (.idiv, 1)) (kk : ∀ v, SW p l e R s m args below meth c D cl sl cA ad Qf (K v) S (pc + 1) ls (.int v :: st)) : SW p l e R s m args below meth c D cl sl cA ad Qf ((dI x y).bind K) S pc ls (.int y :: .int x :: st) := by
  intro a ha H locs hP hS
  unfold dI at ha
  by_cases hy : y = 0
  · rw [if_pos hy] at ha; exact nomatch ha
  · rw [if_neg hy] at ha
    exact lv_idiv C0.1 C0.2.1 hdg hy (kk _ a ha H locs hP hS)
theorem sx_irem (C0 : Cx D cl tl sl cA ad Ex own cc nL rt p s m args meth c) {x y : Int32} (hdg : decode cc pc = .ok (.irem, 1)) (hne : ¬ y = 0) (kk : SW p l e R s m args below meth c D cl sl cA ad Qf M S (pc + 1) ls (.int (x - x / y * y) :: st)) : SW p l e R s m args below meth c D cl sl cA ad Qf M S pc ls (.int y :: .int x :: st) := fun a ha H locs hP hS => lv_irem C0.1 C0.2.1 hdg hne (kk a ha H locs hP hS)
theorem sx_iremO (C0 : Cx D cl tl sl cA ad Ex own cc nL rt p s m args meth c) {x y : Int32} {K : Int32 → Option α} (hdg : decode cc pc = .ok (.irem, 1)) (kk : ∀ v, SW p l e R s m args below meth c D cl sl cA ad Qf (K v) S (pc + 1) ls (.int v :: st)) : SW p l e R s m args below meth c D cl sl cA ad Qf ((rI x y).bind K) S pc ls (.int y :: .int x :: st) := by
  intro a ha H locs hP hS
  unfold rI at ha
  by_cases hy : y = 0
  · rw [if_pos hy] at ha; exact nomatch ha
  · rw [if_neg hy] at ha
    exact lv_irem C0.1 C0.2.1 hdg hy (kk _ a ha H locs hP hS)
theorem sx_ldiv (C0 : Cx D cl tl sl cA ad Ex own cc nL rt p s m args meth c) {x y : Int64} (hdg : decode cc pc = .ok (.ldiv, 1)) (hne : ¬ y = 0) (kk : SW p l e R s m args below meth c D cl sl cA ad Qf M S (pc + 1) ls (.long (x / y) :: st)) : SW p l e R s m args below meth c D cl sl cA ad Qf M S pc ls (.long y :: .long x :: st) := fun a ha H locs hP hS => lv_ldiv C0.1 C0.2.1 hdg hne (kk a ha H locs hP hS)
theorem sx_ldivO (C0 : Cx D cl tl sl cA ad Ex own cc nL rt p s m args meth c) {x y : Int64} {K : Int64 → Option α} (hdg : decode cc pc = .ok (.ldiv, 1)) (kk : ∀ v, SW p l e R s m args below meth c D cl sl cA ad Qf (K v) S (pc + 1) ls (.long v :: st)) : SW p l e R s m args below meth c D cl sl cA ad Qf ((dL x y).bind K) S pc ls (.long y :: .long x :: st) := by
  intro a ha H locs hP hS
  unfold dL at ha
  by_cases hy : y = 0
  · rw [if_pos hy] at ha; exact nomatch ha
  · rw [if_neg hy] at ha
    exact lv_ldiv C0.1 C0.2.1 hdg hy (kk _ a ha H locs hP hS)
theorem sx_lrem (C0 : Cx D cl tl sl cA ad Ex own cc nL rt p s m args meth c) {x y : Int64} (hdg : decode cc pc = .ok (.lrem, 1)) (hne : ¬ y = 0) (kk : SW p l e R s m args below meth c D cl sl cA ad Qf M S (pc + 1) ls (.long (x - x / y * y) :: st)) : SW p l e R s m args below meth c D cl sl cA ad Qf M S pc ls (.long y :: .long x :: st) := fun a ha H locs hP hS => lv_lrem C0.1 C0.2.1 hdg hne (kk a ha H locs hP hS)
theorem sx_lremO (C0 : Cx D cl tl sl cA ad Ex own cc nL rt p s m args meth c) {x y : Int64} {K : Int64 → Option α} (hdg : decode cc pc = .ok (.lrem, 1)) (kk : ∀ v, SW p l e R s m args below meth c D cl sl cA ad Qf (K v) S (pc + 1) ls (.long v :: st)) : SW p l e R s m args below meth c D cl sl cA ad Qf ((rL x y).bind K) S pc ls (.long y :: .long x :: st) := by
  intro a ha H locs hP hS
  unfold rL at ha
  by_cases hy : y = 0
  · rw [if_pos hy] at ha; exact nomatch ha
  · rw [if_neg hy] at ha
    exact lv_lrem C0.1 C0.2.1 hdg hy (kk _ a ha H locs hP hS)
theorem sx_if_eq (C0 : Cx D cl tl sl cA ad Ex own cc nL rt p s m args meth c) {x : Int32} {off : Int} {tgt : Nat} {A A2 : Option α} {inst : Decidable (x = 0)} (hdg : decode cc pc = .ok (.ifCond .eq off, 3)) (ht : (pc : Int) + off = (tgt : Int)) (kt : x = 0 → SW p l e R s m args below meth c D cl sl cA ad Qf A S tgt ls st) (kf : ¬ (x = 0) → SW p l e R s m args below meth c D cl sl cA ad Qf A2 S (pc + 3) ls st) : SW p l e R s m args below meth c D cl sl cA ad Qf (@ite _ (x = 0) inst A A2) S pc ls (.int x :: st) := fun a ha H locs hP hS => lv_if_eq C0.1 C0.2.1 hdg ht (fun h => kt h a (by rw [if_pos h] at ha; exact ha) H locs hP hS) (fun h => kf h a (by rw [if_neg h] at ha; exact ha) H locs hP hS)
theorem sx_if_eqs (C0 : Cx D cl tl sl cA ad Ex own cc nL rt p s m args meth c) {x : Int32} {off : Int} {tgt : Nat} {A A2 : α} {inst : Decidable (x = 0)} (hdg : decode cc pc = .ok (.ifCond .eq off, 3)) (ht : (pc : Int) + off = (tgt : Int)) (kt : x = 0 → SW p l e R s m args below meth c D cl sl cA ad Qf (some A) S tgt ls st) (kf : ¬ (x = 0) → SW p l e R s m args below meth c D cl sl cA ad Qf (some A2) S (pc + 3) ls st) : SW p l e R s m args below meth c D cl sl cA ad Qf (some (@ite _ (x = 0) inst A A2)) S pc ls (.int x :: st) := fun a ha H locs hP hS => lv_if_eq C0.1 C0.2.1 hdg ht (fun h => kt h a (by rw [if_pos h] at ha; exact ha) H locs hP hS) (fun h => kf h a (by rw [if_neg h] at ha; exact ha) H locs hP hS)
theorem sx_icmp_eq (C0 : Cx D cl tl sl cA ad Ex own cc nL rt p s m args meth c) {x y : Int32} {off : Int} {tgt : Nat} {A A2 : Option α} {inst : Decidable (x = y)} (hdg : decode cc pc = .ok (.if_icmp .eq off, 3)) (ht : (pc : Int) + off = (tgt : Int)) (kt : x = y → SW p l e R s m args below meth c D cl sl cA ad Qf A S tgt ls st) (kf : ¬ (x = y) → SW p l e R s m args below meth c D cl sl cA ad Qf A2 S (pc + 3) ls st) : SW p l e R s m args below meth c D cl sl cA ad Qf (@ite _ (x = y) inst A A2) S pc ls (.int y :: .int x :: st) := fun a ha H locs hP hS => lv_icmp_eq C0.1 C0.2.1 hdg ht (fun h => kt h a (by rw [if_pos h] at ha; exact ha) H locs hP hS) (fun h => kf h a (by rw [if_neg h] at ha; exact ha) H locs hP hS)
theorem sx_icmp_eqs (C0 : Cx D cl tl sl cA ad Ex own cc nL rt p s m args meth c) {x y : Int32} {off : Int} {tgt : Nat} {A A2 : α} {inst : Decidable (x = y)} (hdg : decode cc pc = .ok (.if_icmp .eq off, 3)) (ht : (pc : Int) + off = (tgt : Int)) (kt : x = y → SW p l e R s m args below meth c D cl sl cA ad Qf (some A) S tgt ls st) (kf : ¬ (x = y) → SW p l e R s m args below meth c D cl sl cA ad Qf (some A2) S (pc + 3) ls st) : SW p l e R s m args below meth c D cl sl cA ad Qf (some (@ite _ (x = y) inst A A2)) S pc ls (.int y :: .int x :: st) := fun a ha H locs hP hS => lv_icmp_eq C0.1 C0.2.1 hdg ht (fun h => kt h a (by rw [if_pos h] at ha; exact ha) H locs hP hS) (fun h => kf h a (by rw [if_neg h] at ha; exact ha) H locs hP hS)
theorem sx_if_ne (C0 : Cx D cl tl sl cA ad Ex own cc nL rt p s m args meth c) {x : Int32} {off : Int} {tgt : Nat} {A A2 : Option α} {inst : Decidable (x = 0)} (hdg : decode cc pc = .ok (.ifCond .ne off, 3)) (ht : (pc : Int) + off = (tgt : Int)) (kf : x = 0 → SW p l e R s m args below meth c D cl sl cA ad Qf A S (pc + 3) ls st) (kt : ¬ (x = 0) → SW p l e R s m args below meth c D cl sl cA ad Qf A2 S tgt ls st) : SW p l e R s m args below meth c D cl sl cA ad Qf (@ite _ (x = 0) inst A A2) S pc ls (.int x :: st) := fun a ha H locs hP hS => lv_if_ne C0.1 C0.2.1 hdg ht (fun h => kt h a (by rw [if_neg h] at ha; exact ha) H locs hP hS) (fun h => kf h a (by rw [if_pos h] at ha; exact ha) H locs hP hS)
theorem sx_if_nes (C0 : Cx D cl tl sl cA ad Ex own cc nL rt p s m args meth c) {x : Int32} {off : Int} {tgt : Nat} {A A2 : α} {inst : Decidable (x = 0)} (hdg : decode cc pc = .ok (.ifCond .ne off, 3)) (ht : (pc : Int) + off = (tgt : Int)) (kf : x = 0 → SW p l e R s m args below meth c D cl sl cA ad Qf (some A) S (pc + 3) ls st) (kt : ¬ (x = 0) → SW p l e R s m args below meth c D cl sl cA ad Qf (some A2) S tgt ls st) : SW p l e R s m args below meth c D cl sl cA ad Qf (some (@ite _ (x = 0) inst A A2)) S pc ls (.int x :: st) := fun a ha H locs hP hS => lv_if_ne C0.1 C0.2.1 hdg ht (fun h => kt h a (by rw [if_neg h] at ha; exact ha) H locs hP hS) (fun h => kf h a (by rw [if_pos h] at ha; exact ha) H locs hP hS)
theorem sx_icmp_ne (C0 : Cx D cl tl sl cA ad Ex own cc nL rt p s m args meth c) {x y : Int32} {off : Int} {tgt : Nat} {A A2 : Option α} {inst : Decidable (x = y)} (hdg : decode cc pc = .ok (.if_icmp .ne off, 3)) (ht : (pc : Int) + off = (tgt : Int)) (kf : x = y → SW p l e R s m args below meth c D cl sl cA ad Qf A S (pc + 3) ls st) (kt : ¬ (x = y) → SW p l e R s m args below meth c D cl sl cA ad Qf A2 S tgt ls st) : SW p l e R s m args below meth c D cl sl cA ad Qf (@ite _ (x = y) inst A A2) S pc ls (.int y :: .int x :: st) := fun a ha H locs hP hS => lv_icmp_ne C0.1 C0.2.1 hdg ht (fun h => kt h a (by rw [if_neg h] at ha; exact ha) H locs hP hS) (fun h => kf h a (by rw [if_pos h] at ha; exact ha) H locs hP hS)
theorem sx_icmp_nes (C0 : Cx D cl tl sl cA ad Ex own cc nL rt p s m args meth c) {x y : Int32} {off : Int} {tgt : Nat} {A A2 : α} {inst : Decidable (x = y)} (hdg : decode cc pc = .ok (.if_icmp .ne off, 3)) (ht : (pc : Int) + off = (tgt : Int)) (kf : x = y → SW p l e R s m args below meth c D cl sl cA ad Qf (some A) S (pc + 3) ls st) (kt : ¬ (x = y) → SW p l e R s m args below meth c D cl sl cA ad Qf (some A2) S tgt ls st) : SW p l e R s m args below meth c D cl sl cA ad Qf (some (@ite _ (x = y) inst A A2)) S pc ls (.int y :: .int x :: st) := fun a ha H locs hP hS => lv_icmp_ne C0.1 C0.2.1 hdg ht (fun h => kt h a (by rw [if_neg h] at ha; exact ha) H locs hP hS) (fun h => kf h a (by rw [if_pos h] at ha; exact ha) H locs hP hS)
theorem sx_if_lt (C0 : Cx D cl tl sl cA ad Ex own cc nL rt p s m args meth c) {x : Int32} {off : Int} {tgt : Nat} {A A2 : Option α} {inst : Decidable (x < 0)} (hdg : decode cc pc = .ok (.ifCond .lt off, 3)) (ht : (pc : Int) + off = (tgt : Int)) (kt : x < 0 → SW p l e R s m args below meth c D cl sl cA ad Qf A S tgt ls st) (kf : ¬ (x < 0) → SW p l e R s m args below meth c D cl sl cA ad Qf A2 S (pc + 3) ls st) : SW p l e R s m args below meth c D cl sl cA ad Qf (@ite _ (x < 0) inst A A2) S pc ls (.int x :: st) := fun a ha H locs hP hS => lv_if_lt C0.1 C0.2.1 hdg ht (fun h => kt h a (by rw [if_pos h] at ha; exact ha) H locs hP hS) (fun h => kf h a (by rw [if_neg h] at ha; exact ha) H locs hP hS)
theorem sx_if_lts (C0 : Cx D cl tl sl cA ad Ex own cc nL rt p s m args meth c) {x : Int32} {off : Int} {tgt : Nat} {A A2 : α} {inst : Decidable (x < 0)} (hdg : decode cc pc = .ok (.ifCond .lt off, 3)) (ht : (pc : Int) + off = (tgt : Int)) (kt : x < 0 → SW p l e R s m args below meth c D cl sl cA ad Qf (some A) S tgt ls st) (kf : ¬ (x < 0) → SW p l e R s m args below meth c D cl sl cA ad Qf (some A2) S (pc + 3) ls st) : SW p l e R s m args below meth c D cl sl cA ad Qf (some (@ite _ (x < 0) inst A A2)) S pc ls (.int x :: st) := fun a ha H locs hP hS => lv_if_lt C0.1 C0.2.1 hdg ht (fun h => kt h a (by rw [if_pos h] at ha; exact ha) H locs hP hS) (fun h => kf h a (by rw [if_neg h] at ha; exact ha) H locs hP hS)
theorem sx_icmp_lt (C0 : Cx D cl tl sl cA ad Ex own cc nL rt p s m args meth c) {x y : Int32} {off : Int} {tgt : Nat} {A A2 : Option α} {inst : Decidable (x < y)} (hdg : decode cc pc = .ok (.if_icmp .lt off, 3)) (ht : (pc : Int) + off = (tgt : Int)) (kt : x < y → SW p l e R s m args below meth c D cl sl cA ad Qf A S tgt ls st) (kf : ¬ (x < y) → SW p l e R s m args below meth c D cl sl cA ad Qf A2 S (pc + 3) ls st) : SW p l e R s m args below meth c D cl sl cA ad Qf (@ite _ (x < y) inst A A2) S pc ls (.int y :: .int x :: st) := fun a ha H locs hP hS => lv_icmp_lt C0.1 C0.2.1 hdg ht (fun h => kt h a (by rw [if_pos h] at ha; exact ha) H locs hP hS) (fun h => kf h a (by rw [if_neg h] at ha; exact ha) H locs hP hS)
theorem sx_icmp_lts (C0 : Cx D cl tl sl cA ad Ex own cc nL rt p s m args meth c) {x y : Int32} {off : Int} {tgt : Nat} {A A2 : α} {inst : Decidable (x < y)} (hdg : decode cc pc = .ok (.if_icmp .lt off, 3)) (ht : (pc : Int) + off = (tgt : Int)) (kt : x < y → SW p l e R s m args below meth c D cl sl cA ad Qf (some A) S tgt ls st) (kf : ¬ (x < y) → SW p l e R s m args below meth c D cl sl cA ad Qf (some A2) S (pc + 3) ls st) : SW p l e R s m args below meth c D cl sl cA ad Qf (some (@ite _ (x < y) inst A A2)) S pc ls (.int y :: .int x :: st) := fun a ha H locs hP hS => lv_icmp_lt C0.1 C0.2.1 hdg ht (fun h => kt h a (by rw [if_pos h] at ha; exact ha) H locs hP hS) (fun h => kf h a (by rw [if_neg h] at ha; exact ha) H locs hP hS)
theorem sx_if_ge (C0 : Cx D cl tl sl cA ad Ex own cc nL rt p s m args meth c) {x : Int32} {off : Int} {tgt : Nat} {A A2 : Option α} {inst : Decidable (0 ≤ x)} (hdg : decode cc pc = .ok (.ifCond .ge off, 3)) (ht : (pc : Int) + off = (tgt : Int)) (kt : 0 ≤ x → SW p l e R s m args below meth c D cl sl cA ad Qf A S tgt ls st) (kf : ¬ (0 ≤ x) → SW p l e R s m args below meth c D cl sl cA ad Qf A2 S (pc + 3) ls st) : SW p l e R s m args below meth c D cl sl cA ad Qf (@ite _ (0 ≤ x) inst A A2) S pc ls (.int x :: st) := fun a ha H locs hP hS => lv_if_ge C0.1 C0.2.1 hdg ht (fun h => kt h a (by rw [if_pos h] at ha; exact ha) H locs hP hS) (fun h => kf h a (by rw [if_neg h] at ha; exact ha) H locs hP hS)
theorem sx_if_ges (C0 : Cx D cl tl sl cA ad Ex own cc nL rt p s m args meth c) {x : Int32} {off : Int} {tgt : Nat} {A A2 : α} {inst : Decidable (0 ≤ x)} (hdg : decode cc pc = .ok (.ifCond .ge off, 3)) (ht : (pc : Int) + off = (tgt : Int)) (kt : 0 ≤ x → SW p l e R s m args below meth c D cl sl cA ad Qf (some A) S tgt ls st) (kf : ¬ (0 ≤ x) → SW p l e R s m args below meth c D cl sl cA ad Qf (some A2) S (pc + 3) ls st) : SW p l e R s m args below meth c D cl sl cA ad Qf (some (@ite _ (0 ≤ x) inst A A2)) S pc ls (.int x :: st) := fun a ha H locs hP hS => lv_if_ge C0.1 C0.2.1 hdg ht (fun h => kt h a (by rw [if_pos h] at ha; exact ha) H locs hP hS) (fun h => kf h a (by rw [if_neg h] at ha; exact ha) H locs hP hS)
theorem sx_icmp_ge (C0 : Cx D cl tl sl cA ad Ex own cc nL rt p s m args meth c) {x y : Int32} {off : Int} {tgt : Nat} {A A2 : Option α} {inst : Decidable (y ≤ x)} (hdg : decode cc pc = .ok (.if_icmp .ge off, 3)) (ht : (pc : Int) + off = (tgt : Int)) (kt : y ≤ x → SW p l e R s m args below meth c D cl sl cA ad Qf A S tgt ls st) (kf : ¬ (y ≤ x) → SW p l e R s m args below meth c D cl sl cA ad Qf A2 S (pc + 3) ls st) : SW p l e R s m args below meth c D cl sl cA ad Qf (@ite _ (y ≤ x) inst A A2) S pc ls (.int y :: .int x :: st) := fun a ha H locs hP hS => lv_icmp_ge C0.1 C0.2.1 hdg ht (fun h => kt h a (by rw [if_pos h] at ha; exact ha) H locs hP hS) (fun h => kf h a (by rw [if_neg h] at ha; exact ha) H locs hP hS)
theorem sx_icmp_ges (C0 : Cx D cl tl sl cA ad Ex own cc nL rt p s m args meth c) {x y : Int32} {off : Int} {tgt : Nat} {A A2 : α} {inst : Decidable (y ≤ x)} (hdg : decode cc pc = .ok (.if_icmp .ge off, 3)) (ht : (pc : Int) + off = (tgt : Int)) (kt : y ≤ x → SW p l e R s m args below meth c D cl sl cA ad Qf (some A) S tgt ls st) (kf : ¬ (y ≤ x) → SW p l e R s m args below meth c D cl sl cA ad Qf (some A2) S (pc + 3) ls st) : SW p l e R s m args below meth c D cl sl cA ad Qf (some (@ite _ (y ≤ x) inst A A2)) S pc ls (.int y :: .int x :: st) := fun a ha H locs hP hS => lv_icmp_ge C0.1 C0.2.1 hdg ht (fun h => kt h a (by rw [if_pos h] at ha; exact ha) H locs hP hS) (fun h => kf h a (by rw [if_neg h] at ha; exact ha) H locs hP hS)
theorem sx_if_gt (C0 : Cx D cl tl sl cA ad Ex own cc nL rt p s m args meth c) {x : Int32} {off : Int} {tgt : Nat} {A A2 : Option α} {inst : Decidable (0 < x)} (hdg : decode cc pc = .ok (.ifCond .gt off, 3)) (ht : (pc : Int) + off = (tgt : Int)) (kt : 0 < x → SW p l e R s m args below meth c D cl sl cA ad Qf A S tgt ls st) (kf : ¬ (0 < x) → SW p l e R s m args below meth c D cl sl cA ad Qf A2 S (pc + 3) ls st) : SW p l e R s m args below meth c D cl sl cA ad Qf (@ite _ (0 < x) inst A A2) S pc ls (.int x :: st) := fun a ha H locs hP hS => lv_if_gt C0.1 C0.2.1 hdg ht (fun h => kt h a (by rw [if_pos h] at ha; exact ha) H locs hP hS) (fun h => kf h a (by rw [if_neg h] at ha; exact ha) H locs hP hS)
theorem sx_if_gts (C0 : Cx D cl tl sl cA ad Ex own cc nL rt p s m args meth c) {x : Int32} {off : Int} {tgt : Nat} {A A2 : α} {inst : Decidable (0 < x)} (hdg : decode cc pc = .ok (.ifCond .gt off, 3)) (ht : (pc : Int) + off = (tgt : Int)) (kt : 0 < x → SW p l e R s m args below meth c D cl sl cA ad Qf (some A) S tgt ls st) (kf : ¬ (0 < x) → SW p l e R s m args below meth c D cl sl cA ad Qf (some A2) S (pc + 3) ls st) : SW p l e R s m args below meth c D cl sl cA ad Qf (some (@ite _ (0 < x) inst A A2)) S pc ls (.int x :: st) := fun a ha H locs hP hS => lv_if_gt C0.1 C0.2.1 hdg ht (fun h => kt h a (by rw [if_pos h] at ha; exact ha) H locs hP hS) (fun h => kf h a (by rw [if_neg h] at ha; exact ha) H locs hP hS)
theorem sx_icmp_gt (C0 : Cx D cl tl sl cA ad Ex own cc nL rt p s m args meth c) {x y : Int32} {off : Int} {tgt : Nat} {A A2 : Option α} {inst : Decidable (y < x)} (hdg : decode cc pc = .ok (.if_icmp .gt off, 3)) (ht : (pc : Int) + off = (tgt : Int)) (kt : y < x → SW p l e R s m args below meth c D cl sl cA ad Qf A S tgt ls st) (kf : ¬ (y < x) → SW p l e R s m args below meth c D cl sl cA ad Qf A2 S (pc + 3) ls st) : SW p l e R s m args below meth c D cl sl cA ad Qf (@ite _ (y < x) inst A A2) S pc ls (.int y :: .int x :: st) := fun a ha H locs hP hS => lv_icmp_gt C0.1 C0.2.1 hdg ht (fun h => kt h a (by rw [if_pos h] at ha; exact ha) H locs hP hS) (fun h => kf h a (by rw [if_neg h] at ha; exact ha) H locs hP hS)
theorem sx_icmp_gts (C0 : Cx D cl tl sl cA ad Ex own cc nL rt p s m args meth c) {x y : Int32} {off : Int} {tgt : Nat} {A A2 : α} {inst : Decidable (y < x)} (hdg : decode cc pc = .ok (.if_icmp .gt off, 3)) (ht : (pc : Int) + off = (tgt : Int)) (kt : y < x → SW p l e R s m args below meth c D cl sl cA ad Qf (some A) S tgt ls st) (kf : ¬ (y < x) → SW p l e R s m args below meth c D cl sl cA ad Qf (some A2) S (pc + 3) ls st) : SW p l e R s m args below meth c D cl sl cA ad Qf (some (@ite _ (y < x) inst A A2)) S pc ls (.int y :: .int x :: st) := fun a ha H locs hP hS => lv_icmp_gt C0.1 C0.2.1 hdg ht (fun h => kt h a (by rw [if_pos h] at ha; exact ha) H locs hP hS) (fun h => kf h a (by rw [if_neg h] at ha; exact ha) H locs hP hS)
theorem sx_if_le (C0 : Cx D cl tl sl cA ad Ex own cc nL rt p s m args meth c) {x : Int32} {off : Int} {tgt : Nat} {A A2 : Option α} {inst : Decidable (x ≤ 0)} (hdg : decode cc pc = .ok (.ifCond .le off, 3)) (ht : (pc : Int) + off = (tgt : Int)) (kt : x ≤ 0 → SW p l e R s m args below meth c D cl sl cA ad Qf A S tgt ls st) (kf : ¬ (x ≤ 0) → SW p l e R s m args below meth c D cl sl cA ad Qf A2 S (pc + 3) ls st) : SW p l e R s m args below meth c D cl sl cA ad Qf (@ite _ (x ≤ 0) inst A A2) S pc ls (.int x :: st) := fun a ha H locs hP hS => lv_if_le C0.1 C0.2.1 hdg ht (fun h => kt h a (by rw [if_pos h] at ha; exact ha) H locs hP hS) (fun h => kf h a (by rw [if_neg h] at ha; exact ha) H locs hP hS)
theorem sx_if_les (C0 : Cx D cl tl sl cA ad Ex own cc nL rt p s m args meth c) {x : Int32} {off : Int} {tgt : Nat} {A A2 : α} {inst : Decidable (x ≤ 0)} (hdg : decode cc pc = .ok (.ifCond .le off, 3)) (ht : (pc : Int) + off = (tgt : Int)) (kt : x ≤ 0 → SW p l e R s m args below meth c D cl sl cA ad Qf (some A) S tgt ls st) (kf : ¬ (x ≤ 0) → SW p l e R s m args below meth c D cl sl cA ad Qf (some A2) S (pc + 3) ls st) : SW p l e R s m args below meth c D cl sl cA ad Qf (some (@ite _ (x ≤ 0) inst A A2)) S pc ls (.int x :: st) := fun a ha H locs hP hS => lv_if_le C0.1 C0.2.1 hdg ht (fun h => kt h a (by rw [if_pos h] at ha; exact ha) H locs hP hS) (fun h => kf h a (by rw [if_neg h] at ha; exact ha) H locs hP hS)
theorem sx_icmp_le (C0 : Cx D cl tl sl cA ad Ex own cc nL rt p s m args meth c) {x y : Int32} {off : Int} {tgt : Nat} {A A2 : Option α} {inst : Decidable (x ≤ y)} (hdg : decode cc pc = .ok (.if_icmp .le off, 3)) (ht : (pc : Int) + off = (tgt : Int)) (kt : x ≤ y → SW p l e R s m args below meth c D cl sl cA ad Qf A S tgt ls st) (kf : ¬ (x ≤ y) → SW p l e R s m args below meth c D cl sl cA ad Qf A2 S (pc + 3) ls st) : SW p l e R s m args below meth c D cl sl cA ad Qf (@ite _ (x ≤ y) inst A A2) S pc ls (.int y :: .int x :: st) := fun a ha H locs hP hS => lv_icmp_le C0.1 C0.2.1 hdg ht (fun h => kt h a (by rw [if_pos h] at ha; exact ha) H locs hP hS) (fun h => kf h a (by rw [if_neg h] at ha; exact ha) H locs hP hS)
theorem sx_icmp_les (C0 : Cx D cl tl sl cA ad Ex own cc nL rt p s m args meth c) {x y : Int32} {off : Int} {tgt : Nat} {A A2 : α} {inst : Decidable (x ≤ y)} (hdg : decode cc pc = .ok (.if_icmp .le off, 3)) (ht : (pc : Int) + off = (tgt : Int)) (kt : x ≤ y → SW p l e R s m args below meth c D cl sl cA ad Qf (some A) S tgt ls st) (kf : ¬ (x ≤ y) → SW p l e R s m args below meth c D cl sl cA ad Qf (some A2) S (pc + 3) ls st) : SW p l e R s m args below meth c D cl sl cA ad Qf (some (@ite _ (x ≤ y) inst A A2)) S pc ls (.int y :: .int x :: st) := fun a ha H locs hP hS => lv_icmp_le C0.1 C0.2.1 hdg ht (fun h => kt h a (by rw [if_pos h] at ha; exact ha) H locs hP hS) (fun h => kf h a (by rw [if_neg h] at ha; exact ha) H locs hP hS)
theorem sx_case {cnd : Prop} {inst : Decidable cnd} {A A2 : Option α} (kt : cnd → SW p l e R s m args below meth c D cl sl cA ad Qf A S pc ls st) (kf : ¬ cnd → SW p l e R s m args below meth c D cl sl cA ad Qf A2 S pc ls st) : SW p l e R s m args below meth c D cl sl cA ad Qf (@ite _ (cnd) inst A A2) S pc ls st := fun a ha => by
  by_cases h : cnd
  · rw [if_pos h] at ha; exact kt h a ha
  · rw [if_neg h] at ha; exact kf h a ha
theorem sx_cases {cnd : Prop} {inst : Decidable cnd} {A A2 : α} (kt : cnd → SW p l e R s m args below meth c D cl sl cA ad Qf (some A) S pc ls st) (kf : ¬ cnd → SW p l e R s m args below meth c D cl sl cA ad Qf (some A2) S pc ls st) : SW p l e R s m args below meth c D cl sl cA ad Qf (some (@ite _ (cnd) inst A A2)) S pc ls st := fun a ha => by
  by_cases h : cnd
  · rw [if_pos h] at ha; exact kt h a ha
  · rw [if_neg h] at ha; exact kf h a ha
theorem sx_tableIn (C0 : Cx D cl tl sl cA ad Ex own cc nL rt p s m args meth c) {dflt lo hi : Int} {offs : Array Int} {len : Nat} {x : Int32} {off : Int} {tgt : Nat} (hdg : decode cc pc = .ok (.tableswitch dflt lo hi offs, len)) (h1 : ¬ x.toInt < lo) (h2 : ¬ hi < x.toInt) (ho : offs[(x.toInt - lo).toNat]? = some off) (ht : (pc : Int) + off = (tgt : Int)) (kk : SW p l e R s m args below meth c D cl sl cA ad Qf M S tgt ls st) : SW p l e R s m args below meth c D cl sl cA ad Qf M S pc ls (.int x :: st) := fun a ha H locs hP hS => lv_tableIn C0.1 C0.2.1 hdg h1 h2 ho ht (kk a ha H locs hP hS)
theorem sx_tableOut (C0 : Cx D cl tl sl cA ad Ex own cc nL rt p s m args meth c) {dflt lo hi : Int} {offs : Array Int} {len : Nat} {x : Int32} {tgt : Nat} (hdg : decode cc pc = .ok (.tableswitch dflt lo hi offs, len)) (h : x.toInt < lo ∨ hi < x.toInt) (ht : (pc : Int) + dflt = (tgt : Int)) (kk : SW p l e R s m args below meth c D cl sl cA ad Qf M S tgt ls st) : SW p l e R s m args below meth c D cl sl cA ad Qf M S pc ls (.int x :: st) := fun a ha H locs hP hS => lv_tableOut C0.1 C0.2.1 hdg h ht (kk a ha H locs hP hS)
theorem sx_getI (C0 : Cx D cl tl sl cA ad Ex own cc nL rt p s m args meth c) {ref C : String} {T : u_T} {N ci index k j z : Nat} {fds : List (Nat × Nat)} (hin : ∀ w ∈ u_ws C T N, w ∈ ALL) (hc : cl[ci]? = some (C, T, N)) (hj : j < N) (hlk : Cond.fieldLink own index ref (T j).2.1 (T j).2.2.1 ∈ ALL) (hsame : (T j).1 = ref) (hk : sl[k]? = some (.inr (.inr (ci, fds)))) (hf : fds[j]? = some (0, z)) (hdg : decode cc pc = .ok (.getfield index, 3)) (kk : SW p l e R s m args below meth c D cl sl cA ad Qf M S (pc + 3) ls (.int (S.1 k j) :: st)) : SW p l e R s m args below meth c D cl sl cA ad Qf M S pc ls (.ref (ad k) :: st) := fun a ha H locs hP hS => va_get (D := D) (cl := cl) (tys := tyl tl cA) (ci := ci) (v := .int (S.1 k j)) (C := C) (T := T) (N := N) C0.1 C0.2.1 C0.2.2.2.2.1 hin C0.2.2.2.1 C0.2.2.2.2.2.1 hP k (wsl_get hk) hc j hj (C0.2.2.2.2.1 _ hlk) (fun _ h9 => by rw [← hsame]; exact h9) (by rw [List.getElem?_mapIdx, hf]; rfl) hdg (kk a ha H locs hP hS)
theorem sx_getL (C0 : Cx D cl tl sl cA ad Ex own cc nL rt p s m args meth c) {ref C : String} {T : u_T} {N ci index k j z : Nat} {fds : List (Nat × Nat)} (hin : ∀ w ∈ u_ws C T N, w ∈ ALL) (hc : cl[ci]? = some (C, T, N)) (hj : j < N) (hlk : Cond.fieldLink own index ref (T j).2.1 (T j).2.2.1 ∈ ALL) (hsame : (T j).1 = ref) (hk : sl[k]? = some (.inr (.inr (ci, fds)))) (hf : fds[j]? = some (1, z)) (hdg : decode cc pc = .ok (.getfield index, 3)) (kk : SW p l e R s m args below meth c D cl sl cA ad Qf M S (pc + 3) ls (.long (S.2 k j) :: st)) : SW p l e R s m args below meth c D cl sl cA ad Qf M S pc ls (.ref (ad k) :: st) := fun a ha H locs hP hS => va_get (D := D) (cl := cl) (tys := tyl tl cA) (ci := ci) (v := .long (S.2 k j)) (C := C) (T := T) (N := N) C0.1 C0.2.1 C0.2.2.2.2.1 hin C0.2.2.2.1 C0.2.2.2.2.2.1 hP k (wsl_get hk) hc j hj (C0.2.2.2.2.1 _ hlk) (fun _ h9 => by rw [← hsame]; exact h9) (by rw [List.getElem?_mapIdx, hf]; rfl) hdg (kk a ha H locs hP hS)
theorem sx_getR (C0 : Cx D cl tl sl cA ad Ex own cc nL rt p s m args meth c) {ref C : String} {T : u_T} {N ci index k j z : Nat} {fds : List (Nat × Nat)} (hin : ∀ w ∈ u_ws C T N, w ∈ ALL) (hc : cl[ci]? = some (C, T, N)) (hj : j < N) (hlk : Cond.fieldLink own index ref (T j).2.1 (T j).2.2.1 ∈ ALL) (hsame : (T j).1 = ref) (hk : sl[k]? = some (.inr (.inr (ci, fds)))) (hf : fds[j]? = some (2, z)) (hdg : decode cc pc = .ok (.getfield index, 3)) (kk : SW p l e R s m args below meth c D cl sl cA ad Qf M S (pc + 3) ls (.ref (ad z) :: st)) : SW p l e R s m args below meth c D cl sl cA ad Qf M S pc ls (.ref (ad k) :: st) := fun a ha H locs hP hS => va_get (D := D) (cl := cl) (tys := tyl tl cA) (ci := ci) (v := .ref (ad z)) (C := C) (T := T) (N := N) C0.1 C0.2.1 C0.2.2.2.2.1 hin C0.2.2.2.1 C0.2.2.2.2.2.1 hP k (wsl_get hk) hc j hj (C0.2.2.2.2.1 _ hlk) (fun _ h9 => by rw [← hsame]; exact h9) (by rw [List.getElem?_mapIdx, hf]; rfl) hdg (kk a ha H locs hP hS)
theorem sx_putI (C0 : Cx D cl tl sl cA ad Ex own cc nL rt p s m args meth c) {ref C : String} {T : u_T} {N ci index k j z : Nat} {fds : List (Nat × Nat)} {K : vS → Option α} {v : Int32} {ty : FieldType} (tyf : Nat → FieldType) (hty : ∀ k, k < N → parseFieldDescriptor (T k).2.2.1 = some (tyf k)) (hnm : ∀ a, a < N → ∀ b, b < N → a ≠ b → (T a).2.1 ≠ (T b).2.1) (hin : ∀ w ∈ u_ws C T N, w ∈ ALL) (hc : cl[ci]? = some (C, T, N)) (hj : j < N) (hlk : Cond.fieldLink own index ref (T j).2.1 (T j).2.2.1 ∈ ALL) (hsame : (T j).1 = ref) (hk : sl[k]? = some (.inr (.inr (ci, fds)))) (hf : fds[j]? = some (0, z)) (hfin : (T j).2.2.2 = false) (hd : parseFieldDescriptor (T j).2.2.1 = some ty) (hn : narrow ty (.int v) = .int v) (hfit : fits ty (.int v) = true) (hdg : decode cc pc = .ok (.putfield index, 3)) (kk : ∀ S1, SW p l e R s m args below meth c D cl sl cA ad Qf (K S1) S1 (pc + 3) ls st) : SW p l e R s m args below meth c D cl sl cA ad Qf (lt (wI S k j v) K) S pc ls (.int v :: .ref (ad k) :: st) := fun a ha H locs hP hS => va_put (D := D) (cl := cl) (tys := tyl tl cA) (ci := ci) (v := .int v) (ty := ty) (C := C) (T := T) (N := N) C0.1 C0.2.1 C0.2.2.2.2.1 hin tyf hty hnm C0.2.2.2.1 C0.2.2.2.2.2.1 hP C0.2.2.2.2.2.2.2.1.D hS k (wsl_get hk) hc j hj (C0.2.2.2.2.1 _ hlk) (fun _ h9 => by rw [← hsame]; exact h9) hfin hd hn hfit (by rw [List.length_mapIdx]; exact (List.getElem?_eq_some_iff.mp hf).1) hdg (fun H1 locs1 hP1 _ hS1 => kk (wI S k j v) a ha H1 locs1 (by rw [← wsl_setI hk (sxc_setI hf)]; exact hP1) hS1)
theorem sx_putIs (C0 : Cx D cl tl sl cA ad Ex own cc nL rt p s m args meth c) {ref C : String} {T : u_T} {N ci index k j z : Nat} {fds : List (Nat × Nat)} {K : vS → α} {v : Int32} {ty : FieldType} (tyf : Nat → FieldType) (hty : ∀ k, k < N → parseFieldDescriptor (T k).2.2.1 = some (tyf k)) (hnm : ∀ a, a < N → ∀ b, b < N → a ≠ b → (T a).2.1 ≠ (T b).2.1) (hin : ∀ w ∈ u_ws C T N, w ∈ ALL) (hc : cl[ci]? = some (C, T, N)) (hj : j < N) (hlk : Cond.fieldLink own index ref (T j).2.1 (T j).2.2.1 ∈ ALL) (hsame : (T j).1 = ref) (hk : sl[k]? = some (.inr (.inr (ci, fds)))) (hf : fds[j]? = some (0, z)) (hfin : (T j).2.2.2 = false) (hd : parseFieldDescriptor (T j).2.2.1 = some ty) (hn : narrow ty (.int v) = .int v) (hfit : fits ty (.int v) = true) (hdg : decode cc pc = .ok (.putfield index, 3)) (kk : ∀ S1, SW p l e R s m args below meth c D cl sl cA ad Qf (some (K S1)) S1 (pc + 3) ls st) : SW p l e R s m args below meth c D cl sl cA ad Qf (some (lt (wI S k j v) K)) S pc ls (.int v :: .ref (ad k) :: st) := fun a ha H locs hP hS => va_put (D := D) (cl := cl) (tys := tyl tl cA) (ci := ci) (v := .int v) (ty := ty) (C := C) (T := T) (N := N) C0.1 C0.2.1 C0.2.2.2.2.1 hin tyf hty hnm C0.2.2.2.1 C0.2.2.2.2.2.1 hP C0.2.2.2.2.2.2.2.1.D hS k (wsl_get hk) hc j hj (C0.2.2.2.2.1 _ hlk) (fun _ h9 => by rw [← hsame]; exact h9) hfin hd hn hfit (by rw [List.length_mapIdx]; exact (List.getElem?_eq_some_iff.mp hf).1) hdg (fun H1 locs1 hP1 _ hS1 => kk (wI S k j v) a ha H1 locs1 (by rw [← wsl_setI hk (sxc_setI hf)]; exact hP1) hS1)
theorem sx_putL (C0 : Cx D cl tl sl cA ad Ex own cc nL rt p s m args meth c) {ref C : String} {T : u_T} {N ci index k j z : Nat} {fds : List (Nat × Nat)} {K : vS → Option α} {v : Int64} {ty : FieldType} (tyf : Nat → FieldType) (hty : ∀ k, k < N → parseFieldDescriptor (T k).2.2.1 = some (tyf k)) (hnm : ∀ a, a < N → ∀ b, b < N → a ≠ b → (T a).2.1 ≠ (T b).2.1) (hin : ∀ w ∈ u_ws C T N, w ∈ ALL) (hc : cl[ci]? = some (C, T, N)) (hj : j < N) (hlk : Cond.fieldLink own index ref (T j).2.1 (T j).2.2.1 ∈ ALL) (hsame : (T j).1 = ref) (hk : sl[k]? = some (.inr (.inr (ci, fds)))) (hf : fds[j]? = some (1, z)) (hfin : (T j).2.2.2 = false) (hd : parseFieldDescriptor (T j).2.2.1 = some ty) (hn : narrow ty (.long v) = .long v) (hfit : fits ty (.long v) = true) (hdg : decode cc pc = .ok (.putfield index, 3)) (kk : ∀ S1, SW p l e R s m args below meth c D cl sl cA ad Qf (K S1) S1 (pc + 3) ls st) : SW p l e R s m args below meth c D cl sl cA ad Qf (lt (wL S k j v) K) S pc ls (.long v :: .ref (ad k) :: st) := fun a ha H locs hP hS => va_put (D := D) (cl := cl) (tys := tyl tl cA) (ci := ci) (v := .long v) (ty := ty) (C := C) (T := T) (N := N) C0.1 C0.2.1 C0.2.2.2.2.1 hin tyf hty hnm C0.2.2.2.1 C0.2.2.2.2.2.1 hP C0.2.2.2.2.2.2.2.1.D hS k (wsl_get hk) hc j hj (C0.2.2.2.2.1 _ hlk) (fun _ h9 => by rw [← hsame]; exact h9) hfin hd hn hfit (by rw [List.length_mapIdx]; exact (List.getElem?_eq_some_iff.mp hf).1) hdg (fun H1 locs1 hP1 _ hS1 => kk (wL S k j v) a ha H1 locs1 (by rw [← wsl_setL hk (sxc_setL hf)]; exact hP1) hS1)
theorem sx_putLs (C0 : Cx D cl tl sl cA ad Ex own cc nL rt p s m args meth c) {ref C : String} {T : u_T} {N ci index k j z : Nat} {fds : List (Nat × Nat)} {K : vS → α} {v : Int64} {ty : FieldType} (tyf : Nat → FieldType) (hty : ∀ k, k < N → parseFieldDescriptor (T k).2.2.1 = some (tyf k)) (hnm : ∀ a, a < N → ∀ b, b < N → a ≠ b → (T a).2.1 ≠ (T b).2.1) (hin : ∀ w ∈ u_ws C T N, w ∈ ALL) (hc : cl[ci]? = some (C, T, N)) (hj : j < N) (hlk : Cond.fieldLink own index ref (T j).2.1 (T j).2.2.1 ∈ ALL) (hsame : (T j).1 = ref) (hk : sl[k]? = some (.inr (.inr (ci, fds)))) (hf : fds[j]? = some (1, z)) (hfin : (T j).2.2.2 = false) (hd : parseFieldDescriptor (T j).2.2.1 = some ty) (hn : narrow ty (.long v) = .long v) (hfit : fits ty (.long v) = true) (hdg : decode cc pc = .ok (.putfield index, 3)) (kk : ∀ S1, SW p l e R s m args below meth c D cl sl cA ad Qf (some (K S1)) S1 (pc + 3) ls st) : SW p l e R s m args below meth c D cl sl cA ad Qf (some (lt (wL S k j v) K)) S pc ls (.long v :: .ref (ad k) :: st) := fun a ha H locs hP hS => va_put (D := D) (cl := cl) (tys := tyl tl cA) (ci := ci) (v := .long v) (ty := ty) (C := C) (T := T) (N := N) C0.1 C0.2.1 C0.2.2.2.2.1 hin tyf hty hnm C0.2.2.2.1 C0.2.2.2.2.2.1 hP C0.2.2.2.2.2.2.2.1.D hS k (wsl_get hk) hc j hj (C0.2.2.2.2.1 _ hlk) (fun _ h9 => by rw [← hsame]; exact h9) hfin hd hn hfit (by rw [List.length_mapIdx]; exact (List.getElem?_eq_some_iff.mp hf).1) hdg (fun H1 locs1 hP1 _ hS1 => kk (wL S k j v) a ha H1 locs1 (by rw [← wsl_setL hk (sxc_setL hf)]; exact hP1) hS1)
theorem sx_iald (C0 : Cx D cl tl sl cA ad Ex own cc nL rt p s m args meth c) {k t n : Nat} {i : Int32} {K : Int32 → Option α} (hk : sl[k]? = some (.inl (t, n))) (ht : tl[t]? = some .int) (hdg : decode cc pc = .ok (.iaload, 1)) (kk : ∀ x, SW p l e R s m args below meth c D cl sl cA ad Qf (K x) S (pc + 1) ls (.int x :: st)) : SW p l e R s m args below meth c D cl sl cA ad Qf ((gI (S.1 k) n i).bind K) S pc ls (.int i :: .ref (ad k) :: st) := by
  intro a ha H locs hP hS
  unfold gI at ha
  by_cases hi : i < 0 ∨ n ≤ i.toNatClampNeg
  · rw [if_pos hi] at ha; exact nomatch ha
  · rw [if_neg hi] at ha
    exact va_iald (D := D) (cl := cl) (tys := tyl tl cA) C0.1 C0.2.1 C0.2.2.2.2.2.1 hP k t (wsl_get hk) (tyl_get ht) hi hdg (kk _ a ha H locs hP hS)
theorem sx_bald (C0 : Cx D cl tl sl cA ad Ex own cc nL rt p s m args meth c) {k t n : Nat} {i : Int32} {K : Int32 → Option α} (hk : sl[k]? = some (.inl (t, n))) (ht : tl[t]? = some .byte) (hdg : decode cc pc = .ok (.baload, 1)) (kk : ∀ x, SW p l e R s m args below meth c D cl sl cA ad Qf (K x) S (pc + 1) ls (.int x :: st)) : SW p l e R s m args below meth c D cl sl cA ad Qf ((gI (S.1 k) n i).bind K) S pc ls (.int i :: .ref (ad k) :: st) := by
  intro a ha H locs hP hS
  unfold gI at ha
  by_cases hi : i < 0 ∨ n ≤ i.toNatClampNeg
  · rw [if_pos hi] at ha; exact nomatch ha
  · rw [if_neg hi] at ha
    exact va_bald (D := D) (cl := cl) (tys := tyl tl cA) C0.1 C0.2.1 C0.2.2.2.2.2.1 hP k t (wsl_get hk) (tyl_get ht) hi hdg (kk _ a ha H locs hP hS)
theorem sx_zald (C0 : Cx D cl tl sl cA ad Ex own cc nL rt p s m args meth c) {k t n : Nat} {i : Int32} {K : Int32 → Option α} (hk : sl[k]? = some (.inl (t, n))) (ht : tl[t]? = some .boolean) (hdg : decode cc pc = .ok (.baload, 1)) (kk : ∀ x, SW p l e R s m args below meth c D cl sl cA ad Qf (K x) S (pc + 1) ls (.int x :: st)) : SW p l e R s m args below meth c D cl sl cA ad Qf ((gI (S.1 k) n i).bind K) S pc ls (.int i :: .ref (ad k) :: st) := by
  intro a ha H locs hP hS
  unfold gI at ha
  by_cases hi : i < 0 ∨ n ≤ i.toNatClampNeg
  · rw [if_pos hi] at ha; exact nomatch ha
  · rw [if_neg hi] at ha
    exact va_zald (D := D) (cl := cl) (tys := tyl tl cA) C0.1 C0.2.1 C0.2.2.2.2.2.1 hP k t (wsl_get hk) (tyl_get ht) hi hdg (kk _ a ha H locs hP hS)
theorem sx_iast (C0 : Cx D cl tl sl cA ad Ex own cc nL rt p s m args meth c) {k t n : Nat} {i x : Int32} {K : vS → Option α} (hk : sl[k]? = some (.inl (t, n))) (ht : tl[t]? = some .int) (hdg : decode cc pc = .ok (.iastore, 1)) (kk : ∀ S1, SW p l e R s m args below meth c D cl sl cA ad Qf (K S1) S1 (pc + 1) ls st) : SW p l e R s m args below meth c D cl sl cA ad Qf ((pI S k n i x).bind K) S pc ls (.int x :: .int i :: .ref (ad k) :: st) := by
  intro a ha H locs hP hS
  unfold pI at ha
  by_cases hi : i < 0 ∨ n ≤ i.toNatClampNeg
  · rw [if_pos hi] at ha; exact nomatch ha
  · rw [if_neg hi] at ha
    exact va_iast (D := D) (cl := cl) (tys := tyl tl cA) C0.1 C0.2.1 C0.2.2.2.2.2.1 hP C0.2.2.2.2.2.2.2.1.D hS k t (wsl_get hk) (tyl_get ht) hi hdg (fun H1 locs1 hP1 _ hS1 => kk _ a ha H1 locs1 (by
      have e : wI S k i.toNatClampNeg x = wR S k (upd (S.1 k) i.toNatClampNeg x) := rfl
      rw [e, ← wsl_setR hk (e := .inl (cA t, n, .inl (upd (S.1 k) i.toNatClampNeg x))) (by simp [sxc, wR, va_up])]
      exact hP1) hS1)
theorem sx_bast (C0 : Cx D cl tl sl cA ad Ex own cc nL rt p s m args meth c) {k t n : Nat} {i x : Int32} {K : vS → Option α} (hk : sl[k]? = some (.inl (t, n))) (ht : tl[t]? = some .byte) (hdg : decode cc pc = .ok (.bastore, 1)) (kk : ∀ S1, SW p l e R s m args below meth c D cl sl cA ad Qf (K S1) S1 (pc + 1) ls st) : SW p l e R s m args below meth c D cl sl cA ad Qf ((pI S k n i (vp_nar .byte x)).bind K) S pc ls (.int x :: .int i :: .ref (ad k) :: st) := by
  intro a ha H locs hP hS
  unfold pI at ha
  by_cases hi : i < 0 ∨ n ≤ i.toNatClampNeg
  · rw [if_pos hi] at ha; exact nomatch ha
  · rw [if_neg hi] at ha
    exact va_bast (D := D) (cl := cl) (tys := tyl tl cA) C0.1 C0.2.1 C0.2.2.2.2.2.1 hP C0.2.2.2.2.2.2.2.1.D hS k t (wsl_get hk) (tyl_get ht) hi hdg (fun H1 locs1 hP1 _ hS1 => kk _ a ha H1 locs1 (by
      have e : wI S k i.toNatClampNeg (vp_nar .byte x) = wR S k (upd (S.1 k) i.toNatClampNeg (vp_nar .byte x)) := rfl
      rw [e, ← wsl_setR hk (e := .inl (cA t, n, .inl (upd (S.1 k) i.toNatClampNeg (vp_nar .byte x)))) (by simp [sxc, wR, va_up])]
      exact hP1) hS1)
theorem sx_zast (C0 : Cx D cl tl sl cA ad Ex own cc nL rt p s m args meth c) {k t n : Nat} {i x : Int32} {K : vS → Option α} (hk : sl[k]? = some (.inl (t, n))) (ht : tl[t]? = some .boolean) (hdg : decode cc pc = .ok (.bastore, 1)) (kk : ∀ S1, SW p l e R s m args below meth c D cl sl cA ad Qf (K S1) S1 (pc + 1) ls st) : SW p l e R s m args below meth c D cl sl cA ad Qf ((pI S k n i (vp_nar .boolean x)).bind K) S pc ls (.int x :: .int i :: .ref (ad k) :: st) := by
  intro a ha H locs hP hS
  unfold pI at ha
  by_cases hi : i < 0 ∨ n ≤ i.toNatClampNeg
  · rw [if_pos hi] at ha; exact nomatch ha
  · rw [if_neg hi] at ha
    exact va_zast (D := D) (cl := cl) (tys := tyl tl cA) C0.1 C0.2.1 C0.2.2.2.2.2.1 hP C0.2.2.2.2.2.2.2.1.D hS k t (wsl_get hk) (tyl_get ht) hi hdg (fun H1 locs1 hP1 _ hS1 => kk _ a ha H1 locs1 (by
      have e : wI S k i.toNatClampNeg (vp_nar .boolean x) = wR S k (upd (S.1 k) i.toNatClampNeg (vp_nar .boolean x)) := rfl
      rw [e, ← wsl_setR hk (e := .inl (cA t, n, .inl (upd (S.1 k) i.toNatClampNeg (vp_nar .boolean x)))) (by simp [sxc, wR, va_up])]
      exact hP1) hS1)
theorem sx_alen (C0 : Cx D cl tl sl cA ad Ex own cc nL rt p s m args meth c) {k t n : Nat} {v : Int32} {ty : FieldType} (hk : sl[k]? = some (.inl (t, n))) (ht : tl[t]? = some ty) (hv : Int32.ofNat n = v) (hdg : decode cc pc = .ok (.arraylength, 1)) (kk : SW p l e R s m args below meth c D cl sl cA ad Qf M S (pc + 1) ls (.int v :: st)) : SW p l e R s m args below meth c D cl sl cA ad Qf M S pc ls (.ref (ad k) :: st) := fun a ha H locs hP hS => va_alen (D := D) (cl := cl) (tys := tyl tl cA) C0.1 C0.2.1 C0.2.2.2.2.2.1 hP k t (wsl_get hk) (tyl_get ht) hv hdg (kk a ha H locs hP hS)
theorem sx_alenR (C0 : Cx D cl tl sl cA ad Ex own cc nL rt p s m args meth c) {k t n : Nat} {l0 : List Nat} {v : Int32} {ty : FieldType} (hk : sl[k]? = some (.inr (.inl (t, n, l0)))) (ht : tl[t]? = some ty) (hv : Int32.ofNat n = v) (hdg : decode cc pc = .ok (.arraylength, 1)) (kk : SW p l e R s m args below meth c D cl sl cA ad Qf M S (pc + 1) ls (.int v :: st)) : SW p l e R s m args below meth c D cl sl cA ad Qf M S pc ls (.ref (ad k) :: st) := fun a ha H locs hP hS => va_alen (D := D) (cl := cl) (tys := tyl tl cA) C0.1 C0.2.1 C0.2.2.2.2.2.1 hP k t (wsl_get hk) (tyl_get ht) hv hdg (kk a ha H locs hP hS)
theorem sx_aald (C0 : Cx D cl tl sl cA ad Ex own cc nL rt p s m args meth c) {k t n : Nat} {l0 : List Nat} {C0n : String} {i : Int32} {K : Nat → Option α} (hk : sl[k]? = some (.inr (.inl (t, n, l0)))) (hln : l0.length = n) (ht : tl[t]? = some (.object C0n)) (hdg : decode cc pc = .ok (.aaload, 1)) (kk : ∀ x, x ∈ l0 → SW p l e R s m args below meth c D cl sl cA ad Qf (K x) S (pc + 1) ls (.ref (ad x) :: st)) : SW p l e R s m args below meth c D cl sl cA ad Qf ((aI l0 i).bind K) S pc ls (.int i :: .ref (ad k) :: st) := by
  subst hln
  intro a ha H locs hP hS
  unfold aI at ha
  by_cases hi : i < 0
  · rw [if_pos hi] at ha; exact nomatch ha
  · rw [if_neg hi] at ha
    cases hx : l0[i.toNatClampNeg]? with
    | none => rw [hx] at ha; exact nomatch ha
    | some x =>
      rw [hx] at ha
      have hlt : i.toNatClampNeg < l0.length := (List.getElem?_eq_some_iff.mp hx).1
      have kk2 := kk x (List.mem_of_getElem? hx) a ha H locs hP hS
      have hin : ¬ (i < 0 ∨ l0.length ≤ i.toNatClampNeg) := fun q => q.elim hi (fun z => absurd hlt (Nat.not_lt.mpr z))
      refine W.aald (v := .ref (ad x)) (ty := .object C0n) C0.1 C0.2.1 (hP k _ (wsl_get hk)) ((C0.2.2.2.2.2.1.2 t _ (tyl_get ht)).1 l0.length (fun j => va_rf ((l0[j]?).map ad))) rfl (fun q => by cases q) (by show ¬ (i < 0 ∨ (arrV _ _ _).slots.size ≤ _); rw [arrV_size]; exact hin) (by show (arrV _ _ _).slots[_]? = _; rw [arrV_read _ _ hlt]; show some (va_rf ((l0[i.toNatClampNeg]?).map ad)) = _; rw [hx]; rfl) rfl rfl hdg kk2
theorem sx_aaldA (C0 : Cx D cl tl sl cA ad Ex own cc nL rt p s m args meth c) {k t n : Nat} {l0 : List Nat} {ty0 : FieldType} {i : Int32} {K : Nat → Option α} (hk : sl[k]? = some (.inr (.inl (t, n, l0)))) (hln : l0.length = n) (ht : tl[t]? = some (.array ty0)) (hdg : decode cc pc = .ok (.aaload, 1)) (kk : ∀ x, x ∈ l0 → SW p l e R s m args below meth c D cl sl cA ad Qf (K x) S (pc + 1) ls (.ref (ad x) :: st)) : SW p l e R s m args below meth c D cl sl cA ad Qf ((aI l0 i).bind K) S pc ls (.int i :: .ref (ad k) :: st) := by
  subst hln
  intro a ha H locs hP hS
  unfold aI at ha
  by_cases hi : i < 0
  · rw [if_pos hi] at ha; exact nomatch ha
  · rw [if_neg hi] at ha
    cases hx : l0[i.toNatClampNeg]? with
    | none => rw [hx] at ha; exact nomatch ha
    | some x =>
      rw [hx] at ha
      have hlt : i.toNatClampNeg < l0.length := (List.getElem?_eq_some_iff.mp hx).1
      have kk2 := kk x (List.mem_of_getElem? hx) a ha H locs hP hS
      have hin : ¬ (i < 0 ∨ l0.length ≤ i.toNatClampNeg) := fun q => q.elim hi (fun z => absurd hlt (Nat.not_lt.mpr z))
      refine W.aald (v := .ref (ad x)) (ty := .array ty0) C0.1 C0.2.1 (hP k _ (wsl_get hk)) ((C0.2.2.2.2.2.1.2 t _ (tyl_get ht)).1 l0.length (fun j => va_rf ((l0[j]?).map ad))) rfl (fun q => by cases q) (by show ¬ (i < 0 ∨ (arrV _ _ _).slots.size ≤ _); rw [arrV_size]; exact hin) (by show (arrV _ _ _).slots[_]? = _; rw [arrV_read _ _ hlt]; show some (va_rf ((l0[i.toNatClampNeg]?).map ad)) = _; rw [hx]; rfl) rfl rfl hdg kk2
theorem sx_acopy (C0 : Cx D cl tl sl cA ad Ex own cc nL rt p s m args meth c) {index k0 k1 t n0 n1 : Nat} {sp dp n : Int32} {K : vS → Option α} (hlk : Cond.methodLink own index arraycopyName ∈ ALL) (hk0 : sl[k0]? = some (.inl (t, n0))) (hk1 : sl[k1]? = some (.inl (t, n1))) (ht : tl[t]? = some .int) (hsz : ls.size = nL) (hR : 1 ≤ R.frames ∧ (st.map fun v => v.category).sum + (nativeFrameWords "java/lang/System" "arraycopy" 5 + 11) ≤ R.locals) (hdg : decode cc pc = .ok (.invokestatic index, 3)) (kk : ∀ S1, SW p l e R s m args below meth c D cl sl cA ad Qf (K S1) S1 (pc + 3) ls st) : SW p l e R s m args below meth c D cl sl cA ad Qf ((cI S k0 n0 sp k1 n1 dp n).bind K) S pc ls (.int n :: .int dp :: .ref (ad k1) :: .int sp :: .ref (ad k0) :: st) := by
  intro a ha H locs hP hS
  unfold cI at ha
  by_cases hi : sp < 0 ∨ dp < 0 ∨ n < 0 ∨ n0 < sp.toNatClampNeg + n.toNatClampNeg ∨ n1 < dp.toNatClampNeg + n.toNatClampNeg
  · rw [if_pos hi] at ha; exact nomatch ha
  · rw [if_neg hi] at ha
    have g1 : ¬ sp < 0 := fun z => hi (Or.inl z)
    have g2 : ¬ dp < 0 := fun z => hi (Or.inr (Or.inl z))
    have g3 : ¬ n < 0 := fun z => hi (Or.inr (Or.inr (Or.inl z)))
    have g4 : sp.toNatClampNeg + n.toNatClampNeg ≤ n0 := Nat.not_lt.mp fun z => hi (Or.inr (Or.inr (Or.inr (Or.inl z))))
    have g5 : dp.toNatClampNeg + n.toNatClampNeg ≤ n1 := Nat.not_lt.mp fun z => hi (Or.inr (Or.inr (Or.inr (Or.inr z))))
    exact va_copyi (D := D) (cl := cl) (tys := tyl tl cA) (ty := .int) C0.1 C0.2.1 (C0.2.2.1.trans hsz.symm) C0.2.2.2.1 (C0.2.2.2.2.1 _ hlk) (C0.2.2.2.2.1 _ wv_arraycopy) (C0.2.2.2.2.1 _ wt_arraycopy) (C0.2.2.2.2.1 _ wz_J10) C0.2.2.2.2.2.1 hP C0.2.2.2.2.2.2.2.1.D hS k0 k1 t t (wsl_get hk0) (wsl_get hk1) (tyl_get ht) (tyl_get ht) rfl g1 g2 g3 g4 g5 (fun _ _ => rfl) hR.1 hR.2 hdg (fun H1 locs1 hP1 _ hS1 => kk _ a ha H1 locs1 (by
      rw [← wsl_setR hk1 (e := .inl (cA t, n1, .inl (va_cpy (S.1 k0) (S.1 k1) sp.toNatClampNeg dp.toNatClampNeg n.toNatClampNeg))) (by simp [sxc, wR, va_up])]
      exact hP1) hS1)
theorem sx_mmax (C0 : Cx D cl tl sl cA ad Ex own cc nL rt p s m args meth c) {index : Nat} {x y : Int32} (hlk : Cond.methodLink own index yJ9_max_7cf53 ∈ ALL) (hsz : ls.size = nL) (hR : 1 ≤ R.frames ∧ (st.map fun v => v.category).sum + 13 ≤ R.locals) (hdg : decode cc pc = .ok (.invokestatic index, 3)) (kk : SW p l e R s m args below meth c D cl sl cA ad Qf M S (pc + 3) ls (.int (mxI x y) :: st)) : SW p l e R s m args below meth c D cl sl cA ad Qf M S pc ls (.int y :: .int x :: st) := fun a ha H locs hP hS => va_mmax C0.1 C0.2.1 (C0.2.2.1.trans hsz.symm) C0.2.2.2.1 (C0.2.2.2.2.1 _ hlk) (C0.2.2.2.2.1 _ wt_J9_max_7cf53) (C0.2.2.2.2.1 _ wz_J9) (C0.2.2.2.2.1 _ wc_J9_max_7cf53) hR.1 hR.2 (Nat.zero_le _) (Nat.zero_le _) hdg (kk a ha H locs hP hS)
theorem sx_mmin (C0 : Cx D cl tl sl cA ad Ex own cc nL rt p s m args meth c) {index : Nat} {x y : Int32} (hlk : Cond.methodLink own index yJ9_min_7cf53 ∈ ALL) (hsz : ls.size = nL) (hR : 1 ≤ R.frames ∧ (st.map fun v => v.category).sum + 13 ≤ R.locals) (hdg : decode cc pc = .ok (.invokestatic index, 3)) (kk : SW p l e R s m args below meth c D cl sl cA ad Qf M S (pc + 3) ls (.int (mnI x y) :: st)) : SW p l e R s m args below meth c D cl sl cA ad Qf M S pc ls (.int y :: .int x :: st) := fun a ha H locs hP hS => va_mmin C0.1 C0.2.1 (C0.2.2.1.trans hsz.symm) C0.2.2.2.1 (C0.2.2.2.2.1 _ hlk) (C0.2.2.2.2.1 _ wt_J9_min_7cf53) (C0.2.2.2.2.1 _ wz_J9) (C0.2.2.2.2.1 _ wc_J9_min_7cf53) hR.1 hR.2 (Nat.zero_le _) (Nat.zero_le _) hdg (kk a ha H locs hP hS)
theorem sx_iret (C0 : Cx D cl tl sl cA ad Ex own cc nL (some .int) p s m args meth c) {v : Int32} {a0 : α} {rv : α → Option Value} {rs : α → vS} {B : α → Prop} (hv : rv a0 = some (.int v)) (hs : rs a0 = S) (hB : B a0) (hdg : decode cc pc = .ok (.ireturn, 1)) : SW p l e R s m args below meth c D cl sl cA ad (Fq D cl sl cA ad below args s rv rs B) (some a0) S pc ls [.int v] := by
  intro a ha H locs hP hS
  cases ha
  have hlocks : meth.locks = false := C0.2.2.2.2.2.2.2.2.1
  exact W.iret C0.1 C0.2.1 C0.2.2.2.2.2.2.2.2.2 (fun t ht hW => ⟨by rw [hv], hB, by rw [hs, ht]; exact hP, hS.F ht⟩) hS.2.2 hdg hlocks
theorem sx_lret (C0 : Cx D cl tl sl cA ad Ex own cc nL (some .long) p s m args meth c) {v : Int64} {a0 : α} {rv : α → Option Value} {rs : α → vS} {B : α → Prop} (hv : rv a0 = some (.long v)) (hs : rs a0 = S) (hB : B a0) (hdg : decode cc pc = .ok (.lreturn, 1)) : SW p l e R s m args below meth c D cl sl cA ad (Fq D cl sl cA ad below args s rv rs B) (some a0) S pc ls [.long v] := by
  intro a ha H locs hP hS
  cases ha
  have hlocks : meth.locks = false := C0.2.2.2.2.2.2.2.2.1
  exact W.lret C0.1 C0.2.1 C0.2.2.2.2.2.2.2.2.2 (fun t ht hW => ⟨by rw [hv], hB, by rw [hs, ht]; exact hP, hS.F ht⟩) hS.2.2 hdg hlocks
theorem sx_zret (C0 : Cx D cl tl sl cA ad Ex own cc nL (some .boolean) p s m args meth c) {v : Int32} {a0 : α} {rv : α → Option Value} {rs : α → vS} {B : α → Prop} (hv : rv a0 = some (.int v)) (hs : rs a0 = S) (hb : isB v) (hB : B a0) (hdg : decode cc pc = .ok (.ireturn, 1)) : SW p l e R s m args below meth c D cl sl cA ad (Fq D cl sl cA ad below args s rv rs B) (some a0) S pc ls [.int v] := by
  intro a ha H locs hP hS
  cases ha
  have hlocks : meth.locks = false := C0.2.2.2.2.2.2.2.2.1
  exact W.zret C0.1 C0.2.1 C0.2.2.2.2.2.2.2.2.2 (by rcases hb with rfl | rfl <;> rfl) (fun t ht hW => ⟨by rw [hv], hB, by rw [hs, ht]; exact hP, hS.F ht⟩) hS.2.2 hdg hlocks
theorem sx_vret (C0 : Cx D cl tl sl cA ad Ex own cc nL none p s m args meth c) {a0 : α} {rv : α → Option Value} {rs : α → vS} {B : α → Prop} (hv : rv a0 = none) (hs : rs a0 = S) (hB : B a0) (hdg : decode cc pc = .ok (.return_, 1)) : SW p l e R s m args below meth c D cl sl cA ad (Fq D cl sl cA ad below args s rv rs B) (some a0) S pc ls [] := by
  intro a ha H locs hP hS
  cases ha
  have hlocks : meth.locks = false := C0.2.2.2.2.2.2.2.2.1
  exact W.vret C0.1 C0.2.1 C0.2.2.2.2.2.2.2.2.2 (fun t ht hW => ⟨by rw [hv], hB, by rw [hs, ht]; exact hP, hS.F ht⟩) hS.2.2 hdg hlocks
theorem sx_callV (C0 : Cx D cl tl sl cA ad Ex own cc nL rt p s m args meth c) {y : MethodName} {bytes : ByteArray} {maxL index n : Nat} {ret : Option FieldType} {rm : Room} {S1 : vS} {B : Prop} {As stk : List Value} {C : String} {T : u_T} {N ci k : Nat} {fds : List (Nat × Nat)} {vr : Value} (hM : Met l y (Cond.code y bytes maxL ret :: ALL) rm (Po D cl tl sl cA ad Ex (.ref (ad k) :: As) S) (Qo D cl sl cA ad (some vr) S1 B) 0 0 (aw sl ad)) (hcode : Cond.code y bytes maxL ret ∈ ALL) (hlk : Cond.methodLink own index y ∈ ALL) (hini : Cond.initialized y.cls ∈ ALL) (hno : y.cls ≠ "java/lang/invoke/MethodHandle" ∧ y.cls ≠ "java/lang/invoke/VarHandle" ∧ (parseMethodDescriptor y.desc).map (fun d => d.parameters.length) = some n) (hi : Cond.instanceMethod y ∈ ALL) (hse : Cond.selects C y y ∈ ALL) (hcls : y.cls = C) (hk : sl[k]? = some (.inr (.inr (ci, fds)))) (hc : cl[ci]? = some (C, T, N)) (hrc : rm.cells = 0 ∧ rm.slots = 0) (hR : rm.frames + 1 ≤ R.frames ∧ 8 + (maxL + 11) + rm.locals ≤ R.locals) (hn : As.length = n) (hsz : ls.size = nL) (hrest : (st.map fun v => v.category).sum ≤ 8) (hst : stk = As.reverse ++ .ref (ad k) :: st) (hdg : decode cc pc = .ok (.invokevirtual index, 3)) (kk : B → SW p l e R s m args below meth c D cl sl cA ad Qf M S1 (pc + 3) ls (vr :: st)) : SW p l e R s m args below meth c D cl sl cA ad Qf M S pc ls stk := by
  intro a ha H locs hP hS
  have hG : GoodIn ALL (Cond.code y bytes maxL ret :: ALL) := fun w h => by
    rcases List.mem_cons.mp h with rfl | h
    · exact al_self _ hcode
    · exact al_self w h
  have hts := C0.2.2.2.2.1
  have cw : CallW R s args own C index y bytes maxL ret (Cond.code y bytes maxL ret :: ALL) rm 0 0 n := ⟨callB_of n hts hG rfl hrc.1 hrc.2 (hts _ hini) (hts _ hlk) hno hR, hts _ hi, hts _ hse⟩
  have run : va_Run p l e R s m args below meth c H locs 0 0 0 0 (F0 m pc ls stk) st _ (aw sl ad) := va_runV (As := As) (rest := st) ⟨C0.1, C0.2.1, C0.2.2.1, C0.2.2.2.1, hts⟩ hM cw ⟨Po.blind C0.2.2.2.2.2.2.2.1, va_recv C0.2.2.2.2.2.1 hP hc (wsl_get hk), fun U hU hW => ⟨rfl, by rw [hU]; exact hP, va_K.moved hW.alike C0.2.2.2.2.2.1, C0.2.2.2.2.2.2.2.1.2 s U U.heap C0.2.2.2.2.2.2.1 hW.alike (fun q h1 h2 => by rw [hU]; exact hS.2.1 q h1 h2)⟩⟩ rfl hn hsz hst (lv_room hrest) hdg ⟨Nat.zero_le _, Nat.zero_le _⟩
  intro T hT X
  obtain ⟨v', st₀, t, T', L, h0, X', hL, e1, e2, ⟨hv, hBB, hP1, hF⟩, stp⟩ := run T hT X
  cases hv
  have hF2 : va_F (aw sl ad) st₀ t := hF
  unfold va_F at hF2
  rw [h0] at hF2
  obtain ⟨t2, a1, b1⟩ := kk hBB a ha T'.heap (locs ++ L) (by rw [e1]; exact hP1)
    ⟨Nat.le_trans hS.1 (by rw [e1]; exact hF2.1), fun q h1 h2 => by rw [e1, hF2.2 q (Nat.lt_of_lt_of_le h1 hS.1) h2]; exact hS.2.1 q h1 h2, fun q hq => by
      rcases List.mem_append.mp hq with h | h
      · exact hS.2.2 q h
      · exact hL q h⟩ T' rfl X'
  exact ⟨t2, stp t2 a1, b1⟩
theorem sx_callVv (C0 : Cx D cl tl sl cA ad Ex own cc nL rt p s m args meth c) {y : MethodName} {bytes : ByteArray} {maxL index n : Nat} {ret : Option FieldType} {rm : Room} {S1 : vS} {B : Prop} {As stk : List Value} {C : String} {T : u_T} {N ci k : Nat} {fds : List (Nat × Nat)}  (hM : Met l y (Cond.code y bytes maxL ret :: ALL) rm (Po D cl tl sl cA ad Ex (.ref (ad k) :: As) S) (Qo D cl sl cA ad none S1 B) 0 0 (aw sl ad)) (hcode : Cond.code y bytes maxL ret ∈ ALL) (hlk : Cond.methodLink own index y ∈ ALL) (hini : Cond.initialized y.cls ∈ ALL) (hno : y.cls ≠ "java/lang/invoke/MethodHandle" ∧ y.cls ≠ "java/lang/invoke/VarHandle" ∧ (parseMethodDescriptor y.desc).map (fun d => d.parameters.length) = some n) (hi : Cond.instanceMethod y ∈ ALL) (hse : Cond.selects C y y ∈ ALL) (hcls : y.cls = C) (hk : sl[k]? = some (.inr (.inr (ci, fds)))) (hc : cl[ci]? = some (C, T, N)) (hrc : rm.cells = 0 ∧ rm.slots = 0) (hR : rm.frames + 1 ≤ R.frames ∧ 8 + (maxL + 11) + rm.locals ≤ R.locals) (hn : As.length = n) (hsz : ls.size = nL) (hrest : (st.map fun v => v.category).sum ≤ 8) (hst : stk = As.reverse ++ .ref (ad k) :: st) (hdg : decode cc pc = .ok (.invokevirtual index, 3)) (kk : B → SW p l e R s m args below meth c D cl sl cA ad Qf M S1 (pc + 3) ls st) : SW p l e R s m args below meth c D cl sl cA ad Qf M S pc ls stk := by
  intro a ha H locs hP hS
  have hG : GoodIn ALL (Cond.code y bytes maxL ret :: ALL) := fun w h => by
    rcases List.mem_cons.mp h with rfl | h
    · exact al_self _ hcode
    · exact al_self w h
  have hts := C0.2.2.2.2.1
  have cw : CallW R s args own C index y bytes maxL ret (Cond.code y bytes maxL ret :: ALL) rm 0 0 n := ⟨callB_of n hts hG rfl hrc.1 hrc.2 (hts _ hini) (hts _ hlk) hno hR, hts _ hi, hts _ hse⟩
  have run : va_Run p l e R s m args below meth c H locs 0 0 0 0 (F0 m pc ls stk) st _ (aw sl ad) := va_runV (As := As) (rest := st) ⟨C0.1, C0.2.1, C0.2.2.1, C0.2.2.2.1, hts⟩ hM cw ⟨Po.blind C0.2.2.2.2.2.2.2.1, va_recv C0.2.2.2.2.2.1 hP hc (wsl_get hk), fun U hU hW => ⟨rfl, by rw [hU]; exact hP, va_K.moved hW.alike C0.2.2.2.2.2.1, C0.2.2.2.2.2.2.2.1.2 s U U.heap C0.2.2.2.2.2.2.1 hW.alike (fun q h1 h2 => by rw [hU]; exact hS.2.1 q h1 h2)⟩⟩ rfl hn hsz hst (lv_room hrest) hdg ⟨Nat.zero_le _, Nat.zero_le _⟩
  intro T hT X
  obtain ⟨v', st₀, t, T', L, h0, X', hL, e1, e2, ⟨hv, hBB, hP1, hF⟩, stp⟩ := run T hT X
  cases hv
  have hF2 : va_F (aw sl ad) st₀ t := hF
  unfold va_F at hF2
  rw [h0] at hF2
  obtain ⟨t2, a1, b1⟩ := kk hBB a ha T'.heap (locs ++ L) (by rw [e1]; exact hP1)
    ⟨Nat.le_trans hS.1 (by rw [e1]; exact hF2.1), fun q h1 h2 => by rw [e1, hF2.2 q (Nat.lt_of_lt_of_le h1 hS.1) h2]; exact hS.2.1 q h1 h2, fun q hq => by
      rcases List.mem_append.mp hq with h | h
      · exact hS.2.2 q h
      · exact hL q h⟩ T' rfl X'
  exact ⟨t2, stp t2 a1, b1⟩
theorem sx_callS (C0 : Cx D cl tl sl cA ad Ex own cc nL rt p s m args meth c) {y : MethodName} {bytes : ByteArray} {maxL index n : Nat} {ret : Option FieldType} {rm : Room} {S1 : vS} {B : Prop} {As stk : List Value}  {vr : Value} (hM : Met l y (Cond.code y bytes maxL ret :: ALL) rm (Po D cl tl sl cA ad Ex As S) (Qo D cl sl cA ad (some vr) S1 B) 0 0 (aw sl ad)) (hcode : Cond.code y bytes maxL ret ∈ ALL) (hlk : Cond.methodLink own index y ∈ ALL) (hini : Cond.initialized y.cls ∈ ALL) (hno : y.cls ≠ "java/lang/invoke/MethodHandle" ∧ y.cls ≠ "java/lang/invoke/VarHandle" ∧ (parseMethodDescriptor y.desc).map (fun d => d.parameters.length) = some n) (hstt : Cond.static y ∈ ALL) (hrc : rm.cells = 0 ∧ rm.slots = 0) (hR : rm.frames + 1 ≤ R.frames ∧ 8 + (maxL + 11) + rm.locals ≤ R.locals) (hn : As.length = n) (hsz : ls.size = nL) (hrest : (st.map fun v => v.category).sum ≤ 8) (hst : stk = As.reverse ++ st) (hdg : decode cc pc = .ok (.invokestatic index, 3)) (kk : B → SW p l e R s m args below meth c D cl sl cA ad Qf M S1 (pc + 3) ls (vr :: st)) : SW p l e R s m args below meth c D cl sl cA ad Qf M S pc ls stk := by
  intro a ha H locs hP hS
  have hG : GoodIn ALL (Cond.code y bytes maxL ret :: ALL) := fun w h => by
    rcases List.mem_cons.mp h with rfl | h
    · exact al_self _ hcode
    · exact al_self w h
  have hts := C0.2.2.2.2.1
  have cw : CallB R s args own index y bytes maxL ret (Cond.code y bytes maxL ret :: ALL) rm 0 0 n ∧ (Cond.static y).before args s = true := ⟨callB_of n hts hG rfl hrc.1 hrc.2 (hts _ hini) (hts _ hlk) hno hR, hts _ hstt⟩
  have run : va_Run p l e R s m args below meth c H locs 0 0 0 0 (F0 m pc ls stk) st _ (aw sl ad) := va_runS (As := As) (rest := st) ⟨C0.1, C0.2.1, C0.2.2.1, C0.2.2.2.1, hts⟩ hM cw ⟨Po.blind C0.2.2.2.2.2.2.2.1, fun U hU hW => ⟨rfl, by rw [hU]; exact hP, va_K.moved hW.alike C0.2.2.2.2.2.1, C0.2.2.2.2.2.2.2.1.2 s U U.heap C0.2.2.2.2.2.2.1 hW.alike (fun q h1 h2 => by rw [hU]; exact hS.2.1 q h1 h2)⟩⟩ rfl hn hsz hst (lv_room hrest) hdg ⟨Nat.zero_le _, Nat.zero_le _⟩
  intro T hT X
  obtain ⟨v', st₀, t, T', L, h0, X', hL, e1, e2, ⟨hv, hBB, hP1, hF⟩, stp⟩ := run T hT X
  cases hv
  have hF2 : va_F (aw sl ad) st₀ t := hF
  unfold va_F at hF2
  rw [h0] at hF2
  obtain ⟨t2, a1, b1⟩ := kk hBB a ha T'.heap (locs ++ L) (by rw [e1]; exact hP1)
    ⟨Nat.le_trans hS.1 (by rw [e1]; exact hF2.1), fun q h1 h2 => by rw [e1, hF2.2 q (Nat.lt_of_lt_of_le h1 hS.1) h2]; exact hS.2.1 q h1 h2, fun q hq => by
      rcases List.mem_append.mp hq with h | h
      · exact hS.2.2 q h
      · exact hL q h⟩ T' rfl X'
  exact ⟨t2, stp t2 a1, b1⟩
theorem sx_callSv (C0 : Cx D cl tl sl cA ad Ex own cc nL rt p s m args meth c) {y : MethodName} {bytes : ByteArray} {maxL index n : Nat} {ret : Option FieldType} {rm : Room} {S1 : vS} {B : Prop} {As stk : List Value}   (hM : Met l y (Cond.code y bytes maxL ret :: ALL) rm (Po D cl tl sl cA ad Ex As S) (Qo D cl sl cA ad none S1 B) 0 0 (aw sl ad)) (hcode : Cond.code y bytes maxL ret ∈ ALL) (hlk : Cond.methodLink own index y ∈ ALL) (hini : Cond.initialized y.cls ∈ ALL) (hno : y.cls ≠ "java/lang/invoke/MethodHandle" ∧ y.cls ≠ "java/lang/invoke/VarHandle" ∧ (parseMethodDescriptor y.desc).map (fun d => d.parameters.length) = some n) (hstt : Cond.static y ∈ ALL) (hrc : rm.cells = 0 ∧ rm.slots = 0) (hR : rm.frames + 1 ≤ R.frames ∧ 8 + (maxL + 11) + rm.locals ≤ R.locals) (hn : As.length = n) (hsz : ls.size = nL) (hrest : (st.map fun v => v.category).sum ≤ 8) (hst : stk = As.reverse ++ st) (hdg : decode cc pc = .ok (.invokestatic index, 3)) (kk : B → SW p l e R s m args below meth c D cl sl cA ad Qf M S1 (pc + 3) ls st) : SW p l e R s m args below meth c D cl sl cA ad Qf M S pc ls stk := by
  intro a ha H locs hP hS
  have hG : GoodIn ALL (Cond.code y bytes maxL ret :: ALL) := fun w h => by
    rcases List.mem_cons.mp h with rfl | h
    · exact al_self _ hcode
    · exact al_self w h
  have hts := C0.2.2.2.2.1
  have cw : CallB R s args own index y bytes maxL ret (Cond.code y bytes maxL ret :: ALL) rm 0 0 n ∧ (Cond.static y).before args s = true := ⟨callB_of n hts hG rfl hrc.1 hrc.2 (hts _ hini) (hts _ hlk) hno hR, hts _ hstt⟩
  have run : va_Run p l e R s m args below meth c H locs 0 0 0 0 (F0 m pc ls stk) st _ (aw sl ad) := va_runS (As := As) (rest := st) ⟨C0.1, C0.2.1, C0.2.2.1, C0.2.2.2.1, hts⟩ hM cw ⟨Po.blind C0.2.2.2.2.2.2.2.1, fun U hU hW => ⟨rfl, by rw [hU]; exact hP, va_K.moved hW.alike C0.2.2.2.2.2.1, C0.2.2.2.2.2.2.2.1.2 s U U.heap C0.2.2.2.2.2.2.1 hW.alike (fun q h1 h2 => by rw [hU]; exact hS.2.1 q h1 h2)⟩⟩ rfl hn hsz hst (lv_room hrest) hdg ⟨Nat.zero_le _, Nat.zero_le _⟩
  intro T hT X
  obtain ⟨v', st₀, t, T', L, h0, X', hL, e1, e2, ⟨hv, hBB, hP1, hF⟩, stp⟩ := run T hT X
  cases hv
  have hF2 : va_F (aw sl ad) st₀ t := hF
  unfold va_F at hF2
  rw [h0] at hF2
  obtain ⟨t2, a1, b1⟩ := kk hBB a ha T'.heap (locs ++ L) (by rw [e1]; exact hP1)
    ⟨Nat.le_trans hS.1 (by rw [e1]; exact hF2.1), fun q h1 h2 => by rw [e1, hF2.2 q (Nat.lt_of_lt_of_le h1 hS.1) h2]; exact hS.2.1 q h1 h2, fun q hq => by
      rcases List.mem_append.mp hq with h | h
      · exact hS.2.2 q h
      · exact hL q h⟩ T' rfl X'
  exact ⟨t2, stp t2 a1, b1⟩
end SX
/-- calls of a method that may end in none -/
theorem sw_bind {α β : Type} {p : Program} {l : Launch} {e : Env} {R : Room} {s : State} {m : MethodId} {args : Array Value} {below : List Frame} {meth : Method} {c : Code} {D : va_G} {cl : List vw_C} {sl : List vSh} {cA : Nat → ClassId} {ad : Nat → Nat} {Qf : α → State → Prop} {f : Option β} {K : β → Option α} {S : vS} {pc : Nat} {ls : Array Slot} {st : List Value} (kk : ∀ b : β, f = some b → SW p l e R s m args below meth c D cl sl cA ad Qf (K b) S pc ls st) : SW p l e R s m args below meth c D cl sl cA ad Qf (f.bind K) S pc ls st := by
  intro a ha
  cases hf : f with
  | none => rw [hf] at ha; exact nomatch ha
  | some b => rw [hf] at ha; exact kk b hf a ha
