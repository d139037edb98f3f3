theorem gcl {α : Type} (l : List α) (a : α) (r : List α) : (l ++ a :: r)[l.length]? = some a := by simp
theorem vr_outer (c : ClassId) (N h0 : Nat) : ∀ i : Nat, Jvm.Free.Multi.outerC c N h0 i = arrV c N (fun j => va_rf (if j < i then some (h0 + 1 + j) else none))
  | 0 => by
    show ({ cls := c, slots := Array.replicate N .null, vm := .none } : Cell) = _
    rw [arrV_new]
    refine congrArg (arrV c N) (funext fun j => ?_)
    simp [va_rf]
  | i + 1 => by
    show (Jvm.Free.Multi.outerC c N h0 i).setSlot i (.ref (h0 + 1 + i)) = _
    rw [vr_outer c N h0 i, arrV_store]
    refine congrArg (arrV c N) (funext fun j => ?_)
    by_cases e : j = i
    · subst e
      simp [updV, va_rf]
    · by_cases h : j < i
      · simp [updV, e, h, Nat.lt_succ_of_lt h]
      · simp [updV, e, h, show ¬ j < i + 1 by omega]
section WNA
variable {p : Program} {l : Launch} {e : Env} {R : Room} {s : State} {m : MethodId} {args : Array Value} {below : List Frame} {meth : Method} {c : Code} {D : va_G} {tl : List FieldType} {cA : Nat → ClassId} {base : Nat} {own : String} {cc : ByteArray} {nL : Nat} {Q : State → Prop} {cells slots : Nat} {sl : List vSh} {S : vS} {pc : Nat} {ls : Array Slot} {st : List Value}
set_option maxHeartbeats 4000000 in
set_option maxRecDepth 100000 in
theorem wn_mna (C0 : CN D tl cA own cc nL p s m args meth c) {index K N M : Nat} {n k : Int32} {sl' : List vSh} (hcl : Cond.classLink own index "[[I" ∈ ALL) (hover : va_AOA .int s) (ht : tl[0]? = some .int) (ht1 : tl[1]? = some (.array .int)) (hn : ¬ n < 0) (hk : ¬ k < 0) (hNn : n.toNatClampNeg = N) (hMk : k.toNatClampNeg = M) (hN : sl.length = K) (hb1 : N * 4 ≤ 536870912) (hb2 : M * 4 ≤ 536870912) (hcells : cells + (1 + N) ≤ R.cells) (hslots : slots + (N + N * M) ≤ R.slots) (hsl : sl ++ (.inr (.inl (1, N, (List.range N).map (fun i => K + 1 + i))) :: List.replicate N (.inl (0, M))) = sl') (hdg : decode cc pc = .ok (.multianewarray index 2, 4)) (kk : WN p l e R s m args below meth c D cA base Q (cells + 1 + N) (slots + N + N * M) sl' S (pc + 4) ls (.ref (base + K) :: st)) : WN p l e R s m args below meth c D cA base Q cells slots sl S pc ls (.int k :: .int n :: st) := by
  intro H locs hP hS
  subst hN; subst hsl; subst hNn; subst hMk
  have hcy : s.vm.findClass (FieldType.array .int).toString = some (cA 0) := (C0.2.2.2.2.2.1.2 0 _ (tyl_get ht)).2
  have hc1 : s.vm.findClass ("[" ++ (FieldType.array .int).toString) = some (cA 1) := (C0.2.2.2.2.2.1.2 1 _ (tyl_get ht1)).2
  intro T hT X
  obtain ⟨vm₁, cB, comp, -, fA, fC, hO, -, X', step⟩ := X.multianewarray2F (ty := .int) C0.1 C0.2.2.2.1 (C0.2.2.2.2.1 _ hcl) hover (C0.2.2.2.2.1 _ wa_int) (g := F0 m pc ls (.int k :: .int n :: st)) rfl (by rw [C0.2.1]; exact hdg) rfl hn hk hb1 hb2 (by omega) rfl rfl hcells hslots
  have eB : cB = cA 1 := Option.some.inj (fA.symm.trans hc1)
  have eC : comp = cA 0 := Option.some.inj (fC.symm.trans hcy)
  subst eB; subst eC
  generalize hF : Jvm.Free.Multi.fill (T.setVm vm₁) (cA 1) (cA 0) n.toNatClampNeg k.toNatClampNeg (defaultValue .int) n.toNatClampNeg = F at X' step
  have hTh : (T.setVm vm₁).heap = H := hT
  obtain ⟨f1, f2, -, -⟩ := Jvm.Free.Multi.fill_facts (T.setVm vm₁) (cA 1) (cA 0) n.toNatClampNeg k.toNatClampNeg (defaultValue .int) n.toNatClampNeg
  rw [hF, hTh] at f1 f2
  have hold : ∀ x : Nat, x < H.size → F.heap[x]? = H[x]? := fun x hx => by
    have h9 := Jvm.Free.Multi.fill_old (T.setVm vm₁) (cA 1) (cA 0) n.toNatClampNeg k.toNatClampNeg (defaultValue .int) (a := x) (by rw [hTh]; exact hx) n.toNatClampNeg
    rw [hF, hTh] at h9
    exact h9
  have hrow : ∀ j : Nat, j < n.toNatClampNeg → F.heap[H.size + 1 + j]? = some (vp_cell (cA 0) (k.toNatClampNeg, .inl (fun _ => 0))) := fun j hj => by
    have h9 := Jvm.Free.Multi.fill_inner (T.setVm vm₁) (cA 1) (cA 0) n.toNatClampNeg k.toNatClampNeg (defaultValue .int) n.toNatClampNeg j hj
    rw [hF, hTh] at h9
    rw [h9]
    congr 1
    show ({ cls := cA 0, slots := Array.replicate k.toNatClampNeg (.int 0), vm := .none } : Cell) = _
    rw [arrV_new]
    rfl
  rw [vr_outer] at f2
  have hsz := hP.2.1
  have hW : WPn D cA base (sl ++ ((Sum.inr (Sum.inl (1, n.toNatClampNeg, (List.range n.toNatClampNeg).map (fun i => sl.length + 1 + i))) : vSh) :: List.replicate n.toNatClampNeg (Sum.inl (0, k.toNatClampNeg) : vSh))) S F.heap := by
    refine ⟨fun q x hx => ?_, by rw [f1, hsz, List.length_append, List.length_cons, List.length_replicate]; omega, fun q hq => hP.2.2 q (by rw [List.length_append] at hq; omega)⟩
    have hlen : q < (sl ++ ((Sum.inr (Sum.inl (1, n.toNatClampNeg, (List.range n.toNatClampNeg).map (fun i => sl.length + 1 + i))) : vSh) :: List.replicate n.toNatClampNeg (Sum.inl (0, k.toNatClampNeg) : vSh))).length := by have := (List.getElem?_eq_some_iff.mp hx).1; rwa [wsl_len] at this
    rw [List.length_append, List.length_cons, List.length_replicate] at hlen
    by_cases h1 : q < sl.length
    · have hg := List.getElem?_eq_getElem h1
      have e0 : (sl ++ ((Sum.inr (Sum.inl (1, n.toNatClampNeg, (List.range n.toNatClampNeg).map (fun i => sl.length + 1 + i))) : vSh) :: List.replicate n.toNatClampNeg (Sum.inl (0, k.toNatClampNeg) : vSh)))[q]? = some sl[q] := by rw [List.getElem?_append_left h1]; exact hg
      rw [wsl_get e0] at hx
      have h2 : (wsl sl cA (adb base) S)[q]? = some x := by rw [wsl_get hg]; exact hx
      exact (hP.1 q x h2).kept (hold _ ((hP.1 q x h2).lt))
    · by_cases h2 : q = sl.length
      · have e0 : (sl ++ ((Sum.inr (Sum.inl (1, n.toNatClampNeg, (List.range n.toNatClampNeg).map (fun i => sl.length + 1 + i))) : vSh) :: List.replicate n.toNatClampNeg (Sum.inl (0, k.toNatClampNeg) : vSh)))[q]? = some (.inr (.inl (1, n.toNatClampNeg, (List.range n.toNatClampNeg).map (fun i => sl.length + 1 + i)))) := by subst h2; exact gcl sl _ _
        rw [wsl_get e0] at hx
        cases hx
        show F.heap[base + q]? = some (vp_cell (cA 1) _)
        rw [h2, ← hsz, f2, vp_cell_q]
        congr 2
        funext j
        show va_rf (if j < n.toNatClampNeg then some (H.size + 1 + j) else none) = va_rf ((((List.range n.toNatClampNeg).map (fun i => sl.length + 1 + i))[j]?).map (adb base))
        by_cases hj : j < n.toNatClampNeg
        · rw [if_pos hj, List.getElem?_map, List.getElem?_range hj]
          show va_rf (some _) = va_rf (some (base + (sl.length + 1 + j)))
          rw [hsz]
          congr 2
          omega
        · rw [if_neg hj, List.getElem?_map, List.getElem?_eq_none (by rw [List.length_range]; omega)]
          rfl
      · obtain ⟨j, hj⟩ : ∃ j, q = sl.length + 1 + j := ⟨q - sl.length - 1, by omega⟩
        have hjn : j < n.toNatClampNeg := by omega
        have e0 : (sl ++ ((Sum.inr (Sum.inl (1, n.toNatClampNeg, (List.range n.toNatClampNeg).map (fun i => sl.length + 1 + i))) : vSh) :: List.replicate n.toNatClampNeg (Sum.inl (0, k.toNatClampNeg) : vSh)))[q]? = some (.inl (0, k.toNatClampNeg)) := by
          rw [List.getElem?_append_right (by omega), show q - sl.length = j + 1 by omega, List.getElem?_cons_succ, List.getElem?_replicate_of_lt hjn]
        rw [wsl_get e0] at hx
        cases hx
        show F.heap[base + q]? = some (vp_cell (cA 0) (k.toNatClampNeg, .inl (S.1 q)))
        rw [(hP.2.2 q (by omega)).1, hj, show base + (sl.length + 1 + j) = H.size + 1 + j by omega]
        exact hrow j hjn
  obtain ⟨t, a1, b1⟩ := kk F.heap locs hW (wn_grow hS (by omega) hold) F rfl X'
  refine ⟨t, step t ?_, b1⟩
  have e9 : T.heap.size = base + sl.length := by rw [hT, hsz]
  rw [e9]
  exact a1
end WNA
