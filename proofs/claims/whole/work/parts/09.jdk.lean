abbrev rm_J6_bitCount_0f7a4 : Room := { frames := 0, cells := 0, slots := 0, locals := 0 }
def mJ6_bitCount_0f7a4 (v0 : Int32) : Int32 := (lt (v0 - (((Int32.toUInt32 v0 >>> (Int32.toUInt32 (1 : Int32) &&& Int32.toUInt32 31)).toInt32) &&& (1431655765 : Int32))) fun v0_9 => (lt ((v0_9 &&& (858993459 : Int32)) + (((Int32.toUInt32 v0_9 >>> (Int32.toUInt32 (2 : Int32) &&& Int32.toUInt32 31)).toInt32) &&& (858993459 : Int32))) fun v0_23 => (lt ((v0_23 + ((Int32.toUInt32 v0_23 >>> (Int32.toUInt32 (4 : Int32) &&& Int32.toUInt32 31)).toInt32)) &&& (252645135 : Int32)) fun v0_33 => (lt (v0_33 + ((Int32.toUInt32 v0_33 >>> (Int32.toUInt32 (8 : Int32) &&& Int32.toUInt32 31)).toInt32)) fun v0_40 => (lt (v0_40 + ((Int32.toUInt32 v0_40 >>> (Int32.toUInt32 (16 : Int32) &&& Int32.toUInt32 31)).toInt32)) fun v0_47 => (v0_47 &&& (63 : Int32)))))))
set_option maxHeartbeats 4000000 in
set_option maxRecDepth 100000 in
theorem c_J6_bitCount_0f7a4 {l : Launch} {D : va_G} {tl : List FieldType} {sl : List vSh} {cA : Nat → ClassId} {ad : Nat → Nat} {Ex : State → Heap → Prop} (G : Gx sl ad Ex) (v0 : Int32) (S : vS) : Met l yJ6_bitCount_0f7a4 (Cond.code yJ6_bitCount_0f7a4 cJ6_bitCount_0f7a4 1 (some .int) :: ALL) rm_J6_bitCount_0f7a4 (Po D vwCl tl sl cA ad Ex [.int v0] S) (Qo D vwCl sl cA ad (some (.int (mJ6_bitCount_0f7a4 v0))) S True) 0 0 (aw sl ad) := by
  refine Met.sx (M := some (mJ6_bitCount_0f7a4 v0)) (rv := (fun r => some (.int r) : Int32 → Option Value)) (rs := fun _ => S) (B := fun _ => True) (by decide) ⟨rfl, rfl⟩ (Nat.le_of_ble_eq_true rfl) G (fun p e s m args below meth c C0 ls hl => ?_) rfl
  have hl : lv_has ls 1 [(0, .int v0)] := hl
  rw [mJ6_bitCount_0f7a4]
  refine sx_iload_n C0 dJ6_bitCount_0f7a4_0 rfl (lv_at hl 0 rfl) ?_
  refine sx_iload_n C0 dJ6_bitCount_0f7a4_1 rfl (lv_at hl 0 rfl) ?_
  refine sx_iconst (v := 1) C0 dJ6_bitCount_0f7a4_2 (by decide) ?_
  refine sx_iushr C0 dJ6_bitCount_0f7a4_3 ?_
  refine sx_ldcw C0 wk_J6_265 dJ6_bitCount_0f7a4_4 ?_
  refine sx_iand C0 dJ6_bitCount_0f7a4_7 ?_
  refine sx_isub C0 dJ6_bitCount_0f7a4_8 ?_
  refine sw_lts (val := .int) (fun v0_9 => ?_)
  refine sx_istore_n (lv' := [(0, .int v0_9)]) C0 dJ6_bitCount_0f7a4_9 rfl hl (by decide) rfl (fun ls hl => ?_)
  refine sx_iload_n C0 dJ6_bitCount_0f7a4_10 rfl (lv_at hl 0 rfl) ?_
  refine sx_ldcw C0 wk_J6_266 dJ6_bitCount_0f7a4_11 ?_
  refine sx_iand C0 dJ6_bitCount_0f7a4_14 ?_
  refine sx_iload_n C0 dJ6_bitCount_0f7a4_15 rfl (lv_at hl 0 rfl) ?_
  refine sx_iconst (v := 2) C0 dJ6_bitCount_0f7a4_16 (by decide) ?_
  refine sx_iushr C0 dJ6_bitCount_0f7a4_17 ?_
  refine sx_ldcw C0 wk_J6_266 dJ6_bitCount_0f7a4_18 ?_
  refine sx_iand C0 dJ6_bitCount_0f7a4_21 ?_
  refine sx_iadd C0 dJ6_bitCount_0f7a4_22 ?_
  refine sw_lts (val := .int) (fun v0_23 => ?_)
  refine sx_istore_n (lv' := [(0, .int v0_23)]) C0 dJ6_bitCount_0f7a4_23 rfl hl (by decide) rfl (fun ls hl => ?_)
  refine sx_iload_n C0 dJ6_bitCount_0f7a4_24 rfl (lv_at hl 0 rfl) ?_
  refine sx_iload_n C0 dJ6_bitCount_0f7a4_25 rfl (lv_at hl 0 rfl) ?_
  refine sx_iconst (v := 4) C0 dJ6_bitCount_0f7a4_26 (by decide) ?_
  refine sx_iushr C0 dJ6_bitCount_0f7a4_27 ?_
  refine sx_iadd C0 dJ6_bitCount_0f7a4_28 ?_
  refine sx_ldcw C0 wk_J6_267 dJ6_bitCount_0f7a4_29 ?_
  refine sx_iand C0 dJ6_bitCount_0f7a4_32 ?_
  refine sw_lts (val := .int) (fun v0_33 => ?_)
  refine sx_istore_n (lv' := [(0, .int v0_33)]) C0 dJ6_bitCount_0f7a4_33 rfl hl (by decide) rfl (fun ls hl => ?_)
  refine sx_iload_n C0 dJ6_bitCount_0f7a4_34 rfl (lv_at hl 0 rfl) ?_
  refine sx_iload_n C0 dJ6_bitCount_0f7a4_35 rfl (lv_at hl 0 rfl) ?_
  refine sx_bipush (v := 8) C0 dJ6_bitCount_0f7a4_36 (by decide) ?_
  refine sx_iushr C0 dJ6_bitCount_0f7a4_38 ?_
  refine sx_iadd C0 dJ6_bitCount_0f7a4_39 ?_
  refine sw_lts (val := .int) (fun v0_40 => ?_)
  refine sx_istore_n (lv' := [(0, .int v0_40)]) C0 dJ6_bitCount_0f7a4_40 rfl hl (by decide) rfl (fun ls hl => ?_)
  refine sx_iload_n C0 dJ6_bitCount_0f7a4_41 rfl (lv_at hl 0 rfl) ?_
  refine sx_iload_n C0 dJ6_bitCount_0f7a4_42 rfl (lv_at hl 0 rfl) ?_
  refine sx_bipush (v := 16) C0 dJ6_bitCount_0f7a4_43 (by decide) ?_
  refine sx_iushr C0 dJ6_bitCount_0f7a4_45 ?_
  refine sx_iadd C0 dJ6_bitCount_0f7a4_46 ?_
  refine sw_lts (val := .int) (fun v0_47 => ?_)
  refine sx_istore_n (lv' := [(0, .int v0_47)]) C0 dJ6_bitCount_0f7a4_47 rfl hl (by decide) rfl (fun ls hl => ?_)
  refine sx_iload_n C0 dJ6_bitCount_0f7a4_48 rfl (lv_at hl 0 rfl) ?_
  refine sx_bipush (v := 63) C0 dJ6_bitCount_0f7a4_49 (by decide) ?_
  refine sx_iand C0 dJ6_bitCount_0f7a4_51 ?_
  exact sx_iret C0 rfl rfl trivial dJ6_bitCount_0f7a4_52
abbrev rm_J7_fill_53178 : Room := { frames := 0, cells := 0, slots := 0, locals := 0 }
def lJ7_fill_53178_5 (k1 n1 : Nat)   (v1 : Int32) (v3 : Int32) : Nat → vS → Int32 → Option vS
  | 0, _, _ => none
  | n + 1, S, v2 => (if v3 ≤ v2 then (some S) else ((pI S k1 n1 v2 v1).bind fun S13 => ((lJ7_fill_53178_5 k1 n1 v1 v3 n) S13 (v2 + (1 : Int32)))))
set_option maxHeartbeats 4000000 in
set_option maxRecDepth 100000 in
theorem lJ7_fill_53178_5_t {p : Program} {l : Launch} {e : Env} {s : State} {m : MethodId} {args : Array Value} {below : List Frame} {meth : Method} {c : Code} {D : va_G} {tl : List FieldType} {sl : List vSh} {cA : Nat → ClassId} {ad : Nat → Nat} {Ex : State → Heap → Prop}   (C0 : Cx D vwCl tl sl cA ad Ex RJ7 cJ7_fill_53178 4 none p s m args meth c) (ht0 : tl[0]? = some .int) (k1 n1 : Nat) (h1 : sl[k1]? = some (.inl (0, n1)))  (v1 : Int32) (v3 : Int32)  : ∀ (n : Nat) (S : vS) (v2 : Int32) (ls : Array Slot), lv_has ls 4 [(0, .ref (ad k1)), (1, .int v1), (2, .int v2), (3, .int v3)] → SW p l e rm_J7_fill_53178 s m args below meth c D vwCl sl cA ad (Fq D vwCl sl cA ad below args s (fun _ => none : vS → Option Value) (fun S1 => S1) (fun _ => True)) (lJ7_fill_53178_5 k1 n1 v1 v3 n S v2) S 5 ls [] := by
  intro n
  induction n with
  | zero =>
    intro S v2 ls hl
    rw [lJ7_fill_53178_5]
    exact sw_none
  | succ n ih =>
    intro S v2 ls hl
    rw [lJ7_fill_53178_5]
    refine sx_iload_n C0 dJ7_fill_53178_5 rfl (lv_at hl 2 rfl) ?_
    refine sx_iload_n C0 dJ7_fill_53178_6 rfl (lv_at hl 3 rfl) ?_
    refine sx_icmp_ge (tgt := 20) C0 dJ7_fill_53178_7 (by decide) (fun _ => ?_) (fun _ => ?_)
    · exact sx_vret C0 rfl rfl trivial dJ7_fill_53178_20
    · refine sx_aload_n C0 dJ7_fill_53178_10 rfl (lv_at hl 0 rfl) ?_
      refine sx_iload_n C0 dJ7_fill_53178_11 rfl (lv_at hl 2 rfl) ?_
      refine sx_iload_n C0 dJ7_fill_53178_12 rfl (lv_at hl 1 rfl) ?_
      refine sx_iast C0 h1 ht0 dJ7_fill_53178_13 (fun S13 => ?_)
      refine sx_iinc (v := (v2 + (1 : Int32))) (lv' := [(2, .int (v2 + (1 : Int32))), (0, .ref (ad k1)), (1, .int v1), (3, .int v3)]) C0 dJ7_fill_53178_14 hl (k := 2) rfl rfl (by decide) rfl (fun ls hl => ?_)
      refine sx_goto (tgt := 5) C0 dJ7_fill_53178_17 (by decide) ?_
      exact ih _ _ _ (lv_sub hl [1, 2, 0, 3] rfl)
def mJ7_fill_53178 (S : vS) (k1 n1 : Nat) (v1 : Int32) : Option vS := (lt (Int32.ofNat n1) fun v3_4 => (lJ7_fill_53178_5 k1 n1 v1 v3_4 FU S (0 : Int32)))
set_option maxHeartbeats 4000000 in
set_option maxRecDepth 100000 in
theorem c_J7_fill_53178 {l : Launch} {D : va_G} {tl : List FieldType} {sl : List vSh} {cA : Nat → ClassId} {ad : Nat → Nat} {Ex : State → Heap → Prop} (G : Gx sl ad Ex) (ht0 : tl[0]? = some .int) (k1 n1 : Nat) (h1 : sl[k1]? = some (.inl (0, n1))) (v1 : Int32) (S : vS) (r : vS) (hr : (mJ7_fill_53178 S k1 n1 v1) = some r) : Met l yJ7_fill_53178 (Cond.code yJ7_fill_53178 cJ7_fill_53178 4 none :: ALL) rm_J7_fill_53178 (Po D vwCl tl sl cA ad Ex [.ref (ad k1), .int v1] S) (Qo D vwCl sl cA ad none r True) 0 0 (aw sl ad) := by
  refine Met.sx (M := (mJ7_fill_53178 S k1 n1 v1)) (rv := (fun _ => none : vS → Option Value)) (rs := fun S1 => S1) (B := fun _ => True) (by decide) ⟨rfl, rfl⟩ (Nat.le_of_ble_eq_true rfl) G (fun p e s m args below meth c C0 ls hl => ?_) hr
  have hl : lv_has ls 4 [(0, .ref (ad k1)), (1, .int v1)] := hl
  rw [mJ7_fill_53178]
  refine sx_iconst (v := 0) C0 dJ7_fill_53178_0 (by decide) ?_
  refine sx_istore_n (lv' := [(2, .int (0 : Int32)), (0, .ref (ad k1)), (1, .int v1)]) C0 dJ7_fill_53178_1 rfl hl (by decide) rfl (fun ls hl => ?_)
  refine sx_aload_n C0 dJ7_fill_53178_2 rfl (lv_at hl 1 rfl) ?_
  refine sx_alen (v := (Int32.ofNat n1)) C0 h1 ht0 rfl dJ7_fill_53178_3 ?_
  refine sw_lt (val := .int) (fun v3_4 => ?_)
  refine sx_istore_n (lv' := [(3, .int v3_4), (2, .int (0 : Int32)), (0, .ref (ad k1)), (1, .int v1)]) C0 dJ7_fill_53178_4 rfl hl (by decide) rfl (fun ls hl => ?_)
  exact lJ7_fill_53178_5_t C0 ht0 k1 n1 h1 _ _ _ _ _ _ (lv_sub hl [2, 3, 1, 0] rfl)
abbrev rm_J7_rangeCheck_23922 : Room := { frames := 0, cells := 0, slots := 0, locals := 0 }
def mJ7_rangeCheck_23922 (v0 : Int32) (v1 : Int32) (v2 : Int32) : Option Unit := (if v1 ≤ v2 then (if 0 ≤ v1 then (if v2 ≤ v0 then (some ()) else none) else none) else none)
set_option maxHeartbeats 4000000 in
set_option maxRecDepth 100000 in
theorem c_J7_rangeCheck_23922 {l : Launch} {D : va_G} {tl : List FieldType} {sl : List vSh} {cA : Nat → ClassId} {ad : Nat → Nat} {Ex : State → Heap → Prop} (G : Gx sl ad Ex) (v0 : Int32) (v1 : Int32) (v2 : Int32) (S : vS) (r : Unit) (hr : (mJ7_rangeCheck_23922 v0 v1 v2) = some r) : Met l yJ7_rangeCheck_23922 (Cond.code yJ7_rangeCheck_23922 cJ7_rangeCheck_23922 3 none :: ALL) rm_J7_rangeCheck_23922 (Po D vwCl tl sl cA ad Ex [.int v0, .int v1, .int v2] S) (Qo D vwCl sl cA ad none S True) 0 0 (aw sl ad) := by
  refine Met.sx (M := (mJ7_rangeCheck_23922 v0 v1 v2)) (rv := (fun _ => none : Unit → Option Value)) (rs := fun _ => S) (B := fun _ => True) (by decide) ⟨rfl, rfl⟩ (Nat.le_of_ble_eq_true rfl) G (fun p e s m args below meth c C0 ls hl => ?_) hr
  have hl : lv_has ls 3 [(0, .int v0), (1, .int v1), (2, .int v2)] := hl
  rw [mJ7_rangeCheck_23922]
  refine sx_iload_n C0 dJ7_rangeCheck_23922_0 rfl (lv_at hl 1 rfl) ?_
  refine sx_iload_n C0 dJ7_rangeCheck_23922_1 rfl (lv_at hl 2 rfl) ?_
  refine sx_icmp_le (tgt := 46) C0 dJ7_rangeCheck_23922_2 (by decide) (fun _ => ?_) (fun _ => ?_)
  · refine sx_iload_n C0 dJ7_rangeCheck_23922_46 rfl (lv_at hl 1 rfl) ?_
    refine sx_if_ge (tgt := 59) C0 dJ7_rangeCheck_23922_47 (by decide) (fun _ => ?_) (fun _ => ?_)
    · refine sx_iload_n C0 dJ7_rangeCheck_23922_59 rfl (lv_at hl 2 rfl) ?_
      refine sx_iload_n C0 dJ7_rangeCheck_23922_60 rfl (lv_at hl 0 rfl) ?_
      refine sx_icmp_le (tgt := 73) C0 dJ7_rangeCheck_23922_61 (by decide) (fun _ => ?_) (fun _ => ?_)
      · exact sx_vret C0 rfl rfl trivial dJ7_rangeCheck_23922_73
      · exact sw_none
    · exact sw_none
  · exact sw_none
abbrev rm_J7_fill_fda19 : Room := { frames := 1, cells := 0, slots := 0, locals := 22 }
def lJ7_fill_fda19_10 (k1 n1 : Nat)   (v2 : Int32) (v3 : Int32) : Nat → vS → Int32 → Option vS
  | 0, _, _ => none
  | n + 1, S, v4 => (if v2 ≤ v4 then (some S) else ((pI S k1 n1 v4 v3).bind fun S20 => ((lJ7_fill_fda19_10 k1 n1 v2 v3 n) S20 (v4 + (1 : Int32)))))
set_option maxHeartbeats 4000000 in
set_option maxRecDepth 100000 in
theorem lJ7_fill_fda19_10_t {p : Program} {l : Launch} {e : Env} {s : State} {m : MethodId} {args : Array Value} {below : List Frame} {meth : Method} {c : Code} {D : va_G} {tl : List FieldType} {sl : List vSh} {cA : Nat → ClassId} {ad : Nat → Nat} {Ex : State → Heap → Prop}   (C0 : Cx D vwCl tl sl cA ad Ex RJ7 cJ7_fill_fda19 5 none p s m args meth c) (ht0 : tl[0]? = some .int) (k1 n1 : Nat) (h1 : sl[k1]? = some (.inl (0, n1)))  (v2 : Int32) (v3 : Int32)  : ∀ (n : Nat) (S : vS) (v4 : Int32) (ls : Array Slot), lv_has ls 5 [(0, .ref (ad k1)), (2, .int v2), (3, .int v3), (4, .int v4)] → SW p l e rm_J7_fill_fda19 s m args below meth c D vwCl sl cA ad (Fq D vwCl sl cA ad below args s (fun _ => none : vS → Option Value) (fun S1 => S1) (fun _ => True)) (lJ7_fill_fda19_10 k1 n1 v2 v3 n S v4) S 10 ls [] := by
  intro n
  induction n with
  | zero =>
    intro S v4 ls hl
    rw [lJ7_fill_fda19_10]
    exact sw_none
  | succ n ih =>
    intro S v4 ls hl
    rw [lJ7_fill_fda19_10]
    refine sx_iload C0 dJ7_fill_fda19_10 (lv_at hl 3 rfl) ?_
    refine sx_iload_n C0 dJ7_fill_fda19_12 rfl (lv_at hl 1 rfl) ?_
    refine sx_icmp_ge (tgt := 27) C0 dJ7_fill_fda19_13 (by decide) (fun _ => ?_) (fun _ => ?_)
    · exact sx_vret C0 rfl rfl trivial dJ7_fill_fda19_27
    · refine sx_aload_n C0 dJ7_fill_fda19_16 rfl (lv_at hl 0 rfl) ?_
      refine sx_iload C0 dJ7_fill_fda19_17 (lv_at hl 3 rfl) ?_
      refine sx_iload_n C0 dJ7_fill_fda19_19 rfl (lv_at hl 2 rfl) ?_
      refine sx_iast C0 h1 ht0 dJ7_fill_fda19_20 (fun S20 => ?_)
      refine sx_iinc (v := (v4 + (1 : Int32))) (lv' := [(4, .int (v4 + (1 : Int32))), (0, .ref (ad k1)), (2, .int v2), (3, .int v3)]) C0 dJ7_fill_fda19_21 hl (k := 3) rfl rfl (by decide) rfl (fun ls hl => ?_)
      refine sx_goto (tgt := 10) C0 dJ7_fill_fda19_24 (by decide) ?_
      exact ih _ _ _ (lv_sub hl [1, 2, 3, 0] rfl)
def mJ7_fill_fda19 (S : vS) (k1 n1 : Nat) (v1 : Int32) (v2 : Int32) (v3 : Int32) : Option vS := ((mJ7_rangeCheck_23922 (Int32.ofNat n1) v1 v2).bind fun S4 => (lJ7_fill_fda19_10 k1 n1 v2 v3 FU S v1))
set_option maxHeartbeats 4000000 in
set_option maxRecDepth 100000 in
theorem c_J7_fill_fda19 {l : Launch} {D : va_G} {tl : List FieldType} {sl : List vSh} {cA : Nat → ClassId} {ad : Nat → Nat} {Ex : State → Heap → Prop} (G : Gx sl ad Ex) (ht0 : tl[0]? = some .int) (k1 n1 : Nat) (h1 : sl[k1]? = some (.inl (0, n1))) (v1 : Int32) (v2 : Int32) (v3 : Int32) (S : vS) (r : vS) (hr : (mJ7_fill_fda19 S k1 n1 v1 v2 v3) = some r) : Met l yJ7_fill_fda19 (Cond.code yJ7_fill_fda19 cJ7_fill_fda19 5 none :: ALL) rm_J7_fill_fda19 (Po D vwCl tl sl cA ad Ex [.ref (ad k1), .int v1, .int v2, .int v3] S) (Qo D vwCl sl cA ad none r True) 0 0 (aw sl ad) := by
  refine Met.sx (M := (mJ7_fill_fda19 S k1 n1 v1 v2 v3)) (rv := (fun _ => none : vS → Option Value)) (rs := fun S1 => S1) (B := fun _ => True) (by decide) ⟨rfl, rfl⟩ (Nat.le_of_ble_eq_true rfl) G (fun p e s m args below meth c C0 ls hl => ?_) hr
  have hl : lv_has ls 5 [(0, .ref (ad k1)), (1, .int v1), (2, .int v2), (3, .int v3)] := hl
  rw [mJ7_fill_fda19]
  refine sx_aload_n C0 dJ7_fill_fda19_0 rfl (lv_at hl 0 rfl) ?_
  refine sx_alen (v := (Int32.ofNat n1)) C0 h1 ht0 rfl dJ7_fill_fda19_1 ?_
  refine sx_iload_n C0 dJ7_fill_fda19_2 rfl (lv_at hl 1 rfl) ?_
  refine sx_iload_n C0 dJ7_fill_fda19_3 rfl (lv_at hl 2 rfl) ?_
  refine sw_bind (fun S4 e4 => ?_)
  refine cv_J7_13 (As := [.int (Int32.ofNat n1), .int v1, .int v2]) C0 (c_J7_rangeCheck_23922 C0.2.2.2.2.2.2.2.1 (Int32.ofNat n1) v1 v2 S _ e4) ⟨rfl, rfl⟩ ⟨Nat.le_of_ble_eq_true rfl, Nat.le_of_ble_eq_true rfl⟩ rfl hl.1 (Nat.le_of_ble_eq_true rfl) rfl dJ7_fill_fda19_4 (fun _ => ?_)
  refine sx_iload_n C0 dJ7_fill_fda19_7 rfl (lv_at hl 1 rfl) ?_
  refine sx_istore (lv' := [(4, .int v1), (0, .ref (ad k1)), (1, .int v1), (2, .int v2), (3, .int v3)]) C0 dJ7_fill_fda19_8 hl (by decide) rfl (fun ls hl => ?_)
  exact lJ7_fill_fda19_10_t C0 ht0 k1 n1 h1 _ _ _ _ _ _ (lv_sub hl [1, 3, 4, 0] rfl)
