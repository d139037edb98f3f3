abbrev rm_X7_in : Room := { frames := 0, cells := 0, slots := 0, locals := 0 }
def bX7_in_14      : Int32 := (0 : Int32)
set_option maxHeartbeats 4000000 in
set_option maxRecDepth 100000 in
theorem bX7_in_14_t {p : Program} {l : Launch} {e : Env} {s : State} {m : MethodId} {args : Array Value} {below : List Frame} {meth : Method} {c : Code} {D : va_G} {cA : Nat → ClassId} {ad : Nat → Nat}  {S : vS} (C0 : Cx D vwCl tlM shM cA ad ExM RX7 cX7_in 3 (some .boolean) p s m args meth c)   (ls : Array Slot) (hl : lv_has ls 3 []) : SW p l e rm_X7_in s m args below meth c D vwCl shM cA ad (Fq D vwCl shM cA ad below args s (fun r => some (.int r) : Int32 → Option Value) (fun _ => S) (fun r => isB r)) (some bX7_in_14) S 14 ls [] := by
  rw [bX7_in_14]
  refine sx_iconst (v := 0) C0 dX7_in_14 (by decide) ?_
  exact sx_zret C0 rfl rfl (Or.inl rfl) (Or.inl rfl) dX7_in_15
def mX7_in (v0 : Int32) (v1 : Int32) (v2 : Int32) : Int32 := (if v0 < v1 then (bX7_in_14) else (if v2 < v0 then (bX7_in_14) else (1 : Int32)))
set_option maxHeartbeats 4000000 in
set_option maxRecDepth 100000 in
theorem c_X7_in {l : Launch} {D : va_G} {cA : Nat → ClassId} {ad : Nat → Nat} (G : Gx shM ad ExM) (v0 : Int32) (v1 : Int32) (v2 : Int32) (S : vS) : Met l yX7_in (Cond.code yX7_in cX7_in 3 (some .boolean) :: ALL) rm_X7_in (Po D vwCl tlM shM cA ad ExM [.int v0, .int v1, .int v2] S) (Qo D vwCl shM cA ad (some (.int (mX7_in v0 v1 v2))) S (isB (mX7_in v0 v1 v2))) 0 0 (aw shM ad) := by
  refine Met.sx (M := some (mX7_in v0 v1 v2)) (rv := (fun r => some (.int r) : Int32 → Option Value)) (rs := fun _ => S) (B := fun r => isB r) (by decide) ⟨rfl, rfl⟩ (Nat.le_of_ble_eq_true rfl) G (fun p e s m args below meth c C0 ls hl => ?_) rfl
  have hl : lv_has ls 3 [(0, .int v0), (1, .int v1), (2, .int v2)] := hl
  rw [mX7_in]
  refine sx_iload_n C0 dX7_in_0 rfl (lv_at hl 0 rfl) ?_
  refine sx_iload_n C0 dX7_in_1 rfl (lv_at hl 1 rfl) ?_
  refine sx_icmp_lts (tgt := 14) C0 dX7_in_2 (by decide) (fun _ => ?_) (fun _ => ?_)
  · exact bX7_in_14_t C0 _ (lv_sub hl [] rfl)
  · refine sx_iload_n C0 dX7_in_5 rfl (lv_at hl 0 rfl) ?_
    refine sx_iload_n C0 dX7_in_6 rfl (lv_at hl 2 rfl) ?_
    refine sx_icmp_gts (tgt := 14) C0 dX7_in_7 (by decide) (fun _ => ?_) (fun _ => ?_)
    · exact bX7_in_14_t C0 _ (lv_sub hl [] rfl)
    · refine sx_iconst (v := 1) C0 dX7_in_10 (by decide) ?_
      refine sx_goto (tgt := 15) C0 dX7_in_11 (by decide) ?_
      exact sx_zret C0 rfl rfl (Or.inr rfl) (Or.inr rfl) dX7_in_15
abbrev rm_X7_has : Room := { frames := 0, cells := 0, slots := 0, locals := 0 }
def mX7_has (v0 : Int32) (v1 : Int32) : Int32 := (if ((v0 >>> (v1 &&& (31 : Int32))) &&& (1 : Int32)) = (1 : Int32) then (1 : Int32) else (0 : Int32))
set_option maxHeartbeats 4000000 in
set_option maxRecDepth 100000 in
theorem c_X7_has {l : Launch} {D : va_G} {cA : Nat → ClassId} {ad : Nat → Nat} (G : Gx shM ad ExM) (v0 : Int32) (v1 : Int32) (S : vS) : Met l yX7_has (Cond.code yX7_has cX7_has 2 (some .boolean) :: ALL) rm_X7_has (Po D vwCl tlM shM cA ad ExM [.int v0, .int v1] S) (Qo D vwCl shM cA ad (some (.int (mX7_has v0 v1))) S (isB (mX7_has v0 v1))) 0 0 (aw shM ad) := by
  refine Met.sx (M := some (mX7_has v0 v1)) (rv := (fun r => some (.int r) : Int32 → Option Value)) (rs := fun _ => S) (B := fun r => isB r) (by decide) ⟨rfl, rfl⟩ (Nat.le_of_ble_eq_true rfl) G (fun p e s m args below meth c C0 ls hl => ?_) rfl
  have hl : lv_has ls 2 [(0, .int v0), (1, .int v1)] := hl
  rw [mX7_has]
  refine sx_iload_n C0 dX7_has_0 rfl (lv_at hl 0 rfl) ?_
  refine sx_iload_n C0 dX7_has_1 rfl (lv_at hl 1 rfl) ?_
  refine sx_ishr C0 dX7_has_2 ?_
  refine sx_iconst (v := 1) C0 dX7_has_3 (by decide) ?_
  refine sx_iand C0 dX7_has_4 ?_
  refine sx_iconst (v := 1) C0 dX7_has_5 (by decide) ?_
  refine sx_icmp_nes (tgt := 13) C0 dX7_has_6 (by decide) (fun _ => ?_) (fun _ => ?_)
  · refine sx_iconst (v := 1) C0 dX7_has_9 (by decide) ?_
    refine sx_goto (tgt := 14) C0 dX7_has_10 (by decide) ?_
    exact sx_zret C0 rfl rfl (Or.inr rfl) (Or.inr rfl) dX7_has_14
  · refine sx_iconst (v := 0) C0 dX7_has_13 (by decide) ?_
    exact sx_zret C0 rfl rfl (Or.inl rfl) (Or.inl rfl) dX7_has_14
abbrev rm_X7_bits : Room := { frames := 0, cells := 0, slots := 0, locals := 0 }
def lX7_bits_4     : Nat → Int32 → Int32 → Option Int32
  | 0, _, _ => none
  | n + 1, v1, v2 => (if v2 = 0 then (some v1) else (lt (v2 &&& (v2 - (1 : Int32))) fun v2_16 => ((lX7_bits_4 n) (v1 + (1 : Int32)) v2_16)))
set_option maxHeartbeats 4000000 in
set_option maxRecDepth 100000 in
theorem lX7_bits_4_t {p : Program} {l : Launch} {e : Env} {s : State} {m : MethodId} {args : Array Value} {below : List Frame} {meth : Method} {c : Code} {D : va_G} {cA : Nat → ClassId} {ad : Nat → Nat}  {S : vS} (C0 : Cx D vwCl tlM shM cA ad ExM RX7 cX7_bits 3 (some .int) p s m args meth c)     : ∀ (n : Nat) (v1 : Int32) (v2 : Int32) (ls : Array Slot), lv_has ls 3 [(1, .int v1), (2, .int v2)] → SW p l e rm_X7_bits s m args below meth c D vwCl shM cA ad (Fq D vwCl shM cA ad below args s (fun r => some (.int r) : Int32 → Option Value) (fun _ => S) (fun _ => True)) (lX7_bits_4 n v1 v2) S 4 ls [] := by
  intro n
  induction n with
  | zero =>
    intro v1 v2 ls hl
    rw [lX7_bits_4]
    exact sw_none
  | succ n ih =>
    intro v1 v2 ls hl
    rw [lX7_bits_4]
    refine sx_iload_n C0 dX7_bits_4 rfl (lv_at hl 1 rfl) ?_
    refine sx_if_eq (tgt := 20) C0 dX7_bits_5 (by decide) (fun _ => ?_) (fun _ => ?_)
    · refine sx_iload_n C0 dX7_bits_20 rfl (lv_at hl 0 rfl) ?_
      exact sx_iret C0 rfl rfl trivial dX7_bits_21
    · refine sx_iinc (v := (v1 + (1 : Int32))) (lv' := [(1, .int (v1 + (1 : Int32))), (2, .int v2)]) C0 dX7_bits_8 hl (k := 0) rfl rfl (by decide) rfl (fun ls hl => ?_)
      refine sx_iload_n C0 dX7_bits_11 rfl (lv_at hl 1 rfl) ?_
      refine sx_iload_n C0 dX7_bits_12 rfl (lv_at hl 1 rfl) ?_
      refine sx_iconst (v := 1) C0 dX7_bits_13 (by decide) ?_
      refine sx_isub C0 dX7_bits_14 ?_
      refine sx_iand C0 dX7_bits_15 ?_
      refine sw_lt (val := .int) (fun v2_16 => ?_)
      refine sx_istore_n (lv' := [(2, .int v2_16), (1, .int (v1 + (1 : Int32)))]) C0 dX7_bits_16 rfl hl (by decide) rfl (fun ls hl => ?_)
      refine sx_goto (tgt := 4) C0 dX7_bits_17 (by decide) ?_
      exact ih _ _ _ (lv_sub hl [1, 0] rfl)
def mX7_bits (v0 : Int32) : Option Int32 := (lX7_bits_4 FU (0 : Int32) v0)
set_option maxHeartbeats 4000000 in
set_option maxRecDepth 100000 in
theorem c_X7_bits {l : Launch} {D : va_G} {cA : Nat → ClassId} {ad : Nat → Nat} (G : Gx shM ad ExM) (v0 : Int32) (S : vS) (r : Int32) (hr : (mX7_bits v0) = some r) : Met l yX7_bits (Cond.code yX7_bits cX7_bits 3 (some .int) :: ALL) rm_X7_bits (Po D vwCl tlM shM cA ad ExM [.int v0] S) (Qo D vwCl shM cA ad (some (.int r)) S True) 0 0 (aw shM ad) := by
  refine Met.sx (M := (mX7_bits v0)) (rv := (fun r => some (.int r) : Int32 → Option Value)) (rs := fun _ => S) (B := fun _ => True) (by decide) ⟨rfl, rfl⟩ (Nat.le_of_ble_eq_true rfl) G (fun p e s m args below meth c C0 ls hl => ?_) hr
  have hl : lv_has ls 3 [(0, .int v0)] := hl
  rw [mX7_bits]
  refine sx_iconst (v := 0) C0 dX7_bits_0 (by decide) ?_
  refine sx_istore_n (lv' := [(1, .int (0 : Int32)), (0, .int v0)]) C0 dX7_bits_1 rfl hl (by decide) rfl (fun ls hl => ?_)
  refine sx_iload_n C0 dX7_bits_2 rfl (lv_at hl 1 rfl) ?_
  refine sx_istore_n (lv' := [(2, .int v0), (1, .int (0 : Int32)), (0, .int v0)]) C0 dX7_bits_3 rfl hl (by decide) rfl (fun ls hl => ?_)
  exact lX7_bits_4_t C0 _ _ _ _ (lv_sub hl [1, 0] rfl)
abbrev rm_X7_lesser : Room := { frames := 0, cells := 0, slots := 0, locals := 0 }
def mX7_lesser (v0 : Int32) (v1 : Int32) : Int32 := (if v1 ≤ v0 then v1 else v0)
set_option maxHeartbeats 4000000 in
set_option maxRecDepth 100000 in
theorem c_X7_lesser {l : Launch} {D : va_G} {cA : Nat → ClassId} {ad : Nat → Nat} (G : Gx shM ad ExM) (v0 : Int32) (v1 : Int32) (S : vS) : Met l yX7_lesser (Cond.code yX7_lesser cX7_lesser 2 (some .int) :: ALL) rm_X7_lesser (Po D vwCl tlM shM cA ad ExM [.int v0, .int v1] S) (Qo D vwCl shM cA ad (some (.int (mX7_lesser v0 v1))) S True) 0 0 (aw shM ad) := by
  refine Met.sx (M := some (mX7_lesser v0 v1)) (rv := (fun r => some (.int r) : Int32 → Option Value)) (rs := fun _ => S) (B := fun _ => True) (by decide) ⟨rfl, rfl⟩ (Nat.le_of_ble_eq_true rfl) G (fun p e s m args below meth c C0 ls hl => ?_) rfl
  have hl : lv_has ls 2 [(0, .int v0), (1, .int v1)] := hl
  rw [mX7_lesser]
  refine sx_iload_n C0 dX7_lesser_0 rfl (lv_at hl 0 rfl) ?_
  refine sx_iload_n C0 dX7_lesser_1 rfl (lv_at hl 1 rfl) ?_
  refine sx_icmp_ges (tgt := 9) C0 dX7_lesser_2 (by decide) (fun _ => ?_) (fun _ => ?_)
  · refine sx_iload_n C0 dX7_lesser_9 rfl (lv_at hl 1 rfl) ?_
    exact sx_iret C0 rfl rfl trivial dX7_lesser_10
  · refine sx_iload_n C0 dX7_lesser_5 rfl (lv_at hl 0 rfl) ?_
    refine sx_goto (tgt := 10) C0 dX7_lesser_6 (by decide) ?_
    exact sx_iret C0 rfl rfl trivial dX7_lesser_10
abbrev rm_X7_greater : Room := { frames := 0, cells := 0, slots := 0, locals := 0 }
def mX7_greater (v0 : Int32) (v1 : Int32) : Int32 := (if v0 ≤ v1 then v1 else v0)
set_option maxHeartbeats 4000000 in
set_option maxRecDepth 100000 in
theorem c_X7_greater {l : Launch} {D : va_G} {cA : Nat → ClassId} {ad : Nat → Nat} (G : Gx shM ad ExM) (v0 : Int32) (v1 : Int32) (S : vS) : Met l yX7_greater (Cond.code yX7_greater cX7_greater 2 (some .int) :: ALL) rm_X7_greater (Po D vwCl tlM shM cA ad ExM [.int v0, .int v1] S) (Qo D vwCl shM cA ad (some (.int (mX7_greater v0 v1))) S True) 0 0 (aw shM ad) := by
  refine Met.sx (M := some (mX7_greater v0 v1)) (rv := (fun r => some (.int r) : Int32 → Option Value)) (rs := fun _ => S) (B := fun _ => True) (by decide) ⟨rfl, rfl⟩ (Nat.le_of_ble_eq_true rfl) G (fun p e s m args below meth c C0 ls hl => ?_) rfl
  have hl : lv_has ls 2 [(0, .int v0), (1, .int v1)] := hl
  rw [mX7_greater]
  refine sx_iload_n C0 dX7_greater_0 rfl (lv_at hl 0 rfl) ?_
  refine sx_iload_n C0 dX7_greater_1 rfl (lv_at hl 1 rfl) ?_
  refine sx_icmp_les (tgt := 9) C0 dX7_greater_2 (by decide) (fun _ => ?_) (fun _ => ?_)
  · refine sx_iload_n C0 dX7_greater_9 rfl (lv_at hl 1 rfl) ?_
    exact sx_iret C0 rfl rfl trivial dX7_greater_10
  · refine sx_iload_n C0 dX7_greater_5 rfl (lv_at hl 0 rfl) ?_
    refine sx_goto (tgt := 10) C0 dX7_greater_6 (by decide) ?_
    exact sx_iret C0 rfl rfl trivial dX7_greater_10
abbrev rm_X7_meets : Room := { frames := 0, cells := 0, slots := 0, locals := 0 }
def mX7_meets (S : vS) (v1 : Int32) : Option (Int32 × vS) := (lt (wI S 0 0 v1) fun S2 => ((gI (S2.1 1) 6 v1).bind fun a11 => ((pI S2 1 6 v1 (a11 + (1 : Int32))).bind fun S14 => (some ((-3 : Int32), S14)))))
set_option maxHeartbeats 4000000 in
set_option maxRecDepth 100000 in
theorem c_X7_meets {l : Launch} {D : va_G} {cA : Nat → ClassId} {ad : Nat → Nat} (G : Gx shM ad ExM) (v1 : Int32) (S : vS) (r : (Int32 × vS)) (hr : (mX7_meets S v1) = some r) : Met l yX7_meets (Cond.code yX7_meets cX7_meets 2 (some .int) :: ALL) rm_X7_meets (Po D vwCl tlM shM cA ad ExM [.ref (ad 0), .int v1] S) (Qo D vwCl shM cA ad (some (.int r.1)) r.2 True) 0 0 (aw shM ad) := by
  refine Met.sx (M := (mX7_meets S v1)) (rv := (fun q => some (.int q.1) : (Int32 × vS) → Option Value)) (rs := fun q => q.2) (B := fun _ => True) (by decide) ⟨rfl, rfl⟩ (Nat.le_of_ble_eq_true rfl) G (fun p e s m args below meth c C0 ls hl => ?_) hr
  have hl : lv_has ls 2 [(0, .ref (ad 0)), (1, .int v1)] := hl
  rw [mX7_meets]
  refine sx_aload_n C0 dX7_meets_0 rfl (lv_at hl 0 rfl) ?_
  refine sx_iload_n C0 dX7_meets_1 rfl (lv_at hl 1 rfl) ?_
  refine pf_X7_77 C0 is7 dX7_meets_2 (fun S2 => ?_)
  refine sx_aload_n C0 dX7_meets_5 rfl (lv_at hl 0 rfl) ?_
  refine gf_X7_7 C0 is7 dX7_meets_6 ?_
  refine sx_iload_n C0 dX7_meets_9 rfl (lv_at hl 1 rfl) ?_
  refine sx_dup2 C0 dX7_meets_10 rfl rfl ?_
  refine sx_iald C0 is7_came rfl dX7_meets_11 (fun a11 => ?_)
  refine sx_iconst (v := 1) C0 dX7_meets_12 (by decide) ?_
  refine sx_iadd C0 dX7_meets_13 ?_
  refine sx_iast C0 is7_came rfl dX7_meets_14 (fun S14 => ?_)
  refine sx_bipush (v := (-3)) C0 dX7_meets_15 (by decide) ?_
  exact sx_iret C0 rfl rfl trivial dX7_meets_17
abbrev rm_X7_finding : Room := { frames := 0, cells := 0, slots := 0, locals := 0 }
def mX7_finding (S : vS)  : Int32 := (S.1 0 0)
set_option maxHeartbeats 4000000 in
set_option maxRecDepth 100000 in
theorem c_X7_finding {l : Launch} {D : va_G} {cA : Nat → ClassId} {ad : Nat → Nat} (G : Gx shM ad ExM)  (S : vS) : Met l yX7_finding (Cond.code yX7_finding cX7_finding 1 (some .int) :: ALL) rm_X7_finding (Po D vwCl tlM shM cA ad ExM [.ref (ad 0)] S) (Qo D vwCl shM cA ad (some (.int (mX7_finding S))) S True) 0 0 (aw shM ad) := by
  refine Met.sx (M := some (mX7_finding S)) (rv := (fun r => some (.int r) : Int32 → Option Value)) (rs := fun _ => S) (B := fun _ => True) (by decide) ⟨rfl, rfl⟩ (Nat.le_of_ble_eq_true rfl) G (fun p e s m args below meth c C0 ls hl => ?_) rfl
  have hl : lv_has ls 1 [(0, .ref (ad 0))] := hl
  rw [mX7_finding]
  refine sx_aload_n C0 dX7_finding_0 rfl (lv_at hl 0 rfl) ?_
  refine gf_X7_77 C0 is7 dX7_finding_1 ?_
  exact sx_iret C0 rfl rfl trivial dX7_finding_4
abbrev rm_X7_findings : Room := { frames := 1, cells := 0, slots := 0, locals := 22 }
def mX7_findings (S : vS) (v1 : Int32) : Option Int32 := (if (mX7_in v1 (1 : Int32) (5 : Int32)) = 0 then (some (-1 : Int32)) else ((gI (S.1 1) 6 v1).bind fun a14 => (some a14)))
set_option maxHeartbeats 4000000 in
set_option maxRecDepth 100000 in
theorem c_X7_findings {l : Launch} {D : va_G} {cA : Nat → ClassId} {ad : Nat → Nat} (G : Gx shM ad ExM) (v1 : Int32) (S : vS) (r : Int32) (hr : (mX7_findings S v1) = some r) : Met l yX7_findings (Cond.code yX7_findings cX7_findings 2 (some .int) :: ALL) rm_X7_findings (Po D vwCl tlM shM cA ad ExM [.ref (ad 0), .int v1] S) (Qo D vwCl shM cA ad (some (.int r)) S True) 0 0 (aw shM ad) := by
  refine Met.sx (M := (mX7_findings S v1)) (rv := (fun r => some (.int r) : Int32 → Option Value)) (rs := fun _ => S) (B := fun _ => True) (by decide) ⟨rfl, rfl⟩ (Nat.le_of_ble_eq_true rfl) G (fun p e s m args below meth c C0 ls hl => ?_) hr
  have hl : lv_has ls 2 [(0, .ref (ad 0)), (1, .int v1)] := hl
  rw [mX7_findings]
  refine sx_iload_n C0 dX7_findings_0 rfl (lv_at hl 1 rfl) ?_
  refine sx_iconst (v := 1) C0 dX7_findings_1 (by decide) ?_
  refine sx_iconst (v := 5) C0 dX7_findings_2 (by decide) ?_
  refine cv_X7_80 (As := [.int v1, .int (1 : Int32), .int (5 : Int32)]) C0 (c_X7_in C0.2.2.2.2.2.2.2.1 v1 (1 : Int32) (5 : Int32) S) ⟨rfl, rfl⟩ ⟨Nat.le_of_ble_eq_true rfl, Nat.le_of_ble_eq_true rfl⟩ rfl hl.1 (Nat.le_of_ble_eq_true rfl) rfl dX7_findings_3 (fun hb3 => ?_)
  refine sx_if_eq (tgt := 18) C0 dX7_findings_6 (by decide) (fun _ => ?_) (fun _ => ?_)
  · refine sx_iconst (v := (-1)) C0 dX7_findings_18 (by decide) ?_
    exact sx_iret C0 rfl rfl trivial dX7_findings_19
  · refine sx_aload_n C0 dX7_findings_9 rfl (lv_at hl 0 rfl) ?_
    refine gf_X7_7 C0 is7 dX7_findings_10 ?_
    refine sx_iload_n C0 dX7_findings_13 rfl (lv_at hl 1 rfl) ?_
    refine sx_iald C0 is7_came rfl dX7_findings_14 (fun a14 => ?_)
    refine sx_goto (tgt := 19) C0 dX7_findings_15 (by decide) ?_
    exact sx_iret C0 rfl rfl trivial dX7_findings_19
abbrev rm_X7_tells : Room := { frames := 0, cells := 0, slots := 0, locals := 0 }
def mX7_tells (S : vS) (v1 : Int32) (v2 : Int32) : (Int32 × vS) := (lt (wI S 0 2 v1) fun S2 => (v2, S2))
set_option maxHeartbeats 4000000 in
set_option maxRecDepth 100000 in
theorem c_X7_tells {l : Launch} {D : va_G} {cA : Nat → ClassId} {ad : Nat → Nat} (G : Gx shM ad ExM) (v1 : Int32) (v2 : Int32) (S : vS) : Met l yX7_tells (Cond.code yX7_tells cX7_tells 3 (some .int) :: ALL) rm_X7_tells (Po D vwCl tlM shM cA ad ExM [.ref (ad 0), .int v1, .int v2] S) (Qo D vwCl shM cA ad (some (.int (mX7_tells S v1 v2).1)) (mX7_tells S v1 v2).2 True) 0 0 (aw shM ad) := by
  refine Met.sx (M := some (mX7_tells S v1 v2)) (rv := (fun q => some (.int q.1) : (Int32 × vS) → Option Value)) (rs := fun q => q.2) (B := fun _ => True) (by decide) ⟨rfl, rfl⟩ (Nat.le_of_ble_eq_true rfl) G (fun p e s m args below meth c C0 ls hl => ?_) rfl
  have hl : lv_has ls 3 [(0, .ref (ad 0)), (1, .int v1), (2, .int v2)] := hl
  rw [mX7_tells]
  refine sx_aload_n C0 dX7_tells_0 rfl (lv_at hl 0 rfl) ?_
  refine sx_iload_n C0 dX7_tells_1 rfl (lv_at hl 1 rfl) ?_
  refine pfs_X7_84 C0 is7 dX7_tells_2 (fun S2 => ?_)
  refine sx_iload_n C0 dX7_tells_5 rfl (lv_at hl 2 rfl) ?_
  exact sx_iret C0 rfl rfl trivial dX7_tells_6
abbrev rm_X7_asked : Room := { frames := 0, cells := 0, slots := 0, locals := 0 }
def mX7_asked (S : vS)  : Int32 := (S.1 0 2)
set_option maxHeartbeats 4000000 in
set_option maxRecDepth 100000 in
theorem c_X7_asked {l : Launch} {D : va_G} {cA : Nat → ClassId} {ad : Nat → Nat} (G : Gx shM ad ExM)  (S : vS) : Met l yX7_asked (Cond.code yX7_asked cX7_asked 1 (some .int) :: ALL) rm_X7_asked (Po D vwCl tlM shM cA ad ExM [.ref (ad 0)] S) (Qo D vwCl shM cA ad (some (.int (mX7_asked S))) S True) 0 0 (aw shM ad) := by
  refine Met.sx (M := some (mX7_asked S)) (rv := (fun r => some (.int r) : Int32 → Option Value)) (rs := fun _ => S) (B := fun _ => True) (by decide) ⟨rfl, rfl⟩ (Nat.le_of_ble_eq_true rfl) G (fun p e s m args below meth c C0 ls hl => ?_) rfl
  have hl : lv_has ls 1 [(0, .ref (ad 0))] := hl
  rw [mX7_asked]
  refine sx_aload_n C0 dX7_asked_0 rfl (lv_at hl 0 rfl) ?_
  refine gf_X7_84 C0 is7 dX7_asked_1 ?_
  exact sx_iret C0 rfl rfl trivial dX7_asked_4
abbrev rm_X7_fraction : Room := { frames := 0, cells := 0, slots := 0, locals := 0 }
def bX7_fraction_31    (S : vS) (v1 : Int64) (v3 : Int64) (v5 : Int32) (v6 : Int64)  : Option (Int32 × vS) := ((dL v1 v6).bind fun a35 => (lt (wL S 0 3 a35) fun S36 => ((dL v3 v6).bind fun a43 => (lt (wL S36 0 4 a43) fun S44 => (some (v5, S44))))))
set_option maxHeartbeats 4000000 in
set_option maxRecDepth 100000 in
theorem bX7_fraction_31_t {p : Program} {l : Launch} {e : Env} {s : State} {m : MethodId} {args : Array Value} {below : List Frame} {meth : Method} {c : Code} {D : va_G} {cA : Nat → ClassId} {ad : Nat → Nat}   (C0 : Cx D vwCl tlM shM cA ad ExM RX7 cX7_fraction 12 (some .int) p s m args meth c)  (S : vS) (v1 : Int64) (v3 : Int64) (v5 : Int32) (v6 : Int64) (ls : Array Slot) (hl : lv_has ls 12 [(0, .ref (ad 0)), (1, .long v1), (3, .long v3), (5, .int v5), (6, .long v6)]) : SW p l e rm_X7_fraction s m args below meth c D vwCl shM cA ad (Fq D vwCl shM cA ad below args s (fun q => some (.int q.1) : (Int32 × vS) → Option Value) (fun q => q.2) (fun _ => True)) (bX7_fraction_31 S v1 v3 v5 v6) S 31 ls [] := by
  rw [bX7_fraction_31]
  refine sx_aload_n C0 dX7_fraction_31 rfl (lv_at hl 0 rfl) ?_
  refine sx_lload_n C0 dX7_fraction_32 rfl (lv_at hl 1 rfl) ?_
  refine sx_lload C0 dX7_fraction_33 (lv_at hl 4 rfl) ?_
  refine sx_ldivO C0 dX7_fraction_35 (fun a35 => ?_)
  refine pf_X7_87 C0 is7 dX7_fraction_36 (fun S36 => ?_)
  refine sx_aload_n C0 dX7_fraction_39 rfl (lv_at hl 0 rfl) ?_
  refine sx_lload_n C0 dX7_fraction_40 rfl (lv_at hl 2 rfl) ?_
  refine sx_lload C0 dX7_fraction_41 (lv_at hl 4 rfl) ?_
  refine sx_ldivO C0 dX7_fraction_43 (fun a43 => ?_)
  refine pf_X7_73 C0 is7 dX7_fraction_44 (fun S44 => ?_)
  refine sx_iload C0 dX7_fraction_47 (lv_at hl 3 rfl) ?_
  exact sx_iret C0 rfl rfl trivial dX7_fraction_49
def lX7_fraction_6  (S : vS)  (v1 : Int64) (v3 : Int64) (v5 : Int32) : Nat → Int64 → Int64 → Option (Int32 × vS)
  | 0, _, _ => none
  | n + 1, v6, v8 => (if (lg_cmp v8 (0 : Int64)) = 0 then (bX7_fraction_31 S v1 v3 v5 v6) else ((rL v6 v8).bind fun a17 => ((lX7_fraction_6 S v1 v3 v5 n) v8 a17)))
set_option maxHeartbeats 4000000 in
set_option maxRecDepth 100000 in
theorem lX7_fraction_6_t {p : Program} {l : Launch} {e : Env} {s : State} {m : MethodId} {args : Array Value} {below : List Frame} {meth : Method} {c : Code} {D : va_G} {cA : Nat → ClassId} {ad : Nat → Nat}   (C0 : Cx D vwCl tlM shM cA ad ExM RX7 cX7_fraction 12 (some .int) p s m args meth c)  (S : vS) (v1 : Int64) (v3 : Int64) (v5 : Int32)  : ∀ (n : Nat) (v6 : Int64) (v8 : Int64) (ls : Array Slot), lv_has ls 12 [(0, .ref (ad 0)), (1, .long v1), (3, .long v3), (5, .int v5), (6, .long v6), (8, .long v8)] → SW p l e rm_X7_fraction s m args below meth c D vwCl shM cA ad (Fq D vwCl shM cA ad below args s (fun q => some (.int q.1) : (Int32 × vS) → Option Value) (fun q => q.2) (fun _ => True)) (lX7_fraction_6 S v1 v3 v5 n v6 v8) S 6 ls [] := by
  intro n
  induction n with
  | zero =>
    intro v6 v8 ls hl
    rw [lX7_fraction_6]
    exact sw_none
  | succ n ih =>
    intro v6 v8 ls hl
    rw [lX7_fraction_6]
    refine sx_lload C0 dX7_fraction_6 (lv_at hl 5 rfl) ?_
    refine sx_lconst (v := 0) C0 dX7_fraction_8 (by decide) ?_
    refine sx_lcmp C0 dX7_fraction_9 ?_
    refine sx_if_eq (tgt := 31) C0 dX7_fraction_10 (by decide) (fun _ => ?_) (fun _ => ?_)
    · exact bX7_fraction_31_t C0 _ _ _ _ _ _ (lv_sub hl [0, 1, 2, 3, 4] rfl)
    · refine sx_lload C0 dX7_fraction_13 (lv_at hl 4 rfl) ?_
      refine sx_lload C0 dX7_fraction_15 (lv_at hl 5 rfl) ?_
      refine sx_lremO C0 dX7_fraction_17 (fun a17 => ?_)
      refine sx_lstore (lv' := [(10, .long a17), (0, .ref (ad 0)), (1, .long v1), (3, .long v3), (5, .int v5), (6, .long v6), (8, .long v8)]) C0 dX7_fraction_18 hl (by decide) rfl (fun ls hl => ?_)
      refine sx_lload C0 dX7_fraction_20 (lv_at hl 6 rfl) ?_
      refine sx_lstore (lv' := [(6, .long v8), (10, .long a17), (0, .ref (ad 0)), (1, .long v1), (3, .long v3), (5, .int v5), (8, .long v8)]) C0 dX7_fraction_22 hl (by decide) rfl (fun ls hl => ?_)
      refine sx_lload C0 dX7_fraction_24 (lv_at hl 1 rfl) ?_
      refine sx_lstore (lv' := [(8, .long a17), (6, .long v8), (10, .long a17), (0, .ref (ad 0)), (1, .long v1), (3, .long v3), (5, .int v5)]) C0 dX7_fraction_26 hl (by decide) rfl (fun ls hl => ?_)
      refine sx_goto (tgt := 6) C0 dX7_fraction_28 (by decide) ?_
      exact ih _ _ _ (lv_sub hl [3, 4, 5, 6, 1, 0] rfl)
def mX7_fraction (S : vS) (v1 : Int64) (v3 : Int64) (v5 : Int32) : Option (Int32 × vS) := (lX7_fraction_6 S v1 v3 v5 FU v1 v3)
set_option maxHeartbeats 4000000 in
set_option maxRecDepth 100000 in
theorem c_X7_fraction {l : Launch} {D : va_G} {cA : Nat → ClassId} {ad : Nat → Nat} (G : Gx shM ad ExM) (v1 : Int64) (v3 : Int64) (v5 : Int32) (S : vS) (r : (Int32 × vS)) (hr : (mX7_fraction S v1 v3 v5) = some r) : Met l yX7_fraction (Cond.code yX7_fraction cX7_fraction 12 (some .int) :: ALL) rm_X7_fraction (Po D vwCl tlM shM cA ad ExM [.ref (ad 0), .long v1, .long v3, .int v5] S) (Qo D vwCl shM cA ad (some (.int r.1)) r.2 True) 0 0 (aw shM ad) := by
  refine Met.sx (M := (mX7_fraction S v1 v3 v5)) (rv := (fun q => some (.int q.1) : (Int32 × vS) → Option Value)) (rs := fun q => q.2) (B := fun _ => True) (by decide) ⟨rfl, rfl⟩ (Nat.le_of_ble_eq_true rfl) G (fun p e s m args below meth c C0 ls hl => ?_) hr
  have hl : lv_has ls 12 [(0, .ref (ad 0)), (1, .long v1), (3, .long v3), (5, .int v5)] := hl
  rw [mX7_fraction]
  refine sx_lload_n C0 dX7_fraction_0 rfl (lv_at hl 1 rfl) ?_
  refine sx_lstore (lv' := [(6, .long v1), (0, .ref (ad 0)), (1, .long v1), (3, .long v3), (5, .int v5)]) C0 dX7_fraction_1 hl (by decide) rfl (fun ls hl => ?_)
  refine sx_lload_n C0 dX7_fraction_3 rfl (lv_at hl 3 rfl) ?_
  refine sx_lstore (lv' := [(8, .long v3), (6, .long v1), (0, .ref (ad 0)), (1, .long v1), (3, .long v3), (5, .int v5)]) C0 dX7_fraction_4 hl (by decide) rfl (fun ls hl => ?_)
  exact lX7_fraction_6_t C0 _ _ _ _ _ _ _ _ (lv_sub hl [2, 3, 4, 5, 1, 0] rfl)
abbrev rm_X7_whole : Room := { frames := 0, cells := 0, slots := 0, locals := 0 }
def mX7_whole (S : vS) (v1 : Int32) (v2 : Int32) : (Int32 × vS) := (lt (wL S 0 3 (Int32.toInt64 v1)) fun S3 => (lt (wL S3 0 4 (1 : Int64)) fun S8 => (v2, S8)))
set_option maxHeartbeats 4000000 in
set_option maxRecDepth 100000 in
theorem c_X7_whole {l : Launch} {D : va_G} {cA : Nat → ClassId} {ad : Nat → Nat} (G : Gx shM ad ExM) (v1 : Int32) (v2 : Int32) (S : vS) : Met l yX7_whole (Cond.code yX7_whole cX7_whole 3 (some .int) :: ALL) rm_X7_whole (Po D vwCl tlM shM cA ad ExM [.ref (ad 0), .int v1, .int v2] S) (Qo D vwCl shM cA ad (some (.int (mX7_whole S v1 v2).1)) (mX7_whole S v1 v2).2 True) 0 0 (aw shM ad) := by
  refine Met.sx (M := some (mX7_whole S v1 v2)) (rv := (fun q => some (.int q.1) : (Int32 × vS) → Option Value)) (rs := fun q => q.2) (B := fun _ => True) (by decide) ⟨rfl, rfl⟩ (Nat.le_of_ble_eq_true rfl) G (fun p e s m args below meth c C0 ls hl => ?_) rfl
  have hl : lv_has ls 3 [(0, .ref (ad 0)), (1, .int v1), (2, .int v2)] := hl
  rw [mX7_whole]
  refine sx_aload_n C0 dX7_whole_0 rfl (lv_at hl 0 rfl) ?_
  refine sx_iload_n C0 dX7_whole_1 rfl (lv_at hl 1 rfl) ?_
  refine sx_i2l C0 dX7_whole_2 ?_
  refine pfs_X7_87 C0 is7 dX7_whole_3 (fun S3 => ?_)
  refine sx_aload_n C0 dX7_whole_6 rfl (lv_at hl 0 rfl) ?_
  refine sx_lconst (v := 1) C0 dX7_whole_7 (by decide) ?_
  refine pfs_X7_73 C0 is7 dX7_whole_8 (fun S8 => ?_)
  refine sx_iload_n C0 dX7_whole_11 rfl (lv_at hl 2 rfl) ?_
  exact sx_iret C0 rfl rfl trivial dX7_whole_12
abbrev rm_X7_upper : Room := { frames := 0, cells := 0, slots := 0, locals := 0 }
def mX7_upper (S : vS)  : Int64 := (S.2 0 3)
set_option maxHeartbeats 4000000 in
set_option maxRecDepth 100000 in
theorem c_X7_upper {l : Launch} {D : va_G} {cA : Nat → ClassId} {ad : Nat → Nat} (G : Gx shM ad ExM)  (S : vS) : Met l yX7_upper (Cond.code yX7_upper cX7_upper 1 (some .long) :: ALL) rm_X7_upper (Po D vwCl tlM shM cA ad ExM [.ref (ad 0)] S) (Qo D vwCl shM cA ad (some (.long (mX7_upper S))) S True) 0 0 (aw shM ad) := by
  refine Met.sx (M := some (mX7_upper S)) (rv := (fun r => some (.long r) : Int64 → Option Value)) (rs := fun _ => S) (B := fun _ => True) (by decide) ⟨rfl, rfl⟩ (Nat.le_of_ble_eq_true rfl) G (fun p e s m args below meth c C0 ls hl => ?_) rfl
  have hl : lv_has ls 1 [(0, .ref (ad 0))] := hl
  rw [mX7_upper]
  refine sx_aload_n C0 dX7_upper_0 rfl (lv_at hl 0 rfl) ?_
  refine gf_X7_87 C0 is7 dX7_upper_1 ?_
  exact sx_lret C0 rfl rfl trivial dX7_upper_4
abbrev rm_X7_lower : Room := { frames := 0, cells := 0, slots := 0, locals := 0 }
def mX7_lower (S : vS)  : Int64 := (S.2 0 4)
set_option maxHeartbeats 4000000 in
set_option maxRecDepth 100000 in
theorem c_X7_lower {l : Launch} {D : va_G} {cA : Nat → ClassId} {ad : Nat → Nat} (G : Gx shM ad ExM)  (S : vS) : Met l yX7_lower (Cond.code yX7_lower cX7_lower 1 (some .long) :: ALL) rm_X7_lower (Po D vwCl tlM shM cA ad ExM [.ref (ad 0)] S) (Qo D vwCl shM cA ad (some (.long (mX7_lower S))) S True) 0 0 (aw shM ad) := by
  refine Met.sx (M := some (mX7_lower S)) (rv := (fun r => some (.long r) : Int64 → Option Value)) (rs := fun _ => S) (B := fun _ => True) (by decide) ⟨rfl, rfl⟩ (Nat.le_of_ble_eq_true rfl) G (fun p e s m args below meth c C0 ls hl => ?_) rfl
  have hl : lv_has ls 1 [(0, .ref (ad 0))] := hl
  rw [mX7_lower]
  refine sx_aload_n C0 dX7_lower_0 rfl (lv_at hl 0 rfl) ?_
  refine gf_X7_73 C0 is7 dX7_lower_1 ?_
  exact sx_lret C0 rfl rfl trivial dX7_lower_4
abbrev rm_X7_isRow : Room := { frames := 1, cells := 0, slots := 0, locals := 22 }
def mX7_isRow (v0 : Int32) : Int32 := (mX7_in v0 (0 : Int32) (5 : Int32))
set_option maxHeartbeats 4000000 in
set_option maxRecDepth 100000 in
theorem c_X7_isRow {l : Launch} {D : va_G} {cA : Nat → ClassId} {ad : Nat → Nat} (G : Gx shM ad ExM) (v0 : Int32) (S : vS) : Met l yX7_isRow (Cond.code yX7_isRow cX7_isRow 1 (some .boolean) :: ALL) rm_X7_isRow (Po D vwCl tlM shM cA ad ExM [.int v0] S) (Qo D vwCl shM cA ad (some (.int (mX7_isRow v0))) S (isB (mX7_isRow v0))) 0 0 (aw shM ad) := by
  refine Met.sx (M := some (mX7_isRow v0)) (rv := (fun r => some (.int r) : Int32 → Option Value)) (rs := fun _ => S) (B := fun r => isB r) (by decide) ⟨rfl, rfl⟩ (Nat.le_of_ble_eq_true rfl) G (fun p e s m args below meth c C0 ls hl => ?_) rfl
  have hl : lv_has ls 1 [(0, .int v0)] := hl
  rw [mX7_isRow]
  refine sx_iload_n C0 dX7_isRow_0 rfl (lv_at hl 0 rfl) ?_
  refine sx_iconst (v := 0) C0 dX7_isRow_1 (by decide) ?_
  refine sx_iconst (v := 5) C0 dX7_isRow_2 (by decide) ?_
  refine cv_X7_80 (As := [.int v0, .int (0 : Int32), .int (5 : Int32)]) C0 (c_X7_in C0.2.2.2.2.2.2.2.1 v0 (0 : Int32) (5 : Int32) S) ⟨rfl, rfl⟩ ⟨Nat.le_of_ble_eq_true rfl, Nat.le_of_ble_eq_true rfl⟩ rfl hl.1 (Nat.le_of_ble_eq_true rfl) rfl dX7_isRow_3 (fun hb3 => ?_)
  exact sx_zret C0 rfl rfl hb3 hb3 dX7_isRow_6
abbrev rm_X7_rowAt : Room := { frames := 0, cells := 0, slots := 0, locals := 0 }
def mX7_rowAt (S : vS) (v1 : Int32) (v2 : Int32) : Option Int32 := ((gI (S.1 3) 360 (((60 : Int32) * v1) + v2)).bind fun a10 => (some a10))
set_option maxHeartbeats 4000000 in
set_option maxRecDepth 100000 in
theorem c_X7_rowAt {l : Launch} {D : va_G} {cA : Nat → ClassId} {ad : Nat → Nat} (G : Gx shM ad ExM) (v1 : Int32) (v2 : Int32) (S : vS) (r : Int32) (hr : (mX7_rowAt S v1 v2) = some r) : Met l yX7_rowAt (Cond.code yX7_rowAt cX7_rowAt 3 (some .int) :: ALL) rm_X7_rowAt (Po D vwCl tlM shM cA ad ExM [.ref (ad 0), .int v1, .int v2] S) (Qo D vwCl shM cA ad (some (.int r)) S True) 0 0 (aw shM ad) := by
  refine Met.sx (M := (mX7_rowAt S v1 v2)) (rv := (fun r => some (.int r) : Int32 → Option Value)) (rs := fun _ => S) (B := fun _ => True) (by decide) ⟨rfl, rfl⟩ (Nat.le_of_ble_eq_true rfl) G (fun p e s m args below meth c C0 ls hl => ?_) hr
  have hl : lv_has ls 3 [(0, .ref (ad 0)), (1, .int v1), (2, .int v2)] := hl
  rw [mX7_rowAt]
  refine sx_aload_n C0 dX7_rowAt_0 rfl (lv_at hl 0 rfl) ?_
  refine gf_X7_16 C0 is7 dX7_rowAt_1 ?_
  refine sx_bipush (v := 60) C0 dX7_rowAt_4 (by decide) ?_
  refine sx_iload_n C0 dX7_rowAt_6 rfl (lv_at hl 1 rfl) ?_
  refine sx_imul C0 dX7_rowAt_7 ?_
  refine sx_iload_n C0 dX7_rowAt_8 rfl (lv_at hl 2 rfl) ?_
  refine sx_iadd C0 dX7_rowAt_9 ?_
  refine sx_iald C0 is7_rows rfl dX7_rowAt_10 (fun a10 => ?_)
  exact sx_iret C0 rfl rfl trivial dX7_rowAt_11
abbrev rm_X7_row : Room := { frames := 2, cells := 0, slots := 0, locals := 42 }
def lX7_row_34    (v1 : Int32) (v2 : Int32) : Nat → vS → Int32 → Option (Int32 × vS)
  | 0, _, _ => none
  | n + 1, S, v3 => (if (60 : Int32) ≤ v3 then (some (v2, S)) else ((pI S 3 360 (((60 : Int32) * v1) + v3) (0 : Int32)).bind fun S51 => ((lX7_row_34 v1 v2 n) S51 (v3 + (1 : Int32)))))
set_option maxHeartbeats 4000000 in
set_option maxRecDepth 100000 in
theorem lX7_row_34_t {p : Program} {l : Launch} {e : Env} {s : State} {m : MethodId} {args : Array Value} {below : List Frame} {meth : Method} {c : Code} {D : va_G} {cA : Nat → ClassId} {ad : Nat → Nat}   (C0 : Cx D vwCl tlM shM cA ad ExM RX7 cX7_row 4 (some .int) p s m args meth c)   (v1 : Int32) (v2 : Int32)  : ∀ (n : Nat) (S : vS) (v3 : Int32) (ls : Array Slot), lv_has ls 4 [(0, .ref (ad 0)), (1, .int v1), (2, .int v2), (3, .int v3)] → SW p l e rm_X7_row s m args below meth c D vwCl shM cA ad (Fq D vwCl shM cA ad below args s (fun q => some (.int q.1) : (Int32 × vS) → Option Value) (fun q => q.2) (fun _ => True)) (lX7_row_34 v1 v2 n S v3) S 34 ls [] := by
  intro n
  induction n with
  | zero =>
    intro S v3 ls hl
    rw [lX7_row_34]
    exact sw_none
  | succ n ih =>
    intro S v3 ls hl
    rw [lX7_row_34]
    refine sx_iload_n C0 dX7_row_34 rfl (lv_at hl 3 rfl) ?_
    refine sx_bipush (v := 60) C0 dX7_row_35 (by decide) ?_
    refine sx_icmp_ge (tgt := 58) C0 dX7_row_37 (by decide) (fun _ => ?_) (fun _ => ?_)
    · refine sx_iload_n C0 dX7_row_58 rfl (lv_at hl 2 rfl) ?_
      exact sx_iret C0 rfl rfl trivial dX7_row_59
    · refine sx_aload_n C0 dX7_row_40 rfl (lv_at hl 0 rfl) ?_
      refine gf_X7_16 C0 is7 dX7_row_41 ?_
      refine sx_bipush (v := 60) C0 dX7_row_44 (by decide) ?_
      refine sx_iload_n C0 dX7_row_46 rfl (lv_at hl 1 rfl) ?_
      refine sx_imul C0 dX7_row_47 ?_
      refine sx_iload_n C0 dX7_row_48 rfl (lv_at hl 3 rfl) ?_
      refine sx_iadd C0 dX7_row_49 ?_
      refine sx_iconst (v := 0) C0 dX7_row_50 (by decide) ?_
      refine sx_iast C0 is7_rows rfl dX7_row_51 (fun S51 => ?_)
      refine sx_iinc (v := (v3 + (1 : Int32))) (lv' := [(3, .int (v3 + (1 : Int32))), (0, .ref (ad 0)), (1, .int v1), (2, .int v2)]) C0 dX7_row_52 hl (k := 3) rfl rfl (by decide) rfl (fun ls hl => ?_)
      refine sx_goto (tgt := 34) C0 dX7_row_55 (by decide) ?_
      exact ih _ _ _ (lv_sub hl [1, 2, 3, 0] rfl)
def mX7_row (S : vS) (v1 : Int32) (v2 : Int32) : Option (Int32 × vS) := (if (mX7_isRow v1) = 0 then (some ((-1 : Int32), S)) else (if v2 ≤ (60 : Int32) then (if 0 ≤ v2 then ((pI S 2 6 v1 v2).bind fun S31 => (lX7_row_34 v1 v2 FU S31 (0 : Int32))) else ((mX7_meets S (5 : Int32)).bind fun q21 => (some (q21.1, q21.2)))) else (some ((-1 : Int32), S))))
set_option maxHeartbeats 4000000 in
set_option maxRecDepth 100000 in
theorem c_X7_row {l : Launch} {D : va_G} {cA : Nat → ClassId} {ad : Nat → Nat} (G : Gx shM ad ExM) (v1 : Int32) (v2 : Int32) (S : vS) (r : (Int32 × vS)) (hr : (mX7_row S v1 v2) = some r) : Met l yX7_row (Cond.code yX7_row cX7_row 4 (some .int) :: ALL) rm_X7_row (Po D vwCl tlM shM cA ad ExM [.ref (ad 0), .int v1, .int v2] S) (Qo D vwCl shM cA ad (some (.int r.1)) r.2 True) 0 0 (aw shM ad) := by
  refine Met.sx (M := (mX7_row S v1 v2)) (rv := (fun q => some (.int q.1) : (Int32 × vS) → Option Value)) (rs := fun q => q.2) (B := fun _ => True) (by decide) ⟨rfl, rfl⟩ (Nat.le_of_ble_eq_true rfl) G (fun p e s m args below meth c C0 ls hl => ?_) hr
  have hl : lv_has ls 4 [(0, .ref (ad 0)), (1, .int v1), (2, .int v2)] := hl
  rw [mX7_row]
  refine sx_iload_n C0 dX7_row_0 rfl (lv_at hl 1 rfl) ?_
  refine cv_X7_90 (As := [.int v1]) C0 (c_X7_isRow C0.2.2.2.2.2.2.2.1 v1 S) ⟨rfl, rfl⟩ ⟨Nat.le_of_ble_eq_true rfl, Nat.le_of_ble_eq_true rfl⟩ rfl hl.1 (Nat.le_of_ble_eq_true rfl) rfl dX7_row_1 (fun hb1 => ?_)
  refine sx_if_eq (tgt := 13) C0 dX7_row_4 (by decide) (fun _ => ?_) (fun _ => ?_)
  · refine sx_iconst (v := (-1)) C0 dX7_row_13 (by decide) ?_
    exact sx_iret C0 rfl rfl trivial dX7_row_14
  · refine sx_iload_n C0 dX7_row_7 rfl (lv_at hl 2 rfl) ?_
    refine sx_bipush (v := 60) C0 dX7_row_8 (by decide) ?_
    refine sx_icmp_le (tgt := 15) C0 dX7_row_10 (by decide) (fun _ => ?_) (fun _ => ?_)
    · refine sx_iload_n C0 dX7_row_15 rfl (lv_at hl 2 rfl) ?_
      refine sx_if_ge (tgt := 25) C0 dX7_row_16 (by decide) (fun _ => ?_) (fun _ => ?_)
      · refine sx_aload_n C0 dX7_row_25 rfl (lv_at hl 0 rfl) ?_
        refine gf_X7_13 C0 is7 dX7_row_26 ?_
        refine sx_iload_n C0 dX7_row_29 rfl (lv_at hl 1 rfl) ?_
        refine sx_iload_n C0 dX7_row_30 rfl (lv_at hl 2 rfl) ?_
        refine sx_iast C0 is7_sizes rfl dX7_row_31 (fun S31 => ?_)
        refine sx_iconst (v := 0) C0 dX7_row_32 (by decide) ?_
        refine sx_istore_n (lv' := [(3, .int (0 : Int32)), (0, .ref (ad 0)), (1, .int v1), (2, .int v2)]) C0 dX7_row_33 rfl hl (by decide) rfl (fun ls hl => ?_)
        exact lX7_row_34_t C0 _ _ _ _ _ _ (lv_sub hl [1, 2, 3, 0] rfl)
      · refine sx_aload_n C0 dX7_row_19 rfl (lv_at hl 0 rfl) ?_
        refine sx_iconst (v := 5) C0 dX7_row_20 (by decide) ?_
        refine sw_bind (fun q21 e21 => ?_)
        refine cv_X7_94 (As := [.int (5 : Int32)]) C0 (c_X7_meets C0.2.2.2.2.2.2.2.1 (5 : Int32) S _ e21) is7 ⟨rfl, rfl⟩ ⟨Nat.le_of_ble_eq_true rfl, Nat.le_of_ble_eq_true rfl⟩ rfl hl.1 (Nat.le_of_ble_eq_true rfl) rfl dX7_row_21 (fun _ => ?_)
        exact sx_iret C0 rfl rfl trivial dX7_row_24
    · refine sx_iconst (v := (-1)) C0 dX7_row_13 (by decide) ?_
      exact sx_iret C0 rfl rfl trivial dX7_row_14
abbrev rm_X7_lay : Room := { frames := 2, cells := 0, slots := 0, locals := 42 }
def mX7_lay (S : vS) (v1 : Int32) (v2 : Int32) (v3 : Int32) : Option (Int32 × vS) := (if (mX7_isRow v1) = 0 then (some ((-1 : Int32), S)) else ((gI (S.1 2) 6 v1).bind fun a14 => (if 0 ≤ a14 then ((gI (S.1 2) 6 v1).bind fun a31 => (if (mX7_in v2 (0 : Int32) (a31 - (1 : Int32))) = 0 then ((mX7_meets S (2 : Int32)).bind fun q42 => (some (q42.1, q42.2))) else ((mX7_rowAt S v1 v2).bind fun a49 => ((pI S 3 360 (((60 : Int32) * v1) + v2) v3).bind fun S65 => (lt (mX7_tells S65 a49 (1 : Int32)) fun q70 => (some (q70.1, q70.2))))))) else ((mX7_meets S (1 : Int32)).bind fun q20 => (some (q20.1, q20.2))))))
set_option maxHeartbeats 4000000 in
set_option maxRecDepth 100000 in
theorem c_X7_lay {l : Launch} {D : va_G} {cA : Nat → ClassId} {ad : Nat → Nat} (G : Gx shM ad ExM) (v1 : Int32) (v2 : Int32) (v3 : Int32) (S : vS) (r : (Int32 × vS)) (hr : (mX7_lay S v1 v2 v3) = some r) : Met l yX7_lay (Cond.code yX7_lay cX7_lay 5 (some .int) :: ALL) rm_X7_lay (Po D vwCl tlM shM cA ad ExM [.ref (ad 0), .int v1, .int v2, .int v3] S) (Qo D vwCl shM cA ad (some (.int r.1)) r.2 True) 0 0 (aw shM ad) := by
  refine Met.sx (M := (mX7_lay S v1 v2 v3)) (rv := (fun q => some (.int q.1) : (Int32 × vS) → Option Value)) (rs := fun q => q.2) (B := fun _ => True) (by decide) ⟨rfl, rfl⟩ (Nat.le_of_ble_eq_true rfl) G (fun p e s m args below meth c C0 ls hl => ?_) hr
  have hl : lv_has ls 5 [(0, .ref (ad 0)), (1, .int v1), (2, .int v2), (3, .int v3)] := hl
  rw [mX7_lay]
  refine sx_iload_n C0 dX7_lay_0 rfl (lv_at hl 1 rfl) ?_
  refine cv_X7_90 (As := [.int v1]) C0 (c_X7_isRow C0.2.2.2.2.2.2.2.1 v1 S) ⟨rfl, rfl⟩ ⟨Nat.le_of_ble_eq_true rfl, Nat.le_of_ble_eq_true rfl⟩ rfl hl.1 (Nat.le_of_ble_eq_true rfl) rfl dX7_lay_1 (fun hb1 => ?_)
  refine sx_if_ne (tgt := 9) C0 dX7_lay_4 (by decide) (fun _ => ?_) (fun _ => ?_)
  · refine sx_iconst (v := (-1)) C0 dX7_lay_7 (by decide) ?_
    exact sx_iret C0 rfl rfl trivial dX7_lay_8
  · refine sx_aload_n C0 dX7_lay_9 rfl (lv_at hl 0 rfl) ?_
    refine gf_X7_13 C0 is7 dX7_lay_10 ?_
    refine sx_iload_n C0 dX7_lay_13 rfl (lv_at hl 1 rfl) ?_
    refine sx_iald C0 is7_sizes rfl dX7_lay_14 (fun a14 => ?_)
    refine sx_if_ge (tgt := 24) C0 dX7_lay_15 (by decide) (fun _ => ?_) (fun _ => ?_)
    · refine sx_iload_n C0 dX7_lay_24 rfl (lv_at hl 2 rfl) ?_
      refine sx_iconst (v := 0) C0 dX7_lay_25 (by decide) ?_
      refine sx_aload_n C0 dX7_lay_26 rfl (lv_at hl 0 rfl) ?_
      refine gf_X7_13 C0 is7 dX7_lay_27 ?_
      refine sx_iload_n C0 dX7_lay_30 rfl (lv_at hl 1 rfl) ?_
      refine sx_iald C0 is7_sizes rfl dX7_lay_31 (fun a31 => ?_)
      refine sx_iconst (v := 1) C0 dX7_lay_32 (by decide) ?_
      refine sx_isub C0 dX7_lay_33 ?_
      refine cv_X7_80 (As := [.int v2, .int (0 : Int32), .int (a31 - (1 : Int32))]) C0 (c_X7_in C0.2.2.2.2.2.2.2.1 v2 (0 : Int32) (a31 - (1 : Int32)) S) ⟨rfl, rfl⟩ ⟨Nat.le_of_ble_eq_true rfl, Nat.le_of_ble_eq_true rfl⟩ rfl hl.1 (Nat.le_of_ble_eq_true rfl) rfl dX7_lay_34 (fun hb34 => ?_)
      refine sx_if_ne (tgt := 46) C0 dX7_lay_37 (by decide) (fun _ => ?_) (fun _ => ?_)
      · refine sx_aload_n C0 dX7_lay_40 rfl (lv_at hl 0 rfl) ?_
        refine sx_iconst (v := 2) C0 dX7_lay_41 (by decide) ?_
        refine sw_bind (fun q42 e42 => ?_)
        refine cv_X7_94 (As := [.int (2 : Int32)]) C0 (c_X7_meets C0.2.2.2.2.2.2.2.1 (2 : Int32) S _ e42) is7 ⟨rfl, rfl⟩ ⟨Nat.le_of_ble_eq_true rfl, Nat.le_of_ble_eq_true rfl⟩ rfl hl.1 (Nat.le_of_ble_eq_true rfl) rfl dX7_lay_42 (fun _ => ?_)
        exact sx_iret C0 rfl rfl trivial dX7_lay_45
      · refine sx_aload_n C0 dX7_lay_46 rfl (lv_at hl 0 rfl) ?_
        refine sx_iload_n C0 dX7_lay_47 rfl (lv_at hl 1 rfl) ?_
        refine sx_iload_n C0 dX7_lay_48 rfl (lv_at hl 2 rfl) ?_
        refine sw_bind (fun a49 e49 => ?_)
        refine cv_X7_98 (As := [.int v1, .int v2]) C0 (c_X7_rowAt C0.2.2.2.2.2.2.2.1 v1 v2 S _ e49) is7 ⟨rfl, rfl⟩ ⟨Nat.le_of_ble_eq_true rfl, Nat.le_of_ble_eq_true rfl⟩ rfl hl.1 (Nat.le_of_ble_eq_true rfl) rfl dX7_lay_49 (fun _ => ?_)
        refine sx_istore (lv' := [(4, .int a49), (0, .ref (ad 0)), (1, .int v1), (2, .int v2), (3, .int v3)]) C0 dX7_lay_52 hl (by decide) rfl (fun ls hl => ?_)
        refine sx_aload_n C0 dX7_lay_54 rfl (lv_at hl 1 rfl) ?_
        refine gf_X7_16 C0 is7 dX7_lay_55 ?_
        refine sx_bipush (v := 60) C0 dX7_lay_58 (by decide) ?_
        refine sx_iload_n C0 dX7_lay_60 rfl (lv_at hl 2 rfl) ?_
        refine sx_imul C0 dX7_lay_61 ?_
        refine sx_iload_n C0 dX7_lay_62 rfl (lv_at hl 3 rfl) ?_
        refine sx_iadd C0 dX7_lay_63 ?_
        refine sx_iload_n C0 dX7_lay_64 rfl (lv_at hl 4 rfl) ?_
        refine sx_iast C0 is7_rows rfl dX7_lay_65 (fun S65 => ?_)
        refine sx_aload_n C0 dX7_lay_66 rfl (lv_at hl 1 rfl) ?_
        refine sx_iload C0 dX7_lay_67 (lv_at hl 0 rfl) ?_
        refine sx_iconst (v := 1) C0 dX7_lay_69 (by decide) ?_
        refine cv_X7_102 (As := [.int a49, .int (1 : Int32)]) C0 (c_X7_tells C0.2.2.2.2.2.2.2.1 a49 (1 : Int32) S65) is7 ⟨rfl, rfl⟩ ⟨Nat.le_of_ble_eq_true rfl, Nat.le_of_ble_eq_true rfl⟩ rfl hl.1 (Nat.le_of_ble_eq_true rfl) rfl dX7_lay_70 (fun _ => ?_)
        refine sw_ltQ (val := .int) (fun q70 => ?_)
        exact sx_iret C0 rfl rfl trivial dX7_lay_73
    · refine sx_aload_n C0 dX7_lay_18 rfl (lv_at hl 0 rfl) ?_
      refine sx_iconst (v := 1) C0 dX7_lay_19 (by decide) ?_
      refine sw_bind (fun q20 e20 => ?_)
      refine cv_X7_94 (As := [.int (1 : Int32)]) C0 (c_X7_meets C0.2.2.2.2.2.2.2.1 (1 : Int32) S _ e20) is7 ⟨rfl, rfl⟩ ⟨Nat.le_of_ble_eq_true rfl, Nat.le_of_ble_eq_true rfl⟩ rfl hl.1 (Nat.le_of_ble_eq_true rfl) rfl dX7_lay_20 (fun _ => ?_)
      exact sx_iret C0 rfl rfl trivial dX7_lay_23
abbrev rm_X7_at : Room := { frames := 2, cells := 0, slots := 0, locals := 42 }
def mX7_at (S : vS) (v1 : Int32) (v2 : Int32) : Option (Int32 × vS) := (if (mX7_isRow v1) = 0 then (some ((-1 : Int32), S)) else ((gI (S.1 2) 6 v1).bind fun a14 => (if 0 ≤ a14 then ((gI (S.1 2) 6 v1).bind fun a31 => (if (mX7_in v2 (0 : Int32) (a31 - (1 : Int32))) = 0 then ((mX7_meets S (2 : Int32)).bind fun q56 => (some (q56.1, q56.2))) else ((mX7_rowAt S v1 v2).bind fun a44 => (lt (mX7_tells S a44 (1 : Int32)) fun q48 => (some (q48.1, q48.2)))))) else ((mX7_meets S (1 : Int32)).bind fun q20 => (some (q20.1, q20.2))))))
set_option maxHeartbeats 4000000 in
set_option maxRecDepth 100000 in
theorem c_X7_at {l : Launch} {D : va_G} {cA : Nat → ClassId} {ad : Nat → Nat} (G : Gx shM ad ExM) (v1 : Int32) (v2 : Int32) (S : vS) (r : (Int32 × vS)) (hr : (mX7_at S v1 v2) = some r) : Met l yX7_at (Cond.code yX7_at cX7_at 3 (some .int) :: ALL) rm_X7_at (Po D vwCl tlM shM cA ad ExM [.ref (ad 0), .int v1, .int v2] S) (Qo D vwCl shM cA ad (some (.int r.1)) r.2 True) 0 0 (aw shM ad) := by
  refine Met.sx (M := (mX7_at S v1 v2)) (rv := (fun q => some (.int q.1) : (Int32 × vS) → Option Value)) (rs := fun q => q.2) (B := fun _ => True) (by decide) ⟨rfl, rfl⟩ (Nat.le_of_ble_eq_true rfl) G (fun p e s m args below meth c C0 ls hl => ?_) hr
  have hl : lv_has ls 3 [(0, .ref (ad 0)), (1, .int v1), (2, .int v2)] := hl
  rw [mX7_at]
  refine sx_iload_n C0 dX7_at_0 rfl (lv_at hl 1 rfl) ?_
  refine cv_X7_90 (As := [.int v1]) C0 (c_X7_isRow C0.2.2.2.2.2.2.2.1 v1 S) ⟨rfl, rfl⟩ ⟨Nat.le_of_ble_eq_true rfl, Nat.le_of_ble_eq_true rfl⟩ rfl hl.1 (Nat.le_of_ble_eq_true rfl) rfl dX7_at_1 (fun hb1 => ?_)
  refine sx_if_ne (tgt := 9) C0 dX7_at_4 (by decide) (fun _ => ?_) (fun _ => ?_)
  · refine sx_iconst (v := (-1)) C0 dX7_at_7 (by decide) ?_
    exact sx_iret C0 rfl rfl trivial dX7_at_8
  · refine sx_aload_n C0 dX7_at_9 rfl (lv_at hl 0 rfl) ?_
    refine gf_X7_13 C0 is7 dX7_at_10 ?_
    refine sx_iload_n C0 dX7_at_13 rfl (lv_at hl 1 rfl) ?_
    refine sx_iald C0 is7_sizes rfl dX7_at_14 (fun a14 => ?_)
    refine sx_if_ge (tgt := 24) C0 dX7_at_15 (by decide) (fun _ => ?_) (fun _ => ?_)
    · refine sx_iload_n C0 dX7_at_24 rfl (lv_at hl 2 rfl) ?_
      refine sx_iconst (v := 0) C0 dX7_at_25 (by decide) ?_
      refine sx_aload_n C0 dX7_at_26 rfl (lv_at hl 0 rfl) ?_
      refine gf_X7_13 C0 is7 dX7_at_27 ?_
      refine sx_iload_n C0 dX7_at_30 rfl (lv_at hl 1 rfl) ?_
      refine sx_iald C0 is7_sizes rfl dX7_at_31 (fun a31 => ?_)
      refine sx_iconst (v := 1) C0 dX7_at_32 (by decide) ?_
      refine sx_isub C0 dX7_at_33 ?_
      refine cv_X7_80 (As := [.int v2, .int (0 : Int32), .int (a31 - (1 : Int32))]) C0 (c_X7_in C0.2.2.2.2.2.2.2.1 v2 (0 : Int32) (a31 - (1 : Int32)) S) ⟨rfl, rfl⟩ ⟨Nat.le_of_ble_eq_true rfl, Nat.le_of_ble_eq_true rfl⟩ rfl hl.1 (Nat.le_of_ble_eq_true rfl) rfl dX7_at_34 (fun hb34 => ?_)
      refine sx_if_eq (tgt := 54) C0 dX7_at_37 (by decide) (fun _ => ?_) (fun _ => ?_)
      · refine sx_aload_n C0 dX7_at_54 rfl (lv_at hl 0 rfl) ?_
        refine sx_iconst (v := 2) C0 dX7_at_55 (by decide) ?_
        refine sw_bind (fun q56 e56 => ?_)
        refine cv_X7_94 (As := [.int (2 : Int32)]) C0 (c_X7_meets C0.2.2.2.2.2.2.2.1 (2 : Int32) S _ e56) is7 ⟨rfl, rfl⟩ ⟨Nat.le_of_ble_eq_true rfl, Nat.le_of_ble_eq_true rfl⟩ rfl hl.1 (Nat.le_of_ble_eq_true rfl) rfl dX7_at_56 (fun _ => ?_)
        exact sx_iret C0 rfl rfl trivial dX7_at_59
      · refine sx_aload_n C0 dX7_at_40 rfl (lv_at hl 0 rfl) ?_
        refine sx_aload_n C0 dX7_at_41 rfl (lv_at hl 0 rfl) ?_
        refine sx_iload_n C0 dX7_at_42 rfl (lv_at hl 1 rfl) ?_
        refine sx_iload_n C0 dX7_at_43 rfl (lv_at hl 2 rfl) ?_
        refine sw_bind (fun a44 e44 => ?_)
        refine cv_X7_98 (As := [.int v1, .int v2]) C0 (c_X7_rowAt C0.2.2.2.2.2.2.2.1 v1 v2 S _ e44) is7 ⟨rfl, rfl⟩ ⟨Nat.le_of_ble_eq_true rfl, Nat.le_of_ble_eq_true rfl⟩ rfl hl.1 (Nat.le_of_ble_eq_true rfl) rfl dX7_at_44 (fun _ => ?_)
        refine sx_iconst (v := 1) C0 dX7_at_47 (by decide) ?_
        refine cv_X7_102 (As := [.int a44, .int (1 : Int32)]) C0 (c_X7_tells C0.2.2.2.2.2.2.2.1 a44 (1 : Int32) S) is7 ⟨rfl, rfl⟩ ⟨Nat.le_of_ble_eq_true rfl, Nat.le_of_ble_eq_true rfl⟩ rfl hl.1 (Nat.le_of_ble_eq_true rfl) rfl dX7_at_48 (fun _ => ?_)
        refine sw_ltQ (val := .int) (fun q48 => ?_)
        refine sx_goto (tgt := 59) C0 dX7_at_51 (by decide) ?_
        exact sx_iret C0 rfl rfl trivial dX7_at_59
    · refine sx_aload_n C0 dX7_at_18 rfl (lv_at hl 0 rfl) ?_
      refine sx_iconst (v := 1) C0 dX7_at_19 (by decide) ?_
      refine sw_bind (fun q20 e20 => ?_)
      refine cv_X7_94 (As := [.int (1 : Int32)]) C0 (c_X7_meets C0.2.2.2.2.2.2.2.1 (1 : Int32) S _ e20) is7 ⟨rfl, rfl⟩ ⟨Nat.le_of_ble_eq_true rfl, Nat.le_of_ble_eq_true rfl⟩ rfl hl.1 (Nat.le_of_ble_eq_true rfl) rfl dX7_at_20 (fun _ => ?_)
      exact sx_iret C0 rfl rfl trivial dX7_at_23
abbrev rm_X7_tear : Room := { frames := 2, cells := 0, slots := 0, locals := 42 }
def mX7_tear (S : vS) (v1 : Int32) : Option (Int32 × vS) := (if (mX7_isRow v1) = 0 then (some ((-1 : Int32), S)) else ((gI (S.1 2) 6 v1).bind fun a14 => (if 0 ≤ a14 then ((pI S 2 6 v1 (-1 : Int32)).bind fun S30 => (some ((1 : Int32), S30))) else ((mX7_meets S (1 : Int32)).bind fun q20 => (some (q20.1, q20.2))))))
set_option maxHeartbeats 4000000 in
set_option maxRecDepth 100000 in
theorem c_X7_tear {l : Launch} {D : va_G} {cA : Nat → ClassId} {ad : Nat → Nat} (G : Gx shM ad ExM) (v1 : Int32) (S : vS) (r : (Int32 × vS)) (hr : (mX7_tear S v1) = some r) : Met l yX7_tear (Cond.code yX7_tear cX7_tear 2 (some .int) :: ALL) rm_X7_tear (Po D vwCl tlM shM cA ad ExM [.ref (ad 0), .int v1] S) (Qo D vwCl shM cA ad (some (.int r.1)) r.2 True) 0 0 (aw shM ad) := by
  refine Met.sx (M := (mX7_tear S v1)) (rv := (fun q => some (.int q.1) : (Int32 × vS) → Option Value)) (rs := fun q => q.2) (B := fun _ => True) (by decide) ⟨rfl, rfl⟩ (Nat.le_of_ble_eq_true rfl) G (fun p e s m args below meth c C0 ls hl => ?_) hr
  have hl : lv_has ls 2 [(0, .ref (ad 0)), (1, .int v1)] := hl
  rw [mX7_tear]
  refine sx_iload_n C0 dX7_tear_0 rfl (lv_at hl 1 rfl) ?_
  refine cv_X7_90 (As := [.int v1]) C0 (c_X7_isRow C0.2.2.2.2.2.2.2.1 v1 S) ⟨rfl, rfl⟩ ⟨Nat.le_of_ble_eq_true rfl, Nat.le_of_ble_eq_true rfl⟩ rfl hl.1 (Nat.le_of_ble_eq_true rfl) rfl dX7_tear_1 (fun hb1 => ?_)
  refine sx_if_ne (tgt := 9) C0 dX7_tear_4 (by decide) (fun _ => ?_) (fun _ => ?_)
  · refine sx_iconst (v := (-1)) C0 dX7_tear_7 (by decide) ?_
    exact sx_iret C0 rfl rfl trivial dX7_tear_8
  · refine sx_aload_n C0 dX7_tear_9 rfl (lv_at hl 0 rfl) ?_
    refine gf_X7_13 C0 is7 dX7_tear_10 ?_
    refine sx_iload_n C0 dX7_tear_13 rfl (lv_at hl 1 rfl) ?_
    refine sx_iald C0 is7_sizes rfl dX7_tear_14 (fun a14 => ?_)
    refine sx_if_ge (tgt := 24) C0 dX7_tear_15 (by decide) (fun _ => ?_) (fun _ => ?_)
    · refine sx_aload_n C0 dX7_tear_24 rfl (lv_at hl 0 rfl) ?_
      refine gf_X7_13 C0 is7 dX7_tear_25 ?_
      refine sx_iload_n C0 dX7_tear_28 rfl (lv_at hl 1 rfl) ?_
      refine sx_iconst (v := (-1)) C0 dX7_tear_29 (by decide) ?_
      refine sx_iast C0 is7_sizes rfl dX7_tear_30 (fun S30 => ?_)
      refine sx_iconst (v := 1) C0 dX7_tear_31 (by decide) ?_
      exact sx_iret C0 rfl rfl trivial dX7_tear_32
    · refine sx_aload_n C0 dX7_tear_18 rfl (lv_at hl 0 rfl) ?_
      refine sx_iconst (v := 1) C0 dX7_tear_19 (by decide) ?_
      refine sw_bind (fun q20 e20 => ?_)
      refine cv_X7_94 (As := [.int (1 : Int32)]) C0 (c_X7_meets C0.2.2.2.2.2.2.2.1 (1 : Int32) S _ e20) is7 ⟨rfl, rfl⟩ ⟨Nat.le_of_ble_eq_true rfl, Nat.le_of_ble_eq_true rfl⟩ rfl hl.1 (Nat.le_of_ble_eq_true rfl) rfl dX7_tear_20 (fun _ => ?_)
      exact sx_iret C0 rfl rfl trivial dX7_tear_23
abbrev rm_X7_copy : Room := { frames := 2, cells := 0, slots := 0, locals := 42 }
def bX7_copy_45    (S : vS)   : Option (Int32 × vS) := ((mX7_meets S (1 : Int32)).bind fun q47 => (some (q47.1, q47.2)))
set_option maxHeartbeats 4000000 in
set_option maxRecDepth 100000 in
theorem bX7_copy_45_t {p : Program} {l : Launch} {e : Env} {s : State} {m : MethodId} {args : Array Value} {below : List Frame} {meth : Method} {c : Code} {D : va_G} {cA : Nat → ClassId} {ad : Nat → Nat}   (C0 : Cx D vwCl tlM shM cA ad ExM RX7 cX7_copy 7 (some .int) p s m args meth c)  (S : vS)  (ls : Array Slot) (hl : lv_has ls 7 [(0, .ref (ad 0))]) : SW p l e rm_X7_copy s m args below meth c D vwCl shM cA ad (Fq D vwCl shM cA ad below args s (fun q => some (.int q.1) : (Int32 × vS) → Option Value) (fun q => q.2) (fun _ => True)) (bX7_copy_45 S) S 45 ls [] := by
  rw [bX7_copy_45]
  refine sx_aload_n C0 dX7_copy_45 rfl (lv_at hl 0 rfl) ?_
  refine sx_iconst (v := 1) C0 dX7_copy_46 (by decide) ?_
  refine sw_bind (fun q47 e47 => ?_)
  refine cv_X7_94 (As := [.int (1 : Int32)]) C0 (c_X7_meets C0.2.2.2.2.2.2.2.1 (1 : Int32) S _ e47) is7 ⟨rfl, rfl⟩ ⟨Nat.le_of_ble_eq_true rfl, Nat.le_of_ble_eq_true rfl⟩ rfl hl.1 (Nat.le_of_ble_eq_true rfl) rfl dX7_copy_47 (fun _ => ?_)
  exact sx_iret C0 rfl rfl trivial dX7_copy_50
def bX7_copy_95    (S : vS)   : Option (Int32 × vS) := ((mX7_meets S (2 : Int32)).bind fun q97 => (some (q97.1, q97.2)))
set_option maxHeartbeats 4000000 in
set_option maxRecDepth 100000 in
theorem bX7_copy_95_t {p : Program} {l : Launch} {e : Env} {s : State} {m : MethodId} {args : Array Value} {below : List Frame} {meth : Method} {c : Code} {D : va_G} {cA : Nat → ClassId} {ad : Nat → Nat}   (C0 : Cx D vwCl tlM shM cA ad ExM RX7 cX7_copy 7 (some .int) p s m args meth c)  (S : vS)  (ls : Array Slot) (hl : lv_has ls 7 [(0, .ref (ad 0))]) : SW p l e rm_X7_copy s m args below meth c D vwCl shM cA ad (Fq D vwCl shM cA ad below args s (fun q => some (.int q.1) : (Int32 × vS) → Option Value) (fun q => q.2) (fun _ => True)) (bX7_copy_95 S) S 95 ls [] := by
  rw [bX7_copy_95]
  refine sx_aload_n C0 dX7_copy_95 rfl (lv_at hl 0 rfl) ?_
  refine sx_iconst (v := 2) C0 dX7_copy_96 (by decide) ?_
  refine sw_bind (fun q97 e97 => ?_)
  refine cv_X7_94 (As := [.int (2 : Int32)]) C0 (c_X7_meets C0.2.2.2.2.2.2.2.1 (2 : Int32) S _ e97) is7 ⟨rfl, rfl⟩ ⟨Nat.le_of_ble_eq_true rfl, Nat.le_of_ble_eq_true rfl⟩ rfl hl.1 (Nat.le_of_ble_eq_true rfl) rfl dX7_copy_97 (fun _ => ?_)
  exact sx_iret C0 rfl rfl trivial dX7_copy_100
def lX7_copy_136    (v3 : Int32) (v4 : Int32) (v5 : Int32) : Nat → vS → Int32 → Option (Int32 × vS)
  | 0, _, _ => none
  | n + 1, S, v6 => (if v5 ≤ v6 then (some ((1 : Int32), S)) else ((gI (S.1 4) 60 v6).bind fun a163 => ((pI S 3 360 ((((60 : Int32) * v3) + v4) + v6) a163).bind fun S164 => ((lX7_copy_136 v3 v4 v5 n) S164 (v6 + (1 : Int32))))))
set_option maxHeartbeats 4000000 in
set_option maxRecDepth 100000 in
theorem lX7_copy_136_t {p : Program} {l : Launch} {e : Env} {s : State} {m : MethodId} {args : Array Value} {below : List Frame} {meth : Method} {c : Code} {D : va_G} {cA : Nat → ClassId} {ad : Nat → Nat}   (C0 : Cx D vwCl tlM shM cA ad ExM RX7 cX7_copy 7 (some .int) p s m args meth c)   (v3 : Int32) (v4 : Int32) (v5 : Int32)  : ∀ (n : Nat) (S : vS) (v6 : Int32) (ls : Array Slot), lv_has ls 7 [(0, .ref (ad 0)), (3, .int v3), (4, .int v4), (5, .int v5), (6, .int v6)] → SW p l e rm_X7_copy s m args below meth c D vwCl shM cA ad (Fq D vwCl shM cA ad below args s (fun q => some (.int q.1) : (Int32 × vS) → Option Value) (fun q => q.2) (fun _ => True)) (lX7_copy_136 v3 v4 v5 n S v6) S 136 ls [] := by
  intro n
  induction n with
  | zero =>
    intro S v6 ls hl
    rw [lX7_copy_136]
    exact sw_none
  | succ n ih =>
    intro S v6 ls hl
    rw [lX7_copy_136]
    refine sx_iload C0 dX7_copy_136 (lv_at hl 4 rfl) ?_
    refine sx_iload C0 dX7_copy_138 (lv_at hl 3 rfl) ?_
    refine sx_icmp_ge (tgt := 171) C0 dX7_copy_140 (by decide) (fun _ => ?_) (fun _ => ?_)
    · refine sx_iconst (v := 1) C0 dX7_copy_171 (by decide) ?_
      exact sx_iret C0 rfl rfl trivial dX7_copy_172
    · refine sx_aload_n C0 dX7_copy_143 rfl (lv_at hl 0 rfl) ?_
      refine gf_X7_16 C0 is7 dX7_copy_144 ?_
      refine sx_bipush (v := 60) C0 dX7_copy_147 (by decide) ?_
      refine sx_iload_n C0 dX7_copy_149 rfl (lv_at hl 1 rfl) ?_
      refine sx_imul C0 dX7_copy_150 ?_
      refine sx_iload C0 dX7_copy_151 (lv_at hl 2 rfl) ?_
      refine sx_iadd C0 dX7_copy_153 ?_
      refine sx_iload C0 dX7_copy_154 (lv_at hl 4 rfl) ?_
      refine sx_iadd C0 dX7_copy_156 ?_
      refine sx_aload_n C0 dX7_copy_157 rfl (lv_at hl 0 rfl) ?_
      refine gf_X7_19 C0 is7 dX7_copy_158 ?_
      refine sx_iload C0 dX7_copy_161 (lv_at hl 4 rfl) ?_
      refine sx_iald C0 is7_copied rfl dX7_copy_163 (fun a163 => ?_)
      refine sx_iast C0 is7_rows rfl dX7_copy_164 (fun S164 => ?_)
      refine sx_iinc (v := (v6 + (1 : Int32))) (lv' := [(6, .int (v6 + (1 : Int32))), (0, .ref (ad 0)), (3, .int v3), (4, .int v4), (5, .int v5)]) C0 dX7_copy_165 hl (k := 4) rfl rfl (by decide) rfl (fun ls hl => ?_)
      refine sx_goto (tgt := 136) C0 dX7_copy_168 (by decide) ?_
      exact ih _ _ _ (lv_sub hl [1, 2, 3, 4, 0] rfl)
def bX7_copy_133    (S : vS) (v3 : Int32) (v4 : Int32) (v5 : Int32)  : Option (Int32 × vS) := (lX7_copy_136 v3 v4 v5 FU S (0 : Int32))
set_option maxHeartbeats 4000000 in
set_option maxRecDepth 100000 in
theorem bX7_copy_133_t {p : Program} {l : Launch} {e : Env} {s : State} {m : MethodId} {args : Array Value} {below : List Frame} {meth : Method} {c : Code} {D : va_G} {cA : Nat → ClassId} {ad : Nat → Nat}   (C0 : Cx D vwCl tlM shM cA ad ExM RX7 cX7_copy 7 (some .int) p s m args meth c)  (S : vS) (v3 : Int32) (v4 : Int32) (v5 : Int32) (ls : Array Slot) (hl : lv_has ls 7 [(0, .ref (ad 0)), (3, .int v3), (4, .int v4), (5, .int v5)]) : SW p l e rm_X7_copy s m args below meth c D vwCl shM cA ad (Fq D vwCl shM cA ad below args s (fun q => some (.int q.1) : (Int32 × vS) → Option Value) (fun q => q.2) (fun _ => True)) (bX7_copy_133 S v3 v4 v5) S 133 ls [] := by
  rw [bX7_copy_133]
  refine sx_iconst (v := 0) C0 dX7_copy_133 (by decide) ?_
  refine sx_istore (lv' := [(6, .int (0 : Int32)), (0, .ref (ad 0)), (3, .int v3), (4, .int v4), (5, .int v5)]) C0 dX7_copy_134 hl (by decide) rfl (fun ls hl => ?_)
  exact lX7_copy_136_t C0 _ _ _ _ _ _ _ (lv_sub hl [1, 2, 3, 4, 0] rfl)
def lX7_copy_104    (v1 : Int32) (v2 : Int32) (v3 : Int32) (v4 : Int32) (v5 : Int32) : Nat → vS → Int32 → Option (Int32 × vS)
  | 0, _, _ => none
  | n + 1, S, v6 => (if v5 ≤ v6 then (bX7_copy_133 S v3 v4 v5) else ((mX7_rowAt S v1 (v2 + v6)).bind fun a123 => ((pI S 4 60 v6 a123).bind fun S126 => ((lX7_copy_104 v1 v2 v3 v4 v5 n) S126 (v6 + (1 : Int32))))))
set_option maxHeartbeats 4000000 in
set_option maxRecDepth 100000 in
theorem lX7_copy_104_t {p : Program} {l : Launch} {e : Env} {s : State} {m : MethodId} {args : Array Value} {below : List Frame} {meth : Method} {c : Code} {D : va_G} {cA : Nat → ClassId} {ad : Nat → Nat}   (C0 : Cx D vwCl tlM shM cA ad ExM RX7 cX7_copy 7 (some .int) p s m args meth c)   (v1 : Int32) (v2 : Int32) (v3 : Int32) (v4 : Int32) (v5 : Int32)  : ∀ (n : Nat) (S : vS) (v6 : Int32) (ls : Array Slot), lv_has ls 7 [(0, .ref (ad 0)), (1, .int v1), (2, .int v2), (3, .int v3), (4, .int v4), (5, .int v5), (6, .int v6)] → SW p l e rm_X7_copy s m args below meth c D vwCl shM cA ad (Fq D vwCl shM cA ad below args s (fun q => some (.int q.1) : (Int32 × vS) → Option Value) (fun q => q.2) (fun _ => True)) (lX7_copy_104 v1 v2 v3 v4 v5 n S v6) S 104 ls [] := by
  intro n
  induction n with
  | zero =>
    intro S v6 ls hl
    rw [lX7_copy_104]
    exact sw_none
  | succ n ih =>
    intro S v6 ls hl
    rw [lX7_copy_104]
    refine sx_iload C0 dX7_copy_104 (lv_at hl 6 rfl) ?_
    refine sx_iload C0 dX7_copy_106 (lv_at hl 5 rfl) ?_
    refine sx_icmp_ge (tgt := 133) C0 dX7_copy_108 (by decide) (fun _ => ?_) (fun _ => ?_)
    · exact bX7_copy_133_t C0 _ _ _ _ _ (lv_sub hl [0, 3, 4, 5] rfl)
    · refine sx_aload_n C0 dX7_copy_111 rfl (lv_at hl 0 rfl) ?_
      refine gf_X7_19 C0 is7 dX7_copy_112 ?_
      refine sx_iload C0 dX7_copy_115 (lv_at hl 6 rfl) ?_
      refine sx_aload_n C0 dX7_copy_117 rfl (lv_at hl 0 rfl) ?_
      refine sx_iload_n C0 dX7_copy_118 rfl (lv_at hl 1 rfl) ?_
      refine sx_iload_n C0 dX7_copy_119 rfl (lv_at hl 2 rfl) ?_
      refine sx_iload C0 dX7_copy_120 (lv_at hl 6 rfl) ?_
      refine sx_iadd C0 dX7_copy_122 ?_
      refine sw_bind (fun a123 e123 => ?_)
      refine cv_X7_98 (As := [.int v1, .int (v2 + v6)]) C0 (c_X7_rowAt C0.2.2.2.2.2.2.2.1 v1 (v2 + v6) S _ e123) is7 ⟨rfl, rfl⟩ ⟨Nat.le_of_ble_eq_true rfl, Nat.le_of_ble_eq_true rfl⟩ rfl hl.1 (Nat.le_of_ble_eq_true rfl) rfl dX7_copy_123 (fun _ => ?_)
      refine sx_iast C0 is7_copied rfl dX7_copy_126 (fun S126 => ?_)
      refine sx_iinc (v := (v6 + (1 : Int32))) (lv' := [(6, .int (v6 + (1 : Int32))), (0, .ref (ad 0)), (1, .int v1), (2, .int v2), (3, .int v3), (4, .int v4), (5, .int v5)]) C0 dX7_copy_127 hl (k := 6) rfl rfl (by decide) rfl (fun ls hl => ?_)
      refine sx_goto (tgt := 104) C0 dX7_copy_130 (by decide) ?_
      exact ih _ _ _ (lv_sub hl [1, 2, 3, 4, 5, 6, 0] rfl)
def mX7_copy (S : vS) (v1 : Int32) (v2 : Int32) (v3 : Int32) (v4 : Int32) (v5 : Int32) : Option (Int32 × vS) := (if (mX7_isRow v1) = 0 then (some ((-1 : Int32), S)) else (if (mX7_isRow v3) = 0 then (some ((-1 : Int32), S)) else (if 0 ≤ v5 then ((gI (S.1 2) 6 v1).bind fun a32 => (if a32 < 0 then (bX7_copy_45 S) else ((gI (S.1 2) 6 v3).bind fun a41 => (if 0 ≤ a41 then (if v2 < 0 then (bX7_copy_95 S) else (if v4 < 0 then (bX7_copy_95 S) else ((gI (S.1 2) 6 v1).bind fun a71 => (if 0 < (lg_cmp ((Int32.toInt64 v2) + (Int32.toInt64 v5)) (Int32.toInt64 a71)) then (bX7_copy_95 S) else ((gI (S.1 2) 6 v3).bind fun a89 => (if (lg_cmp ((Int32.toInt64 v4) + (Int32.toInt64 v5)) (Int32.toInt64 a89)) ≤ 0 then (lX7_copy_104 v1 v2 v3 v4 v5 FU S (0 : Int32)) else (bX7_copy_95 S))))))) else (bX7_copy_45 S))))) else ((mX7_meets S (5 : Int32)).bind fun q23 => (some (q23.1, q23.2))))))
set_option maxHeartbeats 4000000 in
set_option maxRecDepth 100000 in
theorem c_X7_copy {l : Launch} {D : va_G} {cA : Nat → ClassId} {ad : Nat → Nat} (G : Gx shM ad ExM) (v1 : Int32) (v2 : Int32) (v3 : Int32) (v4 : Int32) (v5 : Int32) (S : vS) (r : (Int32 × vS)) (hr : (mX7_copy S v1 v2 v3 v4 v5) = some r) : Met l yX7_copy (Cond.code yX7_copy cX7_copy 7 (some .int) :: ALL) rm_X7_copy (Po D vwCl tlM shM cA ad ExM [.ref (ad 0), .int v1, .int v2, .int v3, .int v4, .int v5] S) (Qo D vwCl shM cA ad (some (.int r.1)) r.2 True) 0 0 (aw shM ad) := by
  refine Met.sx (M := (mX7_copy S v1 v2 v3 v4 v5)) (rv := (fun q => some (.int q.1) : (Int32 × vS) → Option Value)) (rs := fun q => q.2) (B := fun _ => True) (by decide) ⟨rfl, rfl⟩ (Nat.le_of_ble_eq_true rfl) G (fun p e s m args below meth c C0 ls hl => ?_) hr
  have hl : lv_has ls 7 [(0, .ref (ad 0)), (1, .int v1), (2, .int v2), (3, .int v3), (4, .int v4), (5, .int v5)] := hl
  rw [mX7_copy]
  refine sx_iload_n C0 dX7_copy_0 rfl (lv_at hl 1 rfl) ?_
  refine cv_X7_90 (As := [.int v1]) C0 (c_X7_isRow C0.2.2.2.2.2.2.2.1 v1 S) ⟨rfl, rfl⟩ ⟨Nat.le_of_ble_eq_true rfl, Nat.le_of_ble_eq_true rfl⟩ rfl hl.1 (Nat.le_of_ble_eq_true rfl) rfl dX7_copy_1 (fun hb1 => ?_)
  refine sx_if_eq (tgt := 14) C0 dX7_copy_4 (by decide) (fun _ => ?_) (fun _ => ?_)
  · refine sx_iconst (v := (-1)) C0 dX7_copy_14 (by decide) ?_
    exact sx_iret C0 rfl rfl trivial dX7_copy_15
  · refine sx_iload_n C0 dX7_copy_7 rfl (lv_at hl 3 rfl) ?_
    refine cv_X7_90 (As := [.int v3]) C0 (c_X7_isRow C0.2.2.2.2.2.2.2.1 v3 S) ⟨rfl, rfl⟩ ⟨Nat.le_of_ble_eq_true rfl, Nat.le_of_ble_eq_true rfl⟩ rfl hl.1 (Nat.le_of_ble_eq_true rfl) rfl dX7_copy_8 (fun hb8 => ?_)
    refine sx_if_ne (tgt := 16) C0 dX7_copy_11 (by decide) (fun _ => ?_) (fun _ => ?_)
    · refine sx_iconst (v := (-1)) C0 dX7_copy_14 (by decide) ?_
      exact sx_iret C0 rfl rfl trivial dX7_copy_15
    · refine sx_iload C0 dX7_copy_16 (lv_at hl 5 rfl) ?_
      refine sx_if_ge (tgt := 27) C0 dX7_copy_18 (by decide) (fun _ => ?_) (fun _ => ?_)
      · refine sx_aload_n C0 dX7_copy_27 rfl (lv_at hl 0 rfl) ?_
        refine gf_X7_13 C0 is7 dX7_copy_28 ?_
        refine sx_iload_n C0 dX7_copy_31 rfl (lv_at hl 1 rfl) ?_
        refine sx_iald C0 is7_sizes rfl dX7_copy_32 (fun a32 => ?_)
        refine sx_if_lt (tgt := 45) C0 dX7_copy_33 (by decide) (fun _ => ?_) (fun _ => ?_)
        · exact bX7_copy_45_t C0 _ _ (lv_sub hl [0] rfl)
        · refine sx_aload_n C0 dX7_copy_36 rfl (lv_at hl 0 rfl) ?_
          refine gf_X7_13 C0 is7 dX7_copy_37 ?_
          refine sx_iload_n C0 dX7_copy_40 rfl (lv_at hl 3 rfl) ?_
          refine sx_iald C0 is7_sizes rfl dX7_copy_41 (fun a41 => ?_)
          refine sx_if_ge (tgt := 51) C0 dX7_copy_42 (by decide) (fun _ => ?_) (fun _ => ?_)
          · refine sx_iload_n C0 dX7_copy_51 rfl (lv_at hl 2 rfl) ?_
            refine sx_if_lt (tgt := 95) C0 dX7_copy_52 (by decide) (fun _ => ?_) (fun _ => ?_)
            · exact bX7_copy_95_t C0 _ _ (lv_sub hl [0] rfl)
            · refine sx_iload C0 dX7_copy_55 (lv_at hl 4 rfl) ?_
              refine sx_if_lt (tgt := 95) C0 dX7_copy_57 (by decide) (fun _ => ?_) (fun _ => ?_)
              · exact bX7_copy_95_t C0 _ _ (lv_sub hl [0] rfl)
              · refine sx_iload_n C0 dX7_copy_60 rfl (lv_at hl 2 rfl) ?_
                refine sx_i2l C0 dX7_copy_61 ?_
                refine sx_iload C0 dX7_copy_62 (lv_at hl 5 rfl) ?_
                refine sx_i2l C0 dX7_copy_64 ?_
                refine sx_ladd C0 dX7_copy_65 ?_
                refine sx_aload_n C0 dX7_copy_66 rfl (lv_at hl 0 rfl) ?_
                refine gf_X7_13 C0 is7 dX7_copy_67 ?_
                refine sx_iload_n C0 dX7_copy_70 rfl (lv_at hl 1 rfl) ?_
                refine sx_iald C0 is7_sizes rfl dX7_copy_71 (fun a71 => ?_)
                refine sx_i2l C0 dX7_copy_72 ?_
                refine sx_lcmp C0 dX7_copy_73 ?_
                refine sx_if_gt (tgt := 95) C0 dX7_copy_74 (by decide) (fun _ => ?_) (fun _ => ?_)
                · exact bX7_copy_95_t C0 _ _ (lv_sub hl [0] rfl)
                · refine sx_iload C0 dX7_copy_77 (lv_at hl 4 rfl) ?_
                  refine sx_i2l C0 dX7_copy_79 ?_
                  refine sx_iload C0 dX7_copy_80 (lv_at hl 5 rfl) ?_
                  refine sx_i2l C0 dX7_copy_82 ?_
                  refine sx_ladd C0 dX7_copy_83 ?_
                  refine sx_aload_n C0 dX7_copy_84 rfl (lv_at hl 0 rfl) ?_
                  refine gf_X7_13 C0 is7 dX7_copy_85 ?_
                  refine sx_iload_n C0 dX7_copy_88 rfl (lv_at hl 3 rfl) ?_
                  refine sx_iald C0 is7_sizes rfl dX7_copy_89 (fun a89 => ?_)
                  refine sx_i2l C0 dX7_copy_90 ?_
                  refine sx_lcmp C0 dX7_copy_91 ?_
                  refine sx_if_le (tgt := 101) C0 dX7_copy_92 (by decide) (fun _ => ?_) (fun _ => ?_)
                  · refine sx_iconst (v := 0) C0 dX7_copy_101 (by decide) ?_
                    refine sx_istore (lv' := [(6, .int (0 : Int32)), (0, .ref (ad 0)), (1, .int v1), (2, .int v2), (3, .int v3), (4, .int v4), (5, .int v5)]) C0 dX7_copy_102 hl (by decide) rfl (fun ls hl => ?_)
                    exact lX7_copy_104_t C0 _ _ _ _ _ _ _ _ _ (lv_sub hl [1, 2, 3, 4, 5, 6, 0] rfl)
                  · exact bX7_copy_95_t C0 _ _ (lv_sub hl [0] rfl)
          · exact bX7_copy_45_t C0 _ _ (lv_sub hl [0] rfl)
      · refine sx_aload_n C0 dX7_copy_21 rfl (lv_at hl 0 rfl) ?_
        refine sx_iconst (v := 5) C0 dX7_copy_22 (by decide) ?_
        refine sw_bind (fun q23 e23 => ?_)
        refine cv_X7_94 (As := [.int (5 : Int32)]) C0 (c_X7_meets C0.2.2.2.2.2.2.2.1 (5 : Int32) S _ e23) is7 ⟨rfl, rfl⟩ ⟨Nat.le_of_ble_eq_true rfl, Nat.le_of_ble_eq_true rfl⟩ rfl hl.1 (Nat.le_of_ble_eq_true rfl) rfl dX7_copy_23 (fun _ => ?_)
        exact sx_iret C0 rfl rfl trivial dX7_copy_26
abbrev rm_X7_mean : Room := { frames := 2, cells := 0, slots := 0, locals := 42 }
def bX7_mean_72    (S : vS) (v1 : Int32) (v2 : Int64)  : Option (Int32 × vS) := ((gI (S.1 2) 6 v1).bind fun a79 => ((dL v2 (Int32.toInt64 a79)).bind fun a81 => (lt (mX7_tells S (Int64.toInt32 a81) (1 : Int32)) fun q84 => (some (q84.1, q84.2)))))
set_option maxHeartbeats 4000000 in
set_option maxRecDepth 100000 in
theorem bX7_mean_72_t {p : Program} {l : Launch} {e : Env} {s : State} {m : MethodId} {args : Array Value} {below : List Frame} {meth : Method} {c : Code} {D : va_G} {cA : Nat → ClassId} {ad : Nat → Nat}   (C0 : Cx D vwCl tlM shM cA ad ExM RX7 cX7_mean 5 (some .int) p s m args meth c)  (S : vS) (v1 : Int32) (v2 : Int64) (ls : Array Slot) (hl : lv_has ls 5 [(0, .ref (ad 0)), (1, .int v1), (2, .long v2)]) : SW p l e rm_X7_mean s m args below meth c D vwCl shM cA ad (Fq D vwCl shM cA ad below args s (fun q => some (.int q.1) : (Int32 × vS) → Option Value) (fun q => q.2) (fun _ => True)) (bX7_mean_72 S v1 v2) S 72 ls [] := by
  rw [bX7_mean_72]
  refine sx_aload_n C0 dX7_mean_72 rfl (lv_at hl 0 rfl) ?_
  refine sx_lload_n C0 dX7_mean_73 rfl (lv_at hl 2 rfl) ?_
  refine sx_aload_n C0 dX7_mean_74 rfl (lv_at hl 0 rfl) ?_
  refine gf_X7_13 C0 is7 dX7_mean_75 ?_
  refine sx_iload_n C0 dX7_mean_78 rfl (lv_at hl 1 rfl) ?_
  refine sx_iald C0 is7_sizes rfl dX7_mean_79 (fun a79 => ?_)
  refine sx_i2l C0 dX7_mean_80 ?_
  refine sx_ldivO C0 dX7_mean_81 (fun a81 => ?_)
  refine sx_l2i C0 dX7_mean_82 ?_
  refine sx_iconst (v := 1) C0 dX7_mean_83 (by decide) ?_
  refine cv_X7_102 (As := [.int (Int64.toInt32 a81), .int (1 : Int32)]) C0 (c_X7_tells C0.2.2.2.2.2.2.2.1 (Int64.toInt32 a81) (1 : Int32) S) is7 ⟨rfl, rfl⟩ ⟨Nat.le_of_ble_eq_true rfl, Nat.le_of_ble_eq_true rfl⟩ rfl hl.1 (Nat.le_of_ble_eq_true rfl) rfl dX7_mean_84 (fun _ => ?_)
  refine sw_ltQ (val := .int) (fun q84 => ?_)
  exact sx_iret C0 rfl rfl trivial dX7_mean_87
def lX7_mean_44  (S : vS)  (v1 : Int32) : Nat → Int64 → Int32 → Option (Int32 × vS)
  | 0, _, _ => none
  | n + 1, v2, v4 => ((gI (S.1 2) 6 v1).bind fun a51 => (if a51 ≤ v4 then (bX7_mean_72 S v1 v2) else ((mX7_rowAt S v1 v4).bind fun a60 => (lt (v2 + (Int32.toInt64 a60)) fun v2_65 => ((lX7_mean_44 S v1 n) v2_65 (v4 + (1 : Int32)))))))
set_option maxHeartbeats 4000000 in
set_option maxRecDepth 100000 in
theorem lX7_mean_44_t {p : Program} {l : Launch} {e : Env} {s : State} {m : MethodId} {args : Array Value} {below : List Frame} {meth : Method} {c : Code} {D : va_G} {cA : Nat → ClassId} {ad : Nat → Nat}   (C0 : Cx D vwCl tlM shM cA ad ExM RX7 cX7_mean 5 (some .int) p s m args meth c)  (S : vS) (v1 : Int32)  : ∀ (n : Nat) (v2 : Int64) (v4 : Int32) (ls : Array Slot), lv_has ls 5 [(0, .ref (ad 0)), (1, .int v1), (2, .long v2), (4, .int v4)] → SW p l e rm_X7_mean s m args below meth c D vwCl shM cA ad (Fq D vwCl shM cA ad below args s (fun q => some (.int q.1) : (Int32 × vS) → Option Value) (fun q => q.2) (fun _ => True)) (lX7_mean_44 S v1 n v2 v4) S 44 ls [] := by
  intro n
  induction n with
  | zero =>
    intro v2 v4 ls hl
    rw [lX7_mean_44]
    exact sw_none
  | succ n ih =>
    intro v2 v4 ls hl
    rw [lX7_mean_44]
    refine sx_iload C0 dX7_mean_44 (lv_at hl 3 rfl) ?_
    refine sx_aload_n C0 dX7_mean_46 rfl (lv_at hl 0 rfl) ?_
    refine gf_X7_13 C0 is7 dX7_mean_47 ?_
    refine sx_iload_n C0 dX7_mean_50 rfl (lv_at hl 1 rfl) ?_
    refine sx_iald C0 is7_sizes rfl dX7_mean_51 (fun a51 => ?_)
    refine sx_icmp_ge (tgt := 72) C0 dX7_mean_52 (by decide) (fun _ => ?_) (fun _ => ?_)
    · exact bX7_mean_72_t C0 _ _ _ _ (lv_sub hl [0, 1, 2] rfl)
    · refine sx_lload_n C0 dX7_mean_55 rfl (lv_at hl 2 rfl) ?_
      refine sx_aload_n C0 dX7_mean_56 rfl (lv_at hl 0 rfl) ?_
      refine sx_iload_n C0 dX7_mean_57 rfl (lv_at hl 1 rfl) ?_
      refine sx_iload C0 dX7_mean_58 (lv_at hl 3 rfl) ?_
      refine sw_bind (fun a60 e60 => ?_)
      refine cv_X7_98 (As := [.int v1, .int v4]) C0 (c_X7_rowAt C0.2.2.2.2.2.2.2.1 v1 v4 S _ e60) is7 ⟨rfl, rfl⟩ ⟨Nat.le_of_ble_eq_true rfl, Nat.le_of_ble_eq_true rfl⟩ rfl hl.1 (Nat.le_of_ble_eq_true rfl) rfl dX7_mean_60 (fun _ => ?_)
      refine sx_i2l C0 dX7_mean_63 ?_
      refine sx_ladd C0 dX7_mean_64 ?_
      refine sw_lt (val := .long) (fun v2_65 => ?_)
      refine sx_lstore_n (lv' := [(2, .long v2_65), (0, .ref (ad 0)), (1, .int v1), (4, .int v4)]) C0 dX7_mean_65 rfl hl (by decide) rfl (fun ls hl => ?_)
      refine sx_iinc (v := (v4 + (1 : Int32))) (lv' := [(4, .int (v4 + (1 : Int32))), (2, .long v2_65), (0, .ref (ad 0)), (1, .int v1)]) C0 dX7_mean_66 hl (k := 3) rfl rfl (by decide) rfl (fun ls hl => ?_)
      refine sx_goto (tgt := 44) C0 dX7_mean_69 (by decide) ?_
      exact ih _ _ _ (lv_sub hl [2, 3, 1, 0] rfl)
def mX7_mean (S : vS) (v1 : Int32) : Option (Int32 × vS) := (if (mX7_isRow v1) = 0 then (some ((-1 : Int32), S)) else ((gI (S.1 2) 6 v1).bind fun a14 => (if 0 ≤ a14 then ((gI (S.1 2) 6 v1).bind fun a29 => (if a29 = 0 then ((mX7_meets S (4 : Int32)).bind fun q35 => (some (q35.1, q35.2))) else (lX7_mean_44 S v1 FU (0 : Int64) (0 : Int32)))) else ((mX7_meets S (1 : Int32)).bind fun q20 => (some (q20.1, q20.2))))))
set_option maxHeartbeats 4000000 in
set_option maxRecDepth 100000 in
theorem c_X7_mean {l : Launch} {D : va_G} {cA : Nat → ClassId} {ad : Nat → Nat} (G : Gx shM ad ExM) (v1 : Int32) (S : vS) (r : (Int32 × vS)) (hr : (mX7_mean S v1) = some r) : Met l yX7_mean (Cond.code yX7_mean cX7_mean 5 (some .int) :: ALL) rm_X7_mean (Po D vwCl tlM shM cA ad ExM [.ref (ad 0), .int v1] S) (Qo D vwCl shM cA ad (some (.int r.1)) r.2 True) 0 0 (aw shM ad) := by
  refine Met.sx (M := (mX7_mean S v1)) (rv := (fun q => some (.int q.1) : (Int32 × vS) → Option Value)) (rs := fun q => q.2) (B := fun _ => True) (by decide) ⟨rfl, rfl⟩ (Nat.le_of_ble_eq_true rfl) G (fun p e s m args below meth c C0 ls hl => ?_) hr
  have hl : lv_has ls 5 [(0, .ref (ad 0)), (1, .int v1)] := hl
  rw [mX7_mean]
  refine sx_iload_n C0 dX7_mean_0 rfl (lv_at hl 1 rfl) ?_
  refine cv_X7_90 (As := [.int v1]) C0 (c_X7_isRow C0.2.2.2.2.2.2.2.1 v1 S) ⟨rfl, rfl⟩ ⟨Nat.le_of_ble_eq_true rfl, Nat.le_of_ble_eq_true rfl⟩ rfl hl.1 (Nat.le_of_ble_eq_true rfl) rfl dX7_mean_1 (fun hb1 => ?_)
  refine sx_if_ne (tgt := 9) C0 dX7_mean_4 (by decide) (fun _ => ?_) (fun _ => ?_)
  · refine sx_iconst (v := (-1)) C0 dX7_mean_7 (by decide) ?_
    exact sx_iret C0 rfl rfl trivial dX7_mean_8
  · refine sx_aload_n C0 dX7_mean_9 rfl (lv_at hl 0 rfl) ?_
    refine gf_X7_13 C0 is7 dX7_mean_10 ?_
    refine sx_iload_n C0 dX7_mean_13 rfl (lv_at hl 1 rfl) ?_
    refine sx_iald C0 is7_sizes rfl dX7_mean_14 (fun a14 => ?_)
    refine sx_if_ge (tgt := 24) C0 dX7_mean_15 (by decide) (fun _ => ?_) (fun _ => ?_)
    · refine sx_aload_n C0 dX7_mean_24 rfl (lv_at hl 0 rfl) ?_
      refine gf_X7_13 C0 is7 dX7_mean_25 ?_
      refine sx_iload_n C0 dX7_mean_28 rfl (lv_at hl 1 rfl) ?_
      refine sx_iald C0 is7_sizes rfl dX7_mean_29 (fun a29 => ?_)
      refine sx_if_ne (tgt := 39) C0 dX7_mean_30 (by decide) (fun _ => ?_) (fun _ => ?_)
      · refine sx_aload_n C0 dX7_mean_33 rfl (lv_at hl 0 rfl) ?_
        refine sx_iconst (v := 4) C0 dX7_mean_34 (by decide) ?_
        refine sw_bind (fun q35 e35 => ?_)
        refine cv_X7_94 (As := [.int (4 : Int32)]) C0 (c_X7_meets C0.2.2.2.2.2.2.2.1 (4 : Int32) S _ e35) is7 ⟨rfl, rfl⟩ ⟨Nat.le_of_ble_eq_true rfl, Nat.le_of_ble_eq_true rfl⟩ rfl hl.1 (Nat.le_of_ble_eq_true rfl) rfl dX7_mean_35 (fun _ => ?_)
        exact sx_iret C0 rfl rfl trivial dX7_mean_38
      · refine sx_lconst (v := 0) C0 dX7_mean_39 (by decide) ?_
        refine sx_lstore_n (lv' := [(2, .long (0 : Int64)), (0, .ref (ad 0)), (1, .int v1)]) C0 dX7_mean_40 rfl hl (by decide) rfl (fun ls hl => ?_)
        refine sx_iconst (v := 0) C0 dX7_mean_41 (by decide) ?_
        refine sx_istore (lv' := [(4, .int (0 : Int32)), (2, .long (0 : Int64)), (0, .ref (ad 0)), (1, .int v1)]) C0 dX7_mean_42 hl (by decide) rfl (fun ls hl => ?_)
        exact lX7_mean_44_t C0 _ _ _ _ _ _ (lv_sub hl [2, 3, 1, 0] rfl)
    · refine sx_aload_n C0 dX7_mean_18 rfl (lv_at hl 0 rfl) ?_
      refine sx_iconst (v := 1) C0 dX7_mean_19 (by decide) ?_
      refine sw_bind (fun q20 e20 => ?_)
      refine cv_X7_94 (As := [.int (1 : Int32)]) C0 (c_X7_meets C0.2.2.2.2.2.2.2.1 (1 : Int32) S _ e20) is7 ⟨rfl, rfl⟩ ⟨Nat.le_of_ble_eq_true rfl, Nat.le_of_ble_eq_true rfl⟩ rfl hl.1 (Nat.le_of_ble_eq_true rfl) rfl dX7_mean_20 (fun _ => ?_)
      exact sx_iret C0 rfl rfl trivial dX7_mean_23
abbrev rm_X7_isText : Room := { frames := 1, cells := 0, slots := 0, locals := 22 }
def mX7_isText (v0 : Int32) : Int32 := (mX7_in v0 (0 : Int32) (3 : Int32))
set_option maxHeartbeats 4000000 in
set_option maxRecDepth 100000 in
theorem c_X7_isText {l : Launch} {D : va_G} {cA : Nat → ClassId} {ad : Nat → Nat} (G : Gx shM ad ExM) (v0 : Int32) (S : vS) : Met l yX7_isText (Cond.code yX7_isText cX7_isText 1 (some .boolean) :: ALL) rm_X7_isText (Po D vwCl tlM shM cA ad ExM [.int v0] S) (Qo D vwCl shM cA ad (some (.int (mX7_isText v0))) S (isB (mX7_isText v0))) 0 0 (aw shM ad) := by
  refine Met.sx (M := some (mX7_isText v0)) (rv := (fun r => some (.int r) : Int32 → Option Value)) (rs := fun _ => S) (B := fun r => isB r) (by decide) ⟨rfl, rfl⟩ (Nat.le_of_ble_eq_true rfl) G (fun p e s m args below meth c C0 ls hl => ?_) rfl
  have hl : lv_has ls 1 [(0, .int v0)] := hl
  rw [mX7_isText]
  refine sx_iload_n C0 dX7_isText_0 rfl (lv_at hl 0 rfl) ?_
  refine sx_iconst (v := 0) C0 dX7_isText_1 (by decide) ?_
  refine sx_iconst (v := 3) C0 dX7_isText_2 (by decide) ?_
  refine cv_X7_80 (As := [.int v0, .int (0 : Int32), .int (3 : Int32)]) C0 (c_X7_in C0.2.2.2.2.2.2.2.1 v0 (0 : Int32) (3 : Int32) S) ⟨rfl, rfl⟩ ⟨Nat.le_of_ble_eq_true rfl, Nat.le_of_ble_eq_true rfl⟩ rfl hl.1 (Nat.le_of_ble_eq_true rfl) rfl dX7_isText_3 (fun hb3 => ?_)
  exact sx_zret C0 rfl rfl hb3 hb3 dX7_isText_6
abbrev rm_X7_text : Room := { frames := 2, cells := 0, slots := 0, locals := 42 }
def lX7_text_34    (v1 : Int32) (v2 : Int32) : Nat → vS → Int32 → Option (Int32 × vS)
  | 0, _, _ => none
  | n + 1, S, v3 => (if (60 : Int32) ≤ v3 then (some (v2, S)) else ((pI S 6 240 (((60 : Int32) * v1) + v3) (vp_nar .byte (32 : Int32))).bind fun S52 => ((lX7_text_34 v1 v2 n) S52 (v3 + (1 : Int32)))))
set_option maxHeartbeats 4000000 in
set_option maxRecDepth 100000 in
theorem lX7_text_34_t {p : Program} {l : Launch} {e : Env} {s : State} {m : MethodId} {args : Array Value} {below : List Frame} {meth : Method} {c : Code} {D : va_G} {cA : Nat → ClassId} {ad : Nat → Nat}   (C0 : Cx D vwCl tlM shM cA ad ExM RX7 cX7_text 4 (some .int) p s m args meth c)   (v1 : Int32) (v2 : Int32)  : ∀ (n : Nat) (S : vS) (v3 : Int32) (ls : Array Slot), lv_has ls 4 [(0, .ref (ad 0)), (1, .int v1), (2, .int v2), (3, .int v3)] → SW p l e rm_X7_text s m args below meth c D vwCl shM cA ad (Fq D vwCl shM cA ad below args s (fun q => some (.int q.1) : (Int32 × vS) → Option Value) (fun q => q.2) (fun _ => True)) (lX7_text_34 v1 v2 n S v3) S 34 ls [] := by
  intro n
  induction n with
  | zero =>
    intro S v3 ls hl
    rw [lX7_text_34]
    exact sw_none
  | succ n ih =>
    intro S v3 ls hl
    rw [lX7_text_34]
    refine sx_iload_n C0 dX7_text_34 rfl (lv_at hl 3 rfl) ?_
    refine sx_bipush (v := 60) C0 dX7_text_35 (by decide) ?_
    refine sx_icmp_ge (tgt := 59) C0 dX7_text_37 (by decide) (fun _ => ?_) (fun _ => ?_)
    · refine sx_iload_n C0 dX7_text_59 rfl (lv_at hl 2 rfl) ?_
      exact sx_iret C0 rfl rfl trivial dX7_text_60
    · refine sx_aload_n C0 dX7_text_40 rfl (lv_at hl 0 rfl) ?_
      refine gf_X7_25 C0 is7 dX7_text_41 ?_
      refine sx_bipush (v := 60) C0 dX7_text_44 (by decide) ?_
      refine sx_iload_n C0 dX7_text_46 rfl (lv_at hl 1 rfl) ?_
      refine sx_imul C0 dX7_text_47 ?_
      refine sx_iload_n C0 dX7_text_48 rfl (lv_at hl 3 rfl) ?_
      refine sx_iadd C0 dX7_text_49 ?_
      refine sx_bipush (v := 32) C0 dX7_text_50 (by decide) ?_
      refine sx_bast C0 is7_bytes rfl dX7_text_52 (fun S52 => ?_)
      refine sx_iinc (v := (v3 + (1 : Int32))) (lv' := [(3, .int (v3 + (1 : Int32))), (0, .ref (ad 0)), (1, .int v1), (2, .int v2)]) C0 dX7_text_53 hl (k := 3) rfl rfl (by decide) rfl (fun ls hl => ?_)
      refine sx_goto (tgt := 34) C0 dX7_text_56 (by decide) ?_
      exact ih _ _ _ (lv_sub hl [1, 2, 3, 0] rfl)
def mX7_text (S : vS) (v1 : Int32) (v2 : Int32) : Option (Int32 × vS) := (if (mX7_isText v1) = 0 then (some ((-1 : Int32), S)) else (if v2 ≤ (60 : Int32) then (if 0 ≤ v2 then ((pI S 5 4 v1 v2).bind fun S31 => (lX7_text_34 v1 v2 FU S31 (0 : Int32))) else ((mX7_meets S (5 : Int32)).bind fun q21 => (some (q21.1, q21.2)))) else (some ((-1 : Int32), S))))
set_option maxHeartbeats 4000000 in
set_option maxRecDepth 100000 in
theorem c_X7_text {l : Launch} {D : va_G} {cA : Nat → ClassId} {ad : Nat → Nat} (G : Gx shM ad ExM) (v1 : Int32) (v2 : Int32) (S : vS) (r : (Int32 × vS)) (hr : (mX7_text S v1 v2) = some r) : Met l yX7_text (Cond.code yX7_text cX7_text 4 (some .int) :: ALL) rm_X7_text (Po D vwCl tlM shM cA ad ExM [.ref (ad 0), .int v1, .int v2] S) (Qo D vwCl shM cA ad (some (.int r.1)) r.2 True) 0 0 (aw shM ad) := by
  refine Met.sx (M := (mX7_text S v1 v2)) (rv := (fun q => some (.int q.1) : (Int32 × vS) → Option Value)) (rs := fun q => q.2) (B := fun _ => True) (by decide) ⟨rfl, rfl⟩ (Nat.le_of_ble_eq_true rfl) G (fun p e s m args below meth c C0 ls hl => ?_) hr
  have hl : lv_has ls 4 [(0, .ref (ad 0)), (1, .int v1), (2, .int v2)] := hl
  rw [mX7_text]
  refine sx_iload_n C0 dX7_text_0 rfl (lv_at hl 1 rfl) ?_
  refine cv_X7_105 (As := [.int v1]) C0 (c_X7_isText C0.2.2.2.2.2.2.2.1 v1 S) ⟨rfl, rfl⟩ ⟨Nat.le_of_ble_eq_true rfl, Nat.le_of_ble_eq_true rfl⟩ rfl hl.1 (Nat.le_of_ble_eq_true rfl) rfl dX7_text_1 (fun hb1 => ?_)
  refine sx_if_eq (tgt := 13) C0 dX7_text_4 (by decide) (fun _ => ?_) (fun _ => ?_)
  · refine sx_iconst (v := (-1)) C0 dX7_text_13 (by decide) ?_
    exact sx_iret C0 rfl rfl trivial dX7_text_14
  · refine sx_iload_n C0 dX7_text_7 rfl (lv_at hl 2 rfl) ?_
    refine sx_bipush (v := 60) C0 dX7_text_8 (by decide) ?_
    refine sx_icmp_le (tgt := 15) C0 dX7_text_10 (by decide) (fun _ => ?_) (fun _ => ?_)
    · refine sx_iload_n C0 dX7_text_15 rfl (lv_at hl 2 rfl) ?_
      refine sx_if_ge (tgt := 25) C0 dX7_text_16 (by decide) (fun _ => ?_) (fun _ => ?_)
      · refine sx_aload_n C0 dX7_text_25 rfl (lv_at hl 0 rfl) ?_
        refine gf_X7_22 C0 is7 dX7_text_26 ?_
        refine sx_iload_n C0 dX7_text_29 rfl (lv_at hl 1 rfl) ?_
        refine sx_iload_n C0 dX7_text_30 rfl (lv_at hl 2 rfl) ?_
        refine sx_iast C0 is7_textSizes rfl dX7_text_31 (fun S31 => ?_)
        refine sx_iconst (v := 0) C0 dX7_text_32 (by decide) ?_
        refine sx_istore_n (lv' := [(3, .int (0 : Int32)), (0, .ref (ad 0)), (1, .int v1), (2, .int v2)]) C0 dX7_text_33 rfl hl (by decide) rfl (fun ls hl => ?_)
        exact lX7_text_34_t C0 _ _ _ _ _ _ (lv_sub hl [1, 2, 3, 0] rfl)
      · refine sx_aload_n C0 dX7_text_19 rfl (lv_at hl 0 rfl) ?_
        refine sx_iconst (v := 5) C0 dX7_text_20 (by decide) ?_
        refine sw_bind (fun q21 e21 => ?_)
        refine cv_X7_94 (As := [.int (5 : Int32)]) C0 (c_X7_meets C0.2.2.2.2.2.2.2.1 (5 : Int32) S _ e21) is7 ⟨rfl, rfl⟩ ⟨Nat.le_of_ble_eq_true rfl, Nat.le_of_ble_eq_true rfl⟩ rfl hl.1 (Nat.le_of_ble_eq_true rfl) rfl dX7_text_21 (fun _ => ?_)
        exact sx_iret C0 rfl rfl trivial dX7_text_24
    · refine sx_iconst (v := (-1)) C0 dX7_text_13 (by decide) ?_
      exact sx_iret C0 rfl rfl trivial dX7_text_14
abbrev rm_X7_put : Room := { frames := 2, cells := 0, slots := 0, locals := 42 }
def mX7_put (S : vS) (v1 : Int32) (v2 : Int32) (v3 : Int32) : Option (Int32 × vS) := (if (mX7_isText v1) = 0 then (some ((-1 : Int32), S)) else ((gI (S.1 5) 4 v1).bind fun a14 => (if 0 ≤ a14 then ((gI (S.1 5) 4 v1).bind fun a31 => (if (mX7_in v2 (0 : Int32) (a31 - (1 : Int32))) = 0 then ((mX7_meets S (2 : Int32)).bind fun q42 => (some (q42.1, q42.2))) else ((gI (S.1 6) 240 (((60 : Int32) * v1) + v2)).bind fun a56 => ((pI S 6 240 (((60 : Int32) * v1) + v2) (vp_nar .byte (Int8.toInt32 (Int32.toInt8 v3)))).bind fun S71 => (some (((1000 : Int32) + a56), S71)))))) else ((mX7_meets S (1 : Int32)).bind fun q20 => (some (q20.1, q20.2))))))
set_option maxHeartbeats 4000000 in
set_option maxRecDepth 100000 in
theorem c_X7_put {l : Launch} {D : va_G} {cA : Nat → ClassId} {ad : Nat → Nat} (G : Gx shM ad ExM) (v1 : Int32) (v2 : Int32) (v3 : Int32) (S : vS) (r : (Int32 × vS)) (hr : (mX7_put S v1 v2 v3) = some r) : Met l yX7_put (Cond.code yX7_put cX7_put 5 (some .int) :: ALL) rm_X7_put (Po D vwCl tlM shM cA ad ExM [.ref (ad 0), .int v1, .int v2, .int v3] S) (Qo D vwCl shM cA ad (some (.int r.1)) r.2 True) 0 0 (aw shM ad) := by
  refine Met.sx (M := (mX7_put S v1 v2 v3)) (rv := (fun q => some (.int q.1) : (Int32 × vS) → Option Value)) (rs := fun q => q.2) (B := fun _ => True) (by decide) ⟨rfl, rfl⟩ (Nat.le_of_ble_eq_true rfl) G (fun p e s m args below meth c C0 ls hl => ?_) hr
  have hl : lv_has ls 5 [(0, .ref (ad 0)), (1, .int v1), (2, .int v2), (3, .int v3)] := hl
  rw [mX7_put]
  refine sx_iload_n C0 dX7_put_0 rfl (lv_at hl 1 rfl) ?_
  refine cv_X7_105 (As := [.int v1]) C0 (c_X7_isText C0.2.2.2.2.2.2.2.1 v1 S) ⟨rfl, rfl⟩ ⟨Nat.le_of_ble_eq_true rfl, Nat.le_of_ble_eq_true rfl⟩ rfl hl.1 (Nat.le_of_ble_eq_true rfl) rfl dX7_put_1 (fun hb1 => ?_)
  refine sx_if_ne (tgt := 9) C0 dX7_put_4 (by decide) (fun _ => ?_) (fun _ => ?_)
  · refine sx_iconst (v := (-1)) C0 dX7_put_7 (by decide) ?_
    exact sx_iret C0 rfl rfl trivial dX7_put_8
  · refine sx_aload_n C0 dX7_put_9 rfl (lv_at hl 0 rfl) ?_
    refine gf_X7_22 C0 is7 dX7_put_10 ?_
    refine sx_iload_n C0 dX7_put_13 rfl (lv_at hl 1 rfl) ?_
    refine sx_iald C0 is7_textSizes rfl dX7_put_14 (fun a14 => ?_)
    refine sx_if_ge (tgt := 24) C0 dX7_put_15 (by decide) (fun _ => ?_) (fun _ => ?_)
    · refine sx_iload_n C0 dX7_put_24 rfl (lv_at hl 2 rfl) ?_
      refine sx_iconst (v := 0) C0 dX7_put_25 (by decide) ?_
      refine sx_aload_n C0 dX7_put_26 rfl (lv_at hl 0 rfl) ?_
      refine gf_X7_22 C0 is7 dX7_put_27 ?_
      refine sx_iload_n C0 dX7_put_30 rfl (lv_at hl 1 rfl) ?_
      refine sx_iald C0 is7_textSizes rfl dX7_put_31 (fun a31 => ?_)
      refine sx_iconst (v := 1) C0 dX7_put_32 (by decide) ?_
      refine sx_isub C0 dX7_put_33 ?_
      refine cv_X7_80 (As := [.int v2, .int (0 : Int32), .int (a31 - (1 : Int32))]) C0 (c_X7_in C0.2.2.2.2.2.2.2.1 v2 (0 : Int32) (a31 - (1 : Int32)) S) ⟨rfl, rfl⟩ ⟨Nat.le_of_ble_eq_true rfl, Nat.le_of_ble_eq_true rfl⟩ rfl hl.1 (Nat.le_of_ble_eq_true rfl) rfl dX7_put_34 (fun hb34 => ?_)
      refine sx_if_ne (tgt := 46) C0 dX7_put_37 (by decide) (fun _ => ?_) (fun _ => ?_)
      · refine sx_aload_n C0 dX7_put_40 rfl (lv_at hl 0 rfl) ?_
        refine sx_iconst (v := 2) C0 dX7_put_41 (by decide) ?_
        refine sw_bind (fun q42 e42 => ?_)
        refine cv_X7_94 (As := [.int (2 : Int32)]) C0 (c_X7_meets C0.2.2.2.2.2.2.2.1 (2 : Int32) S _ e42) is7 ⟨rfl, rfl⟩ ⟨Nat.le_of_ble_eq_true rfl, Nat.le_of_ble_eq_true rfl⟩ rfl hl.1 (Nat.le_of_ble_eq_true rfl) rfl dX7_put_42 (fun _ => ?_)
        exact sx_iret C0 rfl rfl trivial dX7_put_45
      · refine sx_aload_n C0 dX7_put_46 rfl (lv_at hl 0 rfl) ?_
        refine gf_X7_25 C0 is7 dX7_put_47 ?_
        refine sx_bipush (v := 60) C0 dX7_put_50 (by decide) ?_
        refine sx_iload_n C0 dX7_put_52 rfl (lv_at hl 1 rfl) ?_
        refine sx_imul C0 dX7_put_53 ?_
        refine sx_iload_n C0 dX7_put_54 rfl (lv_at hl 2 rfl) ?_
        refine sx_iadd C0 dX7_put_55 ?_
        refine sx_bald C0 is7_bytes rfl dX7_put_56 (fun a56 => ?_)
        refine sx_istore (lv' := [(4, .int a56), (0, .ref (ad 0)), (1, .int v1), (2, .int v2), (3, .int v3)]) C0 dX7_put_57 hl (by decide) rfl (fun ls hl => ?_)
        refine sx_aload_n C0 dX7_put_59 rfl (lv_at hl 1 rfl) ?_
        refine gf_X7_25 C0 is7 dX7_put_60 ?_
        refine sx_bipush (v := 60) C0 dX7_put_63 (by decide) ?_
        refine sx_iload_n C0 dX7_put_65 rfl (lv_at hl 2 rfl) ?_
        refine sx_imul C0 dX7_put_66 ?_
        refine sx_iload_n C0 dX7_put_67 rfl (lv_at hl 3 rfl) ?_
        refine sx_iadd C0 dX7_put_68 ?_
        refine sx_iload_n C0 dX7_put_69 rfl (lv_at hl 4 rfl) ?_
        refine sx_i2b C0 dX7_put_70 ?_
        refine sx_bast C0 is7_bytes rfl dX7_put_71 (fun S71 => ?_)
        refine sx_sipush (v := 1000) C0 dX7_put_72 (by decide) ?_
        refine sx_iload C0 dX7_put_75 (lv_at hl 0 rfl) ?_
        refine sx_iadd C0 dX7_put_77 ?_
        exact sx_iret C0 rfl rfl trivial dX7_put_78
    · refine sx_aload_n C0 dX7_put_18 rfl (lv_at hl 0 rfl) ?_
      refine sx_iconst (v := 1) C0 dX7_put_19 (by decide) ?_
      refine sw_bind (fun q20 e20 => ?_)
      refine cv_X7_94 (As := [.int (1 : Int32)]) C0 (c_X7_meets C0.2.2.2.2.2.2.2.1 (1 : Int32) S _ e20) is7 ⟨rfl, rfl⟩ ⟨Nat.le_of_ble_eq_true rfl, Nat.le_of_ble_eq_true rfl⟩ rfl hl.1 (Nat.le_of_ble_eq_true rfl) rfl dX7_put_20 (fun _ => ?_)
      exact sx_iret C0 rfl rfl trivial dX7_put_23
abbrev rm_X7_byteAt : Room := { frames := 0, cells := 0, slots := 0, locals := 0 }
def mX7_byteAt (S : vS) (v1 : Int32) (v2 : Int32) : Option Int32 := ((gI (S.1 5) 4 v1).bind fun a6 => (if a6 ≤ v2 then (some (0 : Int32)) else ((gI (S.1 6) 240 (((60 : Int32) * v1) + v2)).bind fun a20 => (some a20))))
set_option maxHeartbeats 4000000 in
set_option maxRecDepth 100000 in
theorem c_X7_byteAt {l : Launch} {D : va_G} {cA : Nat → ClassId} {ad : Nat → Nat} (G : Gx shM ad ExM) (v1 : Int32) (v2 : Int32) (S : vS) (r : Int32) (hr : (mX7_byteAt S v1 v2) = some r) : Met l yX7_byteAt (Cond.code yX7_byteAt cX7_byteAt 3 (some .int) :: ALL) rm_X7_byteAt (Po D vwCl tlM shM cA ad ExM [.ref (ad 0), .int v1, .int v2] S) (Qo D vwCl shM cA ad (some (.int r)) S True) 0 0 (aw shM ad) := by
  refine Met.sx (M := (mX7_byteAt S v1 v2)) (rv := (fun r => some (.int r) : Int32 → Option Value)) (rs := fun _ => S) (B := fun _ => True) (by decide) ⟨rfl, rfl⟩ (Nat.le_of_ble_eq_true rfl) G (fun p e s m args below meth c C0 ls hl => ?_) hr
  have hl : lv_has ls 3 [(0, .ref (ad 0)), (1, .int v1), (2, .int v2)] := hl
  rw [mX7_byteAt]
  refine sx_iload_n C0 dX7_byteAt_0 rfl (lv_at hl 2 rfl) ?_
  refine sx_aload_n C0 dX7_byteAt_1 rfl (lv_at hl 0 rfl) ?_
  refine gf_X7_22 C0 is7 dX7_byteAt_2 ?_
  refine sx_iload_n C0 dX7_byteAt_5 rfl (lv_at hl 1 rfl) ?_
  refine sx_iald C0 is7_textSizes rfl dX7_byteAt_6 (fun a6 => ?_)
  refine sx_icmp_ge (tgt := 24) C0 dX7_byteAt_7 (by decide) (fun _ => ?_) (fun _ => ?_)
  · refine sx_iconst (v := 0) C0 dX7_byteAt_24 (by decide) ?_
    exact sx_iret C0 rfl rfl trivial dX7_byteAt_25
  · refine sx_aload_n C0 dX7_byteAt_10 rfl (lv_at hl 0 rfl) ?_
    refine gf_X7_25 C0 is7 dX7_byteAt_11 ?_
    refine sx_bipush (v := 60) C0 dX7_byteAt_14 (by decide) ?_
    refine sx_iload_n C0 dX7_byteAt_16 rfl (lv_at hl 1 rfl) ?_
    refine sx_imul C0 dX7_byteAt_17 ?_
    refine sx_iload_n C0 dX7_byteAt_18 rfl (lv_at hl 2 rfl) ?_
    refine sx_iadd C0 dX7_byteAt_19 ?_
    refine sx_bald C0 is7_bytes rfl dX7_byteAt_20 (fun a20 => ?_)
    refine sx_goto (tgt := 25) C0 dX7_byteAt_21 (by decide) ?_
    exact sx_iret C0 rfl rfl trivial dX7_byteAt_25
abbrev rm_X7_kindOf : Room := { frames := 0, cells := 0, slots := 0, locals := 0 }
def mX7_kindOf (v0 : Int32) : Int32 := (if v0 = (103 : Int32) then (0 : Int32) else (if v0 = (106 : Int32) then (2 : Int32) else (if v0 = (111 : Int32) then (4 : Int32) else (if v0 = (115 : Int32) then (3 : Int32) else (if v0 = (116 : Int32) then (1 : Int32) else (if v0 = (118 : Int32) then (5 : Int32) else (-9 : Int32)))))))
set_option maxHeartbeats 4000000 in
set_option maxRecDepth 100000 in
theorem c_X7_kindOf {l : Launch} {D : va_G} {cA : Nat → ClassId} {ad : Nat → Nat} (G : Gx shM ad ExM) (v0 : Int32) (S : vS) : Met l yX7_kindOf (Cond.code yX7_kindOf cX7_kindOf 1 (some .int) :: ALL) rm_X7_kindOf (Po D vwCl tlM shM cA ad ExM [.int v0] S) (Qo D vwCl shM cA ad (some (.int (mX7_kindOf v0))) S True) 0 0 (aw shM ad) := by
  refine Met.sx (M := some (mX7_kindOf v0)) (rv := (fun r => some (.int r) : Int32 → Option Value)) (rs := fun _ => S) (B := fun _ => True) (by decide) ⟨rfl, rfl⟩ (Nat.le_of_ble_eq_true rfl) G (fun p e s m args below meth c C0 ls hl => ?_) rfl
  have hl : lv_has ls 1 [(0, .int v0)] := hl
  rw [mX7_kindOf]
  refine sx_iload_n C0 dX7_kindOf_0 rfl (lv_at hl 0 rfl) ?_
  refine sx_cases (fun hc => ?_) (fun hn103 => ?_)
  · refine sx_tableIn (off := 79) (tgt := 80) C0 dX7_kindOf_1 (by rw [hc]; decide) (by rw [hc]; decide) (by rw [hc]; decide) (by decide) ?_
    refine sx_iconst (v := 0) C0 dX7_kindOf_80 (by decide) ?_
    exact sx_iret C0 rfl rfl trivial dX7_kindOf_81
  refine sx_cases (fun hc => ?_) (fun hn106 => ?_)
  · refine sx_tableIn (off := 83) (tgt := 84) C0 dX7_kindOf_1 (by rw [hc]; decide) (by rw [hc]; decide) (by rw [hc]; decide) (by decide) ?_
    refine sx_iconst (v := 2) C0 dX7_kindOf_84 (by decide) ?_
    exact sx_iret C0 rfl rfl trivial dX7_kindOf_85
  refine sx_cases (fun hc => ?_) (fun hn111 => ?_)
  · refine sx_tableIn (off := 87) (tgt := 88) C0 dX7_kindOf_1 (by rw [hc]; decide) (by rw [hc]; decide) (by rw [hc]; decide) (by decide) ?_
    refine sx_iconst (v := 4) C0 dX7_kindOf_88 (by decide) ?_
    exact sx_iret C0 rfl rfl trivial dX7_kindOf_89
  refine sx_cases (fun hc => ?_) (fun hn115 => ?_)
  · refine sx_tableIn (off := 85) (tgt := 86) C0 dX7_kindOf_1 (by rw [hc]; decide) (by rw [hc]; decide) (by rw [hc]; decide) (by decide) ?_
    refine sx_iconst (v := 3) C0 dX7_kindOf_86 (by decide) ?_
    exact sx_iret C0 rfl rfl trivial dX7_kindOf_87
  refine sx_cases (fun hc => ?_) (fun hn116 => ?_)
  · refine sx_tableIn (off := 81) (tgt := 82) C0 dX7_kindOf_1 (by rw [hc]; decide) (by rw [hc]; decide) (by rw [hc]; decide) (by decide) ?_
    refine sx_iconst (v := 1) C0 dX7_kindOf_82 (by decide) ?_
    exact sx_iret C0 rfl rfl trivial dX7_kindOf_83
  refine sx_cases (fun hc => ?_) (fun hn118 => ?_)
  · refine sx_tableIn (off := 89) (tgt := 90) C0 dX7_kindOf_1 (by rw [hc]; decide) (by rw [hc]; decide) (by rw [hc]; decide) (by decide) ?_
    refine sx_iconst (v := 5) C0 dX7_kindOf_90 (by decide) ?_
    exact sx_iret C0 rfl rfl trivial dX7_kindOf_91
  refine sw_have (pc2 := 92) (st2 := []) ?_ (fun hdf => ?_)
  · refine sx_bipush (v := (-9)) C0 dX7_kindOf_92 (by decide) ?_
    exact sx_iret C0 rfl rfl trivial dX7_kindOf_94
  by_cases hlo : (v0).toInt < 103
  · exact sx_tableOut (tgt := 92) C0 dX7_kindOf_1 (Or.inl hlo) (by decide) hdf
  by_cases hhi : 118 < (v0).toInt
  · exact sx_tableOut (tgt := 92) C0 dX7_kindOf_1 (Or.inr hhi) (by decide) hdf
  have ht103 : (v0).toInt ≠ 103 := fun h => hn103 (Int32.toInt_inj.mp (h.trans (by decide)))
  have ht106 : (v0).toInt ≠ 106 := fun h => hn106 (Int32.toInt_inj.mp (h.trans (by decide)))
  have ht111 : (v0).toInt ≠ 111 := fun h => hn111 (Int32.toInt_inj.mp (h.trans (by decide)))
  have ht115 : (v0).toInt ≠ 115 := fun h => hn115 (Int32.toInt_inj.mp (h.trans (by decide)))
  have ht116 : (v0).toInt ≠ 116 := fun h => hn116 (Int32.toInt_inj.mp (h.trans (by decide)))
  have ht118 : (v0).toInt ≠ 118 := fun h => hn118 (Int32.toInt_inj.mp (h.trans (by decide)))
  by_cases hh104 : (v0).toInt = 104
  · exact sx_tableIn (off := 91) (tgt := 92) C0 dX7_kindOf_1 (by rw [hh104]; decide) (by rw [hh104]; decide) (by rw [hh104]; decide) (by decide) hdf
  by_cases hh105 : (v0).toInt = 105
  · exact sx_tableIn (off := 91) (tgt := 92) C0 dX7_kindOf_1 (by rw [hh105]; decide) (by rw [hh105]; decide) (by rw [hh105]; decide) (by decide) hdf
  by_cases hh107 : (v0).toInt = 107
  · exact sx_tableIn (off := 91) (tgt := 92) C0 dX7_kindOf_1 (by rw [hh107]; decide) (by rw [hh107]; decide) (by rw [hh107]; decide) (by decide) hdf
  by_cases hh108 : (v0).toInt = 108
  · exact sx_tableIn (off := 91) (tgt := 92) C0 dX7_kindOf_1 (by rw [hh108]; decide) (by rw [hh108]; decide) (by rw [hh108]; decide) (by decide) hdf
  by_cases hh109 : (v0).toInt = 109
  · exact sx_tableIn (off := 91) (tgt := 92) C0 dX7_kindOf_1 (by rw [hh109]; decide) (by rw [hh109]; decide) (by rw [hh109]; decide) (by decide) hdf
  by_cases hh110 : (v0).toInt = 110
  · exact sx_tableIn (off := 91) (tgt := 92) C0 dX7_kindOf_1 (by rw [hh110]; decide) (by rw [hh110]; decide) (by rw [hh110]; decide) (by decide) hdf
  by_cases hh112 : (v0).toInt = 112
  · exact sx_tableIn (off := 91) (tgt := 92) C0 dX7_kindOf_1 (by rw [hh112]; decide) (by rw [hh112]; decide) (by rw [hh112]; decide) (by decide) hdf
  by_cases hh113 : (v0).toInt = 113
  · exact sx_tableIn (off := 91) (tgt := 92) C0 dX7_kindOf_1 (by rw [hh113]; decide) (by rw [hh113]; decide) (by rw [hh113]; decide) (by decide) hdf
  by_cases hh114 : (v0).toInt = 114
  · exact sx_tableIn (off := 91) (tgt := 92) C0 dX7_kindOf_1 (by rw [hh114]; decide) (by rw [hh114]; decide) (by rw [hh114]; decide) (by decide) hdf
  by_cases hh117 : (v0).toInt = 117
  · exact sx_tableIn (off := 91) (tgt := 92) C0 dX7_kindOf_1 (by rw [hh117]; decide) (by rw [hh117]; decide) (by rw [hh117]; decide) (by decide) hdf
  exfalso
  omega
abbrev rm_X7_figure : Room := { frames := 1, cells := 0, slots := 0, locals := 22 }
def bX7_figure_42    (S : vS) (v4 : Int32) (t0 : Int32) (t1 : Int32) : Option (Int32 × vS) := (lt (wI S 0 12 (t1 + t0)) fun S43 => (some (v4, S43)))
set_option maxHeartbeats 4000000 in
set_option maxRecDepth 100000 in
theorem bX7_figure_42_t {p : Program} {l : Launch} {e : Env} {s : State} {m : MethodId} {args : Array Value} {below : List Frame} {meth : Method} {c : Code} {D : va_G} {cA : Nat → ClassId} {ad : Nat → Nat}   (C0 : Cx D vwCl tlM shM cA ad ExM RX7 cX7_figure 5 (some .boolean) p s m args meth c)  (S : vS) (v4 : Int32) (t0 : Int32) (t1 : Int32) (hb4 : isB v4) (ls : Array Slot) (hl : lv_has ls 5 [(4, .int v4)]) : SW p l e rm_X7_figure s m args below meth c D vwCl shM cA ad (Fq D vwCl shM cA ad below args s (fun q => some (.int q.1) : (Int32 × vS) → Option Value) (fun q => q.2) (fun q => isB q.1)) (bX7_figure_42 S v4 t0 t1) S 42 ls [.int t0, .int t1, .ref (ad 0)] := by
  rw [bX7_figure_42]
  refine sx_iadd C0 dX7_figure_42 ?_
  refine pf_X7_108 C0 is7 dX7_figure_43 (fun S43 => ?_)
  refine sx_iload C0 dX7_figure_46 (lv_at hl 0 rfl) ?_
  exact sx_zret C0 rfl rfl hb4 hb4 dX7_figure_48
def mX7_figure (S : vS) (v1 : Int32) (v2 : Int32) (v3 : Int32) : Option (Int32 × vS) := ((mX7_byteAt S v1 (S.1 0 12)).bind fun a7 => (lt (wI S 0 13 (a7 - (48 : Int32))) fun S13 => (lt (mX7_in (S13.1 0 13) v2 v3) fun v4_25 => (if v4_25 = 0 then (bX7_figure_42 S13 v4_25 (0 : Int32) (S13.1 0 12)) else (bX7_figure_42 S13 v4_25 (1 : Int32) (S13.1 0 12))))))
set_option maxHeartbeats 4000000 in
set_option maxRecDepth 100000 in
theorem c_X7_figure {l : Launch} {D : va_G} {cA : Nat → ClassId} {ad : Nat → Nat} (G : Gx shM ad ExM) (v1 : Int32) (v2 : Int32) (v3 : Int32) (S : vS) (r : (Int32 × vS)) (hr : (mX7_figure S v1 v2 v3) = some r) : Met l yX7_figure (Cond.code yX7_figure cX7_figure 5 (some .boolean) :: ALL) rm_X7_figure (Po D vwCl tlM shM cA ad ExM [.ref (ad 0), .int v1, .int v2, .int v3] S) (Qo D vwCl shM cA ad (some (.int r.1)) r.2 (isB r.1)) 0 0 (aw shM ad) := by
  refine Met.sx (M := (mX7_figure S v1 v2 v3)) (rv := (fun q => some (.int q.1) : (Int32 × vS) → Option Value)) (rs := fun q => q.2) (B := fun q => isB q.1) (by decide) ⟨rfl, rfl⟩ (Nat.le_of_ble_eq_true rfl) G (fun p e s m args below meth c C0 ls hl => ?_) hr
  have hl : lv_has ls 5 [(0, .ref (ad 0)), (1, .int v1), (2, .int v2), (3, .int v3)] := hl
  rw [mX7_figure]
  refine sx_aload_n C0 dX7_figure_0 rfl (lv_at hl 0 rfl) ?_
  refine sx_aload_n C0 dX7_figure_1 rfl (lv_at hl 0 rfl) ?_
  refine sx_iload_n C0 dX7_figure_2 rfl (lv_at hl 1 rfl) ?_
  refine sx_aload_n C0 dX7_figure_3 rfl (lv_at hl 0 rfl) ?_
  refine gf_X7_108 C0 is7 dX7_figure_4 ?_
  refine sw_bind (fun a7 e7 => ?_)
  refine cv_X7_111 (As := [.int v1, .int (S.1 0 12)]) C0 (c_X7_byteAt C0.2.2.2.2.2.2.2.1 v1 (S.1 0 12) S _ e7) is7 ⟨rfl, rfl⟩ ⟨Nat.le_of_ble_eq_true rfl, Nat.le_of_ble_eq_true rfl⟩ rfl hl.1 (Nat.le_of_ble_eq_true rfl) rfl dX7_figure_7 (fun _ => ?_)
  refine sx_bipush (v := 48) C0 dX7_figure_10 (by decide) ?_
  refine sx_isub C0 dX7_figure_12 ?_
  refine pf_X7_114 C0 is7 dX7_figure_13 (fun S13 => ?_)
  refine sx_aload_n C0 dX7_figure_16 rfl (lv_at hl 0 rfl) ?_
  refine gf_X7_114 C0 is7 dX7_figure_17 ?_
  refine sx_iload_n C0 dX7_figure_20 rfl (lv_at hl 2 rfl) ?_
  refine sx_iload_n C0 dX7_figure_21 rfl (lv_at hl 3 rfl) ?_
  refine cv_X7_80 (As := [.int (S13.1 0 13), .int v2, .int v3]) C0 (c_X7_in C0.2.2.2.2.2.2.2.1 (S13.1 0 13) v2 v3 S13) ⟨rfl, rfl⟩ ⟨Nat.le_of_ble_eq_true rfl, Nat.le_of_ble_eq_true rfl⟩ rfl hl.1 (Nat.le_of_ble_eq_true rfl) rfl dX7_figure_22 (fun hb22 => ?_)
  refine sw_ltB hb22 (fun v4_25 hbv4_25 => ?_)
  refine sx_istore (lv' := [(4, .int v4_25), (0, .ref (ad 0)), (1, .int v1), (2, .int v2), (3, .int v3)]) C0 dX7_figure_25 hl (by decide) rfl (fun ls hl => ?_)
  refine sx_aload_n C0 dX7_figure_27 rfl (lv_at hl 1 rfl) ?_
  refine sx_dup C0 dX7_figure_28 rfl ?_
  refine gf_X7_108 C0 is7 dX7_figure_29 ?_
  refine sx_iload C0 dX7_figure_32 (lv_at hl 0 rfl) ?_
  refine sx_if_eq (tgt := 41) C0 dX7_figure_34 (by decide) (fun _ => ?_) (fun _ => ?_)
  · refine sx_iconst (v := 0) C0 dX7_figure_41 (by decide) ?_
    exact bX7_figure_42_t C0 _ _ _ _ hbv4_25 _ (lv_sub hl [0] rfl)
  · refine sx_iconst (v := 1) C0 dX7_figure_37 (by decide) ?_
    refine sx_goto (tgt := 42) C0 dX7_figure_38 (by decide) ?_
    exact bX7_figure_42_t C0 _ _ _ _ hbv4_25 _ (lv_sub hl [0] rfl)
abbrev rm_X7_readsStores : Room := { frames := 2, cells := 0, slots := 0, locals := 46 }
def bX7_readsStores_62    (S : vS)   : Option (Int32 × vS) := (lt (wI S 0 14 (1 : Int32)) fun S64 => (some ((1 : Int32), S64)))
set_option maxHeartbeats 4000000 in
set_option maxRecDepth 100000 in
theorem bX7_readsStores_62_t {p : Program} {l : Launch} {e : Env} {s : State} {m : MethodId} {args : Array Value} {below : List Frame} {meth : Method} {c : Code} {D : va_G} {cA : Nat → ClassId} {ad : Nat → Nat}   (C0 : Cx D vwCl tlM shM cA ad ExM RX7 cX7_readsStores 3 (some .boolean) p s m args meth c)  (S : vS)  (ls : Array Slot) (hl : lv_has ls 3 [(0, .ref (ad 0))]) : SW p l e rm_X7_readsStores s m args below meth c D vwCl shM cA ad (Fq D vwCl shM cA ad below args s (fun q => some (.int q.1) : (Int32 × vS) → Option Value) (fun q => q.2) (fun q => isB q.1)) (bX7_readsStores_62 S) S 62 ls [] := by
  rw [bX7_readsStores_62]
  refine sx_aload_n C0 dX7_readsStores_62 rfl (lv_at hl 0 rfl) ?_
  refine sx_iconst (v := 1) C0 dX7_readsStores_63 (by decide) ?_
  refine pf_X7_120 C0 is7 (Or.inr rfl) dX7_readsStores_64 (fun S64 => ?_)
  refine sx_iconst (v := 1) C0 dX7_readsStores_67 (by decide) ?_
  exact sx_zret C0 rfl rfl (Or.inr rfl) (Or.inr rfl) dX7_readsStores_68
def lX7_readsStores_28    (v1 : Int32) : Nat → vS → Int32 → Option (Int32 × vS)
  | 0, _, _ => none
  | n + 1, S, v2 => (if (3 : Int32) ≤ v2 then (bX7_readsStores_62 S) else ((mX7_figure S v1 (0 : Int32) (9 : Int32)).bind fun q38 => (if q38.1 = 0 then (some ((0 : Int32), q38.2)) else ((pI q38.2 8 3 v2 (q38.2.1 0 13)).bind fun S55 => ((lX7_readsStores_28 v1 n) S55 (v2 + (1 : Int32)))))))
set_option maxHeartbeats 4000000 in
set_option maxRecDepth 100000 in
theorem lX7_readsStores_28_t {p : Program} {l : Launch} {e : Env} {s : State} {m : MethodId} {args : Array Value} {below : List Frame} {meth : Method} {c : Code} {D : va_G} {cA : Nat → ClassId} {ad : Nat → Nat}   (C0 : Cx D vwCl tlM shM cA ad ExM RX7 cX7_readsStores 3 (some .boolean) p s m args meth c)   (v1 : Int32)  : ∀ (n : Nat) (S : vS) (v2 : Int32) (ls : Array Slot), lv_has ls 3 [(0, .ref (ad 0)), (1, .int v1), (2, .int v2)] → SW p l e rm_X7_readsStores s m args below meth c D vwCl shM cA ad (Fq D vwCl shM cA ad below args s (fun q => some (.int q.1) : (Int32 × vS) → Option Value) (fun q => q.2) (fun q => isB q.1)) (lX7_readsStores_28 v1 n S v2) S 28 ls [] := by
  intro n
  induction n with
  | zero =>
    intro S v2 ls hl
    rw [lX7_readsStores_28]
    exact sw_none
  | succ n ih =>
    intro S v2 ls hl
    rw [lX7_readsStores_28]
    refine sx_iload_n C0 dX7_readsStores_28 rfl (lv_at hl 2 rfl) ?_
    refine sx_iconst (v := 3) C0 dX7_readsStores_29 (by decide) ?_
    refine sx_icmp_ge (tgt := 62) C0 dX7_readsStores_30 (by decide) (fun _ => ?_) (fun _ => ?_)
    · exact bX7_readsStores_62_t C0 _ _ (lv_sub hl [0] rfl)
    · refine sx_aload_n C0 dX7_readsStores_33 rfl (lv_at hl 0 rfl) ?_
      refine sx_iload_n C0 dX7_readsStores_34 rfl (lv_at hl 1 rfl) ?_
      refine sx_iconst (v := 0) C0 dX7_readsStores_35 (by decide) ?_
      refine sx_bipush (v := 9) C0 dX7_readsStores_36 (by decide) ?_
      refine sw_bind (fun q38 e38 => ?_)
      refine cv_X7_117 (As := [.int v1, .int (0 : Int32), .int (9 : Int32)]) C0 (c_X7_figure C0.2.2.2.2.2.2.2.1 v1 (0 : Int32) (9 : Int32) S _ e38) is7 ⟨rfl, rfl⟩ ⟨Nat.le_of_ble_eq_true rfl, Nat.le_of_ble_eq_true rfl⟩ rfl hl.1 (Nat.le_of_ble_eq_true rfl) rfl dX7_readsStores_38 (fun hb38 => ?_)
      refine sx_if_ne (tgt := 46) C0 dX7_readsStores_41 (by decide) (fun _ => ?_) (fun _ => ?_)
      · refine sx_iconst (v := 0) C0 dX7_readsStores_44 (by decide) ?_
        exact sx_zret C0 rfl rfl (Or.inl rfl) (Or.inl rfl) dX7_readsStores_45
      · refine sx_aload_n C0 dX7_readsStores_46 rfl (lv_at hl 0 rfl) ?_
        refine gf_X7_32 C0 is7 dX7_readsStores_47 ?_
        refine sx_iload_n C0 dX7_readsStores_50 rfl (lv_at hl 2 rfl) ?_
        refine sx_aload_n C0 dX7_readsStores_51 rfl (lv_at hl 0 rfl) ?_
        refine gf_X7_114 C0 is7 dX7_readsStores_52 ?_
        refine sx_iast C0 is7_readStore rfl dX7_readsStores_55 (fun S55 => ?_)
        refine sx_iinc (v := (v2 + (1 : Int32))) (lv' := [(2, .int (v2 + (1 : Int32))), (0, .ref (ad 0)), (1, .int v1)]) C0 dX7_readsStores_56 hl (k := 2) rfl rfl (by decide) rfl (fun ls hl => ?_)
        refine sx_goto (tgt := 28) C0 dX7_readsStores_59 (by decide) ?_
        exact ih _ _ _ (lv_sub hl [1, 2, 0] rfl)
def mX7_readsStores (S : vS) (v1 : Int32) : Option (Int32 × vS) := ((mX7_byteAt S v1 (S.1 0 12)).bind fun a6 => (if a6 = (102 : Int32) then (lt (wI S 0 12 ((S.1 0 12) + (1 : Int32))) fun S23 => (lX7_readsStores_28 v1 FU S23 (0 : Int32))) else (some ((0 : Int32), S))))
set_option maxHeartbeats 4000000 in
set_option maxRecDepth 100000 in
theorem c_X7_readsStores {l : Launch} {D : va_G} {cA : Nat → ClassId} {ad : Nat → Nat} (G : Gx shM ad ExM) (v1 : Int32) (S : vS) (r : (Int32 × vS)) (hr : (mX7_readsStores S v1) = some r) : Met l yX7_readsStores (Cond.code yX7_readsStores cX7_readsStores 3 (some .boolean) :: ALL) rm_X7_readsStores (Po D vwCl tlM shM cA ad ExM [.ref (ad 0), .int v1] S) (Qo D vwCl shM cA ad (some (.int r.1)) r.2 (isB r.1)) 0 0 (aw shM ad) := by
  refine Met.sx (M := (mX7_readsStores S v1)) (rv := (fun q => some (.int q.1) : (Int32 × vS) → Option Value)) (rs := fun q => q.2) (B := fun q => isB q.1) (by decide) ⟨rfl, rfl⟩ (Nat.le_of_ble_eq_true rfl) G (fun p e s m args below meth c C0 ls hl => ?_) hr
  have hl : lv_has ls 3 [(0, .ref (ad 0)), (1, .int v1)] := hl
  rw [mX7_readsStores]
  refine sx_aload_n C0 dX7_readsStores_0 rfl (lv_at hl 0 rfl) ?_
  refine sx_iload_n C0 dX7_readsStores_1 rfl (lv_at hl 1 rfl) ?_
  refine sx_aload_n C0 dX7_readsStores_2 rfl (lv_at hl 0 rfl) ?_
  refine gf_X7_108 C0 is7 dX7_readsStores_3 ?_
  refine sw_bind (fun a6 e6 => ?_)
  refine cv_X7_111 (As := [.int v1, .int (S.1 0 12)]) C0 (c_X7_byteAt C0.2.2.2.2.2.2.2.1 v1 (S.1 0 12) S _ e6) is7 ⟨rfl, rfl⟩ ⟨Nat.le_of_ble_eq_true rfl, Nat.le_of_ble_eq_true rfl⟩ rfl hl.1 (Nat.le_of_ble_eq_true rfl) rfl dX7_readsStores_6 (fun _ => ?_)
  refine sx_bipush (v := 102) C0 dX7_readsStores_9 (by decide) ?_
  refine sx_icmp_eq (tgt := 16) C0 dX7_readsStores_11 (by decide) (fun _ => ?_) (fun _ => ?_)
  · refine sx_aload_n C0 dX7_readsStores_16 rfl (lv_at hl 0 rfl) ?_
    refine sx_dup C0 dX7_readsStores_17 rfl ?_
    refine gf_X7_108 C0 is7 dX7_readsStores_18 ?_
    refine sx_iconst (v := 1) C0 dX7_readsStores_21 (by decide) ?_
    refine sx_iadd C0 dX7_readsStores_22 ?_
    refine pf_X7_108 C0 is7 dX7_readsStores_23 (fun S23 => ?_)
    refine sx_iconst (v := 0) C0 dX7_readsStores_26 (by decide) ?_
    refine sx_istore_n (lv' := [(2, .int (0 : Int32)), (0, .ref (ad 0)), (1, .int v1)]) C0 dX7_readsStores_27 rfl hl (by decide) rfl (fun ls hl => ?_)
    exact lX7_readsStores_28_t C0 _ _ _ _ _ (lv_sub hl [1, 2, 0] rfl)
  · refine sx_iconst (v := 0) C0 dX7_readsStores_14 (by decide) ?_
    exact sx_zret C0 rfl rfl (Or.inl rfl) (Or.inl rfl) dX7_readsStores_15
abbrev rm_X7_readsGod : Room := { frames := 2, cells := 0, slots := 0, locals := 46 }
def bX7_readsGod_99   (K57 : vS → Int32 → Option (Int32 × vS)) (S : vS) (v1 : Int32) (v2 : Int32) (v3 : Int32) (v4 : Int32) (t0 : Int32) (t1 : Int32) (t2 : Int32) : Option (Int32 × vS) := ((mX7_figure S t2 t1 t0).bind fun q99 => (if q99.1 = 0 then (some ((0 : Int32), q99.2)) else ((pI q99.2 9 24 (v3 + v4) (q99.2.1 0 13)).bind fun S119 => (K57 S119 (v4 + (1 : Int32))))))
set_option maxHeartbeats 4000000 in
set_option maxRecDepth 100000 in
theorem bX7_readsGod_99_t {p : Program} {l : Launch} {e : Env} {s : State} {m : MethodId} {args : Array Value} {below : List Frame} {meth : Method} {c : Code} {D : va_G} {cA : Nat → ClassId} {ad : Nat → Nat} {K57 : vS → Int32 → Option (Int32 × vS)}  (C0 : Cx D vwCl tlM shM cA ad ExM RX7 cX7_readsGod 6 (some .boolean) p s m args meth c)  (S : vS) (v1 : Int32) (v2 : Int32) (v3 : Int32) (v4 : Int32) (t0 : Int32) (t1 : Int32) (t2 : Int32) (hK57 : ∀ (S : vS) (v4 : Int32) (ls : Array Slot), lv_has ls 6 [(0, .ref (ad 0)), (1, .int v1), (2, .int v2), (3, .int v3), (4, .int v4)] → SW p l e rm_X7_readsGod s m args below meth c D vwCl shM cA ad (Fq D vwCl shM cA ad below args s (fun q => some (.int q.1) : (Int32 × vS) → Option Value) (fun q => q.2) (fun q => isB q.1)) (K57 S v4) S 57 ls []) (ls : Array Slot) (hl : lv_has ls 6 [(0, .ref (ad 0)), (1, .int v1), (2, .int v2), (3, .int v3), (4, .int v4)]) : SW p l e rm_X7_readsGod s m args below meth c D vwCl shM cA ad (Fq D vwCl shM cA ad below args s (fun q => some (.int q.1) : (Int32 × vS) → Option Value) (fun q => q.2) (fun q => isB q.1)) (bX7_readsGod_99 K57 S v1 v2 v3 v4 t0 t1 t2) S 99 ls [.int t0, .int t1, .int t2, .ref (ad 0)] := by
  rw [bX7_readsGod_99]
  refine sw_bind (fun q99 e99 => ?_)
  refine cv_X7_117 (As := [.int t2, .int t1, .int t0]) C0 (c_X7_figure C0.2.2.2.2.2.2.2.1 t2 t1 t0 S _ e99) is7 ⟨rfl, rfl⟩ ⟨Nat.le_of_ble_eq_true rfl, Nat.le_of_ble_eq_true rfl⟩ rfl hl.1 (Nat.le_of_ble_eq_true rfl) rfl dX7_readsGod_99 (fun hb99 => ?_)
  refine sx_if_ne (tgt := 107) C0 dX7_readsGod_102 (by decide) (fun _ => ?_) (fun _ => ?_)
  · refine sx_iconst (v := 0) C0 dX7_readsGod_105 (by decide) ?_
    exact sx_zret C0 rfl rfl (Or.inl rfl) (Or.inl rfl) dX7_readsGod_106
  · refine sx_aload_n C0 dX7_readsGod_107 rfl (lv_at hl 0 rfl) ?_
    refine gf_X7_35 C0 is7 dX7_readsGod_108 ?_
    refine sx_iload_n C0 dX7_readsGod_111 rfl (lv_at hl 3 rfl) ?_
    refine sx_iload C0 dX7_readsGod_112 (lv_at hl 4 rfl) ?_
    refine sx_iadd C0 dX7_readsGod_114 ?_
    refine sx_aload_n C0 dX7_readsGod_115 rfl (lv_at hl 0 rfl) ?_
    refine gf_X7_114 C0 is7 dX7_readsGod_116 ?_
    refine sx_iast C0 is7_readGods rfl dX7_readsGod_119 (fun S119 => ?_)
    refine sx_iinc (v := (v4 + (1 : Int32))) (lv' := [(4, .int (v4 + (1 : Int32))), (0, .ref (ad 0)), (1, .int v1), (2, .int v2), (3, .int v3)]) C0 dX7_readsGod_120 hl (k := 4) rfl rfl (by decide) rfl (fun ls hl => ?_)
    refine sx_goto (tgt := 57) C0 dX7_readsGod_123 (by decide) ?_
    exact hK57 _ _ _ (lv_sub hl [1, 2, 3, 4, 0] rfl)
def bX7_readsGod_76   (K57 : vS → Int32 → Option (Int32 × vS)) (S : vS) (v1 : Int32) (v2 : Int32) (v3 : Int32) (v4 : Int32) (t0 : Int32) (t1 : Int32) : Option (Int32 × vS) := (if v4 = (1 : Int32) then (bX7_readsGod_99 K57 S v1 v2 v3 v4 (2 : Int32) t0 t1) else (if v4 = (2 : Int32) then (bX7_readsGod_99 K57 S v1 v2 v3 v4 (6 : Int32) t0 t1) else (bX7_readsGod_99 K57 S v1 v2 v3 v4 (9 : Int32) t0 t1)))
set_option maxHeartbeats 4000000 in
set_option maxRecDepth 100000 in
theorem bX7_readsGod_76_t {p : Program} {l : Launch} {e : Env} {s : State} {m : MethodId} {args : Array Value} {below : List Frame} {meth : Method} {c : Code} {D : va_G} {cA : Nat → ClassId} {ad : Nat → Nat} {K57 : vS → Int32 → Option (Int32 × vS)}  (C0 : Cx D vwCl tlM shM cA ad ExM RX7 cX7_readsGod 6 (some .boolean) p s m args meth c)  (S : vS) (v1 : Int32) (v2 : Int32) (v3 : Int32) (v4 : Int32) (t0 : Int32) (t1 : Int32) (hK57 : ∀ (S : vS) (v4 : Int32) (ls : Array Slot), lv_has ls 6 [(0, .ref (ad 0)), (1, .int v1), (2, .int v2), (3, .int v3), (4, .int v4)] → SW p l e rm_X7_readsGod s m args below meth c D vwCl shM cA ad (Fq D vwCl shM cA ad below args s (fun q => some (.int q.1) : (Int32 × vS) → Option Value) (fun q => q.2) (fun q => isB q.1)) (K57 S v4) S 57 ls []) (ls : Array Slot) (hl : lv_has ls 6 [(0, .ref (ad 0)), (1, .int v1), (2, .int v2), (3, .int v3), (4, .int v4)]) : SW p l e rm_X7_readsGod s m args below meth c D vwCl shM cA ad (Fq D vwCl shM cA ad below args s (fun q => some (.int q.1) : (Int32 × vS) → Option Value) (fun q => q.2) (fun q => isB q.1)) (bX7_readsGod_76 K57 S v1 v2 v3 v4 t0 t1) S 76 ls [.int t0, .int t1, .ref (ad 0)] := by
  rw [bX7_readsGod_76]
  refine sx_iload C0 dX7_readsGod_76 (lv_at hl 4 rfl) ?_
  refine sx_iconst (v := 1) C0 dX7_readsGod_78 (by decide) ?_
  refine sx_icmp_ne (tgt := 86) C0 dX7_readsGod_79 (by decide) (fun _ => ?_) (fun _ => ?_)
  · refine sx_iconst (v := 2) C0 dX7_readsGod_82 (by decide) ?_
    refine sx_goto (tgt := 99) C0 dX7_readsGod_83 (by decide) ?_
    exact bX7_readsGod_99_t C0 _ _ _ _ _ _ _ _ hK57 _ (lv_sub hl [0, 1, 2, 3, 4] rfl)
  · refine sx_iload C0 dX7_readsGod_86 (lv_at hl 4 rfl) ?_
    refine sx_iconst (v := 2) C0 dX7_readsGod_88 (by decide) ?_
    refine sx_icmp_ne (tgt := 97) C0 dX7_readsGod_89 (by decide) (fun _ => ?_) (fun _ => ?_)
    · refine sx_bipush (v := 6) C0 dX7_readsGod_92 (by decide) ?_
      refine sx_goto (tgt := 99) C0 dX7_readsGod_94 (by decide) ?_
      exact bX7_readsGod_99_t C0 _ _ _ _ _ _ _ _ hK57 _ (lv_sub hl [0, 1, 2, 3, 4] rfl)
    · refine sx_bipush (v := 9) C0 dX7_readsGod_97 (by decide) ?_
      exact bX7_readsGod_99_t C0 _ _ _ _ _ _ _ _ hK57 _ (lv_sub hl [0, 1, 2, 3, 4] rfl)
def bX7_readsGod_213    (S : vS)  (t0 : Int32) (t1 : Int32) : Option (Int32 × vS) := ((pI S 9 24 t1 t0).bind fun S213 => (lt (wI S213 0 15 ((S213.1 0 15) + (1 : Int32))) fun S221 => (some ((1 : Int32), S221))))
set_option maxHeartbeats 4000000 in
set_option maxRecDepth 100000 in
theorem bX7_readsGod_213_t {p : Program} {l : Launch} {e : Env} {s : State} {m : MethodId} {args : Array Value} {below : List Frame} {meth : Method} {c : Code} {D : va_G} {cA : Nat → ClassId} {ad : Nat → Nat}   (C0 : Cx D vwCl tlM shM cA ad ExM RX7 cX7_readsGod 6 (some .boolean) p s m args meth c)  (S : vS)  (t0 : Int32) (t1 : Int32) (ls : Array Slot) (hl : lv_has ls 6 [(0, .ref (ad 0))]) : SW p l e rm_X7_readsGod s m args below meth c D vwCl shM cA ad (Fq D vwCl shM cA ad below args s (fun q => some (.int q.1) : (Int32 × vS) → Option Value) (fun q => q.2) (fun q => isB q.1)) (bX7_readsGod_213 S t0 t1) S 213 ls [.int t0, .int t1, .ref (ad 9)] := by
  rw [bX7_readsGod_213]
  refine sx_iast C0 is7_readGods rfl dX7_readsGod_213 (fun S213 => ?_)
  refine sx_aload_n C0 dX7_readsGod_214 rfl (lv_at hl 0 rfl) ?_
  refine sx_dup C0 dX7_readsGod_215 rfl ?_
  refine gf_X7_127 C0 is7 dX7_readsGod_216 ?_
  refine sx_iconst (v := 1) C0 dX7_readsGod_219 (by decide) ?_
  refine sx_iadd C0 dX7_readsGod_220 ?_
  refine pf_X7_127 C0 is7 dX7_readsGod_221 (fun S221 => ?_)
  refine sx_iconst (v := 1) C0 dX7_readsGod_224 (by decide) ?_
  exact sx_zret C0 rfl rfl (Or.inr rfl) (Or.inr rfl) dX7_readsGod_225
def bX7_readsGod_181    (S : vS) (v3 : Int32) (v4 : Int32) (v5 : Int32)  : Option (Int32 × vS) := (lt (wI S 0 12 ((S.1 0 12) + (1 : Int32))) fun S188 => (if v5 = 0 then (bX7_readsGod_213 S188 (v4 - (65 : Int32)) (v3 + (5 : Int32))) else (bX7_readsGod_213 S188 (-9 : Int32) (v3 + (5 : Int32)))))
set_option maxHeartbeats 4000000 in
set_option maxRecDepth 100000 in
theorem bX7_readsGod_181_t {p : Program} {l : Launch} {e : Env} {s : State} {m : MethodId} {args : Array Value} {below : List Frame} {meth : Method} {c : Code} {D : va_G} {cA : Nat → ClassId} {ad : Nat → Nat}   (C0 : Cx D vwCl tlM shM cA ad ExM RX7 cX7_readsGod 6 (some .boolean) p s m args meth c)  (S : vS) (v3 : Int32) (v4 : Int32) (v5 : Int32) (ls : Array Slot) (hl : lv_has ls 6 [(0, .ref (ad 0)), (3, .int v3), (4, .int v4), (5, .int v5)]) : SW p l e rm_X7_readsGod s m args below meth c D vwCl shM cA ad (Fq D vwCl shM cA ad below args s (fun q => some (.int q.1) : (Int32 × vS) → Option Value) (fun q => q.2) (fun q => isB q.1)) (bX7_readsGod_181 S v3 v4 v5) S 181 ls [] := by
  rw [bX7_readsGod_181]
  refine sx_aload_n C0 dX7_readsGod_181 rfl (lv_at hl 0 rfl) ?_
  refine sx_dup C0 dX7_readsGod_182 rfl ?_
  refine gf_X7_108 C0 is7 dX7_readsGod_183 ?_
  refine sx_iconst (v := 1) C0 dX7_readsGod_186 (by decide) ?_
  refine sx_iadd C0 dX7_readsGod_187 ?_
  refine pf_X7_108 C0 is7 dX7_readsGod_188 (fun S188 => ?_)
  refine sx_aload_n C0 dX7_readsGod_191 rfl (lv_at hl 0 rfl) ?_
  refine gf_X7_35 C0 is7 dX7_readsGod_192 ?_
  refine sx_iload_n C0 dX7_readsGod_195 rfl (lv_at hl 1 rfl) ?_
  refine sx_iconst (v := 5) C0 dX7_readsGod_196 (by decide) ?_
  refine sx_iadd C0 dX7_readsGod_197 ?_
  refine sx_iload C0 dX7_readsGod_198 (lv_at hl 3 rfl) ?_
  refine sx_if_eq (tgt := 208) C0 dX7_readsGod_200 (by decide) (fun _ => ?_) (fun _ => ?_)
  · refine sx_iload C0 dX7_readsGod_208 (lv_at hl 2 rfl) ?_
    refine sx_bipush (v := 65) C0 dX7_readsGod_210 (by decide) ?_
    refine sx_isub C0 dX7_readsGod_212 ?_
    exact bX7_readsGod_213_t C0 _ _ _ _ (lv_sub hl [0] rfl)
  · refine sx_bipush (v := (-9)) C0 dX7_readsGod_203 (by decide) ?_
    refine sx_goto (tgt := 213) C0 dX7_readsGod_205 (by decide) ?_
    exact bX7_readsGod_213_t C0 _ _ _ _ (lv_sub hl [0] rfl)
def bX7_readsGod_154    (S : vS) (v3 : Int32) (v4 : Int32) (t0 : Int32) : Option (Int32 × vS) := (if t0 = 0 then (if (mX7_in (v4 - (65 : Int32)) (0 : Int32) ((S.1 0 15) - (1 : Int32))) = 0 then (some ((0 : Int32), S)) else (bX7_readsGod_181 S v3 v4 t0)) else (bX7_readsGod_181 S v3 v4 t0))
set_option maxHeartbeats 4000000 in
set_option maxRecDepth 100000 in
theorem bX7_readsGod_154_t {p : Program} {l : Launch} {e : Env} {s : State} {m : MethodId} {args : Array Value} {below : List Frame} {meth : Method} {c : Code} {D : va_G} {cA : Nat → ClassId} {ad : Nat → Nat}   (C0 : Cx D vwCl tlM shM cA ad ExM RX7 cX7_readsGod 6 (some .boolean) p s m args meth c)  (S : vS) (v3 : Int32) (v4 : Int32) (t0 : Int32) (ls : Array Slot) (hl : lv_has ls 6 [(0, .ref (ad 0)), (3, .int v3), (4, .int v4)]) : SW p l e rm_X7_readsGod s m args below meth c D vwCl shM cA ad (Fq D vwCl shM cA ad below args s (fun q => some (.int q.1) : (Int32 × vS) → Option Value) (fun q => q.2) (fun q => isB q.1)) (bX7_readsGod_154 S v3 v4 t0) S 154 ls [.int t0] := by
  rw [bX7_readsGod_154]
  refine sx_istore (lv' := [(5, .int t0), (0, .ref (ad 0)), (3, .int v3), (4, .int v4)]) C0 dX7_readsGod_154 hl (by decide) rfl (fun ls hl => ?_)
  refine sx_iload C0 dX7_readsGod_156 (lv_at hl 0 rfl) ?_
  refine sx_if_ne (tgt := 181) C0 dX7_readsGod_158 (by decide) (fun _ => ?_) (fun _ => ?_)
  · refine sx_iload C0 dX7_readsGod_161 (lv_at hl 3 rfl) ?_
    refine sx_bipush (v := 65) C0 dX7_readsGod_163 (by decide) ?_
    refine sx_isub C0 dX7_readsGod_165 ?_
    refine sx_iconst (v := 0) C0 dX7_readsGod_166 (by decide) ?_
    refine sx_aload_n C0 dX7_readsGod_167 rfl (lv_at hl 1 rfl) ?_
    refine gf_X7_127 C0 is7 dX7_readsGod_168 ?_
    refine sx_iconst (v := 1) C0 dX7_readsGod_171 (by decide) ?_
    refine sx_isub C0 dX7_readsGod_172 ?_
    refine cv_X7_80 (As := [.int (v4 - (65 : Int32)), .int (0 : Int32), .int ((S.1 0 15) - (1 : Int32))]) C0 (c_X7_in C0.2.2.2.2.2.2.2.1 (v4 - (65 : Int32)) (0 : Int32) ((S.1 0 15) - (1 : Int32)) S) ⟨rfl, rfl⟩ ⟨Nat.le_of_ble_eq_true rfl, Nat.le_of_ble_eq_true rfl⟩ rfl hl.1 (Nat.le_of_ble_eq_true rfl) rfl dX7_readsGod_173 (fun hb173 => ?_)
    refine sx_if_ne (tgt := 181) C0 dX7_readsGod_176 (by decide) (fun _ => ?_) (fun _ => ?_)
    · refine sx_iconst (v := 0) C0 dX7_readsGod_179 (by decide) ?_
      exact sx_zret C0 rfl rfl (Or.inl rfl) (Or.inl rfl) dX7_readsGod_180
    · exact bX7_readsGod_181_t C0 _ _ _ _ _ (lv_sub hl [1, 2, 3, 0] rfl)
  · exact bX7_readsGod_181_t C0 _ _ _ _ _ (lv_sub hl [1, 2, 3, 0] rfl)
def bX7_readsGod_153    (S : vS) (v3 : Int32) (v4 : Int32)  : Option (Int32 × vS) := (bX7_readsGod_154 S v3 v4 (0 : Int32))
set_option maxHeartbeats 4000000 in
set_option maxRecDepth 100000 in
theorem bX7_readsGod_153_t {p : Program} {l : Launch} {e : Env} {s : State} {m : MethodId} {args : Array Value} {below : List Frame} {meth : Method} {c : Code} {D : va_G} {cA : Nat → ClassId} {ad : Nat → Nat}   (C0 : Cx D vwCl tlM shM cA ad ExM RX7 cX7_readsGod 6 (some .boolean) p s m args meth c)  (S : vS) (v3 : Int32) (v4 : Int32) (ls : Array Slot) (hl : lv_has ls 6 [(0, .ref (ad 0)), (3, .int v3), (4, .int v4)]) : SW p l e rm_X7_readsGod s m args below meth c D vwCl shM cA ad (Fq D vwCl shM cA ad below args s (fun q => some (.int q.1) : (Int32 × vS) → Option Value) (fun q => q.2) (fun q => isB q.1)) (bX7_readsGod_153 S v3 v4) S 153 ls [] := by
  rw [bX7_readsGod_153]
  refine sx_iconst (v := 0) C0 dX7_readsGod_153 (by decide) ?_
  exact bX7_readsGod_154_t C0 _ _ _ _ _ (lv_sub hl [0, 1, 2] rfl)
def bX7_readsGod_126    (S : vS) (v1 : Int32) (v2 : Int32) (v3 : Int32)  : Option (Int32 × vS) := ((mX7_byteAt S v1 (S.1 0 12)).bind fun a132 => (if a132 = (45 : Int32) then (if v2 = (1 : Int32) then (bX7_readsGod_153 S v3 a132) else (bX7_readsGod_154 S v3 a132 (1 : Int32))) else (bX7_readsGod_153 S v3 a132)))
set_option maxHeartbeats 4000000 in
set_option maxRecDepth 100000 in
theorem bX7_readsGod_126_t {p : Program} {l : Launch} {e : Env} {s : State} {m : MethodId} {args : Array Value} {below : List Frame} {meth : Method} {c : Code} {D : va_G} {cA : Nat → ClassId} {ad : Nat → Nat}   (C0 : Cx D vwCl tlM shM cA ad ExM RX7 cX7_readsGod 6 (some .boolean) p s m args meth c)  (S : vS) (v1 : Int32) (v2 : Int32) (v3 : Int32) (ls : Array Slot) (hl : lv_has ls 6 [(0, .ref (ad 0)), (1, .int v1), (2, .int v2), (3, .int v3)]) : SW p l e rm_X7_readsGod s m args below meth c D vwCl shM cA ad (Fq D vwCl shM cA ad below args s (fun q => some (.int q.1) : (Int32 × vS) → Option Value) (fun q => q.2) (fun q => isB q.1)) (bX7_readsGod_126 S v1 v2 v3) S 126 ls [] := by
  rw [bX7_readsGod_126]
  refine sx_aload_n C0 dX7_readsGod_126 rfl (lv_at hl 0 rfl) ?_
  refine sx_iload_n C0 dX7_readsGod_127 rfl (lv_at hl 1 rfl) ?_
  refine sx_aload_n C0 dX7_readsGod_128 rfl (lv_at hl 0 rfl) ?_
  refine gf_X7_108 C0 is7 dX7_readsGod_129 ?_
  refine sw_bind (fun a132 e132 => ?_)
  refine cv_X7_111 (As := [.int v1, .int (S.1 0 12)]) C0 (c_X7_byteAt C0.2.2.2.2.2.2.2.1 v1 (S.1 0 12) S _ e132) is7 ⟨rfl, rfl⟩ ⟨Nat.le_of_ble_eq_true rfl, Nat.le_of_ble_eq_true rfl⟩ rfl hl.1 (Nat.le_of_ble_eq_true rfl) rfl dX7_readsGod_132 (fun _ => ?_)
  refine sx_istore (lv' := [(4, .int a132), (0, .ref (ad 0)), (1, .int v1), (2, .int v2), (3, .int v3)]) C0 dX7_readsGod_135 hl (by decide) rfl (fun ls hl => ?_)
  refine sx_iload C0 dX7_readsGod_137 (lv_at hl 0 rfl) ?_
  refine sx_bipush (v := 45) C0 dX7_readsGod_139 (by decide) ?_
  refine sx_icmp_ne (tgt := 153) C0 dX7_readsGod_141 (by decide) (fun _ => ?_) (fun _ => ?_)
  · refine sx_iload_n C0 dX7_readsGod_144 rfl (lv_at hl 3 rfl) ?_
    refine sx_iconst (v := 1) C0 dX7_readsGod_145 (by decide) ?_
    refine sx_icmp_eq (tgt := 153) C0 dX7_readsGod_146 (by decide) (fun _ => ?_) (fun _ => ?_)
    · exact bX7_readsGod_153_t C0 _ _ _ _ (lv_sub hl [1, 4, 0] rfl)
    · refine sx_iconst (v := 1) C0 dX7_readsGod_149 (by decide) ?_
      refine sx_goto (tgt := 154) C0 dX7_readsGod_150 (by decide) ?_
      exact bX7_readsGod_154_t C0 _ _ _ _ _ (lv_sub hl [1, 4, 0] rfl)
  · exact bX7_readsGod_153_t C0 _ _ _ _ (lv_sub hl [1, 4, 0] rfl)
def lX7_readsGod_57    (v1 : Int32) (v2 : Int32) (v3 : Int32) : Nat → vS → Int32 → Option (Int32 × vS)
  | 0, _, _ => none
  | n + 1, S, v4 => (if (5 : Int32) ≤ v4 then (bX7_readsGod_126 S v1 v2 v3) else (if v4 = (2 : Int32) then (bX7_readsGod_76 (lX7_readsGod_57 v1 v2 v3 n) S v1 v2 v3 v4 (1 : Int32) v1) else (bX7_readsGod_76 (lX7_readsGod_57 v1 v2 v3 n) S v1 v2 v3 v4 (0 : Int32) v1)))
set_option maxHeartbeats 4000000 in
set_option maxRecDepth 100000 in
theorem lX7_readsGod_57_t {p : Program} {l : Launch} {e : Env} {s : State} {m : MethodId} {args : Array Value} {below : List Frame} {meth : Method} {c : Code} {D : va_G} {cA : Nat → ClassId} {ad : Nat → Nat}   (C0 : Cx D vwCl tlM shM cA ad ExM RX7 cX7_readsGod 6 (some .boolean) p s m args meth c)   (v1 : Int32) (v2 : Int32) (v3 : Int32)  : ∀ (n : Nat) (S : vS) (v4 : Int32) (ls : Array Slot), lv_has ls 6 [(0, .ref (ad 0)), (1, .int v1), (2, .int v2), (3, .int v3), (4, .int v4)] → SW p l e rm_X7_readsGod s m args below meth c D vwCl shM cA ad (Fq D vwCl shM cA ad below args s (fun q => some (.int q.1) : (Int32 × vS) → Option Value) (fun q => q.2) (fun q => isB q.1)) (lX7_readsGod_57 v1 v2 v3 n S v4) S 57 ls [] := by
  intro n
  induction n with
  | zero =>
    intro S v4 ls hl
    rw [lX7_readsGod_57]
    exact sw_none
  | succ n ih =>
    intro S v4 ls hl
    rw [lX7_readsGod_57]
    refine sx_iload C0 dX7_readsGod_57 (lv_at hl 4 rfl) ?_
    refine sx_iconst (v := 5) C0 dX7_readsGod_59 (by decide) ?_
    refine sx_icmp_ge (tgt := 126) C0 dX7_readsGod_60 (by decide) (fun _ => ?_) (fun _ => ?_)
    · exact bX7_readsGod_126_t C0 _ _ _ _ _ (lv_sub hl [0, 1, 2, 3] rfl)
    · refine sx_aload_n C0 dX7_readsGod_63 rfl (lv_at hl 0 rfl) ?_
      refine sx_iload_n C0 dX7_readsGod_64 rfl (lv_at hl 1 rfl) ?_
      refine sx_iload C0 dX7_readsGod_65 (lv_at hl 4 rfl) ?_
      refine sx_iconst (v := 2) C0 dX7_readsGod_67 (by decide) ?_
      refine sx_icmp_ne (tgt := 75) C0 dX7_readsGod_68 (by decide) (fun _ => ?_) (fun _ => ?_)
      · refine sx_iconst (v := 1) C0 dX7_readsGod_71 (by decide) ?_
        refine sx_goto (tgt := 76) C0 dX7_readsGod_72 (by decide) ?_
        exact bX7_readsGod_76_t C0 _ _ _ _ _ _ _ ih _ (lv_sub hl [0, 1, 2, 3, 4] rfl)
      · refine sx_iconst (v := 0) C0 dX7_readsGod_75 (by decide) ?_
        exact bX7_readsGod_76_t C0 _ _ _ _ _ _ _ ih _ (lv_sub hl [0, 1, 2, 3, 4] rfl)
def mX7_readsGod (S : vS) (v1 : Int32) : Option (Int32 × vS) := ((mX7_byteAt S v1 (S.1 0 12)).bind fun a6 => (lt (mX7_kindOf a6) fun v2_12 => (if v2_12 = (-9 : Int32) then (some ((0 : Int32), S)) else (if (S.1 0 15) = (4 : Int32) then (some ((0 : Int32), S)) else (lt (wI S 0 12 ((S.1 0 12) + (1 : Int32))) fun S36 => (lt ((6 : Int32) * (S36.1 0 15)) fun v3_46 => ((pI S36 9 24 v3_46 v2_12).bind fun S53 => (lX7_readsGod_57 v1 v2_12 v3_46 FU S53 (1 : Int32)))))))))
set_option maxHeartbeats 4000000 in
set_option maxRecDepth 100000 in
theorem c_X7_readsGod {l : Launch} {D : va_G} {cA : Nat → ClassId} {ad : Nat → Nat} (G : Gx shM ad ExM) (v1 : Int32) (S : vS) (r : (Int32 × vS)) (hr : (mX7_readsGod S v1) = some r) : Met l yX7_readsGod (Cond.code yX7_readsGod cX7_readsGod 6 (some .boolean) :: ALL) rm_X7_readsGod (Po D vwCl tlM shM cA ad ExM [.ref (ad 0), .int v1] S) (Qo D vwCl shM cA ad (some (.int r.1)) r.2 (isB r.1)) 0 0 (aw shM ad) := by
  refine Met.sx (M := (mX7_readsGod S v1)) (rv := (fun q => some (.int q.1) : (Int32 × vS) → Option Value)) (rs := fun q => q.2) (B := fun q => isB q.1) (by decide) ⟨rfl, rfl⟩ (Nat.le_of_ble_eq_true rfl) G (fun p e s m args below meth c C0 ls hl => ?_) hr
  have hl : lv_has ls 6 [(0, .ref (ad 0)), (1, .int v1)] := hl
  rw [mX7_readsGod]
  refine sx_aload_n C0 dX7_readsGod_0 rfl (lv_at hl 0 rfl) ?_
  refine sx_iload_n C0 dX7_readsGod_1 rfl (lv_at hl 1 rfl) ?_
  refine sx_aload_n C0 dX7_readsGod_2 rfl (lv_at hl 0 rfl) ?_
  refine gf_X7_108 C0 is7 dX7_readsGod_3 ?_
  refine sw_bind (fun a6 e6 => ?_)
  refine cv_X7_111 (As := [.int v1, .int (S.1 0 12)]) C0 (c_X7_byteAt C0.2.2.2.2.2.2.2.1 v1 (S.1 0 12) S _ e6) is7 ⟨rfl, rfl⟩ ⟨Nat.le_of_ble_eq_true rfl, Nat.le_of_ble_eq_true rfl⟩ rfl hl.1 (Nat.le_of_ble_eq_true rfl) rfl dX7_readsGod_6 (fun _ => ?_)
  refine cv_X7_124 (As := [.int a6]) C0 (c_X7_kindOf C0.2.2.2.2.2.2.2.1 a6 S) ⟨rfl, rfl⟩ ⟨Nat.le_of_ble_eq_true rfl, Nat.le_of_ble_eq_true rfl⟩ rfl hl.1 (Nat.le_of_ble_eq_true rfl) rfl dX7_readsGod_9 (fun _ => ?_)
  refine sw_lt (val := .int) (fun v2_12 => ?_)
  refine sx_istore_n (lv' := [(2, .int v2_12), (0, .ref (ad 0)), (1, .int v1)]) C0 dX7_readsGod_12 rfl hl (by decide) rfl (fun ls hl => ?_)
  refine sx_iload_n C0 dX7_readsGod_13 rfl (lv_at hl 0 rfl) ?_
  refine sx_bipush (v := (-9)) C0 dX7_readsGod_14 (by decide) ?_
  refine sx_icmp_eq (tgt := 27) C0 dX7_readsGod_16 (by decide) (fun _ => ?_) (fun _ => ?_)
  · refine sx_iconst (v := 0) C0 dX7_readsGod_27 (by decide) ?_
    exact sx_zret C0 rfl rfl (Or.inl rfl) (Or.inl rfl) dX7_readsGod_28
  · refine sx_aload_n C0 dX7_readsGod_19 rfl (lv_at hl 1 rfl) ?_
    refine gf_X7_127 C0 is7 dX7_readsGod_20 ?_
    refine sx_iconst (v := 4) C0 dX7_readsGod_23 (by decide) ?_
    refine sx_icmp_ne (tgt := 29) C0 dX7_readsGod_24 (by decide) (fun _ => ?_) (fun _ => ?_)
    · refine sx_iconst (v := 0) C0 dX7_readsGod_27 (by decide) ?_
      exact sx_zret C0 rfl rfl (Or.inl rfl) (Or.inl rfl) dX7_readsGod_28
    · refine sx_aload_n C0 dX7_readsGod_29 rfl (lv_at hl 1 rfl) ?_
      refine sx_dup C0 dX7_readsGod_30 rfl ?_
      refine gf_X7_108 C0 is7 dX7_readsGod_31 ?_
      refine sx_iconst (v := 1) C0 dX7_readsGod_34 (by decide) ?_
      refine sx_iadd C0 dX7_readsGod_35 ?_
      refine pf_X7_108 C0 is7 dX7_readsGod_36 (fun S36 => ?_)
      refine sx_bipush (v := 6) C0 dX7_readsGod_39 (by decide) ?_
      refine sx_aload_n C0 dX7_readsGod_41 rfl (lv_at hl 1 rfl) ?_
      refine gf_X7_127 C0 is7 dX7_readsGod_42 ?_
      refine sx_imul C0 dX7_readsGod_45 ?_
      refine sw_lt (val := .int) (fun v3_46 => ?_)
      refine sx_istore_n (lv' := [(3, .int v3_46), (2, .int v2_12), (0, .ref (ad 0)), (1, .int v1)]) C0 dX7_readsGod_46 rfl hl (by decide) rfl (fun ls hl => ?_)
      refine sx_aload_n C0 dX7_readsGod_47 rfl (lv_at hl 2 rfl) ?_
      refine gf_X7_35 C0 is7 dX7_readsGod_48 ?_
      refine sx_iload_n C0 dX7_readsGod_51 rfl (lv_at hl 0 rfl) ?_
      refine sx_iload_n C0 dX7_readsGod_52 rfl (lv_at hl 1 rfl) ?_
      refine sx_iast C0 is7_readGods rfl dX7_readsGod_53 (fun S53 => ?_)
      refine sx_iconst (v := 1) C0 dX7_readsGod_54 (by decide) ?_
      refine sx_istore (lv' := [(4, .int (1 : Int32)), (3, .int v3_46), (2, .int v2_12), (0, .ref (ad 0)), (1, .int v1)]) C0 dX7_readsGod_55 hl (by decide) rfl (fun ls hl => ?_)
      exact lX7_readsGod_57_t C0 _ _ _ _ _ _ _ (lv_sub hl [3, 4, 2, 1, 0] rfl)
abbrev rm_X7_faultOf : Room := { frames := 3, cells := 0, slots := 0, locals := 71 }
def bX7_faultOf_81    (S : vS)   : Option (Int32 × vS) := (some ((S.1 0 12), S))
set_option maxHeartbeats 4000000 in
set_option maxRecDepth 100000 in
theorem bX7_faultOf_81_t {p : Program} {l : Launch} {e : Env} {s : State} {m : MethodId} {args : Array Value} {below : List Frame} {meth : Method} {c : Code} {D : va_G} {cA : Nat → ClassId} {ad : Nat → Nat}   (C0 : Cx D vwCl tlM shM cA ad ExM RX7 cX7_faultOf 2 (some .int) p s m args meth c)  (S : vS)  (ls : Array Slot) (hl : lv_has ls 2 [(0, .ref (ad 0))]) : SW p l e rm_X7_faultOf s m args below meth c D vwCl shM cA ad (Fq D vwCl shM cA ad below args s (fun q => some (.int q.1) : (Int32 × vS) → Option Value) (fun q => q.2) (fun _ => True)) (bX7_faultOf_81 S) S 81 ls [] := by
  rw [bX7_faultOf_81]
  refine sx_aload_n C0 dX7_faultOf_81 rfl (lv_at hl 0 rfl) ?_
  refine gf_X7_108 C0 is7 dX7_faultOf_82 ?_
  exact sx_iret C0 rfl rfl trivial dX7_faultOf_85
def bX7_faultOf_86    (S : vS) (v1 : Int32)  : Option (Int32 × vS) := (if (S.1 0 14) = 0 then ((gI (S.1 5) 4 v1).bind fun a103 => (some (a103, S))) else (some ((-9 : Int32), S)))
set_option maxHeartbeats 4000000 in
set_option maxRecDepth 100000 in
theorem bX7_faultOf_86_t {p : Program} {l : Launch} {e : Env} {s : State} {m : MethodId} {args : Array Value} {below : List Frame} {meth : Method} {c : Code} {D : va_G} {cA : Nat → ClassId} {ad : Nat → Nat}   (C0 : Cx D vwCl tlM shM cA ad ExM RX7 cX7_faultOf 2 (some .int) p s m args meth c)  (S : vS) (v1 : Int32) (ls : Array Slot) (hl : lv_has ls 2 [(0, .ref (ad 0)), (1, .int v1)]) : SW p l e rm_X7_faultOf s m args below meth c D vwCl shM cA ad (Fq D vwCl shM cA ad below args s (fun q => some (.int q.1) : (Int32 × vS) → Option Value) (fun q => q.2) (fun _ => True)) (bX7_faultOf_86 S v1) S 86 ls [] := by
  rw [bX7_faultOf_86]
  refine sx_aload_n C0 dX7_faultOf_86 rfl (lv_at hl 0 rfl) ?_
  refine gf_X7_120 C0 is7 dX7_faultOf_87 ?_
  refine sx_if_eq (tgt := 98) C0 dX7_faultOf_90 (by decide) (fun _ => ?_) (fun _ => ?_)
  · refine sx_aload_n C0 dX7_faultOf_98 rfl (lv_at hl 0 rfl) ?_
    refine gf_X7_22 C0 is7 dX7_faultOf_99 ?_
    refine sx_iload_n C0 dX7_faultOf_102 rfl (lv_at hl 1 rfl) ?_
    refine sx_iald C0 is7_textSizes rfl dX7_faultOf_103 (fun a103 => ?_)
    exact sx_iret C0 rfl rfl trivial dX7_faultOf_104
  · refine sx_bipush (v := (-9)) C0 dX7_faultOf_93 (by decide) ?_
    refine sx_goto (tgt := 104) C0 dX7_faultOf_95 (by decide) ?_
    exact sx_iret C0 rfl rfl trivial dX7_faultOf_104
def lX7_faultOf_15    (v1 : Int32) : Nat → vS → Option (Int32 × vS)
  | 0, _ => none
  | n + 1, S => ((gI (S.1 5) 4 v1).bind fun a24 => (if a24 ≤ (S.1 0 12) then (bX7_faultOf_86 S v1) else ((mX7_byteAt S v1 (S.1 0 12)).bind fun a34 => (if a34 = (32 : Int32) then (lt (wI S 0 12 ((S.1 0 12) + (1 : Int32))) fun S49 => ((lX7_faultOf_15 v1 n) S49)) else (if (S.1 0 14) = 0 then ((mX7_readsStores S v1).bind fun q75 => (if q75.1 = 0 then (bX7_faultOf_81 q75.2) else ((lX7_faultOf_15 v1 n) q75.2))) else ((mX7_readsGod S v1).bind fun q64 => (if q64.1 = 0 then (bX7_faultOf_81 q64.2) else ((lX7_faultOf_15 v1 n) q64.2))))))))
set_option maxHeartbeats 4000000 in
set_option maxRecDepth 100000 in
theorem lX7_faultOf_15_t {p : Program} {l : Launch} {e : Env} {s : State} {m : MethodId} {args : Array Value} {below : List Frame} {meth : Method} {c : Code} {D : va_G} {cA : Nat → ClassId} {ad : Nat → Nat}   (C0 : Cx D vwCl tlM shM cA ad ExM RX7 cX7_faultOf 2 (some .int) p s m args meth c)   (v1 : Int32)  : ∀ (n : Nat) (S : vS)  (ls : Array Slot), lv_has ls 2 [(0, .ref (ad 0)), (1, .int v1)] → SW p l e rm_X7_faultOf s m args below meth c D vwCl shM cA ad (Fq D vwCl shM cA ad below args s (fun q => some (.int q.1) : (Int32 × vS) → Option Value) (fun q => q.2) (fun _ => True)) (lX7_faultOf_15 v1 n S) S 15 ls [] := by
  intro n
  induction n with
  | zero =>
    intro S ls hl
    rw [lX7_faultOf_15]
    exact sw_none
  | succ n ih =>
    intro S ls hl
    rw [lX7_faultOf_15]
    refine sx_aload_n C0 dX7_faultOf_15 rfl (lv_at hl 0 rfl) ?_
    refine gf_X7_108 C0 is7 dX7_faultOf_16 ?_
    refine sx_aload_n C0 dX7_faultOf_19 rfl (lv_at hl 0 rfl) ?_
    refine gf_X7_22 C0 is7 dX7_faultOf_20 ?_
    refine sx_iload_n C0 dX7_faultOf_23 rfl (lv_at hl 1 rfl) ?_
    refine sx_iald C0 is7_textSizes rfl dX7_faultOf_24 (fun a24 => ?_)
    refine sx_icmp_ge (tgt := 86) C0 dX7_faultOf_25 (by decide) (fun _ => ?_) (fun _ => ?_)
    · exact bX7_faultOf_86_t C0 _ _ _ (lv_sub hl [0, 1] rfl)
    · refine sx_aload_n C0 dX7_faultOf_28 rfl (lv_at hl 0 rfl) ?_
      refine sx_iload_n C0 dX7_faultOf_29 rfl (lv_at hl 1 rfl) ?_
      refine sx_aload_n C0 dX7_faultOf_30 rfl (lv_at hl 0 rfl) ?_
      refine gf_X7_108 C0 is7 dX7_faultOf_31 ?_
      refine sw_bind (fun a34 e34 => ?_)
      refine cv_X7_111 (As := [.int v1, .int (S.1 0 12)]) C0 (c_X7_byteAt C0.2.2.2.2.2.2.2.1 v1 (S.1 0 12) S _ e34) is7 ⟨rfl, rfl⟩ ⟨Nat.le_of_ble_eq_true rfl, Nat.le_of_ble_eq_true rfl⟩ rfl hl.1 (Nat.le_of_ble_eq_true rfl) rfl dX7_faultOf_34 (fun _ => ?_)
      refine sx_bipush (v := 32) C0 dX7_faultOf_37 (by decide) ?_
      refine sx_icmp_ne (tgt := 55) C0 dX7_faultOf_39 (by decide) (fun _ => ?_) (fun _ => ?_)
      · refine sx_aload_n C0 dX7_faultOf_42 rfl (lv_at hl 0 rfl) ?_
        refine sx_dup C0 dX7_faultOf_43 rfl ?_
        refine gf_X7_108 C0 is7 dX7_faultOf_44 ?_
        refine sx_iconst (v := 1) C0 dX7_faultOf_47 (by decide) ?_
        refine sx_iadd C0 dX7_faultOf_48 ?_
        refine pf_X7_108 C0 is7 dX7_faultOf_49 (fun S49 => ?_)
        refine sx_goto (tgt := 15) C0 dX7_faultOf_52 (by decide) ?_
        exact ih _ _ (lv_sub hl [0, 1] rfl)
      · refine sx_aload_n C0 dX7_faultOf_55 rfl (lv_at hl 0 rfl) ?_
        refine gf_X7_120 C0 is7 dX7_faultOf_56 ?_
        refine sx_if_eq (tgt := 73) C0 dX7_faultOf_59 (by decide) (fun _ => ?_) (fun _ => ?_)
        · refine sx_aload_n C0 dX7_faultOf_73 rfl (lv_at hl 0 rfl) ?_
          refine sx_iload_n C0 dX7_faultOf_74 rfl (lv_at hl 1 rfl) ?_
          refine sw_bind (fun q75 e75 => ?_)
          refine cv_X7_133 (As := [.int v1]) C0 (c_X7_readsStores C0.2.2.2.2.2.2.2.1 v1 S _ e75) is7 ⟨rfl, rfl⟩ ⟨Nat.le_of_ble_eq_true rfl, Nat.le_of_ble_eq_true rfl⟩ rfl hl.1 (Nat.le_of_ble_eq_true rfl) rfl dX7_faultOf_75 (fun hb75 => ?_)
          refine sx_if_ne (tgt := 15) C0 dX7_faultOf_78 (by decide) (fun _ => ?_) (fun _ => ?_)
          · exact bX7_faultOf_81_t C0 _ _ (lv_sub hl [0] rfl)
          · exact ih _ _ (lv_sub hl [0, 1] rfl)
        · refine sx_aload_n C0 dX7_faultOf_62 rfl (lv_at hl 0 rfl) ?_
          refine sx_iload_n C0 dX7_faultOf_63 rfl (lv_at hl 1 rfl) ?_
          refine sw_bind (fun q64 e64 => ?_)
          refine cv_X7_130 (As := [.int v1]) C0 (c_X7_readsGod C0.2.2.2.2.2.2.2.1 v1 S _ e64) is7 ⟨rfl, rfl⟩ ⟨Nat.le_of_ble_eq_true rfl, Nat.le_of_ble_eq_true rfl⟩ rfl hl.1 (Nat.le_of_ble_eq_true rfl) rfl dX7_faultOf_64 (fun hb64 => ?_)
          refine sx_if_eq (tgt := 81) C0 dX7_faultOf_67 (by decide) (fun _ => ?_) (fun _ => ?_)
          · exact bX7_faultOf_81_t C0 _ _ (lv_sub hl [0] rfl)
          · refine sx_goto (tgt := 15) C0 dX7_faultOf_70 (by decide) ?_
            exact ih _ _ (lv_sub hl [0, 1] rfl)
def mX7_faultOf (S : vS) (v1 : Int32) : Option (Int32 × vS) := (lt (wI S 0 12 (0 : Int32)) fun S2 => (lt (wI S2 0 14 (0 : Int32)) fun S7 => (lt (wI S7 0 15 (0 : Int32)) fun S12 => (lX7_faultOf_15 v1 FU S12))))
set_option maxHeartbeats 4000000 in
set_option maxRecDepth 100000 in
theorem c_X7_faultOf {l : Launch} {D : va_G} {cA : Nat → ClassId} {ad : Nat → Nat} (G : Gx shM ad ExM) (v1 : Int32) (S : vS) (r : (Int32 × vS)) (hr : (mX7_faultOf S v1) = some r) : Met l yX7_faultOf (Cond.code yX7_faultOf cX7_faultOf 2 (some .int) :: ALL) rm_X7_faultOf (Po D vwCl tlM shM cA ad ExM [.ref (ad 0), .int v1] S) (Qo D vwCl shM cA ad (some (.int r.1)) r.2 True) 0 0 (aw shM ad) := by
  refine Met.sx (M := (mX7_faultOf S v1)) (rv := (fun q => some (.int q.1) : (Int32 × vS) → Option Value)) (rs := fun q => q.2) (B := fun _ => True) (by decide) ⟨rfl, rfl⟩ (Nat.le_of_ble_eq_true rfl) G (fun p e s m args below meth c C0 ls hl => ?_) hr
  have hl : lv_has ls 2 [(0, .ref (ad 0)), (1, .int v1)] := hl
  rw [mX7_faultOf]
  refine sx_aload_n C0 dX7_faultOf_0 rfl (lv_at hl 0 rfl) ?_
  refine sx_iconst (v := 0) C0 dX7_faultOf_1 (by decide) ?_
  refine pf_X7_108 C0 is7 dX7_faultOf_2 (fun S2 => ?_)
  refine sx_aload_n C0 dX7_faultOf_5 rfl (lv_at hl 0 rfl) ?_
  refine sx_iconst (v := 0) C0 dX7_faultOf_6 (by decide) ?_
  refine pf_X7_120 C0 is7 (Or.inl rfl) dX7_faultOf_7 (fun S7 => ?_)
  refine sx_aload_n C0 dX7_faultOf_10 rfl (lv_at hl 0 rfl) ?_
  refine sx_iconst (v := 0) C0 dX7_faultOf_11 (by decide) ?_
  refine pf_X7_127 C0 is7 dX7_faultOf_12 (fun S12 => ?_)
  exact lX7_faultOf_15_t C0 _ _ _ _ (lv_sub hl [0, 1] rfl)
abbrev rm_X7_fault : Room := { frames := 4, cells := 0, slots := 0, locals := 92 }
def mX7_fault (S : vS) (v1 : Int32) : Option (Int32 × vS) := (if (mX7_isText v1) = 0 then (some ((-1 : Int32), S)) else ((gI (S.1 5) 4 v1).bind fun a14 => (if 0 ≤ a14 then ((mX7_faultOf S v1).bind fun q28 => (some (q28.1, q28.2))) else ((mX7_meets S (1 : Int32)).bind fun q20 => (some (q20.1, q20.2))))))
set_option maxHeartbeats 4000000 in
set_option maxRecDepth 100000 in
theorem c_X7_fault {l : Launch} {D : va_G} {cA : Nat → ClassId} {ad : Nat → Nat} (G : Gx shM ad ExM) (v1 : Int32) (S : vS) (r : (Int32 × vS)) (hr : (mX7_fault S v1) = some r) : Met l yX7_fault (Cond.code yX7_fault cX7_fault 2 (some .int) :: ALL) rm_X7_fault (Po D vwCl tlM shM cA ad ExM [.ref (ad 0), .int v1] S) (Qo D vwCl shM cA ad (some (.int r.1)) r.2 True) 0 0 (aw shM ad) := by
  refine Met.sx (M := (mX7_fault S v1)) (rv := (fun q => some (.int q.1) : (Int32 × vS) → Option Value)) (rs := fun q => q.2) (B := fun _ => True) (by decide) ⟨rfl, rfl⟩ (Nat.le_of_ble_eq_true rfl) G (fun p e s m args below meth c C0 ls hl => ?_) hr
  have hl : lv_has ls 2 [(0, .ref (ad 0)), (1, .int v1)] := hl
  rw [mX7_fault]
  refine sx_iload_n C0 dX7_fault_0 rfl (lv_at hl 1 rfl) ?_
  refine cv_X7_105 (As := [.int v1]) C0 (c_X7_isText C0.2.2.2.2.2.2.2.1 v1 S) ⟨rfl, rfl⟩ ⟨Nat.le_of_ble_eq_true rfl, Nat.le_of_ble_eq_true rfl⟩ rfl hl.1 (Nat.le_of_ble_eq_true rfl) rfl dX7_fault_1 (fun hb1 => ?_)
  refine sx_if_ne (tgt := 9) C0 dX7_fault_4 (by decide) (fun _ => ?_) (fun _ => ?_)
  · refine sx_iconst (v := (-1)) C0 dX7_fault_7 (by decide) ?_
    exact sx_iret C0 rfl rfl trivial dX7_fault_8
  · refine sx_aload_n C0 dX7_fault_9 rfl (lv_at hl 0 rfl) ?_
    refine gf_X7_22 C0 is7 dX7_fault_10 ?_
    refine sx_iload_n C0 dX7_fault_13 rfl (lv_at hl 1 rfl) ?_
    refine sx_iald C0 is7_textSizes rfl dX7_fault_14 (fun a14 => ?_)
    refine sx_if_ge (tgt := 26) C0 dX7_fault_15 (by decide) (fun _ => ?_) (fun _ => ?_)
    · refine sx_aload_n C0 dX7_fault_26 rfl (lv_at hl 0 rfl) ?_
      refine sx_iload_n C0 dX7_fault_27 rfl (lv_at hl 1 rfl) ?_
      refine sw_bind (fun q28 e28 => ?_)
      refine cv_X7_136 (As := [.int v1]) C0 (c_X7_faultOf C0.2.2.2.2.2.2.2.1 v1 S _ e28) is7 ⟨rfl, rfl⟩ ⟨Nat.le_of_ble_eq_true rfl, Nat.le_of_ble_eq_true rfl⟩ rfl hl.1 (Nat.le_of_ble_eq_true rfl) rfl dX7_fault_28 (fun _ => ?_)
      exact sx_iret C0 rfl rfl trivial dX7_fault_31
    · refine sx_aload_n C0 dX7_fault_18 rfl (lv_at hl 0 rfl) ?_
      refine sx_iconst (v := 1) C0 dX7_fault_19 (by decide) ?_
      refine sw_bind (fun q20 e20 => ?_)
      refine cv_X7_94 (As := [.int (1 : Int32)]) C0 (c_X7_meets C0.2.2.2.2.2.2.2.1 (1 : Int32) S _ e20) is7 ⟨rfl, rfl⟩ ⟨Nat.le_of_ble_eq_true rfl, Nat.le_of_ble_eq_true rfl⟩ rfl hl.1 (Nat.le_of_ble_eq_true rfl) rfl dX7_fault_20 (fun _ => ?_)
      refine sx_goto (tgt := 31) C0 dX7_fault_23 (by decide) ?_
      exact sx_iret C0 rfl rfl trivial dX7_fault_31
abbrev rm_X7_place : Room := { frames := 0, cells := 0, slots := 0, locals := 0 }
def mX7_place (S : vS) (v1 : Int32) (v2 : Int32) (v3 : Int32) : Option vS := ((pI S 10 90 (((15 : Int32) * v1) + v2) v3).bind fun S11 => (some S11))
set_option maxHeartbeats 4000000 in
set_option maxRecDepth 100000 in
theorem c_X7_place {l : Launch} {D : va_G} {cA : Nat → ClassId} {ad : Nat → Nat} (G : Gx shM ad ExM) (v1 : Int32) (v2 : Int32) (v3 : Int32) (S : vS) (r : vS) (hr : (mX7_place S v1 v2 v3) = some r) : Met l yX7_place (Cond.code yX7_place cX7_place 4 none :: ALL) rm_X7_place (Po D vwCl tlM shM cA ad ExM [.ref (ad 0), .int v1, .int v2, .int v3] S) (Qo D vwCl shM cA ad none r True) 0 0 (aw shM ad) := by
  refine Met.sx (M := (mX7_place S v1 v2 v3)) (rv := (fun _ => none : vS → Option Value)) (rs := fun S1 => S1) (B := fun _ => True) (by decide) ⟨rfl, rfl⟩ (Nat.le_of_ble_eq_true rfl) G (fun p e s m args below meth c C0 ls hl => ?_) hr
  have hl : lv_has ls 4 [(0, .ref (ad 0)), (1, .int v1), (2, .int v2), (3, .int v3)] := hl
  rw [mX7_place]
  refine sx_aload_n C0 dX7_place_0 rfl (lv_at hl 0 rfl) ?_
  refine gf_X7_38 C0 is7 dX7_place_1 ?_
  refine sx_bipush (v := 15) C0 dX7_place_4 (by decide) ?_
  refine sx_iload_n C0 dX7_place_6 rfl (lv_at hl 1 rfl) ?_
  refine sx_imul C0 dX7_place_7 ?_
  refine sx_iload_n C0 dX7_place_8 rfl (lv_at hl 2 rfl) ?_
  refine sx_iadd C0 dX7_place_9 ?_
  refine sx_iload_n C0 dX7_place_10 rfl (lv_at hl 3 rfl) ?_
  refine sx_iast C0 is7_rowsOf rfl dX7_place_11 (fun S11 => ?_)
  exact sx_vret C0 rfl rfl trivial dX7_place_12
abbrev rm_X7_valley : Room := { frames := 4, cells := 0, slots := 0, locals := 92 }
def bX7_valley_150    (S : vS)   : Option (Int32 × vS) := (some ((S.1 0 10), S))
set_option maxHeartbeats 4000000 in
set_option maxRecDepth 100000 in
theorem bX7_valley_150_t {p : Program} {l : Launch} {e : Env} {s : State} {m : MethodId} {args : Array Value} {below : List Frame} {meth : Method} {c : Code} {D : va_G} {cA : Nat → ClassId} {ad : Nat → Nat}   (C0 : Cx D vwCl tlM shM cA ad ExM RX7 cX7_valley 3 (some .int) p s m args meth c)  (S : vS)  (ls : Array Slot) (hl : lv_has ls 3 [(0, .ref (ad 0))]) : SW p l e rm_X7_valley s m args below meth c D vwCl shM cA ad (Fq D vwCl shM cA ad below args s (fun q => some (.int q.1) : (Int32 × vS) → Option Value) (fun q => q.2) (fun _ => True)) (bX7_valley_150 S) S 150 ls [] := by
  rw [bX7_valley_150]
  refine sx_aload_n C0 dX7_valley_150 rfl (lv_at hl 0 rfl) ?_
  refine gf_X7_139 C0 is7 dX7_valley_151 ?_
  exact sx_iret C0 rfl rfl trivial dX7_valley_154
def lX7_valley_128     : Nat → vS → Int32 → Option (Int32 × vS)
  | 0, _, _ => none
  | n + 1, S, v2 => (if (4 : Int32) ≤ v2 then (bX7_valley_150 S) else ((mX7_place S (0 : Int32) ((8 : Int32) + v2) (-9 : Int32)).bind fun S141 => ((lX7_valley_128 n) S141 (v2 + (1 : Int32)))))
set_option maxHeartbeats 4000000 in
set_option maxRecDepth 100000 in
theorem lX7_valley_128_t {p : Program} {l : Launch} {e : Env} {s : State} {m : MethodId} {args : Array Value} {below : List Frame} {meth : Method} {c : Code} {D : va_G} {cA : Nat → ClassId} {ad : Nat → Nat}   (C0 : Cx D vwCl tlM shM cA ad ExM RX7 cX7_valley 3 (some .int) p s m args meth c)     : ∀ (n : Nat) (S : vS) (v2 : Int32) (ls : Array Slot), lv_has ls 3 [(0, .ref (ad 0)), (2, .int v2)] → SW p l e rm_X7_valley s m args below meth c D vwCl shM cA ad (Fq D vwCl shM cA ad below args s (fun q => some (.int q.1) : (Int32 × vS) → Option Value) (fun q => q.2) (fun _ => True)) (lX7_valley_128 n S v2) S 128 ls [] := by
  intro n
  induction n with
  | zero =>
    intro S v2 ls hl
    rw [lX7_valley_128]
    exact sw_none
  | succ n ih =>
    intro S v2 ls hl
    rw [lX7_valley_128]
    refine sx_iload_n C0 dX7_valley_128 rfl (lv_at hl 1 rfl) ?_
    refine sx_iconst (v := 4) C0 dX7_valley_129 (by decide) ?_
    refine sx_icmp_ge (tgt := 150) C0 dX7_valley_130 (by decide) (fun _ => ?_) (fun _ => ?_)
    · exact bX7_valley_150_t C0 _ _ (lv_sub hl [0] rfl)
    · refine sx_aload_n C0 dX7_valley_133 rfl (lv_at hl 0 rfl) ?_
      refine sx_iconst (v := 0) C0 dX7_valley_134 (by decide) ?_
      refine sx_bipush (v := 8) C0 dX7_valley_135 (by decide) ?_
      refine sx_iload_n C0 dX7_valley_137 rfl (lv_at hl 1 rfl) ?_
      refine sx_iadd C0 dX7_valley_138 ?_
      refine sx_bipush (v := (-9)) C0 dX7_valley_139 (by decide) ?_
      refine sw_bind (fun S141 e141 => ?_)
      refine cv_X7_142 (As := [.int (0 : Int32), .int ((8 : Int32) + v2), .int (-9 : Int32)]) C0 (c_X7_place C0.2.2.2.2.2.2.2.1 (0 : Int32) ((8 : Int32) + v2) (-9 : Int32) S _ e141) is7 ⟨rfl, rfl⟩ ⟨Nat.le_of_ble_eq_true rfl, Nat.le_of_ble_eq_true rfl⟩ rfl hl.1 (Nat.le_of_ble_eq_true rfl) rfl dX7_valley_141 (fun _ => ?_)
      refine sx_iinc (v := (v2 + (1 : Int32))) (lv' := [(2, .int (v2 + (1 : Int32))), (0, .ref (ad 0))]) C0 dX7_valley_144 hl (k := 1) rfl rfl (by decide) rfl (fun ls hl => ?_)
      refine sx_goto (tgt := 128) C0 dX7_valley_147 (by decide) ?_
      exact ih _ _ _ (lv_sub hl [1, 0] rfl)
def bX7_valley_126    (S : vS)   : Option (Int32 × vS) := (lX7_valley_128 FU S (0 : Int32))
set_option maxHeartbeats 4000000 in
set_option maxRecDepth 100000 in
theorem bX7_valley_126_t {p : Program} {l : Launch} {e : Env} {s : State} {m : MethodId} {args : Array Value} {below : List Frame} {meth : Method} {c : Code} {D : va_G} {cA : Nat → ClassId} {ad : Nat → Nat}   (C0 : Cx D vwCl tlM shM cA ad ExM RX7 cX7_valley 3 (some .int) p s m args meth c)  (S : vS)  (ls : Array Slot) (hl : lv_has ls 3 [(0, .ref (ad 0))]) : SW p l e rm_X7_valley s m args below meth c D vwCl shM cA ad (Fq D vwCl shM cA ad below args s (fun q => some (.int q.1) : (Int32 × vS) → Option Value) (fun q => q.2) (fun _ => True)) (bX7_valley_126 S) S 126 ls [] := by
  rw [bX7_valley_126]
  refine sx_iconst (v := 0) C0 dX7_valley_126 (by decide) ?_
  refine sx_istore_n (lv' := [(2, .int (0 : Int32)), (0, .ref (ad 0))]) C0 dX7_valley_127 rfl hl (by decide) rfl (fun ls hl => ?_)
  exact lX7_valley_128_t C0 _ _ _ _ (lv_sub hl [1, 0] rfl)
def lX7_valley_94     : Nat → vS → Int32 → Option (Int32 × vS)
  | 0, _, _ => none
  | n + 1, S, v2 => (if (3 : Int32) ≤ v2 then (bX7_valley_126 S) else ((gI (S.1 8) 3 v2).bind fun a109 => ((mX7_place S (0 : Int32) ((0 : Int32) + v2) a109).bind fun S110 => ((pI S110 13 3 v2 (vp_nar .boolean (0 : Int32))).bind fun S119 => ((lX7_valley_94 n) S119 (v2 + (1 : Int32)))))))
set_option maxHeartbeats 4000000 in
set_option maxRecDepth 100000 in
theorem lX7_valley_94_t {p : Program} {l : Launch} {e : Env} {s : State} {m : MethodId} {args : Array Value} {below : List Frame} {meth : Method} {c : Code} {D : va_G} {cA : Nat → ClassId} {ad : Nat → Nat}   (C0 : Cx D vwCl tlM shM cA ad ExM RX7 cX7_valley 3 (some .int) p s m args meth c)     : ∀ (n : Nat) (S : vS) (v2 : Int32) (ls : Array Slot), lv_has ls 3 [(0, .ref (ad 0)), (2, .int v2)] → SW p l e rm_X7_valley s m args below meth c D vwCl shM cA ad (Fq D vwCl shM cA ad below args s (fun q => some (.int q.1) : (Int32 × vS) → Option Value) (fun q => q.2) (fun _ => True)) (lX7_valley_94 n S v2) S 94 ls [] := by
  intro n
  induction n with
  | zero =>
    intro S v2 ls hl
    rw [lX7_valley_94]
    exact sw_none
  | succ n ih =>
    intro S v2 ls hl
    rw [lX7_valley_94]
    refine sx_iload_n C0 dX7_valley_94 rfl (lv_at hl 1 rfl) ?_
    refine sx_iconst (v := 3) C0 dX7_valley_95 (by decide) ?_
    refine sx_icmp_ge (tgt := 126) C0 dX7_valley_96 (by decide) (fun _ => ?_) (fun _ => ?_)
    · exact bX7_valley_126_t C0 _ _ (lv_sub hl [0] rfl)
    · refine sx_aload_n C0 dX7_valley_99 rfl (lv_at hl 0 rfl) ?_
      refine sx_iconst (v := 0) C0 dX7_valley_100 (by decide) ?_
      refine sx_iconst (v := 0) C0 dX7_valley_101 (by decide) ?_
      refine sx_iload_n C0 dX7_valley_102 rfl (lv_at hl 1 rfl) ?_
      refine sx_iadd C0 dX7_valley_103 ?_
      refine sx_aload_n C0 dX7_valley_104 rfl (lv_at hl 0 rfl) ?_
      refine gf_X7_32 C0 is7 dX7_valley_105 ?_
      refine sx_iload_n C0 dX7_valley_108 rfl (lv_at hl 1 rfl) ?_
      refine sx_iald C0 is7_readStore rfl dX7_valley_109 (fun a109 => ?_)
      refine sw_bind (fun S110 e110 => ?_)
      refine cv_X7_142 (As := [.int (0 : Int32), .int ((0 : Int32) + v2), .int a109]) C0 (c_X7_place C0.2.2.2.2.2.2.2.1 (0 : Int32) ((0 : Int32) + v2) a109 S _ e110) is7 ⟨rfl, rfl⟩ ⟨Nat.le_of_ble_eq_true rfl, Nat.le_of_ble_eq_true rfl⟩ rfl hl.1 (Nat.le_of_ble_eq_true rfl) rfl dX7_valley_110 (fun _ => ?_)
      refine sx_aload_n C0 dX7_valley_113 rfl (lv_at hl 0 rfl) ?_
      refine gf_X7_47 C0 is7 dX7_valley_114 ?_
      refine sx_iload_n C0 dX7_valley_117 rfl (lv_at hl 1 rfl) ?_
      refine sx_iconst (v := 0) C0 dX7_valley_118 (by decide) ?_
      refine sx_zast C0 is7_isKept rfl dX7_valley_119 (fun S119 => ?_)
      refine sx_iinc (v := (v2 + (1 : Int32))) (lv' := [(2, .int (v2 + (1 : Int32))), (0, .ref (ad 0))]) C0 dX7_valley_120 hl (k := 1) rfl rfl (by decide) rfl (fun ls hl => ?_)
      refine sx_goto (tgt := 94) C0 dX7_valley_123 (by decide) ?_
      exact ih _ _ _ (lv_sub hl [1, 0] rfl)
def bX7_valley_92    (S : vS)   : Option (Int32 × vS) := (lX7_valley_94 FU S (0 : Int32))
set_option maxHeartbeats 4000000 in
set_option maxRecDepth 100000 in
theorem bX7_valley_92_t {p : Program} {l : Launch} {e : Env} {s : State} {m : MethodId} {args : Array Value} {below : List Frame} {meth : Method} {c : Code} {D : va_G} {cA : Nat → ClassId} {ad : Nat → Nat}   (C0 : Cx D vwCl tlM shM cA ad ExM RX7 cX7_valley 3 (some .int) p s m args meth c)  (S : vS)  (ls : Array Slot) (hl : lv_has ls 3 [(0, .ref (ad 0))]) : SW p l e rm_X7_valley s m args below meth c D vwCl shM cA ad (Fq D vwCl shM cA ad below args s (fun q => some (.int q.1) : (Int32 × vS) → Option Value) (fun q => q.2) (fun _ => True)) (bX7_valley_92 S) S 92 ls [] := by
  rw [bX7_valley_92]
  refine sx_iconst (v := 0) C0 dX7_valley_92 (by decide) ?_
  refine sx_istore_n (lv' := [(2, .int (0 : Int32)), (0, .ref (ad 0))]) C0 dX7_valley_93 rfl hl (by decide) rfl (fun ls hl => ?_)
  exact lX7_valley_94_t C0 _ _ _ _ (lv_sub hl [1, 0] rfl)
def lX7_valley_73     : Nat → vS → Int32 → Option (Int32 × vS)
  | 0, _, _ => none
  | n + 1, S, v2 => (if (15 : Int32) ≤ v2 then (bX7_valley_92 S) else ((mX7_place S (0 : Int32) v2 (0 : Int32)).bind fun S83 => ((lX7_valley_73 n) S83 (v2 + (1 : Int32)))))
set_option maxHeartbeats 4000000 in
set_option maxRecDepth 100000 in
theorem lX7_valley_73_t {p : Program} {l : Launch} {e : Env} {s : State} {m : MethodId} {args : Array Value} {below : List Frame} {meth : Method} {c : Code} {D : va_G} {cA : Nat → ClassId} {ad : Nat → Nat}   (C0 : Cx D vwCl tlM shM cA ad ExM RX7 cX7_valley 3 (some .int) p s m args meth c)     : ∀ (n : Nat) (S : vS) (v2 : Int32) (ls : Array Slot), lv_has ls 3 [(0, .ref (ad 0)), (2, .int v2)] → SW p l e rm_X7_valley s m args below meth c D vwCl shM cA ad (Fq D vwCl shM cA ad below args s (fun q => some (.int q.1) : (Int32 × vS) → Option Value) (fun q => q.2) (fun _ => True)) (lX7_valley_73 n S v2) S 73 ls [] := by
  intro n
  induction n with
  | zero =>
    intro S v2 ls hl
    rw [lX7_valley_73]
    exact sw_none
  | succ n ih =>
    intro S v2 ls hl
    rw [lX7_valley_73]
    refine sx_iload_n C0 dX7_valley_73 rfl (lv_at hl 1 rfl) ?_
    refine sx_bipush (v := 15) C0 dX7_valley_74 (by decide) ?_
    refine sx_icmp_ge (tgt := 92) C0 dX7_valley_76 (by decide) (fun _ => ?_) (fun _ => ?_)
    · exact bX7_valley_92_t C0 _ _ (lv_sub hl [0] rfl)
    · refine sx_aload_n C0 dX7_valley_79 rfl (lv_at hl 0 rfl) ?_
      refine sx_iconst (v := 0) C0 dX7_valley_80 (by decide) ?_
      refine sx_iload_n C0 dX7_valley_81 rfl (lv_at hl 1 rfl) ?_
      refine sx_iconst (v := 0) C0 dX7_valley_82 (by decide) ?_
      refine sw_bind (fun S83 e83 => ?_)
      refine cv_X7_142 (As := [.int (0 : Int32), .int v2, .int (0 : Int32)]) C0 (c_X7_place C0.2.2.2.2.2.2.2.1 (0 : Int32) v2 (0 : Int32) S _ e83) is7 ⟨rfl, rfl⟩ ⟨Nat.le_of_ble_eq_true rfl, Nat.le_of_ble_eq_true rfl⟩ rfl hl.1 (Nat.le_of_ble_eq_true rfl) rfl dX7_valley_83 (fun _ => ?_)
      refine sx_iinc (v := (v2 + (1 : Int32))) (lv' := [(2, .int (v2 + (1 : Int32))), (0, .ref (ad 0))]) C0 dX7_valley_86 hl (k := 1) rfl rfl (by decide) rfl (fun ls hl => ?_)
      refine sx_goto (tgt := 73) C0 dX7_valley_89 (by decide) ?_
      exact ih _ _ _ (lv_sub hl [1, 0] rfl)
def bX7_valley_71    (S : vS)   : Option (Int32 × vS) := (lX7_valley_73 FU S (0 : Int32))
set_option maxHeartbeats 4000000 in
set_option maxRecDepth 100000 in
theorem bX7_valley_71_t {p : Program} {l : Launch} {e : Env} {s : State} {m : MethodId} {args : Array Value} {below : List Frame} {meth : Method} {c : Code} {D : va_G} {cA : Nat → ClassId} {ad : Nat → Nat}   (C0 : Cx D vwCl tlM shM cA ad ExM RX7 cX7_valley 3 (some .int) p s m args meth c)  (S : vS)  (ls : Array Slot) (hl : lv_has ls 3 [(0, .ref (ad 0))]) : SW p l e rm_X7_valley s m args below meth c D vwCl shM cA ad (Fq D vwCl shM cA ad below args s (fun q => some (.int q.1) : (Int32 × vS) → Option Value) (fun q => q.2) (fun _ => True)) (bX7_valley_71 S) S 71 ls [] := by
  rw [bX7_valley_71]
  refine sx_iconst (v := 0) C0 dX7_valley_71 (by decide) ?_
  refine sx_istore_n (lv' := [(2, .int (0 : Int32)), (0, .ref (ad 0))]) C0 dX7_valley_72 rfl hl (by decide) rfl (fun ls hl => ?_)
  exact lX7_valley_73_t C0 _ _ _ _ (lv_sub hl [1, 0] rfl)
def lX7_valley_47     : Nat → vS → Int32 → Option (Int32 × vS)
  | 0, _, _ => none
  | n + 1, S, v2 => (if (24 : Int32) ≤ v2 then (bX7_valley_71 S) else ((gI (S.1 9) 24 v2).bind fun a63 => ((pI S 7 24 v2 a63).bind fun S64 => ((lX7_valley_47 n) S64 (v2 + (1 : Int32))))))
set_option maxHeartbeats 4000000 in
set_option maxRecDepth 100000 in
theorem lX7_valley_47_t {p : Program} {l : Launch} {e : Env} {s : State} {m : MethodId} {args : Array Value} {below : List Frame} {meth : Method} {c : Code} {D : va_G} {cA : Nat → ClassId} {ad : Nat → Nat}   (C0 : Cx D vwCl tlM shM cA ad ExM RX7 cX7_valley 3 (some .int) p s m args meth c)     : ∀ (n : Nat) (S : vS) (v2 : Int32) (ls : Array Slot), lv_has ls 3 [(0, .ref (ad 0)), (2, .int v2)] → SW p l e rm_X7_valley s m args below meth c D vwCl shM cA ad (Fq D vwCl shM cA ad below args s (fun q => some (.int q.1) : (Int32 × vS) → Option Value) (fun q => q.2) (fun _ => True)) (lX7_valley_47 n S v2) S 47 ls [] := by
  intro n
  induction n with
  | zero =>
    intro S v2 ls hl
    rw [lX7_valley_47]
    exact sw_none
  | succ n ih =>
    intro S v2 ls hl
    rw [lX7_valley_47]
    refine sx_iload_n C0 dX7_valley_47 rfl (lv_at hl 1 rfl) ?_
    refine sx_bipush (v := 24) C0 dX7_valley_48 (by decide) ?_
    refine sx_icmp_ge (tgt := 71) C0 dX7_valley_50 (by decide) (fun _ => ?_) (fun _ => ?_)
    · exact bX7_valley_71_t C0 _ _ (lv_sub hl [0] rfl)
    · refine sx_aload_n C0 dX7_valley_53 rfl (lv_at hl 0 rfl) ?_
      refine gf_X7_29 C0 is7 dX7_valley_54 ?_
      refine sx_iload_n C0 dX7_valley_57 rfl (lv_at hl 1 rfl) ?_
      refine sx_aload_n C0 dX7_valley_58 rfl (lv_at hl 0 rfl) ?_
      refine gf_X7_35 C0 is7 dX7_valley_59 ?_
      refine sx_iload_n C0 dX7_valley_62 rfl (lv_at hl 1 rfl) ?_
      refine sx_iald C0 is7_readGods rfl dX7_valley_63 (fun a63 => ?_)
      refine sx_iast C0 is7_gods rfl dX7_valley_64 (fun S64 => ?_)
      refine sx_iinc (v := (v2 + (1 : Int32))) (lv' := [(2, .int (v2 + (1 : Int32))), (0, .ref (ad 0))]) C0 dX7_valley_65 hl (k := 1) rfl rfl (by decide) rfl (fun ls hl => ?_)
      refine sx_goto (tgt := 47) C0 dX7_valley_68 (by decide) ?_
      exact ih _ _ _ (lv_sub hl [1, 0] rfl)
def mX7_valley (S : vS) (v1 : Int32) : Option (Int32 × vS) := (if (mX7_isText v1) = 0 then (some ((-1 : Int32), S)) else ((gI (S.1 5) 4 v1).bind fun a14 => (if 0 ≤ a14 then ((mX7_faultOf S v1).bind fun q26 => (if q26.1 = (-9 : Int32) then (lt (wI q26.2 0 10 (q26.2.1 0 15)) fun S42 => (lX7_valley_47 FU S42 (0 : Int32))) else (some ((-4 : Int32), q26.2)))) else ((mX7_meets S (1 : Int32)).bind fun q20 => (some (q20.1, q20.2))))))
set_option maxHeartbeats 4000000 in
set_option maxRecDepth 100000 in
theorem c_X7_valley {l : Launch} {D : va_G} {cA : Nat → ClassId} {ad : Nat → Nat} (G : Gx shM ad ExM) (v1 : Int32) (S : vS) (r : (Int32 × vS)) (hr : (mX7_valley S v1) = some r) : Met l yX7_valley (Cond.code yX7_valley cX7_valley 3 (some .int) :: ALL) rm_X7_valley (Po D vwCl tlM shM cA ad ExM [.ref (ad 0), .int v1] S) (Qo D vwCl shM cA ad (some (.int r.1)) r.2 True) 0 0 (aw shM ad) := by
  refine Met.sx (M := (mX7_valley S v1)) (rv := (fun q => some (.int q.1) : (Int32 × vS) → Option Value)) (rs := fun q => q.2) (B := fun _ => True) (by decide) ⟨rfl, rfl⟩ (Nat.le_of_ble_eq_true rfl) G (fun p e s m args below meth c C0 ls hl => ?_) hr
  have hl : lv_has ls 3 [(0, .ref (ad 0)), (1, .int v1)] := hl
  rw [mX7_valley]
  refine sx_iload_n C0 dX7_valley_0 rfl (lv_at hl 1 rfl) ?_
  refine cv_X7_105 (As := [.int v1]) C0 (c_X7_isText C0.2.2.2.2.2.2.2.1 v1 S) ⟨rfl, rfl⟩ ⟨Nat.le_of_ble_eq_true rfl, Nat.le_of_ble_eq_true rfl⟩ rfl hl.1 (Nat.le_of_ble_eq_true rfl) rfl dX7_valley_1 (fun hb1 => ?_)
  refine sx_if_ne (tgt := 9) C0 dX7_valley_4 (by decide) (fun _ => ?_) (fun _ => ?_)
  · refine sx_iconst (v := (-1)) C0 dX7_valley_7 (by decide) ?_
    exact sx_iret C0 rfl rfl trivial dX7_valley_8
  · refine sx_aload_n C0 dX7_valley_9 rfl (lv_at hl 0 rfl) ?_
    refine gf_X7_22 C0 is7 dX7_valley_10 ?_
    refine sx_iload_n C0 dX7_valley_13 rfl (lv_at hl 1 rfl) ?_
    refine sx_iald C0 is7_textSizes rfl dX7_valley_14 (fun a14 => ?_)
    refine sx_if_ge (tgt := 24) C0 dX7_valley_15 (by decide) (fun _ => ?_) (fun _ => ?_)
    · refine sx_aload_n C0 dX7_valley_24 rfl (lv_at hl 0 rfl) ?_
      refine sx_iload_n C0 dX7_valley_25 rfl (lv_at hl 1 rfl) ?_
      refine sw_bind (fun q26 e26 => ?_)
      refine cv_X7_136 (As := [.int v1]) C0 (c_X7_faultOf C0.2.2.2.2.2.2.2.1 v1 S _ e26) is7 ⟨rfl, rfl⟩ ⟨Nat.le_of_ble_eq_true rfl, Nat.le_of_ble_eq_true rfl⟩ rfl hl.1 (Nat.le_of_ble_eq_true rfl) rfl dX7_valley_26 (fun _ => ?_)
      refine sx_bipush (v := (-9)) C0 dX7_valley_29 (by decide) ?_
      refine sx_icmp_eq (tgt := 37) C0 dX7_valley_31 (by decide) (fun _ => ?_) (fun _ => ?_)
      · refine sx_aload_n C0 dX7_valley_37 rfl (lv_at hl 0 rfl) ?_
        refine sx_aload_n C0 dX7_valley_38 rfl (lv_at hl 0 rfl) ?_
        refine gf_X7_127 C0 is7 dX7_valley_39 ?_
        refine pf_X7_139 C0 is7 dX7_valley_42 (fun S42 => ?_)
        refine sx_iconst (v := 0) C0 dX7_valley_45 (by decide) ?_
        refine sx_istore_n (lv' := [(2, .int (0 : Int32)), (0, .ref (ad 0)), (1, .int v1)]) C0 dX7_valley_46 rfl hl (by decide) rfl (fun ls hl => ?_)
        exact lX7_valley_47_t C0 _ _ _ _ (lv_sub hl [1, 0] rfl)
      · refine sx_bipush (v := (-4)) C0 dX7_valley_34 (by decide) ?_
        exact sx_iret C0 rfl rfl trivial dX7_valley_36
    · refine sx_aload_n C0 dX7_valley_18 rfl (lv_at hl 0 rfl) ?_
      refine sx_iconst (v := 1) C0 dX7_valley_19 (by decide) ?_
      refine sw_bind (fun q20 e20 => ?_)
      refine cv_X7_94 (As := [.int (1 : Int32)]) C0 (c_X7_meets C0.2.2.2.2.2.2.2.1 (1 : Int32) S _ e20) is7 ⟨rfl, rfl⟩ ⟨Nat.le_of_ble_eq_true rfl, Nat.le_of_ble_eq_true rfl⟩ rfl hl.1 (Nat.le_of_ble_eq_true rfl) rfl dX7_valley_20 (fun _ => ?_)
      exact sx_iret C0 rfl rfl trivial dX7_valley_23
abbrev rm_X7_isGod : Room := { frames := 1, cells := 0, slots := 0, locals := 22 }
def mX7_isGod (S : vS) (v1 : Int32) : Int32 := (mX7_in v1 (0 : Int32) ((S.1 0 10) - (1 : Int32)))
set_option maxHeartbeats 4000000 in
set_option maxRecDepth 100000 in
theorem c_X7_isGod {l : Launch} {D : va_G} {cA : Nat → ClassId} {ad : Nat → Nat} (G : Gx shM ad ExM) (v1 : Int32) (S : vS) : Met l yX7_isGod (Cond.code yX7_isGod cX7_isGod 2 (some .boolean) :: ALL) rm_X7_isGod (Po D vwCl tlM shM cA ad ExM [.ref (ad 0), .int v1] S) (Qo D vwCl shM cA ad (some (.int (mX7_isGod S v1))) S (isB (mX7_isGod S v1))) 0 0 (aw shM ad) := by
  refine Met.sx (M := some (mX7_isGod S v1)) (rv := (fun r => some (.int r) : Int32 → Option Value)) (rs := fun _ => S) (B := fun r => isB r) (by decide) ⟨rfl, rfl⟩ (Nat.le_of_ble_eq_true rfl) G (fun p e s m args below meth c C0 ls hl => ?_) rfl
  have hl : lv_has ls 2 [(0, .ref (ad 0)), (1, .int v1)] := hl
  rw [mX7_isGod]
  refine sx_iload_n C0 dX7_isGod_0 rfl (lv_at hl 1 rfl) ?_
  refine sx_iconst (v := 0) C0 dX7_isGod_1 (by decide) ?_
  refine sx_aload_n C0 dX7_isGod_2 rfl (lv_at hl 0 rfl) ?_
  refine gf_X7_139 C0 is7 dX7_isGod_3 ?_
  refine sx_iconst (v := 1) C0 dX7_isGod_6 (by decide) ?_
  refine sx_isub C0 dX7_isGod_7 ?_
  refine cv_X7_80 (As := [.int v1, .int (0 : Int32), .int ((S.1 0 10) - (1 : Int32))]) C0 (c_X7_in C0.2.2.2.2.2.2.2.1 v1 (0 : Int32) ((S.1 0 10) - (1 : Int32)) S) ⟨rfl, rfl⟩ ⟨Nat.le_of_ble_eq_true rfl, Nat.le_of_ble_eq_true rfl⟩ rfl hl.1 (Nat.le_of_ble_eq_true rfl) rfl dX7_isGod_8 (fun hb8 => ?_)
  exact sx_zret C0 rfl rfl hb8 hb8 dX7_isGod_11
abbrev rm_X7_kind : Room := { frames := 0, cells := 0, slots := 0, locals := 0 }
def mX7_kind (S : vS) (v1 : Int32) : Option Int32 := ((gI (S.1 7) 24 ((6 : Int32) * v1)).bind fun a8 => (some a8))
set_option maxHeartbeats 4000000 in
set_option maxRecDepth 100000 in
theorem c_X7_kind {l : Launch} {D : va_G} {cA : Nat → ClassId} {ad : Nat → Nat} (G : Gx shM ad ExM) (v1 : Int32) (S : vS) (r : Int32) (hr : (mX7_kind S v1) = some r) : Met l yX7_kind (Cond.code yX7_kind cX7_kind 2 (some .int) :: ALL) rm_X7_kind (Po D vwCl tlM shM cA ad ExM [.ref (ad 0), .int v1] S) (Qo D vwCl shM cA ad (some (.int r)) S True) 0 0 (aw shM ad) := by
  refine Met.sx (M := (mX7_kind S v1)) (rv := (fun r => some (.int r) : Int32 → Option Value)) (rs := fun _ => S) (B := fun _ => True) (by decide) ⟨rfl, rfl⟩ (Nat.le_of_ble_eq_true rfl) G (fun p e s m args below meth c C0 ls hl => ?_) hr
  have hl : lv_has ls 2 [(0, .ref (ad 0)), (1, .int v1)] := hl
  rw [mX7_kind]
  refine sx_aload_n C0 dX7_kind_0 rfl (lv_at hl 0 rfl) ?_
  refine gf_X7_29 C0 is7 dX7_kind_1 ?_
  refine sx_bipush (v := 6) C0 dX7_kind_4 (by decide) ?_
  refine sx_iload_n C0 dX7_kind_6 rfl (lv_at hl 1 rfl) ?_
  refine sx_imul C0 dX7_kind_7 ?_
  refine sx_iald C0 is7_gods rfl dX7_kind_8 (fun a8 => ?_)
  exact sx_iret C0 rfl rfl trivial dX7_kind_9
abbrev rm_X7_patienceOf : Room := { frames := 0, cells := 0, slots := 0, locals := 0 }
def mX7_patienceOf (S : vS) (v1 : Int32) : Option Int32 := ((gI (S.1 7) 24 (((6 : Int32) * v1) + (2 : Int32))).bind fun a10 => (some a10))
set_option maxHeartbeats 4000000 in
set_option maxRecDepth 100000 in
theorem c_X7_patienceOf {l : Launch} {D : va_G} {cA : Nat → ClassId} {ad : Nat → Nat} (G : Gx shM ad ExM) (v1 : Int32) (S : vS) (r : Int32) (hr : (mX7_patienceOf S v1) = some r) : Met l yX7_patienceOf (Cond.code yX7_patienceOf cX7_patienceOf 2 (some .int) :: ALL) rm_X7_patienceOf (Po D vwCl tlM shM cA ad ExM [.ref (ad 0), .int v1] S) (Qo D vwCl shM cA ad (some (.int r)) S True) 0 0 (aw shM ad) := by
  refine Met.sx (M := (mX7_patienceOf S v1)) (rv := (fun r => some (.int r) : Int32 → Option Value)) (rs := fun _ => S) (B := fun _ => True) (by decide) ⟨rfl, rfl⟩ (Nat.le_of_ble_eq_true rfl) G (fun p e s m args below meth c C0 ls hl => ?_) hr
  have hl : lv_has ls 2 [(0, .ref (ad 0)), (1, .int v1)] := hl
  rw [mX7_patienceOf]
  refine sx_aload_n C0 dX7_patienceOf_0 rfl (lv_at hl 0 rfl) ?_
  refine gf_X7_29 C0 is7 dX7_patienceOf_1 ?_
  refine sx_bipush (v := 6) C0 dX7_patienceOf_4 (by decide) ?_
  refine sx_iload_n C0 dX7_patienceOf_6 rfl (lv_at hl 1 rfl) ?_
  refine sx_imul C0 dX7_patienceOf_7 ?_
  refine sx_iconst (v := 2) C0 dX7_patienceOf_8 (by decide) ?_
  refine sx_iadd C0 dX7_patienceOf_9 ?_
  refine sx_iald C0 is7_gods rfl dX7_patienceOf_10 (fun a10 => ?_)
  exact sx_iret C0 rfl rfl trivial dX7_patienceOf_11
abbrev rm_X7_abides : Room := { frames := 0, cells := 0, slots := 0, locals := 0 }
def mX7_abides (S : vS) (v1 : Int32) : Option Int32 := ((gI (S.1 7) 24 (((6 : Int32) * v1) + (5 : Int32))).bind fun a10 => (some a10))
set_option maxHeartbeats 4000000 in
set_option maxRecDepth 100000 in
theorem c_X7_abides {l : Launch} {D : va_G} {cA : Nat → ClassId} {ad : Nat → Nat} (G : Gx shM ad ExM) (v1 : Int32) (S : vS) (r : Int32) (hr : (mX7_abides S v1) = some r) : Met l yX7_abides (Cond.code yX7_abides cX7_abides 2 (some .int) :: ALL) rm_X7_abides (Po D vwCl tlM shM cA ad ExM [.ref (ad 0), .int v1] S) (Qo D vwCl shM cA ad (some (.int r)) S True) 0 0 (aw shM ad) := by
  refine Met.sx (M := (mX7_abides S v1)) (rv := (fun r => some (.int r) : Int32 → Option Value)) (rs := fun _ => S) (B := fun _ => True) (by decide) ⟨rfl, rfl⟩ (Nat.le_of_ble_eq_true rfl) G (fun p e s m args below meth c C0 ls hl => ?_) hr
  have hl : lv_has ls 2 [(0, .ref (ad 0)), (1, .int v1)] := hl
  rw [mX7_abides]
  refine sx_aload_n C0 dX7_abides_0 rfl (lv_at hl 0 rfl) ?_
  refine gf_X7_29 C0 is7 dX7_abides_1 ?_
  refine sx_bipush (v := 6) C0 dX7_abides_4 (by decide) ?_
  refine sx_iload_n C0 dX7_abides_6 rfl (lv_at hl 1 rfl) ?_
  refine sx_imul C0 dX7_abides_7 ?_
  refine sx_iconst (v := 5) C0 dX7_abides_8 (by decide) ?_
  refine sx_iadd C0 dX7_abides_9 ?_
  refine sx_iald C0 is7_gods rfl dX7_abides_10 (fun a10 => ?_)
  exact sx_iret C0 rfl rfl trivial dX7_abides_11
abbrev rm_X7_isSleeper : Room := { frames := 1, cells := 0, slots := 0, locals := 21 }
def mX7_isSleeper (S : vS) (v1 : Int32) : Option Int32 := ((mX7_kind S v1).bind fun a2 => (if a2 = (3 : Int32) then (some (1 : Int32)) else ((mX7_kind S v1).bind fun a11 => (if a11 = (5 : Int32) then (some (1 : Int32)) else (some (0 : Int32))))))
set_option maxHeartbeats 4000000 in
set_option maxRecDepth 100000 in
theorem c_X7_isSleeper {l : Launch} {D : va_G} {cA : Nat → ClassId} {ad : Nat → Nat} (G : Gx shM ad ExM) (v1 : Int32) (S : vS) (r : Int32) (hr : (mX7_isSleeper S v1) = some r) : Met l yX7_isSleeper (Cond.code yX7_isSleeper cX7_isSleeper 2 (some .boolean) :: ALL) rm_X7_isSleeper (Po D vwCl tlM shM cA ad ExM [.ref (ad 0), .int v1] S) (Qo D vwCl shM cA ad (some (.int r)) S (isB r)) 0 0 (aw shM ad) := by
  refine Met.sx (M := (mX7_isSleeper S v1)) (rv := (fun r => some (.int r) : Int32 → Option Value)) (rs := fun _ => S) (B := fun r => isB r) (by decide) ⟨rfl, rfl⟩ (Nat.le_of_ble_eq_true rfl) G (fun p e s m args below meth c C0 ls hl => ?_) hr
  have hl : lv_has ls 2 [(0, .ref (ad 0)), (1, .int v1)] := hl
  rw [mX7_isSleeper]
  refine sx_aload_n C0 dX7_isSleeper_0 rfl (lv_at hl 0 rfl) ?_
  refine sx_iload_n C0 dX7_isSleeper_1 rfl (lv_at hl 1 rfl) ?_
  refine sw_bind (fun a2 e2 => ?_)
  refine cv_X7_146 (As := [.int v1]) C0 (c_X7_kind C0.2.2.2.2.2.2.2.1 v1 S _ e2) is7 ⟨rfl, rfl⟩ ⟨Nat.le_of_ble_eq_true rfl, Nat.le_of_ble_eq_true rfl⟩ rfl hl.1 (Nat.le_of_ble_eq_true rfl) rfl dX7_isSleeper_2 (fun _ => ?_)
  refine sx_iconst (v := 3) C0 dX7_isSleeper_5 (by decide) ?_
  refine sx_icmp_eq (tgt := 18) C0 dX7_isSleeper_6 (by decide) (fun _ => ?_) (fun _ => ?_)
  · refine sx_iconst (v := 1) C0 dX7_isSleeper_18 (by decide) ?_
    refine sx_goto (tgt := 23) C0 dX7_isSleeper_19 (by decide) ?_
    exact sx_zret C0 rfl rfl (Or.inr rfl) (Or.inr rfl) dX7_isSleeper_23
  · refine sx_aload_n C0 dX7_isSleeper_9 rfl (lv_at hl 0 rfl) ?_
    refine sx_iload_n C0 dX7_isSleeper_10 rfl (lv_at hl 1 rfl) ?_
    refine sw_bind (fun a11 e11 => ?_)
    refine cv_X7_146 (As := [.int v1]) C0 (c_X7_kind C0.2.2.2.2.2.2.2.1 v1 S _ e11) is7 ⟨rfl, rfl⟩ ⟨Nat.le_of_ble_eq_true rfl, Nat.le_of_ble_eq_true rfl⟩ rfl hl.1 (Nat.le_of_ble_eq_true rfl) rfl dX7_isSleeper_11 (fun _ => ?_)
    refine sx_iconst (v := 5) C0 dX7_isSleeper_14 (by decide) ?_
    refine sx_icmp_ne (tgt := 22) C0 dX7_isSleeper_15 (by decide) (fun _ => ?_) (fun _ => ?_)
    · refine sx_iconst (v := 1) C0 dX7_isSleeper_18 (by decide) ?_
      refine sx_goto (tgt := 23) C0 dX7_isSleeper_19 (by decide) ?_
      exact sx_zret C0 rfl rfl (Or.inr rfl) (Or.inr rfl) dX7_isSleeper_23
    · refine sx_iconst (v := 0) C0 dX7_isSleeper_22 (by decide) ?_
      exact sx_zret C0 rfl rfl (Or.inl rfl) (Or.inl rfl) dX7_isSleeper_23
abbrev rm_X7_isJealous : Room := { frames := 1, cells := 0, slots := 0, locals := 21 }
def mX7_isJealous (S : vS) (v1 : Int32) : Option Int32 := ((mX7_kind S v1).bind fun a2 => (if a2 = (2 : Int32) then (some (1 : Int32)) else ((mX7_kind S v1).bind fun a11 => (if a11 = (4 : Int32) then (some (1 : Int32)) else (some (0 : Int32))))))
set_option maxHeartbeats 4000000 in
set_option maxRecDepth 100000 in
theorem c_X7_isJealous {l : Launch} {D : va_G} {cA : Nat → ClassId} {ad : Nat → Nat} (G : Gx shM ad ExM) (v1 : Int32) (S : vS) (r : Int32) (hr : (mX7_isJealous S v1) = some r) : Met l yX7_isJealous (Cond.code yX7_isJealous cX7_isJealous 2 (some .boolean) :: ALL) rm_X7_isJealous (Po D vwCl tlM shM cA ad ExM [.ref (ad 0), .int v1] S) (Qo D vwCl shM cA ad (some (.int r)) S (isB r)) 0 0 (aw shM ad) := by
  refine Met.sx (M := (mX7_isJealous S v1)) (rv := (fun r => some (.int r) : Int32 → Option Value)) (rs := fun _ => S) (B := fun r => isB r) (by decide) ⟨rfl, rfl⟩ (Nat.le_of_ble_eq_true rfl) G (fun p e s m args below meth c C0 ls hl => ?_) hr
  have hl : lv_has ls 2 [(0, .ref (ad 0)), (1, .int v1)] := hl
  rw [mX7_isJealous]
  refine sx_aload_n C0 dX7_isJealous_0 rfl (lv_at hl 0 rfl) ?_
  refine sx_iload_n C0 dX7_isJealous_1 rfl (lv_at hl 1 rfl) ?_
  refine sw_bind (fun a2 e2 => ?_)
  refine cv_X7_146 (As := [.int v1]) C0 (c_X7_kind C0.2.2.2.2.2.2.2.1 v1 S _ e2) is7 ⟨rfl, rfl⟩ ⟨Nat.le_of_ble_eq_true rfl, Nat.le_of_ble_eq_true rfl⟩ rfl hl.1 (Nat.le_of_ble_eq_true rfl) rfl dX7_isJealous_2 (fun _ => ?_)
  refine sx_iconst (v := 2) C0 dX7_isJealous_5 (by decide) ?_
  refine sx_icmp_eq (tgt := 18) C0 dX7_isJealous_6 (by decide) (fun _ => ?_) (fun _ => ?_)
  · refine sx_iconst (v := 1) C0 dX7_isJealous_18 (by decide) ?_
    refine sx_goto (tgt := 23) C0 dX7_isJealous_19 (by decide) ?_
    exact sx_zret C0 rfl rfl (Or.inr rfl) (Or.inr rfl) dX7_isJealous_23
  · refine sx_aload_n C0 dX7_isJealous_9 rfl (lv_at hl 0 rfl) ?_
    refine sx_iload_n C0 dX7_isJealous_10 rfl (lv_at hl 1 rfl) ?_
    refine sw_bind (fun a11 e11 => ?_)
    refine cv_X7_146 (As := [.int v1]) C0 (c_X7_kind C0.2.2.2.2.2.2.2.1 v1 S _ e11) is7 ⟨rfl, rfl⟩ ⟨Nat.le_of_ble_eq_true rfl, Nat.le_of_ble_eq_true rfl⟩ rfl hl.1 (Nat.le_of_ble_eq_true rfl) rfl dX7_isJealous_11 (fun _ => ?_)
    refine sx_iconst (v := 4) C0 dX7_isJealous_14 (by decide) ?_
    refine sx_icmp_ne (tgt := 22) C0 dX7_isJealous_15 (by decide) (fun _ => ?_) (fun _ => ?_)
    · refine sx_iconst (v := 1) C0 dX7_isJealous_18 (by decide) ?_
      refine sx_goto (tgt := 23) C0 dX7_isJealous_19 (by decide) ?_
      exact sx_zret C0 rfl rfl (Or.inr rfl) (Or.inr rfl) dX7_isJealous_23
    · refine sx_iconst (v := 0) C0 dX7_isJealous_22 (by decide) ?_
      exact sx_zret C0 rfl rfl (Or.inl rfl) (Or.inl rfl) dX7_isJealous_23
abbrev rm_X7_v : Room := { frames := 0, cells := 0, slots := 0, locals := 0 }
def mX7_v (S : vS) (v1 : Int32) (v2 : Int32) : Option Int32 := ((gI (S.1 10) 90 (((15 : Int32) * v1) + v2)).bind fun a10 => (some a10))
set_option maxHeartbeats 4000000 in
set_option maxRecDepth 100000 in
theorem c_X7_v {l : Launch} {D : va_G} {cA : Nat → ClassId} {ad : Nat → Nat} (G : Gx shM ad ExM) (v1 : Int32) (v2 : Int32) (S : vS) (r : Int32) (hr : (mX7_v S v1 v2) = some r) : Met l yX7_v (Cond.code yX7_v cX7_v 3 (some .int) :: ALL) rm_X7_v (Po D vwCl tlM shM cA ad ExM [.ref (ad 0), .int v1, .int v2] S) (Qo D vwCl shM cA ad (some (.int r)) S True) 0 0 (aw shM ad) := by
  refine Met.sx (M := (mX7_v S v1 v2)) (rv := (fun r => some (.int r) : Int32 → Option Value)) (rs := fun _ => S) (B := fun _ => True) (by decide) ⟨rfl, rfl⟩ (Nat.le_of_ble_eq_true rfl) G (fun p e s m args below meth c C0 ls hl => ?_) hr
  have hl : lv_has ls 3 [(0, .ref (ad 0)), (1, .int v1), (2, .int v2)] := hl
  rw [mX7_v]
  refine sx_aload_n C0 dX7_v_0 rfl (lv_at hl 0 rfl) ?_
  refine gf_X7_38 C0 is7 dX7_v_1 ?_
  refine sx_bipush (v := 15) C0 dX7_v_4 (by decide) ?_
  refine sx_iload_n C0 dX7_v_6 rfl (lv_at hl 1 rfl) ?_
  refine sx_imul C0 dX7_v_7 ?_
  refine sx_iload_n C0 dX7_v_8 rfl (lv_at hl 2 rfl) ?_
  refine sx_iadd C0 dX7_v_9 ?_
  refine sx_iald C0 is7_rowsOf rfl dX7_v_10 (fun a10 => ?_)
  exact sx_iret C0 rfl rfl trivial dX7_v_11
abbrev rm_X7_copyValley : Room := { frames := 1, cells := 0, slots := 0, locals := 23 }
def lX7_copyValley_2    (v1 : Int32) (v2 : Int32) : Nat → vS → Int32 → Option vS
  | 0, _, _ => none
  | n + 1, S, v3 => (if (15 : Int32) ≤ v3 then (some S) else ((mX7_v S v1 v3).bind fun a14 => ((mX7_place S v2 v3 a14).bind fun S17 => ((lX7_copyValley_2 v1 v2 n) S17 (v3 + (1 : Int32))))))
set_option maxHeartbeats 4000000 in
set_option maxRecDepth 100000 in
theorem lX7_copyValley_2_t {p : Program} {l : Launch} {e : Env} {s : State} {m : MethodId} {args : Array Value} {below : List Frame} {meth : Method} {c : Code} {D : va_G} {cA : Nat → ClassId} {ad : Nat → Nat}   (C0 : Cx D vwCl tlM shM cA ad ExM RX7 cX7_copyValley 4 none p s m args meth c)   (v1 : Int32) (v2 : Int32)  : ∀ (n : Nat) (S : vS) (v3 : Int32) (ls : Array Slot), lv_has ls 4 [(0, .ref (ad 0)), (1, .int v1), (2, .int v2), (3, .int v3)] → SW p l e rm_X7_copyValley s m args below meth c D vwCl shM cA ad (Fq D vwCl shM cA ad below args s (fun _ => none : vS → Option Value) (fun S1 => S1) (fun _ => True)) (lX7_copyValley_2 v1 v2 n S v3) S 2 ls [] := by
  intro n
  induction n with
  | zero =>
    intro S v3 ls hl
    rw [lX7_copyValley_2]
    exact sw_none
  | succ n ih =>
    intro S v3 ls hl
    rw [lX7_copyValley_2]
    refine sx_iload_n C0 dX7_copyValley_2 rfl (lv_at hl 3 rfl) ?_
    refine sx_bipush (v := 15) C0 dX7_copyValley_3 (by decide) ?_
    refine sx_icmp_ge (tgt := 26) C0 dX7_copyValley_5 (by decide) (fun _ => ?_) (fun _ => ?_)
    · exact sx_vret C0 rfl rfl trivial dX7_copyValley_26
    · refine sx_aload_n C0 dX7_copyValley_8 rfl (lv_at hl 0 rfl) ?_
      refine sx_iload_n C0 dX7_copyValley_9 rfl (lv_at hl 2 rfl) ?_
      refine sx_iload_n C0 dX7_copyValley_10 rfl (lv_at hl 3 rfl) ?_
      refine sx_aload_n C0 dX7_copyValley_11 rfl (lv_at hl 0 rfl) ?_
      refine sx_iload_n C0 dX7_copyValley_12 rfl (lv_at hl 1 rfl) ?_
      refine sx_iload_n C0 dX7_copyValley_13 rfl (lv_at hl 3 rfl) ?_
      refine sw_bind (fun a14 e14 => ?_)
      refine cv_X7_149 (As := [.int v1, .int v3]) C0 (c_X7_v C0.2.2.2.2.2.2.2.1 v1 v3 S _ e14) is7 ⟨rfl, rfl⟩ ⟨Nat.le_of_ble_eq_true rfl, Nat.le_of_ble_eq_true rfl⟩ rfl hl.1 (Nat.le_of_ble_eq_true rfl) rfl dX7_copyValley_14 (fun _ => ?_)
      refine sw_bind (fun S17 e17 => ?_)
      refine cv_X7_142 (As := [.int v2, .int v3, .int a14]) C0 (c_X7_place C0.2.2.2.2.2.2.2.1 v2 v3 a14 S _ e17) is7 ⟨rfl, rfl⟩ ⟨Nat.le_of_ble_eq_true rfl, Nat.le_of_ble_eq_true rfl⟩ rfl hl.1 (Nat.le_of_ble_eq_true rfl) rfl dX7_copyValley_17 (fun _ => ?_)
      refine sx_iinc (v := (v3 + (1 : Int32))) (lv' := [(3, .int (v3 + (1 : Int32))), (0, .ref (ad 0)), (1, .int v1), (2, .int v2)]) C0 dX7_copyValley_20 hl (k := 3) rfl rfl (by decide) rfl (fun ls hl => ?_)
      refine sx_goto (tgt := 2) C0 dX7_copyValley_23 (by decide) ?_
      exact ih _ _ _ (lv_sub hl [1, 2, 3, 0] rfl)
def mX7_copyValley (S : vS) (v1 : Int32) (v2 : Int32) : Option vS := (lX7_copyValley_2 v1 v2 FU S (0 : Int32))
set_option maxHeartbeats 4000000 in
set_option maxRecDepth 100000 in
theorem c_X7_copyValley {l : Launch} {D : va_G} {cA : Nat → ClassId} {ad : Nat → Nat} (G : Gx shM ad ExM) (v1 : Int32) (v2 : Int32) (S : vS) (r : vS) (hr : (mX7_copyValley S v1 v2) = some r) : Met l yX7_copyValley (Cond.code yX7_copyValley cX7_copyValley 4 none :: ALL) rm_X7_copyValley (Po D vwCl tlM shM cA ad ExM [.ref (ad 0), .int v1, .int v2] S) (Qo D vwCl shM cA ad none r True) 0 0 (aw shM ad) := by
  refine Met.sx (M := (mX7_copyValley S v1 v2)) (rv := (fun _ => none : vS → Option Value)) (rs := fun S1 => S1) (B := fun _ => True) (by decide) ⟨rfl, rfl⟩ (Nat.le_of_ble_eq_true rfl) G (fun p e s m args below meth c C0 ls hl => ?_) hr
  have hl : lv_has ls 4 [(0, .ref (ad 0)), (1, .int v1), (2, .int v2)] := hl
  rw [mX7_copyValley]
  refine sx_iconst (v := 0) C0 dX7_copyValley_0 (by decide) ?_
  refine sx_istore_n (lv' := [(3, .int (0 : Int32)), (0, .ref (ad 0)), (1, .int v1), (2, .int v2)]) C0 dX7_copyValley_1 rfl hl (by decide) rfl (fun ls hl => ?_)
  exact lX7_copyValley_2_t C0 _ _ _ _ _ _ (lv_sub hl [1, 2, 3, 0] rfl)
abbrev rm_X7_isGone : Room := { frames := 1, cells := 0, slots := 0, locals := 22 }
def mX7_isGone (S : vS) (v1 : Int32) (v2 : Int32) : Option Int32 := ((mX7_v S v1 ((3 : Int32) + v2)).bind fun a5 => (if a5 = (-9 : Int32) then (some (1 : Int32)) else (some (0 : Int32))))
set_option maxHeartbeats 4000000 in
set_option maxRecDepth 100000 in
theorem c_X7_isGone {l : Launch} {D : va_G} {cA : Nat → ClassId} {ad : Nat → Nat} (G : Gx shM ad ExM) (v1 : Int32) (v2 : Int32) (S : vS) (r : Int32) (hr : (mX7_isGone S v1 v2) = some r) : Met l yX7_isGone (Cond.code yX7_isGone cX7_isGone 3 (some .boolean) :: ALL) rm_X7_isGone (Po D vwCl tlM shM cA ad ExM [.ref (ad 0), .int v1, .int v2] S) (Qo D vwCl shM cA ad (some (.int r)) S (isB r)) 0 0 (aw shM ad) := by
  refine Met.sx (M := (mX7_isGone S v1 v2)) (rv := (fun r => some (.int r) : Int32 → Option Value)) (rs := fun _ => S) (B := fun r => isB r) (by decide) ⟨rfl, rfl⟩ (Nat.le_of_ble_eq_true rfl) G (fun p e s m args below meth c C0 ls hl => ?_) hr
  have hl : lv_has ls 3 [(0, .ref (ad 0)), (1, .int v1), (2, .int v2)] := hl
  rw [mX7_isGone]
  refine sx_aload_n C0 dX7_isGone_0 rfl (lv_at hl 0 rfl) ?_
  refine sx_iload_n C0 dX7_isGone_1 rfl (lv_at hl 1 rfl) ?_
  refine sx_iconst (v := 3) C0 dX7_isGone_2 (by decide) ?_
  refine sx_iload_n C0 dX7_isGone_3 rfl (lv_at hl 2 rfl) ?_
  refine sx_iadd C0 dX7_isGone_4 ?_
  refine sw_bind (fun a5 e5 => ?_)
  refine cv_X7_149 (As := [.int v1, .int ((3 : Int32) + v2)]) C0 (c_X7_v C0.2.2.2.2.2.2.2.1 v1 ((3 : Int32) + v2) S _ e5) is7 ⟨rfl, rfl⟩ ⟨Nat.le_of_ble_eq_true rfl, Nat.le_of_ble_eq_true rfl⟩ rfl hl.1 (Nat.le_of_ble_eq_true rfl) rfl dX7_isGone_5 (fun _ => ?_)
  refine sx_bipush (v := (-9)) C0 dX7_isGone_8 (by decide) ?_
  refine sx_icmp_ne (tgt := 17) C0 dX7_isGone_10 (by decide) (fun _ => ?_) (fun _ => ?_)
  · refine sx_iconst (v := 1) C0 dX7_isGone_13 (by decide) ?_
    refine sx_goto (tgt := 18) C0 dX7_isGone_14 (by decide) ?_
    exact sx_zret C0 rfl rfl (Or.inr rfl) (Or.inr rfl) dX7_isGone_18
  · refine sx_iconst (v := 0) C0 dX7_isGone_17 (by decide) ?_
    exact sx_zret C0 rfl rfl (Or.inl rfl) (Or.inl rfl) dX7_isGone_18
abbrev rm_X7_sleeps : Room := { frames := 2, cells := 0, slots := 0, locals := 42 }
def bX7_sleeps_25    (S : vS)   : Option Int32 := (some (0 : Int32))
set_option maxHeartbeats 4000000 in
set_option maxRecDepth 100000 in
theorem bX7_sleeps_25_t {p : Program} {l : Launch} {e : Env} {s : State} {m : MethodId} {args : Array Value} {below : List Frame} {meth : Method} {c : Code} {D : va_G} {cA : Nat → ClassId} {ad : Nat → Nat}   (C0 : Cx D vwCl tlM shM cA ad ExM RX7 cX7_sleeps 3 (some .boolean) p s m args meth c)  (S : vS)  (ls : Array Slot) (hl : lv_has ls 3 []) : SW p l e rm_X7_sleeps s m args below meth c D vwCl shM cA ad (Fq D vwCl shM cA ad below args s (fun r => some (.int r) : Int32 → Option Value) (fun _ => S) (fun r => isB r)) (bX7_sleeps_25 S) S 25 ls [] := by
  rw [bX7_sleeps_25]
  refine sx_iconst (v := 0) C0 dX7_sleeps_25 (by decide) ?_
  exact sx_zret C0 rfl rfl (Or.inl rfl) (Or.inl rfl) dX7_sleeps_26
def mX7_sleeps (S : vS) (v1 : Int32) (v2 : Int32) : Option Int32 := ((mX7_isSleeper S v2).bind fun a2 => (if a2 = 0 then (bX7_sleeps_25 S) else ((mX7_v S v1 (14 : Int32)).bind fun a12 => (if (a12 - a12 / (2 : Int32) * (2 : Int32)) = (1 : Int32) then (some (1 : Int32)) else (bX7_sleeps_25 S)))))
set_option maxHeartbeats 4000000 in
set_option maxRecDepth 100000 in
theorem c_X7_sleeps {l : Launch} {D : va_G} {cA : Nat → ClassId} {ad : Nat → Nat} (G : Gx shM ad ExM) (v1 : Int32) (v2 : Int32) (S : vS) (r : Int32) (hr : (mX7_sleeps S v1 v2) = some r) : Met l yX7_sleeps (Cond.code yX7_sleeps cX7_sleeps 3 (some .boolean) :: ALL) rm_X7_sleeps (Po D vwCl tlM shM cA ad ExM [.ref (ad 0), .int v1, .int v2] S) (Qo D vwCl shM cA ad (some (.int r)) S (isB r)) 0 0 (aw shM ad) := by
  refine Met.sx (M := (mX7_sleeps S v1 v2)) (rv := (fun r => some (.int r) : Int32 → Option Value)) (rs := fun _ => S) (B := fun r => isB r) (by decide) ⟨rfl, rfl⟩ (Nat.le_of_ble_eq_true rfl) G (fun p e s m args below meth c C0 ls hl => ?_) hr
  have hl : lv_has ls 3 [(0, .ref (ad 0)), (1, .int v1), (2, .int v2)] := hl
  rw [mX7_sleeps]
  refine sx_aload_n C0 dX7_sleeps_0 rfl (lv_at hl 0 rfl) ?_
  refine sx_iload_n C0 dX7_sleeps_1 rfl (lv_at hl 2 rfl) ?_
  refine sw_bind (fun a2 e2 => ?_)
  refine cv_X7_152 (As := [.int v2]) C0 (c_X7_isSleeper C0.2.2.2.2.2.2.2.1 v2 S _ e2) is7 ⟨rfl, rfl⟩ ⟨Nat.le_of_ble_eq_true rfl, Nat.le_of_ble_eq_true rfl⟩ rfl hl.1 (Nat.le_of_ble_eq_true rfl) rfl dX7_sleeps_2 (fun hb2 => ?_)
  refine sx_if_eq (tgt := 25) C0 dX7_sleeps_5 (by decide) (fun _ => ?_) (fun _ => ?_)
  · exact bX7_sleeps_25_t C0 _ _ (lv_sub hl [] rfl)
  · refine sx_aload_n C0 dX7_sleeps_8 rfl (lv_at hl 0 rfl) ?_
    refine sx_iload_n C0 dX7_sleeps_9 rfl (lv_at hl 1 rfl) ?_
    refine sx_bipush (v := 14) C0 dX7_sleeps_10 (by decide) ?_
    refine sw_bind (fun a12 e12 => ?_)
    refine cv_X7_149 (As := [.int v1, .int (14 : Int32)]) C0 (c_X7_v C0.2.2.2.2.2.2.2.1 v1 (14 : Int32) S _ e12) is7 ⟨rfl, rfl⟩ ⟨Nat.le_of_ble_eq_true rfl, Nat.le_of_ble_eq_true rfl⟩ rfl hl.1 (Nat.le_of_ble_eq_true rfl) rfl dX7_sleeps_12 (fun _ => ?_)
    refine sx_iconst (v := 2) C0 dX7_sleeps_15 (by decide) ?_
    refine sx_irem C0 dX7_sleeps_16 (by decide) ?_
    refine sx_iconst (v := 1) C0 dX7_sleeps_17 (by decide) ?_
    refine sx_icmp_ne (tgt := 25) C0 dX7_sleeps_18 (by decide) (fun _ => ?_) (fun _ => ?_)
    · refine sx_iconst (v := 1) C0 dX7_sleeps_21 (by decide) ?_
      refine sx_goto (tgt := 26) C0 dX7_sleeps_22 (by decide) ?_
      exact sx_zret C0 rfl rfl (Or.inr rfl) (Or.inr rfl) dX7_sleeps_26
    · exact bX7_sleeps_25_t C0 _ _ (lv_sub hl [] rfl)
abbrev rm_X7_isUp : Room := { frames := 3, cells := 0, slots := 0, locals := 64 }
def bX7_isUp_22    (S : vS)   : Option Int32 := (some (0 : Int32))
set_option maxHeartbeats 4000000 in
set_option maxRecDepth 100000 in
theorem bX7_isUp_22_t {p : Program} {l : Launch} {e : Env} {s : State} {m : MethodId} {args : Array Value} {below : List Frame} {meth : Method} {c : Code} {D : va_G} {cA : Nat → ClassId} {ad : Nat → Nat}   (C0 : Cx D vwCl tlM shM cA ad ExM RX7 cX7_isUp 3 (some .boolean) p s m args meth c)  (S : vS)  (ls : Array Slot) (hl : lv_has ls 3 []) : SW p l e rm_X7_isUp s m args below meth c D vwCl shM cA ad (Fq D vwCl shM cA ad below args s (fun r => some (.int r) : Int32 → Option Value) (fun _ => S) (fun r => isB r)) (bX7_isUp_22 S) S 22 ls [] := by
  rw [bX7_isUp_22]
  refine sx_iconst (v := 0) C0 dX7_isUp_22 (by decide) ?_
  exact sx_zret C0 rfl rfl (Or.inl rfl) (Or.inl rfl) dX7_isUp_23
def mX7_isUp (S : vS) (v1 : Int32) (v2 : Int32) : Option Int32 := ((mX7_isGone S v1 v2).bind fun a3 => (if a3 = 0 then ((mX7_sleeps S v1 v2).bind fun a12 => (if a12 = 0 then (some (1 : Int32)) else (bX7_isUp_22 S))) else (bX7_isUp_22 S)))
set_option maxHeartbeats 4000000 in
set_option maxRecDepth 100000 in
theorem c_X7_isUp {l : Launch} {D : va_G} {cA : Nat → ClassId} {ad : Nat → Nat} (G : Gx shM ad ExM) (v1 : Int32) (v2 : Int32) (S : vS) (r : Int32) (hr : (mX7_isUp S v1 v2) = some r) : Met l yX7_isUp (Cond.code yX7_isUp cX7_isUp 3 (some .boolean) :: ALL) rm_X7_isUp (Po D vwCl tlM shM cA ad ExM [.ref (ad 0), .int v1, .int v2] S) (Qo D vwCl shM cA ad (some (.int r)) S (isB r)) 0 0 (aw shM ad) := by
  refine Met.sx (M := (mX7_isUp S v1 v2)) (rv := (fun r => some (.int r) : Int32 → Option Value)) (rs := fun _ => S) (B := fun r => isB r) (by decide) ⟨rfl, rfl⟩ (Nat.le_of_ble_eq_true rfl) G (fun p e s m args below meth c C0 ls hl => ?_) hr
  have hl : lv_has ls 3 [(0, .ref (ad 0)), (1, .int v1), (2, .int v2)] := hl
  rw [mX7_isUp]
  refine sx_aload_n C0 dX7_isUp_0 rfl (lv_at hl 0 rfl) ?_
  refine sx_iload_n C0 dX7_isUp_1 rfl (lv_at hl 1 rfl) ?_
  refine sx_iload_n C0 dX7_isUp_2 rfl (lv_at hl 2 rfl) ?_
  refine sw_bind (fun a3 e3 => ?_)
  refine cv_X7_155 (As := [.int v1, .int v2]) C0 (c_X7_isGone C0.2.2.2.2.2.2.2.1 v1 v2 S _ e3) is7 ⟨rfl, rfl⟩ ⟨Nat.le_of_ble_eq_true rfl, Nat.le_of_ble_eq_true rfl⟩ rfl hl.1 (Nat.le_of_ble_eq_true rfl) rfl dX7_isUp_3 (fun hb3 => ?_)
  refine sx_if_ne (tgt := 22) C0 dX7_isUp_6 (by decide) (fun _ => ?_) (fun _ => ?_)
  · refine sx_aload_n C0 dX7_isUp_9 rfl (lv_at hl 0 rfl) ?_
    refine sx_iload_n C0 dX7_isUp_10 rfl (lv_at hl 1 rfl) ?_
    refine sx_iload_n C0 dX7_isUp_11 rfl (lv_at hl 2 rfl) ?_
    refine sw_bind (fun a12 e12 => ?_)
    refine cv_X7_159 (As := [.int v1, .int v2]) C0 (c_X7_sleeps C0.2.2.2.2.2.2.2.1 v1 v2 S _ e12) is7 ⟨rfl, rfl⟩ ⟨Nat.le_of_ble_eq_true rfl, Nat.le_of_ble_eq_true rfl⟩ rfl hl.1 (Nat.le_of_ble_eq_true rfl) rfl dX7_isUp_12 (fun hb12 => ?_)
    refine sx_if_ne (tgt := 22) C0 dX7_isUp_15 (by decide) (fun _ => ?_) (fun _ => ?_)
    · refine sx_iconst (v := 1) C0 dX7_isUp_18 (by decide) ?_
      refine sx_goto (tgt := 23) C0 dX7_isUp_19 (by decide) ?_
      exact sx_zret C0 rfl rfl (Or.inr rfl) (Or.inr rfl) dX7_isUp_23
    · exact bX7_isUp_22_t C0 _ _ (lv_sub hl [] rfl)
  · exact bX7_isUp_22_t C0 _ _ (lv_sub hl [] rfl)
abbrev rm_X7_fedBy : Room := { frames := 4, cells := 0, slots := 0, locals := 86 }
def bX7_fedBy_92   (K7 : Int32 → Int32 → Option Int32) (S : vS) (v1 : Int32) (v2 : Int32) (v4 : Int32) (t0 : Int32) (t1 : Int32) : Option Int32 := (lt (t1 ||| t0) fun v3_93 => (K7 v3_93 (v4 + (1 : Int32))))
set_option maxHeartbeats 4000000 in
set_option maxRecDepth 100000 in
theorem bX7_fedBy_92_t {p : Program} {l : Launch} {e : Env} {s : State} {m : MethodId} {args : Array Value} {below : List Frame} {meth : Method} {c : Code} {D : va_G} {cA : Nat → ClassId} {ad : Nat → Nat} {K7 : Int32 → Int32 → Option Int32}  (C0 : Cx D vwCl tlM shM cA ad ExM RX7 cX7_fedBy 6 (some .int) p s m args meth c)  (S : vS) (v1 : Int32) (v2 : Int32) (v4 : Int32) (t0 : Int32) (t1 : Int32) (hK7 : ∀ (v3 : Int32) (v4 : Int32) (ls : Array Slot), lv_has ls 6 [(0, .ref (ad 0)), (1, .int v1), (2, .int v2), (3, .int v3), (4, .int v4)] → SW p l e rm_X7_fedBy s m args below meth c D vwCl shM cA ad (Fq D vwCl shM cA ad below args s (fun r => some (.int r) : Int32 → Option Value) (fun _ => S) (fun _ => True)) (K7 v3 v4) S 7 ls []) (ls : Array Slot) (hl : lv_has ls 6 [(0, .ref (ad 0)), (1, .int v1), (2, .int v2), (4, .int v4)]) : SW p l e rm_X7_fedBy s m args below meth c D vwCl shM cA ad (Fq D vwCl shM cA ad below args s (fun r => some (.int r) : Int32 → Option Value) (fun _ => S) (fun _ => True)) (bX7_fedBy_92 K7 S v1 v2 v4 t0 t1) S 92 ls [.int t0, .int t1] := by
  rw [bX7_fedBy_92]
  refine sx_ior C0 dX7_fedBy_92 ?_
  refine sw_lt (val := .int) (fun v3_93 => ?_)
  refine sx_istore_n (lv' := [(3, .int v3_93), (0, .ref (ad 0)), (1, .int v1), (2, .int v2), (4, .int v4)]) C0 dX7_fedBy_93 rfl hl (by decide) rfl (fun ls hl => ?_)
  refine sx_iinc (v := (v4 + (1 : Int32))) (lv' := [(4, .int (v4 + (1 : Int32))), (3, .int v3_93), (0, .ref (ad 0)), (1, .int v1), (2, .int v2)]) C0 dX7_fedBy_94 hl (k := 4) rfl rfl (by decide) rfl (fun ls hl => ?_)
  refine sx_goto (tgt := 7) C0 dX7_fedBy_97 (by decide) ?_
  exact hK7 _ _ _ (lv_sub hl [2, 3, 4, 1, 0] rfl)
def bX7_fedBy_91   (K7 : Int32 → Int32 → Option Int32) (S : vS) (v1 : Int32) (v2 : Int32) (v4 : Int32) (t0 : Int32) : Option Int32 := (bX7_fedBy_92 K7 S v1 v2 v4 (0 : Int32) t0)
set_option maxHeartbeats 4000000 in
set_option maxRecDepth 100000 in
theorem bX7_fedBy_91_t {p : Program} {l : Launch} {e : Env} {s : State} {m : MethodId} {args : Array Value} {below : List Frame} {meth : Method} {c : Code} {D : va_G} {cA : Nat → ClassId} {ad : Nat → Nat} {K7 : Int32 → Int32 → Option Int32}  (C0 : Cx D vwCl tlM shM cA ad ExM RX7 cX7_fedBy 6 (some .int) p s m args meth c)  (S : vS) (v1 : Int32) (v2 : Int32) (v4 : Int32) (t0 : Int32) (hK7 : ∀ (v3 : Int32) (v4 : Int32) (ls : Array Slot), lv_has ls 6 [(0, .ref (ad 0)), (1, .int v1), (2, .int v2), (3, .int v3), (4, .int v4)] → SW p l e rm_X7_fedBy s m args below meth c D vwCl shM cA ad (Fq D vwCl shM cA ad below args s (fun r => some (.int r) : Int32 → Option Value) (fun _ => S) (fun _ => True)) (K7 v3 v4) S 7 ls []) (ls : Array Slot) (hl : lv_has ls 6 [(0, .ref (ad 0)), (1, .int v1), (2, .int v2), (4, .int v4)]) : SW p l e rm_X7_fedBy s m args below meth c D vwCl shM cA ad (Fq D vwCl shM cA ad below args s (fun r => some (.int r) : Int32 → Option Value) (fun _ => S) (fun _ => True)) (bX7_fedBy_91 K7 S v1 v2 v4 t0) S 91 ls [.int t0] := by
  rw [bX7_fedBy_91]
  refine sx_iconst (v := 0) C0 dX7_fedBy_91 (by decide) ?_
  exact bX7_fedBy_92_t C0 _ _ _ _ _ _ hK7 _ (lv_sub hl [0, 1, 2, 3] rfl)
def bX7_fedBy_60   (K7 : Int32 → Int32 → Option Int32) (S : vS) (v1 : Int32) (v2 : Int32) (v3 : Int32) (v4 : Int32) (t0 : Int32) : Option Int32 := (if v4 = v2 then (bX7_fedBy_91 K7 S v1 v2 v4 v3) else (if t0 = 0 then (bX7_fedBy_91 K7 S v1 v2 v4 v3) else ((mX7_isUp S v1 v4).bind fun a78 => (if a78 = 0 then (bX7_fedBy_91 K7 S v1 v2 v4 v3) else (bX7_fedBy_92 K7 S v1 v2 v4 ((1 : Int32) <<< (v4 &&& (31 : Int32))) v3)))))
set_option maxHeartbeats 4000000 in
set_option maxRecDepth 100000 in
theorem bX7_fedBy_60_t {p : Program} {l : Launch} {e : Env} {s : State} {m : MethodId} {args : Array Value} {below : List Frame} {meth : Method} {c : Code} {D : va_G} {cA : Nat → ClassId} {ad : Nat → Nat} {K7 : Int32 → Int32 → Option Int32}  (C0 : Cx D vwCl tlM shM cA ad ExM RX7 cX7_fedBy 6 (some .int) p s m args meth c)  (S : vS) (v1 : Int32) (v2 : Int32) (v3 : Int32) (v4 : Int32) (t0 : Int32) (hK7 : ∀ (v3 : Int32) (v4 : Int32) (ls : Array Slot), lv_has ls 6 [(0, .ref (ad 0)), (1, .int v1), (2, .int v2), (3, .int v3), (4, .int v4)] → SW p l e rm_X7_fedBy s m args below meth c D vwCl shM cA ad (Fq D vwCl shM cA ad below args s (fun r => some (.int r) : Int32 → Option Value) (fun _ => S) (fun _ => True)) (K7 v3 v4) S 7 ls []) (ls : Array Slot) (hl : lv_has ls 6 [(0, .ref (ad 0)), (1, .int v1), (2, .int v2), (3, .int v3), (4, .int v4)]) : SW p l e rm_X7_fedBy s m args below meth c D vwCl shM cA ad (Fq D vwCl shM cA ad below args s (fun r => some (.int r) : Int32 → Option Value) (fun _ => S) (fun _ => True)) (bX7_fedBy_60 K7 S v1 v2 v3 v4 t0) S 60 ls [.int t0] := by
  rw [bX7_fedBy_60]
  refine sx_istore (lv' := [(5, .int t0), (0, .ref (ad 0)), (1, .int v1), (2, .int v2), (3, .int v3), (4, .int v4)]) C0 dX7_fedBy_60 hl (by decide) rfl (fun ls hl => ?_)
  refine sx_iload_n C0 dX7_fedBy_62 rfl (lv_at hl 4 rfl) ?_
  refine sx_iload C0 dX7_fedBy_63 (lv_at hl 5 rfl) ?_
  refine sx_iload_n C0 dX7_fedBy_65 rfl (lv_at hl 3 rfl) ?_
  refine sx_icmp_eq (tgt := 91) C0 dX7_fedBy_66 (by decide) (fun _ => ?_) (fun _ => ?_)
  · exact bX7_fedBy_91_t C0 _ _ _ _ _ hK7 _ (lv_sub hl [1, 2, 3, 5] rfl)
  · refine sx_iload C0 dX7_fedBy_69 (lv_at hl 0 rfl) ?_
    refine sx_if_eq (tgt := 91) C0 dX7_fedBy_71 (by decide) (fun _ => ?_) (fun _ => ?_)
    · exact bX7_fedBy_91_t C0 _ _ _ _ _ hK7 _ (lv_sub hl [1, 2, 3, 5] rfl)
    · refine sx_aload_n C0 dX7_fedBy_74 rfl (lv_at hl 1 rfl) ?_
      refine sx_iload_n C0 dX7_fedBy_75 rfl (lv_at hl 2 rfl) ?_
      refine sx_iload C0 dX7_fedBy_76 (lv_at hl 5 rfl) ?_
      refine sw_bind (fun a78 e78 => ?_)
      refine cv_X7_165 (As := [.int v1, .int v4]) C0 (c_X7_isUp C0.2.2.2.2.2.2.2.1 v1 v4 S _ e78) is7 ⟨rfl, rfl⟩ ⟨Nat.le_of_ble_eq_true rfl, Nat.le_of_ble_eq_true rfl⟩ rfl hl.1 (Nat.le_of_ble_eq_true rfl) rfl dX7_fedBy_78 (fun hb78 => ?_)
      refine sx_if_eq (tgt := 91) C0 dX7_fedBy_81 (by decide) (fun _ => ?_) (fun _ => ?_)
      · exact bX7_fedBy_91_t C0 _ _ _ _ _ hK7 _ (lv_sub hl [1, 2, 3, 5] rfl)
      · refine sx_iconst (v := 1) C0 dX7_fedBy_84 (by decide) ?_
        refine sx_iload C0 dX7_fedBy_85 (lv_at hl 5 rfl) ?_
        refine sx_ishl C0 dX7_fedBy_87 ?_
        refine sx_goto (tgt := 92) C0 dX7_fedBy_88 (by decide) ?_
        exact bX7_fedBy_92_t C0 _ _ _ _ _ _ hK7 _ (lv_sub hl [1, 2, 3, 5] rfl)
def bX7_fedBy_59   (K7 : Int32 → Int32 → Option Int32) (S : vS) (v1 : Int32) (v2 : Int32) (v3 : Int32) (v4 : Int32)  : Option Int32 := (bX7_fedBy_60 K7 S v1 v2 v3 v4 (0 : Int32))
set_option maxHeartbeats 4000000 in
set_option maxRecDepth 100000 in
theorem bX7_fedBy_59_t {p : Program} {l : Launch} {e : Env} {s : State} {m : MethodId} {args : Array Value} {below : List Frame} {meth : Method} {c : Code} {D : va_G} {cA : Nat → ClassId} {ad : Nat → Nat} {K7 : Int32 → Int32 → Option Int32}  (C0 : Cx D vwCl tlM shM cA ad ExM RX7 cX7_fedBy 6 (some .int) p s m args meth c)  (S : vS) (v1 : Int32) (v2 : Int32) (v3 : Int32) (v4 : Int32) (hK7 : ∀ (v3 : Int32) (v4 : Int32) (ls : Array Slot), lv_has ls 6 [(0, .ref (ad 0)), (1, .int v1), (2, .int v2), (3, .int v3), (4, .int v4)] → SW p l e rm_X7_fedBy s m args below meth c D vwCl shM cA ad (Fq D vwCl shM cA ad below args s (fun r => some (.int r) : Int32 → Option Value) (fun _ => S) (fun _ => True)) (K7 v3 v4) S 7 ls []) (ls : Array Slot) (hl : lv_has ls 6 [(0, .ref (ad 0)), (1, .int v1), (2, .int v2), (3, .int v3), (4, .int v4)]) : SW p l e rm_X7_fedBy s m args below meth c D vwCl shM cA ad (Fq D vwCl shM cA ad below args s (fun r => some (.int r) : Int32 → Option Value) (fun _ => S) (fun _ => True)) (bX7_fedBy_59 K7 S v1 v2 v3 v4) S 59 ls [] := by
  rw [bX7_fedBy_59]
  refine sx_iconst (v := 0) C0 dX7_fedBy_59 (by decide) ?_
  exact bX7_fedBy_60_t C0 _ _ _ _ _ _ hK7 _ (lv_sub hl [0, 1, 2, 3, 4] rfl)
def bX7_fedBy_55   (K7 : Int32 → Int32 → Option Int32) (S : vS) (v1 : Int32) (v2 : Int32) (v3 : Int32) (v4 : Int32)  : Option Int32 := (bX7_fedBy_60 K7 S v1 v2 v3 v4 (1 : Int32))
set_option maxHeartbeats 4000000 in
set_option maxRecDepth 100000 in
theorem bX7_fedBy_55_t {p : Program} {l : Launch} {e : Env} {s : State} {m : MethodId} {args : Array Value} {below : List Frame} {meth : Method} {c : Code} {D : va_G} {cA : Nat → ClassId} {ad : Nat → Nat} {K7 : Int32 → Int32 → Option Int32}  (C0 : Cx D vwCl tlM shM cA ad ExM RX7 cX7_fedBy 6 (some .int) p s m args meth c)  (S : vS) (v1 : Int32) (v2 : Int32) (v3 : Int32) (v4 : Int32) (hK7 : ∀ (v3 : Int32) (v4 : Int32) (ls : Array Slot), lv_has ls 6 [(0, .ref (ad 0)), (1, .int v1), (2, .int v2), (3, .int v3), (4, .int v4)] → SW p l e rm_X7_fedBy s m args below meth c D vwCl shM cA ad (Fq D vwCl shM cA ad below args s (fun r => some (.int r) : Int32 → Option Value) (fun _ => S) (fun _ => True)) (K7 v3 v4) S 7 ls []) (ls : Array Slot) (hl : lv_has ls 6 [(0, .ref (ad 0)), (1, .int v1), (2, .int v2), (3, .int v3), (4, .int v4)]) : SW p l e rm_X7_fedBy s m args below meth c D vwCl shM cA ad (Fq D vwCl shM cA ad below args s (fun r => some (.int r) : Int32 → Option Value) (fun _ => S) (fun _ => True)) (bX7_fedBy_55 K7 S v1 v2 v3 v4) S 55 ls [] := by
  rw [bX7_fedBy_55]
  refine sx_iconst (v := 1) C0 dX7_fedBy_55 (by decide) ?_
  refine sx_goto (tgt := 60) C0 dX7_fedBy_56 (by decide) ?_
  exact bX7_fedBy_60_t C0 _ _ _ _ _ _ hK7 _ (lv_sub hl [0, 1, 2, 3, 4] rfl)
def bX7_fedBy_36   (K7 : Int32 → Int32 → Option Int32) (S : vS) (v1 : Int32) (v2 : Int32) (v3 : Int32) (v4 : Int32)  : Option Int32 := ((mX7_kind S v2).bind fun a38 => (if a38 = (1 : Int32) then ((mX7_abides S v2).bind fun a47 => (if a47 = v4 then (bX7_fedBy_55 K7 S v1 v2 v3 v4) else (bX7_fedBy_59 K7 S v1 v2 v3 v4))) else (bX7_fedBy_59 K7 S v1 v2 v3 v4)))
set_option maxHeartbeats 4000000 in
set_option maxRecDepth 100000 in
theorem bX7_fedBy_36_t {p : Program} {l : Launch} {e : Env} {s : State} {m : MethodId} {args : Array Value} {below : List Frame} {meth : Method} {c : Code} {D : va_G} {cA : Nat → ClassId} {ad : Nat → Nat} {K7 : Int32 → Int32 → Option Int32}  (C0 : Cx D vwCl tlM shM cA ad ExM RX7 cX7_fedBy 6 (some .int) p s m args meth c)  (S : vS) (v1 : Int32) (v2 : Int32) (v3 : Int32) (v4 : Int32) (hK7 : ∀ (v3 : Int32) (v4 : Int32) (ls : Array Slot), lv_has ls 6 [(0, .ref (ad 0)), (1, .int v1), (2, .int v2), (3, .int v3), (4, .int v4)] → SW p l e rm_X7_fedBy s m args below meth c D vwCl shM cA ad (Fq D vwCl shM cA ad below args s (fun r => some (.int r) : Int32 → Option Value) (fun _ => S) (fun _ => True)) (K7 v3 v4) S 7 ls []) (ls : Array Slot) (hl : lv_has ls 6 [(0, .ref (ad 0)), (1, .int v1), (2, .int v2), (3, .int v3), (4, .int v4)]) : SW p l e rm_X7_fedBy s m args below meth c D vwCl shM cA ad (Fq D vwCl shM cA ad below args s (fun r => some (.int r) : Int32 → Option Value) (fun _ => S) (fun _ => True)) (bX7_fedBy_36 K7 S v1 v2 v3 v4) S 36 ls [] := by
  rw [bX7_fedBy_36]
  refine sx_aload_n C0 dX7_fedBy_36 rfl (lv_at hl 0 rfl) ?_
  refine sx_iload_n C0 dX7_fedBy_37 rfl (lv_at hl 2 rfl) ?_
  refine sw_bind (fun a38 e38 => ?_)
  refine cv_X7_146 (As := [.int v2]) C0 (c_X7_kind C0.2.2.2.2.2.2.2.1 v2 S _ e38) is7 ⟨rfl, rfl⟩ ⟨Nat.le_of_ble_eq_true rfl, Nat.le_of_ble_eq_true rfl⟩ rfl hl.1 (Nat.le_of_ble_eq_true rfl) rfl dX7_fedBy_38 (fun _ => ?_)
  refine sx_iconst (v := 1) C0 dX7_fedBy_41 (by decide) ?_
  refine sx_icmp_ne (tgt := 59) C0 dX7_fedBy_42 (by decide) (fun _ => ?_) (fun _ => ?_)
  · refine sx_aload_n C0 dX7_fedBy_45 rfl (lv_at hl 0 rfl) ?_
    refine sx_iload_n C0 dX7_fedBy_46 rfl (lv_at hl 2 rfl) ?_
    refine sw_bind (fun a47 e47 => ?_)
    refine cv_X7_162 (As := [.int v2]) C0 (c_X7_abides C0.2.2.2.2.2.2.2.1 v2 S _ e47) is7 ⟨rfl, rfl⟩ ⟨Nat.le_of_ble_eq_true rfl, Nat.le_of_ble_eq_true rfl⟩ rfl hl.1 (Nat.le_of_ble_eq_true rfl) rfl dX7_fedBy_47 (fun _ => ?_)
    refine sx_iload C0 dX7_fedBy_50 (lv_at hl 4 rfl) ?_
    refine sx_icmp_ne (tgt := 59) C0 dX7_fedBy_52 (by decide) (fun _ => ?_) (fun _ => ?_)
    · exact bX7_fedBy_55_t C0 _ _ _ _ _ hK7 _ (lv_sub hl [0, 1, 2, 3, 4] rfl)
    · exact bX7_fedBy_59_t C0 _ _ _ _ _ hK7 _ (lv_sub hl [0, 1, 2, 3, 4] rfl)
  · exact bX7_fedBy_59_t C0 _ _ _ _ _ hK7 _ (lv_sub hl [0, 1, 2, 3, 4] rfl)
def lX7_fedBy_7  (S : vS)  (v1 : Int32) (v2 : Int32) : Nat → Int32 → Int32 → Option Int32
  | 0, _, _ => none
  | n + 1, v3, v4 => (if (S.1 0 10) ≤ v4 then (some v3) else ((mX7_kind S v4).bind fun a19 => (if a19 = (1 : Int32) then ((mX7_abides S v4).bind fun a29 => (if a29 = v2 then (bX7_fedBy_55 (lX7_fedBy_7 S v1 v2 n) S v1 v2 v3 v4) else (bX7_fedBy_36 (lX7_fedBy_7 S v1 v2 n) S v1 v2 v3 v4))) else (bX7_fedBy_36 (lX7_fedBy_7 S v1 v2 n) S v1 v2 v3 v4))))
set_option maxHeartbeats 4000000 in
set_option maxRecDepth 100000 in
theorem lX7_fedBy_7_t {p : Program} {l : Launch} {e : Env} {s : State} {m : MethodId} {args : Array Value} {below : List Frame} {meth : Method} {c : Code} {D : va_G} {cA : Nat → ClassId} {ad : Nat → Nat}   (C0 : Cx D vwCl tlM shM cA ad ExM RX7 cX7_fedBy 6 (some .int) p s m args meth c)  (S : vS) (v1 : Int32) (v2 : Int32)  : ∀ (n : Nat) (v3 : Int32) (v4 : Int32) (ls : Array Slot), lv_has ls 6 [(0, .ref (ad 0)), (1, .int v1), (2, .int v2), (3, .int v3), (4, .int v4)] → SW p l e rm_X7_fedBy s m args below meth c D vwCl shM cA ad (Fq D vwCl shM cA ad below args s (fun r => some (.int r) : Int32 → Option Value) (fun _ => S) (fun _ => True)) (lX7_fedBy_7 S v1 v2 n v3 v4) S 7 ls [] := by
  intro n
  induction n with
  | zero =>
    intro v3 v4 ls hl
    rw [lX7_fedBy_7]
    exact sw_none
  | succ n ih =>
    intro v3 v4 ls hl
    rw [lX7_fedBy_7]
    refine sx_iload C0 dX7_fedBy_7 (lv_at hl 4 rfl) ?_
    refine sx_aload_n C0 dX7_fedBy_9 rfl (lv_at hl 0 rfl) ?_
    refine gf_X7_139 C0 is7 dX7_fedBy_10 ?_
    refine sx_icmp_ge (tgt := 100) C0 dX7_fedBy_13 (by decide) (fun _ => ?_) (fun _ => ?_)
    · refine sx_iload_n C0 dX7_fedBy_100 rfl (lv_at hl 3 rfl) ?_
      exact sx_iret C0 rfl rfl trivial dX7_fedBy_101
    · refine sx_aload_n C0 dX7_fedBy_16 rfl (lv_at hl 0 rfl) ?_
      refine sx_iload C0 dX7_fedBy_17 (lv_at hl 4 rfl) ?_
      refine sw_bind (fun a19 e19 => ?_)
      refine cv_X7_146 (As := [.int v4]) C0 (c_X7_kind C0.2.2.2.2.2.2.2.1 v4 S _ e19) is7 ⟨rfl, rfl⟩ ⟨Nat.le_of_ble_eq_true rfl, Nat.le_of_ble_eq_true rfl⟩ rfl hl.1 (Nat.le_of_ble_eq_true rfl) rfl dX7_fedBy_19 (fun _ => ?_)
      refine sx_iconst (v := 1) C0 dX7_fedBy_22 (by decide) ?_
      refine sx_icmp_ne (tgt := 36) C0 dX7_fedBy_23 (by decide) (fun _ => ?_) (fun _ => ?_)
      · refine sx_aload_n C0 dX7_fedBy_26 rfl (lv_at hl 0 rfl) ?_
        refine sx_iload C0 dX7_fedBy_27 (lv_at hl 4 rfl) ?_
        refine sw_bind (fun a29 e29 => ?_)
        refine cv_X7_162 (As := [.int v4]) C0 (c_X7_abides C0.2.2.2.2.2.2.2.1 v4 S _ e29) is7 ⟨rfl, rfl⟩ ⟨Nat.le_of_ble_eq_true rfl, Nat.le_of_ble_eq_true rfl⟩ rfl hl.1 (Nat.le_of_ble_eq_true rfl) rfl dX7_fedBy_29 (fun _ => ?_)
        refine sx_iload_n C0 dX7_fedBy_32 rfl (lv_at hl 2 rfl) ?_
        refine sx_icmp_eq (tgt := 55) C0 dX7_fedBy_33 (by decide) (fun _ => ?_) (fun _ => ?_)
        · exact bX7_fedBy_55_t C0 _ _ _ _ _ ih _ (lv_sub hl [0, 1, 2, 3, 4] rfl)
        · exact bX7_fedBy_36_t C0 _ _ _ _ _ ih _ (lv_sub hl [0, 1, 2, 3, 4] rfl)
      · exact bX7_fedBy_36_t C0 _ _ _ _ _ ih _ (lv_sub hl [0, 1, 2, 3, 4] rfl)
def mX7_fedBy (S : vS) (v1 : Int32) (v2 : Int32) : Option Int32 := (lt ((1 : Int32) <<< (v2 &&& (31 : Int32))) fun v3_3 => (lX7_fedBy_7 S v1 v2 FU v3_3 (0 : Int32)))
set_option maxHeartbeats 4000000 in
set_option maxRecDepth 100000 in
theorem c_X7_fedBy {l : Launch} {D : va_G} {cA : Nat → ClassId} {ad : Nat → Nat} (G : Gx shM ad ExM) (v1 : Int32) (v2 : Int32) (S : vS) (r : Int32) (hr : (mX7_fedBy S v1 v2) = some r) : Met l yX7_fedBy (Cond.code yX7_fedBy cX7_fedBy 6 (some .int) :: ALL) rm_X7_fedBy (Po D vwCl tlM shM cA ad ExM [.ref (ad 0), .int v1, .int v2] S) (Qo D vwCl shM cA ad (some (.int r)) S True) 0 0 (aw shM ad) := by
  refine Met.sx (M := (mX7_fedBy S v1 v2)) (rv := (fun r => some (.int r) : Int32 → Option Value)) (rs := fun _ => S) (B := fun _ => True) (by decide) ⟨rfl, rfl⟩ (Nat.le_of_ble_eq_true rfl) G (fun p e s m args below meth c C0 ls hl => ?_) hr
  have hl : lv_has ls 6 [(0, .ref (ad 0)), (1, .int v1), (2, .int v2)] := hl
  rw [mX7_fedBy]
  refine sx_iconst (v := 1) C0 dX7_fedBy_0 (by decide) ?_
  refine sx_iload_n C0 dX7_fedBy_1 rfl (lv_at hl 2 rfl) ?_
  refine sx_ishl C0 dX7_fedBy_2 ?_
  refine sw_lt (val := .int) (fun v3_3 => ?_)
  refine sx_istore_n (lv' := [(3, .int v3_3), (0, .ref (ad 0)), (1, .int v1), (2, .int v2)]) C0 dX7_fedBy_3 rfl hl (by decide) rfl (fun ls hl => ?_)
  refine sx_iconst (v := 0) C0 dX7_fedBy_4 (by decide) ?_
  refine sx_istore (lv' := [(4, .int (0 : Int32)), (3, .int v3_3), (0, .ref (ad 0)), (1, .int v1), (2, .int v2)]) C0 dX7_fedBy_5 hl (by decide) rfl (fun ls hl => ?_)
  exact lX7_fedBy_7_t C0 _ _ _ _ _ _ _ (lv_sub hl [2, 3, 4, 1, 0] rfl)
abbrev rm_X7_isNumber : Room := { frames := 1, cells := 0, slots := 0, locals := 22 }
def mX7_isNumber (S : vS) (v1 : Int32) : Int32 := (if v1 = (12 : Int32) then (1 : Int32) else (if (mX7_in v1 (0 : Int32) (((3 : Int32) * (S.1 0 10)) - (1 : Int32))) = 0 then (0 : Int32) else (1 : Int32)))
set_option maxHeartbeats 4000000 in
set_option maxRecDepth 100000 in
theorem c_X7_isNumber {l : Launch} {D : va_G} {cA : Nat → ClassId} {ad : Nat → Nat} (G : Gx shM ad ExM) (v1 : Int32) (S : vS) : Met l yX7_isNumber (Cond.code yX7_isNumber cX7_isNumber 2 (some .boolean) :: ALL) rm_X7_isNumber (Po D vwCl tlM shM cA ad ExM [.ref (ad 0), .int v1] S) (Qo D vwCl shM cA ad (some (.int (mX7_isNumber S v1))) S (isB (mX7_isNumber S v1))) 0 0 (aw shM ad) := by
  refine Met.sx (M := some (mX7_isNumber S v1)) (rv := (fun r => some (.int r) : Int32 → Option Value)) (rs := fun _ => S) (B := fun r => isB r) (by decide) ⟨rfl, rfl⟩ (Nat.le_of_ble_eq_true rfl) G (fun p e s m args below meth c C0 ls hl => ?_) rfl
  have hl : lv_has ls 2 [(0, .ref (ad 0)), (1, .int v1)] := hl
  rw [mX7_isNumber]
  refine sx_iload_n C0 dX7_isNumber_0 rfl (lv_at hl 1 rfl) ?_
  refine sx_bipush (v := 12) C0 dX7_isNumber_1 (by decide) ?_
  refine sx_icmp_eqs (tgt := 22) C0 dX7_isNumber_3 (by decide) (fun _ => ?_) (fun _ => ?_)
  · refine sx_iconst (v := 1) C0 dX7_isNumber_22 (by decide) ?_
    refine sx_goto (tgt := 27) C0 dX7_isNumber_23 (by decide) ?_
    exact sx_zret C0 rfl rfl (Or.inr rfl) (Or.inr rfl) dX7_isNumber_27
  · refine sx_iload_n C0 dX7_isNumber_6 rfl (lv_at hl 1 rfl) ?_
    refine sx_iconst (v := 0) C0 dX7_isNumber_7 (by decide) ?_
    refine sx_iconst (v := 3) C0 dX7_isNumber_8 (by decide) ?_
    refine sx_aload_n C0 dX7_isNumber_9 rfl (lv_at hl 0 rfl) ?_
    refine gf_X7_139 C0 is7 dX7_isNumber_10 ?_
    refine sx_imul C0 dX7_isNumber_13 ?_
    refine sx_iconst (v := 1) C0 dX7_isNumber_14 (by decide) ?_
    refine sx_isub C0 dX7_isNumber_15 ?_
    refine cv_X7_80 (As := [.int v1, .int (0 : Int32), .int (((3 : Int32) * (S.1 0 10)) - (1 : Int32))]) C0 (c_X7_in C0.2.2.2.2.2.2.2.1 v1 (0 : Int32) (((3 : Int32) * (S.1 0 10)) - (1 : Int32)) S) ⟨rfl, rfl⟩ ⟨Nat.le_of_ble_eq_true rfl, Nat.le_of_ble_eq_true rfl⟩ rfl hl.1 (Nat.le_of_ble_eq_true rfl) rfl dX7_isNumber_16 (fun hb16 => ?_)
    refine sx_if_eqs (tgt := 26) C0 dX7_isNumber_19 (by decide) (fun _ => ?_) (fun _ => ?_)
    · refine sx_iconst (v := 0) C0 dX7_isNumber_26 (by decide) ?_
      exact sx_zret C0 rfl rfl (Or.inl rfl) (Or.inl rfl) dX7_isNumber_27
    · refine sx_iconst (v := 1) C0 dX7_isNumber_22 (by decide) ?_
      refine sx_goto (tgt := 27) C0 dX7_isNumber_23 (by decide) ?_
      exact sx_zret C0 rfl rfl (Or.inr rfl) (Or.inr rfl) dX7_isNumber_27
abbrev rm_X7_costOf : Room := { frames := 5, cells := 0, slots := 0, locals := 111 }
def mX7_costOf (S : vS) (v1 : Int32) (v2 : Int32) : Option Int32 := (if v2 = (12 : Int32) then (some (0 : Int32)) else (lt (v2 / (3 : Int32)) fun v3_11 => ((mX7_isUp S v1 v3_11).bind fun a15 => (if a15 = 0 then (some (-9 : Int32)) else ((mX7_fedBy S v1 v3_11).bind fun a27 => ((mX7_bits a27).bind fun a30 => ((mX7_v S v1 ((0 : Int32) + (v2 - v2 / (3 : Int32) * (3 : Int32)))).bind fun a44 => (if a44 < a30 then (some (-9 : Int32)) else (some a30)))))))))
set_option maxHeartbeats 4000000 in
set_option maxRecDepth 100000 in
theorem c_X7_costOf {l : Launch} {D : va_G} {cA : Nat → ClassId} {ad : Nat → Nat} (G : Gx shM ad ExM) (v1 : Int32) (v2 : Int32) (S : vS) (r : Int32) (hr : (mX7_costOf S v1 v2) = some r) : Met l yX7_costOf (Cond.code yX7_costOf cX7_costOf 5 (some .int) :: ALL) rm_X7_costOf (Po D vwCl tlM shM cA ad ExM [.ref (ad 0), .int v1, .int v2] S) (Qo D vwCl shM cA ad (some (.int r)) S True) 0 0 (aw shM ad) := by
  refine Met.sx (M := (mX7_costOf S v1 v2)) (rv := (fun r => some (.int r) : Int32 → Option Value)) (rs := fun _ => S) (B := fun _ => True) (by decide) ⟨rfl, rfl⟩ (Nat.le_of_ble_eq_true rfl) G (fun p e s m args below meth c C0 ls hl => ?_) hr
  have hl : lv_has ls 5 [(0, .ref (ad 0)), (1, .int v1), (2, .int v2)] := hl
  rw [mX7_costOf]
  refine sx_iload_n C0 dX7_costOf_0 rfl (lv_at hl 2 rfl) ?_
  refine sx_bipush (v := 12) C0 dX7_costOf_1 (by decide) ?_
  refine sx_icmp_ne (tgt := 8) C0 dX7_costOf_3 (by decide) (fun _ => ?_) (fun _ => ?_)
  · refine sx_iconst (v := 0) C0 dX7_costOf_6 (by decide) ?_
    exact sx_iret C0 rfl rfl trivial dX7_costOf_7
  · refine sx_iload_n C0 dX7_costOf_8 rfl (lv_at hl 2 rfl) ?_
    refine sx_iconst (v := 3) C0 dX7_costOf_9 (by decide) ?_
    refine sx_idiv C0 dX7_costOf_10 (by decide) ?_
    refine sw_lt (val := .int) (fun v3_11 => ?_)
    refine sx_istore_n (lv' := [(3, .int v3_11), (0, .ref (ad 0)), (1, .int v1), (2, .int v2)]) C0 dX7_costOf_11 rfl hl (by decide) rfl (fun ls hl => ?_)
    refine sx_aload_n C0 dX7_costOf_12 rfl (lv_at hl 1 rfl) ?_
    refine sx_iload_n C0 dX7_costOf_13 rfl (lv_at hl 2 rfl) ?_
    refine sx_iload_n C0 dX7_costOf_14 rfl (lv_at hl 0 rfl) ?_
    refine sw_bind (fun a15 e15 => ?_)
    refine cv_X7_165 (As := [.int v1, .int v3_11]) C0 (c_X7_isUp C0.2.2.2.2.2.2.2.1 v1 v3_11 S _ e15) is7 ⟨rfl, rfl⟩ ⟨Nat.le_of_ble_eq_true rfl, Nat.le_of_ble_eq_true rfl⟩ rfl hl.1 (Nat.le_of_ble_eq_true rfl) rfl dX7_costOf_15 (fun hb15 => ?_)
    refine sx_if_ne (tgt := 24) C0 dX7_costOf_18 (by decide) (fun _ => ?_) (fun _ => ?_)
    · refine sx_bipush (v := (-9)) C0 dX7_costOf_21 (by decide) ?_
      exact sx_iret C0 rfl rfl trivial dX7_costOf_23
    · refine sx_aload_n C0 dX7_costOf_24 rfl (lv_at hl 1 rfl) ?_
      refine sx_iload_n C0 dX7_costOf_25 rfl (lv_at hl 2 rfl) ?_
      refine sx_iload_n C0 dX7_costOf_26 rfl (lv_at hl 0 rfl) ?_
      refine sw_bind (fun a27 e27 => ?_)
      refine cv_X7_168 (As := [.int v1, .int v3_11]) C0 (c_X7_fedBy C0.2.2.2.2.2.2.2.1 v1 v3_11 S _ e27) is7 ⟨rfl, rfl⟩ ⟨Nat.le_of_ble_eq_true rfl, Nat.le_of_ble_eq_true rfl⟩ rfl hl.1 (Nat.le_of_ble_eq_true rfl) rfl dX7_costOf_27 (fun _ => ?_)
      refine sw_bind (fun a30 e30 => ?_)
      refine cv_X7_171 (As := [.int a27]) C0 (c_X7_bits C0.2.2.2.2.2.2.2.1 a27 S _ e30) ⟨rfl, rfl⟩ ⟨Nat.le_of_ble_eq_true rfl, Nat.le_of_ble_eq_true rfl⟩ rfl hl.1 (Nat.le_of_ble_eq_true rfl) rfl dX7_costOf_30 (fun _ => ?_)
      refine sx_istore (lv' := [(4, .int a30), (3, .int v3_11), (0, .ref (ad 0)), (1, .int v1), (2, .int v2)]) C0 dX7_costOf_33 hl (by decide) rfl (fun ls hl => ?_)
      refine sx_iload C0 dX7_costOf_35 (lv_at hl 0 rfl) ?_
      refine sx_aload_n C0 dX7_costOf_37 rfl (lv_at hl 2 rfl) ?_
      refine sx_iload_n C0 dX7_costOf_38 rfl (lv_at hl 3 rfl) ?_
      refine sx_iconst (v := 0) C0 dX7_costOf_39 (by decide) ?_
      refine sx_iload_n C0 dX7_costOf_40 rfl (lv_at hl 4 rfl) ?_
      refine sx_iconst (v := 3) C0 dX7_costOf_41 (by decide) ?_
      refine sx_irem C0 dX7_costOf_42 (by decide) ?_
      refine sx_iadd C0 dX7_costOf_43 ?_
      refine sw_bind (fun a44 e44 => ?_)
      refine cv_X7_149 (As := [.int v1, .int ((0 : Int32) + (v2 - v2 / (3 : Int32) * (3 : Int32)))]) C0 (c_X7_v C0.2.2.2.2.2.2.2.1 v1 ((0 : Int32) + (v2 - v2 / (3 : Int32) * (3 : Int32))) S _ e44) is7 ⟨rfl, rfl⟩ ⟨Nat.le_of_ble_eq_true rfl, Nat.le_of_ble_eq_true rfl⟩ rfl hl.1 (Nat.le_of_ble_eq_true rfl) rfl dX7_costOf_44 (fun _ => ?_)
      refine sx_icmp_gt (tgt := 55) C0 dX7_costOf_47 (by decide) (fun _ => ?_) (fun _ => ?_)
      · refine sx_bipush (v := (-9)) C0 dX7_costOf_55 (by decide) ?_
        exact sx_iret C0 rfl rfl trivial dX7_costOf_57
      · refine sx_iload C0 dX7_costOf_50 (lv_at hl 0 rfl) ?_
        refine sx_goto (tgt := 57) C0 dX7_costOf_52 (by decide) ?_
        exact sx_iret C0 rfl rfl trivial dX7_costOf_57
abbrev rm_X7_hungers : Room := { frames := 4, cells := 0, slots := 0, locals := 86 }
def bX7_hungers_162   (K3 : vS → Int32 → Option vS) (S : vS) (v1 : Int32) (v2 : Int32) (v3 : Int32) (v4 : Int32) (v5 : Int32)  : Option vS := (if v5 = 0 then (K3 S (v4 + (1 : Int32))) else ((mX7_v S v1 (14 : Int32)).bind fun a178 => ((mX7_place S v1 ((8 : Int32) + v4) a178).bind fun S181 => (K3 S181 (v4 + (1 : Int32))))))
set_option maxHeartbeats 4000000 in
set_option maxRecDepth 100000 in
theorem bX7_hungers_162_t {p : Program} {l : Launch} {e : Env} {s : State} {m : MethodId} {args : Array Value} {below : List Frame} {meth : Method} {c : Code} {D : va_G} {cA : Nat → ClassId} {ad : Nat → Nat} {K3 : vS → Int32 → Option vS}  (C0 : Cx D vwCl tlM shM cA ad ExM RX7 cX7_hungers 7 none p s m args meth c)  (S : vS) (v1 : Int32) (v2 : Int32) (v3 : Int32) (v4 : Int32) (v5 : Int32) (hK3 : ∀ (S : vS) (v4 : Int32) (ls : Array Slot), lv_has ls 7 [(0, .ref (ad 0)), (1, .int v1), (2, .int v2), (3, .int v3), (4, .int v4)] → SW p l e rm_X7_hungers s m args below meth c D vwCl shM cA ad (Fq D vwCl shM cA ad below args s (fun _ => none : vS → Option Value) (fun S1 => S1) (fun _ => True)) (K3 S v4) S 3 ls []) (ls : Array Slot) (hl : lv_has ls 7 [(0, .ref (ad 0)), (1, .int v1), (2, .int v2), (3, .int v3), (4, .int v4), (5, .int v5)]) : SW p l e rm_X7_hungers s m args below meth c D vwCl shM cA ad (Fq D vwCl shM cA ad below args s (fun _ => none : vS → Option Value) (fun S1 => S1) (fun _ => True)) (bX7_hungers_162 K3 S v1 v2 v3 v4 v5) S 162 ls [] := by
  rw [bX7_hungers_162]
  refine sx_iload C0 dX7_hungers_162 (lv_at hl 5 rfl) ?_
  refine sx_if_eq (tgt := 184) C0 dX7_hungers_164 (by decide) (fun _ => ?_) (fun _ => ?_)
  · refine sx_iinc (v := (v4 + (1 : Int32))) (lv' := [(4, .int (v4 + (1 : Int32))), (0, .ref (ad 0)), (1, .int v1), (2, .int v2), (3, .int v3), (5, .int v5)]) C0 dX7_hungers_184 hl (k := 4) rfl rfl (by decide) rfl (fun ls hl => ?_)
    refine sx_goto (tgt := 3) C0 dX7_hungers_187 (by decide) ?_
    exact hK3 _ _ _ (lv_sub hl [1, 2, 3, 4, 0] rfl)
  · refine sx_aload_n C0 dX7_hungers_167 rfl (lv_at hl 0 rfl) ?_
    refine sx_iload_n C0 dX7_hungers_168 rfl (lv_at hl 1 rfl) ?_
    refine sx_bipush (v := 8) C0 dX7_hungers_169 (by decide) ?_
    refine sx_iload C0 dX7_hungers_171 (lv_at hl 4 rfl) ?_
    refine sx_iadd C0 dX7_hungers_173 ?_
    refine sx_aload_n C0 dX7_hungers_174 rfl (lv_at hl 0 rfl) ?_
    refine sx_iload_n C0 dX7_hungers_175 rfl (lv_at hl 1 rfl) ?_
    refine sx_bipush (v := 14) C0 dX7_hungers_176 (by decide) ?_
    refine sw_bind (fun a178 e178 => ?_)
    refine cv_X7_149 (As := [.int v1, .int (14 : Int32)]) C0 (c_X7_v C0.2.2.2.2.2.2.2.1 v1 (14 : Int32) S _ e178) is7 ⟨rfl, rfl⟩ ⟨Nat.le_of_ble_eq_true rfl, Nat.le_of_ble_eq_true rfl⟩ rfl hl.1 (Nat.le_of_ble_eq_true rfl) rfl dX7_hungers_178 (fun _ => ?_)
    refine sw_bind (fun S181 e181 => ?_)
    refine cv_X7_142 (As := [.int v1, .int ((8 : Int32) + v4), .int a178]) C0 (c_X7_place C0.2.2.2.2.2.2.2.1 v1 ((8 : Int32) + v4) a178 S _ e181) is7 ⟨rfl, rfl⟩ ⟨Nat.le_of_ble_eq_true rfl, Nat.le_of_ble_eq_true rfl⟩ rfl hl.1 (Nat.le_of_ble_eq_true rfl) rfl dX7_hungers_181 (fun _ => ?_)
    refine sx_iinc (v := (v4 + (1 : Int32))) (lv' := [(4, .int (v4 + (1 : Int32))), (0, .ref (ad 0)), (1, .int v1), (2, .int v2), (3, .int v3), (5, .int v5)]) C0 dX7_hungers_184 hl (k := 4) rfl rfl (by decide) rfl (fun ls hl => ?_)
    refine sx_goto (tgt := 3) C0 dX7_hungers_187 (by decide) ?_
    exact hK3 _ _ _ (lv_sub hl [1, 2, 3, 4, 0] rfl)
def bX7_hungers_146   (K3 : vS → Int32 → Option vS) (S : vS) (v1 : Int32) (v2 : Int32) (v3 : Int32) (v4 : Int32) (v5 : Int32) (v6 : Int32)  : Option vS := ((mX7_place S v1 ((3 : Int32) + v4) (mX7_lesser (9 : Int32) v6)).bind fun S159 => (bX7_hungers_162 K3 S159 v1 v2 v3 v4 v5))
set_option maxHeartbeats 4000000 in
set_option maxRecDepth 100000 in
theorem bX7_hungers_146_t {p : Program} {l : Launch} {e : Env} {s : State} {m : MethodId} {args : Array Value} {below : List Frame} {meth : Method} {c : Code} {D : va_G} {cA : Nat → ClassId} {ad : Nat → Nat} {K3 : vS → Int32 → Option vS}  (C0 : Cx D vwCl tlM shM cA ad ExM RX7 cX7_hungers 7 none p s m args meth c)  (S : vS) (v1 : Int32) (v2 : Int32) (v3 : Int32) (v4 : Int32) (v5 : Int32) (v6 : Int32) (hK3 : ∀ (S : vS) (v4 : Int32) (ls : Array Slot), lv_has ls 7 [(0, .ref (ad 0)), (1, .int v1), (2, .int v2), (3, .int v3), (4, .int v4)] → SW p l e rm_X7_hungers s m args below meth c D vwCl shM cA ad (Fq D vwCl shM cA ad below args s (fun _ => none : vS → Option Value) (fun S1 => S1) (fun _ => True)) (K3 S v4) S 3 ls []) (ls : Array Slot) (hl : lv_has ls 7 [(0, .ref (ad 0)), (1, .int v1), (2, .int v2), (3, .int v3), (4, .int v4), (5, .int v5), (6, .int v6)]) : SW p l e rm_X7_hungers s m args below meth c D vwCl shM cA ad (Fq D vwCl shM cA ad below args s (fun _ => none : vS → Option Value) (fun S1 => S1) (fun _ => True)) (bX7_hungers_146 K3 S v1 v2 v3 v4 v5 v6) S 146 ls [] := by
  rw [bX7_hungers_146]
  refine sx_aload_n C0 dX7_hungers_146 rfl (lv_at hl 0 rfl) ?_
  refine sx_iload_n C0 dX7_hungers_147 rfl (lv_at hl 1 rfl) ?_
  refine sx_iconst (v := 3) C0 dX7_hungers_148 (by decide) ?_
  refine sx_iload C0 dX7_hungers_149 (lv_at hl 4 rfl) ?_
  refine sx_iadd C0 dX7_hungers_151 ?_
  refine sx_bipush (v := 9) C0 dX7_hungers_152 (by decide) ?_
  refine sx_iload C0 dX7_hungers_154 (lv_at hl 6 rfl) ?_
  refine cv_X7_183 (As := [.int (9 : Int32), .int v6]) C0 (c_X7_lesser C0.2.2.2.2.2.2.2.1 (9 : Int32) v6 S) ⟨rfl, rfl⟩ ⟨Nat.le_of_ble_eq_true rfl, Nat.le_of_ble_eq_true rfl⟩ rfl hl.1 (Nat.le_of_ble_eq_true rfl) rfl dX7_hungers_156 (fun _ => ?_)
  refine sw_bind (fun S159 e159 => ?_)
  refine cv_X7_142 (As := [.int v1, .int ((3 : Int32) + v4), .int (mX7_lesser (9 : Int32) v6)]) C0 (c_X7_place C0.2.2.2.2.2.2.2.1 v1 ((3 : Int32) + v4) (mX7_lesser (9 : Int32) v6) S _ e159) is7 ⟨rfl, rfl⟩ ⟨Nat.le_of_ble_eq_true rfl, Nat.le_of_ble_eq_true rfl⟩ rfl hl.1 (Nat.le_of_ble_eq_true rfl) rfl dX7_hungers_159 (fun _ => ?_)
  exact bX7_hungers_162_t C0 _ _ _ _ _ _ hK3 _ (lv_sub hl [0, 1, 2, 3, 4, 5] rfl)
def bX7_hungers_142   (K3 : vS → Int32 → Option vS) (S : vS) (v1 : Int32) (v2 : Int32) (v3 : Int32) (v4 : Int32) (v5 : Int32) (t0 : Int32) (t1 : Int32) (t2 : Int32) : Option vS := (lt (t2 + (t1 + t0)) fun v6_144 => (bX7_hungers_146 K3 S v1 v2 v3 v4 v5 v6_144))
set_option maxHeartbeats 4000000 in
set_option maxRecDepth 100000 in
theorem bX7_hungers_142_t {p : Program} {l : Launch} {e : Env} {s : State} {m : MethodId} {args : Array Value} {below : List Frame} {meth : Method} {c : Code} {D : va_G} {cA : Nat → ClassId} {ad : Nat → Nat} {K3 : vS → Int32 → Option vS}  (C0 : Cx D vwCl tlM shM cA ad ExM RX7 cX7_hungers 7 none p s m args meth c)  (S : vS) (v1 : Int32) (v2 : Int32) (v3 : Int32) (v4 : Int32) (v5 : Int32) (t0 : Int32) (t1 : Int32) (t2 : Int32) (hK3 : ∀ (S : vS) (v4 : Int32) (ls : Array Slot), lv_has ls 7 [(0, .ref (ad 0)), (1, .int v1), (2, .int v2), (3, .int v3), (4, .int v4)] → SW p l e rm_X7_hungers s m args below meth c D vwCl shM cA ad (Fq D vwCl shM cA ad below args s (fun _ => none : vS → Option Value) (fun S1 => S1) (fun _ => True)) (K3 S v4) S 3 ls []) (ls : Array Slot) (hl : lv_has ls 7 [(0, .ref (ad 0)), (1, .int v1), (2, .int v2), (3, .int v3), (4, .int v4), (5, .int v5)]) : SW p l e rm_X7_hungers s m args below meth c D vwCl shM cA ad (Fq D vwCl shM cA ad below args s (fun _ => none : vS → Option Value) (fun S1 => S1) (fun _ => True)) (bX7_hungers_142 K3 S v1 v2 v3 v4 v5 t0 t1 t2) S 142 ls [.int t0, .int t1, .int t2] := by
  rw [bX7_hungers_142]
  refine sx_iadd C0 dX7_hungers_142 ?_
  refine sx_iadd C0 dX7_hungers_143 ?_
  refine sw_lt (val := .int) (fun v6_144 => ?_)
  refine sx_istore (lv' := [(6, .int v6_144), (0, .ref (ad 0)), (1, .int v1), (2, .int v2), (3, .int v3), (4, .int v4), (5, .int v5)]) C0 dX7_hungers_144 hl (by decide) rfl (fun ls hl => ?_)
  exact bX7_hungers_146_t C0 _ _ _ _ _ _ _ hK3 _ (lv_sub hl [1, 2, 3, 4, 5, 6, 0] rfl)
def bX7_hungers_111   (K3 : vS → Int32 → Option vS) (S : vS) (v1 : Int32) (v2 : Int32) (v3 : Int32) (v4 : Int32) (v5 : Int32) (t0 : Int32) : Option vS := (bX7_hungers_146 K3 S v1 v2 v3 v4 v5 t0)
set_option maxHeartbeats 4000000 in
set_option maxRecDepth 100000 in
theorem bX7_hungers_111_t {p : Program} {l : Launch} {e : Env} {s : State} {m : MethodId} {args : Array Value} {below : List Frame} {meth : Method} {c : Code} {D : va_G} {cA : Nat → ClassId} {ad : Nat → Nat} {K3 : vS → Int32 → Option vS}  (C0 : Cx D vwCl tlM shM cA ad ExM RX7 cX7_hungers 7 none p s m args meth c)  (S : vS) (v1 : Int32) (v2 : Int32) (v3 : Int32) (v4 : Int32) (v5 : Int32) (t0 : Int32) (hK3 : ∀ (S : vS) (v4 : Int32) (ls : Array Slot), lv_has ls 7 [(0, .ref (ad 0)), (1, .int v1), (2, .int v2), (3, .int v3), (4, .int v4)] → SW p l e rm_X7_hungers s m args below meth c D vwCl shM cA ad (Fq D vwCl shM cA ad below args s (fun _ => none : vS → Option Value) (fun S1 => S1) (fun _ => True)) (K3 S v4) S 3 ls []) (ls : Array Slot) (hl : lv_has ls 7 [(0, .ref (ad 0)), (1, .int v1), (2, .int v2), (3, .int v3), (4, .int v4), (5, .int v5)]) : SW p l e rm_X7_hungers s m args below meth c D vwCl shM cA ad (Fq D vwCl shM cA ad below args s (fun _ => none : vS → Option Value) (fun S1 => S1) (fun _ => True)) (bX7_hungers_111 K3 S v1 v2 v3 v4 v5 t0) S 111 ls [.int t0] := by
  rw [bX7_hungers_111]
  refine sx_istore (lv' := [(6, .int t0), (0, .ref (ad 0)), (1, .int v1), (2, .int v2), (3, .int v3), (4, .int v4), (5, .int v5)]) C0 dX7_hungers_111 hl (by decide) rfl (fun ls hl => ?_)
  refine sx_goto (tgt := 146) C0 dX7_hungers_113 (by decide) ?_
  exact bX7_hungers_146_t C0 _ _ _ _ _ _ _ hK3 _ (lv_sub hl [1, 2, 3, 4, 5, 6, 0] rfl)
def bX7_hungers_51   (K3 : vS → Int32 → Option vS) (S : vS) (v1 : Int32) (v2 : Int32) (v3 : Int32) (v4 : Int32) (t0 : Int32) : Option vS := ((mX7_isUp S v1 v4).bind fun a57 => (if a57 = 0 then (bX7_hungers_162 K3 S v1 v2 v3 v4 t0) else ((mX7_v S v1 ((3 : Int32) + v4)).bind fun a69 => (if (mX7_has v2 v4) = 0 then (if t0 = 0 then (bX7_hungers_142 K3 S v1 v2 v3 v4 t0 (0 : Int32) (1 : Int32) a69) else ((mX7_isJealous S v4).bind fun a127 => (if a127 = 0 then (bX7_hungers_142 K3 S v1 v2 v3 v4 t0 (1 : Int32) (1 : Int32) a69) else (bX7_hungers_142 K3 S v1 v2 v3 v4 t0 (2 : Int32) (1 : Int32) a69)))) else ((gI (S.1 7) 24 (((6 : Int32) * v4) + (1 : Int32))).bind fun a94 => (if a94 = v3 then (bX7_hungers_111 K3 S v1 v2 v3 v4 t0 (0 : Int32)) else (bX7_hungers_111 K3 S v1 v2 v3 v4 t0 (mX7_greater (0 : Int32) (a69 - (2 : Int32))))))))))
set_option maxHeartbeats 4000000 in
set_option maxRecDepth 100000 in
theorem bX7_hungers_51_t {p : Program} {l : Launch} {e : Env} {s : State} {m : MethodId} {args : Array Value} {below : List Frame} {meth : Method} {c : Code} {D : va_G} {cA : Nat → ClassId} {ad : Nat → Nat} {K3 : vS → Int32 → Option vS}  (C0 : Cx D vwCl tlM shM cA ad ExM RX7 cX7_hungers 7 none p s m args meth c)  (S : vS) (v1 : Int32) (v2 : Int32) (v3 : Int32) (v4 : Int32) (t0 : Int32) (hK3 : ∀ (S : vS) (v4 : Int32) (ls : Array Slot), lv_has ls 7 [(0, .ref (ad 0)), (1, .int v1), (2, .int v2), (3, .int v3), (4, .int v4)] → SW p l e rm_X7_hungers s m args below meth c D vwCl shM cA ad (Fq D vwCl shM cA ad below args s (fun _ => none : vS → Option Value) (fun S1 => S1) (fun _ => True)) (K3 S v4) S 3 ls []) (ls : Array Slot) (hl : lv_has ls 7 [(0, .ref (ad 0)), (1, .int v1), (2, .int v2), (3, .int v3), (4, .int v4)]) : SW p l e rm_X7_hungers s m args below meth c D vwCl shM cA ad (Fq D vwCl shM cA ad below args s (fun _ => none : vS → Option Value) (fun S1 => S1) (fun _ => True)) (bX7_hungers_51 K3 S v1 v2 v3 v4 t0) S 51 ls [.int t0] := by
  rw [bX7_hungers_51]
  refine sx_istore (lv' := [(5, .int t0), (0, .ref (ad 0)), (1, .int v1), (2, .int v2), (3, .int v3), (4, .int v4)]) C0 dX7_hungers_51 hl (by decide) rfl (fun ls hl => ?_)
  refine sx_aload_n C0 dX7_hungers_53 rfl (lv_at hl 1 rfl) ?_
  refine sx_iload_n C0 dX7_hungers_54 rfl (lv_at hl 2 rfl) ?_
  refine sx_iload C0 dX7_hungers_55 (lv_at hl 5 rfl) ?_
  refine sw_bind (fun a57 e57 => ?_)
  refine cv_X7_165 (As := [.int v1, .int v4]) C0 (c_X7_isUp C0.2.2.2.2.2.2.2.1 v1 v4 S _ e57) is7 ⟨rfl, rfl⟩ ⟨Nat.le_of_ble_eq_true rfl, Nat.le_of_ble_eq_true rfl⟩ rfl hl.1 (Nat.le_of_ble_eq_true rfl) rfl dX7_hungers_57 (fun hb57 => ?_)
  refine sx_if_eq (tgt := 162) C0 dX7_hungers_60 (by decide) (fun _ => ?_) (fun _ => ?_)
  · exact bX7_hungers_162_t C0 _ _ _ _ _ _ hK3 _ (lv_sub hl [1, 2, 3, 4, 5, 0] rfl)
  · refine sx_aload_n C0 dX7_hungers_63 rfl (lv_at hl 1 rfl) ?_
    refine sx_iload_n C0 dX7_hungers_64 rfl (lv_at hl 2 rfl) ?_
    refine sx_iconst (v := 3) C0 dX7_hungers_65 (by decide) ?_
    refine sx_iload C0 dX7_hungers_66 (lv_at hl 5 rfl) ?_
    refine sx_iadd C0 dX7_hungers_68 ?_
    refine sw_bind (fun a69 e69 => ?_)
    refine cv_X7_149 (As := [.int v1, .int ((3 : Int32) + v4)]) C0 (c_X7_v C0.2.2.2.2.2.2.2.1 v1 ((3 : Int32) + v4) S _ e69) is7 ⟨rfl, rfl⟩ ⟨Nat.le_of_ble_eq_true rfl, Nat.le_of_ble_eq_true rfl⟩ rfl hl.1 (Nat.le_of_ble_eq_true rfl) rfl dX7_hungers_69 (fun _ => ?_)
    refine sx_istore (lv' := [(6, .int a69), (5, .int t0), (0, .ref (ad 0)), (1, .int v1), (2, .int v2), (3, .int v3), (4, .int v4)]) C0 dX7_hungers_72 hl (by decide) rfl (fun ls hl => ?_)
    refine sx_iload_n C0 dX7_hungers_74 rfl (lv_at hl 4 rfl) ?_
    refine sx_iload C0 dX7_hungers_75 (lv_at hl 6 rfl) ?_
    refine cv_X7_174 (As := [.int v2, .int v4]) C0 (c_X7_has C0.2.2.2.2.2.2.2.1 v2 v4 S) ⟨rfl, rfl⟩ ⟨Nat.le_of_ble_eq_true rfl, Nat.le_of_ble_eq_true rfl⟩ rfl hl.1 (Nat.le_of_ble_eq_true rfl) rfl dX7_hungers_77 (fun hb77 => ?_)
    refine sx_if_eq (tgt := 116) C0 dX7_hungers_80 (by decide) (fun _ => ?_) (fun _ => ?_)
    · refine sx_iload C0 dX7_hungers_116 (lv_at hl 0 rfl) ?_
      refine sx_iconst (v := 1) C0 dX7_hungers_118 (by decide) ?_
      refine sx_iload C0 dX7_hungers_119 (lv_at hl 1 rfl) ?_
      refine sx_if_eq (tgt := 141) C0 dX7_hungers_121 (by decide) (fun _ => ?_) (fun _ => ?_)
      · refine sx_iconst (v := 0) C0 dX7_hungers_141 (by decide) ?_
        exact bX7_hungers_142_t C0 _ _ _ _ _ _ _ _ _ hK3 _ (lv_sub hl [2, 3, 4, 5, 6, 1] rfl)
      · refine sx_aload_n C0 dX7_hungers_124 rfl (lv_at hl 2 rfl) ?_
        refine sx_iload C0 dX7_hungers_125 (lv_at hl 6 rfl) ?_
        refine sw_bind (fun a127 e127 => ?_)
        refine cv_X7_180 (As := [.int v4]) C0 (c_X7_isJealous C0.2.2.2.2.2.2.2.1 v4 S _ e127) is7 ⟨rfl, rfl⟩ ⟨Nat.le_of_ble_eq_true rfl, Nat.le_of_ble_eq_true rfl⟩ rfl hl.1 (Nat.le_of_ble_eq_true rfl) rfl dX7_hungers_127 (fun hb127 => ?_)
        refine sx_if_eq (tgt := 137) C0 dX7_hungers_130 (by decide) (fun _ => ?_) (fun _ => ?_)
        · refine sx_iconst (v := 1) C0 dX7_hungers_137 (by decide) ?_
          refine sx_goto (tgt := 142) C0 dX7_hungers_138 (by decide) ?_
          exact bX7_hungers_142_t C0 _ _ _ _ _ _ _ _ _ hK3 _ (lv_sub hl [2, 3, 4, 5, 6, 1] rfl)
        · refine sx_iconst (v := 2) C0 dX7_hungers_133 (by decide) ?_
          refine sx_goto (tgt := 142) C0 dX7_hungers_134 (by decide) ?_
          exact bX7_hungers_142_t C0 _ _ _ _ _ _ _ _ _ hK3 _ (lv_sub hl [2, 3, 4, 5, 6, 1] rfl)
    · refine sx_aload_n C0 dX7_hungers_83 rfl (lv_at hl 2 rfl) ?_
      refine gf_X7_29 C0 is7 dX7_hungers_84 ?_
      refine sx_bipush (v := 6) C0 dX7_hungers_87 (by decide) ?_
      refine sx_iload C0 dX7_hungers_89 (lv_at hl 6 rfl) ?_
      refine sx_imul C0 dX7_hungers_91 ?_
      refine sx_iconst (v := 1) C0 dX7_hungers_92 (by decide) ?_
      refine sx_iadd C0 dX7_hungers_93 ?_
      refine sx_iald C0 is7_gods rfl dX7_hungers_94 (fun a94 => ?_)
      refine sx_iload_n C0 dX7_hungers_95 rfl (lv_at hl 5 rfl) ?_
      refine sx_icmp_ne (tgt := 103) C0 dX7_hungers_96 (by decide) (fun _ => ?_) (fun _ => ?_)
      · refine sx_iconst (v := 0) C0 dX7_hungers_99 (by decide) ?_
        refine sx_goto (tgt := 111) C0 dX7_hungers_100 (by decide) ?_
        exact bX7_hungers_111_t C0 _ _ _ _ _ _ _ hK3 _ (lv_sub hl [2, 3, 4, 5, 6, 1] rfl)
      · refine sx_iconst (v := 0) C0 dX7_hungers_103 (by decide) ?_
        refine sx_iload C0 dX7_hungers_104 (lv_at hl 0 rfl) ?_
        refine sx_iconst (v := 2) C0 dX7_hungers_106 (by decide) ?_
        refine sx_isub C0 dX7_hungers_107 ?_
        refine cv_X7_177 (As := [.int (0 : Int32), .int (a69 - (2 : Int32))]) C0 (c_X7_greater C0.2.2.2.2.2.2.2.1 (0 : Int32) (a69 - (2 : Int32)) S) ⟨rfl, rfl⟩ ⟨Nat.le_of_ble_eq_true rfl, Nat.le_of_ble_eq_true rfl⟩ rfl hl.1 (Nat.le_of_ble_eq_true rfl) rfl dX7_hungers_108 (fun _ => ?_)
        exact bX7_hungers_111_t C0 _ _ _ _ _ _ _ hK3 _ (lv_sub hl [2, 3, 4, 5, 6, 1] rfl)
def bX7_hungers_50   (K3 : vS → Int32 → Option vS) (S : vS) (v1 : Int32) (v2 : Int32) (v3 : Int32) (v4 : Int32)  : Option vS := (bX7_hungers_51 K3 S v1 v2 v3 v4 (0 : Int32))
set_option maxHeartbeats 4000000 in
set_option maxRecDepth 100000 in
theorem bX7_hungers_50_t {p : Program} {l : Launch} {e : Env} {s : State} {m : MethodId} {args : Array Value} {below : List Frame} {meth : Method} {c : Code} {D : va_G} {cA : Nat → ClassId} {ad : Nat → Nat} {K3 : vS → Int32 → Option vS}  (C0 : Cx D vwCl tlM shM cA ad ExM RX7 cX7_hungers 7 none p s m args meth c)  (S : vS) (v1 : Int32) (v2 : Int32) (v3 : Int32) (v4 : Int32) (hK3 : ∀ (S : vS) (v4 : Int32) (ls : Array Slot), lv_has ls 7 [(0, .ref (ad 0)), (1, .int v1), (2, .int v2), (3, .int v3), (4, .int v4)] → SW p l e rm_X7_hungers s m args below meth c D vwCl shM cA ad (Fq D vwCl shM cA ad below args s (fun _ => none : vS → Option Value) (fun S1 => S1) (fun _ => True)) (K3 S v4) S 3 ls []) (ls : Array Slot) (hl : lv_has ls 7 [(0, .ref (ad 0)), (1, .int v1), (2, .int v2), (3, .int v3), (4, .int v4)]) : SW p l e rm_X7_hungers s m args below meth c D vwCl shM cA ad (Fq D vwCl shM cA ad below args s (fun _ => none : vS → Option Value) (fun S1 => S1) (fun _ => True)) (bX7_hungers_50 K3 S v1 v2 v3 v4) S 50 ls [] := by
  rw [bX7_hungers_50]
  refine sx_iconst (v := 0) C0 dX7_hungers_50 (by decide) ?_
  exact bX7_hungers_51_t C0 _ _ _ _ _ _ hK3 _ (lv_sub hl [0, 1, 2, 3, 4] rfl)
def lX7_hungers_3    (v1 : Int32) (v2 : Int32) (v3 : Int32) : Nat → vS → Int32 → Option vS
  | 0, _, _ => none
  | n + 1, S, v4 => (if (S.1 0 10) ≤ v4 then (some S) else ((mX7_kind S v4).bind fun a15 => (if a15 = (1 : Int32) then (bX7_hungers_50 (lX7_hungers_3 v1 v2 v3 n) S v1 v2 v3 v4) else ((mX7_abides S v4).bind fun a25 => (if a25 = (-9 : Int32) then (bX7_hungers_50 (lX7_hungers_3 v1 v2 v3 n) S v1 v2 v3 v4) else ((mX7_abides S v4).bind fun a37 => (if (mX7_has v2 a37) = 0 then (bX7_hungers_50 (lX7_hungers_3 v1 v2 v3 n) S v1 v2 v3 v4) else (bX7_hungers_51 (lX7_hungers_3 v1 v2 v3 n) S v1 v2 v3 v4 (1 : Int32)))))))))
set_option maxHeartbeats 4000000 in
set_option maxRecDepth 100000 in
theorem lX7_hungers_3_t {p : Program} {l : Launch} {e : Env} {s : State} {m : MethodId} {args : Array Value} {below : List Frame} {meth : Method} {c : Code} {D : va_G} {cA : Nat → ClassId} {ad : Nat → Nat}   (C0 : Cx D vwCl tlM shM cA ad ExM RX7 cX7_hungers 7 none p s m args meth c)   (v1 : Int32) (v2 : Int32) (v3 : Int32)  : ∀ (n : Nat) (S : vS) (v4 : Int32) (ls : Array Slot), lv_has ls 7 [(0, .ref (ad 0)), (1, .int v1), (2, .int v2), (3, .int v3), (4, .int v4)] → SW p l e rm_X7_hungers s m args below meth c D vwCl shM cA ad (Fq D vwCl shM cA ad below args s (fun _ => none : vS → Option Value) (fun S1 => S1) (fun _ => True)) (lX7_hungers_3 v1 v2 v3 n S v4) S 3 ls [] := by
  intro n
  induction n with
  | zero =>
    intro S v4 ls hl
    rw [lX7_hungers_3]
    exact sw_none
  | succ n ih =>
    intro S v4 ls hl
    rw [lX7_hungers_3]
    refine sx_iload C0 dX7_hungers_3 (lv_at hl 4 rfl) ?_
    refine sx_aload_n C0 dX7_hungers_5 rfl (lv_at hl 0 rfl) ?_
    refine gf_X7_139 C0 is7 dX7_hungers_6 ?_
    refine sx_icmp_ge (tgt := 190) C0 dX7_hungers_9 (by decide) (fun _ => ?_) (fun _ => ?_)
    · exact sx_vret C0 rfl rfl trivial dX7_hungers_190
    · refine sx_aload_n C0 dX7_hungers_12 rfl (lv_at hl 0 rfl) ?_
      refine sx_iload C0 dX7_hungers_13 (lv_at hl 4 rfl) ?_
      refine sw_bind (fun a15 e15 => ?_)
      refine cv_X7_146 (As := [.int v4]) C0 (c_X7_kind C0.2.2.2.2.2.2.2.1 v4 S _ e15) is7 ⟨rfl, rfl⟩ ⟨Nat.le_of_ble_eq_true rfl, Nat.le_of_ble_eq_true rfl⟩ rfl hl.1 (Nat.le_of_ble_eq_true rfl) rfl dX7_hungers_15 (fun _ => ?_)
      refine sx_iconst (v := 1) C0 dX7_hungers_18 (by decide) ?_
      refine sx_icmp_eq (tgt := 50) C0 dX7_hungers_19 (by decide) (fun _ => ?_) (fun _ => ?_)
      · exact bX7_hungers_50_t C0 _ _ _ _ _ ih _ (lv_sub hl [0, 1, 2, 3, 4] rfl)
      · refine sx_aload_n C0 dX7_hungers_22 rfl (lv_at hl 0 rfl) ?_
        refine sx_iload C0 dX7_hungers_23 (lv_at hl 4 rfl) ?_
        refine sw_bind (fun a25 e25 => ?_)
        refine cv_X7_162 (As := [.int v4]) C0 (c_X7_abides C0.2.2.2.2.2.2.2.1 v4 S _ e25) is7 ⟨rfl, rfl⟩ ⟨Nat.le_of_ble_eq_true rfl, Nat.le_of_ble_eq_true rfl⟩ rfl hl.1 (Nat.le_of_ble_eq_true rfl) rfl dX7_hungers_25 (fun _ => ?_)
        refine sx_bipush (v := (-9)) C0 dX7_hungers_28 (by decide) ?_
        refine sx_icmp_eq (tgt := 50) C0 dX7_hungers_30 (by decide) (fun _ => ?_) (fun _ => ?_)
        · exact bX7_hungers_50_t C0 _ _ _ _ _ ih _ (lv_sub hl [0, 1, 2, 3, 4] rfl)
        · refine sx_iload_n C0 dX7_hungers_33 rfl (lv_at hl 2 rfl) ?_
          refine sx_aload_n C0 dX7_hungers_34 rfl (lv_at hl 0 rfl) ?_
          refine sx_iload C0 dX7_hungers_35 (lv_at hl 4 rfl) ?_
          refine sw_bind (fun a37 e37 => ?_)
          refine cv_X7_162 (As := [.int v4]) C0 (c_X7_abides C0.2.2.2.2.2.2.2.1 v4 S _ e37) is7 ⟨rfl, rfl⟩ ⟨Nat.le_of_ble_eq_true rfl, Nat.le_of_ble_eq_true rfl⟩ rfl hl.1 (Nat.le_of_ble_eq_true rfl) rfl dX7_hungers_37 (fun _ => ?_)
          refine cv_X7_174 (As := [.int v2, .int a37]) C0 (c_X7_has C0.2.2.2.2.2.2.2.1 v2 a37 S) ⟨rfl, rfl⟩ ⟨Nat.le_of_ble_eq_true rfl, Nat.le_of_ble_eq_true rfl⟩ rfl hl.1 (Nat.le_of_ble_eq_true rfl) rfl dX7_hungers_40 (fun hb40 => ?_)
          refine sx_if_eq (tgt := 50) C0 dX7_hungers_43 (by decide) (fun _ => ?_) (fun _ => ?_)
          · exact bX7_hungers_50_t C0 _ _ _ _ _ ih _ (lv_sub hl [0, 1, 2, 3, 4] rfl)
          · refine sx_iconst (v := 1) C0 dX7_hungers_46 (by decide) ?_
            refine sx_goto (tgt := 51) C0 dX7_hungers_47 (by decide) ?_
            exact bX7_hungers_51_t C0 _ _ _ _ _ _ ih _ (lv_sub hl [0, 1, 2, 3, 4] rfl)
def mX7_hungers (S : vS) (v1 : Int32) (v2 : Int32) (v3 : Int32) : Option vS := (lX7_hungers_3 v1 v2 v3 FU S (0 : Int32))
set_option maxHeartbeats 4000000 in
set_option maxRecDepth 100000 in
theorem c_X7_hungers {l : Launch} {D : va_G} {cA : Nat → ClassId} {ad : Nat → Nat} (G : Gx shM ad ExM) (v1 : Int32) (v2 : Int32) (v3 : Int32) (S : vS) (r : vS) (hr : (mX7_hungers S v1 v2 v3) = some r) : Met l yX7_hungers (Cond.code yX7_hungers cX7_hungers 7 none :: ALL) rm_X7_hungers (Po D vwCl tlM shM cA ad ExM [.ref (ad 0), .int v1, .int v2, .int v3] S) (Qo D vwCl shM cA ad none r True) 0 0 (aw shM ad) := by
  refine Met.sx (M := (mX7_hungers S v1 v2 v3)) (rv := (fun _ => none : vS → Option Value)) (rs := fun S1 => S1) (B := fun _ => True) (by decide) ⟨rfl, rfl⟩ (Nat.le_of_ble_eq_true rfl) G (fun p e s m args below meth c C0 ls hl => ?_) hr
  have hl : lv_has ls 7 [(0, .ref (ad 0)), (1, .int v1), (2, .int v2), (3, .int v3)] := hl
  rw [mX7_hungers]
  refine sx_iconst (v := 0) C0 dX7_hungers_0 (by decide) ?_
  refine sx_istore (lv' := [(4, .int (0 : Int32)), (0, .ref (ad 0)), (1, .int v1), (2, .int v2), (3, .int v3)]) C0 dX7_hungers_1 hl (by decide) rfl (fun ls hl => ?_)
  exact lX7_hungers_3_t C0 _ _ _ _ _ _ _ (lv_sub hl [1, 2, 3, 4, 0] rfl)
abbrev rm_X7_sends : Room := { frames := 4, cells := 0, slots := 0, locals := 86 }
def bX7_sends_194   (K12 : vS → Int32 → Option vS) (S : vS) (v1 : Int32) (v2 : Int32) (t0 : Int32) (t1 : Int32) : Option vS := (lt (wI S 0 21 (t1 - t0)) fun S195 => ((gI (S195.1 11) 4 v2).bind fun a208 => (lt (wI S195 0 20 ((S195.1 0 20) + a208)) fun S210 => (K12 S210 (v2 + (1 : Int32))))))
set_option maxHeartbeats 4000000 in
set_option maxRecDepth 100000 in
theorem bX7_sends_194_t {p : Program} {l : Launch} {e : Env} {s : State} {m : MethodId} {args : Array Value} {below : List Frame} {meth : Method} {c : Code} {D : va_G} {cA : Nat → ClassId} {ad : Nat → Nat} {K12 : vS → Int32 → Option vS}  (C0 : Cx D vwCl tlM shM cA ad ExM RX7 cX7_sends 4 none p s m args meth c)  (S : vS) (v1 : Int32) (v2 : Int32) (t0 : Int32) (t1 : Int32) (hK12 : ∀ (S : vS) (v2 : Int32) (ls : Array Slot), lv_has ls 4 [(0, .ref (ad 0)), (1, .int v1), (2, .int v2)] → SW p l e rm_X7_sends s m args below meth c D vwCl shM cA ad (Fq D vwCl shM cA ad below args s (fun _ => none : vS → Option Value) (fun S1 => S1) (fun _ => True)) (K12 S v2) S 12 ls []) (ls : Array Slot) (hl : lv_has ls 4 [(0, .ref (ad 0)), (1, .int v1), (2, .int v2)]) : SW p l e rm_X7_sends s m args below meth c D vwCl shM cA ad (Fq D vwCl shM cA ad below args s (fun _ => none : vS → Option Value) (fun S1 => S1) (fun _ => True)) (bX7_sends_194 K12 S v1 v2 t0 t1) S 194 ls [.int t0, .int t1, .ref (ad 0)] := by
  rw [bX7_sends_194]
  refine sx_isub C0 dX7_sends_194 ?_
  refine pf_X7_189 C0 is7 dX7_sends_195 (fun S195 => ?_)
  refine sx_aload_n C0 dX7_sends_198 rfl (lv_at hl 0 rfl) ?_
  refine sx_dup C0 dX7_sends_199 rfl ?_
  refine gf_X7_186 C0 is7 dX7_sends_200 ?_
  refine sx_aload_n C0 dX7_sends_203 rfl (lv_at hl 0 rfl) ?_
  refine gf_X7_41 C0 is7 dX7_sends_204 ?_
  refine sx_iload_n C0 dX7_sends_207 rfl (lv_at hl 2 rfl) ?_
  refine sx_iald C0 is7_sentNow rfl dX7_sends_208 (fun a208 => ?_)
  refine sx_iadd C0 dX7_sends_209 ?_
  refine pf_X7_186 C0 is7 dX7_sends_210 (fun S210 => ?_)
  refine sx_iinc (v := (v2 + (1 : Int32))) (lv' := [(2, .int (v2 + (1 : Int32))), (0, .ref (ad 0)), (1, .int v1)]) C0 dX7_sends_213 hl (k := 2) rfl rfl (by decide) rfl (fun ls hl => ?_)
  refine sx_goto (tgt := 12) C0 dX7_sends_216 (by decide) ?_
  exact hK12 _ _ _ (lv_sub hl [1, 2, 0] rfl)
def bX7_sends_171   (K12 : vS → Int32 → Option vS) (S : vS) (v1 : Int32) (v2 : Int32) (v3 : Int32) (t0 : Int32) (t1 : Int32) (t2 : Int32) (t3 : Int32) : Option vS := ((mX7_place S t3 t2 (t1 - t0)).bind fun S172 => (if v3 = 0 then ((gI (S172.1 11) 4 v2).bind fun a193 => (bX7_sends_194 K12 S172 v1 v2 a193 (S172.1 0 21))) else (bX7_sends_194 K12 S172 v1 v2 (0 : Int32) (S172.1 0 21))))
set_option maxHeartbeats 4000000 in
set_option maxRecDepth 100000 in
theorem bX7_sends_171_t {p : Program} {l : Launch} {e : Env} {s : State} {m : MethodId} {args : Array Value} {below : List Frame} {meth : Method} {c : Code} {D : va_G} {cA : Nat → ClassId} {ad : Nat → Nat} {K12 : vS → Int32 → Option vS}  (C0 : Cx D vwCl tlM shM cA ad ExM RX7 cX7_sends 4 none p s m args meth c)  (S : vS) (v1 : Int32) (v2 : Int32) (v3 : Int32) (t0 : Int32) (t1 : Int32) (t2 : Int32) (t3 : Int32) (hK12 : ∀ (S : vS) (v2 : Int32) (ls : Array Slot), lv_has ls 4 [(0, .ref (ad 0)), (1, .int v1), (2, .int v2)] → SW p l e rm_X7_sends s m args below meth c D vwCl shM cA ad (Fq D vwCl shM cA ad below args s (fun _ => none : vS → Option Value) (fun S1 => S1) (fun _ => True)) (K12 S v2) S 12 ls []) (ls : Array Slot) (hl : lv_has ls 4 [(0, .ref (ad 0)), (1, .int v1), (2, .int v2), (3, .int v3)]) : SW p l e rm_X7_sends s m args below meth c D vwCl shM cA ad (Fq D vwCl shM cA ad below args s (fun _ => none : vS → Option Value) (fun S1 => S1) (fun _ => True)) (bX7_sends_171 K12 S v1 v2 v3 t0 t1 t2 t3) S 171 ls [.int t0, .int t1, .int t2, .int t3, .ref (ad 0)] := by
  rw [bX7_sends_171]
  refine sx_isub C0 dX7_sends_171 ?_
  refine sw_bind (fun S172 e172 => ?_)
  refine cv_X7_142 (As := [.int t3, .int t2, .int (t1 - t0)]) C0 (c_X7_place C0.2.2.2.2.2.2.2.1 t3 t2 (t1 - t0) S _ e172) is7 ⟨rfl, rfl⟩ ⟨Nat.le_of_ble_eq_true rfl, Nat.le_of_ble_eq_true rfl⟩ rfl hl.1 (Nat.le_of_ble_eq_true rfl) rfl dX7_sends_172 (fun _ => ?_)
  refine sx_aload_n C0 dX7_sends_175 rfl (lv_at hl 0 rfl) ?_
  refine sx_dup C0 dX7_sends_176 rfl ?_
  refine gf_X7_189 C0 is7 dX7_sends_177 ?_
  refine sx_iload_n C0 dX7_sends_180 rfl (lv_at hl 3 rfl) ?_
  refine sx_if_eq (tgt := 188) C0 dX7_sends_181 (by decide) (fun _ => ?_) (fun _ => ?_)
  · refine sx_aload_n C0 dX7_sends_188 rfl (lv_at hl 0 rfl) ?_
    refine gf_X7_41 C0 is7 dX7_sends_189 ?_
    refine sx_iload_n C0 dX7_sends_192 rfl (lv_at hl 2 rfl) ?_
    refine sx_iald C0 is7_sentNow rfl dX7_sends_193 (fun a193 => ?_)
    exact bX7_sends_194_t C0 _ _ _ _ _ hK12 _ (lv_sub hl [0, 1, 2] rfl)
  · refine sx_iconst (v := 0) C0 dX7_sends_184 (by decide) ?_
    refine sx_goto (tgt := 194) C0 dX7_sends_185 (by decide) ?_
    exact bX7_sends_194_t C0 _ _ _ _ _ hK12 _ (lv_sub hl [0, 1, 2] rfl)
def bX7_sends_142   (K12 : vS → Int32 → Option vS) (S : vS) (v1 : Int32) (v2 : Int32) (v3 : Int32) (t0 : Int32) (t1 : Int32) (t2 : Int32) (t3 : Int32) : Option vS := ((mX7_place S t3 t2 (t1 + t0)).bind fun S143 => ((mX7_v S143 v1 (13 : Int32)).bind fun a154 => (if v3 = 0 then ((gI (S143.1 11) 4 v2).bind fun a170 => (bX7_sends_171 K12 S143 v1 v2 v3 a170 a154 (13 : Int32) v1)) else (bX7_sends_171 K12 S143 v1 v2 v3 (0 : Int32) a154 (13 : Int32) v1))))
set_option maxHeartbeats 4000000 in
set_option maxRecDepth 100000 in
theorem bX7_sends_142_t {p : Program} {l : Launch} {e : Env} {s : State} {m : MethodId} {args : Array Value} {below : List Frame} {meth : Method} {c : Code} {D : va_G} {cA : Nat → ClassId} {ad : Nat → Nat} {K12 : vS → Int32 → Option vS}  (C0 : Cx D vwCl tlM shM cA ad ExM RX7 cX7_sends 4 none p s m args meth c)  (S : vS) (v1 : Int32) (v2 : Int32) (v3 : Int32) (t0 : Int32) (t1 : Int32) (t2 : Int32) (t3 : Int32) (hK12 : ∀ (S : vS) (v2 : Int32) (ls : Array Slot), lv_has ls 4 [(0, .ref (ad 0)), (1, .int v1), (2, .int v2)] → SW p l e rm_X7_sends s m args below meth c D vwCl shM cA ad (Fq D vwCl shM cA ad below args s (fun _ => none : vS → Option Value) (fun S1 => S1) (fun _ => True)) (K12 S v2) S 12 ls []) (ls : Array Slot) (hl : lv_has ls 4 [(0, .ref (ad 0)), (1, .int v1), (2, .int v2), (3, .int v3)]) : SW p l e rm_X7_sends s m args below meth c D vwCl shM cA ad (Fq D vwCl shM cA ad below args s (fun _ => none : vS → Option Value) (fun S1 => S1) (fun _ => True)) (bX7_sends_142 K12 S v1 v2 v3 t0 t1 t2 t3) S 142 ls [.int t0, .int t1, .int t2, .int t3, .ref (ad 0)] := by
  rw [bX7_sends_142]
  refine sx_iadd C0 dX7_sends_142 ?_
  refine sw_bind (fun S143 e143 => ?_)
  refine cv_X7_142 (As := [.int t3, .int t2, .int (t1 + t0)]) C0 (c_X7_place C0.2.2.2.2.2.2.2.1 t3 t2 (t1 + t0) S _ e143) is7 ⟨rfl, rfl⟩ ⟨Nat.le_of_ble_eq_true rfl, Nat.le_of_ble_eq_true rfl⟩ rfl hl.1 (Nat.le_of_ble_eq_true rfl) rfl dX7_sends_143 (fun _ => ?_)
  refine sx_aload_n C0 dX7_sends_146 rfl (lv_at hl 0 rfl) ?_
  refine sx_iload_n C0 dX7_sends_147 rfl (lv_at hl 1 rfl) ?_
  refine sx_bipush (v := 13) C0 dX7_sends_148 (by decide) ?_
  refine sx_aload_n C0 dX7_sends_150 rfl (lv_at hl 0 rfl) ?_
  refine sx_iload_n C0 dX7_sends_151 rfl (lv_at hl 1 rfl) ?_
  refine sx_bipush (v := 13) C0 dX7_sends_152 (by decide) ?_
  refine sw_bind (fun a154 e154 => ?_)
  refine cv_X7_149 (As := [.int v1, .int (13 : Int32)]) C0 (c_X7_v C0.2.2.2.2.2.2.2.1 v1 (13 : Int32) S143 _ e154) is7 ⟨rfl, rfl⟩ ⟨Nat.le_of_ble_eq_true rfl, Nat.le_of_ble_eq_true rfl⟩ rfl hl.1 (Nat.le_of_ble_eq_true rfl) rfl dX7_sends_154 (fun _ => ?_)
  refine sx_iload_n C0 dX7_sends_157 rfl (lv_at hl 3 rfl) ?_
  refine sx_if_eq (tgt := 165) C0 dX7_sends_158 (by decide) (fun _ => ?_) (fun _ => ?_)
  · refine sx_aload_n C0 dX7_sends_165 rfl (lv_at hl 0 rfl) ?_
    refine gf_X7_41 C0 is7 dX7_sends_166 ?_
    refine sx_iload_n C0 dX7_sends_169 rfl (lv_at hl 2 rfl) ?_
    refine sx_iald C0 is7_sentNow rfl dX7_sends_170 (fun a170 => ?_)
    exact bX7_sends_171_t C0 _ _ _ _ _ _ _ _ hK12 _ (lv_sub hl [0, 1, 2, 3] rfl)
  · refine sx_iconst (v := 0) C0 dX7_sends_161 (by decide) ?_
    refine sx_goto (tgt := 171) C0 dX7_sends_162 (by decide) ?_
    exact bX7_sends_171_t C0 _ _ _ _ _ _ _ _ hK12 _ (lv_sub hl [0, 1, 2, 3] rfl)
def bX7_sends_116   (K12 : vS → Int32 → Option vS) (S : vS) (v1 : Int32) (v2 : Int32) (v3 : Int32) (t0 : Int32) (t1 : Int32) : Option vS := ((pI S 11 4 t1 t0).bind fun S116 => ((mX7_v S116 v1 (12 : Int32)).bind fun a125 => (if v3 = 0 then (bX7_sends_142 K12 S116 v1 v2 v3 (0 : Int32) a125 (12 : Int32) v1) else ((gI (S116.1 11) 4 v2).bind fun a137 => (bX7_sends_142 K12 S116 v1 v2 v3 a137 a125 (12 : Int32) v1)))))
set_option maxHeartbeats 4000000 in
set_option maxRecDepth 100000 in
theorem bX7_sends_116_t {p : Program} {l : Launch} {e : Env} {s : State} {m : MethodId} {args : Array Value} {below : List Frame} {meth : Method} {c : Code} {D : va_G} {cA : Nat → ClassId} {ad : Nat → Nat} {K12 : vS → Int32 → Option vS}  (C0 : Cx D vwCl tlM shM cA ad ExM RX7 cX7_sends 4 none p s m args meth c)  (S : vS) (v1 : Int32) (v2 : Int32) (v3 : Int32) (t0 : Int32) (t1 : Int32) (hK12 : ∀ (S : vS) (v2 : Int32) (ls : Array Slot), lv_has ls 4 [(0, .ref (ad 0)), (1, .int v1), (2, .int v2)] → SW p l e rm_X7_sends s m args below meth c D vwCl shM cA ad (Fq D vwCl shM cA ad below args s (fun _ => none : vS → Option Value) (fun S1 => S1) (fun _ => True)) (K12 S v2) S 12 ls []) (ls : Array Slot) (hl : lv_has ls 4 [(0, .ref (ad 0)), (1, .int v1), (2, .int v2), (3, .int v3)]) : SW p l e rm_X7_sends s m args below meth c D vwCl shM cA ad (Fq D vwCl shM cA ad below args s (fun _ => none : vS → Option Value) (fun S1 => S1) (fun _ => True)) (bX7_sends_116 K12 S v1 v2 v3 t0 t1) S 116 ls [.int t0, .int t1, .ref (ad 11)] := by
  rw [bX7_sends_116]
  refine sx_iast C0 is7_sentNow rfl dX7_sends_116 (fun S116 => ?_)
  refine sx_aload_n C0 dX7_sends_117 rfl (lv_at hl 0 rfl) ?_
  refine sx_iload_n C0 dX7_sends_118 rfl (lv_at hl 1 rfl) ?_
  refine sx_bipush (v := 12) C0 dX7_sends_119 (by decide) ?_
  refine sx_aload_n C0 dX7_sends_121 rfl (lv_at hl 0 rfl) ?_
  refine sx_iload_n C0 dX7_sends_122 rfl (lv_at hl 1 rfl) ?_
  refine sx_bipush (v := 12) C0 dX7_sends_123 (by decide) ?_
  refine sw_bind (fun a125 e125 => ?_)
  refine cv_X7_149 (As := [.int v1, .int (12 : Int32)]) C0 (c_X7_v C0.2.2.2.2.2.2.2.1 v1 (12 : Int32) S116 _ e125) is7 ⟨rfl, rfl⟩ ⟨Nat.le_of_ble_eq_true rfl, Nat.le_of_ble_eq_true rfl⟩ rfl hl.1 (Nat.le_of_ble_eq_true rfl) rfl dX7_sends_125 (fun _ => ?_)
  refine sx_iload_n C0 dX7_sends_128 rfl (lv_at hl 3 rfl) ?_
  refine sx_if_eq (tgt := 141) C0 dX7_sends_129 (by decide) (fun _ => ?_) (fun _ => ?_)
  · refine sx_iconst (v := 0) C0 dX7_sends_141 (by decide) ?_
    exact bX7_sends_142_t C0 _ _ _ _ _ _ _ _ hK12 _ (lv_sub hl [0, 1, 2, 3] rfl)
  · refine sx_aload_n C0 dX7_sends_132 rfl (lv_at hl 0 rfl) ?_
    refine gf_X7_41 C0 is7 dX7_sends_133 ?_
    refine sx_iload_n C0 dX7_sends_136 rfl (lv_at hl 2 rfl) ?_
    refine sx_iald C0 is7_sentNow rfl dX7_sends_137 (fun a137 => ?_)
    refine sx_goto (tgt := 142) C0 dX7_sends_138 (by decide) ?_
    exact bX7_sends_142_t C0 _ _ _ _ _ _ _ _ hK12 _ (lv_sub hl [0, 1, 2, 3] rfl)
def bX7_sends_80   (K12 : vS → Int32 → Option vS) (S : vS) (v1 : Int32) (v2 : Int32) (t0 : Int32) : Option vS := (if t0 = 0 then ((gI (S.1 7) 24 (((6 : Int32) * v2) + (4 : Int32))).bind fun a114 => (bX7_sends_116 K12 S v1 v2 t0 (-a114) v2)) else ((gI (S.1 7) 24 (((6 : Int32) * v2) + (3 : Int32))).bind fun a100 => (bX7_sends_116 K12 S v1 v2 t0 a100 v2)))
set_option maxHeartbeats 4000000 in
set_option maxRecDepth 100000 in
theorem bX7_sends_80_t {p : Program} {l : Launch} {e : Env} {s : State} {m : MethodId} {args : Array Value} {below : List Frame} {meth : Method} {c : Code} {D : va_G} {cA : Nat → ClassId} {ad : Nat → Nat} {K12 : vS → Int32 → Option vS}  (C0 : Cx D vwCl tlM shM cA ad ExM RX7 cX7_sends 4 none p s m args meth c)  (S : vS) (v1 : Int32) (v2 : Int32) (t0 : Int32) (hK12 : ∀ (S : vS) (v2 : Int32) (ls : Array Slot), lv_has ls 4 [(0, .ref (ad 0)), (1, .int v1), (2, .int v2)] → SW p l e rm_X7_sends s m args below meth c D vwCl shM cA ad (Fq D vwCl shM cA ad below args s (fun _ => none : vS → Option Value) (fun S1 => S1) (fun _ => True)) (K12 S v2) S 12 ls []) (ls : Array Slot) (hl : lv_has ls 4 [(0, .ref (ad 0)), (1, .int v1), (2, .int v2)]) : SW p l e rm_X7_sends s m args below meth c D vwCl shM cA ad (Fq D vwCl shM cA ad below args s (fun _ => none : vS → Option Value) (fun S1 => S1) (fun _ => True)) (bX7_sends_80 K12 S v1 v2 t0) S 80 ls [.int t0] := by
  rw [bX7_sends_80]
  refine sx_istore_n (lv' := [(3, .int t0), (0, .ref (ad 0)), (1, .int v1), (2, .int v2)]) C0 dX7_sends_80 rfl hl (by decide) rfl (fun ls hl => ?_)
  refine sx_aload_n C0 dX7_sends_81 rfl (lv_at hl 1 rfl) ?_
  refine gf_X7_41 C0 is7 dX7_sends_82 ?_
  refine sx_iload_n C0 dX7_sends_85 rfl (lv_at hl 3 rfl) ?_
  refine sx_iload_n C0 dX7_sends_86 rfl (lv_at hl 0 rfl) ?_
  refine sx_if_eq (tgt := 104) C0 dX7_sends_87 (by decide) (fun _ => ?_) (fun _ => ?_)
  · refine sx_aload_n C0 dX7_sends_104 rfl (lv_at hl 1 rfl) ?_
    refine gf_X7_29 C0 is7 dX7_sends_105 ?_
    refine sx_bipush (v := 6) C0 dX7_sends_108 (by decide) ?_
    refine sx_iload_n C0 dX7_sends_110 rfl (lv_at hl 3 rfl) ?_
    refine sx_imul C0 dX7_sends_111 ?_
    refine sx_iconst (v := 4) C0 dX7_sends_112 (by decide) ?_
    refine sx_iadd C0 dX7_sends_113 ?_
    refine sx_iald C0 is7_gods rfl dX7_sends_114 (fun a114 => ?_)
    refine sx_ineg C0 dX7_sends_115 ?_
    exact bX7_sends_116_t C0 _ _ _ _ _ _ hK12 _ (lv_sub hl [1, 2, 3, 0] rfl)
  · refine sx_aload_n C0 dX7_sends_90 rfl (lv_at hl 1 rfl) ?_
    refine gf_X7_29 C0 is7 dX7_sends_91 ?_
    refine sx_bipush (v := 6) C0 dX7_sends_94 (by decide) ?_
    refine sx_iload_n C0 dX7_sends_96 rfl (lv_at hl 3 rfl) ?_
    refine sx_imul C0 dX7_sends_97 ?_
    refine sx_iconst (v := 3) C0 dX7_sends_98 (by decide) ?_
    refine sx_iadd C0 dX7_sends_99 ?_
    refine sx_iald C0 is7_gods rfl dX7_sends_100 (fun a100 => ?_)
    refine sx_goto (tgt := 116) C0 dX7_sends_101 (by decide) ?_
    exact bX7_sends_116_t C0 _ _ _ _ _ _ hK12 _ (lv_sub hl [1, 2, 3, 0] rfl)
def bX7_sends_59   (K12 : vS → Int32 → Option vS) (S : vS) (v1 : Int32) (v2 : Int32)  : Option vS := ((mX7_v S v1 ((3 : Int32) + v2)).bind fun a64 => ((mX7_patienceOf S v2).bind fun a69 => (if a69 < a64 then (bX7_sends_80 K12 S v1 v2 (0 : Int32)) else (bX7_sends_80 K12 S v1 v2 (1 : Int32)))))
set_option maxHeartbeats 4000000 in
set_option maxRecDepth 100000 in
theorem bX7_sends_59_t {p : Program} {l : Launch} {e : Env} {s : State} {m : MethodId} {args : Array Value} {below : List Frame} {meth : Method} {c : Code} {D : va_G} {cA : Nat → ClassId} {ad : Nat → Nat} {K12 : vS → Int32 → Option vS}  (C0 : Cx D vwCl tlM shM cA ad ExM RX7 cX7_sends 4 none p s m args meth c)  (S : vS) (v1 : Int32) (v2 : Int32) (hK12 : ∀ (S : vS) (v2 : Int32) (ls : Array Slot), lv_has ls 4 [(0, .ref (ad 0)), (1, .int v1), (2, .int v2)] → SW p l e rm_X7_sends s m args below meth c D vwCl shM cA ad (Fq D vwCl shM cA ad below args s (fun _ => none : vS → Option Value) (fun S1 => S1) (fun _ => True)) (K12 S v2) S 12 ls []) (ls : Array Slot) (hl : lv_has ls 4 [(0, .ref (ad 0)), (1, .int v1), (2, .int v2)]) : SW p l e rm_X7_sends s m args below meth c D vwCl shM cA ad (Fq D vwCl shM cA ad below args s (fun _ => none : vS → Option Value) (fun S1 => S1) (fun _ => True)) (bX7_sends_59 K12 S v1 v2) S 59 ls [] := by
  rw [bX7_sends_59]
  refine sx_aload_n C0 dX7_sends_59 rfl (lv_at hl 0 rfl) ?_
  refine sx_iload_n C0 dX7_sends_60 rfl (lv_at hl 1 rfl) ?_
  refine sx_iconst (v := 3) C0 dX7_sends_61 (by decide) ?_
  refine sx_iload_n C0 dX7_sends_62 rfl (lv_at hl 2 rfl) ?_
  refine sx_iadd C0 dX7_sends_63 ?_
  refine sw_bind (fun a64 e64 => ?_)
  refine cv_X7_149 (As := [.int v1, .int ((3 : Int32) + v2)]) C0 (c_X7_v C0.2.2.2.2.2.2.2.1 v1 ((3 : Int32) + v2) S _ e64) is7 ⟨rfl, rfl⟩ ⟨Nat.le_of_ble_eq_true rfl, Nat.le_of_ble_eq_true rfl⟩ rfl hl.1 (Nat.le_of_ble_eq_true rfl) rfl dX7_sends_64 (fun _ => ?_)
  refine sx_aload_n C0 dX7_sends_67 rfl (lv_at hl 0 rfl) ?_
  refine sx_iload_n C0 dX7_sends_68 rfl (lv_at hl 2 rfl) ?_
  refine sw_bind (fun a69 e69 => ?_)
  refine cv_X7_192 (As := [.int v2]) C0 (c_X7_patienceOf C0.2.2.2.2.2.2.2.1 v2 S _ e69) is7 ⟨rfl, rfl⟩ ⟨Nat.le_of_ble_eq_true rfl, Nat.le_of_ble_eq_true rfl⟩ rfl hl.1 (Nat.le_of_ble_eq_true rfl) rfl dX7_sends_69 (fun _ => ?_)
  refine sx_icmp_gt (tgt := 79) C0 dX7_sends_72 (by decide) (fun _ => ?_) (fun _ => ?_)
  · refine sx_iconst (v := 0) C0 dX7_sends_79 (by decide) ?_
    exact bX7_sends_80_t C0 _ _ _ _ hK12 _ (lv_sub hl [0, 1, 2] rfl)
  · refine sx_iconst (v := 1) C0 dX7_sends_75 (by decide) ?_
    refine sx_goto (tgt := 80) C0 dX7_sends_76 (by decide) ?_
    exact bX7_sends_80_t C0 _ _ _ _ hK12 _ (lv_sub hl [0, 1, 2] rfl)
def lX7_sends_221    (v1 : Int32) : Nat → vS → Int32 → Option vS
  | 0, _, _ => none
  | n + 1, S, v2 => (if (S.1 0 10) ≤ v2 then (some S) else ((mX7_kind S v2).bind fun a231 => (if a231 = (4 : Int32) then ((mX7_isUp S v1 v2).bind fun a241 => (if a241 = 0 then ((lX7_sends_221 v1 n) S (v2 + (1 : Int32))) else ((mX7_v S v1 ((3 : Int32) + v2)).bind fun a252 => ((mX7_patienceOf S v2).bind fun a257 => (if a252 ≤ (a257 + (1 : Int32)) then ((lX7_sends_221 v1 n) S (v2 + (1 : Int32))) else ((mX7_place S v1 ((3 : Int32) + v2) (-9 : Int32)).bind fun S272 => ((lX7_sends_221 v1 n) S272 (v2 + (1 : Int32))))))))) else ((lX7_sends_221 v1 n) S (v2 + (1 : Int32))))))
set_option maxHeartbeats 4000000 in
set_option maxRecDepth 100000 in
theorem lX7_sends_221_t {p : Program} {l : Launch} {e : Env} {s : State} {m : MethodId} {args : Array Value} {below : List Frame} {meth : Method} {c : Code} {D : va_G} {cA : Nat → ClassId} {ad : Nat → Nat}   (C0 : Cx D vwCl tlM shM cA ad ExM RX7 cX7_sends 4 none p s m args meth c)   (v1 : Int32)  : ∀ (n : Nat) (S : vS) (v2 : Int32) (ls : Array Slot), lv_has ls 4 [(0, .ref (ad 0)), (1, .int v1), (2, .int v2)] → SW p l e rm_X7_sends s m args below meth c D vwCl shM cA ad (Fq D vwCl shM cA ad below args s (fun _ => none : vS → Option Value) (fun S1 => S1) (fun _ => True)) (lX7_sends_221 v1 n S v2) S 221 ls [] := by
  intro n
  induction n with
  | zero =>
    intro S v2 ls hl
    rw [lX7_sends_221]
    exact sw_none
  | succ n ih =>
    intro S v2 ls hl
    rw [lX7_sends_221]
    refine sx_iload_n C0 dX7_sends_221 rfl (lv_at hl 2 rfl) ?_
    refine sx_aload_n C0 dX7_sends_222 rfl (lv_at hl 0 rfl) ?_
    refine gf_X7_139 C0 is7 dX7_sends_223 ?_
    refine sx_icmp_ge (tgt := 281) C0 dX7_sends_226 (by decide) (fun _ => ?_) (fun _ => ?_)
    · exact sx_vret C0 rfl rfl trivial dX7_sends_281
    · refine sx_aload_n C0 dX7_sends_229 rfl (lv_at hl 0 rfl) ?_
      refine sx_iload_n C0 dX7_sends_230 rfl (lv_at hl 2 rfl) ?_
      refine sw_bind (fun a231 e231 => ?_)
      refine cv_X7_146 (As := [.int v2]) C0 (c_X7_kind C0.2.2.2.2.2.2.2.1 v2 S _ e231) is7 ⟨rfl, rfl⟩ ⟨Nat.le_of_ble_eq_true rfl, Nat.le_of_ble_eq_true rfl⟩ rfl hl.1 (Nat.le_of_ble_eq_true rfl) rfl dX7_sends_231 (fun _ => ?_)
      refine sx_iconst (v := 4) C0 dX7_sends_234 (by decide) ?_
      refine sx_icmp_ne (tgt := 275) C0 dX7_sends_235 (by decide) (fun _ => ?_) (fun _ => ?_)
      · refine sx_aload_n C0 dX7_sends_238 rfl (lv_at hl 0 rfl) ?_
        refine sx_iload_n C0 dX7_sends_239 rfl (lv_at hl 1 rfl) ?_
        refine sx_iload_n C0 dX7_sends_240 rfl (lv_at hl 2 rfl) ?_
        refine sw_bind (fun a241 e241 => ?_)
        refine cv_X7_165 (As := [.int v1, .int v2]) C0 (c_X7_isUp C0.2.2.2.2.2.2.2.1 v1 v2 S _ e241) is7 ⟨rfl, rfl⟩ ⟨Nat.le_of_ble_eq_true rfl, Nat.le_of_ble_eq_true rfl⟩ rfl hl.1 (Nat.le_of_ble_eq_true rfl) rfl dX7_sends_241 (fun hb241 => ?_)
        refine sx_if_eq (tgt := 275) C0 dX7_sends_244 (by decide) (fun _ => ?_) (fun _ => ?_)
        · refine sx_iinc (v := (v2 + (1 : Int32))) (lv' := [(2, .int (v2 + (1 : Int32))), (0, .ref (ad 0)), (1, .int v1)]) C0 dX7_sends_275 hl (k := 2) rfl rfl (by decide) rfl (fun ls hl => ?_)
          refine sx_goto (tgt := 221) C0 dX7_sends_278 (by decide) ?_
          exact ih _ _ _ (lv_sub hl [1, 2, 0] rfl)
        · refine sx_aload_n C0 dX7_sends_247 rfl (lv_at hl 0 rfl) ?_
          refine sx_iload_n C0 dX7_sends_248 rfl (lv_at hl 1 rfl) ?_
          refine sx_iconst (v := 3) C0 dX7_sends_249 (by decide) ?_
          refine sx_iload_n C0 dX7_sends_250 rfl (lv_at hl 2 rfl) ?_
          refine sx_iadd C0 dX7_sends_251 ?_
          refine sw_bind (fun a252 e252 => ?_)
          refine cv_X7_149 (As := [.int v1, .int ((3 : Int32) + v2)]) C0 (c_X7_v C0.2.2.2.2.2.2.2.1 v1 ((3 : Int32) + v2) S _ e252) is7 ⟨rfl, rfl⟩ ⟨Nat.le_of_ble_eq_true rfl, Nat.le_of_ble_eq_true rfl⟩ rfl hl.1 (Nat.le_of_ble_eq_true rfl) rfl dX7_sends_252 (fun _ => ?_)
          refine sx_aload_n C0 dX7_sends_255 rfl (lv_at hl 0 rfl) ?_
          refine sx_iload_n C0 dX7_sends_256 rfl (lv_at hl 2 rfl) ?_
          refine sw_bind (fun a257 e257 => ?_)
          refine cv_X7_192 (As := [.int v2]) C0 (c_X7_patienceOf C0.2.2.2.2.2.2.2.1 v2 S _ e257) is7 ⟨rfl, rfl⟩ ⟨Nat.le_of_ble_eq_true rfl, Nat.le_of_ble_eq_true rfl⟩ rfl hl.1 (Nat.le_of_ble_eq_true rfl) rfl dX7_sends_257 (fun _ => ?_)
          refine sx_iconst (v := 1) C0 dX7_sends_260 (by decide) ?_
          refine sx_iadd C0 dX7_sends_261 ?_
          refine sx_icmp_le (tgt := 275) C0 dX7_sends_262 (by decide) (fun _ => ?_) (fun _ => ?_)
          · refine sx_iinc (v := (v2 + (1 : Int32))) (lv' := [(2, .int (v2 + (1 : Int32))), (0, .ref (ad 0)), (1, .int v1)]) C0 dX7_sends_275 hl (k := 2) rfl rfl (by decide) rfl (fun ls hl => ?_)
            refine sx_goto (tgt := 221) C0 dX7_sends_278 (by decide) ?_
            exact ih _ _ _ (lv_sub hl [1, 2, 0] rfl)
          · refine sx_aload_n C0 dX7_sends_265 rfl (lv_at hl 0 rfl) ?_
            refine sx_iload_n C0 dX7_sends_266 rfl (lv_at hl 1 rfl) ?_
            refine sx_iconst (v := 3) C0 dX7_sends_267 (by decide) ?_
            refine sx_iload_n C0 dX7_sends_268 rfl (lv_at hl 2 rfl) ?_
            refine sx_iadd C0 dX7_sends_269 ?_
            refine sx_bipush (v := (-9)) C0 dX7_sends_270 (by decide) ?_
            refine sw_bind (fun S272 e272 => ?_)
            refine cv_X7_142 (As := [.int v1, .int ((3 : Int32) + v2), .int (-9 : Int32)]) C0 (c_X7_place C0.2.2.2.2.2.2.2.1 v1 ((3 : Int32) + v2) (-9 : Int32) S _ e272) is7 ⟨rfl, rfl⟩ ⟨Nat.le_of_ble_eq_true rfl, Nat.le_of_ble_eq_true rfl⟩ rfl hl.1 (Nat.le_of_ble_eq_true rfl) rfl dX7_sends_272 (fun _ => ?_)
            refine sx_iinc (v := (v2 + (1 : Int32))) (lv' := [(2, .int (v2 + (1 : Int32))), (0, .ref (ad 0)), (1, .int v1)]) C0 dX7_sends_275 hl (k := 2) rfl rfl (by decide) rfl (fun ls hl => ?_)
            refine sx_goto (tgt := 221) C0 dX7_sends_278 (by decide) ?_
            exact ih _ _ _ (lv_sub hl [1, 2, 0] rfl)
      · refine sx_iinc (v := (v2 + (1 : Int32))) (lv' := [(2, .int (v2 + (1 : Int32))), (0, .ref (ad 0)), (1, .int v1)]) C0 dX7_sends_275 hl (k := 2) rfl rfl (by decide) rfl (fun ls hl => ?_)
        refine sx_goto (tgt := 221) C0 dX7_sends_278 (by decide) ?_
        exact ih _ _ _ (lv_sub hl [1, 2, 0] rfl)
def bX7_sends_219    (S : vS) (v1 : Int32)  : Option vS := (lX7_sends_221 v1 FU S (0 : Int32))
set_option maxHeartbeats 4000000 in
set_option maxRecDepth 100000 in
theorem bX7_sends_219_t {p : Program} {l : Launch} {e : Env} {s : State} {m : MethodId} {args : Array Value} {below : List Frame} {meth : Method} {c : Code} {D : va_G} {cA : Nat → ClassId} {ad : Nat → Nat}   (C0 : Cx D vwCl tlM shM cA ad ExM RX7 cX7_sends 4 none p s m args meth c)  (S : vS) (v1 : Int32) (ls : Array Slot) (hl : lv_has ls 4 [(0, .ref (ad 0)), (1, .int v1)]) : SW p l e rm_X7_sends s m args below meth c D vwCl shM cA ad (Fq D vwCl shM cA ad below args s (fun _ => none : vS → Option Value) (fun S1 => S1) (fun _ => True)) (bX7_sends_219 S v1) S 219 ls [] := by
  rw [bX7_sends_219]
  refine sx_iconst (v := 0) C0 dX7_sends_219 (by decide) ?_
  refine sx_istore_n (lv' := [(2, .int (0 : Int32)), (0, .ref (ad 0)), (1, .int v1)]) C0 dX7_sends_220 rfl hl (by decide) rfl (fun ls hl => ?_)
  exact lX7_sends_221_t C0 _ _ _ _ _ (lv_sub hl [1, 2, 0] rfl)
def lX7_sends_12    (v1 : Int32) : Nat → vS → Int32 → Option vS
  | 0, _, _ => none
  | n + 1, S, v2 => (if (S.1 0 10) ≤ v2 then (bX7_sends_219 S v1) else ((pI S 11 4 v2 (0 : Int32)).bind fun S26 => ((mX7_isUp S26 v1 v2).bind fun a30 => (if a30 = 0 then ((lX7_sends_12 v1 n) S26 (v2 + (1 : Int32))) else ((mX7_kind S26 v2).bind fun a38 => (if a38 = (5 : Int32) then ((mX7_v S26 v1 (7 : Int32)).bind fun a49 => (if (mX7_has a49 v2) = 0 then ((lX7_sends_12 v1 n) S26 (v2 + (1 : Int32))) else (bX7_sends_59 (lX7_sends_12 v1 n) S26 v1 v2))) else (bX7_sends_59 (lX7_sends_12 v1 n) S26 v1 v2)))))))
set_option maxHeartbeats 4000000 in
set_option maxRecDepth 100000 in
theorem lX7_sends_12_t {p : Program} {l : Launch} {e : Env} {s : State} {m : MethodId} {args : Array Value} {below : List Frame} {meth : Method} {c : Code} {D : va_G} {cA : Nat → ClassId} {ad : Nat → Nat}   (C0 : Cx D vwCl tlM shM cA ad ExM RX7 cX7_sends 4 none p s m args meth c)   (v1 : Int32)  : ∀ (n : Nat) (S : vS) (v2 : Int32) (ls : Array Slot), lv_has ls 4 [(0, .ref (ad 0)), (1, .int v1), (2, .int v2)] → SW p l e rm_X7_sends s m args below meth c D vwCl shM cA ad (Fq D vwCl shM cA ad below args s (fun _ => none : vS → Option Value) (fun S1 => S1) (fun _ => True)) (lX7_sends_12 v1 n S v2) S 12 ls [] := by
  intro n
  induction n with
  | zero =>
    intro S v2 ls hl
    rw [lX7_sends_12]
    exact sw_none
  | succ n ih =>
    intro S v2 ls hl
    rw [lX7_sends_12]
    refine sx_iload_n C0 dX7_sends_12 rfl (lv_at hl 2 rfl) ?_
    refine sx_aload_n C0 dX7_sends_13 rfl (lv_at hl 0 rfl) ?_
    refine gf_X7_139 C0 is7 dX7_sends_14 ?_
    refine sx_icmp_ge (tgt := 219) C0 dX7_sends_17 (by decide) (fun _ => ?_) (fun _ => ?_)
    · exact bX7_sends_219_t C0 _ _ _ (lv_sub hl [0, 1] rfl)
    · refine sx_aload_n C0 dX7_sends_20 rfl (lv_at hl 0 rfl) ?_
      refine gf_X7_41 C0 is7 dX7_sends_21 ?_
      refine sx_iload_n C0 dX7_sends_24 rfl (lv_at hl 2 rfl) ?_
      refine sx_iconst (v := 0) C0 dX7_sends_25 (by decide) ?_
      refine sx_iast C0 is7_sentNow rfl dX7_sends_26 (fun S26 => ?_)
      refine sx_aload_n C0 dX7_sends_27 rfl (lv_at hl 0 rfl) ?_
      refine sx_iload_n C0 dX7_sends_28 rfl (lv_at hl 1 rfl) ?_
      refine sx_iload_n C0 dX7_sends_29 rfl (lv_at hl 2 rfl) ?_
      refine sw_bind (fun a30 e30 => ?_)
      refine cv_X7_165 (As := [.int v1, .int v2]) C0 (c_X7_isUp C0.2.2.2.2.2.2.2.1 v1 v2 S26 _ e30) is7 ⟨rfl, rfl⟩ ⟨Nat.le_of_ble_eq_true rfl, Nat.le_of_ble_eq_true rfl⟩ rfl hl.1 (Nat.le_of_ble_eq_true rfl) rfl dX7_sends_30 (fun hb30 => ?_)
      refine sx_if_eq (tgt := 213) C0 dX7_sends_33 (by decide) (fun _ => ?_) (fun _ => ?_)
      · refine sx_iinc (v := (v2 + (1 : Int32))) (lv' := [(2, .int (v2 + (1 : Int32))), (0, .ref (ad 0)), (1, .int v1)]) C0 dX7_sends_213 hl (k := 2) rfl rfl (by decide) rfl (fun ls hl => ?_)
        refine sx_goto (tgt := 12) C0 dX7_sends_216 (by decide) ?_
        exact ih _ _ _ (lv_sub hl [1, 2, 0] rfl)
      · refine sx_aload_n C0 dX7_sends_36 rfl (lv_at hl 0 rfl) ?_
        refine sx_iload_n C0 dX7_sends_37 rfl (lv_at hl 2 rfl) ?_
        refine sw_bind (fun a38 e38 => ?_)
        refine cv_X7_146 (As := [.int v2]) C0 (c_X7_kind C0.2.2.2.2.2.2.2.1 v2 S26 _ e38) is7 ⟨rfl, rfl⟩ ⟨Nat.le_of_ble_eq_true rfl, Nat.le_of_ble_eq_true rfl⟩ rfl hl.1 (Nat.le_of_ble_eq_true rfl) rfl dX7_sends_38 (fun _ => ?_)
        refine sx_iconst (v := 5) C0 dX7_sends_41 (by decide) ?_
        refine sx_icmp_ne (tgt := 59) C0 dX7_sends_42 (by decide) (fun _ => ?_) (fun _ => ?_)
        · refine sx_aload_n C0 dX7_sends_45 rfl (lv_at hl 0 rfl) ?_
          refine sx_iload_n C0 dX7_sends_46 rfl (lv_at hl 1 rfl) ?_
          refine sx_bipush (v := 7) C0 dX7_sends_47 (by decide) ?_
          refine sw_bind (fun a49 e49 => ?_)
          refine cv_X7_149 (As := [.int v1, .int (7 : Int32)]) C0 (c_X7_v C0.2.2.2.2.2.2.2.1 v1 (7 : Int32) S26 _ e49) is7 ⟨rfl, rfl⟩ ⟨Nat.le_of_ble_eq_true rfl, Nat.le_of_ble_eq_true rfl⟩ rfl hl.1 (Nat.le_of_ble_eq_true rfl) rfl dX7_sends_49 (fun _ => ?_)
          refine sx_iload_n C0 dX7_sends_52 rfl (lv_at hl 2 rfl) ?_
          refine cv_X7_174 (As := [.int a49, .int v2]) C0 (c_X7_has C0.2.2.2.2.2.2.2.1 a49 v2 S26) ⟨rfl, rfl⟩ ⟨Nat.le_of_ble_eq_true rfl, Nat.le_of_ble_eq_true rfl⟩ rfl hl.1 (Nat.le_of_ble_eq_true rfl) rfl dX7_sends_53 (fun hb53 => ?_)
          refine sx_if_eq (tgt := 213) C0 dX7_sends_56 (by decide) (fun _ => ?_) (fun _ => ?_)
          · refine sx_iinc (v := (v2 + (1 : Int32))) (lv' := [(2, .int (v2 + (1 : Int32))), (0, .ref (ad 0)), (1, .int v1)]) C0 dX7_sends_213 hl (k := 2) rfl rfl (by decide) rfl (fun ls hl => ?_)
            refine sx_goto (tgt := 12) C0 dX7_sends_216 (by decide) ?_
            exact ih _ _ _ (lv_sub hl [1, 2, 0] rfl)
          · exact bX7_sends_59_t C0 _ _ _ ih _ (lv_sub hl [0, 1, 2] rfl)
        · exact bX7_sends_59_t C0 _ _ _ ih _ (lv_sub hl [0, 1, 2] rfl)
def mX7_sends (S : vS) (v1 : Int32) : Option vS := (lt (wI S 0 20 (0 : Int32)) fun S2 => (lt (wI S2 0 21 (0 : Int32)) fun S7 => (lX7_sends_12 v1 FU S7 (0 : Int32))))
set_option maxHeartbeats 4000000 in
set_option maxRecDepth 100000 in
theorem c_X7_sends {l : Launch} {D : va_G} {cA : Nat → ClassId} {ad : Nat → Nat} (G : Gx shM ad ExM) (v1 : Int32) (S : vS) (r : vS) (hr : (mX7_sends S v1) = some r) : Met l yX7_sends (Cond.code yX7_sends cX7_sends 4 none :: ALL) rm_X7_sends (Po D vwCl tlM shM cA ad ExM [.ref (ad 0), .int v1] S) (Qo D vwCl shM cA ad none r True) 0 0 (aw shM ad) := by
  refine Met.sx (M := (mX7_sends S v1)) (rv := (fun _ => none : vS → Option Value)) (rs := fun S1 => S1) (B := fun _ => True) (by decide) ⟨rfl, rfl⟩ (Nat.le_of_ble_eq_true rfl) G (fun p e s m args below meth c C0 ls hl => ?_) hr
  have hl : lv_has ls 4 [(0, .ref (ad 0)), (1, .int v1)] := hl
  rw [mX7_sends]
  refine sx_aload_n C0 dX7_sends_0 rfl (lv_at hl 0 rfl) ?_
  refine sx_iconst (v := 0) C0 dX7_sends_1 (by decide) ?_
  refine pf_X7_186 C0 is7 dX7_sends_2 (fun S2 => ?_)
  refine sx_aload_n C0 dX7_sends_5 rfl (lv_at hl 0 rfl) ?_
  refine sx_iconst (v := 0) C0 dX7_sends_6 (by decide) ?_
  refine pf_X7_189 C0 is7 dX7_sends_7 (fun S7 => ?_)
  refine sx_iconst (v := 0) C0 dX7_sends_10 (by decide) ?_
  refine sx_istore_n (lv' := [(2, .int (0 : Int32)), (0, .ref (ad 0)), (1, .int v1)]) C0 dX7_sends_11 rfl hl (by decide) rfl (fun ls hl => ?_)
  exact lX7_sends_12_t C0 _ _ _ _ _ (lv_sub hl [1, 2, 0] rfl)
