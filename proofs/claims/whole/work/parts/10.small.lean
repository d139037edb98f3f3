abbrev rm_X0_has : Room := { frames := 0, cells := 0, slots := 0, locals := 0 }
def bX0_has_16 (k : Nat)   (S : vS)   : Int32 := (0 : Int32)
set_option maxHeartbeats 4000000 in
set_option maxRecDepth 100000 in
theorem bX0_has_16_t {p : Program} {l : Launch} {e : Env} {s : State} {m : MethodId} {args : Array Value} {below : List Frame} {meth : Method} {c : Code} {D : va_G} {cA : Nat → ClassId} {ad : Nat → Nat} {kl : Nat}   (C0 : Cx D vwCl tlC shC cA ad (ExC ad kl) RX0 cX0_has 2 (some .boolean) p s m args meth c) (k : Nat) (hk : IsX0 k) (S : vS)  (ls : Array Slot) (hl : lv_has ls 2 []) : SW p l e rm_X0_has s m args below meth c D vwCl shC cA ad (Fq D vwCl shC cA ad below args s (fun r => some (.int r) : Int32 → Option Value) (fun _ => S) (fun r => isB r)) (some (bX0_has_16 k S)) S 16 ls [] := by
  rw [bX0_has_16]
  refine sx_iconst (v := 0) C0 dX0_has_16 (by decide) ?_
  exact sx_zret C0 rfl rfl (Or.inl rfl) (Or.inl rfl) dX0_has_17
def mX0_has (S : vS) (k : Nat) (v1 : Int32) : Int32 := (if v1 < 0 then (bX0_has_16 k S) else (if (S.1 k 0) ≤ v1 then (bX0_has_16 k S) else (1 : Int32)))
set_option maxHeartbeats 4000000 in
set_option maxRecDepth 100000 in
theorem c_X0_has {l : Launch} {D : va_G} {cA : Nat → ClassId} {ad : Nat → Nat} {kl : Nat} (G : Gx shC ad (ExC ad kl)) (k : Nat) (hk : IsX0 k) (v1 : Int32) (S : vS) : Met l yX0_has (Cond.code yX0_has cX0_has 2 (some .boolean) :: ALL) rm_X0_has (Po D vwCl tlC shC cA ad (ExC ad kl) [.ref (ad k), .int v1] S) (Qo D vwCl shC cA ad (some (.int (mX0_has S k v1))) S (isB (mX0_has S k v1))) 0 0 (aw shC ad) := by
  refine Met.sx (M := some (mX0_has S k v1)) (rv := (fun r => some (.int r) : Int32 → Option Value)) (rs := fun _ => S) (B := fun r => isB r) (by decide) ⟨rfl, rfl⟩ (Nat.le_of_ble_eq_true rfl) G (fun p e s m args below meth c C0 ls hl => ?_) rfl
  have hl : lv_has ls 2 [(0, .ref (ad k)), (1, .int v1)] := hl
  rw [mX0_has]
  refine sx_iload_n C0 dX0_has_0 rfl (lv_at hl 1 rfl) ?_
  refine sx_if_lts (tgt := 16) C0 dX0_has_1 (by decide) (fun _ => ?_) (fun _ => ?_)
  · exact bX0_has_16_t C0 k hk _ _ (lv_sub hl [] rfl)
  · refine sx_iload_n C0 dX0_has_4 rfl (lv_at hl 1 rfl) ?_
    refine sx_aload_n C0 dX0_has_5 rfl (lv_at hl 0 rfl) ?_
    refine gf_X0_9 C0 hk.1 dX0_has_6 ?_
    refine sx_icmp_ges (tgt := 16) C0 dX0_has_9 (by decide) (fun _ => ?_) (fun _ => ?_)
    · exact bX0_has_16_t C0 k hk _ _ (lv_sub hl [] rfl)
    · refine sx_iconst (v := 1) C0 dX0_has_12 (by decide) ?_
      refine sx_goto (tgt := 17) C0 dX0_has_13 (by decide) ?_
      exact sx_zret C0 rfl rfl (Or.inr rfl) (Or.inr rfl) dX0_has_17
abbrev rm_X0_hasNumber : Room := { frames := 0, cells := 0, slots := 0, locals := 0 }
def bX0_hasNumber_24 (k : Nat)   (S : vS)   : Int32 := (0 : Int32)
set_option maxHeartbeats 4000000 in
set_option maxRecDepth 100000 in
theorem bX0_hasNumber_24_t {p : Program} {l : Launch} {e : Env} {s : State} {m : MethodId} {args : Array Value} {below : List Frame} {meth : Method} {c : Code} {D : va_G} {cA : Nat → ClassId} {ad : Nat → Nat} {kl : Nat}   (C0 : Cx D vwCl tlC shC cA ad (ExC ad kl) RX0 cX0_hasNumber 2 (some .boolean) p s m args meth c) (k : Nat) (hk : IsX0 k) (S : vS)  (ls : Array Slot) (hl : lv_has ls 2 []) : SW p l e rm_X0_hasNumber s m args below meth c D vwCl shC cA ad (Fq D vwCl shC cA ad below args s (fun r => some (.int r) : Int32 → Option Value) (fun _ => S) (fun r => isB r)) (some (bX0_hasNumber_24 k S)) S 24 ls [] := by
  rw [bX0_hasNumber_24]
  refine sx_iconst (v := 0) C0 dX0_hasNumber_24 (by decide) ?_
  exact sx_zret C0 rfl rfl (Or.inl rfl) (Or.inl rfl) dX0_hasNumber_25
def mX0_hasNumber (S : vS) (k : Nat) (v1 : Int32) : Int32 := (if v1 = (12 : Int32) then (1 : Int32) else (if v1 < 0 then (bX0_hasNumber_24 k S) else (if ((3 : Int32) * (S.1 k 0)) ≤ v1 then (bX0_hasNumber_24 k S) else (1 : Int32))))
set_option maxHeartbeats 4000000 in
set_option maxRecDepth 100000 in
theorem c_X0_hasNumber {l : Launch} {D : va_G} {cA : Nat → ClassId} {ad : Nat → Nat} {kl : Nat} (G : Gx shC ad (ExC ad kl)) (k : Nat) (hk : IsX0 k) (v1 : Int32) (S : vS) : Met l yX0_hasNumber (Cond.code yX0_hasNumber cX0_hasNumber 2 (some .boolean) :: ALL) rm_X0_hasNumber (Po D vwCl tlC shC cA ad (ExC ad kl) [.ref (ad k), .int v1] S) (Qo D vwCl shC cA ad (some (.int (mX0_hasNumber S k v1))) S (isB (mX0_hasNumber S k v1))) 0 0 (aw shC ad) := by
  refine Met.sx (M := some (mX0_hasNumber S k v1)) (rv := (fun r => some (.int r) : Int32 → Option Value)) (rs := fun _ => S) (B := fun r => isB r) (by decide) ⟨rfl, rfl⟩ (Nat.le_of_ble_eq_true rfl) G (fun p e s m args below meth c C0 ls hl => ?_) rfl
  have hl : lv_has ls 2 [(0, .ref (ad k)), (1, .int v1)] := hl
  rw [mX0_hasNumber]
  refine sx_iload_n C0 dX0_hasNumber_0 rfl (lv_at hl 1 rfl) ?_
  refine sx_bipush (v := 12) C0 dX0_hasNumber_1 (by decide) ?_
  refine sx_icmp_eqs (tgt := 20) C0 dX0_hasNumber_3 (by decide) (fun _ => ?_) (fun _ => ?_)
  · refine sx_iconst (v := 1) C0 dX0_hasNumber_20 (by decide) ?_
    refine sx_goto (tgt := 25) C0 dX0_hasNumber_21 (by decide) ?_
    exact sx_zret C0 rfl rfl (Or.inr rfl) (Or.inr rfl) dX0_hasNumber_25
  · refine sx_iload_n C0 dX0_hasNumber_6 rfl (lv_at hl 1 rfl) ?_
    refine sx_if_lts (tgt := 24) C0 dX0_hasNumber_7 (by decide) (fun _ => ?_) (fun _ => ?_)
    · exact bX0_hasNumber_24_t C0 k hk _ _ (lv_sub hl [] rfl)
    · refine sx_iload_n C0 dX0_hasNumber_10 rfl (lv_at hl 1 rfl) ?_
      refine sx_iconst (v := 3) C0 dX0_hasNumber_11 (by decide) ?_
      refine sx_aload_n C0 dX0_hasNumber_12 rfl (lv_at hl 0 rfl) ?_
      refine gf_X0_9 C0 hk.1 dX0_hasNumber_13 ?_
      refine sx_imul C0 dX0_hasNumber_16 ?_
      refine sx_icmp_ges (tgt := 24) C0 dX0_hasNumber_17 (by decide) (fun _ => ?_) (fun _ => ?_)
      · exact bX0_hasNumber_24_t C0 k hk _ _ (lv_sub hl [] rfl)
      · refine sx_iconst (v := 1) C0 dX0_hasNumber_20 (by decide) ?_
        refine sx_goto (tgt := 25) C0 dX0_hasNumber_21 (by decide) ?_
        exact sx_zret C0 rfl rfl (Or.inr rfl) (Or.inr rfl) dX0_hasNumber_25
abbrev rm_X0_isOfKind : Room := { frames := 1, cells := 0, slots := 0, locals := 21 }
def bX0_isOfKind_46 (k : Nat)   (S : vS)   : Option Int32 := (some (0 : Int32))
set_option maxHeartbeats 4000000 in
set_option maxRecDepth 100000 in
theorem bX0_isOfKind_46_t {p : Program} {l : Launch} {e : Env} {s : State} {m : MethodId} {args : Array Value} {below : List Frame} {meth : Method} {c : Code} {D : va_G} {cA : Nat → ClassId} {ad : Nat → Nat} {kl : Nat}   (C0 : Cx D vwCl tlC shC cA ad (ExC ad kl) RX0 cX0_isOfKind 4 (some .boolean) p s m args meth c) (k : Nat) (hk : IsX0 k) (S : vS)  (ls : Array Slot) (hl : lv_has ls 4 []) : SW p l e rm_X0_isOfKind s m args below meth c D vwCl shC cA ad (Fq D vwCl shC cA ad below args s (fun r => some (.int r) : Int32 → Option Value) (fun _ => S) (fun r => isB r)) (bX0_isOfKind_46 k S) S 46 ls [] := by
  rw [bX0_isOfKind_46]
  refine sx_iconst (v := 0) C0 dX0_isOfKind_46 (by decide) ?_
  exact sx_zret C0 rfl rfl (Or.inl rfl) (Or.inl rfl) dX0_isOfKind_47
def bX0_isOfKind_32 (k : Nat)   (S : vS) (v2 : Int32) (v3 : Int32)  : Option Int32 := (if v3 = (5 : Int32) then (if v2 = (3 : Int32) then (some (1 : Int32)) else (bX0_isOfKind_46 k S)) else (bX0_isOfKind_46 k S))
set_option maxHeartbeats 4000000 in
set_option maxRecDepth 100000 in
theorem bX0_isOfKind_32_t {p : Program} {l : Launch} {e : Env} {s : State} {m : MethodId} {args : Array Value} {below : List Frame} {meth : Method} {c : Code} {D : va_G} {cA : Nat → ClassId} {ad : Nat → Nat} {kl : Nat}   (C0 : Cx D vwCl tlC shC cA ad (ExC ad kl) RX0 cX0_isOfKind 4 (some .boolean) p s m args meth c) (k : Nat) (hk : IsX0 k) (S : vS) (v2 : Int32) (v3 : Int32) (ls : Array Slot) (hl : lv_has ls 4 [(2, .int v2), (3, .int v3)]) : SW p l e rm_X0_isOfKind s m args below meth c D vwCl shC cA ad (Fq D vwCl shC cA ad below args s (fun r => some (.int r) : Int32 → Option Value) (fun _ => S) (fun r => isB r)) (bX0_isOfKind_32 k S v2 v3) S 32 ls [] := by
  rw [bX0_isOfKind_32]
  refine sx_iload_n C0 dX0_isOfKind_32 rfl (lv_at hl 1 rfl) ?_
  refine sx_iconst (v := 5) C0 dX0_isOfKind_33 (by decide) ?_
  refine sx_icmp_ne (tgt := 46) C0 dX0_isOfKind_34 (by decide) (fun _ => ?_) (fun _ => ?_)
  · refine sx_iload_n C0 dX0_isOfKind_37 rfl (lv_at hl 0 rfl) ?_
    refine sx_iconst (v := 3) C0 dX0_isOfKind_38 (by decide) ?_
    refine sx_icmp_ne (tgt := 46) C0 dX0_isOfKind_39 (by decide) (fun _ => ?_) (fun _ => ?_)
    · refine sx_iconst (v := 1) C0 dX0_isOfKind_42 (by decide) ?_
      refine sx_goto (tgt := 47) C0 dX0_isOfKind_43 (by decide) ?_
      exact sx_zret C0 rfl rfl (Or.inr rfl) (Or.inr rfl) dX0_isOfKind_47
    · exact bX0_isOfKind_46_t C0 k hk _ _ (lv_sub hl [] rfl)
  · exact bX0_isOfKind_46_t C0 k hk _ _ (lv_sub hl [] rfl)
def mX0_isOfKind (S : vS) (k : Nat) (v1 : Int32) (v2 : Int32) : Option Int32 := (if (mX0_has S k v1) = 0 then (some (0 : Int32)) else ((gI (S.1 (k + 1)) 4 v1).bind fun a15 => (if a15 = v2 then (some (1 : Int32)) else (if a15 = (4 : Int32) then (if v2 = (2 : Int32) then (some (1 : Int32)) else (bX0_isOfKind_32 k S v2 a15)) else (bX0_isOfKind_32 k S v2 a15)))))
set_option maxHeartbeats 4000000 in
set_option maxRecDepth 100000 in
theorem c_X0_isOfKind {l : Launch} {D : va_G} {cA : Nat → ClassId} {ad : Nat → Nat} {kl : Nat} (G : Gx shC ad (ExC ad kl)) (k : Nat) (hk : IsX0 k) (v1 : Int32) (v2 : Int32) (S : vS) (r : Int32) (hr : (mX0_isOfKind S k v1 v2) = some r) : Met l yX0_isOfKind (Cond.code yX0_isOfKind cX0_isOfKind 4 (some .boolean) :: ALL) rm_X0_isOfKind (Po D vwCl tlC shC cA ad (ExC ad kl) [.ref (ad k), .int v1, .int v2] S) (Qo D vwCl shC cA ad (some (.int r)) S (isB r)) 0 0 (aw shC ad) := by
  refine Met.sx (M := (mX0_isOfKind S k v1 v2)) (rv := (fun r => some (.int r) : Int32 → Option Value)) (rs := fun _ => S) (B := fun r => isB r) (by decide) ⟨rfl, rfl⟩ (Nat.le_of_ble_eq_true rfl) G (fun p e s m args below meth c C0 ls hl => ?_) hr
  have hl : lv_has ls 4 [(0, .ref (ad k)), (1, .int v1), (2, .int v2)] := hl
  rw [mX0_isOfKind]
  refine sx_aload_n C0 dX0_isOfKind_0 rfl (lv_at hl 0 rfl) ?_
  refine sx_iload_n C0 dX0_isOfKind_1 rfl (lv_at hl 1 rfl) ?_
  refine cv_X0_49 (As := [.int v1]) C0 (c_X0_has C0.2.2.2.2.2.2.2.1 k hk v1 S) hk.1 ⟨rfl, rfl⟩ ⟨Nat.le_of_ble_eq_true rfl, Nat.le_of_ble_eq_true rfl⟩ rfl hl.1 (Nat.le_of_ble_eq_true rfl) rfl dX0_isOfKind_2 (fun hb2 => ?_)
  refine sx_if_ne (tgt := 10) C0 dX0_isOfKind_5 (by decide) (fun _ => ?_) (fun _ => ?_)
  · refine sx_iconst (v := 0) C0 dX0_isOfKind_8 (by decide) ?_
    exact sx_zret C0 rfl rfl (Or.inl rfl) (Or.inl rfl) dX0_isOfKind_9
  · refine sx_aload_n C0 dX0_isOfKind_10 rfl (lv_at hl 0 rfl) ?_
    refine gf_X0_21 C0 hk.1 dX0_isOfKind_11 ?_
    refine sx_iload_n C0 dX0_isOfKind_14 rfl (lv_at hl 1 rfl) ?_
    refine sx_iald C0 hk.2.1 rfl dX0_isOfKind_15 (fun a15 => ?_)
    refine sx_istore_n (lv' := [(3, .int a15), (0, .ref (ad k)), (1, .int v1), (2, .int v2)]) C0 dX0_isOfKind_16 rfl hl (by decide) rfl (fun ls hl => ?_)
    refine sx_iload_n C0 dX0_isOfKind_17 rfl (lv_at hl 0 rfl) ?_
    refine sx_iload_n C0 dX0_isOfKind_18 rfl (lv_at hl 3 rfl) ?_
    refine sx_icmp_eq (tgt := 42) C0 dX0_isOfKind_19 (by decide) (fun _ => ?_) (fun _ => ?_)
    · refine sx_iconst (v := 1) C0 dX0_isOfKind_42 (by decide) ?_
      refine sx_goto (tgt := 47) C0 dX0_isOfKind_43 (by decide) ?_
      exact sx_zret C0 rfl rfl (Or.inr rfl) (Or.inr rfl) dX0_isOfKind_47
    · refine sx_iload_n C0 dX0_isOfKind_22 rfl (lv_at hl 0 rfl) ?_
      refine sx_iconst (v := 4) C0 dX0_isOfKind_23 (by decide) ?_
      refine sx_icmp_ne (tgt := 32) C0 dX0_isOfKind_24 (by decide) (fun _ => ?_) (fun _ => ?_)
      · refine sx_iload_n C0 dX0_isOfKind_27 rfl (lv_at hl 3 rfl) ?_
        refine sx_iconst (v := 2) C0 dX0_isOfKind_28 (by decide) ?_
        refine sx_icmp_eq (tgt := 42) C0 dX0_isOfKind_29 (by decide) (fun _ => ?_) (fun _ => ?_)
        · refine sx_iconst (v := 1) C0 dX0_isOfKind_42 (by decide) ?_
          refine sx_goto (tgt := 47) C0 dX0_isOfKind_43 (by decide) ?_
          exact sx_zret C0 rfl rfl (Or.inr rfl) (Or.inr rfl) dX0_isOfKind_47
        · exact bX0_isOfKind_32_t C0 k hk _ _ _ _ (lv_sub hl [3, 0] rfl)
      · exact bX0_isOfKind_32_t C0 k hk _ _ _ _ (lv_sub hl [3, 0] rfl)
abbrev rm_X0_howManyOfKind : Room := { frames := 2, cells := 0, slots := 0, locals := 44 }
def lX0_howManyOfKind_4 (k : Nat) (S : vS)  (v1 : Int32) : Nat → Int32 → Int32 → Option Int32
  | 0, _, _ => none
  | n + 1, v2, v3 => (if (S.1 k 0) ≤ v3 then (some v2) else ((mX0_isOfKind S k v3 v1).bind fun a15 => (if a15 = 0 then ((lX0_howManyOfKind_4 k S v1 n) v2 (v3 + (1 : Int32))) else ((lX0_howManyOfKind_4 k S v1 n) (v2 + (1 : Int32)) (v3 + (1 : Int32))))))
set_option maxHeartbeats 4000000 in
set_option maxRecDepth 100000 in
theorem lX0_howManyOfKind_4_t {p : Program} {l : Launch} {e : Env} {s : State} {m : MethodId} {args : Array Value} {below : List Frame} {meth : Method} {c : Code} {D : va_G} {cA : Nat → ClassId} {ad : Nat → Nat} {kl : Nat}   (C0 : Cx D vwCl tlC shC cA ad (ExC ad kl) RX0 cX0_howManyOfKind 4 (some .int) p s m args meth c) (k : Nat) (hk : IsX0 k) (S : vS) (v1 : Int32)  : ∀ (n : Nat) (v2 : Int32) (v3 : Int32) (ls : Array Slot), lv_has ls 4 [(0, .ref (ad k)), (1, .int v1), (2, .int v2), (3, .int v3)] → SW p l e rm_X0_howManyOfKind s m args below meth c D vwCl shC cA ad (Fq D vwCl shC cA ad below args s (fun r => some (.int r) : Int32 → Option Value) (fun _ => S) (fun _ => True)) (lX0_howManyOfKind_4 k S v1 n v2 v3) S 4 ls [] := by
  intro n
  induction n with
  | zero =>
    intro v2 v3 ls hl
    rw [lX0_howManyOfKind_4]
    exact sw_none
  | succ n ih =>
    intro v2 v3 ls hl
    rw [lX0_howManyOfKind_4]
    refine sx_iload_n C0 dX0_howManyOfKind_4 rfl (lv_at hl 3 rfl) ?_
    refine sx_aload_n C0 dX0_howManyOfKind_5 rfl (lv_at hl 0 rfl) ?_
    refine gf_X0_9 C0 hk.1 dX0_howManyOfKind_6 ?_
    refine sx_icmp_ge (tgt := 30) C0 dX0_howManyOfKind_9 (by decide) (fun _ => ?_) (fun _ => ?_)
    · refine sx_iload_n C0 dX0_howManyOfKind_30 rfl (lv_at hl 2 rfl) ?_
      exact sx_iret C0 rfl rfl trivial dX0_howManyOfKind_31
    · refine sx_aload_n C0 dX0_howManyOfKind_12 rfl (lv_at hl 0 rfl) ?_
      refine sx_iload_n C0 dX0_howManyOfKind_13 rfl (lv_at hl 3 rfl) ?_
      refine sx_iload_n C0 dX0_howManyOfKind_14 rfl (lv_at hl 1 rfl) ?_
      refine sw_bind (fun a15 e15 => ?_)
      refine cv_X0_53 (As := [.int v3, .int v1]) C0 (c_X0_isOfKind C0.2.2.2.2.2.2.2.1 k hk v3 v1 S _ e15) hk.1 ⟨rfl, rfl⟩ ⟨Nat.le_of_ble_eq_true rfl, Nat.le_of_ble_eq_true rfl⟩ rfl hl.1 (Nat.le_of_ble_eq_true rfl) rfl dX0_howManyOfKind_15 (fun hb15 => ?_)
      refine sx_if_eq (tgt := 24) C0 dX0_howManyOfKind_18 (by decide) (fun _ => ?_) (fun _ => ?_)
      · refine sx_iinc (v := (v3 + (1 : Int32))) (lv' := [(3, .int (v3 + (1 : Int32))), (0, .ref (ad k)), (1, .int v1), (2, .int v2)]) C0 dX0_howManyOfKind_24 hl (k := 3) rfl rfl (by decide) rfl (fun ls hl => ?_)
        refine sx_goto (tgt := 4) C0 dX0_howManyOfKind_27 (by decide) ?_
        exact ih _ _ _ (lv_sub hl [1, 2, 3, 0] rfl)
      · refine sx_iinc (v := (v2 + (1 : Int32))) (lv' := [(2, .int (v2 + (1 : Int32))), (0, .ref (ad k)), (1, .int v1), (3, .int v3)]) C0 dX0_howManyOfKind_21 hl (k := 2) rfl rfl (by decide) rfl (fun ls hl => ?_)
        refine sx_iinc (v := (v3 + (1 : Int32))) (lv' := [(3, .int (v3 + (1 : Int32))), (2, .int (v2 + (1 : Int32))), (0, .ref (ad k)), (1, .int v1)]) C0 dX0_howManyOfKind_24 hl (k := 3) rfl rfl (by decide) rfl (fun ls hl => ?_)
        refine sx_goto (tgt := 4) C0 dX0_howManyOfKind_27 (by decide) ?_
        exact ih _ _ _ (lv_sub hl [2, 3, 1, 0] rfl)
def mX0_howManyOfKind (S : vS) (k : Nat) (v1 : Int32) : Option Int32 := (lX0_howManyOfKind_4 k S v1 FU (0 : Int32) (0 : Int32))
set_option maxHeartbeats 4000000 in
set_option maxRecDepth 100000 in
theorem c_X0_howManyOfKind {l : Launch} {D : va_G} {cA : Nat → ClassId} {ad : Nat → Nat} {kl : Nat} (G : Gx shC ad (ExC ad kl)) (k : Nat) (hk : IsX0 k) (v1 : Int32) (S : vS) (r : Int32) (hr : (mX0_howManyOfKind S k v1) = some r) : Met l yX0_howManyOfKind (Cond.code yX0_howManyOfKind cX0_howManyOfKind 4 (some .int) :: ALL) rm_X0_howManyOfKind (Po D vwCl tlC shC cA ad (ExC ad kl) [.ref (ad k), .int v1] S) (Qo D vwCl shC cA ad (some (.int r)) S True) 0 0 (aw shC ad) := by
  refine Met.sx (M := (mX0_howManyOfKind S k v1)) (rv := (fun r => some (.int r) : Int32 → Option Value)) (rs := fun _ => S) (B := fun _ => True) (by decide) ⟨rfl, rfl⟩ (Nat.le_of_ble_eq_true rfl) G (fun p e s m args below meth c C0 ls hl => ?_) hr
  have hl : lv_has ls 4 [(0, .ref (ad k)), (1, .int v1)] := hl
  rw [mX0_howManyOfKind]
  refine sx_iconst (v := 0) C0 dX0_howManyOfKind_0 (by decide) ?_
  refine sx_istore_n (lv' := [(2, .int (0 : Int32)), (0, .ref (ad k)), (1, .int v1)]) C0 dX0_howManyOfKind_1 rfl hl (by decide) rfl (fun ls hl => ?_)
  refine sx_iconst (v := 0) C0 dX0_howManyOfKind_2 (by decide) ?_
  refine sx_istore_n (lv' := [(3, .int (0 : Int32)), (2, .int (0 : Int32)), (0, .ref (ad k)), (1, .int v1)]) C0 dX0_howManyOfKind_3 rfl hl (by decide) rfl (fun ls hl => ?_)
  exact lX0_howManyOfKind_4_t C0 k hk _ _ _ _ _ _ (lv_sub hl [2, 3, 1, 0] rfl)
abbrev rm_X0_leavingHunger : Room := { frames := 0, cells := 0, slots := 0, locals := 0 }
def mX0_leavingHunger (S : vS) (k : Nat) (v1 : Int32) : Option Int32 := ((gI (S.1 (k + 3)) 4 v1).bind fun a5 => (some (a5 + (2 : Int32))))
set_option maxHeartbeats 4000000 in
set_option maxRecDepth 100000 in
theorem c_X0_leavingHunger {l : Launch} {D : va_G} {cA : Nat → ClassId} {ad : Nat → Nat} {kl : Nat} (G : Gx shC ad (ExC ad kl)) (k : Nat) (hk : IsX0 k) (v1 : Int32) (S : vS) (r : Int32) (hr : (mX0_leavingHunger S k v1) = some r) : Met l yX0_leavingHunger (Cond.code yX0_leavingHunger cX0_leavingHunger 2 (some .int) :: ALL) rm_X0_leavingHunger (Po D vwCl tlC shC cA ad (ExC ad kl) [.ref (ad k), .int v1] S) (Qo D vwCl shC cA ad (some (.int r)) S True) 0 0 (aw shC ad) := by
  refine Met.sx (M := (mX0_leavingHunger S k v1)) (rv := (fun r => some (.int r) : Int32 → Option Value)) (rs := fun _ => S) (B := fun _ => True) (by decide) ⟨rfl, rfl⟩ (Nat.le_of_ble_eq_true rfl) G (fun p e s m args below meth c C0 ls hl => ?_) hr
  have hl : lv_has ls 2 [(0, .ref (ad k)), (1, .int v1)] := hl
  rw [mX0_leavingHunger]
  refine sx_aload_n C0 dX0_leavingHunger_0 rfl (lv_at hl 0 rfl) ?_
  refine gf_X0_28 C0 hk.1 dX0_leavingHunger_1 ?_
  refine sx_iload_n C0 dX0_leavingHunger_4 rfl (lv_at hl 1 rfl) ?_
  refine sx_iald C0 hk.2.2.2.1 rfl dX0_leavingHunger_5 (fun a5 => ?_)
  refine sx_iconst (v := 2) C0 dX0_leavingHunger_6 (by decide) ?_
  refine sx_iadd C0 dX0_leavingHunger_7 ?_
  exact sx_iret C0 rfl rfl trivial dX0_leavingHunger_8
abbrev rm_X0_settle : Room := { frames := 2, cells := 0, slots := 0, locals := 44 }
def lX0_settle_92 (k : Nat)    : Nat → vS → Int32 → Option vS
  | 0, _, _ => none
  | n + 1, S, v1 => (if (S.1 k 0) ≤ v1 then (some S) else ((gI (S.1 (k + 6)) 4 v1).bind fun a105 => (if (mX0_has S k a105) = 0 then ((lX0_settle_92 k n) S (v1 + (1 : Int32))) else ((gI (S.1 (k + 1)) 4 v1).bind fun a123 => (if a123 = (1 : Int32) then ((gI (S.1 (k + 7)) 4 v1).bind fun a134 => ((pI S (k + 7) 4 v1 (a134 ||| ((1 : Int32) <<< (a105 &&& (31 : Int32))))).bind fun S139 => ((gI (S139.1 (k + 7)) 4 a105).bind fun a146 => ((pI S139 (k + 7) 4 a105 (a146 ||| ((1 : Int32) <<< (v1 &&& (31 : Int32))))).bind fun S151 => ((lX0_settle_92 k n) S151 (v1 + (1 : Int32))))))) else ((pI S (k + 8) 4 v1 ((1 : Int32) <<< (a105 &&& (31 : Int32)))).bind fun S163 => ((lX0_settle_92 k n) S163 (v1 + (1 : Int32)))))))))
set_option maxHeartbeats 4000000 in
set_option maxRecDepth 100000 in
theorem lX0_settle_92_t {p : Program} {l : Launch} {e : Env} {s : State} {m : MethodId} {args : Array Value} {below : List Frame} {meth : Method} {c : Code} {D : va_G} {cA : Nat → ClassId} {ad : Nat → Nat} {kl : Nat}   (C0 : Cx D vwCl tlC shC cA ad (ExC ad kl) RX0 cX0_settle 3 none p s m args meth c) (k : Nat) (hk : IsX0 k)    : ∀ (n : Nat) (S : vS) (v1 : Int32) (ls : Array Slot), lv_has ls 3 [(0, .ref (ad k)), (1, .int v1)] → SW p l e rm_X0_settle s m args below meth c D vwCl shC cA ad (Fq D vwCl shC cA ad below args s (fun _ => none : vS → Option Value) (fun S1 => S1) (fun _ => True)) (lX0_settle_92 k n S v1) S 92 ls [] := by
  intro n
  induction n with
  | zero =>
    intro S v1 ls hl
    rw [lX0_settle_92]
    exact sw_none
  | succ n ih =>
    intro S v1 ls hl
    rw [lX0_settle_92]
    refine sx_iload_n C0 dX0_settle_92 rfl (lv_at hl 1 rfl) ?_
    refine sx_aload_n C0 dX0_settle_93 rfl (lv_at hl 0 rfl) ?_
    refine gf_X0_9 C0 hk.1 dX0_settle_94 ?_
    refine sx_icmp_ge (tgt := 170) C0 dX0_settle_97 (by decide) (fun _ => ?_) (fun _ => ?_)
    · exact sx_vret C0 rfl rfl trivial dX0_settle_170
    · refine sx_aload_n C0 dX0_settle_100 rfl (lv_at hl 0 rfl) ?_
      refine gf_X0_37 C0 hk.1 dX0_settle_101 ?_
      refine sx_iload_n C0 dX0_settle_104 rfl (lv_at hl 1 rfl) ?_
      refine sx_iald C0 hk.2.2.2.2.2.2.1 rfl dX0_settle_105 (fun a105 => ?_)
      refine sx_istore_n (lv' := [(2, .int a105), (0, .ref (ad k)), (1, .int v1)]) C0 dX0_settle_106 rfl hl (by decide) rfl (fun ls hl => ?_)
      refine sx_aload_n C0 dX0_settle_107 rfl (lv_at hl 1 rfl) ?_
      refine sx_iload_n C0 dX0_settle_108 rfl (lv_at hl 0 rfl) ?_
      refine cv_X0_49 (As := [.int a105]) C0 (c_X0_has C0.2.2.2.2.2.2.2.1 k hk a105 S) hk.1 ⟨rfl, rfl⟩ ⟨Nat.le_of_ble_eq_true rfl, Nat.le_of_ble_eq_true rfl⟩ rfl hl.1 (Nat.le_of_ble_eq_true rfl) rfl dX0_settle_109 (fun hb109 => ?_)
      refine sx_if_ne (tgt := 118) C0 dX0_settle_112 (by decide) (fun _ => ?_) (fun _ => ?_)
      · refine sx_goto (tgt := 164) C0 dX0_settle_115 (by decide) ?_
        refine sx_iinc (v := (v1 + (1 : Int32))) (lv' := [(1, .int (v1 + (1 : Int32))), (2, .int a105), (0, .ref (ad k))]) C0 dX0_settle_164 hl (k := 2) rfl rfl (by decide) rfl (fun ls hl => ?_)
        refine sx_goto (tgt := 92) C0 dX0_settle_167 (by decide) ?_
        exact ih _ _ _ (lv_sub hl [2, 0] rfl)
      · refine sx_aload_n C0 dX0_settle_118 rfl (lv_at hl 1 rfl) ?_
        refine gf_X0_21 C0 hk.1 dX0_settle_119 ?_
        refine sx_iload_n C0 dX0_settle_122 rfl (lv_at hl 2 rfl) ?_
        refine sx_iald C0 hk.2.1 rfl dX0_settle_123 (fun a123 => ?_)
        refine sx_iconst (v := 1) C0 dX0_settle_124 (by decide) ?_
        refine sx_icmp_ne (tgt := 155) C0 dX0_settle_125 (by decide) (fun _ => ?_) (fun _ => ?_)
        · refine sx_aload_n C0 dX0_settle_128 rfl (lv_at hl 1 rfl) ?_
          refine gf_X0_40 C0 hk.1 dX0_settle_129 ?_
          refine sx_iload_n C0 dX0_settle_132 rfl (lv_at hl 2 rfl) ?_
          refine sx_dup2 C0 dX0_settle_133 rfl rfl ?_
          refine sx_iald C0 hk.2.2.2.2.2.2.2.1 rfl dX0_settle_134 (fun a134 => ?_)
          refine sx_iconst (v := 1) C0 dX0_settle_135 (by decide) ?_
          refine sx_iload_n C0 dX0_settle_136 rfl (lv_at hl 0 rfl) ?_
          refine sx_ishl C0 dX0_settle_137 ?_
          refine sx_ior C0 dX0_settle_138 ?_
          refine sx_iast C0 hk.2.2.2.2.2.2.2.1 rfl dX0_settle_139 (fun S139 => ?_)
          refine sx_aload_n C0 dX0_settle_140 rfl (lv_at hl 1 rfl) ?_
          refine gf_X0_40 C0 hk.1 dX0_settle_141 ?_
          refine sx_iload_n C0 dX0_settle_144 rfl (lv_at hl 0 rfl) ?_
          refine sx_dup2 C0 dX0_settle_145 rfl rfl ?_
          refine sx_iald C0 hk.2.2.2.2.2.2.2.1 rfl dX0_settle_146 (fun a146 => ?_)
          refine sx_iconst (v := 1) C0 dX0_settle_147 (by decide) ?_
          refine sx_iload_n C0 dX0_settle_148 rfl (lv_at hl 2 rfl) ?_
          refine sx_ishl C0 dX0_settle_149 ?_
          refine sx_ior C0 dX0_settle_150 ?_
          refine sx_iast C0 hk.2.2.2.2.2.2.2.1 rfl dX0_settle_151 (fun S151 => ?_)
          refine sx_goto (tgt := 164) C0 dX0_settle_152 (by decide) ?_
          refine sx_iinc (v := (v1 + (1 : Int32))) (lv' := [(1, .int (v1 + (1 : Int32))), (2, .int a105), (0, .ref (ad k))]) C0 dX0_settle_164 hl (k := 2) rfl rfl (by decide) rfl (fun ls hl => ?_)
          refine sx_goto (tgt := 92) C0 dX0_settle_167 (by decide) ?_
          exact ih _ _ _ (lv_sub hl [2, 0] rfl)
        · refine sx_aload_n C0 dX0_settle_155 rfl (lv_at hl 1 rfl) ?_
          refine gf_X0_43 C0 hk.1 dX0_settle_156 ?_
          refine sx_iload_n C0 dX0_settle_159 rfl (lv_at hl 2 rfl) ?_
          refine sx_iconst (v := 1) C0 dX0_settle_160 (by decide) ?_
          refine sx_iload_n C0 dX0_settle_161 rfl (lv_at hl 0 rfl) ?_
          refine sx_ishl C0 dX0_settle_162 ?_
          refine sx_iast C0 hk.2.2.2.2.2.2.2.2.1 rfl dX0_settle_163 (fun S163 => ?_)
          refine sx_iinc (v := (v1 + (1 : Int32))) (lv' := [(1, .int (v1 + (1 : Int32))), (2, .int a105), (0, .ref (ad k))]) C0 dX0_settle_164 hl (k := 2) rfl rfl (by decide) rfl (fun ls hl => ?_)
          refine sx_goto (tgt := 92) C0 dX0_settle_167 (by decide) ?_
          exact ih _ _ _ (lv_sub hl [2, 0] rfl)
def bX0_settle_90 (k : Nat)   (S : vS)   : Option vS := (lX0_settle_92 k FU S (0 : Int32))
set_option maxHeartbeats 4000000 in
set_option maxRecDepth 100000 in
theorem bX0_settle_90_t {p : Program} {l : Launch} {e : Env} {s : State} {m : MethodId} {args : Array Value} {below : List Frame} {meth : Method} {c : Code} {D : va_G} {cA : Nat → ClassId} {ad : Nat → Nat} {kl : Nat}   (C0 : Cx D vwCl tlC shC cA ad (ExC ad kl) RX0 cX0_settle 3 none p s m args meth c) (k : Nat) (hk : IsX0 k) (S : vS)  (ls : Array Slot) (hl : lv_has ls 3 [(0, .ref (ad k))]) : SW p l e rm_X0_settle s m args below meth c D vwCl shC cA ad (Fq D vwCl shC cA ad below args s (fun _ => none : vS → Option Value) (fun S1 => S1) (fun _ => True)) (bX0_settle_90 k S) S 90 ls [] := by
  rw [bX0_settle_90]
  refine sx_iconst (v := 0) C0 dX0_settle_90 (by decide) ?_
  refine sx_istore_n (lv' := [(1, .int (0 : Int32)), (0, .ref (ad k))]) C0 dX0_settle_91 rfl hl (by decide) rfl (fun ls hl => ?_)
  exact lX0_settle_92_t C0 k hk _ _ _ _ (lv_sub hl [1, 0] rfl)
def bX0_settle_62 (k : Nat)  (K19 : vS → Int32 → Option vS) (S : vS) (v1 : Int32) (t0 : Int32) (t1 : Int32) : Option vS := ((pI S (k + 9) 4 t1 t0).bind fun S62 => ((mX0_isOfKind S62 k v1 (3 : Int32)).bind fun a66 => (if a66 = 0 then (K19 S62 (v1 + (1 : Int32))) else (lt (wI S62 k 2 ((S62.1 k 2) ||| ((1 : Int32) <<< (v1 &&& (31 : Int32))))) fun S81 => (K19 S81 (v1 + (1 : Int32)))))))
set_option maxHeartbeats 4000000 in
set_option maxRecDepth 100000 in
theorem bX0_settle_62_t {p : Program} {l : Launch} {e : Env} {s : State} {m : MethodId} {args : Array Value} {below : List Frame} {meth : Method} {c : Code} {D : va_G} {cA : Nat → ClassId} {ad : Nat → Nat} {kl : Nat} {K19 : vS → Int32 → Option vS}  (C0 : Cx D vwCl tlC shC cA ad (ExC ad kl) RX0 cX0_settle 3 none p s m args meth c) (k : Nat) (hk : IsX0 k) (S : vS) (v1 : Int32) (t0 : Int32) (t1 : Int32) (hK19 : ∀ (S : vS) (v1 : Int32) (ls : Array Slot), lv_has ls 3 [(0, .ref (ad k)), (1, .int v1)] → SW p l e rm_X0_settle s m args below meth c D vwCl shC cA ad (Fq D vwCl shC cA ad below args s (fun _ => none : vS → Option Value) (fun S1 => S1) (fun _ => True)) (K19 S v1) S 19 ls []) (ls : Array Slot) (hl : lv_has ls 3 [(0, .ref (ad k)), (1, .int v1)]) : SW p l e rm_X0_settle s m args below meth c D vwCl shC cA ad (Fq D vwCl shC cA ad below args s (fun _ => none : vS → Option Value) (fun S1 => S1) (fun _ => True)) (bX0_settle_62 k K19 S v1 t0 t1) S 62 ls [.int t0, .int t1, .ref (ad (k + 9))] := by
  rw [bX0_settle_62]
  refine sx_iast C0 hk.2.2.2.2.2.2.2.2.2 rfl dX0_settle_62 (fun S62 => ?_)
  refine sx_aload_n C0 dX0_settle_63 rfl (lv_at hl 0 rfl) ?_
  refine sx_iload_n C0 dX0_settle_64 rfl (lv_at hl 1 rfl) ?_
  refine sx_iconst (v := 3) C0 dX0_settle_65 (by decide) ?_
  refine sw_bind (fun a66 e66 => ?_)
  refine cv_X0_53 (As := [.int v1, .int (3 : Int32)]) C0 (c_X0_isOfKind C0.2.2.2.2.2.2.2.1 k hk v1 (3 : Int32) S62 _ e66) hk.1 ⟨rfl, rfl⟩ ⟨Nat.le_of_ble_eq_true rfl, Nat.le_of_ble_eq_true rfl⟩ rfl hl.1 (Nat.le_of_ble_eq_true rfl) rfl dX0_settle_66 (fun hb66 => ?_)
  refine sx_if_eq (tgt := 84) C0 dX0_settle_69 (by decide) (fun _ => ?_) (fun _ => ?_)
  · refine sx_iinc (v := (v1 + (1 : Int32))) (lv' := [(1, .int (v1 + (1 : Int32))), (0, .ref (ad k))]) C0 dX0_settle_84 hl (k := 1) rfl rfl (by decide) rfl (fun ls hl => ?_)
    refine sx_goto (tgt := 19) C0 dX0_settle_87 (by decide) ?_
    exact hK19 _ _ _ (lv_sub hl [1, 0] rfl)
  · refine sx_aload_n C0 dX0_settle_72 rfl (lv_at hl 0 rfl) ?_
    refine sx_dup C0 dX0_settle_73 rfl ?_
    refine gf_X0_18 C0 hk.1 dX0_settle_74 ?_
    refine sx_iconst (v := 1) C0 dX0_settle_77 (by decide) ?_
    refine sx_iload_n C0 dX0_settle_78 rfl (lv_at hl 1 rfl) ?_
    refine sx_ishl C0 dX0_settle_79 ?_
    refine sx_ior C0 dX0_settle_80 ?_
    refine pf_X0_18 C0 hk.1 dX0_settle_81 (fun S81 => ?_)
    refine sx_iinc (v := (v1 + (1 : Int32))) (lv' := [(1, .int (v1 + (1 : Int32))), (0, .ref (ad k))]) C0 dX0_settle_84 hl (k := 1) rfl rfl (by decide) rfl (fun ls hl => ?_)
    refine sx_goto (tgt := 19) C0 dX0_settle_87 (by decide) ?_
    exact hK19 _ _ _ (lv_sub hl [1, 0] rfl)
def lX0_settle_19 (k : Nat)    : Nat → vS → Int32 → Option vS
  | 0, _, _ => none
  | n + 1, S, v1 => (if (S.1 k 0) ≤ v1 then (bX0_settle_90 k S) else ((pI S (k + 7) 4 v1 ((1 : Int32) <<< (v1 &&& (31 : Int32)))).bind fun S35 => ((pI S35 (k + 8) 4 v1 (0 : Int32)).bind fun S42 => ((mX0_isOfKind S42 k v1 (2 : Int32)).bind fun a51 => (if a51 = 0 then (bX0_settle_62 k (lX0_settle_19 k n) S42 v1 (1 : Int32) v1) else (bX0_settle_62 k (lX0_settle_19 k n) S42 v1 (2 : Int32) v1))))))
set_option maxHeartbeats 4000000 in
set_option maxRecDepth 100000 in
theorem lX0_settle_19_t {p : Program} {l : Launch} {e : Env} {s : State} {m : MethodId} {args : Array Value} {below : List Frame} {meth : Method} {c : Code} {D : va_G} {cA : Nat → ClassId} {ad : Nat → Nat} {kl : Nat}   (C0 : Cx D vwCl tlC shC cA ad (ExC ad kl) RX0 cX0_settle 3 none p s m args meth c) (k : Nat) (hk : IsX0 k)    : ∀ (n : Nat) (S : vS) (v1 : Int32) (ls : Array Slot), lv_has ls 3 [(0, .ref (ad k)), (1, .int v1)] → SW p l e rm_X0_settle s m args below meth c D vwCl shC cA ad (Fq D vwCl shC cA ad below args s (fun _ => none : vS → Option Value) (fun S1 => S1) (fun _ => True)) (lX0_settle_19 k n S v1) S 19 ls [] := by
  intro n
  induction n with
  | zero =>
    intro S v1 ls hl
    rw [lX0_settle_19]
    exact sw_none
  | succ n ih =>
    intro S v1 ls hl
    rw [lX0_settle_19]
    refine sx_iload_n C0 dX0_settle_19 rfl (lv_at hl 1 rfl) ?_
    refine sx_aload_n C0 dX0_settle_20 rfl (lv_at hl 0 rfl) ?_
    refine gf_X0_9 C0 hk.1 dX0_settle_21 ?_
    refine sx_icmp_ge (tgt := 90) C0 dX0_settle_24 (by decide) (fun _ => ?_) (fun _ => ?_)
    · exact bX0_settle_90_t C0 k hk _ _ (lv_sub hl [0] rfl)
    · refine sx_aload_n C0 dX0_settle_27 rfl (lv_at hl 0 rfl) ?_
      refine gf_X0_40 C0 hk.1 dX0_settle_28 ?_
      refine sx_iload_n C0 dX0_settle_31 rfl (lv_at hl 1 rfl) ?_
      refine sx_iconst (v := 1) C0 dX0_settle_32 (by decide) ?_
      refine sx_iload_n C0 dX0_settle_33 rfl (lv_at hl 1 rfl) ?_
      refine sx_ishl C0 dX0_settle_34 ?_
      refine sx_iast C0 hk.2.2.2.2.2.2.2.1 rfl dX0_settle_35 (fun S35 => ?_)
      refine sx_aload_n C0 dX0_settle_36 rfl (lv_at hl 0 rfl) ?_
      refine gf_X0_43 C0 hk.1 dX0_settle_37 ?_
      refine sx_iload_n C0 dX0_settle_40 rfl (lv_at hl 1 rfl) ?_
      refine sx_iconst (v := 0) C0 dX0_settle_41 (by decide) ?_
      refine sx_iast C0 hk.2.2.2.2.2.2.2.2.1 rfl dX0_settle_42 (fun S42 => ?_)
      refine sx_aload_n C0 dX0_settle_43 rfl (lv_at hl 0 rfl) ?_
      refine gf_X0_46 C0 hk.1 dX0_settle_44 ?_
      refine sx_iload_n C0 dX0_settle_47 rfl (lv_at hl 1 rfl) ?_
      refine sx_aload_n C0 dX0_settle_48 rfl (lv_at hl 0 rfl) ?_
      refine sx_iload_n C0 dX0_settle_49 rfl (lv_at hl 1 rfl) ?_
      refine sx_iconst (v := 2) C0 dX0_settle_50 (by decide) ?_
      refine sw_bind (fun a51 e51 => ?_)
      refine cv_X0_53 (As := [.int v1, .int (2 : Int32)]) C0 (c_X0_isOfKind C0.2.2.2.2.2.2.2.1 k hk v1 (2 : Int32) S42 _ e51) hk.1 ⟨rfl, rfl⟩ ⟨Nat.le_of_ble_eq_true rfl, Nat.le_of_ble_eq_true rfl⟩ rfl hl.1 (Nat.le_of_ble_eq_true rfl) rfl dX0_settle_51 (fun hb51 => ?_)
      refine sx_if_eq (tgt := 61) C0 dX0_settle_54 (by decide) (fun _ => ?_) (fun _ => ?_)
      · refine sx_iconst (v := 1) C0 dX0_settle_61 (by decide) ?_
        exact bX0_settle_62_t C0 k hk _ _ _ _ ih _ (lv_sub hl [0, 1] rfl)
      · refine sx_iconst (v := 2) C0 dX0_settle_57 (by decide) ?_
        refine sx_goto (tgt := 62) C0 dX0_settle_58 (by decide) ?_
        exact bX0_settle_62_t C0 k hk _ _ _ _ ih _ (lv_sub hl [0, 1] rfl)
def mX0_settle (S : vS) (k : Nat) : Option vS := (lt (wI S k 1 (((1 : Int32) <<< ((S.1 k 0) &&& (31 : Int32))) - (1 : Int32))) fun S9 => (lt (wI S9 k 2 (0 : Int32)) fun S14 => (lX0_settle_19 k FU S14 (0 : Int32))))
set_option maxHeartbeats 4000000 in
set_option maxRecDepth 100000 in
theorem c_X0_settle {l : Launch} {D : va_G} {cA : Nat → ClassId} {ad : Nat → Nat} {kl : Nat} (G : Gx shC ad (ExC ad kl)) (k : Nat) (hk : IsX0 k) (S : vS) (r : vS) (hr : (mX0_settle S k) = some r) : Met l yX0_settle (Cond.code yX0_settle cX0_settle 3 none :: ALL) rm_X0_settle (Po D vwCl tlC shC cA ad (ExC ad kl) [.ref (ad k)] S) (Qo D vwCl shC cA ad none r True) 0 0 (aw shC ad) := by
  refine Met.sx (M := (mX0_settle S k)) (rv := (fun _ => none : vS → Option Value)) (rs := fun S1 => S1) (B := fun _ => True) (by decide) ⟨rfl, rfl⟩ (Nat.le_of_ble_eq_true rfl) G (fun p e s m args below meth c C0 ls hl => ?_) hr
  have hl : lv_has ls 3 [(0, .ref (ad k))] := hl
  rw [mX0_settle]
  refine sx_aload_n C0 dX0_settle_0 rfl (lv_at hl 0 rfl) ?_
  refine sx_iconst (v := 1) C0 dX0_settle_1 (by decide) ?_
  refine sx_aload_n C0 dX0_settle_2 rfl (lv_at hl 0 rfl) ?_
  refine gf_X0_9 C0 hk.1 dX0_settle_3 ?_
  refine sx_ishl C0 dX0_settle_6 ?_
  refine sx_iconst (v := 1) C0 dX0_settle_7 (by decide) ?_
  refine sx_isub C0 dX0_settle_8 ?_
  refine pf_X0_15 C0 hk.1 dX0_settle_9 (fun S9 => ?_)
  refine sx_aload_n C0 dX0_settle_12 rfl (lv_at hl 0 rfl) ?_
  refine sx_iconst (v := 0) C0 dX0_settle_13 (by decide) ?_
  refine pf_X0_18 C0 hk.1 dX0_settle_14 (fun S14 => ?_)
  refine sx_iconst (v := 0) C0 dX0_settle_17 (by decide) ?_
  refine sx_istore_n (lv' := [(1, .int (0 : Int32)), (0, .ref (ad k))]) C0 dX0_settle_18 rfl hl (by decide) rfl (fun ls hl => ?_)
  exact lX0_settle_19_t C0 k hk _ _ _ _ (lv_sub hl [1, 0] rfl)
abbrev rm_X0_take : Room := { frames := 0, cells := 0, slots := 0, locals := 0 }
def lX0_take_26 (k : Nat) (k1 : Nat)    : Nat → vS → Int32 → Option vS
  | 0, _, _ => none
  | n + 1, S, v2 => (if (4 : Int32) ≤ v2 then (some S) else ((gI (S.1 (k1 + 1)) 4 v2).bind fun a41 => ((pI S (k + 1) 4 v2 a41).bind fun S42 => ((gI (S42.1 (k1 + 2)) 4 v2).bind fun a53 => ((pI S42 (k + 2) 4 v2 a53).bind fun S54 => ((gI (S54.1 (k1 + 3)) 4 v2).bind fun a65 => ((pI S54 (k + 3) 4 v2 a65).bind fun S66 => ((gI (S66.1 (k1 + 4)) 4 v2).bind fun a77 => ((pI S66 (k + 4) 4 v2 a77).bind fun S78 => ((gI (S78.1 (k1 + 5)) 4 v2).bind fun a89 => ((pI S78 (k + 5) 4 v2 a89).bind fun S90 => ((gI (S90.1 (k1 + 6)) 4 v2).bind fun a101 => ((pI S90 (k + 6) 4 v2 a101).bind fun S102 => ((gI (S102.1 (k1 + 7)) 4 v2).bind fun a113 => ((pI S102 (k + 7) 4 v2 a113).bind fun S114 => ((gI (S114.1 (k1 + 8)) 4 v2).bind fun a125 => ((pI S114 (k + 8) 4 v2 a125).bind fun S126 => ((gI (S126.1 (k1 + 9)) 4 v2).bind fun a137 => ((pI S126 (k + 9) 4 v2 a137).bind fun S138 => ((lX0_take_26 k k1 n) S138 (v2 + (1 : Int32))))))))))))))))))))))
set_option maxHeartbeats 4000000 in
set_option maxRecDepth 100000 in
theorem lX0_take_26_t {p : Program} {l : Launch} {e : Env} {s : State} {m : MethodId} {args : Array Value} {below : List Frame} {meth : Method} {c : Code} {D : va_G} {cA : Nat → ClassId} {ad : Nat → Nat} {kl : Nat}   (C0 : Cx D vwCl tlC shC cA ad (ExC ad kl) RX0 cX0_take 3 none p s m args meth c) (k : Nat) (hk : IsX0 k) (k1 : Nat) (h1 : IsX0 k1)    : ∀ (n : Nat) (S : vS) (v2 : Int32) (ls : Array Slot), lv_has ls 3 [(0, .ref (ad k)), (1, .ref (ad k1)), (2, .int v2)] → SW p l e rm_X0_take s m args below meth c D vwCl shC cA ad (Fq D vwCl shC cA ad below args s (fun _ => none : vS → Option Value) (fun S1 => S1) (fun _ => True)) (lX0_take_26 k k1 n S v2) S 26 ls [] := by
  intro n
  induction n with
  | zero =>
    intro S v2 ls hl
    rw [lX0_take_26]
    exact sw_none
  | succ n ih =>
    intro S v2 ls hl
    rw [lX0_take_26]
    refine sx_iload_n C0 dX0_take_26 rfl (lv_at hl 2 rfl) ?_
    refine sx_iconst (v := 4) C0 dX0_take_27 (by decide) ?_
    refine sx_icmp_ge (tgt := 145) C0 dX0_take_28 (by decide) (fun _ => ?_) (fun _ => ?_)
    · exact sx_vret C0 rfl rfl trivial dX0_take_145
    · refine sx_aload_n C0 dX0_take_31 rfl (lv_at hl 0 rfl) ?_
      refine gf_X0_21 C0 hk.1 dX0_take_32 ?_
      refine sx_iload_n C0 dX0_take_35 rfl (lv_at hl 2 rfl) ?_
      refine sx_aload_n C0 dX0_take_36 rfl (lv_at hl 1 rfl) ?_
      refine gf_X0_21 C0 h1.1 dX0_take_37 ?_
      refine sx_iload_n C0 dX0_take_40 rfl (lv_at hl 2 rfl) ?_
      refine sx_iald C0 h1.2.1 rfl dX0_take_41 (fun a41 => ?_)
      refine sx_iast C0 hk.2.1 rfl dX0_take_42 (fun S42 => ?_)
      refine sx_aload_n C0 dX0_take_43 rfl (lv_at hl 0 rfl) ?_
      refine gf_X0_25 C0 hk.1 dX0_take_44 ?_
      refine sx_iload_n C0 dX0_take_47 rfl (lv_at hl 2 rfl) ?_
      refine sx_aload_n C0 dX0_take_48 rfl (lv_at hl 1 rfl) ?_
      refine gf_X0_25 C0 h1.1 dX0_take_49 ?_
      refine sx_iload_n C0 dX0_take_52 rfl (lv_at hl 2 rfl) ?_
      refine sx_iald C0 h1.2.2.1 rfl dX0_take_53 (fun a53 => ?_)
      refine sx_iast C0 hk.2.2.1 rfl dX0_take_54 (fun S54 => ?_)
      refine sx_aload_n C0 dX0_take_55 rfl (lv_at hl 0 rfl) ?_
      refine gf_X0_28 C0 hk.1 dX0_take_56 ?_
      refine sx_iload_n C0 dX0_take_59 rfl (lv_at hl 2 rfl) ?_
      refine sx_aload_n C0 dX0_take_60 rfl (lv_at hl 1 rfl) ?_
      refine gf_X0_28 C0 h1.1 dX0_take_61 ?_
      refine sx_iload_n C0 dX0_take_64 rfl (lv_at hl 2 rfl) ?_
      refine sx_iald C0 h1.2.2.2.1 rfl dX0_take_65 (fun a65 => ?_)
      refine sx_iast C0 hk.2.2.2.1 rfl dX0_take_66 (fun S66 => ?_)
      refine sx_aload_n C0 dX0_take_67 rfl (lv_at hl 0 rfl) ?_
      refine gf_X0_31 C0 hk.1 dX0_take_68 ?_
      refine sx_iload_n C0 dX0_take_71 rfl (lv_at hl 2 rfl) ?_
      refine sx_aload_n C0 dX0_take_72 rfl (lv_at hl 1 rfl) ?_
      refine gf_X0_31 C0 h1.1 dX0_take_73 ?_
      refine sx_iload_n C0 dX0_take_76 rfl (lv_at hl 2 rfl) ?_
      refine sx_iald C0 h1.2.2.2.2.1 rfl dX0_take_77 (fun a77 => ?_)
      refine sx_iast C0 hk.2.2.2.2.1 rfl dX0_take_78 (fun S78 => ?_)
      refine sx_aload_n C0 dX0_take_79 rfl (lv_at hl 0 rfl) ?_
      refine gf_X0_34 C0 hk.1 dX0_take_80 ?_
      refine sx_iload_n C0 dX0_take_83 rfl (lv_at hl 2 rfl) ?_
      refine sx_aload_n C0 dX0_take_84 rfl (lv_at hl 1 rfl) ?_
      refine gf_X0_34 C0 h1.1 dX0_take_85 ?_
      refine sx_iload_n C0 dX0_take_88 rfl (lv_at hl 2 rfl) ?_
      refine sx_iald C0 h1.2.2.2.2.2.1 rfl dX0_take_89 (fun a89 => ?_)
      refine sx_iast C0 hk.2.2.2.2.2.1 rfl dX0_take_90 (fun S90 => ?_)
      refine sx_aload_n C0 dX0_take_91 rfl (lv_at hl 0 rfl) ?_
      refine gf_X0_37 C0 hk.1 dX0_take_92 ?_
      refine sx_iload_n C0 dX0_take_95 rfl (lv_at hl 2 rfl) ?_
      refine sx_aload_n C0 dX0_take_96 rfl (lv_at hl 1 rfl) ?_
      refine gf_X0_37 C0 h1.1 dX0_take_97 ?_
      refine sx_iload_n C0 dX0_take_100 rfl (lv_at hl 2 rfl) ?_
      refine sx_iald C0 h1.2.2.2.2.2.2.1 rfl dX0_take_101 (fun a101 => ?_)
      refine sx_iast C0 hk.2.2.2.2.2.2.1 rfl dX0_take_102 (fun S102 => ?_)
      refine sx_aload_n C0 dX0_take_103 rfl (lv_at hl 0 rfl) ?_
      refine gf_X0_40 C0 hk.1 dX0_take_104 ?_
      refine sx_iload_n C0 dX0_take_107 rfl (lv_at hl 2 rfl) ?_
      refine sx_aload_n C0 dX0_take_108 rfl (lv_at hl 1 rfl) ?_
      refine gf_X0_40 C0 h1.1 dX0_take_109 ?_
      refine sx_iload_n C0 dX0_take_112 rfl (lv_at hl 2 rfl) ?_
      refine sx_iald C0 h1.2.2.2.2.2.2.2.1 rfl dX0_take_113 (fun a113 => ?_)
      refine sx_iast C0 hk.2.2.2.2.2.2.2.1 rfl dX0_take_114 (fun S114 => ?_)
      refine sx_aload_n C0 dX0_take_115 rfl (lv_at hl 0 rfl) ?_
      refine gf_X0_43 C0 hk.1 dX0_take_116 ?_
      refine sx_iload_n C0 dX0_take_119 rfl (lv_at hl 2 rfl) ?_
      refine sx_aload_n C0 dX0_take_120 rfl (lv_at hl 1 rfl) ?_
      refine gf_X0_43 C0 h1.1 dX0_take_121 ?_
      refine sx_iload_n C0 dX0_take_124 rfl (lv_at hl 2 rfl) ?_
      refine sx_iald C0 h1.2.2.2.2.2.2.2.2.1 rfl dX0_take_125 (fun a125 => ?_)
      refine sx_iast C0 hk.2.2.2.2.2.2.2.2.1 rfl dX0_take_126 (fun S126 => ?_)
      refine sx_aload_n C0 dX0_take_127 rfl (lv_at hl 0 rfl) ?_
      refine gf_X0_46 C0 hk.1 dX0_take_128 ?_
      refine sx_iload_n C0 dX0_take_131 rfl (lv_at hl 2 rfl) ?_
      refine sx_aload_n C0 dX0_take_132 rfl (lv_at hl 1 rfl) ?_
      refine gf_X0_46 C0 h1.1 dX0_take_133 ?_
      refine sx_iload_n C0 dX0_take_136 rfl (lv_at hl 2 rfl) ?_
      refine sx_iald C0 h1.2.2.2.2.2.2.2.2.2 rfl dX0_take_137 (fun a137 => ?_)
      refine sx_iast C0 hk.2.2.2.2.2.2.2.2.2 rfl dX0_take_138 (fun S138 => ?_)
      refine sx_iinc (v := (v2 + (1 : Int32))) (lv' := [(2, .int (v2 + (1 : Int32))), (0, .ref (ad k)), (1, .ref (ad k1))]) C0 dX0_take_139 hl (k := 2) rfl rfl (by decide) rfl (fun ls hl => ?_)
      refine sx_goto (tgt := 26) C0 dX0_take_142 (by decide) ?_
      exact ih _ _ _ (lv_sub hl [1, 2, 0] rfl)
def mX0_take (S : vS) (k : Nat) (k1 : Nat) : Option vS := (lt (wI S k 0 (S.1 k1 0)) fun S5 => (lt (wI S5 k 1 (S5.1 k1 1)) fun S13 => (lt (wI S13 k 2 (S13.1 k1 2)) fun S21 => (lX0_take_26 k k1 FU S21 (0 : Int32)))))
set_option maxHeartbeats 4000000 in
set_option maxRecDepth 100000 in
theorem c_X0_take {l : Launch} {D : va_G} {cA : Nat → ClassId} {ad : Nat → Nat} {kl : Nat} (G : Gx shC ad (ExC ad kl)) (k : Nat) (hk : IsX0 k) (k1 : Nat) (h1 : IsX0 k1) (S : vS) (r : vS) (hr : (mX0_take S k k1) = some r) : Met l yX0_take (Cond.code yX0_take cX0_take 3 none :: ALL) rm_X0_take (Po D vwCl tlC shC cA ad (ExC ad kl) [.ref (ad k), .ref (ad k1)] S) (Qo D vwCl shC cA ad none r True) 0 0 (aw shC ad) := by
  refine Met.sx (M := (mX0_take S k k1)) (rv := (fun _ => none : vS → Option Value)) (rs := fun S1 => S1) (B := fun _ => True) (by decide) ⟨rfl, rfl⟩ (Nat.le_of_ble_eq_true rfl) G (fun p e s m args below meth c C0 ls hl => ?_) hr
  have hl : lv_has ls 3 [(0, .ref (ad k)), (1, .ref (ad k1))] := hl
  rw [mX0_take]
  refine sx_aload_n C0 dX0_take_0 rfl (lv_at hl 0 rfl) ?_
  refine sx_aload_n C0 dX0_take_1 rfl (lv_at hl 1 rfl) ?_
  refine gf_X0_9 C0 h1.1 dX0_take_2 ?_
  refine pf_X0_9 C0 hk.1 dX0_take_5 (fun S5 => ?_)
  refine sx_aload_n C0 dX0_take_8 rfl (lv_at hl 0 rfl) ?_
  refine sx_aload_n C0 dX0_take_9 rfl (lv_at hl 1 rfl) ?_
  refine gf_X0_15 C0 h1.1 dX0_take_10 ?_
  refine pf_X0_15 C0 hk.1 dX0_take_13 (fun S13 => ?_)
  refine sx_aload_n C0 dX0_take_16 rfl (lv_at hl 0 rfl) ?_
  refine sx_aload_n C0 dX0_take_17 rfl (lv_at hl 1 rfl) ?_
  refine gf_X0_18 C0 h1.1 dX0_take_18 ?_
  refine pf_X0_18 C0 hk.1 dX0_take_21 (fun S21 => ?_)
  refine sx_iconst (v := 0) C0 dX0_take_24 (by decide) ?_
  refine sx_istore_n (lv' := [(2, .int (0 : Int32)), (0, .ref (ad k)), (1, .ref (ad k1))]) C0 dX0_take_25 rfl hl (by decide) rfl (fun ls hl => ?_)
  exact lX0_take_26_t C0 k hk k1 h1 _ _ _ _ (lv_sub hl [1, 2, 0] rfl)
abbrev rm_X3_take : Room := { frames := 0, cells := 0, slots := 0, locals := 0 }
def lX3_take_75 (k : Nat) (k1 : Nat)    : Nat → vS → Int32 → Option vS
  | 0, _, _ => none
  | n + 1, S, v2 => (if (4 : Int32) ≤ v2 then (some S) else ((gI (S.1 (k1 + 2)) 4 v2).bind fun a90 => ((pI S (k + 2) 4 v2 a90).bind fun S91 => ((lX3_take_75 k k1 n) S91 (v2 + (1 : Int32))))))
set_option maxHeartbeats 4000000 in
set_option maxRecDepth 100000 in
theorem lX3_take_75_t {p : Program} {l : Launch} {e : Env} {s : State} {m : MethodId} {args : Array Value} {below : List Frame} {meth : Method} {c : Code} {D : va_G} {cA : Nat → ClassId} {ad : Nat → Nat} {kl : Nat}   (C0 : Cx D vwCl tlC shC cA ad (ExC ad kl) RX3 cX3_take 3 none p s m args meth c) (k : Nat) (hk : IsX3 k) (k1 : Nat) (h1 : IsX3 k1)    : ∀ (n : Nat) (S : vS) (v2 : Int32) (ls : Array Slot), lv_has ls 3 [(0, .ref (ad k)), (1, .ref (ad k1)), (2, .int v2)] → SW p l e rm_X3_take s m args below meth c D vwCl shC cA ad (Fq D vwCl shC cA ad below args s (fun _ => none : vS → Option Value) (fun S1 => S1) (fun _ => True)) (lX3_take_75 k k1 n S v2) S 75 ls [] := by
  intro n
  induction n with
  | zero =>
    intro S v2 ls hl
    rw [lX3_take_75]
    exact sw_none
  | succ n ih =>
    intro S v2 ls hl
    rw [lX3_take_75]
    refine sx_iload_n C0 dX3_take_75 rfl (lv_at hl 2 rfl) ?_
    refine sx_iconst (v := 4) C0 dX3_take_76 (by decide) ?_
    refine sx_icmp_ge (tgt := 98) C0 dX3_take_77 (by decide) (fun _ => ?_) (fun _ => ?_)
    · exact sx_vret C0 rfl rfl trivial dX3_take_98
    · refine sx_aload_n C0 dX3_take_80 rfl (lv_at hl 0 rfl) ?_
      refine gf_X3_34 C0 hk.1 dX3_take_81 ?_
      refine sx_iload_n C0 dX3_take_84 rfl (lv_at hl 2 rfl) ?_
      refine sx_aload_n C0 dX3_take_85 rfl (lv_at hl 1 rfl) ?_
      refine gf_X3_34 C0 h1.1 dX3_take_86 ?_
      refine sx_iload_n C0 dX3_take_89 rfl (lv_at hl 2 rfl) ?_
      refine sx_iald C0 h1.2.2.1 rfl dX3_take_90 (fun a90 => ?_)
      refine sx_iast C0 hk.2.2.1 rfl dX3_take_91 (fun S91 => ?_)
      refine sx_iinc (v := (v2 + (1 : Int32))) (lv' := [(2, .int (v2 + (1 : Int32))), (0, .ref (ad k)), (1, .ref (ad k1))]) C0 dX3_take_92 hl (k := 2) rfl rfl (by decide) rfl (fun ls hl => ?_)
      refine sx_goto (tgt := 75) C0 dX3_take_95 (by decide) ?_
      exact ih _ _ _ (lv_sub hl [1, 2, 0] rfl)
def bX3_take_73 (k : Nat) (k1 : Nat)   (S : vS)   : Option vS := (lX3_take_75 k k1 FU S (0 : Int32))
set_option maxHeartbeats 4000000 in
set_option maxRecDepth 100000 in
theorem bX3_take_73_t {p : Program} {l : Launch} {e : Env} {s : State} {m : MethodId} {args : Array Value} {below : List Frame} {meth : Method} {c : Code} {D : va_G} {cA : Nat → ClassId} {ad : Nat → Nat} {kl : Nat}   (C0 : Cx D vwCl tlC shC cA ad (ExC ad kl) RX3 cX3_take 3 none p s m args meth c) (k : Nat) (hk : IsX3 k) (k1 : Nat) (h1 : IsX3 k1) (S : vS)  (ls : Array Slot) (hl : lv_has ls 3 [(0, .ref (ad k)), (1, .ref (ad k1))]) : SW p l e rm_X3_take s m args below meth c D vwCl shC cA ad (Fq D vwCl shC cA ad below args s (fun _ => none : vS → Option Value) (fun S1 => S1) (fun _ => True)) (bX3_take_73 k k1 S) S 73 ls [] := by
  rw [bX3_take_73]
  refine sx_iconst (v := 0) C0 dX3_take_73 (by decide) ?_
  refine sx_istore_n (lv' := [(2, .int (0 : Int32)), (0, .ref (ad k)), (1, .ref (ad k1))]) C0 dX3_take_74 rfl hl (by decide) rfl (fun ls hl => ?_)
  exact lX3_take_75_t C0 k hk k1 h1 _ _ _ _ (lv_sub hl [1, 2, 0] rfl)
def lX3_take_50 (k : Nat) (k1 : Nat)    : Nat → vS → Int32 → Option vS
  | 0, _, _ => none
  | n + 1, S, v2 => (if (3 : Int32) ≤ v2 then (bX3_take_73 k k1 S) else ((gI (S.1 (k1 + 1)) 3 v2).bind fun a65 => ((pI S (k + 1) 3 v2 a65).bind fun S66 => ((lX3_take_50 k k1 n) S66 (v2 + (1 : Int32))))))
set_option maxHeartbeats 4000000 in
set_option maxRecDepth 100000 in
theorem lX3_take_50_t {p : Program} {l : Launch} {e : Env} {s : State} {m : MethodId} {args : Array Value} {below : List Frame} {meth : Method} {c : Code} {D : va_G} {cA : Nat → ClassId} {ad : Nat → Nat} {kl : Nat}   (C0 : Cx D vwCl tlC shC cA ad (ExC ad kl) RX3 cX3_take 3 none p s m args meth c) (k : Nat) (hk : IsX3 k) (k1 : Nat) (h1 : IsX3 k1)    : ∀ (n : Nat) (S : vS) (v2 : Int32) (ls : Array Slot), lv_has ls 3 [(0, .ref (ad k)), (1, .ref (ad k1)), (2, .int v2)] → SW p l e rm_X3_take s m args below meth c D vwCl shC cA ad (Fq D vwCl shC cA ad below args s (fun _ => none : vS → Option Value) (fun S1 => S1) (fun _ => True)) (lX3_take_50 k k1 n S v2) S 50 ls [] := by
  intro n
  induction n with
  | zero =>
    intro S v2 ls hl
    rw [lX3_take_50]
    exact sw_none
  | succ n ih =>
    intro S v2 ls hl
    rw [lX3_take_50]
    refine sx_iload_n C0 dX3_take_50 rfl (lv_at hl 2 rfl) ?_
    refine sx_iconst (v := 3) C0 dX3_take_51 (by decide) ?_
    refine sx_icmp_ge (tgt := 73) C0 dX3_take_52 (by decide) (fun _ => ?_) (fun _ => ?_)
    · exact bX3_take_73_t C0 k hk k1 h1 _ _ (lv_sub hl [0, 1] rfl)
    · refine sx_aload_n C0 dX3_take_55 rfl (lv_at hl 0 rfl) ?_
      refine gf_X3_30 C0 hk.1 dX3_take_56 ?_
      refine sx_iload_n C0 dX3_take_59 rfl (lv_at hl 2 rfl) ?_
      refine sx_aload_n C0 dX3_take_60 rfl (lv_at hl 1 rfl) ?_
      refine gf_X3_30 C0 h1.1 dX3_take_61 ?_
      refine sx_iload_n C0 dX3_take_64 rfl (lv_at hl 2 rfl) ?_
      refine sx_iald C0 h1.2.1 rfl dX3_take_65 (fun a65 => ?_)
      refine sx_iast C0 hk.2.1 rfl dX3_take_66 (fun S66 => ?_)
      refine sx_iinc (v := (v2 + (1 : Int32))) (lv' := [(2, .int (v2 + (1 : Int32))), (0, .ref (ad k)), (1, .ref (ad k1))]) C0 dX3_take_67 hl (k := 2) rfl rfl (by decide) rfl (fun ls hl => ?_)
      refine sx_goto (tgt := 50) C0 dX3_take_70 (by decide) ?_
      exact ih _ _ _ (lv_sub hl [1, 2, 0] rfl)
def mX3_take (S : vS) (k : Nat) (k1 : Nat) : Option vS := (lt (wI S k 0 (S.1 k1 0)) fun S5 => (lt (wI S5 k 1 (S5.1 k1 1)) fun S13 => (lt (wI S13 k 2 (S13.1 k1 2)) fun S21 => (lt (wI S21 k 3 (S21.1 k1 3)) fun S29 => (lt (wI S29 k 4 (S29.1 k1 4)) fun S37 => (lt (wI S37 k 5 (S37.1 k1 5)) fun S45 => (lX3_take_50 k k1 FU S45 (0 : Int32))))))))
set_option maxHeartbeats 4000000 in
set_option maxRecDepth 100000 in
theorem c_X3_take {l : Launch} {D : va_G} {cA : Nat → ClassId} {ad : Nat → Nat} {kl : Nat} (G : Gx shC ad (ExC ad kl)) (k : Nat) (hk : IsX3 k) (k1 : Nat) (h1 : IsX3 k1) (S : vS) (r : vS) (hr : (mX3_take S k k1) = some r) : Met l yX3_take (Cond.code yX3_take cX3_take 3 none :: ALL) rm_X3_take (Po D vwCl tlC shC cA ad (ExC ad kl) [.ref (ad k), .ref (ad k1)] S) (Qo D vwCl shC cA ad none r True) 0 0 (aw shC ad) := by
  refine Met.sx (M := (mX3_take S k k1)) (rv := (fun _ => none : vS → Option Value)) (rs := fun S1 => S1) (B := fun _ => True) (by decide) ⟨rfl, rfl⟩ (Nat.le_of_ble_eq_true rfl) G (fun p e s m args below meth c C0 ls hl => ?_) hr
  have hl : lv_has ls 3 [(0, .ref (ad k)), (1, .ref (ad k1))] := hl
  rw [mX3_take]
  refine sx_aload_n C0 dX3_take_0 rfl (lv_at hl 0 rfl) ?_
  refine sx_aload_n C0 dX3_take_1 rfl (lv_at hl 1 rfl) ?_
  refine gf_X3_9 C0 h1.1 dX3_take_2 ?_
  refine pf_X3_9 C0 hk.1 dX3_take_5 (fun S5 => ?_)
  refine sx_aload_n C0 dX3_take_8 rfl (lv_at hl 0 rfl) ?_
  refine sx_aload_n C0 dX3_take_9 rfl (lv_at hl 1 rfl) ?_
  refine gf_X3_15 C0 h1.1 dX3_take_10 ?_
  refine pf_X3_15 C0 hk.1 dX3_take_13 (fun S13 => ?_)
  refine sx_aload_n C0 dX3_take_16 rfl (lv_at hl 0 rfl) ?_
  refine sx_aload_n C0 dX3_take_17 rfl (lv_at hl 1 rfl) ?_
  refine gf_X3_18 C0 h1.1 dX3_take_18 ?_
  refine pf_X3_18 C0 hk.1 dX3_take_21 (fun S21 => ?_)
  refine sx_aload_n C0 dX3_take_24 rfl (lv_at hl 0 rfl) ?_
  refine sx_aload_n C0 dX3_take_25 rfl (lv_at hl 1 rfl) ?_
  refine gf_X3_21 C0 h1.1 dX3_take_26 ?_
  refine pf_X3_21 C0 hk.1 dX3_take_29 (fun S29 => ?_)
  refine sx_aload_n C0 dX3_take_32 rfl (lv_at hl 0 rfl) ?_
  refine sx_aload_n C0 dX3_take_33 rfl (lv_at hl 1 rfl) ?_
  refine gf_X3_24 C0 h1.1 dX3_take_34 ?_
  refine pf_X3_24 C0 hk.1 dX3_take_37 (fun S37 => ?_)
  refine sx_aload_n C0 dX3_take_40 rfl (lv_at hl 0 rfl) ?_
  refine sx_aload_n C0 dX3_take_41 rfl (lv_at hl 1 rfl) ?_
  refine gf_X3_27 C0 h1.1 dX3_take_42 ?_
  refine pf_X3_27 C0 hk.1 dX3_take_45 (fun S45 => ?_)
  refine sx_iconst (v := 0) C0 dX3_take_48 (by decide) ?_
  refine sx_istore_n (lv' := [(2, .int (0 : Int32)), (0, .ref (ad k)), (1, .ref (ad k1))]) C0 dX3_take_49 rfl hl (by decide) rfl (fun ls hl => ?_)
  exact lX3_take_50_t C0 k hk k1 h1 _ _ _ _ (lv_sub hl [1, 2, 0] rfl)
abbrev rm_X3_forgetSums : Room := { frames := 0, cells := 0, slots := 0, locals := 0 }
def mX3_forgetSums (S : vS) (k : Nat) : vS := (lt (wI S k 3 (0 : Int32)) fun S2 => (lt (wI S2 k 4 (0 : Int32)) fun S7 => (lt (wI S7 k 5 (0 : Int32)) fun S12 => S12)))
set_option maxHeartbeats 4000000 in
set_option maxRecDepth 100000 in
theorem c_X3_forgetSums {l : Launch} {D : va_G} {cA : Nat → ClassId} {ad : Nat → Nat} {kl : Nat} (G : Gx shC ad (ExC ad kl)) (k : Nat) (hk : IsX3 k) (S : vS) : Met l yX3_forgetSums (Cond.code yX3_forgetSums cX3_forgetSums 1 none :: ALL) rm_X3_forgetSums (Po D vwCl tlC shC cA ad (ExC ad kl) [.ref (ad k)] S) (Qo D vwCl shC cA ad none (mX3_forgetSums S k) True) 0 0 (aw shC ad) := by
  refine Met.sx (M := some (mX3_forgetSums S k)) (rv := (fun _ => none : vS → Option Value)) (rs := fun S1 => S1) (B := fun _ => True) (by decide) ⟨rfl, rfl⟩ (Nat.le_of_ble_eq_true rfl) G (fun p e s m args below meth c C0 ls hl => ?_) rfl
  have hl : lv_has ls 1 [(0, .ref (ad k))] := hl
  rw [mX3_forgetSums]
  refine sx_aload_n C0 dX3_forgetSums_0 rfl (lv_at hl 0 rfl) ?_
  refine sx_iconst (v := 0) C0 dX3_forgetSums_1 (by decide) ?_
  refine pfs_X3_21 C0 hk.1 dX3_forgetSums_2 (fun S2 => ?_)
  refine sx_aload_n C0 dX3_forgetSums_5 rfl (lv_at hl 0 rfl) ?_
  refine sx_iconst (v := 0) C0 dX3_forgetSums_6 (by decide) ?_
  refine pfs_X3_24 C0 hk.1 dX3_forgetSums_7 (fun S7 => ?_)
  refine sx_aload_n C0 dX3_forgetSums_10 rfl (lv_at hl 0 rfl) ?_
  refine sx_iconst (v := 0) C0 dX3_forgetSums_11 (by decide) ?_
  refine pfs_X3_27 C0 hk.1 dX3_forgetSums_12 (fun S12 => ?_)
  exact sx_vret C0 rfl rfl trivial dX3_forgetSums_15
abbrev rm_X3_worth : Room := { frames := 0, cells := 0, slots := 0, locals := 0 }
def mX3_worth (S : vS) (k : Nat) : Int32 := ((S.1 k 3) - (S.1 k 4))
set_option maxHeartbeats 4000000 in
set_option maxRecDepth 100000 in
theorem c_X3_worth {l : Launch} {D : va_G} {cA : Nat → ClassId} {ad : Nat → Nat} {kl : Nat} (G : Gx shC ad (ExC ad kl)) (k : Nat) (hk : IsX3 k) (S : vS) : Met l yX3_worth (Cond.code yX3_worth cX3_worth 1 (some .int) :: ALL) rm_X3_worth (Po D vwCl tlC shC cA ad (ExC ad kl) [.ref (ad k)] S) (Qo D vwCl shC cA ad (some (.int (mX3_worth S k))) S True) 0 0 (aw shC ad) := by
  refine Met.sx (M := some (mX3_worth S k)) (rv := (fun r => some (.int r) : Int32 → Option Value)) (rs := fun _ => S) (B := fun _ => True) (by decide) ⟨rfl, rfl⟩ (Nat.le_of_ble_eq_true rfl) G (fun p e s m args below meth c C0 ls hl => ?_) rfl
  have hl : lv_has ls 1 [(0, .ref (ad k))] := hl
  rw [mX3_worth]
  refine sx_aload_n C0 dX3_worth_0 rfl (lv_at hl 0 rfl) ?_
  refine gf_X3_21 C0 hk.1 dX3_worth_1 ?_
  refine sx_aload_n C0 dX3_worth_4 rfl (lv_at hl 0 rfl) ?_
  refine gf_X3_24 C0 hk.1 dX3_worth_5 ?_
  refine sx_isub C0 dX3_worth_8 ?_
  exact sx_iret C0 rfl rfl trivial dX3_worth_9
abbrev rm_X3_awake : Room := { frames := 0, cells := 0, slots := 0, locals := 0 }
def bX3_awake_17 (k : Nat) (k1 : Nat)   (S : vS)  (t0 : Int32) : Int32 := (((S.1 k1 1) &&& ((S.1 k 1) ^^^ (-1 : Int32))) &&& (t0 ^^^ (-1 : Int32)))
set_option maxHeartbeats 4000000 in
set_option maxRecDepth 100000 in
theorem bX3_awake_17_t {p : Program} {l : Launch} {e : Env} {s : State} {m : MethodId} {args : Array Value} {below : List Frame} {meth : Method} {c : Code} {D : va_G} {cA : Nat → ClassId} {ad : Nat → Nat} {kl : Nat}   (C0 : Cx D vwCl tlC shC cA ad (ExC ad kl) RX3 cX3_awake 3 (some .int) p s m args meth c) (k : Nat) (hk : IsX3 k) (k1 : Nat) (h1 : IsX0 k1) (S : vS)  (t0 : Int32) (ls : Array Slot) (hl : lv_has ls 3 [(0, .ref (ad k)), (1, .ref (ad k1))]) : SW p l e rm_X3_awake s m args below meth c D vwCl shC cA ad (Fq D vwCl shC cA ad below args s (fun r => some (.int r) : Int32 → Option Value) (fun _ => S) (fun _ => True)) (some (bX3_awake_17 k k1 S t0)) S 17 ls [.int t0] := by
  rw [bX3_awake_17]
  refine sx_istore_n (lv' := [(2, .int t0), (0, .ref (ad k)), (1, .ref (ad k1))]) C0 dX3_awake_17 rfl hl (by decide) rfl (fun ls hl => ?_)
  refine sx_aload_n C0 dX3_awake_18 rfl (lv_at hl 2 rfl) ?_
  refine gf_X3_63 C0 h1.1 dX3_awake_19 ?_
  refine sx_aload_n C0 dX3_awake_22 rfl (lv_at hl 1 rfl) ?_
  refine gf_X3_15 C0 hk.1 dX3_awake_23 ?_
  refine sx_iconst (v := (-1)) C0 dX3_awake_26 (by decide) ?_
  refine sx_ixor C0 dX3_awake_27 ?_
  refine sx_iand C0 dX3_awake_28 ?_
  refine sx_iload_n C0 dX3_awake_29 rfl (lv_at hl 0 rfl) ?_
  refine sx_iconst (v := (-1)) C0 dX3_awake_30 (by decide) ?_
  refine sx_ixor C0 dX3_awake_31 ?_
  refine sx_iand C0 dX3_awake_32 ?_
  exact sx_iret C0 rfl rfl trivial dX3_awake_33
def mX3_awake (S : vS) (k : Nat) (k1 : Nat) : Int32 := (if ((S.1 k 0) &&& (1 : Int32)) = 0 then (bX3_awake_17 k k1 S (0 : Int32)) else (bX3_awake_17 k k1 S (S.1 k1 2)))
set_option maxHeartbeats 4000000 in
set_option maxRecDepth 100000 in
theorem c_X3_awake {l : Launch} {D : va_G} {cA : Nat → ClassId} {ad : Nat → Nat} {kl : Nat} (G : Gx shC ad (ExC ad kl)) (k : Nat) (hk : IsX3 k) (k1 : Nat) (h1 : IsX0 k1) (S : vS) : Met l yX3_awake (Cond.code yX3_awake cX3_awake 3 (some .int) :: ALL) rm_X3_awake (Po D vwCl tlC shC cA ad (ExC ad kl) [.ref (ad k), .ref (ad k1)] S) (Qo D vwCl shC cA ad (some (.int (mX3_awake S k k1))) S True) 0 0 (aw shC ad) := by
  refine Met.sx (M := some (mX3_awake S k k1)) (rv := (fun r => some (.int r) : Int32 → Option Value)) (rs := fun _ => S) (B := fun _ => True) (by decide) ⟨rfl, rfl⟩ (Nat.le_of_ble_eq_true rfl) G (fun p e s m args below meth c C0 ls hl => ?_) rfl
  have hl : lv_has ls 3 [(0, .ref (ad k)), (1, .ref (ad k1))] := hl
  rw [mX3_awake]
  refine sx_aload_n C0 dX3_awake_0 rfl (lv_at hl 0 rfl) ?_
  refine gf_X3_9 C0 hk.1 dX3_awake_1 ?_
  refine sx_iconst (v := 1) C0 dX3_awake_4 (by decide) ?_
  refine sx_iand C0 dX3_awake_5 ?_
  refine sx_if_eqs (tgt := 16) C0 dX3_awake_6 (by decide) (fun _ => ?_) (fun _ => ?_)
  · refine sx_iconst (v := 0) C0 dX3_awake_16 (by decide) ?_
    exact bX3_awake_17_t C0 k hk k1 h1 _ _ _ (lv_sub hl [0, 1] rfl)
  · refine sx_aload_n C0 dX3_awake_9 rfl (lv_at hl 1 rfl) ?_
    refine gf_X3_58 C0 h1.1 dX3_awake_10 ?_
    refine sx_goto (tgt := 17) C0 dX3_awake_13 (by decide) ?_
    exact bX3_awake_17_t C0 k hk k1 h1 _ _ _ (lv_sub hl [0, 1] rfl)
abbrev rm_X3_fedBy : Room := { frames := 1, cells := 0, slots := 0, locals := 22 }
def mX3_fedBy (S : vS) (k : Nat) (k1 : Nat) (v2 : Int32) : Option Int32 := (lt (v2 / (3 : Int32)) fun v3_3 => (if v2 < 0 then (some (0 : Int32)) else (if v2 = (12 : Int32) then (some (0 : Int32)) else (if (mX0_has S k1 v3_3) = 0 then (some (0 : Int32)) else (lt (mX3_awake S k k1) fun v4_29 => (if ((v4_29 >>> (v3_3 &&& (31 : Int32))) &&& (1 : Int32)) = 0 then (some (0 : Int32)) else ((gI (S.1 (k1 + 7)) 4 v3_3).bind fun a45 => (some (a45 &&& v4_29)))))))))
set_option maxHeartbeats 4000000 in
set_option maxRecDepth 100000 in
theorem c_X3_fedBy {l : Launch} {D : va_G} {cA : Nat → ClassId} {ad : Nat → Nat} {kl : Nat} (G : Gx shC ad (ExC ad kl)) (k : Nat) (hk : IsX3 k) (k1 : Nat) (h1 : IsX0 k1) (v2 : Int32) (S : vS) (r : Int32) (hr : (mX3_fedBy S k k1 v2) = some r) : Met l yX3_fedBy (Cond.code yX3_fedBy cX3_fedBy 5 (some .int) :: ALL) rm_X3_fedBy (Po D vwCl tlC shC cA ad (ExC ad kl) [.ref (ad k), .ref (ad k1), .int v2] S) (Qo D vwCl shC cA ad (some (.int r)) S True) 0 0 (aw shC ad) := by
  refine Met.sx (M := (mX3_fedBy S k k1 v2)) (rv := (fun r => some (.int r) : Int32 → Option Value)) (rs := fun _ => S) (B := fun _ => True) (by decide) ⟨rfl, rfl⟩ (Nat.le_of_ble_eq_true rfl) G (fun p e s m args below meth c C0 ls hl => ?_) hr
  have hl : lv_has ls 5 [(0, .ref (ad k)), (1, .ref (ad k1)), (2, .int v2)] := hl
  rw [mX3_fedBy]
  refine sx_iload_n C0 dX3_fedBy_0 rfl (lv_at hl 2 rfl) ?_
  refine sx_iconst (v := 3) C0 dX3_fedBy_1 (by decide) ?_
  refine sx_idiv C0 dX3_fedBy_2 (by decide) ?_
  refine sw_lt (val := .int) (fun v3_3 => ?_)
  refine sx_istore_n (lv' := [(3, .int v3_3), (0, .ref (ad k)), (1, .ref (ad k1)), (2, .int v2)]) C0 dX3_fedBy_3 rfl hl (by decide) rfl (fun ls hl => ?_)
  refine sx_iload_n C0 dX3_fedBy_4 rfl (lv_at hl 3 rfl) ?_
  refine sx_if_lt (tgt := 22) C0 dX3_fedBy_5 (by decide) (fun _ => ?_) (fun _ => ?_)
  · refine sx_iconst (v := 0) C0 dX3_fedBy_22 (by decide) ?_
    exact sx_iret C0 rfl rfl trivial dX3_fedBy_23
  · refine sx_iload_n C0 dX3_fedBy_8 rfl (lv_at hl 3 rfl) ?_
    refine sx_bipush (v := 12) C0 dX3_fedBy_9 (by decide) ?_
    refine sx_icmp_eq (tgt := 22) C0 dX3_fedBy_11 (by decide) (fun _ => ?_) (fun _ => ?_)
    · refine sx_iconst (v := 0) C0 dX3_fedBy_22 (by decide) ?_
      exact sx_iret C0 rfl rfl trivial dX3_fedBy_23
    · refine sx_aload_n C0 dX3_fedBy_14 rfl (lv_at hl 2 rfl) ?_
      refine sx_iload_n C0 dX3_fedBy_15 rfl (lv_at hl 0 rfl) ?_
      refine cv_X3_66 (As := [.int v3_3]) C0 (c_X0_has C0.2.2.2.2.2.2.2.1 k1 h1 v3_3 S) h1.1 ⟨rfl, rfl⟩ ⟨Nat.le_of_ble_eq_true rfl, Nat.le_of_ble_eq_true rfl⟩ rfl hl.1 (Nat.le_of_ble_eq_true rfl) rfl dX3_fedBy_16 (fun hb16 => ?_)
      refine sx_if_ne (tgt := 24) C0 dX3_fedBy_19 (by decide) (fun _ => ?_) (fun _ => ?_)
      · refine sx_iconst (v := 0) C0 dX3_fedBy_22 (by decide) ?_
        exact sx_iret C0 rfl rfl trivial dX3_fedBy_23
      · refine sx_aload_n C0 dX3_fedBy_24 rfl (lv_at hl 1 rfl) ?_
        refine sx_aload_n C0 dX3_fedBy_25 rfl (lv_at hl 2 rfl) ?_
        refine cv_X3_70 (As := [.ref (ad k1)]) C0 (c_X3_awake C0.2.2.2.2.2.2.2.1 k hk k1 h1 S) hk.1 ⟨rfl, rfl⟩ ⟨Nat.le_of_ble_eq_true rfl, Nat.le_of_ble_eq_true rfl⟩ rfl hl.1 (Nat.le_of_ble_eq_true rfl) rfl dX3_fedBy_26 (fun _ => ?_)
        refine sw_lt (val := .int) (fun v4_29 => ?_)
        refine sx_istore (lv' := [(4, .int v4_29), (3, .int v3_3), (0, .ref (ad k)), (1, .ref (ad k1)), (2, .int v2)]) C0 dX3_fedBy_29 hl (by decide) rfl (fun ls hl => ?_)
        refine sx_iload C0 dX3_fedBy_31 (lv_at hl 0 rfl) ?_
        refine sx_iload_n C0 dX3_fedBy_33 rfl (lv_at hl 1 rfl) ?_
        refine sx_ishr C0 dX3_fedBy_34 ?_
        refine sx_iconst (v := 1) C0 dX3_fedBy_35 (by decide) ?_
        refine sx_iand C0 dX3_fedBy_36 ?_
        refine sx_if_eq (tgt := 52) C0 dX3_fedBy_37 (by decide) (fun _ => ?_) (fun _ => ?_)
        · refine sx_iconst (v := 0) C0 dX3_fedBy_52 (by decide) ?_
          exact sx_iret C0 rfl rfl trivial dX3_fedBy_53
        · refine sx_aload_n C0 dX3_fedBy_40 rfl (lv_at hl 3 rfl) ?_
          refine gf_X3_74 C0 h1.1 dX3_fedBy_41 ?_
          refine sx_iload_n C0 dX3_fedBy_44 rfl (lv_at hl 1 rfl) ?_
          refine sx_iald C0 h1.2.2.2.2.2.2.2.1 rfl dX3_fedBy_45 (fun a45 => ?_)
          refine sx_iload C0 dX3_fedBy_46 (lv_at hl 0 rfl) ?_
          refine sx_iand C0 dX3_fedBy_48 ?_
          refine sx_goto (tgt := 53) C0 dX3_fedBy_49 (by decide) ?_
          exact sx_iret C0 rfl rfl trivial dX3_fedBy_53
abbrev rm_X3_costOf : Room := { frames := 2, cells := 0, slots := 0, locals := 46 }
def mX3_costOf (S : vS) (k : Nat) (k1 : Nat) (v2 : Int32) : Option Int32 := (if v2 = (12 : Int32) then (some (0 : Int32)) else ((mX3_fedBy S k k1 v2).bind fun a11 => (lt (mJ6_bitCount_0f7a4 a11) fun v3_17 => (if v3_17 = 0 then (some (-9 : Int32)) else ((gI (S.1 (k + 1)) 3 (v2 - v2 / (3 : Int32) * (3 : Int32))).bind fun a30 => (if v3_17 ≤ a30 then (some v3_17) else (some (-9 : Int32))))))))
set_option maxHeartbeats 4000000 in
set_option maxRecDepth 100000 in
theorem c_X3_costOf {l : Launch} {D : va_G} {cA : Nat → ClassId} {ad : Nat → Nat} {kl : Nat} (G : Gx shC ad (ExC ad kl)) (k : Nat) (hk : IsX3 k) (k1 : Nat) (h1 : IsX0 k1) (v2 : Int32) (S : vS) (r : Int32) (hr : (mX3_costOf S k k1 v2) = some r) : Met l yX3_costOf (Cond.code yX3_costOf cX3_costOf 4 (some .int) :: ALL) rm_X3_costOf (Po D vwCl tlC shC cA ad (ExC ad kl) [.ref (ad k), .ref (ad k1), .int v2] S) (Qo D vwCl shC cA ad (some (.int r)) S True) 0 0 (aw shC ad) := by
  refine Met.sx (M := (mX3_costOf S k k1 v2)) (rv := (fun r => some (.int r) : Int32 → Option Value)) (rs := fun _ => S) (B := fun _ => True) (by decide) ⟨rfl, rfl⟩ (Nat.le_of_ble_eq_true rfl) G (fun p e s m args below meth c C0 ls hl => ?_) hr
  have hl : lv_has ls 4 [(0, .ref (ad k)), (1, .ref (ad k1)), (2, .int v2)] := hl
  rw [mX3_costOf]
  refine sx_iload_n C0 dX3_costOf_0 rfl (lv_at hl 2 rfl) ?_
  refine sx_bipush (v := 12) C0 dX3_costOf_1 (by decide) ?_
  refine sx_icmp_ne (tgt := 8) C0 dX3_costOf_3 (by decide) (fun _ => ?_) (fun _ => ?_)
  · refine sx_iconst (v := 0) C0 dX3_costOf_6 (by decide) ?_
    exact sx_iret C0 rfl rfl trivial dX3_costOf_7
  · refine sx_aload_n C0 dX3_costOf_8 rfl (lv_at hl 0 rfl) ?_
    refine sx_aload_n C0 dX3_costOf_9 rfl (lv_at hl 1 rfl) ?_
    refine sx_iload_n C0 dX3_costOf_10 rfl (lv_at hl 2 rfl) ?_
    refine sw_bind (fun a11 e11 => ?_)
    refine cv_X3_77 (As := [.ref (ad k1), .int v2]) C0 (c_X3_fedBy C0.2.2.2.2.2.2.2.1 k hk k1 h1 v2 S _ e11) hk.1 ⟨rfl, rfl⟩ ⟨Nat.le_of_ble_eq_true rfl, Nat.le_of_ble_eq_true rfl⟩ rfl hl.1 (Nat.le_of_ble_eq_true rfl) rfl dX3_costOf_11 (fun _ => ?_)
    refine cv_X3_81 (As := [.int a11]) C0 (c_J6_bitCount_0f7a4 C0.2.2.2.2.2.2.2.1 a11 S) ⟨rfl, rfl⟩ ⟨Nat.le_of_ble_eq_true rfl, Nat.le_of_ble_eq_true rfl⟩ rfl hl.1 (Nat.le_of_ble_eq_true rfl) rfl dX3_costOf_14 (fun _ => ?_)
    refine sw_lt (val := .int) (fun v3_17 => ?_)
    refine sx_istore_n (lv' := [(3, .int v3_17), (0, .ref (ad k)), (1, .ref (ad k1)), (2, .int v2)]) C0 dX3_costOf_17 rfl hl (by decide) rfl (fun ls hl => ?_)
    refine sx_iload_n C0 dX3_costOf_18 rfl (lv_at hl 0 rfl) ?_
    refine sx_if_eq (tgt := 34) C0 dX3_costOf_19 (by decide) (fun _ => ?_) (fun _ => ?_)
    · refine sx_bipush (v := (-9)) C0 dX3_costOf_34 (by decide) ?_
      refine sx_goto (tgt := 40) C0 dX3_costOf_36 (by decide) ?_
      exact sx_iret C0 rfl rfl trivial dX3_costOf_40
    · refine sx_iload_n C0 dX3_costOf_22 rfl (lv_at hl 0 rfl) ?_
      refine sx_aload_n C0 dX3_costOf_23 rfl (lv_at hl 1 rfl) ?_
      refine gf_X3_30 C0 hk.1 dX3_costOf_24 ?_
      refine sx_iload_n C0 dX3_costOf_27 rfl (lv_at hl 3 rfl) ?_
      refine sx_iconst (v := 3) C0 dX3_costOf_28 (by decide) ?_
      refine sx_irem C0 dX3_costOf_29 (by decide) ?_
      refine sx_iald C0 hk.2.1 rfl dX3_costOf_30 (fun a30 => ?_)
      refine sx_icmp_le (tgt := 39) C0 dX3_costOf_31 (by decide) (fun _ => ?_) (fun _ => ?_)
      · refine sx_iload_n C0 dX3_costOf_39 rfl (lv_at hl 0 rfl) ?_
        exact sx_iret C0 rfl rfl trivial dX3_costOf_40
      · refine sx_bipush (v := (-9)) C0 dX3_costOf_34 (by decide) ?_
        refine sx_goto (tgt := 40) C0 dX3_costOf_36 (by decide) ?_
        exact sx_iret C0 rfl rfl trivial dX3_costOf_40
abbrev rm_X3_hungerAfter : Room := { frames := 1, cells := 0, slots := 0, locals := 26 }
def bX3_hungerAfter_64 (k : Nat) (k1 : Nat)   (S : vS) (v2 : Int32) (t0 : Int32) : Option Int32 := ((gI (S.1 (k + 2)) 4 v2).bind fun a73 => (some (mnI (9 : Int32) (a73 + t0))))
set_option maxHeartbeats 4000000 in
set_option maxRecDepth 100000 in
theorem bX3_hungerAfter_64_t {p : Program} {l : Launch} {e : Env} {s : State} {m : MethodId} {args : Array Value} {below : List Frame} {meth : Method} {c : Code} {D : va_G} {cA : Nat → ClassId} {ad : Nat → Nat} {kl : Nat}   (C0 : Cx D vwCl tlC shC cA ad (ExC ad kl) RX3 cX3_hungerAfter 5 (some .int) p s m args meth c) (k : Nat) (hk : IsX3 k) (k1 : Nat) (h1 : IsX0 k1) (S : vS) (v2 : Int32) (t0 : Int32) (ls : Array Slot) (hl : lv_has ls 5 [(0, .ref (ad k)), (2, .int v2)]) : SW p l e rm_X3_hungerAfter s m args below meth c D vwCl shC cA ad (Fq D vwCl shC cA ad below args s (fun r => some (.int r) : Int32 → Option Value) (fun _ => S) (fun _ => True)) (bX3_hungerAfter_64 k k1 S v2 t0) S 64 ls [.int t0] := by
  rw [bX3_hungerAfter_64]
  refine sx_istore (lv' := [(4, .int t0), (0, .ref (ad k)), (2, .int v2)]) C0 dX3_hungerAfter_64 hl (by decide) rfl (fun ls hl => ?_)
  refine sx_bipush (v := 9) C0 dX3_hungerAfter_66 (by decide) ?_
  refine sx_aload_n C0 dX3_hungerAfter_68 rfl (lv_at hl 1 rfl) ?_
  refine gf_X3_34 C0 hk.1 dX3_hungerAfter_69 ?_
  refine sx_iload_n C0 dX3_hungerAfter_72 rfl (lv_at hl 2 rfl) ?_
  refine sx_iald C0 hk.2.2.1 rfl dX3_hungerAfter_73 (fun a73 => ?_)
  refine sx_iload C0 dX3_hungerAfter_74 (lv_at hl 0 rfl) ?_
  refine sx_iadd C0 dX3_hungerAfter_76 ?_
  refine sx_mmin C0 wm_X3_130 hl.1 ⟨Nat.le_of_ble_eq_true rfl, Nat.le_of_ble_eq_true rfl⟩ dX3_hungerAfter_77 ?_
  exact sx_iret C0 rfl rfl trivial dX3_hungerAfter_80
def mX3_hungerAfter (S : vS) (k : Nat) (k1 : Nat) (v2 : Int32) (v3 : Int32) : Option Int32 := (if (((S.1 k 8) >>> (v2 &&& (31 : Int32))) &&& (1 : Int32)) = 0 then ((gI (S.1 (k1 + 8)) 4 v2).bind fun a43 => (if (a43 &&& (S.1 k 8)) = 0 then (bX3_hungerAfter_64 k k1 S v2 (1 : Int32)) else ((gI (S.1 (k1 + 9)) 4 v2).bind fun a58 => (bX3_hungerAfter_64 k k1 S v2 ((1 : Int32) + a58))))) else ((gI (S.1 (k1 + 2)) 4 v2).bind fun a17 => (if v3 = a17 then (some (0 : Int32)) else ((gI (S.1 (k + 2)) 4 v2).bind fun a31 => (some (mxI (0 : Int32) (a31 - (2 : Int32))))))))
set_option maxHeartbeats 4000000 in
set_option maxRecDepth 100000 in
theorem c_X3_hungerAfter {l : Launch} {D : va_G} {cA : Nat → ClassId} {ad : Nat → Nat} {kl : Nat} (G : Gx shC ad (ExC ad kl)) (k : Nat) (hk : IsX3 k) (k1 : Nat) (h1 : IsX0 k1) (v2 : Int32) (v3 : Int32) (S : vS) (r : Int32) (hr : (mX3_hungerAfter S k k1 v2 v3) = some r) : Met l yX3_hungerAfter (Cond.code yX3_hungerAfter cX3_hungerAfter 5 (some .int) :: ALL) rm_X3_hungerAfter (Po D vwCl tlC shC cA ad (ExC ad kl) [.ref (ad k), .ref (ad k1), .int v2, .int v3] S) (Qo D vwCl shC cA ad (some (.int r)) S True) 0 0 (aw shC ad) := by
  refine Met.sx (M := (mX3_hungerAfter S k k1 v2 v3)) (rv := (fun r => some (.int r) : Int32 → Option Value)) (rs := fun _ => S) (B := fun _ => True) (by decide) ⟨rfl, rfl⟩ (Nat.le_of_ble_eq_true rfl) G (fun p e s m args below meth c C0 ls hl => ?_) hr
  have hl : lv_has ls 5 [(0, .ref (ad k)), (1, .ref (ad k1)), (2, .int v2), (3, .int v3)] := hl
  rw [mX3_hungerAfter]
  refine sx_aload_n C0 dX3_hungerAfter_0 rfl (lv_at hl 0 rfl) ?_
  refine gf_X3_37 C0 hk.1 dX3_hungerAfter_1 ?_
  refine sx_iload_n C0 dX3_hungerAfter_4 rfl (lv_at hl 2 rfl) ?_
  refine sx_ishr C0 dX3_hungerAfter_5 ?_
  refine sx_iconst (v := 1) C0 dX3_hungerAfter_6 (by decide) ?_
  refine sx_iand C0 dX3_hungerAfter_7 ?_
  refine sx_if_eq (tgt := 38) C0 dX3_hungerAfter_8 (by decide) (fun _ => ?_) (fun _ => ?_)
  · refine sx_aload_n C0 dX3_hungerAfter_38 rfl (lv_at hl 1 rfl) ?_
    refine gf_X3_124 C0 h1.1 dX3_hungerAfter_39 ?_
    refine sx_iload_n C0 dX3_hungerAfter_42 rfl (lv_at hl 2 rfl) ?_
    refine sx_iald C0 h1.2.2.2.2.2.2.2.2.1 rfl dX3_hungerAfter_43 (fun a43 => ?_)
    refine sx_aload_n C0 dX3_hungerAfter_44 rfl (lv_at hl 0 rfl) ?_
    refine gf_X3_37 C0 hk.1 dX3_hungerAfter_45 ?_
    refine sx_iand C0 dX3_hungerAfter_48 ?_
    refine sx_if_eq (tgt := 63) C0 dX3_hungerAfter_49 (by decide) (fun _ => ?_) (fun _ => ?_)
    · refine sx_iconst (v := 1) C0 dX3_hungerAfter_63 (by decide) ?_
      exact bX3_hungerAfter_64_t C0 k hk k1 h1 _ _ _ _ (lv_sub hl [0, 2] rfl)
    · refine sx_iconst (v := 1) C0 dX3_hungerAfter_52 (by decide) ?_
      refine sx_aload_n C0 dX3_hungerAfter_53 rfl (lv_at hl 1 rfl) ?_
      refine gf_X3_127 C0 h1.1 dX3_hungerAfter_54 ?_
      refine sx_iload_n C0 dX3_hungerAfter_57 rfl (lv_at hl 2 rfl) ?_
      refine sx_iald C0 h1.2.2.2.2.2.2.2.2.2 rfl dX3_hungerAfter_58 (fun a58 => ?_)
      refine sx_iadd C0 dX3_hungerAfter_59 ?_
      refine sx_goto (tgt := 64) C0 dX3_hungerAfter_60 (by decide) ?_
      exact bX3_hungerAfter_64_t C0 k hk k1 h1 _ _ _ _ (lv_sub hl [0, 2] rfl)
  · refine sx_iload_n C0 dX3_hungerAfter_11 rfl (lv_at hl 3 rfl) ?_
    refine sx_aload_n C0 dX3_hungerAfter_12 rfl (lv_at hl 1 rfl) ?_
    refine gf_X3_121 C0 h1.1 dX3_hungerAfter_13 ?_
    refine sx_iload_n C0 dX3_hungerAfter_16 rfl (lv_at hl 2 rfl) ?_
    refine sx_iald C0 h1.2.2.1 rfl dX3_hungerAfter_17 (fun a17 => ?_)
    refine sx_icmp_ne (tgt := 25) C0 dX3_hungerAfter_18 (by decide) (fun _ => ?_) (fun _ => ?_)
    · refine sx_iconst (v := 0) C0 dX3_hungerAfter_21 (by decide) ?_
      refine sx_goto (tgt := 37) C0 dX3_hungerAfter_22 (by decide) ?_
      exact sx_iret C0 rfl rfl trivial dX3_hungerAfter_37
    · refine sx_iconst (v := 0) C0 dX3_hungerAfter_25 (by decide) ?_
      refine sx_aload_n C0 dX3_hungerAfter_26 rfl (lv_at hl 0 rfl) ?_
      refine gf_X3_34 C0 hk.1 dX3_hungerAfter_27 ?_
      refine sx_iload_n C0 dX3_hungerAfter_30 rfl (lv_at hl 2 rfl) ?_
      refine sx_iald C0 hk.2.2.1 rfl dX3_hungerAfter_31 (fun a31 => ?_)
      refine sx_iconst (v := 2) C0 dX3_hungerAfter_32 (by decide) ?_
      refine sx_isub C0 dX3_hungerAfter_33 ?_
      refine sx_mmax C0 wm_X3_94 hl.1 ⟨Nat.le_of_ble_eq_true rfl, Nat.le_of_ble_eq_true rfl⟩ dX3_hungerAfter_34 ?_
      exact sx_iret C0 rfl rfl trivial dX3_hungerAfter_37
abbrev rm_X3_wasEverFed : Room := { frames := 0, cells := 0, slots := 0, locals := 0 }
def mX3_wasEverFed (S : vS) (k : Nat) (v1 : Int32) : Int32 := (if (((S.1 k 2) >>> (v1 &&& (31 : Int32))) &&& (1 : Int32)) = 0 then (0 : Int32) else (1 : Int32))
set_option maxHeartbeats 4000000 in
set_option maxRecDepth 100000 in
theorem c_X3_wasEverFed {l : Launch} {D : va_G} {cA : Nat → ClassId} {ad : Nat → Nat} {kl : Nat} (G : Gx shC ad (ExC ad kl)) (k : Nat) (hk : IsX3 k) (v1 : Int32) (S : vS) : Met l yX3_wasEverFed (Cond.code yX3_wasEverFed cX3_wasEverFed 2 (some .boolean) :: ALL) rm_X3_wasEverFed (Po D vwCl tlC shC cA ad (ExC ad kl) [.ref (ad k), .int v1] S) (Qo D vwCl shC cA ad (some (.int (mX3_wasEverFed S k v1))) S (isB (mX3_wasEverFed S k v1))) 0 0 (aw shC ad) := by
  refine Met.sx (M := some (mX3_wasEverFed S k v1)) (rv := (fun r => some (.int r) : Int32 → Option Value)) (rs := fun _ => S) (B := fun r => isB r) (by decide) ⟨rfl, rfl⟩ (Nat.le_of_ble_eq_true rfl) G (fun p e s m args below meth c C0 ls hl => ?_) rfl
  have hl : lv_has ls 2 [(0, .ref (ad k)), (1, .int v1)] := hl
  rw [mX3_wasEverFed]
  refine sx_aload_n C0 dX3_wasEverFed_0 rfl (lv_at hl 0 rfl) ?_
  refine gf_X3_18 C0 hk.1 dX3_wasEverFed_1 ?_
  refine sx_iload_n C0 dX3_wasEverFed_4 rfl (lv_at hl 1 rfl) ?_
  refine sx_ishr C0 dX3_wasEverFed_5 ?_
  refine sx_iconst (v := 1) C0 dX3_wasEverFed_6 (by decide) ?_
  refine sx_iand C0 dX3_wasEverFed_7 ?_
  refine sx_if_eqs (tgt := 15) C0 dX3_wasEverFed_8 (by decide) (fun _ => ?_) (fun _ => ?_)
  · refine sx_iconst (v := 0) C0 dX3_wasEverFed_15 (by decide) ?_
    exact sx_zret C0 rfl rfl (Or.inl rfl) (Or.inl rfl) dX3_wasEverFed_16
  · refine sx_iconst (v := 1) C0 dX3_wasEverFed_11 (by decide) ?_
    refine sx_goto (tgt := 16) C0 dX3_wasEverFed_12 (by decide) ?_
    exact sx_zret C0 rfl rfl (Or.inr rfl) (Or.inr rfl) dX3_wasEverFed_16
abbrev rm_X3_send : Room := { frames := 1, cells := 0, slots := 0, locals := 21 }
def bX3_send_19 (k : Nat) (k1 : Nat)   (S : vS) (v2 : Int32)  : Option vS := ((gI (S.1 (k + 2)) 4 v2).bind fun a24 => ((gI (S.1 (k1 + 3)) 4 v2).bind fun a30 => (if a30 < a24 then ((gI (S.1 (k1 + 5)) 4 v2).bind fun a74 => ((pI S (k + 3) 4 v2 (-a74)).bind fun S76 => ((gI (S76.1 (k1 + 5)) 4 v2).bind fun a87 => (lt (wI S76 k 4 ((S76.1 k 4) + a87)) fun S89 => (some S89))))) else ((gI (S.1 (k1 + 4)) 4 v2).bind fun a44 => ((pI S (k + 3) 4 v2 a44).bind fun S45 => ((gI (S45.1 (k1 + 4)) 4 v2).bind fun a56 => (lt (wI S45 k 3 ((S45.1 k 3) + a56)) fun S58 => (some S58))))))))
set_option maxHeartbeats 4000000 in
set_option maxRecDepth 100000 in
theorem bX3_send_19_t {p : Program} {l : Launch} {e : Env} {s : State} {m : MethodId} {args : Array Value} {below : List Frame} {meth : Method} {c : Code} {D : va_G} {cA : Nat → ClassId} {ad : Nat → Nat} {kl : Nat}   (C0 : Cx D vwCl tlC shC cA ad (ExC ad kl) RX3 cX3_send 3 none p s m args meth c) (k : Nat) (hk : IsX3 k) (k1 : Nat) (h1 : IsX0 k1) (S : vS) (v2 : Int32) (ls : Array Slot) (hl : lv_has ls 3 [(0, .ref (ad k)), (1, .ref (ad k1)), (2, .int v2)]) : SW p l e rm_X3_send s m args below meth c D vwCl shC cA ad (Fq D vwCl shC cA ad below args s (fun _ => none : vS → Option Value) (fun S1 => S1) (fun _ => True)) (bX3_send_19 k k1 S v2) S 19 ls [] := by
  rw [bX3_send_19]
  refine sx_aload_n C0 dX3_send_19 rfl (lv_at hl 0 rfl) ?_
  refine gf_X3_34 C0 hk.1 dX3_send_20 ?_
  refine sx_iload_n C0 dX3_send_23 rfl (lv_at hl 2 rfl) ?_
  refine sx_iald C0 hk.2.2.1 rfl dX3_send_24 (fun a24 => ?_)
  refine sx_aload_n C0 dX3_send_25 rfl (lv_at hl 1 rfl) ?_
  refine gf_X3_136 C0 h1.1 dX3_send_26 ?_
  refine sx_iload_n C0 dX3_send_29 rfl (lv_at hl 2 rfl) ?_
  refine sx_iald C0 h1.2.2.2.1 rfl dX3_send_30 (fun a30 => ?_)
  refine sx_icmp_gt (tgt := 64) C0 dX3_send_31 (by decide) (fun _ => ?_) (fun _ => ?_)
  · refine sx_aload_n C0 dX3_send_64 rfl (lv_at hl 0 rfl) ?_
    refine gf_X3_40 C0 hk.1 dX3_send_65 ?_
    refine sx_iload_n C0 dX3_send_68 rfl (lv_at hl 2 rfl) ?_
    refine sx_aload_n C0 dX3_send_69 rfl (lv_at hl 1 rfl) ?_
    refine gf_X3_142 C0 h1.1 dX3_send_70 ?_
    refine sx_iload_n C0 dX3_send_73 rfl (lv_at hl 2 rfl) ?_
    refine sx_iald C0 h1.2.2.2.2.2.1 rfl dX3_send_74 (fun a74 => ?_)
    refine sx_ineg C0 dX3_send_75 ?_
    refine sx_iast C0 hk.2.2.2 rfl dX3_send_76 (fun S76 => ?_)
    refine sx_aload_n C0 dX3_send_77 rfl (lv_at hl 0 rfl) ?_
    refine sx_dup C0 dX3_send_78 rfl ?_
    refine gf_X3_24 C0 hk.1 dX3_send_79 ?_
    refine sx_aload_n C0 dX3_send_82 rfl (lv_at hl 1 rfl) ?_
    refine gf_X3_142 C0 h1.1 dX3_send_83 ?_
    refine sx_iload_n C0 dX3_send_86 rfl (lv_at hl 2 rfl) ?_
    refine sx_iald C0 h1.2.2.2.2.2.1 rfl dX3_send_87 (fun a87 => ?_)
    refine sx_iadd C0 dX3_send_88 ?_
    refine pf_X3_24 C0 hk.1 dX3_send_89 (fun S89 => ?_)
    exact sx_vret C0 rfl rfl trivial dX3_send_92
  · refine sx_aload_n C0 dX3_send_34 rfl (lv_at hl 0 rfl) ?_
    refine gf_X3_40 C0 hk.1 dX3_send_35 ?_
    refine sx_iload_n C0 dX3_send_38 rfl (lv_at hl 2 rfl) ?_
    refine sx_aload_n C0 dX3_send_39 rfl (lv_at hl 1 rfl) ?_
    refine gf_X3_139 C0 h1.1 dX3_send_40 ?_
    refine sx_iload_n C0 dX3_send_43 rfl (lv_at hl 2 rfl) ?_
    refine sx_iald C0 h1.2.2.2.2.1 rfl dX3_send_44 (fun a44 => ?_)
    refine sx_iast C0 hk.2.2.2 rfl dX3_send_45 (fun S45 => ?_)
    refine sx_aload_n C0 dX3_send_46 rfl (lv_at hl 0 rfl) ?_
    refine sx_dup C0 dX3_send_47 rfl ?_
    refine gf_X3_21 C0 hk.1 dX3_send_48 ?_
    refine sx_aload_n C0 dX3_send_51 rfl (lv_at hl 1 rfl) ?_
    refine gf_X3_139 C0 h1.1 dX3_send_52 ?_
    refine sx_iload_n C0 dX3_send_55 rfl (lv_at hl 2 rfl) ?_
    refine sx_iald C0 h1.2.2.2.2.1 rfl dX3_send_56 (fun a56 => ?_)
    refine sx_iadd C0 dX3_send_57 ?_
    refine pf_X3_21 C0 hk.1 dX3_send_58 (fun S58 => ?_)
    refine sx_goto (tgt := 92) C0 dX3_send_61 (by decide) ?_
    exact sx_vret C0 rfl rfl trivial dX3_send_92
def mX3_send (S : vS) (k : Nat) (k1 : Nat) (v2 : Int32) : Option vS := ((gI (S.1 (k1 + 1)) 4 v2).bind fun a5 => (if a5 = (5 : Int32) then (if (mX3_wasEverFed S k v2) = 0 then (some S) else (bX3_send_19 k k1 S v2)) else (bX3_send_19 k k1 S v2)))
set_option maxHeartbeats 4000000 in
set_option maxRecDepth 100000 in
theorem c_X3_send {l : Launch} {D : va_G} {cA : Nat → ClassId} {ad : Nat → Nat} {kl : Nat} (G : Gx shC ad (ExC ad kl)) (k : Nat) (hk : IsX3 k) (k1 : Nat) (h1 : IsX0 k1) (v2 : Int32) (S : vS) (r : vS) (hr : (mX3_send S k k1 v2) = some r) : Met l yX3_send (Cond.code yX3_send cX3_send 3 none :: ALL) rm_X3_send (Po D vwCl tlC shC cA ad (ExC ad kl) [.ref (ad k), .ref (ad k1), .int v2] S) (Qo D vwCl shC cA ad none r True) 0 0 (aw shC ad) := by
  refine Met.sx (M := (mX3_send S k k1 v2)) (rv := (fun _ => none : vS → Option Value)) (rs := fun S1 => S1) (B := fun _ => True) (by decide) ⟨rfl, rfl⟩ (Nat.le_of_ble_eq_true rfl) G (fun p e s m args below meth c C0 ls hl => ?_) hr
  have hl : lv_has ls 3 [(0, .ref (ad k)), (1, .ref (ad k1)), (2, .int v2)] := hl
  rw [mX3_send]
  refine sx_aload_n C0 dX3_send_0 rfl (lv_at hl 1 rfl) ?_
  refine gf_X3_111 C0 h1.1 dX3_send_1 ?_
  refine sx_iload_n C0 dX3_send_4 rfl (lv_at hl 2 rfl) ?_
  refine sx_iald C0 h1.2.1 rfl dX3_send_5 (fun a5 => ?_)
  refine sx_iconst (v := 5) C0 dX3_send_6 (by decide) ?_
  refine sx_icmp_ne (tgt := 19) C0 dX3_send_7 (by decide) (fun _ => ?_) (fun _ => ?_)
  · refine sx_aload_n C0 dX3_send_10 rfl (lv_at hl 0 rfl) ?_
    refine sx_iload_n C0 dX3_send_11 rfl (lv_at hl 2 rfl) ?_
    refine cv_X3_133 (As := [.int v2]) C0 (c_X3_wasEverFed C0.2.2.2.2.2.2.2.1 k hk v2 S) hk.1 ⟨rfl, rfl⟩ ⟨Nat.le_of_ble_eq_true rfl, Nat.le_of_ble_eq_true rfl⟩ rfl hl.1 (Nat.le_of_ble_eq_true rfl) rfl dX3_send_12 (fun hb12 => ?_)
    refine sx_if_ne (tgt := 19) C0 dX3_send_15 (by decide) (fun _ => ?_) (fun _ => ?_)
    · exact sx_vret C0 rfl rfl trivial dX3_send_18
    · exact bX3_send_19_t C0 k hk k1 h1 _ _ _ (lv_sub hl [0, 1, 2] rfl)
  · exact bX3_send_19_t C0 k hk k1 h1 _ _ _ (lv_sub hl [0, 1, 2] rfl)
abbrev rm_X3_sendAway : Room := { frames := 0, cells := 0, slots := 0, locals := 0 }
def mX3_sendAway (S : vS) (k : Nat) (v1 : Int32) : vS := (lt (wI S k 1 ((S.1 k 1) ||| ((1 : Int32) <<< (v1 &&& (31 : Int32))))) fun S9 => S9)
set_option maxHeartbeats 4000000 in
set_option maxRecDepth 100000 in
theorem c_X3_sendAway {l : Launch} {D : va_G} {cA : Nat → ClassId} {ad : Nat → Nat} {kl : Nat} (G : Gx shC ad (ExC ad kl)) (k : Nat) (hk : IsX3 k) (v1 : Int32) (S : vS) : Met l yX3_sendAway (Cond.code yX3_sendAway cX3_sendAway 2 none :: ALL) rm_X3_sendAway (Po D vwCl tlC shC cA ad (ExC ad kl) [.ref (ad k), .int v1] S) (Qo D vwCl shC cA ad none (mX3_sendAway S k v1) True) 0 0 (aw shC ad) := by
  refine Met.sx (M := some (mX3_sendAway S k v1)) (rv := (fun _ => none : vS → Option Value)) (rs := fun S1 => S1) (B := fun _ => True) (by decide) ⟨rfl, rfl⟩ (Nat.le_of_ble_eq_true rfl) G (fun p e s m args below meth c C0 ls hl => ?_) rfl
  have hl : lv_has ls 2 [(0, .ref (ad k)), (1, .int v1)] := hl
  rw [mX3_sendAway]
  refine sx_aload_n C0 dX3_sendAway_0 rfl (lv_at hl 0 rfl) ?_
  refine sx_dup C0 dX3_sendAway_1 rfl ?_
  refine gf_X3_15 C0 hk.1 dX3_sendAway_2 ?_
  refine sx_iconst (v := 1) C0 dX3_sendAway_5 (by decide) ?_
  refine sx_iload_n C0 dX3_sendAway_6 rfl (lv_at hl 1 rfl) ?_
  refine sx_ishl C0 dX3_sendAway_7 ?_
  refine sx_ior C0 dX3_sendAway_8 ?_
  refine pfs_X3_15 C0 hk.1 dX3_sendAway_9 (fun S9 => ?_)
  exact sx_vret C0 rfl rfl trivial dX3_sendAway_12
abbrev rm_X3_spendDay : Room := { frames := 2, cells := 0, slots := 0, locals := 50 }
def bX3_spendDay_155 (k : Nat) (k1 : Nat)   (S : vS)   : Option vS := (lt (wI S k 0 ((S.1 k 0) + (1 : Int32))) fun S162 => (some S162))
set_option maxHeartbeats 4000000 in
set_option maxRecDepth 100000 in
theorem bX3_spendDay_155_t {p : Program} {l : Launch} {e : Env} {s : State} {m : MethodId} {args : Array Value} {below : List Frame} {meth : Method} {c : Code} {D : va_G} {cA : Nat → ClassId} {ad : Nat → Nat} {kl : Nat}   (C0 : Cx D vwCl tlC shC cA ad (ExC ad kl) RX3 cX3_spendDay 7 none p s m args meth c) (k : Nat) (hk : IsX3 k) (k1 : Nat) (h1 : IsX0 k1) (S : vS)  (ls : Array Slot) (hl : lv_has ls 7 [(0, .ref (ad k))]) : SW p l e rm_X3_spendDay s m args below meth c D vwCl shC cA ad (Fq D vwCl shC cA ad below args s (fun _ => none : vS → Option Value) (fun S1 => S1) (fun _ => True)) (bX3_spendDay_155 k k1 S) S 155 ls [] := by
  rw [bX3_spendDay_155]
  refine sx_aload_n C0 dX3_spendDay_155 rfl (lv_at hl 0 rfl) ?_
  refine sx_dup C0 dX3_spendDay_156 rfl ?_
  refine gf_X3_9 C0 hk.1 dX3_spendDay_157 ?_
  refine sx_iconst (v := 1) C0 dX3_spendDay_160 (by decide) ?_
  refine sx_iadd C0 dX3_spendDay_161 ?_
  refine pf_X3_9 C0 hk.1 dX3_spendDay_162 (fun S162 => ?_)
  exact sx_vret C0 rfl rfl trivial dX3_spendDay_165
def lX3_spendDay_63 (k : Nat) (k1 : Nat)   (v4 : Int32) (v5 : Int32) : Nat → vS → Int32 → Option vS
  | 0, _, _ => none
  | n + 1, S, v6 => (if (S.1 k1 0) ≤ v6 then (bX3_spendDay_155 k k1 S) else ((pI S (k + 3) 4 v6 (0 : Int32)).bind fun S79 => (if ((v5 >>> (v6 &&& (31 : Int32))) &&& (1 : Int32)) = 0 then ((lX3_spendDay_63 k k1 v4 v5 n) S79 (v6 + (1 : Int32))) else ((mX3_hungerAfter S79 k k1 v6 v4).bind fun a105 => ((pI S79 (k + 2) 4 v6 a105).bind fun S108 => ((mX3_send S108 k k1 v6).bind fun S113 => ((gI (S113.1 (k1 + 1)) 4 v6).bind fun a122 => (if a122 = (4 : Int32) then ((gI (S113.1 (k + 2)) 4 v6).bind fun a133 => ((mX0_leavingHunger S113 k1 v6).bind fun a137 => (if a133 < a137 then ((lX3_spendDay_63 k k1 v4 v5 n) S113 (v6 + (1 : Int32))) else (lt (mX3_sendAway S113 k v6) fun S146 => ((lX3_spendDay_63 k k1 v4 v5 n) S146 (v6 + (1 : Int32))))))) else ((lX3_spendDay_63 k k1 v4 v5 n) S113 (v6 + (1 : Int32)))))))))))
set_option maxHeartbeats 4000000 in
set_option maxRecDepth 100000 in
theorem lX3_spendDay_63_t {p : Program} {l : Launch} {e : Env} {s : State} {m : MethodId} {args : Array Value} {below : List Frame} {meth : Method} {c : Code} {D : va_G} {cA : Nat → ClassId} {ad : Nat → Nat} {kl : Nat}   (C0 : Cx D vwCl tlC shC cA ad (ExC ad kl) RX3 cX3_spendDay 7 none p s m args meth c) (k : Nat) (hk : IsX3 k) (k1 : Nat) (h1 : IsX0 k1)  (v4 : Int32) (v5 : Int32)  : ∀ (n : Nat) (S : vS) (v6 : Int32) (ls : Array Slot), lv_has ls 7 [(0, .ref (ad k)), (1, .ref (ad k1)), (4, .int v4), (5, .int v5), (6, .int v6)] → SW p l e rm_X3_spendDay s m args below meth c D vwCl shC cA ad (Fq D vwCl shC cA ad below args s (fun _ => none : vS → Option Value) (fun S1 => S1) (fun _ => True)) (lX3_spendDay_63 k k1 v4 v5 n S v6) S 63 ls [] := by
  intro n
  induction n with
  | zero =>
    intro S v6 ls hl
    rw [lX3_spendDay_63]
    exact sw_none
  | succ n ih =>
    intro S v6 ls hl
    rw [lX3_spendDay_63]
    refine sx_iload C0 dX3_spendDay_63 (lv_at hl 4 rfl) ?_
    refine sx_aload_n C0 dX3_spendDay_65 rfl (lv_at hl 1 rfl) ?_
    refine gf_X3_100 C0 h1.1 dX3_spendDay_66 ?_
    refine sx_icmp_ge (tgt := 155) C0 dX3_spendDay_69 (by decide) (fun _ => ?_) (fun _ => ?_)
    · exact bX3_spendDay_155_t C0 k hk k1 h1 _ _ (lv_sub hl [0] rfl)
    · refine sx_aload_n C0 dX3_spendDay_72 rfl (lv_at hl 0 rfl) ?_
      refine gf_X3_40 C0 hk.1 dX3_spendDay_73 ?_
      refine sx_iload C0 dX3_spendDay_76 (lv_at hl 4 rfl) ?_
      refine sx_iconst (v := 0) C0 dX3_spendDay_78 (by decide) ?_
      refine sx_iast C0 hk.2.2.2 rfl dX3_spendDay_79 (fun S79 => ?_)
      refine sx_iload C0 dX3_spendDay_80 (lv_at hl 3 rfl) ?_
      refine sx_iload C0 dX3_spendDay_82 (lv_at hl 4 rfl) ?_
      refine sx_ishr C0 dX3_spendDay_84 ?_
      refine sx_iconst (v := 1) C0 dX3_spendDay_85 (by decide) ?_
      refine sx_iand C0 dX3_spendDay_86 ?_
      refine sx_if_ne (tgt := 93) C0 dX3_spendDay_87 (by decide) (fun _ => ?_) (fun _ => ?_)
      · refine sx_goto (tgt := 149) C0 dX3_spendDay_90 (by decide) ?_
        refine sx_iinc (v := (v6 + (1 : Int32))) (lv' := [(6, .int (v6 + (1 : Int32))), (0, .ref (ad k)), (1, .ref (ad k1)), (4, .int v4), (5, .int v5)]) C0 dX3_spendDay_149 hl (k := 4) rfl rfl (by decide) rfl (fun ls hl => ?_)
        refine sx_goto (tgt := 63) C0 dX3_spendDay_152 (by decide) ?_
        exact ih _ _ _ (lv_sub hl [1, 2, 3, 4, 0] rfl)
      · refine sx_aload_n C0 dX3_spendDay_93 rfl (lv_at hl 0 rfl) ?_
        refine gf_X3_34 C0 hk.1 dX3_spendDay_94 ?_
        refine sx_iload C0 dX3_spendDay_97 (lv_at hl 4 rfl) ?_
        refine sx_aload_n C0 dX3_spendDay_99 rfl (lv_at hl 0 rfl) ?_
        refine sx_aload_n C0 dX3_spendDay_100 rfl (lv_at hl 1 rfl) ?_
        refine sx_iload C0 dX3_spendDay_101 (lv_at hl 4 rfl) ?_
        refine sx_iload C0 dX3_spendDay_103 (lv_at hl 2 rfl) ?_
        refine sw_bind (fun a105 e105 => ?_)
        refine cv_X3_103 (As := [.ref (ad k1), .int v6, .int v4]) C0 (c_X3_hungerAfter C0.2.2.2.2.2.2.2.1 k hk k1 h1 v6 v4 S79 _ e105) hk.1 ⟨rfl, rfl⟩ ⟨Nat.le_of_ble_eq_true rfl, Nat.le_of_ble_eq_true rfl⟩ rfl hl.1 (Nat.le_of_ble_eq_true rfl) rfl dX3_spendDay_105 (fun _ => ?_)
        refine sx_iast C0 hk.2.2.1 rfl dX3_spendDay_108 (fun S108 => ?_)
        refine sx_aload_n C0 dX3_spendDay_109 rfl (lv_at hl 0 rfl) ?_
        refine sx_aload_n C0 dX3_spendDay_110 rfl (lv_at hl 1 rfl) ?_
        refine sx_iload C0 dX3_spendDay_111 (lv_at hl 4 rfl) ?_
        refine sw_bind (fun S113 e113 => ?_)
        refine cv_X3_107 (As := [.ref (ad k1), .int v6]) C0 (c_X3_send C0.2.2.2.2.2.2.2.1 k hk k1 h1 v6 S108 _ e113) hk.1 ⟨rfl, rfl⟩ ⟨Nat.le_of_ble_eq_true rfl, Nat.le_of_ble_eq_true rfl⟩ rfl hl.1 (Nat.le_of_ble_eq_true rfl) rfl dX3_spendDay_113 (fun _ => ?_)
        refine sx_aload_n C0 dX3_spendDay_116 rfl (lv_at hl 1 rfl) ?_
        refine gf_X3_111 C0 h1.1 dX3_spendDay_117 ?_
        refine sx_iload C0 dX3_spendDay_120 (lv_at hl 4 rfl) ?_
        refine sx_iald C0 h1.2.1 rfl dX3_spendDay_122 (fun a122 => ?_)
        refine sx_iconst (v := 4) C0 dX3_spendDay_123 (by decide) ?_
        refine sx_icmp_ne (tgt := 149) C0 dX3_spendDay_124 (by decide) (fun _ => ?_) (fun _ => ?_)
        · refine sx_aload_n C0 dX3_spendDay_127 rfl (lv_at hl 0 rfl) ?_
          refine gf_X3_34 C0 hk.1 dX3_spendDay_128 ?_
          refine sx_iload C0 dX3_spendDay_131 (lv_at hl 4 rfl) ?_
          refine sx_iald C0 hk.2.2.1 rfl dX3_spendDay_133 (fun a133 => ?_)
          refine sx_aload_n C0 dX3_spendDay_134 rfl (lv_at hl 1 rfl) ?_
          refine sx_iload C0 dX3_spendDay_135 (lv_at hl 4 rfl) ?_
          refine sw_bind (fun a137 e137 => ?_)
          refine cv_X3_114 (As := [.int v6]) C0 (c_X0_leavingHunger C0.2.2.2.2.2.2.2.1 k1 h1 v6 S113 _ e137) h1.1 ⟨rfl, rfl⟩ ⟨Nat.le_of_ble_eq_true rfl, Nat.le_of_ble_eq_true rfl⟩ rfl hl.1 (Nat.le_of_ble_eq_true rfl) rfl dX3_spendDay_137 (fun _ => ?_)
          refine sx_icmp_lt (tgt := 149) C0 dX3_spendDay_140 (by decide) (fun _ => ?_) (fun _ => ?_)
          · refine sx_iinc (v := (v6 + (1 : Int32))) (lv' := [(6, .int (v6 + (1 : Int32))), (0, .ref (ad k)), (1, .ref (ad k1)), (4, .int v4), (5, .int v5)]) C0 dX3_spendDay_149 hl (k := 4) rfl rfl (by decide) rfl (fun ls hl => ?_)
            refine sx_goto (tgt := 63) C0 dX3_spendDay_152 (by decide) ?_
            exact ih _ _ _ (lv_sub hl [1, 2, 3, 4, 0] rfl)
          · refine sx_aload_n C0 dX3_spendDay_143 rfl (lv_at hl 0 rfl) ?_
            refine sx_iload C0 dX3_spendDay_144 (lv_at hl 4 rfl) ?_
            refine cv_X3_117 (As := [.int v6]) C0 (c_X3_sendAway C0.2.2.2.2.2.2.2.1 k hk v6 S113) hk.1 ⟨rfl, rfl⟩ ⟨Nat.le_of_ble_eq_true rfl, Nat.le_of_ble_eq_true rfl⟩ rfl hl.1 (Nat.le_of_ble_eq_true rfl) rfl dX3_spendDay_146 (fun _ => ?_)
            refine sw_ltS (fun S146 => ?_)
            refine sx_iinc (v := (v6 + (1 : Int32))) (lv' := [(6, .int (v6 + (1 : Int32))), (0, .ref (ad k)), (1, .ref (ad k1)), (4, .int v4), (5, .int v5)]) C0 dX3_spendDay_149 hl (k := 4) rfl rfl (by decide) rfl (fun ls hl => ?_)
            refine sx_goto (tgt := 63) C0 dX3_spendDay_152 (by decide) ?_
            exact ih _ _ _ (lv_sub hl [1, 2, 3, 4, 0] rfl)
        · refine sx_iinc (v := (v6 + (1 : Int32))) (lv' := [(6, .int (v6 + (1 : Int32))), (0, .ref (ad k)), (1, .ref (ad k1)), (4, .int v4), (5, .int v5)]) C0 dX3_spendDay_149 hl (k := 4) rfl rfl (by decide) rfl (fun ls hl => ?_)
          refine sx_goto (tgt := 63) C0 dX3_spendDay_152 (by decide) ?_
          exact ih _ _ _ (lv_sub hl [1, 2, 3, 4, 0] rfl)
def mX3_spendDay (S : vS) (k : Nat) (k1 : Nat) (v2 : Int32) (v3 : Int32) : Option vS := (lt (mxI (0 : Int32) (v2 - v2 / (3 : Int32) * (3 : Int32))) fun v4_7 => (lt (mX3_awake S k k1) fun v5_14 => ((mX3_fedBy S k k1 v2).bind fun a20 => (lt (wI S k 8 a20) fun S23 => ((gI (S23.1 (k + 1)) 3 v4_7).bind fun a33 => ((pI S23 (k + 1) 3 v4_7 (a33 - v3)).bind fun S36 => (lt (wI S36 k 5 ((S36.1 k 5) + v3)) fun S44 => (lt (wI S44 k 2 ((S44.1 k 2) ||| (S44.1 k 8))) fun S57 => (lX3_spendDay_63 k k1 v4_7 v5_14 FU S57 (0 : Int32))))))))))
set_option maxHeartbeats 4000000 in
set_option maxRecDepth 100000 in
theorem c_X3_spendDay {l : Launch} {D : va_G} {cA : Nat → ClassId} {ad : Nat → Nat} {kl : Nat} (G : Gx shC ad (ExC ad kl)) (k : Nat) (hk : IsX3 k) (k1 : Nat) (h1 : IsX0 k1) (v2 : Int32) (v3 : Int32) (S : vS) (r : vS) (hr : (mX3_spendDay S k k1 v2 v3) = some r) : Met l yX3_spendDay (Cond.code yX3_spendDay cX3_spendDay 7 none :: ALL) rm_X3_spendDay (Po D vwCl tlC shC cA ad (ExC ad kl) [.ref (ad k), .ref (ad k1), .int v2, .int v3] S) (Qo D vwCl shC cA ad none r True) 0 0 (aw shC ad) := by
  refine Met.sx (M := (mX3_spendDay S k k1 v2 v3)) (rv := (fun _ => none : vS → Option Value)) (rs := fun S1 => S1) (B := fun _ => True) (by decide) ⟨rfl, rfl⟩ (Nat.le_of_ble_eq_true rfl) G (fun p e s m args below meth c C0 ls hl => ?_) hr
  have hl : lv_has ls 7 [(0, .ref (ad k)), (1, .ref (ad k1)), (2, .int v2), (3, .int v3)] := hl
  rw [mX3_spendDay]
  refine sx_iconst (v := 0) C0 dX3_spendDay_0 (by decide) ?_
  refine sx_iload_n C0 dX3_spendDay_1 rfl (lv_at hl 2 rfl) ?_
  refine sx_iconst (v := 3) C0 dX3_spendDay_2 (by decide) ?_
  refine sx_irem C0 dX3_spendDay_3 (by decide) ?_
  refine sx_mmax C0 wm_X3_94 hl.1 ⟨Nat.le_of_ble_eq_true rfl, Nat.le_of_ble_eq_true rfl⟩ dX3_spendDay_4 ?_
  refine sw_lt (val := .int) (fun v4_7 => ?_)
  refine sx_istore (lv' := [(4, .int v4_7), (0, .ref (ad k)), (1, .ref (ad k1)), (2, .int v2), (3, .int v3)]) C0 dX3_spendDay_7 hl (by decide) rfl (fun ls hl => ?_)
  refine sx_aload_n C0 dX3_spendDay_9 rfl (lv_at hl 1 rfl) ?_
  refine sx_aload_n C0 dX3_spendDay_10 rfl (lv_at hl 2 rfl) ?_
  refine cv_X3_70 (As := [.ref (ad k1)]) C0 (c_X3_awake C0.2.2.2.2.2.2.2.1 k hk k1 h1 S) hk.1 ⟨rfl, rfl⟩ ⟨Nat.le_of_ble_eq_true rfl, Nat.le_of_ble_eq_true rfl⟩ rfl hl.1 (Nat.le_of_ble_eq_true rfl) rfl dX3_spendDay_11 (fun _ => ?_)
  refine sw_lt (val := .int) (fun v5_14 => ?_)
  refine sx_istore (lv' := [(5, .int v5_14), (4, .int v4_7), (0, .ref (ad k)), (1, .ref (ad k1)), (2, .int v2), (3, .int v3)]) C0 dX3_spendDay_14 hl (by decide) rfl (fun ls hl => ?_)
  refine sx_aload_n C0 dX3_spendDay_16 rfl (lv_at hl 2 rfl) ?_
  refine sx_aload_n C0 dX3_spendDay_17 rfl (lv_at hl 2 rfl) ?_
  refine sx_aload_n C0 dX3_spendDay_18 rfl (lv_at hl 3 rfl) ?_
  refine sx_iload_n C0 dX3_spendDay_19 rfl (lv_at hl 4 rfl) ?_
  refine sw_bind (fun a20 e20 => ?_)
  refine cv_X3_77 (As := [.ref (ad k1), .int v2]) C0 (c_X3_fedBy C0.2.2.2.2.2.2.2.1 k hk k1 h1 v2 S _ e20) hk.1 ⟨rfl, rfl⟩ ⟨Nat.le_of_ble_eq_true rfl, Nat.le_of_ble_eq_true rfl⟩ rfl hl.1 (Nat.le_of_ble_eq_true rfl) rfl dX3_spendDay_20 (fun _ => ?_)
  refine pf_X3_37 C0 hk.1 dX3_spendDay_23 (fun S23 => ?_)
  refine sx_aload_n C0 dX3_spendDay_26 rfl (lv_at hl 2 rfl) ?_
  refine gf_X3_30 C0 hk.1 dX3_spendDay_27 ?_
  refine sx_iload C0 dX3_spendDay_30 (lv_at hl 1 rfl) ?_
  refine sx_dup2 C0 dX3_spendDay_32 rfl rfl ?_
  refine sx_iald C0 hk.2.1 rfl dX3_spendDay_33 (fun a33 => ?_)
  refine sx_iload_n C0 dX3_spendDay_34 rfl (lv_at hl 5 rfl) ?_
  refine sx_isub C0 dX3_spendDay_35 ?_
  refine sx_iast C0 hk.2.1 rfl dX3_spendDay_36 (fun S36 => ?_)
  refine sx_aload_n C0 dX3_spendDay_37 rfl (lv_at hl 2 rfl) ?_
  refine sx_dup C0 dX3_spendDay_38 rfl ?_
  refine gf_X3_27 C0 hk.1 dX3_spendDay_39 ?_
  refine sx_iload_n C0 dX3_spendDay_42 rfl (lv_at hl 5 rfl) ?_
  refine sx_iadd C0 dX3_spendDay_43 ?_
  refine pf_X3_27 C0 hk.1 dX3_spendDay_44 (fun S44 => ?_)
  refine sx_aload_n C0 dX3_spendDay_47 rfl (lv_at hl 2 rfl) ?_
  refine sx_dup C0 dX3_spendDay_48 rfl ?_
  refine gf_X3_18 C0 hk.1 dX3_spendDay_49 ?_
  refine sx_aload_n C0 dX3_spendDay_52 rfl (lv_at hl 2 rfl) ?_
  refine gf_X3_37 C0 hk.1 dX3_spendDay_53 ?_
  refine sx_ior C0 dX3_spendDay_56 ?_
  refine pf_X3_18 C0 hk.1 dX3_spendDay_57 (fun S57 => ?_)
  refine sx_iconst (v := 0) C0 dX3_spendDay_60 (by decide) ?_
  refine sx_istore (lv' := [(6, .int (0 : Int32)), (5, .int v5_14), (4, .int v4_7), (0, .ref (ad k)), (1, .ref (ad k1)), (2, .int v2), (3, .int v3)]) C0 dX3_spendDay_61 hl (by decide) rfl (fun ls hl => ?_)
  exact lX3_spendDay_63_t C0 k hk k1 h1 _ _ _ _ _ _ (lv_sub hl [3, 4, 2, 1, 0] rfl)
abbrev rm_X3_sentBy : Room := { frames := 0, cells := 0, slots := 0, locals := 0 }
def lX3_sentBy_4 (k : Nat) (S : vS)  (v1 : Int32) : Nat → Int32 → Int32 → Option Int32
  | 0, _, _ => none
  | n + 1, v2, v3 => (if (4 : Int32) ≤ v3 then (some v2) else (if ((v1 >>> (v3 &&& (31 : Int32))) &&& (1 : Int32)) = 0 then ((lX3_sentBy_4 k S v1 n) v2 (v3 + (1 : Int32))) else ((gI (S.1 (k + 3)) 4 v3).bind fun a23 => (lt (v2 + a23) fun v2_25 => ((lX3_sentBy_4 k S v1 n) v2_25 (v3 + (1 : Int32)))))))
set_option maxHeartbeats 4000000 in
set_option maxRecDepth 100000 in
theorem lX3_sentBy_4_t {p : Program} {l : Launch} {e : Env} {s : State} {m : MethodId} {args : Array Value} {below : List Frame} {meth : Method} {c : Code} {D : va_G} {cA : Nat → ClassId} {ad : Nat → Nat} {kl : Nat}   (C0 : Cx D vwCl tlC shC cA ad (ExC ad kl) RX3 cX3_sentBy 4 (some .int) p s m args meth c) (k : Nat) (hk : IsX3 k) (S : vS) (v1 : Int32)  : ∀ (n : Nat) (v2 : Int32) (v3 : Int32) (ls : Array Slot), lv_has ls 4 [(0, .ref (ad k)), (1, .int v1), (2, .int v2), (3, .int v3)] → SW p l e rm_X3_sentBy s m args below meth c D vwCl shC cA ad (Fq D vwCl shC cA ad below args s (fun r => some (.int r) : Int32 → Option Value) (fun _ => S) (fun _ => True)) (lX3_sentBy_4 k S v1 n v2 v3) S 4 ls [] := by
  intro n
  induction n with
  | zero =>
    intro v2 v3 ls hl
    rw [lX3_sentBy_4]
    exact sw_none
  | succ n ih =>
    intro v2 v3 ls hl
    rw [lX3_sentBy_4]
    refine sx_iload_n C0 dX3_sentBy_4 rfl (lv_at hl 3 rfl) ?_
    refine sx_iconst (v := 4) C0 dX3_sentBy_5 (by decide) ?_
    refine sx_icmp_ge (tgt := 32) C0 dX3_sentBy_6 (by decide) (fun _ => ?_) (fun _ => ?_)
    · refine sx_iload_n C0 dX3_sentBy_32 rfl (lv_at hl 2 rfl) ?_
      exact sx_iret C0 rfl rfl trivial dX3_sentBy_33
    · refine sx_iload_n C0 dX3_sentBy_9 rfl (lv_at hl 1 rfl) ?_
      refine sx_iload_n C0 dX3_sentBy_10 rfl (lv_at hl 3 rfl) ?_
      refine sx_ishr C0 dX3_sentBy_11 ?_
      refine sx_iconst (v := 1) C0 dX3_sentBy_12 (by decide) ?_
      refine sx_iand C0 dX3_sentBy_13 ?_
      refine sx_if_eq (tgt := 26) C0 dX3_sentBy_14 (by decide) (fun _ => ?_) (fun _ => ?_)
      · refine sx_iinc (v := (v3 + (1 : Int32))) (lv' := [(3, .int (v3 + (1 : Int32))), (0, .ref (ad k)), (1, .int v1), (2, .int v2)]) C0 dX3_sentBy_26 hl (k := 3) rfl rfl (by decide) rfl (fun ls hl => ?_)
        refine sx_goto (tgt := 4) C0 dX3_sentBy_29 (by decide) ?_
        exact ih _ _ _ (lv_sub hl [1, 2, 3, 0] rfl)
      · refine sx_iload_n C0 dX3_sentBy_17 rfl (lv_at hl 2 rfl) ?_
        refine sx_aload_n C0 dX3_sentBy_18 rfl (lv_at hl 0 rfl) ?_
        refine gf_X3_40 C0 hk.1 dX3_sentBy_19 ?_
        refine sx_iload_n C0 dX3_sentBy_22 rfl (lv_at hl 3 rfl) ?_
        refine sx_iald C0 hk.2.2.2 rfl dX3_sentBy_23 (fun a23 => ?_)
        refine sx_iadd C0 dX3_sentBy_24 ?_
        refine sw_lt (val := .int) (fun v2_25 => ?_)
        refine sx_istore_n (lv' := [(2, .int v2_25), (0, .ref (ad k)), (1, .int v1), (3, .int v3)]) C0 dX3_sentBy_25 rfl hl (by decide) rfl (fun ls hl => ?_)
        refine sx_iinc (v := (v3 + (1 : Int32))) (lv' := [(3, .int (v3 + (1 : Int32))), (2, .int v2_25), (0, .ref (ad k)), (1, .int v1)]) C0 dX3_sentBy_26 hl (k := 3) rfl rfl (by decide) rfl (fun ls hl => ?_)
        refine sx_goto (tgt := 4) C0 dX3_sentBy_29 (by decide) ?_
        exact ih _ _ _ (lv_sub hl [2, 3, 1, 0] rfl)
def mX3_sentBy (S : vS) (k : Nat) (v1 : Int32) : Option Int32 := (lX3_sentBy_4 k S v1 FU (0 : Int32) (0 : Int32))
set_option maxHeartbeats 4000000 in
set_option maxRecDepth 100000 in
theorem c_X3_sentBy {l : Launch} {D : va_G} {cA : Nat → ClassId} {ad : Nat → Nat} {kl : Nat} (G : Gx shC ad (ExC ad kl)) (k : Nat) (hk : IsX3 k) (v1 : Int32) (S : vS) (r : Int32) (hr : (mX3_sentBy S k v1) = some r) : Met l yX3_sentBy (Cond.code yX3_sentBy cX3_sentBy 4 (some .int) :: ALL) rm_X3_sentBy (Po D vwCl tlC shC cA ad (ExC ad kl) [.ref (ad k), .int v1] S) (Qo D vwCl shC cA ad (some (.int r)) S True) 0 0 (aw shC ad) := by
  refine Met.sx (M := (mX3_sentBy S k v1)) (rv := (fun r => some (.int r) : Int32 → Option Value)) (rs := fun _ => S) (B := fun _ => True) (by decide) ⟨rfl, rfl⟩ (Nat.le_of_ble_eq_true rfl) G (fun p e s m args below meth c C0 ls hl => ?_) hr
  have hl : lv_has ls 4 [(0, .ref (ad k)), (1, .int v1)] := hl
  rw [mX3_sentBy]
  refine sx_iconst (v := 0) C0 dX3_sentBy_0 (by decide) ?_
  refine sx_istore_n (lv' := [(2, .int (0 : Int32)), (0, .ref (ad k)), (1, .int v1)]) C0 dX3_sentBy_1 rfl hl (by decide) rfl (fun ls hl => ?_)
  refine sx_iconst (v := 0) C0 dX3_sentBy_2 (by decide) ?_
  refine sx_istore_n (lv' := [(3, .int (0 : Int32)), (2, .int (0 : Int32)), (0, .ref (ad k)), (1, .int v1)]) C0 dX3_sentBy_3 rfl hl (by decide) rfl (fun ls hl => ?_)
  exact lX3_sentBy_4_t C0 k hk _ _ _ _ _ _ (lv_sub hl [2, 3, 1, 0] rfl)
abbrev rm_X4_has : Room := { frames := 0, cells := 0, slots := 0, locals := 0 }
def bX4_has_17 (k z : Nat)   (S : vS)   : Int32 := (0 : Int32)
set_option maxHeartbeats 4000000 in
set_option maxRecDepth 100000 in
theorem bX4_has_17_t {p : Program} {l : Launch} {e : Env} {s : State} {m : MethodId} {args : Array Value} {below : List Frame} {meth : Method} {c : Code} {D : va_G} {cA : Nat → ClassId} {ad : Nat → Nat} {kl : Nat}   (C0 : Cx D vwCl tlC shC cA ad (ExC ad kl) RX4 cX4_has 2 (some .boolean) p s m args meth c) (k z : Nat) (hk : IsX4 k z) (S : vS)  (ls : Array Slot) (hl : lv_has ls 2 []) : SW p l e rm_X4_has s m args below meth c D vwCl shC cA ad (Fq D vwCl shC cA ad below args s (fun r => some (.int r) : Int32 → Option Value) (fun _ => S) (fun r => isB r)) (some (bX4_has_17 k z S)) S 17 ls [] := by
  rw [bX4_has_17]
  refine sx_iconst (v := 0) C0 dX4_has_17 (by decide) ?_
  exact sx_zret C0 rfl rfl (Or.inl rfl) (Or.inl rfl) dX4_has_18
def mX4_has (S : vS) (k z : Nat) (v1 : Int32) : Int32 := (if v1 < 0 then (bX4_has_17 k z S) else (if (Int32.ofNat z) ≤ v1 then (bX4_has_17 k z S) else (1 : Int32)))
set_option maxHeartbeats 4000000 in
set_option maxRecDepth 100000 in
theorem c_X4_has {l : Launch} {D : va_G} {cA : Nat → ClassId} {ad : Nat → Nat} {kl : Nat} (G : Gx shC ad (ExC ad kl)) (k z : Nat) (hk : IsX4 k z) (v1 : Int32) (S : vS) : Met l yX4_has (Cond.code yX4_has cX4_has 2 (some .boolean) :: ALL) rm_X4_has (Po D vwCl tlC shC cA ad (ExC ad kl) [.ref (ad k), .int v1] S) (Qo D vwCl shC cA ad (some (.int (mX4_has S k z v1))) S (isB (mX4_has S k z v1))) 0 0 (aw shC ad) := by
  refine Met.sx (M := some (mX4_has S k z v1)) (rv := (fun r => some (.int r) : Int32 → Option Value)) (rs := fun _ => S) (B := fun r => isB r) (by decide) ⟨rfl, rfl⟩ (Nat.le_of_ble_eq_true rfl) G (fun p e s m args below meth c C0 ls hl => ?_) rfl
  have hl : lv_has ls 2 [(0, .ref (ad k)), (1, .int v1)] := hl
  rw [mX4_has]
  refine sx_iload_n C0 dX4_has_0 rfl (lv_at hl 1 rfl) ?_
  refine sx_if_lts (tgt := 17) C0 dX4_has_1 (by decide) (fun _ => ?_) (fun _ => ?_)
  · exact bX4_has_17_t C0 k z hk _ _ (lv_sub hl [] rfl)
  · refine sx_iload_n C0 dX4_has_4 rfl (lv_at hl 1 rfl) ?_
    refine sx_aload_n C0 dX4_has_5 rfl (lv_at hl 0 rfl) ?_
    refine gf_X4_15 C0 hk.1 dX4_has_6 ?_
    refine sx_alen (v := (Int32.ofNat z)) C0 hk.2.2.1 rfl rfl dX4_has_9 ?_
    refine sx_icmp_ges (tgt := 17) C0 dX4_has_10 (by decide) (fun _ => ?_) (fun _ => ?_)
    · exact bX4_has_17_t C0 k z hk _ _ (lv_sub hl [] rfl)
    · refine sx_iconst (v := 1) C0 dX4_has_13 (by decide) ?_
      refine sx_goto (tgt := 18) C0 dX4_has_14 (by decide) ?_
      exact sx_zret C0 rfl rfl (Or.inr rfl) (Or.inr rfl) dX4_has_18
abbrev rm_X4_isThere : Room := { frames := 1, cells := 0, slots := 0, locals := 21 }
def bX4_isThere_22 (k z : Nat)   (S : vS)   : Option Int32 := (some (0 : Int32))
set_option maxHeartbeats 4000000 in
set_option maxRecDepth 100000 in
theorem bX4_isThere_22_t {p : Program} {l : Launch} {e : Env} {s : State} {m : MethodId} {args : Array Value} {below : List Frame} {meth : Method} {c : Code} {D : va_G} {cA : Nat → ClassId} {ad : Nat → Nat} {kl : Nat}   (C0 : Cx D vwCl tlC shC cA ad (ExC ad kl) RX4 cX4_isThere 2 (some .boolean) p s m args meth c) (k z : Nat) (hk : IsX4 k z) (S : vS)  (ls : Array Slot) (hl : lv_has ls 2 []) : SW p l e rm_X4_isThere s m args below meth c D vwCl shC cA ad (Fq D vwCl shC cA ad below args s (fun r => some (.int r) : Int32 → Option Value) (fun _ => S) (fun r => isB r)) (bX4_isThere_22 k z S) S 22 ls [] := by
  rw [bX4_isThere_22]
  refine sx_iconst (v := 0) C0 dX4_isThere_22 (by decide) ?_
  exact sx_zret C0 rfl rfl (Or.inl rfl) (Or.inl rfl) dX4_isThere_23
def mX4_isThere (S : vS) (k z : Nat) (v1 : Int32) : Option Int32 := (if (mX4_has S k z v1) = 0 then (bX4_isThere_22 k z S) else ((gI (S.1 (k + 2 + z)) z v1).bind fun a13 => (if a13 = (-1 : Int32) then (bX4_isThere_22 k z S) else (some (1 : Int32)))))
set_option maxHeartbeats 4000000 in
set_option maxRecDepth 100000 in
theorem c_X4_isThere {l : Launch} {D : va_G} {cA : Nat → ClassId} {ad : Nat → Nat} {kl : Nat} (G : Gx shC ad (ExC ad kl)) (k z : Nat) (hk : IsX4 k z) (v1 : Int32) (S : vS) (r : Int32) (hr : (mX4_isThere S k z v1) = some r) : Met l yX4_isThere (Cond.code yX4_isThere cX4_isThere 2 (some .boolean) :: ALL) rm_X4_isThere (Po D vwCl tlC shC cA ad (ExC ad kl) [.ref (ad k), .int v1] S) (Qo D vwCl shC cA ad (some (.int r)) S (isB r)) 0 0 (aw shC ad) := by
  refine Met.sx (M := (mX4_isThere S k z v1)) (rv := (fun r => some (.int r) : Int32 → Option Value)) (rs := fun _ => S) (B := fun r => isB r) (by decide) ⟨rfl, rfl⟩ (Nat.le_of_ble_eq_true rfl) G (fun p e s m args below meth c C0 ls hl => ?_) hr
  have hl : lv_has ls 2 [(0, .ref (ad k)), (1, .int v1)] := hl
  rw [mX4_isThere]
  refine sx_aload_n C0 dX4_isThere_0 rfl (lv_at hl 0 rfl) ?_
  refine sx_iload_n C0 dX4_isThere_1 rfl (lv_at hl 1 rfl) ?_
  refine cv_X4_25 (As := [.int v1]) C0 (c_X4_has C0.2.2.2.2.2.2.2.1 k z hk v1 S) hk.1 ⟨rfl, rfl⟩ ⟨Nat.le_of_ble_eq_true rfl, Nat.le_of_ble_eq_true rfl⟩ rfl hl.1 (Nat.le_of_ble_eq_true rfl) rfl dX4_isThere_2 (fun hb2 => ?_)
  refine sx_if_eq (tgt := 22) C0 dX4_isThere_5 (by decide) (fun _ => ?_) (fun _ => ?_)
  · exact bX4_isThere_22_t C0 k z hk _ _ (lv_sub hl [] rfl)
  · refine sx_aload_n C0 dX4_isThere_8 rfl (lv_at hl 0 rfl) ?_
    refine gf_X4_15 C0 hk.1 dX4_isThere_9 ?_
    refine sx_iload_n C0 dX4_isThere_12 rfl (lv_at hl 1 rfl) ?_
    refine sx_iald C0 hk.2.2.1 rfl dX4_isThere_13 (fun a13 => ?_)
    refine sx_iconst (v := (-1)) C0 dX4_isThere_14 (by decide) ?_
    refine sx_icmp_eq (tgt := 22) C0 dX4_isThere_15 (by decide) (fun _ => ?_) (fun _ => ?_)
    · exact bX4_isThere_22_t C0 k z hk _ _ (lv_sub hl [] rfl)
    · refine sx_iconst (v := 1) C0 dX4_isThere_18 (by decide) ?_
      refine sx_goto (tgt := 23) C0 dX4_isThere_19 (by decide) ?_
      exact sx_zret C0 rfl rfl (Or.inr rfl) (Or.inr rfl) dX4_isThere_23
abbrev rm_X4_size : Room := { frames := 2, cells := 0, slots := 0, locals := 42 }
def mX4_size (S : vS) (k z : Nat) (v1 : Int32) : Option Int32 := ((mX4_isThere S k z v1).bind fun a2 => (if a2 = 0 then (some (0 : Int32)) else ((gI (S.1 (k + 2 + z)) z v1).bind fun a13 => (some a13))))
set_option maxHeartbeats 4000000 in
set_option maxRecDepth 100000 in
theorem c_X4_size {l : Launch} {D : va_G} {cA : Nat → ClassId} {ad : Nat → Nat} {kl : Nat} (G : Gx shC ad (ExC ad kl)) (k z : Nat) (hk : IsX4 k z) (v1 : Int32) (S : vS) (r : Int32) (hr : (mX4_size S k z v1) = some r) : Met l yX4_size (Cond.code yX4_size cX4_size 2 (some .int) :: ALL) rm_X4_size (Po D vwCl tlC shC cA ad (ExC ad kl) [.ref (ad k), .int v1] S) (Qo D vwCl shC cA ad (some (.int r)) S True) 0 0 (aw shC ad) := by
  refine Met.sx (M := (mX4_size S k z v1)) (rv := (fun r => some (.int r) : Int32 → Option Value)) (rs := fun _ => S) (B := fun _ => True) (by decide) ⟨rfl, rfl⟩ (Nat.le_of_ble_eq_true rfl) G (fun p e s m args below meth c C0 ls hl => ?_) hr
  have hl : lv_has ls 2 [(0, .ref (ad k)), (1, .int v1)] := hl
  rw [mX4_size]
  refine sx_aload_n C0 dX4_size_0 rfl (lv_at hl 0 rfl) ?_
  refine sx_iload_n C0 dX4_size_1 rfl (lv_at hl 1 rfl) ?_
  refine sw_bind (fun a2 e2 => ?_)
  refine cv_X4_29 (As := [.int v1]) C0 (c_X4_isThere C0.2.2.2.2.2.2.2.1 k z hk v1 S _ e2) hk.1 ⟨rfl, rfl⟩ ⟨Nat.le_of_ble_eq_true rfl, Nat.le_of_ble_eq_true rfl⟩ rfl hl.1 (Nat.le_of_ble_eq_true rfl) rfl dX4_size_2 (fun hb2 => ?_)
  refine sx_if_eq (tgt := 17) C0 dX4_size_5 (by decide) (fun _ => ?_) (fun _ => ?_)
  · refine sx_iconst (v := 0) C0 dX4_size_17 (by decide) ?_
    exact sx_iret C0 rfl rfl trivial dX4_size_18
  · refine sx_aload_n C0 dX4_size_8 rfl (lv_at hl 0 rfl) ?_
    refine gf_X4_15 C0 hk.1 dX4_size_9 ?_
    refine sx_iload_n C0 dX4_size_12 rfl (lv_at hl 1 rfl) ?_
    refine sx_iald C0 hk.2.2.1 rfl dX4_size_13 (fun a13 => ?_)
    refine sx_goto (tgt := 18) C0 dX4_size_14 (by decide) ?_
    exact sx_iret C0 rfl rfl trivial dX4_size_18
abbrev rm_X4_holds : Room := { frames := 2, cells := 0, slots := 0, locals := 42 }
def bX4_holds_42 (k z : Nat)   (S : vS)   : Option Int32 := (some (0 : Int32))
set_option maxHeartbeats 4000000 in
set_option maxRecDepth 100000 in
theorem bX4_holds_42_t {p : Program} {l : Launch} {e : Env} {s : State} {m : MethodId} {args : Array Value} {below : List Frame} {meth : Method} {c : Code} {D : va_G} {cA : Nat → ClassId} {ad : Nat → Nat} {kl : Nat}   (C0 : Cx D vwCl tlC shC cA ad (ExC ad kl) RX4 cX4_holds 4 (some .boolean) p s m args meth c) (k z : Nat) (hk : IsX4 k z) (S : vS)  (ls : Array Slot) (hl : lv_has ls 4 []) : SW p l e rm_X4_holds s m args below meth c D vwCl shC cA ad (Fq D vwCl shC cA ad below args s (fun r => some (.int r) : Int32 → Option Value) (fun _ => S) (fun r => isB r)) (bX4_holds_42 k z S) S 42 ls [] := by
  rw [bX4_holds_42]
  refine sx_iconst (v := 0) C0 dX4_holds_42 (by decide) ?_
  exact sx_zret C0 rfl rfl (Or.inl rfl) (Or.inl rfl) dX4_holds_43
def mX4_holds (S : vS) (k z : Nat) (v1 : Int32) (v2 : Int32) (v3 : Int32) : Option Int32 := ((mX4_isThere S k z v1).bind fun a2 => (if a2 = 0 then (bX4_holds_42 k z S) else (if v2 < 0 then (bX4_holds_42 k z S) else ((gI (S.1 (k + 2 + z)) z v1).bind fun a18 => (if a18 < v2 then (bX4_holds_42 k z S) else (if v3 < 0 then (bX4_holds_42 k z S) else ((gI (S.1 (k + 2 + z)) z v1).bind fun a32 => (if (a32 - v2) < v3 then (bX4_holds_42 k z S) else (some (1 : Int32))))))))))
set_option maxHeartbeats 4000000 in
set_option maxRecDepth 100000 in
theorem c_X4_holds {l : Launch} {D : va_G} {cA : Nat → ClassId} {ad : Nat → Nat} {kl : Nat} (G : Gx shC ad (ExC ad kl)) (k z : Nat) (hk : IsX4 k z) (v1 : Int32) (v2 : Int32) (v3 : Int32) (S : vS) (r : Int32) (hr : (mX4_holds S k z v1 v2 v3) = some r) : Met l yX4_holds (Cond.code yX4_holds cX4_holds 4 (some .boolean) :: ALL) rm_X4_holds (Po D vwCl tlC shC cA ad (ExC ad kl) [.ref (ad k), .int v1, .int v2, .int v3] S) (Qo D vwCl shC cA ad (some (.int r)) S (isB r)) 0 0 (aw shC ad) := by
  refine Met.sx (M := (mX4_holds S k z v1 v2 v3)) (rv := (fun r => some (.int r) : Int32 → Option Value)) (rs := fun _ => S) (B := fun r => isB r) (by decide) ⟨rfl, rfl⟩ (Nat.le_of_ble_eq_true rfl) G (fun p e s m args below meth c C0 ls hl => ?_) hr
  have hl : lv_has ls 4 [(0, .ref (ad k)), (1, .int v1), (2, .int v2), (3, .int v3)] := hl
  rw [mX4_holds]
  refine sx_aload_n C0 dX4_holds_0 rfl (lv_at hl 0 rfl) ?_
  refine sx_iload_n C0 dX4_holds_1 rfl (lv_at hl 1 rfl) ?_
  refine sw_bind (fun a2 e2 => ?_)
  refine cv_X4_29 (As := [.int v1]) C0 (c_X4_isThere C0.2.2.2.2.2.2.2.1 k z hk v1 S _ e2) hk.1 ⟨rfl, rfl⟩ ⟨Nat.le_of_ble_eq_true rfl, Nat.le_of_ble_eq_true rfl⟩ rfl hl.1 (Nat.le_of_ble_eq_true rfl) rfl dX4_holds_2 (fun hb2 => ?_)
  refine sx_if_eq (tgt := 42) C0 dX4_holds_5 (by decide) (fun _ => ?_) (fun _ => ?_)
  · exact bX4_holds_42_t C0 k z hk _ _ (lv_sub hl [] rfl)
  · refine sx_iload_n C0 dX4_holds_8 rfl (lv_at hl 2 rfl) ?_
    refine sx_if_lt (tgt := 42) C0 dX4_holds_9 (by decide) (fun _ => ?_) (fun _ => ?_)
    · exact bX4_holds_42_t C0 k z hk _ _ (lv_sub hl [] rfl)
    · refine sx_iload_n C0 dX4_holds_12 rfl (lv_at hl 2 rfl) ?_
      refine sx_aload_n C0 dX4_holds_13 rfl (lv_at hl 0 rfl) ?_
      refine gf_X4_15 C0 hk.1 dX4_holds_14 ?_
      refine sx_iload_n C0 dX4_holds_17 rfl (lv_at hl 1 rfl) ?_
      refine sx_iald C0 hk.2.2.1 rfl dX4_holds_18 (fun a18 => ?_)
      refine sx_icmp_gt (tgt := 42) C0 dX4_holds_19 (by decide) (fun _ => ?_) (fun _ => ?_)
      · exact bX4_holds_42_t C0 k z hk _ _ (lv_sub hl [] rfl)
      · refine sx_iload_n C0 dX4_holds_22 rfl (lv_at hl 3 rfl) ?_
        refine sx_if_lt (tgt := 42) C0 dX4_holds_23 (by decide) (fun _ => ?_) (fun _ => ?_)
        · exact bX4_holds_42_t C0 k z hk _ _ (lv_sub hl [] rfl)
        · refine sx_iload_n C0 dX4_holds_26 rfl (lv_at hl 3 rfl) ?_
          refine sx_aload_n C0 dX4_holds_27 rfl (lv_at hl 0 rfl) ?_
          refine gf_X4_15 C0 hk.1 dX4_holds_28 ?_
          refine sx_iload_n C0 dX4_holds_31 rfl (lv_at hl 1 rfl) ?_
          refine sx_iald C0 hk.2.2.1 rfl dX4_holds_32 (fun a32 => ?_)
          refine sx_iload_n C0 dX4_holds_33 rfl (lv_at hl 2 rfl) ?_
          refine sx_isub C0 dX4_holds_34 ?_
          refine sx_icmp_gt (tgt := 42) C0 dX4_holds_35 (by decide) (fun _ => ?_) (fun _ => ?_)
          · exact bX4_holds_42_t C0 k z hk _ _ (lv_sub hl [] rfl)
          · refine sx_iconst (v := 1) C0 dX4_holds_38 (by decide) ?_
            refine sx_goto (tgt := 43) C0 dX4_holds_39 (by decide) ?_
            exact sx_zret C0 rfl rfl (Or.inr rfl) (Or.inr rfl) dX4_holds_43
abbrev rm_X4_read : Room := { frames := 3, cells := 0, slots := 0, locals := 65 }
def mX4_read (S : vS) (k z : Nat) (v1 : Int32) (v2 : Int32) : Option Int32 := ((mX4_holds S k z v1 v2 (1 : Int32)).bind fun a4 => (if a4 = 0 then (some (0 : Int32)) else ((aI (rwl k z) v1).bind fun x15 => ((gI (S.1 x15) 60 v2).bind fun a17 => (some a17)))))
set_option maxHeartbeats 4000000 in
set_option maxRecDepth 100000 in
theorem c_X4_read {l : Launch} {D : va_G} {cA : Nat → ClassId} {ad : Nat → Nat} {kl : Nat} (G : Gx shC ad (ExC ad kl)) (k z : Nat) (hk : IsX4 k z) (v1 : Int32) (v2 : Int32) (S : vS) (r : Int32) (hr : (mX4_read S k z v1 v2) = some r) : Met l yX4_read (Cond.code yX4_read cX4_read 3 (some .int) :: ALL) rm_X4_read (Po D vwCl tlC shC cA ad (ExC ad kl) [.ref (ad k), .int v1, .int v2] S) (Qo D vwCl shC cA ad (some (.int r)) S True) 0 0 (aw shC ad) := by
  refine Met.sx (M := (mX4_read S k z v1 v2)) (rv := (fun r => some (.int r) : Int32 → Option Value)) (rs := fun _ => S) (B := fun _ => True) (by decide) ⟨rfl, rfl⟩ (Nat.le_of_ble_eq_true rfl) G (fun p e s m args below meth c C0 ls hl => ?_) hr
  have hl : lv_has ls 3 [(0, .ref (ad k)), (1, .int v1), (2, .int v2)] := hl
  rw [mX4_read]
  refine sx_aload_n C0 dX4_read_0 rfl (lv_at hl 0 rfl) ?_
  refine sx_iload_n C0 dX4_read_1 rfl (lv_at hl 1 rfl) ?_
  refine sx_iload_n C0 dX4_read_2 rfl (lv_at hl 2 rfl) ?_
  refine sx_iconst (v := 1) C0 dX4_read_3 (by decide) ?_
  refine sw_bind (fun a4 e4 => ?_)
  refine cv_X4_32 (As := [.int v1, .int v2, .int (1 : Int32)]) C0 (c_X4_holds C0.2.2.2.2.2.2.2.1 k z hk v1 v2 (1 : Int32) S _ e4) hk.1 ⟨rfl, rfl⟩ ⟨Nat.le_of_ble_eq_true rfl, Nat.le_of_ble_eq_true rfl⟩ rfl hl.1 (Nat.le_of_ble_eq_true rfl) rfl dX4_read_4 (fun hb4 => ?_)
  refine sx_if_eq (tgt := 21) C0 dX4_read_7 (by decide) (fun _ => ?_) (fun _ => ?_)
  · refine sx_iconst (v := 0) C0 dX4_read_21 (by decide) ?_
    exact sx_iret C0 rfl rfl trivial dX4_read_22
  · refine sx_aload_n C0 dX4_read_10 rfl (lv_at hl 0 rfl) ?_
    refine gf_X4_9 C0 hk.1 dX4_read_11 ?_
    refine sx_iload_n C0 dX4_read_14 rfl (lv_at hl 1 rfl) ?_
    refine sx_aaldA C0 hk.2.1 (rwl_len _ _) rfl dX4_read_15 (fun x15 hx15 => ?_)
    refine sx_iload_n C0 dX4_read_16 rfl (lv_at hl 2 rfl) ?_
    refine sx_iald C0 (hk.2.2.2 x15 hx15) rfl dX4_read_17 (fun a17 => ?_)
    refine sx_goto (tgt := 22) C0 dX4_read_18 (by decide) ?_
    exact sx_iret C0 rfl rfl trivial dX4_read_22
abbrev rm_X3_begin : Room := { frames := 1, cells := 0, slots := 0, locals := 23 }
def lX3_begin_42 (k : Nat) (k1 n1 : Nat)    : Nat → vS → Int32 → Option vS
  | 0, _, _ => none
  | n + 1, S, v2 => (if (3 : Int32) ≤ v2 then (some S) else (if (Int32.ofNat n1) ≤ v2 then (some S) else ((gI (S.1 k1) n1 v2).bind fun a60 => ((pI S (k + 1) 3 v2 a60).bind fun S61 => ((lX3_begin_42 k k1 n1 n) S61 (v2 + (1 : Int32)))))))
set_option maxHeartbeats 4000000 in
set_option maxRecDepth 100000 in
theorem lX3_begin_42_t {p : Program} {l : Launch} {e : Env} {s : State} {m : MethodId} {args : Array Value} {below : List Frame} {meth : Method} {c : Code} {D : va_G} {cA : Nat → ClassId} {ad : Nat → Nat} {kl : Nat}   (C0 : Cx D vwCl tlC shC cA ad (ExC ad kl) RX3 cX3_begin 3 none p s m args meth c) (k : Nat) (hk : IsX3 k) (k1 n1 : Nat) (h1 : shC[k1]? = some (.inl (0, n1)))    : ∀ (n : Nat) (S : vS) (v2 : Int32) (ls : Array Slot), lv_has ls 3 [(0, .ref (ad k)), (1, .ref (ad k1)), (2, .int v2)] → SW p l e rm_X3_begin s m args below meth c D vwCl shC cA ad (Fq D vwCl shC cA ad below args s (fun _ => none : vS → Option Value) (fun S1 => S1) (fun _ => True)) (lX3_begin_42 k k1 n1 n S v2) S 42 ls [] := by
  intro n
  induction n with
  | zero =>
    intro S v2 ls hl
    rw [lX3_begin_42]
    exact sw_none
  | succ n ih =>
    intro S v2 ls hl
    rw [lX3_begin_42]
    refine sx_iload_n C0 dX3_begin_42 rfl (lv_at hl 2 rfl) ?_
    refine sx_iconst (v := 3) C0 dX3_begin_43 (by decide) ?_
    refine sx_icmp_ge (tgt := 68) C0 dX3_begin_44 (by decide) (fun _ => ?_) (fun _ => ?_)
    · exact sx_vret C0 rfl rfl trivial dX3_begin_68
    · refine sx_iload_n C0 dX3_begin_47 rfl (lv_at hl 2 rfl) ?_
      refine sx_aload_n C0 dX3_begin_48 rfl (lv_at hl 1 rfl) ?_
      refine sx_alen (v := (Int32.ofNat n1)) C0 h1 rfl rfl dX3_begin_49 ?_
      refine sx_icmp_ge (tgt := 68) C0 dX3_begin_50 (by decide) (fun _ => ?_) (fun _ => ?_)
      · exact sx_vret C0 rfl rfl trivial dX3_begin_68
      · refine sx_aload_n C0 dX3_begin_53 rfl (lv_at hl 0 rfl) ?_
        refine gf_X3_30 C0 hk.1 dX3_begin_54 ?_
        refine sx_iload_n C0 dX3_begin_57 rfl (lv_at hl 2 rfl) ?_
        refine sx_aload_n C0 dX3_begin_58 rfl (lv_at hl 1 rfl) ?_
        refine sx_iload_n C0 dX3_begin_59 rfl (lv_at hl 2 rfl) ?_
        refine sx_iald C0 h1 rfl dX3_begin_60 (fun a60 => ?_)
        refine sx_iast C0 hk.2.1 rfl dX3_begin_61 (fun S61 => ?_)
        refine sx_iinc (v := (v2 + (1 : Int32))) (lv' := [(2, .int (v2 + (1 : Int32))), (0, .ref (ad k)), (1, .ref (ad k1))]) C0 dX3_begin_62 hl (k := 2) rfl rfl (by decide) rfl (fun ls hl => ?_)
        refine sx_goto (tgt := 42) C0 dX3_begin_65 (by decide) ?_
        exact ih _ _ _ (lv_sub hl [1, 2, 0] rfl)
def mX3_begin (S : vS) (k : Nat) (k1 n1 : Nat) : Option vS := (lt (wI S k 0 (0 : Int32)) fun S2 => (lt (wI S2 k 1 (0 : Int32)) fun S7 => (lt (wI S7 k 2 (0 : Int32)) fun S12 => (lt (wI S12 k 8 (0 : Int32)) fun S17 => (lt (mX3_forgetSums S17 k) fun S21 => ((mJ7_fill_53178 S21 (k + 2) 4 (0 : Int32)).bind fun S29 => ((mJ7_fill_53178 S29 (k + 3) 4 (0 : Int32)).bind fun S37 => (lX3_begin_42 k k1 n1 FU S37 (0 : Int32)))))))))
set_option maxHeartbeats 4000000 in
set_option maxRecDepth 100000 in
theorem c_X3_begin {l : Launch} {D : va_G} {cA : Nat → ClassId} {ad : Nat → Nat} {kl : Nat} (G : Gx shC ad (ExC ad kl)) (k : Nat) (hk : IsX3 k) (k1 n1 : Nat) (h1 : shC[k1]? = some (.inl (0, n1))) (S : vS) (r : vS) (hr : (mX3_begin S k k1 n1) = some r) : Met l yX3_begin (Cond.code yX3_begin cX3_begin 3 none :: ALL) rm_X3_begin (Po D vwCl tlC shC cA ad (ExC ad kl) [.ref (ad k), .ref (ad k1)] S) (Qo D vwCl shC cA ad none r True) 0 0 (aw shC ad) := by
  refine Met.sx (M := (mX3_begin S k k1 n1)) (rv := (fun _ => none : vS → Option Value)) (rs := fun S1 => S1) (B := fun _ => True) (by decide) ⟨rfl, rfl⟩ (Nat.le_of_ble_eq_true rfl) G (fun p e s m args below meth c C0 ls hl => ?_) hr
  have hl : lv_has ls 3 [(0, .ref (ad k)), (1, .ref (ad k1))] := hl
  rw [mX3_begin]
  refine sx_aload_n C0 dX3_begin_0 rfl (lv_at hl 0 rfl) ?_
  refine sx_iconst (v := 0) C0 dX3_begin_1 (by decide) ?_
  refine pf_X3_9 C0 hk.1 dX3_begin_2 (fun S2 => ?_)
  refine sx_aload_n C0 dX3_begin_5 rfl (lv_at hl 0 rfl) ?_
  refine sx_iconst (v := 0) C0 dX3_begin_6 (by decide) ?_
  refine pf_X3_15 C0 hk.1 dX3_begin_7 (fun S7 => ?_)
  refine sx_aload_n C0 dX3_begin_10 rfl (lv_at hl 0 rfl) ?_
  refine sx_iconst (v := 0) C0 dX3_begin_11 (by decide) ?_
  refine pf_X3_18 C0 hk.1 dX3_begin_12 (fun S12 => ?_)
  refine sx_aload_n C0 dX3_begin_15 rfl (lv_at hl 0 rfl) ?_
  refine sx_iconst (v := 0) C0 dX3_begin_16 (by decide) ?_
  refine pf_X3_37 C0 hk.1 dX3_begin_17 (fun S17 => ?_)
  refine sx_aload_n C0 dX3_begin_20 rfl (lv_at hl 0 rfl) ?_
  refine cv_X3_43 (As := []) C0 (c_X3_forgetSums C0.2.2.2.2.2.2.2.1 k hk S17) hk.1 ⟨rfl, rfl⟩ ⟨Nat.le_of_ble_eq_true rfl, Nat.le_of_ble_eq_true rfl⟩ rfl hl.1 (Nat.le_of_ble_eq_true rfl) rfl dX3_begin_21 (fun _ => ?_)
  refine sw_ltS (fun S21 => ?_)
  refine sx_aload_n C0 dX3_begin_24 rfl (lv_at hl 0 rfl) ?_
  refine gf_X3_34 C0 hk.1 dX3_begin_25 ?_
  refine sx_iconst (v := 0) C0 dX3_begin_28 (by decide) ?_
  refine sw_bind (fun S29 e29 => ?_)
  refine cv_X3_46 (As := [.ref (ad (k + 2)), .int (0 : Int32)]) C0 (c_J7_fill_53178 C0.2.2.2.2.2.2.2.1 rfl (k + 2) 4 hk.2.2.1 (0 : Int32) S21 _ e29) ⟨rfl, rfl⟩ ⟨Nat.le_of_ble_eq_true rfl, Nat.le_of_ble_eq_true rfl⟩ rfl hl.1 (Nat.le_of_ble_eq_true rfl) rfl dX3_begin_29 (fun _ => ?_)
  refine sx_aload_n C0 dX3_begin_32 rfl (lv_at hl 0 rfl) ?_
  refine gf_X3_40 C0 hk.1 dX3_begin_33 ?_
  refine sx_iconst (v := 0) C0 dX3_begin_36 (by decide) ?_
  refine sw_bind (fun S37 e37 => ?_)
  refine cv_X3_46 (As := [.ref (ad (k + 3)), .int (0 : Int32)]) C0 (c_J7_fill_53178 C0.2.2.2.2.2.2.2.1 rfl (k + 3) 4 hk.2.2.2 (0 : Int32) S29 _ e37) ⟨rfl, rfl⟩ ⟨Nat.le_of_ble_eq_true rfl, Nat.le_of_ble_eq_true rfl⟩ rfl hl.1 (Nat.le_of_ble_eq_true rfl) rfl dX3_begin_37 (fun _ => ?_)
  refine sx_iconst (v := 0) C0 dX3_begin_40 (by decide) ?_
  refine sx_istore_n (lv' := [(2, .int (0 : Int32)), (0, .ref (ad k)), (1, .ref (ad k1))]) C0 dX3_begin_41 rfl hl (by decide) rfl (fun ls hl => ?_)
  exact lX3_begin_42_t C0 k hk k1 n1 h1 _ _ _ _ (lv_sub hl [1, 2, 0] rfl)
abbrev rm_X3_save : Room := { frames := 1, cells := 0, slots := 0, locals := 26 }
def mX3_save (S : vS) (k : Nat) (k1 n1 : Nat) (v2 : Int32) : Option vS := (if v2 < 0 then (some S) else (if v2 ≤ ((Int32.ofNat n1) - (11 : Int32)) then ((pI S k1 n1 v2 (S.1 k 1)).bind fun S20 => ((pI S20 k1 n1 (v2 + (1 : Int32)) (S20.1 k 2)).bind fun S29 => ((pI S29 k1 n1 (v2 + (2 : Int32)) (S29.1 k 3)).bind fun S38 => ((pI S38 k1 n1 (v2 + (3 : Int32)) (S38.1 k 4)).bind fun S47 => ((cI S47 (k + 1) 3 (0 : Int32) k1 n1 (v2 + (4 : Int32)) (3 : Int32)).bind fun S58 => ((cI S58 (k + 2) 4 (0 : Int32) k1 n1 ((v2 + (4 : Int32)) + (3 : Int32)) (4 : Int32)).bind fun S73 => (some S73))))))) else (some S)))
set_option maxHeartbeats 4000000 in
set_option maxRecDepth 100000 in
theorem c_X3_save {l : Launch} {D : va_G} {cA : Nat → ClassId} {ad : Nat → Nat} {kl : Nat} (G : Gx shC ad (ExC ad kl)) (k : Nat) (hk : IsX3 k) (k1 n1 : Nat) (h1 : shC[k1]? = some (.inl (0, n1))) (v2 : Int32) (S : vS) (r : vS) (hr : (mX3_save S k k1 n1 v2) = some r) : Met l yX3_save (Cond.code yX3_save cX3_save 3 none :: ALL) rm_X3_save (Po D vwCl tlC shC cA ad (ExC ad kl) [.ref (ad k), .ref (ad k1), .int v2] S) (Qo D vwCl shC cA ad none r True) 0 0 (aw shC ad) := by
  refine Met.sx (M := (mX3_save S k k1 n1 v2)) (rv := (fun _ => none : vS → Option Value)) (rs := fun S1 => S1) (B := fun _ => True) (by decide) ⟨rfl, rfl⟩ (Nat.le_of_ble_eq_true rfl) G (fun p e s m args below meth c C0 ls hl => ?_) hr
  have hl : lv_has ls 3 [(0, .ref (ad k)), (1, .ref (ad k1)), (2, .int v2)] := hl
  rw [mX3_save]
  refine sx_iload_n C0 dX3_save_0 rfl (lv_at hl 2 rfl) ?_
  refine sx_if_lt (tgt := 13) C0 dX3_save_1 (by decide) (fun _ => ?_) (fun _ => ?_)
  · exact sx_vret C0 rfl rfl trivial dX3_save_13
  · refine sx_iload_n C0 dX3_save_4 rfl (lv_at hl 2 rfl) ?_
    refine sx_aload_n C0 dX3_save_5 rfl (lv_at hl 1 rfl) ?_
    refine sx_alen (v := (Int32.ofNat n1)) C0 h1 rfl rfl dX3_save_6 ?_
    refine sx_bipush (v := 11) C0 dX3_save_7 (by decide) ?_
    refine sx_isub C0 dX3_save_9 ?_
    refine sx_icmp_le (tgt := 14) C0 dX3_save_10 (by decide) (fun _ => ?_) (fun _ => ?_)
    · refine sx_aload_n C0 dX3_save_14 rfl (lv_at hl 1 rfl) ?_
      refine sx_iload_n C0 dX3_save_15 rfl (lv_at hl 2 rfl) ?_
      refine sx_aload_n C0 dX3_save_16 rfl (lv_at hl 0 rfl) ?_
      refine gf_X3_15 C0 hk.1 dX3_save_17 ?_
      refine sx_iast C0 h1 rfl dX3_save_20 (fun S20 => ?_)
      refine sx_aload_n C0 dX3_save_21 rfl (lv_at hl 1 rfl) ?_
      refine sx_iload_n C0 dX3_save_22 rfl (lv_at hl 2 rfl) ?_
      refine sx_iconst (v := 1) C0 dX3_save_23 (by decide) ?_
      refine sx_iadd C0 dX3_save_24 ?_
      refine sx_aload_n C0 dX3_save_25 rfl (lv_at hl 0 rfl) ?_
      refine gf_X3_18 C0 hk.1 dX3_save_26 ?_
      refine sx_iast C0 h1 rfl dX3_save_29 (fun S29 => ?_)
      refine sx_aload_n C0 dX3_save_30 rfl (lv_at hl 1 rfl) ?_
      refine sx_iload_n C0 dX3_save_31 rfl (lv_at hl 2 rfl) ?_
      refine sx_iconst (v := 2) C0 dX3_save_32 (by decide) ?_
      refine sx_iadd C0 dX3_save_33 ?_
      refine sx_aload_n C0 dX3_save_34 rfl (lv_at hl 0 rfl) ?_
      refine gf_X3_21 C0 hk.1 dX3_save_35 ?_
      refine sx_iast C0 h1 rfl dX3_save_38 (fun S38 => ?_)
      refine sx_aload_n C0 dX3_save_39 rfl (lv_at hl 1 rfl) ?_
      refine sx_iload_n C0 dX3_save_40 rfl (lv_at hl 2 rfl) ?_
      refine sx_iconst (v := 3) C0 dX3_save_41 (by decide) ?_
      refine sx_iadd C0 dX3_save_42 ?_
      refine sx_aload_n C0 dX3_save_43 rfl (lv_at hl 0 rfl) ?_
      refine gf_X3_24 C0 hk.1 dX3_save_44 ?_
      refine sx_iast C0 h1 rfl dX3_save_47 (fun S47 => ?_)
      refine sx_aload_n C0 dX3_save_48 rfl (lv_at hl 0 rfl) ?_
      refine gf_X3_30 C0 hk.1 dX3_save_49 ?_
      refine sx_iconst (v := 0) C0 dX3_save_52 (by decide) ?_
      refine sx_aload_n C0 dX3_save_53 rfl (lv_at hl 1 rfl) ?_
      refine sx_iload_n C0 dX3_save_54 rfl (lv_at hl 2 rfl) ?_
      refine sx_iconst (v := 4) C0 dX3_save_55 (by decide) ?_
      refine sx_iadd C0 dX3_save_56 ?_
      refine sx_iconst (v := 3) C0 dX3_save_57 (by decide) ?_
      refine sx_acopy C0 wm_X3_52 hk.2.1 h1 rfl hl.1 ⟨Nat.le_of_ble_eq_true rfl, Nat.le_of_ble_eq_true rfl⟩ dX3_save_58 (fun S58 => ?_)
      refine sx_aload_n C0 dX3_save_61 rfl (lv_at hl 0 rfl) ?_
      refine gf_X3_34 C0 hk.1 dX3_save_62 ?_
      refine sx_iconst (v := 0) C0 dX3_save_65 (by decide) ?_
      refine sx_aload_n C0 dX3_save_66 rfl (lv_at hl 1 rfl) ?_
      refine sx_iload_n C0 dX3_save_67 rfl (lv_at hl 2 rfl) ?_
      refine sx_iconst (v := 4) C0 dX3_save_68 (by decide) ?_
      refine sx_iadd C0 dX3_save_69 ?_
      refine sx_iconst (v := 3) C0 dX3_save_70 (by decide) ?_
      refine sx_iadd C0 dX3_save_71 ?_
      refine sx_iconst (v := 4) C0 dX3_save_72 (by decide) ?_
      refine sx_acopy C0 wm_X3_52 hk.2.2.1 h1 rfl hl.1 ⟨Nat.le_of_ble_eq_true rfl, Nat.le_of_ble_eq_true rfl⟩ dX3_save_73 (fun S73 => ?_)
      exact sx_vret C0 rfl rfl trivial dX3_save_76
    · exact sx_vret C0 rfl rfl trivial dX3_save_13
abbrev rm_X3_load : Room := { frames := 1, cells := 0, slots := 0, locals := 26 }
def mX3_load (S : vS) (k : Nat) (k1 n1 : Nat) (v2 : Int32) : Option vS := (if v2 < 0 then (some S) else (if v2 ≤ ((Int32.ofNat n1) - (11 : Int32)) then ((gI (S.1 k1) n1 v2).bind fun a17 => (lt (wI S k 1 a17) fun S18 => ((gI (S18.1 k1) n1 (v2 + (1 : Int32))).bind fun a26 => (lt (wI S18 k 2 a26) fun S27 => ((gI (S27.1 k1) n1 (v2 + (2 : Int32))).bind fun a35 => (lt (wI S27 k 3 a35) fun S36 => ((gI (S36.1 k1) n1 (v2 + (3 : Int32))).bind fun a44 => (lt (wI S36 k 4 a44) fun S45 => ((cI S45 k1 n1 (v2 + (4 : Int32)) (k + 1) 3 (0 : Int32) (3 : Int32)).bind fun S58 => ((cI S58 k1 n1 ((v2 + (4 : Int32)) + (3 : Int32)) (k + 2) 4 (0 : Int32) (4 : Int32)).bind fun S73 => (some S73))))))))))) else (some S)))
set_option maxHeartbeats 4000000 in
set_option maxRecDepth 100000 in
theorem c_X3_load {l : Launch} {D : va_G} {cA : Nat → ClassId} {ad : Nat → Nat} {kl : Nat} (G : Gx shC ad (ExC ad kl)) (k : Nat) (hk : IsX3 k) (k1 n1 : Nat) (h1 : shC[k1]? = some (.inl (0, n1))) (v2 : Int32) (S : vS) (r : vS) (hr : (mX3_load S k k1 n1 v2) = some r) : Met l yX3_load (Cond.code yX3_load cX3_load 3 none :: ALL) rm_X3_load (Po D vwCl tlC shC cA ad (ExC ad kl) [.ref (ad k), .ref (ad k1), .int v2] S) (Qo D vwCl shC cA ad none r True) 0 0 (aw shC ad) := by
  refine Met.sx (M := (mX3_load S k k1 n1 v2)) (rv := (fun _ => none : vS → Option Value)) (rs := fun S1 => S1) (B := fun _ => True) (by decide) ⟨rfl, rfl⟩ (Nat.le_of_ble_eq_true rfl) G (fun p e s m args below meth c C0 ls hl => ?_) hr
  have hl : lv_has ls 3 [(0, .ref (ad k)), (1, .ref (ad k1)), (2, .int v2)] := hl
  rw [mX3_load]
  refine sx_iload_n C0 dX3_load_0 rfl (lv_at hl 2 rfl) ?_
  refine sx_if_lt (tgt := 13) C0 dX3_load_1 (by decide) (fun _ => ?_) (fun _ => ?_)
  · exact sx_vret C0 rfl rfl trivial dX3_load_13
  · refine sx_iload_n C0 dX3_load_4 rfl (lv_at hl 2 rfl) ?_
    refine sx_aload_n C0 dX3_load_5 rfl (lv_at hl 1 rfl) ?_
    refine sx_alen (v := (Int32.ofNat n1)) C0 h1 rfl rfl dX3_load_6 ?_
    refine sx_bipush (v := 11) C0 dX3_load_7 (by decide) ?_
    refine sx_isub C0 dX3_load_9 ?_
    refine sx_icmp_le (tgt := 14) C0 dX3_load_10 (by decide) (fun _ => ?_) (fun _ => ?_)
    · refine sx_aload_n C0 dX3_load_14 rfl (lv_at hl 0 rfl) ?_
      refine sx_aload_n C0 dX3_load_15 rfl (lv_at hl 1 rfl) ?_
      refine sx_iload_n C0 dX3_load_16 rfl (lv_at hl 2 rfl) ?_
      refine sx_iald C0 h1 rfl dX3_load_17 (fun a17 => ?_)
      refine pf_X3_15 C0 hk.1 dX3_load_18 (fun S18 => ?_)
      refine sx_aload_n C0 dX3_load_21 rfl (lv_at hl 0 rfl) ?_
      refine sx_aload_n C0 dX3_load_22 rfl (lv_at hl 1 rfl) ?_
      refine sx_iload_n C0 dX3_load_23 rfl (lv_at hl 2 rfl) ?_
      refine sx_iconst (v := 1) C0 dX3_load_24 (by decide) ?_
      refine sx_iadd C0 dX3_load_25 ?_
      refine sx_iald C0 h1 rfl dX3_load_26 (fun a26 => ?_)
      refine pf_X3_18 C0 hk.1 dX3_load_27 (fun S27 => ?_)
      refine sx_aload_n C0 dX3_load_30 rfl (lv_at hl 0 rfl) ?_
      refine sx_aload_n C0 dX3_load_31 rfl (lv_at hl 1 rfl) ?_
      refine sx_iload_n C0 dX3_load_32 rfl (lv_at hl 2 rfl) ?_
      refine sx_iconst (v := 2) C0 dX3_load_33 (by decide) ?_
      refine sx_iadd C0 dX3_load_34 ?_
      refine sx_iald C0 h1 rfl dX3_load_35 (fun a35 => ?_)
      refine pf_X3_21 C0 hk.1 dX3_load_36 (fun S36 => ?_)
      refine sx_aload_n C0 dX3_load_39 rfl (lv_at hl 0 rfl) ?_
      refine sx_aload_n C0 dX3_load_40 rfl (lv_at hl 1 rfl) ?_
      refine sx_iload_n C0 dX3_load_41 rfl (lv_at hl 2 rfl) ?_
      refine sx_iconst (v := 3) C0 dX3_load_42 (by decide) ?_
      refine sx_iadd C0 dX3_load_43 ?_
      refine sx_iald C0 h1 rfl dX3_load_44 (fun a44 => ?_)
      refine pf_X3_24 C0 hk.1 dX3_load_45 (fun S45 => ?_)
      refine sx_aload_n C0 dX3_load_48 rfl (lv_at hl 1 rfl) ?_
      refine sx_iload_n C0 dX3_load_49 rfl (lv_at hl 2 rfl) ?_
      refine sx_iconst (v := 4) C0 dX3_load_50 (by decide) ?_
      refine sx_iadd C0 dX3_load_51 ?_
      refine sx_aload_n C0 dX3_load_52 rfl (lv_at hl 0 rfl) ?_
      refine gf_X3_30 C0 hk.1 dX3_load_53 ?_
      refine sx_iconst (v := 0) C0 dX3_load_56 (by decide) ?_
      refine sx_iconst (v := 3) C0 dX3_load_57 (by decide) ?_
      refine sx_acopy C0 wm_X3_52 h1 hk.2.1 rfl hl.1 ⟨Nat.le_of_ble_eq_true rfl, Nat.le_of_ble_eq_true rfl⟩ dX3_load_58 (fun S58 => ?_)
      refine sx_aload_n C0 dX3_load_61 rfl (lv_at hl 1 rfl) ?_
      refine sx_iload_n C0 dX3_load_62 rfl (lv_at hl 2 rfl) ?_
      refine sx_iconst (v := 4) C0 dX3_load_63 (by decide) ?_
      refine sx_iadd C0 dX3_load_64 ?_
      refine sx_iconst (v := 3) C0 dX3_load_65 (by decide) ?_
      refine sx_iadd C0 dX3_load_66 ?_
      refine sx_aload_n C0 dX3_load_67 rfl (lv_at hl 0 rfl) ?_
      refine gf_X3_34 C0 hk.1 dX3_load_68 ?_
      refine sx_iconst (v := 0) C0 dX3_load_71 (by decide) ?_
      refine sx_iconst (v := 4) C0 dX3_load_72 (by decide) ?_
      refine sx_acopy C0 wm_X3_52 h1 hk.2.2.1 rfl hl.1 ⟨Nat.le_of_ble_eq_true rfl, Nat.le_of_ble_eq_true rfl⟩ dX3_load_73 (fun S73 => ?_)
      exact sx_vret C0 rfl rfl trivial dX3_load_76
    · exact sx_vret C0 rfl rfl trivial dX3_load_13
abbrev rm_X3_isGone : Room := { frames := 0, cells := 0, slots := 0, locals := 0 }
def mX3_isGone (S : vS) (k : Nat) (v1 : Int32) : Int32 := (if (((S.1 k 1) >>> (v1 &&& (31 : Int32))) &&& (1 : Int32)) = 0 then (0 : Int32) else (1 : Int32))
set_option maxHeartbeats 4000000 in
set_option maxRecDepth 100000 in
theorem c_X3_isGone {l : Launch} {D : va_G} {cA : Nat → ClassId} {ad : Nat → Nat} {kl : Nat} (G : Gx shC ad (ExC ad kl)) (k : Nat) (hk : IsX3 k) (v1 : Int32) (S : vS) : Met l yX3_isGone (Cond.code yX3_isGone cX3_isGone 2 (some .boolean) :: ALL) rm_X3_isGone (Po D vwCl tlC shC cA ad (ExC ad kl) [.ref (ad k), .int v1] S) (Qo D vwCl shC cA ad (some (.int (mX3_isGone S k v1))) S (isB (mX3_isGone S k v1))) 0 0 (aw shC ad) := by
  refine Met.sx (M := some (mX3_isGone S k v1)) (rv := (fun r => some (.int r) : Int32 → Option Value)) (rs := fun _ => S) (B := fun r => isB r) (by decide) ⟨rfl, rfl⟩ (Nat.le_of_ble_eq_true rfl) G (fun p e s m args below meth c C0 ls hl => ?_) rfl
  have hl : lv_has ls 2 [(0, .ref (ad k)), (1, .int v1)] := hl
  rw [mX3_isGone]
  refine sx_aload_n C0 dX3_isGone_0 rfl (lv_at hl 0 rfl) ?_
  refine gf_X3_15 C0 hk.1 dX3_isGone_1 ?_
  refine sx_iload_n C0 dX3_isGone_4 rfl (lv_at hl 1 rfl) ?_
  refine sx_ishr C0 dX3_isGone_5 ?_
  refine sx_iconst (v := 1) C0 dX3_isGone_6 (by decide) ?_
  refine sx_iand C0 dX3_isGone_7 ?_
  refine sx_if_eqs (tgt := 15) C0 dX3_isGone_8 (by decide) (fun _ => ?_) (fun _ => ?_)
  · refine sx_iconst (v := 0) C0 dX3_isGone_15 (by decide) ?_
    exact sx_zret C0 rfl rfl (Or.inl rfl) (Or.inl rfl) dX3_isGone_16
  · refine sx_iconst (v := 1) C0 dX3_isGone_11 (by decide) ?_
    refine sx_goto (tgt := 16) C0 dX3_isGone_12 (by decide) ?_
    exact sx_zret C0 rfl rfl (Or.inr rfl) (Or.inr rfl) dX3_isGone_16
abbrev rm_X3_isOddDay : Room := { frames := 0, cells := 0, slots := 0, locals := 0 }
def mX3_isOddDay (S : vS) (k : Nat) : Int32 := (if ((S.1 k 0) &&& (1 : Int32)) = 0 then (0 : Int32) else (1 : Int32))
set_option maxHeartbeats 4000000 in
set_option maxRecDepth 100000 in
theorem c_X3_isOddDay {l : Launch} {D : va_G} {cA : Nat → ClassId} {ad : Nat → Nat} {kl : Nat} (G : Gx shC ad (ExC ad kl)) (k : Nat) (hk : IsX3 k) (S : vS) : Met l yX3_isOddDay (Cond.code yX3_isOddDay cX3_isOddDay 1 (some .boolean) :: ALL) rm_X3_isOddDay (Po D vwCl tlC shC cA ad (ExC ad kl) [.ref (ad k)] S) (Qo D vwCl shC cA ad (some (.int (mX3_isOddDay S k))) S (isB (mX3_isOddDay S k))) 0 0 (aw shC ad) := by
  refine Met.sx (M := some (mX3_isOddDay S k)) (rv := (fun r => some (.int r) : Int32 → Option Value)) (rs := fun _ => S) (B := fun r => isB r) (by decide) ⟨rfl, rfl⟩ (Nat.le_of_ble_eq_true rfl) G (fun p e s m args below meth c C0 ls hl => ?_) rfl
  have hl : lv_has ls 1 [(0, .ref (ad k))] := hl
  rw [mX3_isOddDay]
  refine sx_aload_n C0 dX3_isOddDay_0 rfl (lv_at hl 0 rfl) ?_
  refine gf_X3_9 C0 hk.1 dX3_isOddDay_1 ?_
  refine sx_iconst (v := 1) C0 dX3_isOddDay_4 (by decide) ?_
  refine sx_iand C0 dX3_isOddDay_5 ?_
  refine sx_if_eqs (tgt := 13) C0 dX3_isOddDay_6 (by decide) (fun _ => ?_) (fun _ => ?_)
  · refine sx_iconst (v := 0) C0 dX3_isOddDay_13 (by decide) ?_
    exact sx_zret C0 rfl rfl (Or.inl rfl) (Or.inl rfl) dX3_isOddDay_14
  · refine sx_iconst (v := 1) C0 dX3_isOddDay_9 (by decide) ?_
    refine sx_goto (tgt := 14) C0 dX3_isOddDay_10 (by decide) ?_
    exact sx_zret C0 rfl rfl (Or.inr rfl) (Or.inr rfl) dX3_isOddDay_14
abbrev rm_X3_goOn : Room := { frames := 3, cells := 0, slots := 0, locals := 76 }
def mX3_goOn (S : vS) (k : Nat) (k1 : Nat) (v2 : Int32) : Option (Int32 × vS) := ((mX3_costOf S k k1 v2).bind fun a3 => (if a3 = (-9 : Int32) then (some ((0 : Int32), S)) else ((mX3_spendDay S k k1 v2 a3).bind fun S19 => (some ((1 : Int32), S19)))))
set_option maxHeartbeats 4000000 in
set_option maxRecDepth 100000 in
theorem c_X3_goOn {l : Launch} {D : va_G} {cA : Nat → ClassId} {ad : Nat → Nat} {kl : Nat} (G : Gx shC ad (ExC ad kl)) (k : Nat) (hk : IsX3 k) (k1 : Nat) (h1 : IsX0 k1) (v2 : Int32) (S : vS) (r : (Int32 × vS)) (hr : (mX3_goOn S k k1 v2) = some r) : Met l yX3_goOn (Cond.code yX3_goOn cX3_goOn 4 (some .boolean) :: ALL) rm_X3_goOn (Po D vwCl tlC shC cA ad (ExC ad kl) [.ref (ad k), .ref (ad k1), .int v2] S) (Qo D vwCl shC cA ad (some (.int r.1)) r.2 (isB r.1)) 0 0 (aw shC ad) := by
  refine Met.sx (M := (mX3_goOn S k k1 v2)) (rv := (fun q => some (.int q.1) : (Int32 × vS) → Option Value)) (rs := fun q => q.2) (B := fun q => isB q.1) (by decide) ⟨rfl, rfl⟩ (Nat.le_of_ble_eq_true rfl) G (fun p e s m args below meth c C0 ls hl => ?_) hr
  have hl : lv_has ls 4 [(0, .ref (ad k)), (1, .ref (ad k1)), (2, .int v2)] := hl
  rw [mX3_goOn]
  refine sx_aload_n C0 dX3_goOn_0 rfl (lv_at hl 0 rfl) ?_
  refine sx_aload_n C0 dX3_goOn_1 rfl (lv_at hl 1 rfl) ?_
  refine sx_iload_n C0 dX3_goOn_2 rfl (lv_at hl 2 rfl) ?_
  refine sw_bind (fun a3 e3 => ?_)
  refine cv_X3_87 (As := [.ref (ad k1), .int v2]) C0 (c_X3_costOf C0.2.2.2.2.2.2.2.1 k hk k1 h1 v2 S _ e3) hk.1 ⟨rfl, rfl⟩ ⟨Nat.le_of_ble_eq_true rfl, Nat.le_of_ble_eq_true rfl⟩ rfl hl.1 (Nat.le_of_ble_eq_true rfl) rfl dX3_goOn_3 (fun _ => ?_)
  refine sx_istore_n (lv' := [(3, .int a3), (0, .ref (ad k)), (1, .ref (ad k1)), (2, .int v2)]) C0 dX3_goOn_6 rfl hl (by decide) rfl (fun ls hl => ?_)
  refine sx_iload_n C0 dX3_goOn_7 rfl (lv_at hl 0 rfl) ?_
  refine sx_bipush (v := (-9)) C0 dX3_goOn_8 (by decide) ?_
  refine sx_icmp_ne (tgt := 15) C0 dX3_goOn_10 (by decide) (fun _ => ?_) (fun _ => ?_)
  · refine sx_iconst (v := 0) C0 dX3_goOn_13 (by decide) ?_
    exact sx_zret C0 rfl rfl (Or.inl rfl) (Or.inl rfl) dX3_goOn_14
  · refine sx_aload_n C0 dX3_goOn_15 rfl (lv_at hl 1 rfl) ?_
    refine sx_aload_n C0 dX3_goOn_16 rfl (lv_at hl 2 rfl) ?_
    refine sx_iload_n C0 dX3_goOn_17 rfl (lv_at hl 3 rfl) ?_
    refine sx_iload_n C0 dX3_goOn_18 rfl (lv_at hl 0 rfl) ?_
    refine sw_bind (fun S19 e19 => ?_)
    refine cv_X3_90 (As := [.ref (ad k1), .int v2, .int a3]) C0 (c_X3_spendDay C0.2.2.2.2.2.2.2.1 k hk k1 h1 v2 a3 S _ e19) hk.1 ⟨rfl, rfl⟩ ⟨Nat.le_of_ble_eq_true rfl, Nat.le_of_ble_eq_true rfl⟩ rfl hl.1 (Nat.le_of_ble_eq_true rfl) rfl dX3_goOn_19 (fun _ => ?_)
    refine sx_iconst (v := 1) C0 dX3_goOn_22 (by decide) ?_
    exact sx_zret C0 rfl rfl (Or.inr rfl) (Or.inr rfl) dX3_goOn_23
abbrev rm_X4_write : Room := { frames := 3, cells := 0, slots := 0, locals := 65 }
def mX4_write (S : vS) (k z : Nat) (v1 : Int32) (v2 : Int32) (v3 : Int32) : Option vS := ((mX4_holds S k z v1 v2 (1 : Int32)).bind fun a4 => (if a4 = 0 then (some S) else ((aI (rwl k z) v1).bind fun x15 => ((pI S x15 60 v2 v3).bind fun S18 => (some S18)))))
set_option maxHeartbeats 4000000 in
set_option maxRecDepth 100000 in
theorem c_X4_write {l : Launch} {D : va_G} {cA : Nat → ClassId} {ad : Nat → Nat} {kl : Nat} (G : Gx shC ad (ExC ad kl)) (k z : Nat) (hk : IsX4 k z) (v1 : Int32) (v2 : Int32) (v3 : Int32) (S : vS) (r : vS) (hr : (mX4_write S k z v1 v2 v3) = some r) : Met l yX4_write (Cond.code yX4_write cX4_write 4 none :: ALL) rm_X4_write (Po D vwCl tlC shC cA ad (ExC ad kl) [.ref (ad k), .int v1, .int v2, .int v3] S) (Qo D vwCl shC cA ad none r True) 0 0 (aw shC ad) := by
  refine Met.sx (M := (mX4_write S k z v1 v2 v3)) (rv := (fun _ => none : vS → Option Value)) (rs := fun S1 => S1) (B := fun _ => True) (by decide) ⟨rfl, rfl⟩ (Nat.le_of_ble_eq_true rfl) G (fun p e s m args below meth c C0 ls hl => ?_) hr
  have hl : lv_has ls 4 [(0, .ref (ad k)), (1, .int v1), (2, .int v2), (3, .int v3)] := hl
  rw [mX4_write]
  refine sx_aload_n C0 dX4_write_0 rfl (lv_at hl 0 rfl) ?_
  refine sx_iload_n C0 dX4_write_1 rfl (lv_at hl 1 rfl) ?_
  refine sx_iload_n C0 dX4_write_2 rfl (lv_at hl 2 rfl) ?_
  refine sx_iconst (v := 1) C0 dX4_write_3 (by decide) ?_
  refine sw_bind (fun a4 e4 => ?_)
  refine cv_X4_32 (As := [.int v1, .int v2, .int (1 : Int32)]) C0 (c_X4_holds C0.2.2.2.2.2.2.2.1 k z hk v1 v2 (1 : Int32) S _ e4) hk.1 ⟨rfl, rfl⟩ ⟨Nat.le_of_ble_eq_true rfl, Nat.le_of_ble_eq_true rfl⟩ rfl hl.1 (Nat.le_of_ble_eq_true rfl) rfl dX4_write_4 (fun hb4 => ?_)
  refine sx_if_eq (tgt := 19) C0 dX4_write_7 (by decide) (fun _ => ?_) (fun _ => ?_)
  · exact sx_vret C0 rfl rfl trivial dX4_write_19
  · refine sx_aload_n C0 dX4_write_10 rfl (lv_at hl 0 rfl) ?_
    refine gf_X4_9 C0 hk.1 dX4_write_11 ?_
    refine sx_iload_n C0 dX4_write_14 rfl (lv_at hl 1 rfl) ?_
    refine sx_aaldA C0 hk.2.1 (rwl_len _ _) rfl dX4_write_15 (fun x15 hx15 => ?_)
    refine sx_iload_n C0 dX4_write_16 rfl (lv_at hl 2 rfl) ?_
    refine sx_iload_n C0 dX4_write_17 rfl (lv_at hl 3 rfl) ?_
    refine sx_iast C0 (hk.2.2.2 x15 hx15) rfl dX4_write_18 (fun S18 => ?_)
    exact sx_vret C0 rfl rfl trivial dX4_write_19
abbrev rm_X4_make : Room := { frames := 2, cells := 0, slots := 0, locals := 46 }
def mX4_make (S : vS) (k z : Nat) (v1 : Int32) (v2 : Int32) (v3 : Int32) : Option vS := (if (mX4_has S k z v1) = 0 then (some S) else (if v2 < 0 then (some S) else ((aI (rwl k z) v1).bind fun x18 => (if v2 ≤ (60 : Int32) then ((pI S (k + 2 + z) z v1 v2).bind fun S30 => ((aI (rwl k z) v1).bind fun x36 => ((mJ7_fill_fda19 S30 x36 60 (0 : Int32) v2 v3).bind fun S40 => (some S40)))) else (some S)))))
set_option maxHeartbeats 4000000 in
set_option maxRecDepth 100000 in
theorem c_X4_make {l : Launch} {D : va_G} {cA : Nat → ClassId} {ad : Nat → Nat} {kl : Nat} (G : Gx shC ad (ExC ad kl)) (k z : Nat) (hk : IsX4 k z) (v1 : Int32) (v2 : Int32) (v3 : Int32) (S : vS) (r : vS) (hr : (mX4_make S k z v1 v2 v3) = some r) : Met l yX4_make (Cond.code yX4_make cX4_make 4 none :: ALL) rm_X4_make (Po D vwCl tlC shC cA ad (ExC ad kl) [.ref (ad k), .int v1, .int v2, .int v3] S) (Qo D vwCl shC cA ad none r True) 0 0 (aw shC ad) := by
  refine Met.sx (M := (mX4_make S k z v1 v2 v3)) (rv := (fun _ => none : vS → Option Value)) (rs := fun S1 => S1) (B := fun _ => True) (by decide) ⟨rfl, rfl⟩ (Nat.le_of_ble_eq_true rfl) G (fun p e s m args below meth c C0 ls hl => ?_) hr
  have hl : lv_has ls 4 [(0, .ref (ad k)), (1, .int v1), (2, .int v2), (3, .int v3)] := hl
  rw [mX4_make]
  refine sx_aload_n C0 dX4_make_0 rfl (lv_at hl 0 rfl) ?_
  refine sx_iload_n C0 dX4_make_1 rfl (lv_at hl 1 rfl) ?_
  refine cv_X4_25 (As := [.int v1]) C0 (c_X4_has C0.2.2.2.2.2.2.2.1 k z hk v1 S) hk.1 ⟨rfl, rfl⟩ ⟨Nat.le_of_ble_eq_true rfl, Nat.le_of_ble_eq_true rfl⟩ rfl hl.1 (Nat.le_of_ble_eq_true rfl) rfl dX4_make_2 (fun hb2 => ?_)
  refine sx_if_eq (tgt := 23) C0 dX4_make_5 (by decide) (fun _ => ?_) (fun _ => ?_)
  · exact sx_vret C0 rfl rfl trivial dX4_make_23
  · refine sx_iload_n C0 dX4_make_8 rfl (lv_at hl 2 rfl) ?_
    refine sx_if_lt (tgt := 23) C0 dX4_make_9 (by decide) (fun _ => ?_) (fun _ => ?_)
    · exact sx_vret C0 rfl rfl trivial dX4_make_23
    · refine sx_iload_n C0 dX4_make_12 rfl (lv_at hl 2 rfl) ?_
      refine sx_aload_n C0 dX4_make_13 rfl (lv_at hl 0 rfl) ?_
      refine gf_X4_9 C0 hk.1 dX4_make_14 ?_
      refine sx_iload_n C0 dX4_make_17 rfl (lv_at hl 1 rfl) ?_
      refine sx_aaldA C0 hk.2.1 (rwl_len _ _) rfl dX4_make_18 (fun x18 hx18 => ?_)
      refine sx_alen (v := (60 : Int32)) C0 (hk.2.2.2 x18 hx18) rfl rfl dX4_make_19 ?_
      refine sx_icmp_le (tgt := 24) C0 dX4_make_20 (by decide) (fun _ => ?_) (fun _ => ?_)
      · refine sx_aload_n C0 dX4_make_24 rfl (lv_at hl 0 rfl) ?_
        refine gf_X4_15 C0 hk.1 dX4_make_25 ?_
        refine sx_iload_n C0 dX4_make_28 rfl (lv_at hl 1 rfl) ?_
        refine sx_iload_n C0 dX4_make_29 rfl (lv_at hl 2 rfl) ?_
        refine sx_iast C0 hk.2.2.1 rfl dX4_make_30 (fun S30 => ?_)
        refine sx_aload_n C0 dX4_make_31 rfl (lv_at hl 0 rfl) ?_
        refine gf_X4_9 C0 hk.1 dX4_make_32 ?_
        refine sx_iload_n C0 dX4_make_35 rfl (lv_at hl 1 rfl) ?_
        refine sx_aaldA C0 hk.2.1 (rwl_len _ _) rfl dX4_make_36 (fun x36 hx36 => ?_)
        refine sx_iconst (v := 0) C0 dX4_make_37 (by decide) ?_
        refine sx_iload_n C0 dX4_make_38 rfl (lv_at hl 2 rfl) ?_
        refine sx_iload_n C0 dX4_make_39 rfl (lv_at hl 3 rfl) ?_
        refine sw_bind (fun S40 e40 => ?_)
        refine cv_X4_36 (As := [.ref (ad x36), .int (0 : Int32), .int v2, .int v3]) C0 (c_J7_fill_fda19 C0.2.2.2.2.2.2.2.1 rfl x36 60 (hk.2.2.2 x36 hx36) (0 : Int32) v2 v3 S30 _ e40) ⟨rfl, rfl⟩ ⟨Nat.le_of_ble_eq_true rfl, Nat.le_of_ble_eq_true rfl⟩ rfl hl.1 (Nat.le_of_ble_eq_true rfl) rfl dX4_make_40 (fun _ => ?_)
        exact sx_vret C0 rfl rfl trivial dX4_make_43
      · exact sx_vret C0 rfl rfl trivial dX4_make_23
abbrev rm_X4_fill : Room := { frames := 4, cells := 0, slots := 0, locals := 88 }
def lX4_fill_21 (k z : Nat) (k1 n1 : Nat)   (v1 : Int32) (v3 : Int32) : Nat → vS → Int32 → Option vS
  | 0, _, _ => none
  | n + 1, S, v4 => (if v3 ≤ v4 then (some S) else ((gI (S.1 k1) n1 v4).bind fun a34 => ((mX4_write S k z v1 v4 a34).bind fun S35 => ((lX4_fill_21 k z k1 n1 v1 v3 n) S35 (v4 + (1 : Int32))))))
set_option maxHeartbeats 4000000 in
set_option maxRecDepth 100000 in
theorem lX4_fill_21_t {p : Program} {l : Launch} {e : Env} {s : State} {m : MethodId} {args : Array Value} {below : List Frame} {meth : Method} {c : Code} {D : va_G} {cA : Nat → ClassId} {ad : Nat → Nat} {kl : Nat}   (C0 : Cx D vwCl tlC shC cA ad (ExC ad kl) RX4 cX4_fill 5 none p s m args meth c) (k z : Nat) (hk : IsX4 k z) (k1 n1 : Nat) (h1 : shC[k1]? = some (.inl (0, n1)))  (v1 : Int32) (v3 : Int32)  : ∀ (n : Nat) (S : vS) (v4 : Int32) (ls : Array Slot), lv_has ls 5 [(0, .ref (ad k)), (1, .int v1), (2, .ref (ad k1)), (3, .int v3), (4, .int v4)] → SW p l e rm_X4_fill s m args below meth c D vwCl shC cA ad (Fq D vwCl shC cA ad below args s (fun _ => none : vS → Option Value) (fun S1 => S1) (fun _ => True)) (lX4_fill_21 k z k1 n1 v1 v3 n S v4) S 21 ls [] := by
  intro n
  induction n with
  | zero =>
    intro S v4 ls hl
    rw [lX4_fill_21]
    exact sw_none
  | succ n ih =>
    intro S v4 ls hl
    rw [lX4_fill_21]
    refine sx_iload C0 dX4_fill_21 (lv_at hl 4 rfl) ?_
    refine sx_iload_n C0 dX4_fill_23 rfl (lv_at hl 3 rfl) ?_
    refine sx_icmp_ge (tgt := 44) C0 dX4_fill_24 (by decide) (fun _ => ?_) (fun _ => ?_)
    · exact sx_vret C0 rfl rfl trivial dX4_fill_44
    · refine sx_aload_n C0 dX4_fill_27 rfl (lv_at hl 0 rfl) ?_
      refine sx_iload_n C0 dX4_fill_28 rfl (lv_at hl 1 rfl) ?_
      refine sx_iload C0 dX4_fill_29 (lv_at hl 4 rfl) ?_
      refine sx_aload_n C0 dX4_fill_31 rfl (lv_at hl 2 rfl) ?_
      refine sx_iload C0 dX4_fill_32 (lv_at hl 4 rfl) ?_
      refine sx_iald C0 h1 rfl dX4_fill_34 (fun a34 => ?_)
      refine sw_bind (fun S35 e35 => ?_)
      refine cv_X4_43 (As := [.int v1, .int v4, .int a34]) C0 (c_X4_write C0.2.2.2.2.2.2.2.1 k z hk v1 v4 a34 S _ e35) hk.1 ⟨rfl, rfl⟩ ⟨Nat.le_of_ble_eq_true rfl, Nat.le_of_ble_eq_true rfl⟩ rfl hl.1 (Nat.le_of_ble_eq_true rfl) rfl dX4_fill_35 (fun _ => ?_)
      refine sx_iinc (v := (v4 + (1 : Int32))) (lv' := [(4, .int (v4 + (1 : Int32))), (0, .ref (ad k)), (1, .int v1), (2, .ref (ad k1)), (3, .int v3)]) C0 dX4_fill_38 hl (k := 4) rfl rfl (by decide) rfl (fun ls hl => ?_)
      refine sx_goto (tgt := 21) C0 dX4_fill_41 (by decide) ?_
      exact ih _ _ _ (lv_sub hl [1, 2, 3, 4, 0] rfl)
def mX4_fill (S : vS) (k z : Nat) (v1 : Int32) (k1 n1 : Nat) (v3 : Int32) : Option vS := (if v3 < 0 then (some S) else (if v3 ≤ (Int32.ofNat n1) then ((mX4_make S k z v1 v3 (0 : Int32)).bind fun S15 => (lX4_fill_21 k z k1 n1 v1 v3 FU S15 (0 : Int32))) else (some S)))
set_option maxHeartbeats 4000000 in
set_option maxRecDepth 100000 in
theorem c_X4_fill {l : Launch} {D : va_G} {cA : Nat → ClassId} {ad : Nat → Nat} {kl : Nat} (G : Gx shC ad (ExC ad kl)) (k z : Nat) (hk : IsX4 k z) (v1 : Int32) (k1 n1 : Nat) (h1 : shC[k1]? = some (.inl (0, n1))) (v3 : Int32) (S : vS) (r : vS) (hr : (mX4_fill S k z v1 k1 n1 v3) = some r) : Met l yX4_fill (Cond.code yX4_fill cX4_fill 5 none :: ALL) rm_X4_fill (Po D vwCl tlC shC cA ad (ExC ad kl) [.ref (ad k), .int v1, .ref (ad k1), .int v3] S) (Qo D vwCl shC cA ad none r True) 0 0 (aw shC ad) := by
  refine Met.sx (M := (mX4_fill S k z v1 k1 n1 v3)) (rv := (fun _ => none : vS → Option Value)) (rs := fun S1 => S1) (B := fun _ => True) (by decide) ⟨rfl, rfl⟩ (Nat.le_of_ble_eq_true rfl) G (fun p e s m args below meth c C0 ls hl => ?_) hr
  have hl : lv_has ls 5 [(0, .ref (ad k)), (1, .int v1), (2, .ref (ad k1)), (3, .int v3)] := hl
  rw [mX4_fill]
  refine sx_iload_n C0 dX4_fill_0 rfl (lv_at hl 3 rfl) ?_
  refine sx_if_lt (tgt := 10) C0 dX4_fill_1 (by decide) (fun _ => ?_) (fun _ => ?_)
  · exact sx_vret C0 rfl rfl trivial dX4_fill_10
  · refine sx_iload_n C0 dX4_fill_4 rfl (lv_at hl 3 rfl) ?_
    refine sx_aload_n C0 dX4_fill_5 rfl (lv_at hl 2 rfl) ?_
    refine sx_alen (v := (Int32.ofNat n1)) C0 h1 rfl rfl dX4_fill_6 ?_
    refine sx_icmp_le (tgt := 11) C0 dX4_fill_7 (by decide) (fun _ => ?_) (fun _ => ?_)
    · refine sx_aload_n C0 dX4_fill_11 rfl (lv_at hl 0 rfl) ?_
      refine sx_iload_n C0 dX4_fill_12 rfl (lv_at hl 1 rfl) ?_
      refine sx_iload_n C0 dX4_fill_13 rfl (lv_at hl 3 rfl) ?_
      refine sx_iconst (v := 0) C0 dX4_fill_14 (by decide) ?_
      refine sw_bind (fun S15 e15 => ?_)
      refine cv_X4_39 (As := [.int v1, .int v3, .int (0 : Int32)]) C0 (c_X4_make C0.2.2.2.2.2.2.2.1 k z hk v1 v3 (0 : Int32) S _ e15) hk.1 ⟨rfl, rfl⟩ ⟨Nat.le_of_ble_eq_true rfl, Nat.le_of_ble_eq_true rfl⟩ rfl hl.1 (Nat.le_of_ble_eq_true rfl) rfl dX4_fill_15 (fun _ => ?_)
      refine sx_iconst (v := 0) C0 dX4_fill_18 (by decide) ?_
      refine sx_istore (lv' := [(4, .int (0 : Int32)), (0, .ref (ad k)), (1, .int v1), (2, .ref (ad k1)), (3, .int v3)]) C0 dX4_fill_19 hl (by decide) rfl (fun ls hl => ?_)
      exact lX4_fill_21_t C0 k z hk k1 n1 h1 _ _ _ _ _ _ (lv_sub hl [1, 2, 3, 4, 0] rfl)
    · exact sx_vret C0 rfl rfl trivial dX4_fill_10
abbrev rm_X4_drop : Room := { frames := 1, cells := 0, slots := 0, locals := 21 }
def mX4_drop (S : vS) (k z : Nat) (v1 : Int32) : Option vS := (if (mX4_has S k z v1) = 0 then (some S) else ((pI S (k + 2 + z) z v1 (-1 : Int32)).bind fun S14 => (some S14)))
set_option maxHeartbeats 4000000 in
set_option maxRecDepth 100000 in
theorem c_X4_drop {l : Launch} {D : va_G} {cA : Nat → ClassId} {ad : Nat → Nat} {kl : Nat} (G : Gx shC ad (ExC ad kl)) (k z : Nat) (hk : IsX4 k z) (v1 : Int32) (S : vS) (r : vS) (hr : (mX4_drop S k z v1) = some r) : Met l yX4_drop (Cond.code yX4_drop cX4_drop 2 none :: ALL) rm_X4_drop (Po D vwCl tlC shC cA ad (ExC ad kl) [.ref (ad k), .int v1] S) (Qo D vwCl shC cA ad none r True) 0 0 (aw shC ad) := by
  refine Met.sx (M := (mX4_drop S k z v1)) (rv := (fun _ => none : vS → Option Value)) (rs := fun S1 => S1) (B := fun _ => True) (by decide) ⟨rfl, rfl⟩ (Nat.le_of_ble_eq_true rfl) G (fun p e s m args below meth c C0 ls hl => ?_) hr
  have hl : lv_has ls 2 [(0, .ref (ad k)), (1, .int v1)] := hl
  rw [mX4_drop]
  refine sx_aload_n C0 dX4_drop_0 rfl (lv_at hl 0 rfl) ?_
  refine sx_iload_n C0 dX4_drop_1 rfl (lv_at hl 1 rfl) ?_
  refine cv_X4_25 (As := [.int v1]) C0 (c_X4_has C0.2.2.2.2.2.2.2.1 k z hk v1 S) hk.1 ⟨rfl, rfl⟩ ⟨Nat.le_of_ble_eq_true rfl, Nat.le_of_ble_eq_true rfl⟩ rfl hl.1 (Nat.le_of_ble_eq_true rfl) rfl dX4_drop_2 (fun hb2 => ?_)
  refine sx_if_eq (tgt := 15) C0 dX4_drop_5 (by decide) (fun _ => ?_) (fun _ => ?_)
  · exact sx_vret C0 rfl rfl trivial dX4_drop_15
  · refine sx_aload_n C0 dX4_drop_8 rfl (lv_at hl 0 rfl) ?_
    refine gf_X4_15 C0 hk.1 dX4_drop_9 ?_
    refine sx_iload_n C0 dX4_drop_12 rfl (lv_at hl 1 rfl) ?_
    refine sx_iconst (v := (-1)) C0 dX4_drop_13 (by decide) ?_
    refine sx_iast C0 hk.2.2.1 rfl dX4_drop_14 (fun S14 => ?_)
    exact sx_vret C0 rfl rfl trivial dX4_drop_15
abbrev rm_X4_carry : Room := { frames := 3, cells := 0, slots := 0, locals := 65 }
def mX4_carry (S : vS) (k z : Nat) (v1 : Int32) (v2 : Int32) (v3 : Int32) (v4 : Int32) (v5 : Int32) : Option vS := ((mX4_holds S k z v1 v2 v5).bind fun a5 => (if a5 = 0 then (some S) else ((mX4_holds S k z v3 v4 v5).bind fun a17 => (if a17 = 0 then (some S) else ((aI (rwl k z) v1).bind fun x28 => ((aI (rwl k z) v3).bind fun x35 => ((cI S x28 60 v2 x35 60 v4 v5).bind fun S40 => (some S40))))))))
set_option maxHeartbeats 4000000 in
set_option maxRecDepth 100000 in
theorem c_X4_carry {l : Launch} {D : va_G} {cA : Nat → ClassId} {ad : Nat → Nat} {kl : Nat} (G : Gx shC ad (ExC ad kl)) (k z : Nat) (hk : IsX4 k z) (v1 : Int32) (v2 : Int32) (v3 : Int32) (v4 : Int32) (v5 : Int32) (S : vS) (r : vS) (hr : (mX4_carry S k z v1 v2 v3 v4 v5) = some r) : Met l yX4_carry (Cond.code yX4_carry cX4_carry 6 none :: ALL) rm_X4_carry (Po D vwCl tlC shC cA ad (ExC ad kl) [.ref (ad k), .int v1, .int v2, .int v3, .int v4, .int v5] S) (Qo D vwCl shC cA ad none r True) 0 0 (aw shC ad) := by
  refine Met.sx (M := (mX4_carry S k z v1 v2 v3 v4 v5)) (rv := (fun _ => none : vS → Option Value)) (rs := fun S1 => S1) (B := fun _ => True) (by decide) ⟨rfl, rfl⟩ (Nat.le_of_ble_eq_true rfl) G (fun p e s m args below meth c C0 ls hl => ?_) hr
  have hl : lv_has ls 6 [(0, .ref (ad k)), (1, .int v1), (2, .int v2), (3, .int v3), (4, .int v4), (5, .int v5)] := hl
  rw [mX4_carry]
  refine sx_aload_n C0 dX4_carry_0 rfl (lv_at hl 0 rfl) ?_
  refine sx_iload_n C0 dX4_carry_1 rfl (lv_at hl 1 rfl) ?_
  refine sx_iload_n C0 dX4_carry_2 rfl (lv_at hl 2 rfl) ?_
  refine sx_iload C0 dX4_carry_3 (lv_at hl 5 rfl) ?_
  refine sw_bind (fun a5 e5 => ?_)
  refine cv_X4_32 (As := [.int v1, .int v2, .int v5]) C0 (c_X4_holds C0.2.2.2.2.2.2.2.1 k z hk v1 v2 v5 S _ e5) hk.1 ⟨rfl, rfl⟩ ⟨Nat.le_of_ble_eq_true rfl, Nat.le_of_ble_eq_true rfl⟩ rfl hl.1 (Nat.le_of_ble_eq_true rfl) rfl dX4_carry_5 (fun hb5 => ?_)
  refine sx_if_eq (tgt := 43) C0 dX4_carry_8 (by decide) (fun _ => ?_) (fun _ => ?_)
  · exact sx_vret C0 rfl rfl trivial dX4_carry_43
  · refine sx_aload_n C0 dX4_carry_11 rfl (lv_at hl 0 rfl) ?_
    refine sx_iload_n C0 dX4_carry_12 rfl (lv_at hl 3 rfl) ?_
    refine sx_iload C0 dX4_carry_13 (lv_at hl 4 rfl) ?_
    refine sx_iload C0 dX4_carry_15 (lv_at hl 5 rfl) ?_
    refine sw_bind (fun a17 e17 => ?_)
    refine cv_X4_32 (As := [.int v3, .int v4, .int v5]) C0 (c_X4_holds C0.2.2.2.2.2.2.2.1 k z hk v3 v4 v5 S _ e17) hk.1 ⟨rfl, rfl⟩ ⟨Nat.le_of_ble_eq_true rfl, Nat.le_of_ble_eq_true rfl⟩ rfl hl.1 (Nat.le_of_ble_eq_true rfl) rfl dX4_carry_17 (fun hb17 => ?_)
    refine sx_if_eq (tgt := 43) C0 dX4_carry_20 (by decide) (fun _ => ?_) (fun _ => ?_)
    · exact sx_vret C0 rfl rfl trivial dX4_carry_43
    · refine sx_aload_n C0 dX4_carry_23 rfl (lv_at hl 0 rfl) ?_
      refine gf_X4_9 C0 hk.1 dX4_carry_24 ?_
      refine sx_iload_n C0 dX4_carry_27 rfl (lv_at hl 1 rfl) ?_
      refine sx_aaldA C0 hk.2.1 (rwl_len _ _) rfl dX4_carry_28 (fun x28 hx28 => ?_)
      refine sx_iload_n C0 dX4_carry_29 rfl (lv_at hl 2 rfl) ?_
      refine sx_aload_n C0 dX4_carry_30 rfl (lv_at hl 0 rfl) ?_
      refine gf_X4_9 C0 hk.1 dX4_carry_31 ?_
      refine sx_iload_n C0 dX4_carry_34 rfl (lv_at hl 3 rfl) ?_
      refine sx_aaldA C0 hk.2.1 (rwl_len _ _) rfl dX4_carry_35 (fun x35 hx35 => ?_)
      refine sx_iload C0 dX4_carry_36 (lv_at hl 4 rfl) ?_
      refine sx_iload C0 dX4_carry_38 (lv_at hl 5 rfl) ?_
      refine sx_acopy C0 wm_X4_46 (hk.2.2.2 x28 hx28) (hk.2.2.2 x35 hx35) rfl hl.1 ⟨Nat.le_of_ble_eq_true rfl, Nat.le_of_ble_eq_true rfl⟩ dX4_carry_40 (fun S40 => ?_)
      exact sx_vret C0 rfl rfl trivial dX4_carry_43
abbrev rm_X4_total : Room := { frames := 4, cells := 0, slots := 0, locals := 87 }
def lX4_total_5 (k z : Nat) (S : vS)  (v1 : Int32) : Nat → Int64 → Int32 → Option Int64
  | 0, _, _ => none
  | n + 1, v2, v4 => ((mX4_size S k z v1).bind fun a9 => (if a9 ≤ v4 then (some v2) else ((mX4_read S k z v1 v4).bind fun a20 => (lt (v2 + (Int32.toInt64 a20)) fun v2_25 => ((lX4_total_5 k z S v1 n) v2_25 (v4 + (1 : Int32)))))))
set_option maxHeartbeats 4000000 in
set_option maxRecDepth 100000 in
theorem lX4_total_5_t {p : Program} {l : Launch} {e : Env} {s : State} {m : MethodId} {args : Array Value} {below : List Frame} {meth : Method} {c : Code} {D : va_G} {cA : Nat → ClassId} {ad : Nat → Nat} {kl : Nat}   (C0 : Cx D vwCl tlC shC cA ad (ExC ad kl) RX4 cX4_total 5 (some .long) p s m args meth c) (k z : Nat) (hk : IsX4 k z) (S : vS) (v1 : Int32)  : ∀ (n : Nat) (v2 : Int64) (v4 : Int32) (ls : Array Slot), lv_has ls 5 [(0, .ref (ad k)), (1, .int v1), (2, .long v2), (4, .int v4)] → SW p l e rm_X4_total s m args below meth c D vwCl shC cA ad (Fq D vwCl shC cA ad below args s (fun r => some (.long r) : Int64 → Option Value) (fun _ => S) (fun _ => True)) (lX4_total_5 k z S v1 n v2 v4) S 5 ls [] := by
  intro n
  induction n with
  | zero =>
    intro v2 v4 ls hl
    rw [lX4_total_5]
    exact sw_none
  | succ n ih =>
    intro v2 v4 ls hl
    rw [lX4_total_5]
    refine sx_iload C0 dX4_total_5 (lv_at hl 3 rfl) ?_
    refine sx_aload_n C0 dX4_total_7 rfl (lv_at hl 0 rfl) ?_
    refine sx_iload_n C0 dX4_total_8 rfl (lv_at hl 1 rfl) ?_
    refine sw_bind (fun a9 e9 => ?_)
    refine cv_X4_52 (As := [.int v1]) C0 (c_X4_size C0.2.2.2.2.2.2.2.1 k z hk v1 S _ e9) hk.1 ⟨rfl, rfl⟩ ⟨Nat.le_of_ble_eq_true rfl, Nat.le_of_ble_eq_true rfl⟩ rfl hl.1 (Nat.le_of_ble_eq_true rfl) rfl dX4_total_9 (fun _ => ?_)
    refine sx_icmp_ge (tgt := 32) C0 dX4_total_12 (by decide) (fun _ => ?_) (fun _ => ?_)
    · refine sx_lload_n C0 dX4_total_32 rfl (lv_at hl 2 rfl) ?_
      exact sx_lret C0 rfl rfl trivial dX4_total_33
    · refine sx_lload_n C0 dX4_total_15 rfl (lv_at hl 2 rfl) ?_
      refine sx_aload_n C0 dX4_total_16 rfl (lv_at hl 0 rfl) ?_
      refine sx_iload_n C0 dX4_total_17 rfl (lv_at hl 1 rfl) ?_
      refine sx_iload C0 dX4_total_18 (lv_at hl 3 rfl) ?_
      refine sw_bind (fun a20 e20 => ?_)
      refine cv_X4_56 (As := [.int v1, .int v4]) C0 (c_X4_read C0.2.2.2.2.2.2.2.1 k z hk v1 v4 S _ e20) hk.1 ⟨rfl, rfl⟩ ⟨Nat.le_of_ble_eq_true rfl, Nat.le_of_ble_eq_true rfl⟩ rfl hl.1 (Nat.le_of_ble_eq_true rfl) rfl dX4_total_20 (fun _ => ?_)
      refine sx_i2l C0 dX4_total_23 ?_
      refine sx_ladd C0 dX4_total_24 ?_
      refine sw_lt (val := .long) (fun v2_25 => ?_)
      refine sx_lstore_n (lv' := [(2, .long v2_25), (0, .ref (ad k)), (1, .int v1), (4, .int v4)]) C0 dX4_total_25 rfl hl (by decide) rfl (fun ls hl => ?_)
      refine sx_iinc (v := (v4 + (1 : Int32))) (lv' := [(4, .int (v4 + (1 : Int32))), (2, .long v2_25), (0, .ref (ad k)), (1, .int v1)]) C0 dX4_total_26 hl (k := 3) rfl rfl (by decide) rfl (fun ls hl => ?_)
      refine sx_goto (tgt := 5) C0 dX4_total_29 (by decide) ?_
      exact ih _ _ _ (lv_sub hl [2, 3, 1, 0] rfl)
def mX4_total (S : vS) (k z : Nat) (v1 : Int32) : Option Int64 := (lX4_total_5 k z S v1 FU (0 : Int64) (0 : Int32))
set_option maxHeartbeats 4000000 in
set_option maxRecDepth 100000 in
theorem c_X4_total {l : Launch} {D : va_G} {cA : Nat → ClassId} {ad : Nat → Nat} {kl : Nat} (G : Gx shC ad (ExC ad kl)) (k z : Nat) (hk : IsX4 k z) (v1 : Int32) (S : vS) (r : Int64) (hr : (mX4_total S k z v1) = some r) : Met l yX4_total (Cond.code yX4_total cX4_total 5 (some .long) :: ALL) rm_X4_total (Po D vwCl tlC shC cA ad (ExC ad kl) [.ref (ad k), .int v1] S) (Qo D vwCl shC cA ad (some (.long r)) S True) 0 0 (aw shC ad) := by
  refine Met.sx (M := (mX4_total S k z v1)) (rv := (fun r => some (.long r) : Int64 → Option Value)) (rs := fun _ => S) (B := fun _ => True) (by decide) ⟨rfl, rfl⟩ (Nat.le_of_ble_eq_true rfl) G (fun p e s m args below meth c C0 ls hl => ?_) hr
  have hl : lv_has ls 5 [(0, .ref (ad k)), (1, .int v1)] := hl
  rw [mX4_total]
  refine sx_lconst (v := 0) C0 dX4_total_0 (by decide) ?_
  refine sx_lstore_n (lv' := [(2, .long (0 : Int64)), (0, .ref (ad k)), (1, .int v1)]) C0 dX4_total_1 rfl hl (by decide) rfl (fun ls hl => ?_)
  refine sx_iconst (v := 0) C0 dX4_total_2 (by decide) ?_
  refine sx_istore (lv' := [(4, .int (0 : Int32)), (2, .long (0 : Int64)), (0, .ref (ad k)), (1, .int v1)]) C0 dX4_total_3 hl (by decide) rfl (fun ls hl => ?_)
  exact lX4_total_5_t C0 k z hk _ _ _ _ _ _ (lv_sub hl [2, 3, 1, 0] rfl)
abbrev rm_X4_howManyThere : Room := { frames := 2, cells := 0, slots := 0, locals := 42 }
def lX4_howManyThere_4 (k z : Nat) (S : vS)   : Nat → Int32 → Int32 → Option Int32
  | 0, _, _ => none
  | n + 1, v1, v2 => (if (Int32.ofNat z) ≤ v2 then (some v1) else ((mX4_isThere S k z v2).bind fun a15 => (if a15 = 0 then ((lX4_howManyThere_4 k z S n) v1 (v2 + (1 : Int32))) else ((lX4_howManyThere_4 k z S n) (v1 + (1 : Int32)) (v2 + (1 : Int32))))))
set_option maxHeartbeats 4000000 in
set_option maxRecDepth 100000 in
theorem lX4_howManyThere_4_t {p : Program} {l : Launch} {e : Env} {s : State} {m : MethodId} {args : Array Value} {below : List Frame} {meth : Method} {c : Code} {D : va_G} {cA : Nat → ClassId} {ad : Nat → Nat} {kl : Nat}   (C0 : Cx D vwCl tlC shC cA ad (ExC ad kl) RX4 cX4_howManyThere 3 (some .int) p s m args meth c) (k z : Nat) (hk : IsX4 k z) (S : vS)   : ∀ (n : Nat) (v1 : Int32) (v2 : Int32) (ls : Array Slot), lv_has ls 3 [(0, .ref (ad k)), (1, .int v1), (2, .int v2)] → SW p l e rm_X4_howManyThere s m args below meth c D vwCl shC cA ad (Fq D vwCl shC cA ad below args s (fun r => some (.int r) : Int32 → Option Value) (fun _ => S) (fun _ => True)) (lX4_howManyThere_4 k z S n v1 v2) S 4 ls [] := by
  intro n
  induction n with
  | zero =>
    intro v1 v2 ls hl
    rw [lX4_howManyThere_4]
    exact sw_none
  | succ n ih =>
    intro v1 v2 ls hl
    rw [lX4_howManyThere_4]
    refine sx_iload_n C0 dX4_howManyThere_4 rfl (lv_at hl 2 rfl) ?_
    refine sx_aload_n C0 dX4_howManyThere_5 rfl (lv_at hl 0 rfl) ?_
    refine gf_X4_15 C0 hk.1 dX4_howManyThere_6 ?_
    refine sx_alen (v := (Int32.ofNat z)) C0 hk.2.2.1 rfl rfl dX4_howManyThere_9 ?_
    refine sx_icmp_ge (tgt := 30) C0 dX4_howManyThere_10 (by decide) (fun _ => ?_) (fun _ => ?_)
    · refine sx_iload_n C0 dX4_howManyThere_30 rfl (lv_at hl 1 rfl) ?_
      exact sx_iret C0 rfl rfl trivial dX4_howManyThere_31
    · refine sx_aload_n C0 dX4_howManyThere_13 rfl (lv_at hl 0 rfl) ?_
      refine sx_iload_n C0 dX4_howManyThere_14 rfl (lv_at hl 2 rfl) ?_
      refine sw_bind (fun a15 e15 => ?_)
      refine cv_X4_29 (As := [.int v2]) C0 (c_X4_isThere C0.2.2.2.2.2.2.2.1 k z hk v2 S _ e15) hk.1 ⟨rfl, rfl⟩ ⟨Nat.le_of_ble_eq_true rfl, Nat.le_of_ble_eq_true rfl⟩ rfl hl.1 (Nat.le_of_ble_eq_true rfl) rfl dX4_howManyThere_15 (fun hb15 => ?_)
      refine sx_if_eq (tgt := 24) C0 dX4_howManyThere_18 (by decide) (fun _ => ?_) (fun _ => ?_)
      · refine sx_iinc (v := (v2 + (1 : Int32))) (lv' := [(2, .int (v2 + (1 : Int32))), (0, .ref (ad k)), (1, .int v1)]) C0 dX4_howManyThere_24 hl (k := 2) rfl rfl (by decide) rfl (fun ls hl => ?_)
        refine sx_goto (tgt := 4) C0 dX4_howManyThere_27 (by decide) ?_
        exact ih _ _ _ (lv_sub hl [1, 2, 0] rfl)
      · refine sx_iinc (v := (v1 + (1 : Int32))) (lv' := [(1, .int (v1 + (1 : Int32))), (0, .ref (ad k)), (2, .int v2)]) C0 dX4_howManyThere_21 hl (k := 1) rfl rfl (by decide) rfl (fun ls hl => ?_)
        refine sx_iinc (v := (v2 + (1 : Int32))) (lv' := [(2, .int (v2 + (1 : Int32))), (1, .int (v1 + (1 : Int32))), (0, .ref (ad k))]) C0 dX4_howManyThere_24 hl (k := 2) rfl rfl (by decide) rfl (fun ls hl => ?_)
        refine sx_goto (tgt := 4) C0 dX4_howManyThere_27 (by decide) ?_
        exact ih _ _ _ (lv_sub hl [2, 1, 0] rfl)
def mX4_howManyThere (S : vS) (k z : Nat) : Option Int32 := (lX4_howManyThere_4 k z S FU (0 : Int32) (0 : Int32))
set_option maxHeartbeats 4000000 in
set_option maxRecDepth 100000 in
theorem c_X4_howManyThere {l : Launch} {D : va_G} {cA : Nat → ClassId} {ad : Nat → Nat} {kl : Nat} (G : Gx shC ad (ExC ad kl)) (k z : Nat) (hk : IsX4 k z) (S : vS) (r : Int32) (hr : (mX4_howManyThere S k z) = some r) : Met l yX4_howManyThere (Cond.code yX4_howManyThere cX4_howManyThere 3 (some .int) :: ALL) rm_X4_howManyThere (Po D vwCl tlC shC cA ad (ExC ad kl) [.ref (ad k)] S) (Qo D vwCl shC cA ad (some (.int r)) S True) 0 0 (aw shC ad) := by
  refine Met.sx (M := (mX4_howManyThere S k z)) (rv := (fun r => some (.int r) : Int32 → Option Value)) (rs := fun _ => S) (B := fun _ => True) (by decide) ⟨rfl, rfl⟩ (Nat.le_of_ble_eq_true rfl) G (fun p e s m args below meth c C0 ls hl => ?_) hr
  have hl : lv_has ls 3 [(0, .ref (ad k))] := hl
  rw [mX4_howManyThere]
  refine sx_iconst (v := 0) C0 dX4_howManyThere_0 (by decide) ?_
  refine sx_istore_n (lv' := [(1, .int (0 : Int32)), (0, .ref (ad k))]) C0 dX4_howManyThere_1 rfl hl (by decide) rfl (fun ls hl => ?_)
  refine sx_iconst (v := 0) C0 dX4_howManyThere_2 (by decide) ?_
  refine sx_istore_n (lv' := [(2, .int (0 : Int32)), (1, .int (0 : Int32)), (0, .ref (ad k))]) C0 dX4_howManyThere_3 rfl hl (by decide) rfl (fun ls hl => ?_)
  exact lX4_howManyThere_4_t C0 k z hk _ _ _ _ _ (lv_sub hl [2, 1, 0] rfl)
abbrev rm_X4_digestOnto : Room := { frames := 4, cells := 0, slots := 0, locals := 87 }
def lX4_digestOnto_33 (k z : Nat) (S : vS) (K5 : Int64 → Int32 → Option Int64) (v5 : Int32) : Nat → Int64 → Int32 → Option Int64
  | 0, _, _ => none
  | n + 1, v3, v6 => ((mX4_size S k z v5).bind fun a38 => (if a38 ≤ v6 then (K5 v3 (v5 + (1 : Int32))) else ((mX4_read S k z v5 v6).bind fun a54 => (lt (((31 : Int64) * v3) + (Int32.toInt64 a54)) fun v3_59 => ((lX4_digestOnto_33 k z S K5 v5 n) v3_59 (v6 + (1 : Int32)))))))
set_option maxHeartbeats 4000000 in
set_option maxRecDepth 100000 in
theorem lX4_digestOnto_33_t {p : Program} {l : Launch} {e : Env} {s : State} {m : MethodId} {args : Array Value} {below : List Frame} {meth : Method} {c : Code} {D : va_G} {cA : Nat → ClassId} {ad : Nat → Nat} {kl : Nat} {K5 : Int64 → Int32 → Option Int64}  (C0 : Cx D vwCl tlC shC cA ad (ExC ad kl) RX4 cX4_digestOnto 7 (some .long) p s m args meth c) (k z : Nat) (hk : IsX4 k z) (S : vS) (v5 : Int32) (hK5 : ∀ (v3 : Int64) (v5 : Int32) (ls : Array Slot), lv_has ls 7 [(0, .ref (ad k)), (3, .long v3), (5, .int v5)] → SW p l e rm_X4_digestOnto s m args below meth c D vwCl shC cA ad (Fq D vwCl shC cA ad below args s (fun r => some (.long r) : Int64 → Option Value) (fun _ => S) (fun _ => True)) (K5 v3 v5) S 5 ls []) : ∀ (n : Nat) (v3 : Int64) (v6 : Int32) (ls : Array Slot), lv_has ls 7 [(0, .ref (ad k)), (3, .long v3), (5, .int v5), (6, .int v6)] → SW p l e rm_X4_digestOnto s m args below meth c D vwCl shC cA ad (Fq D vwCl shC cA ad below args s (fun r => some (.long r) : Int64 → Option Value) (fun _ => S) (fun _ => True)) (lX4_digestOnto_33 k z S K5 v5 n v3 v6) S 33 ls [] := by
  intro n
  induction n with
  | zero =>
    intro v3 v6 ls hl
    rw [lX4_digestOnto_33]
    exact sw_none
  | succ n ih =>
    intro v3 v6 ls hl
    rw [lX4_digestOnto_33]
    refine sx_iload C0 dX4_digestOnto_33 (lv_at hl 3 rfl) ?_
    refine sx_aload_n C0 dX4_digestOnto_35 rfl (lv_at hl 0 rfl) ?_
    refine sx_iload C0 dX4_digestOnto_36 (lv_at hl 2 rfl) ?_
    refine sw_bind (fun a38 e38 => ?_)
    refine cv_X4_52 (As := [.int v5]) C0 (c_X4_size C0.2.2.2.2.2.2.2.1 k z hk v5 S _ e38) hk.1 ⟨rfl, rfl⟩ ⟨Nat.le_of_ble_eq_true rfl, Nat.le_of_ble_eq_true rfl⟩ rfl hl.1 (Nat.le_of_ble_eq_true rfl) rfl dX4_digestOnto_38 (fun _ => ?_)
    refine sx_icmp_ge (tgt := 66) C0 dX4_digestOnto_41 (by decide) (fun _ => ?_) (fun _ => ?_)
    · refine sx_iinc (v := (v5 + (1 : Int32))) (lv' := [(5, .int (v5 + (1 : Int32))), (0, .ref (ad k)), (3, .long v3), (6, .int v6)]) C0 dX4_digestOnto_66 hl (k := 2) rfl rfl (by decide) rfl (fun ls hl => ?_)
      refine sx_goto (tgt := 5) C0 dX4_digestOnto_69 (by decide) ?_
      exact hK5 _ _ _ (lv_sub hl [1, 2, 0] rfl)
    · refine sx_ldc2 C0 wk_X4_60 dX4_digestOnto_44 ?_
      refine sx_lload_n C0 dX4_digestOnto_47 rfl (lv_at hl 1 rfl) ?_
      refine sx_lmul C0 dX4_digestOnto_48 ?_
      refine sx_aload_n C0 dX4_digestOnto_49 rfl (lv_at hl 0 rfl) ?_
      refine sx_iload C0 dX4_digestOnto_50 (lv_at hl 2 rfl) ?_
      refine sx_iload C0 dX4_digestOnto_52 (lv_at hl 3 rfl) ?_
      refine sw_bind (fun a54 e54 => ?_)
      refine cv_X4_56 (As := [.int v5, .int v6]) C0 (c_X4_read C0.2.2.2.2.2.2.2.1 k z hk v5 v6 S _ e54) hk.1 ⟨rfl, rfl⟩ ⟨Nat.le_of_ble_eq_true rfl, Nat.le_of_ble_eq_true rfl⟩ rfl hl.1 (Nat.le_of_ble_eq_true rfl) rfl dX4_digestOnto_54 (fun _ => ?_)
      refine sx_i2l C0 dX4_digestOnto_57 ?_
      refine sx_ladd C0 dX4_digestOnto_58 ?_
      refine sw_lt (val := .long) (fun v3_59 => ?_)
      refine sx_lstore_n (lv' := [(3, .long v3_59), (0, .ref (ad k)), (5, .int v5), (6, .int v6)]) C0 dX4_digestOnto_59 rfl hl (by decide) rfl (fun ls hl => ?_)
      refine sx_iinc (v := (v6 + (1 : Int32))) (lv' := [(6, .int (v6 + (1 : Int32))), (3, .long v3_59), (0, .ref (ad k)), (5, .int v5)]) C0 dX4_digestOnto_60 hl (k := 3) rfl rfl (by decide) rfl (fun ls hl => ?_)
      refine sx_goto (tgt := 33) C0 dX4_digestOnto_63 (by decide) ?_
      exact ih _ _ _ (lv_sub hl [2, 1, 3, 0] rfl)
def lX4_digestOnto_5 (k z : Nat) (S : vS)   : Nat → Int64 → Int32 → Option Int64
  | 0, _, _ => none
  | n + 1, v3, v5 => (if (Int32.ofNat z) ≤ v5 then (some v3) else ((gI (S.1 (k + 2 + z)) z v5).bind fun a26 => (lt (((31 : Int64) * v3) + (Int32.toInt64 a26)) fun v3_29 => (lX4_digestOnto_33 k z S (lX4_digestOnto_5 k z S n) v5 FU v3_29 (0 : Int32)))))
set_option maxHeartbeats 4000000 in
set_option maxRecDepth 100000 in
theorem lX4_digestOnto_5_t {p : Program} {l : Launch} {e : Env} {s : State} {m : MethodId} {args : Array Value} {below : List Frame} {meth : Method} {c : Code} {D : va_G} {cA : Nat → ClassId} {ad : Nat → Nat} {kl : Nat}   (C0 : Cx D vwCl tlC shC cA ad (ExC ad kl) RX4 cX4_digestOnto 7 (some .long) p s m args meth c) (k z : Nat) (hk : IsX4 k z) (S : vS)   : ∀ (n : Nat) (v3 : Int64) (v5 : Int32) (ls : Array Slot), lv_has ls 7 [(0, .ref (ad k)), (3, .long v3), (5, .int v5)] → SW p l e rm_X4_digestOnto s m args below meth c D vwCl shC cA ad (Fq D vwCl shC cA ad below args s (fun r => some (.long r) : Int64 → Option Value) (fun _ => S) (fun _ => True)) (lX4_digestOnto_5 k z S n v3 v5) S 5 ls [] := by
  intro n
  induction n with
  | zero =>
    intro v3 v5 ls hl
    rw [lX4_digestOnto_5]
    exact sw_none
  | succ n ih =>
    intro v3 v5 ls hl
    rw [lX4_digestOnto_5]
    refine sx_iload C0 dX4_digestOnto_5 (lv_at hl 2 rfl) ?_
    refine sx_aload_n C0 dX4_digestOnto_7 rfl (lv_at hl 0 rfl) ?_
    refine gf_X4_15 C0 hk.1 dX4_digestOnto_8 ?_
    refine sx_alen (v := (Int32.ofNat z)) C0 hk.2.2.1 rfl rfl dX4_digestOnto_11 ?_
    refine sx_icmp_ge (tgt := 72) C0 dX4_digestOnto_12 (by decide) (fun _ => ?_) (fun _ => ?_)
    · refine sx_lload_n C0 dX4_digestOnto_72 rfl (lv_at hl 1 rfl) ?_
      exact sx_lret C0 rfl rfl trivial dX4_digestOnto_73
    · refine sx_ldc2 C0 wk_X4_60 dX4_digestOnto_15 ?_
      refine sx_lload_n C0 dX4_digestOnto_18 rfl (lv_at hl 1 rfl) ?_
      refine sx_lmul C0 dX4_digestOnto_19 ?_
      refine sx_aload_n C0 dX4_digestOnto_20 rfl (lv_at hl 0 rfl) ?_
      refine gf_X4_15 C0 hk.1 dX4_digestOnto_21 ?_
      refine sx_iload C0 dX4_digestOnto_24 (lv_at hl 2 rfl) ?_
      refine sx_iald C0 hk.2.2.1 rfl dX4_digestOnto_26 (fun a26 => ?_)
      refine sx_i2l C0 dX4_digestOnto_27 ?_
      refine sx_ladd C0 dX4_digestOnto_28 ?_
      refine sw_lt (val := .long) (fun v3_29 => ?_)
      refine sx_lstore_n (lv' := [(3, .long v3_29), (0, .ref (ad k)), (5, .int v5)]) C0 dX4_digestOnto_29 rfl hl (by decide) rfl (fun ls hl => ?_)
      refine sx_iconst (v := 0) C0 dX4_digestOnto_30 (by decide) ?_
      refine sx_istore (lv' := [(6, .int (0 : Int32)), (3, .long v3_29), (0, .ref (ad k)), (5, .int v5)]) C0 dX4_digestOnto_31 hl (by decide) rfl (fun ls hl => ?_)
      exact lX4_digestOnto_33_t C0 k z hk _ _ ih _ _ _ _ (lv_sub hl [2, 1, 3, 0] rfl)
def mX4_digestOnto (S : vS) (k z : Nat) (v1 : Int64) : Option Int64 := (lX4_digestOnto_5 k z S FU v1 (0 : Int32))
set_option maxHeartbeats 4000000 in
set_option maxRecDepth 100000 in
theorem c_X4_digestOnto {l : Launch} {D : va_G} {cA : Nat → ClassId} {ad : Nat → Nat} {kl : Nat} (G : Gx shC ad (ExC ad kl)) (k z : Nat) (hk : IsX4 k z) (v1 : Int64) (S : vS) (r : Int64) (hr : (mX4_digestOnto S k z v1) = some r) : Met l yX4_digestOnto (Cond.code yX4_digestOnto cX4_digestOnto 7 (some .long) :: ALL) rm_X4_digestOnto (Po D vwCl tlC shC cA ad (ExC ad kl) [.ref (ad k), .long v1] S) (Qo D vwCl shC cA ad (some (.long r)) S True) 0 0 (aw shC ad) := by
  refine Met.sx (M := (mX4_digestOnto S k z v1)) (rv := (fun r => some (.long r) : Int64 → Option Value)) (rs := fun _ => S) (B := fun _ => True) (by decide) ⟨rfl, rfl⟩ (Nat.le_of_ble_eq_true rfl) G (fun p e s m args below meth c C0 ls hl => ?_) hr
  have hl : lv_has ls 7 [(0, .ref (ad k)), (1, .long v1)] := hl
  rw [mX4_digestOnto]
  refine sx_lload_n C0 dX4_digestOnto_0 rfl (lv_at hl 1 rfl) ?_
  refine sx_lstore_n (lv' := [(3, .long v1), (0, .ref (ad k)), (1, .long v1)]) C0 dX4_digestOnto_1 rfl hl (by decide) rfl (fun ls hl => ?_)
  refine sx_iconst (v := 0) C0 dX4_digestOnto_2 (by decide) ?_
  refine sx_istore (lv' := [(5, .int (0 : Int32)), (3, .long v1), (0, .ref (ad k)), (1, .long v1)]) C0 dX4_digestOnto_3 hl (by decide) rfl (fun ls hl => ?_)
  exact lX4_digestOnto_5_t C0 k z hk _ _ _ _ _ (lv_sub hl [2, 1, 0] rfl)
