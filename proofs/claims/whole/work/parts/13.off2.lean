abbrev rm_X6_greatestCommonDivisor : Room := { frames := 0, cells := 0, slots := 0, locals := 0 }
def lX6_greatestCommonDivisor_7     : Nat → Int32 → Int32 → Int32 → Option Int32
  | 0, _, _, _ => none
  | n + 1, v2, v3, v4 => (if (64 : Int32) ≤ v4 then (some v2) else (if v3 = 0 then (some v2) else ((rI v2 v3).bind fun a20 => ((lX6_greatestCommonDivisor_7 n) v3 a20 (v4 + (1 : Int32))))))
set_option maxHeartbeats 4000000 in
set_option maxRecDepth 100000 in
theorem lX6_greatestCommonDivisor_7_t {p : Program} {l : Launch} {e : Env} {s : State} {m : MethodId} {args : Array Value} {below : List Frame} {meth : Method} {c : Code} {D : va_G} {cA : Nat → ClassId} {ad : Nat → Nat} {kl : Nat}  {S : vS} (C0 : Cx D vwCl tlC shC cA ad (ExC ad kl) RX6 cX6_greatestCommonDivisor 6 (some .int) p s m args meth c)     : ∀ (n : Nat) (v2 : Int32) (v3 : Int32) (v4 : Int32) (ls : Array Slot), lv_has ls 6 [(2, .int v2), (3, .int v3), (4, .int v4)] → SW p l e rm_X6_greatestCommonDivisor s m args below meth c D vwCl shC cA ad (Fq D vwCl shC cA ad below args s (fun r => some (.int r) : Int32 → Option Value) (fun _ => S) (fun _ => True)) (lX6_greatestCommonDivisor_7 n v2 v3 v4) S 7 ls [] := by
  intro n
  induction n with
  | zero =>
    intro v2 v3 v4 ls hl
    rw [lX6_greatestCommonDivisor_7]
    exact sw_none
  | succ n ih =>
    intro v2 v3 v4 ls hl
    rw [lX6_greatestCommonDivisor_7]
    refine sx_iload C0 dX6_greatestCommonDivisor_7 (lv_at hl 2 rfl) ?_
    refine sx_bipush (v := 64) C0 dX6_greatestCommonDivisor_9 (by decide) ?_
    refine sx_icmp_ge (tgt := 34) C0 dX6_greatestCommonDivisor_11 (by decide) (fun _ => ?_) (fun _ => ?_)
    · refine sx_iload_n C0 dX6_greatestCommonDivisor_34 rfl (lv_at hl 0 rfl) ?_
      exact sx_iret C0 rfl rfl trivial dX6_greatestCommonDivisor_35
    · refine sx_iload_n C0 dX6_greatestCommonDivisor_14 rfl (lv_at hl 1 rfl) ?_
      refine sx_if_eq (tgt := 34) C0 dX6_greatestCommonDivisor_15 (by decide) (fun _ => ?_) (fun _ => ?_)
      · refine sx_iload_n C0 dX6_greatestCommonDivisor_34 rfl (lv_at hl 0 rfl) ?_
        exact sx_iret C0 rfl rfl trivial dX6_greatestCommonDivisor_35
      · refine sx_iload_n C0 dX6_greatestCommonDivisor_18 rfl (lv_at hl 0 rfl) ?_
        refine sx_iload_n C0 dX6_greatestCommonDivisor_19 rfl (lv_at hl 1 rfl) ?_
        refine sx_iremO C0 dX6_greatestCommonDivisor_20 (fun a20 => ?_)
        refine sx_istore (lv' := [(5, .int a20), (2, .int v2), (3, .int v3), (4, .int v4)]) C0 dX6_greatestCommonDivisor_21 hl (by decide) rfl (fun ls hl => ?_)
        refine sx_iload_n C0 dX6_greatestCommonDivisor_23 rfl (lv_at hl 2 rfl) ?_
        refine sx_istore_n (lv' := [(2, .int v3), (5, .int a20), (3, .int v3), (4, .int v4)]) C0 dX6_greatestCommonDivisor_24 rfl hl (by decide) rfl (fun ls hl => ?_)
        refine sx_iload C0 dX6_greatestCommonDivisor_25 (lv_at hl 1 rfl) ?_
        refine sx_istore_n (lv' := [(3, .int a20), (2, .int v3), (5, .int a20), (4, .int v4)]) C0 dX6_greatestCommonDivisor_27 rfl hl (by decide) rfl (fun ls hl => ?_)
        refine sx_iinc (v := (v4 + (1 : Int32))) (lv' := [(4, .int (v4 + (1 : Int32))), (3, .int a20), (2, .int v3), (5, .int a20)]) C0 dX6_greatestCommonDivisor_28 hl (k := 3) rfl rfl (by decide) rfl (fun ls hl => ?_)
        refine sx_goto (tgt := 7) C0 dX6_greatestCommonDivisor_31 (by decide) ?_
        exact ih _ _ _ _ (lv_sub hl [2, 1, 0] rfl)
def mX6_greatestCommonDivisor (v0 : Int32) (v1 : Int32) : Option Int32 := (lX6_greatestCommonDivisor_7 FU v0 v1 (0 : Int32))
set_option maxHeartbeats 4000000 in
set_option maxRecDepth 100000 in
theorem c_X6_greatestCommonDivisor {l : Launch} {D : va_G} {cA : Nat → ClassId} {ad : Nat → Nat} {kl : Nat} (G : Gx shC ad (ExC ad kl)) (v0 : Int32) (v1 : Int32) (S : vS) (r : Int32) (hr : (mX6_greatestCommonDivisor v0 v1) = some r) : Met l yX6_greatestCommonDivisor (Cond.code yX6_greatestCommonDivisor cX6_greatestCommonDivisor 6 (some .int) :: ALL) rm_X6_greatestCommonDivisor (Po D vwCl tlC shC cA ad (ExC ad kl) [.int v0, .int v1] S) (Qo D vwCl shC cA ad (some (.int r)) S True) 0 0 (aw shC ad) := by
  refine Met.sx (M := (mX6_greatestCommonDivisor v0 v1)) (rv := (fun r => some (.int r) : Int32 → Option Value)) (rs := fun _ => S) (B := fun _ => True) (by decide) ⟨rfl, rfl⟩ (Nat.le_of_ble_eq_true rfl) G (fun p e s m args below meth c C0 ls hl => ?_) hr
  have hl : lv_has ls 6 [(0, .int v0), (1, .int v1)] := hl
  rw [mX6_greatestCommonDivisor]
  refine sx_iload_n C0 dX6_greatestCommonDivisor_0 rfl (lv_at hl 0 rfl) ?_
  refine sx_istore_n (lv' := [(2, .int v0), (0, .int v0), (1, .int v1)]) C0 dX6_greatestCommonDivisor_1 rfl hl (by decide) rfl (fun ls hl => ?_)
  refine sx_iload_n C0 dX6_greatestCommonDivisor_2 rfl (lv_at hl 2 rfl) ?_
  refine sx_istore_n (lv' := [(3, .int v1), (2, .int v0), (0, .int v0), (1, .int v1)]) C0 dX6_greatestCommonDivisor_3 rfl hl (by decide) rfl (fun ls hl => ?_)
  refine sx_iconst (v := 0) C0 dX6_greatestCommonDivisor_4 (by decide) ?_
  refine sx_istore (lv' := [(4, .int (0 : Int32)), (3, .int v1), (2, .int v0), (0, .int v0), (1, .int v1)]) C0 dX6_greatestCommonDivisor_5 hl (by decide) rfl (fun ls hl => ?_)
  exact lX6_greatestCommonDivisor_7_t C0 _ _ _ _ _ (lv_sub hl [2, 1, 0] rfl)
abbrev rm_X6_tellFraction : Room := { frames := 1, cells := 0, slots := 0, locals := 26 }
def mX6_tellFraction (S : vS) (v1 : Int32) (v2 : Int32) : Option vS := ((mX6_greatestCommonDivisor v1 v2).bind fun a3 => (lt (mxI (1 : Int32) a3) fun v3_9 => ((dI v1 v3_9).bind fun a13 => (lt (wL S 0 12 (Int32.toInt64 a13)) fun S15 => ((dI v2 v3_9).bind fun a21 => (lt (wL S15 0 13 (Int32.toInt64 a21)) fun S23 => (some S23)))))))
set_option maxHeartbeats 4000000 in
set_option maxRecDepth 100000 in
theorem c_X6_tellFraction {l : Launch} {D : va_G} {cA : Nat → ClassId} {ad : Nat → Nat} {kl : Nat} (G : Gx shC ad (ExC ad kl)) (v1 : Int32) (v2 : Int32) (S : vS) (r : vS) (hr : (mX6_tellFraction S v1 v2) = some r) : Met l yX6_tellFraction (Cond.code yX6_tellFraction cX6_tellFraction 4 none :: ALL) rm_X6_tellFraction (Po D vwCl tlC shC cA ad (ExC ad kl) [.ref (ad 0), .int v1, .int v2] S) (Qo D vwCl shC cA ad none r True) 0 0 (aw shC ad) := by
  refine Met.sx (M := (mX6_tellFraction S v1 v2)) (rv := (fun _ => none : vS → Option Value)) (rs := fun S1 => S1) (B := fun _ => True) (by decide) ⟨rfl, rfl⟩ (Nat.le_of_ble_eq_true rfl) G (fun p e s m args below meth c C0 ls hl => ?_) hr
  have hl : lv_has ls 4 [(0, .ref (ad 0)), (1, .int v1), (2, .int v2)] := hl
  rw [mX6_tellFraction]
  refine sx_iconst (v := 1) C0 dX6_tellFraction_0 (by decide) ?_
  refine sx_iload_n C0 dX6_tellFraction_1 rfl (lv_at hl 1 rfl) ?_
  refine sx_iload_n C0 dX6_tellFraction_2 rfl (lv_at hl 2 rfl) ?_
  refine sw_bind (fun a3 e3 => ?_)
  refine cv_X6_352 (As := [.int v1, .int v2]) C0 (c_X6_greatestCommonDivisor C0.2.2.2.2.2.2.2.1 v1 v2 S _ e3) ⟨rfl, rfl⟩ ⟨Nat.le_of_ble_eq_true rfl, Nat.le_of_ble_eq_true rfl⟩ rfl hl.1 (Nat.le_of_ble_eq_true rfl) rfl dX6_tellFraction_3 (fun _ => ?_)
  refine sx_mmax C0 wm_X6_355 hl.1 ⟨Nat.le_of_ble_eq_true rfl, Nat.le_of_ble_eq_true rfl⟩ dX6_tellFraction_6 ?_
  refine sw_lt (val := .int) (fun v3_9 => ?_)
  refine sx_istore_n (lv' := [(3, .int v3_9), (0, .ref (ad 0)), (1, .int v1), (2, .int v2)]) C0 dX6_tellFraction_9 rfl hl (by decide) rfl (fun ls hl => ?_)
  refine sx_aload_n C0 dX6_tellFraction_10 rfl (lv_at hl 1 rfl) ?_
  refine sx_iload_n C0 dX6_tellFraction_11 rfl (lv_at hl 2 rfl) ?_
  refine sx_iload_n C0 dX6_tellFraction_12 rfl (lv_at hl 0 rfl) ?_
  refine sx_idivO C0 dX6_tellFraction_13 (fun a13 => ?_)
  refine sx_i2l C0 dX6_tellFraction_14 ?_
  refine pf_X6_76 C0 is6 dX6_tellFraction_15 (fun S15 => ?_)
  refine sx_aload_n C0 dX6_tellFraction_18 rfl (lv_at hl 1 rfl) ?_
  refine sx_iload_n C0 dX6_tellFraction_19 rfl (lv_at hl 3 rfl) ?_
  refine sx_iload_n C0 dX6_tellFraction_20 rfl (lv_at hl 0 rfl) ?_
  refine sx_idivO C0 dX6_tellFraction_21 (fun a21 => ?_)
  refine sx_i2l C0 dX6_tellFraction_22 ?_
  refine pf_X6_80 C0 is6 dX6_tellFraction_23 (fun S23 => ?_)
  exact sx_vret C0 rfl rfl trivial dX6_tellFraction_26
abbrev rm_X6_share : Room := { frames := 14, cells := 0, slots := 0, locals := 330 }
def mX6_share (S : vS) (v1 : Int32) : Option (Int32 × vS) := (if (mX6_isPlanLength v1) = 0 then (some ((-1 : Int32), S)) else (if (mX6_noGods S) = 0 then ((mX1_seekAll S 95 (30 + 1) (30 + 11) v1).bind fun S38 => ((mX6_tellFraction S38 (S38.1 95 7) (S38.1 95 6)).bind fun S56 => (some ((S56.1 95 7), S56)))) else (some ((-4 : Int32), S))))
set_option maxHeartbeats 4000000 in
set_option maxRecDepth 100000 in
theorem c_X6_share {l : Launch} {D : va_G} {cA : Nat → ClassId} {ad : Nat → Nat} {kl : Nat} (G : Gx shC ad (ExC ad kl)) (v1 : Int32) (S : vS) (r : (Int32 × vS)) (hr : (mX6_share S v1) = some r) : Met l yX6_share (Cond.code yX6_share cX6_share 2 (some .int) :: ALL) rm_X6_share (Po D vwCl tlC shC cA ad (ExC ad kl) [.ref (ad 0), .int v1] S) (Qo D vwCl shC cA ad (some (.int r.1)) r.2 True) 0 0 (aw shC ad) := by
  refine Met.sx (M := (mX6_share S v1)) (rv := (fun q => some (.int q.1) : (Int32 × vS) → Option Value)) (rs := fun q => q.2) (B := fun _ => True) (by decide) ⟨rfl, rfl⟩ (Nat.le_of_ble_eq_true rfl) G (fun p e s m args below meth c C0 ls hl => ?_) hr
  have hl : lv_has ls 2 [(0, .ref (ad 0)), (1, .int v1)] := hl
  rw [mX6_share]
  refine sx_iload_n C0 dX6_share_0 rfl (lv_at hl 1 rfl) ?_
  refine cv_X6_228 (As := [.int v1]) C0 (c_X6_isPlanLength C0.2.2.2.2.2.2.2.1 v1 S) ⟨rfl, rfl⟩ ⟨Nat.le_of_ble_eq_true rfl, Nat.le_of_ble_eq_true rfl⟩ rfl hl.1 (Nat.le_of_ble_eq_true rfl) rfl dX6_share_1 (fun hb1 => ?_)
  refine sx_if_ne (tgt := 9) C0 dX6_share_4 (by decide) (fun _ => ?_) (fun _ => ?_)
  · refine sx_iconst (v := (-1)) C0 dX6_share_7 (by decide) ?_
    exact sx_iret C0 rfl rfl trivial dX6_share_8
  · refine sx_aload_n C0 dX6_share_9 rfl (lv_at hl 0 rfl) ?_
    refine cv_X6_183 (As := []) C0 (c_X6_noGods C0.2.2.2.2.2.2.2.1 S) is6 ⟨rfl, rfl⟩ ⟨Nat.le_of_ble_eq_true rfl, Nat.le_of_ble_eq_true rfl⟩ rfl hl.1 (Nat.le_of_ble_eq_true rfl) rfl dX6_share_10 (fun hb10 => ?_)
    refine sx_if_eq (tgt := 19) C0 dX6_share_13 (by decide) (fun _ => ?_) (fun _ => ?_)
    · refine sx_aload_n C0 dX6_share_19 rfl (lv_at hl 0 rfl) ?_
      refine gf_X6_44 C0 is6 dX6_share_20 ?_
      refine sx_aload_n C0 dX6_share_23 rfl (lv_at hl 0 rfl) ?_
      refine gf_X6_33 C0 is6 dX6_share_24 ?_
      refine gf_X6_149 C0 is6_village.1 dX6_share_27 ?_
      refine sx_aload_n C0 dX6_share_30 rfl (lv_at hl 0 rfl) ?_
      refine gf_X6_33 C0 is6 dX6_share_31 ?_
      refine gf_X6_167 C0 is6_village.1 dX6_share_34 ?_
      refine sx_iload_n C0 dX6_share_37 rfl (lv_at hl 1 rfl) ?_
      refine sw_bind (fun S38 e38 => ?_)
      refine cv_X6_231 (As := [.ref (ad (30 + 1)), .ref (ad (30 + 11)), .int v1]) C0 (c_X1_seekAll C0.2.2.2.2.2.2.2.1 95 is6_plans (30 + 1) is6_village.2.1 (30 + 11) is6_village.2.2.1 v1 S _ e38) is6_plans.1 ⟨rfl, rfl⟩ ⟨Nat.le_of_ble_eq_true rfl, Nat.le_of_ble_eq_true rfl⟩ rfl hl.1 (Nat.le_of_ble_eq_true rfl) rfl dX6_share_38 (fun _ => ?_)
      refine sx_aload_n C0 dX6_share_41 rfl (lv_at hl 0 rfl) ?_
      refine sx_aload_n C0 dX6_share_42 rfl (lv_at hl 0 rfl) ?_
      refine gf_X6_44 C0 is6 dX6_share_43 ?_
      refine gf_X6_265 C0 is6_plans.1 dX6_share_46 ?_
      refine sx_aload_n C0 dX6_share_49 rfl (lv_at hl 0 rfl) ?_
      refine gf_X6_44 C0 is6 dX6_share_50 ?_
      refine gf_X6_263 C0 is6_plans.1 dX6_share_53 ?_
      refine sw_bind (fun S56 e56 => ?_)
      refine cv_X6_268 (As := [.int (S38.1 95 7), .int (S38.1 95 6)]) C0 (c_X6_tellFraction C0.2.2.2.2.2.2.2.1 (S38.1 95 7) (S38.1 95 6) S38 _ e56) is6 ⟨rfl, rfl⟩ ⟨Nat.le_of_ble_eq_true rfl, Nat.le_of_ble_eq_true rfl⟩ rfl hl.1 (Nat.le_of_ble_eq_true rfl) rfl dX6_share_56 (fun _ => ?_)
      refine sx_aload_n C0 dX6_share_59 rfl (lv_at hl 0 rfl) ?_
      refine gf_X6_44 C0 is6 dX6_share_60 ?_
      refine gf_X6_265 C0 is6_plans.1 dX6_share_63 ?_
      exact sx_iret C0 rfl rfl trivial dX6_share_66
    · refine sx_bipush (v := (-4)) C0 dX6_share_16 (by decide) ?_
      exact sx_iret C0 rfl rfl trivial dX6_share_18
abbrev rm_X6_food : Room := { frames := 14, cells := 0, slots := 0, locals := 331 }
def mX6_food (S : vS) (v1 : Int32) : Option (Int32 × vS) := (if (mX6_isPlanLength v1) = 0 then (some ((-1 : Int32), S)) else (if (mX6_noGods S) = 0 then ((mX1_seekHarmless S 95 (30 + 1) (30 + 11) v1 (0 : Int32)).bind fun S39 => (if (S39.1 95 6) = 0 then (some ((-9 : Int32), S39)) else (some ((S39.1 95 11), S39)))) else (some ((-4 : Int32), S))))
set_option maxHeartbeats 4000000 in
set_option maxRecDepth 100000 in
theorem c_X6_food {l : Launch} {D : va_G} {cA : Nat → ClassId} {ad : Nat → Nat} {kl : Nat} (G : Gx shC ad (ExC ad kl)) (v1 : Int32) (S : vS) (r : (Int32 × vS)) (hr : (mX6_food S v1) = some r) : Met l yX6_food (Cond.code yX6_food cX6_food 2 (some .int) :: ALL) rm_X6_food (Po D vwCl tlC shC cA ad (ExC ad kl) [.ref (ad 0), .int v1] S) (Qo D vwCl shC cA ad (some (.int r.1)) r.2 True) 0 0 (aw shC ad) := by
  refine Met.sx (M := (mX6_food S v1)) (rv := (fun q => some (.int q.1) : (Int32 × vS) → Option Value)) (rs := fun q => q.2) (B := fun _ => True) (by decide) ⟨rfl, rfl⟩ (Nat.le_of_ble_eq_true rfl) G (fun p e s m args below meth c C0 ls hl => ?_) hr
  have hl : lv_has ls 2 [(0, .ref (ad 0)), (1, .int v1)] := hl
  rw [mX6_food]
  refine sx_iload_n C0 dX6_food_0 rfl (lv_at hl 1 rfl) ?_
  refine cv_X6_228 (As := [.int v1]) C0 (c_X6_isPlanLength C0.2.2.2.2.2.2.2.1 v1 S) ⟨rfl, rfl⟩ ⟨Nat.le_of_ble_eq_true rfl, Nat.le_of_ble_eq_true rfl⟩ rfl hl.1 (Nat.le_of_ble_eq_true rfl) rfl dX6_food_1 (fun hb1 => ?_)
  refine sx_if_ne (tgt := 9) C0 dX6_food_4 (by decide) (fun _ => ?_) (fun _ => ?_)
  · refine sx_iconst (v := (-1)) C0 dX6_food_7 (by decide) ?_
    exact sx_iret C0 rfl rfl trivial dX6_food_8
  · refine sx_aload_n C0 dX6_food_9 rfl (lv_at hl 0 rfl) ?_
    refine cv_X6_183 (As := []) C0 (c_X6_noGods C0.2.2.2.2.2.2.2.1 S) is6 ⟨rfl, rfl⟩ ⟨Nat.le_of_ble_eq_true rfl, Nat.le_of_ble_eq_true rfl⟩ rfl hl.1 (Nat.le_of_ble_eq_true rfl) rfl dX6_food_10 (fun hb10 => ?_)
    refine sx_if_eq (tgt := 19) C0 dX6_food_13 (by decide) (fun _ => ?_) (fun _ => ?_)
    · refine sx_aload_n C0 dX6_food_19 rfl (lv_at hl 0 rfl) ?_
      refine gf_X6_44 C0 is6 dX6_food_20 ?_
      refine sx_aload_n C0 dX6_food_23 rfl (lv_at hl 0 rfl) ?_
      refine gf_X6_33 C0 is6 dX6_food_24 ?_
      refine gf_X6_149 C0 is6_village.1 dX6_food_27 ?_
      refine sx_aload_n C0 dX6_food_30 rfl (lv_at hl 0 rfl) ?_
      refine gf_X6_33 C0 is6 dX6_food_31 ?_
      refine gf_X6_167 C0 is6_village.1 dX6_food_34 ?_
      refine sx_iload_n C0 dX6_food_37 rfl (lv_at hl 1 rfl) ?_
      refine sx_iconst (v := 0) C0 dX6_food_38 (by decide) ?_
      refine sw_bind (fun S39 e39 => ?_)
      refine cv_X6_259 (As := [.ref (ad (30 + 1)), .ref (ad (30 + 11)), .int v1, .int (0 : Int32)]) C0 (c_X1_seekHarmless C0.2.2.2.2.2.2.2.1 95 is6_plans (30 + 1) is6_village.2.1 (30 + 11) is6_village.2.2.1 v1 (0 : Int32) (Or.inl rfl) S _ e39) is6_plans.1 ⟨rfl, rfl⟩ ⟨Nat.le_of_ble_eq_true rfl, Nat.le_of_ble_eq_true rfl⟩ rfl hl.1 (Nat.le_of_ble_eq_true rfl) rfl dX6_food_39 (fun _ => ?_)
      refine sx_aload_n C0 dX6_food_42 rfl (lv_at hl 0 rfl) ?_
      refine gf_X6_44 C0 is6 dX6_food_43 ?_
      refine gf_X6_263 C0 is6_plans.1 dX6_food_46 ?_
      refine sx_if_ne (tgt := 57) C0 dX6_food_49 (by decide) (fun _ => ?_) (fun _ => ?_)
      · refine sx_bipush (v := (-9)) C0 dX6_food_52 (by decide) ?_
        refine sx_goto (tgt := 64) C0 dX6_food_54 (by decide) ?_
        exact sx_iret C0 rfl rfl trivial dX6_food_64
      · refine sx_aload_n C0 dX6_food_57 rfl (lv_at hl 0 rfl) ?_
        refine gf_X6_44 C0 is6 dX6_food_58 ?_
        refine gf_X6_272 C0 is6_plans.1 dX6_food_61 ?_
        exact sx_iret C0 rfl rfl trivial dX6_food_64
    · refine sx_bipush (v := (-4)) C0 dX6_food_16 (by decide) ?_
      exact sx_iret C0 rfl rfl trivial dX6_food_18
abbrev rm_X6_harm : Room := { frames := 14, cells := 0, slots := 0, locals := 330 }
def mX6_harm (S : vS) (v1 : Int32) : Option (Int32 × vS) := (if (mX6_isPlanLength v1) = 0 then (some ((-1 : Int32), S)) else (if (mX6_noGods S) = 0 then ((mX1_seekAll S 95 (30 + 1) (30 + 11) v1).bind fun S38 => (lt (mX6_tell S38 (S38.1 95 10)) fun S49 => (some ((S49.1 95 9), S49)))) else (some ((-4 : Int32), S))))
set_option maxHeartbeats 4000000 in
set_option maxRecDepth 100000 in
theorem c_X6_harm {l : Launch} {D : va_G} {cA : Nat → ClassId} {ad : Nat → Nat} {kl : Nat} (G : Gx shC ad (ExC ad kl)) (v1 : Int32) (S : vS) (r : (Int32 × vS)) (hr : (mX6_harm S v1) = some r) : Met l yX6_harm (Cond.code yX6_harm cX6_harm 2 (some .int) :: ALL) rm_X6_harm (Po D vwCl tlC shC cA ad (ExC ad kl) [.ref (ad 0), .int v1] S) (Qo D vwCl shC cA ad (some (.int r.1)) r.2 True) 0 0 (aw shC ad) := by
  refine Met.sx (M := (mX6_harm S v1)) (rv := (fun q => some (.int q.1) : (Int32 × vS) → Option Value)) (rs := fun q => q.2) (B := fun _ => True) (by decide) ⟨rfl, rfl⟩ (Nat.le_of_ble_eq_true rfl) G (fun p e s m args below meth c C0 ls hl => ?_) hr
  have hl : lv_has ls 2 [(0, .ref (ad 0)), (1, .int v1)] := hl
  rw [mX6_harm]
  refine sx_iload_n C0 dX6_harm_0 rfl (lv_at hl 1 rfl) ?_
  refine cv_X6_228 (As := [.int v1]) C0 (c_X6_isPlanLength C0.2.2.2.2.2.2.2.1 v1 S) ⟨rfl, rfl⟩ ⟨Nat.le_of_ble_eq_true rfl, Nat.le_of_ble_eq_true rfl⟩ rfl hl.1 (Nat.le_of_ble_eq_true rfl) rfl dX6_harm_1 (fun hb1 => ?_)
  refine sx_if_ne (tgt := 9) C0 dX6_harm_4 (by decide) (fun _ => ?_) (fun _ => ?_)
  · refine sx_iconst (v := (-1)) C0 dX6_harm_7 (by decide) ?_
    exact sx_iret C0 rfl rfl trivial dX6_harm_8
  · refine sx_aload_n C0 dX6_harm_9 rfl (lv_at hl 0 rfl) ?_
    refine cv_X6_183 (As := []) C0 (c_X6_noGods C0.2.2.2.2.2.2.2.1 S) is6 ⟨rfl, rfl⟩ ⟨Nat.le_of_ble_eq_true rfl, Nat.le_of_ble_eq_true rfl⟩ rfl hl.1 (Nat.le_of_ble_eq_true rfl) rfl dX6_harm_10 (fun hb10 => ?_)
    refine sx_if_eq (tgt := 19) C0 dX6_harm_13 (by decide) (fun _ => ?_) (fun _ => ?_)
    · refine sx_aload_n C0 dX6_harm_19 rfl (lv_at hl 0 rfl) ?_
      refine gf_X6_44 C0 is6 dX6_harm_20 ?_
      refine sx_aload_n C0 dX6_harm_23 rfl (lv_at hl 0 rfl) ?_
      refine gf_X6_33 C0 is6 dX6_harm_24 ?_
      refine gf_X6_149 C0 is6_village.1 dX6_harm_27 ?_
      refine sx_aload_n C0 dX6_harm_30 rfl (lv_at hl 0 rfl) ?_
      refine gf_X6_33 C0 is6 dX6_harm_31 ?_
      refine gf_X6_167 C0 is6_village.1 dX6_harm_34 ?_
      refine sx_iload_n C0 dX6_harm_37 rfl (lv_at hl 1 rfl) ?_
      refine sw_bind (fun S38 e38 => ?_)
      refine cv_X6_231 (As := [.ref (ad (30 + 1)), .ref (ad (30 + 11)), .int v1]) C0 (c_X1_seekAll C0.2.2.2.2.2.2.2.1 95 is6_plans (30 + 1) is6_village.2.1 (30 + 11) is6_village.2.2.1 v1 S _ e38) is6_plans.1 ⟨rfl, rfl⟩ ⟨Nat.le_of_ble_eq_true rfl, Nat.le_of_ble_eq_true rfl⟩ rfl hl.1 (Nat.le_of_ble_eq_true rfl) rfl dX6_harm_38 (fun _ => ?_)
      refine sx_aload_n C0 dX6_harm_41 rfl (lv_at hl 0 rfl) ?_
      refine sx_aload_n C0 dX6_harm_42 rfl (lv_at hl 0 rfl) ?_
      refine gf_X6_44 C0 is6 dX6_harm_43 ?_
      refine gf_X6_275 C0 is6_plans.1 dX6_harm_46 ?_
      refine cv_X6_103 (As := [.int (S38.1 95 10)]) C0 (c_X6_tell C0.2.2.2.2.2.2.2.1 (S38.1 95 10) S38) is6 ⟨rfl, rfl⟩ ⟨Nat.le_of_ble_eq_true rfl, Nat.le_of_ble_eq_true rfl⟩ rfl hl.1 (Nat.le_of_ble_eq_true rfl) rfl dX6_harm_49 (fun _ => ?_)
      refine sw_ltS (fun S49 => ?_)
      refine sx_aload_n C0 dX6_harm_52 rfl (lv_at hl 0 rfl) ?_
      refine gf_X6_44 C0 is6 dX6_harm_53 ?_
      refine gf_X6_278 C0 is6_plans.1 dX6_harm_56 ?_
      exact sx_iret C0 rfl rfl trivial dX6_harm_59
    · refine sx_bipush (v := (-4)) C0 dX6_harm_16 (by decide) ?_
      exact sx_iret C0 rfl rfl trivial dX6_harm_18
abbrev rm_X6_starve : Room := { frames := 14, cells := 0, slots := 0, locals := 331 }
def bX6_starve_152    (S : vS) (v3 : Int32) (v4 : Int32)  : Option (Int32 × vS) := (if v3 = (-9 : Int32) then (some (v3, S)) else (lt (mX6_tell S v4) fun S161 => (some (v3, S161))))
set_option maxHeartbeats 4000000 in
set_option maxRecDepth 100000 in
theorem bX6_starve_152_t {p : Program} {l : Launch} {e : Env} {s : State} {m : MethodId} {args : Array Value} {below : List Frame} {meth : Method} {c : Code} {D : va_G} {cA : Nat → ClassId} {ad : Nat → Nat} {kl : Nat}   (C0 : Cx D vwCl tlC shC cA ad (ExC ad kl) RX6 cX6_starve 7 (some .int) p s m args meth c)  (S : vS) (v3 : Int32) (v4 : Int32) (ls : Array Slot) (hl : lv_has ls 7 [(0, .ref (ad 0)), (3, .int v3), (4, .int v4)]) : SW p l e rm_X6_starve s m args below meth c D vwCl shC cA ad (Fq D vwCl shC cA ad below args s (fun q => some (.int q.1) : (Int32 × vS) → Option Value) (fun q => q.2) (fun _ => True)) (bX6_starve_152 S v3 v4) S 152 ls [] := by
  rw [bX6_starve_152]
  refine sx_iload_n C0 dX6_starve_152 rfl (lv_at hl 1 rfl) ?_
  refine sx_bipush (v := (-9)) C0 dX6_starve_153 (by decide) ?_
  refine sx_icmp_eq (tgt := 164) C0 dX6_starve_155 (by decide) (fun _ => ?_) (fun _ => ?_)
  · refine sx_iload_n C0 dX6_starve_164 rfl (lv_at hl 1 rfl) ?_
    exact sx_iret C0 rfl rfl trivial dX6_starve_165
  · refine sx_aload_n C0 dX6_starve_158 rfl (lv_at hl 0 rfl) ?_
    refine sx_iload C0 dX6_starve_159 (lv_at hl 2 rfl) ?_
    refine cv_X6_103 (As := [.int v4]) C0 (c_X6_tell C0.2.2.2.2.2.2.2.1 v4 S) is6 ⟨rfl, rfl⟩ ⟨Nat.le_of_ble_eq_true rfl, Nat.le_of_ble_eq_true rfl⟩ rfl hl.1 (Nat.le_of_ble_eq_true rfl) rfl dX6_starve_161 (fun _ => ?_)
    refine sw_ltS (fun S161 => ?_)
    refine sx_iload_n C0 dX6_starve_164 rfl (lv_at hl 1 rfl) ?_
    exact sx_iret C0 rfl rfl trivial dX6_starve_165
def bX6_starve_139   (K58 : vS → Int32 → Int32 → Int32 → Option (Int32 × vS)) (S : vS) (v1 : Int32) (v2 : Int32) (v5 : Int32) (v6 : Int32)  : Option (Int32 × vS) := (K58 S v5 v6 (v5 + (1 : Int32)))
set_option maxHeartbeats 4000000 in
set_option maxRecDepth 100000 in
theorem bX6_starve_139_t {p : Program} {l : Launch} {e : Env} {s : State} {m : MethodId} {args : Array Value} {below : List Frame} {meth : Method} {c : Code} {D : va_G} {cA : Nat → ClassId} {ad : Nat → Nat} {kl : Nat} {K58 : vS → Int32 → Int32 → Int32 → Option (Int32 × vS)}  (C0 : Cx D vwCl tlC shC cA ad (ExC ad kl) RX6 cX6_starve 7 (some .int) p s m args meth c)  (S : vS) (v1 : Int32) (v2 : Int32) (v5 : Int32) (v6 : Int32) (hK58 : ∀ (S : vS) (v3 : Int32) (v4 : Int32) (v5 : Int32) (ls : Array Slot), lv_has ls 7 [(0, .ref (ad 0)), (1, .int v1), (2, .int v2), (3, .int v3), (4, .int v4), (5, .int v5)] → SW p l e rm_X6_starve s m args below meth c D vwCl shC cA ad (Fq D vwCl shC cA ad below args s (fun q => some (.int q.1) : (Int32 × vS) → Option Value) (fun q => q.2) (fun _ => True)) (K58 S v3 v4 v5) S 58 ls []) (ls : Array Slot) (hl : lv_has ls 7 [(0, .ref (ad 0)), (1, .int v1), (2, .int v2), (5, .int v5), (6, .int v6)]) : SW p l e rm_X6_starve s m args below meth c D vwCl shC cA ad (Fq D vwCl shC cA ad below args s (fun q => some (.int q.1) : (Int32 × vS) → Option Value) (fun q => q.2) (fun _ => True)) (bX6_starve_139 K58 S v1 v2 v5 v6) S 139 ls [] := by
  rw [bX6_starve_139]
  refine sx_iload C0 dX6_starve_139 (lv_at hl 3 rfl) ?_
  refine sx_istore_n (lv' := [(3, .int v5), (0, .ref (ad 0)), (1, .int v1), (2, .int v2), (5, .int v5), (6, .int v6)]) C0 dX6_starve_141 rfl hl (by decide) rfl (fun ls hl => ?_)
  refine sx_iload C0 dX6_starve_142 (lv_at hl 5 rfl) ?_
  refine sx_istore (lv' := [(4, .int v6), (3, .int v5), (0, .ref (ad 0)), (1, .int v1), (2, .int v2), (5, .int v5), (6, .int v6)]) C0 dX6_starve_144 hl (by decide) rfl (fun ls hl => ?_)
  refine sx_iinc (v := (v5 + (1 : Int32))) (lv' := [(5, .int (v5 + (1 : Int32))), (4, .int v6), (3, .int v5), (0, .ref (ad 0)), (1, .int v1), (2, .int v2), (6, .int v6)]) C0 dX6_starve_146 hl (k := 5) rfl rfl (by decide) rfl (fun ls hl => ?_)
  refine sx_goto (tgt := 58) C0 dX6_starve_149 (by decide) ?_
  exact hK58 _ _ _ _ _ (lv_sub hl [3, 4, 5, 2, 1, 0] rfl)
def lX6_starve_58    (v1 : Int32) (v2 : Int32) : Nat → vS → Int32 → Int32 → Int32 → Option (Int32 × vS)
  | 0, _, _, _, _ => none
  | n + 1, S, v3, v4, v5 => (if (S.1 (30 + 1) 0) ≤ v5 then (bX6_starve_152 S v3 v4) else (if (mX3_isGone S (30 + 11) v5) = 0 then ((mX1_seekUnfed S 95 (30 + 1) (30 + 11) v1 v5).bind fun S112 => (lt (v2 - (S112.1 95 8)) fun v6_124 => (if v3 = (-9 : Int32) then (bX6_starve_139 (lX6_starve_58 v1 v2 n) S112 v1 v2 v5 v6_124) else (if v4 ≤ v6_124 then ((lX6_starve_58 v1 v2 n) S112 v3 v4 (v5 + (1 : Int32))) else (bX6_starve_139 (lX6_starve_58 v1 v2 n) S112 v1 v2 v5 v6_124))))) else ((lX6_starve_58 v1 v2 n) S v3 v4 (v5 + (1 : Int32)))))
set_option maxHeartbeats 4000000 in
set_option maxRecDepth 100000 in
theorem lX6_starve_58_t {p : Program} {l : Launch} {e : Env} {s : State} {m : MethodId} {args : Array Value} {below : List Frame} {meth : Method} {c : Code} {D : va_G} {cA : Nat → ClassId} {ad : Nat → Nat} {kl : Nat}   (C0 : Cx D vwCl tlC shC cA ad (ExC ad kl) RX6 cX6_starve 7 (some .int) p s m args meth c)   (v1 : Int32) (v2 : Int32)  : ∀ (n : Nat) (S : vS) (v3 : Int32) (v4 : Int32) (v5 : Int32) (ls : Array Slot), lv_has ls 7 [(0, .ref (ad 0)), (1, .int v1), (2, .int v2), (3, .int v3), (4, .int v4), (5, .int v5)] → SW p l e rm_X6_starve s m args below meth c D vwCl shC cA ad (Fq D vwCl shC cA ad below args s (fun q => some (.int q.1) : (Int32 × vS) → Option Value) (fun q => q.2) (fun _ => True)) (lX6_starve_58 v1 v2 n S v3 v4 v5) S 58 ls [] := by
  intro n
  induction n with
  | zero =>
    intro S v3 v4 v5 ls hl
    rw [lX6_starve_58]
    exact sw_none
  | succ n ih =>
    intro S v3 v4 v5 ls hl
    rw [lX6_starve_58]
    refine sx_iload C0 dX6_starve_58 (lv_at hl 5 rfl) ?_
    refine sx_aload_n C0 dX6_starve_60 rfl (lv_at hl 0 rfl) ?_
    refine gf_X6_33 C0 is6 dX6_starve_61 ?_
    refine gf_X6_149 C0 is6_village.1 dX6_starve_64 ?_
    refine gf_X6_150 C0 is6_village.2.1.1 dX6_starve_67 ?_
    refine sx_icmp_ge (tgt := 152) C0 dX6_starve_70 (by decide) (fun _ => ?_) (fun _ => ?_)
    · exact bX6_starve_152_t C0 _ _ _ _ (lv_sub hl [0, 3, 4] rfl)
    · refine sx_aload_n C0 dX6_starve_73 rfl (lv_at hl 0 rfl) ?_
      refine gf_X6_33 C0 is6 dX6_starve_74 ?_
      refine gf_X6_167 C0 is6_village.1 dX6_starve_77 ?_
      refine sx_iload C0 dX6_starve_80 (lv_at hl 5 rfl) ?_
      refine cv_X6_281 (As := [.int v5]) C0 (c_X3_isGone C0.2.2.2.2.2.2.2.1 (30 + 11) is6_village.2.2.1 v5 S) is6_village.2.2.1.1 ⟨rfl, rfl⟩ ⟨Nat.le_of_ble_eq_true rfl, Nat.le_of_ble_eq_true rfl⟩ rfl hl.1 (Nat.le_of_ble_eq_true rfl) rfl dX6_starve_82 (fun hb82 => ?_)
      refine sx_if_eq (tgt := 91) C0 dX6_starve_85 (by decide) (fun _ => ?_) (fun _ => ?_)
      · refine sx_aload_n C0 dX6_starve_91 rfl (lv_at hl 0 rfl) ?_
        refine gf_X6_44 C0 is6 dX6_starve_92 ?_
        refine sx_aload_n C0 dX6_starve_95 rfl (lv_at hl 0 rfl) ?_
        refine gf_X6_33 C0 is6 dX6_starve_96 ?_
        refine gf_X6_149 C0 is6_village.1 dX6_starve_99 ?_
        refine sx_aload_n C0 dX6_starve_102 rfl (lv_at hl 0 rfl) ?_
        refine gf_X6_33 C0 is6 dX6_starve_103 ?_
        refine gf_X6_167 C0 is6_village.1 dX6_starve_106 ?_
        refine sx_iload_n C0 dX6_starve_109 rfl (lv_at hl 1 rfl) ?_
        refine sx_iload C0 dX6_starve_110 (lv_at hl 5 rfl) ?_
        refine sw_bind (fun S112 e112 => ?_)
        refine cv_X6_284 (As := [.ref (ad (30 + 1)), .ref (ad (30 + 11)), .int v1, .int v5]) C0 (c_X1_seekUnfed C0.2.2.2.2.2.2.2.1 95 is6_plans (30 + 1) is6_village.2.1 (30 + 11) is6_village.2.2.1 v1 v5 S _ e112) is6_plans.1 ⟨rfl, rfl⟩ ⟨Nat.le_of_ble_eq_true rfl, Nat.le_of_ble_eq_true rfl⟩ rfl hl.1 (Nat.le_of_ble_eq_true rfl) rfl dX6_starve_112 (fun _ => ?_)
        refine sx_iload_n C0 dX6_starve_115 rfl (lv_at hl 2 rfl) ?_
        refine sx_aload_n C0 dX6_starve_116 rfl (lv_at hl 0 rfl) ?_
        refine gf_X6_44 C0 is6 dX6_starve_117 ?_
        refine gf_X6_235 C0 is6_plans.1 dX6_starve_120 ?_
        refine sx_isub C0 dX6_starve_123 ?_
        refine sw_lt (val := .int) (fun v6_124 => ?_)
        refine sx_istore (lv' := [(6, .int v6_124), (0, .ref (ad 0)), (1, .int v1), (2, .int v2), (3, .int v3), (4, .int v4), (5, .int v5)]) C0 dX6_starve_124 hl (by decide) rfl (fun ls hl => ?_)
        refine sx_iload_n C0 dX6_starve_126 rfl (lv_at hl 4 rfl) ?_
        refine sx_bipush (v := (-9)) C0 dX6_starve_127 (by decide) ?_
        refine sx_icmp_eq (tgt := 139) C0 dX6_starve_129 (by decide) (fun _ => ?_) (fun _ => ?_)
        · exact bX6_starve_139_t C0 _ _ _ _ _ ih _ (lv_sub hl [1, 2, 3, 6, 0] rfl)
        · refine sx_iload C0 dX6_starve_132 (lv_at hl 0 rfl) ?_
          refine sx_iload C0 dX6_starve_134 (lv_at hl 5 rfl) ?_
          refine sx_icmp_ge (tgt := 146) C0 dX6_starve_136 (by decide) (fun _ => ?_) (fun _ => ?_)
          · refine sx_iinc (v := (v5 + (1 : Int32))) (lv' := [(5, .int (v5 + (1 : Int32))), (6, .int v6_124), (0, .ref (ad 0)), (1, .int v1), (2, .int v2), (3, .int v3), (4, .int v4)]) C0 dX6_starve_146 hl (k := 6) rfl rfl (by decide) rfl (fun ls hl => ?_)
            refine sx_goto (tgt := 58) C0 dX6_starve_149 (by decide) ?_
            exact ih _ _ _ _ _ (lv_sub hl [2, 3, 4, 5, 6, 0] rfl)
          · exact bX6_starve_139_t C0 _ _ _ _ _ ih _ (lv_sub hl [1, 2, 3, 6, 0] rfl)
      · refine sx_goto (tgt := 146) C0 dX6_starve_88 (by decide) ?_
        refine sx_iinc (v := (v5 + (1 : Int32))) (lv' := [(5, .int (v5 + (1 : Int32))), (0, .ref (ad 0)), (1, .int v1), (2, .int v2), (3, .int v3), (4, .int v4)]) C0 dX6_starve_146 hl (k := 5) rfl rfl (by decide) rfl (fun ls hl => ?_)
        refine sx_goto (tgt := 58) C0 dX6_starve_149 (by decide) ?_
        exact ih _ _ _ _ _ (lv_sub hl [1, 2, 3, 4, 5, 0] rfl)
def mX6_starve (S : vS) (v1 : Int32) : Option (Int32 × vS) := (if (mX6_isPlanLength v1) = 0 then (some ((-1 : Int32), S)) else (if (mX6_noGods S) = 0 then ((mX1_seekAll S 95 (30 + 1) (30 + 11) v1).bind fun S38 => (lt (S38.1 95 8) fun v2_48 => (lX6_starve_58 v1 v2_48 FU S38 (-9 : Int32) (0 : Int32) (0 : Int32)))) else (some ((-4 : Int32), S))))
set_option maxHeartbeats 4000000 in
set_option maxRecDepth 100000 in
theorem c_X6_starve {l : Launch} {D : va_G} {cA : Nat → ClassId} {ad : Nat → Nat} {kl : Nat} (G : Gx shC ad (ExC ad kl)) (v1 : Int32) (S : vS) (r : (Int32 × vS)) (hr : (mX6_starve S v1) = some r) : Met l yX6_starve (Cond.code yX6_starve cX6_starve 7 (some .int) :: ALL) rm_X6_starve (Po D vwCl tlC shC cA ad (ExC ad kl) [.ref (ad 0), .int v1] S) (Qo D vwCl shC cA ad (some (.int r.1)) r.2 True) 0 0 (aw shC ad) := by
  refine Met.sx (M := (mX6_starve S v1)) (rv := (fun q => some (.int q.1) : (Int32 × vS) → Option Value)) (rs := fun q => q.2) (B := fun _ => True) (by decide) ⟨rfl, rfl⟩ (Nat.le_of_ble_eq_true rfl) G (fun p e s m args below meth c C0 ls hl => ?_) hr
  have hl : lv_has ls 7 [(0, .ref (ad 0)), (1, .int v1)] := hl
  rw [mX6_starve]
  refine sx_iload_n C0 dX6_starve_0 rfl (lv_at hl 1 rfl) ?_
  refine cv_X6_228 (As := [.int v1]) C0 (c_X6_isPlanLength C0.2.2.2.2.2.2.2.1 v1 S) ⟨rfl, rfl⟩ ⟨Nat.le_of_ble_eq_true rfl, Nat.le_of_ble_eq_true rfl⟩ rfl hl.1 (Nat.le_of_ble_eq_true rfl) rfl dX6_starve_1 (fun hb1 => ?_)
  refine sx_if_ne (tgt := 9) C0 dX6_starve_4 (by decide) (fun _ => ?_) (fun _ => ?_)
  · refine sx_iconst (v := (-1)) C0 dX6_starve_7 (by decide) ?_
    exact sx_iret C0 rfl rfl trivial dX6_starve_8
  · refine sx_aload_n C0 dX6_starve_9 rfl (lv_at hl 0 rfl) ?_
    refine cv_X6_183 (As := []) C0 (c_X6_noGods C0.2.2.2.2.2.2.2.1 S) is6 ⟨rfl, rfl⟩ ⟨Nat.le_of_ble_eq_true rfl, Nat.le_of_ble_eq_true rfl⟩ rfl hl.1 (Nat.le_of_ble_eq_true rfl) rfl dX6_starve_10 (fun hb10 => ?_)
    refine sx_if_eq (tgt := 19) C0 dX6_starve_13 (by decide) (fun _ => ?_) (fun _ => ?_)
    · refine sx_aload_n C0 dX6_starve_19 rfl (lv_at hl 0 rfl) ?_
      refine gf_X6_44 C0 is6 dX6_starve_20 ?_
      refine sx_aload_n C0 dX6_starve_23 rfl (lv_at hl 0 rfl) ?_
      refine gf_X6_33 C0 is6 dX6_starve_24 ?_
      refine gf_X6_149 C0 is6_village.1 dX6_starve_27 ?_
      refine sx_aload_n C0 dX6_starve_30 rfl (lv_at hl 0 rfl) ?_
      refine gf_X6_33 C0 is6 dX6_starve_31 ?_
      refine gf_X6_167 C0 is6_village.1 dX6_starve_34 ?_
      refine sx_iload_n C0 dX6_starve_37 rfl (lv_at hl 1 rfl) ?_
      refine sw_bind (fun S38 e38 => ?_)
      refine cv_X6_231 (As := [.ref (ad (30 + 1)), .ref (ad (30 + 11)), .int v1]) C0 (c_X1_seekAll C0.2.2.2.2.2.2.2.1 95 is6_plans (30 + 1) is6_village.2.1 (30 + 11) is6_village.2.2.1 v1 S _ e38) is6_plans.1 ⟨rfl, rfl⟩ ⟨Nat.le_of_ble_eq_true rfl, Nat.le_of_ble_eq_true rfl⟩ rfl hl.1 (Nat.le_of_ble_eq_true rfl) rfl dX6_starve_38 (fun _ => ?_)
      refine sx_aload_n C0 dX6_starve_41 rfl (lv_at hl 0 rfl) ?_
      refine gf_X6_44 C0 is6 dX6_starve_42 ?_
      refine gf_X6_235 C0 is6_plans.1 dX6_starve_45 ?_
      refine sw_lt (val := .int) (fun v2_48 => ?_)
      refine sx_istore_n (lv' := [(2, .int v2_48), (0, .ref (ad 0)), (1, .int v1)]) C0 dX6_starve_48 rfl hl (by decide) rfl (fun ls hl => ?_)
      refine sx_bipush (v := (-9)) C0 dX6_starve_49 (by decide) ?_
      refine sx_istore_n (lv' := [(3, .int (-9 : Int32)), (2, .int v2_48), (0, .ref (ad 0)), (1, .int v1)]) C0 dX6_starve_51 rfl hl (by decide) rfl (fun ls hl => ?_)
      refine sx_iconst (v := 0) C0 dX6_starve_52 (by decide) ?_
      refine sx_istore (lv' := [(4, .int (0 : Int32)), (3, .int (-9 : Int32)), (2, .int v2_48), (0, .ref (ad 0)), (1, .int v1)]) C0 dX6_starve_53 hl (by decide) rfl (fun ls hl => ?_)
      refine sx_iconst (v := 0) C0 dX6_starve_55 (by decide) ?_
      refine sx_istore (lv' := [(5, .int (0 : Int32)), (4, .int (0 : Int32)), (3, .int (-9 : Int32)), (2, .int v2_48), (0, .ref (ad 0)), (1, .int v1)]) C0 dX6_starve_56 hl (by decide) rfl (fun ls hl => ?_)
      exact lX6_starve_58_t C0 _ _ _ _ _ _ _ _ (lv_sub hl [4, 5, 3, 2, 1, 0] rfl)
    · refine sx_bipush (v := (-4)) C0 dX6_starve_16 (by decide) ?_
      exact sx_iret C0 rfl rfl trivial dX6_starve_18
abbrev rm_X6_price : Room := { frames := 14, cells := 0, slots := 0, locals := 330 }
def mX6_price (S : vS) (v1 : Int32) (v2 : Int32) : Option (Int32 × vS) := (if (mX0_has S (30 + 1) v1) = 0 then (some ((-1 : Int32), S)) else (if (mX6_isPlanLength v2) = 0 then (some ((-1 : Int32), S)) else (if (mX3_isGone S (30 + 11) v1) = 0 then ((mX1_seekAll S 95 (30 + 1) (30 + 11) v2).bind fun S59 => (lt (S59.1 95 8) fun v3_69 => ((mX6_startTrial S59).bind fun S71 => (lt (mX3_sendAway S71 129 v1) fun S79 => ((mX1_seekAll S79 95 (30 + 1) 129 v2).bind fun S98 => (lt (mX6_tell S98 (v3_69 - (S98.1 95 8))) fun S111 => (some ((1 : Int32), S111)))))))) else (some ((-4 : Int32), S)))))
set_option maxHeartbeats 4000000 in
set_option maxRecDepth 100000 in
theorem c_X6_price {l : Launch} {D : va_G} {cA : Nat → ClassId} {ad : Nat → Nat} {kl : Nat} (G : Gx shC ad (ExC ad kl)) (v1 : Int32) (v2 : Int32) (S : vS) (r : (Int32 × vS)) (hr : (mX6_price S v1 v2) = some r) : Met l yX6_price (Cond.code yX6_price cX6_price 4 (some .int) :: ALL) rm_X6_price (Po D vwCl tlC shC cA ad (ExC ad kl) [.ref (ad 0), .int v1, .int v2] S) (Qo D vwCl shC cA ad (some (.int r.1)) r.2 True) 0 0 (aw shC ad) := by
  refine Met.sx (M := (mX6_price S v1 v2)) (rv := (fun q => some (.int q.1) : (Int32 × vS) → Option Value)) (rs := fun q => q.2) (B := fun _ => True) (by decide) ⟨rfl, rfl⟩ (Nat.le_of_ble_eq_true rfl) G (fun p e s m args below meth c C0 ls hl => ?_) hr
  have hl : lv_has ls 4 [(0, .ref (ad 0)), (1, .int v1), (2, .int v2)] := hl
  rw [mX6_price]
  refine sx_aload_n C0 dX6_price_0 rfl (lv_at hl 0 rfl) ?_
  refine gf_X6_33 C0 is6 dX6_price_1 ?_
  refine gf_X6_149 C0 is6_village.1 dX6_price_4 ?_
  refine sx_iload_n C0 dX6_price_7 rfl (lv_at hl 1 rfl) ?_
  refine cv_X6_153 (As := [.int v1]) C0 (c_X0_has C0.2.2.2.2.2.2.2.1 (30 + 1) is6_village.2.1 v1 S) is6_village.2.1.1 ⟨rfl, rfl⟩ ⟨Nat.le_of_ble_eq_true rfl, Nat.le_of_ble_eq_true rfl⟩ rfl hl.1 (Nat.le_of_ble_eq_true rfl) rfl dX6_price_8 (fun hb8 => ?_)
  refine sx_if_eq (tgt := 21) C0 dX6_price_11 (by decide) (fun _ => ?_) (fun _ => ?_)
  · refine sx_iconst (v := (-1)) C0 dX6_price_21 (by decide) ?_
    exact sx_iret C0 rfl rfl trivial dX6_price_22
  · refine sx_iload_n C0 dX6_price_14 rfl (lv_at hl 2 rfl) ?_
    refine cv_X6_228 (As := [.int v2]) C0 (c_X6_isPlanLength C0.2.2.2.2.2.2.2.1 v2 S) ⟨rfl, rfl⟩ ⟨Nat.le_of_ble_eq_true rfl, Nat.le_of_ble_eq_true rfl⟩ rfl hl.1 (Nat.le_of_ble_eq_true rfl) rfl dX6_price_15 (fun hb15 => ?_)
    refine sx_if_ne (tgt := 23) C0 dX6_price_18 (by decide) (fun _ => ?_) (fun _ => ?_)
    · refine sx_iconst (v := (-1)) C0 dX6_price_21 (by decide) ?_
      exact sx_iret C0 rfl rfl trivial dX6_price_22
    · refine sx_aload_n C0 dX6_price_23 rfl (lv_at hl 0 rfl) ?_
      refine gf_X6_33 C0 is6 dX6_price_24 ?_
      refine gf_X6_167 C0 is6_village.1 dX6_price_27 ?_
      refine sx_iload_n C0 dX6_price_30 rfl (lv_at hl 1 rfl) ?_
      refine cv_X6_281 (As := [.int v1]) C0 (c_X3_isGone C0.2.2.2.2.2.2.2.1 (30 + 11) is6_village.2.2.1 v1 S) is6_village.2.2.1.1 ⟨rfl, rfl⟩ ⟨Nat.le_of_ble_eq_true rfl, Nat.le_of_ble_eq_true rfl⟩ rfl hl.1 (Nat.le_of_ble_eq_true rfl) rfl dX6_price_31 (fun hb31 => ?_)
      refine sx_if_eq (tgt := 40) C0 dX6_price_34 (by decide) (fun _ => ?_) (fun _ => ?_)
      · refine sx_aload_n C0 dX6_price_40 rfl (lv_at hl 0 rfl) ?_
        refine gf_X6_44 C0 is6 dX6_price_41 ?_
        refine sx_aload_n C0 dX6_price_44 rfl (lv_at hl 0 rfl) ?_
        refine gf_X6_33 C0 is6 dX6_price_45 ?_
        refine gf_X6_149 C0 is6_village.1 dX6_price_48 ?_
        refine sx_aload_n C0 dX6_price_51 rfl (lv_at hl 0 rfl) ?_
        refine gf_X6_33 C0 is6 dX6_price_52 ?_
        refine gf_X6_167 C0 is6_village.1 dX6_price_55 ?_
        refine sx_iload_n C0 dX6_price_58 rfl (lv_at hl 2 rfl) ?_
        refine sw_bind (fun S59 e59 => ?_)
        refine cv_X6_231 (As := [.ref (ad (30 + 1)), .ref (ad (30 + 11)), .int v2]) C0 (c_X1_seekAll C0.2.2.2.2.2.2.2.1 95 is6_plans (30 + 1) is6_village.2.1 (30 + 11) is6_village.2.2.1 v2 S _ e59) is6_plans.1 ⟨rfl, rfl⟩ ⟨Nat.le_of_ble_eq_true rfl, Nat.le_of_ble_eq_true rfl⟩ rfl hl.1 (Nat.le_of_ble_eq_true rfl) rfl dX6_price_59 (fun _ => ?_)
        refine sx_aload_n C0 dX6_price_62 rfl (lv_at hl 0 rfl) ?_
        refine gf_X6_44 C0 is6 dX6_price_63 ?_
        refine gf_X6_235 C0 is6_plans.1 dX6_price_66 ?_
        refine sw_lt (val := .int) (fun v3_69 => ?_)
        refine sx_istore_n (lv' := [(3, .int v3_69), (0, .ref (ad 0)), (1, .int v1), (2, .int v2)]) C0 dX6_price_69 rfl hl (by decide) rfl (fun ls hl => ?_)
        refine sx_aload_n C0 dX6_price_70 rfl (lv_at hl 1 rfl) ?_
        refine sw_bind (fun S71 e71 => ?_)
        refine cv_X6_248 (As := []) C0 (c_X6_startTrial C0.2.2.2.2.2.2.2.1 S59 _ e71) is6 ⟨rfl, rfl⟩ ⟨Nat.le_of_ble_eq_true rfl, Nat.le_of_ble_eq_true rfl⟩ rfl hl.1 (Nat.le_of_ble_eq_true rfl) rfl dX6_price_71 (fun _ => ?_)
        refine sx_aload_n C0 dX6_price_74 rfl (lv_at hl 1 rfl) ?_
        refine gf_X6_58 C0 is6 dX6_price_75 ?_
        refine sx_iload_n C0 dX6_price_78 rfl (lv_at hl 2 rfl) ?_
        refine cv_X6_288 (As := [.int v1]) C0 (c_X3_sendAway C0.2.2.2.2.2.2.2.1 129 is6_trial v1 S71) is6_trial.1 ⟨rfl, rfl⟩ ⟨Nat.le_of_ble_eq_true rfl, Nat.le_of_ble_eq_true rfl⟩ rfl hl.1 (Nat.le_of_ble_eq_true rfl) rfl dX6_price_79 (fun _ => ?_)
        refine sw_ltS (fun S79 => ?_)
        refine sx_aload_n C0 dX6_price_82 rfl (lv_at hl 1 rfl) ?_
        refine gf_X6_44 C0 is6 dX6_price_83 ?_
        refine sx_aload_n C0 dX6_price_86 rfl (lv_at hl 1 rfl) ?_
        refine gf_X6_33 C0 is6 dX6_price_87 ?_
        refine gf_X6_149 C0 is6_village.1 dX6_price_90 ?_
        refine sx_aload_n C0 dX6_price_93 rfl (lv_at hl 1 rfl) ?_
        refine gf_X6_58 C0 is6 dX6_price_94 ?_
        refine sx_iload_n C0 dX6_price_97 rfl (lv_at hl 3 rfl) ?_
        refine sw_bind (fun S98 e98 => ?_)
        refine cv_X6_231 (As := [.ref (ad (30 + 1)), .ref (ad 129), .int v2]) C0 (c_X1_seekAll C0.2.2.2.2.2.2.2.1 95 is6_plans (30 + 1) is6_village.2.1 129 is6_trial v2 S79 _ e98) is6_plans.1 ⟨rfl, rfl⟩ ⟨Nat.le_of_ble_eq_true rfl, Nat.le_of_ble_eq_true rfl⟩ rfl hl.1 (Nat.le_of_ble_eq_true rfl) rfl dX6_price_98 (fun _ => ?_)
        refine sx_aload_n C0 dX6_price_101 rfl (lv_at hl 1 rfl) ?_
        refine sx_iload_n C0 dX6_price_102 rfl (lv_at hl 0 rfl) ?_
        refine sx_aload_n C0 dX6_price_103 rfl (lv_at hl 1 rfl) ?_
        refine gf_X6_44 C0 is6 dX6_price_104 ?_
        refine gf_X6_235 C0 is6_plans.1 dX6_price_107 ?_
        refine sx_isub C0 dX6_price_110 ?_
        refine cv_X6_103 (As := [.int (v3_69 - (S98.1 95 8))]) C0 (c_X6_tell C0.2.2.2.2.2.2.2.1 (v3_69 - (S98.1 95 8)) S98) is6 ⟨rfl, rfl⟩ ⟨Nat.le_of_ble_eq_true rfl, Nat.le_of_ble_eq_true rfl⟩ rfl hl.1 (Nat.le_of_ble_eq_true rfl) rfl dX6_price_111 (fun _ => ?_)
        refine sw_ltS (fun S111 => ?_)
        refine sx_iconst (v := 1) C0 dX6_price_114 (by decide) ?_
        exact sx_iret C0 rfl rfl trivial dX6_price_115
      · refine sx_bipush (v := (-4)) C0 dX6_price_37 (by decide) ?_
        exact sx_iret C0 rfl rfl trivial dX6_price_39
abbrev rm_X6_altar : Room := { frames := 14, cells := 0, slots := 0, locals := 330 }
def mX6_altar (S : vS) (v1 : Int32) (v2 : Int32) (v3 : Int32) (v4 : Int32) : Option (Int32 × vS) := (if (mX0_has S (30 + 1) v1) = 0 then (some ((-1 : Int32), S)) else (if (mX6_isFood v2) = 0 then (some ((-1 : Int32), S)) else (if (mX6_isPatience v3) = 0 then (some ((-1 : Int32), S)) else (if (mX6_isPlanLength v4) = 0 then (some ((-1 : Int32), S)) else (if (mX3_isGone S (30 + 11) v1) = 0 then ((mX0_take S 119 (30 + 1)).bind fun S66 => ((pI S66 (119 + 2) 4 v1 v2).bind fun S78 => ((pI S78 (119 + 3) 4 v1 v3).bind fun S88 => ((mX1_seekAll S88 95 119 (30 + 11) v4).bind fun S106 => (lt (mX6_tell S106 (S106.1 95 8)) fun S117 => (some ((1 : Int32), S117))))))) else (some ((-4 : Int32), S)))))))
set_option maxHeartbeats 4000000 in
set_option maxRecDepth 100000 in
theorem c_X6_altar {l : Launch} {D : va_G} {cA : Nat → ClassId} {ad : Nat → Nat} {kl : Nat} (G : Gx shC ad (ExC ad kl)) (v1 : Int32) (v2 : Int32) (v3 : Int32) (v4 : Int32) (S : vS) (r : (Int32 × vS)) (hr : (mX6_altar S v1 v2 v3 v4) = some r) : Met l yX6_altar (Cond.code yX6_altar cX6_altar 5 (some .int) :: ALL) rm_X6_altar (Po D vwCl tlC shC cA ad (ExC ad kl) [.ref (ad 0), .int v1, .int v2, .int v3, .int v4] S) (Qo D vwCl shC cA ad (some (.int r.1)) r.2 True) 0 0 (aw shC ad) := by
  refine Met.sx (M := (mX6_altar S v1 v2 v3 v4)) (rv := (fun q => some (.int q.1) : (Int32 × vS) → Option Value)) (rs := fun q => q.2) (B := fun _ => True) (by decide) ⟨rfl, rfl⟩ (Nat.le_of_ble_eq_true rfl) G (fun p e s m args below meth c C0 ls hl => ?_) hr
  have hl : lv_has ls 5 [(0, .ref (ad 0)), (1, .int v1), (2, .int v2), (3, .int v3), (4, .int v4)] := hl
  rw [mX6_altar]
  refine sx_aload_n C0 dX6_altar_0 rfl (lv_at hl 0 rfl) ?_
  refine gf_X6_33 C0 is6 dX6_altar_1 ?_
  refine gf_X6_149 C0 is6_village.1 dX6_altar_4 ?_
  refine sx_iload_n C0 dX6_altar_7 rfl (lv_at hl 1 rfl) ?_
  refine cv_X6_153 (As := [.int v1]) C0 (c_X0_has C0.2.2.2.2.2.2.2.1 (30 + 1) is6_village.2.1 v1 S) is6_village.2.1.1 ⟨rfl, rfl⟩ ⟨Nat.le_of_ble_eq_true rfl, Nat.le_of_ble_eq_true rfl⟩ rfl hl.1 (Nat.le_of_ble_eq_true rfl) rfl dX6_altar_8 (fun hb8 => ?_)
  refine sx_if_eq (tgt := 36) C0 dX6_altar_11 (by decide) (fun _ => ?_) (fun _ => ?_)
  · refine sx_iconst (v := (-1)) C0 dX6_altar_36 (by decide) ?_
    exact sx_iret C0 rfl rfl trivial dX6_altar_37
  · refine sx_iload_n C0 dX6_altar_14 rfl (lv_at hl 2 rfl) ?_
    refine cv_X6_180 (As := [.int v2]) C0 (c_X6_isFood C0.2.2.2.2.2.2.2.1 v2 S) ⟨rfl, rfl⟩ ⟨Nat.le_of_ble_eq_true rfl, Nat.le_of_ble_eq_true rfl⟩ rfl hl.1 (Nat.le_of_ble_eq_true rfl) rfl dX6_altar_15 (fun hb15 => ?_)
    refine sx_if_eq (tgt := 36) C0 dX6_altar_18 (by decide) (fun _ => ?_) (fun _ => ?_)
    · refine sx_iconst (v := (-1)) C0 dX6_altar_36 (by decide) ?_
      exact sx_iret C0 rfl rfl trivial dX6_altar_37
    · refine sx_iload_n C0 dX6_altar_21 rfl (lv_at hl 3 rfl) ?_
      refine cv_X6_187 (As := [.int v3]) C0 (c_X6_isPatience C0.2.2.2.2.2.2.2.1 v3 S) ⟨rfl, rfl⟩ ⟨Nat.le_of_ble_eq_true rfl, Nat.le_of_ble_eq_true rfl⟩ rfl hl.1 (Nat.le_of_ble_eq_true rfl) rfl dX6_altar_22 (fun hb22 => ?_)
      refine sx_if_eq (tgt := 36) C0 dX6_altar_25 (by decide) (fun _ => ?_) (fun _ => ?_)
      · refine sx_iconst (v := (-1)) C0 dX6_altar_36 (by decide) ?_
        exact sx_iret C0 rfl rfl trivial dX6_altar_37
      · refine sx_iload C0 dX6_altar_28 (lv_at hl 4 rfl) ?_
        refine cv_X6_228 (As := [.int v4]) C0 (c_X6_isPlanLength C0.2.2.2.2.2.2.2.1 v4 S) ⟨rfl, rfl⟩ ⟨Nat.le_of_ble_eq_true rfl, Nat.le_of_ble_eq_true rfl⟩ rfl hl.1 (Nat.le_of_ble_eq_true rfl) rfl dX6_altar_30 (fun hb30 => ?_)
        refine sx_if_ne (tgt := 38) C0 dX6_altar_33 (by decide) (fun _ => ?_) (fun _ => ?_)
        · refine sx_iconst (v := (-1)) C0 dX6_altar_36 (by decide) ?_
          exact sx_iret C0 rfl rfl trivial dX6_altar_37
        · refine sx_aload_n C0 dX6_altar_38 rfl (lv_at hl 0 rfl) ?_
          refine gf_X6_33 C0 is6 dX6_altar_39 ?_
          refine gf_X6_167 C0 is6_village.1 dX6_altar_42 ?_
          refine sx_iload_n C0 dX6_altar_45 rfl (lv_at hl 1 rfl) ?_
          refine cv_X6_281 (As := [.int v1]) C0 (c_X3_isGone C0.2.2.2.2.2.2.2.1 (30 + 11) is6_village.2.2.1 v1 S) is6_village.2.2.1.1 ⟨rfl, rfl⟩ ⟨Nat.le_of_ble_eq_true rfl, Nat.le_of_ble_eq_true rfl⟩ rfl hl.1 (Nat.le_of_ble_eq_true rfl) rfl dX6_altar_46 (fun hb46 => ?_)
          refine sx_if_eq (tgt := 55) C0 dX6_altar_49 (by decide) (fun _ => ?_) (fun _ => ?_)
          · refine sx_aload_n C0 dX6_altar_55 rfl (lv_at hl 0 rfl) ?_
            refine gf_X6_51 C0 is6 dX6_altar_56 ?_
            refine sx_aload_n C0 dX6_altar_59 rfl (lv_at hl 0 rfl) ?_
            refine gf_X6_33 C0 is6 dX6_altar_60 ?_
            refine gf_X6_149 C0 is6_village.1 dX6_altar_63 ?_
            refine sw_bind (fun S66 e66 => ?_)
            refine cv_X6_291 (As := [.ref (ad (30 + 1))]) C0 (c_X0_take C0.2.2.2.2.2.2.2.1 119 is6_otherGods (30 + 1) is6_village.2.1 S _ e66) is6_otherGods.1 ⟨rfl, rfl⟩ ⟨Nat.le_of_ble_eq_true rfl, Nat.le_of_ble_eq_true rfl⟩ rfl hl.1 (Nat.le_of_ble_eq_true rfl) rfl dX6_altar_66 (fun _ => ?_)
            refine sx_aload_n C0 dX6_altar_69 rfl (lv_at hl 0 rfl) ?_
            refine gf_X6_51 C0 is6 dX6_altar_70 ?_
            refine gf_X6_294 C0 is6_otherGods.1 dX6_altar_73 ?_
            refine sx_iload_n C0 dX6_altar_76 rfl (lv_at hl 1 rfl) ?_
            refine sx_iload_n C0 dX6_altar_77 rfl (lv_at hl 2 rfl) ?_
            refine sx_iast C0 is6_otherGods.2.2.1 rfl dX6_altar_78 (fun S78 => ?_)
            refine sx_aload_n C0 dX6_altar_79 rfl (lv_at hl 0 rfl) ?_
            refine gf_X6_51 C0 is6 dX6_altar_80 ?_
            refine gf_X6_190 C0 is6_otherGods.1 dX6_altar_83 ?_
            refine sx_iload_n C0 dX6_altar_86 rfl (lv_at hl 1 rfl) ?_
            refine sx_iload_n C0 dX6_altar_87 rfl (lv_at hl 3 rfl) ?_
            refine sx_iast C0 is6_otherGods.2.2.2.1 rfl dX6_altar_88 (fun S88 => ?_)
            refine sx_aload_n C0 dX6_altar_89 rfl (lv_at hl 0 rfl) ?_
            refine gf_X6_44 C0 is6 dX6_altar_90 ?_
            refine sx_aload_n C0 dX6_altar_93 rfl (lv_at hl 0 rfl) ?_
            refine gf_X6_51 C0 is6 dX6_altar_94 ?_
            refine sx_aload_n C0 dX6_altar_97 rfl (lv_at hl 0 rfl) ?_
            refine gf_X6_33 C0 is6 dX6_altar_98 ?_
            refine gf_X6_167 C0 is6_village.1 dX6_altar_101 ?_
            refine sx_iload C0 dX6_altar_104 (lv_at hl 4 rfl) ?_
            refine sw_bind (fun S106 e106 => ?_)
            refine cv_X6_231 (As := [.ref (ad 119), .ref (ad (30 + 11)), .int v4]) C0 (c_X1_seekAll C0.2.2.2.2.2.2.2.1 95 is6_plans 119 is6_otherGods (30 + 11) is6_village.2.2.1 v4 S88 _ e106) is6_plans.1 ⟨rfl, rfl⟩ ⟨Nat.le_of_ble_eq_true rfl, Nat.le_of_ble_eq_true rfl⟩ rfl hl.1 (Nat.le_of_ble_eq_true rfl) rfl dX6_altar_106 (fun _ => ?_)
            refine sx_aload_n C0 dX6_altar_109 rfl (lv_at hl 0 rfl) ?_
            refine sx_aload_n C0 dX6_altar_110 rfl (lv_at hl 0 rfl) ?_
            refine gf_X6_44 C0 is6 dX6_altar_111 ?_
            refine gf_X6_235 C0 is6_plans.1 dX6_altar_114 ?_
            refine cv_X6_103 (As := [.int (S106.1 95 8)]) C0 (c_X6_tell C0.2.2.2.2.2.2.2.1 (S106.1 95 8) S106) is6 ⟨rfl, rfl⟩ ⟨Nat.le_of_ble_eq_true rfl, Nat.le_of_ble_eq_true rfl⟩ rfl hl.1 (Nat.le_of_ble_eq_true rfl) rfl dX6_altar_117 (fun _ => ?_)
            refine sw_ltS (fun S117 => ?_)
            refine sx_iconst (v := 1) C0 dX6_altar_120 (by decide) ?_
            exact sx_iret C0 rfl rfl trivial dX6_altar_121
          · refine sx_bipush (v := (-4)) C0 dX6_altar_52 (by decide) ?_
            exact sx_iret C0 rfl rfl trivial dX6_altar_54
abbrev rm_X6_turns : Room := { frames := 14, cells := 0, slots := 0, locals := 376 }
def bX6_turns_82    (S : vS)  (t0 : Int32) : Option (Int32 × vS) := ((mX6_tellFraction S t0 (1 : Int32)).bind fun S83 => (some ((1 : Int32), S83)))
set_option maxHeartbeats 4000000 in
set_option maxRecDepth 100000 in
theorem bX6_turns_82_t {p : Program} {l : Launch} {e : Env} {s : State} {m : MethodId} {args : Array Value} {below : List Frame} {meth : Method} {c : Code} {D : va_G} {cA : Nat → ClassId} {ad : Nat → Nat} {kl : Nat}   (C0 : Cx D vwCl tlC shC cA ad (ExC ad kl) RX6 cX6_turns 3 (some .int) p s m args meth c)  (S : vS)  (t0 : Int32) (ls : Array Slot) (hl : lv_has ls 3 []) : SW p l e rm_X6_turns s m args below meth c D vwCl shC cA ad (Fq D vwCl shC cA ad below args s (fun q => some (.int q.1) : (Int32 × vS) → Option Value) (fun q => q.2) (fun _ => True)) (bX6_turns_82 S t0) S 82 ls [.int t0, .ref (ad 0)] := by
  rw [bX6_turns_82]
  refine sx_iconst (v := 1) C0 dX6_turns_82 (by decide) ?_
  refine sw_bind (fun S83 e83 => ?_)
  refine cv_X6_268 (As := [.int t0, .int (1 : Int32)]) C0 (c_X6_tellFraction C0.2.2.2.2.2.2.2.1 t0 (1 : Int32) S _ e83) is6 ⟨rfl, rfl⟩ ⟨Nat.le_of_ble_eq_true rfl, Nat.le_of_ble_eq_true rfl⟩ rfl hl.1 (Nat.le_of_ble_eq_true rfl) rfl dX6_turns_83 (fun _ => ?_)
  refine sx_iconst (v := 1) C0 dX6_turns_86 (by decide) ?_
  exact sx_iret C0 rfl rfl trivial dX6_turns_87
def mX6_turns (S : vS) (v1 : Int32) (v2 : Int32) : Option (Int32 × vS) := (if (v1 &&& ((S.1 (30 + 1) 1) ^^^ (-1 : Int32))) = 0 then (if v2 < 0 then (some ((-1 : Int32), S)) else (if v2 ≤ (3 : Int32) then (if (mX6_noGods S) = 0 then ((mX1_duel S 95 (30 + 1) (30 + 11) v2 v1).bind fun q59 => (lt (mX6_tell q59.2 q59.1) fun S62 => (if v2 = 0 then (bX6_turns_82 S62 (12 : Int32)) else ((mX1_firstOfDuel S62 95).bind fun a79 => (bX6_turns_82 S62 a79))))) else (some ((-4 : Int32), S))) else (some ((-1 : Int32), S)))) else (some ((-1 : Int32), S)))
set_option maxHeartbeats 4000000 in
set_option maxRecDepth 100000 in
theorem c_X6_turns {l : Launch} {D : va_G} {cA : Nat → ClassId} {ad : Nat → Nat} {kl : Nat} (G : Gx shC ad (ExC ad kl)) (v1 : Int32) (v2 : Int32) (S : vS) (r : (Int32 × vS)) (hr : (mX6_turns S v1 v2) = some r) : Met l yX6_turns (Cond.code yX6_turns cX6_turns 3 (some .int) :: ALL) rm_X6_turns (Po D vwCl tlC shC cA ad (ExC ad kl) [.ref (ad 0), .int v1, .int v2] S) (Qo D vwCl shC cA ad (some (.int r.1)) r.2 True) 0 0 (aw shC ad) := by
  refine Met.sx (M := (mX6_turns S v1 v2)) (rv := (fun q => some (.int q.1) : (Int32 × vS) → Option Value)) (rs := fun q => q.2) (B := fun _ => True) (by decide) ⟨rfl, rfl⟩ (Nat.le_of_ble_eq_true rfl) G (fun p e s m args below meth c C0 ls hl => ?_) hr
  have hl : lv_has ls 3 [(0, .ref (ad 0)), (1, .int v1), (2, .int v2)] := hl
  rw [mX6_turns]
  refine sx_iload_n C0 dX6_turns_0 rfl (lv_at hl 1 rfl) ?_
  refine sx_aload_n C0 dX6_turns_1 rfl (lv_at hl 0 rfl) ?_
  refine gf_X6_33 C0 is6 dX6_turns_2 ?_
  refine gf_X6_149 C0 is6_village.1 dX6_turns_5 ?_
  refine gf_X6_297 C0 is6_village.2.1.1 dX6_turns_8 ?_
  refine sx_iconst (v := (-1)) C0 dX6_turns_11 (by decide) ?_
  refine sx_ixor C0 dX6_turns_12 ?_
  refine sx_iand C0 dX6_turns_13 ?_
  refine sx_if_ne (tgt := 26) C0 dX6_turns_14 (by decide) (fun _ => ?_) (fun _ => ?_)
  · refine sx_iload_n C0 dX6_turns_17 rfl (lv_at hl 2 rfl) ?_
    refine sx_if_lt (tgt := 26) C0 dX6_turns_18 (by decide) (fun _ => ?_) (fun _ => ?_)
    · refine sx_iconst (v := (-1)) C0 dX6_turns_26 (by decide) ?_
      exact sx_iret C0 rfl rfl trivial dX6_turns_27
    · refine sx_iload_n C0 dX6_turns_21 rfl (lv_at hl 2 rfl) ?_
      refine sx_iconst (v := 3) C0 dX6_turns_22 (by decide) ?_
      refine sx_icmp_le (tgt := 28) C0 dX6_turns_23 (by decide) (fun _ => ?_) (fun _ => ?_)
      · refine sx_aload_n C0 dX6_turns_28 rfl (lv_at hl 0 rfl) ?_
        refine cv_X6_183 (As := []) C0 (c_X6_noGods C0.2.2.2.2.2.2.2.1 S) is6 ⟨rfl, rfl⟩ ⟨Nat.le_of_ble_eq_true rfl, Nat.le_of_ble_eq_true rfl⟩ rfl hl.1 (Nat.le_of_ble_eq_true rfl) rfl dX6_turns_29 (fun hb29 => ?_)
        refine sx_if_eq (tgt := 38) C0 dX6_turns_32 (by decide) (fun _ => ?_) (fun _ => ?_)
        · refine sx_aload_n C0 dX6_turns_38 rfl (lv_at hl 0 rfl) ?_
          refine sx_aload_n C0 dX6_turns_39 rfl (lv_at hl 0 rfl) ?_
          refine gf_X6_44 C0 is6 dX6_turns_40 ?_
          refine sx_aload_n C0 dX6_turns_43 rfl (lv_at hl 0 rfl) ?_
          refine gf_X6_33 C0 is6 dX6_turns_44 ?_
          refine gf_X6_149 C0 is6_village.1 dX6_turns_47 ?_
          refine sx_aload_n C0 dX6_turns_50 rfl (lv_at hl 0 rfl) ?_
          refine gf_X6_33 C0 is6 dX6_turns_51 ?_
          refine gf_X6_167 C0 is6_village.1 dX6_turns_54 ?_
          refine sx_iload_n C0 dX6_turns_57 rfl (lv_at hl 2 rfl) ?_
          refine sx_iload_n C0 dX6_turns_58 rfl (lv_at hl 1 rfl) ?_
          refine sw_bind (fun q59 e59 => ?_)
          refine cv_X6_300 (As := [.ref (ad (30 + 1)), .ref (ad (30 + 11)), .int v2, .int v1]) C0 (c_X1_duel C0.2.2.2.2.2.2.2.1 95 is6_plans (30 + 1) is6_village.2.1 (30 + 11) is6_village.2.2.1 v2 v1 S _ e59) is6_plans.1 ⟨rfl, rfl⟩ ⟨Nat.le_of_ble_eq_true rfl, Nat.le_of_ble_eq_true rfl⟩ rfl hl.1 (Nat.le_of_ble_eq_true rfl) rfl dX6_turns_59 (fun _ => ?_)
          refine cv_X6_103 (As := [.int q59.1]) C0 (c_X6_tell C0.2.2.2.2.2.2.2.1 q59.1 q59.2) is6 ⟨rfl, rfl⟩ ⟨Nat.le_of_ble_eq_true rfl, Nat.le_of_ble_eq_true rfl⟩ rfl hl.1 (Nat.le_of_ble_eq_true rfl) rfl dX6_turns_62 (fun _ => ?_)
          refine sw_ltS (fun S62 => ?_)
          refine sx_aload_n C0 dX6_turns_65 rfl (lv_at hl 0 rfl) ?_
          refine sx_iload_n C0 dX6_turns_66 rfl (lv_at hl 2 rfl) ?_
          refine sx_if_ne (tgt := 75) C0 dX6_turns_67 (by decide) (fun _ => ?_) (fun _ => ?_)
          · refine sx_bipush (v := 12) C0 dX6_turns_70 (by decide) ?_
            refine sx_goto (tgt := 82) C0 dX6_turns_72 (by decide) ?_
            exact bX6_turns_82_t C0 _ _ _ (lv_sub hl [] rfl)
          · refine sx_aload_n C0 dX6_turns_75 rfl (lv_at hl 0 rfl) ?_
            refine gf_X6_44 C0 is6 dX6_turns_76 ?_
            refine sw_bind (fun a79 e79 => ?_)
            refine cv_X6_304 (As := []) C0 (c_X1_firstOfDuel C0.2.2.2.2.2.2.2.1 95 is6_plans S62 _ e79) is6_plans.1 ⟨rfl, rfl⟩ ⟨Nat.le_of_ble_eq_true rfl, Nat.le_of_ble_eq_true rfl⟩ rfl hl.1 (Nat.le_of_ble_eq_true rfl) rfl dX6_turns_79 (fun _ => ?_)
            exact bX6_turns_82_t C0 _ _ _ (lv_sub hl [] rfl)
        · refine sx_bipush (v := (-4)) C0 dX6_turns_35 (by decide) ?_
          exact sx_iret C0 rfl rfl trivial dX6_turns_37
      · refine sx_iconst (v := (-1)) C0 dX6_turns_26 (by decide) ?_
        exact sx_iret C0 rfl rfl trivial dX6_turns_27
  · refine sx_iconst (v := (-1)) C0 dX6_turns_26 (by decide) ?_
    exact sx_iret C0 rfl rfl trivial dX6_turns_27
abbrev rm_X6_bookRefused : Room := { frames := 5, cells := 0, slots := 0, locals := 109 }
def bX6_bookRefused_22    (S : vS)   : Option (Int32 × vS) := ((mX6_found S (1 : Int32)).bind fun q24 => (some (q24.1, q24.2)))
set_option maxHeartbeats 4000000 in
set_option maxRecDepth 100000 in
theorem bX6_bookRefused_22_t {p : Program} {l : Launch} {e : Env} {s : State} {m : MethodId} {args : Array Value} {below : List Frame} {meth : Method} {c : Code} {D : va_G} {cA : Nat → ClassId} {ad : Nat → Nat} {kl : Nat}   (C0 : Cx D vwCl tlC shC cA ad (ExC ad kl) RX6 cX6_bookRefused 3 (some .int) p s m args meth c)  (S : vS)  (ls : Array Slot) (hl : lv_has ls 3 [(0, .ref (ad 0))]) : SW p l e rm_X6_bookRefused s m args below meth c D vwCl shC cA ad (Fq D vwCl shC cA ad below args s (fun q => some (.int q.1) : (Int32 × vS) → Option Value) (fun q => q.2) (fun _ => True)) (bX6_bookRefused_22 S) S 22 ls [] := by
  rw [bX6_bookRefused_22]
  refine sx_aload_n C0 dX6_bookRefused_22 rfl (lv_at hl 0 rfl) ?_
  refine sx_iconst (v := 1) C0 dX6_bookRefused_23 (by decide) ?_
  refine sw_bind (fun q24 e24 => ?_)
  refine cv_X6_87 (As := [.int (1 : Int32)]) C0 (c_X6_found C0.2.2.2.2.2.2.2.1 (1 : Int32) S _ e24) is6 ⟨rfl, rfl⟩ ⟨Nat.le_of_ble_eq_true rfl, Nat.le_of_ble_eq_true rfl⟩ rfl hl.1 (Nat.le_of_ble_eq_true rfl) rfl dX6_bookRefused_24 (fun _ => ?_)
  exact sx_iret C0 rfl rfl trivial dX6_bookRefused_27
def bX6_bookRefused_60    (S : vS)   : Option (Int32 × vS) := ((mX6_found S (5 : Int32)).bind fun q62 => (some (q62.1, q62.2)))
set_option maxHeartbeats 4000000 in
set_option maxRecDepth 100000 in
theorem bX6_bookRefused_60_t {p : Program} {l : Launch} {e : Env} {s : State} {m : MethodId} {args : Array Value} {below : List Frame} {meth : Method} {c : Code} {D : va_G} {cA : Nat → ClassId} {ad : Nat → Nat} {kl : Nat}   (C0 : Cx D vwCl tlC shC cA ad (ExC ad kl) RX6 cX6_bookRefused 3 (some .int) p s m args meth c)  (S : vS)  (ls : Array Slot) (hl : lv_has ls 3 [(0, .ref (ad 0))]) : SW p l e rm_X6_bookRefused s m args below meth c D vwCl shC cA ad (Fq D vwCl shC cA ad below args s (fun q => some (.int q.1) : (Int32 × vS) → Option Value) (fun q => q.2) (fun _ => True)) (bX6_bookRefused_60 S) S 60 ls [] := by
  rw [bX6_bookRefused_60]
  refine sx_aload_n C0 dX6_bookRefused_60 rfl (lv_at hl 0 rfl) ?_
  refine sx_iconst (v := 5) C0 dX6_bookRefused_61 (by decide) ?_
  refine sw_bind (fun q62 e62 => ?_)
  refine cv_X6_87 (As := [.int (5 : Int32)]) C0 (c_X6_found C0.2.2.2.2.2.2.2.1 (5 : Int32) S _ e62) is6 ⟨rfl, rfl⟩ ⟨Nat.le_of_ble_eq_true rfl, Nat.le_of_ble_eq_true rfl⟩ rfl hl.1 (Nat.le_of_ble_eq_true rfl) rfl dX6_bookRefused_62 (fun _ => ?_)
  exact sx_iret C0 rfl rfl trivial dX6_bookRefused_65
def mX6_bookRefused (S : vS) (v1 : Int32) (v2 : Int32) : Option (Int32 × vS) := ((mX4_isThere S 1 6 v1).bind fun a5 => (if a5 = 0 then (bX6_bookRefused_22 S) else ((mX4_isThere S 1 6 v2).bind fun a16 => (if a16 = 0 then (bX6_bookRefused_22 S) else ((mX4_size S 1 6 v1).bind fun a33 => (if (30 : Int32) < a33 then (bX6_bookRefused_60 S) else ((mX4_size S 1 6 v1).bind fun a46 => ((mX4_size S 1 6 v2).bind fun a54 => (if a46 = a54 then ((mX6_holdsNumbersOnly S v1).bind fun a68 => (if a68 = 0 then ((mX6_found S (3 : Int32)).bind fun q80 => (some (q80.1, q80.2))) else (some ((0 : Int32), S)))) else (bX6_bookRefused_60 S))))))))))
set_option maxHeartbeats 4000000 in
set_option maxRecDepth 100000 in
theorem c_X6_bookRefused {l : Launch} {D : va_G} {cA : Nat → ClassId} {ad : Nat → Nat} {kl : Nat} (G : Gx shC ad (ExC ad kl)) (v1 : Int32) (v2 : Int32) (S : vS) (r : (Int32 × vS)) (hr : (mX6_bookRefused S v1 v2) = some r) : Met l yX6_bookRefused (Cond.code yX6_bookRefused cX6_bookRefused 3 (some .int) :: ALL) rm_X6_bookRefused (Po D vwCl tlC shC cA ad (ExC ad kl) [.ref (ad 0), .int v1, .int v2] S) (Qo D vwCl shC cA ad (some (.int r.1)) r.2 True) 0 0 (aw shC ad) := by
  refine Met.sx (M := (mX6_bookRefused S v1 v2)) (rv := (fun q => some (.int q.1) : (Int32 × vS) → Option Value)) (rs := fun q => q.2) (B := fun _ => True) (by decide) ⟨rfl, rfl⟩ (Nat.le_of_ble_eq_true rfl) G (fun p e s m args below meth c C0 ls hl => ?_) hr
  have hl : lv_has ls 3 [(0, .ref (ad 0)), (1, .int v1), (2, .int v2)] := hl
  rw [mX6_bookRefused]
  refine sx_aload_n C0 dX6_bookRefused_0 rfl (lv_at hl 0 rfl) ?_
  refine gf_X6_16 C0 is6 dX6_bookRefused_1 ?_
  refine sx_iload_n C0 dX6_bookRefused_4 rfl (lv_at hl 1 rfl) ?_
  refine sw_bind (fun a5 e5 => ?_)
  refine cv_X6_110 (As := [.int v1]) C0 (c_X4_isThere C0.2.2.2.2.2.2.2.1 1 6 is6_rows v1 S _ e5) is6_rows.1 ⟨rfl, rfl⟩ ⟨Nat.le_of_ble_eq_true rfl, Nat.le_of_ble_eq_true rfl⟩ rfl hl.1 (Nat.le_of_ble_eq_true rfl) rfl dX6_bookRefused_5 (fun hb5 => ?_)
  refine sx_if_eq (tgt := 22) C0 dX6_bookRefused_8 (by decide) (fun _ => ?_) (fun _ => ?_)
  · exact bX6_bookRefused_22_t C0 _ _ (lv_sub hl [0] rfl)
  · refine sx_aload_n C0 dX6_bookRefused_11 rfl (lv_at hl 0 rfl) ?_
    refine gf_X6_16 C0 is6 dX6_bookRefused_12 ?_
    refine sx_iload_n C0 dX6_bookRefused_15 rfl (lv_at hl 2 rfl) ?_
    refine sw_bind (fun a16 e16 => ?_)
    refine cv_X6_110 (As := [.int v2]) C0 (c_X4_isThere C0.2.2.2.2.2.2.2.1 1 6 is6_rows v2 S _ e16) is6_rows.1 ⟨rfl, rfl⟩ ⟨Nat.le_of_ble_eq_true rfl, Nat.le_of_ble_eq_true rfl⟩ rfl hl.1 (Nat.le_of_ble_eq_true rfl) rfl dX6_bookRefused_16 (fun hb16 => ?_)
    refine sx_if_ne (tgt := 28) C0 dX6_bookRefused_19 (by decide) (fun _ => ?_) (fun _ => ?_)
    · exact bX6_bookRefused_22_t C0 _ _ (lv_sub hl [0] rfl)
    · refine sx_aload_n C0 dX6_bookRefused_28 rfl (lv_at hl 0 rfl) ?_
      refine gf_X6_16 C0 is6 dX6_bookRefused_29 ?_
      refine sx_iload_n C0 dX6_bookRefused_32 rfl (lv_at hl 1 rfl) ?_
      refine sw_bind (fun a33 e33 => ?_)
      refine cv_X6_124 (As := [.int v1]) C0 (c_X4_size C0.2.2.2.2.2.2.2.1 1 6 is6_rows v1 S _ e33) is6_rows.1 ⟨rfl, rfl⟩ ⟨Nat.le_of_ble_eq_true rfl, Nat.le_of_ble_eq_true rfl⟩ rfl hl.1 (Nat.le_of_ble_eq_true rfl) rfl dX6_bookRefused_33 (fun _ => ?_)
      refine sx_bipush (v := 30) C0 dX6_bookRefused_36 (by decide) ?_
      refine sx_icmp_gt (tgt := 60) C0 dX6_bookRefused_38 (by decide) (fun _ => ?_) (fun _ => ?_)
      · exact bX6_bookRefused_60_t C0 _ _ (lv_sub hl [0] rfl)
      · refine sx_aload_n C0 dX6_bookRefused_41 rfl (lv_at hl 0 rfl) ?_
        refine gf_X6_16 C0 is6 dX6_bookRefused_42 ?_
        refine sx_iload_n C0 dX6_bookRefused_45 rfl (lv_at hl 1 rfl) ?_
        refine sw_bind (fun a46 e46 => ?_)
        refine cv_X6_124 (As := [.int v1]) C0 (c_X4_size C0.2.2.2.2.2.2.2.1 1 6 is6_rows v1 S _ e46) is6_rows.1 ⟨rfl, rfl⟩ ⟨Nat.le_of_ble_eq_true rfl, Nat.le_of_ble_eq_true rfl⟩ rfl hl.1 (Nat.le_of_ble_eq_true rfl) rfl dX6_bookRefused_46 (fun _ => ?_)
        refine sx_aload_n C0 dX6_bookRefused_49 rfl (lv_at hl 0 rfl) ?_
        refine gf_X6_16 C0 is6 dX6_bookRefused_50 ?_
        refine sx_iload_n C0 dX6_bookRefused_53 rfl (lv_at hl 2 rfl) ?_
        refine sw_bind (fun a54 e54 => ?_)
        refine cv_X6_124 (As := [.int v2]) C0 (c_X4_size C0.2.2.2.2.2.2.2.1 1 6 is6_rows v2 S _ e54) is6_rows.1 ⟨rfl, rfl⟩ ⟨Nat.le_of_ble_eq_true rfl, Nat.le_of_ble_eq_true rfl⟩ rfl hl.1 (Nat.le_of_ble_eq_true rfl) rfl dX6_bookRefused_54 (fun _ => ?_)
        refine sx_icmp_eq (tgt := 66) C0 dX6_bookRefused_57 (by decide) (fun _ => ?_) (fun _ => ?_)
        · refine sx_aload_n C0 dX6_bookRefused_66 rfl (lv_at hl 0 rfl) ?_
          refine sx_iload_n C0 dX6_bookRefused_67 rfl (lv_at hl 1 rfl) ?_
          refine sw_bind (fun a68 e68 => ?_)
          refine cv_X6_245 (As := [.int v1]) C0 (c_X6_holdsNumbersOnly C0.2.2.2.2.2.2.2.1 v1 S _ e68) is6 ⟨rfl, rfl⟩ ⟨Nat.le_of_ble_eq_true rfl, Nat.le_of_ble_eq_true rfl⟩ rfl hl.1 (Nat.le_of_ble_eq_true rfl) rfl dX6_bookRefused_68 (fun hb68 => ?_)
          refine sx_if_eq (tgt := 78) C0 dX6_bookRefused_71 (by decide) (fun _ => ?_) (fun _ => ?_)
          · refine sx_aload_n C0 dX6_bookRefused_78 rfl (lv_at hl 0 rfl) ?_
            refine sx_iconst (v := 3) C0 dX6_bookRefused_79 (by decide) ?_
            refine sw_bind (fun q80 e80 => ?_)
            refine cv_X6_87 (As := [.int (3 : Int32)]) C0 (c_X6_found C0.2.2.2.2.2.2.2.1 (3 : Int32) S _ e80) is6 ⟨rfl, rfl⟩ ⟨Nat.le_of_ble_eq_true rfl, Nat.le_of_ble_eq_true rfl⟩ rfl hl.1 (Nat.le_of_ble_eq_true rfl) rfl dX6_bookRefused_80 (fun _ => ?_)
            exact sx_iret C0 rfl rfl trivial dX6_bookRefused_83
          · refine sx_iconst (v := 0) C0 dX6_bookRefused_74 (by decide) ?_
            refine sx_goto (tgt := 83) C0 dX6_bookRefused_75 (by decide) ?_
            exact sx_iret C0 rfl rfl trivial dX6_bookRefused_83
        · exact bX6_bookRefused_60_t C0 _ _ (lv_sub hl [0] rfl)
abbrev rm_X6_bookFitsOthers : Room := { frames := 4, cells := 0, slots := 0, locals := 99 }
def lX6_bookFitsOthers_6    (v1 : Int32) (v2 : Int32) : Nat → vS → Int32 → Option (Int32 × vS)
  | 0, _, _ => none
  | n + 1, S, v3 => ((mX4_size S 1 6 v1).bind fun a12 => (if a12 ≤ v3 then (some ((1 : Int32), S)) else (lt (mX3_worth S 129) fun v4_25 => ((mX4_read S 1 6 v1 v3).bind fun a41 => ((mX3_goOn S 129 119 a41).bind fun q44 => (if q44.1 = 0 then (some ((0 : Int32), q44.2)) else ((mX4_read q44.2 1 6 v2 v3).bind fun a68 => (if ((mX3_worth q44.2 129) - v4_25) = a68 then ((lX6_bookFitsOthers_6 v1 v2 n) q44.2 (v3 + (1 : Int32))) else (some ((0 : Int32), q44.2))))))))))
set_option maxHeartbeats 4000000 in
set_option maxRecDepth 100000 in
theorem lX6_bookFitsOthers_6_t {p : Program} {l : Launch} {e : Env} {s : State} {m : MethodId} {args : Array Value} {below : List Frame} {meth : Method} {c : Code} {D : va_G} {cA : Nat → ClassId} {ad : Nat → Nat} {kl : Nat}   (C0 : Cx D vwCl tlC shC cA ad (ExC ad kl) RX6 cX6_bookFitsOthers 5 (some .boolean) p s m args meth c)   (v1 : Int32) (v2 : Int32)  : ∀ (n : Nat) (S : vS) (v3 : Int32) (ls : Array Slot), lv_has ls 5 [(0, .ref (ad 0)), (1, .int v1), (2, .int v2), (3, .int v3)] → SW p l e rm_X6_bookFitsOthers s m args below meth c D vwCl shC cA ad (Fq D vwCl shC cA ad below args s (fun q => some (.int q.1) : (Int32 × vS) → Option Value) (fun q => q.2) (fun q => isB q.1)) (lX6_bookFitsOthers_6 v1 v2 n S v3) S 6 ls [] := by
  intro n
  induction n with
  | zero =>
    intro S v3 ls hl
    rw [lX6_bookFitsOthers_6]
    exact sw_none
  | succ n ih =>
    intro S v3 ls hl
    rw [lX6_bookFitsOthers_6]
    refine sx_iload_n C0 dX6_bookFitsOthers_6 rfl (lv_at hl 3 rfl) ?_
    refine sx_aload_n C0 dX6_bookFitsOthers_7 rfl (lv_at hl 0 rfl) ?_
    refine gf_X6_16 C0 is6 dX6_bookFitsOthers_8 ?_
    refine sx_iload_n C0 dX6_bookFitsOthers_11 rfl (lv_at hl 1 rfl) ?_
    refine sw_bind (fun a12 e12 => ?_)
    refine cv_X6_124 (As := [.int v1]) C0 (c_X4_size C0.2.2.2.2.2.2.2.1 1 6 is6_rows v1 S _ e12) is6_rows.1 ⟨rfl, rfl⟩ ⟨Nat.le_of_ble_eq_true rfl, Nat.le_of_ble_eq_true rfl⟩ rfl hl.1 (Nat.le_of_ble_eq_true rfl) rfl dX6_bookFitsOthers_12 (fun _ => ?_)
    refine sx_icmp_ge (tgt := 82) C0 dX6_bookFitsOthers_15 (by decide) (fun _ => ?_) (fun _ => ?_)
    · refine sx_iconst (v := 1) C0 dX6_bookFitsOthers_82 (by decide) ?_
      exact sx_zret C0 rfl rfl (Or.inr rfl) (Or.inr rfl) dX6_bookFitsOthers_83
    · refine sx_aload_n C0 dX6_bookFitsOthers_18 rfl (lv_at hl 0 rfl) ?_
      refine gf_X6_58 C0 is6 dX6_bookFitsOthers_19 ?_
      refine cv_X6_255 (As := []) C0 (c_X3_worth C0.2.2.2.2.2.2.2.1 129 is6_trial S) is6_trial.1 ⟨rfl, rfl⟩ ⟨Nat.le_of_ble_eq_true rfl, Nat.le_of_ble_eq_true rfl⟩ rfl hl.1 (Nat.le_of_ble_eq_true rfl) rfl dX6_bookFitsOthers_22 (fun _ => ?_)
      refine sw_lt (val := .int) (fun v4_25 => ?_)
      refine sx_istore (lv' := [(4, .int v4_25), (0, .ref (ad 0)), (1, .int v1), (2, .int v2), (3, .int v3)]) C0 dX6_bookFitsOthers_25 hl (by decide) rfl (fun ls hl => ?_)
      refine sx_aload_n C0 dX6_bookFitsOthers_27 rfl (lv_at hl 1 rfl) ?_
      refine gf_X6_58 C0 is6 dX6_bookFitsOthers_28 ?_
      refine sx_aload_n C0 dX6_bookFitsOthers_31 rfl (lv_at hl 1 rfl) ?_
      refine gf_X6_51 C0 is6 dX6_bookFitsOthers_32 ?_
      refine sx_aload_n C0 dX6_bookFitsOthers_35 rfl (lv_at hl 1 rfl) ?_
      refine gf_X6_16 C0 is6 dX6_bookFitsOthers_36 ?_
      refine sx_iload_n C0 dX6_bookFitsOthers_39 rfl (lv_at hl 2 rfl) ?_
      refine sx_iload_n C0 dX6_bookFitsOthers_40 rfl (lv_at hl 4 rfl) ?_
      refine sw_bind (fun a41 e41 => ?_)
      refine cv_X6_99 (As := [.int v1, .int v3]) C0 (c_X4_read C0.2.2.2.2.2.2.2.1 1 6 is6_rows v1 v3 S _ e41) is6_rows.1 ⟨rfl, rfl⟩ ⟨Nat.le_of_ble_eq_true rfl, Nat.le_of_ble_eq_true rfl⟩ rfl hl.1 (Nat.le_of_ble_eq_true rfl) rfl dX6_bookFitsOthers_41 (fun _ => ?_)
      refine sw_bind (fun q44 e44 => ?_)
      refine cv_X6_251 (As := [.ref (ad 119), .int a41]) C0 (c_X3_goOn C0.2.2.2.2.2.2.2.1 129 is6_trial 119 is6_otherGods a41 S _ e44) is6_trial.1 ⟨rfl, rfl⟩ ⟨Nat.le_of_ble_eq_true rfl, Nat.le_of_ble_eq_true rfl⟩ rfl hl.1 (Nat.le_of_ble_eq_true rfl) rfl dX6_bookFitsOthers_44 (fun hb44 => ?_)
      refine sx_if_ne (tgt := 52) C0 dX6_bookFitsOthers_47 (by decide) (fun _ => ?_) (fun _ => ?_)
      · refine sx_iconst (v := 0) C0 dX6_bookFitsOthers_50 (by decide) ?_
        exact sx_zret C0 rfl rfl (Or.inl rfl) (Or.inl rfl) dX6_bookFitsOthers_51
      · refine sx_aload_n C0 dX6_bookFitsOthers_52 rfl (lv_at hl 1 rfl) ?_
        refine gf_X6_58 C0 is6 dX6_bookFitsOthers_53 ?_
        refine cv_X6_255 (As := []) C0 (c_X3_worth C0.2.2.2.2.2.2.2.1 129 is6_trial q44.2) is6_trial.1 ⟨rfl, rfl⟩ ⟨Nat.le_of_ble_eq_true rfl, Nat.le_of_ble_eq_true rfl⟩ rfl hl.1 (Nat.le_of_ble_eq_true rfl) rfl dX6_bookFitsOthers_56 (fun _ => ?_)
        refine sx_iload C0 dX6_bookFitsOthers_59 (lv_at hl 0 rfl) ?_
        refine sx_isub C0 dX6_bookFitsOthers_61 ?_
        refine sx_aload_n C0 dX6_bookFitsOthers_62 rfl (lv_at hl 1 rfl) ?_
        refine gf_X6_16 C0 is6 dX6_bookFitsOthers_63 ?_
        refine sx_iload_n C0 dX6_bookFitsOthers_66 rfl (lv_at hl 3 rfl) ?_
        refine sx_iload_n C0 dX6_bookFitsOthers_67 rfl (lv_at hl 4 rfl) ?_
        refine sw_bind (fun a68 e68 => ?_)
        refine cv_X6_99 (As := [.int v2, .int v3]) C0 (c_X4_read C0.2.2.2.2.2.2.2.1 1 6 is6_rows v2 v3 q44.2 _ e68) is6_rows.1 ⟨rfl, rfl⟩ ⟨Nat.le_of_ble_eq_true rfl, Nat.le_of_ble_eq_true rfl⟩ rfl hl.1 (Nat.le_of_ble_eq_true rfl) rfl dX6_bookFitsOthers_68 (fun _ => ?_)
        refine sx_icmp_eq (tgt := 76) C0 dX6_bookFitsOthers_71 (by decide) (fun _ => ?_) (fun _ => ?_)
        · refine sx_iinc (v := (v3 + (1 : Int32))) (lv' := [(3, .int (v3 + (1 : Int32))), (4, .int v4_25), (0, .ref (ad 0)), (1, .int v1), (2, .int v2)]) C0 dX6_bookFitsOthers_76 hl (k := 4) rfl rfl (by decide) rfl (fun ls hl => ?_)
          refine sx_goto (tgt := 6) C0 dX6_bookFitsOthers_79 (by decide) ?_
          exact ih _ _ _ (lv_sub hl [2, 3, 4, 0] rfl)
        · refine sx_iconst (v := 0) C0 dX6_bookFitsOthers_74 (by decide) ?_
          exact sx_zret C0 rfl rfl (Or.inl rfl) (Or.inl rfl) dX6_bookFitsOthers_75
def mX6_bookFitsOthers (S : vS) (v1 : Int32) (v2 : Int32) : Option (Int32 × vS) := ((mX6_startTrial S).bind fun S1 => (lX6_bookFitsOthers_6 v1 v2 FU S1 (0 : Int32)))
set_option maxHeartbeats 4000000 in
set_option maxRecDepth 100000 in
theorem c_X6_bookFitsOthers {l : Launch} {D : va_G} {cA : Nat → ClassId} {ad : Nat → Nat} {kl : Nat} (G : Gx shC ad (ExC ad kl)) (v1 : Int32) (v2 : Int32) (S : vS) (r : (Int32 × vS)) (hr : (mX6_bookFitsOthers S v1 v2) = some r) : Met l yX6_bookFitsOthers (Cond.code yX6_bookFitsOthers cX6_bookFitsOthers 5 (some .boolean) :: ALL) rm_X6_bookFitsOthers (Po D vwCl tlC shC cA ad (ExC ad kl) [.ref (ad 0), .int v1, .int v2] S) (Qo D vwCl shC cA ad (some (.int r.1)) r.2 (isB r.1)) 0 0 (aw shC ad) := by
  refine Met.sx (M := (mX6_bookFitsOthers S v1 v2)) (rv := (fun q => some (.int q.1) : (Int32 × vS) → Option Value)) (rs := fun q => q.2) (B := fun q => isB q.1) (by decide) ⟨rfl, rfl⟩ (Nat.le_of_ble_eq_true rfl) G (fun p e s m args below meth c C0 ls hl => ?_) hr
  have hl : lv_has ls 5 [(0, .ref (ad 0)), (1, .int v1), (2, .int v2)] := hl
  rw [mX6_bookFitsOthers]
  refine sx_aload_n C0 dX6_bookFitsOthers_0 rfl (lv_at hl 0 rfl) ?_
  refine sw_bind (fun S1 e1 => ?_)
  refine cv_X6_248 (As := []) C0 (c_X6_startTrial C0.2.2.2.2.2.2.2.1 S _ e1) is6 ⟨rfl, rfl⟩ ⟨Nat.le_of_ble_eq_true rfl, Nat.le_of_ble_eq_true rfl⟩ rfl hl.1 (Nat.le_of_ble_eq_true rfl) rfl dX6_bookFitsOthers_1 (fun _ => ?_)
  refine sx_iconst (v := 0) C0 dX6_bookFitsOthers_4 (by decide) ?_
  refine sx_istore_n (lv' := [(3, .int (0 : Int32)), (0, .ref (ad 0)), (1, .int v1), (2, .int v2)]) C0 dX6_bookFitsOthers_5 rfl hl (by decide) rfl (fun ls hl => ?_)
  exact lX6_bookFitsOthers_6_t C0 _ _ _ _ _ _ (lv_sub hl [1, 2, 3, 0] rfl)
abbrev rm_X6_fittingPatiences : Room := { frames := 5, cells := 0, slots := 0, locals := 123 }
def lX6_fittingPatiences_20    (v1 : Int32) (v2 : Int32) (v3 : Int32) : Nat → vS → Int32 → Int32 → Option (Int32 × vS)
  | 0, _, _, _ => none
  | n + 1, S, v4, v5 => (if (6 : Int32) < v5 then (some (v4, S)) else ((pI S (119 + 3) 4 v1 v5).bind fun S37 => ((mX6_bookFitsOthers S37 v2 v3).bind fun q41 => (if q41.1 = 0 then ((lX6_fittingPatiences_20 v1 v2 v3 n) q41.2 v4 (v5 + (1 : Int32))) else (lt (v4 ||| ((1 : Int32) <<< (v5 &&& (31 : Int32)))) fun v4_54 => ((lX6_fittingPatiences_20 v1 v2 v3 n) q41.2 v4_54 (v5 + (1 : Int32))))))))
set_option maxHeartbeats 4000000 in
set_option maxRecDepth 100000 in
theorem lX6_fittingPatiences_20_t {p : Program} {l : Launch} {e : Env} {s : State} {m : MethodId} {args : Array Value} {below : List Frame} {meth : Method} {c : Code} {D : va_G} {cA : Nat → ClassId} {ad : Nat → Nat} {kl : Nat}   (C0 : Cx D vwCl tlC shC cA ad (ExC ad kl) RX6 cX6_fittingPatiences 6 (some .int) p s m args meth c)   (v1 : Int32) (v2 : Int32) (v3 : Int32)  : ∀ (n : Nat) (S : vS) (v4 : Int32) (v5 : Int32) (ls : Array Slot), lv_has ls 6 [(0, .ref (ad 0)), (1, .int v1), (2, .int v2), (3, .int v3), (4, .int v4), (5, .int v5)] → SW p l e rm_X6_fittingPatiences s m args below meth c D vwCl shC cA ad (Fq D vwCl shC cA ad below args s (fun q => some (.int q.1) : (Int32 × vS) → Option Value) (fun q => q.2) (fun _ => True)) (lX6_fittingPatiences_20 v1 v2 v3 n S v4 v5) S 20 ls [] := by
  intro n
  induction n with
  | zero =>
    intro S v4 v5 ls hl
    rw [lX6_fittingPatiences_20]
    exact sw_none
  | succ n ih =>
    intro S v4 v5 ls hl
    rw [lX6_fittingPatiences_20]
    refine sx_iload C0 dX6_fittingPatiences_20 (lv_at hl 5 rfl) ?_
    refine sx_bipush (v := 6) C0 dX6_fittingPatiences_22 (by decide) ?_
    refine sx_icmp_gt (tgt := 62) C0 dX6_fittingPatiences_24 (by decide) (fun _ => ?_) (fun _ => ?_)
    · refine sx_iload C0 dX6_fittingPatiences_62 (lv_at hl 4 rfl) ?_
      exact sx_iret C0 rfl rfl trivial dX6_fittingPatiences_64
    · refine sx_aload_n C0 dX6_fittingPatiences_27 rfl (lv_at hl 0 rfl) ?_
      refine gf_X6_51 C0 is6 dX6_fittingPatiences_28 ?_
      refine gf_X6_190 C0 is6_otherGods.1 dX6_fittingPatiences_31 ?_
      refine sx_iload_n C0 dX6_fittingPatiences_34 rfl (lv_at hl 1 rfl) ?_
      refine sx_iload C0 dX6_fittingPatiences_35 (lv_at hl 5 rfl) ?_
      refine sx_iast C0 is6_otherGods.2.2.2.1 rfl dX6_fittingPatiences_37 (fun S37 => ?_)
      refine sx_aload_n C0 dX6_fittingPatiences_38 rfl (lv_at hl 0 rfl) ?_
      refine sx_iload_n C0 dX6_fittingPatiences_39 rfl (lv_at hl 2 rfl) ?_
      refine sx_iload_n C0 dX6_fittingPatiences_40 rfl (lv_at hl 3 rfl) ?_
      refine sw_bind (fun q41 e41 => ?_)
      refine cv_X6_381 (As := [.int v2, .int v3]) C0 (c_X6_bookFitsOthers C0.2.2.2.2.2.2.2.1 v2 v3 S37 _ e41) is6 ⟨rfl, rfl⟩ ⟨Nat.le_of_ble_eq_true rfl, Nat.le_of_ble_eq_true rfl⟩ rfl hl.1 (Nat.le_of_ble_eq_true rfl) rfl dX6_fittingPatiences_41 (fun hb41 => ?_)
      refine sx_if_eq (tgt := 56) C0 dX6_fittingPatiences_44 (by decide) (fun _ => ?_) (fun _ => ?_)
      · refine sx_iinc (v := (v5 + (1 : Int32))) (lv' := [(5, .int (v5 + (1 : Int32))), (0, .ref (ad 0)), (1, .int v1), (2, .int v2), (3, .int v3), (4, .int v4)]) C0 dX6_fittingPatiences_56 hl (k := 5) rfl rfl (by decide) rfl (fun ls hl => ?_)
        refine sx_goto (tgt := 20) C0 dX6_fittingPatiences_59 (by decide) ?_
        exact ih _ _ _ _ (lv_sub hl [1, 2, 3, 4, 5, 0] rfl)
      · refine sx_iload C0 dX6_fittingPatiences_47 (lv_at hl 4 rfl) ?_
        refine sx_iconst (v := 1) C0 dX6_fittingPatiences_49 (by decide) ?_
        refine sx_iload C0 dX6_fittingPatiences_50 (lv_at hl 5 rfl) ?_
        refine sx_ishl C0 dX6_fittingPatiences_52 ?_
        refine sx_ior C0 dX6_fittingPatiences_53 ?_
        refine sw_lt (val := .int) (fun v4_54 => ?_)
        refine sx_istore (lv' := [(4, .int v4_54), (0, .ref (ad 0)), (1, .int v1), (2, .int v2), (3, .int v3), (5, .int v5)]) C0 dX6_fittingPatiences_54 hl (by decide) rfl (fun ls hl => ?_)
        refine sx_iinc (v := (v5 + (1 : Int32))) (lv' := [(5, .int (v5 + (1 : Int32))), (4, .int v4_54), (0, .ref (ad 0)), (1, .int v1), (2, .int v2), (3, .int v3)]) C0 dX6_fittingPatiences_56 hl (k := 5) rfl rfl (by decide) rfl (fun ls hl => ?_)
        refine sx_goto (tgt := 20) C0 dX6_fittingPatiences_59 (by decide) ?_
        exact ih _ _ _ _ (lv_sub hl [2, 3, 4, 5, 1, 0] rfl)
def mX6_fittingPatiences (S : vS) (v1 : Int32) (v2 : Int32) (v3 : Int32) : Option (Int32 × vS) := ((mX0_take S 119 (30 + 1)).bind fun S14 => (lX6_fittingPatiences_20 v1 v2 v3 FU S14 (0 : Int32) (1 : Int32)))
set_option maxHeartbeats 4000000 in
set_option maxRecDepth 100000 in
theorem c_X6_fittingPatiences {l : Launch} {D : va_G} {cA : Nat → ClassId} {ad : Nat → Nat} {kl : Nat} (G : Gx shC ad (ExC ad kl)) (v1 : Int32) (v2 : Int32) (v3 : Int32) (S : vS) (r : (Int32 × vS)) (hr : (mX6_fittingPatiences S v1 v2 v3) = some r) : Met l yX6_fittingPatiences (Cond.code yX6_fittingPatiences cX6_fittingPatiences 6 (some .int) :: ALL) rm_X6_fittingPatiences (Po D vwCl tlC shC cA ad (ExC ad kl) [.ref (ad 0), .int v1, .int v2, .int v3] S) (Qo D vwCl shC cA ad (some (.int r.1)) r.2 True) 0 0 (aw shC ad) := by
  refine Met.sx (M := (mX6_fittingPatiences S v1 v2 v3)) (rv := (fun q => some (.int q.1) : (Int32 × vS) → Option Value)) (rs := fun q => q.2) (B := fun _ => True) (by decide) ⟨rfl, rfl⟩ (Nat.le_of_ble_eq_true rfl) G (fun p e s m args below meth c C0 ls hl => ?_) hr
  have hl : lv_has ls 6 [(0, .ref (ad 0)), (1, .int v1), (2, .int v2), (3, .int v3)] := hl
  rw [mX6_fittingPatiences]
  refine sx_iconst (v := 0) C0 dX6_fittingPatiences_0 (by decide) ?_
  refine sx_istore (lv' := [(4, .int (0 : Int32)), (0, .ref (ad 0)), (1, .int v1), (2, .int v2), (3, .int v3)]) C0 dX6_fittingPatiences_1 hl (by decide) rfl (fun ls hl => ?_)
  refine sx_aload_n C0 dX6_fittingPatiences_3 rfl (lv_at hl 1 rfl) ?_
  refine gf_X6_51 C0 is6 dX6_fittingPatiences_4 ?_
  refine sx_aload_n C0 dX6_fittingPatiences_7 rfl (lv_at hl 1 rfl) ?_
  refine gf_X6_33 C0 is6 dX6_fittingPatiences_8 ?_
  refine gf_X6_149 C0 is6_village.1 dX6_fittingPatiences_11 ?_
  refine sw_bind (fun S14 e14 => ?_)
  refine cv_X6_291 (As := [.ref (ad (30 + 1))]) C0 (c_X0_take C0.2.2.2.2.2.2.2.1 119 is6_otherGods (30 + 1) is6_village.2.1 S _ e14) is6_otherGods.1 ⟨rfl, rfl⟩ ⟨Nat.le_of_ble_eq_true rfl, Nat.le_of_ble_eq_true rfl⟩ rfl hl.1 (Nat.le_of_ble_eq_true rfl) rfl dX6_fittingPatiences_14 (fun _ => ?_)
  refine sx_iconst (v := 1) C0 dX6_fittingPatiences_17 (by decide) ?_
  refine sx_istore (lv' := [(5, .int (1 : Int32)), (4, .int (0 : Int32)), (0, .ref (ad 0)), (1, .int v1), (2, .int v2), (3, .int v3)]) C0 dX6_fittingPatiences_18 hl (by decide) rfl (fun ls hl => ?_)
  exact lX6_fittingPatiences_20_t C0 _ _ _ _ _ _ _ _ (lv_sub hl [2, 3, 4, 5, 1, 0] rfl)
abbrev rm_X6_fits : Room := { frames := 6, cells := 0, slots := 0, locals := 148 }
def mX6_fits (S : vS) (v1 : Int32) (v2 : Int32) (v3 : Int32) : Option (Int32 × vS) := (if (mX0_has S (30 + 1) v1) = 0 then (some ((-1 : Int32), S)) else (if (mX4_has S 1 6 v2) = 0 then (some ((-1 : Int32), S)) else (if (mX4_has S 1 6 v3) = 0 then (some ((-1 : Int32), S)) else ((mX6_bookRefused S v2 v3).bind fun q41 => (lt q41.1 fun v4_44 => (if v4_44 = 0 then ((mX6_fittingPatiences q41.2 v1 v2 v3).bind fun q60 => (some (q60.1, q60.2))) else (some (v4_44, q41.2))))))))
set_option maxHeartbeats 4000000 in
set_option maxRecDepth 100000 in
theorem c_X6_fits {l : Launch} {D : va_G} {cA : Nat → ClassId} {ad : Nat → Nat} {kl : Nat} (G : Gx shC ad (ExC ad kl)) (v1 : Int32) (v2 : Int32) (v3 : Int32) (S : vS) (r : (Int32 × vS)) (hr : (mX6_fits S v1 v2 v3) = some r) : Met l yX6_fits (Cond.code yX6_fits cX6_fits 5 (some .int) :: ALL) rm_X6_fits (Po D vwCl tlC shC cA ad (ExC ad kl) [.ref (ad 0), .int v1, .int v2, .int v3] S) (Qo D vwCl shC cA ad (some (.int r.1)) r.2 True) 0 0 (aw shC ad) := by
  refine Met.sx (M := (mX6_fits S v1 v2 v3)) (rv := (fun q => some (.int q.1) : (Int32 × vS) → Option Value)) (rs := fun q => q.2) (B := fun _ => True) (by decide) ⟨rfl, rfl⟩ (Nat.le_of_ble_eq_true rfl) G (fun p e s m args below meth c C0 ls hl => ?_) hr
  have hl : lv_has ls 5 [(0, .ref (ad 0)), (1, .int v1), (2, .int v2), (3, .int v3)] := hl
  rw [mX6_fits]
  refine sx_aload_n C0 dX6_fits_0 rfl (lv_at hl 0 rfl) ?_
  refine gf_X6_33 C0 is6 dX6_fits_1 ?_
  refine gf_X6_149 C0 is6_village.1 dX6_fits_4 ?_
  refine sx_iload_n C0 dX6_fits_7 rfl (lv_at hl 1 rfl) ?_
  refine cv_X6_153 (As := [.int v1]) C0 (c_X0_has C0.2.2.2.2.2.2.2.1 (30 + 1) is6_village.2.1 v1 S) is6_village.2.1.1 ⟨rfl, rfl⟩ ⟨Nat.le_of_ble_eq_true rfl, Nat.le_of_ble_eq_true rfl⟩ rfl hl.1 (Nat.le_of_ble_eq_true rfl) rfl dX6_fits_8 (fun hb8 => ?_)
  refine sx_if_eq (tgt := 36) C0 dX6_fits_11 (by decide) (fun _ => ?_) (fun _ => ?_)
  · refine sx_iconst (v := (-1)) C0 dX6_fits_36 (by decide) ?_
    exact sx_iret C0 rfl rfl trivial dX6_fits_37
  · refine sx_aload_n C0 dX6_fits_14 rfl (lv_at hl 0 rfl) ?_
    refine gf_X6_16 C0 is6 dX6_fits_15 ?_
    refine sx_iload_n C0 dX6_fits_18 rfl (lv_at hl 2 rfl) ?_
    refine cv_X6_83 (As := [.int v2]) C0 (c_X4_has C0.2.2.2.2.2.2.2.1 1 6 is6_rows v2 S) is6_rows.1 ⟨rfl, rfl⟩ ⟨Nat.le_of_ble_eq_true rfl, Nat.le_of_ble_eq_true rfl⟩ rfl hl.1 (Nat.le_of_ble_eq_true rfl) rfl dX6_fits_19 (fun hb19 => ?_)
    refine sx_if_eq (tgt := 36) C0 dX6_fits_22 (by decide) (fun _ => ?_) (fun _ => ?_)
    · refine sx_iconst (v := (-1)) C0 dX6_fits_36 (by decide) ?_
      exact sx_iret C0 rfl rfl trivial dX6_fits_37
    · refine sx_aload_n C0 dX6_fits_25 rfl (lv_at hl 0 rfl) ?_
      refine gf_X6_16 C0 is6 dX6_fits_26 ?_
      refine sx_iload_n C0 dX6_fits_29 rfl (lv_at hl 3 rfl) ?_
      refine cv_X6_83 (As := [.int v3]) C0 (c_X4_has C0.2.2.2.2.2.2.2.1 1 6 is6_rows v3 S) is6_rows.1 ⟨rfl, rfl⟩ ⟨Nat.le_of_ble_eq_true rfl, Nat.le_of_ble_eq_true rfl⟩ rfl hl.1 (Nat.le_of_ble_eq_true rfl) rfl dX6_fits_30 (fun hb30 => ?_)
      refine sx_if_ne (tgt := 38) C0 dX6_fits_33 (by decide) (fun _ => ?_) (fun _ => ?_)
      · refine sx_iconst (v := (-1)) C0 dX6_fits_36 (by decide) ?_
        exact sx_iret C0 rfl rfl trivial dX6_fits_37
      · refine sx_aload_n C0 dX6_fits_38 rfl (lv_at hl 0 rfl) ?_
        refine sx_iload_n C0 dX6_fits_39 rfl (lv_at hl 2 rfl) ?_
        refine sx_iload_n C0 dX6_fits_40 rfl (lv_at hl 3 rfl) ?_
        refine sw_bind (fun q41 e41 => ?_)
        refine cv_X6_307 (As := [.int v2, .int v3]) C0 (c_X6_bookRefused C0.2.2.2.2.2.2.2.1 v2 v3 S _ e41) is6 ⟨rfl, rfl⟩ ⟨Nat.le_of_ble_eq_true rfl, Nat.le_of_ble_eq_true rfl⟩ rfl hl.1 (Nat.le_of_ble_eq_true rfl) rfl dX6_fits_41 (fun _ => ?_)
        refine sw_lt (val := .int) (fun v4_44 => ?_)
        refine sx_istore (lv' := [(4, .int v4_44), (0, .ref (ad 0)), (1, .int v1), (2, .int v2), (3, .int v3)]) C0 dX6_fits_44 hl (by decide) rfl (fun ls hl => ?_)
        refine sx_iload C0 dX6_fits_46 (lv_at hl 0 rfl) ?_
        refine sx_if_eq (tgt := 56) C0 dX6_fits_48 (by decide) (fun _ => ?_) (fun _ => ?_)
        · refine sx_aload_n C0 dX6_fits_56 rfl (lv_at hl 1 rfl) ?_
          refine sx_iload_n C0 dX6_fits_57 rfl (lv_at hl 2 rfl) ?_
          refine sx_iload_n C0 dX6_fits_58 rfl (lv_at hl 3 rfl) ?_
          refine sx_iload_n C0 dX6_fits_59 rfl (lv_at hl 4 rfl) ?_
          refine sw_bind (fun q60 e60 => ?_)
          refine cv_X6_310 (As := [.int v1, .int v2, .int v3]) C0 (c_X6_fittingPatiences C0.2.2.2.2.2.2.2.1 v1 v2 v3 q41.2 _ e60) is6 ⟨rfl, rfl⟩ ⟨Nat.le_of_ble_eq_true rfl, Nat.le_of_ble_eq_true rfl⟩ rfl hl.1 (Nat.le_of_ble_eq_true rfl) rfl dX6_fits_60 (fun _ => ?_)
          exact sx_iret C0 rfl rfl trivial dX6_fits_63
        · refine sx_iload C0 dX6_fits_51 (lv_at hl 0 rfl) ?_
          refine sx_goto (tgt := 63) C0 dX6_fits_53 (by decide) ?_
          exact sx_iret C0 rfl rfl trivial dX6_fits_63
abbrev rm_X6_whose : Room := { frames := 6, cells := 0, slots := 0, locals := 148 }
def bX6_whose_129    (S : vS) (v4 : Int32) (v5 : Int32)  : Option (Int32 × vS) := (lt (mX6_tell S v5) fun S132 => (some (v4, S132)))
set_option maxHeartbeats 4000000 in
set_option maxRecDepth 100000 in
theorem bX6_whose_129_t {p : Program} {l : Launch} {e : Env} {s : State} {m : MethodId} {args : Array Value} {below : List Frame} {meth : Method} {c : Code} {D : va_G} {cA : Nat → ClassId} {ad : Nat → Nat} {kl : Nat}   (C0 : Cx D vwCl tlC shC cA ad (ExC ad kl) RX6 cX6_whose 8 (some .int) p s m args meth c)  (S : vS) (v4 : Int32) (v5 : Int32) (ls : Array Slot) (hl : lv_has ls 8 [(0, .ref (ad 0)), (4, .int v4), (5, .int v5)]) : SW p l e rm_X6_whose s m args below meth c D vwCl shC cA ad (Fq D vwCl shC cA ad below args s (fun q => some (.int q.1) : (Int32 × vS) → Option Value) (fun q => q.2) (fun _ => True)) (bX6_whose_129 S v4 v5) S 129 ls [] := by
  rw [bX6_whose_129]
  refine sx_aload_n C0 dX6_whose_129 rfl (lv_at hl 0 rfl) ?_
  refine sx_iload C0 dX6_whose_130 (lv_at hl 2 rfl) ?_
  refine cv_X6_103 (As := [.int v5]) C0 (c_X6_tell C0.2.2.2.2.2.2.2.1 v5 S) is6 ⟨rfl, rfl⟩ ⟨Nat.le_of_ble_eq_true rfl, Nat.le_of_ble_eq_true rfl⟩ rfl hl.1 (Nat.le_of_ble_eq_true rfl) rfl dX6_whose_132 (fun _ => ?_)
  refine sw_ltS (fun S132 => ?_)
  refine sx_iload C0 dX6_whose_135 (lv_at hl 1 rfl) ?_
  exact sx_iret C0 rfl rfl trivial dX6_whose_137
def bX6_whose_113   (K56 : vS → Int32 → Int32 → Int32 → Option (Int32 × vS)) (S : vS) (v1 : Int32) (v2 : Int32) (v4 : Int32) (v5 : Int32) (v6 : Int32) (v7 : Int32)  : Option (Int32 × vS) := (lt (v5 + (mJ6_bitCount_0f7a4 v7)) fun v5_121 => (K56 S v4 v5_121 (v6 + (1 : Int32))))
set_option maxHeartbeats 4000000 in
set_option maxRecDepth 100000 in
theorem bX6_whose_113_t {p : Program} {l : Launch} {e : Env} {s : State} {m : MethodId} {args : Array Value} {below : List Frame} {meth : Method} {c : Code} {D : va_G} {cA : Nat → ClassId} {ad : Nat → Nat} {kl : Nat} {K56 : vS → Int32 → Int32 → Int32 → Option (Int32 × vS)}  (C0 : Cx D vwCl tlC shC cA ad (ExC ad kl) RX6 cX6_whose 8 (some .int) p s m args meth c)  (S : vS) (v1 : Int32) (v2 : Int32) (v4 : Int32) (v5 : Int32) (v6 : Int32) (v7 : Int32) (hK56 : ∀ (S : vS) (v4 : Int32) (v5 : Int32) (v6 : Int32) (ls : Array Slot), lv_has ls 8 [(0, .ref (ad 0)), (1, .int v1), (2, .int v2), (4, .int v4), (5, .int v5), (6, .int v6)] → SW p l e rm_X6_whose s m args below meth c D vwCl shC cA ad (Fq D vwCl shC cA ad below args s (fun q => some (.int q.1) : (Int32 × vS) → Option Value) (fun q => q.2) (fun _ => True)) (K56 S v4 v5 v6) S 56 ls []) (ls : Array Slot) (hl : lv_has ls 8 [(0, .ref (ad 0)), (1, .int v1), (2, .int v2), (4, .int v4), (5, .int v5), (6, .int v6), (7, .int v7)]) : SW p l e rm_X6_whose s m args below meth c D vwCl shC cA ad (Fq D vwCl shC cA ad below args s (fun q => some (.int q.1) : (Int32 × vS) → Option Value) (fun q => q.2) (fun _ => True)) (bX6_whose_113 K56 S v1 v2 v4 v5 v6 v7) S 113 ls [] := by
  rw [bX6_whose_113]
  refine sx_iload C0 dX6_whose_113 (lv_at hl 4 rfl) ?_
  refine sx_iload C0 dX6_whose_115 (lv_at hl 6 rfl) ?_
  refine cv_X6_314 (As := [.int v7]) C0 (c_J6_bitCount_0f7a4 C0.2.2.2.2.2.2.2.1 v7 S) ⟨rfl, rfl⟩ ⟨Nat.le_of_ble_eq_true rfl, Nat.le_of_ble_eq_true rfl⟩ rfl hl.1 (Nat.le_of_ble_eq_true rfl) rfl dX6_whose_117 (fun _ => ?_)
  refine sx_iadd C0 dX6_whose_120 ?_
  refine sw_lt (val := .int) (fun v5_121 => ?_)
  refine sx_istore (lv' := [(5, .int v5_121), (0, .ref (ad 0)), (1, .int v1), (2, .int v2), (4, .int v4), (6, .int v6), (7, .int v7)]) C0 dX6_whose_121 hl (by decide) rfl (fun ls hl => ?_)
  refine sx_iinc (v := (v6 + (1 : Int32))) (lv' := [(6, .int (v6 + (1 : Int32))), (5, .int v5_121), (0, .ref (ad 0)), (1, .int v1), (2, .int v2), (4, .int v4), (7, .int v7)]) C0 dX6_whose_123 hl (k := 5) rfl rfl (by decide) rfl (fun ls hl => ?_)
  refine sx_goto (tgt := 56) C0 dX6_whose_126 (by decide) ?_
  exact hK56 _ _ _ _ _ (lv_sub hl [2, 3, 4, 5, 1, 0] rfl)
def lX6_whose_56    (v1 : Int32) (v2 : Int32) : Nat → vS → Int32 → Int32 → Int32 → Option (Int32 × vS)
  | 0, _, _, _, _ => none
  | n + 1, S, v4, v5, v6 => (if (S.1 (30 + 1) 0) ≤ v6 then (bX6_whose_129 S v4 v5) else ((mX6_fittingPatiences S v6 v1 v2).bind fun q76 => ((gI (q76.2.1 ((30 + 1) + 3)) 4 v6).bind fun a92 => (lt (q76.1 &&& (((1 : Int32) <<< (a92 &&& (31 : Int32))) ^^^ (-1 : Int32))) fun v7_97 => (if v7_97 = 0 then (bX6_whose_113 (lX6_whose_56 v1 v2 n) q76.2 v1 v2 v4 v5 v6 v7_97) else (lt (v4 ||| ((1 : Int32) <<< (v6 &&& (31 : Int32)))) fun v4_111 => (bX6_whose_113 (lX6_whose_56 v1 v2 n) q76.2 v1 v2 v4_111 v5 v6 v7_97)))))))
set_option maxHeartbeats 4000000 in
set_option maxRecDepth 100000 in
theorem lX6_whose_56_t {p : Program} {l : Launch} {e : Env} {s : State} {m : MethodId} {args : Array Value} {below : List Frame} {meth : Method} {c : Code} {D : va_G} {cA : Nat → ClassId} {ad : Nat → Nat} {kl : Nat}   (C0 : Cx D vwCl tlC shC cA ad (ExC ad kl) RX6 cX6_whose 8 (some .int) p s m args meth c)   (v1 : Int32) (v2 : Int32)  : ∀ (n : Nat) (S : vS) (v4 : Int32) (v5 : Int32) (v6 : Int32) (ls : Array Slot), lv_has ls 8 [(0, .ref (ad 0)), (1, .int v1), (2, .int v2), (4, .int v4), (5, .int v5), (6, .int v6)] → SW p l e rm_X6_whose s m args below meth c D vwCl shC cA ad (Fq D vwCl shC cA ad below args s (fun q => some (.int q.1) : (Int32 × vS) → Option Value) (fun q => q.2) (fun _ => True)) (lX6_whose_56 v1 v2 n S v4 v5 v6) S 56 ls [] := by
  intro n
  induction n with
  | zero =>
    intro S v4 v5 v6 ls hl
    rw [lX6_whose_56]
    exact sw_none
  | succ n ih =>
    intro S v4 v5 v6 ls hl
    rw [lX6_whose_56]
    refine sx_iload C0 dX6_whose_56 (lv_at hl 5 rfl) ?_
    refine sx_aload_n C0 dX6_whose_58 rfl (lv_at hl 0 rfl) ?_
    refine gf_X6_33 C0 is6 dX6_whose_59 ?_
    refine gf_X6_149 C0 is6_village.1 dX6_whose_62 ?_
    refine gf_X6_150 C0 is6_village.2.1.1 dX6_whose_65 ?_
    refine sx_icmp_ge (tgt := 129) C0 dX6_whose_68 (by decide) (fun _ => ?_) (fun _ => ?_)
    · exact bX6_whose_129_t C0 _ _ _ _ (lv_sub hl [0, 3, 4] rfl)
    · refine sx_aload_n C0 dX6_whose_71 rfl (lv_at hl 0 rfl) ?_
      refine sx_iload C0 dX6_whose_72 (lv_at hl 5 rfl) ?_
      refine sx_iload_n C0 dX6_whose_74 rfl (lv_at hl 1 rfl) ?_
      refine sx_iload_n C0 dX6_whose_75 rfl (lv_at hl 2 rfl) ?_
      refine sw_bind (fun q76 e76 => ?_)
      refine cv_X6_310 (As := [.int v6, .int v1, .int v2]) C0 (c_X6_fittingPatiences C0.2.2.2.2.2.2.2.1 v6 v1 v2 S _ e76) is6 ⟨rfl, rfl⟩ ⟨Nat.le_of_ble_eq_true rfl, Nat.le_of_ble_eq_true rfl⟩ rfl hl.1 (Nat.le_of_ble_eq_true rfl) rfl dX6_whose_76 (fun _ => ?_)
      refine sx_iconst (v := 1) C0 dX6_whose_79 (by decide) ?_
      refine sx_aload_n C0 dX6_whose_80 rfl (lv_at hl 0 rfl) ?_
      refine gf_X6_33 C0 is6 dX6_whose_81 ?_
      refine gf_X6_149 C0 is6_village.1 dX6_whose_84 ?_
      refine gf_X6_190 C0 is6_village.2.1.1 dX6_whose_87 ?_
      refine sx_iload C0 dX6_whose_90 (lv_at hl 5 rfl) ?_
      refine sx_iald C0 is6_village.2.1.2.2.2.1 rfl dX6_whose_92 (fun a92 => ?_)
      refine sx_ishl C0 dX6_whose_93 ?_
      refine sx_iconst (v := (-1)) C0 dX6_whose_94 (by decide) ?_
      refine sx_ixor C0 dX6_whose_95 ?_
      refine sx_iand C0 dX6_whose_96 ?_
      refine sw_lt (val := .int) (fun v7_97 => ?_)
      refine sx_istore (lv' := [(7, .int v7_97), (0, .ref (ad 0)), (1, .int v1), (2, .int v2), (4, .int v4), (5, .int v5), (6, .int v6)]) C0 dX6_whose_97 hl (by decide) rfl (fun ls hl => ?_)
      refine sx_iload C0 dX6_whose_99 (lv_at hl 0 rfl) ?_
      refine sx_if_eq (tgt := 113) C0 dX6_whose_101 (by decide) (fun _ => ?_) (fun _ => ?_)
      · exact bX6_whose_113_t C0 _ _ _ _ _ _ _ ih _ (lv_sub hl [1, 2, 3, 4, 5, 6, 0] rfl)
      · refine sx_iload C0 dX6_whose_104 (lv_at hl 4 rfl) ?_
        refine sx_iconst (v := 1) C0 dX6_whose_106 (by decide) ?_
        refine sx_iload C0 dX6_whose_107 (lv_at hl 6 rfl) ?_
        refine sx_ishl C0 dX6_whose_109 ?_
        refine sx_ior C0 dX6_whose_110 ?_
        refine sw_lt (val := .int) (fun v4_111 => ?_)
        refine sx_istore (lv' := [(4, .int v4_111), (7, .int v7_97), (0, .ref (ad 0)), (1, .int v1), (2, .int v2), (5, .int v5), (6, .int v6)]) C0 dX6_whose_111 hl (by decide) rfl (fun ls hl => ?_)
        exact bX6_whose_113_t C0 _ _ _ _ _ _ _ ih _ (lv_sub hl [2, 3, 4, 0, 5, 6, 1] rfl)
def mX6_whose (S : vS) (v1 : Int32) (v2 : Int32) : Option (Int32 × vS) := (if (mX4_has S 1 6 v1) = 0 then (some ((-1 : Int32), S)) else (if (mX4_has S 1 6 v2) = 0 then (some ((-1 : Int32), S)) else (if (mX6_noGods S) = 0 then ((mX6_bookRefused S v1 v2).bind fun q37 => (lt q37.1 fun v3_40 => (if v3_40 = 0 then (lX6_whose_56 v1 v2 FU q37.2 (0 : Int32) (0 : Int32) (0 : Int32)) else (some (v3_40, q37.2))))) else (some ((-4 : Int32), S)))))
set_option maxHeartbeats 4000000 in
set_option maxRecDepth 100000 in
theorem c_X6_whose {l : Launch} {D : va_G} {cA : Nat → ClassId} {ad : Nat → Nat} {kl : Nat} (G : Gx shC ad (ExC ad kl)) (v1 : Int32) (v2 : Int32) (S : vS) (r : (Int32 × vS)) (hr : (mX6_whose S v1 v2) = some r) : Met l yX6_whose (Cond.code yX6_whose cX6_whose 8 (some .int) :: ALL) rm_X6_whose (Po D vwCl tlC shC cA ad (ExC ad kl) [.ref (ad 0), .int v1, .int v2] S) (Qo D vwCl shC cA ad (some (.int r.1)) r.2 True) 0 0 (aw shC ad) := by
  refine Met.sx (M := (mX6_whose S v1 v2)) (rv := (fun q => some (.int q.1) : (Int32 × vS) → Option Value)) (rs := fun q => q.2) (B := fun _ => True) (by decide) ⟨rfl, rfl⟩ (Nat.le_of_ble_eq_true rfl) G (fun p e s m args below meth c C0 ls hl => ?_) hr
  have hl : lv_has ls 8 [(0, .ref (ad 0)), (1, .int v1), (2, .int v2)] := hl
  rw [mX6_whose]
  refine sx_aload_n C0 dX6_whose_0 rfl (lv_at hl 0 rfl) ?_
  refine gf_X6_16 C0 is6 dX6_whose_1 ?_
  refine sx_iload_n C0 dX6_whose_4 rfl (lv_at hl 1 rfl) ?_
  refine cv_X6_83 (As := [.int v1]) C0 (c_X4_has C0.2.2.2.2.2.2.2.1 1 6 is6_rows v1 S) is6_rows.1 ⟨rfl, rfl⟩ ⟨Nat.le_of_ble_eq_true rfl, Nat.le_of_ble_eq_true rfl⟩ rfl hl.1 (Nat.le_of_ble_eq_true rfl) rfl dX6_whose_5 (fun hb5 => ?_)
  refine sx_if_eq (tgt := 22) C0 dX6_whose_8 (by decide) (fun _ => ?_) (fun _ => ?_)
  · refine sx_iconst (v := (-1)) C0 dX6_whose_22 (by decide) ?_
    exact sx_iret C0 rfl rfl trivial dX6_whose_23
  · refine sx_aload_n C0 dX6_whose_11 rfl (lv_at hl 0 rfl) ?_
    refine gf_X6_16 C0 is6 dX6_whose_12 ?_
    refine sx_iload_n C0 dX6_whose_15 rfl (lv_at hl 2 rfl) ?_
    refine cv_X6_83 (As := [.int v2]) C0 (c_X4_has C0.2.2.2.2.2.2.2.1 1 6 is6_rows v2 S) is6_rows.1 ⟨rfl, rfl⟩ ⟨Nat.le_of_ble_eq_true rfl, Nat.le_of_ble_eq_true rfl⟩ rfl hl.1 (Nat.le_of_ble_eq_true rfl) rfl dX6_whose_16 (fun hb16 => ?_)
    refine sx_if_ne (tgt := 24) C0 dX6_whose_19 (by decide) (fun _ => ?_) (fun _ => ?_)
    · refine sx_iconst (v := (-1)) C0 dX6_whose_22 (by decide) ?_
      exact sx_iret C0 rfl rfl trivial dX6_whose_23
    · refine sx_aload_n C0 dX6_whose_24 rfl (lv_at hl 0 rfl) ?_
      refine cv_X6_183 (As := []) C0 (c_X6_noGods C0.2.2.2.2.2.2.2.1 S) is6 ⟨rfl, rfl⟩ ⟨Nat.le_of_ble_eq_true rfl, Nat.le_of_ble_eq_true rfl⟩ rfl hl.1 (Nat.le_of_ble_eq_true rfl) rfl dX6_whose_25 (fun hb25 => ?_)
      refine sx_if_eq (tgt := 34) C0 dX6_whose_28 (by decide) (fun _ => ?_) (fun _ => ?_)
      · refine sx_aload_n C0 dX6_whose_34 rfl (lv_at hl 0 rfl) ?_
        refine sx_iload_n C0 dX6_whose_35 rfl (lv_at hl 1 rfl) ?_
        refine sx_iload_n C0 dX6_whose_36 rfl (lv_at hl 2 rfl) ?_
        refine sw_bind (fun q37 e37 => ?_)
        refine cv_X6_307 (As := [.int v1, .int v2]) C0 (c_X6_bookRefused C0.2.2.2.2.2.2.2.1 v1 v2 S _ e37) is6 ⟨rfl, rfl⟩ ⟨Nat.le_of_ble_eq_true rfl, Nat.le_of_ble_eq_true rfl⟩ rfl hl.1 (Nat.le_of_ble_eq_true rfl) rfl dX6_whose_37 (fun _ => ?_)
        refine sw_lt (val := .int) (fun v3_40 => ?_)
        refine sx_istore_n (lv' := [(3, .int v3_40), (0, .ref (ad 0)), (1, .int v1), (2, .int v2)]) C0 dX6_whose_40 rfl hl (by decide) rfl (fun ls hl => ?_)
        refine sx_iload_n C0 dX6_whose_41 rfl (lv_at hl 0 rfl) ?_
        refine sx_if_eq (tgt := 47) C0 dX6_whose_42 (by decide) (fun _ => ?_) (fun _ => ?_)
        · refine sx_iconst (v := 0) C0 dX6_whose_47 (by decide) ?_
          refine sx_istore (lv' := [(4, .int (0 : Int32)), (3, .int v3_40), (0, .ref (ad 0)), (1, .int v1), (2, .int v2)]) C0 dX6_whose_48 hl (by decide) rfl (fun ls hl => ?_)
          refine sx_iconst (v := 0) C0 dX6_whose_50 (by decide) ?_
          refine sx_istore (lv' := [(5, .int (0 : Int32)), (4, .int (0 : Int32)), (3, .int v3_40), (0, .ref (ad 0)), (1, .int v1), (2, .int v2)]) C0 dX6_whose_51 hl (by decide) rfl (fun ls hl => ?_)
          refine sx_iconst (v := 0) C0 dX6_whose_53 (by decide) ?_
          refine sx_istore (lv' := [(6, .int (0 : Int32)), (5, .int (0 : Int32)), (4, .int (0 : Int32)), (3, .int v3_40), (0, .ref (ad 0)), (1, .int v1), (2, .int v2)]) C0 dX6_whose_54 hl (by decide) rfl (fun ls hl => ?_)
          exact lX6_whose_56_t C0 _ _ _ _ _ _ _ _ (lv_sub hl [4, 5, 6, 2, 1, 0] rfl)
        · refine sx_iload_n C0 dX6_whose_45 rfl (lv_at hl 0 rfl) ?_
          exact sx_iret C0 rfl rfl trivial dX6_whose_46
      · refine sx_bipush (v := (-4)) C0 dX6_whose_31 (by decide) ?_
        exact sx_iret C0 rfl rfl trivial dX6_whose_33
abbrev rm_X6_mostLeftBy : Room := { frames := 4, cells := 0, slots := 0, locals := 99 }
def bX6_mostLeftBy_107   (K19 : vS → Int32 → Int32 → Option (Int32 × vS)) (S : vS) (v1 : Int32) (v2 : Int32) (v3 : Int32) (v4 : Int32) (v5 : Int32)  : Option (Int32 × vS) := (lt (mxI v3 v5) fun v3_113 => (K19 S v3_113 (v4 + (1 : Int32))))
set_option maxHeartbeats 4000000 in
set_option maxRecDepth 100000 in
theorem bX6_mostLeftBy_107_t {p : Program} {l : Launch} {e : Env} {s : State} {m : MethodId} {args : Array Value} {below : List Frame} {meth : Method} {c : Code} {D : va_G} {cA : Nat → ClassId} {ad : Nat → Nat} {kl : Nat} {K19 : vS → Int32 → Int32 → Option (Int32 × vS)}  (C0 : Cx D vwCl tlC shC cA ad (ExC ad kl) RX6 cX6_mostLeftBy 7 (some .int) p s m args meth c)  (S : vS) (v1 : Int32) (v2 : Int32) (v3 : Int32) (v4 : Int32) (v5 : Int32) (hK19 : ∀ (S : vS) (v3 : Int32) (v4 : Int32) (ls : Array Slot), lv_has ls 7 [(0, .ref (ad 0)), (1, .int v1), (2, .int v2), (3, .int v3), (4, .int v4)] → SW p l e rm_X6_mostLeftBy s m args below meth c D vwCl shC cA ad (Fq D vwCl shC cA ad below args s (fun q => some (.int q.1) : (Int32 × vS) → Option Value) (fun q => q.2) (fun _ => True)) (K19 S v3 v4) S 19 ls []) (ls : Array Slot) (hl : lv_has ls 7 [(0, .ref (ad 0)), (1, .int v1), (2, .int v2), (3, .int v3), (4, .int v4), (5, .int v5)]) : SW p l e rm_X6_mostLeftBy s m args below meth c D vwCl shC cA ad (Fq D vwCl shC cA ad below args s (fun q => some (.int q.1) : (Int32 × vS) → Option Value) (fun q => q.2) (fun _ => True)) (bX6_mostLeftBy_107 K19 S v1 v2 v3 v4 v5) S 107 ls [] := by
  rw [bX6_mostLeftBy_107]
  refine sx_iload_n C0 dX6_mostLeftBy_107 rfl (lv_at hl 3 rfl) ?_
  refine sx_iload C0 dX6_mostLeftBy_108 (lv_at hl 5 rfl) ?_
  refine sx_mmax C0 wm_X6_355 hl.1 ⟨Nat.le_of_ble_eq_true rfl, Nat.le_of_ble_eq_true rfl⟩ dX6_mostLeftBy_110 ?_
  refine sw_lt (val := .int) (fun v3_113 => ?_)
  refine sx_istore_n (lv' := [(3, .int v3_113), (0, .ref (ad 0)), (1, .int v1), (2, .int v2), (4, .int v4), (5, .int v5)]) C0 dX6_mostLeftBy_113 rfl hl (by decide) rfl (fun ls hl => ?_)
  refine sx_iinc (v := (v4 + (1 : Int32))) (lv' := [(4, .int (v4 + (1 : Int32))), (3, .int v3_113), (0, .ref (ad 0)), (1, .int v1), (2, .int v2), (5, .int v5)]) C0 dX6_mostLeftBy_114 hl (k := 4) rfl rfl (by decide) rfl (fun ls hl => ?_)
  refine sx_goto (tgt := 19) C0 dX6_mostLeftBy_117 (by decide) ?_
  exact hK19 _ _ _ _ (lv_sub hl [2, 3, 4, 1, 0] rfl)
def lX6_mostLeftBy_74  (S : vS) (K19 : vS → Int32 → Int32 → Option (Int32 × vS)) (v1 : Int32) (v2 : Int32) (v3 : Int32) (v4 : Int32) : Nat → Int32 → Int32 → Option (Int32 × vS)
  | 0, _, _ => none
  | n + 1, v5, v6 => (if v4 < v6 then (bX6_mostLeftBy_107 K19 S v1 v2 v3 v4 v5) else ((gI (S.1 133) 7 v6).bind fun a87 => ((gI (S.1 133) 7 v4).bind fun a94 => (if a87 = a94 then ((lX6_mostLeftBy_74 S K19 v1 v2 v3 v4 n) (v5 + (1 : Int32)) (v6 + (1 : Int32))) else ((lX6_mostLeftBy_74 S K19 v1 v2 v3 v4 n) v5 (v6 + (1 : Int32)))))))
set_option maxHeartbeats 4000000 in
set_option maxRecDepth 100000 in
theorem lX6_mostLeftBy_74_t {p : Program} {l : Launch} {e : Env} {s : State} {m : MethodId} {args : Array Value} {below : List Frame} {meth : Method} {c : Code} {D : va_G} {cA : Nat → ClassId} {ad : Nat → Nat} {kl : Nat} {K19 : vS → Int32 → Int32 → Option (Int32 × vS)}  (C0 : Cx D vwCl tlC shC cA ad (ExC ad kl) RX6 cX6_mostLeftBy 7 (some .int) p s m args meth c)  (S : vS) (v1 : Int32) (v2 : Int32) (v3 : Int32) (v4 : Int32) (hK19 : ∀ (S : vS) (v3 : Int32) (v4 : Int32) (ls : Array Slot), lv_has ls 7 [(0, .ref (ad 0)), (1, .int v1), (2, .int v2), (3, .int v3), (4, .int v4)] → SW p l e rm_X6_mostLeftBy s m args below meth c D vwCl shC cA ad (Fq D vwCl shC cA ad below args s (fun q => some (.int q.1) : (Int32 × vS) → Option Value) (fun q => q.2) (fun _ => True)) (K19 S v3 v4) S 19 ls []) : ∀ (n : Nat) (v5 : Int32) (v6 : Int32) (ls : Array Slot), lv_has ls 7 [(0, .ref (ad 0)), (1, .int v1), (2, .int v2), (3, .int v3), (4, .int v4), (5, .int v5), (6, .int v6)] → SW p l e rm_X6_mostLeftBy s m args below meth c D vwCl shC cA ad (Fq D vwCl shC cA ad below args s (fun q => some (.int q.1) : (Int32 × vS) → Option Value) (fun q => q.2) (fun _ => True)) (lX6_mostLeftBy_74 S K19 v1 v2 v3 v4 n v5 v6) S 74 ls [] := by
  intro n
  induction n with
  | zero =>
    intro v5 v6 ls hl
    rw [lX6_mostLeftBy_74]
    exact sw_none
  | succ n ih =>
    intro v5 v6 ls hl
    rw [lX6_mostLeftBy_74]
    refine sx_iload C0 dX6_mostLeftBy_74 (lv_at hl 6 rfl) ?_
    refine sx_iload C0 dX6_mostLeftBy_76 (lv_at hl 4 rfl) ?_
    refine sx_icmp_gt (tgt := 107) C0 dX6_mostLeftBy_78 (by decide) (fun _ => ?_) (fun _ => ?_)
    · exact bX6_mostLeftBy_107_t C0 _ _ _ _ _ _ hK19 _ (lv_sub hl [0, 1, 2, 3, 4, 5] rfl)
    · refine sx_aload_n C0 dX6_mostLeftBy_81 rfl (lv_at hl 0 rfl) ?_
      refine gf_X6_62 C0 is6 dX6_mostLeftBy_82 ?_
      refine sx_iload C0 dX6_mostLeftBy_85 (lv_at hl 6 rfl) ?_
      refine sx_iald C0 is6_worthsByPatience rfl dX6_mostLeftBy_87 (fun a87 => ?_)
      refine sx_aload_n C0 dX6_mostLeftBy_88 rfl (lv_at hl 0 rfl) ?_
      refine gf_X6_62 C0 is6 dX6_mostLeftBy_89 ?_
      refine sx_iload C0 dX6_mostLeftBy_92 (lv_at hl 4 rfl) ?_
      refine sx_iald C0 is6_worthsByPatience rfl dX6_mostLeftBy_94 (fun a94 => ?_)
      refine sx_icmp_ne (tgt := 101) C0 dX6_mostLeftBy_95 (by decide) (fun _ => ?_) (fun _ => ?_)
      · refine sx_iinc (v := (v5 + (1 : Int32))) (lv' := [(5, .int (v5 + (1 : Int32))), (0, .ref (ad 0)), (1, .int v1), (2, .int v2), (3, .int v3), (4, .int v4), (6, .int v6)]) C0 dX6_mostLeftBy_98 hl (k := 5) rfl rfl (by decide) rfl (fun ls hl => ?_)
        refine sx_iinc (v := (v6 + (1 : Int32))) (lv' := [(6, .int (v6 + (1 : Int32))), (5, .int (v5 + (1 : Int32))), (0, .ref (ad 0)), (1, .int v1), (2, .int v2), (3, .int v3), (4, .int v4)]) C0 dX6_mostLeftBy_101 hl (k := 6) rfl rfl (by decide) rfl (fun ls hl => ?_)
        refine sx_goto (tgt := 74) C0 dX6_mostLeftBy_104 (by decide) ?_
        exact ih _ _ _ (lv_sub hl [2, 3, 4, 5, 6, 1, 0] rfl)
      · refine sx_iinc (v := (v6 + (1 : Int32))) (lv' := [(6, .int (v6 + (1 : Int32))), (0, .ref (ad 0)), (1, .int v1), (2, .int v2), (3, .int v3), (4, .int v4), (5, .int v5)]) C0 dX6_mostLeftBy_101 hl (k := 6) rfl rfl (by decide) rfl (fun ls hl => ?_)
        refine sx_goto (tgt := 74) C0 dX6_mostLeftBy_104 (by decide) ?_
        exact ih _ _ _ (lv_sub hl [1, 2, 3, 4, 5, 6, 0] rfl)
def lX6_mostLeftBy_19    (v1 : Int32) (v2 : Int32) : Nat → vS → Int32 → Int32 → Option (Int32 × vS)
  | 0, _, _, _ => none
  | n + 1, S, v3, v4 => (if (6 : Int32) < v4 then (some (v3, S)) else ((pI S (119 + 3) 4 v1 v4).bind fun S36 => ((mX6_startTrial S36).bind fun S38 => ((mX3_goOn S38 129 119 v2).bind fun q50 => ((pI q50.2 133 7 v4 (mX3_worth q50.2 129)).bind fun S67 => (lX6_mostLeftBy_74 S67 (lX6_mostLeftBy_19 v1 v2 n) v1 v2 v3 v4 FU (0 : Int32) (1 : Int32)))))))
set_option maxHeartbeats 4000000 in
set_option maxRecDepth 100000 in
theorem lX6_mostLeftBy_19_t {p : Program} {l : Launch} {e : Env} {s : State} {m : MethodId} {args : Array Value} {below : List Frame} {meth : Method} {c : Code} {D : va_G} {cA : Nat → ClassId} {ad : Nat → Nat} {kl : Nat}   (C0 : Cx D vwCl tlC shC cA ad (ExC ad kl) RX6 cX6_mostLeftBy 7 (some .int) p s m args meth c)   (v1 : Int32) (v2 : Int32)  : ∀ (n : Nat) (S : vS) (v3 : Int32) (v4 : Int32) (ls : Array Slot), lv_has ls 7 [(0, .ref (ad 0)), (1, .int v1), (2, .int v2), (3, .int v3), (4, .int v4)] → SW p l e rm_X6_mostLeftBy s m args below meth c D vwCl shC cA ad (Fq D vwCl shC cA ad below args s (fun q => some (.int q.1) : (Int32 × vS) → Option Value) (fun q => q.2) (fun _ => True)) (lX6_mostLeftBy_19 v1 v2 n S v3 v4) S 19 ls [] := by
  intro n
  induction n with
  | zero =>
    intro S v3 v4 ls hl
    rw [lX6_mostLeftBy_19]
    exact sw_none
  | succ n ih =>
    intro S v3 v4 ls hl
    rw [lX6_mostLeftBy_19]
    refine sx_iload C0 dX6_mostLeftBy_19 (lv_at hl 4 rfl) ?_
    refine sx_bipush (v := 6) C0 dX6_mostLeftBy_21 (by decide) ?_
    refine sx_icmp_gt (tgt := 120) C0 dX6_mostLeftBy_23 (by decide) (fun _ => ?_) (fun _ => ?_)
    · refine sx_iload_n C0 dX6_mostLeftBy_120 rfl (lv_at hl 3 rfl) ?_
      exact sx_iret C0 rfl rfl trivial dX6_mostLeftBy_121
    · refine sx_aload_n C0 dX6_mostLeftBy_26 rfl (lv_at hl 0 rfl) ?_
      refine gf_X6_51 C0 is6 dX6_mostLeftBy_27 ?_
      refine gf_X6_190 C0 is6_otherGods.1 dX6_mostLeftBy_30 ?_
      refine sx_iload_n C0 dX6_mostLeftBy_33 rfl (lv_at hl 1 rfl) ?_
      refine sx_iload C0 dX6_mostLeftBy_34 (lv_at hl 4 rfl) ?_
      refine sx_iast C0 is6_otherGods.2.2.2.1 rfl dX6_mostLeftBy_36 (fun S36 => ?_)
      refine sx_aload_n C0 dX6_mostLeftBy_37 rfl (lv_at hl 0 rfl) ?_
      refine sw_bind (fun S38 e38 => ?_)
      refine cv_X6_248 (As := []) C0 (c_X6_startTrial C0.2.2.2.2.2.2.2.1 S36 _ e38) is6 ⟨rfl, rfl⟩ ⟨Nat.le_of_ble_eq_true rfl, Nat.le_of_ble_eq_true rfl⟩ rfl hl.1 (Nat.le_of_ble_eq_true rfl) rfl dX6_mostLeftBy_38 (fun _ => ?_)
      refine sx_aload_n C0 dX6_mostLeftBy_41 rfl (lv_at hl 0 rfl) ?_
      refine gf_X6_58 C0 is6 dX6_mostLeftBy_42 ?_
      refine sx_aload_n C0 dX6_mostLeftBy_45 rfl (lv_at hl 0 rfl) ?_
      refine gf_X6_51 C0 is6 dX6_mostLeftBy_46 ?_
      refine sx_iload_n C0 dX6_mostLeftBy_49 rfl (lv_at hl 2 rfl) ?_
      refine sw_bind (fun q50 e50 => ?_)
      refine cv_X6_251 (As := [.ref (ad 119), .int v2]) C0 (c_X3_goOn C0.2.2.2.2.2.2.2.1 129 is6_trial 119 is6_otherGods v2 S38 _ e50) is6_trial.1 ⟨rfl, rfl⟩ ⟨Nat.le_of_ble_eq_true rfl, Nat.le_of_ble_eq_true rfl⟩ rfl hl.1 (Nat.le_of_ble_eq_true rfl) rfl dX6_mostLeftBy_50 (fun hb50 => ?_)
      refine sx_pop C0 dX6_mostLeftBy_53 rfl ?_
      refine sx_aload_n C0 dX6_mostLeftBy_54 rfl (lv_at hl 0 rfl) ?_
      refine gf_X6_62 C0 is6 dX6_mostLeftBy_55 ?_
      refine sx_iload C0 dX6_mostLeftBy_58 (lv_at hl 4 rfl) ?_
      refine sx_aload_n C0 dX6_mostLeftBy_60 rfl (lv_at hl 0 rfl) ?_
      refine gf_X6_58 C0 is6 dX6_mostLeftBy_61 ?_
      refine cv_X6_255 (As := []) C0 (c_X3_worth C0.2.2.2.2.2.2.2.1 129 is6_trial q50.2) is6_trial.1 ⟨rfl, rfl⟩ ⟨Nat.le_of_ble_eq_true rfl, Nat.le_of_ble_eq_true rfl⟩ rfl hl.1 (Nat.le_of_ble_eq_true rfl) rfl dX6_mostLeftBy_64 (fun _ => ?_)
      refine sx_iast C0 is6_worthsByPatience rfl dX6_mostLeftBy_67 (fun S67 => ?_)
      refine sx_iconst (v := 0) C0 dX6_mostLeftBy_68 (by decide) ?_
      refine sx_istore (lv' := [(5, .int (0 : Int32)), (0, .ref (ad 0)), (1, .int v1), (2, .int v2), (3, .int v3), (4, .int v4)]) C0 dX6_mostLeftBy_69 hl (by decide) rfl (fun ls hl => ?_)
      refine sx_iconst (v := 1) C0 dX6_mostLeftBy_71 (by decide) ?_
      refine sx_istore (lv' := [(6, .int (1 : Int32)), (5, .int (0 : Int32)), (0, .ref (ad 0)), (1, .int v1), (2, .int v2), (3, .int v3), (4, .int v4)]) C0 dX6_mostLeftBy_72 hl (by decide) rfl (fun ls hl => ?_)
      exact lX6_mostLeftBy_74_t C0 _ _ _ _ _ ih _ _ _ _ (lv_sub hl [2, 3, 4, 5, 6, 1, 0] rfl)
def mX6_mostLeftBy (S : vS) (v1 : Int32) (v2 : Int32) : Option (Int32 × vS) := ((mX0_take S 119 (30 + 1)).bind fun S11 => (lX6_mostLeftBy_19 v1 v2 FU S11 (0 : Int32) (1 : Int32)))
set_option maxHeartbeats 4000000 in
set_option maxRecDepth 100000 in
theorem c_X6_mostLeftBy {l : Launch} {D : va_G} {cA : Nat → ClassId} {ad : Nat → Nat} {kl : Nat} (G : Gx shC ad (ExC ad kl)) (v1 : Int32) (v2 : Int32) (S : vS) (r : (Int32 × vS)) (hr : (mX6_mostLeftBy S v1 v2) = some r) : Met l yX6_mostLeftBy (Cond.code yX6_mostLeftBy cX6_mostLeftBy 7 (some .int) :: ALL) rm_X6_mostLeftBy (Po D vwCl tlC shC cA ad (ExC ad kl) [.ref (ad 0), .int v1, .int v2] S) (Qo D vwCl shC cA ad (some (.int r.1)) r.2 True) 0 0 (aw shC ad) := by
  refine Met.sx (M := (mX6_mostLeftBy S v1 v2)) (rv := (fun q => some (.int q.1) : (Int32 × vS) → Option Value)) (rs := fun q => q.2) (B := fun _ => True) (by decide) ⟨rfl, rfl⟩ (Nat.le_of_ble_eq_true rfl) G (fun p e s m args below meth c C0 ls hl => ?_) hr
  have hl : lv_has ls 7 [(0, .ref (ad 0)), (1, .int v1), (2, .int v2)] := hl
  rw [mX6_mostLeftBy]
  refine sx_aload_n C0 dX6_mostLeftBy_0 rfl (lv_at hl 0 rfl) ?_
  refine gf_X6_51 C0 is6 dX6_mostLeftBy_1 ?_
  refine sx_aload_n C0 dX6_mostLeftBy_4 rfl (lv_at hl 0 rfl) ?_
  refine gf_X6_33 C0 is6 dX6_mostLeftBy_5 ?_
  refine gf_X6_149 C0 is6_village.1 dX6_mostLeftBy_8 ?_
  refine sw_bind (fun S11 e11 => ?_)
  refine cv_X6_291 (As := [.ref (ad (30 + 1))]) C0 (c_X0_take C0.2.2.2.2.2.2.2.1 119 is6_otherGods (30 + 1) is6_village.2.1 S _ e11) is6_otherGods.1 ⟨rfl, rfl⟩ ⟨Nat.le_of_ble_eq_true rfl, Nat.le_of_ble_eq_true rfl⟩ rfl hl.1 (Nat.le_of_ble_eq_true rfl) rfl dX6_mostLeftBy_11 (fun _ => ?_)
  refine sx_iconst (v := 0) C0 dX6_mostLeftBy_14 (by decide) ?_
  refine sx_istore_n (lv' := [(3, .int (0 : Int32)), (0, .ref (ad 0)), (1, .int v1), (2, .int v2)]) C0 dX6_mostLeftBy_15 rfl hl (by decide) rfl (fun ls hl => ?_)
  refine sx_iconst (v := 1) C0 dX6_mostLeftBy_16 (by decide) ?_
  refine sx_istore (lv' := [(4, .int (1 : Int32)), (3, .int (0 : Int32)), (0, .ref (ad 0)), (1, .int v1), (2, .int v2)]) C0 dX6_mostLeftBy_17 hl (by decide) rfl (fun ls hl => ?_)
  exact lX6_mostLeftBy_19_t C0 _ _ _ _ _ _ _ (lv_sub hl [2, 3, 4, 1, 0] rfl)
abbrev rm_X6_ask : Room := { frames := 5, cells := 0, slots := 0, locals := 125 }
def bX6_ask_103    (S : vS) (v2 : Int32) (v3 : Int32)  : Option (Int32 × vS) := (lt (mX6_tell S v3) fun S105 => (some (v2, S105)))
set_option maxHeartbeats 4000000 in
set_option maxRecDepth 100000 in
theorem bX6_ask_103_t {p : Program} {l : Launch} {e : Env} {s : State} {m : MethodId} {args : Array Value} {below : List Frame} {meth : Method} {c : Code} {D : va_G} {cA : Nat → ClassId} {ad : Nat → Nat} {kl : Nat}   (C0 : Cx D vwCl tlC shC cA ad (ExC ad kl) RX6 cX6_ask 6 (some .int) p s m args meth c)  (S : vS) (v2 : Int32) (v3 : Int32) (ls : Array Slot) (hl : lv_has ls 6 [(0, .ref (ad 0)), (2, .int v2), (3, .int v3)]) : SW p l e rm_X6_ask s m args below meth c D vwCl shC cA ad (Fq D vwCl shC cA ad below args s (fun q => some (.int q.1) : (Int32 × vS) → Option Value) (fun q => q.2) (fun _ => True)) (bX6_ask_103 S v2 v3) S 103 ls [] := by
  rw [bX6_ask_103]
  refine sx_aload_n C0 dX6_ask_103 rfl (lv_at hl 0 rfl) ?_
  refine sx_iload_n C0 dX6_ask_104 rfl (lv_at hl 2 rfl) ?_
  refine cv_X6_103 (As := [.int v3]) C0 (c_X6_tell C0.2.2.2.2.2.2.2.1 v3 S) is6 ⟨rfl, rfl⟩ ⟨Nat.le_of_ble_eq_true rfl, Nat.le_of_ble_eq_true rfl⟩ rfl hl.1 (Nat.le_of_ble_eq_true rfl) rfl dX6_ask_105 (fun _ => ?_)
  refine sw_ltS (fun S105 => ?_)
  refine sx_iload_n C0 dX6_ask_108 rfl (lv_at hl 1 rfl) ?_
  exact sx_iret C0 rfl rfl trivial dX6_ask_109
def lX6_ask_42    (v1 : Int32) : Nat → vS → Int32 → Int32 → Int32 → Option (Int32 × vS)
  | 0, _, _, _, _ => none
  | n + 1, S, v2, v3, v4 => (if (12 : Int32) < v4 then (bX6_ask_103 S v2 v3) else ((mX3_costOf S (30 + 11) (30 + 1) v4).bind fun a65 => (if a65 = (-9 : Int32) then ((lX6_ask_42 v1 n) S v2 v3 (v4 + (1 : Int32))) else ((mX6_mostLeftBy S v1 v4).bind fun q80 => (lt q80.1 fun v5_83 => (if v3 ≤ v5_83 then ((lX6_ask_42 v1 n) q80.2 v2 v3 (v4 + (1 : Int32))) else ((lX6_ask_42 v1 n) q80.2 v4 v5_83 (v4 + (1 : Int32)))))))))
set_option maxHeartbeats 4000000 in
set_option maxRecDepth 100000 in
theorem lX6_ask_42_t {p : Program} {l : Launch} {e : Env} {s : State} {m : MethodId} {args : Array Value} {below : List Frame} {meth : Method} {c : Code} {D : va_G} {cA : Nat → ClassId} {ad : Nat → Nat} {kl : Nat}   (C0 : Cx D vwCl tlC shC cA ad (ExC ad kl) RX6 cX6_ask 6 (some .int) p s m args meth c)   (v1 : Int32)  : ∀ (n : Nat) (S : vS) (v2 : Int32) (v3 : Int32) (v4 : Int32) (ls : Array Slot), lv_has ls 6 [(0, .ref (ad 0)), (1, .int v1), (2, .int v2), (3, .int v3), (4, .int v4)] → SW p l e rm_X6_ask s m args below meth c D vwCl shC cA ad (Fq D vwCl shC cA ad below args s (fun q => some (.int q.1) : (Int32 × vS) → Option Value) (fun q => q.2) (fun _ => True)) (lX6_ask_42 v1 n S v2 v3 v4) S 42 ls [] := by
  intro n
  induction n with
  | zero =>
    intro S v2 v3 v4 ls hl
    rw [lX6_ask_42]
    exact sw_none
  | succ n ih =>
    intro S v2 v3 v4 ls hl
    rw [lX6_ask_42]
    refine sx_iload C0 dX6_ask_42 (lv_at hl 4 rfl) ?_
    refine sx_bipush (v := 12) C0 dX6_ask_44 (by decide) ?_
    refine sx_icmp_gt (tgt := 103) C0 dX6_ask_46 (by decide) (fun _ => ?_) (fun _ => ?_)
    · exact bX6_ask_103_t C0 _ _ _ _ (lv_sub hl [0, 2, 3] rfl)
    · refine sx_aload_n C0 dX6_ask_49 rfl (lv_at hl 0 rfl) ?_
      refine gf_X6_33 C0 is6 dX6_ask_50 ?_
      refine gf_X6_167 C0 is6_village.1 dX6_ask_53 ?_
      refine sx_aload_n C0 dX6_ask_56 rfl (lv_at hl 0 rfl) ?_
      refine gf_X6_33 C0 is6 dX6_ask_57 ?_
      refine gf_X6_149 C0 is6_village.1 dX6_ask_60 ?_
      refine sx_iload C0 dX6_ask_63 (lv_at hl 4 rfl) ?_
      refine sw_bind (fun a65 e65 => ?_)
      refine cv_X6_196 (As := [.ref (ad (30 + 1)), .int v4]) C0 (c_X3_costOf C0.2.2.2.2.2.2.2.1 (30 + 11) is6_village.2.2.1 (30 + 1) is6_village.2.1 v4 S _ e65) is6_village.2.2.1.1 ⟨rfl, rfl⟩ ⟨Nat.le_of_ble_eq_true rfl, Nat.le_of_ble_eq_true rfl⟩ rfl hl.1 (Nat.le_of_ble_eq_true rfl) rfl dX6_ask_65 (fun _ => ?_)
      refine sx_bipush (v := (-9)) C0 dX6_ask_68 (by decide) ?_
      refine sx_icmp_ne (tgt := 76) C0 dX6_ask_70 (by decide) (fun _ => ?_) (fun _ => ?_)
      · refine sx_goto (tgt := 97) C0 dX6_ask_73 (by decide) ?_
        refine sx_iinc (v := (v4 + (1 : Int32))) (lv' := [(4, .int (v4 + (1 : Int32))), (0, .ref (ad 0)), (1, .int v1), (2, .int v2), (3, .int v3)]) C0 dX6_ask_97 hl (k := 4) rfl rfl (by decide) rfl (fun ls hl => ?_)
        refine sx_goto (tgt := 42) C0 dX6_ask_100 (by decide) ?_
        exact ih _ _ _ _ _ (lv_sub hl [1, 2, 3, 4, 0] rfl)
      · refine sx_aload_n C0 dX6_ask_76 rfl (lv_at hl 0 rfl) ?_
        refine sx_iload_n C0 dX6_ask_77 rfl (lv_at hl 1 rfl) ?_
        refine sx_iload C0 dX6_ask_78 (lv_at hl 4 rfl) ?_
        refine sw_bind (fun q80 e80 => ?_)
        refine cv_X6_319 (As := [.int v1, .int v4]) C0 (c_X6_mostLeftBy C0.2.2.2.2.2.2.2.1 v1 v4 S _ e80) is6 ⟨rfl, rfl⟩ ⟨Nat.le_of_ble_eq_true rfl, Nat.le_of_ble_eq_true rfl⟩ rfl hl.1 (Nat.le_of_ble_eq_true rfl) rfl dX6_ask_80 (fun _ => ?_)
        refine sw_lt (val := .int) (fun v5_83 => ?_)
        refine sx_istore (lv' := [(5, .int v5_83), (0, .ref (ad 0)), (1, .int v1), (2, .int v2), (3, .int v3), (4, .int v4)]) C0 dX6_ask_83 hl (by decide) rfl (fun ls hl => ?_)
        refine sx_iload C0 dX6_ask_85 (lv_at hl 0 rfl) ?_
        refine sx_iload_n C0 dX6_ask_87 rfl (lv_at hl 4 rfl) ?_
        refine sx_icmp_ge (tgt := 97) C0 dX6_ask_88 (by decide) (fun _ => ?_) (fun _ => ?_)
        · refine sx_iinc (v := (v4 + (1 : Int32))) (lv' := [(4, .int (v4 + (1 : Int32))), (5, .int v5_83), (0, .ref (ad 0)), (1, .int v1), (2, .int v2), (3, .int v3)]) C0 dX6_ask_97 hl (k := 5) rfl rfl (by decide) rfl (fun ls hl => ?_)
          refine sx_goto (tgt := 42) C0 dX6_ask_100 (by decide) ?_
          exact ih _ _ _ _ _ (lv_sub hl [2, 3, 4, 5, 0] rfl)
        · refine sx_iload C0 dX6_ask_91 (lv_at hl 0 rfl) ?_
          refine sx_istore_n (lv' := [(3, .int v5_83), (5, .int v5_83), (0, .ref (ad 0)), (1, .int v1), (2, .int v2), (4, .int v4)]) C0 dX6_ask_93 rfl hl (by decide) rfl (fun ls hl => ?_)
          refine sx_iload C0 dX6_ask_94 (lv_at hl 5 rfl) ?_
          refine sx_istore_n (lv' := [(2, .int v4), (3, .int v5_83), (5, .int v5_83), (0, .ref (ad 0)), (1, .int v1), (4, .int v4)]) C0 dX6_ask_96 rfl hl (by decide) rfl (fun ls hl => ?_)
          refine sx_iinc (v := (v4 + (1 : Int32))) (lv' := [(4, .int (v4 + (1 : Int32))), (2, .int v4), (3, .int v5_83), (5, .int v5_83), (0, .ref (ad 0)), (1, .int v1)]) C0 dX6_ask_97 hl (k := 5) rfl rfl (by decide) rfl (fun ls hl => ?_)
          refine sx_goto (tgt := 42) C0 dX6_ask_100 (by decide) ?_
          exact ih _ _ _ _ _ (lv_sub hl [4, 5, 1, 2, 0] rfl)
def mX6_ask (S : vS) (v1 : Int32) : Option (Int32 × vS) := (if (mX0_has S (30 + 1) v1) = 0 then (some ((-1 : Int32), S)) else (if (mX3_isGone S (30 + 11) v1) = 0 then (lX6_ask_42 v1 FU S (12 : Int32) (7 : Int32) (0 : Int32)) else (some ((-4 : Int32), S))))
set_option maxHeartbeats 4000000 in
set_option maxRecDepth 100000 in
theorem c_X6_ask {l : Launch} {D : va_G} {cA : Nat → ClassId} {ad : Nat → Nat} {kl : Nat} (G : Gx shC ad (ExC ad kl)) (v1 : Int32) (S : vS) (r : (Int32 × vS)) (hr : (mX6_ask S v1) = some r) : Met l yX6_ask (Cond.code yX6_ask cX6_ask 6 (some .int) :: ALL) rm_X6_ask (Po D vwCl tlC shC cA ad (ExC ad kl) [.ref (ad 0), .int v1] S) (Qo D vwCl shC cA ad (some (.int r.1)) r.2 True) 0 0 (aw shC ad) := by
  refine Met.sx (M := (mX6_ask S v1)) (rv := (fun q => some (.int q.1) : (Int32 × vS) → Option Value)) (rs := fun q => q.2) (B := fun _ => True) (by decide) ⟨rfl, rfl⟩ (Nat.le_of_ble_eq_true rfl) G (fun p e s m args below meth c C0 ls hl => ?_) hr
  have hl : lv_has ls 6 [(0, .ref (ad 0)), (1, .int v1)] := hl
  rw [mX6_ask]
  refine sx_aload_n C0 dX6_ask_0 rfl (lv_at hl 0 rfl) ?_
  refine gf_X6_33 C0 is6 dX6_ask_1 ?_
  refine gf_X6_149 C0 is6_village.1 dX6_ask_4 ?_
  refine sx_iload_n C0 dX6_ask_7 rfl (lv_at hl 1 rfl) ?_
  refine cv_X6_153 (As := [.int v1]) C0 (c_X0_has C0.2.2.2.2.2.2.2.1 (30 + 1) is6_village.2.1 v1 S) is6_village.2.1.1 ⟨rfl, rfl⟩ ⟨Nat.le_of_ble_eq_true rfl, Nat.le_of_ble_eq_true rfl⟩ rfl hl.1 (Nat.le_of_ble_eq_true rfl) rfl dX6_ask_8 (fun hb8 => ?_)
  refine sx_if_ne (tgt := 16) C0 dX6_ask_11 (by decide) (fun _ => ?_) (fun _ => ?_)
  · refine sx_iconst (v := (-1)) C0 dX6_ask_14 (by decide) ?_
    exact sx_iret C0 rfl rfl trivial dX6_ask_15
  · refine sx_aload_n C0 dX6_ask_16 rfl (lv_at hl 0 rfl) ?_
    refine gf_X6_33 C0 is6 dX6_ask_17 ?_
    refine gf_X6_167 C0 is6_village.1 dX6_ask_20 ?_
    refine sx_iload_n C0 dX6_ask_23 rfl (lv_at hl 1 rfl) ?_
    refine cv_X6_281 (As := [.int v1]) C0 (c_X3_isGone C0.2.2.2.2.2.2.2.1 (30 + 11) is6_village.2.2.1 v1 S) is6_village.2.2.1.1 ⟨rfl, rfl⟩ ⟨Nat.le_of_ble_eq_true rfl, Nat.le_of_ble_eq_true rfl⟩ rfl hl.1 (Nat.le_of_ble_eq_true rfl) rfl dX6_ask_24 (fun hb24 => ?_)
    refine sx_if_eq (tgt := 33) C0 dX6_ask_27 (by decide) (fun _ => ?_) (fun _ => ?_)
    · refine sx_bipush (v := 12) C0 dX6_ask_33 (by decide) ?_
      refine sx_istore_n (lv' := [(2, .int (12 : Int32)), (0, .ref (ad 0)), (1, .int v1)]) C0 dX6_ask_35 rfl hl (by decide) rfl (fun ls hl => ?_)
      refine sx_bipush (v := 7) C0 dX6_ask_36 (by decide) ?_
      refine sx_istore_n (lv' := [(3, .int (7 : Int32)), (2, .int (12 : Int32)), (0, .ref (ad 0)), (1, .int v1)]) C0 dX6_ask_38 rfl hl (by decide) rfl (fun ls hl => ?_)
      refine sx_iconst (v := 0) C0 dX6_ask_39 (by decide) ?_
      refine sx_istore (lv' := [(4, .int (0 : Int32)), (3, .int (7 : Int32)), (2, .int (12 : Int32)), (0, .ref (ad 0)), (1, .int v1)]) C0 dX6_ask_40 hl (by decide) rfl (fun ls hl => ?_)
      exact lX6_ask_42_t C0 _ _ _ _ _ _ _ (lv_sub hl [3, 4, 2, 1, 0] rfl)
    · refine sx_bipush (v := (-4)) C0 dX6_ask_30 (by decide) ?_
      exact sx_iret C0 rfl rfl trivial dX6_ask_32
abbrev rm_X6_year : Room := { frames := 4, cells := 0, slots := 0, locals := 99 }
def bX6_year_113   (K48 : vS → Int64 → Int32 → Int32 → Option (Int32 × vS)) (S : vS) (v2 : Int32) (v3 : Int64) (v5 : Int32) (v6 : Int32) (v7 : Int32)  : Option (Int32 × vS) := (if (S.1 129 4) ≤ v7 then (K48 S v3 v5 (v6 + (1 : Int32))) else (K48 S v3 (v5 + (1 : Int32)) (v6 + (1 : Int32))))
set_option maxHeartbeats 4000000 in
set_option maxRecDepth 100000 in
theorem bX6_year_113_t {p : Program} {l : Launch} {e : Env} {s : State} {m : MethodId} {args : Array Value} {below : List Frame} {meth : Method} {c : Code} {D : va_G} {cA : Nat → ClassId} {ad : Nat → Nat} {kl : Nat} {K48 : vS → Int64 → Int32 → Int32 → Option (Int32 × vS)}  (C0 : Cx D vwCl tlC shC cA ad (ExC ad kl) RX6 cX6_year 8 (some .int) p s m args meth c)  (S : vS) (v2 : Int32) (v3 : Int64) (v5 : Int32) (v6 : Int32) (v7 : Int32) (hK48 : ∀ (S : vS) (v3 : Int64) (v5 : Int32) (v6 : Int32) (ls : Array Slot), lv_has ls 8 [(0, .ref (ad 0)), (2, .int v2), (3, .long v3), (5, .int v5), (6, .int v6)] → SW p l e rm_X6_year s m args below meth c D vwCl shC cA ad (Fq D vwCl shC cA ad below args s (fun q => some (.int q.1) : (Int32 × vS) → Option Value) (fun q => q.2) (fun _ => True)) (K48 S v3 v5 v6) S 48 ls []) (ls : Array Slot) (hl : lv_has ls 8 [(0, .ref (ad 0)), (2, .int v2), (3, .long v3), (5, .int v5), (6, .int v6), (7, .int v7)]) : SW p l e rm_X6_year s m args below meth c D vwCl shC cA ad (Fq D vwCl shC cA ad below args s (fun q => some (.int q.1) : (Int32 × vS) → Option Value) (fun q => q.2) (fun _ => True)) (bX6_year_113 K48 S v2 v3 v5 v6 v7) S 113 ls [] := by
  rw [bX6_year_113]
  refine sx_aload_n C0 dX6_year_113 rfl (lv_at hl 0 rfl) ?_
  refine gf_X6_58 C0 is6 dX6_year_114 ?_
  refine gf_X6_215 C0 is6_trial.1 dX6_year_117 ?_
  refine sx_iload C0 dX6_year_120 (lv_at hl 5 rfl) ?_
  refine sx_icmp_le (tgt := 128) C0 dX6_year_122 (by decide) (fun _ => ?_) (fun _ => ?_)
  · refine sx_iinc (v := (v6 + (1 : Int32))) (lv' := [(6, .int (v6 + (1 : Int32))), (0, .ref (ad 0)), (2, .int v2), (3, .long v3), (5, .int v5), (7, .int v7)]) C0 dX6_year_128 hl (k := 4) rfl rfl (by decide) rfl (fun ls hl => ?_)
    refine sx_goto (tgt := 48) C0 dX6_year_131 (by decide) ?_
    exact hK48 _ _ _ _ _ (lv_sub hl [1, 2, 3, 4, 0] rfl)
  · refine sx_iinc (v := (v5 + (1 : Int32))) (lv' := [(5, .int (v5 + (1 : Int32))), (0, .ref (ad 0)), (2, .int v2), (3, .long v3), (6, .int v6), (7, .int v7)]) C0 dX6_year_125 hl (k := 3) rfl rfl (by decide) rfl (fun ls hl => ?_)
    refine sx_iinc (v := (v6 + (1 : Int32))) (lv' := [(6, .int (v6 + (1 : Int32))), (5, .int (v5 + (1 : Int32))), (0, .ref (ad 0)), (2, .int v2), (3, .long v3), (7, .int v7)]) C0 dX6_year_128 hl (k := 4) rfl rfl (by decide) rfl (fun ls hl => ?_)
    refine sx_goto (tgt := 48) C0 dX6_year_131 (by decide) ?_
    exact hK48 _ _ _ _ _ (lv_sub hl [2, 3, 4, 1, 0] rfl)
def bX6_year_134    (S : vS) (v5 : Int32)  : Option (Int32 × vS) := (lt (mX6_tell S (mX3_worth S 129)) fun S142 => ((mX6_tellFraction S142 v5 (1 : Int32)).bind fun S149 => (some ((1 : Int32), S149))))
set_option maxHeartbeats 4000000 in
set_option maxRecDepth 100000 in
theorem bX6_year_134_t {p : Program} {l : Launch} {e : Env} {s : State} {m : MethodId} {args : Array Value} {below : List Frame} {meth : Method} {c : Code} {D : va_G} {cA : Nat → ClassId} {ad : Nat → Nat} {kl : Nat}   (C0 : Cx D vwCl tlC shC cA ad (ExC ad kl) RX6 cX6_year 8 (some .int) p s m args meth c)  (S : vS) (v5 : Int32) (ls : Array Slot) (hl : lv_has ls 8 [(0, .ref (ad 0)), (5, .int v5)]) : SW p l e rm_X6_year s m args below meth c D vwCl shC cA ad (Fq D vwCl shC cA ad below args s (fun q => some (.int q.1) : (Int32 × vS) → Option Value) (fun q => q.2) (fun _ => True)) (bX6_year_134 S v5) S 134 ls [] := by
  rw [bX6_year_134]
  refine sx_aload_n C0 dX6_year_134 rfl (lv_at hl 0 rfl) ?_
  refine sx_aload_n C0 dX6_year_135 rfl (lv_at hl 0 rfl) ?_
  refine gf_X6_58 C0 is6 dX6_year_136 ?_
  refine cv_X6_255 (As := []) C0 (c_X3_worth C0.2.2.2.2.2.2.2.1 129 is6_trial S) is6_trial.1 ⟨rfl, rfl⟩ ⟨Nat.le_of_ble_eq_true rfl, Nat.le_of_ble_eq_true rfl⟩ rfl hl.1 (Nat.le_of_ble_eq_true rfl) rfl dX6_year_139 (fun _ => ?_)
  refine cv_X6_103 (As := [.int (mX3_worth S 129)]) C0 (c_X6_tell C0.2.2.2.2.2.2.2.1 (mX3_worth S 129) S) is6 ⟨rfl, rfl⟩ ⟨Nat.le_of_ble_eq_true rfl, Nat.le_of_ble_eq_true rfl⟩ rfl hl.1 (Nat.le_of_ble_eq_true rfl) rfl dX6_year_142 (fun _ => ?_)
  refine sw_ltS (fun S142 => ?_)
  refine sx_aload_n C0 dX6_year_145 rfl (lv_at hl 0 rfl) ?_
  refine sx_iload C0 dX6_year_146 (lv_at hl 1 rfl) ?_
  refine sx_iconst (v := 1) C0 dX6_year_148 (by decide) ?_
  refine sw_bind (fun S149 e149 => ?_)
  refine cv_X6_268 (As := [.int v5, .int (1 : Int32)]) C0 (c_X6_tellFraction C0.2.2.2.2.2.2.2.1 v5 (1 : Int32) S142 _ e149) is6 ⟨rfl, rfl⟩ ⟨Nat.le_of_ble_eq_true rfl, Nat.le_of_ble_eq_true rfl⟩ rfl hl.1 (Nat.le_of_ble_eq_true rfl) rfl dX6_year_149 (fun _ => ?_)
  refine sx_iconst (v := 1) C0 dX6_year_152 (by decide) ?_
  exact sx_iret C0 rfl rfl trivial dX6_year_153
def lX6_year_48    (v2 : Int32) : Nat → vS → Int64 → Int32 → Int32 → Option (Int32 × vS)
  | 0, _, _, _, _ => none
  | n + 1, S, v3, v5, v6 => (if v2 ≤ v6 then (bX6_year_134 S v5) else (lt ((v3 * (48271 : Int64)) - (v3 * (48271 : Int64)) / (2147483647 : Int64) * (2147483647 : Int64)) fun v3_63 => (lt (S.1 129 4) fun v7_71 => ((mX3_goOn S 129 (30 + 1) (Int64.toInt32 (v3_63 - v3_63 / (13 : Int64) * (13 : Int64)))).bind fun q90 => (if q90.1 = 0 then ((mX3_goOn q90.2 129 (30 + 1) (12 : Int32)).bind fun q109 => (bX6_year_113 (lX6_year_48 v2 n) q109.2 v2 v3_63 v5 v6 v7_71)) else (bX6_year_113 (lX6_year_48 v2 n) q90.2 v2 v3_63 v5 v6 v7_71))))))
set_option maxHeartbeats 4000000 in
set_option maxRecDepth 100000 in
theorem lX6_year_48_t {p : Program} {l : Launch} {e : Env} {s : State} {m : MethodId} {args : Array Value} {below : List Frame} {meth : Method} {c : Code} {D : va_G} {cA : Nat → ClassId} {ad : Nat → Nat} {kl : Nat}   (C0 : Cx D vwCl tlC shC cA ad (ExC ad kl) RX6 cX6_year 8 (some .int) p s m args meth c)   (v2 : Int32)  : ∀ (n : Nat) (S : vS) (v3 : Int64) (v5 : Int32) (v6 : Int32) (ls : Array Slot), lv_has ls 8 [(0, .ref (ad 0)), (2, .int v2), (3, .long v3), (5, .int v5), (6, .int v6)] → SW p l e rm_X6_year s m args below meth c D vwCl shC cA ad (Fq D vwCl shC cA ad below args s (fun q => some (.int q.1) : (Int32 × vS) → Option Value) (fun q => q.2) (fun _ => True)) (lX6_year_48 v2 n S v3 v5 v6) S 48 ls [] := by
  intro n
  induction n with
  | zero =>
    intro S v3 v5 v6 ls hl
    rw [lX6_year_48]
    exact sw_none
  | succ n ih =>
    intro S v3 v5 v6 ls hl
    rw [lX6_year_48]
    refine sx_iload C0 dX6_year_48 (lv_at hl 4 rfl) ?_
    refine sx_iload_n C0 dX6_year_50 rfl (lv_at hl 1 rfl) ?_
    refine sx_icmp_ge (tgt := 134) C0 dX6_year_51 (by decide) (fun _ => ?_) (fun _ => ?_)
    · exact bX6_year_134_t C0 _ _ _ (lv_sub hl [0, 3] rfl)
    · refine sx_lload_n C0 dX6_year_54 rfl (lv_at hl 2 rfl) ?_
      refine sx_ldc2 C0 wk_X6_323 dX6_year_55 ?_
      refine sx_lmul C0 dX6_year_58 ?_
      refine sx_ldc2 C0 wk_X6_325 dX6_year_59 ?_
      refine sx_lrem C0 dX6_year_62 (by decide) ?_
      refine sw_lt (val := .long) (fun v3_63 => ?_)
      refine sx_lstore_n (lv' := [(3, .long v3_63), (0, .ref (ad 0)), (2, .int v2), (5, .int v5), (6, .int v6)]) C0 dX6_year_63 rfl hl (by decide) rfl (fun ls hl => ?_)
      refine sx_aload_n C0 dX6_year_64 rfl (lv_at hl 1 rfl) ?_
      refine gf_X6_58 C0 is6 dX6_year_65 ?_
      refine gf_X6_215 C0 is6_trial.1 dX6_year_68 ?_
      refine sw_lt (val := .int) (fun v7_71 => ?_)
      refine sx_istore (lv' := [(7, .int v7_71), (3, .long v3_63), (0, .ref (ad 0)), (2, .int v2), (5, .int v5), (6, .int v6)]) C0 dX6_year_71 hl (by decide) rfl (fun ls hl => ?_)
      refine sx_aload_n C0 dX6_year_73 rfl (lv_at hl 2 rfl) ?_
      refine gf_X6_58 C0 is6 dX6_year_74 ?_
      refine sx_aload_n C0 dX6_year_77 rfl (lv_at hl 2 rfl) ?_
      refine gf_X6_33 C0 is6 dX6_year_78 ?_
      refine gf_X6_149 C0 is6_village.1 dX6_year_81 ?_
      refine sx_lload_n C0 dX6_year_84 rfl (lv_at hl 1 rfl) ?_
      refine sx_ldc2 C0 wk_X6_327 dX6_year_85 ?_
      refine sx_lrem C0 dX6_year_88 (by decide) ?_
      refine sx_l2i C0 dX6_year_89 ?_
      refine sw_bind (fun q90 e90 => ?_)
      refine cv_X6_251 (As := [.ref (ad (30 + 1)), .int (Int64.toInt32 (v3_63 - v3_63 / (13 : Int64) * (13 : Int64)))]) C0 (c_X3_goOn C0.2.2.2.2.2.2.2.1 129 is6_trial (30 + 1) is6_village.2.1 (Int64.toInt32 (v3_63 - v3_63 / (13 : Int64) * (13 : Int64))) S _ e90) is6_trial.1 ⟨rfl, rfl⟩ ⟨Nat.le_of_ble_eq_true rfl, Nat.le_of_ble_eq_true rfl⟩ rfl hl.1 (Nat.le_of_ble_eq_true rfl) rfl dX6_year_90 (fun hb90 => ?_)
      refine sx_if_ne (tgt := 113) C0 dX6_year_93 (by decide) (fun _ => ?_) (fun _ => ?_)
      · refine sx_aload_n C0 dX6_year_96 rfl (lv_at hl 2 rfl) ?_
        refine gf_X6_58 C0 is6 dX6_year_97 ?_
        refine sx_aload_n C0 dX6_year_100 rfl (lv_at hl 2 rfl) ?_
        refine gf_X6_33 C0 is6 dX6_year_101 ?_
        refine gf_X6_149 C0 is6_village.1 dX6_year_104 ?_
        refine sx_bipush (v := 12) C0 dX6_year_107 (by decide) ?_
        refine sw_bind (fun q109 e109 => ?_)
        refine cv_X6_251 (As := [.ref (ad (30 + 1)), .int (12 : Int32)]) C0 (c_X3_goOn C0.2.2.2.2.2.2.2.1 129 is6_trial (30 + 1) is6_village.2.1 (12 : Int32) q90.2 _ e109) is6_trial.1 ⟨rfl, rfl⟩ ⟨Nat.le_of_ble_eq_true rfl, Nat.le_of_ble_eq_true rfl⟩ rfl hl.1 (Nat.le_of_ble_eq_true rfl) rfl dX6_year_109 (fun hb109 => ?_)
        refine sx_pop C0 dX6_year_112 rfl ?_
        exact bX6_year_113_t C0 _ _ _ _ _ _ ih _ (lv_sub hl [2, 3, 1, 4, 5, 0] rfl)
      · exact bX6_year_113_t C0 _ _ _ _ _ _ ih _ (lv_sub hl [2, 3, 1, 4, 5, 0] rfl)
def mX6_year (S : vS) (v1 : Int32) (v2 : Int32) : Option (Int32 × vS) := (if v1 < (1 : Int32) then (some ((-1 : Int32), S)) else (if (2147483647 : Int32) ≤ v1 then (some ((-1 : Int32), S)) else (if v2 < (1 : Int32) then (some ((-1 : Int32), S)) else (if v2 ≤ (100 : Int32) then (if (mX6_noGods S) = 0 then ((mX6_startTrial S).bind fun S36 => (lt (Int32.toInt64 v1) fun v3_41 => (lX6_year_48 v2 FU S36 v3_41 (0 : Int32) (0 : Int32)))) else (some ((-4 : Int32), S))) else (some ((-1 : Int32), S))))))
set_option maxHeartbeats 4000000 in
set_option maxRecDepth 100000 in
theorem c_X6_year {l : Launch} {D : va_G} {cA : Nat → ClassId} {ad : Nat → Nat} {kl : Nat} (G : Gx shC ad (ExC ad kl)) (v1 : Int32) (v2 : Int32) (S : vS) (r : (Int32 × vS)) (hr : (mX6_year S v1 v2) = some r) : Met l yX6_year (Cond.code yX6_year cX6_year 8 (some .int) :: ALL) rm_X6_year (Po D vwCl tlC shC cA ad (ExC ad kl) [.ref (ad 0), .int v1, .int v2] S) (Qo D vwCl shC cA ad (some (.int r.1)) r.2 True) 0 0 (aw shC ad) := by
  refine Met.sx (M := (mX6_year S v1 v2)) (rv := (fun q => some (.int q.1) : (Int32 × vS) → Option Value)) (rs := fun q => q.2) (B := fun _ => True) (by decide) ⟨rfl, rfl⟩ (Nat.le_of_ble_eq_true rfl) G (fun p e s m args below meth c C0 ls hl => ?_) hr
  have hl : lv_has ls 8 [(0, .ref (ad 0)), (1, .int v1), (2, .int v2)] := hl
  rw [mX6_year]
  refine sx_iload_n C0 dX6_year_0 rfl (lv_at hl 1 rfl) ?_
  refine sx_iconst (v := 1) C0 dX6_year_1 (by decide) ?_
  refine sx_icmp_lt (tgt := 23) C0 dX6_year_2 (by decide) (fun _ => ?_) (fun _ => ?_)
  · refine sx_iconst (v := (-1)) C0 dX6_year_23 (by decide) ?_
    exact sx_iret C0 rfl rfl trivial dX6_year_24
  · refine sx_iload_n C0 dX6_year_5 rfl (lv_at hl 1 rfl) ?_
    refine sx_ldcw C0 wk_X6_322 dX6_year_6 ?_
    refine sx_icmp_ge (tgt := 23) C0 dX6_year_9 (by decide) (fun _ => ?_) (fun _ => ?_)
    · refine sx_iconst (v := (-1)) C0 dX6_year_23 (by decide) ?_
      exact sx_iret C0 rfl rfl trivial dX6_year_24
    · refine sx_iload_n C0 dX6_year_12 rfl (lv_at hl 2 rfl) ?_
      refine sx_iconst (v := 1) C0 dX6_year_13 (by decide) ?_
      refine sx_icmp_lt (tgt := 23) C0 dX6_year_14 (by decide) (fun _ => ?_) (fun _ => ?_)
      · refine sx_iconst (v := (-1)) C0 dX6_year_23 (by decide) ?_
        exact sx_iret C0 rfl rfl trivial dX6_year_24
      · refine sx_iload_n C0 dX6_year_17 rfl (lv_at hl 2 rfl) ?_
        refine sx_bipush (v := 100) C0 dX6_year_18 (by decide) ?_
        refine sx_icmp_le (tgt := 25) C0 dX6_year_20 (by decide) (fun _ => ?_) (fun _ => ?_)
        · refine sx_aload_n C0 dX6_year_25 rfl (lv_at hl 0 rfl) ?_
          refine cv_X6_183 (As := []) C0 (c_X6_noGods C0.2.2.2.2.2.2.2.1 S) is6 ⟨rfl, rfl⟩ ⟨Nat.le_of_ble_eq_true rfl, Nat.le_of_ble_eq_true rfl⟩ rfl hl.1 (Nat.le_of_ble_eq_true rfl) rfl dX6_year_26 (fun hb26 => ?_)
          refine sx_if_eq (tgt := 35) C0 dX6_year_29 (by decide) (fun _ => ?_) (fun _ => ?_)
          · refine sx_aload_n C0 dX6_year_35 rfl (lv_at hl 0 rfl) ?_
            refine sw_bind (fun S36 e36 => ?_)
            refine cv_X6_248 (As := []) C0 (c_X6_startTrial C0.2.2.2.2.2.2.2.1 S _ e36) is6 ⟨rfl, rfl⟩ ⟨Nat.le_of_ble_eq_true rfl, Nat.le_of_ble_eq_true rfl⟩ rfl hl.1 (Nat.le_of_ble_eq_true rfl) rfl dX6_year_36 (fun _ => ?_)
            refine sx_iload_n C0 dX6_year_39 rfl (lv_at hl 1 rfl) ?_
            refine sx_i2l C0 dX6_year_40 ?_
            refine sw_lt (val := .long) (fun v3_41 => ?_)
            refine sx_lstore_n (lv' := [(3, .long v3_41), (0, .ref (ad 0)), (1, .int v1), (2, .int v2)]) C0 dX6_year_41 rfl hl (by decide) rfl (fun ls hl => ?_)
            refine sx_iconst (v := 0) C0 dX6_year_42 (by decide) ?_
            refine sx_istore (lv' := [(5, .int (0 : Int32)), (3, .long v3_41), (0, .ref (ad 0)), (1, .int v1), (2, .int v2)]) C0 dX6_year_43 hl (by decide) rfl (fun ls hl => ?_)
            refine sx_iconst (v := 0) C0 dX6_year_45 (by decide) ?_
            refine sx_istore (lv' := [(6, .int (0 : Int32)), (5, .int (0 : Int32)), (3, .long v3_41), (0, .ref (ad 0)), (1, .int v1), (2, .int v2)]) C0 dX6_year_46 hl (by decide) rfl (fun ls hl => ?_)
            exact lX6_year_48_t C0 _ _ _ _ _ _ _ (lv_sub hl [3, 5, 2, 1, 0] rfl)
          · refine sx_bipush (v := (-4)) C0 dX6_year_32 (by decide) ?_
            exact sx_iret C0 rfl rfl trivial dX6_year_34
        · refine sx_iconst (v := (-1)) C0 dX6_year_23 (by decide) ?_
          exact sx_iret C0 rfl rfl trivial dX6_year_24
abbrev rm_X6_asked : Room := { frames := 0, cells := 0, slots := 0, locals := 0 }
def mX6_asked (S : vS)  : Int32 := (S.1 0 11)
set_option maxHeartbeats 4000000 in
set_option maxRecDepth 100000 in
theorem c_X6_asked {l : Launch} {D : va_G} {cA : Nat → ClassId} {ad : Nat → Nat} {kl : Nat} (G : Gx shC ad (ExC ad kl))  (S : vS) : Met l yX6_asked (Cond.code yX6_asked cX6_asked 1 (some .int) :: ALL) rm_X6_asked (Po D vwCl tlC shC cA ad (ExC ad kl) [.ref (ad 0)] S) (Qo D vwCl shC cA ad (some (.int (mX6_asked S))) S True) 0 0 (aw shC ad) := by
  refine Met.sx (M := some (mX6_asked S)) (rv := (fun r => some (.int r) : Int32 → Option Value)) (rs := fun _ => S) (B := fun _ => True) (by decide) ⟨rfl, rfl⟩ (Nat.le_of_ble_eq_true rfl) G (fun p e s m args below meth c C0 ls hl => ?_) rfl
  have hl : lv_has ls 1 [(0, .ref (ad 0))] := hl
  rw [mX6_asked]
  refine sx_aload_n C0 dX6_asked_0 rfl (lv_at hl 0 rfl) ?_
  refine gf_X6_73 C0 is6 dX6_asked_1 ?_
  exact sx_iret C0 rfl rfl trivial dX6_asked_4
abbrev rm_X6_upper : Room := { frames := 0, cells := 0, slots := 0, locals := 0 }
def mX6_upper (S : vS)  : Int64 := (S.2 0 12)
set_option maxHeartbeats 4000000 in
set_option maxRecDepth 100000 in
theorem c_X6_upper {l : Launch} {D : va_G} {cA : Nat → ClassId} {ad : Nat → Nat} {kl : Nat} (G : Gx shC ad (ExC ad kl))  (S : vS) : Met l yX6_upper (Cond.code yX6_upper cX6_upper 1 (some .long) :: ALL) rm_X6_upper (Po D vwCl tlC shC cA ad (ExC ad kl) [.ref (ad 0)] S) (Qo D vwCl shC cA ad (some (.long (mX6_upper S))) S True) 0 0 (aw shC ad) := by
  refine Met.sx (M := some (mX6_upper S)) (rv := (fun r => some (.long r) : Int64 → Option Value)) (rs := fun _ => S) (B := fun _ => True) (by decide) ⟨rfl, rfl⟩ (Nat.le_of_ble_eq_true rfl) G (fun p e s m args below meth c C0 ls hl => ?_) rfl
  have hl : lv_has ls 1 [(0, .ref (ad 0))] := hl
  rw [mX6_upper]
  refine sx_aload_n C0 dX6_upper_0 rfl (lv_at hl 0 rfl) ?_
  refine gf_X6_76 C0 is6 dX6_upper_1 ?_
  exact sx_lret C0 rfl rfl trivial dX6_upper_4
abbrev rm_X6_lower : Room := { frames := 0, cells := 0, slots := 0, locals := 0 }
def mX6_lower (S : vS)  : Int64 := (S.2 0 13)
set_option maxHeartbeats 4000000 in
set_option maxRecDepth 100000 in
theorem c_X6_lower {l : Launch} {D : va_G} {cA : Nat → ClassId} {ad : Nat → Nat} {kl : Nat} (G : Gx shC ad (ExC ad kl))  (S : vS) : Met l yX6_lower (Cond.code yX6_lower cX6_lower 1 (some .long) :: ALL) rm_X6_lower (Po D vwCl tlC shC cA ad (ExC ad kl) [.ref (ad 0)] S) (Qo D vwCl shC cA ad (some (.long (mX6_lower S))) S True) 0 0 (aw shC ad) := by
  refine Met.sx (M := some (mX6_lower S)) (rv := (fun r => some (.long r) : Int64 → Option Value)) (rs := fun _ => S) (B := fun _ => True) (by decide) ⟨rfl, rfl⟩ (Nat.le_of_ble_eq_true rfl) G (fun p e s m args below meth c C0 ls hl => ?_) rfl
  have hl : lv_has ls 1 [(0, .ref (ad 0))] := hl
  rw [mX6_lower]
  refine sx_aload_n C0 dX6_lower_0 rfl (lv_at hl 0 rfl) ?_
  refine gf_X6_80 C0 is6 dX6_lower_1 ?_
  exact sx_lret C0 rfl rfl trivial dX6_lower_4
abbrev rm_X6_howManyKept : Room := { frames := 0, cells := 0, slots := 0, locals := 0 }
def lX6_howManyKept_4  (S : vS)   : Nat → Int32 → Int32 → Option Int32
  | 0, _, _ => none
  | n + 1, v1, v2 => (if (3 : Int32) ≤ v2 then (some v1) else ((aI [47, 63, 79] v2).bind fun x18 => (if (S.1 x18 2) = 0 then ((lX6_howManyKept_4 S n) v1 (v2 + (1 : Int32))) else ((lX6_howManyKept_4 S n) (v1 + (1 : Int32)) (v2 + (1 : Int32))))))
set_option maxHeartbeats 4000000 in
set_option maxRecDepth 100000 in
theorem lX6_howManyKept_4_t {p : Program} {l : Launch} {e : Env} {s : State} {m : MethodId} {args : Array Value} {below : List Frame} {meth : Method} {c : Code} {D : va_G} {cA : Nat → ClassId} {ad : Nat → Nat} {kl : Nat}   (C0 : Cx D vwCl tlC shC cA ad (ExC ad kl) RX6 cX6_howManyKept 3 (some .int) p s m args meth c)  (S : vS)   : ∀ (n : Nat) (v1 : Int32) (v2 : Int32) (ls : Array Slot), lv_has ls 3 [(0, .ref (ad 0)), (1, .int v1), (2, .int v2)] → SW p l e rm_X6_howManyKept s m args below meth c D vwCl shC cA ad (Fq D vwCl shC cA ad below args s (fun r => some (.int r) : Int32 → Option Value) (fun _ => S) (fun _ => True)) (lX6_howManyKept_4 S n v1 v2) S 4 ls [] := by
  intro n
  induction n with
  | zero =>
    intro v1 v2 ls hl
    rw [lX6_howManyKept_4]
    exact sw_none
  | succ n ih =>
    intro v1 v2 ls hl
    rw [lX6_howManyKept_4]
    refine sx_iload_n C0 dX6_howManyKept_4 rfl (lv_at hl 2 rfl) ?_
    refine sx_aload_n C0 dX6_howManyKept_5 rfl (lv_at hl 0 rfl) ?_
    refine gf_X6_37 C0 is6 dX6_howManyKept_6 ?_
    refine sx_alenR (v := (3 : Int32)) C0 is6_keptOnes rfl rfl dX6_howManyKept_9 ?_
    refine sx_icmp_ge (tgt := 34) C0 dX6_howManyKept_10 (by decide) (fun _ => ?_) (fun _ => ?_)
    · refine sx_iload_n C0 dX6_howManyKept_34 rfl (lv_at hl 1 rfl) ?_
      exact sx_iret C0 rfl rfl trivial dX6_howManyKept_35
    · refine sx_aload_n C0 dX6_howManyKept_13 rfl (lv_at hl 0 rfl) ?_
      refine gf_X6_37 C0 is6 dX6_howManyKept_14 ?_
      refine sx_iload_n C0 dX6_howManyKept_17 rfl (lv_at hl 2 rfl) ?_
      refine sx_aald C0 is6_keptOnes rfl rfl dX6_howManyKept_18 (fun x18 hx18 => ?_)
      refine gf_X6_145 C0 (is6_keptOnesE x18 hx18).1 dX6_howManyKept_19 ?_
      refine sx_if_eq (tgt := 28) C0 dX6_howManyKept_22 (by decide) (fun _ => ?_) (fun _ => ?_)
      · refine sx_iinc (v := (v2 + (1 : Int32))) (lv' := [(2, .int (v2 + (1 : Int32))), (0, .ref (ad 0)), (1, .int v1)]) C0 dX6_howManyKept_28 hl (k := 2) rfl rfl (by decide) rfl (fun ls hl => ?_)
        refine sx_goto (tgt := 4) C0 dX6_howManyKept_31 (by decide) ?_
        exact ih _ _ _ (lv_sub hl [1, 2, 0] rfl)
      · refine sx_iinc (v := (v1 + (1 : Int32))) (lv' := [(1, .int (v1 + (1 : Int32))), (0, .ref (ad 0)), (2, .int v2)]) C0 dX6_howManyKept_25 hl (k := 1) rfl rfl (by decide) rfl (fun ls hl => ?_)
        refine sx_iinc (v := (v2 + (1 : Int32))) (lv' := [(2, .int (v2 + (1 : Int32))), (1, .int (v1 + (1 : Int32))), (0, .ref (ad 0))]) C0 dX6_howManyKept_28 hl (k := 2) rfl rfl (by decide) rfl (fun ls hl => ?_)
        refine sx_goto (tgt := 4) C0 dX6_howManyKept_31 (by decide) ?_
        exact ih _ _ _ (lv_sub hl [2, 1, 0] rfl)
def mX6_howManyKept (S : vS)  : Option Int32 := (lX6_howManyKept_4 S FU (0 : Int32) (0 : Int32))
set_option maxHeartbeats 4000000 in
set_option maxRecDepth 100000 in
theorem c_X6_howManyKept {l : Launch} {D : va_G} {cA : Nat → ClassId} {ad : Nat → Nat} {kl : Nat} (G : Gx shC ad (ExC ad kl))  (S : vS) (r : Int32) (hr : (mX6_howManyKept S) = some r) : Met l yX6_howManyKept (Cond.code yX6_howManyKept cX6_howManyKept 3 (some .int) :: ALL) rm_X6_howManyKept (Po D vwCl tlC shC cA ad (ExC ad kl) [.ref (ad 0)] S) (Qo D vwCl shC cA ad (some (.int r)) S True) 0 0 (aw shC ad) := by
  refine Met.sx (M := (mX6_howManyKept S)) (rv := (fun r => some (.int r) : Int32 → Option Value)) (rs := fun _ => S) (B := fun _ => True) (by decide) ⟨rfl, rfl⟩ (Nat.le_of_ble_eq_true rfl) G (fun p e s m args below meth c C0 ls hl => ?_) hr
  have hl : lv_has ls 3 [(0, .ref (ad 0))] := hl
  rw [mX6_howManyKept]
  refine sx_iconst (v := 0) C0 dX6_howManyKept_0 (by decide) ?_
  refine sx_istore_n (lv' := [(1, .int (0 : Int32)), (0, .ref (ad 0))]) C0 dX6_howManyKept_1 rfl hl (by decide) rfl (fun ls hl => ?_)
  refine sx_iconst (v := 0) C0 dX6_howManyKept_2 (by decide) ?_
  refine sx_istore_n (lv' := [(2, .int (0 : Int32)), (1, .int (0 : Int32)), (0, .ref (ad 0))]) C0 dX6_howManyKept_3 rfl hl (by decide) rfl (fun ls hl => ?_)
  exact lX6_howManyKept_4_t C0 _ _ _ _ _ (lv_sub hl [2, 1, 0] rfl)
abbrev rm_X6_count : Room := { frames := 3, cells := 0, slots := 0, locals := 67 }
def mX6_count (S : vS) (v1 : Int32) : Option Int32 := (if v1 = (0 : Int32) then (some (S.1 (30 + 1) 0)) else (if v1 = (1 : Int32) then (some (S.1 (30 + 11) 0)) else (if v1 = (2 : Int32) then (some (mJ6_bitCount_0f7a4 (S.1 (30 + 11) 1))) else (if v1 = (3 : Int32) then ((mX0_howManyOfKind S (30 + 1) (2 : Int32)).bind fun a92 => (some a92)) else (if v1 = (4 : Int32) then ((mX0_howManyOfKind S (30 + 1) (3 : Int32)).bind fun a104 => (some a104)) else (if v1 = (5 : Int32) then ((mX6_howManyKept S).bind fun a109 => (some a109)) else (if v1 = (6 : Int32) then ((mX4_howManyThere S 1 6).bind fun a117 => (some a117)) else (if v1 = (7 : Int32) then ((mX4_howManyThere S 10 4).bind fun a125 => (some a125)) else (some (-1 : Int32))))))))))
set_option maxHeartbeats 4000000 in
set_option maxRecDepth 100000 in
theorem c_X6_count {l : Launch} {D : va_G} {cA : Nat → ClassId} {ad : Nat → Nat} {kl : Nat} (G : Gx shC ad (ExC ad kl)) (v1 : Int32) (S : vS) (r : Int32) (hr : (mX6_count S v1) = some r) : Met l yX6_count (Cond.code yX6_count cX6_count 2 (some .int) :: ALL) rm_X6_count (Po D vwCl tlC shC cA ad (ExC ad kl) [.ref (ad 0), .int v1] S) (Qo D vwCl shC cA ad (some (.int r)) S True) 0 0 (aw shC ad) := by
  refine Met.sx (M := (mX6_count S v1)) (rv := (fun r => some (.int r) : Int32 → Option Value)) (rs := fun _ => S) (B := fun _ => True) (by decide) ⟨rfl, rfl⟩ (Nat.le_of_ble_eq_true rfl) G (fun p e s m args below meth c C0 ls hl => ?_) hr
  have hl : lv_has ls 2 [(0, .ref (ad 0)), (1, .int v1)] := hl
  rw [mX6_count]
  refine sx_iload_n C0 dX6_count_0 rfl (lv_at hl 1 rfl) ?_
  refine sx_case (fun hc => ?_) (fun hn0 => ?_)
  · refine sx_tableIn (off := 47) (tgt := 48) C0 dX6_count_1 (by rw [hc]; decide) (by rw [hc]; decide) (by rw [hc]; decide) (by decide) ?_
    refine sx_aload_n C0 dX6_count_48 rfl (lv_at hl 0 rfl) ?_
    refine gf_X6_33 C0 is6 dX6_count_49 ?_
    refine gf_X6_149 C0 is6_village.1 dX6_count_52 ?_
    refine gf_X6_150 C0 is6_village.2.1.1 dX6_count_55 ?_
    exact sx_iret C0 rfl rfl trivial dX6_count_58
  refine sx_case (fun hc => ?_) (fun hn1 => ?_)
  · refine sx_tableIn (off := 58) (tgt := 59) C0 dX6_count_1 (by rw [hc]; decide) (by rw [hc]; decide) (by rw [hc]; decide) (by decide) ?_
    refine sx_aload_n C0 dX6_count_59 rfl (lv_at hl 0 rfl) ?_
    refine gf_X6_33 C0 is6 dX6_count_60 ?_
    refine gf_X6_167 C0 is6_village.1 dX6_count_63 ?_
    refine gf_X6_200 C0 is6_village.2.2.1.1 dX6_count_66 ?_
    exact sx_iret C0 rfl rfl trivial dX6_count_69
  refine sx_case (fun hc => ?_) (fun hn2 => ?_)
  · refine sx_tableIn (off := 69) (tgt := 70) C0 dX6_count_1 (by rw [hc]; decide) (by rw [hc]; decide) (by rw [hc]; decide) (by decide) ?_
    refine sx_aload_n C0 dX6_count_70 rfl (lv_at hl 0 rfl) ?_
    refine gf_X6_33 C0 is6 dX6_count_71 ?_
    refine gf_X6_167 C0 is6_village.1 dX6_count_74 ?_
    refine gf_X6_329 C0 is6_village.2.2.1.1 dX6_count_77 ?_
    refine cv_X6_314 (As := [.int (S.1 (30 + 11) 1)]) C0 (c_J6_bitCount_0f7a4 C0.2.2.2.2.2.2.2.1 (S.1 (30 + 11) 1) S) ⟨rfl, rfl⟩ ⟨Nat.le_of_ble_eq_true rfl, Nat.le_of_ble_eq_true rfl⟩ rfl hl.1 (Nat.le_of_ble_eq_true rfl) rfl dX6_count_80 (fun _ => ?_)
    exact sx_iret C0 rfl rfl trivial dX6_count_83
  refine sx_case (fun hc => ?_) (fun hn3 => ?_)
  · refine sx_tableIn (off := 83) (tgt := 84) C0 dX6_count_1 (by rw [hc]; decide) (by rw [hc]; decide) (by rw [hc]; decide) (by decide) ?_
    refine sx_aload_n C0 dX6_count_84 rfl (lv_at hl 0 rfl) ?_
    refine gf_X6_33 C0 is6 dX6_count_85 ?_
    refine gf_X6_149 C0 is6_village.1 dX6_count_88 ?_
    refine sx_iconst (v := 2) C0 dX6_count_91 (by decide) ?_
    refine sw_bind (fun a92 e92 => ?_)
    refine cv_X6_332 (As := [.int (2 : Int32)]) C0 (c_X0_howManyOfKind C0.2.2.2.2.2.2.2.1 (30 + 1) is6_village.2.1 (2 : Int32) S _ e92) is6_village.2.1.1 ⟨rfl, rfl⟩ ⟨Nat.le_of_ble_eq_true rfl, Nat.le_of_ble_eq_true rfl⟩ rfl hl.1 (Nat.le_of_ble_eq_true rfl) rfl dX6_count_92 (fun _ => ?_)
    exact sx_iret C0 rfl rfl trivial dX6_count_95
  refine sx_case (fun hc => ?_) (fun hn4 => ?_)
  · refine sx_tableIn (off := 95) (tgt := 96) C0 dX6_count_1 (by rw [hc]; decide) (by rw [hc]; decide) (by rw [hc]; decide) (by decide) ?_
    refine sx_aload_n C0 dX6_count_96 rfl (lv_at hl 0 rfl) ?_
    refine gf_X6_33 C0 is6 dX6_count_97 ?_
    refine gf_X6_149 C0 is6_village.1 dX6_count_100 ?_
    refine sx_iconst (v := 3) C0 dX6_count_103 (by decide) ?_
    refine sw_bind (fun a104 e104 => ?_)
    refine cv_X6_332 (As := [.int (3 : Int32)]) C0 (c_X0_howManyOfKind C0.2.2.2.2.2.2.2.1 (30 + 1) is6_village.2.1 (3 : Int32) S _ e104) is6_village.2.1.1 ⟨rfl, rfl⟩ ⟨Nat.le_of_ble_eq_true rfl, Nat.le_of_ble_eq_true rfl⟩ rfl hl.1 (Nat.le_of_ble_eq_true rfl) rfl dX6_count_104 (fun _ => ?_)
    exact sx_iret C0 rfl rfl trivial dX6_count_107
  refine sx_case (fun hc => ?_) (fun hn5 => ?_)
  · refine sx_tableIn (off := 107) (tgt := 108) C0 dX6_count_1 (by rw [hc]; decide) (by rw [hc]; decide) (by rw [hc]; decide) (by decide) ?_
    refine sx_aload_n C0 dX6_count_108 rfl (lv_at hl 0 rfl) ?_
    refine sw_bind (fun a109 e109 => ?_)
    refine cv_X6_335 (As := []) C0 (c_X6_howManyKept C0.2.2.2.2.2.2.2.1 S _ e109) is6 ⟨rfl, rfl⟩ ⟨Nat.le_of_ble_eq_true rfl, Nat.le_of_ble_eq_true rfl⟩ rfl hl.1 (Nat.le_of_ble_eq_true rfl) rfl dX6_count_109 (fun _ => ?_)
    exact sx_iret C0 rfl rfl trivial dX6_count_112
  refine sx_case (fun hc => ?_) (fun hn6 => ?_)
  · refine sx_tableIn (off := 112) (tgt := 113) C0 dX6_count_1 (by rw [hc]; decide) (by rw [hc]; decide) (by rw [hc]; decide) (by decide) ?_
    refine sx_aload_n C0 dX6_count_113 rfl (lv_at hl 0 rfl) ?_
    refine gf_X6_16 C0 is6 dX6_count_114 ?_
    refine sw_bind (fun a117 e117 => ?_)
    refine cv_X6_338 (As := []) C0 (c_X4_howManyThere C0.2.2.2.2.2.2.2.1 1 6 is6_rows S _ e117) is6_rows.1 ⟨rfl, rfl⟩ ⟨Nat.le_of_ble_eq_true rfl, Nat.le_of_ble_eq_true rfl⟩ rfl hl.1 (Nat.le_of_ble_eq_true rfl) rfl dX6_count_117 (fun _ => ?_)
    exact sx_iret C0 rfl rfl trivial dX6_count_120
  refine sx_case (fun hc => ?_) (fun hn7 => ?_)
  · refine sx_tableIn (off := 120) (tgt := 121) C0 dX6_count_1 (by rw [hc]; decide) (by rw [hc]; decide) (by rw [hc]; decide) (by decide) ?_
    refine sx_aload_n C0 dX6_count_121 rfl (lv_at hl 0 rfl) ?_
    refine gf_X6_20 C0 is6 dX6_count_122 ?_
    refine sw_bind (fun a125 e125 => ?_)
    refine cv_X6_338 (As := []) C0 (c_X4_howManyThere C0.2.2.2.2.2.2.2.1 10 4 is6_texts S _ e125) is6_texts.1 ⟨rfl, rfl⟩ ⟨Nat.le_of_ble_eq_true rfl, Nat.le_of_ble_eq_true rfl⟩ rfl hl.1 (Nat.le_of_ble_eq_true rfl) rfl dX6_count_125 (fun _ => ?_)
    exact sx_iret C0 rfl rfl trivial dX6_count_128
  refine sw_have (pc2 := 129) (st2 := []) ?_ (fun hdf => ?_)
  · refine sx_iconst (v := (-1)) C0 dX6_count_129 (by decide) ?_
    exact sx_iret C0 rfl rfl trivial dX6_count_130
  by_cases hlo : (v1).toInt < 0
  · exact sx_tableOut (tgt := 129) C0 dX6_count_1 (Or.inl hlo) (by decide) hdf
  by_cases hhi : 7 < (v1).toInt
  · exact sx_tableOut (tgt := 129) C0 dX6_count_1 (Or.inr hhi) (by decide) hdf
  have ht0 : (v1).toInt ≠ 0 := fun h => hn0 (Int32.toInt_inj.mp (h.trans (by decide)))
  have ht1 : (v1).toInt ≠ 1 := fun h => hn1 (Int32.toInt_inj.mp (h.trans (by decide)))
  have ht2 : (v1).toInt ≠ 2 := fun h => hn2 (Int32.toInt_inj.mp (h.trans (by decide)))
  have ht3 : (v1).toInt ≠ 3 := fun h => hn3 (Int32.toInt_inj.mp (h.trans (by decide)))
  have ht4 : (v1).toInt ≠ 4 := fun h => hn4 (Int32.toInt_inj.mp (h.trans (by decide)))
  have ht5 : (v1).toInt ≠ 5 := fun h => hn5 (Int32.toInt_inj.mp (h.trans (by decide)))
  have ht6 : (v1).toInt ≠ 6 := fun h => hn6 (Int32.toInt_inj.mp (h.trans (by decide)))
  have ht7 : (v1).toInt ≠ 7 := fun h => hn7 (Int32.toInt_inj.mp (h.trans (by decide)))
  exfalso
  omega
abbrev rm_X6_finding : Room := { frames := 0, cells := 0, slots := 0, locals := 0 }
def mX6_finding (S : vS)  : Int32 := (S.1 0 10)
set_option maxHeartbeats 4000000 in
set_option maxRecDepth 100000 in
theorem c_X6_finding {l : Launch} {D : va_G} {cA : Nat → ClassId} {ad : Nat → Nat} {kl : Nat} (G : Gx shC ad (ExC ad kl))  (S : vS) : Met l yX6_finding (Cond.code yX6_finding cX6_finding 1 (some .int) :: ALL) rm_X6_finding (Po D vwCl tlC shC cA ad (ExC ad kl) [.ref (ad 0)] S) (Qo D vwCl shC cA ad (some (.int (mX6_finding S))) S True) 0 0 (aw shC ad) := by
  refine Met.sx (M := some (mX6_finding S)) (rv := (fun r => some (.int r) : Int32 → Option Value)) (rs := fun _ => S) (B := fun _ => True) (by decide) ⟨rfl, rfl⟩ (Nat.le_of_ble_eq_true rfl) G (fun p e s m args below meth c C0 ls hl => ?_) rfl
  have hl : lv_has ls 1 [(0, .ref (ad 0))] := hl
  rw [mX6_finding]
  refine sx_aload_n C0 dX6_finding_0 rfl (lv_at hl 0 rfl) ?_
  refine gf_X6_69 C0 is6 dX6_finding_1 ?_
  exact sx_iret C0 rfl rfl trivial dX6_finding_4
abbrev rm_X6_findings : Room := { frames := 0, cells := 0, slots := 0, locals := 0 }
def mX6_findings (S : vS) (v1 : Int32) : Option Int32 := (if v1 < (1 : Int32) then (some (-1 : Int32)) else (if v1 ≤ (5 : Int32) then ((gI (S.1 134) 6 v1).bind fun a17 => (some a17)) else (some (-1 : Int32))))
set_option maxHeartbeats 4000000 in
set_option maxRecDepth 100000 in
theorem c_X6_findings {l : Launch} {D : va_G} {cA : Nat → ClassId} {ad : Nat → Nat} {kl : Nat} (G : Gx shC ad (ExC ad kl)) (v1 : Int32) (S : vS) (r : Int32) (hr : (mX6_findings S v1) = some r) : Met l yX6_findings (Cond.code yX6_findings cX6_findings 2 (some .int) :: ALL) rm_X6_findings (Po D vwCl tlC shC cA ad (ExC ad kl) [.ref (ad 0), .int v1] S) (Qo D vwCl shC cA ad (some (.int r)) S True) 0 0 (aw shC ad) := by
  refine Met.sx (M := (mX6_findings S v1)) (rv := (fun r => some (.int r) : Int32 → Option Value)) (rs := fun _ => S) (B := fun _ => True) (by decide) ⟨rfl, rfl⟩ (Nat.le_of_ble_eq_true rfl) G (fun p e s m args below meth c C0 ls hl => ?_) hr
  have hl : lv_has ls 2 [(0, .ref (ad 0)), (1, .int v1)] := hl
  rw [mX6_findings]
  refine sx_iload_n C0 dX6_findings_0 rfl (lv_at hl 1 rfl) ?_
  refine sx_iconst (v := 1) C0 dX6_findings_1 (by decide) ?_
  refine sx_icmp_lt (tgt := 10) C0 dX6_findings_2 (by decide) (fun _ => ?_) (fun _ => ?_)
  · refine sx_iconst (v := (-1)) C0 dX6_findings_10 (by decide) ?_
    exact sx_iret C0 rfl rfl trivial dX6_findings_11
  · refine sx_iload_n C0 dX6_findings_5 rfl (lv_at hl 1 rfl) ?_
    refine sx_iconst (v := 5) C0 dX6_findings_6 (by decide) ?_
    refine sx_icmp_le (tgt := 12) C0 dX6_findings_7 (by decide) (fun _ => ?_) (fun _ => ?_)
    · refine sx_aload_n C0 dX6_findings_12 rfl (lv_at hl 0 rfl) ?_
      refine gf_X6_66 C0 is6 dX6_findings_13 ?_
      refine sx_iload_n C0 dX6_findings_16 rfl (lv_at hl 1 rfl) ?_
      refine sx_iald C0 is6_findingCounts rfl dX6_findings_17 (fun a17 => ?_)
      exact sx_iret C0 rfl rfl trivial dX6_findings_18
    · refine sx_iconst (v := (-1)) C0 dX6_findings_10 (by decide) ?_
      exact sx_iret C0 rfl rfl trivial dX6_findings_11
abbrev rm_X6_digest : Room := { frames := 5, cells := 0, slots := 0, locals := 113 }
def bX6_digest_262   (K220 : Int64 → Int32 → Option Int64) (S : vS) (v3 : Int32) (t0 : Int32) (t1 : Int64) : Option Int64 := (lt (t1 + (Int32.toInt64 t0)) fun v1_264 => (K220 v1_264 (v3 + (1 : Int32))))
set_option maxHeartbeats 4000000 in
set_option maxRecDepth 100000 in
theorem bX6_digest_262_t {p : Program} {l : Launch} {e : Env} {s : State} {m : MethodId} {args : Array Value} {below : List Frame} {meth : Method} {c : Code} {D : va_G} {cA : Nat → ClassId} {ad : Nat → Nat} {kl : Nat} {K220 : Int64 → Int32 → Option Int64}  (C0 : Cx D vwCl tlC shC cA ad (ExC ad kl) RX6 cX6_digest 5 (some .long) p s m args meth c)  (S : vS) (v3 : Int32) (t0 : Int32) (t1 : Int64) (hK220 : ∀ (v1 : Int64) (v3 : Int32) (ls : Array Slot), lv_has ls 5 [(0, .ref (ad 0)), (1, .long v1), (3, .int v3)] → SW p l e rm_X6_digest s m args below meth c D vwCl shC cA ad (Fq D vwCl shC cA ad below args s (fun r => some (.long r) : Int64 → Option Value) (fun _ => S) (fun _ => True)) (K220 v1 v3) S 220 ls []) (ls : Array Slot) (hl : lv_has ls 5 [(0, .ref (ad 0)), (3, .int v3)]) : SW p l e rm_X6_digest s m args below meth c D vwCl shC cA ad (Fq D vwCl shC cA ad below args s (fun r => some (.long r) : Int64 → Option Value) (fun _ => S) (fun _ => True)) (bX6_digest_262 K220 S v3 t0 t1) S 262 ls [.int t0, .long t1] := by
  rw [bX6_digest_262]
  refine sx_i2l C0 dX6_digest_262 ?_
  refine sx_ladd C0 dX6_digest_263 ?_
  refine sw_lt (val := .long) (fun v1_264 => ?_)
  refine sx_lstore_n (lv' := [(1, .long v1_264), (0, .ref (ad 0)), (3, .int v3)]) C0 dX6_digest_264 rfl hl (by decide) rfl (fun ls hl => ?_)
  refine sx_iinc (v := (v3 + (1 : Int32))) (lv' := [(3, .int (v3 + (1 : Int32))), (1, .long v1_264), (0, .ref (ad 0))]) C0 dX6_digest_265 hl (k := 2) rfl rfl (by decide) rfl (fun ls hl => ?_)
  refine sx_goto (tgt := 220) C0 dX6_digest_268 (by decide) ?_
  exact hK220 _ _ _ (lv_sub hl [2, 1, 0] rfl)
def bX6_digest_271    (S : vS) (v1 : Int64)  : Option Int64 := ((mX4_digestOnto S 1 6 v1).bind fun a280 => ((mX4_digestOnto S 10 4 a280).bind fun a283 => (some a283)))
set_option maxHeartbeats 4000000 in
set_option maxRecDepth 100000 in
theorem bX6_digest_271_t {p : Program} {l : Launch} {e : Env} {s : State} {m : MethodId} {args : Array Value} {below : List Frame} {meth : Method} {c : Code} {D : va_G} {cA : Nat → ClassId} {ad : Nat → Nat} {kl : Nat}   (C0 : Cx D vwCl tlC shC cA ad (ExC ad kl) RX6 cX6_digest 5 (some .long) p s m args meth c)  (S : vS) (v1 : Int64) (ls : Array Slot) (hl : lv_has ls 5 [(0, .ref (ad 0)), (1, .long v1)]) : SW p l e rm_X6_digest s m args below meth c D vwCl shC cA ad (Fq D vwCl shC cA ad below args s (fun r => some (.long r) : Int64 → Option Value) (fun _ => S) (fun _ => True)) (bX6_digest_271 S v1) S 271 ls [] := by
  rw [bX6_digest_271]
  refine sx_aload_n C0 dX6_digest_271 rfl (lv_at hl 0 rfl) ?_
  refine gf_X6_20 C0 is6 dX6_digest_272 ?_
  refine sx_aload_n C0 dX6_digest_275 rfl (lv_at hl 0 rfl) ?_
  refine gf_X6_16 C0 is6 dX6_digest_276 ?_
  refine sx_lload_n C0 dX6_digest_279 rfl (lv_at hl 1 rfl) ?_
  refine sw_bind (fun a280 e280 => ?_)
  refine cv_X6_348 (As := [.long v1]) C0 (c_X4_digestOnto C0.2.2.2.2.2.2.2.1 1 6 is6_rows v1 S _ e280) is6_rows.1 ⟨rfl, rfl⟩ ⟨Nat.le_of_ble_eq_true rfl, Nat.le_of_ble_eq_true rfl⟩ rfl hl.1 (Nat.le_of_ble_eq_true rfl) rfl dX6_digest_280 (fun _ => ?_)
  refine sw_bind (fun a283 e283 => ?_)
  refine cv_X6_348 (As := [.long a280]) C0 (c_X4_digestOnto C0.2.2.2.2.2.2.2.1 10 4 is6_texts a280 S _ e283) is6_texts.1 ⟨rfl, rfl⟩ ⟨Nat.le_of_ble_eq_true rfl, Nat.le_of_ble_eq_true rfl⟩ rfl hl.1 (Nat.le_of_ble_eq_true rfl) rfl dX6_digest_283 (fun _ => ?_)
  exact sx_lret C0 rfl rfl trivial dX6_digest_286
def lX6_digest_220  (S : vS)   : Nat → Int64 → Int32 → Option Int64
  | 0, _, _ => none
  | n + 1, v1, v3 => (if (3 : Int32) ≤ v3 then (bX6_digest_271 S v1) else ((aI [47, 63, 79] v3).bind fun x239 => (if (S.1 x239 2) = 0 then (bX6_digest_262 (lX6_digest_220 S n) S v3 (-1 : Int32) ((31 : Int64) * v1)) else ((aI [47, 63, 79] v3).bind fun x251 => (bX6_digest_262 (lX6_digest_220 S n) S v3 (S.1 (x251 + 11) 0) ((31 : Int64) * v1))))))
set_option maxHeartbeats 4000000 in
set_option maxRecDepth 100000 in
theorem lX6_digest_220_t {p : Program} {l : Launch} {e : Env} {s : State} {m : MethodId} {args : Array Value} {below : List Frame} {meth : Method} {c : Code} {D : va_G} {cA : Nat → ClassId} {ad : Nat → Nat} {kl : Nat}   (C0 : Cx D vwCl tlC shC cA ad (ExC ad kl) RX6 cX6_digest 5 (some .long) p s m args meth c)  (S : vS)   : ∀ (n : Nat) (v1 : Int64) (v3 : Int32) (ls : Array Slot), lv_has ls 5 [(0, .ref (ad 0)), (1, .long v1), (3, .int v3)] → SW p l e rm_X6_digest s m args below meth c D vwCl shC cA ad (Fq D vwCl shC cA ad below args s (fun r => some (.long r) : Int64 → Option Value) (fun _ => S) (fun _ => True)) (lX6_digest_220 S n v1 v3) S 220 ls [] := by
  intro n
  induction n with
  | zero =>
    intro v1 v3 ls hl
    rw [lX6_digest_220]
    exact sw_none
  | succ n ih =>
    intro v1 v3 ls hl
    rw [lX6_digest_220]
    refine sx_iload_n C0 dX6_digest_220 rfl (lv_at hl 2 rfl) ?_
    refine sx_aload_n C0 dX6_digest_221 rfl (lv_at hl 0 rfl) ?_
    refine gf_X6_37 C0 is6 dX6_digest_222 ?_
    refine sx_alenR (v := (3 : Int32)) C0 is6_keptOnes rfl rfl dX6_digest_225 ?_
    refine sx_icmp_ge (tgt := 271) C0 dX6_digest_226 (by decide) (fun _ => ?_) (fun _ => ?_)
    · exact bX6_digest_271_t C0 _ _ _ (lv_sub hl [0, 1] rfl)
    · refine sx_ldc2 C0 wk_X6_343 dX6_digest_229 ?_
      refine sx_lload_n C0 dX6_digest_232 rfl (lv_at hl 1 rfl) ?_
      refine sx_lmul C0 dX6_digest_233 ?_
      refine sx_aload_n C0 dX6_digest_234 rfl (lv_at hl 0 rfl) ?_
      refine gf_X6_37 C0 is6 dX6_digest_235 ?_
      refine sx_iload_n C0 dX6_digest_238 rfl (lv_at hl 2 rfl) ?_
      refine sx_aald C0 is6_keptOnes rfl rfl dX6_digest_239 (fun x239 hx239 => ?_)
      refine gf_X6_145 C0 (is6_keptOnesE x239 hx239).1 dX6_digest_240 ?_
      refine sx_if_eq (tgt := 261) C0 dX6_digest_243 (by decide) (fun _ => ?_) (fun _ => ?_)
      · refine sx_iconst (v := (-1)) C0 dX6_digest_261 (by decide) ?_
        exact bX6_digest_262_t C0 _ _ _ _ ih _ (lv_sub hl [0, 2] rfl)
      · refine sx_aload_n C0 dX6_digest_246 rfl (lv_at hl 0 rfl) ?_
        refine gf_X6_37 C0 is6 dX6_digest_247 ?_
        refine sx_iload_n C0 dX6_digest_250 rfl (lv_at hl 2 rfl) ?_
        refine sx_aald C0 is6_keptOnes rfl rfl dX6_digest_251 (fun x251 hx251 => ?_)
        refine gf_X6_167 C0 (is6_keptOnesE x251 hx251).1 dX6_digest_252 ?_
        refine gf_X6_200 C0 (is6_keptOnesE x251 hx251).2.2.1.1 dX6_digest_255 ?_
        refine sx_goto (tgt := 262) C0 dX6_digest_258 (by decide) ?_
        exact bX6_digest_262_t C0 _ _ _ _ ih _ (lv_sub hl [0, 2] rfl)
def bX6_digest_218    (S : vS) (v1 : Int64)  : Option Int64 := (lX6_digest_220 S FU v1 (0 : Int32))
set_option maxHeartbeats 4000000 in
set_option maxRecDepth 100000 in
theorem bX6_digest_218_t {p : Program} {l : Launch} {e : Env} {s : State} {m : MethodId} {args : Array Value} {below : List Frame} {meth : Method} {c : Code} {D : va_G} {cA : Nat → ClassId} {ad : Nat → Nat} {kl : Nat}   (C0 : Cx D vwCl tlC shC cA ad (ExC ad kl) RX6 cX6_digest 5 (some .long) p s m args meth c)  (S : vS) (v1 : Int64) (ls : Array Slot) (hl : lv_has ls 5 [(0, .ref (ad 0)), (1, .long v1)]) : SW p l e rm_X6_digest s m args below meth c D vwCl shC cA ad (Fq D vwCl shC cA ad below args s (fun r => some (.long r) : Int64 → Option Value) (fun _ => S) (fun _ => True)) (bX6_digest_218 S v1) S 218 ls [] := by
  rw [bX6_digest_218]
  refine sx_iconst (v := 0) C0 dX6_digest_218 (by decide) ?_
  refine sx_istore_n (lv' := [(3, .int (0 : Int32)), (0, .ref (ad 0)), (1, .long v1)]) C0 dX6_digest_219 rfl hl (by decide) rfl (fun ls hl => ?_)
  exact lX6_digest_220_t C0 _ _ _ _ _ (lv_sub hl [1, 2, 0] rfl)
def lX6_digest_182  (S : vS)   : Nat → Int64 → Int32 → Option Int64
  | 0, _, _ => none
  | n + 1, v1, v3 => (if (S.1 (30 + 11) 0) ≤ v3 then (bX6_digest_218 S v1) else ((mX5_offeringOn S 30 v3).bind fun a206 => (lt (((31 : Int64) * v1) + (Int32.toInt64 a206)) fun v1_211 => ((lX6_digest_182 S n) v1_211 (v3 + (1 : Int32))))))
set_option maxHeartbeats 4000000 in
set_option maxRecDepth 100000 in
theorem lX6_digest_182_t {p : Program} {l : Launch} {e : Env} {s : State} {m : MethodId} {args : Array Value} {below : List Frame} {meth : Method} {c : Code} {D : va_G} {cA : Nat → ClassId} {ad : Nat → Nat} {kl : Nat}   (C0 : Cx D vwCl tlC shC cA ad (ExC ad kl) RX6 cX6_digest 5 (some .long) p s m args meth c)  (S : vS)   : ∀ (n : Nat) (v1 : Int64) (v3 : Int32) (ls : Array Slot), lv_has ls 5 [(0, .ref (ad 0)), (1, .long v1), (3, .int v3)] → SW p l e rm_X6_digest s m args below meth c D vwCl shC cA ad (Fq D vwCl shC cA ad below args s (fun r => some (.long r) : Int64 → Option Value) (fun _ => S) (fun _ => True)) (lX6_digest_182 S n v1 v3) S 182 ls [] := by
  intro n
  induction n with
  | zero =>
    intro v1 v3 ls hl
    rw [lX6_digest_182]
    exact sw_none
  | succ n ih =>
    intro v1 v3 ls hl
    rw [lX6_digest_182]
    refine sx_iload_n C0 dX6_digest_182 rfl (lv_at hl 2 rfl) ?_
    refine sx_aload_n C0 dX6_digest_183 rfl (lv_at hl 0 rfl) ?_
    refine gf_X6_33 C0 is6 dX6_digest_184 ?_
    refine gf_X6_167 C0 is6_village.1 dX6_digest_187 ?_
    refine gf_X6_200 C0 is6_village.2.2.1.1 dX6_digest_190 ?_
    refine sx_icmp_ge (tgt := 218) C0 dX6_digest_193 (by decide) (fun _ => ?_) (fun _ => ?_)
    · exact bX6_digest_218_t C0 _ _ _ (lv_sub hl [0, 1] rfl)
    · refine sx_ldc2 C0 wk_X6_343 dX6_digest_196 ?_
      refine sx_lload_n C0 dX6_digest_199 rfl (lv_at hl 1 rfl) ?_
      refine sx_lmul C0 dX6_digest_200 ?_
      refine sx_aload_n C0 dX6_digest_201 rfl (lv_at hl 0 rfl) ?_
      refine gf_X6_33 C0 is6 dX6_digest_202 ?_
      refine sx_iload_n C0 dX6_digest_205 rfl (lv_at hl 2 rfl) ?_
      refine sw_bind (fun a206 e206 => ?_)
      refine cv_X6_209 (As := [.int v3]) C0 (c_X5_offeringOn C0.2.2.2.2.2.2.2.1 30 is6_village v3 S _ e206) is6_village.1 ⟨rfl, rfl⟩ ⟨Nat.le_of_ble_eq_true rfl, Nat.le_of_ble_eq_true rfl⟩ rfl hl.1 (Nat.le_of_ble_eq_true rfl) rfl dX6_digest_206 (fun _ => ?_)
      refine sx_i2l C0 dX6_digest_209 ?_
      refine sx_ladd C0 dX6_digest_210 ?_
      refine sw_lt (val := .long) (fun v1_211 => ?_)
      refine sx_lstore_n (lv' := [(1, .long v1_211), (0, .ref (ad 0)), (3, .int v3)]) C0 dX6_digest_211 rfl hl (by decide) rfl (fun ls hl => ?_)
      refine sx_iinc (v := (v3 + (1 : Int32))) (lv' := [(3, .int (v3 + (1 : Int32))), (1, .long v1_211), (0, .ref (ad 0))]) C0 dX6_digest_212 hl (k := 2) rfl rfl (by decide) rfl (fun ls hl => ?_)
      refine sx_goto (tgt := 182) C0 dX6_digest_215 (by decide) ?_
      exact ih _ _ _ (lv_sub hl [2, 1, 0] rfl)
def bX6_digest_144    (S : vS) (v1 : Int64)  : Option Int64 := (lt (((31 : Int64) * v1) + (Int32.toInt64 (S.1 (30 + 11) 3))) fun v1_161 => (lt (((31 : Int64) * v1_161) + (Int32.toInt64 (S.1 (30 + 11) 4))) fun v1_179 => (lX6_digest_182 S FU v1_179 (0 : Int32))))
set_option maxHeartbeats 4000000 in
set_option maxRecDepth 100000 in
theorem bX6_digest_144_t {p : Program} {l : Launch} {e : Env} {s : State} {m : MethodId} {args : Array Value} {below : List Frame} {meth : Method} {c : Code} {D : va_G} {cA : Nat → ClassId} {ad : Nat → Nat} {kl : Nat}   (C0 : Cx D vwCl tlC shC cA ad (ExC ad kl) RX6 cX6_digest 5 (some .long) p s m args meth c)  (S : vS) (v1 : Int64) (ls : Array Slot) (hl : lv_has ls 5 [(0, .ref (ad 0)), (1, .long v1)]) : SW p l e rm_X6_digest s m args below meth c D vwCl shC cA ad (Fq D vwCl shC cA ad below args s (fun r => some (.long r) : Int64 → Option Value) (fun _ => S) (fun _ => True)) (bX6_digest_144 S v1) S 144 ls [] := by
  rw [bX6_digest_144]
  refine sx_ldc2 C0 wk_X6_343 dX6_digest_144 ?_
  refine sx_lload_n C0 dX6_digest_147 rfl (lv_at hl 1 rfl) ?_
  refine sx_lmul C0 dX6_digest_148 ?_
  refine sx_aload_n C0 dX6_digest_149 rfl (lv_at hl 0 rfl) ?_
  refine gf_X6_33 C0 is6 dX6_digest_150 ?_
  refine gf_X6_167 C0 is6_village.1 dX6_digest_153 ?_
  refine gf_X6_218 C0 is6_village.2.2.1.1 dX6_digest_156 ?_
  refine sx_i2l C0 dX6_digest_159 ?_
  refine sx_ladd C0 dX6_digest_160 ?_
  refine sw_lt (val := .long) (fun v1_161 => ?_)
  refine sx_lstore_n (lv' := [(1, .long v1_161), (0, .ref (ad 0))]) C0 dX6_digest_161 rfl hl (by decide) rfl (fun ls hl => ?_)
  refine sx_ldc2 C0 wk_X6_343 dX6_digest_162 ?_
  refine sx_lload_n C0 dX6_digest_165 rfl (lv_at hl 0 rfl) ?_
  refine sx_lmul C0 dX6_digest_166 ?_
  refine sx_aload_n C0 dX6_digest_167 rfl (lv_at hl 1 rfl) ?_
  refine gf_X6_33 C0 is6 dX6_digest_168 ?_
  refine gf_X6_167 C0 is6_village.1 dX6_digest_171 ?_
  refine gf_X6_215 C0 is6_village.2.2.1.1 dX6_digest_174 ?_
  refine sx_i2l C0 dX6_digest_177 ?_
  refine sx_ladd C0 dX6_digest_178 ?_
  refine sw_lt (val := .long) (fun v1_179 => ?_)
  refine sx_lstore_n (lv' := [(1, .long v1_179), (0, .ref (ad 0))]) C0 dX6_digest_179 rfl hl (by decide) rfl (fun ls hl => ?_)
  refine sx_iconst (v := 0) C0 dX6_digest_180 (by decide) ?_
  refine sx_istore_n (lv' := [(3, .int (0 : Int32)), (1, .long v1_179), (0, .ref (ad 0))]) C0 dX6_digest_181 rfl hl (by decide) rfl (fun ls hl => ?_)
  exact lX6_digest_182_t C0 _ _ _ _ _ (lv_sub hl [2, 1, 0] rfl)
def bX6_digest_135   (K66 : Int64 → Int32 → Option Int64) (S : vS) (v3 : Int32) (t0 : Int32) (t1 : Int64) : Option Int64 := (lt (t1 + (Int32.toInt64 t0)) fun v1_137 => (K66 v1_137 (v3 + (1 : Int32))))
set_option maxHeartbeats 4000000 in
set_option maxRecDepth 100000 in
theorem bX6_digest_135_t {p : Program} {l : Launch} {e : Env} {s : State} {m : MethodId} {args : Array Value} {below : List Frame} {meth : Method} {c : Code} {D : va_G} {cA : Nat → ClassId} {ad : Nat → Nat} {kl : Nat} {K66 : Int64 → Int32 → Option Int64}  (C0 : Cx D vwCl tlC shC cA ad (ExC ad kl) RX6 cX6_digest 5 (some .long) p s m args meth c)  (S : vS) (v3 : Int32) (t0 : Int32) (t1 : Int64) (hK66 : ∀ (v1 : Int64) (v3 : Int32) (ls : Array Slot), lv_has ls 5 [(0, .ref (ad 0)), (1, .long v1), (3, .int v3)] → SW p l e rm_X6_digest s m args below meth c D vwCl shC cA ad (Fq D vwCl shC cA ad below args s (fun r => some (.long r) : Int64 → Option Value) (fun _ => S) (fun _ => True)) (K66 v1 v3) S 66 ls []) (ls : Array Slot) (hl : lv_has ls 5 [(0, .ref (ad 0)), (3, .int v3)]) : SW p l e rm_X6_digest s m args below meth c D vwCl shC cA ad (Fq D vwCl shC cA ad below args s (fun r => some (.long r) : Int64 → Option Value) (fun _ => S) (fun _ => True)) (bX6_digest_135 K66 S v3 t0 t1) S 135 ls [.int t0, .long t1] := by
  rw [bX6_digest_135]
  refine sx_i2l C0 dX6_digest_135 ?_
  refine sx_ladd C0 dX6_digest_136 ?_
  refine sw_lt (val := .long) (fun v1_137 => ?_)
  refine sx_lstore_n (lv' := [(1, .long v1_137), (0, .ref (ad 0)), (3, .int v3)]) C0 dX6_digest_137 rfl hl (by decide) rfl (fun ls hl => ?_)
  refine sx_iinc (v := (v3 + (1 : Int32))) (lv' := [(3, .int (v3 + (1 : Int32))), (1, .long v1_137), (0, .ref (ad 0))]) C0 dX6_digest_138 hl (k := 2) rfl rfl (by decide) rfl (fun ls hl => ?_)
  refine sx_goto (tgt := 66) C0 dX6_digest_141 (by decide) ?_
  exact hK66 _ _ _ (lv_sub hl [2, 1, 0] rfl)
def bX6_digest_111   (K66 : Int64 → Int32 → Option Int64) (S : vS) (v1 : Int64) (v3 : Int32)  : Option Int64 := (if (mX3_wasEverFed S (30 + 11) v3) = 0 then (bX6_digest_135 K66 S v3 (0 : Int32) ((31 : Int64) * v1)) else (bX6_digest_135 K66 S v3 (1 : Int32) ((31 : Int64) * v1)))
set_option maxHeartbeats 4000000 in
set_option maxRecDepth 100000 in
theorem bX6_digest_111_t {p : Program} {l : Launch} {e : Env} {s : State} {m : MethodId} {args : Array Value} {below : List Frame} {meth : Method} {c : Code} {D : va_G} {cA : Nat → ClassId} {ad : Nat → Nat} {kl : Nat} {K66 : Int64 → Int32 → Option Int64}  (C0 : Cx D vwCl tlC shC cA ad (ExC ad kl) RX6 cX6_digest 5 (some .long) p s m args meth c)  (S : vS) (v1 : Int64) (v3 : Int32) (hK66 : ∀ (v1 : Int64) (v3 : Int32) (ls : Array Slot), lv_has ls 5 [(0, .ref (ad 0)), (1, .long v1), (3, .int v3)] → SW p l e rm_X6_digest s m args below meth c D vwCl shC cA ad (Fq D vwCl shC cA ad below args s (fun r => some (.long r) : Int64 → Option Value) (fun _ => S) (fun _ => True)) (K66 v1 v3) S 66 ls []) (ls : Array Slot) (hl : lv_has ls 5 [(0, .ref (ad 0)), (1, .long v1), (3, .int v3)]) : SW p l e rm_X6_digest s m args below meth c D vwCl shC cA ad (Fq D vwCl shC cA ad below args s (fun r => some (.long r) : Int64 → Option Value) (fun _ => S) (fun _ => True)) (bX6_digest_111 K66 S v1 v3) S 111 ls [] := by
  rw [bX6_digest_111]
  refine sx_ldc2 C0 wk_X6_343 dX6_digest_111 ?_
  refine sx_lload_n C0 dX6_digest_114 rfl (lv_at hl 1 rfl) ?_
  refine sx_lmul C0 dX6_digest_115 ?_
  refine sx_aload_n C0 dX6_digest_116 rfl (lv_at hl 0 rfl) ?_
  refine gf_X6_33 C0 is6 dX6_digest_117 ?_
  refine gf_X6_167 C0 is6_village.1 dX6_digest_120 ?_
  refine sx_iload_n C0 dX6_digest_123 rfl (lv_at hl 2 rfl) ?_
  refine cv_X6_177 (As := [.int v3]) C0 (c_X3_wasEverFed C0.2.2.2.2.2.2.2.1 (30 + 11) is6_village.2.2.1 v3 S) is6_village.2.2.1.1 ⟨rfl, rfl⟩ ⟨Nat.le_of_ble_eq_true rfl, Nat.le_of_ble_eq_true rfl⟩ rfl hl.1 (Nat.le_of_ble_eq_true rfl) rfl dX6_digest_124 (fun hb124 => ?_)
  refine sx_if_eq (tgt := 134) C0 dX6_digest_127 (by decide) (fun _ => ?_) (fun _ => ?_)
  · refine sx_iconst (v := 0) C0 dX6_digest_134 (by decide) ?_
    exact bX6_digest_135_t C0 _ _ _ _ hK66 _ (lv_sub hl [0, 2] rfl)
  · refine sx_iconst (v := 1) C0 dX6_digest_130 (by decide) ?_
    refine sx_goto (tgt := 135) C0 dX6_digest_131 (by decide) ?_
    exact bX6_digest_135_t C0 _ _ _ _ hK66 _ (lv_sub hl [0, 2] rfl)
def lX6_digest_83  (S : vS) (K66 : Int64 → Int32 → Option Int64) (v3 : Int32) : Nat → Int64 → Int32 → Option Int64
  | 0, _, _ => none
  | n + 1, v1, v4 => (if (6 : Int32) < v4 then (bX6_digest_111 K66 S v1 v3) else ((mX6_traitOf S v3 v4).bind fun a99 => (lt (((31 : Int64) * v1) + (Int32.toInt64 a99)) fun v1_104 => ((lX6_digest_83 S K66 v3 n) v1_104 (v4 + (1 : Int32))))))
set_option maxHeartbeats 4000000 in
set_option maxRecDepth 100000 in
theorem lX6_digest_83_t {p : Program} {l : Launch} {e : Env} {s : State} {m : MethodId} {args : Array Value} {below : List Frame} {meth : Method} {c : Code} {D : va_G} {cA : Nat → ClassId} {ad : Nat → Nat} {kl : Nat} {K66 : Int64 → Int32 → Option Int64}  (C0 : Cx D vwCl tlC shC cA ad (ExC ad kl) RX6 cX6_digest 5 (some .long) p s m args meth c)  (S : vS) (v3 : Int32) (hK66 : ∀ (v1 : Int64) (v3 : Int32) (ls : Array Slot), lv_has ls 5 [(0, .ref (ad 0)), (1, .long v1), (3, .int v3)] → SW p l e rm_X6_digest s m args below meth c D vwCl shC cA ad (Fq D vwCl shC cA ad below args s (fun r => some (.long r) : Int64 → Option Value) (fun _ => S) (fun _ => True)) (K66 v1 v3) S 66 ls []) : ∀ (n : Nat) (v1 : Int64) (v4 : Int32) (ls : Array Slot), lv_has ls 5 [(0, .ref (ad 0)), (1, .long v1), (3, .int v3), (4, .int v4)] → SW p l e rm_X6_digest s m args below meth c D vwCl shC cA ad (Fq D vwCl shC cA ad below args s (fun r => some (.long r) : Int64 → Option Value) (fun _ => S) (fun _ => True)) (lX6_digest_83 S K66 v3 n v1 v4) S 83 ls [] := by
  intro n
  induction n with
  | zero =>
    intro v1 v4 ls hl
    rw [lX6_digest_83]
    exact sw_none
  | succ n ih =>
    intro v1 v4 ls hl
    rw [lX6_digest_83]
    refine sx_iload C0 dX6_digest_83 (lv_at hl 3 rfl) ?_
    refine sx_bipush (v := 6) C0 dX6_digest_85 (by decide) ?_
    refine sx_icmp_gt (tgt := 111) C0 dX6_digest_87 (by decide) (fun _ => ?_) (fun _ => ?_)
    · exact bX6_digest_111_t C0 _ _ _ hK66 _ (lv_sub hl [0, 1, 2] rfl)
    · refine sx_ldc2 C0 wk_X6_343 dX6_digest_90 ?_
      refine sx_lload_n C0 dX6_digest_93 rfl (lv_at hl 1 rfl) ?_
      refine sx_lmul C0 dX6_digest_94 ?_
      refine sx_aload_n C0 dX6_digest_95 rfl (lv_at hl 0 rfl) ?_
      refine sx_iload_n C0 dX6_digest_96 rfl (lv_at hl 2 rfl) ?_
      refine sx_iload C0 dX6_digest_97 (lv_at hl 3 rfl) ?_
      refine sw_bind (fun a99 e99 => ?_)
      refine cv_X6_154 (As := [.int v3, .int v4]) C0 (c_X6_traitOf C0.2.2.2.2.2.2.2.1 v3 v4 S _ e99) is6 ⟨rfl, rfl⟩ ⟨Nat.le_of_ble_eq_true rfl, Nat.le_of_ble_eq_true rfl⟩ rfl hl.1 (Nat.le_of_ble_eq_true rfl) rfl dX6_digest_99 (fun _ => ?_)
      refine sx_i2l C0 dX6_digest_102 ?_
      refine sx_ladd C0 dX6_digest_103 ?_
      refine sw_lt (val := .long) (fun v1_104 => ?_)
      refine sx_lstore_n (lv' := [(1, .long v1_104), (0, .ref (ad 0)), (3, .int v3), (4, .int v4)]) C0 dX6_digest_104 rfl hl (by decide) rfl (fun ls hl => ?_)
      refine sx_iinc (v := (v4 + (1 : Int32))) (lv' := [(4, .int (v4 + (1 : Int32))), (1, .long v1_104), (0, .ref (ad 0)), (3, .int v3)]) C0 dX6_digest_105 hl (k := 3) rfl rfl (by decide) rfl (fun ls hl => ?_)
      refine sx_goto (tgt := 83) C0 dX6_digest_108 (by decide) ?_
      exact ih _ _ _ (lv_sub hl [2, 1, 3, 0] rfl)
def lX6_digest_66  (S : vS)   : Nat → Int64 → Int32 → Option Int64
  | 0, _, _ => none
  | n + 1, v1, v3 => (if (S.1 (30 + 1) 0) ≤ v3 then (bX6_digest_144 S v1) else (lX6_digest_83 S (lX6_digest_66 S n) v3 FU v1 (0 : Int32)))
set_option maxHeartbeats 4000000 in
set_option maxRecDepth 100000 in
theorem lX6_digest_66_t {p : Program} {l : Launch} {e : Env} {s : State} {m : MethodId} {args : Array Value} {below : List Frame} {meth : Method} {c : Code} {D : va_G} {cA : Nat → ClassId} {ad : Nat → Nat} {kl : Nat}   (C0 : Cx D vwCl tlC shC cA ad (ExC ad kl) RX6 cX6_digest 5 (some .long) p s m args meth c)  (S : vS)   : ∀ (n : Nat) (v1 : Int64) (v3 : Int32) (ls : Array Slot), lv_has ls 5 [(0, .ref (ad 0)), (1, .long v1), (3, .int v3)] → SW p l e rm_X6_digest s m args below meth c D vwCl shC cA ad (Fq D vwCl shC cA ad below args s (fun r => some (.long r) : Int64 → Option Value) (fun _ => S) (fun _ => True)) (lX6_digest_66 S n v1 v3) S 66 ls [] := by
  intro n
  induction n with
  | zero =>
    intro v1 v3 ls hl
    rw [lX6_digest_66]
    exact sw_none
  | succ n ih =>
    intro v1 v3 ls hl
    rw [lX6_digest_66]
    refine sx_iload_n C0 dX6_digest_66 rfl (lv_at hl 2 rfl) ?_
    refine sx_aload_n C0 dX6_digest_67 rfl (lv_at hl 0 rfl) ?_
    refine gf_X6_33 C0 is6 dX6_digest_68 ?_
    refine gf_X6_149 C0 is6_village.1 dX6_digest_71 ?_
    refine gf_X6_150 C0 is6_village.2.1.1 dX6_digest_74 ?_
    refine sx_icmp_ge (tgt := 144) C0 dX6_digest_77 (by decide) (fun _ => ?_) (fun _ => ?_)
    · exact bX6_digest_144_t C0 _ _ _ (lv_sub hl [0, 1] rfl)
    · refine sx_iconst (v := 0) C0 dX6_digest_80 (by decide) ?_
      refine sx_istore (lv' := [(4, .int (0 : Int32)), (0, .ref (ad 0)), (1, .long v1), (3, .int v3)]) C0 dX6_digest_81 hl (by decide) rfl (fun ls hl => ?_)
      exact lX6_digest_83_t C0 _ _ ih _ _ _ _ (lv_sub hl [1, 2, 3, 0] rfl)
def bX6_digest_64    (S : vS) (v1 : Int64)  : Option Int64 := (lX6_digest_66 S FU v1 (0 : Int32))
set_option maxHeartbeats 4000000 in
set_option maxRecDepth 100000 in
theorem bX6_digest_64_t {p : Program} {l : Launch} {e : Env} {s : State} {m : MethodId} {args : Array Value} {below : List Frame} {meth : Method} {c : Code} {D : va_G} {cA : Nat → ClassId} {ad : Nat → Nat} {kl : Nat}   (C0 : Cx D vwCl tlC shC cA ad (ExC ad kl) RX6 cX6_digest 5 (some .long) p s m args meth c)  (S : vS) (v1 : Int64) (ls : Array Slot) (hl : lv_has ls 5 [(0, .ref (ad 0)), (1, .long v1)]) : SW p l e rm_X6_digest s m args below meth c D vwCl shC cA ad (Fq D vwCl shC cA ad below args s (fun r => some (.long r) : Int64 → Option Value) (fun _ => S) (fun _ => True)) (bX6_digest_64 S v1) S 64 ls [] := by
  rw [bX6_digest_64]
  refine sx_iconst (v := 0) C0 dX6_digest_64 (by decide) ?_
  refine sx_istore_n (lv' := [(3, .int (0 : Int32)), (0, .ref (ad 0)), (1, .long v1)]) C0 dX6_digest_65 rfl hl (by decide) rfl (fun ls hl => ?_)
  exact lX6_digest_66_t C0 _ _ _ _ _ (lv_sub hl [1, 2, 0] rfl)
def lX6_digest_33  (S : vS)   : Nat → Int64 → Int32 → Option Int64
  | 0, _, _ => none
  | n + 1, v1, v3 => (if (3 : Int32) ≤ v3 then (bX6_digest_64 S v1) else ((gI (S.1 ((30 + 11) + 1)) 3 v3).bind fun a54 => (lt (((31 : Int64) * v1) + (Int32.toInt64 a54)) fun v1_57 => ((lX6_digest_33 S n) v1_57 (v3 + (1 : Int32))))))
set_option maxHeartbeats 4000000 in
set_option maxRecDepth 100000 in
theorem lX6_digest_33_t {p : Program} {l : Launch} {e : Env} {s : State} {m : MethodId} {args : Array Value} {below : List Frame} {meth : Method} {c : Code} {D : va_G} {cA : Nat → ClassId} {ad : Nat → Nat} {kl : Nat}   (C0 : Cx D vwCl tlC shC cA ad (ExC ad kl) RX6 cX6_digest 5 (some .long) p s m args meth c)  (S : vS)   : ∀ (n : Nat) (v1 : Int64) (v3 : Int32) (ls : Array Slot), lv_has ls 5 [(0, .ref (ad 0)), (1, .long v1), (3, .int v3)] → SW p l e rm_X6_digest s m args below meth c D vwCl shC cA ad (Fq D vwCl shC cA ad below args s (fun r => some (.long r) : Int64 → Option Value) (fun _ => S) (fun _ => True)) (lX6_digest_33 S n v1 v3) S 33 ls [] := by
  intro n
  induction n with
  | zero =>
    intro v1 v3 ls hl
    rw [lX6_digest_33]
    exact sw_none
  | succ n ih =>
    intro v1 v3 ls hl
    rw [lX6_digest_33]
    refine sx_iload_n C0 dX6_digest_33 rfl (lv_at hl 2 rfl) ?_
    refine sx_iconst (v := 3) C0 dX6_digest_34 (by decide) ?_
    refine sx_icmp_ge (tgt := 64) C0 dX6_digest_35 (by decide) (fun _ => ?_) (fun _ => ?_)
    · exact bX6_digest_64_t C0 _ _ _ (lv_sub hl [0, 1] rfl)
    · refine sx_ldc2 C0 wk_X6_343 dX6_digest_38 ?_
      refine sx_lload_n C0 dX6_digest_41 rfl (lv_at hl 1 rfl) ?_
      refine sx_lmul C0 dX6_digest_42 ?_
      refine sx_aload_n C0 dX6_digest_43 rfl (lv_at hl 0 rfl) ?_
      refine gf_X6_33 C0 is6 dX6_digest_44 ?_
      refine gf_X6_167 C0 is6_village.1 dX6_digest_47 ?_
      refine gf_X6_186 C0 is6_village.2.2.1.1 dX6_digest_50 ?_
      refine sx_iload_n C0 dX6_digest_53 rfl (lv_at hl 2 rfl) ?_
      refine sx_iald C0 is6_village.2.2.1.2.1 rfl dX6_digest_54 (fun a54 => ?_)
      refine sx_i2l C0 dX6_digest_55 ?_
      refine sx_ladd C0 dX6_digest_56 ?_
      refine sw_lt (val := .long) (fun v1_57 => ?_)
      refine sx_lstore_n (lv' := [(1, .long v1_57), (0, .ref (ad 0)), (3, .int v3)]) C0 dX6_digest_57 rfl hl (by decide) rfl (fun ls hl => ?_)
      refine sx_iinc (v := (v3 + (1 : Int32))) (lv' := [(3, .int (v3 + (1 : Int32))), (1, .long v1_57), (0, .ref (ad 0))]) C0 dX6_digest_58 hl (k := 2) rfl rfl (by decide) rfl (fun ls hl => ?_)
      refine sx_goto (tgt := 33) C0 dX6_digest_61 (by decide) ?_
      exact ih _ _ _ (lv_sub hl [2, 1, 0] rfl)
def bX6_digest_31    (S : vS) (v1 : Int64)  : Option Int64 := (lX6_digest_33 S FU v1 (0 : Int32))
set_option maxHeartbeats 4000000 in
set_option maxRecDepth 100000 in
theorem bX6_digest_31_t {p : Program} {l : Launch} {e : Env} {s : State} {m : MethodId} {args : Array Value} {below : List Frame} {meth : Method} {c : Code} {D : va_G} {cA : Nat → ClassId} {ad : Nat → Nat} {kl : Nat}   (C0 : Cx D vwCl tlC shC cA ad (ExC ad kl) RX6 cX6_digest 5 (some .long) p s m args meth c)  (S : vS) (v1 : Int64) (ls : Array Slot) (hl : lv_has ls 5 [(0, .ref (ad 0)), (1, .long v1)]) : SW p l e rm_X6_digest s m args below meth c D vwCl shC cA ad (Fq D vwCl shC cA ad below args s (fun r => some (.long r) : Int64 → Option Value) (fun _ => S) (fun _ => True)) (bX6_digest_31 S v1) S 31 ls [] := by
  rw [bX6_digest_31]
  refine sx_iconst (v := 0) C0 dX6_digest_31 (by decide) ?_
  refine sx_istore_n (lv' := [(3, .int (0 : Int32)), (0, .ref (ad 0)), (1, .long v1)]) C0 dX6_digest_32 rfl hl (by decide) rfl (fun ls hl => ?_)
  exact lX6_digest_33_t C0 _ _ _ _ _ (lv_sub hl [1, 2, 0] rfl)
def lX6_digest_6  (S : vS)   : Nat → Int64 → Int32 → Option Int64
  | 0, _, _ => none
  | n + 1, v1, v3 => (if (7 : Int32) < v3 then (bX6_digest_31 S v1) else ((mX6_count S v3).bind fun a19 => (lt (((31 : Int64) * v1) + (Int32.toInt64 a19)) fun v1_24 => ((lX6_digest_6 S n) v1_24 (v3 + (1 : Int32))))))
set_option maxHeartbeats 4000000 in
set_option maxRecDepth 100000 in
theorem lX6_digest_6_t {p : Program} {l : Launch} {e : Env} {s : State} {m : MethodId} {args : Array Value} {below : List Frame} {meth : Method} {c : Code} {D : va_G} {cA : Nat → ClassId} {ad : Nat → Nat} {kl : Nat}   (C0 : Cx D vwCl tlC shC cA ad (ExC ad kl) RX6 cX6_digest 5 (some .long) p s m args meth c)  (S : vS)   : ∀ (n : Nat) (v1 : Int64) (v3 : Int32) (ls : Array Slot), lv_has ls 5 [(0, .ref (ad 0)), (1, .long v1), (3, .int v3)] → SW p l e rm_X6_digest s m args below meth c D vwCl shC cA ad (Fq D vwCl shC cA ad below args s (fun r => some (.long r) : Int64 → Option Value) (fun _ => S) (fun _ => True)) (lX6_digest_6 S n v1 v3) S 6 ls [] := by
  intro n
  induction n with
  | zero =>
    intro v1 v3 ls hl
    rw [lX6_digest_6]
    exact sw_none
  | succ n ih =>
    intro v1 v3 ls hl
    rw [lX6_digest_6]
    refine sx_iload_n C0 dX6_digest_6 rfl (lv_at hl 2 rfl) ?_
    refine sx_bipush (v := 7) C0 dX6_digest_7 (by decide) ?_
    refine sx_icmp_gt (tgt := 31) C0 dX6_digest_9 (by decide) (fun _ => ?_) (fun _ => ?_)
    · exact bX6_digest_31_t C0 _ _ _ (lv_sub hl [0, 1] rfl)
    · refine sx_ldc2 C0 wk_X6_343 dX6_digest_12 ?_
      refine sx_lload_n C0 dX6_digest_15 rfl (lv_at hl 1 rfl) ?_
      refine sx_lmul C0 dX6_digest_16 ?_
      refine sx_aload_n C0 dX6_digest_17 rfl (lv_at hl 0 rfl) ?_
      refine sx_iload_n C0 dX6_digest_18 rfl (lv_at hl 2 rfl) ?_
      refine sw_bind (fun a19 e19 => ?_)
      refine cv_X6_345 (As := [.int v3]) C0 (c_X6_count C0.2.2.2.2.2.2.2.1 v3 S _ e19) is6 ⟨rfl, rfl⟩ ⟨Nat.le_of_ble_eq_true rfl, Nat.le_of_ble_eq_true rfl⟩ rfl hl.1 (Nat.le_of_ble_eq_true rfl) rfl dX6_digest_19 (fun _ => ?_)
      refine sx_i2l C0 dX6_digest_22 ?_
      refine sx_ladd C0 dX6_digest_23 ?_
      refine sw_lt (val := .long) (fun v1_24 => ?_)
      refine sx_lstore_n (lv' := [(1, .long v1_24), (0, .ref (ad 0)), (3, .int v3)]) C0 dX6_digest_24 rfl hl (by decide) rfl (fun ls hl => ?_)
      refine sx_iinc (v := (v3 + (1 : Int32))) (lv' := [(3, .int (v3 + (1 : Int32))), (1, .long v1_24), (0, .ref (ad 0))]) C0 dX6_digest_25 hl (k := 2) rfl rfl (by decide) rfl (fun ls hl => ?_)
      refine sx_goto (tgt := 6) C0 dX6_digest_28 (by decide) ?_
      exact ih _ _ _ (lv_sub hl [2, 1, 0] rfl)
def mX6_digest (S : vS)  : Option Int64 := (lX6_digest_6 S FU (17 : Int64) (0 : Int32))
set_option maxHeartbeats 4000000 in
set_option maxRecDepth 100000 in
theorem c_X6_digest {l : Launch} {D : va_G} {cA : Nat → ClassId} {ad : Nat → Nat} {kl : Nat} (G : Gx shC ad (ExC ad kl))  (S : vS) (r : Int64) (hr : (mX6_digest S) = some r) : Met l yX6_digest (Cond.code yX6_digest cX6_digest 5 (some .long) :: ALL) rm_X6_digest (Po D vwCl tlC shC cA ad (ExC ad kl) [.ref (ad 0)] S) (Qo D vwCl shC cA ad (some (.long r)) S True) 0 0 (aw shC ad) := by
  refine Met.sx (M := (mX6_digest S)) (rv := (fun r => some (.long r) : Int64 → Option Value)) (rs := fun _ => S) (B := fun _ => True) (by decide) ⟨rfl, rfl⟩ (Nat.le_of_ble_eq_true rfl) G (fun p e s m args below meth c C0 ls hl => ?_) hr
  have hl : lv_has ls 5 [(0, .ref (ad 0))] := hl
  rw [mX6_digest]
  refine sx_ldc2 C0 wk_X6_341 dX6_digest_0 ?_
  refine sx_lstore_n (lv' := [(1, .long (17 : Int64)), (0, .ref (ad 0))]) C0 dX6_digest_3 rfl hl (by decide) rfl (fun ls hl => ?_)
  refine sx_iconst (v := 0) C0 dX6_digest_4 (by decide) ?_
  refine sx_istore_n (lv' := [(3, .int (0 : Int32)), (1, .long (17 : Int64)), (0, .ref (ad 0))]) C0 dX6_digest_5 rfl hl (by decide) rfl (fun ls hl => ?_)
  exact lX6_digest_6_t C0 _ _ _ _ _ (lv_sub hl [2, 1, 0] rfl)
