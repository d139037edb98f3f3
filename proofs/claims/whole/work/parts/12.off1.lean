abbrev rm_X6_found : Room := { frames := 0, cells := 0, slots := 0, locals := 0 }
def mX6_found (S : vS) (v1 : Int32) : Option (Int32 × vS) := (if v1 < (1 : Int32) then (some ((-3 : Int32), S)) else (if (5 : Int32) < v1 then (some ((-3 : Int32), S)) else (lt (wI S 0 10 v1) fun S12 => ((gI (S12.1 134) 6 v1).bind fun a21 => ((pI S12 134 6 v1 (a21 + (1 : Int32))).bind fun S24 => (some ((-3 : Int32), S24)))))))
set_option maxHeartbeats 4000000 in
set_option maxRecDepth 100000 in
theorem c_X6_found {l : Launch} {D : va_G} {cA : Nat → ClassId} {ad : Nat → Nat} {kl : Nat} (G : Gx shC ad (ExC ad kl)) (v1 : Int32) (S : vS) (r : (Int32 × vS)) (hr : (mX6_found S v1) = some r) : Met l yX6_found (Cond.code yX6_found cX6_found 2 (some .int) :: ALL) rm_X6_found (Po D vwCl tlC shC cA ad (ExC ad kl) [.ref (ad 0), .int v1] S) (Qo D vwCl shC cA ad (some (.int r.1)) r.2 True) 0 0 (aw shC ad) := by
  refine Met.sx (M := (mX6_found S v1)) (rv := (fun q => some (.int q.1) : (Int32 × vS) → Option Value)) (rs := fun q => q.2) (B := fun _ => True) (by decide) ⟨rfl, rfl⟩ (Nat.le_of_ble_eq_true rfl) G (fun p e s m args below meth c C0 ls hl => ?_) hr
  have hl : lv_has ls 2 [(0, .ref (ad 0)), (1, .int v1)] := hl
  rw [mX6_found]
  refine sx_iload_n C0 dX6_found_0 rfl (lv_at hl 1 rfl) ?_
  refine sx_iconst (v := 1) C0 dX6_found_1 (by decide) ?_
  refine sx_icmp_lt (tgt := 25) C0 dX6_found_2 (by decide) (fun _ => ?_) (fun _ => ?_)
  · refine sx_bipush (v := (-3)) C0 dX6_found_25 (by decide) ?_
    exact sx_iret C0 rfl rfl trivial dX6_found_27
  · refine sx_iload_n C0 dX6_found_5 rfl (lv_at hl 1 rfl) ?_
    refine sx_iconst (v := 5) C0 dX6_found_6 (by decide) ?_
    refine sx_icmp_gt (tgt := 25) C0 dX6_found_7 (by decide) (fun _ => ?_) (fun _ => ?_)
    · refine sx_bipush (v := (-3)) C0 dX6_found_25 (by decide) ?_
      exact sx_iret C0 rfl rfl trivial dX6_found_27
    · refine sx_aload_n C0 dX6_found_10 rfl (lv_at hl 0 rfl) ?_
      refine sx_iload_n C0 dX6_found_11 rfl (lv_at hl 1 rfl) ?_
      refine pf_X6_69 C0 is6 dX6_found_12 (fun S12 => ?_)
      refine sx_aload_n C0 dX6_found_15 rfl (lv_at hl 0 rfl) ?_
      refine gf_X6_66 C0 is6 dX6_found_16 ?_
      refine sx_iload_n C0 dX6_found_19 rfl (lv_at hl 1 rfl) ?_
      refine sx_dup2 C0 dX6_found_20 rfl rfl ?_
      refine sx_iald C0 is6_findingCounts rfl dX6_found_21 (fun a21 => ?_)
      refine sx_iconst (v := 1) C0 dX6_found_22 (by decide) ?_
      refine sx_iadd C0 dX6_found_23 ?_
      refine sx_iast C0 is6_findingCounts rfl dX6_found_24 (fun S24 => ?_)
      refine sx_bipush (v := (-3)) C0 dX6_found_25 (by decide) ?_
      exact sx_iret C0 rfl rfl trivial dX6_found_27
abbrev rm_X6_row : Room := { frames := 3, cells := 0, slots := 0, locals := 69 }
def mX6_row (S : vS) (v1 : Int32) (v2 : Int32) : Option (Int32 × vS) := (if (mX4_has S 1 6 v1) = 0 then (some ((-1 : Int32), S)) else (if v2 ≤ (60 : Int32) then (if 0 ≤ v2 then ((mX4_make S 1 6 v1 v2 (0 : Int32)).bind fun S36 => (some (v2, S36))) else ((mX6_found S (5 : Int32)).bind fun q25 => (some (q25.1, q25.2)))) else (some ((-1 : Int32), S))))
set_option maxHeartbeats 4000000 in
set_option maxRecDepth 100000 in
theorem c_X6_row {l : Launch} {D : va_G} {cA : Nat → ClassId} {ad : Nat → Nat} {kl : Nat} (G : Gx shC ad (ExC ad kl)) (v1 : Int32) (v2 : Int32) (S : vS) (r : (Int32 × vS)) (hr : (mX6_row S v1 v2) = some r) : Met l yX6_row (Cond.code yX6_row cX6_row 3 (some .int) :: ALL) rm_X6_row (Po D vwCl tlC shC cA ad (ExC ad kl) [.ref (ad 0), .int v1, .int v2] S) (Qo D vwCl shC cA ad (some (.int r.1)) r.2 True) 0 0 (aw shC ad) := by
  refine Met.sx (M := (mX6_row S v1 v2)) (rv := (fun q => some (.int q.1) : (Int32 × vS) → Option Value)) (rs := fun q => q.2) (B := fun _ => True) (by decide) ⟨rfl, rfl⟩ (Nat.le_of_ble_eq_true rfl) G (fun p e s m args below meth c C0 ls hl => ?_) hr
  have hl : lv_has ls 3 [(0, .ref (ad 0)), (1, .int v1), (2, .int v2)] := hl
  rw [mX6_row]
  refine sx_aload_n C0 dX6_row_0 rfl (lv_at hl 0 rfl) ?_
  refine gf_X6_16 C0 is6 dX6_row_1 ?_
  refine sx_iload_n C0 dX6_row_4 rfl (lv_at hl 1 rfl) ?_
  refine cv_X6_83 (As := [.int v1]) C0 (c_X4_has C0.2.2.2.2.2.2.2.1 1 6 is6_rows v1 S) is6_rows.1 ⟨rfl, rfl⟩ ⟨Nat.le_of_ble_eq_true rfl, Nat.le_of_ble_eq_true rfl⟩ rfl hl.1 (Nat.le_of_ble_eq_true rfl) rfl dX6_row_5 (fun hb5 => ?_)
  refine sx_if_eq (tgt := 17) C0 dX6_row_8 (by decide) (fun _ => ?_) (fun _ => ?_)
  · refine sx_iconst (v := (-1)) C0 dX6_row_17 (by decide) ?_
    exact sx_iret C0 rfl rfl trivial dX6_row_18
  · refine sx_iload_n C0 dX6_row_11 rfl (lv_at hl 2 rfl) ?_
    refine sx_bipush (v := 60) C0 dX6_row_12 (by decide) ?_
    refine sx_icmp_le (tgt := 19) C0 dX6_row_14 (by decide) (fun _ => ?_) (fun _ => ?_)
    · refine sx_iload_n C0 dX6_row_19 rfl (lv_at hl 2 rfl) ?_
      refine sx_if_ge (tgt := 29) C0 dX6_row_20 (by decide) (fun _ => ?_) (fun _ => ?_)
      · refine sx_aload_n C0 dX6_row_29 rfl (lv_at hl 0 rfl) ?_
        refine gf_X6_16 C0 is6 dX6_row_30 ?_
        refine sx_iload_n C0 dX6_row_33 rfl (lv_at hl 1 rfl) ?_
        refine sx_iload_n C0 dX6_row_34 rfl (lv_at hl 2 rfl) ?_
        refine sx_iconst (v := 0) C0 dX6_row_35 (by decide) ?_
        refine sw_bind (fun S36 e36 => ?_)
        refine cv_X6_91 (As := [.int v1, .int v2, .int (0 : Int32)]) C0 (c_X4_make C0.2.2.2.2.2.2.2.1 1 6 is6_rows v1 v2 (0 : Int32) S _ e36) is6_rows.1 ⟨rfl, rfl⟩ ⟨Nat.le_of_ble_eq_true rfl, Nat.le_of_ble_eq_true rfl⟩ rfl hl.1 (Nat.le_of_ble_eq_true rfl) rfl dX6_row_36 (fun _ => ?_)
        refine sx_iload_n C0 dX6_row_39 rfl (lv_at hl 2 rfl) ?_
        exact sx_iret C0 rfl rfl trivial dX6_row_40
      · refine sx_aload_n C0 dX6_row_23 rfl (lv_at hl 0 rfl) ?_
        refine sx_iconst (v := 5) C0 dX6_row_24 (by decide) ?_
        refine sw_bind (fun q25 e25 => ?_)
        refine cv_X6_87 (As := [.int (5 : Int32)]) C0 (c_X6_found C0.2.2.2.2.2.2.2.1 (5 : Int32) S _ e25) is6 ⟨rfl, rfl⟩ ⟨Nat.le_of_ble_eq_true rfl, Nat.le_of_ble_eq_true rfl⟩ rfl hl.1 (Nat.le_of_ble_eq_true rfl) rfl dX6_row_25 (fun _ => ?_)
        exact sx_iret C0 rfl rfl trivial dX6_row_28
    · refine sx_iconst (v := (-1)) C0 dX6_row_17 (by decide) ?_
      exact sx_iret C0 rfl rfl trivial dX6_row_18
abbrev rm_X6_placeRefused : Room := { frames := 3, cells := 0, slots := 0, locals := 65 }
def mX6_placeRefused (S : vS) (k1 n1 : Nat) (v2 : Int32) (v3 : Int32) : Option (Int32 × vS) := ((mX4_isThere S k1 n1 v2).bind fun a2 => (if a2 = 0 then ((mX6_found S (1 : Int32)).bind fun q10 => (some (q10.1, q10.2))) else ((mX4_holds S k1 n1 v2 v3 (1 : Int32)).bind fun a18 => (if a18 = 0 then ((mX6_found S (2 : Int32)).bind fun q30 => (some (q30.1, q30.2))) else (some ((0 : Int32), S))))))
set_option maxHeartbeats 4000000 in
set_option maxRecDepth 100000 in
theorem c_X6_placeRefused {l : Launch} {D : va_G} {cA : Nat → ClassId} {ad : Nat → Nat} {kl : Nat} (G : Gx shC ad (ExC ad kl)) (k1 n1 : Nat) (h1 : IsX4 k1 n1) (v2 : Int32) (v3 : Int32) (S : vS) (r : (Int32 × vS)) (hr : (mX6_placeRefused S k1 n1 v2 v3) = some r) : Met l yX6_placeRefused (Cond.code yX6_placeRefused cX6_placeRefused 4 (some .int) :: ALL) rm_X6_placeRefused (Po D vwCl tlC shC cA ad (ExC ad kl) [.ref (ad 0), .ref (ad k1), .int v2, .int v3] S) (Qo D vwCl shC cA ad (some (.int r.1)) r.2 True) 0 0 (aw shC ad) := by
  refine Met.sx (M := (mX6_placeRefused S k1 n1 v2 v3)) (rv := (fun q => some (.int q.1) : (Int32 × vS) → Option Value)) (rs := fun q => q.2) (B := fun _ => True) (by decide) ⟨rfl, rfl⟩ (Nat.le_of_ble_eq_true rfl) G (fun p e s m args below meth c C0 ls hl => ?_) hr
  have hl : lv_has ls 4 [(0, .ref (ad 0)), (1, .ref (ad k1)), (2, .int v2), (3, .int v3)] := hl
  rw [mX6_placeRefused]
  refine sx_aload_n C0 dX6_placeRefused_0 rfl (lv_at hl 1 rfl) ?_
  refine sx_iload_n C0 dX6_placeRefused_1 rfl (lv_at hl 2 rfl) ?_
  refine sw_bind (fun a2 e2 => ?_)
  refine cv_X6_110 (As := [.int v2]) C0 (c_X4_isThere C0.2.2.2.2.2.2.2.1 k1 n1 h1 v2 S _ e2) h1.1 ⟨rfl, rfl⟩ ⟨Nat.le_of_ble_eq_true rfl, Nat.le_of_ble_eq_true rfl⟩ rfl hl.1 (Nat.le_of_ble_eq_true rfl) rfl dX6_placeRefused_2 (fun hb2 => ?_)
  refine sx_if_ne (tgt := 14) C0 dX6_placeRefused_5 (by decide) (fun _ => ?_) (fun _ => ?_)
  · refine sx_aload_n C0 dX6_placeRefused_8 rfl (lv_at hl 0 rfl) ?_
    refine sx_iconst (v := 1) C0 dX6_placeRefused_9 (by decide) ?_
    refine sw_bind (fun q10 e10 => ?_)
    refine cv_X6_87 (As := [.int (1 : Int32)]) C0 (c_X6_found C0.2.2.2.2.2.2.2.1 (1 : Int32) S _ e10) is6 ⟨rfl, rfl⟩ ⟨Nat.le_of_ble_eq_true rfl, Nat.le_of_ble_eq_true rfl⟩ rfl hl.1 (Nat.le_of_ble_eq_true rfl) rfl dX6_placeRefused_10 (fun _ => ?_)
    exact sx_iret C0 rfl rfl trivial dX6_placeRefused_13
  · refine sx_aload_n C0 dX6_placeRefused_14 rfl (lv_at hl 1 rfl) ?_
    refine sx_iload_n C0 dX6_placeRefused_15 rfl (lv_at hl 2 rfl) ?_
    refine sx_iload_n C0 dX6_placeRefused_16 rfl (lv_at hl 3 rfl) ?_
    refine sx_iconst (v := 1) C0 dX6_placeRefused_17 (by decide) ?_
    refine sw_bind (fun a18 e18 => ?_)
    refine cv_X6_116 (As := [.int v2, .int v3, .int (1 : Int32)]) C0 (c_X4_holds C0.2.2.2.2.2.2.2.1 k1 n1 h1 v2 v3 (1 : Int32) S _ e18) h1.1 ⟨rfl, rfl⟩ ⟨Nat.le_of_ble_eq_true rfl, Nat.le_of_ble_eq_true rfl⟩ rfl hl.1 (Nat.le_of_ble_eq_true rfl) rfl dX6_placeRefused_18 (fun hb18 => ?_)
    refine sx_if_eq (tgt := 28) C0 dX6_placeRefused_21 (by decide) (fun _ => ?_) (fun _ => ?_)
    · refine sx_aload_n C0 dX6_placeRefused_28 rfl (lv_at hl 0 rfl) ?_
      refine sx_iconst (v := 2) C0 dX6_placeRefused_29 (by decide) ?_
      refine sw_bind (fun q30 e30 => ?_)
      refine cv_X6_87 (As := [.int (2 : Int32)]) C0 (c_X6_found C0.2.2.2.2.2.2.2.1 (2 : Int32) S _ e30) is6 ⟨rfl, rfl⟩ ⟨Nat.le_of_ble_eq_true rfl, Nat.le_of_ble_eq_true rfl⟩ rfl hl.1 (Nat.le_of_ble_eq_true rfl) rfl dX6_placeRefused_30 (fun _ => ?_)
      exact sx_iret C0 rfl rfl trivial dX6_placeRefused_33
    · refine sx_iconst (v := 0) C0 dX6_placeRefused_24 (by decide) ?_
      refine sx_goto (tgt := 33) C0 dX6_placeRefused_25 (by decide) ?_
      exact sx_iret C0 rfl rfl trivial dX6_placeRefused_33
abbrev rm_X6_tell : Room := { frames := 0, cells := 0, slots := 0, locals := 0 }
def mX6_tell (S : vS) (v1 : Int32) : vS := (lt (wI S 0 11 v1) fun S2 => S2)
set_option maxHeartbeats 4000000 in
set_option maxRecDepth 100000 in
theorem c_X6_tell {l : Launch} {D : va_G} {cA : Nat → ClassId} {ad : Nat → Nat} {kl : Nat} (G : Gx shC ad (ExC ad kl)) (v1 : Int32) (S : vS) : Met l yX6_tell (Cond.code yX6_tell cX6_tell 2 none :: ALL) rm_X6_tell (Po D vwCl tlC shC cA ad (ExC ad kl) [.ref (ad 0), .int v1] S) (Qo D vwCl shC cA ad none (mX6_tell S v1) True) 0 0 (aw shC ad) := by
  refine Met.sx (M := some (mX6_tell S v1)) (rv := (fun _ => none : vS → Option Value)) (rs := fun S1 => S1) (B := fun _ => True) (by decide) ⟨rfl, rfl⟩ (Nat.le_of_ble_eq_true rfl) G (fun p e s m args below meth c C0 ls hl => ?_) rfl
  have hl : lv_has ls 2 [(0, .ref (ad 0)), (1, .int v1)] := hl
  rw [mX6_tell]
  refine sx_aload_n C0 dX6_tell_0 rfl (lv_at hl 0 rfl) ?_
  refine sx_iload_n C0 dX6_tell_1 rfl (lv_at hl 1 rfl) ?_
  refine pfs_X6_73 C0 is6 dX6_tell_2 (fun S2 => ?_)
  exact sx_vret C0 rfl rfl trivial dX6_tell_5
abbrev rm_X6_lay : Room := { frames := 4, cells := 0, slots := 0, locals := 88 }
def mX6_lay (S : vS) (v1 : Int32) (v2 : Int32) (v3 : Int32) : Option (Int32 × vS) := (if (mX4_has S 1 6 v1) = 0 then (some ((-1 : Int32), S)) else ((mX6_placeRefused S 1 6 v1 v2).bind fun q20 => (lt q20.1 fun v4_23 => (if v4_23 = 0 then ((mX4_read q20.2 1 6 v1 v2).bind fun a40 => (lt (mX6_tell q20.2 a40) fun S43 => ((mX4_write S43 1 6 v1 v2 v3).bind fun S53 => (some ((1 : Int32), S53))))) else (some (v4_23, q20.2))))))
set_option maxHeartbeats 4000000 in
set_option maxRecDepth 100000 in
theorem c_X6_lay {l : Launch} {D : va_G} {cA : Nat → ClassId} {ad : Nat → Nat} {kl : Nat} (G : Gx shC ad (ExC ad kl)) (v1 : Int32) (v2 : Int32) (v3 : Int32) (S : vS) (r : (Int32 × vS)) (hr : (mX6_lay S v1 v2 v3) = some r) : Met l yX6_lay (Cond.code yX6_lay cX6_lay 5 (some .int) :: ALL) rm_X6_lay (Po D vwCl tlC shC cA ad (ExC ad kl) [.ref (ad 0), .int v1, .int v2, .int v3] S) (Qo D vwCl shC cA ad (some (.int r.1)) r.2 True) 0 0 (aw shC ad) := by
  refine Met.sx (M := (mX6_lay S v1 v2 v3)) (rv := (fun q => some (.int q.1) : (Int32 × vS) → Option Value)) (rs := fun q => q.2) (B := fun _ => True) (by decide) ⟨rfl, rfl⟩ (Nat.le_of_ble_eq_true rfl) G (fun p e s m args below meth c C0 ls hl => ?_) hr
  have hl : lv_has ls 5 [(0, .ref (ad 0)), (1, .int v1), (2, .int v2), (3, .int v3)] := hl
  rw [mX6_lay]
  refine sx_aload_n C0 dX6_lay_0 rfl (lv_at hl 0 rfl) ?_
  refine gf_X6_16 C0 is6 dX6_lay_1 ?_
  refine sx_iload_n C0 dX6_lay_4 rfl (lv_at hl 1 rfl) ?_
  refine cv_X6_83 (As := [.int v1]) C0 (c_X4_has C0.2.2.2.2.2.2.2.1 1 6 is6_rows v1 S) is6_rows.1 ⟨rfl, rfl⟩ ⟨Nat.le_of_ble_eq_true rfl, Nat.le_of_ble_eq_true rfl⟩ rfl hl.1 (Nat.le_of_ble_eq_true rfl) rfl dX6_lay_5 (fun hb5 => ?_)
  refine sx_if_ne (tgt := 13) C0 dX6_lay_8 (by decide) (fun _ => ?_) (fun _ => ?_)
  · refine sx_iconst (v := (-1)) C0 dX6_lay_11 (by decide) ?_
    exact sx_iret C0 rfl rfl trivial dX6_lay_12
  · refine sx_aload_n C0 dX6_lay_13 rfl (lv_at hl 0 rfl) ?_
    refine sx_aload_n C0 dX6_lay_14 rfl (lv_at hl 0 rfl) ?_
    refine gf_X6_16 C0 is6 dX6_lay_15 ?_
    refine sx_iload_n C0 dX6_lay_18 rfl (lv_at hl 1 rfl) ?_
    refine sx_iload_n C0 dX6_lay_19 rfl (lv_at hl 2 rfl) ?_
    refine sw_bind (fun q20 e20 => ?_)
    refine cv_X6_95 (As := [.ref (ad 1), .int v1, .int v2]) C0 (c_X6_placeRefused C0.2.2.2.2.2.2.2.1 1 6 is6_rows v1 v2 S _ e20) is6 ⟨rfl, rfl⟩ ⟨Nat.le_of_ble_eq_true rfl, Nat.le_of_ble_eq_true rfl⟩ rfl hl.1 (Nat.le_of_ble_eq_true rfl) rfl dX6_lay_20 (fun _ => ?_)
    refine sw_lt (val := .int) (fun v4_23 => ?_)
    refine sx_istore (lv' := [(4, .int v4_23), (0, .ref (ad 0)), (1, .int v1), (2, .int v2), (3, .int v3)]) C0 dX6_lay_23 hl (by decide) rfl (fun ls hl => ?_)
    refine sx_iload C0 dX6_lay_25 (lv_at hl 0 rfl) ?_
    refine sx_if_eq (tgt := 33) C0 dX6_lay_27 (by decide) (fun _ => ?_) (fun _ => ?_)
    · refine sx_aload_n C0 dX6_lay_33 rfl (lv_at hl 1 rfl) ?_
      refine sx_aload_n C0 dX6_lay_34 rfl (lv_at hl 1 rfl) ?_
      refine gf_X6_16 C0 is6 dX6_lay_35 ?_
      refine sx_iload_n C0 dX6_lay_38 rfl (lv_at hl 2 rfl) ?_
      refine sx_iload_n C0 dX6_lay_39 rfl (lv_at hl 3 rfl) ?_
      refine sw_bind (fun a40 e40 => ?_)
      refine cv_X6_99 (As := [.int v1, .int v2]) C0 (c_X4_read C0.2.2.2.2.2.2.2.1 1 6 is6_rows v1 v2 q20.2 _ e40) is6_rows.1 ⟨rfl, rfl⟩ ⟨Nat.le_of_ble_eq_true rfl, Nat.le_of_ble_eq_true rfl⟩ rfl hl.1 (Nat.le_of_ble_eq_true rfl) rfl dX6_lay_40 (fun _ => ?_)
      refine cv_X6_103 (As := [.int a40]) C0 (c_X6_tell C0.2.2.2.2.2.2.2.1 a40 q20.2) is6 ⟨rfl, rfl⟩ ⟨Nat.le_of_ble_eq_true rfl, Nat.le_of_ble_eq_true rfl⟩ rfl hl.1 (Nat.le_of_ble_eq_true rfl) rfl dX6_lay_43 (fun _ => ?_)
      refine sw_ltS (fun S43 => ?_)
      refine sx_aload_n C0 dX6_lay_46 rfl (lv_at hl 1 rfl) ?_
      refine gf_X6_16 C0 is6 dX6_lay_47 ?_
      refine sx_iload_n C0 dX6_lay_50 rfl (lv_at hl 2 rfl) ?_
      refine sx_iload_n C0 dX6_lay_51 rfl (lv_at hl 3 rfl) ?_
      refine sx_iload_n C0 dX6_lay_52 rfl (lv_at hl 4 rfl) ?_
      refine sw_bind (fun S53 e53 => ?_)
      refine cv_X6_107 (As := [.int v1, .int v2, .int v3]) C0 (c_X4_write C0.2.2.2.2.2.2.2.1 1 6 is6_rows v1 v2 v3 S43 _ e53) is6_rows.1 ⟨rfl, rfl⟩ ⟨Nat.le_of_ble_eq_true rfl, Nat.le_of_ble_eq_true rfl⟩ rfl hl.1 (Nat.le_of_ble_eq_true rfl) rfl dX6_lay_53 (fun _ => ?_)
      refine sx_iconst (v := 1) C0 dX6_lay_56 (by decide) ?_
      exact sx_iret C0 rfl rfl trivial dX6_lay_57
    · refine sx_iload C0 dX6_lay_30 (lv_at hl 0 rfl) ?_
      exact sx_iret C0 rfl rfl trivial dX6_lay_32
abbrev rm_X6_at : Room := { frames := 4, cells := 0, slots := 0, locals := 88 }
def mX6_at (S : vS) (v1 : Int32) (v2 : Int32) : Option (Int32 × vS) := (if (mX4_has S 1 6 v1) = 0 then (some ((-1 : Int32), S)) else ((mX6_placeRefused S 1 6 v1 v2).bind fun q20 => (lt q20.1 fun v3_23 => (if v3_23 = 0 then ((mX4_read q20.2 1 6 v1 v2).bind fun a37 => (lt (mX6_tell q20.2 a37) fun S40 => (some ((1 : Int32), S40)))) else (some (v3_23, q20.2))))))
set_option maxHeartbeats 4000000 in
set_option maxRecDepth 100000 in
theorem c_X6_at {l : Launch} {D : va_G} {cA : Nat → ClassId} {ad : Nat → Nat} {kl : Nat} (G : Gx shC ad (ExC ad kl)) (v1 : Int32) (v2 : Int32) (S : vS) (r : (Int32 × vS)) (hr : (mX6_at S v1 v2) = some r) : Met l yX6_at (Cond.code yX6_at cX6_at 4 (some .int) :: ALL) rm_X6_at (Po D vwCl tlC shC cA ad (ExC ad kl) [.ref (ad 0), .int v1, .int v2] S) (Qo D vwCl shC cA ad (some (.int r.1)) r.2 True) 0 0 (aw shC ad) := by
  refine Met.sx (M := (mX6_at S v1 v2)) (rv := (fun q => some (.int q.1) : (Int32 × vS) → Option Value)) (rs := fun q => q.2) (B := fun _ => True) (by decide) ⟨rfl, rfl⟩ (Nat.le_of_ble_eq_true rfl) G (fun p e s m args below meth c C0 ls hl => ?_) hr
  have hl : lv_has ls 4 [(0, .ref (ad 0)), (1, .int v1), (2, .int v2)] := hl
  rw [mX6_at]
  refine sx_aload_n C0 dX6_at_0 rfl (lv_at hl 0 rfl) ?_
  refine gf_X6_16 C0 is6 dX6_at_1 ?_
  refine sx_iload_n C0 dX6_at_4 rfl (lv_at hl 1 rfl) ?_
  refine cv_X6_83 (As := [.int v1]) C0 (c_X4_has C0.2.2.2.2.2.2.2.1 1 6 is6_rows v1 S) is6_rows.1 ⟨rfl, rfl⟩ ⟨Nat.le_of_ble_eq_true rfl, Nat.le_of_ble_eq_true rfl⟩ rfl hl.1 (Nat.le_of_ble_eq_true rfl) rfl dX6_at_5 (fun hb5 => ?_)
  refine sx_if_ne (tgt := 13) C0 dX6_at_8 (by decide) (fun _ => ?_) (fun _ => ?_)
  · refine sx_iconst (v := (-1)) C0 dX6_at_11 (by decide) ?_
    exact sx_iret C0 rfl rfl trivial dX6_at_12
  · refine sx_aload_n C0 dX6_at_13 rfl (lv_at hl 0 rfl) ?_
    refine sx_aload_n C0 dX6_at_14 rfl (lv_at hl 0 rfl) ?_
    refine gf_X6_16 C0 is6 dX6_at_15 ?_
    refine sx_iload_n C0 dX6_at_18 rfl (lv_at hl 1 rfl) ?_
    refine sx_iload_n C0 dX6_at_19 rfl (lv_at hl 2 rfl) ?_
    refine sw_bind (fun q20 e20 => ?_)
    refine cv_X6_95 (As := [.ref (ad 1), .int v1, .int v2]) C0 (c_X6_placeRefused C0.2.2.2.2.2.2.2.1 1 6 is6_rows v1 v2 S _ e20) is6 ⟨rfl, rfl⟩ ⟨Nat.le_of_ble_eq_true rfl, Nat.le_of_ble_eq_true rfl⟩ rfl hl.1 (Nat.le_of_ble_eq_true rfl) rfl dX6_at_20 (fun _ => ?_)
    refine sw_lt (val := .int) (fun v3_23 => ?_)
    refine sx_istore_n (lv' := [(3, .int v3_23), (0, .ref (ad 0)), (1, .int v1), (2, .int v2)]) C0 dX6_at_23 rfl hl (by decide) rfl (fun ls hl => ?_)
    refine sx_iload_n C0 dX6_at_24 rfl (lv_at hl 0 rfl) ?_
    refine sx_if_eq (tgt := 30) C0 dX6_at_25 (by decide) (fun _ => ?_) (fun _ => ?_)
    · refine sx_aload_n C0 dX6_at_30 rfl (lv_at hl 1 rfl) ?_
      refine sx_aload_n C0 dX6_at_31 rfl (lv_at hl 1 rfl) ?_
      refine gf_X6_16 C0 is6 dX6_at_32 ?_
      refine sx_iload_n C0 dX6_at_35 rfl (lv_at hl 2 rfl) ?_
      refine sx_iload_n C0 dX6_at_36 rfl (lv_at hl 3 rfl) ?_
      refine sw_bind (fun a37 e37 => ?_)
      refine cv_X6_99 (As := [.int v1, .int v2]) C0 (c_X4_read C0.2.2.2.2.2.2.2.1 1 6 is6_rows v1 v2 q20.2 _ e37) is6_rows.1 ⟨rfl, rfl⟩ ⟨Nat.le_of_ble_eq_true rfl, Nat.le_of_ble_eq_true rfl⟩ rfl hl.1 (Nat.le_of_ble_eq_true rfl) rfl dX6_at_37 (fun _ => ?_)
      refine cv_X6_103 (As := [.int a37]) C0 (c_X6_tell C0.2.2.2.2.2.2.2.1 a37 q20.2) is6 ⟨rfl, rfl⟩ ⟨Nat.le_of_ble_eq_true rfl, Nat.le_of_ble_eq_true rfl⟩ rfl hl.1 (Nat.le_of_ble_eq_true rfl) rfl dX6_at_40 (fun _ => ?_)
      refine sw_ltS (fun S40 => ?_)
      refine sx_iconst (v := 1) C0 dX6_at_43 (by decide) ?_
      exact sx_iret C0 rfl rfl trivial dX6_at_44
    · refine sx_iload_n C0 dX6_at_28 rfl (lv_at hl 0 rfl) ?_
      exact sx_iret C0 rfl rfl trivial dX6_at_29
abbrev rm_X6_tear : Room := { frames := 2, cells := 0, slots := 0, locals := 42 }
def mX6_tear (S : vS) (v1 : Int32) : Option (Int32 × vS) := (if (mX4_has S 1 6 v1) = 0 then (some ((-1 : Int32), S)) else ((mX4_isThere S 1 6 v1).bind fun a18 => (if a18 = 0 then ((mX6_found S (1 : Int32)).bind fun q26 => (some (q26.1, q26.2))) else ((mX4_drop S 1 6 v1).bind fun S35 => (some ((1 : Int32), S35))))))
set_option maxHeartbeats 4000000 in
set_option maxRecDepth 100000 in
theorem c_X6_tear {l : Launch} {D : va_G} {cA : Nat → ClassId} {ad : Nat → Nat} {kl : Nat} (G : Gx shC ad (ExC ad kl)) (v1 : Int32) (S : vS) (r : (Int32 × vS)) (hr : (mX6_tear S v1) = some r) : Met l yX6_tear (Cond.code yX6_tear cX6_tear 2 (some .int) :: ALL) rm_X6_tear (Po D vwCl tlC shC cA ad (ExC ad kl) [.ref (ad 0), .int v1] S) (Qo D vwCl shC cA ad (some (.int r.1)) r.2 True) 0 0 (aw shC ad) := by
  refine Met.sx (M := (mX6_tear S v1)) (rv := (fun q => some (.int q.1) : (Int32 × vS) → Option Value)) (rs := fun q => q.2) (B := fun _ => True) (by decide) ⟨rfl, rfl⟩ (Nat.le_of_ble_eq_true rfl) G (fun p e s m args below meth c C0 ls hl => ?_) hr
  have hl : lv_has ls 2 [(0, .ref (ad 0)), (1, .int v1)] := hl
  rw [mX6_tear]
  refine sx_aload_n C0 dX6_tear_0 rfl (lv_at hl 0 rfl) ?_
  refine gf_X6_16 C0 is6 dX6_tear_1 ?_
  refine sx_iload_n C0 dX6_tear_4 rfl (lv_at hl 1 rfl) ?_
  refine cv_X6_83 (As := [.int v1]) C0 (c_X4_has C0.2.2.2.2.2.2.2.1 1 6 is6_rows v1 S) is6_rows.1 ⟨rfl, rfl⟩ ⟨Nat.le_of_ble_eq_true rfl, Nat.le_of_ble_eq_true rfl⟩ rfl hl.1 (Nat.le_of_ble_eq_true rfl) rfl dX6_tear_5 (fun hb5 => ?_)
  refine sx_if_ne (tgt := 13) C0 dX6_tear_8 (by decide) (fun _ => ?_) (fun _ => ?_)
  · refine sx_iconst (v := (-1)) C0 dX6_tear_11 (by decide) ?_
    exact sx_iret C0 rfl rfl trivial dX6_tear_12
  · refine sx_aload_n C0 dX6_tear_13 rfl (lv_at hl 0 rfl) ?_
    refine gf_X6_16 C0 is6 dX6_tear_14 ?_
    refine sx_iload_n C0 dX6_tear_17 rfl (lv_at hl 1 rfl) ?_
    refine sw_bind (fun a18 e18 => ?_)
    refine cv_X6_110 (As := [.int v1]) C0 (c_X4_isThere C0.2.2.2.2.2.2.2.1 1 6 is6_rows v1 S _ e18) is6_rows.1 ⟨rfl, rfl⟩ ⟨Nat.le_of_ble_eq_true rfl, Nat.le_of_ble_eq_true rfl⟩ rfl hl.1 (Nat.le_of_ble_eq_true rfl) rfl dX6_tear_18 (fun hb18 => ?_)
    refine sx_if_ne (tgt := 30) C0 dX6_tear_21 (by decide) (fun _ => ?_) (fun _ => ?_)
    · refine sx_aload_n C0 dX6_tear_24 rfl (lv_at hl 0 rfl) ?_
      refine sx_iconst (v := 1) C0 dX6_tear_25 (by decide) ?_
      refine sw_bind (fun q26 e26 => ?_)
      refine cv_X6_87 (As := [.int (1 : Int32)]) C0 (c_X6_found C0.2.2.2.2.2.2.2.1 (1 : Int32) S _ e26) is6 ⟨rfl, rfl⟩ ⟨Nat.le_of_ble_eq_true rfl, Nat.le_of_ble_eq_true rfl⟩ rfl hl.1 (Nat.le_of_ble_eq_true rfl) rfl dX6_tear_26 (fun _ => ?_)
      exact sx_iret C0 rfl rfl trivial dX6_tear_29
    · refine sx_aload_n C0 dX6_tear_30 rfl (lv_at hl 0 rfl) ?_
      refine gf_X6_16 C0 is6 dX6_tear_31 ?_
      refine sx_iload_n C0 dX6_tear_34 rfl (lv_at hl 1 rfl) ?_
      refine sw_bind (fun S35 e35 => ?_)
      refine cv_X6_113 (As := [.int v1]) C0 (c_X4_drop C0.2.2.2.2.2.2.2.1 1 6 is6_rows v1 S _ e35) is6_rows.1 ⟨rfl, rfl⟩ ⟨Nat.le_of_ble_eq_true rfl, Nat.le_of_ble_eq_true rfl⟩ rfl hl.1 (Nat.le_of_ble_eq_true rfl) rfl dX6_tear_35 (fun _ => ?_)
      refine sx_iconst (v := 1) C0 dX6_tear_38 (by decide) ?_
      exact sx_iret C0 rfl rfl trivial dX6_tear_39
abbrev rm_X6_copy : Room := { frames := 4, cells := 0, slots := 0, locals := 90 }
def bX6_copy_57    (S : vS)   : Option (Int32 × vS) := ((mX6_found S (1 : Int32)).bind fun q59 => (some (q59.1, q59.2)))
set_option maxHeartbeats 4000000 in
set_option maxRecDepth 100000 in
theorem bX6_copy_57_t {p : Program} {l : Launch} {e : Env} {s : State} {m : MethodId} {args : Array Value} {below : List Frame} {meth : Method} {c : Code} {D : va_G} {cA : Nat → ClassId} {ad : Nat → Nat} {kl : Nat}   (C0 : Cx D vwCl tlC shC cA ad (ExC ad kl) RX6 cX6_copy 6 (some .int) p s m args meth c)  (S : vS)  (ls : Array Slot) (hl : lv_has ls 6 [(0, .ref (ad 0))]) : SW p l e rm_X6_copy s m args below meth c D vwCl shC cA ad (Fq D vwCl shC cA ad below args s (fun q => some (.int q.1) : (Int32 × vS) → Option Value) (fun q => q.2) (fun _ => True)) (bX6_copy_57 S) S 57 ls [] := by
  rw [bX6_copy_57]
  refine sx_aload_n C0 dX6_copy_57 rfl (lv_at hl 0 rfl) ?_
  refine sx_iconst (v := 1) C0 dX6_copy_58 (by decide) ?_
  refine sw_bind (fun q59 e59 => ?_)
  refine cv_X6_87 (As := [.int (1 : Int32)]) C0 (c_X6_found C0.2.2.2.2.2.2.2.1 (1 : Int32) S _ e59) is6 ⟨rfl, rfl⟩ ⟨Nat.le_of_ble_eq_true rfl, Nat.le_of_ble_eq_true rfl⟩ rfl hl.1 (Nat.le_of_ble_eq_true rfl) rfl dX6_copy_59 (fun _ => ?_)
  exact sx_iret C0 rfl rfl trivial dX6_copy_62
def bX6_copy_92    (S : vS)   : Option (Int32 × vS) := ((mX6_found S (2 : Int32)).bind fun q94 => (some (q94.1, q94.2)))
set_option maxHeartbeats 4000000 in
set_option maxRecDepth 100000 in
theorem bX6_copy_92_t {p : Program} {l : Launch} {e : Env} {s : State} {m : MethodId} {args : Array Value} {below : List Frame} {meth : Method} {c : Code} {D : va_G} {cA : Nat → ClassId} {ad : Nat → Nat} {kl : Nat}   (C0 : Cx D vwCl tlC shC cA ad (ExC ad kl) RX6 cX6_copy 6 (some .int) p s m args meth c)  (S : vS)  (ls : Array Slot) (hl : lv_has ls 6 [(0, .ref (ad 0))]) : SW p l e rm_X6_copy s m args below meth c D vwCl shC cA ad (Fq D vwCl shC cA ad below args s (fun q => some (.int q.1) : (Int32 × vS) → Option Value) (fun q => q.2) (fun _ => True)) (bX6_copy_92 S) S 92 ls [] := by
  rw [bX6_copy_92]
  refine sx_aload_n C0 dX6_copy_92 rfl (lv_at hl 0 rfl) ?_
  refine sx_iconst (v := 2) C0 dX6_copy_93 (by decide) ?_
  refine sw_bind (fun q94 e94 => ?_)
  refine cv_X6_87 (As := [.int (2 : Int32)]) C0 (c_X6_found C0.2.2.2.2.2.2.2.1 (2 : Int32) S _ e94) is6 ⟨rfl, rfl⟩ ⟨Nat.le_of_ble_eq_true rfl, Nat.le_of_ble_eq_true rfl⟩ rfl hl.1 (Nat.le_of_ble_eq_true rfl) rfl dX6_copy_94 (fun _ => ?_)
  exact sx_iret C0 rfl rfl trivial dX6_copy_97
def mX6_copy (S : vS) (v1 : Int32) (v2 : Int32) (v3 : Int32) (v4 : Int32) (v5 : Int32) : Option (Int32 × vS) := (if (mX4_has S 1 6 v1) = 0 then (some ((-1 : Int32), S)) else (if (mX4_has S 1 6 v3) = 0 then (some ((-1 : Int32), S)) else (if 0 ≤ v5 then ((mX4_isThere S 1 6 v1).bind fun a40 => (if a40 = 0 then (bX6_copy_57 S) else ((mX4_isThere S 1 6 v3).bind fun a51 => (if a51 = 0 then (bX6_copy_57 S) else ((mX4_holds S 1 6 v1 v2 v5).bind fun a71 => (if a71 = 0 then (bX6_copy_92 S) else ((mX4_holds S 1 6 v3 v4 v5).bind fun a86 => (if a86 = 0 then (bX6_copy_92 S) else ((mX4_carry S 1 6 v1 v2 v3 v4 v5).bind fun S109 => (some ((1 : Int32), S109))))))))))) else ((mX6_found S (5 : Int32)).bind fun q31 => (some (q31.1, q31.2))))))
set_option maxHeartbeats 4000000 in
set_option maxRecDepth 100000 in
theorem c_X6_copy {l : Launch} {D : va_G} {cA : Nat → ClassId} {ad : Nat → Nat} {kl : Nat} (G : Gx shC ad (ExC ad kl)) (v1 : Int32) (v2 : Int32) (v3 : Int32) (v4 : Int32) (v5 : Int32) (S : vS) (r : (Int32 × vS)) (hr : (mX6_copy S v1 v2 v3 v4 v5) = some r) : Met l yX6_copy (Cond.code yX6_copy cX6_copy 6 (some .int) :: ALL) rm_X6_copy (Po D vwCl tlC shC cA ad (ExC ad kl) [.ref (ad 0), .int v1, .int v2, .int v3, .int v4, .int v5] S) (Qo D vwCl shC cA ad (some (.int r.1)) r.2 True) 0 0 (aw shC ad) := by
  refine Met.sx (M := (mX6_copy S v1 v2 v3 v4 v5)) (rv := (fun q => some (.int q.1) : (Int32 × vS) → Option Value)) (rs := fun q => q.2) (B := fun _ => True) (by decide) ⟨rfl, rfl⟩ (Nat.le_of_ble_eq_true rfl) G (fun p e s m args below meth c C0 ls hl => ?_) hr
  have hl : lv_has ls 6 [(0, .ref (ad 0)), (1, .int v1), (2, .int v2), (3, .int v3), (4, .int v4), (5, .int v5)] := hl
  rw [mX6_copy]
  refine sx_aload_n C0 dX6_copy_0 rfl (lv_at hl 0 rfl) ?_
  refine gf_X6_16 C0 is6 dX6_copy_1 ?_
  refine sx_iload_n C0 dX6_copy_4 rfl (lv_at hl 1 rfl) ?_
  refine cv_X6_83 (As := [.int v1]) C0 (c_X4_has C0.2.2.2.2.2.2.2.1 1 6 is6_rows v1 S) is6_rows.1 ⟨rfl, rfl⟩ ⟨Nat.le_of_ble_eq_true rfl, Nat.le_of_ble_eq_true rfl⟩ rfl hl.1 (Nat.le_of_ble_eq_true rfl) rfl dX6_copy_5 (fun hb5 => ?_)
  refine sx_if_eq (tgt := 22) C0 dX6_copy_8 (by decide) (fun _ => ?_) (fun _ => ?_)
  · refine sx_iconst (v := (-1)) C0 dX6_copy_22 (by decide) ?_
    exact sx_iret C0 rfl rfl trivial dX6_copy_23
  · refine sx_aload_n C0 dX6_copy_11 rfl (lv_at hl 0 rfl) ?_
    refine gf_X6_16 C0 is6 dX6_copy_12 ?_
    refine sx_iload_n C0 dX6_copy_15 rfl (lv_at hl 3 rfl) ?_
    refine cv_X6_83 (As := [.int v3]) C0 (c_X4_has C0.2.2.2.2.2.2.2.1 1 6 is6_rows v3 S) is6_rows.1 ⟨rfl, rfl⟩ ⟨Nat.le_of_ble_eq_true rfl, Nat.le_of_ble_eq_true rfl⟩ rfl hl.1 (Nat.le_of_ble_eq_true rfl) rfl dX6_copy_16 (fun hb16 => ?_)
    refine sx_if_ne (tgt := 24) C0 dX6_copy_19 (by decide) (fun _ => ?_) (fun _ => ?_)
    · refine sx_iconst (v := (-1)) C0 dX6_copy_22 (by decide) ?_
      exact sx_iret C0 rfl rfl trivial dX6_copy_23
    · refine sx_iload C0 dX6_copy_24 (lv_at hl 5 rfl) ?_
      refine sx_if_ge (tgt := 35) C0 dX6_copy_26 (by decide) (fun _ => ?_) (fun _ => ?_)
      · refine sx_aload_n C0 dX6_copy_35 rfl (lv_at hl 0 rfl) ?_
        refine gf_X6_16 C0 is6 dX6_copy_36 ?_
        refine sx_iload_n C0 dX6_copy_39 rfl (lv_at hl 1 rfl) ?_
        refine sw_bind (fun a40 e40 => ?_)
        refine cv_X6_110 (As := [.int v1]) C0 (c_X4_isThere C0.2.2.2.2.2.2.2.1 1 6 is6_rows v1 S _ e40) is6_rows.1 ⟨rfl, rfl⟩ ⟨Nat.le_of_ble_eq_true rfl, Nat.le_of_ble_eq_true rfl⟩ rfl hl.1 (Nat.le_of_ble_eq_true rfl) rfl dX6_copy_40 (fun hb40 => ?_)
        refine sx_if_eq (tgt := 57) C0 dX6_copy_43 (by decide) (fun _ => ?_) (fun _ => ?_)
        · exact bX6_copy_57_t C0 _ _ (lv_sub hl [0] rfl)
        · refine sx_aload_n C0 dX6_copy_46 rfl (lv_at hl 0 rfl) ?_
          refine gf_X6_16 C0 is6 dX6_copy_47 ?_
          refine sx_iload_n C0 dX6_copy_50 rfl (lv_at hl 3 rfl) ?_
          refine sw_bind (fun a51 e51 => ?_)
          refine cv_X6_110 (As := [.int v3]) C0 (c_X4_isThere C0.2.2.2.2.2.2.2.1 1 6 is6_rows v3 S _ e51) is6_rows.1 ⟨rfl, rfl⟩ ⟨Nat.le_of_ble_eq_true rfl, Nat.le_of_ble_eq_true rfl⟩ rfl hl.1 (Nat.le_of_ble_eq_true rfl) rfl dX6_copy_51 (fun hb51 => ?_)
          refine sx_if_ne (tgt := 63) C0 dX6_copy_54 (by decide) (fun _ => ?_) (fun _ => ?_)
          · exact bX6_copy_57_t C0 _ _ (lv_sub hl [0] rfl)
          · refine sx_aload_n C0 dX6_copy_63 rfl (lv_at hl 0 rfl) ?_
            refine gf_X6_16 C0 is6 dX6_copy_64 ?_
            refine sx_iload_n C0 dX6_copy_67 rfl (lv_at hl 1 rfl) ?_
            refine sx_iload_n C0 dX6_copy_68 rfl (lv_at hl 2 rfl) ?_
            refine sx_iload C0 dX6_copy_69 (lv_at hl 5 rfl) ?_
            refine sw_bind (fun a71 e71 => ?_)
            refine cv_X6_116 (As := [.int v1, .int v2, .int v5]) C0 (c_X4_holds C0.2.2.2.2.2.2.2.1 1 6 is6_rows v1 v2 v5 S _ e71) is6_rows.1 ⟨rfl, rfl⟩ ⟨Nat.le_of_ble_eq_true rfl, Nat.le_of_ble_eq_true rfl⟩ rfl hl.1 (Nat.le_of_ble_eq_true rfl) rfl dX6_copy_71 (fun hb71 => ?_)
            refine sx_if_eq (tgt := 92) C0 dX6_copy_74 (by decide) (fun _ => ?_) (fun _ => ?_)
            · exact bX6_copy_92_t C0 _ _ (lv_sub hl [0] rfl)
            · refine sx_aload_n C0 dX6_copy_77 rfl (lv_at hl 0 rfl) ?_
              refine gf_X6_16 C0 is6 dX6_copy_78 ?_
              refine sx_iload_n C0 dX6_copy_81 rfl (lv_at hl 3 rfl) ?_
              refine sx_iload C0 dX6_copy_82 (lv_at hl 4 rfl) ?_
              refine sx_iload C0 dX6_copy_84 (lv_at hl 5 rfl) ?_
              refine sw_bind (fun a86 e86 => ?_)
              refine cv_X6_116 (As := [.int v3, .int v4, .int v5]) C0 (c_X4_holds C0.2.2.2.2.2.2.2.1 1 6 is6_rows v3 v4 v5 S _ e86) is6_rows.1 ⟨rfl, rfl⟩ ⟨Nat.le_of_ble_eq_true rfl, Nat.le_of_ble_eq_true rfl⟩ rfl hl.1 (Nat.le_of_ble_eq_true rfl) rfl dX6_copy_86 (fun hb86 => ?_)
              refine sx_if_ne (tgt := 98) C0 dX6_copy_89 (by decide) (fun _ => ?_) (fun _ => ?_)
              · exact bX6_copy_92_t C0 _ _ (lv_sub hl [0] rfl)
              · refine sx_aload_n C0 dX6_copy_98 rfl (lv_at hl 0 rfl) ?_
                refine gf_X6_16 C0 is6 dX6_copy_99 ?_
                refine sx_iload_n C0 dX6_copy_102 rfl (lv_at hl 1 rfl) ?_
                refine sx_iload_n C0 dX6_copy_103 rfl (lv_at hl 2 rfl) ?_
                refine sx_iload_n C0 dX6_copy_104 rfl (lv_at hl 3 rfl) ?_
                refine sx_iload C0 dX6_copy_105 (lv_at hl 4 rfl) ?_
                refine sx_iload C0 dX6_copy_107 (lv_at hl 5 rfl) ?_
                refine sw_bind (fun S109 e109 => ?_)
                refine cv_X6_120 (As := [.int v1, .int v2, .int v3, .int v4, .int v5]) C0 (c_X4_carry C0.2.2.2.2.2.2.2.1 1 6 is6_rows v1 v2 v3 v4 v5 S _ e109) is6_rows.1 ⟨rfl, rfl⟩ ⟨Nat.le_of_ble_eq_true rfl, Nat.le_of_ble_eq_true rfl⟩ rfl hl.1 (Nat.le_of_ble_eq_true rfl) rfl dX6_copy_109 (fun _ => ?_)
                refine sx_iconst (v := 1) C0 dX6_copy_112 (by decide) ?_
                exact sx_iret C0 rfl rfl trivial dX6_copy_113
      · refine sx_aload_n C0 dX6_copy_29 rfl (lv_at hl 0 rfl) ?_
        refine sx_iconst (v := 5) C0 dX6_copy_30 (by decide) ?_
        refine sw_bind (fun q31 e31 => ?_)
        refine cv_X6_87 (As := [.int (5 : Int32)]) C0 (c_X6_found C0.2.2.2.2.2.2.2.1 (5 : Int32) S _ e31) is6 ⟨rfl, rfl⟩ ⟨Nat.le_of_ble_eq_true rfl, Nat.le_of_ble_eq_true rfl⟩ rfl hl.1 (Nat.le_of_ble_eq_true rfl) rfl dX6_copy_31 (fun _ => ?_)
        exact sx_iret C0 rfl rfl trivial dX6_copy_34
abbrev rm_X6_mean : Room := { frames := 5, cells := 0, slots := 0, locals := 111 }
def mX6_mean (S : vS) (v1 : Int32) : Option (Int32 × vS) := (if (mX4_has S 1 6 v1) = 0 then (some ((-1 : Int32), S)) else ((mX4_isThere S 1 6 v1).bind fun a18 => (if a18 = 0 then ((mX6_found S (1 : Int32)).bind fun q26 => (some (q26.1, q26.2))) else ((mX4_size S 1 6 v1).bind fun a35 => (if 0 < a35 then ((mX4_total S 1 6 v1).bind fun a55 => ((dL a55 (Int32.toInt64 a35)).bind fun a60 => (lt (mX6_tell S (Int64.toInt32 a60)) fun S62 => (some ((1 : Int32), S62))))) else ((mX6_found S (4 : Int32)).bind fun q45 => (some (q45.1, q45.2))))))))
set_option maxHeartbeats 4000000 in
set_option maxRecDepth 100000 in
theorem c_X6_mean {l : Launch} {D : va_G} {cA : Nat → ClassId} {ad : Nat → Nat} {kl : Nat} (G : Gx shC ad (ExC ad kl)) (v1 : Int32) (S : vS) (r : (Int32 × vS)) (hr : (mX6_mean S v1) = some r) : Met l yX6_mean (Cond.code yX6_mean cX6_mean 3 (some .int) :: ALL) rm_X6_mean (Po D vwCl tlC shC cA ad (ExC ad kl) [.ref (ad 0), .int v1] S) (Qo D vwCl shC cA ad (some (.int r.1)) r.2 True) 0 0 (aw shC ad) := by
  refine Met.sx (M := (mX6_mean S v1)) (rv := (fun q => some (.int q.1) : (Int32 × vS) → Option Value)) (rs := fun q => q.2) (B := fun _ => True) (by decide) ⟨rfl, rfl⟩ (Nat.le_of_ble_eq_true rfl) G (fun p e s m args below meth c C0 ls hl => ?_) hr
  have hl : lv_has ls 3 [(0, .ref (ad 0)), (1, .int v1)] := hl
  rw [mX6_mean]
  refine sx_aload_n C0 dX6_mean_0 rfl (lv_at hl 0 rfl) ?_
  refine gf_X6_16 C0 is6 dX6_mean_1 ?_
  refine sx_iload_n C0 dX6_mean_4 rfl (lv_at hl 1 rfl) ?_
  refine cv_X6_83 (As := [.int v1]) C0 (c_X4_has C0.2.2.2.2.2.2.2.1 1 6 is6_rows v1 S) is6_rows.1 ⟨rfl, rfl⟩ ⟨Nat.le_of_ble_eq_true rfl, Nat.le_of_ble_eq_true rfl⟩ rfl hl.1 (Nat.le_of_ble_eq_true rfl) rfl dX6_mean_5 (fun hb5 => ?_)
  refine sx_if_ne (tgt := 13) C0 dX6_mean_8 (by decide) (fun _ => ?_) (fun _ => ?_)
  · refine sx_iconst (v := (-1)) C0 dX6_mean_11 (by decide) ?_
    exact sx_iret C0 rfl rfl trivial dX6_mean_12
  · refine sx_aload_n C0 dX6_mean_13 rfl (lv_at hl 0 rfl) ?_
    refine gf_X6_16 C0 is6 dX6_mean_14 ?_
    refine sx_iload_n C0 dX6_mean_17 rfl (lv_at hl 1 rfl) ?_
    refine sw_bind (fun a18 e18 => ?_)
    refine cv_X6_110 (As := [.int v1]) C0 (c_X4_isThere C0.2.2.2.2.2.2.2.1 1 6 is6_rows v1 S _ e18) is6_rows.1 ⟨rfl, rfl⟩ ⟨Nat.le_of_ble_eq_true rfl, Nat.le_of_ble_eq_true rfl⟩ rfl hl.1 (Nat.le_of_ble_eq_true rfl) rfl dX6_mean_18 (fun hb18 => ?_)
    refine sx_if_ne (tgt := 30) C0 dX6_mean_21 (by decide) (fun _ => ?_) (fun _ => ?_)
    · refine sx_aload_n C0 dX6_mean_24 rfl (lv_at hl 0 rfl) ?_
      refine sx_iconst (v := 1) C0 dX6_mean_25 (by decide) ?_
      refine sw_bind (fun q26 e26 => ?_)
      refine cv_X6_87 (As := [.int (1 : Int32)]) C0 (c_X6_found C0.2.2.2.2.2.2.2.1 (1 : Int32) S _ e26) is6 ⟨rfl, rfl⟩ ⟨Nat.le_of_ble_eq_true rfl, Nat.le_of_ble_eq_true rfl⟩ rfl hl.1 (Nat.le_of_ble_eq_true rfl) rfl dX6_mean_26 (fun _ => ?_)
      exact sx_iret C0 rfl rfl trivial dX6_mean_29
    · refine sx_aload_n C0 dX6_mean_30 rfl (lv_at hl 0 rfl) ?_
      refine gf_X6_16 C0 is6 dX6_mean_31 ?_
      refine sx_iload_n C0 dX6_mean_34 rfl (lv_at hl 1 rfl) ?_
      refine sw_bind (fun a35 e35 => ?_)
      refine cv_X6_124 (As := [.int v1]) C0 (c_X4_size C0.2.2.2.2.2.2.2.1 1 6 is6_rows v1 S _ e35) is6_rows.1 ⟨rfl, rfl⟩ ⟨Nat.le_of_ble_eq_true rfl, Nat.le_of_ble_eq_true rfl⟩ rfl hl.1 (Nat.le_of_ble_eq_true rfl) rfl dX6_mean_35 (fun _ => ?_)
      refine sx_istore_n (lv' := [(2, .int a35), (0, .ref (ad 0)), (1, .int v1)]) C0 dX6_mean_38 rfl hl (by decide) rfl (fun ls hl => ?_)
      refine sx_iload_n C0 dX6_mean_39 rfl (lv_at hl 0 rfl) ?_
      refine sx_if_gt (tgt := 49) C0 dX6_mean_40 (by decide) (fun _ => ?_) (fun _ => ?_)
      · refine sx_aload_n C0 dX6_mean_49 rfl (lv_at hl 1 rfl) ?_
        refine sx_aload_n C0 dX6_mean_50 rfl (lv_at hl 1 rfl) ?_
        refine gf_X6_16 C0 is6 dX6_mean_51 ?_
        refine sx_iload_n C0 dX6_mean_54 rfl (lv_at hl 2 rfl) ?_
        refine sw_bind (fun a55 e55 => ?_)
        refine cv_X6_127 (As := [.int v1]) C0 (c_X4_total C0.2.2.2.2.2.2.2.1 1 6 is6_rows v1 S _ e55) is6_rows.1 ⟨rfl, rfl⟩ ⟨Nat.le_of_ble_eq_true rfl, Nat.le_of_ble_eq_true rfl⟩ rfl hl.1 (Nat.le_of_ble_eq_true rfl) rfl dX6_mean_55 (fun _ => ?_)
        refine sx_iload_n C0 dX6_mean_58 rfl (lv_at hl 0 rfl) ?_
        refine sx_i2l C0 dX6_mean_59 ?_
        refine sx_ldivO C0 dX6_mean_60 (fun a60 => ?_)
        refine sx_l2i C0 dX6_mean_61 ?_
        refine cv_X6_103 (As := [.int (Int64.toInt32 a60)]) C0 (c_X6_tell C0.2.2.2.2.2.2.2.1 (Int64.toInt32 a60) S) is6 ⟨rfl, rfl⟩ ⟨Nat.le_of_ble_eq_true rfl, Nat.le_of_ble_eq_true rfl⟩ rfl hl.1 (Nat.le_of_ble_eq_true rfl) rfl dX6_mean_62 (fun _ => ?_)
        refine sw_ltS (fun S62 => ?_)
        refine sx_iconst (v := 1) C0 dX6_mean_65 (by decide) ?_
        exact sx_iret C0 rfl rfl trivial dX6_mean_66
      · refine sx_aload_n C0 dX6_mean_43 rfl (lv_at hl 1 rfl) ?_
        refine sx_iconst (v := 4) C0 dX6_mean_44 (by decide) ?_
        refine sw_bind (fun q45 e45 => ?_)
        refine cv_X6_87 (As := [.int (4 : Int32)]) C0 (c_X6_found C0.2.2.2.2.2.2.2.1 (4 : Int32) S _ e45) is6 ⟨rfl, rfl⟩ ⟨Nat.le_of_ble_eq_true rfl, Nat.le_of_ble_eq_true rfl⟩ rfl hl.1 (Nat.le_of_ble_eq_true rfl) rfl dX6_mean_45 (fun _ => ?_)
        exact sx_iret C0 rfl rfl trivial dX6_mean_48
abbrev rm_X6_text : Room := { frames := 3, cells := 0, slots := 0, locals := 69 }
def mX6_text (S : vS) (v1 : Int32) (v2 : Int32) : Option (Int32 × vS) := (if (mX4_has S 10 4 v1) = 0 then (some ((-1 : Int32), S)) else (if v2 ≤ (60 : Int32) then (if 0 ≤ v2 then ((mX4_make S 10 4 v1 v2 (32 : Int32)).bind fun S37 => (some (v2, S37))) else ((mX6_found S (5 : Int32)).bind fun q25 => (some (q25.1, q25.2)))) else (some ((-1 : Int32), S))))
set_option maxHeartbeats 4000000 in
set_option maxRecDepth 100000 in
theorem c_X6_text {l : Launch} {D : va_G} {cA : Nat → ClassId} {ad : Nat → Nat} {kl : Nat} (G : Gx shC ad (ExC ad kl)) (v1 : Int32) (v2 : Int32) (S : vS) (r : (Int32 × vS)) (hr : (mX6_text S v1 v2) = some r) : Met l yX6_text (Cond.code yX6_text cX6_text 3 (some .int) :: ALL) rm_X6_text (Po D vwCl tlC shC cA ad (ExC ad kl) [.ref (ad 0), .int v1, .int v2] S) (Qo D vwCl shC cA ad (some (.int r.1)) r.2 True) 0 0 (aw shC ad) := by
  refine Met.sx (M := (mX6_text S v1 v2)) (rv := (fun q => some (.int q.1) : (Int32 × vS) → Option Value)) (rs := fun q => q.2) (B := fun _ => True) (by decide) ⟨rfl, rfl⟩ (Nat.le_of_ble_eq_true rfl) G (fun p e s m args below meth c C0 ls hl => ?_) hr
  have hl : lv_has ls 3 [(0, .ref (ad 0)), (1, .int v1), (2, .int v2)] := hl
  rw [mX6_text]
  refine sx_aload_n C0 dX6_text_0 rfl (lv_at hl 0 rfl) ?_
  refine gf_X6_20 C0 is6 dX6_text_1 ?_
  refine sx_iload_n C0 dX6_text_4 rfl (lv_at hl 1 rfl) ?_
  refine cv_X6_83 (As := [.int v1]) C0 (c_X4_has C0.2.2.2.2.2.2.2.1 10 4 is6_texts v1 S) is6_texts.1 ⟨rfl, rfl⟩ ⟨Nat.le_of_ble_eq_true rfl, Nat.le_of_ble_eq_true rfl⟩ rfl hl.1 (Nat.le_of_ble_eq_true rfl) rfl dX6_text_5 (fun hb5 => ?_)
  refine sx_if_eq (tgt := 17) C0 dX6_text_8 (by decide) (fun _ => ?_) (fun _ => ?_)
  · refine sx_iconst (v := (-1)) C0 dX6_text_17 (by decide) ?_
    exact sx_iret C0 rfl rfl trivial dX6_text_18
  · refine sx_iload_n C0 dX6_text_11 rfl (lv_at hl 2 rfl) ?_
    refine sx_bipush (v := 60) C0 dX6_text_12 (by decide) ?_
    refine sx_icmp_le (tgt := 19) C0 dX6_text_14 (by decide) (fun _ => ?_) (fun _ => ?_)
    · refine sx_iload_n C0 dX6_text_19 rfl (lv_at hl 2 rfl) ?_
      refine sx_if_ge (tgt := 29) C0 dX6_text_20 (by decide) (fun _ => ?_) (fun _ => ?_)
      · refine sx_aload_n C0 dX6_text_29 rfl (lv_at hl 0 rfl) ?_
        refine gf_X6_20 C0 is6 dX6_text_30 ?_
        refine sx_iload_n C0 dX6_text_33 rfl (lv_at hl 1 rfl) ?_
        refine sx_iload_n C0 dX6_text_34 rfl (lv_at hl 2 rfl) ?_
        refine sx_bipush (v := 32) C0 dX6_text_35 (by decide) ?_
        refine sw_bind (fun S37 e37 => ?_)
        refine cv_X6_91 (As := [.int v1, .int v2, .int (32 : Int32)]) C0 (c_X4_make C0.2.2.2.2.2.2.2.1 10 4 is6_texts v1 v2 (32 : Int32) S _ e37) is6_texts.1 ⟨rfl, rfl⟩ ⟨Nat.le_of_ble_eq_true rfl, Nat.le_of_ble_eq_true rfl⟩ rfl hl.1 (Nat.le_of_ble_eq_true rfl) rfl dX6_text_37 (fun _ => ?_)
        refine sx_iload_n C0 dX6_text_40 rfl (lv_at hl 2 rfl) ?_
        exact sx_iret C0 rfl rfl trivial dX6_text_41
      · refine sx_aload_n C0 dX6_text_23 rfl (lv_at hl 0 rfl) ?_
        refine sx_iconst (v := 5) C0 dX6_text_24 (by decide) ?_
        refine sw_bind (fun q25 e25 => ?_)
        refine cv_X6_87 (As := [.int (5 : Int32)]) C0 (c_X6_found C0.2.2.2.2.2.2.2.1 (5 : Int32) S _ e25) is6 ⟨rfl, rfl⟩ ⟨Nat.le_of_ble_eq_true rfl, Nat.le_of_ble_eq_true rfl⟩ rfl hl.1 (Nat.le_of_ble_eq_true rfl) rfl dX6_text_25 (fun _ => ?_)
        exact sx_iret C0 rfl rfl trivial dX6_text_28
    · refine sx_iconst (v := (-1)) C0 dX6_text_17 (by decide) ?_
      exact sx_iret C0 rfl rfl trivial dX6_text_18
abbrev rm_X6_put : Room := { frames := 4, cells := 0, slots := 0, locals := 88 }
def mX6_put (S : vS) (v1 : Int32) (v2 : Int32) (v3 : Int32) : Option (Int32 × vS) := (if (mX4_has S 10 4 v1) = 0 then (some ((-1 : Int32), S)) else ((mX6_placeRefused S 10 4 v1 v2).bind fun q20 => (lt q20.1 fun v4_23 => (if v4_23 = 0 then ((mX4_read q20.2 10 4 v1 v2).bind fun a39 => ((mX4_write q20.2 10 4 v1 v2 (Int8.toInt32 (Int32.toInt8 v3))).bind fun S52 => (some ((a39 + (1000 : Int32)), S52)))) else (some (v4_23, q20.2))))))
set_option maxHeartbeats 4000000 in
set_option maxRecDepth 100000 in
theorem c_X6_put {l : Launch} {D : va_G} {cA : Nat → ClassId} {ad : Nat → Nat} {kl : Nat} (G : Gx shC ad (ExC ad kl)) (v1 : Int32) (v2 : Int32) (v3 : Int32) (S : vS) (r : (Int32 × vS)) (hr : (mX6_put S v1 v2 v3) = some r) : Met l yX6_put (Cond.code yX6_put cX6_put 6 (some .int) :: ALL) rm_X6_put (Po D vwCl tlC shC cA ad (ExC ad kl) [.ref (ad 0), .int v1, .int v2, .int v3] S) (Qo D vwCl shC cA ad (some (.int r.1)) r.2 True) 0 0 (aw shC ad) := by
  refine Met.sx (M := (mX6_put S v1 v2 v3)) (rv := (fun q => some (.int q.1) : (Int32 × vS) → Option Value)) (rs := fun q => q.2) (B := fun _ => True) (by decide) ⟨rfl, rfl⟩ (Nat.le_of_ble_eq_true rfl) G (fun p e s m args below meth c C0 ls hl => ?_) hr
  have hl : lv_has ls 6 [(0, .ref (ad 0)), (1, .int v1), (2, .int v2), (3, .int v3)] := hl
  rw [mX6_put]
  refine sx_aload_n C0 dX6_put_0 rfl (lv_at hl 0 rfl) ?_
  refine gf_X6_20 C0 is6 dX6_put_1 ?_
  refine sx_iload_n C0 dX6_put_4 rfl (lv_at hl 1 rfl) ?_
  refine cv_X6_83 (As := [.int v1]) C0 (c_X4_has C0.2.2.2.2.2.2.2.1 10 4 is6_texts v1 S) is6_texts.1 ⟨rfl, rfl⟩ ⟨Nat.le_of_ble_eq_true rfl, Nat.le_of_ble_eq_true rfl⟩ rfl hl.1 (Nat.le_of_ble_eq_true rfl) rfl dX6_put_5 (fun hb5 => ?_)
  refine sx_if_ne (tgt := 13) C0 dX6_put_8 (by decide) (fun _ => ?_) (fun _ => ?_)
  · refine sx_iconst (v := (-1)) C0 dX6_put_11 (by decide) ?_
    exact sx_iret C0 rfl rfl trivial dX6_put_12
  · refine sx_aload_n C0 dX6_put_13 rfl (lv_at hl 0 rfl) ?_
    refine sx_aload_n C0 dX6_put_14 rfl (lv_at hl 0 rfl) ?_
    refine gf_X6_20 C0 is6 dX6_put_15 ?_
    refine sx_iload_n C0 dX6_put_18 rfl (lv_at hl 1 rfl) ?_
    refine sx_iload_n C0 dX6_put_19 rfl (lv_at hl 2 rfl) ?_
    refine sw_bind (fun q20 e20 => ?_)
    refine cv_X6_95 (As := [.ref (ad 10), .int v1, .int v2]) C0 (c_X6_placeRefused C0.2.2.2.2.2.2.2.1 10 4 is6_texts v1 v2 S _ e20) is6 ⟨rfl, rfl⟩ ⟨Nat.le_of_ble_eq_true rfl, Nat.le_of_ble_eq_true rfl⟩ rfl hl.1 (Nat.le_of_ble_eq_true rfl) rfl dX6_put_20 (fun _ => ?_)
    refine sw_lt (val := .int) (fun v4_23 => ?_)
    refine sx_istore (lv' := [(4, .int v4_23), (0, .ref (ad 0)), (1, .int v1), (2, .int v2), (3, .int v3)]) C0 dX6_put_23 hl (by decide) rfl (fun ls hl => ?_)
    refine sx_iload C0 dX6_put_25 (lv_at hl 0 rfl) ?_
    refine sx_if_eq (tgt := 33) C0 dX6_put_27 (by decide) (fun _ => ?_) (fun _ => ?_)
    · refine sx_aload_n C0 dX6_put_33 rfl (lv_at hl 1 rfl) ?_
      refine gf_X6_20 C0 is6 dX6_put_34 ?_
      refine sx_iload_n C0 dX6_put_37 rfl (lv_at hl 2 rfl) ?_
      refine sx_iload_n C0 dX6_put_38 rfl (lv_at hl 3 rfl) ?_
      refine sw_bind (fun a39 e39 => ?_)
      refine cv_X6_99 (As := [.int v1, .int v2]) C0 (c_X4_read C0.2.2.2.2.2.2.2.1 10 4 is6_texts v1 v2 q20.2 _ e39) is6_texts.1 ⟨rfl, rfl⟩ ⟨Nat.le_of_ble_eq_true rfl, Nat.le_of_ble_eq_true rfl⟩ rfl hl.1 (Nat.le_of_ble_eq_true rfl) rfl dX6_put_39 (fun _ => ?_)
      refine sx_istore (lv' := [(5, .int a39), (4, .int v4_23), (0, .ref (ad 0)), (1, .int v1), (2, .int v2), (3, .int v3)]) C0 dX6_put_42 hl (by decide) rfl (fun ls hl => ?_)
      refine sx_aload_n C0 dX6_put_44 rfl (lv_at hl 2 rfl) ?_
      refine gf_X6_20 C0 is6 dX6_put_45 ?_
      refine sx_iload_n C0 dX6_put_48 rfl (lv_at hl 3 rfl) ?_
      refine sx_iload_n C0 dX6_put_49 rfl (lv_at hl 4 rfl) ?_
      refine sx_iload_n C0 dX6_put_50 rfl (lv_at hl 5 rfl) ?_
      refine sx_i2b C0 dX6_put_51 ?_
      refine sw_bind (fun S52 e52 => ?_)
      refine cv_X6_107 (As := [.int v1, .int v2, .int (Int8.toInt32 (Int32.toInt8 v3))]) C0 (c_X4_write C0.2.2.2.2.2.2.2.1 10 4 is6_texts v1 v2 (Int8.toInt32 (Int32.toInt8 v3)) q20.2 _ e52) is6_texts.1 ⟨rfl, rfl⟩ ⟨Nat.le_of_ble_eq_true rfl, Nat.le_of_ble_eq_true rfl⟩ rfl hl.1 (Nat.le_of_ble_eq_true rfl) rfl dX6_put_52 (fun _ => ?_)
      refine sx_iload C0 dX6_put_55 (lv_at hl 0 rfl) ?_
      refine sx_sipush (v := 1000) C0 dX6_put_57 (by decide) ?_
      refine sx_iadd C0 dX6_put_60 ?_
      exact sx_iret C0 rfl rfl trivial dX6_put_61
    · refine sx_iload C0 dX6_put_30 (lv_at hl 0 rfl) ?_
      exact sx_iret C0 rfl rfl trivial dX6_put_32
abbrev rm_X6_fault : Room := { frames := 5, cells := 0, slots := 0, locals := 110 }
def mX6_fault (S : vS) (v1 : Int32) : Option (Int32 × vS) := (if (mX4_has S 10 4 v1) = 0 then (some ((-1 : Int32), S)) else ((mX4_isThere S 10 4 v1).bind fun a18 => (if a18 = 0 then ((mX6_found S (1 : Int32)).bind fun q26 => (some (q26.1, q26.2))) else ((mX2_firstFault S 17 10 4 v1).bind fun q39 => (some (q39.1, q39.2))))))
set_option maxHeartbeats 4000000 in
set_option maxRecDepth 100000 in
theorem c_X6_fault {l : Launch} {D : va_G} {cA : Nat → ClassId} {ad : Nat → Nat} {kl : Nat} (G : Gx shC ad (ExC ad kl)) (v1 : Int32) (S : vS) (r : (Int32 × vS)) (hr : (mX6_fault S v1) = some r) : Met l yX6_fault (Cond.code yX6_fault cX6_fault 2 (some .int) :: ALL) rm_X6_fault (Po D vwCl tlC shC cA ad (ExC ad kl) [.ref (ad 0), .int v1] S) (Qo D vwCl shC cA ad (some (.int r.1)) r.2 True) 0 0 (aw shC ad) := by
  refine Met.sx (M := (mX6_fault S v1)) (rv := (fun q => some (.int q.1) : (Int32 × vS) → Option Value)) (rs := fun q => q.2) (B := fun _ => True) (by decide) ⟨rfl, rfl⟩ (Nat.le_of_ble_eq_true rfl) G (fun p e s m args below meth c C0 ls hl => ?_) hr
  have hl : lv_has ls 2 [(0, .ref (ad 0)), (1, .int v1)] := hl
  rw [mX6_fault]
  refine sx_aload_n C0 dX6_fault_0 rfl (lv_at hl 0 rfl) ?_
  refine gf_X6_20 C0 is6 dX6_fault_1 ?_
  refine sx_iload_n C0 dX6_fault_4 rfl (lv_at hl 1 rfl) ?_
  refine cv_X6_83 (As := [.int v1]) C0 (c_X4_has C0.2.2.2.2.2.2.2.1 10 4 is6_texts v1 S) is6_texts.1 ⟨rfl, rfl⟩ ⟨Nat.le_of_ble_eq_true rfl, Nat.le_of_ble_eq_true rfl⟩ rfl hl.1 (Nat.le_of_ble_eq_true rfl) rfl dX6_fault_5 (fun hb5 => ?_)
  refine sx_if_ne (tgt := 13) C0 dX6_fault_8 (by decide) (fun _ => ?_) (fun _ => ?_)
  · refine sx_iconst (v := (-1)) C0 dX6_fault_11 (by decide) ?_
    exact sx_iret C0 rfl rfl trivial dX6_fault_12
  · refine sx_aload_n C0 dX6_fault_13 rfl (lv_at hl 0 rfl) ?_
    refine gf_X6_20 C0 is6 dX6_fault_14 ?_
    refine sx_iload_n C0 dX6_fault_17 rfl (lv_at hl 1 rfl) ?_
    refine sw_bind (fun a18 e18 => ?_)
    refine cv_X6_110 (As := [.int v1]) C0 (c_X4_isThere C0.2.2.2.2.2.2.2.1 10 4 is6_texts v1 S _ e18) is6_texts.1 ⟨rfl, rfl⟩ ⟨Nat.le_of_ble_eq_true rfl, Nat.le_of_ble_eq_true rfl⟩ rfl hl.1 (Nat.le_of_ble_eq_true rfl) rfl dX6_fault_18 (fun hb18 => ?_)
    refine sx_if_ne (tgt := 30) C0 dX6_fault_21 (by decide) (fun _ => ?_) (fun _ => ?_)
    · refine sx_aload_n C0 dX6_fault_24 rfl (lv_at hl 0 rfl) ?_
      refine sx_iconst (v := 1) C0 dX6_fault_25 (by decide) ?_
      refine sw_bind (fun q26 e26 => ?_)
      refine cv_X6_87 (As := [.int (1 : Int32)]) C0 (c_X6_found C0.2.2.2.2.2.2.2.1 (1 : Int32) S _ e26) is6 ⟨rfl, rfl⟩ ⟨Nat.le_of_ble_eq_true rfl, Nat.le_of_ble_eq_true rfl⟩ rfl hl.1 (Nat.le_of_ble_eq_true rfl) rfl dX6_fault_26 (fun _ => ?_)
      exact sx_iret C0 rfl rfl trivial dX6_fault_29
    · refine sx_aload_n C0 dX6_fault_30 rfl (lv_at hl 0 rfl) ?_
      refine gf_X6_26 C0 is6 dX6_fault_31 ?_
      refine sx_aload_n C0 dX6_fault_34 rfl (lv_at hl 0 rfl) ?_
      refine gf_X6_20 C0 is6 dX6_fault_35 ?_
      refine sx_iload_n C0 dX6_fault_38 rfl (lv_at hl 1 rfl) ?_
      refine sw_bind (fun q39 e39 => ?_)
      refine cv_X6_131 (As := [.ref (ad 10), .int v1]) C0 (c_X2_firstFault C0.2.2.2.2.2.2.2.1 17 is6_reader 10 4 is6_texts v1 S _ e39) is6_reader.1 ⟨rfl, rfl⟩ ⟨Nat.le_of_ble_eq_true rfl, Nat.le_of_ble_eq_true rfl⟩ rfl hl.1 (Nat.le_of_ble_eq_true rfl) rfl dX6_fault_39 (fun _ => ?_)
      exact sx_iret C0 rfl rfl trivial dX6_fault_42
abbrev rm_X6_valley : Room := { frames := 5, cells := 0, slots := 0, locals := 110 }
def bX6_valley_98    (S : vS)   : Option (Int32 × vS) := (some ((S.1 (30 + 1) 0), S))
set_option maxHeartbeats 4000000 in
set_option maxRecDepth 100000 in
theorem bX6_valley_98_t {p : Program} {l : Launch} {e : Env} {s : State} {m : MethodId} {args : Array Value} {below : List Frame} {meth : Method} {c : Code} {D : va_G} {cA : Nat → ClassId} {ad : Nat → Nat} {kl : Nat}   (C0 : Cx D vwCl tlC shC cA ad (ExC ad kl) RX6 cX6_valley 3 (some .int) p s m args meth c)  (S : vS)  (ls : Array Slot) (hl : lv_has ls 3 [(0, .ref (ad 0))]) : SW p l e rm_X6_valley s m args below meth c D vwCl shC cA ad (Fq D vwCl shC cA ad below args s (fun q => some (.int q.1) : (Int32 × vS) → Option Value) (fun q => q.2) (fun _ => True)) (bX6_valley_98 S) S 98 ls [] := by
  rw [bX6_valley_98]
  refine sx_aload_n C0 dX6_valley_98 rfl (lv_at hl 0 rfl) ?_
  refine gf_X6_33 C0 is6 dX6_valley_99 ?_
  refine gf_X6_149 C0 is6_village.1 dX6_valley_102 ?_
  refine gf_X6_150 C0 is6_village.2.1.1 dX6_valley_105 ?_
  exact sx_iret C0 rfl rfl trivial dX6_valley_108
def lX6_valley_73     : Nat → vS → Int32 → Option (Int32 × vS)
  | 0, _, _ => none
  | n + 1, S, v2 => (if (3 : Int32) ≤ v2 then (bX6_valley_98 S) else ((aI [47, 63, 79] v2).bind fun x87 => (lt (wI S x87 2 (0 : Int32)) fun S89 => ((lX6_valley_73 n) S89 (v2 + (1 : Int32))))))
set_option maxHeartbeats 4000000 in
set_option maxRecDepth 100000 in
theorem lX6_valley_73_t {p : Program} {l : Launch} {e : Env} {s : State} {m : MethodId} {args : Array Value} {below : List Frame} {meth : Method} {c : Code} {D : va_G} {cA : Nat → ClassId} {ad : Nat → Nat} {kl : Nat}   (C0 : Cx D vwCl tlC shC cA ad (ExC ad kl) RX6 cX6_valley 3 (some .int) p s m args meth c)     : ∀ (n : Nat) (S : vS) (v2 : Int32) (ls : Array Slot), lv_has ls 3 [(0, .ref (ad 0)), (2, .int v2)] → SW p l e rm_X6_valley s m args below meth c D vwCl shC cA ad (Fq D vwCl shC cA ad below args s (fun q => some (.int q.1) : (Int32 × vS) → Option Value) (fun q => q.2) (fun _ => True)) (lX6_valley_73 n S v2) S 73 ls [] := by
  intro n
  induction n with
  | zero =>
    intro S v2 ls hl
    rw [lX6_valley_73]
    exact sw_none
  | succ n ih =>
    intro S v2 ls hl
    rw [lX6_valley_73]
    refine sx_iload_n C0 dX6_valley_73 rfl (lv_at hl 1 rfl) ?_
    refine sx_aload_n C0 dX6_valley_74 rfl (lv_at hl 0 rfl) ?_
    refine gf_X6_37 C0 is6 dX6_valley_75 ?_
    refine sx_alenR (v := (3 : Int32)) C0 is6_keptOnes rfl rfl dX6_valley_78 ?_
    refine sx_icmp_ge (tgt := 98) C0 dX6_valley_79 (by decide) (fun _ => ?_) (fun _ => ?_)
    · exact bX6_valley_98_t C0 _ _ (lv_sub hl [0] rfl)
    · refine sx_aload_n C0 dX6_valley_82 rfl (lv_at hl 0 rfl) ?_
      refine gf_X6_37 C0 is6 dX6_valley_83 ?_
      refine sx_iload_n C0 dX6_valley_86 rfl (lv_at hl 1 rfl) ?_
      refine sx_aald C0 is6_keptOnes rfl rfl dX6_valley_87 (fun x87 hx87 => ?_)
      refine sx_iconst (v := 0) C0 dX6_valley_88 (by decide) ?_
      refine pf_X6_145 C0 (is6_keptOnesE x87 hx87).1 (Or.inl rfl) dX6_valley_89 (fun S89 => ?_)
      refine sx_iinc (v := (v2 + (1 : Int32))) (lv' := [(2, .int (v2 + (1 : Int32))), (0, .ref (ad 0))]) C0 dX6_valley_92 hl (k := 1) rfl rfl (by decide) rfl (fun ls hl => ?_)
      refine sx_goto (tgt := 73) C0 dX6_valley_95 (by decide) ?_
      exact ih _ _ _ (lv_sub hl [1, 0] rfl)
def mX6_valley (S : vS) (v1 : Int32) : Option (Int32 × vS) := (if (mX4_has S 10 4 v1) = 0 then (some ((-1 : Int32), S)) else ((mX4_isThere S 10 4 v1).bind fun a18 => (if a18 = 0 then ((mX6_found S (1 : Int32)).bind fun q26 => (some (q26.1, q26.2))) else ((mX2_firstFault S 17 10 4 v1).bind fun q39 => (if q39.1 = (-9 : Int32) then ((mX5_begin q39.2 30 (17 + 1) (17 + 11) 3).bind fun S68 => (lX6_valley_73 FU S68 (0 : Int32))) else (some ((-4 : Int32), q39.2)))))))
set_option maxHeartbeats 4000000 in
set_option maxRecDepth 100000 in
theorem c_X6_valley {l : Launch} {D : va_G} {cA : Nat → ClassId} {ad : Nat → Nat} {kl : Nat} (G : Gx shC ad (ExC ad kl)) (v1 : Int32) (S : vS) (r : (Int32 × vS)) (hr : (mX6_valley S v1) = some r) : Met l yX6_valley (Cond.code yX6_valley cX6_valley 3 (some .int) :: ALL) rm_X6_valley (Po D vwCl tlC shC cA ad (ExC ad kl) [.ref (ad 0), .int v1] S) (Qo D vwCl shC cA ad (some (.int r.1)) r.2 True) 0 0 (aw shC ad) := by
  refine Met.sx (M := (mX6_valley S v1)) (rv := (fun q => some (.int q.1) : (Int32 × vS) → Option Value)) (rs := fun q => q.2) (B := fun _ => True) (by decide) ⟨rfl, rfl⟩ (Nat.le_of_ble_eq_true rfl) G (fun p e s m args below meth c C0 ls hl => ?_) hr
  have hl : lv_has ls 3 [(0, .ref (ad 0)), (1, .int v1)] := hl
  rw [mX6_valley]
  refine sx_aload_n C0 dX6_valley_0 rfl (lv_at hl 0 rfl) ?_
  refine gf_X6_20 C0 is6 dX6_valley_1 ?_
  refine sx_iload_n C0 dX6_valley_4 rfl (lv_at hl 1 rfl) ?_
  refine cv_X6_83 (As := [.int v1]) C0 (c_X4_has C0.2.2.2.2.2.2.2.1 10 4 is6_texts v1 S) is6_texts.1 ⟨rfl, rfl⟩ ⟨Nat.le_of_ble_eq_true rfl, Nat.le_of_ble_eq_true rfl⟩ rfl hl.1 (Nat.le_of_ble_eq_true rfl) rfl dX6_valley_5 (fun hb5 => ?_)
  refine sx_if_ne (tgt := 13) C0 dX6_valley_8 (by decide) (fun _ => ?_) (fun _ => ?_)
  · refine sx_iconst (v := (-1)) C0 dX6_valley_11 (by decide) ?_
    exact sx_iret C0 rfl rfl trivial dX6_valley_12
  · refine sx_aload_n C0 dX6_valley_13 rfl (lv_at hl 0 rfl) ?_
    refine gf_X6_20 C0 is6 dX6_valley_14 ?_
    refine sx_iload_n C0 dX6_valley_17 rfl (lv_at hl 1 rfl) ?_
    refine sw_bind (fun a18 e18 => ?_)
    refine cv_X6_110 (As := [.int v1]) C0 (c_X4_isThere C0.2.2.2.2.2.2.2.1 10 4 is6_texts v1 S _ e18) is6_texts.1 ⟨rfl, rfl⟩ ⟨Nat.le_of_ble_eq_true rfl, Nat.le_of_ble_eq_true rfl⟩ rfl hl.1 (Nat.le_of_ble_eq_true rfl) rfl dX6_valley_18 (fun hb18 => ?_)
    refine sx_if_ne (tgt := 30) C0 dX6_valley_21 (by decide) (fun _ => ?_) (fun _ => ?_)
    · refine sx_aload_n C0 dX6_valley_24 rfl (lv_at hl 0 rfl) ?_
      refine sx_iconst (v := 1) C0 dX6_valley_25 (by decide) ?_
      refine sw_bind (fun q26 e26 => ?_)
      refine cv_X6_87 (As := [.int (1 : Int32)]) C0 (c_X6_found C0.2.2.2.2.2.2.2.1 (1 : Int32) S _ e26) is6 ⟨rfl, rfl⟩ ⟨Nat.le_of_ble_eq_true rfl, Nat.le_of_ble_eq_true rfl⟩ rfl hl.1 (Nat.le_of_ble_eq_true rfl) rfl dX6_valley_26 (fun _ => ?_)
      exact sx_iret C0 rfl rfl trivial dX6_valley_29
    · refine sx_aload_n C0 dX6_valley_30 rfl (lv_at hl 0 rfl) ?_
      refine gf_X6_26 C0 is6 dX6_valley_31 ?_
      refine sx_aload_n C0 dX6_valley_34 rfl (lv_at hl 0 rfl) ?_
      refine gf_X6_20 C0 is6 dX6_valley_35 ?_
      refine sx_iload_n C0 dX6_valley_38 rfl (lv_at hl 1 rfl) ?_
      refine sw_bind (fun q39 e39 => ?_)
      refine cv_X6_131 (As := [.ref (ad 10), .int v1]) C0 (c_X2_firstFault C0.2.2.2.2.2.2.2.1 17 is6_reader 10 4 is6_texts v1 S _ e39) is6_reader.1 ⟨rfl, rfl⟩ ⟨Nat.le_of_ble_eq_true rfl, Nat.le_of_ble_eq_true rfl⟩ rfl hl.1 (Nat.le_of_ble_eq_true rfl) rfl dX6_valley_39 (fun _ => ?_)
      refine sx_bipush (v := (-9)) C0 dX6_valley_42 (by decide) ?_
      refine sx_icmp_eq (tgt := 50) C0 dX6_valley_44 (by decide) (fun _ => ?_) (fun _ => ?_)
      · refine sx_aload_n C0 dX6_valley_50 rfl (lv_at hl 0 rfl) ?_
        refine gf_X6_33 C0 is6 dX6_valley_51 ?_
        refine sx_aload_n C0 dX6_valley_54 rfl (lv_at hl 0 rfl) ?_
        refine gf_X6_26 C0 is6 dX6_valley_55 ?_
        refine gf_X6_135 C0 is6_reader.1 dX6_valley_58 ?_
        refine sx_aload_n C0 dX6_valley_61 rfl (lv_at hl 0 rfl) ?_
        refine gf_X6_26 C0 is6 dX6_valley_62 ?_
        refine gf_X6_138 C0 is6_reader.1 dX6_valley_65 ?_
        refine sw_bind (fun S68 e68 => ?_)
        refine cv_X6_141 (As := [.ref (ad (17 + 1)), .ref (ad (17 + 11))]) C0 (c_X5_begin C0.2.2.2.2.2.2.2.1 30 is6_village (17 + 1) is6_reader.2.1 (17 + 11) 3 is6_reader.2.2.1 q39.2 _ e68) is6_village.1 ⟨rfl, rfl⟩ ⟨Nat.le_of_ble_eq_true rfl, Nat.le_of_ble_eq_true rfl⟩ rfl hl.1 (Nat.le_of_ble_eq_true rfl) rfl dX6_valley_68 (fun _ => ?_)
        refine sx_iconst (v := 0) C0 dX6_valley_71 (by decide) ?_
        refine sx_istore_n (lv' := [(2, .int (0 : Int32)), (0, .ref (ad 0)), (1, .int v1)]) C0 dX6_valley_72 rfl hl (by decide) rfl (fun ls hl => ?_)
        exact lX6_valley_73_t C0 _ _ _ _ (lv_sub hl [1, 0] rfl)
      · refine sx_bipush (v := (-4)) C0 dX6_valley_47 (by decide) ?_
        exact sx_iret C0 rfl rfl trivial dX6_valley_49
abbrev rm_X6_traitOf : Room := { frames := 1, cells := 0, slots := 0, locals := 21 }
def mX6_traitOf (S : vS) (v1 : Int32) (v2 : Int32) : Option Int32 := (if v2 = (0 : Int32) then ((gI (S.1 ((30 + 1) + 1)) 4 v1).bind fun a53 => (some a53)) else (if v2 = (1 : Int32) then ((gI (S.1 ((30 + 1) + 2)) 4 v1).bind fun a60 => (some a60)) else (if v2 = (2 : Int32) then ((gI (S.1 ((30 + 1) + 3)) 4 v1).bind fun a67 => (some a67)) else (if v2 = (3 : Int32) then ((gI (S.1 ((30 + 1) + 4)) 4 v1).bind fun a74 => (some a74)) else (if v2 = (4 : Int32) then ((gI (S.1 ((30 + 1) + 5)) 4 v1).bind fun a81 => (some a81)) else (if v2 = (5 : Int32) then ((gI (S.1 ((30 + 1) + 6)) 4 v1).bind fun a88 => (some a88)) else (if (mX3_isGone S (30 + 11) v1) = 0 then ((gI (S.1 ((30 + 11) + 2)) 4 v1).bind fun a120 => (some a120)) else (some (-9 : Int32)))))))))
set_option maxHeartbeats 4000000 in
set_option maxRecDepth 100000 in
theorem c_X6_traitOf {l : Launch} {D : va_G} {cA : Nat → ClassId} {ad : Nat → Nat} {kl : Nat} (G : Gx shC ad (ExC ad kl)) (v1 : Int32) (v2 : Int32) (S : vS) (r : Int32) (hr : (mX6_traitOf S v1 v2) = some r) : Met l yX6_traitOf (Cond.code yX6_traitOf cX6_traitOf 4 (some .int) :: ALL) rm_X6_traitOf (Po D vwCl tlC shC cA ad (ExC ad kl) [.ref (ad 0), .int v1, .int v2] S) (Qo D vwCl shC cA ad (some (.int r)) S True) 0 0 (aw shC ad) := by
  refine Met.sx (M := (mX6_traitOf S v1 v2)) (rv := (fun r => some (.int r) : Int32 → Option Value)) (rs := fun _ => S) (B := fun _ => True) (by decide) ⟨rfl, rfl⟩ (Nat.le_of_ble_eq_true rfl) G (fun p e s m args below meth c C0 ls hl => ?_) hr
  have hl : lv_has ls 4 [(0, .ref (ad 0)), (1, .int v1), (2, .int v2)] := hl
  rw [mX6_traitOf]
  refine sx_aload_n C0 dX6_traitOf_0 rfl (lv_at hl 0 rfl) ?_
  refine gf_X6_33 C0 is6 dX6_traitOf_1 ?_
  refine gf_X6_149 C0 is6_village.1 dX6_traitOf_4 ?_
  refine sx_astore_n (lv' := [(3, .ref (ad (30 + 1))), (0, .ref (ad 0)), (1, .int v1), (2, .int v2)]) C0 dX6_traitOf_7 rfl hl (by decide) rfl (fun ls hl => ?_)
  refine sx_iload_n C0 dX6_traitOf_8 rfl (lv_at hl 3 rfl) ?_
  refine sx_case (fun hc => ?_) (fun hn0 => ?_)
  · refine sx_tableIn (off := 39) (tgt := 48) C0 dX6_traitOf_9 (by rw [hc]; decide) (by rw [hc]; decide) (by rw [hc]; decide) (by decide) ?_
    refine sx_aload_n C0 dX6_traitOf_48 rfl (lv_at hl 0 rfl) ?_
    refine gf_X6_360 C0 is6_village.2.1.1 dX6_traitOf_49 ?_
    refine sx_iload_n C0 dX6_traitOf_52 rfl (lv_at hl 2 rfl) ?_
    refine sx_iald C0 is6_village.2.1.2.1 rfl dX6_traitOf_53 (fun a53 => ?_)
    exact sx_iret C0 rfl rfl trivial dX6_traitOf_54
  refine sx_case (fun hc => ?_) (fun hn1 => ?_)
  · refine sx_tableIn (off := 46) (tgt := 55) C0 dX6_traitOf_9 (by rw [hc]; decide) (by rw [hc]; decide) (by rw [hc]; decide) (by decide) ?_
    refine sx_aload_n C0 dX6_traitOf_55 rfl (lv_at hl 0 rfl) ?_
    refine gf_X6_294 C0 is6_village.2.1.1 dX6_traitOf_56 ?_
    refine sx_iload_n C0 dX6_traitOf_59 rfl (lv_at hl 2 rfl) ?_
    refine sx_iald C0 is6_village.2.1.2.2.1 rfl dX6_traitOf_60 (fun a60 => ?_)
    exact sx_iret C0 rfl rfl trivial dX6_traitOf_61
  refine sx_case (fun hc => ?_) (fun hn2 => ?_)
  · refine sx_tableIn (off := 53) (tgt := 62) C0 dX6_traitOf_9 (by rw [hc]; decide) (by rw [hc]; decide) (by rw [hc]; decide) (by decide) ?_
    refine sx_aload_n C0 dX6_traitOf_62 rfl (lv_at hl 0 rfl) ?_
    refine gf_X6_190 C0 is6_village.2.1.1 dX6_traitOf_63 ?_
    refine sx_iload_n C0 dX6_traitOf_66 rfl (lv_at hl 2 rfl) ?_
    refine sx_iald C0 is6_village.2.1.2.2.2.1 rfl dX6_traitOf_67 (fun a67 => ?_)
    exact sx_iret C0 rfl rfl trivial dX6_traitOf_68
  refine sx_case (fun hc => ?_) (fun hn3 => ?_)
  · refine sx_tableIn (off := 60) (tgt := 69) C0 dX6_traitOf_9 (by rw [hc]; decide) (by rw [hc]; decide) (by rw [hc]; decide) (by decide) ?_
    refine sx_aload_n C0 dX6_traitOf_69 rfl (lv_at hl 0 rfl) ?_
    refine gf_X6_363 C0 is6_village.2.1.1 dX6_traitOf_70 ?_
    refine sx_iload_n C0 dX6_traitOf_73 rfl (lv_at hl 2 rfl) ?_
    refine sx_iald C0 is6_village.2.1.2.2.2.2.1 rfl dX6_traitOf_74 (fun a74 => ?_)
    exact sx_iret C0 rfl rfl trivial dX6_traitOf_75
  refine sx_case (fun hc => ?_) (fun hn4 => ?_)
  · refine sx_tableIn (off := 67) (tgt := 76) C0 dX6_traitOf_9 (by rw [hc]; decide) (by rw [hc]; decide) (by rw [hc]; decide) (by decide) ?_
    refine sx_aload_n C0 dX6_traitOf_76 rfl (lv_at hl 0 rfl) ?_
    refine gf_X6_366 C0 is6_village.2.1.1 dX6_traitOf_77 ?_
    refine sx_iload_n C0 dX6_traitOf_80 rfl (lv_at hl 2 rfl) ?_
    refine sx_iald C0 is6_village.2.1.2.2.2.2.2.1 rfl dX6_traitOf_81 (fun a81 => ?_)
    exact sx_iret C0 rfl rfl trivial dX6_traitOf_82
  refine sx_case (fun hc => ?_) (fun hn5 => ?_)
  · refine sx_tableIn (off := 74) (tgt := 83) C0 dX6_traitOf_9 (by rw [hc]; decide) (by rw [hc]; decide) (by rw [hc]; decide) (by decide) ?_
    refine sx_aload_n C0 dX6_traitOf_83 rfl (lv_at hl 0 rfl) ?_
    refine gf_X6_161 C0 is6_village.2.1.1 dX6_traitOf_84 ?_
    refine sx_iload_n C0 dX6_traitOf_87 rfl (lv_at hl 2 rfl) ?_
    refine sx_iald C0 is6_village.2.1.2.2.2.2.2.2.1 rfl dX6_traitOf_88 (fun a88 => ?_)
    exact sx_iret C0 rfl rfl trivial dX6_traitOf_89
  refine sw_have (pc2 := 90) (st2 := []) ?_ (fun hdf => ?_)
  · refine sx_aload_n C0 dX6_traitOf_90 rfl (lv_at hl 1 rfl) ?_
    refine gf_X6_33 C0 is6 dX6_traitOf_91 ?_
    refine gf_X6_167 C0 is6_village.1 dX6_traitOf_94 ?_
    refine sx_iload_n C0 dX6_traitOf_97 rfl (lv_at hl 2 rfl) ?_
    refine cv_X6_281 (As := [.int v1]) C0 (c_X3_isGone C0.2.2.2.2.2.2.2.1 (30 + 11) is6_village.2.2.1 v1 S) is6_village.2.2.1.1 ⟨rfl, rfl⟩ ⟨Nat.le_of_ble_eq_true rfl, Nat.le_of_ble_eq_true rfl⟩ rfl hl.1 (Nat.le_of_ble_eq_true rfl) rfl dX6_traitOf_98 (fun hb98 => ?_)
    refine sx_if_eq (tgt := 109) C0 dX6_traitOf_101 (by decide) (fun _ => ?_) (fun _ => ?_)
    · refine sx_aload_n C0 dX6_traitOf_109 rfl (lv_at hl 1 rfl) ?_
      refine gf_X6_33 C0 is6 dX6_traitOf_110 ?_
      refine gf_X6_167 C0 is6_village.1 dX6_traitOf_113 ?_
      refine gf_X6_369 C0 is6_village.2.2.1.1 dX6_traitOf_116 ?_
      refine sx_iload_n C0 dX6_traitOf_119 rfl (lv_at hl 2 rfl) ?_
      refine sx_iald C0 is6_village.2.2.1.2.2.1 rfl dX6_traitOf_120 (fun a120 => ?_)
      exact sx_iret C0 rfl rfl trivial dX6_traitOf_121
    · refine sx_bipush (v := (-9)) C0 dX6_traitOf_104 (by decide) ?_
      refine sx_goto (tgt := 121) C0 dX6_traitOf_106 (by decide) ?_
      exact sx_iret C0 rfl rfl trivial dX6_traitOf_121
  by_cases hlo : (v2).toInt < 0
  · exact sx_tableOut (tgt := 90) C0 dX6_traitOf_9 (Or.inl hlo) (by decide) hdf
  by_cases hhi : 5 < (v2).toInt
  · exact sx_tableOut (tgt := 90) C0 dX6_traitOf_9 (Or.inr hhi) (by decide) hdf
  have ht0 : (v2).toInt ≠ 0 := fun h => hn0 (Int32.toInt_inj.mp (h.trans (by decide)))
  have ht1 : (v2).toInt ≠ 1 := fun h => hn1 (Int32.toInt_inj.mp (h.trans (by decide)))
  have ht2 : (v2).toInt ≠ 2 := fun h => hn2 (Int32.toInt_inj.mp (h.trans (by decide)))
  have ht3 : (v2).toInt ≠ 3 := fun h => hn3 (Int32.toInt_inj.mp (h.trans (by decide)))
  have ht4 : (v2).toInt ≠ 4 := fun h => hn4 (Int32.toInt_inj.mp (h.trans (by decide)))
  have ht5 : (v2).toInt ≠ 5 := fun h => hn5 (Int32.toInt_inj.mp (h.trans (by decide)))
  exfalso
  omega
abbrev rm_X6_god : Room := { frames := 2, cells := 0, slots := 0, locals := 44 }
def mX6_god (S : vS) (v1 : Int32) (v2 : Int32) : Option (Int32 × vS) := (if (mX0_has S (30 + 1) v1) = 0 then (some ((-1 : Int32), S)) else (if v2 < 0 then (some ((-1 : Int32), S)) else (if v2 ≤ (6 : Int32) then ((mX6_traitOf S v1 v2).bind fun a30 => (lt (mX6_tell S a30) fun S33 => (some ((1 : Int32), S33)))) else (some ((-1 : Int32), S)))))
set_option maxHeartbeats 4000000 in
set_option maxRecDepth 100000 in
theorem c_X6_god {l : Launch} {D : va_G} {cA : Nat → ClassId} {ad : Nat → Nat} {kl : Nat} (G : Gx shC ad (ExC ad kl)) (v1 : Int32) (v2 : Int32) (S : vS) (r : (Int32 × vS)) (hr : (mX6_god S v1 v2) = some r) : Met l yX6_god (Cond.code yX6_god cX6_god 3 (some .int) :: ALL) rm_X6_god (Po D vwCl tlC shC cA ad (ExC ad kl) [.ref (ad 0), .int v1, .int v2] S) (Qo D vwCl shC cA ad (some (.int r.1)) r.2 True) 0 0 (aw shC ad) := by
  refine Met.sx (M := (mX6_god S v1 v2)) (rv := (fun q => some (.int q.1) : (Int32 × vS) → Option Value)) (rs := fun q => q.2) (B := fun _ => True) (by decide) ⟨rfl, rfl⟩ (Nat.le_of_ble_eq_true rfl) G (fun p e s m args below meth c C0 ls hl => ?_) hr
  have hl : lv_has ls 3 [(0, .ref (ad 0)), (1, .int v1), (2, .int v2)] := hl
  rw [mX6_god]
  refine sx_aload_n C0 dX6_god_0 rfl (lv_at hl 0 rfl) ?_
  refine gf_X6_33 C0 is6 dX6_god_1 ?_
  refine gf_X6_149 C0 is6_village.1 dX6_god_4 ?_
  refine sx_iload_n C0 dX6_god_7 rfl (lv_at hl 1 rfl) ?_
  refine cv_X6_153 (As := [.int v1]) C0 (c_X0_has C0.2.2.2.2.2.2.2.1 (30 + 1) is6_village.2.1 v1 S) is6_village.2.1.1 ⟨rfl, rfl⟩ ⟨Nat.le_of_ble_eq_true rfl, Nat.le_of_ble_eq_true rfl⟩ rfl hl.1 (Nat.le_of_ble_eq_true rfl) rfl dX6_god_8 (fun hb8 => ?_)
  refine sx_if_eq (tgt := 24) C0 dX6_god_11 (by decide) (fun _ => ?_) (fun _ => ?_)
  · refine sx_iconst (v := (-1)) C0 dX6_god_24 (by decide) ?_
    exact sx_iret C0 rfl rfl trivial dX6_god_25
  · refine sx_iload_n C0 dX6_god_14 rfl (lv_at hl 2 rfl) ?_
    refine sx_if_lt (tgt := 24) C0 dX6_god_15 (by decide) (fun _ => ?_) (fun _ => ?_)
    · refine sx_iconst (v := (-1)) C0 dX6_god_24 (by decide) ?_
      exact sx_iret C0 rfl rfl trivial dX6_god_25
    · refine sx_iload_n C0 dX6_god_18 rfl (lv_at hl 2 rfl) ?_
      refine sx_bipush (v := 6) C0 dX6_god_19 (by decide) ?_
      refine sx_icmp_le (tgt := 26) C0 dX6_god_21 (by decide) (fun _ => ?_) (fun _ => ?_)
      · refine sx_aload_n C0 dX6_god_26 rfl (lv_at hl 0 rfl) ?_
        refine sx_aload_n C0 dX6_god_27 rfl (lv_at hl 0 rfl) ?_
        refine sx_iload_n C0 dX6_god_28 rfl (lv_at hl 1 rfl) ?_
        refine sx_iload_n C0 dX6_god_29 rfl (lv_at hl 2 rfl) ?_
        refine sw_bind (fun a30 e30 => ?_)
        refine cv_X6_154 (As := [.int v1, .int v2]) C0 (c_X6_traitOf C0.2.2.2.2.2.2.2.1 v1 v2 S _ e30) is6 ⟨rfl, rfl⟩ ⟨Nat.le_of_ble_eq_true rfl, Nat.le_of_ble_eq_true rfl⟩ rfl hl.1 (Nat.le_of_ble_eq_true rfl) rfl dX6_god_30 (fun _ => ?_)
        refine cv_X6_103 (As := [.int a30]) C0 (c_X6_tell C0.2.2.2.2.2.2.2.1 a30 S) is6 ⟨rfl, rfl⟩ ⟨Nat.le_of_ble_eq_true rfl, Nat.le_of_ble_eq_true rfl⟩ rfl hl.1 (Nat.le_of_ble_eq_true rfl) rfl dX6_god_33 (fun _ => ?_)
        refine sw_ltS (fun S33 => ?_)
        refine sx_iconst (v := 1) C0 dX6_god_36 (by decide) ?_
        exact sx_iret C0 rfl rfl trivial dX6_god_37
      · refine sx_iconst (v := (-1)) C0 dX6_god_24 (by decide) ?_
        exact sx_iret C0 rfl rfl trivial dX6_god_25
abbrev rm_X6_shortOfGoing : Room := { frames := 1, cells := 0, slots := 0, locals := 26 }
def mX6_shortOfGoing (S : vS) (v1 : Int32) : Option Int32 := (if (mX3_isGone S (30 + 11) v1) = 0 then ((mX0_leavingHunger S (30 + 1) v1).bind fun a26 => ((gI (S.1 ((30 + 11) + 2)) 4 v1).bind fun a40 => (some (mxI (0 : Int32) (a26 - a40))))) else (some (-9 : Int32)))
set_option maxHeartbeats 4000000 in
set_option maxRecDepth 100000 in
theorem c_X6_shortOfGoing {l : Launch} {D : va_G} {cA : Nat → ClassId} {ad : Nat → Nat} {kl : Nat} (G : Gx shC ad (ExC ad kl)) (v1 : Int32) (S : vS) (r : Int32) (hr : (mX6_shortOfGoing S v1) = some r) : Met l yX6_shortOfGoing (Cond.code yX6_shortOfGoing cX6_shortOfGoing 2 (some .int) :: ALL) rm_X6_shortOfGoing (Po D vwCl tlC shC cA ad (ExC ad kl) [.ref (ad 0), .int v1] S) (Qo D vwCl shC cA ad (some (.int r)) S True) 0 0 (aw shC ad) := by
  refine Met.sx (M := (mX6_shortOfGoing S v1)) (rv := (fun r => some (.int r) : Int32 → Option Value)) (rs := fun _ => S) (B := fun _ => True) (by decide) ⟨rfl, rfl⟩ (Nat.le_of_ble_eq_true rfl) G (fun p e s m args below meth c C0 ls hl => ?_) hr
  have hl : lv_has ls 2 [(0, .ref (ad 0)), (1, .int v1)] := hl
  rw [mX6_shortOfGoing]
  refine sx_aload_n C0 dX6_shortOfGoing_0 rfl (lv_at hl 0 rfl) ?_
  refine gf_X6_33 C0 is6 dX6_shortOfGoing_1 ?_
  refine gf_X6_167 C0 is6_village.1 dX6_shortOfGoing_4 ?_
  refine sx_iload_n C0 dX6_shortOfGoing_7 rfl (lv_at hl 1 rfl) ?_
  refine cv_X6_281 (As := [.int v1]) C0 (c_X3_isGone C0.2.2.2.2.2.2.2.1 (30 + 11) is6_village.2.2.1 v1 S) is6_village.2.2.1.1 ⟨rfl, rfl⟩ ⟨Nat.le_of_ble_eq_true rfl, Nat.le_of_ble_eq_true rfl⟩ rfl hl.1 (Nat.le_of_ble_eq_true rfl) rfl dX6_shortOfGoing_8 (fun hb8 => ?_)
  refine sx_if_eq (tgt := 17) C0 dX6_shortOfGoing_11 (by decide) (fun _ => ?_) (fun _ => ?_)
  · refine sx_iconst (v := 0) C0 dX6_shortOfGoing_17 (by decide) ?_
    refine sx_aload_n C0 dX6_shortOfGoing_18 rfl (lv_at hl 0 rfl) ?_
    refine gf_X6_33 C0 is6 dX6_shortOfGoing_19 ?_
    refine gf_X6_149 C0 is6_village.1 dX6_shortOfGoing_22 ?_
    refine sx_iload_n C0 dX6_shortOfGoing_25 rfl (lv_at hl 1 rfl) ?_
    refine sw_bind (fun a26 e26 => ?_)
    refine cv_X6_372 (As := [.int v1]) C0 (c_X0_leavingHunger C0.2.2.2.2.2.2.2.1 (30 + 1) is6_village.2.1 v1 S _ e26) is6_village.2.1.1 ⟨rfl, rfl⟩ ⟨Nat.le_of_ble_eq_true rfl, Nat.le_of_ble_eq_true rfl⟩ rfl hl.1 (Nat.le_of_ble_eq_true rfl) rfl dX6_shortOfGoing_26 (fun _ => ?_)
    refine sx_aload_n C0 dX6_shortOfGoing_29 rfl (lv_at hl 0 rfl) ?_
    refine gf_X6_33 C0 is6 dX6_shortOfGoing_30 ?_
    refine gf_X6_167 C0 is6_village.1 dX6_shortOfGoing_33 ?_
    refine gf_X6_369 C0 is6_village.2.2.1.1 dX6_shortOfGoing_36 ?_
    refine sx_iload_n C0 dX6_shortOfGoing_39 rfl (lv_at hl 1 rfl) ?_
    refine sx_iald C0 is6_village.2.2.1.2.2.1 rfl dX6_shortOfGoing_40 (fun a40 => ?_)
    refine sx_isub C0 dX6_shortOfGoing_41 ?_
    refine sx_mmax C0 wm_X6_355 hl.1 ⟨Nat.le_of_ble_eq_true rfl, Nat.le_of_ble_eq_true rfl⟩ dX6_shortOfGoing_42 ?_
    exact sx_iret C0 rfl rfl trivial dX6_shortOfGoing_45
  · refine sx_bipush (v := (-9)) C0 dX6_shortOfGoing_14 (by decide) ?_
    exact sx_iret C0 rfl rfl trivial dX6_shortOfGoing_16
abbrev rm_X6_mark : Room := { frames := 2, cells := 0, slots := 0, locals := 47 }
def mX6_mark (S : vS) (v1 : Int32) (v2 : Int32) : Option (Int32 × vS) := (if (mX0_has S (30 + 1) v1) = 0 then (some ((-1 : Int32), S)) else (if v2 < (1 : Int32) then (some ((-1 : Int32), S)) else (if v2 ≤ (5 : Int32) then ((mX0_isOfKind S (30 + 1) v1 v2).bind fun a35 => (if a35 = 0 then ((mX6_found S (3 : Int32)).bind fun q43 => (some (q43.1, q43.2))) else (if v2 = (1 : Int32) then ((gI (S.1 ((30 + 1) + 6)) 4 v1).bind fun a91 => (some (a91, S))) else (if v2 = (2 : Int32) then ((gI (S.1 ((30 + 1) + 6)) 4 v1).bind fun a108 => ((mX5_daysSinceFed S 30 a108).bind fun a109 => (some (a109, S)))) else (if v2 = (3 : Int32) then (if (mX3_isOddDay S (30 + 11)) = 0 then (some ((0 : Int32), S)) else (some ((1 : Int32), S))) else (if v2 = (4 : Int32) then ((mX6_shortOfGoing S v1).bind fun a134 => (some (a134, S))) else (if (mX3_wasEverFed S (30 + 11) v1) = 0 then (some ((0 : Int32), S)) else (some ((1 : Int32), S))))))))) else (some ((-1 : Int32), S)))))
set_option maxHeartbeats 4000000 in
set_option maxRecDepth 100000 in
theorem c_X6_mark {l : Launch} {D : va_G} {cA : Nat → ClassId} {ad : Nat → Nat} {kl : Nat} (G : Gx shC ad (ExC ad kl)) (v1 : Int32) (v2 : Int32) (S : vS) (r : (Int32 × vS)) (hr : (mX6_mark S v1 v2) = some r) : Met l yX6_mark (Cond.code yX6_mark cX6_mark 3 (some .int) :: ALL) rm_X6_mark (Po D vwCl tlC shC cA ad (ExC ad kl) [.ref (ad 0), .int v1, .int v2] S) (Qo D vwCl shC cA ad (some (.int r.1)) r.2 True) 0 0 (aw shC ad) := by
  refine Met.sx (M := (mX6_mark S v1 v2)) (rv := (fun q => some (.int q.1) : (Int32 × vS) → Option Value)) (rs := fun q => q.2) (B := fun _ => True) (by decide) ⟨rfl, rfl⟩ (Nat.le_of_ble_eq_true rfl) G (fun p e s m args below meth c C0 ls hl => ?_) hr
  have hl : lv_has ls 3 [(0, .ref (ad 0)), (1, .int v1), (2, .int v2)] := hl
  rw [mX6_mark]
  refine sx_aload_n C0 dX6_mark_0 rfl (lv_at hl 0 rfl) ?_
  refine gf_X6_33 C0 is6 dX6_mark_1 ?_
  refine gf_X6_149 C0 is6_village.1 dX6_mark_4 ?_
  refine sx_iload_n C0 dX6_mark_7 rfl (lv_at hl 1 rfl) ?_
  refine cv_X6_153 (As := [.int v1]) C0 (c_X0_has C0.2.2.2.2.2.2.2.1 (30 + 1) is6_village.2.1 v1 S) is6_village.2.1.1 ⟨rfl, rfl⟩ ⟨Nat.le_of_ble_eq_true rfl, Nat.le_of_ble_eq_true rfl⟩ rfl hl.1 (Nat.le_of_ble_eq_true rfl) rfl dX6_mark_8 (fun hb8 => ?_)
  refine sx_if_eq (tgt := 24) C0 dX6_mark_11 (by decide) (fun _ => ?_) (fun _ => ?_)
  · refine sx_iconst (v := (-1)) C0 dX6_mark_24 (by decide) ?_
    exact sx_iret C0 rfl rfl trivial dX6_mark_25
  · refine sx_iload_n C0 dX6_mark_14 rfl (lv_at hl 2 rfl) ?_
    refine sx_iconst (v := 1) C0 dX6_mark_15 (by decide) ?_
    refine sx_icmp_lt (tgt := 24) C0 dX6_mark_16 (by decide) (fun _ => ?_) (fun _ => ?_)
    · refine sx_iconst (v := (-1)) C0 dX6_mark_24 (by decide) ?_
      exact sx_iret C0 rfl rfl trivial dX6_mark_25
    · refine sx_iload_n C0 dX6_mark_19 rfl (lv_at hl 2 rfl) ?_
      refine sx_iconst (v := 5) C0 dX6_mark_20 (by decide) ?_
      refine sx_icmp_le (tgt := 26) C0 dX6_mark_21 (by decide) (fun _ => ?_) (fun _ => ?_)
      · refine sx_aload_n C0 dX6_mark_26 rfl (lv_at hl 0 rfl) ?_
        refine gf_X6_33 C0 is6 dX6_mark_27 ?_
        refine gf_X6_149 C0 is6_village.1 dX6_mark_30 ?_
        refine sx_iload_n C0 dX6_mark_33 rfl (lv_at hl 1 rfl) ?_
        refine sx_iload_n C0 dX6_mark_34 rfl (lv_at hl 2 rfl) ?_
        refine sw_bind (fun a35 e35 => ?_)
        refine cv_X6_157 (As := [.int v1, .int v2]) C0 (c_X0_isOfKind C0.2.2.2.2.2.2.2.1 (30 + 1) is6_village.2.1 v1 v2 S _ e35) is6_village.2.1.1 ⟨rfl, rfl⟩ ⟨Nat.le_of_ble_eq_true rfl, Nat.le_of_ble_eq_true rfl⟩ rfl hl.1 (Nat.le_of_ble_eq_true rfl) rfl dX6_mark_35 (fun hb35 => ?_)
        refine sx_if_ne (tgt := 47) C0 dX6_mark_38 (by decide) (fun _ => ?_) (fun _ => ?_)
        · refine sx_aload_n C0 dX6_mark_41 rfl (lv_at hl 0 rfl) ?_
          refine sx_iconst (v := 3) C0 dX6_mark_42 (by decide) ?_
          refine sw_bind (fun q43 e43 => ?_)
          refine cv_X6_87 (As := [.int (3 : Int32)]) C0 (c_X6_found C0.2.2.2.2.2.2.2.1 (3 : Int32) S _ e43) is6 ⟨rfl, rfl⟩ ⟨Nat.le_of_ble_eq_true rfl, Nat.le_of_ble_eq_true rfl⟩ rfl hl.1 (Nat.le_of_ble_eq_true rfl) rfl dX6_mark_43 (fun _ => ?_)
          exact sx_iret C0 rfl rfl trivial dX6_mark_46
        · refine sx_iload_n C0 dX6_mark_47 rfl (lv_at hl 2 rfl) ?_
          refine sx_case (fun hc => ?_) (fun hn1 => ?_)
          · refine sx_tableIn (off := 32) (tgt := 80) C0 dX6_mark_48 (by rw [hc]; decide) (by rw [hc]; decide) (by rw [hc]; decide) (by decide) ?_
            refine sx_aload_n C0 dX6_mark_80 rfl (lv_at hl 0 rfl) ?_
            refine gf_X6_33 C0 is6 dX6_mark_81 ?_
            refine gf_X6_149 C0 is6_village.1 dX6_mark_84 ?_
            refine gf_X6_161 C0 is6_village.2.1.1 dX6_mark_87 ?_
            refine sx_iload_n C0 dX6_mark_90 rfl (lv_at hl 1 rfl) ?_
            refine sx_iald C0 is6_village.2.1.2.2.2.2.2.2.1 rfl dX6_mark_91 (fun a91 => ?_)
            exact sx_iret C0 rfl rfl trivial dX6_mark_92
          refine sx_case (fun hc => ?_) (fun hn2 => ?_)
          · refine sx_tableIn (off := 45) (tgt := 93) C0 dX6_mark_48 (by rw [hc]; decide) (by rw [hc]; decide) (by rw [hc]; decide) (by decide) ?_
            refine sx_aload_n C0 dX6_mark_93 rfl (lv_at hl 0 rfl) ?_
            refine gf_X6_33 C0 is6 dX6_mark_94 ?_
            refine sx_aload_n C0 dX6_mark_97 rfl (lv_at hl 0 rfl) ?_
            refine gf_X6_33 C0 is6 dX6_mark_98 ?_
            refine gf_X6_149 C0 is6_village.1 dX6_mark_101 ?_
            refine gf_X6_161 C0 is6_village.2.1.1 dX6_mark_104 ?_
            refine sx_iload_n C0 dX6_mark_107 rfl (lv_at hl 1 rfl) ?_
            refine sx_iald C0 is6_village.2.1.2.2.2.2.2.2.1 rfl dX6_mark_108 (fun a108 => ?_)
            refine sw_bind (fun a109 e109 => ?_)
            refine cv_X6_164 (As := [.int a108]) C0 (c_X5_daysSinceFed C0.2.2.2.2.2.2.2.1 30 is6_village a108 S _ e109) is6_village.1 ⟨rfl, rfl⟩ ⟨Nat.le_of_ble_eq_true rfl, Nat.le_of_ble_eq_true rfl⟩ rfl hl.1 (Nat.le_of_ble_eq_true rfl) rfl dX6_mark_109 (fun _ => ?_)
            exact sx_iret C0 rfl rfl trivial dX6_mark_112
          refine sx_case (fun hc => ?_) (fun hn3 => ?_)
          · refine sx_tableIn (off := 65) (tgt := 113) C0 dX6_mark_48 (by rw [hc]; decide) (by rw [hc]; decide) (by rw [hc]; decide) (by decide) ?_
            refine sx_aload_n C0 dX6_mark_113 rfl (lv_at hl 0 rfl) ?_
            refine gf_X6_33 C0 is6 dX6_mark_114 ?_
            refine gf_X6_167 C0 is6_village.1 dX6_mark_117 ?_
            refine cv_X6_170 (As := []) C0 (c_X3_isOddDay C0.2.2.2.2.2.2.2.1 (30 + 11) is6_village.2.2.1 S) is6_village.2.2.1.1 ⟨rfl, rfl⟩ ⟨Nat.le_of_ble_eq_true rfl, Nat.le_of_ble_eq_true rfl⟩ rfl hl.1 (Nat.le_of_ble_eq_true rfl) rfl dX6_mark_120 (fun hb120 => ?_)
            refine sx_if_eq (tgt := 130) C0 dX6_mark_123 (by decide) (fun _ => ?_) (fun _ => ?_)
            · refine sx_iconst (v := 0) C0 dX6_mark_130 (by decide) ?_
              exact sx_iret C0 rfl rfl trivial dX6_mark_131
            · refine sx_iconst (v := 1) C0 dX6_mark_126 (by decide) ?_
              refine sx_goto (tgt := 131) C0 dX6_mark_127 (by decide) ?_
              exact sx_iret C0 rfl rfl trivial dX6_mark_131
          refine sx_case (fun hc => ?_) (fun hn4 => ?_)
          · refine sx_tableIn (off := 84) (tgt := 132) C0 dX6_mark_48 (by rw [hc]; decide) (by rw [hc]; decide) (by rw [hc]; decide) (by decide) ?_
            refine sx_aload_n C0 dX6_mark_132 rfl (lv_at hl 0 rfl) ?_
            refine sx_iload_n C0 dX6_mark_133 rfl (lv_at hl 1 rfl) ?_
            refine sw_bind (fun a134 e134 => ?_)
            refine cv_X6_174 (As := [.int v1]) C0 (c_X6_shortOfGoing C0.2.2.2.2.2.2.2.1 v1 S _ e134) is6 ⟨rfl, rfl⟩ ⟨Nat.le_of_ble_eq_true rfl, Nat.le_of_ble_eq_true rfl⟩ rfl hl.1 (Nat.le_of_ble_eq_true rfl) rfl dX6_mark_134 (fun _ => ?_)
            exact sx_iret C0 rfl rfl trivial dX6_mark_137
          refine sw_have (pc2 := 138) (st2 := []) ?_ (fun hdf => ?_)
          · refine sx_aload_n C0 dX6_mark_138 rfl (lv_at hl 0 rfl) ?_
            refine gf_X6_33 C0 is6 dX6_mark_139 ?_
            refine gf_X6_167 C0 is6_village.1 dX6_mark_142 ?_
            refine sx_iload_n C0 dX6_mark_145 rfl (lv_at hl 1 rfl) ?_
            refine cv_X6_177 (As := [.int v1]) C0 (c_X3_wasEverFed C0.2.2.2.2.2.2.2.1 (30 + 11) is6_village.2.2.1 v1 S) is6_village.2.2.1.1 ⟨rfl, rfl⟩ ⟨Nat.le_of_ble_eq_true rfl, Nat.le_of_ble_eq_true rfl⟩ rfl hl.1 (Nat.le_of_ble_eq_true rfl) rfl dX6_mark_146 (fun hb146 => ?_)
            refine sx_if_eq (tgt := 156) C0 dX6_mark_149 (by decide) (fun _ => ?_) (fun _ => ?_)
            · refine sx_iconst (v := 0) C0 dX6_mark_156 (by decide) ?_
              exact sx_iret C0 rfl rfl trivial dX6_mark_157
            · refine sx_iconst (v := 1) C0 dX6_mark_152 (by decide) ?_
              refine sx_goto (tgt := 157) C0 dX6_mark_153 (by decide) ?_
              exact sx_iret C0 rfl rfl trivial dX6_mark_157
          by_cases hlo : (v2).toInt < 1
          · exact sx_tableOut (tgt := 138) C0 dX6_mark_48 (Or.inl hlo) (by decide) hdf
          by_cases hhi : 4 < (v2).toInt
          · exact sx_tableOut (tgt := 138) C0 dX6_mark_48 (Or.inr hhi) (by decide) hdf
          have ht1 : (v2).toInt ≠ 1 := fun h => hn1 (Int32.toInt_inj.mp (h.trans (by decide)))
          have ht2 : (v2).toInt ≠ 2 := fun h => hn2 (Int32.toInt_inj.mp (h.trans (by decide)))
          have ht3 : (v2).toInt ≠ 3 := fun h => hn3 (Int32.toInt_inj.mp (h.trans (by decide)))
          have ht4 : (v2).toInt ≠ 4 := fun h => hn4 (Int32.toInt_inj.mp (h.trans (by decide)))
          exfalso
          omega
      · refine sx_iconst (v := (-1)) C0 dX6_mark_24 (by decide) ?_
        exact sx_iret C0 rfl rfl trivial dX6_mark_25
abbrev rm_X6_isFood : Room := { frames := 0, cells := 0, slots := 0, locals := 0 }
def bX6_isFood_13      : Int32 := (0 : Int32)
set_option maxHeartbeats 4000000 in
set_option maxRecDepth 100000 in
theorem bX6_isFood_13_t {p : Program} {l : Launch} {e : Env} {s : State} {m : MethodId} {args : Array Value} {below : List Frame} {meth : Method} {c : Code} {D : va_G} {cA : Nat → ClassId} {ad : Nat → Nat} {kl : Nat}  {S : vS} (C0 : Cx D vwCl tlC shC cA ad (ExC ad kl) RX6 cX6_isFood 1 (some .boolean) p s m args meth c)   (ls : Array Slot) (hl : lv_has ls 1 []) : SW p l e rm_X6_isFood s m args below meth c D vwCl shC cA ad (Fq D vwCl shC cA ad below args s (fun r => some (.int r) : Int32 → Option Value) (fun _ => S) (fun r => isB r)) (some bX6_isFood_13) S 13 ls [] := by
  rw [bX6_isFood_13]
  refine sx_iconst (v := 0) C0 dX6_isFood_13 (by decide) ?_
  exact sx_zret C0 rfl rfl (Or.inl rfl) (Or.inl rfl) dX6_isFood_14
def mX6_isFood (v0 : Int32) : Int32 := (if v0 < 0 then (bX6_isFood_13) else (if (3 : Int32) ≤ v0 then (bX6_isFood_13) else (1 : Int32)))
set_option maxHeartbeats 4000000 in
set_option maxRecDepth 100000 in
theorem c_X6_isFood {l : Launch} {D : va_G} {cA : Nat → ClassId} {ad : Nat → Nat} {kl : Nat} (G : Gx shC ad (ExC ad kl)) (v0 : Int32) (S : vS) : Met l yX6_isFood (Cond.code yX6_isFood cX6_isFood 1 (some .boolean) :: ALL) rm_X6_isFood (Po D vwCl tlC shC cA ad (ExC ad kl) [.int v0] S) (Qo D vwCl shC cA ad (some (.int (mX6_isFood v0))) S (isB (mX6_isFood v0))) 0 0 (aw shC ad) := by
  refine Met.sx (M := some (mX6_isFood v0)) (rv := (fun r => some (.int r) : Int32 → Option Value)) (rs := fun _ => S) (B := fun r => isB r) (by decide) ⟨rfl, rfl⟩ (Nat.le_of_ble_eq_true rfl) G (fun p e s m args below meth c C0 ls hl => ?_) rfl
  have hl : lv_has ls 1 [(0, .int v0)] := hl
  rw [mX6_isFood]
  refine sx_iload_n C0 dX6_isFood_0 rfl (lv_at hl 0 rfl) ?_
  refine sx_if_lts (tgt := 13) C0 dX6_isFood_1 (by decide) (fun _ => ?_) (fun _ => ?_)
  · exact bX6_isFood_13_t C0 _ (lv_sub hl [] rfl)
  · refine sx_iload_n C0 dX6_isFood_4 rfl (lv_at hl 0 rfl) ?_
    refine sx_iconst (v := 3) C0 dX6_isFood_5 (by decide) ?_
    refine sx_icmp_ges (tgt := 13) C0 dX6_isFood_6 (by decide) (fun _ => ?_) (fun _ => ?_)
    · exact bX6_isFood_13_t C0 _ (lv_sub hl [] rfl)
    · refine sx_iconst (v := 1) C0 dX6_isFood_9 (by decide) ?_
      refine sx_goto (tgt := 14) C0 dX6_isFood_10 (by decide) ?_
      exact sx_zret C0 rfl rfl (Or.inr rfl) (Or.inr rfl) dX6_isFood_14
abbrev rm_X6_noGods : Room := { frames := 0, cells := 0, slots := 0, locals := 0 }
def mX6_noGods (S : vS)  : Int32 := (if (S.1 (30 + 1) 0) = 0 then (1 : Int32) else (0 : Int32))
set_option maxHeartbeats 4000000 in
set_option maxRecDepth 100000 in
theorem c_X6_noGods {l : Launch} {D : va_G} {cA : Nat → ClassId} {ad : Nat → Nat} {kl : Nat} (G : Gx shC ad (ExC ad kl))  (S : vS) : Met l yX6_noGods (Cond.code yX6_noGods cX6_noGods 1 (some .boolean) :: ALL) rm_X6_noGods (Po D vwCl tlC shC cA ad (ExC ad kl) [.ref (ad 0)] S) (Qo D vwCl shC cA ad (some (.int (mX6_noGods S))) S (isB (mX6_noGods S))) 0 0 (aw shC ad) := by
  refine Met.sx (M := some (mX6_noGods S)) (rv := (fun r => some (.int r) : Int32 → Option Value)) (rs := fun _ => S) (B := fun r => isB r) (by decide) ⟨rfl, rfl⟩ (Nat.le_of_ble_eq_true rfl) G (fun p e s m args below meth c C0 ls hl => ?_) rfl
  have hl : lv_has ls 1 [(0, .ref (ad 0))] := hl
  rw [mX6_noGods]
  refine sx_aload_n C0 dX6_noGods_0 rfl (lv_at hl 0 rfl) ?_
  refine gf_X6_33 C0 is6 dX6_noGods_1 ?_
  refine gf_X6_149 C0 is6_village.1 dX6_noGods_4 ?_
  refine gf_X6_150 C0 is6_village.2.1.1 dX6_noGods_7 ?_
  refine sx_if_nes (tgt := 17) C0 dX6_noGods_10 (by decide) (fun _ => ?_) (fun _ => ?_)
  · refine sx_iconst (v := 1) C0 dX6_noGods_13 (by decide) ?_
    refine sx_goto (tgt := 18) C0 dX6_noGods_14 (by decide) ?_
    exact sx_zret C0 rfl rfl (Or.inr rfl) (Or.inr rfl) dX6_noGods_18
  · refine sx_iconst (v := 0) C0 dX6_noGods_17 (by decide) ?_
    exact sx_zret C0 rfl rfl (Or.inl rfl) (Or.inl rfl) dX6_noGods_18
abbrev rm_X6_store : Room := { frames := 1, cells := 0, slots := 0, locals := 20 }
def mX6_store (S : vS) (v1 : Int32) (v2 : Int32) : Option (Int32 × vS) := (if (mX6_isFood v1) = 0 then (some ((-1 : Int32), S)) else (if v2 < 0 then (some ((-1 : Int32), S)) else (if v2 ≤ (99 : Int32) then (if (mX6_noGods S) = 0 then ((gI (S.1 ((30 + 11) + 1)) 3 v1).bind fun a40 => ((pI S ((30 + 11) + 1) 3 v1 v2).bind fun S54 => (some (a40, S54)))) else (some ((-4 : Int32), S))) else (some ((-1 : Int32), S)))))
set_option maxHeartbeats 4000000 in
set_option maxRecDepth 100000 in
theorem c_X6_store {l : Launch} {D : va_G} {cA : Nat → ClassId} {ad : Nat → Nat} {kl : Nat} (G : Gx shC ad (ExC ad kl)) (v1 : Int32) (v2 : Int32) (S : vS) (r : (Int32 × vS)) (hr : (mX6_store S v1 v2) = some r) : Met l yX6_store (Cond.code yX6_store cX6_store 4 (some .int) :: ALL) rm_X6_store (Po D vwCl tlC shC cA ad (ExC ad kl) [.ref (ad 0), .int v1, .int v2] S) (Qo D vwCl shC cA ad (some (.int r.1)) r.2 True) 0 0 (aw shC ad) := by
  refine Met.sx (M := (mX6_store S v1 v2)) (rv := (fun q => some (.int q.1) : (Int32 × vS) → Option Value)) (rs := fun q => q.2) (B := fun _ => True) (by decide) ⟨rfl, rfl⟩ (Nat.le_of_ble_eq_true rfl) G (fun p e s m args below meth c C0 ls hl => ?_) hr
  have hl : lv_has ls 4 [(0, .ref (ad 0)), (1, .int v1), (2, .int v2)] := hl
  rw [mX6_store]
  refine sx_iload_n C0 dX6_store_0 rfl (lv_at hl 1 rfl) ?_
  refine cv_X6_180 (As := [.int v1]) C0 (c_X6_isFood C0.2.2.2.2.2.2.2.1 v1 S) ⟨rfl, rfl⟩ ⟨Nat.le_of_ble_eq_true rfl, Nat.le_of_ble_eq_true rfl⟩ rfl hl.1 (Nat.le_of_ble_eq_true rfl) rfl dX6_store_1 (fun hb1 => ?_)
  refine sx_if_eq (tgt := 17) C0 dX6_store_4 (by decide) (fun _ => ?_) (fun _ => ?_)
  · refine sx_iconst (v := (-1)) C0 dX6_store_17 (by decide) ?_
    exact sx_iret C0 rfl rfl trivial dX6_store_18
  · refine sx_iload_n C0 dX6_store_7 rfl (lv_at hl 2 rfl) ?_
    refine sx_if_lt (tgt := 17) C0 dX6_store_8 (by decide) (fun _ => ?_) (fun _ => ?_)
    · refine sx_iconst (v := (-1)) C0 dX6_store_17 (by decide) ?_
      exact sx_iret C0 rfl rfl trivial dX6_store_18
    · refine sx_iload_n C0 dX6_store_11 rfl (lv_at hl 2 rfl) ?_
      refine sx_bipush (v := 99) C0 dX6_store_12 (by decide) ?_
      refine sx_icmp_le (tgt := 19) C0 dX6_store_14 (by decide) (fun _ => ?_) (fun _ => ?_)
      · refine sx_aload_n C0 dX6_store_19 rfl (lv_at hl 0 rfl) ?_
        refine cv_X6_183 (As := []) C0 (c_X6_noGods C0.2.2.2.2.2.2.2.1 S) is6 ⟨rfl, rfl⟩ ⟨Nat.le_of_ble_eq_true rfl, Nat.le_of_ble_eq_true rfl⟩ rfl hl.1 (Nat.le_of_ble_eq_true rfl) rfl dX6_store_20 (fun hb20 => ?_)
        refine sx_if_eq (tgt := 29) C0 dX6_store_23 (by decide) (fun _ => ?_) (fun _ => ?_)
        · refine sx_aload_n C0 dX6_store_29 rfl (lv_at hl 0 rfl) ?_
          refine gf_X6_33 C0 is6 dX6_store_30 ?_
          refine gf_X6_167 C0 is6_village.1 dX6_store_33 ?_
          refine gf_X6_186 C0 is6_village.2.2.1.1 dX6_store_36 ?_
          refine sx_iload_n C0 dX6_store_39 rfl (lv_at hl 1 rfl) ?_
          refine sx_iald C0 is6_village.2.2.1.2.1 rfl dX6_store_40 (fun a40 => ?_)
          refine sx_istore_n (lv' := [(3, .int a40), (0, .ref (ad 0)), (1, .int v1), (2, .int v2)]) C0 dX6_store_41 rfl hl (by decide) rfl (fun ls hl => ?_)
          refine sx_aload_n C0 dX6_store_42 rfl (lv_at hl 1 rfl) ?_
          refine gf_X6_33 C0 is6 dX6_store_43 ?_
          refine gf_X6_167 C0 is6_village.1 dX6_store_46 ?_
          refine gf_X6_186 C0 is6_village.2.2.1.1 dX6_store_49 ?_
          refine sx_iload_n C0 dX6_store_52 rfl (lv_at hl 2 rfl) ?_
          refine sx_iload_n C0 dX6_store_53 rfl (lv_at hl 3 rfl) ?_
          refine sx_iast C0 is6_village.2.2.1.2.1 rfl dX6_store_54 (fun S54 => ?_)
          refine sx_iload_n C0 dX6_store_55 rfl (lv_at hl 0 rfl) ?_
          exact sx_iret C0 rfl rfl trivial dX6_store_56
        · refine sx_bipush (v := (-4)) C0 dX6_store_26 (by decide) ?_
          exact sx_iret C0 rfl rfl trivial dX6_store_28
      · refine sx_iconst (v := (-1)) C0 dX6_store_17 (by decide) ?_
        exact sx_iret C0 rfl rfl trivial dX6_store_18
abbrev rm_X6_stores : Room := { frames := 1, cells := 0, slots := 0, locals := 20 }
def mX6_stores (S : vS) (v1 : Int32) : Option Int32 := (if (mX6_isFood v1) = 0 then (some (-1 : Int32)) else ((gI (S.1 ((30 + 11) + 1)) 3 v1).bind fun a20 => (some a20)))
set_option maxHeartbeats 4000000 in
set_option maxRecDepth 100000 in
theorem c_X6_stores {l : Launch} {D : va_G} {cA : Nat → ClassId} {ad : Nat → Nat} {kl : Nat} (G : Gx shC ad (ExC ad kl)) (v1 : Int32) (S : vS) (r : Int32) (hr : (mX6_stores S v1) = some r) : Met l yX6_stores (Cond.code yX6_stores cX6_stores 2 (some .int) :: ALL) rm_X6_stores (Po D vwCl tlC shC cA ad (ExC ad kl) [.ref (ad 0), .int v1] S) (Qo D vwCl shC cA ad (some (.int r)) S True) 0 0 (aw shC ad) := by
  refine Met.sx (M := (mX6_stores S v1)) (rv := (fun r => some (.int r) : Int32 → Option Value)) (rs := fun _ => S) (B := fun _ => True) (by decide) ⟨rfl, rfl⟩ (Nat.le_of_ble_eq_true rfl) G (fun p e s m args below meth c C0 ls hl => ?_) hr
  have hl : lv_has ls 2 [(0, .ref (ad 0)), (1, .int v1)] := hl
  rw [mX6_stores]
  refine sx_iload_n C0 dX6_stores_0 rfl (lv_at hl 1 rfl) ?_
  refine cv_X6_180 (As := [.int v1]) C0 (c_X6_isFood C0.2.2.2.2.2.2.2.1 v1 S) ⟨rfl, rfl⟩ ⟨Nat.le_of_ble_eq_true rfl, Nat.le_of_ble_eq_true rfl⟩ rfl hl.1 (Nat.le_of_ble_eq_true rfl) rfl dX6_stores_1 (fun hb1 => ?_)
  refine sx_if_ne (tgt := 9) C0 dX6_stores_4 (by decide) (fun _ => ?_) (fun _ => ?_)
  · refine sx_iconst (v := (-1)) C0 dX6_stores_7 (by decide) ?_
    exact sx_iret C0 rfl rfl trivial dX6_stores_8
  · refine sx_aload_n C0 dX6_stores_9 rfl (lv_at hl 0 rfl) ?_
    refine gf_X6_33 C0 is6 dX6_stores_10 ?_
    refine gf_X6_167 C0 is6_village.1 dX6_stores_13 ?_
    refine gf_X6_186 C0 is6_village.2.2.1.1 dX6_stores_16 ?_
    refine sx_iload_n C0 dX6_stores_19 rfl (lv_at hl 1 rfl) ?_
    refine sx_iald C0 is6_village.2.2.1.2.1 rfl dX6_stores_20 (fun a20 => ?_)
    exact sx_iret C0 rfl rfl trivial dX6_stores_21
abbrev rm_X6_isPatience : Room := { frames := 0, cells := 0, slots := 0, locals := 0 }
def bX6_isPatience_15      : Int32 := (0 : Int32)
set_option maxHeartbeats 4000000 in
set_option maxRecDepth 100000 in
theorem bX6_isPatience_15_t {p : Program} {l : Launch} {e : Env} {s : State} {m : MethodId} {args : Array Value} {below : List Frame} {meth : Method} {c : Code} {D : va_G} {cA : Nat → ClassId} {ad : Nat → Nat} {kl : Nat}  {S : vS} (C0 : Cx D vwCl tlC shC cA ad (ExC ad kl) RX6 cX6_isPatience 1 (some .boolean) p s m args meth c)   (ls : Array Slot) (hl : lv_has ls 1 []) : SW p l e rm_X6_isPatience s m args below meth c D vwCl shC cA ad (Fq D vwCl shC cA ad below args s (fun r => some (.int r) : Int32 → Option Value) (fun _ => S) (fun r => isB r)) (some bX6_isPatience_15) S 15 ls [] := by
  rw [bX6_isPatience_15]
  refine sx_iconst (v := 0) C0 dX6_isPatience_15 (by decide) ?_
  exact sx_zret C0 rfl rfl (Or.inl rfl) (Or.inl rfl) dX6_isPatience_16
def mX6_isPatience (v0 : Int32) : Int32 := (if v0 < (1 : Int32) then (bX6_isPatience_15) else (if (6 : Int32) < v0 then (bX6_isPatience_15) else (1 : Int32)))
set_option maxHeartbeats 4000000 in
set_option maxRecDepth 100000 in
theorem c_X6_isPatience {l : Launch} {D : va_G} {cA : Nat → ClassId} {ad : Nat → Nat} {kl : Nat} (G : Gx shC ad (ExC ad kl)) (v0 : Int32) (S : vS) : Met l yX6_isPatience (Cond.code yX6_isPatience cX6_isPatience 1 (some .boolean) :: ALL) rm_X6_isPatience (Po D vwCl tlC shC cA ad (ExC ad kl) [.int v0] S) (Qo D vwCl shC cA ad (some (.int (mX6_isPatience v0))) S (isB (mX6_isPatience v0))) 0 0 (aw shC ad) := by
  refine Met.sx (M := some (mX6_isPatience v0)) (rv := (fun r => some (.int r) : Int32 → Option Value)) (rs := fun _ => S) (B := fun r => isB r) (by decide) ⟨rfl, rfl⟩ (Nat.le_of_ble_eq_true rfl) G (fun p e s m args below meth c C0 ls hl => ?_) rfl
  have hl : lv_has ls 1 [(0, .int v0)] := hl
  rw [mX6_isPatience]
  refine sx_iload_n C0 dX6_isPatience_0 rfl (lv_at hl 0 rfl) ?_
  refine sx_iconst (v := 1) C0 dX6_isPatience_1 (by decide) ?_
  refine sx_icmp_lts (tgt := 15) C0 dX6_isPatience_2 (by decide) (fun _ => ?_) (fun _ => ?_)
  · exact bX6_isPatience_15_t C0 _ (lv_sub hl [] rfl)
  · refine sx_iload_n C0 dX6_isPatience_5 rfl (lv_at hl 0 rfl) ?_
    refine sx_bipush (v := 6) C0 dX6_isPatience_6 (by decide) ?_
    refine sx_icmp_gts (tgt := 15) C0 dX6_isPatience_8 (by decide) (fun _ => ?_) (fun _ => ?_)
    · exact bX6_isPatience_15_t C0 _ (lv_sub hl [] rfl)
    · refine sx_iconst (v := 1) C0 dX6_isPatience_11 (by decide) ?_
      refine sx_goto (tgt := 16) C0 dX6_isPatience_12 (by decide) ?_
      exact sx_zret C0 rfl rfl (Or.inr rfl) (Or.inr rfl) dX6_isPatience_16
abbrev rm_X6_patience : Room := { frames := 1, cells := 0, slots := 0, locals := 21 }
def mX6_patience (S : vS) (v1 : Int32) (v2 : Int32) : Option (Int32 × vS) := (if (mX0_has S (30 + 1) v1) = 0 then (some ((-1 : Int32), S)) else (if (mX6_isPatience v2) = 0 then (some ((-1 : Int32), S)) else ((gI (S.1 ((30 + 1) + 3)) 4 v1).bind fun a34 => ((pI S ((30 + 1) + 3) 4 v1 v2).bind fun S48 => (some (a34, S48))))))
set_option maxHeartbeats 4000000 in
set_option maxRecDepth 100000 in
theorem c_X6_patience {l : Launch} {D : va_G} {cA : Nat → ClassId} {ad : Nat → Nat} {kl : Nat} (G : Gx shC ad (ExC ad kl)) (v1 : Int32) (v2 : Int32) (S : vS) (r : (Int32 × vS)) (hr : (mX6_patience S v1 v2) = some r) : Met l yX6_patience (Cond.code yX6_patience cX6_patience 4 (some .int) :: ALL) rm_X6_patience (Po D vwCl tlC shC cA ad (ExC ad kl) [.ref (ad 0), .int v1, .int v2] S) (Qo D vwCl shC cA ad (some (.int r.1)) r.2 True) 0 0 (aw shC ad) := by
  refine Met.sx (M := (mX6_patience S v1 v2)) (rv := (fun q => some (.int q.1) : (Int32 × vS) → Option Value)) (rs := fun q => q.2) (B := fun _ => True) (by decide) ⟨rfl, rfl⟩ (Nat.le_of_ble_eq_true rfl) G (fun p e s m args below meth c C0 ls hl => ?_) hr
  have hl : lv_has ls 4 [(0, .ref (ad 0)), (1, .int v1), (2, .int v2)] := hl
  rw [mX6_patience]
  refine sx_aload_n C0 dX6_patience_0 rfl (lv_at hl 0 rfl) ?_
  refine gf_X6_33 C0 is6 dX6_patience_1 ?_
  refine gf_X6_149 C0 is6_village.1 dX6_patience_4 ?_
  refine sx_iload_n C0 dX6_patience_7 rfl (lv_at hl 1 rfl) ?_
  refine cv_X6_153 (As := [.int v1]) C0 (c_X0_has C0.2.2.2.2.2.2.2.1 (30 + 1) is6_village.2.1 v1 S) is6_village.2.1.1 ⟨rfl, rfl⟩ ⟨Nat.le_of_ble_eq_true rfl, Nat.le_of_ble_eq_true rfl⟩ rfl hl.1 (Nat.le_of_ble_eq_true rfl) rfl dX6_patience_8 (fun hb8 => ?_)
  refine sx_if_eq (tgt := 21) C0 dX6_patience_11 (by decide) (fun _ => ?_) (fun _ => ?_)
  · refine sx_iconst (v := (-1)) C0 dX6_patience_21 (by decide) ?_
    exact sx_iret C0 rfl rfl trivial dX6_patience_22
  · refine sx_iload_n C0 dX6_patience_14 rfl (lv_at hl 2 rfl) ?_
    refine cv_X6_187 (As := [.int v2]) C0 (c_X6_isPatience C0.2.2.2.2.2.2.2.1 v2 S) ⟨rfl, rfl⟩ ⟨Nat.le_of_ble_eq_true rfl, Nat.le_of_ble_eq_true rfl⟩ rfl hl.1 (Nat.le_of_ble_eq_true rfl) rfl dX6_patience_15 (fun hb15 => ?_)
    refine sx_if_ne (tgt := 23) C0 dX6_patience_18 (by decide) (fun _ => ?_) (fun _ => ?_)
    · refine sx_iconst (v := (-1)) C0 dX6_patience_21 (by decide) ?_
      exact sx_iret C0 rfl rfl trivial dX6_patience_22
    · refine sx_aload_n C0 dX6_patience_23 rfl (lv_at hl 0 rfl) ?_
      refine gf_X6_33 C0 is6 dX6_patience_24 ?_
      refine gf_X6_149 C0 is6_village.1 dX6_patience_27 ?_
      refine gf_X6_190 C0 is6_village.2.1.1 dX6_patience_30 ?_
      refine sx_iload_n C0 dX6_patience_33 rfl (lv_at hl 1 rfl) ?_
      refine sx_iald C0 is6_village.2.1.2.2.2.1 rfl dX6_patience_34 (fun a34 => ?_)
      refine sx_istore_n (lv' := [(3, .int a34), (0, .ref (ad 0)), (1, .int v1), (2, .int v2)]) C0 dX6_patience_35 rfl hl (by decide) rfl (fun ls hl => ?_)
      refine sx_aload_n C0 dX6_patience_36 rfl (lv_at hl 1 rfl) ?_
      refine gf_X6_33 C0 is6 dX6_patience_37 ?_
      refine gf_X6_149 C0 is6_village.1 dX6_patience_40 ?_
      refine gf_X6_190 C0 is6_village.2.1.1 dX6_patience_43 ?_
      refine sx_iload_n C0 dX6_patience_46 rfl (lv_at hl 2 rfl) ?_
      refine sx_iload_n C0 dX6_patience_47 rfl (lv_at hl 3 rfl) ?_
      refine sx_iast C0 is6_village.2.1.2.2.2.1 rfl dX6_patience_48 (fun S48 => ?_)
      refine sx_iload_n C0 dX6_patience_49 rfl (lv_at hl 0 rfl) ?_
      exact sx_iret C0 rfl rfl trivial dX6_patience_50
abbrev rm_X6_offer : Room := { frames := 5, cells := 0, slots := 0, locals := 122 }
def mX6_offer (S : vS) (v1 : Int32) : Option (Int32 × vS) := (if (mX0_hasNumber S (30 + 1) v1) = 0 then (some ((-1 : Int32), S)) else (if (mX6_noGods S) = 0 then ((mX3_costOf S (30 + 11) (30 + 1) v1).bind fun a38 => (if a38 = (-9 : Int32) then (some ((-4 : Int32), S)) else (if (S.1 (30 + 11) 0) < (200 : Int32) then ((mX5_spendDay S 30 v1).bind fun q74 => (lt (mX6_tell q74.2 q74.1) fun S77 => (some ((1 : Int32), S77)))) else (some ((-2 : Int32), S))))) else (some ((-4 : Int32), S))))
set_option maxHeartbeats 4000000 in
set_option maxRecDepth 100000 in
theorem c_X6_offer {l : Launch} {D : va_G} {cA : Nat → ClassId} {ad : Nat → Nat} {kl : Nat} (G : Gx shC ad (ExC ad kl)) (v1 : Int32) (S : vS) (r : (Int32 × vS)) (hr : (mX6_offer S v1) = some r) : Met l yX6_offer (Cond.code yX6_offer cX6_offer 2 (some .int) :: ALL) rm_X6_offer (Po D vwCl tlC shC cA ad (ExC ad kl) [.ref (ad 0), .int v1] S) (Qo D vwCl shC cA ad (some (.int r.1)) r.2 True) 0 0 (aw shC ad) := by
  refine Met.sx (M := (mX6_offer S v1)) (rv := (fun q => some (.int q.1) : (Int32 × vS) → Option Value)) (rs := fun q => q.2) (B := fun _ => True) (by decide) ⟨rfl, rfl⟩ (Nat.le_of_ble_eq_true rfl) G (fun p e s m args below meth c C0 ls hl => ?_) hr
  have hl : lv_has ls 2 [(0, .ref (ad 0)), (1, .int v1)] := hl
  rw [mX6_offer]
  refine sx_aload_n C0 dX6_offer_0 rfl (lv_at hl 0 rfl) ?_
  refine gf_X6_33 C0 is6 dX6_offer_1 ?_
  refine gf_X6_149 C0 is6_village.1 dX6_offer_4 ?_
  refine sx_iload_n C0 dX6_offer_7 rfl (lv_at hl 1 rfl) ?_
  refine cv_X6_193 (As := [.int v1]) C0 (c_X0_hasNumber C0.2.2.2.2.2.2.2.1 (30 + 1) is6_village.2.1 v1 S) is6_village.2.1.1 ⟨rfl, rfl⟩ ⟨Nat.le_of_ble_eq_true rfl, Nat.le_of_ble_eq_true rfl⟩ rfl hl.1 (Nat.le_of_ble_eq_true rfl) rfl dX6_offer_8 (fun hb8 => ?_)
  refine sx_if_ne (tgt := 16) C0 dX6_offer_11 (by decide) (fun _ => ?_) (fun _ => ?_)
  · refine sx_iconst (v := (-1)) C0 dX6_offer_14 (by decide) ?_
    exact sx_iret C0 rfl rfl trivial dX6_offer_15
  · refine sx_aload_n C0 dX6_offer_16 rfl (lv_at hl 0 rfl) ?_
    refine cv_X6_183 (As := []) C0 (c_X6_noGods C0.2.2.2.2.2.2.2.1 S) is6 ⟨rfl, rfl⟩ ⟨Nat.le_of_ble_eq_true rfl, Nat.le_of_ble_eq_true rfl⟩ rfl hl.1 (Nat.le_of_ble_eq_true rfl) rfl dX6_offer_17 (fun hb17 => ?_)
    refine sx_if_ne (tgt := 46) C0 dX6_offer_20 (by decide) (fun _ => ?_) (fun _ => ?_)
    · refine sx_aload_n C0 dX6_offer_23 rfl (lv_at hl 0 rfl) ?_
      refine gf_X6_33 C0 is6 dX6_offer_24 ?_
      refine gf_X6_167 C0 is6_village.1 dX6_offer_27 ?_
      refine sx_aload_n C0 dX6_offer_30 rfl (lv_at hl 0 rfl) ?_
      refine gf_X6_33 C0 is6 dX6_offer_31 ?_
      refine gf_X6_149 C0 is6_village.1 dX6_offer_34 ?_
      refine sx_iload_n C0 dX6_offer_37 rfl (lv_at hl 1 rfl) ?_
      refine sw_bind (fun a38 e38 => ?_)
      refine cv_X6_196 (As := [.ref (ad (30 + 1)), .int v1]) C0 (c_X3_costOf C0.2.2.2.2.2.2.2.1 (30 + 11) is6_village.2.2.1 (30 + 1) is6_village.2.1 v1 S _ e38) is6_village.2.2.1.1 ⟨rfl, rfl⟩ ⟨Nat.le_of_ble_eq_true rfl, Nat.le_of_ble_eq_true rfl⟩ rfl hl.1 (Nat.le_of_ble_eq_true rfl) rfl dX6_offer_38 (fun _ => ?_)
      refine sx_bipush (v := (-9)) C0 dX6_offer_41 (by decide) ?_
      refine sx_icmp_ne (tgt := 49) C0 dX6_offer_43 (by decide) (fun _ => ?_) (fun _ => ?_)
      · refine sx_bipush (v := (-4)) C0 dX6_offer_46 (by decide) ?_
        exact sx_iret C0 rfl rfl trivial dX6_offer_48
      · refine sx_aload_n C0 dX6_offer_49 rfl (lv_at hl 0 rfl) ?_
        refine gf_X6_33 C0 is6 dX6_offer_50 ?_
        refine gf_X6_167 C0 is6_village.1 dX6_offer_53 ?_
        refine gf_X6_200 C0 is6_village.2.2.1.1 dX6_offer_56 ?_
        refine sx_sipush (v := 200) C0 dX6_offer_59 (by decide) ?_
        refine sx_icmp_lt (tgt := 68) C0 dX6_offer_62 (by decide) (fun _ => ?_) (fun _ => ?_)
        · refine sx_aload_n C0 dX6_offer_68 rfl (lv_at hl 0 rfl) ?_
          refine sx_aload_n C0 dX6_offer_69 rfl (lv_at hl 0 rfl) ?_
          refine gf_X6_33 C0 is6 dX6_offer_70 ?_
          refine sx_iload_n C0 dX6_offer_73 rfl (lv_at hl 1 rfl) ?_
          refine sw_bind (fun q74 e74 => ?_)
          refine cv_X6_203 (As := [.int v1]) C0 (c_X5_spendDay C0.2.2.2.2.2.2.2.1 30 is6_village v1 S _ e74) is6_village.1 ⟨rfl, rfl⟩ ⟨Nat.le_of_ble_eq_true rfl, Nat.le_of_ble_eq_true rfl⟩ rfl hl.1 (Nat.le_of_ble_eq_true rfl) rfl dX6_offer_74 (fun _ => ?_)
          refine cv_X6_103 (As := [.int q74.1]) C0 (c_X6_tell C0.2.2.2.2.2.2.2.1 q74.1 q74.2) is6 ⟨rfl, rfl⟩ ⟨Nat.le_of_ble_eq_true rfl, Nat.le_of_ble_eq_true rfl⟩ rfl hl.1 (Nat.le_of_ble_eq_true rfl) rfl dX6_offer_77 (fun _ => ?_)
          refine sw_ltS (fun S77 => ?_)
          refine sx_iconst (v := 1) C0 dX6_offer_80 (by decide) ?_
          exact sx_iret C0 rfl rfl trivial dX6_offer_81
        · refine sx_bipush (v := (-2)) C0 dX6_offer_65 (by decide) ?_
          exact sx_iret C0 rfl rfl trivial dX6_offer_67
    · refine sx_bipush (v := (-4)) C0 dX6_offer_46 (by decide) ?_
      exact sx_iret C0 rfl rfl trivial dX6_offer_48
abbrev rm_X6_may : Room := { frames := 3, cells := 0, slots := 0, locals := 69 }
def mX6_may (S : vS) (v1 : Int32) : Option Int32 := (if (mX0_hasNumber S (30 + 1) v1) = 0 then (some (-1 : Int32)) else (if (mX6_noGods S) = 0 then ((mX3_costOf S (30 + 11) (30 + 1) v1).bind fun a41 => (some a41)) else (some (-4 : Int32))))
set_option maxHeartbeats 4000000 in
set_option maxRecDepth 100000 in
theorem c_X6_may {l : Launch} {D : va_G} {cA : Nat → ClassId} {ad : Nat → Nat} {kl : Nat} (G : Gx shC ad (ExC ad kl)) (v1 : Int32) (S : vS) (r : Int32) (hr : (mX6_may S v1) = some r) : Met l yX6_may (Cond.code yX6_may cX6_may 2 (some .int) :: ALL) rm_X6_may (Po D vwCl tlC shC cA ad (ExC ad kl) [.ref (ad 0), .int v1] S) (Qo D vwCl shC cA ad (some (.int r)) S True) 0 0 (aw shC ad) := by
  refine Met.sx (M := (mX6_may S v1)) (rv := (fun r => some (.int r) : Int32 → Option Value)) (rs := fun _ => S) (B := fun _ => True) (by decide) ⟨rfl, rfl⟩ (Nat.le_of_ble_eq_true rfl) G (fun p e s m args below meth c C0 ls hl => ?_) hr
  have hl : lv_has ls 2 [(0, .ref (ad 0)), (1, .int v1)] := hl
  rw [mX6_may]
  refine sx_aload_n C0 dX6_may_0 rfl (lv_at hl 0 rfl) ?_
  refine gf_X6_33 C0 is6 dX6_may_1 ?_
  refine gf_X6_149 C0 is6_village.1 dX6_may_4 ?_
  refine sx_iload_n C0 dX6_may_7 rfl (lv_at hl 1 rfl) ?_
  refine cv_X6_193 (As := [.int v1]) C0 (c_X0_hasNumber C0.2.2.2.2.2.2.2.1 (30 + 1) is6_village.2.1 v1 S) is6_village.2.1.1 ⟨rfl, rfl⟩ ⟨Nat.le_of_ble_eq_true rfl, Nat.le_of_ble_eq_true rfl⟩ rfl hl.1 (Nat.le_of_ble_eq_true rfl) rfl dX6_may_8 (fun hb8 => ?_)
  refine sx_if_ne (tgt := 16) C0 dX6_may_11 (by decide) (fun _ => ?_) (fun _ => ?_)
  · refine sx_iconst (v := (-1)) C0 dX6_may_14 (by decide) ?_
    exact sx_iret C0 rfl rfl trivial dX6_may_15
  · refine sx_aload_n C0 dX6_may_16 rfl (lv_at hl 0 rfl) ?_
    refine cv_X6_183 (As := []) C0 (c_X6_noGods C0.2.2.2.2.2.2.2.1 S) is6 ⟨rfl, rfl⟩ ⟨Nat.le_of_ble_eq_true rfl, Nat.le_of_ble_eq_true rfl⟩ rfl hl.1 (Nat.le_of_ble_eq_true rfl) rfl dX6_may_17 (fun hb17 => ?_)
    refine sx_if_eq (tgt := 26) C0 dX6_may_20 (by decide) (fun _ => ?_) (fun _ => ?_)
    · refine sx_aload_n C0 dX6_may_26 rfl (lv_at hl 0 rfl) ?_
      refine gf_X6_33 C0 is6 dX6_may_27 ?_
      refine gf_X6_167 C0 is6_village.1 dX6_may_30 ?_
      refine sx_aload_n C0 dX6_may_33 rfl (lv_at hl 0 rfl) ?_
      refine gf_X6_33 C0 is6 dX6_may_34 ?_
      refine gf_X6_149 C0 is6_village.1 dX6_may_37 ?_
      refine sx_iload_n C0 dX6_may_40 rfl (lv_at hl 1 rfl) ?_
      refine sw_bind (fun a41 e41 => ?_)
      refine cv_X6_196 (As := [.ref (ad (30 + 1)), .int v1]) C0 (c_X3_costOf C0.2.2.2.2.2.2.2.1 (30 + 11) is6_village.2.2.1 (30 + 1) is6_village.2.1 v1 S _ e41) is6_village.2.2.1.1 ⟨rfl, rfl⟩ ⟨Nat.le_of_ble_eq_true rfl, Nat.le_of_ble_eq_true rfl⟩ rfl hl.1 (Nat.le_of_ble_eq_true rfl) rfl dX6_may_41 (fun _ => ?_)
      exact sx_iret C0 rfl rfl trivial dX6_may_44
    · refine sx_bipush (v := (-4)) C0 dX6_may_23 (by decide) ?_
      exact sx_iret C0 rfl rfl trivial dX6_may_25
abbrev rm_X6_rest : Room := { frames := 5, cells := 0, slots := 0, locals := 122 }
def bX6_rest_70    (S : vS) (v2 : Int32)  : Option (Int32 × vS) := (lt (mX6_tell S v2) fun S72 => (some ((1 : Int32), S72)))
set_option maxHeartbeats 4000000 in
set_option maxRecDepth 100000 in
theorem bX6_rest_70_t {p : Program} {l : Launch} {e : Env} {s : State} {m : MethodId} {args : Array Value} {below : List Frame} {meth : Method} {c : Code} {D : va_G} {cA : Nat → ClassId} {ad : Nat → Nat} {kl : Nat}   (C0 : Cx D vwCl tlC shC cA ad (ExC ad kl) RX6 cX6_rest 4 (some .int) p s m args meth c)  (S : vS) (v2 : Int32) (ls : Array Slot) (hl : lv_has ls 4 [(0, .ref (ad 0)), (2, .int v2)]) : SW p l e rm_X6_rest s m args below meth c D vwCl shC cA ad (Fq D vwCl shC cA ad below args s (fun q => some (.int q.1) : (Int32 × vS) → Option Value) (fun q => q.2) (fun _ => True)) (bX6_rest_70 S v2) S 70 ls [] := by
  rw [bX6_rest_70]
  refine sx_aload_n C0 dX6_rest_70 rfl (lv_at hl 0 rfl) ?_
  refine sx_iload_n C0 dX6_rest_71 rfl (lv_at hl 1 rfl) ?_
  refine cv_X6_103 (As := [.int v2]) C0 (c_X6_tell C0.2.2.2.2.2.2.2.1 v2 S) is6 ⟨rfl, rfl⟩ ⟨Nat.le_of_ble_eq_true rfl, Nat.le_of_ble_eq_true rfl⟩ rfl hl.1 (Nat.le_of_ble_eq_true rfl) rfl dX6_rest_72 (fun _ => ?_)
  refine sw_ltS (fun S72 => ?_)
  refine sx_iconst (v := 1) C0 dX6_rest_75 (by decide) ?_
  exact sx_iret C0 rfl rfl trivial dX6_rest_76
def lX6_rest_47    (v1 : Int32) : Nat → vS → Int32 → Int32 → Option (Int32 × vS)
  | 0, _, _, _ => none
  | n + 1, S, v2, v3 => (if v1 ≤ v3 then (bX6_rest_70 S v2) else ((mX5_spendDay S 30 (12 : Int32)).bind fun q59 => (lt (v2 + q59.1) fun v2_63 => ((lX6_rest_47 v1 n) q59.2 v2_63 (v3 + (1 : Int32))))))
set_option maxHeartbeats 4000000 in
set_option maxRecDepth 100000 in
theorem lX6_rest_47_t {p : Program} {l : Launch} {e : Env} {s : State} {m : MethodId} {args : Array Value} {below : List Frame} {meth : Method} {c : Code} {D : va_G} {cA : Nat → ClassId} {ad : Nat → Nat} {kl : Nat}   (C0 : Cx D vwCl tlC shC cA ad (ExC ad kl) RX6 cX6_rest 4 (some .int) p s m args meth c)   (v1 : Int32)  : ∀ (n : Nat) (S : vS) (v2 : Int32) (v3 : Int32) (ls : Array Slot), lv_has ls 4 [(0, .ref (ad 0)), (1, .int v1), (2, .int v2), (3, .int v3)] → SW p l e rm_X6_rest s m args below meth c D vwCl shC cA ad (Fq D vwCl shC cA ad below args s (fun q => some (.int q.1) : (Int32 × vS) → Option Value) (fun q => q.2) (fun _ => True)) (lX6_rest_47 v1 n S v2 v3) S 47 ls [] := by
  intro n
  induction n with
  | zero =>
    intro S v2 v3 ls hl
    rw [lX6_rest_47]
    exact sw_none
  | succ n ih =>
    intro S v2 v3 ls hl
    rw [lX6_rest_47]
    refine sx_iload_n C0 dX6_rest_47 rfl (lv_at hl 3 rfl) ?_
    refine sx_iload_n C0 dX6_rest_48 rfl (lv_at hl 1 rfl) ?_
    refine sx_icmp_ge (tgt := 70) C0 dX6_rest_49 (by decide) (fun _ => ?_) (fun _ => ?_)
    · exact bX6_rest_70_t C0 _ _ _ (lv_sub hl [0, 2] rfl)
    · refine sx_iload_n C0 dX6_rest_52 rfl (lv_at hl 2 rfl) ?_
      refine sx_aload_n C0 dX6_rest_53 rfl (lv_at hl 0 rfl) ?_
      refine gf_X6_33 C0 is6 dX6_rest_54 ?_
      refine sx_bipush (v := 12) C0 dX6_rest_57 (by decide) ?_
      refine sw_bind (fun q59 e59 => ?_)
      refine cv_X6_203 (As := [.int (12 : Int32)]) C0 (c_X5_spendDay C0.2.2.2.2.2.2.2.1 30 is6_village (12 : Int32) S _ e59) is6_village.1 ⟨rfl, rfl⟩ ⟨Nat.le_of_ble_eq_true rfl, Nat.le_of_ble_eq_true rfl⟩ rfl hl.1 (Nat.le_of_ble_eq_true rfl) rfl dX6_rest_59 (fun _ => ?_)
      refine sx_iadd C0 dX6_rest_62 ?_
      refine sw_lt (val := .int) (fun v2_63 => ?_)
      refine sx_istore_n (lv' := [(2, .int v2_63), (0, .ref (ad 0)), (1, .int v1), (3, .int v3)]) C0 dX6_rest_63 rfl hl (by decide) rfl (fun ls hl => ?_)
      refine sx_iinc (v := (v3 + (1 : Int32))) (lv' := [(3, .int (v3 + (1 : Int32))), (2, .int v2_63), (0, .ref (ad 0)), (1, .int v1)]) C0 dX6_rest_64 hl (k := 3) rfl rfl (by decide) rfl (fun ls hl => ?_)
      refine sx_goto (tgt := 47) C0 dX6_rest_67 (by decide) ?_
      exact ih _ _ _ _ (lv_sub hl [2, 3, 1, 0] rfl)
def mX6_rest (S : vS) (v1 : Int32) : Option (Int32 × vS) := (if v1 < 0 then (some ((-1 : Int32), S)) else (if v1 ≤ (30 : Int32) then (if (mX6_noGods S) = 0 then (if ((S.1 (30 + 11) 0) + v1) ≤ (200 : Int32) then (lX6_rest_47 v1 FU S (0 : Int32) (0 : Int32)) else (some ((-2 : Int32), S))) else (some ((-4 : Int32), S))) else (some ((-1 : Int32), S))))
set_option maxHeartbeats 4000000 in
set_option maxRecDepth 100000 in
theorem c_X6_rest {l : Launch} {D : va_G} {cA : Nat → ClassId} {ad : Nat → Nat} {kl : Nat} (G : Gx shC ad (ExC ad kl)) (v1 : Int32) (S : vS) (r : (Int32 × vS)) (hr : (mX6_rest S v1) = some r) : Met l yX6_rest (Cond.code yX6_rest cX6_rest 4 (some .int) :: ALL) rm_X6_rest (Po D vwCl tlC shC cA ad (ExC ad kl) [.ref (ad 0), .int v1] S) (Qo D vwCl shC cA ad (some (.int r.1)) r.2 True) 0 0 (aw shC ad) := by
  refine Met.sx (M := (mX6_rest S v1)) (rv := (fun q => some (.int q.1) : (Int32 × vS) → Option Value)) (rs := fun q => q.2) (B := fun _ => True) (by decide) ⟨rfl, rfl⟩ (Nat.le_of_ble_eq_true rfl) G (fun p e s m args below meth c C0 ls hl => ?_) hr
  have hl : lv_has ls 4 [(0, .ref (ad 0)), (1, .int v1)] := hl
  rw [mX6_rest]
  refine sx_iload_n C0 dX6_rest_0 rfl (lv_at hl 1 rfl) ?_
  refine sx_if_lt (tgt := 10) C0 dX6_rest_1 (by decide) (fun _ => ?_) (fun _ => ?_)
  · refine sx_iconst (v := (-1)) C0 dX6_rest_10 (by decide) ?_
    exact sx_iret C0 rfl rfl trivial dX6_rest_11
  · refine sx_iload_n C0 dX6_rest_4 rfl (lv_at hl 1 rfl) ?_
    refine sx_bipush (v := 30) C0 dX6_rest_5 (by decide) ?_
    refine sx_icmp_le (tgt := 12) C0 dX6_rest_7 (by decide) (fun _ => ?_) (fun _ => ?_)
    · refine sx_aload_n C0 dX6_rest_12 rfl (lv_at hl 0 rfl) ?_
      refine cv_X6_183 (As := []) C0 (c_X6_noGods C0.2.2.2.2.2.2.2.1 S) is6 ⟨rfl, rfl⟩ ⟨Nat.le_of_ble_eq_true rfl, Nat.le_of_ble_eq_true rfl⟩ rfl hl.1 (Nat.le_of_ble_eq_true rfl) rfl dX6_rest_13 (fun hb13 => ?_)
      refine sx_if_eq (tgt := 22) C0 dX6_rest_16 (by decide) (fun _ => ?_) (fun _ => ?_)
      · refine sx_aload_n C0 dX6_rest_22 rfl (lv_at hl 0 rfl) ?_
        refine gf_X6_33 C0 is6 dX6_rest_23 ?_
        refine gf_X6_167 C0 is6_village.1 dX6_rest_26 ?_
        refine gf_X6_200 C0 is6_village.2.2.1.1 dX6_rest_29 ?_
        refine sx_iload_n C0 dX6_rest_32 rfl (lv_at hl 1 rfl) ?_
        refine sx_iadd C0 dX6_rest_33 ?_
        refine sx_sipush (v := 200) C0 dX6_rest_34 (by decide) ?_
        refine sx_icmp_le (tgt := 43) C0 dX6_rest_37 (by decide) (fun _ => ?_) (fun _ => ?_)
        · refine sx_iconst (v := 0) C0 dX6_rest_43 (by decide) ?_
          refine sx_istore_n (lv' := [(2, .int (0 : Int32)), (0, .ref (ad 0)), (1, .int v1)]) C0 dX6_rest_44 rfl hl (by decide) rfl (fun ls hl => ?_)
          refine sx_iconst (v := 0) C0 dX6_rest_45 (by decide) ?_
          refine sx_istore_n (lv' := [(3, .int (0 : Int32)), (2, .int (0 : Int32)), (0, .ref (ad 0)), (1, .int v1)]) C0 dX6_rest_46 rfl hl (by decide) rfl (fun ls hl => ?_)
          exact lX6_rest_47_t C0 _ _ _ _ _ _ (lv_sub hl [2, 3, 1, 0] rfl)
        · refine sx_bipush (v := (-2)) C0 dX6_rest_40 (by decide) ?_
          exact sx_iret C0 rfl rfl trivial dX6_rest_42
      · refine sx_bipush (v := (-4)) C0 dX6_rest_19 (by decide) ?_
        exact sx_iret C0 rfl rfl trivial dX6_rest_21
    · refine sx_iconst (v := (-1)) C0 dX6_rest_10 (by decide) ?_
      exact sx_iret C0 rfl rfl trivial dX6_rest_11
abbrev rm_X6_sent : Room := { frames := 2, cells := 0, slots := 0, locals := 44 }
def mX6_sent (S : vS) (v1 : Int32) (v2 : Int32) : Option (Int32 × vS) := (if v1 < 0 then (some ((-1 : Int32), S)) else (if (mX0_has S (30 + 1) v2) = 0 then (some ((-1 : Int32), S)) else (if v1 < (S.1 (30 + 11) 0) then ((mX5_sentOn S 30 v1 v2).bind fun a47 => (lt (mX6_tell S a47) fun S50 => (some ((1 : Int32), S50)))) else ((mX6_found S (2 : Int32)).bind fun q36 => (some (q36.1, q36.2))))))
set_option maxHeartbeats 4000000 in
set_option maxRecDepth 100000 in
theorem c_X6_sent {l : Launch} {D : va_G} {cA : Nat → ClassId} {ad : Nat → Nat} {kl : Nat} (G : Gx shC ad (ExC ad kl)) (v1 : Int32) (v2 : Int32) (S : vS) (r : (Int32 × vS)) (hr : (mX6_sent S v1 v2) = some r) : Met l yX6_sent (Cond.code yX6_sent cX6_sent 3 (some .int) :: ALL) rm_X6_sent (Po D vwCl tlC shC cA ad (ExC ad kl) [.ref (ad 0), .int v1, .int v2] S) (Qo D vwCl shC cA ad (some (.int r.1)) r.2 True) 0 0 (aw shC ad) := by
  refine Met.sx (M := (mX6_sent S v1 v2)) (rv := (fun q => some (.int q.1) : (Int32 × vS) → Option Value)) (rs := fun q => q.2) (B := fun _ => True) (by decide) ⟨rfl, rfl⟩ (Nat.le_of_ble_eq_true rfl) G (fun p e s m args below meth c C0 ls hl => ?_) hr
  have hl : lv_has ls 3 [(0, .ref (ad 0)), (1, .int v1), (2, .int v2)] := hl
  rw [mX6_sent]
  refine sx_iload_n C0 dX6_sent_0 rfl (lv_at hl 1 rfl) ?_
  refine sx_if_lt (tgt := 18) C0 dX6_sent_1 (by decide) (fun _ => ?_) (fun _ => ?_)
  · refine sx_iconst (v := (-1)) C0 dX6_sent_18 (by decide) ?_
    exact sx_iret C0 rfl rfl trivial dX6_sent_19
  · refine sx_aload_n C0 dX6_sent_4 rfl (lv_at hl 0 rfl) ?_
    refine gf_X6_33 C0 is6 dX6_sent_5 ?_
    refine gf_X6_149 C0 is6_village.1 dX6_sent_8 ?_
    refine sx_iload_n C0 dX6_sent_11 rfl (lv_at hl 2 rfl) ?_
    refine cv_X6_153 (As := [.int v2]) C0 (c_X0_has C0.2.2.2.2.2.2.2.1 (30 + 1) is6_village.2.1 v2 S) is6_village.2.1.1 ⟨rfl, rfl⟩ ⟨Nat.le_of_ble_eq_true rfl, Nat.le_of_ble_eq_true rfl⟩ rfl hl.1 (Nat.le_of_ble_eq_true rfl) rfl dX6_sent_12 (fun hb12 => ?_)
    refine sx_if_ne (tgt := 20) C0 dX6_sent_15 (by decide) (fun _ => ?_) (fun _ => ?_)
    · refine sx_iconst (v := (-1)) C0 dX6_sent_18 (by decide) ?_
      exact sx_iret C0 rfl rfl trivial dX6_sent_19
    · refine sx_iload_n C0 dX6_sent_20 rfl (lv_at hl 1 rfl) ?_
      refine sx_aload_n C0 dX6_sent_21 rfl (lv_at hl 0 rfl) ?_
      refine gf_X6_33 C0 is6 dX6_sent_22 ?_
      refine gf_X6_167 C0 is6_village.1 dX6_sent_25 ?_
      refine gf_X6_200 C0 is6_village.2.2.1.1 dX6_sent_28 ?_
      refine sx_icmp_lt (tgt := 40) C0 dX6_sent_31 (by decide) (fun _ => ?_) (fun _ => ?_)
      · refine sx_aload_n C0 dX6_sent_40 rfl (lv_at hl 0 rfl) ?_
        refine sx_aload_n C0 dX6_sent_41 rfl (lv_at hl 0 rfl) ?_
        refine gf_X6_33 C0 is6 dX6_sent_42 ?_
        refine sx_iload_n C0 dX6_sent_45 rfl (lv_at hl 1 rfl) ?_
        refine sx_iload_n C0 dX6_sent_46 rfl (lv_at hl 2 rfl) ?_
        refine sw_bind (fun a47 e47 => ?_)
        refine cv_X6_206 (As := [.int v1, .int v2]) C0 (c_X5_sentOn C0.2.2.2.2.2.2.2.1 30 is6_village v1 v2 S _ e47) is6_village.1 ⟨rfl, rfl⟩ ⟨Nat.le_of_ble_eq_true rfl, Nat.le_of_ble_eq_true rfl⟩ rfl hl.1 (Nat.le_of_ble_eq_true rfl) rfl dX6_sent_47 (fun _ => ?_)
        refine cv_X6_103 (As := [.int a47]) C0 (c_X6_tell C0.2.2.2.2.2.2.2.1 a47 S) is6 ⟨rfl, rfl⟩ ⟨Nat.le_of_ble_eq_true rfl, Nat.le_of_ble_eq_true rfl⟩ rfl hl.1 (Nat.le_of_ble_eq_true rfl) rfl dX6_sent_50 (fun _ => ?_)
        refine sw_ltS (fun S50 => ?_)
        refine sx_iconst (v := 1) C0 dX6_sent_53 (by decide) ?_
        exact sx_iret C0 rfl rfl trivial dX6_sent_54
      · refine sx_aload_n C0 dX6_sent_34 rfl (lv_at hl 0 rfl) ?_
        refine sx_iconst (v := 2) C0 dX6_sent_35 (by decide) ?_
        refine sw_bind (fun q36 e36 => ?_)
        refine cv_X6_87 (As := [.int (2 : Int32)]) C0 (c_X6_found C0.2.2.2.2.2.2.2.1 (2 : Int32) S _ e36) is6 ⟨rfl, rfl⟩ ⟨Nat.le_of_ble_eq_true rfl, Nat.le_of_ble_eq_true rfl⟩ rfl hl.1 (Nat.le_of_ble_eq_true rfl) rfl dX6_sent_36 (fun _ => ?_)
        exact sx_iret C0 rfl rfl trivial dX6_sent_39
abbrev rm_X6_offered : Room := { frames := 2, cells := 0, slots := 0, locals := 43 }
def mX6_offered (S : vS) (v1 : Int32) : Option (Int32 × vS) := (if 0 ≤ v1 then (if v1 < (S.1 (30 + 11) 0) then ((mX5_offeringOn S 30 v1).bind fun a31 => (some (a31, S))) else ((mX6_found S (2 : Int32)).bind fun q22 => (some (q22.1, q22.2)))) else (some ((-1 : Int32), S)))
set_option maxHeartbeats 4000000 in
set_option maxRecDepth 100000 in
theorem c_X6_offered {l : Launch} {D : va_G} {cA : Nat → ClassId} {ad : Nat → Nat} {kl : Nat} (G : Gx shC ad (ExC ad kl)) (v1 : Int32) (S : vS) (r : (Int32 × vS)) (hr : (mX6_offered S v1) = some r) : Met l yX6_offered (Cond.code yX6_offered cX6_offered 2 (some .int) :: ALL) rm_X6_offered (Po D vwCl tlC shC cA ad (ExC ad kl) [.ref (ad 0), .int v1] S) (Qo D vwCl shC cA ad (some (.int r.1)) r.2 True) 0 0 (aw shC ad) := by
  refine Met.sx (M := (mX6_offered S v1)) (rv := (fun q => some (.int q.1) : (Int32 × vS) → Option Value)) (rs := fun q => q.2) (B := fun _ => True) (by decide) ⟨rfl, rfl⟩ (Nat.le_of_ble_eq_true rfl) G (fun p e s m args below meth c C0 ls hl => ?_) hr
  have hl : lv_has ls 2 [(0, .ref (ad 0)), (1, .int v1)] := hl
  rw [mX6_offered]
  refine sx_iload_n C0 dX6_offered_0 rfl (lv_at hl 1 rfl) ?_
  refine sx_if_ge (tgt := 6) C0 dX6_offered_1 (by decide) (fun _ => ?_) (fun _ => ?_)
  · refine sx_iload_n C0 dX6_offered_6 rfl (lv_at hl 1 rfl) ?_
    refine sx_aload_n C0 dX6_offered_7 rfl (lv_at hl 0 rfl) ?_
    refine gf_X6_33 C0 is6 dX6_offered_8 ?_
    refine gf_X6_167 C0 is6_village.1 dX6_offered_11 ?_
    refine gf_X6_200 C0 is6_village.2.2.1.1 dX6_offered_14 ?_
    refine sx_icmp_lt (tgt := 26) C0 dX6_offered_17 (by decide) (fun _ => ?_) (fun _ => ?_)
    · refine sx_aload_n C0 dX6_offered_26 rfl (lv_at hl 0 rfl) ?_
      refine gf_X6_33 C0 is6 dX6_offered_27 ?_
      refine sx_iload_n C0 dX6_offered_30 rfl (lv_at hl 1 rfl) ?_
      refine sw_bind (fun a31 e31 => ?_)
      refine cv_X6_209 (As := [.int v1]) C0 (c_X5_offeringOn C0.2.2.2.2.2.2.2.1 30 is6_village v1 S _ e31) is6_village.1 ⟨rfl, rfl⟩ ⟨Nat.le_of_ble_eq_true rfl, Nat.le_of_ble_eq_true rfl⟩ rfl hl.1 (Nat.le_of_ble_eq_true rfl) rfl dX6_offered_31 (fun _ => ?_)
      exact sx_iret C0 rfl rfl trivial dX6_offered_34
    · refine sx_aload_n C0 dX6_offered_20 rfl (lv_at hl 0 rfl) ?_
      refine sx_iconst (v := 2) C0 dX6_offered_21 (by decide) ?_
      refine sw_bind (fun q22 e22 => ?_)
      refine cv_X6_87 (As := [.int (2 : Int32)]) C0 (c_X6_found C0.2.2.2.2.2.2.2.1 (2 : Int32) S _ e22) is6 ⟨rfl, rfl⟩ ⟨Nat.le_of_ble_eq_true rfl, Nat.le_of_ble_eq_true rfl⟩ rfl hl.1 (Nat.le_of_ble_eq_true rfl) rfl dX6_offered_22 (fun _ => ?_)
      exact sx_iret C0 rfl rfl trivial dX6_offered_25
  · refine sx_iconst (v := (-1)) C0 dX6_offered_4 (by decide) ?_
    exact sx_iret C0 rfl rfl trivial dX6_offered_5
abbrev rm_X6_undo : Room := { frames := 3, cells := 0, slots := 0, locals := 69 }
def mX6_undo (S : vS) (v1 : Int32) : Option (Int32 × vS) := (lt (S.1 (30 + 11) 0) fun v2_10 => (if v1 < 0 then (some ((-1 : Int32), S)) else (if v1 ≤ v2_10 then ((mX5_goBackTo S 30 v1).bind fun S27 => (some ((v2_10 - v1), S27))) else (some ((-1 : Int32), S)))))
set_option maxHeartbeats 4000000 in
set_option maxRecDepth 100000 in
theorem c_X6_undo {l : Launch} {D : va_G} {cA : Nat → ClassId} {ad : Nat → Nat} {kl : Nat} (G : Gx shC ad (ExC ad kl)) (v1 : Int32) (S : vS) (r : (Int32 × vS)) (hr : (mX6_undo S v1) = some r) : Met l yX6_undo (Cond.code yX6_undo cX6_undo 3 (some .int) :: ALL) rm_X6_undo (Po D vwCl tlC shC cA ad (ExC ad kl) [.ref (ad 0), .int v1] S) (Qo D vwCl shC cA ad (some (.int r.1)) r.2 True) 0 0 (aw shC ad) := by
  refine Met.sx (M := (mX6_undo S v1)) (rv := (fun q => some (.int q.1) : (Int32 × vS) → Option Value)) (rs := fun q => q.2) (B := fun _ => True) (by decide) ⟨rfl, rfl⟩ (Nat.le_of_ble_eq_true rfl) G (fun p e s m args below meth c C0 ls hl => ?_) hr
  have hl : lv_has ls 3 [(0, .ref (ad 0)), (1, .int v1)] := hl
  rw [mX6_undo]
  refine sx_aload_n C0 dX6_undo_0 rfl (lv_at hl 0 rfl) ?_
  refine gf_X6_33 C0 is6 dX6_undo_1 ?_
  refine gf_X6_167 C0 is6_village.1 dX6_undo_4 ?_
  refine gf_X6_200 C0 is6_village.2.2.1.1 dX6_undo_7 ?_
  refine sw_lt (val := .int) (fun v2_10 => ?_)
  refine sx_istore_n (lv' := [(2, .int v2_10), (0, .ref (ad 0)), (1, .int v1)]) C0 dX6_undo_10 rfl hl (by decide) rfl (fun ls hl => ?_)
  refine sx_iload_n C0 dX6_undo_11 rfl (lv_at hl 2 rfl) ?_
  refine sx_if_lt (tgt := 20) C0 dX6_undo_12 (by decide) (fun _ => ?_) (fun _ => ?_)
  · refine sx_iconst (v := (-1)) C0 dX6_undo_20 (by decide) ?_
    exact sx_iret C0 rfl rfl trivial dX6_undo_21
  · refine sx_iload_n C0 dX6_undo_15 rfl (lv_at hl 2 rfl) ?_
    refine sx_iload_n C0 dX6_undo_16 rfl (lv_at hl 0 rfl) ?_
    refine sx_icmp_le (tgt := 22) C0 dX6_undo_17 (by decide) (fun _ => ?_) (fun _ => ?_)
    · refine sx_aload_n C0 dX6_undo_22 rfl (lv_at hl 1 rfl) ?_
      refine gf_X6_33 C0 is6 dX6_undo_23 ?_
      refine sx_iload_n C0 dX6_undo_26 rfl (lv_at hl 2 rfl) ?_
      refine sw_bind (fun S27 e27 => ?_)
      refine cv_X6_212 (As := [.int v1]) C0 (c_X5_goBackTo C0.2.2.2.2.2.2.2.1 30 is6_village v1 S _ e27) is6_village.1 ⟨rfl, rfl⟩ ⟨Nat.le_of_ble_eq_true rfl, Nat.le_of_ble_eq_true rfl⟩ rfl hl.1 (Nat.le_of_ble_eq_true rfl) rfl dX6_undo_27 (fun _ => ?_)
      refine sx_iload_n C0 dX6_undo_30 rfl (lv_at hl 0 rfl) ?_
      refine sx_iload_n C0 dX6_undo_31 rfl (lv_at hl 2 rfl) ?_
      refine sx_isub C0 dX6_undo_32 ?_
      exact sx_iret C0 rfl rfl trivial dX6_undo_33
    · refine sx_iconst (v := (-1)) C0 dX6_undo_20 (by decide) ?_
      exact sx_iret C0 rfl rfl trivial dX6_undo_21
abbrev rm_X6_sums : Room := { frames := 1, cells := 0, slots := 0, locals := 21 }
def mX6_sums (S : vS)  : (Int32 × vS) := (lt (mX6_tell S (S.1 (30 + 11) 4)) fun S11 => ((S11.1 (30 + 11) 3), S11))
set_option maxHeartbeats 4000000 in
set_option maxRecDepth 100000 in
theorem c_X6_sums {l : Launch} {D : va_G} {cA : Nat → ClassId} {ad : Nat → Nat} {kl : Nat} (G : Gx shC ad (ExC ad kl))  (S : vS) : Met l yX6_sums (Cond.code yX6_sums cX6_sums 1 (some .int) :: ALL) rm_X6_sums (Po D vwCl tlC shC cA ad (ExC ad kl) [.ref (ad 0)] S) (Qo D vwCl shC cA ad (some (.int (mX6_sums S).1)) (mX6_sums S).2 True) 0 0 (aw shC ad) := by
  refine Met.sx (M := some (mX6_sums S)) (rv := (fun q => some (.int q.1) : (Int32 × vS) → Option Value)) (rs := fun q => q.2) (B := fun _ => True) (by decide) ⟨rfl, rfl⟩ (Nat.le_of_ble_eq_true rfl) G (fun p e s m args below meth c C0 ls hl => ?_) rfl
  have hl : lv_has ls 1 [(0, .ref (ad 0))] := hl
  rw [mX6_sums]
  refine sx_aload_n C0 dX6_sums_0 rfl (lv_at hl 0 rfl) ?_
  refine sx_aload_n C0 dX6_sums_1 rfl (lv_at hl 0 rfl) ?_
  refine gf_X6_33 C0 is6 dX6_sums_2 ?_
  refine gf_X6_167 C0 is6_village.1 dX6_sums_5 ?_
  refine gf_X6_215 C0 is6_village.2.2.1.1 dX6_sums_8 ?_
  refine cv_X6_103 (As := [.int (S.1 (30 + 11) 4)]) C0 (c_X6_tell C0.2.2.2.2.2.2.2.1 (S.1 (30 + 11) 4) S) is6 ⟨rfl, rfl⟩ ⟨Nat.le_of_ble_eq_true rfl, Nat.le_of_ble_eq_true rfl⟩ rfl hl.1 (Nat.le_of_ble_eq_true rfl) rfl dX6_sums_11 (fun _ => ?_)
  refine sw_ltSs (fun S11 => ?_)
  refine sx_aload_n C0 dX6_sums_14 rfl (lv_at hl 0 rfl) ?_
  refine gf_X6_33 C0 is6 dX6_sums_15 ?_
  refine gf_X6_167 C0 is6_village.1 dX6_sums_18 ?_
  refine gf_X6_218 C0 is6_village.2.2.1.1 dX6_sums_21 ?_
  exact sx_iret C0 rfl rfl trivial dX6_sums_24
abbrev rm_X6_isKeepingPlace : Room := { frames := 0, cells := 0, slots := 0, locals := 0 }
def bX6_isKeepingPlace_17    (S : vS)   : Int32 := (0 : Int32)
set_option maxHeartbeats 4000000 in
set_option maxRecDepth 100000 in
theorem bX6_isKeepingPlace_17_t {p : Program} {l : Launch} {e : Env} {s : State} {m : MethodId} {args : Array Value} {below : List Frame} {meth : Method} {c : Code} {D : va_G} {cA : Nat → ClassId} {ad : Nat → Nat} {kl : Nat}   (C0 : Cx D vwCl tlC shC cA ad (ExC ad kl) RX6 cX6_isKeepingPlace 2 (some .boolean) p s m args meth c)  (S : vS)  (ls : Array Slot) (hl : lv_has ls 2 []) : SW p l e rm_X6_isKeepingPlace s m args below meth c D vwCl shC cA ad (Fq D vwCl shC cA ad below args s (fun r => some (.int r) : Int32 → Option Value) (fun _ => S) (fun r => isB r)) (some (bX6_isKeepingPlace_17 S)) S 17 ls [] := by
  rw [bX6_isKeepingPlace_17]
  refine sx_iconst (v := 0) C0 dX6_isKeepingPlace_17 (by decide) ?_
  exact sx_zret C0 rfl rfl (Or.inl rfl) (Or.inl rfl) dX6_isKeepingPlace_18
def mX6_isKeepingPlace (S : vS) (v1 : Int32) : Int32 := (if v1 < 0 then (bX6_isKeepingPlace_17 S) else (if (3 : Int32) ≤ v1 then (bX6_isKeepingPlace_17 S) else (1 : Int32)))
set_option maxHeartbeats 4000000 in
set_option maxRecDepth 100000 in
theorem c_X6_isKeepingPlace {l : Launch} {D : va_G} {cA : Nat → ClassId} {ad : Nat → Nat} {kl : Nat} (G : Gx shC ad (ExC ad kl)) (v1 : Int32) (S : vS) : Met l yX6_isKeepingPlace (Cond.code yX6_isKeepingPlace cX6_isKeepingPlace 2 (some .boolean) :: ALL) rm_X6_isKeepingPlace (Po D vwCl tlC shC cA ad (ExC ad kl) [.ref (ad 0), .int v1] S) (Qo D vwCl shC cA ad (some (.int (mX6_isKeepingPlace S v1))) S (isB (mX6_isKeepingPlace S v1))) 0 0 (aw shC ad) := by
  refine Met.sx (M := some (mX6_isKeepingPlace S v1)) (rv := (fun r => some (.int r) : Int32 → Option Value)) (rs := fun _ => S) (B := fun r => isB r) (by decide) ⟨rfl, rfl⟩ (Nat.le_of_ble_eq_true rfl) G (fun p e s m args below meth c C0 ls hl => ?_) rfl
  have hl : lv_has ls 2 [(0, .ref (ad 0)), (1, .int v1)] := hl
  rw [mX6_isKeepingPlace]
  refine sx_iload_n C0 dX6_isKeepingPlace_0 rfl (lv_at hl 1 rfl) ?_
  refine sx_if_lts (tgt := 17) C0 dX6_isKeepingPlace_1 (by decide) (fun _ => ?_) (fun _ => ?_)
  · exact bX6_isKeepingPlace_17_t C0 _ _ (lv_sub hl [] rfl)
  · refine sx_iload_n C0 dX6_isKeepingPlace_4 rfl (lv_at hl 1 rfl) ?_
    refine sx_aload_n C0 dX6_isKeepingPlace_5 rfl (lv_at hl 0 rfl) ?_
    refine gf_X6_37 C0 is6 dX6_isKeepingPlace_6 ?_
    refine sx_alenR (v := (3 : Int32)) C0 is6_keptOnes rfl rfl dX6_isKeepingPlace_9 ?_
    refine sx_icmp_ges (tgt := 17) C0 dX6_isKeepingPlace_10 (by decide) (fun _ => ?_) (fun _ => ?_)
    · exact bX6_isKeepingPlace_17_t C0 _ _ (lv_sub hl [] rfl)
    · refine sx_iconst (v := 1) C0 dX6_isKeepingPlace_13 (by decide) ?_
      refine sx_goto (tgt := 18) C0 dX6_isKeepingPlace_14 (by decide) ?_
      exact sx_zret C0 rfl rfl (Or.inr rfl) (Or.inr rfl) dX6_isKeepingPlace_18
abbrev rm_X6_keep : Room := { frames := 2, cells := 0, slots := 0, locals := 48 }
def mX6_keep (S : vS) (v1 : Int32) : Option (Int32 × vS) := (if (mX6_isKeepingPlace S v1) = 0 then (some ((-1 : Int32), S)) else (if (mX6_noGods S) = 0 then ((aI [47, 63, 79] v1).bind fun x25 => ((mX5_take S x25 30).bind fun S30 => ((aI [47, 63, 79] v1).bind fun x38 => (lt (wI S30 x38 2 (1 : Int32)) fun S40 => (some ((S40.1 (30 + 11) 0), S40)))))) else (some ((-4 : Int32), S))))
set_option maxHeartbeats 4000000 in
set_option maxRecDepth 100000 in
theorem c_X6_keep {l : Launch} {D : va_G} {cA : Nat → ClassId} {ad : Nat → Nat} {kl : Nat} (G : Gx shC ad (ExC ad kl)) (v1 : Int32) (S : vS) (r : (Int32 × vS)) (hr : (mX6_keep S v1) = some r) : Met l yX6_keep (Cond.code yX6_keep cX6_keep 2 (some .int) :: ALL) rm_X6_keep (Po D vwCl tlC shC cA ad (ExC ad kl) [.ref (ad 0), .int v1] S) (Qo D vwCl shC cA ad (some (.int r.1)) r.2 True) 0 0 (aw shC ad) := by
  refine Met.sx (M := (mX6_keep S v1)) (rv := (fun q => some (.int q.1) : (Int32 × vS) → Option Value)) (rs := fun q => q.2) (B := fun _ => True) (by decide) ⟨rfl, rfl⟩ (Nat.le_of_ble_eq_true rfl) G (fun p e s m args below meth c C0 ls hl => ?_) hr
  have hl : lv_has ls 2 [(0, .ref (ad 0)), (1, .int v1)] := hl
  rw [mX6_keep]
  refine sx_aload_n C0 dX6_keep_0 rfl (lv_at hl 0 rfl) ?_
  refine sx_iload_n C0 dX6_keep_1 rfl (lv_at hl 1 rfl) ?_
  refine cv_X6_221 (As := [.int v1]) C0 (c_X6_isKeepingPlace C0.2.2.2.2.2.2.2.1 v1 S) is6 ⟨rfl, rfl⟩ ⟨Nat.le_of_ble_eq_true rfl, Nat.le_of_ble_eq_true rfl⟩ rfl hl.1 (Nat.le_of_ble_eq_true rfl) rfl dX6_keep_2 (fun hb2 => ?_)
  refine sx_if_ne (tgt := 10) C0 dX6_keep_5 (by decide) (fun _ => ?_) (fun _ => ?_)
  · refine sx_iconst (v := (-1)) C0 dX6_keep_8 (by decide) ?_
    exact sx_iret C0 rfl rfl trivial dX6_keep_9
  · refine sx_aload_n C0 dX6_keep_10 rfl (lv_at hl 0 rfl) ?_
    refine cv_X6_183 (As := []) C0 (c_X6_noGods C0.2.2.2.2.2.2.2.1 S) is6 ⟨rfl, rfl⟩ ⟨Nat.le_of_ble_eq_true rfl, Nat.le_of_ble_eq_true rfl⟩ rfl hl.1 (Nat.le_of_ble_eq_true rfl) rfl dX6_keep_11 (fun hb11 => ?_)
    refine sx_if_eq (tgt := 20) C0 dX6_keep_14 (by decide) (fun _ => ?_) (fun _ => ?_)
    · refine sx_aload_n C0 dX6_keep_20 rfl (lv_at hl 0 rfl) ?_
      refine gf_X6_37 C0 is6 dX6_keep_21 ?_
      refine sx_iload_n C0 dX6_keep_24 rfl (lv_at hl 1 rfl) ?_
      refine sx_aald C0 is6_keptOnes rfl rfl dX6_keep_25 (fun x25 hx25 => ?_)
      refine sx_aload_n C0 dX6_keep_26 rfl (lv_at hl 0 rfl) ?_
      refine gf_X6_33 C0 is6 dX6_keep_27 ?_
      refine sw_bind (fun S30 e30 => ?_)
      refine cv_X6_224 (As := [.ref (ad 30)]) C0 (c_X5_take C0.2.2.2.2.2.2.2.1 x25 (is6_keptOnesE x25 hx25) 30 is6_village S _ e30) (is6_keptOnesE x25 hx25).1 ⟨rfl, rfl⟩ ⟨Nat.le_of_ble_eq_true rfl, Nat.le_of_ble_eq_true rfl⟩ rfl hl.1 (Nat.le_of_ble_eq_true rfl) rfl dX6_keep_30 (fun _ => ?_)
      refine sx_aload_n C0 dX6_keep_33 rfl (lv_at hl 0 rfl) ?_
      refine gf_X6_37 C0 is6 dX6_keep_34 ?_
      refine sx_iload_n C0 dX6_keep_37 rfl (lv_at hl 1 rfl) ?_
      refine sx_aald C0 is6_keptOnes rfl rfl dX6_keep_38 (fun x38 hx38 => ?_)
      refine sx_iconst (v := 1) C0 dX6_keep_39 (by decide) ?_
      refine pf_X6_145 C0 (is6_keptOnesE x38 hx38).1 (Or.inr rfl) dX6_keep_40 (fun S40 => ?_)
      refine sx_aload_n C0 dX6_keep_43 rfl (lv_at hl 0 rfl) ?_
      refine gf_X6_33 C0 is6 dX6_keep_44 ?_
      refine gf_X6_167 C0 is6_village.1 dX6_keep_47 ?_
      refine gf_X6_200 C0 is6_village.2.2.1.1 dX6_keep_50 ?_
      exact sx_iret C0 rfl rfl trivial dX6_keep_53
    · refine sx_bipush (v := (-4)) C0 dX6_keep_17 (by decide) ?_
      exact sx_iret C0 rfl rfl trivial dX6_keep_19
abbrev rm_X6_on : Room := { frames := 2, cells := 0, slots := 0, locals := 48 }
def mX6_on (S : vS) (v1 : Int32) : Option (Int32 × vS) := (if (mX6_isKeepingPlace S v1) = 0 then (some ((-1 : Int32), S)) else ((aI [47, 63, 79] v1).bind fun x15 => (if (S.1 x15 2) = 0 then ((mX6_found S (1 : Int32)).bind fun q24 => (some (q24.1, q24.2))) else ((aI [47, 63, 79] v1).bind fun x37 => ((mX5_take S 30 x37).bind fun S38 => (some ((S38.1 (30 + 11) 0), S38)))))))
set_option maxHeartbeats 4000000 in
set_option maxRecDepth 100000 in
theorem c_X6_on {l : Launch} {D : va_G} {cA : Nat → ClassId} {ad : Nat → Nat} {kl : Nat} (G : Gx shC ad (ExC ad kl)) (v1 : Int32) (S : vS) (r : (Int32 × vS)) (hr : (mX6_on S v1) = some r) : Met l yX6_on (Cond.code yX6_on cX6_on 2 (some .int) :: ALL) rm_X6_on (Po D vwCl tlC shC cA ad (ExC ad kl) [.ref (ad 0), .int v1] S) (Qo D vwCl shC cA ad (some (.int r.1)) r.2 True) 0 0 (aw shC ad) := by
  refine Met.sx (M := (mX6_on S v1)) (rv := (fun q => some (.int q.1) : (Int32 × vS) → Option Value)) (rs := fun q => q.2) (B := fun _ => True) (by decide) ⟨rfl, rfl⟩ (Nat.le_of_ble_eq_true rfl) G (fun p e s m args below meth c C0 ls hl => ?_) hr
  have hl : lv_has ls 2 [(0, .ref (ad 0)), (1, .int v1)] := hl
  rw [mX6_on]
  refine sx_aload_n C0 dX6_on_0 rfl (lv_at hl 0 rfl) ?_
  refine sx_iload_n C0 dX6_on_1 rfl (lv_at hl 1 rfl) ?_
  refine cv_X6_221 (As := [.int v1]) C0 (c_X6_isKeepingPlace C0.2.2.2.2.2.2.2.1 v1 S) is6 ⟨rfl, rfl⟩ ⟨Nat.le_of_ble_eq_true rfl, Nat.le_of_ble_eq_true rfl⟩ rfl hl.1 (Nat.le_of_ble_eq_true rfl) rfl dX6_on_2 (fun hb2 => ?_)
  refine sx_if_ne (tgt := 10) C0 dX6_on_5 (by decide) (fun _ => ?_) (fun _ => ?_)
  · refine sx_iconst (v := (-1)) C0 dX6_on_8 (by decide) ?_
    exact sx_iret C0 rfl rfl trivial dX6_on_9
  · refine sx_aload_n C0 dX6_on_10 rfl (lv_at hl 0 rfl) ?_
    refine gf_X6_37 C0 is6 dX6_on_11 ?_
    refine sx_iload_n C0 dX6_on_14 rfl (lv_at hl 1 rfl) ?_
    refine sx_aald C0 is6_keptOnes rfl rfl dX6_on_15 (fun x15 hx15 => ?_)
    refine gf_X6_145 C0 (is6_keptOnesE x15 hx15).1 dX6_on_16 ?_
    refine sx_if_ne (tgt := 28) C0 dX6_on_19 (by decide) (fun _ => ?_) (fun _ => ?_)
    · refine sx_aload_n C0 dX6_on_22 rfl (lv_at hl 0 rfl) ?_
      refine sx_iconst (v := 1) C0 dX6_on_23 (by decide) ?_
      refine sw_bind (fun q24 e24 => ?_)
      refine cv_X6_87 (As := [.int (1 : Int32)]) C0 (c_X6_found C0.2.2.2.2.2.2.2.1 (1 : Int32) S _ e24) is6 ⟨rfl, rfl⟩ ⟨Nat.le_of_ble_eq_true rfl, Nat.le_of_ble_eq_true rfl⟩ rfl hl.1 (Nat.le_of_ble_eq_true rfl) rfl dX6_on_24 (fun _ => ?_)
      exact sx_iret C0 rfl rfl trivial dX6_on_27
    · refine sx_aload_n C0 dX6_on_28 rfl (lv_at hl 0 rfl) ?_
      refine gf_X6_33 C0 is6 dX6_on_29 ?_
      refine sx_aload_n C0 dX6_on_32 rfl (lv_at hl 0 rfl) ?_
      refine gf_X6_37 C0 is6 dX6_on_33 ?_
      refine sx_iload_n C0 dX6_on_36 rfl (lv_at hl 1 rfl) ?_
      refine sx_aald C0 is6_keptOnes rfl rfl dX6_on_37 (fun x37 hx37 => ?_)
      refine sw_bind (fun S38 e38 => ?_)
      refine cv_X6_224 (As := [.ref (ad x37)]) C0 (c_X5_take C0.2.2.2.2.2.2.2.1 30 is6_village x37 (is6_keptOnesE x37 hx37) S _ e38) is6_village.1 ⟨rfl, rfl⟩ ⟨Nat.le_of_ble_eq_true rfl, Nat.le_of_ble_eq_true rfl⟩ rfl hl.1 (Nat.le_of_ble_eq_true rfl) rfl dX6_on_38 (fun _ => ?_)
      refine sx_aload_n C0 dX6_on_41 rfl (lv_at hl 0 rfl) ?_
      refine gf_X6_33 C0 is6 dX6_on_42 ?_
      refine gf_X6_167 C0 is6_village.1 dX6_on_45 ?_
      refine gf_X6_200 C0 is6_village.2.2.1.1 dX6_on_48 ?_
      exact sx_iret C0 rfl rfl trivial dX6_on_51
abbrev rm_X6_isPlanLength : Room := { frames := 0, cells := 0, slots := 0, locals := 0 }
def bX6_isPlanLength_14      : Int32 := (0 : Int32)
set_option maxHeartbeats 4000000 in
set_option maxRecDepth 100000 in
theorem bX6_isPlanLength_14_t {p : Program} {l : Launch} {e : Env} {s : State} {m : MethodId} {args : Array Value} {below : List Frame} {meth : Method} {c : Code} {D : va_G} {cA : Nat → ClassId} {ad : Nat → Nat} {kl : Nat}  {S : vS} (C0 : Cx D vwCl tlC shC cA ad (ExC ad kl) RX6 cX6_isPlanLength 1 (some .boolean) p s m args meth c)   (ls : Array Slot) (hl : lv_has ls 1 []) : SW p l e rm_X6_isPlanLength s m args below meth c D vwCl shC cA ad (Fq D vwCl shC cA ad below args s (fun r => some (.int r) : Int32 → Option Value) (fun _ => S) (fun r => isB r)) (some bX6_isPlanLength_14) S 14 ls [] := by
  rw [bX6_isPlanLength_14]
  refine sx_iconst (v := 0) C0 dX6_isPlanLength_14 (by decide) ?_
  exact sx_zret C0 rfl rfl (Or.inl rfl) (Or.inl rfl) dX6_isPlanLength_15
def mX6_isPlanLength (v0 : Int32) : Int32 := (if v0 < (1 : Int32) then (bX6_isPlanLength_14) else (if (3 : Int32) < v0 then (bX6_isPlanLength_14) else (1 : Int32)))
set_option maxHeartbeats 4000000 in
set_option maxRecDepth 100000 in
theorem c_X6_isPlanLength {l : Launch} {D : va_G} {cA : Nat → ClassId} {ad : Nat → Nat} {kl : Nat} (G : Gx shC ad (ExC ad kl)) (v0 : Int32) (S : vS) : Met l yX6_isPlanLength (Cond.code yX6_isPlanLength cX6_isPlanLength 1 (some .boolean) :: ALL) rm_X6_isPlanLength (Po D vwCl tlC shC cA ad (ExC ad kl) [.int v0] S) (Qo D vwCl shC cA ad (some (.int (mX6_isPlanLength v0))) S (isB (mX6_isPlanLength v0))) 0 0 (aw shC ad) := by
  refine Met.sx (M := some (mX6_isPlanLength v0)) (rv := (fun r => some (.int r) : Int32 → Option Value)) (rs := fun _ => S) (B := fun r => isB r) (by decide) ⟨rfl, rfl⟩ (Nat.le_of_ble_eq_true rfl) G (fun p e s m args below meth c C0 ls hl => ?_) rfl
  have hl : lv_has ls 1 [(0, .int v0)] := hl
  rw [mX6_isPlanLength]
  refine sx_iload_n C0 dX6_isPlanLength_0 rfl (lv_at hl 0 rfl) ?_
  refine sx_iconst (v := 1) C0 dX6_isPlanLength_1 (by decide) ?_
  refine sx_icmp_lts (tgt := 14) C0 dX6_isPlanLength_2 (by decide) (fun _ => ?_) (fun _ => ?_)
  · exact bX6_isPlanLength_14_t C0 _ (lv_sub hl [] rfl)
  · refine sx_iload_n C0 dX6_isPlanLength_5 rfl (lv_at hl 0 rfl) ?_
    refine sx_iconst (v := 3) C0 dX6_isPlanLength_6 (by decide) ?_
    refine sx_icmp_gts (tgt := 14) C0 dX6_isPlanLength_7 (by decide) (fun _ => ?_) (fun _ => ?_)
    · exact bX6_isPlanLength_14_t C0 _ (lv_sub hl [] rfl)
    · refine sx_iconst (v := 1) C0 dX6_isPlanLength_10 (by decide) ?_
      refine sx_goto (tgt := 15) C0 dX6_isPlanLength_11 (by decide) ?_
      exact sx_zret C0 rfl rfl (Or.inr rfl) (Or.inr rfl) dX6_isPlanLength_15
abbrev rm_X6_best : Room := { frames := 14, cells := 0, slots := 0, locals := 330 }
def mX6_best (S : vS) (v1 : Int32) (v2 : Int32) : Option (Int32 × vS) := (if (mX6_isPlanLength v1) = 0 then (some ((-1 : Int32), S)) else (if (mX4_has S 1 6 v2) = 0 then (some ((-1 : Int32), S)) else (if (mX6_noGods S) = 0 then ((mX1_seekAll S 95 (30 + 1) (30 + 11) v1).bind fun S49 => (lt (mX6_tell S49 (S49.1 95 8)) fun S60 => ((mX4_fill S60 1 6 v2 (95 + 23) 4 v1).bind fun S76 => (some ((1 : Int32), S76))))) else (some ((-4 : Int32), S)))))
set_option maxHeartbeats 4000000 in
set_option maxRecDepth 100000 in
theorem c_X6_best {l : Launch} {D : va_G} {cA : Nat → ClassId} {ad : Nat → Nat} {kl : Nat} (G : Gx shC ad (ExC ad kl)) (v1 : Int32) (v2 : Int32) (S : vS) (r : (Int32 × vS)) (hr : (mX6_best S v1 v2) = some r) : Met l yX6_best (Cond.code yX6_best cX6_best 3 (some .int) :: ALL) rm_X6_best (Po D vwCl tlC shC cA ad (ExC ad kl) [.ref (ad 0), .int v1, .int v2] S) (Qo D vwCl shC cA ad (some (.int r.1)) r.2 True) 0 0 (aw shC ad) := by
  refine Met.sx (M := (mX6_best S v1 v2)) (rv := (fun q => some (.int q.1) : (Int32 × vS) → Option Value)) (rs := fun q => q.2) (B := fun _ => True) (by decide) ⟨rfl, rfl⟩ (Nat.le_of_ble_eq_true rfl) G (fun p e s m args below meth c C0 ls hl => ?_) hr
  have hl : lv_has ls 3 [(0, .ref (ad 0)), (1, .int v1), (2, .int v2)] := hl
  rw [mX6_best]
  refine sx_iload_n C0 dX6_best_0 rfl (lv_at hl 1 rfl) ?_
  refine cv_X6_228 (As := [.int v1]) C0 (c_X6_isPlanLength C0.2.2.2.2.2.2.2.1 v1 S) ⟨rfl, rfl⟩ ⟨Nat.le_of_ble_eq_true rfl, Nat.le_of_ble_eq_true rfl⟩ rfl hl.1 (Nat.le_of_ble_eq_true rfl) rfl dX6_best_1 (fun hb1 => ?_)
  refine sx_if_eq (tgt := 18) C0 dX6_best_4 (by decide) (fun _ => ?_) (fun _ => ?_)
  · refine sx_iconst (v := (-1)) C0 dX6_best_18 (by decide) ?_
    exact sx_iret C0 rfl rfl trivial dX6_best_19
  · refine sx_aload_n C0 dX6_best_7 rfl (lv_at hl 0 rfl) ?_
    refine gf_X6_16 C0 is6 dX6_best_8 ?_
    refine sx_iload_n C0 dX6_best_11 rfl (lv_at hl 2 rfl) ?_
    refine cv_X6_83 (As := [.int v2]) C0 (c_X4_has C0.2.2.2.2.2.2.2.1 1 6 is6_rows v2 S) is6_rows.1 ⟨rfl, rfl⟩ ⟨Nat.le_of_ble_eq_true rfl, Nat.le_of_ble_eq_true rfl⟩ rfl hl.1 (Nat.le_of_ble_eq_true rfl) rfl dX6_best_12 (fun hb12 => ?_)
    refine sx_if_ne (tgt := 20) C0 dX6_best_15 (by decide) (fun _ => ?_) (fun _ => ?_)
    · refine sx_iconst (v := (-1)) C0 dX6_best_18 (by decide) ?_
      exact sx_iret C0 rfl rfl trivial dX6_best_19
    · refine sx_aload_n C0 dX6_best_20 rfl (lv_at hl 0 rfl) ?_
      refine cv_X6_183 (As := []) C0 (c_X6_noGods C0.2.2.2.2.2.2.2.1 S) is6 ⟨rfl, rfl⟩ ⟨Nat.le_of_ble_eq_true rfl, Nat.le_of_ble_eq_true rfl⟩ rfl hl.1 (Nat.le_of_ble_eq_true rfl) rfl dX6_best_21 (fun hb21 => ?_)
      refine sx_if_eq (tgt := 30) C0 dX6_best_24 (by decide) (fun _ => ?_) (fun _ => ?_)
      · refine sx_aload_n C0 dX6_best_30 rfl (lv_at hl 0 rfl) ?_
        refine gf_X6_44 C0 is6 dX6_best_31 ?_
        refine sx_aload_n C0 dX6_best_34 rfl (lv_at hl 0 rfl) ?_
        refine gf_X6_33 C0 is6 dX6_best_35 ?_
        refine gf_X6_149 C0 is6_village.1 dX6_best_38 ?_
        refine sx_aload_n C0 dX6_best_41 rfl (lv_at hl 0 rfl) ?_
        refine gf_X6_33 C0 is6 dX6_best_42 ?_
        refine gf_X6_167 C0 is6_village.1 dX6_best_45 ?_
        refine sx_iload_n C0 dX6_best_48 rfl (lv_at hl 1 rfl) ?_
        refine sw_bind (fun S49 e49 => ?_)
        refine cv_X6_231 (As := [.ref (ad (30 + 1)), .ref (ad (30 + 11)), .int v1]) C0 (c_X1_seekAll C0.2.2.2.2.2.2.2.1 95 is6_plans (30 + 1) is6_village.2.1 (30 + 11) is6_village.2.2.1 v1 S _ e49) is6_plans.1 ⟨rfl, rfl⟩ ⟨Nat.le_of_ble_eq_true rfl, Nat.le_of_ble_eq_true rfl⟩ rfl hl.1 (Nat.le_of_ble_eq_true rfl) rfl dX6_best_49 (fun _ => ?_)
        refine sx_aload_n C0 dX6_best_52 rfl (lv_at hl 0 rfl) ?_
        refine sx_aload_n C0 dX6_best_53 rfl (lv_at hl 0 rfl) ?_
        refine gf_X6_44 C0 is6 dX6_best_54 ?_
        refine gf_X6_235 C0 is6_plans.1 dX6_best_57 ?_
        refine cv_X6_103 (As := [.int (S49.1 95 8)]) C0 (c_X6_tell C0.2.2.2.2.2.2.2.1 (S49.1 95 8) S49) is6 ⟨rfl, rfl⟩ ⟨Nat.le_of_ble_eq_true rfl, Nat.le_of_ble_eq_true rfl⟩ rfl hl.1 (Nat.le_of_ble_eq_true rfl) rfl dX6_best_60 (fun _ => ?_)
        refine sw_ltS (fun S60 => ?_)
        refine sx_aload_n C0 dX6_best_63 rfl (lv_at hl 0 rfl) ?_
        refine gf_X6_16 C0 is6 dX6_best_64 ?_
        refine sx_iload_n C0 dX6_best_67 rfl (lv_at hl 2 rfl) ?_
        refine sx_aload_n C0 dX6_best_68 rfl (lv_at hl 0 rfl) ?_
        refine gf_X6_44 C0 is6 dX6_best_69 ?_
        refine gf_X6_238 C0 is6_plans.1 dX6_best_72 ?_
        refine sx_iload_n C0 dX6_best_75 rfl (lv_at hl 1 rfl) ?_
        refine sw_bind (fun S76 e76 => ?_)
        refine cv_X6_241 (As := [.int v2, .ref (ad (95 + 23)), .int v1]) C0 (c_X4_fill C0.2.2.2.2.2.2.2.1 1 6 is6_rows v2 (95 + 23) 4 is6_plans.2.2.2.1 v1 S60 _ e76) is6_rows.1 ⟨rfl, rfl⟩ ⟨Nat.le_of_ble_eq_true rfl, Nat.le_of_ble_eq_true rfl⟩ rfl hl.1 (Nat.le_of_ble_eq_true rfl) rfl dX6_best_76 (fun _ => ?_)
        refine sx_iconst (v := 1) C0 dX6_best_79 (by decide) ?_
        exact sx_iret C0 rfl rfl trivial dX6_best_80
      · refine sx_bipush (v := (-4)) C0 dX6_best_27 (by decide) ?_
        exact sx_iret C0 rfl rfl trivial dX6_best_29
abbrev rm_X6_holdsNumbersOnly : Room := { frames := 4, cells := 0, slots := 0, locals := 87 }
def lX6_holdsNumbersOnly_2  (S : vS)  (v1 : Int32) : Nat → Int32 → Option Int32
  | 0, _ => none
  | n + 1, v2 => ((mX4_size S 1 6 v1).bind fun a8 => (if a8 ≤ v2 then (some (1 : Int32)) else ((mX4_read S 1 6 v1 v2).bind fun a27 => (if (mX0_hasNumber S (30 + 1) a27) = 0 then (some (0 : Int32)) else ((lX6_holdsNumbersOnly_2 S v1 n) (v2 + (1 : Int32)))))))
set_option maxHeartbeats 4000000 in
set_option maxRecDepth 100000 in
theorem lX6_holdsNumbersOnly_2_t {p : Program} {l : Launch} {e : Env} {s : State} {m : MethodId} {args : Array Value} {below : List Frame} {meth : Method} {c : Code} {D : va_G} {cA : Nat → ClassId} {ad : Nat → Nat} {kl : Nat}   (C0 : Cx D vwCl tlC shC cA ad (ExC ad kl) RX6 cX6_holdsNumbersOnly 3 (some .boolean) p s m args meth c)  (S : vS) (v1 : Int32)  : ∀ (n : Nat) (v2 : Int32) (ls : Array Slot), lv_has ls 3 [(0, .ref (ad 0)), (1, .int v1), (2, .int v2)] → SW p l e rm_X6_holdsNumbersOnly s m args below meth c D vwCl shC cA ad (Fq D vwCl shC cA ad below args s (fun r => some (.int r) : Int32 → Option Value) (fun _ => S) (fun r => isB r)) (lX6_holdsNumbersOnly_2 S v1 n v2) S 2 ls [] := by
  intro n
  induction n with
  | zero =>
    intro v2 ls hl
    rw [lX6_holdsNumbersOnly_2]
    exact sw_none
  | succ n ih =>
    intro v2 ls hl
    rw [lX6_holdsNumbersOnly_2]
    refine sx_iload_n C0 dX6_holdsNumbersOnly_2 rfl (lv_at hl 2 rfl) ?_
    refine sx_aload_n C0 dX6_holdsNumbersOnly_3 rfl (lv_at hl 0 rfl) ?_
    refine gf_X6_16 C0 is6 dX6_holdsNumbersOnly_4 ?_
    refine sx_iload_n C0 dX6_holdsNumbersOnly_7 rfl (lv_at hl 1 rfl) ?_
    refine sw_bind (fun a8 e8 => ?_)
    refine cv_X6_124 (As := [.int v1]) C0 (c_X4_size C0.2.2.2.2.2.2.2.1 1 6 is6_rows v1 S _ e8) is6_rows.1 ⟨rfl, rfl⟩ ⟨Nat.le_of_ble_eq_true rfl, Nat.le_of_ble_eq_true rfl⟩ rfl hl.1 (Nat.le_of_ble_eq_true rfl) rfl dX6_holdsNumbersOnly_8 (fun _ => ?_)
    refine sx_icmp_ge (tgt := 44) C0 dX6_holdsNumbersOnly_11 (by decide) (fun _ => ?_) (fun _ => ?_)
    · refine sx_iconst (v := 1) C0 dX6_holdsNumbersOnly_44 (by decide) ?_
      exact sx_zret C0 rfl rfl (Or.inr rfl) (Or.inr rfl) dX6_holdsNumbersOnly_45
    · refine sx_aload_n C0 dX6_holdsNumbersOnly_14 rfl (lv_at hl 0 rfl) ?_
      refine gf_X6_33 C0 is6 dX6_holdsNumbersOnly_15 ?_
      refine gf_X6_149 C0 is6_village.1 dX6_holdsNumbersOnly_18 ?_
      refine sx_aload_n C0 dX6_holdsNumbersOnly_21 rfl (lv_at hl 0 rfl) ?_
      refine gf_X6_16 C0 is6 dX6_holdsNumbersOnly_22 ?_
      refine sx_iload_n C0 dX6_holdsNumbersOnly_25 rfl (lv_at hl 1 rfl) ?_
      refine sx_iload_n C0 dX6_holdsNumbersOnly_26 rfl (lv_at hl 2 rfl) ?_
      refine sw_bind (fun a27 e27 => ?_)
      refine cv_X6_99 (As := [.int v1, .int v2]) C0 (c_X4_read C0.2.2.2.2.2.2.2.1 1 6 is6_rows v1 v2 S _ e27) is6_rows.1 ⟨rfl, rfl⟩ ⟨Nat.le_of_ble_eq_true rfl, Nat.le_of_ble_eq_true rfl⟩ rfl hl.1 (Nat.le_of_ble_eq_true rfl) rfl dX6_holdsNumbersOnly_27 (fun _ => ?_)
      refine cv_X6_193 (As := [.int a27]) C0 (c_X0_hasNumber C0.2.2.2.2.2.2.2.1 (30 + 1) is6_village.2.1 a27 S) is6_village.2.1.1 ⟨rfl, rfl⟩ ⟨Nat.le_of_ble_eq_true rfl, Nat.le_of_ble_eq_true rfl⟩ rfl hl.1 (Nat.le_of_ble_eq_true rfl) rfl dX6_holdsNumbersOnly_30 (fun hb30 => ?_)
      refine sx_if_ne (tgt := 38) C0 dX6_holdsNumbersOnly_33 (by decide) (fun _ => ?_) (fun _ => ?_)
      · refine sx_iconst (v := 0) C0 dX6_holdsNumbersOnly_36 (by decide) ?_
        exact sx_zret C0 rfl rfl (Or.inl rfl) (Or.inl rfl) dX6_holdsNumbersOnly_37
      · refine sx_iinc (v := (v2 + (1 : Int32))) (lv' := [(2, .int (v2 + (1 : Int32))), (0, .ref (ad 0)), (1, .int v1)]) C0 dX6_holdsNumbersOnly_38 hl (k := 2) rfl rfl (by decide) rfl (fun ls hl => ?_)
        refine sx_goto (tgt := 2) C0 dX6_holdsNumbersOnly_41 (by decide) ?_
        exact ih _ _ (lv_sub hl [1, 2, 0] rfl)
def mX6_holdsNumbersOnly (S : vS) (v1 : Int32) : Option Int32 := (lX6_holdsNumbersOnly_2 S v1 FU (0 : Int32))
set_option maxHeartbeats 4000000 in
set_option maxRecDepth 100000 in
theorem c_X6_holdsNumbersOnly {l : Launch} {D : va_G} {cA : Nat → ClassId} {ad : Nat → Nat} {kl : Nat} (G : Gx shC ad (ExC ad kl)) (v1 : Int32) (S : vS) (r : Int32) (hr : (mX6_holdsNumbersOnly S v1) = some r) : Met l yX6_holdsNumbersOnly (Cond.code yX6_holdsNumbersOnly cX6_holdsNumbersOnly 3 (some .boolean) :: ALL) rm_X6_holdsNumbersOnly (Po D vwCl tlC shC cA ad (ExC ad kl) [.ref (ad 0), .int v1] S) (Qo D vwCl shC cA ad (some (.int r)) S (isB r)) 0 0 (aw shC ad) := by
  refine Met.sx (M := (mX6_holdsNumbersOnly S v1)) (rv := (fun r => some (.int r) : Int32 → Option Value)) (rs := fun _ => S) (B := fun r => isB r) (by decide) ⟨rfl, rfl⟩ (Nat.le_of_ble_eq_true rfl) G (fun p e s m args below meth c C0 ls hl => ?_) hr
  have hl : lv_has ls 3 [(0, .ref (ad 0)), (1, .int v1)] := hl
  rw [mX6_holdsNumbersOnly]
  refine sx_iconst (v := 0) C0 dX6_holdsNumbersOnly_0 (by decide) ?_
  refine sx_istore_n (lv' := [(2, .int (0 : Int32)), (0, .ref (ad 0)), (1, .int v1)]) C0 dX6_holdsNumbersOnly_1 rfl hl (by decide) rfl (fun ls hl => ?_)
  exact lX6_holdsNumbersOnly_2_t C0 _ _ _ _ _ (lv_sub hl [1, 2, 0] rfl)
abbrev rm_X6_startTrial : Room := { frames := 1, cells := 0, slots := 0, locals := 22 }
def mX6_startTrial (S : vS)  : Option vS := ((mX3_take S 129 (30 + 11)).bind fun S11 => (lt (mX3_forgetSums S11 129) fun S18 => (some S18)))
set_option maxHeartbeats 4000000 in
set_option maxRecDepth 100000 in
theorem c_X6_startTrial {l : Launch} {D : va_G} {cA : Nat → ClassId} {ad : Nat → Nat} {kl : Nat} (G : Gx shC ad (ExC ad kl))  (S : vS) (r : vS) (hr : (mX6_startTrial S) = some r) : Met l yX6_startTrial (Cond.code yX6_startTrial cX6_startTrial 1 none :: ALL) rm_X6_startTrial (Po D vwCl tlC shC cA ad (ExC ad kl) [.ref (ad 0)] S) (Qo D vwCl shC cA ad none r True) 0 0 (aw shC ad) := by
  refine Met.sx (M := (mX6_startTrial S)) (rv := (fun _ => none : vS → Option Value)) (rs := fun S1 => S1) (B := fun _ => True) (by decide) ⟨rfl, rfl⟩ (Nat.le_of_ble_eq_true rfl) G (fun p e s m args below meth c C0 ls hl => ?_) hr
  have hl : lv_has ls 1 [(0, .ref (ad 0))] := hl
  rw [mX6_startTrial]
  refine sx_aload_n C0 dX6_startTrial_0 rfl (lv_at hl 0 rfl) ?_
  refine gf_X6_58 C0 is6 dX6_startTrial_1 ?_
  refine sx_aload_n C0 dX6_startTrial_4 rfl (lv_at hl 0 rfl) ?_
  refine gf_X6_33 C0 is6 dX6_startTrial_5 ?_
  refine gf_X6_167 C0 is6_village.1 dX6_startTrial_8 ?_
  refine sw_bind (fun S11 e11 => ?_)
  refine cv_X6_375 (As := [.ref (ad (30 + 11))]) C0 (c_X3_take C0.2.2.2.2.2.2.2.1 129 is6_trial (30 + 11) is6_village.2.2.1 S _ e11) is6_trial.1 ⟨rfl, rfl⟩ ⟨Nat.le_of_ble_eq_true rfl, Nat.le_of_ble_eq_true rfl⟩ rfl hl.1 (Nat.le_of_ble_eq_true rfl) rfl dX6_startTrial_11 (fun _ => ?_)
  refine sx_aload_n C0 dX6_startTrial_14 rfl (lv_at hl 0 rfl) ?_
  refine gf_X6_58 C0 is6 dX6_startTrial_15 ?_
  refine cv_X6_378 (As := []) C0 (c_X3_forgetSums C0.2.2.2.2.2.2.2.1 129 is6_trial S11) is6_trial.1 ⟨rfl, rfl⟩ ⟨Nat.le_of_ble_eq_true rfl, Nat.le_of_ble_eq_true rfl⟩ rfl hl.1 (Nat.le_of_ble_eq_true rfl) rfl dX6_startTrial_18 (fun _ => ?_)
  refine sw_ltS (fun S18 => ?_)
  exact sx_vret C0 rfl rfl trivial dX6_startTrial_21
abbrev rm_X6_tries : Room := { frames := 5, cells := 0, slots := 0, locals := 109 }
def bX6_tries_131    (S : vS) (v2 : Int32)  : Option (Int32 × vS) := (lt (mX6_tell S (mX3_worth S 129)) fun S139 => (some (v2, S139)))
set_option maxHeartbeats 4000000 in
set_option maxRecDepth 100000 in
theorem bX6_tries_131_t {p : Program} {l : Launch} {e : Env} {s : State} {m : MethodId} {args : Array Value} {below : List Frame} {meth : Method} {c : Code} {D : va_G} {cA : Nat → ClassId} {ad : Nat → Nat} {kl : Nat}   (C0 : Cx D vwCl tlC shC cA ad (ExC ad kl) RX6 cX6_tries 4 (some .int) p s m args meth c)  (S : vS) (v2 : Int32) (ls : Array Slot) (hl : lv_has ls 4 [(0, .ref (ad 0)), (2, .int v2)]) : SW p l e rm_X6_tries s m args below meth c D vwCl shC cA ad (Fq D vwCl shC cA ad below args s (fun q => some (.int q.1) : (Int32 × vS) → Option Value) (fun q => q.2) (fun _ => True)) (bX6_tries_131 S v2) S 131 ls [] := by
  rw [bX6_tries_131]
  refine sx_aload_n C0 dX6_tries_131 rfl (lv_at hl 0 rfl) ?_
  refine sx_aload_n C0 dX6_tries_132 rfl (lv_at hl 0 rfl) ?_
  refine gf_X6_58 C0 is6 dX6_tries_133 ?_
  refine cv_X6_255 (As := []) C0 (c_X3_worth C0.2.2.2.2.2.2.2.1 129 is6_trial S) is6_trial.1 ⟨rfl, rfl⟩ ⟨Nat.le_of_ble_eq_true rfl, Nat.le_of_ble_eq_true rfl⟩ rfl hl.1 (Nat.le_of_ble_eq_true rfl) rfl dX6_tries_136 (fun _ => ?_)
  refine cv_X6_103 (As := [.int (mX3_worth S 129)]) C0 (c_X6_tell C0.2.2.2.2.2.2.2.1 (mX3_worth S 129) S) is6 ⟨rfl, rfl⟩ ⟨Nat.le_of_ble_eq_true rfl, Nat.le_of_ble_eq_true rfl⟩ rfl hl.1 (Nat.le_of_ble_eq_true rfl) rfl dX6_tries_139 (fun _ => ?_)
  refine sw_ltS (fun S139 => ?_)
  refine sx_iload_n C0 dX6_tries_142 rfl (lv_at hl 1 rfl) ?_
  exact sx_iret C0 rfl rfl trivial dX6_tries_143
def bX6_tries_119    (S : vS) (v2 : Int32)  : Option (Int32 × vS) := (bX6_tries_131 S v2)
set_option maxHeartbeats 4000000 in
set_option maxRecDepth 100000 in
theorem bX6_tries_119_t {p : Program} {l : Launch} {e : Env} {s : State} {m : MethodId} {args : Array Value} {below : List Frame} {meth : Method} {c : Code} {D : va_G} {cA : Nat → ClassId} {ad : Nat → Nat} {kl : Nat}   (C0 : Cx D vwCl tlC shC cA ad (ExC ad kl) RX6 cX6_tries 4 (some .int) p s m args meth c)  (S : vS) (v2 : Int32) (ls : Array Slot) (hl : lv_has ls 4 [(0, .ref (ad 0)), (2, .int v2)]) : SW p l e rm_X6_tries s m args below meth c D vwCl shC cA ad (Fq D vwCl shC cA ad below args s (fun q => some (.int q.1) : (Int32 × vS) → Option Value) (fun q => q.2) (fun _ => True)) (bX6_tries_119 S v2) S 119 ls [] := by
  rw [bX6_tries_119]
  refine sx_goto (tgt := 131) C0 dX6_tries_119 (by decide) ?_
  exact bX6_tries_131_t C0 _ _ _ (lv_sub hl [0, 1] rfl)
def lX6_tries_81    (v1 : Int32) : Nat → vS → Int32 → Int32 → Option (Int32 × vS)
  | 0, _, _, _ => none
  | n + 1, S, v2, v3 => ((mX4_size S 1 6 v1).bind fun a87 => (if a87 ≤ v3 then (bX6_tries_131 S v2) else ((mX4_read S 1 6 v1 v3).bind fun a110 => ((mX3_goOn S 129 (30 + 1) a110).bind fun q113 => (if q113.1 = 0 then (bX6_tries_119 q113.2 v2) else ((lX6_tries_81 v1 n) q113.2 (v2 + (1 : Int32)) (v3 + (1 : Int32))))))))
set_option maxHeartbeats 4000000 in
set_option maxRecDepth 100000 in
theorem lX6_tries_81_t {p : Program} {l : Launch} {e : Env} {s : State} {m : MethodId} {args : Array Value} {below : List Frame} {meth : Method} {c : Code} {D : va_G} {cA : Nat → ClassId} {ad : Nat → Nat} {kl : Nat}   (C0 : Cx D vwCl tlC shC cA ad (ExC ad kl) RX6 cX6_tries 4 (some .int) p s m args meth c)   (v1 : Int32)  : ∀ (n : Nat) (S : vS) (v2 : Int32) (v3 : Int32) (ls : Array Slot), lv_has ls 4 [(0, .ref (ad 0)), (1, .int v1), (2, .int v2), (3, .int v3)] → SW p l e rm_X6_tries s m args below meth c D vwCl shC cA ad (Fq D vwCl shC cA ad below args s (fun q => some (.int q.1) : (Int32 × vS) → Option Value) (fun q => q.2) (fun _ => True)) (lX6_tries_81 v1 n S v2 v3) S 81 ls [] := by
  intro n
  induction n with
  | zero =>
    intro S v2 v3 ls hl
    rw [lX6_tries_81]
    exact sw_none
  | succ n ih =>
    intro S v2 v3 ls hl
    rw [lX6_tries_81]
    refine sx_iload_n C0 dX6_tries_81 rfl (lv_at hl 3 rfl) ?_
    refine sx_aload_n C0 dX6_tries_82 rfl (lv_at hl 0 rfl) ?_
    refine gf_X6_16 C0 is6 dX6_tries_83 ?_
    refine sx_iload_n C0 dX6_tries_86 rfl (lv_at hl 1 rfl) ?_
    refine sw_bind (fun a87 e87 => ?_)
    refine cv_X6_124 (As := [.int v1]) C0 (c_X4_size C0.2.2.2.2.2.2.2.1 1 6 is6_rows v1 S _ e87) is6_rows.1 ⟨rfl, rfl⟩ ⟨Nat.le_of_ble_eq_true rfl, Nat.le_of_ble_eq_true rfl⟩ rfl hl.1 (Nat.le_of_ble_eq_true rfl) rfl dX6_tries_87 (fun _ => ?_)
    refine sx_icmp_ge (tgt := 131) C0 dX6_tries_90 (by decide) (fun _ => ?_) (fun _ => ?_)
    · exact bX6_tries_131_t C0 _ _ _ (lv_sub hl [0, 2] rfl)
    · refine sx_aload_n C0 dX6_tries_93 rfl (lv_at hl 0 rfl) ?_
      refine gf_X6_58 C0 is6 dX6_tries_94 ?_
      refine sx_aload_n C0 dX6_tries_97 rfl (lv_at hl 0 rfl) ?_
      refine gf_X6_33 C0 is6 dX6_tries_98 ?_
      refine gf_X6_149 C0 is6_village.1 dX6_tries_101 ?_
      refine sx_aload_n C0 dX6_tries_104 rfl (lv_at hl 0 rfl) ?_
      refine gf_X6_16 C0 is6 dX6_tries_105 ?_
      refine sx_iload_n C0 dX6_tries_108 rfl (lv_at hl 1 rfl) ?_
      refine sx_iload_n C0 dX6_tries_109 rfl (lv_at hl 3 rfl) ?_
      refine sw_bind (fun a110 e110 => ?_)
      refine cv_X6_99 (As := [.int v1, .int v3]) C0 (c_X4_read C0.2.2.2.2.2.2.2.1 1 6 is6_rows v1 v3 S _ e110) is6_rows.1 ⟨rfl, rfl⟩ ⟨Nat.le_of_ble_eq_true rfl, Nat.le_of_ble_eq_true rfl⟩ rfl hl.1 (Nat.le_of_ble_eq_true rfl) rfl dX6_tries_110 (fun _ => ?_)
      refine sw_bind (fun q113 e113 => ?_)
      refine cv_X6_251 (As := [.ref (ad (30 + 1)), .int a110]) C0 (c_X3_goOn C0.2.2.2.2.2.2.2.1 129 is6_trial (30 + 1) is6_village.2.1 a110 S _ e113) is6_trial.1 ⟨rfl, rfl⟩ ⟨Nat.le_of_ble_eq_true rfl, Nat.le_of_ble_eq_true rfl⟩ rfl hl.1 (Nat.le_of_ble_eq_true rfl) rfl dX6_tries_113 (fun hb113 => ?_)
      refine sx_if_ne (tgt := 122) C0 dX6_tries_116 (by decide) (fun _ => ?_) (fun _ => ?_)
      · exact bX6_tries_119_t C0 _ _ _ (lv_sub hl [0, 2] rfl)
      · refine sx_iinc (v := (v2 + (1 : Int32))) (lv' := [(2, .int (v2 + (1 : Int32))), (0, .ref (ad 0)), (1, .int v1), (3, .int v3)]) C0 dX6_tries_122 hl (k := 2) rfl rfl (by decide) rfl (fun ls hl => ?_)
        refine sx_iinc (v := (v3 + (1 : Int32))) (lv' := [(3, .int (v3 + (1 : Int32))), (2, .int (v2 + (1 : Int32))), (0, .ref (ad 0)), (1, .int v1)]) C0 dX6_tries_125 hl (k := 3) rfl rfl (by decide) rfl (fun ls hl => ?_)
        refine sx_goto (tgt := 81) C0 dX6_tries_128 (by decide) ?_
        exact ih _ _ _ _ (lv_sub hl [2, 3, 1, 0] rfl)
def mX6_tries (S : vS) (v1 : Int32) : Option (Int32 × vS) := (if (mX4_has S 1 6 v1) = 0 then (some ((-1 : Int32), S)) else (if (mX6_noGods S) = 0 then ((mX4_isThere S 1 6 v1).bind fun a28 => (if a28 = 0 then ((mX6_found S (1 : Int32)).bind fun q36 => (some (q36.1, q36.2))) else ((mX4_size S 1 6 v1).bind fun a45 => (if a45 ≤ (30 : Int32) then ((mX6_holdsNumbersOnly S v1).bind fun a61 => (if a61 = 0 then ((mX6_found S (3 : Int32)).bind fun q69 => (some (q69.1, q69.2))) else ((mX6_startTrial S).bind fun S74 => (lX6_tries_81 v1 FU S74 (0 : Int32) (0 : Int32))))) else ((mX6_found S (5 : Int32)).bind fun q55 => (some (q55.1, q55.2))))))) else (some ((-4 : Int32), S))))
set_option maxHeartbeats 4000000 in
set_option maxRecDepth 100000 in
theorem c_X6_tries {l : Launch} {D : va_G} {cA : Nat → ClassId} {ad : Nat → Nat} {kl : Nat} (G : Gx shC ad (ExC ad kl)) (v1 : Int32) (S : vS) (r : (Int32 × vS)) (hr : (mX6_tries S v1) = some r) : Met l yX6_tries (Cond.code yX6_tries cX6_tries 4 (some .int) :: ALL) rm_X6_tries (Po D vwCl tlC shC cA ad (ExC ad kl) [.ref (ad 0), .int v1] S) (Qo D vwCl shC cA ad (some (.int r.1)) r.2 True) 0 0 (aw shC ad) := by
  refine Met.sx (M := (mX6_tries S v1)) (rv := (fun q => some (.int q.1) : (Int32 × vS) → Option Value)) (rs := fun q => q.2) (B := fun _ => True) (by decide) ⟨rfl, rfl⟩ (Nat.le_of_ble_eq_true rfl) G (fun p e s m args below meth c C0 ls hl => ?_) hr
  have hl : lv_has ls 4 [(0, .ref (ad 0)), (1, .int v1)] := hl
  rw [mX6_tries]
  refine sx_aload_n C0 dX6_tries_0 rfl (lv_at hl 0 rfl) ?_
  refine gf_X6_16 C0 is6 dX6_tries_1 ?_
  refine sx_iload_n C0 dX6_tries_4 rfl (lv_at hl 1 rfl) ?_
  refine cv_X6_83 (As := [.int v1]) C0 (c_X4_has C0.2.2.2.2.2.2.2.1 1 6 is6_rows v1 S) is6_rows.1 ⟨rfl, rfl⟩ ⟨Nat.le_of_ble_eq_true rfl, Nat.le_of_ble_eq_true rfl⟩ rfl hl.1 (Nat.le_of_ble_eq_true rfl) rfl dX6_tries_5 (fun hb5 => ?_)
  refine sx_if_ne (tgt := 13) C0 dX6_tries_8 (by decide) (fun _ => ?_) (fun _ => ?_)
  · refine sx_iconst (v := (-1)) C0 dX6_tries_11 (by decide) ?_
    exact sx_iret C0 rfl rfl trivial dX6_tries_12
  · refine sx_aload_n C0 dX6_tries_13 rfl (lv_at hl 0 rfl) ?_
    refine cv_X6_183 (As := []) C0 (c_X6_noGods C0.2.2.2.2.2.2.2.1 S) is6 ⟨rfl, rfl⟩ ⟨Nat.le_of_ble_eq_true rfl, Nat.le_of_ble_eq_true rfl⟩ rfl hl.1 (Nat.le_of_ble_eq_true rfl) rfl dX6_tries_14 (fun hb14 => ?_)
    refine sx_if_eq (tgt := 23) C0 dX6_tries_17 (by decide) (fun _ => ?_) (fun _ => ?_)
    · refine sx_aload_n C0 dX6_tries_23 rfl (lv_at hl 0 rfl) ?_
      refine gf_X6_16 C0 is6 dX6_tries_24 ?_
      refine sx_iload_n C0 dX6_tries_27 rfl (lv_at hl 1 rfl) ?_
      refine sw_bind (fun a28 e28 => ?_)
      refine cv_X6_110 (As := [.int v1]) C0 (c_X4_isThere C0.2.2.2.2.2.2.2.1 1 6 is6_rows v1 S _ e28) is6_rows.1 ⟨rfl, rfl⟩ ⟨Nat.le_of_ble_eq_true rfl, Nat.le_of_ble_eq_true rfl⟩ rfl hl.1 (Nat.le_of_ble_eq_true rfl) rfl dX6_tries_28 (fun hb28 => ?_)
      refine sx_if_ne (tgt := 40) C0 dX6_tries_31 (by decide) (fun _ => ?_) (fun _ => ?_)
      · refine sx_aload_n C0 dX6_tries_34 rfl (lv_at hl 0 rfl) ?_
        refine sx_iconst (v := 1) C0 dX6_tries_35 (by decide) ?_
        refine sw_bind (fun q36 e36 => ?_)
        refine cv_X6_87 (As := [.int (1 : Int32)]) C0 (c_X6_found C0.2.2.2.2.2.2.2.1 (1 : Int32) S _ e36) is6 ⟨rfl, rfl⟩ ⟨Nat.le_of_ble_eq_true rfl, Nat.le_of_ble_eq_true rfl⟩ rfl hl.1 (Nat.le_of_ble_eq_true rfl) rfl dX6_tries_36 (fun _ => ?_)
        exact sx_iret C0 rfl rfl trivial dX6_tries_39
      · refine sx_aload_n C0 dX6_tries_40 rfl (lv_at hl 0 rfl) ?_
        refine gf_X6_16 C0 is6 dX6_tries_41 ?_
        refine sx_iload_n C0 dX6_tries_44 rfl (lv_at hl 1 rfl) ?_
        refine sw_bind (fun a45 e45 => ?_)
        refine cv_X6_124 (As := [.int v1]) C0 (c_X4_size C0.2.2.2.2.2.2.2.1 1 6 is6_rows v1 S _ e45) is6_rows.1 ⟨rfl, rfl⟩ ⟨Nat.le_of_ble_eq_true rfl, Nat.le_of_ble_eq_true rfl⟩ rfl hl.1 (Nat.le_of_ble_eq_true rfl) rfl dX6_tries_45 (fun _ => ?_)
        refine sx_bipush (v := 30) C0 dX6_tries_48 (by decide) ?_
        refine sx_icmp_le (tgt := 59) C0 dX6_tries_50 (by decide) (fun _ => ?_) (fun _ => ?_)
        · refine sx_aload_n C0 dX6_tries_59 rfl (lv_at hl 0 rfl) ?_
          refine sx_iload_n C0 dX6_tries_60 rfl (lv_at hl 1 rfl) ?_
          refine sw_bind (fun a61 e61 => ?_)
          refine cv_X6_245 (As := [.int v1]) C0 (c_X6_holdsNumbersOnly C0.2.2.2.2.2.2.2.1 v1 S _ e61) is6 ⟨rfl, rfl⟩ ⟨Nat.le_of_ble_eq_true rfl, Nat.le_of_ble_eq_true rfl⟩ rfl hl.1 (Nat.le_of_ble_eq_true rfl) rfl dX6_tries_61 (fun hb61 => ?_)
          refine sx_if_ne (tgt := 73) C0 dX6_tries_64 (by decide) (fun _ => ?_) (fun _ => ?_)
          · refine sx_aload_n C0 dX6_tries_67 rfl (lv_at hl 0 rfl) ?_
            refine sx_iconst (v := 3) C0 dX6_tries_68 (by decide) ?_
            refine sw_bind (fun q69 e69 => ?_)
            refine cv_X6_87 (As := [.int (3 : Int32)]) C0 (c_X6_found C0.2.2.2.2.2.2.2.1 (3 : Int32) S _ e69) is6 ⟨rfl, rfl⟩ ⟨Nat.le_of_ble_eq_true rfl, Nat.le_of_ble_eq_true rfl⟩ rfl hl.1 (Nat.le_of_ble_eq_true rfl) rfl dX6_tries_69 (fun _ => ?_)
            exact sx_iret C0 rfl rfl trivial dX6_tries_72
          · refine sx_aload_n C0 dX6_tries_73 rfl (lv_at hl 0 rfl) ?_
            refine sw_bind (fun S74 e74 => ?_)
            refine cv_X6_248 (As := []) C0 (c_X6_startTrial C0.2.2.2.2.2.2.2.1 S _ e74) is6 ⟨rfl, rfl⟩ ⟨Nat.le_of_ble_eq_true rfl, Nat.le_of_ble_eq_true rfl⟩ rfl hl.1 (Nat.le_of_ble_eq_true rfl) rfl dX6_tries_74 (fun _ => ?_)
            refine sx_iconst (v := 0) C0 dX6_tries_77 (by decide) ?_
            refine sx_istore_n (lv' := [(2, .int (0 : Int32)), (0, .ref (ad 0)), (1, .int v1)]) C0 dX6_tries_78 rfl hl (by decide) rfl (fun ls hl => ?_)
            refine sx_iconst (v := 0) C0 dX6_tries_79 (by decide) ?_
            refine sx_istore_n (lv' := [(3, .int (0 : Int32)), (2, .int (0 : Int32)), (0, .ref (ad 0)), (1, .int v1)]) C0 dX6_tries_80 rfl hl (by decide) rfl (fun ls hl => ?_)
            exact lX6_tries_81_t C0 _ _ _ _ _ _ (lv_sub hl [2, 3, 1, 0] rfl)
        · refine sx_aload_n C0 dX6_tries_53 rfl (lv_at hl 0 rfl) ?_
          refine sx_iconst (v := 5) C0 dX6_tries_54 (by decide) ?_
          refine sw_bind (fun q55 e55 => ?_)
          refine cv_X6_87 (As := [.int (5 : Int32)]) C0 (c_X6_found C0.2.2.2.2.2.2.2.1 (5 : Int32) S _ e55) is6 ⟨rfl, rfl⟩ ⟨Nat.le_of_ble_eq_true rfl, Nat.le_of_ble_eq_true rfl⟩ rfl hl.1 (Nat.le_of_ble_eq_true rfl) rfl dX6_tries_55 (fun _ => ?_)
          exact sx_iret C0 rfl rfl trivial dX6_tries_58
    · refine sx_bipush (v := (-4)) C0 dX6_tries_20 (by decide) ?_
      exact sx_iret C0 rfl rfl trivial dX6_tries_22
abbrev rm_X6_safe : Room := { frames := 14, cells := 0, slots := 0, locals := 331 }
def mX6_safe (S : vS) (v1 : Int32) (v2 : Int32) : Option (Int32 × vS) := (if v1 < (1 : Int32) then (some ((-1 : Int32), S)) else (if (4 : Int32) < v1 then (some ((-1 : Int32), S)) else (if (mX4_has S 1 6 v2) = 0 then (some ((-1 : Int32), S)) else (if (mX6_noGods S) = 0 then ((mX1_seekHarmless S 95 (30 + 1) (30 + 11) v1 (1 : Int32)).bind fun S53 => (if (S53.1 95 6) = 0 then (some ((-9 : Int32), S53)) else ((mX4_fill S53 1 6 v2 (95 + 23) 4 v1).bind fun S82 => (some ((1 : Int32), S82))))) else (some ((-4 : Int32), S))))))
set_option maxHeartbeats 4000000 in
set_option maxRecDepth 100000 in
theorem c_X6_safe {l : Launch} {D : va_G} {cA : Nat → ClassId} {ad : Nat → Nat} {kl : Nat} (G : Gx shC ad (ExC ad kl)) (v1 : Int32) (v2 : Int32) (S : vS) (r : (Int32 × vS)) (hr : (mX6_safe S v1 v2) = some r) : Met l yX6_safe (Cond.code yX6_safe cX6_safe 3 (some .int) :: ALL) rm_X6_safe (Po D vwCl tlC shC cA ad (ExC ad kl) [.ref (ad 0), .int v1, .int v2] S) (Qo D vwCl shC cA ad (some (.int r.1)) r.2 True) 0 0 (aw shC ad) := by
  refine Met.sx (M := (mX6_safe S v1 v2)) (rv := (fun q => some (.int q.1) : (Int32 × vS) → Option Value)) (rs := fun q => q.2) (B := fun _ => True) (by decide) ⟨rfl, rfl⟩ (Nat.le_of_ble_eq_true rfl) G (fun p e s m args below meth c C0 ls hl => ?_) hr
  have hl : lv_has ls 3 [(0, .ref (ad 0)), (1, .int v1), (2, .int v2)] := hl
  rw [mX6_safe]
  refine sx_iload_n C0 dX6_safe_0 rfl (lv_at hl 1 rfl) ?_
  refine sx_iconst (v := 1) C0 dX6_safe_1 (by decide) ?_
  refine sx_icmp_lt (tgt := 21) C0 dX6_safe_2 (by decide) (fun _ => ?_) (fun _ => ?_)
  · refine sx_iconst (v := (-1)) C0 dX6_safe_21 (by decide) ?_
    exact sx_iret C0 rfl rfl trivial dX6_safe_22
  · refine sx_iload_n C0 dX6_safe_5 rfl (lv_at hl 1 rfl) ?_
    refine sx_iconst (v := 4) C0 dX6_safe_6 (by decide) ?_
    refine sx_icmp_gt (tgt := 21) C0 dX6_safe_7 (by decide) (fun _ => ?_) (fun _ => ?_)
    · refine sx_iconst (v := (-1)) C0 dX6_safe_21 (by decide) ?_
      exact sx_iret C0 rfl rfl trivial dX6_safe_22
    · refine sx_aload_n C0 dX6_safe_10 rfl (lv_at hl 0 rfl) ?_
      refine gf_X6_16 C0 is6 dX6_safe_11 ?_
      refine sx_iload_n C0 dX6_safe_14 rfl (lv_at hl 2 rfl) ?_
      refine cv_X6_83 (As := [.int v2]) C0 (c_X4_has C0.2.2.2.2.2.2.2.1 1 6 is6_rows v2 S) is6_rows.1 ⟨rfl, rfl⟩ ⟨Nat.le_of_ble_eq_true rfl, Nat.le_of_ble_eq_true rfl⟩ rfl hl.1 (Nat.le_of_ble_eq_true rfl) rfl dX6_safe_15 (fun hb15 => ?_)
      refine sx_if_ne (tgt := 23) C0 dX6_safe_18 (by decide) (fun _ => ?_) (fun _ => ?_)
      · refine sx_iconst (v := (-1)) C0 dX6_safe_21 (by decide) ?_
        exact sx_iret C0 rfl rfl trivial dX6_safe_22
      · refine sx_aload_n C0 dX6_safe_23 rfl (lv_at hl 0 rfl) ?_
        refine cv_X6_183 (As := []) C0 (c_X6_noGods C0.2.2.2.2.2.2.2.1 S) is6 ⟨rfl, rfl⟩ ⟨Nat.le_of_ble_eq_true rfl, Nat.le_of_ble_eq_true rfl⟩ rfl hl.1 (Nat.le_of_ble_eq_true rfl) rfl dX6_safe_24 (fun hb24 => ?_)
        refine sx_if_eq (tgt := 33) C0 dX6_safe_27 (by decide) (fun _ => ?_) (fun _ => ?_)
        · refine sx_aload_n C0 dX6_safe_33 rfl (lv_at hl 0 rfl) ?_
          refine gf_X6_44 C0 is6 dX6_safe_34 ?_
          refine sx_aload_n C0 dX6_safe_37 rfl (lv_at hl 0 rfl) ?_
          refine gf_X6_33 C0 is6 dX6_safe_38 ?_
          refine gf_X6_149 C0 is6_village.1 dX6_safe_41 ?_
          refine sx_aload_n C0 dX6_safe_44 rfl (lv_at hl 0 rfl) ?_
          refine gf_X6_33 C0 is6 dX6_safe_45 ?_
          refine gf_X6_167 C0 is6_village.1 dX6_safe_48 ?_
          refine sx_iload_n C0 dX6_safe_51 rfl (lv_at hl 1 rfl) ?_
          refine sx_iconst (v := 1) C0 dX6_safe_52 (by decide) ?_
          refine sw_bind (fun S53 e53 => ?_)
          refine cv_X6_259 (As := [.ref (ad (30 + 1)), .ref (ad (30 + 11)), .int v1, .int (1 : Int32)]) C0 (c_X1_seekHarmless C0.2.2.2.2.2.2.2.1 95 is6_plans (30 + 1) is6_village.2.1 (30 + 11) is6_village.2.2.1 v1 (1 : Int32) (Or.inr rfl) S _ e53) is6_plans.1 ⟨rfl, rfl⟩ ⟨Nat.le_of_ble_eq_true rfl, Nat.le_of_ble_eq_true rfl⟩ rfl hl.1 (Nat.le_of_ble_eq_true rfl) rfl dX6_safe_53 (fun _ => ?_)
          refine sx_aload_n C0 dX6_safe_56 rfl (lv_at hl 0 rfl) ?_
          refine gf_X6_44 C0 is6 dX6_safe_57 ?_
          refine gf_X6_263 C0 is6_plans.1 dX6_safe_60 ?_
          refine sx_if_ne (tgt := 69) C0 dX6_safe_63 (by decide) (fun _ => ?_) (fun _ => ?_)
          · refine sx_bipush (v := (-9)) C0 dX6_safe_66 (by decide) ?_
            exact sx_iret C0 rfl rfl trivial dX6_safe_68
          · refine sx_aload_n C0 dX6_safe_69 rfl (lv_at hl 0 rfl) ?_
            refine gf_X6_16 C0 is6 dX6_safe_70 ?_
            refine sx_iload_n C0 dX6_safe_73 rfl (lv_at hl 2 rfl) ?_
            refine sx_aload_n C0 dX6_safe_74 rfl (lv_at hl 0 rfl) ?_
            refine gf_X6_44 C0 is6 dX6_safe_75 ?_
            refine gf_X6_238 C0 is6_plans.1 dX6_safe_78 ?_
            refine sx_iload_n C0 dX6_safe_81 rfl (lv_at hl 1 rfl) ?_
            refine sw_bind (fun S82 e82 => ?_)
            refine cv_X6_241 (As := [.int v2, .ref (ad (95 + 23)), .int v1]) C0 (c_X4_fill C0.2.2.2.2.2.2.2.1 1 6 is6_rows v2 (95 + 23) 4 is6_plans.2.2.2.1 v1 S53 _ e82) is6_rows.1 ⟨rfl, rfl⟩ ⟨Nat.le_of_ble_eq_true rfl, Nat.le_of_ble_eq_true rfl⟩ rfl hl.1 (Nat.le_of_ble_eq_true rfl) rfl dX6_safe_82 (fun _ => ?_)
            refine sx_iconst (v := 1) C0 dX6_safe_85 (by decide) ?_
            exact sx_iret C0 rfl rfl trivial dX6_safe_86
        · refine sx_bipush (v := (-4)) C0 dX6_safe_30 (by decide) ?_
          exact sx_iret C0 rfl rfl trivial dX6_safe_32
