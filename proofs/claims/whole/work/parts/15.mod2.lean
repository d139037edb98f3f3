abbrev rm_X7_goes : Room := { frames := 6, cells := 0, slots := 0, locals := 135 }
def bX7_goes_79    (S : vS) (v1 : Int32) (v2 : Int32) (v3 : Int32)  : Option (Int32 × vS) := ((mX7_hungers S v1 v3 (v2 - v2 / (3 : Int32) * (3 : Int32))).bind fun S85 => ((mX7_sends S85 v1).bind fun S90 => ((mX7_v S90 v1 (14 : Int32)).bind fun a101 => ((mX7_place S90 v1 (14 : Int32) (a101 + (1 : Int32))).bind fun S106 => (some ((1 : Int32), S106))))))
set_option maxHeartbeats 4000000 in
set_option maxRecDepth 100000 in
theorem bX7_goes_79_t {p : Program} {l : Launch} {e : Env} {s : State} {m : MethodId} {args : Array Value} {below : List Frame} {meth : Method} {c : Code} {D : va_G} {cA : Nat → ClassId} {ad : Nat → Nat}   (C0 : Cx D vwCl tlM shM cA ad ExM RX7 cX7_goes 4 (some .boolean) p s m args meth c)  (S : vS) (v1 : Int32) (v2 : Int32) (v3 : Int32) (ls : Array Slot) (hl : lv_has ls 4 [(0, .ref (ad 0)), (1, .int v1), (2, .int v2), (3, .int v3)]) : SW p l e rm_X7_goes s m args below meth c D vwCl shM cA ad (Fq D vwCl shM cA ad below args s (fun q => some (.int q.1) : (Int32 × vS) → Option Value) (fun q => q.2) (fun q => isB q.1)) (bX7_goes_79 S v1 v2 v3) S 79 ls [] := by
  rw [bX7_goes_79]
  refine sx_aload_n C0 dX7_goes_79 rfl (lv_at hl 0 rfl) ?_
  refine sx_iload_n C0 dX7_goes_80 rfl (lv_at hl 1 rfl) ?_
  refine sx_iload_n C0 dX7_goes_81 rfl (lv_at hl 3 rfl) ?_
  refine sx_iload_n C0 dX7_goes_82 rfl (lv_at hl 2 rfl) ?_
  refine sx_iconst (v := 3) C0 dX7_goes_83 (by decide) ?_
  refine sx_irem C0 dX7_goes_84 (by decide) ?_
  refine sw_bind (fun S85 e85 => ?_)
  refine cv_X7_201 (As := [.int v1, .int v3, .int (v2 - v2 / (3 : Int32) * (3 : Int32))]) C0 (c_X7_hungers C0.2.2.2.2.2.2.2.1 v1 v3 (v2 - v2 / (3 : Int32) * (3 : Int32)) S _ e85) is7 ⟨rfl, rfl⟩ ⟨Nat.le_of_ble_eq_true rfl, Nat.le_of_ble_eq_true rfl⟩ rfl hl.1 (Nat.le_of_ble_eq_true rfl) rfl dX7_goes_85 (fun _ => ?_)
  refine sx_aload_n C0 dX7_goes_88 rfl (lv_at hl 0 rfl) ?_
  refine sx_iload_n C0 dX7_goes_89 rfl (lv_at hl 1 rfl) ?_
  refine sw_bind (fun S90 e90 => ?_)
  refine cv_X7_204 (As := [.int v1]) C0 (c_X7_sends C0.2.2.2.2.2.2.2.1 v1 S85 _ e90) is7 ⟨rfl, rfl⟩ ⟨Nat.le_of_ble_eq_true rfl, Nat.le_of_ble_eq_true rfl⟩ rfl hl.1 (Nat.le_of_ble_eq_true rfl) rfl dX7_goes_90 (fun _ => ?_)
  refine sx_aload_n C0 dX7_goes_93 rfl (lv_at hl 0 rfl) ?_
  refine sx_iload_n C0 dX7_goes_94 rfl (lv_at hl 1 rfl) ?_
  refine sx_bipush (v := 14) C0 dX7_goes_95 (by decide) ?_
  refine sx_aload_n C0 dX7_goes_97 rfl (lv_at hl 0 rfl) ?_
  refine sx_iload_n C0 dX7_goes_98 rfl (lv_at hl 1 rfl) ?_
  refine sx_bipush (v := 14) C0 dX7_goes_99 (by decide) ?_
  refine sw_bind (fun a101 e101 => ?_)
  refine cv_X7_149 (As := [.int v1, .int (14 : Int32)]) C0 (c_X7_v C0.2.2.2.2.2.2.2.1 v1 (14 : Int32) S90 _ e101) is7 ⟨rfl, rfl⟩ ⟨Nat.le_of_ble_eq_true rfl, Nat.le_of_ble_eq_true rfl⟩ rfl hl.1 (Nat.le_of_ble_eq_true rfl) rfl dX7_goes_101 (fun _ => ?_)
  refine sx_iconst (v := 1) C0 dX7_goes_104 (by decide) ?_
  refine sx_iadd C0 dX7_goes_105 ?_
  refine sw_bind (fun S106 e106 => ?_)
  refine cv_X7_142 (As := [.int v1, .int (14 : Int32), .int (a101 + (1 : Int32))]) C0 (c_X7_place C0.2.2.2.2.2.2.2.1 v1 (14 : Int32) (a101 + (1 : Int32)) S90 _ e106) is7 ⟨rfl, rfl⟩ ⟨Nat.le_of_ble_eq_true rfl, Nat.le_of_ble_eq_true rfl⟩ rfl hl.1 (Nat.le_of_ble_eq_true rfl) rfl dX7_goes_106 (fun _ => ?_)
  refine sx_iconst (v := 1) C0 dX7_goes_109 (by decide) ?_
  exact sx_zret C0 rfl rfl (Or.inr rfl) (Or.inr rfl) dX7_goes_110
def mX7_goes (S : vS) (v1 : Int32) (v2 : Int32) : Option (Int32 × vS) := ((mX7_costOf S v1 v2).bind fun a4 => (lt (wI S 0 22 a4) fun S7 => (if (S7.1 0 22) = (-9 : Int32) then (some ((0 : Int32), S7)) else (if v2 = (12 : Int32) then (bX7_goes_79 S7 v1 v2 (0 : Int32)) else ((mX7_fedBy S7 v1 (v2 / (3 : Int32))).bind fun a34 => ((mX7_v S7 v1 ((0 : Int32) + (v2 - v2 / (3 : Int32) * (3 : Int32)))).bind fun a52 => ((mX7_place S7 v1 ((0 : Int32) + (v2 - v2 / (3 : Int32) * (3 : Int32))) (a52 - (S7.1 0 22))).bind fun S60 => ((mX7_v S60 v1 (7 : Int32)).bind fun a71 => ((mX7_place S60 v1 (7 : Int32) (a71 ||| a34)).bind fun S76 => (bX7_goes_79 S76 v1 v2 a34))))))))))
set_option maxHeartbeats 4000000 in
set_option maxRecDepth 100000 in
theorem c_X7_goes {l : Launch} {D : va_G} {cA : Nat → ClassId} {ad : Nat → Nat} (G : Gx shM ad ExM) (v1 : Int32) (v2 : Int32) (S : vS) (r : (Int32 × vS)) (hr : (mX7_goes S v1 v2) = some r) : Met l yX7_goes (Cond.code yX7_goes cX7_goes 4 (some .boolean) :: ALL) rm_X7_goes (Po D vwCl tlM shM cA ad ExM [.ref (ad 0), .int v1, .int v2] S) (Qo D vwCl shM cA ad (some (.int r.1)) r.2 (isB r.1)) 0 0 (aw shM ad) := by
  refine Met.sx (M := (mX7_goes S v1 v2)) (rv := (fun q => some (.int q.1) : (Int32 × vS) → Option Value)) (rs := fun q => q.2) (B := fun q => isB q.1) (by decide) ⟨rfl, rfl⟩ (Nat.le_of_ble_eq_true rfl) G (fun p e s m args below meth c C0 ls hl => ?_) hr
  have hl : lv_has ls 4 [(0, .ref (ad 0)), (1, .int v1), (2, .int v2)] := hl
  rw [mX7_goes]
  refine sx_aload_n C0 dX7_goes_0 rfl (lv_at hl 0 rfl) ?_
  refine sx_aload_n C0 dX7_goes_1 rfl (lv_at hl 0 rfl) ?_
  refine sx_iload_n C0 dX7_goes_2 rfl (lv_at hl 1 rfl) ?_
  refine sx_iload_n C0 dX7_goes_3 rfl (lv_at hl 2 rfl) ?_
  refine sw_bind (fun a4 e4 => ?_)
  refine cv_X7_195 (As := [.int v1, .int v2]) C0 (c_X7_costOf C0.2.2.2.2.2.2.2.1 v1 v2 S _ e4) is7 ⟨rfl, rfl⟩ ⟨Nat.le_of_ble_eq_true rfl, Nat.le_of_ble_eq_true rfl⟩ rfl hl.1 (Nat.le_of_ble_eq_true rfl) rfl dX7_goes_4 (fun _ => ?_)
  refine pf_X7_198 C0 is7 dX7_goes_7 (fun S7 => ?_)
  refine sx_aload_n C0 dX7_goes_10 rfl (lv_at hl 0 rfl) ?_
  refine gf_X7_198 C0 is7 dX7_goes_11 ?_
  refine sx_bipush (v := (-9)) C0 dX7_goes_14 (by decide) ?_
  refine sx_icmp_ne (tgt := 21) C0 dX7_goes_16 (by decide) (fun _ => ?_) (fun _ => ?_)
  · refine sx_iconst (v := 0) C0 dX7_goes_19 (by decide) ?_
    exact sx_zret C0 rfl rfl (Or.inl rfl) (Or.inl rfl) dX7_goes_20
  · refine sx_iconst (v := 0) C0 dX7_goes_21 (by decide) ?_
    refine sx_istore_n (lv' := [(3, .int (0 : Int32)), (0, .ref (ad 0)), (1, .int v1), (2, .int v2)]) C0 dX7_goes_22 rfl hl (by decide) rfl (fun ls hl => ?_)
    refine sx_iload_n C0 dX7_goes_23 rfl (lv_at hl 3 rfl) ?_
    refine sx_bipush (v := 12) C0 dX7_goes_24 (by decide) ?_
    refine sx_icmp_eq (tgt := 79) C0 dX7_goes_26 (by decide) (fun _ => ?_) (fun _ => ?_)
    · exact bX7_goes_79_t C0 _ _ _ _ _ (lv_sub hl [1, 2, 3, 0] rfl)
    · refine sx_aload_n C0 dX7_goes_29 rfl (lv_at hl 1 rfl) ?_
      refine sx_iload_n C0 dX7_goes_30 rfl (lv_at hl 2 rfl) ?_
      refine sx_iload_n C0 dX7_goes_31 rfl (lv_at hl 3 rfl) ?_
      refine sx_iconst (v := 3) C0 dX7_goes_32 (by decide) ?_
      refine sx_idiv C0 dX7_goes_33 (by decide) ?_
      refine sw_bind (fun a34 e34 => ?_)
      refine cv_X7_168 (As := [.int v1, .int (v2 / (3 : Int32))]) C0 (c_X7_fedBy C0.2.2.2.2.2.2.2.1 v1 (v2 / (3 : Int32)) S7 _ e34) is7 ⟨rfl, rfl⟩ ⟨Nat.le_of_ble_eq_true rfl, Nat.le_of_ble_eq_true rfl⟩ rfl hl.1 (Nat.le_of_ble_eq_true rfl) rfl dX7_goes_34 (fun _ => ?_)
      refine sx_istore_n (lv' := [(3, .int a34), (0, .ref (ad 0)), (1, .int v1), (2, .int v2)]) C0 dX7_goes_37 rfl hl (by decide) rfl (fun ls hl => ?_)
      refine sx_aload_n C0 dX7_goes_38 rfl (lv_at hl 1 rfl) ?_
      refine sx_iload_n C0 dX7_goes_39 rfl (lv_at hl 2 rfl) ?_
      refine sx_iconst (v := 0) C0 dX7_goes_40 (by decide) ?_
      refine sx_iload_n C0 dX7_goes_41 rfl (lv_at hl 3 rfl) ?_
      refine sx_iconst (v := 3) C0 dX7_goes_42 (by decide) ?_
      refine sx_irem C0 dX7_goes_43 (by decide) ?_
      refine sx_iadd C0 dX7_goes_44 ?_
      refine sx_aload_n C0 dX7_goes_45 rfl (lv_at hl 1 rfl) ?_
      refine sx_iload_n C0 dX7_goes_46 rfl (lv_at hl 2 rfl) ?_
      refine sx_iconst (v := 0) C0 dX7_goes_47 (by decide) ?_
      refine sx_iload_n C0 dX7_goes_48 rfl (lv_at hl 3 rfl) ?_
      refine sx_iconst (v := 3) C0 dX7_goes_49 (by decide) ?_
      refine sx_irem C0 dX7_goes_50 (by decide) ?_
      refine sx_iadd C0 dX7_goes_51 ?_
      refine sw_bind (fun a52 e52 => ?_)
      refine cv_X7_149 (As := [.int v1, .int ((0 : Int32) + (v2 - v2 / (3 : Int32) * (3 : Int32)))]) C0 (c_X7_v C0.2.2.2.2.2.2.2.1 v1 ((0 : Int32) + (v2 - v2 / (3 : Int32) * (3 : Int32))) S7 _ e52) is7 ⟨rfl, rfl⟩ ⟨Nat.le_of_ble_eq_true rfl, Nat.le_of_ble_eq_true rfl⟩ rfl hl.1 (Nat.le_of_ble_eq_true rfl) rfl dX7_goes_52 (fun _ => ?_)
      refine sx_aload_n C0 dX7_goes_55 rfl (lv_at hl 1 rfl) ?_
      refine gf_X7_198 C0 is7 dX7_goes_56 ?_
      refine sx_isub C0 dX7_goes_59 ?_
      refine sw_bind (fun S60 e60 => ?_)
      refine cv_X7_142 (As := [.int v1, .int ((0 : Int32) + (v2 - v2 / (3 : Int32) * (3 : Int32))), .int (a52 - (S7.1 0 22))]) C0 (c_X7_place C0.2.2.2.2.2.2.2.1 v1 ((0 : Int32) + (v2 - v2 / (3 : Int32) * (3 : Int32))) (a52 - (S7.1 0 22)) S7 _ e60) is7 ⟨rfl, rfl⟩ ⟨Nat.le_of_ble_eq_true rfl, Nat.le_of_ble_eq_true rfl⟩ rfl hl.1 (Nat.le_of_ble_eq_true rfl) rfl dX7_goes_60 (fun _ => ?_)
      refine sx_aload_n C0 dX7_goes_63 rfl (lv_at hl 1 rfl) ?_
      refine sx_iload_n C0 dX7_goes_64 rfl (lv_at hl 2 rfl) ?_
      refine sx_bipush (v := 7) C0 dX7_goes_65 (by decide) ?_
      refine sx_aload_n C0 dX7_goes_67 rfl (lv_at hl 1 rfl) ?_
      refine sx_iload_n C0 dX7_goes_68 rfl (lv_at hl 2 rfl) ?_
      refine sx_bipush (v := 7) C0 dX7_goes_69 (by decide) ?_
      refine sw_bind (fun a71 e71 => ?_)
      refine cv_X7_149 (As := [.int v1, .int (7 : Int32)]) C0 (c_X7_v C0.2.2.2.2.2.2.2.1 v1 (7 : Int32) S60 _ e71) is7 ⟨rfl, rfl⟩ ⟨Nat.le_of_ble_eq_true rfl, Nat.le_of_ble_eq_true rfl⟩ rfl hl.1 (Nat.le_of_ble_eq_true rfl) rfl dX7_goes_71 (fun _ => ?_)
      refine sx_iload_n C0 dX7_goes_74 rfl (lv_at hl 0 rfl) ?_
      refine sx_ior C0 dX7_goes_75 ?_
      refine sw_bind (fun S76 e76 => ?_)
      refine cv_X7_142 (As := [.int v1, .int (7 : Int32), .int (a71 ||| a34)]) C0 (c_X7_place C0.2.2.2.2.2.2.2.1 v1 (7 : Int32) (a71 ||| a34) S60 _ e76) is7 ⟨rfl, rfl⟩ ⟨Nat.le_of_ble_eq_true rfl, Nat.le_of_ble_eq_true rfl⟩ rfl hl.1 (Nat.le_of_ble_eq_true rfl) rfl dX7_goes_76 (fun _ => ?_)
      exact bX7_goes_79_t C0 _ _ _ _ _ (lv_sub hl [1, 2, 3, 0] rfl)
abbrev rm_X7_godTells : Room := { frames := 1, cells := 0, slots := 0, locals := 22 }
def mX7_godTells (S : vS) (v1 : Int32) (v2 : Int32) : Option Int32 := (if (6 : Int32) ≤ v2 then ((mX7_v S (0 : Int32) ((3 : Int32) + v1)).bind fun a25 => (some a25)) else ((gI (S.1 7) 24 (((6 : Int32) * v1) + v2)).bind fun a16 => (some a16)))
set_option maxHeartbeats 4000000 in
set_option maxRecDepth 100000 in
theorem c_X7_godTells {l : Launch} {D : va_G} {cA : Nat → ClassId} {ad : Nat → Nat} (G : Gx shM ad ExM) (v1 : Int32) (v2 : Int32) (S : vS) (r : Int32) (hr : (mX7_godTells S v1 v2) = some r) : Met l yX7_godTells (Cond.code yX7_godTells cX7_godTells 3 (some .int) :: ALL) rm_X7_godTells (Po D vwCl tlM shM cA ad ExM [.ref (ad 0), .int v1, .int v2] S) (Qo D vwCl shM cA ad (some (.int r)) S True) 0 0 (aw shM ad) := by
  refine Met.sx (M := (mX7_godTells S v1 v2)) (rv := (fun r => some (.int r) : Int32 → Option Value)) (rs := fun _ => S) (B := fun _ => True) (by decide) ⟨rfl, rfl⟩ (Nat.le_of_ble_eq_true rfl) G (fun p e s m args below meth c C0 ls hl => ?_) hr
  have hl : lv_has ls 3 [(0, .ref (ad 0)), (1, .int v1), (2, .int v2)] := hl
  rw [mX7_godTells]
  refine sx_iload_n C0 dX7_godTells_0 rfl (lv_at hl 2 rfl) ?_
  refine sx_bipush (v := 6) C0 dX7_godTells_1 (by decide) ?_
  refine sx_icmp_ge (tgt := 20) C0 dX7_godTells_3 (by decide) (fun _ => ?_) (fun _ => ?_)
  · refine sx_aload_n C0 dX7_godTells_20 rfl (lv_at hl 0 rfl) ?_
    refine sx_iconst (v := 0) C0 dX7_godTells_21 (by decide) ?_
    refine sx_iconst (v := 3) C0 dX7_godTells_22 (by decide) ?_
    refine sx_iload_n C0 dX7_godTells_23 rfl (lv_at hl 1 rfl) ?_
    refine sx_iadd C0 dX7_godTells_24 ?_
    refine sw_bind (fun a25 e25 => ?_)
    refine cv_X7_149 (As := [.int (0 : Int32), .int ((3 : Int32) + v1)]) C0 (c_X7_v C0.2.2.2.2.2.2.2.1 (0 : Int32) ((3 : Int32) + v1) S _ e25) is7 ⟨rfl, rfl⟩ ⟨Nat.le_of_ble_eq_true rfl, Nat.le_of_ble_eq_true rfl⟩ rfl hl.1 (Nat.le_of_ble_eq_true rfl) rfl dX7_godTells_25 (fun _ => ?_)
    exact sx_iret C0 rfl rfl trivial dX7_godTells_28
  · refine sx_aload_n C0 dX7_godTells_6 rfl (lv_at hl 0 rfl) ?_
    refine gf_X7_29 C0 is7 dX7_godTells_7 ?_
    refine sx_bipush (v := 6) C0 dX7_godTells_10 (by decide) ?_
    refine sx_iload_n C0 dX7_godTells_12 rfl (lv_at hl 1 rfl) ?_
    refine sx_imul C0 dX7_godTells_13 ?_
    refine sx_iload_n C0 dX7_godTells_14 rfl (lv_at hl 2 rfl) ?_
    refine sx_iadd C0 dX7_godTells_15 ?_
    refine sx_iald C0 is7_gods rfl dX7_godTells_16 (fun a16 => ?_)
    refine sx_goto (tgt := 28) C0 dX7_godTells_17 (by decide) ?_
    exact sx_iret C0 rfl rfl trivial dX7_godTells_28
abbrev rm_X7_god : Room := { frames := 2, cells := 0, slots := 0, locals := 44 }
def bX7_god_32    (S : vS)   : Option (Int32 × vS) := (some ((-1 : Int32), S))
set_option maxHeartbeats 4000000 in
set_option maxRecDepth 100000 in
theorem bX7_god_32_t {p : Program} {l : Launch} {e : Env} {s : State} {m : MethodId} {args : Array Value} {below : List Frame} {meth : Method} {c : Code} {D : va_G} {cA : Nat → ClassId} {ad : Nat → Nat}   (C0 : Cx D vwCl tlM shM cA ad ExM RX7 cX7_god 3 (some .int) p s m args meth c)  (S : vS)  (ls : Array Slot) (hl : lv_has ls 3 []) : SW p l e rm_X7_god s m args below meth c D vwCl shM cA ad (Fq D vwCl shM cA ad below args s (fun q => some (.int q.1) : (Int32 × vS) → Option Value) (fun q => q.2) (fun _ => True)) (bX7_god_32 S) S 32 ls [] := by
  rw [bX7_god_32]
  refine sx_iconst (v := (-1)) C0 dX7_god_32 (by decide) ?_
  exact sx_iret C0 rfl rfl trivial dX7_god_33
def mX7_god (S : vS) (v1 : Int32) (v2 : Int32) : Option (Int32 × vS) := (if (mX7_isGod S v1) = 0 then (bX7_god_32 S) else (if (mX7_in v2 (0 : Int32) (6 : Int32)) = 0 then (bX7_god_32 S) else ((mX7_godTells S v1 v2).bind fun a22 => (lt (mX7_tells S a22 (1 : Int32)) fun q26 => (some (q26.1, q26.2))))))
set_option maxHeartbeats 4000000 in
set_option maxRecDepth 100000 in
theorem c_X7_god {l : Launch} {D : va_G} {cA : Nat → ClassId} {ad : Nat → Nat} (G : Gx shM ad ExM) (v1 : Int32) (v2 : Int32) (S : vS) (r : (Int32 × vS)) (hr : (mX7_god S v1 v2) = some r) : Met l yX7_god (Cond.code yX7_god cX7_god 3 (some .int) :: ALL) rm_X7_god (Po D vwCl tlM shM cA ad ExM [.ref (ad 0), .int v1, .int v2] S) (Qo D vwCl shM cA ad (some (.int r.1)) r.2 True) 0 0 (aw shM ad) := by
  refine Met.sx (M := (mX7_god S v1 v2)) (rv := (fun q => some (.int q.1) : (Int32 × vS) → Option Value)) (rs := fun q => q.2) (B := fun _ => True) (by decide) ⟨rfl, rfl⟩ (Nat.le_of_ble_eq_true rfl) G (fun p e s m args below meth c C0 ls hl => ?_) hr
  have hl : lv_has ls 3 [(0, .ref (ad 0)), (1, .int v1), (2, .int v2)] := hl
  rw [mX7_god]
  refine sx_aload_n C0 dX7_god_0 rfl (lv_at hl 0 rfl) ?_
  refine sx_iload_n C0 dX7_god_1 rfl (lv_at hl 1 rfl) ?_
  refine cv_X7_208 (As := [.int v1]) C0 (c_X7_isGod C0.2.2.2.2.2.2.2.1 v1 S) is7 ⟨rfl, rfl⟩ ⟨Nat.le_of_ble_eq_true rfl, Nat.le_of_ble_eq_true rfl⟩ rfl hl.1 (Nat.le_of_ble_eq_true rfl) rfl dX7_god_2 (fun hb2 => ?_)
  refine sx_if_eq (tgt := 32) C0 dX7_god_5 (by decide) (fun _ => ?_) (fun _ => ?_)
  · exact bX7_god_32_t C0 _ _ (lv_sub hl [] rfl)
  · refine sx_iload_n C0 dX7_god_8 rfl (lv_at hl 2 rfl) ?_
    refine sx_iconst (v := 0) C0 dX7_god_9 (by decide) ?_
    refine sx_bipush (v := 6) C0 dX7_god_10 (by decide) ?_
    refine cv_X7_80 (As := [.int v2, .int (0 : Int32), .int (6 : Int32)]) C0 (c_X7_in C0.2.2.2.2.2.2.2.1 v2 (0 : Int32) (6 : Int32) S) ⟨rfl, rfl⟩ ⟨Nat.le_of_ble_eq_true rfl, Nat.le_of_ble_eq_true rfl⟩ rfl hl.1 (Nat.le_of_ble_eq_true rfl) rfl dX7_god_12 (fun hb12 => ?_)
    refine sx_if_eq (tgt := 32) C0 dX7_god_15 (by decide) (fun _ => ?_) (fun _ => ?_)
    · exact bX7_god_32_t C0 _ _ (lv_sub hl [] rfl)
    · refine sx_aload_n C0 dX7_god_18 rfl (lv_at hl 0 rfl) ?_
      refine sx_aload_n C0 dX7_god_19 rfl (lv_at hl 0 rfl) ?_
      refine sx_iload_n C0 dX7_god_20 rfl (lv_at hl 1 rfl) ?_
      refine sx_iload_n C0 dX7_god_21 rfl (lv_at hl 2 rfl) ?_
      refine sw_bind (fun a22 e22 => ?_)
      refine cv_X7_211 (As := [.int v1, .int v2]) C0 (c_X7_godTells C0.2.2.2.2.2.2.2.1 v1 v2 S _ e22) is7 ⟨rfl, rfl⟩ ⟨Nat.le_of_ble_eq_true rfl, Nat.le_of_ble_eq_true rfl⟩ rfl hl.1 (Nat.le_of_ble_eq_true rfl) rfl dX7_god_22 (fun _ => ?_)
      refine sx_iconst (v := 1) C0 dX7_god_25 (by decide) ?_
      refine cv_X7_102 (As := [.int a22, .int (1 : Int32)]) C0 (c_X7_tells C0.2.2.2.2.2.2.2.1 a22 (1 : Int32) S) is7 ⟨rfl, rfl⟩ ⟨Nat.le_of_ble_eq_true rfl, Nat.le_of_ble_eq_true rfl⟩ rfl hl.1 (Nat.le_of_ble_eq_true rfl) rfl dX7_god_26 (fun _ => ?_)
      refine sw_ltQ (val := .int) (fun q26 => ?_)
      refine sx_goto (tgt := 33) C0 dX7_god_29 (by decide) ?_
      exact sx_iret C0 rfl rfl trivial dX7_god_33
abbrev rm_X7_mark : Room := { frames := 2, cells := 0, slots := 0, locals := 44 }
def bX7_mark_56    (S : vS) (v1 : Int32) (v2 : Int32)  : Option (Int32 × vS) := (if v2 = (1 : Int32) then ((mX7_abides S v1).bind fun a90 => (some (a90, S))) else (if v2 = (2 : Int32) then ((mX7_v S (0 : Int32) ((8 : Int32) + v1)).bind fun a100 => (if a100 = (-9 : Int32) then (some ((-9 : Int32), S)) else ((mX7_v S (0 : Int32) (14 : Int32)).bind fun a117 => ((mX7_v S (0 : Int32) ((8 : Int32) + v1)).bind fun a128 => (some (((a117 - (1 : Int32)) - a128), S)))))) else (if v2 = (3 : Int32) then ((mX7_v S (0 : Int32) (14 : Int32)).bind fun a137 => (some ((a137 - a137 / (2 : Int32) * (2 : Int32)), S))) else (if v2 = (4 : Int32) then ((mX7_isGone S (0 : Int32) v1).bind fun a146 => (if a146 = 0 then ((mX7_patienceOf S v1).bind fun a160 => ((mX7_v S (0 : Int32) ((3 : Int32) + v1)).bind fun a170 => (some ((mX7_greater (0 : Int32) ((a160 + (2 : Int32)) - a170)), S)))) else (some ((-9 : Int32), S)))) else ((mX7_v S (0 : Int32) (7 : Int32)).bind fun a182 => (if (mX7_has a182 v1) = 0 then (some ((0 : Int32), S)) else (some ((1 : Int32), S))))))))
set_option maxHeartbeats 4000000 in
set_option maxRecDepth 100000 in
theorem bX7_mark_56_t {p : Program} {l : Launch} {e : Env} {s : State} {m : MethodId} {args : Array Value} {below : List Frame} {meth : Method} {c : Code} {D : va_G} {cA : Nat → ClassId} {ad : Nat → Nat}   (C0 : Cx D vwCl tlM shM cA ad ExM RX7 cX7_mark 4 (some .int) p s m args meth c)  (S : vS) (v1 : Int32) (v2 : Int32) (ls : Array Slot) (hl : lv_has ls 4 [(0, .ref (ad 0)), (1, .int v1), (2, .int v2)]) : SW p l e rm_X7_mark s m args below meth c D vwCl shM cA ad (Fq D vwCl shM cA ad below args s (fun q => some (.int q.1) : (Int32 × vS) → Option Value) (fun q => q.2) (fun _ => True)) (bX7_mark_56 S v1 v2) S 56 ls [] := by
  rw [bX7_mark_56]
  refine sx_iload_n C0 dX7_mark_56 rfl (lv_at hl 2 rfl) ?_
  refine sx_case (fun hc => ?_) (fun hn1 => ?_)
  · refine sx_tableIn (off := 31) (tgt := 88) C0 dX7_mark_57 (by rw [hc]; decide) (by rw [hc]; decide) (by rw [hc]; decide) (by decide) ?_
    refine sx_aload_n C0 dX7_mark_88 rfl (lv_at hl 0 rfl) ?_
    refine sx_iload_n C0 dX7_mark_89 rfl (lv_at hl 1 rfl) ?_
    refine sw_bind (fun a90 e90 => ?_)
    refine cv_X7_162 (As := [.int v1]) C0 (c_X7_abides C0.2.2.2.2.2.2.2.1 v1 S _ e90) is7 ⟨rfl, rfl⟩ ⟨Nat.le_of_ble_eq_true rfl, Nat.le_of_ble_eq_true rfl⟩ rfl hl.1 (Nat.le_of_ble_eq_true rfl) rfl dX7_mark_90 (fun _ => ?_)
    exact sx_iret C0 rfl rfl trivial dX7_mark_93
  refine sx_case (fun hc => ?_) (fun hn2 => ?_)
  · refine sx_tableIn (off := 37) (tgt := 94) C0 dX7_mark_57 (by rw [hc]; decide) (by rw [hc]; decide) (by rw [hc]; decide) (by decide) ?_
    refine sx_aload_n C0 dX7_mark_94 rfl (lv_at hl 0 rfl) ?_
    refine sx_iconst (v := 0) C0 dX7_mark_95 (by decide) ?_
    refine sx_bipush (v := 8) C0 dX7_mark_96 (by decide) ?_
    refine sx_iload_n C0 dX7_mark_98 rfl (lv_at hl 1 rfl) ?_
    refine sx_iadd C0 dX7_mark_99 ?_
    refine sw_bind (fun a100 e100 => ?_)
    refine cv_X7_149 (As := [.int (0 : Int32), .int ((8 : Int32) + v1)]) C0 (c_X7_v C0.2.2.2.2.2.2.2.1 (0 : Int32) ((8 : Int32) + v1) S _ e100) is7 ⟨rfl, rfl⟩ ⟨Nat.le_of_ble_eq_true rfl, Nat.le_of_ble_eq_true rfl⟩ rfl hl.1 (Nat.le_of_ble_eq_true rfl) rfl dX7_mark_100 (fun _ => ?_)
    refine sx_bipush (v := (-9)) C0 dX7_mark_103 (by decide) ?_
    refine sx_icmp_ne (tgt := 113) C0 dX7_mark_105 (by decide) (fun _ => ?_) (fun _ => ?_)
    · refine sx_bipush (v := (-9)) C0 dX7_mark_108 (by decide) ?_
      refine sx_goto (tgt := 132) C0 dX7_mark_110 (by decide) ?_
      exact sx_iret C0 rfl rfl trivial dX7_mark_132
    · refine sx_aload_n C0 dX7_mark_113 rfl (lv_at hl 0 rfl) ?_
      refine sx_iconst (v := 0) C0 dX7_mark_114 (by decide) ?_
      refine sx_bipush (v := 14) C0 dX7_mark_115 (by decide) ?_
      refine sw_bind (fun a117 e117 => ?_)
      refine cv_X7_149 (As := [.int (0 : Int32), .int (14 : Int32)]) C0 (c_X7_v C0.2.2.2.2.2.2.2.1 (0 : Int32) (14 : Int32) S _ e117) is7 ⟨rfl, rfl⟩ ⟨Nat.le_of_ble_eq_true rfl, Nat.le_of_ble_eq_true rfl⟩ rfl hl.1 (Nat.le_of_ble_eq_true rfl) rfl dX7_mark_117 (fun _ => ?_)
      refine sx_iconst (v := 1) C0 dX7_mark_120 (by decide) ?_
      refine sx_isub C0 dX7_mark_121 ?_
      refine sx_aload_n C0 dX7_mark_122 rfl (lv_at hl 0 rfl) ?_
      refine sx_iconst (v := 0) C0 dX7_mark_123 (by decide) ?_
      refine sx_bipush (v := 8) C0 dX7_mark_124 (by decide) ?_
      refine sx_iload_n C0 dX7_mark_126 rfl (lv_at hl 1 rfl) ?_
      refine sx_iadd C0 dX7_mark_127 ?_
      refine sw_bind (fun a128 e128 => ?_)
      refine cv_X7_149 (As := [.int (0 : Int32), .int ((8 : Int32) + v1)]) C0 (c_X7_v C0.2.2.2.2.2.2.2.1 (0 : Int32) ((8 : Int32) + v1) S _ e128) is7 ⟨rfl, rfl⟩ ⟨Nat.le_of_ble_eq_true rfl, Nat.le_of_ble_eq_true rfl⟩ rfl hl.1 (Nat.le_of_ble_eq_true rfl) rfl dX7_mark_128 (fun _ => ?_)
      refine sx_isub C0 dX7_mark_131 ?_
      exact sx_iret C0 rfl rfl trivial dX7_mark_132
  refine sx_case (fun hc => ?_) (fun hn3 => ?_)
  · refine sx_tableIn (off := 76) (tgt := 133) C0 dX7_mark_57 (by rw [hc]; decide) (by rw [hc]; decide) (by rw [hc]; decide) (by decide) ?_
    refine sx_aload_n C0 dX7_mark_133 rfl (lv_at hl 0 rfl) ?_
    refine sx_iconst (v := 0) C0 dX7_mark_134 (by decide) ?_
    refine sx_bipush (v := 14) C0 dX7_mark_135 (by decide) ?_
    refine sw_bind (fun a137 e137 => ?_)
    refine cv_X7_149 (As := [.int (0 : Int32), .int (14 : Int32)]) C0 (c_X7_v C0.2.2.2.2.2.2.2.1 (0 : Int32) (14 : Int32) S _ e137) is7 ⟨rfl, rfl⟩ ⟨Nat.le_of_ble_eq_true rfl, Nat.le_of_ble_eq_true rfl⟩ rfl hl.1 (Nat.le_of_ble_eq_true rfl) rfl dX7_mark_137 (fun _ => ?_)
    refine sx_iconst (v := 2) C0 dX7_mark_140 (by decide) ?_
    refine sx_irem C0 dX7_mark_141 (by decide) ?_
    exact sx_iret C0 rfl rfl trivial dX7_mark_142
  refine sx_case (fun hc => ?_) (fun hn4 => ?_)
  · refine sx_tableIn (off := 86) (tgt := 143) C0 dX7_mark_57 (by rw [hc]; decide) (by rw [hc]; decide) (by rw [hc]; decide) (by decide) ?_
    refine sx_aload_n C0 dX7_mark_143 rfl (lv_at hl 0 rfl) ?_
    refine sx_iconst (v := 0) C0 dX7_mark_144 (by decide) ?_
    refine sx_iload_n C0 dX7_mark_145 rfl (lv_at hl 1 rfl) ?_
    refine sw_bind (fun a146 e146 => ?_)
    refine cv_X7_155 (As := [.int (0 : Int32), .int v1]) C0 (c_X7_isGone C0.2.2.2.2.2.2.2.1 (0 : Int32) v1 S _ e146) is7 ⟨rfl, rfl⟩ ⟨Nat.le_of_ble_eq_true rfl, Nat.le_of_ble_eq_true rfl⟩ rfl hl.1 (Nat.le_of_ble_eq_true rfl) rfl dX7_mark_146 (fun hb146 => ?_)
    refine sx_if_eq (tgt := 157) C0 dX7_mark_149 (by decide) (fun _ => ?_) (fun _ => ?_)
    · refine sx_iconst (v := 0) C0 dX7_mark_157 (by decide) ?_
      refine sx_aload_n C0 dX7_mark_158 rfl (lv_at hl 0 rfl) ?_
      refine sx_iload_n C0 dX7_mark_159 rfl (lv_at hl 1 rfl) ?_
      refine sw_bind (fun a160 e160 => ?_)
      refine cv_X7_192 (As := [.int v1]) C0 (c_X7_patienceOf C0.2.2.2.2.2.2.2.1 v1 S _ e160) is7 ⟨rfl, rfl⟩ ⟨Nat.le_of_ble_eq_true rfl, Nat.le_of_ble_eq_true rfl⟩ rfl hl.1 (Nat.le_of_ble_eq_true rfl) rfl dX7_mark_160 (fun _ => ?_)
      refine sx_iconst (v := 2) C0 dX7_mark_163 (by decide) ?_
      refine sx_iadd C0 dX7_mark_164 ?_
      refine sx_aload_n C0 dX7_mark_165 rfl (lv_at hl 0 rfl) ?_
      refine sx_iconst (v := 0) C0 dX7_mark_166 (by decide) ?_
      refine sx_iconst (v := 3) C0 dX7_mark_167 (by decide) ?_
      refine sx_iload_n C0 dX7_mark_168 rfl (lv_at hl 1 rfl) ?_
      refine sx_iadd C0 dX7_mark_169 ?_
      refine sw_bind (fun a170 e170 => ?_)
      refine cv_X7_149 (As := [.int (0 : Int32), .int ((3 : Int32) + v1)]) C0 (c_X7_v C0.2.2.2.2.2.2.2.1 (0 : Int32) ((3 : Int32) + v1) S _ e170) is7 ⟨rfl, rfl⟩ ⟨Nat.le_of_ble_eq_true rfl, Nat.le_of_ble_eq_true rfl⟩ rfl hl.1 (Nat.le_of_ble_eq_true rfl) rfl dX7_mark_170 (fun _ => ?_)
      refine sx_isub C0 dX7_mark_173 ?_
      refine cv_X7_177 (As := [.int (0 : Int32), .int ((a160 + (2 : Int32)) - a170)]) C0 (c_X7_greater C0.2.2.2.2.2.2.2.1 (0 : Int32) ((a160 + (2 : Int32)) - a170) S) ⟨rfl, rfl⟩ ⟨Nat.le_of_ble_eq_true rfl, Nat.le_of_ble_eq_true rfl⟩ rfl hl.1 (Nat.le_of_ble_eq_true rfl) rfl dX7_mark_174 (fun _ => ?_)
      exact sx_iret C0 rfl rfl trivial dX7_mark_177
    · refine sx_bipush (v := (-9)) C0 dX7_mark_152 (by decide) ?_
      refine sx_goto (tgt := 177) C0 dX7_mark_154 (by decide) ?_
      exact sx_iret C0 rfl rfl trivial dX7_mark_177
  refine sw_have (pc2 := 178) (st2 := []) ?_ (fun hdf => ?_)
  · refine sx_aload_n C0 dX7_mark_178 rfl (lv_at hl 0 rfl) ?_
    refine sx_iconst (v := 0) C0 dX7_mark_179 (by decide) ?_
    refine sx_bipush (v := 7) C0 dX7_mark_180 (by decide) ?_
    refine sw_bind (fun a182 e182 => ?_)
    refine cv_X7_149 (As := [.int (0 : Int32), .int (7 : Int32)]) C0 (c_X7_v C0.2.2.2.2.2.2.2.1 (0 : Int32) (7 : Int32) S _ e182) is7 ⟨rfl, rfl⟩ ⟨Nat.le_of_ble_eq_true rfl, Nat.le_of_ble_eq_true rfl⟩ rfl hl.1 (Nat.le_of_ble_eq_true rfl) rfl dX7_mark_182 (fun _ => ?_)
    refine sx_iload_n C0 dX7_mark_185 rfl (lv_at hl 1 rfl) ?_
    refine cv_X7_174 (As := [.int a182, .int v1]) C0 (c_X7_has C0.2.2.2.2.2.2.2.1 a182 v1 S) ⟨rfl, rfl⟩ ⟨Nat.le_of_ble_eq_true rfl, Nat.le_of_ble_eq_true rfl⟩ rfl hl.1 (Nat.le_of_ble_eq_true rfl) rfl dX7_mark_186 (fun hb186 => ?_)
    refine sx_if_eq (tgt := 196) C0 dX7_mark_189 (by decide) (fun _ => ?_) (fun _ => ?_)
    · refine sx_iconst (v := 0) C0 dX7_mark_196 (by decide) ?_
      exact sx_iret C0 rfl rfl trivial dX7_mark_197
    · refine sx_iconst (v := 1) C0 dX7_mark_192 (by decide) ?_
      refine sx_goto (tgt := 197) C0 dX7_mark_193 (by decide) ?_
      exact sx_iret C0 rfl rfl trivial dX7_mark_197
  by_cases hlo : (v2).toInt < 1
  · exact sx_tableOut (tgt := 178) C0 dX7_mark_57 (Or.inl hlo) (by decide) hdf
  by_cases hhi : 4 < (v2).toInt
  · exact sx_tableOut (tgt := 178) C0 dX7_mark_57 (Or.inr hhi) (by decide) hdf
  have ht1 : (v2).toInt ≠ 1 := fun h => hn1 (Int32.toInt_inj.mp (h.trans (by decide)))
  have ht2 : (v2).toInt ≠ 2 := fun h => hn2 (Int32.toInt_inj.mp (h.trans (by decide)))
  have ht3 : (v2).toInt ≠ 3 := fun h => hn3 (Int32.toInt_inj.mp (h.trans (by decide)))
  have ht4 : (v2).toInt ≠ 4 := fun h => hn4 (Int32.toInt_inj.mp (h.trans (by decide)))
  exfalso
  omega
def bX7_mark_50    (S : vS)   : Option (Int32 × vS) := ((mX7_meets S (3 : Int32)).bind fun q52 => (some (q52.1, q52.2)))
set_option maxHeartbeats 4000000 in
set_option maxRecDepth 100000 in
theorem bX7_mark_50_t {p : Program} {l : Launch} {e : Env} {s : State} {m : MethodId} {args : Array Value} {below : List Frame} {meth : Method} {c : Code} {D : va_G} {cA : Nat → ClassId} {ad : Nat → Nat}   (C0 : Cx D vwCl tlM shM cA ad ExM RX7 cX7_mark 4 (some .int) p s m args meth c)  (S : vS)  (ls : Array Slot) (hl : lv_has ls 4 [(0, .ref (ad 0))]) : SW p l e rm_X7_mark s m args below meth c D vwCl shM cA ad (Fq D vwCl shM cA ad below args s (fun q => some (.int q.1) : (Int32 × vS) → Option Value) (fun q => q.2) (fun _ => True)) (bX7_mark_50 S) S 50 ls [] := by
  rw [bX7_mark_50]
  refine sx_aload_n C0 dX7_mark_50 rfl (lv_at hl 0 rfl) ?_
  refine sx_iconst (v := 3) C0 dX7_mark_51 (by decide) ?_
  refine sw_bind (fun q52 e52 => ?_)
  refine cv_X7_94 (As := [.int (3 : Int32)]) C0 (c_X7_meets C0.2.2.2.2.2.2.2.1 (3 : Int32) S _ e52) is7 ⟨rfl, rfl⟩ ⟨Nat.le_of_ble_eq_true rfl, Nat.le_of_ble_eq_true rfl⟩ rfl hl.1 (Nat.le_of_ble_eq_true rfl) rfl dX7_mark_52 (fun _ => ?_)
  exact sx_iret C0 rfl rfl trivial dX7_mark_55
def bX7_mark_40    (S : vS) (v1 : Int32) (v2 : Int32) (v3 : Int32)  : Option (Int32 × vS) := (if v2 = (3 : Int32) then (if v3 = (5 : Int32) then (bX7_mark_56 S v1 v2) else (bX7_mark_50 S)) else (bX7_mark_50 S))
set_option maxHeartbeats 4000000 in
set_option maxRecDepth 100000 in
theorem bX7_mark_40_t {p : Program} {l : Launch} {e : Env} {s : State} {m : MethodId} {args : Array Value} {below : List Frame} {meth : Method} {c : Code} {D : va_G} {cA : Nat → ClassId} {ad : Nat → Nat}   (C0 : Cx D vwCl tlM shM cA ad ExM RX7 cX7_mark 4 (some .int) p s m args meth c)  (S : vS) (v1 : Int32) (v2 : Int32) (v3 : Int32) (ls : Array Slot) (hl : lv_has ls 4 [(0, .ref (ad 0)), (1, .int v1), (2, .int v2), (3, .int v3)]) : SW p l e rm_X7_mark s m args below meth c D vwCl shM cA ad (Fq D vwCl shM cA ad below args s (fun q => some (.int q.1) : (Int32 × vS) → Option Value) (fun q => q.2) (fun _ => True)) (bX7_mark_40 S v1 v2 v3) S 40 ls [] := by
  rw [bX7_mark_40]
  refine sx_iload_n C0 dX7_mark_40 rfl (lv_at hl 2 rfl) ?_
  refine sx_iconst (v := 3) C0 dX7_mark_41 (by decide) ?_
  refine sx_icmp_ne (tgt := 50) C0 dX7_mark_42 (by decide) (fun _ => ?_) (fun _ => ?_)
  · refine sx_iload_n C0 dX7_mark_45 rfl (lv_at hl 3 rfl) ?_
    refine sx_iconst (v := 5) C0 dX7_mark_46 (by decide) ?_
    refine sx_icmp_eq (tgt := 56) C0 dX7_mark_47 (by decide) (fun _ => ?_) (fun _ => ?_)
    · exact bX7_mark_56_t C0 _ _ _ _ (lv_sub hl [0, 1, 2] rfl)
    · exact bX7_mark_50_t C0 _ _ (lv_sub hl [0] rfl)
  · exact bX7_mark_50_t C0 _ _ (lv_sub hl [0] rfl)
def mX7_mark (S : vS) (v1 : Int32) (v2 : Int32) : Option (Int32 × vS) := (if (mX7_isGod S v1) = 0 then (some ((-1 : Int32), S)) else (if (mX7_in v2 (1 : Int32) (5 : Int32)) = 0 then (some ((-1 : Int32), S)) else ((mX7_kind S v1).bind fun a21 => (if a21 = v2 then (bX7_mark_56 S v1 v2) else (if v2 = (2 : Int32) then (if a21 = (4 : Int32) then (bX7_mark_56 S v1 v2) else (bX7_mark_40 S v1 v2 a21)) else (bX7_mark_40 S v1 v2 a21))))))
set_option maxHeartbeats 4000000 in
set_option maxRecDepth 100000 in
theorem c_X7_mark {l : Launch} {D : va_G} {cA : Nat → ClassId} {ad : Nat → Nat} (G : Gx shM ad ExM) (v1 : Int32) (v2 : Int32) (S : vS) (r : (Int32 × vS)) (hr : (mX7_mark S v1 v2) = some r) : Met l yX7_mark (Cond.code yX7_mark cX7_mark 4 (some .int) :: ALL) rm_X7_mark (Po D vwCl tlM shM cA ad ExM [.ref (ad 0), .int v1, .int v2] S) (Qo D vwCl shM cA ad (some (.int r.1)) r.2 True) 0 0 (aw shM ad) := by
  refine Met.sx (M := (mX7_mark S v1 v2)) (rv := (fun q => some (.int q.1) : (Int32 × vS) → Option Value)) (rs := fun q => q.2) (B := fun _ => True) (by decide) ⟨rfl, rfl⟩ (Nat.le_of_ble_eq_true rfl) G (fun p e s m args below meth c C0 ls hl => ?_) hr
  have hl : lv_has ls 4 [(0, .ref (ad 0)), (1, .int v1), (2, .int v2)] := hl
  rw [mX7_mark]
  refine sx_aload_n C0 dX7_mark_0 rfl (lv_at hl 0 rfl) ?_
  refine sx_iload_n C0 dX7_mark_1 rfl (lv_at hl 1 rfl) ?_
  refine cv_X7_208 (As := [.int v1]) C0 (c_X7_isGod C0.2.2.2.2.2.2.2.1 v1 S) is7 ⟨rfl, rfl⟩ ⟨Nat.le_of_ble_eq_true rfl, Nat.le_of_ble_eq_true rfl⟩ rfl hl.1 (Nat.le_of_ble_eq_true rfl) rfl dX7_mark_2 (fun hb2 => ?_)
  refine sx_if_eq (tgt := 17) C0 dX7_mark_5 (by decide) (fun _ => ?_) (fun _ => ?_)
  · refine sx_iconst (v := (-1)) C0 dX7_mark_17 (by decide) ?_
    exact sx_iret C0 rfl rfl trivial dX7_mark_18
  · refine sx_iload_n C0 dX7_mark_8 rfl (lv_at hl 2 rfl) ?_
    refine sx_iconst (v := 1) C0 dX7_mark_9 (by decide) ?_
    refine sx_iconst (v := 5) C0 dX7_mark_10 (by decide) ?_
    refine cv_X7_80 (As := [.int v2, .int (1 : Int32), .int (5 : Int32)]) C0 (c_X7_in C0.2.2.2.2.2.2.2.1 v2 (1 : Int32) (5 : Int32) S) ⟨rfl, rfl⟩ ⟨Nat.le_of_ble_eq_true rfl, Nat.le_of_ble_eq_true rfl⟩ rfl hl.1 (Nat.le_of_ble_eq_true rfl) rfl dX7_mark_11 (fun hb11 => ?_)
    refine sx_if_ne (tgt := 19) C0 dX7_mark_14 (by decide) (fun _ => ?_) (fun _ => ?_)
    · refine sx_iconst (v := (-1)) C0 dX7_mark_17 (by decide) ?_
      exact sx_iret C0 rfl rfl trivial dX7_mark_18
    · refine sx_aload_n C0 dX7_mark_19 rfl (lv_at hl 0 rfl) ?_
      refine sx_iload_n C0 dX7_mark_20 rfl (lv_at hl 1 rfl) ?_
      refine sw_bind (fun a21 e21 => ?_)
      refine cv_X7_146 (As := [.int v1]) C0 (c_X7_kind C0.2.2.2.2.2.2.2.1 v1 S _ e21) is7 ⟨rfl, rfl⟩ ⟨Nat.le_of_ble_eq_true rfl, Nat.le_of_ble_eq_true rfl⟩ rfl hl.1 (Nat.le_of_ble_eq_true rfl) rfl dX7_mark_21 (fun _ => ?_)
      refine sx_istore_n (lv' := [(3, .int a21), (0, .ref (ad 0)), (1, .int v1), (2, .int v2)]) C0 dX7_mark_24 rfl hl (by decide) rfl (fun ls hl => ?_)
      refine sx_iload_n C0 dX7_mark_25 rfl (lv_at hl 0 rfl) ?_
      refine sx_iload_n C0 dX7_mark_26 rfl (lv_at hl 3 rfl) ?_
      refine sx_icmp_eq (tgt := 56) C0 dX7_mark_27 (by decide) (fun _ => ?_) (fun _ => ?_)
      · exact bX7_mark_56_t C0 _ _ _ _ (lv_sub hl [1, 2, 3] rfl)
      · refine sx_iload_n C0 dX7_mark_30 rfl (lv_at hl 3 rfl) ?_
        refine sx_iconst (v := 2) C0 dX7_mark_31 (by decide) ?_
        refine sx_icmp_ne (tgt := 40) C0 dX7_mark_32 (by decide) (fun _ => ?_) (fun _ => ?_)
        · refine sx_iload_n C0 dX7_mark_35 rfl (lv_at hl 0 rfl) ?_
          refine sx_iconst (v := 4) C0 dX7_mark_36 (by decide) ?_
          refine sx_icmp_eq (tgt := 56) C0 dX7_mark_37 (by decide) (fun _ => ?_) (fun _ => ?_)
          · exact bX7_mark_56_t C0 _ _ _ _ (lv_sub hl [1, 2, 3] rfl)
          · exact bX7_mark_40_t C0 _ _ _ _ _ (lv_sub hl [1, 2, 3, 0] rfl)
        · exact bX7_mark_40_t C0 _ _ _ _ _ (lv_sub hl [1, 2, 3, 0] rfl)
abbrev rm_X7_store : Room := { frames := 1, cells := 0, slots := 0, locals := 23 }
def mX7_store (S : vS) (v1 : Int32) (v2 : Int32) : Option (Int32 × vS) := (if (mX7_in v1 (0 : Int32) (2 : Int32)) = 0 then (some ((-1 : Int32), S)) else (if (mX7_in v2 (0 : Int32) (99 : Int32)) = 0 then (some ((-1 : Int32), S)) else (if (S.1 0 10) = 0 then (some ((-4 : Int32), S)) else ((mX7_v S (0 : Int32) ((0 : Int32) + v1)).bind fun a36 => ((mX7_place S (0 : Int32) ((0 : Int32) + v1) v2).bind fun S46 => (some (a36, S46)))))))
set_option maxHeartbeats 4000000 in
set_option maxRecDepth 100000 in
theorem c_X7_store {l : Launch} {D : va_G} {cA : Nat → ClassId} {ad : Nat → Nat} (G : Gx shM ad ExM) (v1 : Int32) (v2 : Int32) (S : vS) (r : (Int32 × vS)) (hr : (mX7_store S v1 v2) = some r) : Met l yX7_store (Cond.code yX7_store cX7_store 4 (some .int) :: ALL) rm_X7_store (Po D vwCl tlM shM cA ad ExM [.ref (ad 0), .int v1, .int v2] S) (Qo D vwCl shM cA ad (some (.int r.1)) r.2 True) 0 0 (aw shM ad) := by
  refine Met.sx (M := (mX7_store S v1 v2)) (rv := (fun q => some (.int q.1) : (Int32 × vS) → Option Value)) (rs := fun q => q.2) (B := fun _ => True) (by decide) ⟨rfl, rfl⟩ (Nat.le_of_ble_eq_true rfl) G (fun p e s m args below meth c C0 ls hl => ?_) hr
  have hl : lv_has ls 4 [(0, .ref (ad 0)), (1, .int v1), (2, .int v2)] := hl
  rw [mX7_store]
  refine sx_iload_n C0 dX7_store_0 rfl (lv_at hl 1 rfl) ?_
  refine sx_iconst (v := 0) C0 dX7_store_1 (by decide) ?_
  refine sx_iconst (v := 2) C0 dX7_store_2 (by decide) ?_
  refine cv_X7_80 (As := [.int v1, .int (0 : Int32), .int (2 : Int32)]) C0 (c_X7_in C0.2.2.2.2.2.2.2.1 v1 (0 : Int32) (2 : Int32) S) ⟨rfl, rfl⟩ ⟨Nat.le_of_ble_eq_true rfl, Nat.le_of_ble_eq_true rfl⟩ rfl hl.1 (Nat.le_of_ble_eq_true rfl) rfl dX7_store_3 (fun hb3 => ?_)
  refine sx_if_eq (tgt := 19) C0 dX7_store_6 (by decide) (fun _ => ?_) (fun _ => ?_)
  · refine sx_iconst (v := (-1)) C0 dX7_store_19 (by decide) ?_
    exact sx_iret C0 rfl rfl trivial dX7_store_20
  · refine sx_iload_n C0 dX7_store_9 rfl (lv_at hl 2 rfl) ?_
    refine sx_iconst (v := 0) C0 dX7_store_10 (by decide) ?_
    refine sx_bipush (v := 99) C0 dX7_store_11 (by decide) ?_
    refine cv_X7_80 (As := [.int v2, .int (0 : Int32), .int (99 : Int32)]) C0 (c_X7_in C0.2.2.2.2.2.2.2.1 v2 (0 : Int32) (99 : Int32) S) ⟨rfl, rfl⟩ ⟨Nat.le_of_ble_eq_true rfl, Nat.le_of_ble_eq_true rfl⟩ rfl hl.1 (Nat.le_of_ble_eq_true rfl) rfl dX7_store_13 (fun hb13 => ?_)
    refine sx_if_ne (tgt := 21) C0 dX7_store_16 (by decide) (fun _ => ?_) (fun _ => ?_)
    · refine sx_iconst (v := (-1)) C0 dX7_store_19 (by decide) ?_
      exact sx_iret C0 rfl rfl trivial dX7_store_20
    · refine sx_aload_n C0 dX7_store_21 rfl (lv_at hl 0 rfl) ?_
      refine gf_X7_139 C0 is7 dX7_store_22 ?_
      refine sx_if_ne (tgt := 31) C0 dX7_store_25 (by decide) (fun _ => ?_) (fun _ => ?_)
      · refine sx_bipush (v := (-4)) C0 dX7_store_28 (by decide) ?_
        exact sx_iret C0 rfl rfl trivial dX7_store_30
      · refine sx_aload_n C0 dX7_store_31 rfl (lv_at hl 0 rfl) ?_
        refine sx_iconst (v := 0) C0 dX7_store_32 (by decide) ?_
        refine sx_iconst (v := 0) C0 dX7_store_33 (by decide) ?_
        refine sx_iload_n C0 dX7_store_34 rfl (lv_at hl 1 rfl) ?_
        refine sx_iadd C0 dX7_store_35 ?_
        refine sw_bind (fun a36 e36 => ?_)
        refine cv_X7_149 (As := [.int (0 : Int32), .int ((0 : Int32) + v1)]) C0 (c_X7_v C0.2.2.2.2.2.2.2.1 (0 : Int32) ((0 : Int32) + v1) S _ e36) is7 ⟨rfl, rfl⟩ ⟨Nat.le_of_ble_eq_true rfl, Nat.le_of_ble_eq_true rfl⟩ rfl hl.1 (Nat.le_of_ble_eq_true rfl) rfl dX7_store_36 (fun _ => ?_)
        refine sx_istore_n (lv' := [(3, .int a36), (0, .ref (ad 0)), (1, .int v1), (2, .int v2)]) C0 dX7_store_39 rfl hl (by decide) rfl (fun ls hl => ?_)
        refine sx_aload_n C0 dX7_store_40 rfl (lv_at hl 1 rfl) ?_
        refine sx_iconst (v := 0) C0 dX7_store_41 (by decide) ?_
        refine sx_iconst (v := 0) C0 dX7_store_42 (by decide) ?_
        refine sx_iload_n C0 dX7_store_43 rfl (lv_at hl 2 rfl) ?_
        refine sx_iadd C0 dX7_store_44 ?_
        refine sx_iload_n C0 dX7_store_45 rfl (lv_at hl 3 rfl) ?_
        refine sw_bind (fun S46 e46 => ?_)
        refine cv_X7_142 (As := [.int (0 : Int32), .int ((0 : Int32) + v1), .int v2]) C0 (c_X7_place C0.2.2.2.2.2.2.2.1 (0 : Int32) ((0 : Int32) + v1) v2 S _ e46) is7 ⟨rfl, rfl⟩ ⟨Nat.le_of_ble_eq_true rfl, Nat.le_of_ble_eq_true rfl⟩ rfl hl.1 (Nat.le_of_ble_eq_true rfl) rfl dX7_store_46 (fun _ => ?_)
        refine sx_iload_n C0 dX7_store_49 rfl (lv_at hl 0 rfl) ?_
        exact sx_iret C0 rfl rfl trivial dX7_store_50
abbrev rm_X7_stores : Room := { frames := 1, cells := 0, slots := 0, locals := 22 }
def mX7_stores (S : vS) (v1 : Int32) : Option Int32 := (if (mX7_in v1 (0 : Int32) (2 : Int32)) = 0 then (some (-1 : Int32)) else ((mX7_v S (0 : Int32) ((0 : Int32) + v1)).bind fun a14 => (some a14)))
set_option maxHeartbeats 4000000 in
set_option maxRecDepth 100000 in
theorem c_X7_stores {l : Launch} {D : va_G} {cA : Nat → ClassId} {ad : Nat → Nat} (G : Gx shM ad ExM) (v1 : Int32) (S : vS) (r : Int32) (hr : (mX7_stores S v1) = some r) : Met l yX7_stores (Cond.code yX7_stores cX7_stores 2 (some .int) :: ALL) rm_X7_stores (Po D vwCl tlM shM cA ad ExM [.ref (ad 0), .int v1] S) (Qo D vwCl shM cA ad (some (.int r)) S True) 0 0 (aw shM ad) := by
  refine Met.sx (M := (mX7_stores S v1)) (rv := (fun r => some (.int r) : Int32 → Option Value)) (rs := fun _ => S) (B := fun _ => True) (by decide) ⟨rfl, rfl⟩ (Nat.le_of_ble_eq_true rfl) G (fun p e s m args below meth c C0 ls hl => ?_) hr
  have hl : lv_has ls 2 [(0, .ref (ad 0)), (1, .int v1)] := hl
  rw [mX7_stores]
  refine sx_iload_n C0 dX7_stores_0 rfl (lv_at hl 1 rfl) ?_
  refine sx_iconst (v := 0) C0 dX7_stores_1 (by decide) ?_
  refine sx_iconst (v := 2) C0 dX7_stores_2 (by decide) ?_
  refine cv_X7_80 (As := [.int v1, .int (0 : Int32), .int (2 : Int32)]) C0 (c_X7_in C0.2.2.2.2.2.2.2.1 v1 (0 : Int32) (2 : Int32) S) ⟨rfl, rfl⟩ ⟨Nat.le_of_ble_eq_true rfl, Nat.le_of_ble_eq_true rfl⟩ rfl hl.1 (Nat.le_of_ble_eq_true rfl) rfl dX7_stores_3 (fun hb3 => ?_)
  refine sx_if_eq (tgt := 20) C0 dX7_stores_6 (by decide) (fun _ => ?_) (fun _ => ?_)
  · refine sx_iconst (v := (-1)) C0 dX7_stores_20 (by decide) ?_
    exact sx_iret C0 rfl rfl trivial dX7_stores_21
  · refine sx_aload_n C0 dX7_stores_9 rfl (lv_at hl 0 rfl) ?_
    refine sx_iconst (v := 0) C0 dX7_stores_10 (by decide) ?_
    refine sx_iconst (v := 0) C0 dX7_stores_11 (by decide) ?_
    refine sx_iload_n C0 dX7_stores_12 rfl (lv_at hl 1 rfl) ?_
    refine sx_iadd C0 dX7_stores_13 ?_
    refine sw_bind (fun a14 e14 => ?_)
    refine cv_X7_149 (As := [.int (0 : Int32), .int ((0 : Int32) + v1)]) C0 (c_X7_v C0.2.2.2.2.2.2.2.1 (0 : Int32) ((0 : Int32) + v1) S _ e14) is7 ⟨rfl, rfl⟩ ⟨Nat.le_of_ble_eq_true rfl, Nat.le_of_ble_eq_true rfl⟩ rfl hl.1 (Nat.le_of_ble_eq_true rfl) rfl dX7_stores_14 (fun _ => ?_)
    refine sx_goto (tgt := 21) C0 dX7_stores_17 (by decide) ?_
    exact sx_iret C0 rfl rfl trivial dX7_stores_21
abbrev rm_X7_patience : Room := { frames := 2, cells := 0, slots := 0, locals := 43 }
def mX7_patience (S : vS) (v1 : Int32) (v2 : Int32) : Option (Int32 × vS) := (if (mX7_isGod S v1) = 0 then (some ((-1 : Int32), S)) else (if (mX7_in v2 (1 : Int32) (6 : Int32)) = 0 then (some ((-1 : Int32), S)) else ((mX7_patienceOf S v1).bind fun a22 => ((pI S 7 24 (((6 : Int32) * v1) + (2 : Int32)) v2).bind fun S37 => (some (a22, S37))))))
set_option maxHeartbeats 4000000 in
set_option maxRecDepth 100000 in
theorem c_X7_patience {l : Launch} {D : va_G} {cA : Nat → ClassId} {ad : Nat → Nat} (G : Gx shM ad ExM) (v1 : Int32) (v2 : Int32) (S : vS) (r : (Int32 × vS)) (hr : (mX7_patience S v1 v2) = some r) : Met l yX7_patience (Cond.code yX7_patience cX7_patience 4 (some .int) :: ALL) rm_X7_patience (Po D vwCl tlM shM cA ad ExM [.ref (ad 0), .int v1, .int v2] S) (Qo D vwCl shM cA ad (some (.int r.1)) r.2 True) 0 0 (aw shM ad) := by
  refine Met.sx (M := (mX7_patience S v1 v2)) (rv := (fun q => some (.int q.1) : (Int32 × vS) → Option Value)) (rs := fun q => q.2) (B := fun _ => True) (by decide) ⟨rfl, rfl⟩ (Nat.le_of_ble_eq_true rfl) G (fun p e s m args below meth c C0 ls hl => ?_) hr
  have hl : lv_has ls 4 [(0, .ref (ad 0)), (1, .int v1), (2, .int v2)] := hl
  rw [mX7_patience]
  refine sx_aload_n C0 dX7_patience_0 rfl (lv_at hl 0 rfl) ?_
  refine sx_iload_n C0 dX7_patience_1 rfl (lv_at hl 1 rfl) ?_
  refine cv_X7_208 (As := [.int v1]) C0 (c_X7_isGod C0.2.2.2.2.2.2.2.1 v1 S) is7 ⟨rfl, rfl⟩ ⟨Nat.le_of_ble_eq_true rfl, Nat.le_of_ble_eq_true rfl⟩ rfl hl.1 (Nat.le_of_ble_eq_true rfl) rfl dX7_patience_2 (fun hb2 => ?_)
  refine sx_if_eq (tgt := 18) C0 dX7_patience_5 (by decide) (fun _ => ?_) (fun _ => ?_)
  · refine sx_iconst (v := (-1)) C0 dX7_patience_18 (by decide) ?_
    exact sx_iret C0 rfl rfl trivial dX7_patience_19
  · refine sx_iload_n C0 dX7_patience_8 rfl (lv_at hl 2 rfl) ?_
    refine sx_iconst (v := 1) C0 dX7_patience_9 (by decide) ?_
    refine sx_bipush (v := 6) C0 dX7_patience_10 (by decide) ?_
    refine cv_X7_80 (As := [.int v2, .int (1 : Int32), .int (6 : Int32)]) C0 (c_X7_in C0.2.2.2.2.2.2.2.1 v2 (1 : Int32) (6 : Int32) S) ⟨rfl, rfl⟩ ⟨Nat.le_of_ble_eq_true rfl, Nat.le_of_ble_eq_true rfl⟩ rfl hl.1 (Nat.le_of_ble_eq_true rfl) rfl dX7_patience_12 (fun hb12 => ?_)
    refine sx_if_ne (tgt := 20) C0 dX7_patience_15 (by decide) (fun _ => ?_) (fun _ => ?_)
    · refine sx_iconst (v := (-1)) C0 dX7_patience_18 (by decide) ?_
      exact sx_iret C0 rfl rfl trivial dX7_patience_19
    · refine sx_aload_n C0 dX7_patience_20 rfl (lv_at hl 0 rfl) ?_
      refine sx_iload_n C0 dX7_patience_21 rfl (lv_at hl 1 rfl) ?_
      refine sw_bind (fun a22 e22 => ?_)
      refine cv_X7_192 (As := [.int v1]) C0 (c_X7_patienceOf C0.2.2.2.2.2.2.2.1 v1 S _ e22) is7 ⟨rfl, rfl⟩ ⟨Nat.le_of_ble_eq_true rfl, Nat.le_of_ble_eq_true rfl⟩ rfl hl.1 (Nat.le_of_ble_eq_true rfl) rfl dX7_patience_22 (fun _ => ?_)
      refine sx_istore_n (lv' := [(3, .int a22), (0, .ref (ad 0)), (1, .int v1), (2, .int v2)]) C0 dX7_patience_25 rfl hl (by decide) rfl (fun ls hl => ?_)
      refine sx_aload_n C0 dX7_patience_26 rfl (lv_at hl 1 rfl) ?_
      refine gf_X7_29 C0 is7 dX7_patience_27 ?_
      refine sx_bipush (v := 6) C0 dX7_patience_30 (by decide) ?_
      refine sx_iload_n C0 dX7_patience_32 rfl (lv_at hl 2 rfl) ?_
      refine sx_imul C0 dX7_patience_33 ?_
      refine sx_iconst (v := 2) C0 dX7_patience_34 (by decide) ?_
      refine sx_iadd C0 dX7_patience_35 ?_
      refine sx_iload_n C0 dX7_patience_36 rfl (lv_at hl 3 rfl) ?_
      refine sx_iast C0 is7_gods rfl dX7_patience_37 (fun S37 => ?_)
      refine sx_iload_n C0 dX7_patience_38 rfl (lv_at hl 0 rfl) ?_
      exact sx_iret C0 rfl rfl trivial dX7_patience_39
abbrev rm_X7_isFull : Room := { frames := 1, cells := 0, slots := 0, locals := 22 }
def mX7_isFull (S : vS) (v1 : Int32) : Option Int32 := ((mX7_v S (0 : Int32) (14 : Int32)).bind fun a4 => (if (a4 + v1) ≤ (200 : Int32) then (some (0 : Int32)) else (some (1 : Int32))))
set_option maxHeartbeats 4000000 in
set_option maxRecDepth 100000 in
theorem c_X7_isFull {l : Launch} {D : va_G} {cA : Nat → ClassId} {ad : Nat → Nat} (G : Gx shM ad ExM) (v1 : Int32) (S : vS) (r : Int32) (hr : (mX7_isFull S v1) = some r) : Met l yX7_isFull (Cond.code yX7_isFull cX7_isFull 2 (some .boolean) :: ALL) rm_X7_isFull (Po D vwCl tlM shM cA ad ExM [.ref (ad 0), .int v1] S) (Qo D vwCl shM cA ad (some (.int r)) S (isB r)) 0 0 (aw shM ad) := by
  refine Met.sx (M := (mX7_isFull S v1)) (rv := (fun r => some (.int r) : Int32 → Option Value)) (rs := fun _ => S) (B := fun r => isB r) (by decide) ⟨rfl, rfl⟩ (Nat.le_of_ble_eq_true rfl) G (fun p e s m args below meth c C0 ls hl => ?_) hr
  have hl : lv_has ls 2 [(0, .ref (ad 0)), (1, .int v1)] := hl
  rw [mX7_isFull]
  refine sx_aload_n C0 dX7_isFull_0 rfl (lv_at hl 0 rfl) ?_
  refine sx_iconst (v := 0) C0 dX7_isFull_1 (by decide) ?_
  refine sx_bipush (v := 14) C0 dX7_isFull_2 (by decide) ?_
  refine sw_bind (fun a4 e4 => ?_)
  refine cv_X7_149 (As := [.int (0 : Int32), .int (14 : Int32)]) C0 (c_X7_v C0.2.2.2.2.2.2.2.1 (0 : Int32) (14 : Int32) S _ e4) is7 ⟨rfl, rfl⟩ ⟨Nat.le_of_ble_eq_true rfl, Nat.le_of_ble_eq_true rfl⟩ rfl hl.1 (Nat.le_of_ble_eq_true rfl) rfl dX7_isFull_4 (fun _ => ?_)
  refine sx_iload_n C0 dX7_isFull_7 rfl (lv_at hl 1 rfl) ?_
  refine sx_iadd C0 dX7_isFull_8 ?_
  refine sx_sipush (v := 200) C0 dX7_isFull_9 (by decide) ?_
  refine sx_icmp_le (tgt := 19) C0 dX7_isFull_12 (by decide) (fun _ => ?_) (fun _ => ?_)
  · refine sx_iconst (v := 0) C0 dX7_isFull_19 (by decide) ?_
    exact sx_zret C0 rfl rfl (Or.inl rfl) (Or.inl rfl) dX7_isFull_20
  · refine sx_iconst (v := 1) C0 dX7_isFull_15 (by decide) ?_
    refine sx_goto (tgt := 20) C0 dX7_isFull_16 (by decide) ?_
    exact sx_zret C0 rfl rfl (Or.inr rfl) (Or.inr rfl) dX7_isFull_20
abbrev rm_X7_goesBy : Room := { frames := 7, cells := 0, slots := 0, locals := 158 }
def bX7_goesBy_91   (K58 : vS → Int32 → Option vS) (S : vS) (v2 : Int32) (v3 : Int32) (t0 : Int32) (t1 : Int32) : Option vS := ((pI S 12 4000 t1 t0).bind fun S91 => (K58 S91 (v3 + (1 : Int32))))
set_option maxHeartbeats 4000000 in
set_option maxRecDepth 100000 in
theorem bX7_goesBy_91_t {p : Program} {l : Launch} {e : Env} {s : State} {m : MethodId} {args : Array Value} {below : List Frame} {meth : Method} {c : Code} {D : va_G} {cA : Nat → ClassId} {ad : Nat → Nat} {K58 : vS → Int32 → Option vS}  (C0 : Cx D vwCl tlM shM cA ad ExM RX7 cX7_goesBy 4 none p s m args meth c)  (S : vS) (v2 : Int32) (v3 : Int32) (t0 : Int32) (t1 : Int32) (hK58 : ∀ (S : vS) (v3 : Int32) (ls : Array Slot), lv_has ls 4 [(0, .ref (ad 0)), (2, .int v2), (3, .int v3)] → SW p l e rm_X7_goesBy s m args below meth c D vwCl shM cA ad (Fq D vwCl shM cA ad below args s (fun _ => none : vS → Option Value) (fun S1 => S1) (fun _ => True)) (K58 S v3) S 58 ls []) (ls : Array Slot) (hl : lv_has ls 4 [(0, .ref (ad 0)), (2, .int v2), (3, .int v3)]) : SW p l e rm_X7_goesBy s m args below meth c D vwCl shM cA ad (Fq D vwCl shM cA ad below args s (fun _ => none : vS → Option Value) (fun S1 => S1) (fun _ => True)) (bX7_goesBy_91 K58 S v2 v3 t0 t1) S 91 ls [.int t0, .int t1, .ref (ad 12)] := by
  rw [bX7_goesBy_91]
  refine sx_iast C0 is7_days rfl dX7_goesBy_91 (fun S91 => ?_)
  refine sx_iinc (v := (v3 + (1 : Int32))) (lv' := [(3, .int (v3 + (1 : Int32))), (0, .ref (ad 0)), (2, .int v2)]) C0 dX7_goesBy_92 hl (k := 2) rfl rfl (by decide) rfl (fun ls hl => ?_)
  refine sx_goto (tgt := 58) C0 dX7_goesBy_95 (by decide) ?_
  exact hK58 _ _ _ (lv_sub hl [1, 2, 0] rfl)
def lX7_goesBy_58    (v2 : Int32) : Nat → vS → Int32 → Option vS
  | 0, _, _ => none
  | n + 1, S, v3 => (if (4 : Int32) ≤ v3 then (some S) else (if (S.1 0 10) ≤ v3 then (bX7_goesBy_91 (lX7_goesBy_58 v2 n) S v2 v3 (0 : Int32) ((v2 + (16 : Int32)) + v3)) else ((gI (S.1 11) 4 v3).bind fun a86 => (bX7_goesBy_91 (lX7_goesBy_58 v2 n) S v2 v3 a86 ((v2 + (16 : Int32)) + v3)))))
set_option maxHeartbeats 4000000 in
set_option maxRecDepth 100000 in
theorem lX7_goesBy_58_t {p : Program} {l : Launch} {e : Env} {s : State} {m : MethodId} {args : Array Value} {below : List Frame} {meth : Method} {c : Code} {D : va_G} {cA : Nat → ClassId} {ad : Nat → Nat}   (C0 : Cx D vwCl tlM shM cA ad ExM RX7 cX7_goesBy 4 none p s m args meth c)   (v2 : Int32)  : ∀ (n : Nat) (S : vS) (v3 : Int32) (ls : Array Slot), lv_has ls 4 [(0, .ref (ad 0)), (2, .int v2), (3, .int v3)] → SW p l e rm_X7_goesBy s m args below meth c D vwCl shM cA ad (Fq D vwCl shM cA ad below args s (fun _ => none : vS → Option Value) (fun S1 => S1) (fun _ => True)) (lX7_goesBy_58 v2 n S v3) S 58 ls [] := by
  intro n
  induction n with
  | zero =>
    intro S v3 ls hl
    rw [lX7_goesBy_58]
    exact sw_none
  | succ n ih =>
    intro S v3 ls hl
    rw [lX7_goesBy_58]
    refine sx_iload_n C0 dX7_goesBy_58 rfl (lv_at hl 2 rfl) ?_
    refine sx_iconst (v := 4) C0 dX7_goesBy_59 (by decide) ?_
    refine sx_icmp_ge (tgt := 98) C0 dX7_goesBy_60 (by decide) (fun _ => ?_) (fun _ => ?_)
    · exact sx_vret C0 rfl rfl trivial dX7_goesBy_98
    · refine sx_aload_n C0 dX7_goesBy_63 rfl (lv_at hl 0 rfl) ?_
      refine gf_X7_44 C0 is7 dX7_goesBy_64 ?_
      refine sx_iload_n C0 dX7_goesBy_67 rfl (lv_at hl 1 rfl) ?_
      refine sx_bipush (v := 16) C0 dX7_goesBy_68 (by decide) ?_
      refine sx_iadd C0 dX7_goesBy_70 ?_
      refine sx_iload_n C0 dX7_goesBy_71 rfl (lv_at hl 2 rfl) ?_
      refine sx_iadd C0 dX7_goesBy_72 ?_
      refine sx_iload_n C0 dX7_goesBy_73 rfl (lv_at hl 2 rfl) ?_
      refine sx_aload_n C0 dX7_goesBy_74 rfl (lv_at hl 0 rfl) ?_
      refine gf_X7_139 C0 is7 dX7_goesBy_75 ?_
      refine sx_icmp_ge (tgt := 90) C0 dX7_goesBy_78 (by decide) (fun _ => ?_) (fun _ => ?_)
      · refine sx_iconst (v := 0) C0 dX7_goesBy_90 (by decide) ?_
        exact bX7_goesBy_91_t C0 _ _ _ _ _ ih _ (lv_sub hl [0, 1, 2] rfl)
      · refine sx_aload_n C0 dX7_goesBy_81 rfl (lv_at hl 0 rfl) ?_
        refine gf_X7_41 C0 is7 dX7_goesBy_82 ?_
        refine sx_iload_n C0 dX7_goesBy_85 rfl (lv_at hl 2 rfl) ?_
        refine sx_iald C0 is7_sentNow rfl dX7_goesBy_86 (fun a86 => ?_)
        refine sx_goto (tgt := 91) C0 dX7_goesBy_87 (by decide) ?_
        exact bX7_goesBy_91_t C0 _ _ _ _ _ ih _ (lv_sub hl [0, 1, 2] rfl)
def bX7_goesBy_39    (S : vS) (v1 : Int32) (v2 : Int32)  : Option vS := ((mX7_goes S (0 : Int32) v1).bind fun q42 => ((pI q42.2 12 4000 (v2 + (15 : Int32)) v1).bind fun S55 => (lX7_goesBy_58 v2 FU S55 (0 : Int32))))
set_option maxHeartbeats 4000000 in
set_option maxRecDepth 100000 in
theorem bX7_goesBy_39_t {p : Program} {l : Launch} {e : Env} {s : State} {m : MethodId} {args : Array Value} {below : List Frame} {meth : Method} {c : Code} {D : va_G} {cA : Nat → ClassId} {ad : Nat → Nat}   (C0 : Cx D vwCl tlM shM cA ad ExM RX7 cX7_goesBy 4 none p s m args meth c)  (S : vS) (v1 : Int32) (v2 : Int32) (ls : Array Slot) (hl : lv_has ls 4 [(0, .ref (ad 0)), (1, .int v1), (2, .int v2)]) : SW p l e rm_X7_goesBy s m args below meth c D vwCl shM cA ad (Fq D vwCl shM cA ad below args s (fun _ => none : vS → Option Value) (fun S1 => S1) (fun _ => True)) (bX7_goesBy_39 S v1 v2) S 39 ls [] := by
  rw [bX7_goesBy_39]
  refine sx_aload_n C0 dX7_goesBy_39 rfl (lv_at hl 0 rfl) ?_
  refine sx_iconst (v := 0) C0 dX7_goesBy_40 (by decide) ?_
  refine sx_iload_n C0 dX7_goesBy_41 rfl (lv_at hl 1 rfl) ?_
  refine sw_bind (fun q42 e42 => ?_)
  refine cv_X7_214 (As := [.int (0 : Int32), .int v1]) C0 (c_X7_goes C0.2.2.2.2.2.2.2.1 (0 : Int32) v1 S _ e42) is7 ⟨rfl, rfl⟩ ⟨Nat.le_of_ble_eq_true rfl, Nat.le_of_ble_eq_true rfl⟩ rfl hl.1 (Nat.le_of_ble_eq_true rfl) rfl dX7_goesBy_42 (fun hb42 => ?_)
  refine sx_pop C0 dX7_goesBy_45 rfl ?_
  refine sx_aload_n C0 dX7_goesBy_46 rfl (lv_at hl 0 rfl) ?_
  refine gf_X7_44 C0 is7 dX7_goesBy_47 ?_
  refine sx_iload_n C0 dX7_goesBy_50 rfl (lv_at hl 2 rfl) ?_
  refine sx_bipush (v := 15) C0 dX7_goesBy_51 (by decide) ?_
  refine sx_iadd C0 dX7_goesBy_53 ?_
  refine sx_iload_n C0 dX7_goesBy_54 rfl (lv_at hl 1 rfl) ?_
  refine sx_iast C0 is7_days rfl dX7_goesBy_55 (fun S55 => ?_)
  refine sx_iconst (v := 0) C0 dX7_goesBy_56 (by decide) ?_
  refine sx_istore_n (lv' := [(3, .int (0 : Int32)), (0, .ref (ad 0)), (1, .int v1), (2, .int v2)]) C0 dX7_goesBy_57 rfl hl (by decide) rfl (fun ls hl => ?_)
  exact lX7_goesBy_58_t C0 _ _ _ _ _ (lv_sub hl [1, 3, 0] rfl)
def lX7_goesBy_13    (v1 : Int32) (v2 : Int32) : Nat → vS → Int32 → Option vS
  | 0, _, _ => none
  | n + 1, S, v3 => (if (15 : Int32) ≤ v3 then (bX7_goesBy_39 S v1 v2) else ((mX7_v S (0 : Int32) v3).bind fun a29 => ((pI S 12 4000 (v2 + v3) a29).bind fun S32 => ((lX7_goesBy_13 v1 v2 n) S32 (v3 + (1 : Int32))))))
set_option maxHeartbeats 4000000 in
set_option maxRecDepth 100000 in
theorem lX7_goesBy_13_t {p : Program} {l : Launch} {e : Env} {s : State} {m : MethodId} {args : Array Value} {below : List Frame} {meth : Method} {c : Code} {D : va_G} {cA : Nat → ClassId} {ad : Nat → Nat}   (C0 : Cx D vwCl tlM shM cA ad ExM RX7 cX7_goesBy 4 none p s m args meth c)   (v1 : Int32) (v2 : Int32)  : ∀ (n : Nat) (S : vS) (v3 : Int32) (ls : Array Slot), lv_has ls 4 [(0, .ref (ad 0)), (1, .int v1), (2, .int v2), (3, .int v3)] → SW p l e rm_X7_goesBy s m args below meth c D vwCl shM cA ad (Fq D vwCl shM cA ad below args s (fun _ => none : vS → Option Value) (fun S1 => S1) (fun _ => True)) (lX7_goesBy_13 v1 v2 n S v3) S 13 ls [] := by
  intro n
  induction n with
  | zero =>
    intro S v3 ls hl
    rw [lX7_goesBy_13]
    exact sw_none
  | succ n ih =>
    intro S v3 ls hl
    rw [lX7_goesBy_13]
    refine sx_iload_n C0 dX7_goesBy_13 rfl (lv_at hl 3 rfl) ?_
    refine sx_bipush (v := 15) C0 dX7_goesBy_14 (by decide) ?_
    refine sx_icmp_ge (tgt := 39) C0 dX7_goesBy_16 (by decide) (fun _ => ?_) (fun _ => ?_)
    · exact bX7_goesBy_39_t C0 _ _ _ _ (lv_sub hl [0, 1, 2] rfl)
    · refine sx_aload_n C0 dX7_goesBy_19 rfl (lv_at hl 0 rfl) ?_
      refine gf_X7_44 C0 is7 dX7_goesBy_20 ?_
      refine sx_iload_n C0 dX7_goesBy_23 rfl (lv_at hl 2 rfl) ?_
      refine sx_iload_n C0 dX7_goesBy_24 rfl (lv_at hl 3 rfl) ?_
      refine sx_iadd C0 dX7_goesBy_25 ?_
      refine sx_aload_n C0 dX7_goesBy_26 rfl (lv_at hl 0 rfl) ?_
      refine sx_iconst (v := 0) C0 dX7_goesBy_27 (by decide) ?_
      refine sx_iload_n C0 dX7_goesBy_28 rfl (lv_at hl 3 rfl) ?_
      refine sw_bind (fun a29 e29 => ?_)
      refine cv_X7_149 (As := [.int (0 : Int32), .int v3]) C0 (c_X7_v C0.2.2.2.2.2.2.2.1 (0 : Int32) v3 S _ e29) is7 ⟨rfl, rfl⟩ ⟨Nat.le_of_ble_eq_true rfl, Nat.le_of_ble_eq_true rfl⟩ rfl hl.1 (Nat.le_of_ble_eq_true rfl) rfl dX7_goesBy_29 (fun _ => ?_)
      refine sx_iast C0 is7_days rfl dX7_goesBy_32 (fun S32 => ?_)
      refine sx_iinc (v := (v3 + (1 : Int32))) (lv' := [(3, .int (v3 + (1 : Int32))), (0, .ref (ad 0)), (1, .int v1), (2, .int v2)]) C0 dX7_goesBy_33 hl (k := 3) rfl rfl (by decide) rfl (fun ls hl => ?_)
      refine sx_goto (tgt := 13) C0 dX7_goesBy_36 (by decide) ?_
      exact ih _ _ _ (lv_sub hl [1, 2, 3, 0] rfl)
def mX7_goesBy (S : vS) (v1 : Int32) : Option vS := ((mX7_v S (0 : Int32) (14 : Int32)).bind fun a6 => (lt ((20 : Int32) * a6) fun v2_10 => (lX7_goesBy_13 v1 v2_10 FU S (0 : Int32))))
set_option maxHeartbeats 4000000 in
set_option maxRecDepth 100000 in
theorem c_X7_goesBy {l : Launch} {D : va_G} {cA : Nat → ClassId} {ad : Nat → Nat} (G : Gx shM ad ExM) (v1 : Int32) (S : vS) (r : vS) (hr : (mX7_goesBy S v1) = some r) : Met l yX7_goesBy (Cond.code yX7_goesBy cX7_goesBy 4 none :: ALL) rm_X7_goesBy (Po D vwCl tlM shM cA ad ExM [.ref (ad 0), .int v1] S) (Qo D vwCl shM cA ad none r True) 0 0 (aw shM ad) := by
  refine Met.sx (M := (mX7_goesBy S v1)) (rv := (fun _ => none : vS → Option Value)) (rs := fun S1 => S1) (B := fun _ => True) (by decide) ⟨rfl, rfl⟩ (Nat.le_of_ble_eq_true rfl) G (fun p e s m args below meth c C0 ls hl => ?_) hr
  have hl : lv_has ls 4 [(0, .ref (ad 0)), (1, .int v1)] := hl
  rw [mX7_goesBy]
  refine sx_bipush (v := 20) C0 dX7_goesBy_0 (by decide) ?_
  refine sx_aload_n C0 dX7_goesBy_2 rfl (lv_at hl 0 rfl) ?_
  refine sx_iconst (v := 0) C0 dX7_goesBy_3 (by decide) ?_
  refine sx_bipush (v := 14) C0 dX7_goesBy_4 (by decide) ?_
  refine sw_bind (fun a6 e6 => ?_)
  refine cv_X7_149 (As := [.int (0 : Int32), .int (14 : Int32)]) C0 (c_X7_v C0.2.2.2.2.2.2.2.1 (0 : Int32) (14 : Int32) S _ e6) is7 ⟨rfl, rfl⟩ ⟨Nat.le_of_ble_eq_true rfl, Nat.le_of_ble_eq_true rfl⟩ rfl hl.1 (Nat.le_of_ble_eq_true rfl) rfl dX7_goesBy_6 (fun _ => ?_)
  refine sx_imul C0 dX7_goesBy_9 ?_
  refine sw_lt (val := .int) (fun v2_10 => ?_)
  refine sx_istore_n (lv' := [(2, .int v2_10), (0, .ref (ad 0)), (1, .int v1)]) C0 dX7_goesBy_10 rfl hl (by decide) rfl (fun ls hl => ?_)
  refine sx_iconst (v := 0) C0 dX7_goesBy_11 (by decide) ?_
  refine sx_istore_n (lv' := [(3, .int (0 : Int32)), (2, .int v2_10), (0, .ref (ad 0)), (1, .int v1)]) C0 dX7_goesBy_12 rfl hl (by decide) rfl (fun ls hl => ?_)
  exact lX7_goesBy_13_t C0 _ _ _ _ _ _ (lv_sub hl [2, 3, 1, 0] rfl)
abbrev rm_X7_offer : Room := { frames := 8, cells := 0, slots := 0, locals := 181 }
def mX7_offer (S : vS) (v1 : Int32) : Option (Int32 × vS) := (if (mX7_isNumber S v1) = 0 then (some ((-1 : Int32), S)) else (if (S.1 0 10) = 0 then (some ((-4 : Int32), S)) else ((mX7_costOf S (0 : Int32) v1).bind fun a20 => (if a20 = (-9 : Int32) then (some ((-4 : Int32), S)) else ((mX7_isFull S (1 : Int32)).bind fun a33 => (if a33 = 0 then ((mX7_goesBy S v1).bind fun S44 => (lt (mX7_tells S44 (S44.1 0 20) (1 : Int32)) fun q53 => (some (q53.1, q53.2)))) else (some ((-2 : Int32), S))))))))
set_option maxHeartbeats 4000000 in
set_option maxRecDepth 100000 in
theorem c_X7_offer {l : Launch} {D : va_G} {cA : Nat → ClassId} {ad : Nat → Nat} (G : Gx shM ad ExM) (v1 : Int32) (S : vS) (r : (Int32 × vS)) (hr : (mX7_offer S v1) = some r) : Met l yX7_offer (Cond.code yX7_offer cX7_offer 2 (some .int) :: ALL) rm_X7_offer (Po D vwCl tlM shM cA ad ExM [.ref (ad 0), .int v1] S) (Qo D vwCl shM cA ad (some (.int r.1)) r.2 True) 0 0 (aw shM ad) := by
  refine Met.sx (M := (mX7_offer S v1)) (rv := (fun q => some (.int q.1) : (Int32 × vS) → Option Value)) (rs := fun q => q.2) (B := fun _ => True) (by decide) ⟨rfl, rfl⟩ (Nat.le_of_ble_eq_true rfl) G (fun p e s m args below meth c C0 ls hl => ?_) hr
  have hl : lv_has ls 2 [(0, .ref (ad 0)), (1, .int v1)] := hl
  rw [mX7_offer]
  refine sx_aload_n C0 dX7_offer_0 rfl (lv_at hl 0 rfl) ?_
  refine sx_iload_n C0 dX7_offer_1 rfl (lv_at hl 1 rfl) ?_
  refine cv_X7_217 (As := [.int v1]) C0 (c_X7_isNumber C0.2.2.2.2.2.2.2.1 v1 S) is7 ⟨rfl, rfl⟩ ⟨Nat.le_of_ble_eq_true rfl, Nat.le_of_ble_eq_true rfl⟩ rfl hl.1 (Nat.le_of_ble_eq_true rfl) rfl dX7_offer_2 (fun hb2 => ?_)
  refine sx_if_ne (tgt := 10) C0 dX7_offer_5 (by decide) (fun _ => ?_) (fun _ => ?_)
  · refine sx_iconst (v := (-1)) C0 dX7_offer_8 (by decide) ?_
    exact sx_iret C0 rfl rfl trivial dX7_offer_9
  · refine sx_aload_n C0 dX7_offer_10 rfl (lv_at hl 0 rfl) ?_
    refine gf_X7_139 C0 is7 dX7_offer_11 ?_
    refine sx_if_eq (tgt := 28) C0 dX7_offer_14 (by decide) (fun _ => ?_) (fun _ => ?_)
    · refine sx_bipush (v := (-4)) C0 dX7_offer_28 (by decide) ?_
      exact sx_iret C0 rfl rfl trivial dX7_offer_30
    · refine sx_aload_n C0 dX7_offer_17 rfl (lv_at hl 0 rfl) ?_
      refine sx_iconst (v := 0) C0 dX7_offer_18 (by decide) ?_
      refine sx_iload_n C0 dX7_offer_19 rfl (lv_at hl 1 rfl) ?_
      refine sw_bind (fun a20 e20 => ?_)
      refine cv_X7_195 (As := [.int (0 : Int32), .int v1]) C0 (c_X7_costOf C0.2.2.2.2.2.2.2.1 (0 : Int32) v1 S _ e20) is7 ⟨rfl, rfl⟩ ⟨Nat.le_of_ble_eq_true rfl, Nat.le_of_ble_eq_true rfl⟩ rfl hl.1 (Nat.le_of_ble_eq_true rfl) rfl dX7_offer_20 (fun _ => ?_)
      refine sx_bipush (v := (-9)) C0 dX7_offer_23 (by decide) ?_
      refine sx_icmp_ne (tgt := 31) C0 dX7_offer_25 (by decide) (fun _ => ?_) (fun _ => ?_)
      · refine sx_bipush (v := (-4)) C0 dX7_offer_28 (by decide) ?_
        exact sx_iret C0 rfl rfl trivial dX7_offer_30
      · refine sx_aload_n C0 dX7_offer_31 rfl (lv_at hl 0 rfl) ?_
        refine sx_iconst (v := 1) C0 dX7_offer_32 (by decide) ?_
        refine sw_bind (fun a33 e33 => ?_)
        refine cv_X7_220 (As := [.int (1 : Int32)]) C0 (c_X7_isFull C0.2.2.2.2.2.2.2.1 (1 : Int32) S _ e33) is7 ⟨rfl, rfl⟩ ⟨Nat.le_of_ble_eq_true rfl, Nat.le_of_ble_eq_true rfl⟩ rfl hl.1 (Nat.le_of_ble_eq_true rfl) rfl dX7_offer_33 (fun hb33 => ?_)
        refine sx_if_eq (tgt := 42) C0 dX7_offer_36 (by decide) (fun _ => ?_) (fun _ => ?_)
        · refine sx_aload_n C0 dX7_offer_42 rfl (lv_at hl 0 rfl) ?_
          refine sx_iload_n C0 dX7_offer_43 rfl (lv_at hl 1 rfl) ?_
          refine sw_bind (fun S44 e44 => ?_)
          refine cv_X7_223 (As := [.int v1]) C0 (c_X7_goesBy C0.2.2.2.2.2.2.2.1 v1 S _ e44) is7 ⟨rfl, rfl⟩ ⟨Nat.le_of_ble_eq_true rfl, Nat.le_of_ble_eq_true rfl⟩ rfl hl.1 (Nat.le_of_ble_eq_true rfl) rfl dX7_offer_44 (fun _ => ?_)
          refine sx_aload_n C0 dX7_offer_47 rfl (lv_at hl 0 rfl) ?_
          refine sx_aload_n C0 dX7_offer_48 rfl (lv_at hl 0 rfl) ?_
          refine gf_X7_186 C0 is7 dX7_offer_49 ?_
          refine sx_iconst (v := 1) C0 dX7_offer_52 (by decide) ?_
          refine cv_X7_102 (As := [.int (S44.1 0 20), .int (1 : Int32)]) C0 (c_X7_tells C0.2.2.2.2.2.2.2.1 (S44.1 0 20) (1 : Int32) S44) is7 ⟨rfl, rfl⟩ ⟨Nat.le_of_ble_eq_true rfl, Nat.le_of_ble_eq_true rfl⟩ rfl hl.1 (Nat.le_of_ble_eq_true rfl) rfl dX7_offer_53 (fun _ => ?_)
          refine sw_ltQ (val := .int) (fun q53 => ?_)
          exact sx_iret C0 rfl rfl trivial dX7_offer_56
        · refine sx_bipush (v := (-2)) C0 dX7_offer_39 (by decide) ?_
          exact sx_iret C0 rfl rfl trivial dX7_offer_41
abbrev rm_X7_may : Room := { frames := 6, cells := 0, slots := 0, locals := 135 }
def mX7_may (S : vS) (v1 : Int32) : Option Int32 := (if (mX7_isNumber S v1) = 0 then (some (-1 : Int32)) else (if (S.1 0 10) = 0 then (some (-4 : Int32)) else ((mX7_costOf S (0 : Int32) v1).bind fun a25 => (some a25))))
set_option maxHeartbeats 4000000 in
set_option maxRecDepth 100000 in
theorem c_X7_may {l : Launch} {D : va_G} {cA : Nat → ClassId} {ad : Nat → Nat} (G : Gx shM ad ExM) (v1 : Int32) (S : vS) (r : Int32) (hr : (mX7_may S v1) = some r) : Met l yX7_may (Cond.code yX7_may cX7_may 2 (some .int) :: ALL) rm_X7_may (Po D vwCl tlM shM cA ad ExM [.ref (ad 0), .int v1] S) (Qo D vwCl shM cA ad (some (.int r)) S True) 0 0 (aw shM ad) := by
  refine Met.sx (M := (mX7_may S v1)) (rv := (fun r => some (.int r) : Int32 → Option Value)) (rs := fun _ => S) (B := fun _ => True) (by decide) ⟨rfl, rfl⟩ (Nat.le_of_ble_eq_true rfl) G (fun p e s m args below meth c C0 ls hl => ?_) hr
  have hl : lv_has ls 2 [(0, .ref (ad 0)), (1, .int v1)] := hl
  rw [mX7_may]
  refine sx_aload_n C0 dX7_may_0 rfl (lv_at hl 0 rfl) ?_
  refine sx_iload_n C0 dX7_may_1 rfl (lv_at hl 1 rfl) ?_
  refine cv_X7_217 (As := [.int v1]) C0 (c_X7_isNumber C0.2.2.2.2.2.2.2.1 v1 S) is7 ⟨rfl, rfl⟩ ⟨Nat.le_of_ble_eq_true rfl, Nat.le_of_ble_eq_true rfl⟩ rfl hl.1 (Nat.le_of_ble_eq_true rfl) rfl dX7_may_2 (fun hb2 => ?_)
  refine sx_if_ne (tgt := 10) C0 dX7_may_5 (by decide) (fun _ => ?_) (fun _ => ?_)
  · refine sx_iconst (v := (-1)) C0 dX7_may_8 (by decide) ?_
    exact sx_iret C0 rfl rfl trivial dX7_may_9
  · refine sx_aload_n C0 dX7_may_10 rfl (lv_at hl 0 rfl) ?_
    refine gf_X7_139 C0 is7 dX7_may_11 ?_
    refine sx_if_ne (tgt := 22) C0 dX7_may_14 (by decide) (fun _ => ?_) (fun _ => ?_)
    · refine sx_bipush (v := (-4)) C0 dX7_may_17 (by decide) ?_
      refine sx_goto (tgt := 28) C0 dX7_may_19 (by decide) ?_
      exact sx_iret C0 rfl rfl trivial dX7_may_28
    · refine sx_aload_n C0 dX7_may_22 rfl (lv_at hl 0 rfl) ?_
      refine sx_iconst (v := 0) C0 dX7_may_23 (by decide) ?_
      refine sx_iload_n C0 dX7_may_24 rfl (lv_at hl 1 rfl) ?_
      refine sw_bind (fun a25 e25 => ?_)
      refine cv_X7_195 (As := [.int (0 : Int32), .int v1]) C0 (c_X7_costOf C0.2.2.2.2.2.2.2.1 (0 : Int32) v1 S _ e25) is7 ⟨rfl, rfl⟩ ⟨Nat.le_of_ble_eq_true rfl, Nat.le_of_ble_eq_true rfl⟩ rfl hl.1 (Nat.le_of_ble_eq_true rfl) rfl dX7_may_25 (fun _ => ?_)
      exact sx_iret C0 rfl rfl trivial dX7_may_28
abbrev rm_X7_rest : Room := { frames := 8, cells := 0, slots := 0, locals := 181 }
def bX7_rest_61    (S : vS) (v2 : Int32)  : Option (Int32 × vS) := (lt (mX7_tells S v2 (1 : Int32)) fun q64 => (some (q64.1, q64.2)))
set_option maxHeartbeats 4000000 in
set_option maxRecDepth 100000 in
theorem bX7_rest_61_t {p : Program} {l : Launch} {e : Env} {s : State} {m : MethodId} {args : Array Value} {below : List Frame} {meth : Method} {c : Code} {D : va_G} {cA : Nat → ClassId} {ad : Nat → Nat}   (C0 : Cx D vwCl tlM shM cA ad ExM RX7 cX7_rest 4 (some .int) p s m args meth c)  (S : vS) (v2 : Int32) (ls : Array Slot) (hl : lv_has ls 4 [(0, .ref (ad 0)), (2, .int v2)]) : SW p l e rm_X7_rest s m args below meth c D vwCl shM cA ad (Fq D vwCl shM cA ad below args s (fun q => some (.int q.1) : (Int32 × vS) → Option Value) (fun q => q.2) (fun _ => True)) (bX7_rest_61 S v2) S 61 ls [] := by
  rw [bX7_rest_61]
  refine sx_aload_n C0 dX7_rest_61 rfl (lv_at hl 0 rfl) ?_
  refine sx_iload_n C0 dX7_rest_62 rfl (lv_at hl 1 rfl) ?_
  refine sx_iconst (v := 1) C0 dX7_rest_63 (by decide) ?_
  refine cv_X7_102 (As := [.int v2, .int (1 : Int32)]) C0 (c_X7_tells C0.2.2.2.2.2.2.2.1 v2 (1 : Int32) S) is7 ⟨rfl, rfl⟩ ⟨Nat.le_of_ble_eq_true rfl, Nat.le_of_ble_eq_true rfl⟩ rfl hl.1 (Nat.le_of_ble_eq_true rfl) rfl dX7_rest_64 (fun _ => ?_)
  refine sw_ltQ (val := .int) (fun q64 => ?_)
  exact sx_iret C0 rfl rfl trivial dX7_rest_67
def lX7_rest_37    (v1 : Int32) : Nat → vS → Int32 → Int32 → Option (Int32 × vS)
  | 0, _, _, _ => none
  | n + 1, S, v2, v3 => (if v1 ≤ v3 then (bX7_rest_61 S v2) else ((mX7_goesBy S (12 : Int32)).bind fun S45 => (lt (v2 + (S45.1 0 20)) fun v2_54 => ((lX7_rest_37 v1 n) S45 v2_54 (v3 + (1 : Int32))))))
set_option maxHeartbeats 4000000 in
set_option maxRecDepth 100000 in
theorem lX7_rest_37_t {p : Program} {l : Launch} {e : Env} {s : State} {m : MethodId} {args : Array Value} {below : List Frame} {meth : Method} {c : Code} {D : va_G} {cA : Nat → ClassId} {ad : Nat → Nat}   (C0 : Cx D vwCl tlM shM cA ad ExM RX7 cX7_rest 4 (some .int) p s m args meth c)   (v1 : Int32)  : ∀ (n : Nat) (S : vS) (v2 : Int32) (v3 : Int32) (ls : Array Slot), lv_has ls 4 [(0, .ref (ad 0)), (1, .int v1), (2, .int v2), (3, .int v3)] → SW p l e rm_X7_rest s m args below meth c D vwCl shM cA ad (Fq D vwCl shM cA ad below args s (fun q => some (.int q.1) : (Int32 × vS) → Option Value) (fun q => q.2) (fun _ => True)) (lX7_rest_37 v1 n S v2 v3) S 37 ls [] := by
  intro n
  induction n with
  | zero =>
    intro S v2 v3 ls hl
    rw [lX7_rest_37]
    exact sw_none
  | succ n ih =>
    intro S v2 v3 ls hl
    rw [lX7_rest_37]
    refine sx_iload_n C0 dX7_rest_37 rfl (lv_at hl 3 rfl) ?_
    refine sx_iload_n C0 dX7_rest_38 rfl (lv_at hl 1 rfl) ?_
    refine sx_icmp_ge (tgt := 61) C0 dX7_rest_39 (by decide) (fun _ => ?_) (fun _ => ?_)
    · exact bX7_rest_61_t C0 _ _ _ (lv_sub hl [0, 2] rfl)
    · refine sx_aload_n C0 dX7_rest_42 rfl (lv_at hl 0 rfl) ?_
      refine sx_bipush (v := 12) C0 dX7_rest_43 (by decide) ?_
      refine sw_bind (fun S45 e45 => ?_)
      refine cv_X7_223 (As := [.int (12 : Int32)]) C0 (c_X7_goesBy C0.2.2.2.2.2.2.2.1 (12 : Int32) S _ e45) is7 ⟨rfl, rfl⟩ ⟨Nat.le_of_ble_eq_true rfl, Nat.le_of_ble_eq_true rfl⟩ rfl hl.1 (Nat.le_of_ble_eq_true rfl) rfl dX7_rest_45 (fun _ => ?_)
      refine sx_iload_n C0 dX7_rest_48 rfl (lv_at hl 2 rfl) ?_
      refine sx_aload_n C0 dX7_rest_49 rfl (lv_at hl 0 rfl) ?_
      refine gf_X7_186 C0 is7 dX7_rest_50 ?_
      refine sx_iadd C0 dX7_rest_53 ?_
      refine sw_lt (val := .int) (fun v2_54 => ?_)
      refine sx_istore_n (lv' := [(2, .int v2_54), (0, .ref (ad 0)), (1, .int v1), (3, .int v3)]) C0 dX7_rest_54 rfl hl (by decide) rfl (fun ls hl => ?_)
      refine sx_iinc (v := (v3 + (1 : Int32))) (lv' := [(3, .int (v3 + (1 : Int32))), (2, .int v2_54), (0, .ref (ad 0)), (1, .int v1)]) C0 dX7_rest_55 hl (k := 3) rfl rfl (by decide) rfl (fun ls hl => ?_)
      refine sx_goto (tgt := 37) C0 dX7_rest_58 (by decide) ?_
      exact ih _ _ _ _ (lv_sub hl [2, 3, 1, 0] rfl)
def mX7_rest (S : vS) (v1 : Int32) : Option (Int32 × vS) := (if (mX7_in v1 (0 : Int32) (30 : Int32)) = 0 then (some ((-1 : Int32), S)) else (if (S.1 0 10) = 0 then (some ((-4 : Int32), S)) else ((mX7_isFull S v1).bind fun a24 => (if a24 = 0 then (lX7_rest_37 v1 FU S (0 : Int32) (0 : Int32)) else (some ((-2 : Int32), S))))))
set_option maxHeartbeats 4000000 in
set_option maxRecDepth 100000 in
theorem c_X7_rest {l : Launch} {D : va_G} {cA : Nat → ClassId} {ad : Nat → Nat} (G : Gx shM ad ExM) (v1 : Int32) (S : vS) (r : (Int32 × vS)) (hr : (mX7_rest S v1) = some r) : Met l yX7_rest (Cond.code yX7_rest cX7_rest 4 (some .int) :: ALL) rm_X7_rest (Po D vwCl tlM shM cA ad ExM [.ref (ad 0), .int v1] S) (Qo D vwCl shM cA ad (some (.int r.1)) r.2 True) 0 0 (aw shM ad) := by
  refine Met.sx (M := (mX7_rest S v1)) (rv := (fun q => some (.int q.1) : (Int32 × vS) → Option Value)) (rs := fun q => q.2) (B := fun _ => True) (by decide) ⟨rfl, rfl⟩ (Nat.le_of_ble_eq_true rfl) G (fun p e s m args below meth c C0 ls hl => ?_) hr
  have hl : lv_has ls 4 [(0, .ref (ad 0)), (1, .int v1)] := hl
  rw [mX7_rest]
  refine sx_iload_n C0 dX7_rest_0 rfl (lv_at hl 1 rfl) ?_
  refine sx_iconst (v := 0) C0 dX7_rest_1 (by decide) ?_
  refine sx_bipush (v := 30) C0 dX7_rest_2 (by decide) ?_
  refine cv_X7_80 (As := [.int v1, .int (0 : Int32), .int (30 : Int32)]) C0 (c_X7_in C0.2.2.2.2.2.2.2.1 v1 (0 : Int32) (30 : Int32) S) ⟨rfl, rfl⟩ ⟨Nat.le_of_ble_eq_true rfl, Nat.le_of_ble_eq_true rfl⟩ rfl hl.1 (Nat.le_of_ble_eq_true rfl) rfl dX7_rest_4 (fun hb4 => ?_)
  refine sx_if_ne (tgt := 12) C0 dX7_rest_7 (by decide) (fun _ => ?_) (fun _ => ?_)
  · refine sx_iconst (v := (-1)) C0 dX7_rest_10 (by decide) ?_
    exact sx_iret C0 rfl rfl trivial dX7_rest_11
  · refine sx_aload_n C0 dX7_rest_12 rfl (lv_at hl 0 rfl) ?_
    refine gf_X7_139 C0 is7 dX7_rest_13 ?_
    refine sx_if_ne (tgt := 22) C0 dX7_rest_16 (by decide) (fun _ => ?_) (fun _ => ?_)
    · refine sx_bipush (v := (-4)) C0 dX7_rest_19 (by decide) ?_
      exact sx_iret C0 rfl rfl trivial dX7_rest_21
    · refine sx_aload_n C0 dX7_rest_22 rfl (lv_at hl 0 rfl) ?_
      refine sx_iload_n C0 dX7_rest_23 rfl (lv_at hl 1 rfl) ?_
      refine sw_bind (fun a24 e24 => ?_)
      refine cv_X7_220 (As := [.int v1]) C0 (c_X7_isFull C0.2.2.2.2.2.2.2.1 v1 S _ e24) is7 ⟨rfl, rfl⟩ ⟨Nat.le_of_ble_eq_true rfl, Nat.le_of_ble_eq_true rfl⟩ rfl hl.1 (Nat.le_of_ble_eq_true rfl) rfl dX7_rest_24 (fun hb24 => ?_)
      refine sx_if_eq (tgt := 33) C0 dX7_rest_27 (by decide) (fun _ => ?_) (fun _ => ?_)
      · refine sx_iconst (v := 0) C0 dX7_rest_33 (by decide) ?_
        refine sx_istore_n (lv' := [(2, .int (0 : Int32)), (0, .ref (ad 0)), (1, .int v1)]) C0 dX7_rest_34 rfl hl (by decide) rfl (fun ls hl => ?_)
        refine sx_iconst (v := 0) C0 dX7_rest_35 (by decide) ?_
        refine sx_istore_n (lv' := [(3, .int (0 : Int32)), (2, .int (0 : Int32)), (0, .ref (ad 0)), (1, .int v1)]) C0 dX7_rest_36 rfl hl (by decide) rfl (fun ls hl => ?_)
        exact lX7_rest_37_t C0 _ _ _ _ _ _ (lv_sub hl [2, 3, 1, 0] rfl)
      · refine sx_bipush (v := (-2)) C0 dX7_rest_30 (by decide) ?_
        exact sx_iret C0 rfl rfl trivial dX7_rest_32
abbrev rm_X7_sent : Room := { frames := 2, cells := 0, slots := 0, locals := 43 }
def mX7_sent (S : vS) (v1 : Int32) (v2 : Int32) : Option (Int32 × vS) := (if v1 < 0 then (some ((-1 : Int32), S)) else (if (mX7_isGod S v2) = 0 then (some ((-1 : Int32), S)) else ((mX7_v S (0 : Int32) (14 : Int32)).bind fun a19 => (if a19 ≤ v1 then ((mX7_meets S (2 : Int32)).bind fun q49 => (some (q49.1, q49.2))) else ((gI (S.1 12) 4000 ((((20 : Int32) * v1) + (16 : Int32)) + v2)).bind fun a39 => (lt (mX7_tells S a39 (1 : Int32)) fun q41 => (some (q41.1, q41.2))))))))
set_option maxHeartbeats 4000000 in
set_option maxRecDepth 100000 in
theorem c_X7_sent {l : Launch} {D : va_G} {cA : Nat → ClassId} {ad : Nat → Nat} (G : Gx shM ad ExM) (v1 : Int32) (v2 : Int32) (S : vS) (r : (Int32 × vS)) (hr : (mX7_sent S v1 v2) = some r) : Met l yX7_sent (Cond.code yX7_sent cX7_sent 3 (some .int) :: ALL) rm_X7_sent (Po D vwCl tlM shM cA ad ExM [.ref (ad 0), .int v1, .int v2] S) (Qo D vwCl shM cA ad (some (.int r.1)) r.2 True) 0 0 (aw shM ad) := by
  refine Met.sx (M := (mX7_sent S v1 v2)) (rv := (fun q => some (.int q.1) : (Int32 × vS) → Option Value)) (rs := fun q => q.2) (B := fun _ => True) (by decide) ⟨rfl, rfl⟩ (Nat.le_of_ble_eq_true rfl) G (fun p e s m args below meth c C0 ls hl => ?_) hr
  have hl : lv_has ls 3 [(0, .ref (ad 0)), (1, .int v1), (2, .int v2)] := hl
  rw [mX7_sent]
  refine sx_iload_n C0 dX7_sent_0 rfl (lv_at hl 1 rfl) ?_
  refine sx_if_lt (tgt := 12) C0 dX7_sent_1 (by decide) (fun _ => ?_) (fun _ => ?_)
  · refine sx_iconst (v := (-1)) C0 dX7_sent_12 (by decide) ?_
    exact sx_iret C0 rfl rfl trivial dX7_sent_13
  · refine sx_aload_n C0 dX7_sent_4 rfl (lv_at hl 0 rfl) ?_
    refine sx_iload_n C0 dX7_sent_5 rfl (lv_at hl 2 rfl) ?_
    refine cv_X7_208 (As := [.int v2]) C0 (c_X7_isGod C0.2.2.2.2.2.2.2.1 v2 S) is7 ⟨rfl, rfl⟩ ⟨Nat.le_of_ble_eq_true rfl, Nat.le_of_ble_eq_true rfl⟩ rfl hl.1 (Nat.le_of_ble_eq_true rfl) rfl dX7_sent_6 (fun hb6 => ?_)
    refine sx_if_ne (tgt := 14) C0 dX7_sent_9 (by decide) (fun _ => ?_) (fun _ => ?_)
    · refine sx_iconst (v := (-1)) C0 dX7_sent_12 (by decide) ?_
      exact sx_iret C0 rfl rfl trivial dX7_sent_13
    · refine sx_iload_n C0 dX7_sent_14 rfl (lv_at hl 1 rfl) ?_
      refine sx_aload_n C0 dX7_sent_15 rfl (lv_at hl 0 rfl) ?_
      refine sx_iconst (v := 0) C0 dX7_sent_16 (by decide) ?_
      refine sx_bipush (v := 14) C0 dX7_sent_17 (by decide) ?_
      refine sw_bind (fun a19 e19 => ?_)
      refine cv_X7_149 (As := [.int (0 : Int32), .int (14 : Int32)]) C0 (c_X7_v C0.2.2.2.2.2.2.2.1 (0 : Int32) (14 : Int32) S _ e19) is7 ⟨rfl, rfl⟩ ⟨Nat.le_of_ble_eq_true rfl, Nat.le_of_ble_eq_true rfl⟩ rfl hl.1 (Nat.le_of_ble_eq_true rfl) rfl dX7_sent_19 (fun _ => ?_)
      refine sx_icmp_ge (tgt := 47) C0 dX7_sent_22 (by decide) (fun _ => ?_) (fun _ => ?_)
      · refine sx_aload_n C0 dX7_sent_47 rfl (lv_at hl 0 rfl) ?_
        refine sx_iconst (v := 2) C0 dX7_sent_48 (by decide) ?_
        refine sw_bind (fun q49 e49 => ?_)
        refine cv_X7_94 (As := [.int (2 : Int32)]) C0 (c_X7_meets C0.2.2.2.2.2.2.2.1 (2 : Int32) S _ e49) is7 ⟨rfl, rfl⟩ ⟨Nat.le_of_ble_eq_true rfl, Nat.le_of_ble_eq_true rfl⟩ rfl hl.1 (Nat.le_of_ble_eq_true rfl) rfl dX7_sent_49 (fun _ => ?_)
        exact sx_iret C0 rfl rfl trivial dX7_sent_52
      · refine sx_aload_n C0 dX7_sent_25 rfl (lv_at hl 0 rfl) ?_
        refine sx_aload_n C0 dX7_sent_26 rfl (lv_at hl 0 rfl) ?_
        refine gf_X7_44 C0 is7 dX7_sent_27 ?_
        refine sx_bipush (v := 20) C0 dX7_sent_30 (by decide) ?_
        refine sx_iload_n C0 dX7_sent_32 rfl (lv_at hl 1 rfl) ?_
        refine sx_imul C0 dX7_sent_33 ?_
        refine sx_bipush (v := 16) C0 dX7_sent_34 (by decide) ?_
        refine sx_iadd C0 dX7_sent_36 ?_
        refine sx_iload_n C0 dX7_sent_37 rfl (lv_at hl 2 rfl) ?_
        refine sx_iadd C0 dX7_sent_38 ?_
        refine sx_iald C0 is7_days rfl dX7_sent_39 (fun a39 => ?_)
        refine sx_iconst (v := 1) C0 dX7_sent_40 (by decide) ?_
        refine cv_X7_102 (As := [.int a39, .int (1 : Int32)]) C0 (c_X7_tells C0.2.2.2.2.2.2.2.1 a39 (1 : Int32) S) is7 ⟨rfl, rfl⟩ ⟨Nat.le_of_ble_eq_true rfl, Nat.le_of_ble_eq_true rfl⟩ rfl hl.1 (Nat.le_of_ble_eq_true rfl) rfl dX7_sent_41 (fun _ => ?_)
        refine sw_ltQ (val := .int) (fun q41 => ?_)
        refine sx_goto (tgt := 52) C0 dX7_sent_44 (by decide) ?_
        exact sx_iret C0 rfl rfl trivial dX7_sent_52
abbrev rm_X7_offered : Room := { frames := 1, cells := 0, slots := 0, locals := 22 }
def mX7_offered (S : vS) (v1 : Int32) : Option (Int32 × vS) := (if 0 ≤ v1 then ((mX7_v S (0 : Int32) (14 : Int32)).bind fun a11 => (if a11 ≤ v1 then ((mX7_meets S (2 : Int32)).bind fun q34 => (some (q34.1, q34.2))) else ((gI (S.1 12) 4000 (((20 : Int32) * v1) + (15 : Int32))).bind fun a28 => (some (a28, S))))) else (some ((-1 : Int32), S)))
set_option maxHeartbeats 4000000 in
set_option maxRecDepth 100000 in
theorem c_X7_offered {l : Launch} {D : va_G} {cA : Nat → ClassId} {ad : Nat → Nat} (G : Gx shM ad ExM) (v1 : Int32) (S : vS) (r : (Int32 × vS)) (hr : (mX7_offered S v1) = some r) : Met l yX7_offered (Cond.code yX7_offered cX7_offered 2 (some .int) :: ALL) rm_X7_offered (Po D vwCl tlM shM cA ad ExM [.ref (ad 0), .int v1] S) (Qo D vwCl shM cA ad (some (.int r.1)) r.2 True) 0 0 (aw shM ad) := by
  refine Met.sx (M := (mX7_offered S v1)) (rv := (fun q => some (.int q.1) : (Int32 × vS) → Option Value)) (rs := fun q => q.2) (B := fun _ => True) (by decide) ⟨rfl, rfl⟩ (Nat.le_of_ble_eq_true rfl) G (fun p e s m args below meth c C0 ls hl => ?_) hr
  have hl : lv_has ls 2 [(0, .ref (ad 0)), (1, .int v1)] := hl
  rw [mX7_offered]
  refine sx_iload_n C0 dX7_offered_0 rfl (lv_at hl 1 rfl) ?_
  refine sx_if_ge (tgt := 6) C0 dX7_offered_1 (by decide) (fun _ => ?_) (fun _ => ?_)
  · refine sx_iload_n C0 dX7_offered_6 rfl (lv_at hl 1 rfl) ?_
    refine sx_aload_n C0 dX7_offered_7 rfl (lv_at hl 0 rfl) ?_
    refine sx_iconst (v := 0) C0 dX7_offered_8 (by decide) ?_
    refine sx_bipush (v := 14) C0 dX7_offered_9 (by decide) ?_
    refine sw_bind (fun a11 e11 => ?_)
    refine cv_X7_149 (As := [.int (0 : Int32), .int (14 : Int32)]) C0 (c_X7_v C0.2.2.2.2.2.2.2.1 (0 : Int32) (14 : Int32) S _ e11) is7 ⟨rfl, rfl⟩ ⟨Nat.le_of_ble_eq_true rfl, Nat.le_of_ble_eq_true rfl⟩ rfl hl.1 (Nat.le_of_ble_eq_true rfl) rfl dX7_offered_11 (fun _ => ?_)
    refine sx_icmp_ge (tgt := 32) C0 dX7_offered_14 (by decide) (fun _ => ?_) (fun _ => ?_)
    · refine sx_aload_n C0 dX7_offered_32 rfl (lv_at hl 0 rfl) ?_
      refine sx_iconst (v := 2) C0 dX7_offered_33 (by decide) ?_
      refine sw_bind (fun q34 e34 => ?_)
      refine cv_X7_94 (As := [.int (2 : Int32)]) C0 (c_X7_meets C0.2.2.2.2.2.2.2.1 (2 : Int32) S _ e34) is7 ⟨rfl, rfl⟩ ⟨Nat.le_of_ble_eq_true rfl, Nat.le_of_ble_eq_true rfl⟩ rfl hl.1 (Nat.le_of_ble_eq_true rfl) rfl dX7_offered_34 (fun _ => ?_)
      exact sx_iret C0 rfl rfl trivial dX7_offered_37
    · refine sx_aload_n C0 dX7_offered_17 rfl (lv_at hl 0 rfl) ?_
      refine gf_X7_44 C0 is7 dX7_offered_18 ?_
      refine sx_bipush (v := 20) C0 dX7_offered_21 (by decide) ?_
      refine sx_iload_n C0 dX7_offered_23 rfl (lv_at hl 1 rfl) ?_
      refine sx_imul C0 dX7_offered_24 ?_
      refine sx_bipush (v := 15) C0 dX7_offered_25 (by decide) ?_
      refine sx_iadd C0 dX7_offered_27 ?_
      refine sx_iald C0 is7_days rfl dX7_offered_28 (fun a28 => ?_)
      refine sx_goto (tgt := 37) C0 dX7_offered_29 (by decide) ?_
      exact sx_iret C0 rfl rfl trivial dX7_offered_37
  · refine sx_iconst (v := (-1)) C0 dX7_offered_4 (by decide) ?_
    exact sx_iret C0 rfl rfl trivial dX7_offered_5
abbrev rm_X7_undo : Room := { frames := 1, cells := 0, slots := 0, locals := 23 }
def lX7_undo_29    (v1 : Int32) (v2 : Int32) : Nat → vS → Int32 → Option (Int32 × vS)
  | 0, _, _ => none
  | n + 1, S, v3 => (if (15 : Int32) ≤ v3 then (some (v2, S)) else (if v2 ≤ 0 then (some (v2, S)) else ((gI (S.1 12) 4000 (((20 : Int32) * v1) + v3)).bind fun a52 => ((mX7_place S (0 : Int32) v3 a52).bind fun S53 => ((lX7_undo_29 v1 v2 n) S53 (v3 + (1 : Int32)))))))
set_option maxHeartbeats 4000000 in
set_option maxRecDepth 100000 in
theorem lX7_undo_29_t {p : Program} {l : Launch} {e : Env} {s : State} {m : MethodId} {args : Array Value} {below : List Frame} {meth : Method} {c : Code} {D : va_G} {cA : Nat → ClassId} {ad : Nat → Nat}   (C0 : Cx D vwCl tlM shM cA ad ExM RX7 cX7_undo 4 (some .int) p s m args meth c)   (v1 : Int32) (v2 : Int32)  : ∀ (n : Nat) (S : vS) (v3 : Int32) (ls : Array Slot), lv_has ls 4 [(0, .ref (ad 0)), (1, .int v1), (2, .int v2), (3, .int v3)] → SW p l e rm_X7_undo s m args below meth c D vwCl shM cA ad (Fq D vwCl shM cA ad below args s (fun q => some (.int q.1) : (Int32 × vS) → Option Value) (fun q => q.2) (fun _ => True)) (lX7_undo_29 v1 v2 n S v3) S 29 ls [] := by
  intro n
  induction n with
  | zero =>
    intro S v3 ls hl
    rw [lX7_undo_29]
    exact sw_none
  | succ n ih =>
    intro S v3 ls hl
    rw [lX7_undo_29]
    refine sx_iload_n C0 dX7_undo_29 rfl (lv_at hl 3 rfl) ?_
    refine sx_bipush (v := 15) C0 dX7_undo_30 (by decide) ?_
    refine sx_icmp_ge (tgt := 62) C0 dX7_undo_32 (by decide) (fun _ => ?_) (fun _ => ?_)
    · refine sx_iload_n C0 dX7_undo_62 rfl (lv_at hl 2 rfl) ?_
      exact sx_iret C0 rfl rfl trivial dX7_undo_63
    · refine sx_iload_n C0 dX7_undo_35 rfl (lv_at hl 2 rfl) ?_
      refine sx_if_le (tgt := 62) C0 dX7_undo_36 (by decide) (fun _ => ?_) (fun _ => ?_)
      · refine sx_iload_n C0 dX7_undo_62 rfl (lv_at hl 2 rfl) ?_
        exact sx_iret C0 rfl rfl trivial dX7_undo_63
      · refine sx_aload_n C0 dX7_undo_39 rfl (lv_at hl 0 rfl) ?_
        refine sx_iconst (v := 0) C0 dX7_undo_40 (by decide) ?_
        refine sx_iload_n C0 dX7_undo_41 rfl (lv_at hl 3 rfl) ?_
        refine sx_aload_n C0 dX7_undo_42 rfl (lv_at hl 0 rfl) ?_
        refine gf_X7_44 C0 is7 dX7_undo_43 ?_
        refine sx_bipush (v := 20) C0 dX7_undo_46 (by decide) ?_
        refine sx_iload_n C0 dX7_undo_48 rfl (lv_at hl 1 rfl) ?_
        refine sx_imul C0 dX7_undo_49 ?_
        refine sx_iload_n C0 dX7_undo_50 rfl (lv_at hl 3 rfl) ?_
        refine sx_iadd C0 dX7_undo_51 ?_
        refine sx_iald C0 is7_days rfl dX7_undo_52 (fun a52 => ?_)
        refine sw_bind (fun S53 e53 => ?_)
        refine cv_X7_142 (As := [.int (0 : Int32), .int v3, .int a52]) C0 (c_X7_place C0.2.2.2.2.2.2.2.1 (0 : Int32) v3 a52 S _ e53) is7 ⟨rfl, rfl⟩ ⟨Nat.le_of_ble_eq_true rfl, Nat.le_of_ble_eq_true rfl⟩ rfl hl.1 (Nat.le_of_ble_eq_true rfl) rfl dX7_undo_53 (fun _ => ?_)
        refine sx_iinc (v := (v3 + (1 : Int32))) (lv' := [(3, .int (v3 + (1 : Int32))), (0, .ref (ad 0)), (1, .int v1), (2, .int v2)]) C0 dX7_undo_56 hl (k := 3) rfl rfl (by decide) rfl (fun ls hl => ?_)
        refine sx_goto (tgt := 29) C0 dX7_undo_59 (by decide) ?_
        exact ih _ _ _ (lv_sub hl [1, 2, 3, 0] rfl)
def mX7_undo (S : vS) (v1 : Int32) : Option (Int32 × vS) := ((mX7_v S (0 : Int32) (14 : Int32)).bind fun a6 => (if (mX7_in v1 (0 : Int32) a6) = 0 then (some ((-1 : Int32), S)) else ((mX7_v S (0 : Int32) (14 : Int32)).bind fun a21 => (lt (a21 - v1) fun v2_26 => (lX7_undo_29 v1 v2_26 FU S (0 : Int32))))))
set_option maxHeartbeats 4000000 in
set_option maxRecDepth 100000 in
theorem c_X7_undo {l : Launch} {D : va_G} {cA : Nat → ClassId} {ad : Nat → Nat} (G : Gx shM ad ExM) (v1 : Int32) (S : vS) (r : (Int32 × vS)) (hr : (mX7_undo S v1) = some r) : Met l yX7_undo (Cond.code yX7_undo cX7_undo 4 (some .int) :: ALL) rm_X7_undo (Po D vwCl tlM shM cA ad ExM [.ref (ad 0), .int v1] S) (Qo D vwCl shM cA ad (some (.int r.1)) r.2 True) 0 0 (aw shM ad) := by
  refine Met.sx (M := (mX7_undo S v1)) (rv := (fun q => some (.int q.1) : (Int32 × vS) → Option Value)) (rs := fun q => q.2) (B := fun _ => True) (by decide) ⟨rfl, rfl⟩ (Nat.le_of_ble_eq_true rfl) G (fun p e s m args below meth c C0 ls hl => ?_) hr
  have hl : lv_has ls 4 [(0, .ref (ad 0)), (1, .int v1)] := hl
  rw [mX7_undo]
  refine sx_iload_n C0 dX7_undo_0 rfl (lv_at hl 1 rfl) ?_
  refine sx_iconst (v := 0) C0 dX7_undo_1 (by decide) ?_
  refine sx_aload_n C0 dX7_undo_2 rfl (lv_at hl 0 rfl) ?_
  refine sx_iconst (v := 0) C0 dX7_undo_3 (by decide) ?_
  refine sx_bipush (v := 14) C0 dX7_undo_4 (by decide) ?_
  refine sw_bind (fun a6 e6 => ?_)
  refine cv_X7_149 (As := [.int (0 : Int32), .int (14 : Int32)]) C0 (c_X7_v C0.2.2.2.2.2.2.2.1 (0 : Int32) (14 : Int32) S _ e6) is7 ⟨rfl, rfl⟩ ⟨Nat.le_of_ble_eq_true rfl, Nat.le_of_ble_eq_true rfl⟩ rfl hl.1 (Nat.le_of_ble_eq_true rfl) rfl dX7_undo_6 (fun _ => ?_)
  refine cv_X7_80 (As := [.int v1, .int (0 : Int32), .int a6]) C0 (c_X7_in C0.2.2.2.2.2.2.2.1 v1 (0 : Int32) a6 S) ⟨rfl, rfl⟩ ⟨Nat.le_of_ble_eq_true rfl, Nat.le_of_ble_eq_true rfl⟩ rfl hl.1 (Nat.le_of_ble_eq_true rfl) rfl dX7_undo_9 (fun hb9 => ?_)
  refine sx_if_ne (tgt := 17) C0 dX7_undo_12 (by decide) (fun _ => ?_) (fun _ => ?_)
  · refine sx_iconst (v := (-1)) C0 dX7_undo_15 (by decide) ?_
    exact sx_iret C0 rfl rfl trivial dX7_undo_16
  · refine sx_aload_n C0 dX7_undo_17 rfl (lv_at hl 0 rfl) ?_
    refine sx_iconst (v := 0) C0 dX7_undo_18 (by decide) ?_
    refine sx_bipush (v := 14) C0 dX7_undo_19 (by decide) ?_
    refine sw_bind (fun a21 e21 => ?_)
    refine cv_X7_149 (As := [.int (0 : Int32), .int (14 : Int32)]) C0 (c_X7_v C0.2.2.2.2.2.2.2.1 (0 : Int32) (14 : Int32) S _ e21) is7 ⟨rfl, rfl⟩ ⟨Nat.le_of_ble_eq_true rfl, Nat.le_of_ble_eq_true rfl⟩ rfl hl.1 (Nat.le_of_ble_eq_true rfl) rfl dX7_undo_21 (fun _ => ?_)
    refine sx_iload_n C0 dX7_undo_24 rfl (lv_at hl 1 rfl) ?_
    refine sx_isub C0 dX7_undo_25 ?_
    refine sw_lt (val := .int) (fun v2_26 => ?_)
    refine sx_istore_n (lv' := [(2, .int v2_26), (0, .ref (ad 0)), (1, .int v1)]) C0 dX7_undo_26 rfl hl (by decide) rfl (fun ls hl => ?_)
    refine sx_iconst (v := 0) C0 dX7_undo_27 (by decide) ?_
    refine sx_istore_n (lv' := [(3, .int (0 : Int32)), (2, .int v2_26), (0, .ref (ad 0)), (1, .int v1)]) C0 dX7_undo_28 rfl hl (by decide) rfl (fun ls hl => ?_)
    exact lX7_undo_29_t C0 _ _ _ _ _ _ (lv_sub hl [2, 3, 1, 0] rfl)
abbrev rm_X7_sums : Room := { frames := 1, cells := 0, slots := 0, locals := 22 }
def mX7_sums (S : vS)  : Option (Int32 × vS) := ((mX7_v S (0 : Int32) (13 : Int32)).bind fun a5 => ((mX7_v S (0 : Int32) (12 : Int32)).bind fun a12 => (lt (mX7_tells S a5 a12) fun q15 => (some (q15.1, q15.2)))))
set_option maxHeartbeats 4000000 in
set_option maxRecDepth 100000 in
theorem c_X7_sums {l : Launch} {D : va_G} {cA : Nat → ClassId} {ad : Nat → Nat} (G : Gx shM ad ExM)  (S : vS) (r : (Int32 × vS)) (hr : (mX7_sums S) = some r) : Met l yX7_sums (Cond.code yX7_sums cX7_sums 1 (some .int) :: ALL) rm_X7_sums (Po D vwCl tlM shM cA ad ExM [.ref (ad 0)] S) (Qo D vwCl shM cA ad (some (.int r.1)) r.2 True) 0 0 (aw shM ad) := by
  refine Met.sx (M := (mX7_sums S)) (rv := (fun q => some (.int q.1) : (Int32 × vS) → Option Value)) (rs := fun q => q.2) (B := fun _ => True) (by decide) ⟨rfl, rfl⟩ (Nat.le_of_ble_eq_true rfl) G (fun p e s m args below meth c C0 ls hl => ?_) hr
  have hl : lv_has ls 1 [(0, .ref (ad 0))] := hl
  rw [mX7_sums]
  refine sx_aload_n C0 dX7_sums_0 rfl (lv_at hl 0 rfl) ?_
  refine sx_aload_n C0 dX7_sums_1 rfl (lv_at hl 0 rfl) ?_
  refine sx_iconst (v := 0) C0 dX7_sums_2 (by decide) ?_
  refine sx_bipush (v := 13) C0 dX7_sums_3 (by decide) ?_
  refine sw_bind (fun a5 e5 => ?_)
  refine cv_X7_149 (As := [.int (0 : Int32), .int (13 : Int32)]) C0 (c_X7_v C0.2.2.2.2.2.2.2.1 (0 : Int32) (13 : Int32) S _ e5) is7 ⟨rfl, rfl⟩ ⟨Nat.le_of_ble_eq_true rfl, Nat.le_of_ble_eq_true rfl⟩ rfl hl.1 (Nat.le_of_ble_eq_true rfl) rfl dX7_sums_5 (fun _ => ?_)
  refine sx_aload_n C0 dX7_sums_8 rfl (lv_at hl 0 rfl) ?_
  refine sx_iconst (v := 0) C0 dX7_sums_9 (by decide) ?_
  refine sx_bipush (v := 12) C0 dX7_sums_10 (by decide) ?_
  refine sw_bind (fun a12 e12 => ?_)
  refine cv_X7_149 (As := [.int (0 : Int32), .int (12 : Int32)]) C0 (c_X7_v C0.2.2.2.2.2.2.2.1 (0 : Int32) (12 : Int32) S _ e12) is7 ⟨rfl, rfl⟩ ⟨Nat.le_of_ble_eq_true rfl, Nat.le_of_ble_eq_true rfl⟩ rfl hl.1 (Nat.le_of_ble_eq_true rfl) rfl dX7_sums_12 (fun _ => ?_)
  refine cv_X7_102 (As := [.int a5, .int a12]) C0 (c_X7_tells C0.2.2.2.2.2.2.2.1 a5 a12 S) is7 ⟨rfl, rfl⟩ ⟨Nat.le_of_ble_eq_true rfl, Nat.le_of_ble_eq_true rfl⟩ rfl hl.1 (Nat.le_of_ble_eq_true rfl) rfl dX7_sums_15 (fun _ => ?_)
  refine sw_ltQ (val := .int) (fun q15 => ?_)
  exact sx_iret C0 rfl rfl trivial dX7_sums_18
abbrev rm_X7_keep : Room := { frames := 1, cells := 0, slots := 0, locals := 22 }
def bX7_keep_123    (S : vS) (v1 : Int32)  : Option (Int32 × vS) := ((pI S 13 3 v1 (vp_nar .boolean (1 : Int32))).bind fun S129 => ((mX7_v S129 (0 : Int32) (14 : Int32)).bind fun a134 => (some (a134, S129))))
set_option maxHeartbeats 4000000 in
set_option maxRecDepth 100000 in
theorem bX7_keep_123_t {p : Program} {l : Launch} {e : Env} {s : State} {m : MethodId} {args : Array Value} {below : List Frame} {meth : Method} {c : Code} {D : va_G} {cA : Nat → ClassId} {ad : Nat → Nat}   (C0 : Cx D vwCl tlM shM cA ad ExM RX7 cX7_keep 3 (some .int) p s m args meth c)  (S : vS) (v1 : Int32) (ls : Array Slot) (hl : lv_has ls 3 [(0, .ref (ad 0)), (1, .int v1)]) : SW p l e rm_X7_keep s m args below meth c D vwCl shM cA ad (Fq D vwCl shM cA ad below args s (fun q => some (.int q.1) : (Int32 × vS) → Option Value) (fun q => q.2) (fun _ => True)) (bX7_keep_123 S v1) S 123 ls [] := by
  rw [bX7_keep_123]
  refine sx_aload_n C0 dX7_keep_123 rfl (lv_at hl 0 rfl) ?_
  refine gf_X7_47 C0 is7 dX7_keep_124 ?_
  refine sx_iload_n C0 dX7_keep_127 rfl (lv_at hl 1 rfl) ?_
  refine sx_iconst (v := 1) C0 dX7_keep_128 (by decide) ?_
  refine sx_zast C0 is7_isKept rfl dX7_keep_129 (fun S129 => ?_)
  refine sx_aload_n C0 dX7_keep_130 rfl (lv_at hl 0 rfl) ?_
  refine sx_iconst (v := 0) C0 dX7_keep_131 (by decide) ?_
  refine sx_bipush (v := 14) C0 dX7_keep_132 (by decide) ?_
  refine sw_bind (fun a134 e134 => ?_)
  refine cv_X7_149 (As := [.int (0 : Int32), .int (14 : Int32)]) C0 (c_X7_v C0.2.2.2.2.2.2.2.1 (0 : Int32) (14 : Int32) S129 _ e134) is7 ⟨rfl, rfl⟩ ⟨Nat.le_of_ble_eq_true rfl, Nat.le_of_ble_eq_true rfl⟩ rfl hl.1 (Nat.le_of_ble_eq_true rfl) rfl dX7_keep_134 (fun _ => ?_)
  exact sx_iret C0 rfl rfl trivial dX7_keep_137
def lX7_keep_85    (v1 : Int32) : Nat → vS → Int32 → Option (Int32 × vS)
  | 0, _, _ => none
  | n + 1, S, v2 => ((mX7_v S (0 : Int32) (14 : Int32)).bind fun a92 => (if ((20 : Int32) * a92) ≤ v2 then (bX7_keep_123 S v1) else ((gI (S.1 12) 4000 v2).bind fun a115 => ((pI S 16 12000 (((4000 : Int32) * v1) + v2) a115).bind fun S116 => ((lX7_keep_85 v1 n) S116 (v2 + (1 : Int32)))))))
set_option maxHeartbeats 4000000 in
set_option maxRecDepth 100000 in
theorem lX7_keep_85_t {p : Program} {l : Launch} {e : Env} {s : State} {m : MethodId} {args : Array Value} {below : List Frame} {meth : Method} {c : Code} {D : va_G} {cA : Nat → ClassId} {ad : Nat → Nat}   (C0 : Cx D vwCl tlM shM cA ad ExM RX7 cX7_keep 3 (some .int) p s m args meth c)   (v1 : Int32)  : ∀ (n : Nat) (S : vS) (v2 : Int32) (ls : Array Slot), lv_has ls 3 [(0, .ref (ad 0)), (1, .int v1), (2, .int v2)] → SW p l e rm_X7_keep s m args below meth c D vwCl shM cA ad (Fq D vwCl shM cA ad below args s (fun q => some (.int q.1) : (Int32 × vS) → Option Value) (fun q => q.2) (fun _ => True)) (lX7_keep_85 v1 n S v2) S 85 ls [] := by
  intro n
  induction n with
  | zero =>
    intro S v2 ls hl
    rw [lX7_keep_85]
    exact sw_none
  | succ n ih =>
    intro S v2 ls hl
    rw [lX7_keep_85]
    refine sx_iload_n C0 dX7_keep_85 rfl (lv_at hl 2 rfl) ?_
    refine sx_bipush (v := 20) C0 dX7_keep_86 (by decide) ?_
    refine sx_aload_n C0 dX7_keep_88 rfl (lv_at hl 0 rfl) ?_
    refine sx_iconst (v := 0) C0 dX7_keep_89 (by decide) ?_
    refine sx_bipush (v := 14) C0 dX7_keep_90 (by decide) ?_
    refine sw_bind (fun a92 e92 => ?_)
    refine cv_X7_149 (As := [.int (0 : Int32), .int (14 : Int32)]) C0 (c_X7_v C0.2.2.2.2.2.2.2.1 (0 : Int32) (14 : Int32) S _ e92) is7 ⟨rfl, rfl⟩ ⟨Nat.le_of_ble_eq_true rfl, Nat.le_of_ble_eq_true rfl⟩ rfl hl.1 (Nat.le_of_ble_eq_true rfl) rfl dX7_keep_92 (fun _ => ?_)
    refine sx_imul C0 dX7_keep_95 ?_
    refine sx_icmp_ge (tgt := 123) C0 dX7_keep_96 (by decide) (fun _ => ?_) (fun _ => ?_)
    · exact bX7_keep_123_t C0 _ _ _ (lv_sub hl [0, 1] rfl)
    · refine sx_aload_n C0 dX7_keep_99 rfl (lv_at hl 0 rfl) ?_
      refine gf_X7_57 C0 is7 dX7_keep_100 ?_
      refine sx_sipush (v := 4000) C0 dX7_keep_103 (by decide) ?_
      refine sx_iload_n C0 dX7_keep_106 rfl (lv_at hl 1 rfl) ?_
      refine sx_imul C0 dX7_keep_107 ?_
      refine sx_iload_n C0 dX7_keep_108 rfl (lv_at hl 2 rfl) ?_
      refine sx_iadd C0 dX7_keep_109 ?_
      refine sx_aload_n C0 dX7_keep_110 rfl (lv_at hl 0 rfl) ?_
      refine gf_X7_44 C0 is7 dX7_keep_111 ?_
      refine sx_iload_n C0 dX7_keep_114 rfl (lv_at hl 2 rfl) ?_
      refine sx_iald C0 is7_days rfl dX7_keep_115 (fun a115 => ?_)
      refine sx_iast C0 is7_keptDays rfl dX7_keep_116 (fun S116 => ?_)
      refine sx_iinc (v := (v2 + (1 : Int32))) (lv' := [(2, .int (v2 + (1 : Int32))), (0, .ref (ad 0)), (1, .int v1)]) C0 dX7_keep_117 hl (k := 2) rfl rfl (by decide) rfl (fun ls hl => ?_)
      refine sx_goto (tgt := 85) C0 dX7_keep_120 (by decide) ?_
      exact ih _ _ _ (lv_sub hl [1, 2, 0] rfl)
def bX7_keep_83    (S : vS) (v1 : Int32)  : Option (Int32 × vS) := (lX7_keep_85 v1 FU S (0 : Int32))
set_option maxHeartbeats 4000000 in
set_option maxRecDepth 100000 in
theorem bX7_keep_83_t {p : Program} {l : Launch} {e : Env} {s : State} {m : MethodId} {args : Array Value} {below : List Frame} {meth : Method} {c : Code} {D : va_G} {cA : Nat → ClassId} {ad : Nat → Nat}   (C0 : Cx D vwCl tlM shM cA ad ExM RX7 cX7_keep 3 (some .int) p s m args meth c)  (S : vS) (v1 : Int32) (ls : Array Slot) (hl : lv_has ls 3 [(0, .ref (ad 0)), (1, .int v1)]) : SW p l e rm_X7_keep s m args below meth c D vwCl shM cA ad (Fq D vwCl shM cA ad below args s (fun q => some (.int q.1) : (Int32 × vS) → Option Value) (fun q => q.2) (fun _ => True)) (bX7_keep_83 S v1) S 83 ls [] := by
  rw [bX7_keep_83]
  refine sx_iconst (v := 0) C0 dX7_keep_83 (by decide) ?_
  refine sx_istore_n (lv' := [(2, .int (0 : Int32)), (0, .ref (ad 0)), (1, .int v1)]) C0 dX7_keep_84 rfl hl (by decide) rfl (fun ls hl => ?_)
  exact lX7_keep_85_t C0 _ _ _ _ _ (lv_sub hl [1, 2, 0] rfl)
def lX7_keep_54    (v1 : Int32) : Nat → vS → Int32 → Option (Int32 × vS)
  | 0, _, _ => none
  | n + 1, S, v2 => (if (S.1 0 10) ≤ v2 then (bX7_keep_83 S v1) else ((mX7_patienceOf S v2).bind fun a73 => ((pI S 15 12 (((4 : Int32) * v1) + v2) a73).bind fun S76 => ((lX7_keep_54 v1 n) S76 (v2 + (1 : Int32))))))
set_option maxHeartbeats 4000000 in
set_option maxRecDepth 100000 in
theorem lX7_keep_54_t {p : Program} {l : Launch} {e : Env} {s : State} {m : MethodId} {args : Array Value} {below : List Frame} {meth : Method} {c : Code} {D : va_G} {cA : Nat → ClassId} {ad : Nat → Nat}   (C0 : Cx D vwCl tlM shM cA ad ExM RX7 cX7_keep 3 (some .int) p s m args meth c)   (v1 : Int32)  : ∀ (n : Nat) (S : vS) (v2 : Int32) (ls : Array Slot), lv_has ls 3 [(0, .ref (ad 0)), (1, .int v1), (2, .int v2)] → SW p l e rm_X7_keep s m args below meth c D vwCl shM cA ad (Fq D vwCl shM cA ad below args s (fun q => some (.int q.1) : (Int32 × vS) → Option Value) (fun q => q.2) (fun _ => True)) (lX7_keep_54 v1 n S v2) S 54 ls [] := by
  intro n
  induction n with
  | zero =>
    intro S v2 ls hl
    rw [lX7_keep_54]
    exact sw_none
  | succ n ih =>
    intro S v2 ls hl
    rw [lX7_keep_54]
    refine sx_iload_n C0 dX7_keep_54 rfl (lv_at hl 2 rfl) ?_
    refine sx_aload_n C0 dX7_keep_55 rfl (lv_at hl 0 rfl) ?_
    refine gf_X7_139 C0 is7 dX7_keep_56 ?_
    refine sx_icmp_ge (tgt := 83) C0 dX7_keep_59 (by decide) (fun _ => ?_) (fun _ => ?_)
    · exact bX7_keep_83_t C0 _ _ _ (lv_sub hl [0, 1] rfl)
    · refine sx_aload_n C0 dX7_keep_62 rfl (lv_at hl 0 rfl) ?_
      refine gf_X7_54 C0 is7 dX7_keep_63 ?_
      refine sx_iconst (v := 4) C0 dX7_keep_66 (by decide) ?_
      refine sx_iload_n C0 dX7_keep_67 rfl (lv_at hl 1 rfl) ?_
      refine sx_imul C0 dX7_keep_68 ?_
      refine sx_iload_n C0 dX7_keep_69 rfl (lv_at hl 2 rfl) ?_
      refine sx_iadd C0 dX7_keep_70 ?_
      refine sx_aload_n C0 dX7_keep_71 rfl (lv_at hl 0 rfl) ?_
      refine sx_iload_n C0 dX7_keep_72 rfl (lv_at hl 2 rfl) ?_
      refine sw_bind (fun a73 e73 => ?_)
      refine cv_X7_192 (As := [.int v2]) C0 (c_X7_patienceOf C0.2.2.2.2.2.2.2.1 v2 S _ e73) is7 ⟨rfl, rfl⟩ ⟨Nat.le_of_ble_eq_true rfl, Nat.le_of_ble_eq_true rfl⟩ rfl hl.1 (Nat.le_of_ble_eq_true rfl) rfl dX7_keep_73 (fun _ => ?_)
      refine sx_iast C0 is7_keptPatience rfl dX7_keep_76 (fun S76 => ?_)
      refine sx_iinc (v := (v2 + (1 : Int32))) (lv' := [(2, .int (v2 + (1 : Int32))), (0, .ref (ad 0)), (1, .int v1)]) C0 dX7_keep_77 hl (k := 2) rfl rfl (by decide) rfl (fun ls hl => ?_)
      refine sx_goto (tgt := 54) C0 dX7_keep_80 (by decide) ?_
      exact ih _ _ _ (lv_sub hl [1, 2, 0] rfl)
def bX7_keep_52    (S : vS) (v1 : Int32)  : Option (Int32 × vS) := (lX7_keep_54 v1 FU S (0 : Int32))
set_option maxHeartbeats 4000000 in
set_option maxRecDepth 100000 in
theorem bX7_keep_52_t {p : Program} {l : Launch} {e : Env} {s : State} {m : MethodId} {args : Array Value} {below : List Frame} {meth : Method} {c : Code} {D : va_G} {cA : Nat → ClassId} {ad : Nat → Nat}   (C0 : Cx D vwCl tlM shM cA ad ExM RX7 cX7_keep 3 (some .int) p s m args meth c)  (S : vS) (v1 : Int32) (ls : Array Slot) (hl : lv_has ls 3 [(0, .ref (ad 0)), (1, .int v1)]) : SW p l e rm_X7_keep s m args below meth c D vwCl shM cA ad (Fq D vwCl shM cA ad below args s (fun q => some (.int q.1) : (Int32 × vS) → Option Value) (fun q => q.2) (fun _ => True)) (bX7_keep_52 S v1) S 52 ls [] := by
  rw [bX7_keep_52]
  refine sx_iconst (v := 0) C0 dX7_keep_52 (by decide) ?_
  refine sx_istore_n (lv' := [(2, .int (0 : Int32)), (0, .ref (ad 0)), (1, .int v1)]) C0 dX7_keep_53 rfl hl (by decide) rfl (fun ls hl => ?_)
  exact lX7_keep_54_t C0 _ _ _ _ _ (lv_sub hl [1, 2, 0] rfl)
def lX7_keep_23    (v1 : Int32) : Nat → vS → Int32 → Option (Int32 × vS)
  | 0, _, _ => none
  | n + 1, S, v2 => (if (15 : Int32) ≤ v2 then (bX7_keep_52 S v1) else ((mX7_v S (0 : Int32) v2).bind fun a42 => ((pI S 14 45 (((15 : Int32) * v1) + v2) a42).bind fun S45 => ((lX7_keep_23 v1 n) S45 (v2 + (1 : Int32))))))
set_option maxHeartbeats 4000000 in
set_option maxRecDepth 100000 in
theorem lX7_keep_23_t {p : Program} {l : Launch} {e : Env} {s : State} {m : MethodId} {args : Array Value} {below : List Frame} {meth : Method} {c : Code} {D : va_G} {cA : Nat → ClassId} {ad : Nat → Nat}   (C0 : Cx D vwCl tlM shM cA ad ExM RX7 cX7_keep 3 (some .int) p s m args meth c)   (v1 : Int32)  : ∀ (n : Nat) (S : vS) (v2 : Int32) (ls : Array Slot), lv_has ls 3 [(0, .ref (ad 0)), (1, .int v1), (2, .int v2)] → SW p l e rm_X7_keep s m args below meth c D vwCl shM cA ad (Fq D vwCl shM cA ad below args s (fun q => some (.int q.1) : (Int32 × vS) → Option Value) (fun q => q.2) (fun _ => True)) (lX7_keep_23 v1 n S v2) S 23 ls [] := by
  intro n
  induction n with
  | zero =>
    intro S v2 ls hl
    rw [lX7_keep_23]
    exact sw_none
  | succ n ih =>
    intro S v2 ls hl
    rw [lX7_keep_23]
    refine sx_iload_n C0 dX7_keep_23 rfl (lv_at hl 2 rfl) ?_
    refine sx_bipush (v := 15) C0 dX7_keep_24 (by decide) ?_
    refine sx_icmp_ge (tgt := 52) C0 dX7_keep_26 (by decide) (fun _ => ?_) (fun _ => ?_)
    · exact bX7_keep_52_t C0 _ _ _ (lv_sub hl [0, 1] rfl)
    · refine sx_aload_n C0 dX7_keep_29 rfl (lv_at hl 0 rfl) ?_
      refine gf_X7_51 C0 is7 dX7_keep_30 ?_
      refine sx_bipush (v := 15) C0 dX7_keep_33 (by decide) ?_
      refine sx_iload_n C0 dX7_keep_35 rfl (lv_at hl 1 rfl) ?_
      refine sx_imul C0 dX7_keep_36 ?_
      refine sx_iload_n C0 dX7_keep_37 rfl (lv_at hl 2 rfl) ?_
      refine sx_iadd C0 dX7_keep_38 ?_
      refine sx_aload_n C0 dX7_keep_39 rfl (lv_at hl 0 rfl) ?_
      refine sx_iconst (v := 0) C0 dX7_keep_40 (by decide) ?_
      refine sx_iload_n C0 dX7_keep_41 rfl (lv_at hl 2 rfl) ?_
      refine sw_bind (fun a42 e42 => ?_)
      refine cv_X7_149 (As := [.int (0 : Int32), .int v2]) C0 (c_X7_v C0.2.2.2.2.2.2.2.1 (0 : Int32) v2 S _ e42) is7 ⟨rfl, rfl⟩ ⟨Nat.le_of_ble_eq_true rfl, Nat.le_of_ble_eq_true rfl⟩ rfl hl.1 (Nat.le_of_ble_eq_true rfl) rfl dX7_keep_42 (fun _ => ?_)
      refine sx_iast C0 is7_keptNow rfl dX7_keep_45 (fun S45 => ?_)
      refine sx_iinc (v := (v2 + (1 : Int32))) (lv' := [(2, .int (v2 + (1 : Int32))), (0, .ref (ad 0)), (1, .int v1)]) C0 dX7_keep_46 hl (k := 2) rfl rfl (by decide) rfl (fun ls hl => ?_)
      refine sx_goto (tgt := 23) C0 dX7_keep_49 (by decide) ?_
      exact ih _ _ _ (lv_sub hl [1, 2, 0] rfl)
def mX7_keep (S : vS) (v1 : Int32) : Option (Int32 × vS) := (if (mX7_in v1 (0 : Int32) (2 : Int32)) = 0 then (some ((-1 : Int32), S)) else (if (S.1 0 10) = 0 then (some ((-4 : Int32), S)) else (lX7_keep_23 v1 FU S (0 : Int32))))
set_option maxHeartbeats 4000000 in
set_option maxRecDepth 100000 in
theorem c_X7_keep {l : Launch} {D : va_G} {cA : Nat → ClassId} {ad : Nat → Nat} (G : Gx shM ad ExM) (v1 : Int32) (S : vS) (r : (Int32 × vS)) (hr : (mX7_keep S v1) = some r) : Met l yX7_keep (Cond.code yX7_keep cX7_keep 3 (some .int) :: ALL) rm_X7_keep (Po D vwCl tlM shM cA ad ExM [.ref (ad 0), .int v1] S) (Qo D vwCl shM cA ad (some (.int r.1)) r.2 True) 0 0 (aw shM ad) := by
  refine Met.sx (M := (mX7_keep S v1)) (rv := (fun q => some (.int q.1) : (Int32 × vS) → Option Value)) (rs := fun q => q.2) (B := fun _ => True) (by decide) ⟨rfl, rfl⟩ (Nat.le_of_ble_eq_true rfl) G (fun p e s m args below meth c C0 ls hl => ?_) hr
  have hl : lv_has ls 3 [(0, .ref (ad 0)), (1, .int v1)] := hl
  rw [mX7_keep]
  refine sx_iload_n C0 dX7_keep_0 rfl (lv_at hl 1 rfl) ?_
  refine sx_iconst (v := 0) C0 dX7_keep_1 (by decide) ?_
  refine sx_iconst (v := 2) C0 dX7_keep_2 (by decide) ?_
  refine cv_X7_80 (As := [.int v1, .int (0 : Int32), .int (2 : Int32)]) C0 (c_X7_in C0.2.2.2.2.2.2.2.1 v1 (0 : Int32) (2 : Int32) S) ⟨rfl, rfl⟩ ⟨Nat.le_of_ble_eq_true rfl, Nat.le_of_ble_eq_true rfl⟩ rfl hl.1 (Nat.le_of_ble_eq_true rfl) rfl dX7_keep_3 (fun hb3 => ?_)
  refine sx_if_ne (tgt := 11) C0 dX7_keep_6 (by decide) (fun _ => ?_) (fun _ => ?_)
  · refine sx_iconst (v := (-1)) C0 dX7_keep_9 (by decide) ?_
    exact sx_iret C0 rfl rfl trivial dX7_keep_10
  · refine sx_aload_n C0 dX7_keep_11 rfl (lv_at hl 0 rfl) ?_
    refine gf_X7_139 C0 is7 dX7_keep_12 ?_
    refine sx_if_ne (tgt := 21) C0 dX7_keep_15 (by decide) (fun _ => ?_) (fun _ => ?_)
    · refine sx_bipush (v := (-4)) C0 dX7_keep_18 (by decide) ?_
      exact sx_iret C0 rfl rfl trivial dX7_keep_20
    · refine sx_iconst (v := 0) C0 dX7_keep_21 (by decide) ?_
      refine sx_istore_n (lv' := [(2, .int (0 : Int32)), (0, .ref (ad 0)), (1, .int v1)]) C0 dX7_keep_22 rfl hl (by decide) rfl (fun ls hl => ?_)
      exact lX7_keep_23_t C0 _ _ _ _ _ (lv_sub hl [1, 2, 0] rfl)
abbrev rm_X7_on : Room := { frames := 1, cells := 0, slots := 0, locals := 23 }
def bX7_on_134    (S : vS)   : Option (Int32 × vS) := ((mX7_v S (0 : Int32) (14 : Int32)).bind fun a138 => (some (a138, S)))
set_option maxHeartbeats 4000000 in
set_option maxRecDepth 100000 in
theorem bX7_on_134_t {p : Program} {l : Launch} {e : Env} {s : State} {m : MethodId} {args : Array Value} {below : List Frame} {meth : Method} {c : Code} {D : va_G} {cA : Nat → ClassId} {ad : Nat → Nat}   (C0 : Cx D vwCl tlM shM cA ad ExM RX7 cX7_on 3 (some .int) p s m args meth c)  (S : vS)  (ls : Array Slot) (hl : lv_has ls 3 [(0, .ref (ad 0))]) : SW p l e rm_X7_on s m args below meth c D vwCl shM cA ad (Fq D vwCl shM cA ad below args s (fun q => some (.int q.1) : (Int32 × vS) → Option Value) (fun q => q.2) (fun _ => True)) (bX7_on_134 S) S 134 ls [] := by
  rw [bX7_on_134]
  refine sx_aload_n C0 dX7_on_134 rfl (lv_at hl 0 rfl) ?_
  refine sx_iconst (v := 0) C0 dX7_on_135 (by decide) ?_
  refine sx_bipush (v := 14) C0 dX7_on_136 (by decide) ?_
  refine sw_bind (fun a138 e138 => ?_)
  refine cv_X7_149 (As := [.int (0 : Int32), .int (14 : Int32)]) C0 (c_X7_v C0.2.2.2.2.2.2.2.1 (0 : Int32) (14 : Int32) S _ e138) is7 ⟨rfl, rfl⟩ ⟨Nat.le_of_ble_eq_true rfl, Nat.le_of_ble_eq_true rfl⟩ rfl hl.1 (Nat.le_of_ble_eq_true rfl) rfl dX7_on_138 (fun _ => ?_)
  exact sx_iret C0 rfl rfl trivial dX7_on_141
def lX7_on_96    (v1 : Int32) : Nat → vS → Int32 → Option (Int32 × vS)
  | 0, _, _ => none
  | n + 1, S, v2 => ((mX7_v S (0 : Int32) (14 : Int32)).bind fun a103 => (if ((20 : Int32) * a103) ≤ v2 then (bX7_on_134 S) else ((gI (S.1 16) 12000 (((4000 : Int32) * v1) + v2)).bind fun a126 => ((pI S 12 4000 v2 a126).bind fun S127 => ((lX7_on_96 v1 n) S127 (v2 + (1 : Int32)))))))
set_option maxHeartbeats 4000000 in
set_option maxRecDepth 100000 in
theorem lX7_on_96_t {p : Program} {l : Launch} {e : Env} {s : State} {m : MethodId} {args : Array Value} {below : List Frame} {meth : Method} {c : Code} {D : va_G} {cA : Nat → ClassId} {ad : Nat → Nat}   (C0 : Cx D vwCl tlM shM cA ad ExM RX7 cX7_on 3 (some .int) p s m args meth c)   (v1 : Int32)  : ∀ (n : Nat) (S : vS) (v2 : Int32) (ls : Array Slot), lv_has ls 3 [(0, .ref (ad 0)), (1, .int v1), (2, .int v2)] → SW p l e rm_X7_on s m args below meth c D vwCl shM cA ad (Fq D vwCl shM cA ad below args s (fun q => some (.int q.1) : (Int32 × vS) → Option Value) (fun q => q.2) (fun _ => True)) (lX7_on_96 v1 n S v2) S 96 ls [] := by
  intro n
  induction n with
  | zero =>
    intro S v2 ls hl
    rw [lX7_on_96]
    exact sw_none
  | succ n ih =>
    intro S v2 ls hl
    rw [lX7_on_96]
    refine sx_iload_n C0 dX7_on_96 rfl (lv_at hl 2 rfl) ?_
    refine sx_bipush (v := 20) C0 dX7_on_97 (by decide) ?_
    refine sx_aload_n C0 dX7_on_99 rfl (lv_at hl 0 rfl) ?_
    refine sx_iconst (v := 0) C0 dX7_on_100 (by decide) ?_
    refine sx_bipush (v := 14) C0 dX7_on_101 (by decide) ?_
    refine sw_bind (fun a103 e103 => ?_)
    refine cv_X7_149 (As := [.int (0 : Int32), .int (14 : Int32)]) C0 (c_X7_v C0.2.2.2.2.2.2.2.1 (0 : Int32) (14 : Int32) S _ e103) is7 ⟨rfl, rfl⟩ ⟨Nat.le_of_ble_eq_true rfl, Nat.le_of_ble_eq_true rfl⟩ rfl hl.1 (Nat.le_of_ble_eq_true rfl) rfl dX7_on_103 (fun _ => ?_)
    refine sx_imul C0 dX7_on_106 ?_
    refine sx_icmp_ge (tgt := 134) C0 dX7_on_107 (by decide) (fun _ => ?_) (fun _ => ?_)
    · exact bX7_on_134_t C0 _ _ (lv_sub hl [0] rfl)
    · refine sx_aload_n C0 dX7_on_110 rfl (lv_at hl 0 rfl) ?_
      refine gf_X7_44 C0 is7 dX7_on_111 ?_
      refine sx_iload_n C0 dX7_on_114 rfl (lv_at hl 2 rfl) ?_
      refine sx_aload_n C0 dX7_on_115 rfl (lv_at hl 0 rfl) ?_
      refine gf_X7_57 C0 is7 dX7_on_116 ?_
      refine sx_sipush (v := 4000) C0 dX7_on_119 (by decide) ?_
      refine sx_iload_n C0 dX7_on_122 rfl (lv_at hl 1 rfl) ?_
      refine sx_imul C0 dX7_on_123 ?_
      refine sx_iload_n C0 dX7_on_124 rfl (lv_at hl 2 rfl) ?_
      refine sx_iadd C0 dX7_on_125 ?_
      refine sx_iald C0 is7_keptDays rfl dX7_on_126 (fun a126 => ?_)
      refine sx_iast C0 is7_days rfl dX7_on_127 (fun S127 => ?_)
      refine sx_iinc (v := (v2 + (1 : Int32))) (lv' := [(2, .int (v2 + (1 : Int32))), (0, .ref (ad 0)), (1, .int v1)]) C0 dX7_on_128 hl (k := 2) rfl rfl (by decide) rfl (fun ls hl => ?_)
      refine sx_goto (tgt := 96) C0 dX7_on_131 (by decide) ?_
      exact ih _ _ _ (lv_sub hl [1, 2, 0] rfl)
def bX7_on_94    (S : vS) (v1 : Int32)  : Option (Int32 × vS) := (lX7_on_96 v1 FU S (0 : Int32))
set_option maxHeartbeats 4000000 in
set_option maxRecDepth 100000 in
theorem bX7_on_94_t {p : Program} {l : Launch} {e : Env} {s : State} {m : MethodId} {args : Array Value} {below : List Frame} {meth : Method} {c : Code} {D : va_G} {cA : Nat → ClassId} {ad : Nat → Nat}   (C0 : Cx D vwCl tlM shM cA ad ExM RX7 cX7_on 3 (some .int) p s m args meth c)  (S : vS) (v1 : Int32) (ls : Array Slot) (hl : lv_has ls 3 [(0, .ref (ad 0)), (1, .int v1)]) : SW p l e rm_X7_on s m args below meth c D vwCl shM cA ad (Fq D vwCl shM cA ad below args s (fun q => some (.int q.1) : (Int32 × vS) → Option Value) (fun q => q.2) (fun _ => True)) (bX7_on_94 S v1) S 94 ls [] := by
  rw [bX7_on_94]
  refine sx_iconst (v := 0) C0 dX7_on_94 (by decide) ?_
  refine sx_istore_n (lv' := [(2, .int (0 : Int32)), (0, .ref (ad 0)), (1, .int v1)]) C0 dX7_on_95 rfl hl (by decide) rfl (fun ls hl => ?_)
  exact lX7_on_96_t C0 _ _ _ _ _ (lv_sub hl [1, 2, 0] rfl)
def lX7_on_59    (v1 : Int32) : Nat → vS → Int32 → Option (Int32 × vS)
  | 0, _, _ => none
  | n + 1, S, v2 => (if (S.1 0 10) ≤ v2 then (bX7_on_94 S v1) else ((gI (S.1 15) 12 (((4 : Int32) * v1) + v2)).bind fun a86 => ((pI S 7 24 (((6 : Int32) * v2) + (2 : Int32)) a86).bind fun S87 => ((lX7_on_59 v1 n) S87 (v2 + (1 : Int32))))))
set_option maxHeartbeats 4000000 in
set_option maxRecDepth 100000 in
theorem lX7_on_59_t {p : Program} {l : Launch} {e : Env} {s : State} {m : MethodId} {args : Array Value} {below : List Frame} {meth : Method} {c : Code} {D : va_G} {cA : Nat → ClassId} {ad : Nat → Nat}   (C0 : Cx D vwCl tlM shM cA ad ExM RX7 cX7_on 3 (some .int) p s m args meth c)   (v1 : Int32)  : ∀ (n : Nat) (S : vS) (v2 : Int32) (ls : Array Slot), lv_has ls 3 [(0, .ref (ad 0)), (1, .int v1), (2, .int v2)] → SW p l e rm_X7_on s m args below meth c D vwCl shM cA ad (Fq D vwCl shM cA ad below args s (fun q => some (.int q.1) : (Int32 × vS) → Option Value) (fun q => q.2) (fun _ => True)) (lX7_on_59 v1 n S v2) S 59 ls [] := by
  intro n
  induction n with
  | zero =>
    intro S v2 ls hl
    rw [lX7_on_59]
    exact sw_none
  | succ n ih =>
    intro S v2 ls hl
    rw [lX7_on_59]
    refine sx_iload_n C0 dX7_on_59 rfl (lv_at hl 2 rfl) ?_
    refine sx_aload_n C0 dX7_on_60 rfl (lv_at hl 0 rfl) ?_
    refine gf_X7_139 C0 is7 dX7_on_61 ?_
    refine sx_icmp_ge (tgt := 94) C0 dX7_on_64 (by decide) (fun _ => ?_) (fun _ => ?_)
    · exact bX7_on_94_t C0 _ _ _ (lv_sub hl [0, 1] rfl)
    · refine sx_aload_n C0 dX7_on_67 rfl (lv_at hl 0 rfl) ?_
      refine gf_X7_29 C0 is7 dX7_on_68 ?_
      refine sx_bipush (v := 6) C0 dX7_on_71 (by decide) ?_
      refine sx_iload_n C0 dX7_on_73 rfl (lv_at hl 2 rfl) ?_
      refine sx_imul C0 dX7_on_74 ?_
      refine sx_iconst (v := 2) C0 dX7_on_75 (by decide) ?_
      refine sx_iadd C0 dX7_on_76 ?_
      refine sx_aload_n C0 dX7_on_77 rfl (lv_at hl 0 rfl) ?_
      refine gf_X7_54 C0 is7 dX7_on_78 ?_
      refine sx_iconst (v := 4) C0 dX7_on_81 (by decide) ?_
      refine sx_iload_n C0 dX7_on_82 rfl (lv_at hl 1 rfl) ?_
      refine sx_imul C0 dX7_on_83 ?_
      refine sx_iload_n C0 dX7_on_84 rfl (lv_at hl 2 rfl) ?_
      refine sx_iadd C0 dX7_on_85 ?_
      refine sx_iald C0 is7_keptPatience rfl dX7_on_86 (fun a86 => ?_)
      refine sx_iast C0 is7_gods rfl dX7_on_87 (fun S87 => ?_)
      refine sx_iinc (v := (v2 + (1 : Int32))) (lv' := [(2, .int (v2 + (1 : Int32))), (0, .ref (ad 0)), (1, .int v1)]) C0 dX7_on_88 hl (k := 2) rfl rfl (by decide) rfl (fun ls hl => ?_)
      refine sx_goto (tgt := 59) C0 dX7_on_91 (by decide) ?_
      exact ih _ _ _ (lv_sub hl [1, 2, 0] rfl)
def bX7_on_57    (S : vS) (v1 : Int32)  : Option (Int32 × vS) := (lX7_on_59 v1 FU S (0 : Int32))
set_option maxHeartbeats 4000000 in
set_option maxRecDepth 100000 in
theorem bX7_on_57_t {p : Program} {l : Launch} {e : Env} {s : State} {m : MethodId} {args : Array Value} {below : List Frame} {meth : Method} {c : Code} {D : va_G} {cA : Nat → ClassId} {ad : Nat → Nat}   (C0 : Cx D vwCl tlM shM cA ad ExM RX7 cX7_on 3 (some .int) p s m args meth c)  (S : vS) (v1 : Int32) (ls : Array Slot) (hl : lv_has ls 3 [(0, .ref (ad 0)), (1, .int v1)]) : SW p l e rm_X7_on s m args below meth c D vwCl shM cA ad (Fq D vwCl shM cA ad below args s (fun q => some (.int q.1) : (Int32 × vS) → Option Value) (fun q => q.2) (fun _ => True)) (bX7_on_57 S v1) S 57 ls [] := by
  rw [bX7_on_57]
  refine sx_iconst (v := 0) C0 dX7_on_57 (by decide) ?_
  refine sx_istore_n (lv' := [(2, .int (0 : Int32)), (0, .ref (ad 0)), (1, .int v1)]) C0 dX7_on_58 rfl hl (by decide) rfl (fun ls hl => ?_)
  exact lX7_on_59_t C0 _ _ _ _ _ (lv_sub hl [1, 2, 0] rfl)
def lX7_on_28    (v1 : Int32) : Nat → vS → Int32 → Option (Int32 × vS)
  | 0, _, _ => none
  | n + 1, S, v2 => (if (15 : Int32) ≤ v2 then (bX7_on_57 S v1) else ((gI (S.1 14) 45 (((15 : Int32) * v1) + v2)).bind fun a47 => ((mX7_place S (0 : Int32) v2 a47).bind fun S48 => ((lX7_on_28 v1 n) S48 (v2 + (1 : Int32))))))
set_option maxHeartbeats 4000000 in
set_option maxRecDepth 100000 in
theorem lX7_on_28_t {p : Program} {l : Launch} {e : Env} {s : State} {m : MethodId} {args : Array Value} {below : List Frame} {meth : Method} {c : Code} {D : va_G} {cA : Nat → ClassId} {ad : Nat → Nat}   (C0 : Cx D vwCl tlM shM cA ad ExM RX7 cX7_on 3 (some .int) p s m args meth c)   (v1 : Int32)  : ∀ (n : Nat) (S : vS) (v2 : Int32) (ls : Array Slot), lv_has ls 3 [(0, .ref (ad 0)), (1, .int v1), (2, .int v2)] → SW p l e rm_X7_on s m args below meth c D vwCl shM cA ad (Fq D vwCl shM cA ad below args s (fun q => some (.int q.1) : (Int32 × vS) → Option Value) (fun q => q.2) (fun _ => True)) (lX7_on_28 v1 n S v2) S 28 ls [] := by
  intro n
  induction n with
  | zero =>
    intro S v2 ls hl
    rw [lX7_on_28]
    exact sw_none
  | succ n ih =>
    intro S v2 ls hl
    rw [lX7_on_28]
    refine sx_iload_n C0 dX7_on_28 rfl (lv_at hl 2 rfl) ?_
    refine sx_bipush (v := 15) C0 dX7_on_29 (by decide) ?_
    refine sx_icmp_ge (tgt := 57) C0 dX7_on_31 (by decide) (fun _ => ?_) (fun _ => ?_)
    · exact bX7_on_57_t C0 _ _ _ (lv_sub hl [0, 1] rfl)
    · refine sx_aload_n C0 dX7_on_34 rfl (lv_at hl 0 rfl) ?_
      refine sx_iconst (v := 0) C0 dX7_on_35 (by decide) ?_
      refine sx_iload_n C0 dX7_on_36 rfl (lv_at hl 2 rfl) ?_
      refine sx_aload_n C0 dX7_on_37 rfl (lv_at hl 0 rfl) ?_
      refine gf_X7_51 C0 is7 dX7_on_38 ?_
      refine sx_bipush (v := 15) C0 dX7_on_41 (by decide) ?_
      refine sx_iload_n C0 dX7_on_43 rfl (lv_at hl 1 rfl) ?_
      refine sx_imul C0 dX7_on_44 ?_
      refine sx_iload_n C0 dX7_on_45 rfl (lv_at hl 2 rfl) ?_
      refine sx_iadd C0 dX7_on_46 ?_
      refine sx_iald C0 is7_keptNow rfl dX7_on_47 (fun a47 => ?_)
      refine sw_bind (fun S48 e48 => ?_)
      refine cv_X7_142 (As := [.int (0 : Int32), .int v2, .int a47]) C0 (c_X7_place C0.2.2.2.2.2.2.2.1 (0 : Int32) v2 a47 S _ e48) is7 ⟨rfl, rfl⟩ ⟨Nat.le_of_ble_eq_true rfl, Nat.le_of_ble_eq_true rfl⟩ rfl hl.1 (Nat.le_of_ble_eq_true rfl) rfl dX7_on_48 (fun _ => ?_)
      refine sx_iinc (v := (v2 + (1 : Int32))) (lv' := [(2, .int (v2 + (1 : Int32))), (0, .ref (ad 0)), (1, .int v1)]) C0 dX7_on_51 hl (k := 2) rfl rfl (by decide) rfl (fun ls hl => ?_)
      refine sx_goto (tgt := 28) C0 dX7_on_54 (by decide) ?_
      exact ih _ _ _ (lv_sub hl [1, 2, 0] rfl)
def mX7_on (S : vS) (v1 : Int32) : Option (Int32 × vS) := (if (mX7_in v1 (0 : Int32) (2 : Int32)) = 0 then (some ((-1 : Int32), S)) else ((gI (S.1 13) 3 v1).bind fun a16 => (if a16 = 0 then ((mX7_meets S (1 : Int32)).bind fun q22 => (some (q22.1, q22.2))) else (lX7_on_28 v1 FU S (0 : Int32)))))
set_option maxHeartbeats 4000000 in
set_option maxRecDepth 100000 in
theorem c_X7_on {l : Launch} {D : va_G} {cA : Nat → ClassId} {ad : Nat → Nat} (G : Gx shM ad ExM) (v1 : Int32) (S : vS) (r : (Int32 × vS)) (hr : (mX7_on S v1) = some r) : Met l yX7_on (Cond.code yX7_on cX7_on 3 (some .int) :: ALL) rm_X7_on (Po D vwCl tlM shM cA ad ExM [.ref (ad 0), .int v1] S) (Qo D vwCl shM cA ad (some (.int r.1)) r.2 True) 0 0 (aw shM ad) := by
  refine Met.sx (M := (mX7_on S v1)) (rv := (fun q => some (.int q.1) : (Int32 × vS) → Option Value)) (rs := fun q => q.2) (B := fun _ => True) (by decide) ⟨rfl, rfl⟩ (Nat.le_of_ble_eq_true rfl) G (fun p e s m args below meth c C0 ls hl => ?_) hr
  have hl : lv_has ls 3 [(0, .ref (ad 0)), (1, .int v1)] := hl
  rw [mX7_on]
  refine sx_iload_n C0 dX7_on_0 rfl (lv_at hl 1 rfl) ?_
  refine sx_iconst (v := 0) C0 dX7_on_1 (by decide) ?_
  refine sx_iconst (v := 2) C0 dX7_on_2 (by decide) ?_
  refine cv_X7_80 (As := [.int v1, .int (0 : Int32), .int (2 : Int32)]) C0 (c_X7_in C0.2.2.2.2.2.2.2.1 v1 (0 : Int32) (2 : Int32) S) ⟨rfl, rfl⟩ ⟨Nat.le_of_ble_eq_true rfl, Nat.le_of_ble_eq_true rfl⟩ rfl hl.1 (Nat.le_of_ble_eq_true rfl) rfl dX7_on_3 (fun hb3 => ?_)
  refine sx_if_ne (tgt := 11) C0 dX7_on_6 (by decide) (fun _ => ?_) (fun _ => ?_)
  · refine sx_iconst (v := (-1)) C0 dX7_on_9 (by decide) ?_
    exact sx_iret C0 rfl rfl trivial dX7_on_10
  · refine sx_aload_n C0 dX7_on_11 rfl (lv_at hl 0 rfl) ?_
    refine gf_X7_47 C0 is7 dX7_on_12 ?_
    refine sx_iload_n C0 dX7_on_15 rfl (lv_at hl 1 rfl) ?_
    refine sx_zald C0 is7_isKept rfl dX7_on_16 (fun a16 => ?_)
    refine sx_if_ne (tgt := 26) C0 dX7_on_17 (by decide) (fun _ => ?_) (fun _ => ?_)
    · refine sx_aload_n C0 dX7_on_20 rfl (lv_at hl 0 rfl) ?_
      refine sx_iconst (v := 1) C0 dX7_on_21 (by decide) ?_
      refine sw_bind (fun q22 e22 => ?_)
      refine cv_X7_94 (As := [.int (1 : Int32)]) C0 (c_X7_meets C0.2.2.2.2.2.2.2.1 (1 : Int32) S _ e22) is7 ⟨rfl, rfl⟩ ⟨Nat.le_of_ble_eq_true rfl, Nat.le_of_ble_eq_true rfl⟩ rfl hl.1 (Nat.le_of_ble_eq_true rfl) rfl dX7_on_22 (fun _ => ?_)
      exact sx_iret C0 rfl rfl trivial dX7_on_25
    · refine sx_iconst (v := 0) C0 dX7_on_26 (by decide) ?_
      refine sx_istore_n (lv' := [(2, .int (0 : Int32)), (0, .ref (ad 0)), (1, .int v1)]) C0 dX7_on_27 rfl hl (by decide) rfl (fun ls hl => ?_)
      exact lX7_on_28_t C0 _ _ _ _ _ (lv_sub hl [1, 2, 0] rfl)
abbrev rm_X7_noPlan : Room := { frames := 0, cells := 0, slots := 0, locals := 0 }
def bX7_noPlan_29   (K7 : vS → Int32 → Option vS) (S : vS) (v1 : Int32) (v2 : Int32) (t0 : Int32) (t1 : Int32) : Option vS := ((pI S 17 4 t1 t0).bind fun S29 => (K7 S29 (v2 + (1 : Int32))))
set_option maxHeartbeats 4000000 in
set_option maxRecDepth 100000 in
theorem bX7_noPlan_29_t {p : Program} {l : Launch} {e : Env} {s : State} {m : MethodId} {args : Array Value} {below : List Frame} {meth : Method} {c : Code} {D : va_G} {cA : Nat → ClassId} {ad : Nat → Nat} {K7 : vS → Int32 → Option vS}  (C0 : Cx D vwCl tlM shM cA ad ExM RX7 cX7_noPlan 3 none p s m args meth c)  (S : vS) (v1 : Int32) (v2 : Int32) (t0 : Int32) (t1 : Int32) (hK7 : ∀ (S : vS) (v2 : Int32) (ls : Array Slot), lv_has ls 3 [(0, .ref (ad 0)), (1, .int v1), (2, .int v2)] → SW p l e rm_X7_noPlan s m args below meth c D vwCl shM cA ad (Fq D vwCl shM cA ad below args s (fun _ => none : vS → Option Value) (fun S1 => S1) (fun _ => True)) (K7 S v2) S 7 ls []) (ls : Array Slot) (hl : lv_has ls 3 [(0, .ref (ad 0)), (1, .int v1), (2, .int v2)]) : SW p l e rm_X7_noPlan s m args below meth c D vwCl shM cA ad (Fq D vwCl shM cA ad below args s (fun _ => none : vS → Option Value) (fun S1 => S1) (fun _ => True)) (bX7_noPlan_29 K7 S v1 v2 t0 t1) S 29 ls [.int t0, .int t1, .ref (ad 17)] := by
  rw [bX7_noPlan_29]
  refine sx_iast C0 is7_plan rfl dX7_noPlan_29 (fun S29 => ?_)
  refine sx_iinc (v := (v2 + (1 : Int32))) (lv' := [(2, .int (v2 + (1 : Int32))), (0, .ref (ad 0)), (1, .int v1)]) C0 dX7_noPlan_30 hl (k := 2) rfl rfl (by decide) rfl (fun ls hl => ?_)
  refine sx_goto (tgt := 7) C0 dX7_noPlan_33 (by decide) ?_
  exact hK7 _ _ _ (lv_sub hl [1, 2, 0] rfl)
def lX7_noPlan_7    (v1 : Int32) : Nat → vS → Int32 → Option vS
  | 0, _, _ => none
  | n + 1, S, v2 => (if v1 ≤ v2 then (some S) else (if v2 = (v1 - (1 : Int32)) then (bX7_noPlan_29 (lX7_noPlan_7 v1 n) S v1 v2 (-1 : Int32) v2) else (bX7_noPlan_29 (lX7_noPlan_7 v1 n) S v1 v2 (0 : Int32) v2)))
set_option maxHeartbeats 4000000 in
set_option maxRecDepth 100000 in
theorem lX7_noPlan_7_t {p : Program} {l : Launch} {e : Env} {s : State} {m : MethodId} {args : Array Value} {below : List Frame} {meth : Method} {c : Code} {D : va_G} {cA : Nat → ClassId} {ad : Nat → Nat}   (C0 : Cx D vwCl tlM shM cA ad ExM RX7 cX7_noPlan 3 none p s m args meth c)   (v1 : Int32)  : ∀ (n : Nat) (S : vS) (v2 : Int32) (ls : Array Slot), lv_has ls 3 [(0, .ref (ad 0)), (1, .int v1), (2, .int v2)] → SW p l e rm_X7_noPlan s m args below meth c D vwCl shM cA ad (Fq D vwCl shM cA ad below args s (fun _ => none : vS → Option Value) (fun S1 => S1) (fun _ => True)) (lX7_noPlan_7 v1 n S v2) S 7 ls [] := by
  intro n
  induction n with
  | zero =>
    intro S v2 ls hl
    rw [lX7_noPlan_7]
    exact sw_none
  | succ n ih =>
    intro S v2 ls hl
    rw [lX7_noPlan_7]
    refine sx_iload_n C0 dX7_noPlan_7 rfl (lv_at hl 2 rfl) ?_
    refine sx_iload_n C0 dX7_noPlan_8 rfl (lv_at hl 1 rfl) ?_
    refine sx_icmp_ge (tgt := 36) C0 dX7_noPlan_9 (by decide) (fun _ => ?_) (fun _ => ?_)
    · exact sx_vret C0 rfl rfl trivial dX7_noPlan_36
    · refine sx_aload_n C0 dX7_noPlan_12 rfl (lv_at hl 0 rfl) ?_
      refine gf_X7_60 C0 is7 dX7_noPlan_13 ?_
      refine sx_iload_n C0 dX7_noPlan_16 rfl (lv_at hl 2 rfl) ?_
      refine sx_iload_n C0 dX7_noPlan_17 rfl (lv_at hl 2 rfl) ?_
      refine sx_iload_n C0 dX7_noPlan_18 rfl (lv_at hl 1 rfl) ?_
      refine sx_iconst (v := 1) C0 dX7_noPlan_19 (by decide) ?_
      refine sx_isub C0 dX7_noPlan_20 ?_
      refine sx_icmp_ne (tgt := 28) C0 dX7_noPlan_21 (by decide) (fun _ => ?_) (fun _ => ?_)
      · refine sx_iconst (v := (-1)) C0 dX7_noPlan_24 (by decide) ?_
        refine sx_goto (tgt := 29) C0 dX7_noPlan_25 (by decide) ?_
        exact bX7_noPlan_29_t C0 _ _ _ _ _ ih _ (lv_sub hl [0, 1, 2] rfl)
      · refine sx_iconst (v := 0) C0 dX7_noPlan_28 (by decide) ?_
        exact bX7_noPlan_29_t C0 _ _ _ _ _ ih _ (lv_sub hl [0, 1, 2] rfl)
def mX7_noPlan (S : vS) (v1 : Int32) : Option vS := (lt (wI S 0 29 v1) fun S2 => (lX7_noPlan_7 v1 FU S2 (0 : Int32)))
set_option maxHeartbeats 4000000 in
set_option maxRecDepth 100000 in
theorem c_X7_noPlan {l : Launch} {D : va_G} {cA : Nat → ClassId} {ad : Nat → Nat} (G : Gx shM ad ExM) (v1 : Int32) (S : vS) (r : vS) (hr : (mX7_noPlan S v1) = some r) : Met l yX7_noPlan (Cond.code yX7_noPlan cX7_noPlan 3 none :: ALL) rm_X7_noPlan (Po D vwCl tlM shM cA ad ExM [.ref (ad 0), .int v1] S) (Qo D vwCl shM cA ad none r True) 0 0 (aw shM ad) := by
  refine Met.sx (M := (mX7_noPlan S v1)) (rv := (fun _ => none : vS → Option Value)) (rs := fun S1 => S1) (B := fun _ => True) (by decide) ⟨rfl, rfl⟩ (Nat.le_of_ble_eq_true rfl) G (fun p e s m args below meth c C0 ls hl => ?_) hr
  have hl : lv_has ls 3 [(0, .ref (ad 0)), (1, .int v1)] := hl
  rw [mX7_noPlan]
  refine sx_aload_n C0 dX7_noPlan_0 rfl (lv_at hl 0 rfl) ?_
  refine sx_iload_n C0 dX7_noPlan_1 rfl (lv_at hl 1 rfl) ?_
  refine pf_X7_226 C0 is7 dX7_noPlan_2 (fun S2 => ?_)
  refine sx_iconst (v := 0) C0 dX7_noPlan_5 (by decide) ?_
  refine sx_istore_n (lv' := [(2, .int (0 : Int32)), (0, .ref (ad 0)), (1, .int v1)]) C0 dX7_noPlan_6 rfl hl (by decide) rfl (fun ls hl => ?_)
  exact lX7_noPlan_7_t C0 _ _ _ _ _ (lv_sub hl [1, 2, 0] rfl)
abbrev rm_X7_isStarved : Room := { frames := 5, cells := 0, slots := 0, locals := 111 }
def bX7_isStarved_37    (S : vS)   : Option Int32 := (some (0 : Int32))
set_option maxHeartbeats 4000000 in
set_option maxRecDepth 100000 in
theorem bX7_isStarved_37_t {p : Program} {l : Launch} {e : Env} {s : State} {m : MethodId} {args : Array Value} {below : List Frame} {meth : Method} {c : Code} {D : va_G} {cA : Nat → ClassId} {ad : Nat → Nat}   (C0 : Cx D vwCl tlM shM cA ad ExM RX7 cX7_isStarved 3 (some .boolean) p s m args meth c)  (S : vS)  (ls : Array Slot) (hl : lv_has ls 3 []) : SW p l e rm_X7_isStarved s m args below meth c D vwCl shM cA ad (Fq D vwCl shM cA ad below args s (fun r => some (.int r) : Int32 → Option Value) (fun _ => S) (fun r => isB r)) (bX7_isStarved_37 S) S 37 ls [] := by
  rw [bX7_isStarved_37]
  refine sx_iconst (v := 0) C0 dX7_isStarved_37 (by decide) ?_
  exact sx_zret C0 rfl rfl (Or.inl rfl) (Or.inl rfl) dX7_isStarved_38
def mX7_isStarved (S : vS) (v1 : Int32) (v2 : Int32) : Option Int32 := (if (S.1 0 34) = (-9 : Int32) then (bX7_isStarved_37 S) else (if v2 = (12 : Int32) then (bX7_isStarved_37 S) else ((mX7_fedBy S v1 (v2 / (3 : Int32))).bind fun a20 => (if (mX7_has a20 (S.1 0 34)) = 0 then (bX7_isStarved_37 S) else (some (1 : Int32))))))
set_option maxHeartbeats 4000000 in
set_option maxRecDepth 100000 in
theorem c_X7_isStarved {l : Launch} {D : va_G} {cA : Nat → ClassId} {ad : Nat → Nat} (G : Gx shM ad ExM) (v1 : Int32) (v2 : Int32) (S : vS) (r : Int32) (hr : (mX7_isStarved S v1 v2) = some r) : Met l yX7_isStarved (Cond.code yX7_isStarved cX7_isStarved 3 (some .boolean) :: ALL) rm_X7_isStarved (Po D vwCl tlM shM cA ad ExM [.ref (ad 0), .int v1, .int v2] S) (Qo D vwCl shM cA ad (some (.int r)) S (isB r)) 0 0 (aw shM ad) := by
  refine Met.sx (M := (mX7_isStarved S v1 v2)) (rv := (fun r => some (.int r) : Int32 → Option Value)) (rs := fun _ => S) (B := fun r => isB r) (by decide) ⟨rfl, rfl⟩ (Nat.le_of_ble_eq_true rfl) G (fun p e s m args below meth c C0 ls hl => ?_) hr
  have hl : lv_has ls 3 [(0, .ref (ad 0)), (1, .int v1), (2, .int v2)] := hl
  rw [mX7_isStarved]
  refine sx_aload_n C0 dX7_isStarved_0 rfl (lv_at hl 0 rfl) ?_
  refine gf_X7_63 C0 is7 dX7_isStarved_1 ?_
  refine sx_bipush (v := (-9)) C0 dX7_isStarved_4 (by decide) ?_
  refine sx_icmp_eq (tgt := 37) C0 dX7_isStarved_6 (by decide) (fun _ => ?_) (fun _ => ?_)
  · exact bX7_isStarved_37_t C0 _ _ (lv_sub hl [] rfl)
  · refine sx_iload_n C0 dX7_isStarved_9 rfl (lv_at hl 2 rfl) ?_
    refine sx_bipush (v := 12) C0 dX7_isStarved_10 (by decide) ?_
    refine sx_icmp_eq (tgt := 37) C0 dX7_isStarved_12 (by decide) (fun _ => ?_) (fun _ => ?_)
    · exact bX7_isStarved_37_t C0 _ _ (lv_sub hl [] rfl)
    · refine sx_aload_n C0 dX7_isStarved_15 rfl (lv_at hl 0 rfl) ?_
      refine sx_iload_n C0 dX7_isStarved_16 rfl (lv_at hl 1 rfl) ?_
      refine sx_iload_n C0 dX7_isStarved_17 rfl (lv_at hl 2 rfl) ?_
      refine sx_iconst (v := 3) C0 dX7_isStarved_18 (by decide) ?_
      refine sx_idiv C0 dX7_isStarved_19 (by decide) ?_
      refine sw_bind (fun a20 e20 => ?_)
      refine cv_X7_168 (As := [.int v1, .int (v2 / (3 : Int32))]) C0 (c_X7_fedBy C0.2.2.2.2.2.2.2.1 v1 (v2 / (3 : Int32)) S _ e20) is7 ⟨rfl, rfl⟩ ⟨Nat.le_of_ble_eq_true rfl, Nat.le_of_ble_eq_true rfl⟩ rfl hl.1 (Nat.le_of_ble_eq_true rfl) rfl dX7_isStarved_20 (fun _ => ?_)
      refine sx_aload_n C0 dX7_isStarved_23 rfl (lv_at hl 0 rfl) ?_
      refine gf_X7_63 C0 is7 dX7_isStarved_24 ?_
      refine cv_X7_174 (As := [.int a20, .int (S.1 0 34)]) C0 (c_X7_has C0.2.2.2.2.2.2.2.1 a20 (S.1 0 34) S) ⟨rfl, rfl⟩ ⟨Nat.le_of_ble_eq_true rfl, Nat.le_of_ble_eq_true rfl⟩ rfl hl.1 (Nat.le_of_ble_eq_true rfl) rfl dX7_isStarved_27 (fun hb27 => ?_)
      refine sx_if_eq (tgt := 37) C0 dX7_isStarved_30 (by decide) (fun _ => ?_) (fun _ => ?_)
      · exact bX7_isStarved_37_t C0 _ _ (lv_sub hl [] rfl)
      · refine sx_iconst (v := 1) C0 dX7_isStarved_33 (by decide) ?_
        refine sx_goto (tgt := 38) C0 dX7_isStarved_34 (by decide) ?_
        exact sx_zret C0 rfl rfl (Or.inr rfl) (Or.inr rfl) dX7_isStarved_38
abbrev rm_X7_layPlan : Room := { frames := 7, cells := 0, slots := 0, locals := 158 }
def bX7_layPlan_133    (S : vS)   : Option (Int32 × vS) := (lt (wI S 0 32 ((S.1 0 30) + (S.1 0 31))) fun S143 => (some ((S143.1 0 29), S143)))
set_option maxHeartbeats 4000000 in
set_option maxRecDepth 100000 in
theorem bX7_layPlan_133_t {p : Program} {l : Launch} {e : Env} {s : State} {m : MethodId} {args : Array Value} {below : List Frame} {meth : Method} {c : Code} {D : va_G} {cA : Nat → ClassId} {ad : Nat → Nat}   (C0 : Cx D vwCl tlM shM cA ad ExM RX7 cX7_layPlan 2 (some .int) p s m args meth c)  (S : vS)  (ls : Array Slot) (hl : lv_has ls 2 [(0, .ref (ad 0))]) : SW p l e rm_X7_layPlan s m args below meth c D vwCl shM cA ad (Fq D vwCl shM cA ad below args s (fun q => some (.int q.1) : (Int32 × vS) → Option Value) (fun q => q.2) (fun _ => True)) (bX7_layPlan_133 S) S 133 ls [] := by
  rw [bX7_layPlan_133]
  refine sx_aload_n C0 dX7_layPlan_133 rfl (lv_at hl 0 rfl) ?_
  refine sx_aload_n C0 dX7_layPlan_134 rfl (lv_at hl 0 rfl) ?_
  refine gf_X7_237 C0 is7 dX7_layPlan_135 ?_
  refine sx_aload_n C0 dX7_layPlan_138 rfl (lv_at hl 0 rfl) ?_
  refine gf_X7_240 C0 is7 dX7_layPlan_139 ?_
  refine sx_iadd C0 dX7_layPlan_142 ?_
  refine pf_X7_249 C0 is7 dX7_layPlan_143 (fun S143 => ?_)
  refine sx_aload_n C0 dX7_layPlan_146 rfl (lv_at hl 0 rfl) ?_
  refine gf_X7_226 C0 is7 dX7_layPlan_147 ?_
  exact sx_iret C0 rfl rfl trivial dX7_layPlan_150
def lX7_layPlan_23     : Nat → vS → Int32 → Option (Int32 × vS)
  | 0, _, _ => none
  | n + 1, S, v1 => (if (S.1 0 29) ≤ v1 then (bX7_layPlan_133 S) else ((gI (S.1 17) 4 v1).bind fun a37 => (if (mX7_isNumber S a37) = 0 then (some (v1, S)) else ((gI (S.1 17) 4 v1).bind fun a51 => ((mX7_costOf S (1 : Int32) a51).bind fun a52 => (if a52 = (-9 : Int32) then (some (v1, S)) else ((gI (S.1 17) 4 v1).bind fun a67 => ((mX7_isStarved S (1 : Int32) a67).bind fun a68 => (if a68 = 0 then ((gI (S.1 17) 4 v1).bind fun a83 => ((mX7_goes S (1 : Int32) a83).bind fun q84 => (lt (wI q84.2 0 30 ((q84.2.1 0 30) + (q84.2.1 0 20))) fun S98 => (lt (wI S98 0 31 ((S98.1 0 31) + (S98.1 0 21))) fun S111 => (lt (wI S111 0 33 ((S111.1 0 33) + (S111.1 0 22))) fun S124 => ((lX7_layPlan_23 n) S124 (v1 + (1 : Int32)))))))) else (some (v1, S)))))))))))
set_option maxHeartbeats 4000000 in
set_option maxRecDepth 100000 in
theorem lX7_layPlan_23_t {p : Program} {l : Launch} {e : Env} {s : State} {m : MethodId} {args : Array Value} {below : List Frame} {meth : Method} {c : Code} {D : va_G} {cA : Nat → ClassId} {ad : Nat → Nat}   (C0 : Cx D vwCl tlM shM cA ad ExM RX7 cX7_layPlan 2 (some .int) p s m args meth c)     : ∀ (n : Nat) (S : vS) (v1 : Int32) (ls : Array Slot), lv_has ls 2 [(0, .ref (ad 0)), (1, .int v1)] → SW p l e rm_X7_layPlan s m args below meth c D vwCl shM cA ad (Fq D vwCl shM cA ad below args s (fun q => some (.int q.1) : (Int32 × vS) → Option Value) (fun q => q.2) (fun _ => True)) (lX7_layPlan_23 n S v1) S 23 ls [] := by
  intro n
  induction n with
  | zero =>
    intro S v1 ls hl
    rw [lX7_layPlan_23]
    exact sw_none
  | succ n ih =>
    intro S v1 ls hl
    rw [lX7_layPlan_23]
    refine sx_iload_n C0 dX7_layPlan_23 rfl (lv_at hl 1 rfl) ?_
    refine sx_aload_n C0 dX7_layPlan_24 rfl (lv_at hl 0 rfl) ?_
    refine gf_X7_226 C0 is7 dX7_layPlan_25 ?_
    refine sx_icmp_ge (tgt := 133) C0 dX7_layPlan_28 (by decide) (fun _ => ?_) (fun _ => ?_)
    · exact bX7_layPlan_133_t C0 _ _ (lv_sub hl [0] rfl)
    · refine sx_aload_n C0 dX7_layPlan_31 rfl (lv_at hl 0 rfl) ?_
      refine sx_aload_n C0 dX7_layPlan_32 rfl (lv_at hl 0 rfl) ?_
      refine gf_X7_60 C0 is7 dX7_layPlan_33 ?_
      refine sx_iload_n C0 dX7_layPlan_36 rfl (lv_at hl 1 rfl) ?_
      refine sx_iald C0 is7_plan rfl dX7_layPlan_37 (fun a37 => ?_)
      refine cv_X7_217 (As := [.int a37]) C0 (c_X7_isNumber C0.2.2.2.2.2.2.2.1 a37 S) is7 ⟨rfl, rfl⟩ ⟨Nat.le_of_ble_eq_true rfl, Nat.le_of_ble_eq_true rfl⟩ rfl hl.1 (Nat.le_of_ble_eq_true rfl) rfl dX7_layPlan_38 (fun hb38 => ?_)
      refine sx_if_eq (tgt := 74) C0 dX7_layPlan_41 (by decide) (fun _ => ?_) (fun _ => ?_)
      · refine sx_iload_n C0 dX7_layPlan_74 rfl (lv_at hl 1 rfl) ?_
        exact sx_iret C0 rfl rfl trivial dX7_layPlan_75
      · refine sx_aload_n C0 dX7_layPlan_44 rfl (lv_at hl 0 rfl) ?_
        refine sx_iconst (v := 1) C0 dX7_layPlan_45 (by decide) ?_
        refine sx_aload_n C0 dX7_layPlan_46 rfl (lv_at hl 0 rfl) ?_
        refine gf_X7_60 C0 is7 dX7_layPlan_47 ?_
        refine sx_iload_n C0 dX7_layPlan_50 rfl (lv_at hl 1 rfl) ?_
        refine sx_iald C0 is7_plan rfl dX7_layPlan_51 (fun a51 => ?_)
        refine sw_bind (fun a52 e52 => ?_)
        refine cv_X7_195 (As := [.int (1 : Int32), .int a51]) C0 (c_X7_costOf C0.2.2.2.2.2.2.2.1 (1 : Int32) a51 S _ e52) is7 ⟨rfl, rfl⟩ ⟨Nat.le_of_ble_eq_true rfl, Nat.le_of_ble_eq_true rfl⟩ rfl hl.1 (Nat.le_of_ble_eq_true rfl) rfl dX7_layPlan_52 (fun _ => ?_)
        refine sx_bipush (v := (-9)) C0 dX7_layPlan_55 (by decide) ?_
        refine sx_icmp_eq (tgt := 74) C0 dX7_layPlan_57 (by decide) (fun _ => ?_) (fun _ => ?_)
        · refine sx_iload_n C0 dX7_layPlan_74 rfl (lv_at hl 1 rfl) ?_
          exact sx_iret C0 rfl rfl trivial dX7_layPlan_75
        · refine sx_aload_n C0 dX7_layPlan_60 rfl (lv_at hl 0 rfl) ?_
          refine sx_iconst (v := 1) C0 dX7_layPlan_61 (by decide) ?_
          refine sx_aload_n C0 dX7_layPlan_62 rfl (lv_at hl 0 rfl) ?_
          refine gf_X7_60 C0 is7 dX7_layPlan_63 ?_
          refine sx_iload_n C0 dX7_layPlan_66 rfl (lv_at hl 1 rfl) ?_
          refine sx_iald C0 is7_plan rfl dX7_layPlan_67 (fun a67 => ?_)
          refine sw_bind (fun a68 e68 => ?_)
          refine cv_X7_246 (As := [.int (1 : Int32), .int a67]) C0 (c_X7_isStarved C0.2.2.2.2.2.2.2.1 (1 : Int32) a67 S _ e68) is7 ⟨rfl, rfl⟩ ⟨Nat.le_of_ble_eq_true rfl, Nat.le_of_ble_eq_true rfl⟩ rfl hl.1 (Nat.le_of_ble_eq_true rfl) rfl dX7_layPlan_68 (fun hb68 => ?_)
          refine sx_if_eq (tgt := 76) C0 dX7_layPlan_71 (by decide) (fun _ => ?_) (fun _ => ?_)
          · refine sx_aload_n C0 dX7_layPlan_76 rfl (lv_at hl 0 rfl) ?_
            refine sx_iconst (v := 1) C0 dX7_layPlan_77 (by decide) ?_
            refine sx_aload_n C0 dX7_layPlan_78 rfl (lv_at hl 0 rfl) ?_
            refine gf_X7_60 C0 is7 dX7_layPlan_79 ?_
            refine sx_iload_n C0 dX7_layPlan_82 rfl (lv_at hl 1 rfl) ?_
            refine sx_iald C0 is7_plan rfl dX7_layPlan_83 (fun a83 => ?_)
            refine sw_bind (fun q84 e84 => ?_)
            refine cv_X7_214 (As := [.int (1 : Int32), .int a83]) C0 (c_X7_goes C0.2.2.2.2.2.2.2.1 (1 : Int32) a83 S _ e84) is7 ⟨rfl, rfl⟩ ⟨Nat.le_of_ble_eq_true rfl, Nat.le_of_ble_eq_true rfl⟩ rfl hl.1 (Nat.le_of_ble_eq_true rfl) rfl dX7_layPlan_84 (fun hb84 => ?_)
            refine sx_pop C0 dX7_layPlan_87 rfl ?_
            refine sx_aload_n C0 dX7_layPlan_88 rfl (lv_at hl 0 rfl) ?_
            refine sx_dup C0 dX7_layPlan_89 rfl ?_
            refine gf_X7_237 C0 is7 dX7_layPlan_90 ?_
            refine sx_aload_n C0 dX7_layPlan_93 rfl (lv_at hl 0 rfl) ?_
            refine gf_X7_186 C0 is7 dX7_layPlan_94 ?_
            refine sx_iadd C0 dX7_layPlan_97 ?_
            refine pf_X7_237 C0 is7 dX7_layPlan_98 (fun S98 => ?_)
            refine sx_aload_n C0 dX7_layPlan_101 rfl (lv_at hl 0 rfl) ?_
            refine sx_dup C0 dX7_layPlan_102 rfl ?_
            refine gf_X7_240 C0 is7 dX7_layPlan_103 ?_
            refine sx_aload_n C0 dX7_layPlan_106 rfl (lv_at hl 0 rfl) ?_
            refine gf_X7_189 C0 is7 dX7_layPlan_107 ?_
            refine sx_iadd C0 dX7_layPlan_110 ?_
            refine pf_X7_240 C0 is7 dX7_layPlan_111 (fun S111 => ?_)
            refine sx_aload_n C0 dX7_layPlan_114 rfl (lv_at hl 0 rfl) ?_
            refine sx_dup C0 dX7_layPlan_115 rfl ?_
            refine gf_X7_243 C0 is7 dX7_layPlan_116 ?_
            refine sx_aload_n C0 dX7_layPlan_119 rfl (lv_at hl 0 rfl) ?_
            refine gf_X7_198 C0 is7 dX7_layPlan_120 ?_
            refine sx_iadd C0 dX7_layPlan_123 ?_
            refine pf_X7_243 C0 is7 dX7_layPlan_124 (fun S124 => ?_)
            refine sx_iinc (v := (v1 + (1 : Int32))) (lv' := [(1, .int (v1 + (1 : Int32))), (0, .ref (ad 0))]) C0 dX7_layPlan_127 hl (k := 1) rfl rfl (by decide) rfl (fun ls hl => ?_)
            refine sx_goto (tgt := 23) C0 dX7_layPlan_130 (by decide) ?_
            exact ih _ _ _ (lv_sub hl [1, 0] rfl)
          · refine sx_iload_n C0 dX7_layPlan_74 rfl (lv_at hl 1 rfl) ?_
            exact sx_iret C0 rfl rfl trivial dX7_layPlan_75
def mX7_layPlan (S : vS)  : Option (Int32 × vS) := ((mX7_copyValley S (0 : Int32) (1 : Int32)).bind fun S3 => (lt (wI S3 0 30 (0 : Int32)) fun S8 => (lt (wI S8 0 31 (0 : Int32)) fun S13 => (lt (wI S13 0 33 (0 : Int32)) fun S18 => (lX7_layPlan_23 FU S18 (0 : Int32))))))
set_option maxHeartbeats 4000000 in
set_option maxRecDepth 100000 in
theorem c_X7_layPlan {l : Launch} {D : va_G} {cA : Nat → ClassId} {ad : Nat → Nat} (G : Gx shM ad ExM)  (S : vS) (r : (Int32 × vS)) (hr : (mX7_layPlan S) = some r) : Met l yX7_layPlan (Cond.code yX7_layPlan cX7_layPlan 2 (some .int) :: ALL) rm_X7_layPlan (Po D vwCl tlM shM cA ad ExM [.ref (ad 0)] S) (Qo D vwCl shM cA ad (some (.int r.1)) r.2 True) 0 0 (aw shM ad) := by
  refine Met.sx (M := (mX7_layPlan S)) (rv := (fun q => some (.int q.1) : (Int32 × vS) → Option Value)) (rs := fun q => q.2) (B := fun _ => True) (by decide) ⟨rfl, rfl⟩ (Nat.le_of_ble_eq_true rfl) G (fun p e s m args below meth c C0 ls hl => ?_) hr
  have hl : lv_has ls 2 [(0, .ref (ad 0))] := hl
  rw [mX7_layPlan]
  refine sx_aload_n C0 dX7_layPlan_0 rfl (lv_at hl 0 rfl) ?_
  refine sx_iconst (v := 0) C0 dX7_layPlan_1 (by decide) ?_
  refine sx_iconst (v := 1) C0 dX7_layPlan_2 (by decide) ?_
  refine sw_bind (fun S3 e3 => ?_)
  refine cv_X7_233 (As := [.int (0 : Int32), .int (1 : Int32)]) C0 (c_X7_copyValley C0.2.2.2.2.2.2.2.1 (0 : Int32) (1 : Int32) S _ e3) is7 ⟨rfl, rfl⟩ ⟨Nat.le_of_ble_eq_true rfl, Nat.le_of_ble_eq_true rfl⟩ rfl hl.1 (Nat.le_of_ble_eq_true rfl) rfl dX7_layPlan_3 (fun _ => ?_)
  refine sx_aload_n C0 dX7_layPlan_6 rfl (lv_at hl 0 rfl) ?_
  refine sx_iconst (v := 0) C0 dX7_layPlan_7 (by decide) ?_
  refine pf_X7_237 C0 is7 dX7_layPlan_8 (fun S8 => ?_)
  refine sx_aload_n C0 dX7_layPlan_11 rfl (lv_at hl 0 rfl) ?_
  refine sx_iconst (v := 0) C0 dX7_layPlan_12 (by decide) ?_
  refine pf_X7_240 C0 is7 dX7_layPlan_13 (fun S13 => ?_)
  refine sx_aload_n C0 dX7_layPlan_16 rfl (lv_at hl 0 rfl) ?_
  refine sx_iconst (v := 0) C0 dX7_layPlan_17 (by decide) ?_
  refine pf_X7_243 C0 is7 dX7_layPlan_18 (fun S18 => ?_)
  refine sx_iconst (v := 0) C0 dX7_layPlan_21 (by decide) ?_
  refine sx_istore_n (lv' := [(1, .int (0 : Int32)), (0, .ref (ad 0))]) C0 dX7_layPlan_22 rfl hl (by decide) rfl (fun ls hl => ?_)
  exact lX7_layPlan_23_t C0 _ _ _ _ (lv_sub hl [1, 0] rfl)
abbrev rm_X7_nextPlan : Room := { frames := 8, cells := 0, slots := 0, locals := 179 }
def bX7_nextPlan_104   (K7 : vS → Int32 → Option (Int32 × vS)) (S : vS)   : Option (Int32 × vS) := (lt ((S.1 0 29) - (1 : Int32)) fun v1_110 => (K7 S v1_110))
set_option maxHeartbeats 4000000 in
set_option maxRecDepth 100000 in
theorem bX7_nextPlan_104_t {p : Program} {l : Launch} {e : Env} {s : State} {m : MethodId} {args : Array Value} {below : List Frame} {meth : Method} {c : Code} {D : va_G} {cA : Nat → ClassId} {ad : Nat → Nat} {K7 : vS → Int32 → Option (Int32 × vS)}  (C0 : Cx D vwCl tlM shM cA ad ExM RX7 cX7_nextPlan 4 (some .boolean) p s m args meth c)  (S : vS)  (hK7 : ∀ (S : vS) (v1 : Int32) (ls : Array Slot), lv_has ls 4 [(0, .ref (ad 0)), (1, .int v1)] → SW p l e rm_X7_nextPlan s m args below meth c D vwCl shM cA ad (Fq D vwCl shM cA ad below args s (fun q => some (.int q.1) : (Int32 × vS) → Option Value) (fun q => q.2) (fun q => isB q.1)) (K7 S v1) S 7 ls []) (ls : Array Slot) (hl : lv_has ls 4 [(0, .ref (ad 0))]) : SW p l e rm_X7_nextPlan s m args below meth c D vwCl shM cA ad (Fq D vwCl shM cA ad below args s (fun q => some (.int q.1) : (Int32 × vS) → Option Value) (fun q => q.2) (fun q => isB q.1)) (bX7_nextPlan_104 K7 S) S 104 ls [] := by
  rw [bX7_nextPlan_104]
  refine sx_aload_n C0 dX7_nextPlan_104 rfl (lv_at hl 0 rfl) ?_
  refine gf_X7_226 C0 is7 dX7_nextPlan_105 ?_
  refine sx_iconst (v := 1) C0 dX7_nextPlan_108 (by decide) ?_
  refine sx_isub C0 dX7_nextPlan_109 ?_
  refine sw_lt (val := .int) (fun v1_110 => ?_)
  refine sx_istore_n (lv' := [(1, .int v1_110), (0, .ref (ad 0))]) C0 dX7_nextPlan_110 rfl hl (by decide) rfl (fun ls hl => ?_)
  refine sx_goto (tgt := 7) C0 dX7_nextPlan_111 (by decide) ?_
  exact hK7 _ _ _ (lv_sub hl [1, 0] rfl)
def lX7_nextPlan_82   (K7 : vS → Int32 → Option (Int32 × vS))  : Nat → vS → Int32 → Option (Int32 × vS)
  | 0, _, _ => none
  | n + 1, S, v3 => (if (S.1 0 29) ≤ v3 then (bX7_nextPlan_104 K7 S) else ((pI S 17 4 v3 (12 : Int32)).bind fun S97 => ((lX7_nextPlan_82 K7 n) S97 (v3 + (1 : Int32)))))
set_option maxHeartbeats 4000000 in
set_option maxRecDepth 100000 in
theorem lX7_nextPlan_82_t {p : Program} {l : Launch} {e : Env} {s : State} {m : MethodId} {args : Array Value} {below : List Frame} {meth : Method} {c : Code} {D : va_G} {cA : Nat → ClassId} {ad : Nat → Nat} {K7 : vS → Int32 → Option (Int32 × vS)}  (C0 : Cx D vwCl tlM shM cA ad ExM RX7 cX7_nextPlan 4 (some .boolean) p s m args meth c)    (hK7 : ∀ (S : vS) (v1 : Int32) (ls : Array Slot), lv_has ls 4 [(0, .ref (ad 0)), (1, .int v1)] → SW p l e rm_X7_nextPlan s m args below meth c D vwCl shM cA ad (Fq D vwCl shM cA ad below args s (fun q => some (.int q.1) : (Int32 × vS) → Option Value) (fun q => q.2) (fun q => isB q.1)) (K7 S v1) S 7 ls []) : ∀ (n : Nat) (S : vS) (v3 : Int32) (ls : Array Slot), lv_has ls 4 [(0, .ref (ad 0)), (3, .int v3)] → SW p l e rm_X7_nextPlan s m args below meth c D vwCl shM cA ad (Fq D vwCl shM cA ad below args s (fun q => some (.int q.1) : (Int32 × vS) → Option Value) (fun q => q.2) (fun q => isB q.1)) (lX7_nextPlan_82 K7 n S v3) S 82 ls [] := by
  intro n
  induction n with
  | zero =>
    intro S v3 ls hl
    rw [lX7_nextPlan_82]
    exact sw_none
  | succ n ih =>
    intro S v3 ls hl
    rw [lX7_nextPlan_82]
    refine sx_iload_n C0 dX7_nextPlan_82 rfl (lv_at hl 1 rfl) ?_
    refine sx_aload_n C0 dX7_nextPlan_83 rfl (lv_at hl 0 rfl) ?_
    refine gf_X7_226 C0 is7 dX7_nextPlan_84 ?_
    refine sx_icmp_ge (tgt := 104) C0 dX7_nextPlan_87 (by decide) (fun _ => ?_) (fun _ => ?_)
    · exact bX7_nextPlan_104_t C0 _ hK7 _ (lv_sub hl [0] rfl)
    · refine sx_aload_n C0 dX7_nextPlan_90 rfl (lv_at hl 0 rfl) ?_
      refine gf_X7_60 C0 is7 dX7_nextPlan_91 ?_
      refine sx_iload_n C0 dX7_nextPlan_94 rfl (lv_at hl 1 rfl) ?_
      refine sx_bipush (v := 12) C0 dX7_nextPlan_95 (by decide) ?_
      refine sx_iast C0 is7_plan rfl dX7_nextPlan_97 (fun S97 => ?_)
      refine sx_iinc (v := (v3 + (1 : Int32))) (lv' := [(3, .int (v3 + (1 : Int32))), (0, .ref (ad 0))]) C0 dX7_nextPlan_98 hl (k := 1) rfl rfl (by decide) rfl (fun ls hl => ?_)
      refine sx_goto (tgt := 82) C0 dX7_nextPlan_101 (by decide) ?_
      exact ih _ _ _ (lv_sub hl [1, 0] rfl)
def bX7_nextPlan_63   (K7 : vS → Int32 → Option (Int32 × vS)) (S : vS)   : Option (Int32 × vS) := ((mX7_layPlan S).bind fun q64 => (lt q64.1 fun v2_67 => (if v2_67 = (q64.2.1 0 29) then (some ((1 : Int32), q64.2)) else (lt (v2_67 + (1 : Int32)) fun v3_81 => (lX7_nextPlan_82 K7 FU q64.2 v3_81)))))
set_option maxHeartbeats 4000000 in
set_option maxRecDepth 100000 in
theorem bX7_nextPlan_63_t {p : Program} {l : Launch} {e : Env} {s : State} {m : MethodId} {args : Array Value} {below : List Frame} {meth : Method} {c : Code} {D : va_G} {cA : Nat → ClassId} {ad : Nat → Nat} {K7 : vS → Int32 → Option (Int32 × vS)}  (C0 : Cx D vwCl tlM shM cA ad ExM RX7 cX7_nextPlan 4 (some .boolean) p s m args meth c)  (S : vS)  (hK7 : ∀ (S : vS) (v1 : Int32) (ls : Array Slot), lv_has ls 4 [(0, .ref (ad 0)), (1, .int v1)] → SW p l e rm_X7_nextPlan s m args below meth c D vwCl shM cA ad (Fq D vwCl shM cA ad below args s (fun q => some (.int q.1) : (Int32 × vS) → Option Value) (fun q => q.2) (fun q => isB q.1)) (K7 S v1) S 7 ls []) (ls : Array Slot) (hl : lv_has ls 4 [(0, .ref (ad 0))]) : SW p l e rm_X7_nextPlan s m args below meth c D vwCl shM cA ad (Fq D vwCl shM cA ad below args s (fun q => some (.int q.1) : (Int32 × vS) → Option Value) (fun q => q.2) (fun q => isB q.1)) (bX7_nextPlan_63 K7 S) S 63 ls [] := by
  rw [bX7_nextPlan_63]
  refine sx_aload_n C0 dX7_nextPlan_63 rfl (lv_at hl 0 rfl) ?_
  refine sw_bind (fun q64 e64 => ?_)
  refine cv_X7_229 (As := []) C0 (c_X7_layPlan C0.2.2.2.2.2.2.2.1 S _ e64) is7 ⟨rfl, rfl⟩ ⟨Nat.le_of_ble_eq_true rfl, Nat.le_of_ble_eq_true rfl⟩ rfl hl.1 (Nat.le_of_ble_eq_true rfl) rfl dX7_nextPlan_64 (fun _ => ?_)
  refine sw_lt (val := .int) (fun v2_67 => ?_)
  refine sx_istore_n (lv' := [(2, .int v2_67), (0, .ref (ad 0))]) C0 dX7_nextPlan_67 rfl hl (by decide) rfl (fun ls hl => ?_)
  refine sx_iload_n C0 dX7_nextPlan_68 rfl (lv_at hl 0 rfl) ?_
  refine sx_aload_n C0 dX7_nextPlan_69 rfl (lv_at hl 1 rfl) ?_
  refine gf_X7_226 C0 is7 dX7_nextPlan_70 ?_
  refine sx_icmp_ne (tgt := 78) C0 dX7_nextPlan_73 (by decide) (fun _ => ?_) (fun _ => ?_)
  · refine sx_iconst (v := 1) C0 dX7_nextPlan_76 (by decide) ?_
    exact sx_zret C0 rfl rfl (Or.inr rfl) (Or.inr rfl) dX7_nextPlan_77
  · refine sx_iload_n C0 dX7_nextPlan_78 rfl (lv_at hl 0 rfl) ?_
    refine sx_iconst (v := 1) C0 dX7_nextPlan_79 (by decide) ?_
    refine sx_iadd C0 dX7_nextPlan_80 ?_
    refine sw_lt (val := .int) (fun v3_81 => ?_)
    refine sx_istore_n (lv' := [(3, .int v3_81), (2, .int v2_67), (0, .ref (ad 0))]) C0 dX7_nextPlan_81 rfl hl (by decide) rfl (fun ls hl => ?_)
    exact lX7_nextPlan_82_t C0 hK7 _ _ _ _ (lv_sub hl [2, 0] rfl)
def lX7_nextPlan_42   (K7 : vS → Int32 → Option (Int32 × vS))  : Nat → vS → Int32 → Option (Int32 × vS)
  | 0, _, _ => none
  | n + 1, S, v2 => (if (S.1 0 29) ≤ v2 then (bX7_nextPlan_63 K7 S) else ((pI S 17 4 v2 (0 : Int32)).bind fun S56 => ((lX7_nextPlan_42 K7 n) S56 (v2 + (1 : Int32)))))
set_option maxHeartbeats 4000000 in
set_option maxRecDepth 100000 in
theorem lX7_nextPlan_42_t {p : Program} {l : Launch} {e : Env} {s : State} {m : MethodId} {args : Array Value} {below : List Frame} {meth : Method} {c : Code} {D : va_G} {cA : Nat → ClassId} {ad : Nat → Nat} {K7 : vS → Int32 → Option (Int32 × vS)}  (C0 : Cx D vwCl tlM shM cA ad ExM RX7 cX7_nextPlan 4 (some .boolean) p s m args meth c)    (hK7 : ∀ (S : vS) (v1 : Int32) (ls : Array Slot), lv_has ls 4 [(0, .ref (ad 0)), (1, .int v1)] → SW p l e rm_X7_nextPlan s m args below meth c D vwCl shM cA ad (Fq D vwCl shM cA ad below args s (fun q => some (.int q.1) : (Int32 × vS) → Option Value) (fun q => q.2) (fun q => isB q.1)) (K7 S v1) S 7 ls []) : ∀ (n : Nat) (S : vS) (v2 : Int32) (ls : Array Slot), lv_has ls 4 [(0, .ref (ad 0)), (2, .int v2)] → SW p l e rm_X7_nextPlan s m args below meth c D vwCl shM cA ad (Fq D vwCl shM cA ad below args s (fun q => some (.int q.1) : (Int32 × vS) → Option Value) (fun q => q.2) (fun q => isB q.1)) (lX7_nextPlan_42 K7 n S v2) S 42 ls [] := by
  intro n
  induction n with
  | zero =>
    intro S v2 ls hl
    rw [lX7_nextPlan_42]
    exact sw_none
  | succ n ih =>
    intro S v2 ls hl
    rw [lX7_nextPlan_42]
    refine sx_iload_n C0 dX7_nextPlan_42 rfl (lv_at hl 1 rfl) ?_
    refine sx_aload_n C0 dX7_nextPlan_43 rfl (lv_at hl 0 rfl) ?_
    refine gf_X7_226 C0 is7 dX7_nextPlan_44 ?_
    refine sx_icmp_ge (tgt := 63) C0 dX7_nextPlan_47 (by decide) (fun _ => ?_) (fun _ => ?_)
    · exact bX7_nextPlan_63_t C0 _ hK7 _ (lv_sub hl [0] rfl)
    · refine sx_aload_n C0 dX7_nextPlan_50 rfl (lv_at hl 0 rfl) ?_
      refine gf_X7_60 C0 is7 dX7_nextPlan_51 ?_
      refine sx_iload_n C0 dX7_nextPlan_54 rfl (lv_at hl 1 rfl) ?_
      refine sx_iconst (v := 0) C0 dX7_nextPlan_55 (by decide) ?_
      refine sx_iast C0 is7_plan rfl dX7_nextPlan_56 (fun S56 => ?_)
      refine sx_iinc (v := (v2 + (1 : Int32))) (lv' := [(2, .int (v2 + (1 : Int32))), (0, .ref (ad 0))]) C0 dX7_nextPlan_57 hl (k := 1) rfl rfl (by decide) rfl (fun ls hl => ?_)
      refine sx_goto (tgt := 42) C0 dX7_nextPlan_60 (by decide) ?_
      exact ih _ _ _ (lv_sub hl [1, 0] rfl)
def lX7_nextPlan_7     : Nat → vS → Int32 → Option (Int32 × vS)
  | 0, _, _ => none
  | n + 1, S, v1 => (if v1 < 0 then (some ((0 : Int32), S)) else ((gI (S.1 17) 4 v1).bind fun a17 => ((pI S 17 4 v1 (a17 + (1 : Int32))).bind fun S20 => ((gI (S20.1 17) 4 v1).bind fun a26 => (if a26 ≤ (12 : Int32) then (lt (v1 + (1 : Int32)) fun v2_41 => (lX7_nextPlan_42 (lX7_nextPlan_7 n) FU S20 v2_41)) else ((lX7_nextPlan_7 n) S20 (v1 + (-1 : Int32))))))))
set_option maxHeartbeats 4000000 in
set_option maxRecDepth 100000 in
theorem lX7_nextPlan_7_t {p : Program} {l : Launch} {e : Env} {s : State} {m : MethodId} {args : Array Value} {below : List Frame} {meth : Method} {c : Code} {D : va_G} {cA : Nat → ClassId} {ad : Nat → Nat}   (C0 : Cx D vwCl tlM shM cA ad ExM RX7 cX7_nextPlan 4 (some .boolean) p s m args meth c)     : ∀ (n : Nat) (S : vS) (v1 : Int32) (ls : Array Slot), lv_has ls 4 [(0, .ref (ad 0)), (1, .int v1)] → SW p l e rm_X7_nextPlan s m args below meth c D vwCl shM cA ad (Fq D vwCl shM cA ad below args s (fun q => some (.int q.1) : (Int32 × vS) → Option Value) (fun q => q.2) (fun q => isB q.1)) (lX7_nextPlan_7 n S v1) S 7 ls [] := by
  intro n
  induction n with
  | zero =>
    intro S v1 ls hl
    rw [lX7_nextPlan_7]
    exact sw_none
  | succ n ih =>
    intro S v1 ls hl
    rw [lX7_nextPlan_7]
    refine sx_iload_n C0 dX7_nextPlan_7 rfl (lv_at hl 1 rfl) ?_
    refine sx_if_lt (tgt := 114) C0 dX7_nextPlan_8 (by decide) (fun _ => ?_) (fun _ => ?_)
    · refine sx_iconst (v := 0) C0 dX7_nextPlan_114 (by decide) ?_
      exact sx_zret C0 rfl rfl (Or.inl rfl) (Or.inl rfl) dX7_nextPlan_115
    · refine sx_aload_n C0 dX7_nextPlan_11 rfl (lv_at hl 0 rfl) ?_
      refine gf_X7_60 C0 is7 dX7_nextPlan_12 ?_
      refine sx_iload_n C0 dX7_nextPlan_15 rfl (lv_at hl 1 rfl) ?_
      refine sx_dup2 C0 dX7_nextPlan_16 rfl rfl ?_
      refine sx_iald C0 is7_plan rfl dX7_nextPlan_17 (fun a17 => ?_)
      refine sx_iconst (v := 1) C0 dX7_nextPlan_18 (by decide) ?_
      refine sx_iadd C0 dX7_nextPlan_19 ?_
      refine sx_iast C0 is7_plan rfl dX7_nextPlan_20 (fun S20 => ?_)
      refine sx_aload_n C0 dX7_nextPlan_21 rfl (lv_at hl 0 rfl) ?_
      refine gf_X7_60 C0 is7 dX7_nextPlan_22 ?_
      refine sx_iload_n C0 dX7_nextPlan_25 rfl (lv_at hl 1 rfl) ?_
      refine sx_iald C0 is7_plan rfl dX7_nextPlan_26 (fun a26 => ?_)
      refine sx_bipush (v := 12) C0 dX7_nextPlan_27 (by decide) ?_
      refine sx_icmp_le (tgt := 38) C0 dX7_nextPlan_29 (by decide) (fun _ => ?_) (fun _ => ?_)
      · refine sx_iload_n C0 dX7_nextPlan_38 rfl (lv_at hl 1 rfl) ?_
        refine sx_iconst (v := 1) C0 dX7_nextPlan_39 (by decide) ?_
        refine sx_iadd C0 dX7_nextPlan_40 ?_
        refine sw_lt (val := .int) (fun v2_41 => ?_)
        refine sx_istore_n (lv' := [(2, .int v2_41), (0, .ref (ad 0)), (1, .int v1)]) C0 dX7_nextPlan_41 rfl hl (by decide) rfl (fun ls hl => ?_)
        exact lX7_nextPlan_42_t C0 ih _ _ _ _ (lv_sub hl [1, 0] rfl)
      · refine sx_iinc (v := (v1 + (-1 : Int32))) (lv' := [(1, .int (v1 + (-1 : Int32))), (0, .ref (ad 0))]) C0 dX7_nextPlan_32 hl (k := 1) rfl rfl (by decide) rfl (fun ls hl => ?_)
        refine sx_goto (tgt := 7) C0 dX7_nextPlan_35 (by decide) ?_
        exact ih _ _ _ (lv_sub hl [1, 0] rfl)
def mX7_nextPlan (S : vS)  : Option (Int32 × vS) := (lt ((S.1 0 29) - (1 : Int32)) fun v1_6 => (lX7_nextPlan_7 FU S v1_6))
set_option maxHeartbeats 4000000 in
set_option maxRecDepth 100000 in
theorem c_X7_nextPlan {l : Launch} {D : va_G} {cA : Nat → ClassId} {ad : Nat → Nat} (G : Gx shM ad ExM)  (S : vS) (r : (Int32 × vS)) (hr : (mX7_nextPlan S) = some r) : Met l yX7_nextPlan (Cond.code yX7_nextPlan cX7_nextPlan 4 (some .boolean) :: ALL) rm_X7_nextPlan (Po D vwCl tlM shM cA ad ExM [.ref (ad 0)] S) (Qo D vwCl shM cA ad (some (.int r.1)) r.2 (isB r.1)) 0 0 (aw shM ad) := by
  refine Met.sx (M := (mX7_nextPlan S)) (rv := (fun q => some (.int q.1) : (Int32 × vS) → Option Value)) (rs := fun q => q.2) (B := fun q => isB q.1) (by decide) ⟨rfl, rfl⟩ (Nat.le_of_ble_eq_true rfl) G (fun p e s m args below meth c C0 ls hl => ?_) hr
  have hl : lv_has ls 4 [(0, .ref (ad 0))] := hl
  rw [mX7_nextPlan]
  refine sx_aload_n C0 dX7_nextPlan_0 rfl (lv_at hl 0 rfl) ?_
  refine gf_X7_226 C0 is7 dX7_nextPlan_1 ?_
  refine sx_iconst (v := 1) C0 dX7_nextPlan_4 (by decide) ?_
  refine sx_isub C0 dX7_nextPlan_5 ?_
  refine sw_lt (val := .int) (fun v1_6 => ?_)
  refine sx_istore_n (lv' := [(1, .int v1_6), (0, .ref (ad 0))]) C0 dX7_nextPlan_6 rfl hl (by decide) rfl (fun ls hl => ?_)
  exact lX7_nextPlan_7_t C0 _ _ _ _ (lv_sub hl [1, 0] rfl)
abbrev rm_X7_keepPlan : Room := { frames := 0, cells := 0, slots := 0, locals := 0 }
def lX7_keepPlan_2     : Nat → vS → Int32 → Option vS
  | 0, _, _ => none
  | n + 1, S, v1 => (if (S.1 0 29) ≤ v1 then (some S) else ((gI (S.1 17) 4 v1).bind fun a20 => ((pI S 18 4 v1 a20).bind fun S21 => ((lX7_keepPlan_2 n) S21 (v1 + (1 : Int32))))))
set_option maxHeartbeats 4000000 in
set_option maxRecDepth 100000 in
theorem lX7_keepPlan_2_t {p : Program} {l : Launch} {e : Env} {s : State} {m : MethodId} {args : Array Value} {below : List Frame} {meth : Method} {c : Code} {D : va_G} {cA : Nat → ClassId} {ad : Nat → Nat}   (C0 : Cx D vwCl tlM shM cA ad ExM RX7 cX7_keepPlan 2 none p s m args meth c)     : ∀ (n : Nat) (S : vS) (v1 : Int32) (ls : Array Slot), lv_has ls 2 [(0, .ref (ad 0)), (1, .int v1)] → SW p l e rm_X7_keepPlan s m args below meth c D vwCl shM cA ad (Fq D vwCl shM cA ad below args s (fun _ => none : vS → Option Value) (fun S1 => S1) (fun _ => True)) (lX7_keepPlan_2 n S v1) S 2 ls [] := by
  intro n
  induction n with
  | zero =>
    intro S v1 ls hl
    rw [lX7_keepPlan_2]
    exact sw_none
  | succ n ih =>
    intro S v1 ls hl
    rw [lX7_keepPlan_2]
    refine sx_iload_n C0 dX7_keepPlan_2 rfl (lv_at hl 1 rfl) ?_
    refine sx_aload_n C0 dX7_keepPlan_3 rfl (lv_at hl 0 rfl) ?_
    refine gf_X7_226 C0 is7 dX7_keepPlan_4 ?_
    refine sx_icmp_ge (tgt := 28) C0 dX7_keepPlan_7 (by decide) (fun _ => ?_) (fun _ => ?_)
    · exact sx_vret C0 rfl rfl trivial dX7_keepPlan_28
    · refine sx_aload_n C0 dX7_keepPlan_10 rfl (lv_at hl 0 rfl) ?_
      refine gf_X7_67 C0 is7 dX7_keepPlan_11 ?_
      refine sx_iload_n C0 dX7_keepPlan_14 rfl (lv_at hl 1 rfl) ?_
      refine sx_aload_n C0 dX7_keepPlan_15 rfl (lv_at hl 0 rfl) ?_
      refine gf_X7_60 C0 is7 dX7_keepPlan_16 ?_
      refine sx_iload_n C0 dX7_keepPlan_19 rfl (lv_at hl 1 rfl) ?_
      refine sx_iald C0 is7_plan rfl dX7_keepPlan_20 (fun a20 => ?_)
      refine sx_iast C0 is7_firstPlan rfl dX7_keepPlan_21 (fun S21 => ?_)
      refine sx_iinc (v := (v1 + (1 : Int32))) (lv' := [(1, .int (v1 + (1 : Int32))), (0, .ref (ad 0))]) C0 dX7_keepPlan_22 hl (k := 1) rfl rfl (by decide) rfl (fun ls hl => ?_)
      refine sx_goto (tgt := 2) C0 dX7_keepPlan_25 (by decide) ?_
      exact ih _ _ _ (lv_sub hl [1, 0] rfl)
def mX7_keepPlan (S : vS)  : Option vS := (lX7_keepPlan_2 FU S (0 : Int32))
set_option maxHeartbeats 4000000 in
set_option maxRecDepth 100000 in
theorem c_X7_keepPlan {l : Launch} {D : va_G} {cA : Nat → ClassId} {ad : Nat → Nat} (G : Gx shM ad ExM)  (S : vS) (r : vS) (hr : (mX7_keepPlan S) = some r) : Met l yX7_keepPlan (Cond.code yX7_keepPlan cX7_keepPlan 2 none :: ALL) rm_X7_keepPlan (Po D vwCl tlM shM cA ad ExM [.ref (ad 0)] S) (Qo D vwCl shM cA ad none r True) 0 0 (aw shM ad) := by
  refine Met.sx (M := (mX7_keepPlan S)) (rv := (fun _ => none : vS → Option Value)) (rs := fun S1 => S1) (B := fun _ => True) (by decide) ⟨rfl, rfl⟩ (Nat.le_of_ble_eq_true rfl) G (fun p e s m args below meth c C0 ls hl => ?_) hr
  have hl : lv_has ls 2 [(0, .ref (ad 0))] := hl
  rw [mX7_keepPlan]
  refine sx_iconst (v := 0) C0 dX7_keepPlan_0 (by decide) ?_
  refine sx_istore_n (lv' := [(1, .int (0 : Int32)), (0, .ref (ad 0))]) C0 dX7_keepPlan_1 rfl hl (by decide) rfl (fun ls hl => ?_)
  exact lX7_keepPlan_2_t C0 _ _ _ _ (lv_sub hl [1, 0] rfl)
abbrev rm_X7_mostOf : Room := { frames := 9, cells := 0, slots := 0, locals := 202 }
def lX7_mostOf_8     : Nat → vS → Int32 → Option (Int32 × vS)
  | 0, _, _ => none
  | n + 1, S, v2 => ((mX7_nextPlan S).bind fun q9 => (if q9.1 = 0 then (some (v2, q9.2)) else (if (q9.2.1 0 30) ≤ v2 then ((lX7_mostOf_8 n) q9.2 v2) else (lt (q9.2.1 0 30) fun v2_27 => ((mX7_keepPlan q9.2).bind fun S29 => ((lX7_mostOf_8 n) S29 v2_27))))))
set_option maxHeartbeats 4000000 in
set_option maxRecDepth 100000 in
theorem lX7_mostOf_8_t {p : Program} {l : Launch} {e : Env} {s : State} {m : MethodId} {args : Array Value} {below : List Frame} {meth : Method} {c : Code} {D : va_G} {cA : Nat → ClassId} {ad : Nat → Nat}   (C0 : Cx D vwCl tlM shM cA ad ExM RX7 cX7_mostOf 3 (some .int) p s m args meth c)     : ∀ (n : Nat) (S : vS) (v2 : Int32) (ls : Array Slot), lv_has ls 3 [(0, .ref (ad 0)), (2, .int v2)] → SW p l e rm_X7_mostOf s m args below meth c D vwCl shM cA ad (Fq D vwCl shM cA ad below args s (fun q => some (.int q.1) : (Int32 × vS) → Option Value) (fun q => q.2) (fun _ => True)) (lX7_mostOf_8 n S v2) S 8 ls [] := by
  intro n
  induction n with
  | zero =>
    intro S v2 ls hl
    rw [lX7_mostOf_8]
    exact sw_none
  | succ n ih =>
    intro S v2 ls hl
    rw [lX7_mostOf_8]
    refine sx_aload_n C0 dX7_mostOf_8 rfl (lv_at hl 0 rfl) ?_
    refine sw_bind (fun q9 e9 => ?_)
    refine cv_X7_256 (As := []) C0 (c_X7_nextPlan C0.2.2.2.2.2.2.2.1 S _ e9) is7 ⟨rfl, rfl⟩ ⟨Nat.le_of_ble_eq_true rfl, Nat.le_of_ble_eq_true rfl⟩ rfl hl.1 (Nat.le_of_ble_eq_true rfl) rfl dX7_mostOf_9 (fun hb9 => ?_)
    refine sx_if_eq (tgt := 35) C0 dX7_mostOf_12 (by decide) (fun _ => ?_) (fun _ => ?_)
    · refine sx_iload_n C0 dX7_mostOf_35 rfl (lv_at hl 1 rfl) ?_
      exact sx_iret C0 rfl rfl trivial dX7_mostOf_36
    · refine sx_aload_n C0 dX7_mostOf_15 rfl (lv_at hl 0 rfl) ?_
      refine gf_X7_237 C0 is7 dX7_mostOf_16 ?_
      refine sx_iload_n C0 dX7_mostOf_19 rfl (lv_at hl 1 rfl) ?_
      refine sx_icmp_le (tgt := 8) C0 dX7_mostOf_20 (by decide) (fun _ => ?_) (fun _ => ?_)
      · exact ih _ _ _ (lv_sub hl [0, 1] rfl)
      · refine sx_aload_n C0 dX7_mostOf_23 rfl (lv_at hl 0 rfl) ?_
        refine gf_X7_237 C0 is7 dX7_mostOf_24 ?_
        refine sw_lt (val := .int) (fun v2_27 => ?_)
        refine sx_istore_n (lv' := [(2, .int v2_27), (0, .ref (ad 0))]) C0 dX7_mostOf_27 rfl hl (by decide) rfl (fun ls hl => ?_)
        refine sx_aload_n C0 dX7_mostOf_28 rfl (lv_at hl 1 rfl) ?_
        refine sw_bind (fun S29 e29 => ?_)
        refine cv_X7_260 (As := []) C0 (c_X7_keepPlan C0.2.2.2.2.2.2.2.1 q9.2 _ e29) is7 ⟨rfl, rfl⟩ ⟨Nat.le_of_ble_eq_true rfl, Nat.le_of_ble_eq_true rfl⟩ rfl hl.1 (Nat.le_of_ble_eq_true rfl) rfl dX7_mostOf_29 (fun _ => ?_)
        refine sx_goto (tgt := 8) C0 dX7_mostOf_32 (by decide) ?_
        exact ih _ _ _ (lv_sub hl [1, 0] rfl)
def mX7_mostOf (S : vS) (v1 : Int32) : Option (Int32 × vS) := ((mX7_noPlan S v1).bind fun S5 => (lX7_mostOf_8 FU S5 (-99999 : Int32)))
set_option maxHeartbeats 4000000 in
set_option maxRecDepth 100000 in
theorem c_X7_mostOf {l : Launch} {D : va_G} {cA : Nat → ClassId} {ad : Nat → Nat} (G : Gx shM ad ExM) (v1 : Int32) (S : vS) (r : (Int32 × vS)) (hr : (mX7_mostOf S v1) = some r) : Met l yX7_mostOf (Cond.code yX7_mostOf cX7_mostOf 3 (some .int) :: ALL) rm_X7_mostOf (Po D vwCl tlM shM cA ad ExM [.ref (ad 0), .int v1] S) (Qo D vwCl shM cA ad (some (.int r.1)) r.2 True) 0 0 (aw shM ad) := by
  refine Met.sx (M := (mX7_mostOf S v1)) (rv := (fun q => some (.int q.1) : (Int32 × vS) → Option Value)) (rs := fun q => q.2) (B := fun _ => True) (by decide) ⟨rfl, rfl⟩ (Nat.le_of_ble_eq_true rfl) G (fun p e s m args below meth c C0 ls hl => ?_) hr
  have hl : lv_has ls 3 [(0, .ref (ad 0)), (1, .int v1)] := hl
  rw [mX7_mostOf]
  refine sx_ldc C0 wk_X7_252 dX7_mostOf_0 ?_
  refine sx_istore_n (lv' := [(2, .int (-99999 : Int32)), (0, .ref (ad 0)), (1, .int v1)]) C0 dX7_mostOf_2 rfl hl (by decide) rfl (fun ls hl => ?_)
  refine sx_aload_n C0 dX7_mostOf_3 rfl (lv_at hl 1 rfl) ?_
  refine sx_iload_n C0 dX7_mostOf_4 rfl (lv_at hl 2 rfl) ?_
  refine sw_bind (fun S5 e5 => ?_)
  refine cv_X7_253 (As := [.int v1]) C0 (c_X7_noPlan C0.2.2.2.2.2.2.2.1 v1 S _ e5) is7 ⟨rfl, rfl⟩ ⟨Nat.le_of_ble_eq_true rfl, Nat.le_of_ble_eq_true rfl⟩ rfl hl.1 (Nat.le_of_ble_eq_true rfl) rfl dX7_mostOf_5 (fun _ => ?_)
  exact lX7_mostOf_8_t C0 _ _ _ _ (lv_sub hl [1, 0] rfl)
abbrev rm_X7_planToRow : Room := { frames := 0, cells := 0, slots := 0, locals := 0 }
def bX7_planToRow_46   (K12 : vS → Int32 → Option vS) (S : vS) (v1 : Int32) (v2 : Int32) (t0 : Int32) (t1 : Int32) : Option vS := ((pI S 3 360 t1 t0).bind fun S46 => (K12 S46 (v2 + (1 : Int32))))
set_option maxHeartbeats 4000000 in
set_option maxRecDepth 100000 in
theorem bX7_planToRow_46_t {p : Program} {l : Launch} {e : Env} {s : State} {m : MethodId} {args : Array Value} {below : List Frame} {meth : Method} {c : Code} {D : va_G} {cA : Nat → ClassId} {ad : Nat → Nat} {K12 : vS → Int32 → Option vS}  (C0 : Cx D vwCl tlM shM cA ad ExM RX7 cX7_planToRow 3 none p s m args meth c)  (S : vS) (v1 : Int32) (v2 : Int32) (t0 : Int32) (t1 : Int32) (hK12 : ∀ (S : vS) (v2 : Int32) (ls : Array Slot), lv_has ls 3 [(0, .ref (ad 0)), (1, .int v1), (2, .int v2)] → SW p l e rm_X7_planToRow s m args below meth c D vwCl shM cA ad (Fq D vwCl shM cA ad below args s (fun _ => none : vS → Option Value) (fun S1 => S1) (fun _ => True)) (K12 S v2) S 12 ls []) (ls : Array Slot) (hl : lv_has ls 3 [(0, .ref (ad 0)), (1, .int v1), (2, .int v2)]) : SW p l e rm_X7_planToRow s m args below meth c D vwCl shM cA ad (Fq D vwCl shM cA ad below args s (fun _ => none : vS → Option Value) (fun S1 => S1) (fun _ => True)) (bX7_planToRow_46 K12 S v1 v2 t0 t1) S 46 ls [.int t0, .int t1, .ref (ad 3)] := by
  rw [bX7_planToRow_46]
  refine sx_iast C0 is7_rows rfl dX7_planToRow_46 (fun S46 => ?_)
  refine sx_iinc (v := (v2 + (1 : Int32))) (lv' := [(2, .int (v2 + (1 : Int32))), (0, .ref (ad 0)), (1, .int v1)]) C0 dX7_planToRow_47 hl (k := 2) rfl rfl (by decide) rfl (fun ls hl => ?_)
  refine sx_goto (tgt := 12) C0 dX7_planToRow_50 (by decide) ?_
  exact hK12 _ _ _ (lv_sub hl [1, 2, 0] rfl)
def lX7_planToRow_12    (v1 : Int32) : Nat → vS → Int32 → Option vS
  | 0, _, _ => none
  | n + 1, S, v2 => (if (60 : Int32) ≤ v2 then (some S) else (if (S.1 0 29) ≤ v2 then (bX7_planToRow_46 (lX7_planToRow_12 v1 n) S v1 v2 (0 : Int32) (((60 : Int32) * v1) + v2)) else ((gI (S.1 18) 4 v2).bind fun a41 => (bX7_planToRow_46 (lX7_planToRow_12 v1 n) S v1 v2 a41 (((60 : Int32) * v1) + v2)))))
set_option maxHeartbeats 4000000 in
set_option maxRecDepth 100000 in
theorem lX7_planToRow_12_t {p : Program} {l : Launch} {e : Env} {s : State} {m : MethodId} {args : Array Value} {below : List Frame} {meth : Method} {c : Code} {D : va_G} {cA : Nat → ClassId} {ad : Nat → Nat}   (C0 : Cx D vwCl tlM shM cA ad ExM RX7 cX7_planToRow 3 none p s m args meth c)   (v1 : Int32)  : ∀ (n : Nat) (S : vS) (v2 : Int32) (ls : Array Slot), lv_has ls 3 [(0, .ref (ad 0)), (1, .int v1), (2, .int v2)] → SW p l e rm_X7_planToRow s m args below meth c D vwCl shM cA ad (Fq D vwCl shM cA ad below args s (fun _ => none : vS → Option Value) (fun S1 => S1) (fun _ => True)) (lX7_planToRow_12 v1 n S v2) S 12 ls [] := by
  intro n
  induction n with
  | zero =>
    intro S v2 ls hl
    rw [lX7_planToRow_12]
    exact sw_none
  | succ n ih =>
    intro S v2 ls hl
    rw [lX7_planToRow_12]
    refine sx_iload_n C0 dX7_planToRow_12 rfl (lv_at hl 2 rfl) ?_
    refine sx_bipush (v := 60) C0 dX7_planToRow_13 (by decide) ?_
    refine sx_icmp_ge (tgt := 53) C0 dX7_planToRow_15 (by decide) (fun _ => ?_) (fun _ => ?_)
    · exact sx_vret C0 rfl rfl trivial dX7_planToRow_53
    · refine sx_aload_n C0 dX7_planToRow_18 rfl (lv_at hl 0 rfl) ?_
      refine gf_X7_16 C0 is7 dX7_planToRow_19 ?_
      refine sx_bipush (v := 60) C0 dX7_planToRow_22 (by decide) ?_
      refine sx_iload_n C0 dX7_planToRow_24 rfl (lv_at hl 1 rfl) ?_
      refine sx_imul C0 dX7_planToRow_25 ?_
      refine sx_iload_n C0 dX7_planToRow_26 rfl (lv_at hl 2 rfl) ?_
      refine sx_iadd C0 dX7_planToRow_27 ?_
      refine sx_iload_n C0 dX7_planToRow_28 rfl (lv_at hl 2 rfl) ?_
      refine sx_aload_n C0 dX7_planToRow_29 rfl (lv_at hl 0 rfl) ?_
      refine gf_X7_226 C0 is7 dX7_planToRow_30 ?_
      refine sx_icmp_ge (tgt := 45) C0 dX7_planToRow_33 (by decide) (fun _ => ?_) (fun _ => ?_)
      · refine sx_iconst (v := 0) C0 dX7_planToRow_45 (by decide) ?_
        exact bX7_planToRow_46_t C0 _ _ _ _ _ ih _ (lv_sub hl [0, 1, 2] rfl)
      · refine sx_aload_n C0 dX7_planToRow_36 rfl (lv_at hl 0 rfl) ?_
        refine gf_X7_67 C0 is7 dX7_planToRow_37 ?_
        refine sx_iload_n C0 dX7_planToRow_40 rfl (lv_at hl 2 rfl) ?_
        refine sx_iald C0 is7_firstPlan rfl dX7_planToRow_41 (fun a41 => ?_)
        refine sx_goto (tgt := 46) C0 dX7_planToRow_42 (by decide) ?_
        exact bX7_planToRow_46_t C0 _ _ _ _ _ ih _ (lv_sub hl [0, 1, 2] rfl)
def mX7_planToRow (S : vS) (v1 : Int32) : Option vS := ((pI S 2 6 v1 (S.1 0 29)).bind fun S9 => (lX7_planToRow_12 v1 FU S9 (0 : Int32)))
set_option maxHeartbeats 4000000 in
set_option maxRecDepth 100000 in
theorem c_X7_planToRow {l : Launch} {D : va_G} {cA : Nat → ClassId} {ad : Nat → Nat} (G : Gx shM ad ExM) (v1 : Int32) (S : vS) (r : vS) (hr : (mX7_planToRow S v1) = some r) : Met l yX7_planToRow (Cond.code yX7_planToRow cX7_planToRow 3 none :: ALL) rm_X7_planToRow (Po D vwCl tlM shM cA ad ExM [.ref (ad 0), .int v1] S) (Qo D vwCl shM cA ad none r True) 0 0 (aw shM ad) := by
  refine Met.sx (M := (mX7_planToRow S v1)) (rv := (fun _ => none : vS → Option Value)) (rs := fun S1 => S1) (B := fun _ => True) (by decide) ⟨rfl, rfl⟩ (Nat.le_of_ble_eq_true rfl) G (fun p e s m args below meth c C0 ls hl => ?_) hr
  have hl : lv_has ls 3 [(0, .ref (ad 0)), (1, .int v1)] := hl
  rw [mX7_planToRow]
  refine sx_aload_n C0 dX7_planToRow_0 rfl (lv_at hl 0 rfl) ?_
  refine gf_X7_13 C0 is7 dX7_planToRow_1 ?_
  refine sx_iload_n C0 dX7_planToRow_4 rfl (lv_at hl 1 rfl) ?_
  refine sx_aload_n C0 dX7_planToRow_5 rfl (lv_at hl 0 rfl) ?_
  refine gf_X7_226 C0 is7 dX7_planToRow_6 ?_
  refine sx_iast C0 is7_sizes rfl dX7_planToRow_9 (fun S9 => ?_)
  refine sx_iconst (v := 0) C0 dX7_planToRow_10 (by decide) ?_
  refine sx_istore_n (lv' := [(2, .int (0 : Int32)), (0, .ref (ad 0)), (1, .int v1)]) C0 dX7_planToRow_11 rfl hl (by decide) rfl (fun ls hl => ?_)
  exact lX7_planToRow_12_t C0 _ _ _ _ _ (lv_sub hl [1, 2, 0] rfl)
abbrev rm_X7_needDays : Room := { frames := 1, cells := 0, slots := 0, locals := 22 }
def mX7_needDays (S : vS) (v1 : Int32) (v2 : Int32) (v3 : Int32) : Int32 := (if v1 = 0 then (-1 : Int32) else (if (mX7_in v2 (1 : Int32) v3) = 0 then (-1 : Int32) else (if (S.1 0 10) = 0 then (-4 : Int32) else (0 : Int32))))
set_option maxHeartbeats 4000000 in
set_option maxRecDepth 100000 in
theorem c_X7_needDays {l : Launch} {D : va_G} {cA : Nat → ClassId} {ad : Nat → Nat} (G : Gx shM ad ExM) (v1 : Int32) (v2 : Int32) (v3 : Int32) (S : vS) : Met l yX7_needDays (Cond.code yX7_needDays cX7_needDays 4 (some .int) :: ALL) rm_X7_needDays (Po D vwCl tlM shM cA ad ExM [.ref (ad 0), .int v1, .int v2, .int v3] S) (Qo D vwCl shM cA ad (some (.int (mX7_needDays S v1 v2 v3))) S True) 0 0 (aw shM ad) := by
  refine Met.sx (M := some (mX7_needDays S v1 v2 v3)) (rv := (fun r => some (.int r) : Int32 → Option Value)) (rs := fun _ => S) (B := fun _ => True) (by decide) ⟨rfl, rfl⟩ (Nat.le_of_ble_eq_true rfl) G (fun p e s m args below meth c C0 ls hl => ?_) rfl
  have hl : lv_has ls 4 [(0, .ref (ad 0)), (1, .int v1), (2, .int v2), (3, .int v3)] := hl
  rw [mX7_needDays]
  refine sx_iload_n C0 dX7_needDays_0 rfl (lv_at hl 1 rfl) ?_
  refine sx_if_eqs (tgt := 13) C0 dX7_needDays_1 (by decide) (fun _ => ?_) (fun _ => ?_)
  · refine sx_iconst (v := (-1)) C0 dX7_needDays_13 (by decide) ?_
    refine sx_goto (tgt := 30) C0 dX7_needDays_14 (by decide) ?_
    exact sx_iret C0 rfl rfl trivial dX7_needDays_30
  · refine sx_iload_n C0 dX7_needDays_4 rfl (lv_at hl 2 rfl) ?_
    refine sx_iconst (v := 1) C0 dX7_needDays_5 (by decide) ?_
    refine sx_iload_n C0 dX7_needDays_6 rfl (lv_at hl 3 rfl) ?_
    refine cv_X7_80 (As := [.int v2, .int (1 : Int32), .int v3]) C0 (c_X7_in C0.2.2.2.2.2.2.2.1 v2 (1 : Int32) v3 S) ⟨rfl, rfl⟩ ⟨Nat.le_of_ble_eq_true rfl, Nat.le_of_ble_eq_true rfl⟩ rfl hl.1 (Nat.le_of_ble_eq_true rfl) rfl dX7_needDays_7 (fun hb7 => ?_)
    refine sx_if_nes (tgt := 17) C0 dX7_needDays_10 (by decide) (fun _ => ?_) (fun _ => ?_)
    · refine sx_iconst (v := (-1)) C0 dX7_needDays_13 (by decide) ?_
      refine sx_goto (tgt := 30) C0 dX7_needDays_14 (by decide) ?_
      exact sx_iret C0 rfl rfl trivial dX7_needDays_30
    · refine sx_aload_n C0 dX7_needDays_17 rfl (lv_at hl 0 rfl) ?_
      refine gf_X7_139 C0 is7 dX7_needDays_18 ?_
      refine sx_if_nes (tgt := 29) C0 dX7_needDays_21 (by decide) (fun _ => ?_) (fun _ => ?_)
      · refine sx_bipush (v := (-4)) C0 dX7_needDays_24 (by decide) ?_
        refine sx_goto (tgt := 30) C0 dX7_needDays_26 (by decide) ?_
        exact sx_iret C0 rfl rfl trivial dX7_needDays_30
      · refine sx_iconst (v := 0) C0 dX7_needDays_29 (by decide) ?_
        exact sx_iret C0 rfl rfl trivial dX7_needDays_30
abbrev rm_X7_best : Room := { frames := 10, cells := 0, slots := 0, locals := 224 }
def mX7_best (S : vS) (v1 : Int32) (v2 : Int32) : Option (Int32 × vS) := (lt (mX7_needDays S (mX7_isRow v2) v1 (3 : Int32)) fun v3_10 => (if 0 ≤ v3_10 then ((mX7_mostOf S v1).bind fun q19 => (lt q19.1 fun v4_22 => ((mX7_planToRow q19.2 v2).bind fun S26 => (lt (mX7_tells S26 v4_22 (1 : Int32)) fun q33 => (some (q33.1, q33.2)))))) else (some (v3_10, S))))
set_option maxHeartbeats 4000000 in
set_option maxRecDepth 100000 in
theorem c_X7_best {l : Launch} {D : va_G} {cA : Nat → ClassId} {ad : Nat → Nat} (G : Gx shM ad ExM) (v1 : Int32) (v2 : Int32) (S : vS) (r : (Int32 × vS)) (hr : (mX7_best S v1 v2) = some r) : Met l yX7_best (Cond.code yX7_best cX7_best 5 (some .int) :: ALL) rm_X7_best (Po D vwCl tlM shM cA ad ExM [.ref (ad 0), .int v1, .int v2] S) (Qo D vwCl shM cA ad (some (.int r.1)) r.2 True) 0 0 (aw shM ad) := by
  refine Met.sx (M := (mX7_best S v1 v2)) (rv := (fun q => some (.int q.1) : (Int32 × vS) → Option Value)) (rs := fun q => q.2) (B := fun _ => True) (by decide) ⟨rfl, rfl⟩ (Nat.le_of_ble_eq_true rfl) G (fun p e s m args below meth c C0 ls hl => ?_) hr
  have hl : lv_has ls 5 [(0, .ref (ad 0)), (1, .int v1), (2, .int v2)] := hl
  rw [mX7_best]
  refine sx_aload_n C0 dX7_best_0 rfl (lv_at hl 0 rfl) ?_
  refine sx_iload_n C0 dX7_best_1 rfl (lv_at hl 2 rfl) ?_
  refine cv_X7_90 (As := [.int v2]) C0 (c_X7_isRow C0.2.2.2.2.2.2.2.1 v2 S) ⟨rfl, rfl⟩ ⟨Nat.le_of_ble_eq_true rfl, Nat.le_of_ble_eq_true rfl⟩ rfl hl.1 (Nat.le_of_ble_eq_true rfl) rfl dX7_best_2 (fun hb2 => ?_)
  refine sx_iload_n C0 dX7_best_5 rfl (lv_at hl 1 rfl) ?_
  refine sx_iconst (v := 3) C0 dX7_best_6 (by decide) ?_
  refine cv_X7_263 (As := [.int (mX7_isRow v2), .int v1, .int (3 : Int32)]) C0 (c_X7_needDays C0.2.2.2.2.2.2.2.1 (mX7_isRow v2) v1 (3 : Int32) S) is7 ⟨rfl, rfl⟩ ⟨Nat.le_of_ble_eq_true rfl, Nat.le_of_ble_eq_true rfl⟩ rfl hl.1 (Nat.le_of_ble_eq_true rfl) rfl dX7_best_7 (fun _ => ?_)
  refine sw_lt (val := .int) (fun v3_10 => ?_)
  refine sx_istore_n (lv' := [(3, .int v3_10), (0, .ref (ad 0)), (1, .int v1), (2, .int v2)]) C0 dX7_best_10 rfl hl (by decide) rfl (fun ls hl => ?_)
  refine sx_iload_n C0 dX7_best_11 rfl (lv_at hl 0 rfl) ?_
  refine sx_if_ge (tgt := 17) C0 dX7_best_12 (by decide) (fun _ => ?_) (fun _ => ?_)
  · refine sx_aload_n C0 dX7_best_17 rfl (lv_at hl 1 rfl) ?_
    refine sx_iload_n C0 dX7_best_18 rfl (lv_at hl 2 rfl) ?_
    refine sw_bind (fun q19 e19 => ?_)
    refine cv_X7_267 (As := [.int v1]) C0 (c_X7_mostOf C0.2.2.2.2.2.2.2.1 v1 S _ e19) is7 ⟨rfl, rfl⟩ ⟨Nat.le_of_ble_eq_true rfl, Nat.le_of_ble_eq_true rfl⟩ rfl hl.1 (Nat.le_of_ble_eq_true rfl) rfl dX7_best_19 (fun _ => ?_)
    refine sw_lt (val := .int) (fun v4_22 => ?_)
    refine sx_istore (lv' := [(4, .int v4_22), (3, .int v3_10), (0, .ref (ad 0)), (1, .int v1), (2, .int v2)]) C0 dX7_best_22 hl (by decide) rfl (fun ls hl => ?_)
    refine sx_aload_n C0 dX7_best_24 rfl (lv_at hl 2 rfl) ?_
    refine sx_iload_n C0 dX7_best_25 rfl (lv_at hl 4 rfl) ?_
    refine sw_bind (fun S26 e26 => ?_)
    refine cv_X7_270 (As := [.int v2]) C0 (c_X7_planToRow C0.2.2.2.2.2.2.2.1 v2 q19.2 _ e26) is7 ⟨rfl, rfl⟩ ⟨Nat.le_of_ble_eq_true rfl, Nat.le_of_ble_eq_true rfl⟩ rfl hl.1 (Nat.le_of_ble_eq_true rfl) rfl dX7_best_26 (fun _ => ?_)
    refine sx_aload_n C0 dX7_best_29 rfl (lv_at hl 2 rfl) ?_
    refine sx_iload C0 dX7_best_30 (lv_at hl 0 rfl) ?_
    refine sx_iconst (v := 1) C0 dX7_best_32 (by decide) ?_
    refine cv_X7_102 (As := [.int v4_22, .int (1 : Int32)]) C0 (c_X7_tells C0.2.2.2.2.2.2.2.1 v4_22 (1 : Int32) S26) is7 ⟨rfl, rfl⟩ ⟨Nat.le_of_ble_eq_true rfl, Nat.le_of_ble_eq_true rfl⟩ rfl hl.1 (Nat.le_of_ble_eq_true rfl) rfl dX7_best_33 (fun _ => ?_)
    refine sw_ltQ (val := .int) (fun q33 => ?_)
    exact sx_iret C0 rfl rfl trivial dX7_best_36
  · refine sx_iload_n C0 dX7_best_15 rfl (lv_at hl 0 rfl) ?_
    exact sx_iret C0 rfl rfl trivial dX7_best_16
abbrev rm_X7_needPlan : Room := { frames := 2, cells := 0, slots := 0, locals := 43 }
def bX7_needPlan_68   (K36 : Int32 → Int32 → Option (Int32 × vS)) (S : vS) (v1 : Int32) (v3 : Int32) (t0 : Int32) : Option (Int32 × vS) := (K36 t0 (v3 + (1 : Int32)))
set_option maxHeartbeats 4000000 in
set_option maxRecDepth 100000 in
theorem bX7_needPlan_68_t {p : Program} {l : Launch} {e : Env} {s : State} {m : MethodId} {args : Array Value} {below : List Frame} {meth : Method} {c : Code} {D : va_G} {cA : Nat → ClassId} {ad : Nat → Nat} {K36 : Int32 → Int32 → Option (Int32 × vS)}  (C0 : Cx D vwCl tlM shM cA ad ExM RX7 cX7_needPlan 4 (some .int) p s m args meth c)  (S : vS) (v1 : Int32) (v3 : Int32) (t0 : Int32) (hK36 : ∀ (v2 : Int32) (v3 : Int32) (ls : Array Slot), lv_has ls 4 [(0, .ref (ad 0)), (1, .int v1), (2, .int v2), (3, .int v3)] → SW p l e rm_X7_needPlan s m args below meth c D vwCl shM cA ad (Fq D vwCl shM cA ad below args s (fun q => some (.int q.1) : (Int32 × vS) → Option Value) (fun q => q.2) (fun _ => True)) (K36 v2 v3) S 36 ls []) (ls : Array Slot) (hl : lv_has ls 4 [(0, .ref (ad 0)), (1, .int v1), (3, .int v3)]) : SW p l e rm_X7_needPlan s m args below meth c D vwCl shM cA ad (Fq D vwCl shM cA ad below args s (fun q => some (.int q.1) : (Int32 × vS) → Option Value) (fun q => q.2) (fun _ => True)) (bX7_needPlan_68 K36 S v1 v3 t0) S 68 ls [.int t0] := by
  rw [bX7_needPlan_68]
  refine sx_istore_n (lv' := [(2, .int t0), (0, .ref (ad 0)), (1, .int v1), (3, .int v3)]) C0 dX7_needPlan_68 rfl hl (by decide) rfl (fun ls hl => ?_)
  refine sx_iinc (v := (v3 + (1 : Int32))) (lv' := [(3, .int (v3 + (1 : Int32))), (2, .int t0), (0, .ref (ad 0)), (1, .int v1)]) C0 dX7_needPlan_69 hl (k := 3) rfl rfl (by decide) rfl (fun ls hl => ?_)
  refine sx_goto (tgt := 36) C0 dX7_needPlan_72 (by decide) ?_
  exact hK36 _ _ _ (lv_sub hl [2, 3, 1, 0] rfl)
def bX7_needPlan_67   (K36 : Int32 → Int32 → Option (Int32 × vS)) (S : vS) (v1 : Int32) (v3 : Int32)  : Option (Int32 × vS) := (bX7_needPlan_68 K36 S v1 v3 (0 : Int32))
set_option maxHeartbeats 4000000 in
set_option maxRecDepth 100000 in
theorem bX7_needPlan_67_t {p : Program} {l : Launch} {e : Env} {s : State} {m : MethodId} {args : Array Value} {below : List Frame} {meth : Method} {c : Code} {D : va_G} {cA : Nat → ClassId} {ad : Nat → Nat} {K36 : Int32 → Int32 → Option (Int32 × vS)}  (C0 : Cx D vwCl tlM shM cA ad ExM RX7 cX7_needPlan 4 (some .int) p s m args meth c)  (S : vS) (v1 : Int32) (v3 : Int32) (hK36 : ∀ (v2 : Int32) (v3 : Int32) (ls : Array Slot), lv_has ls 4 [(0, .ref (ad 0)), (1, .int v1), (2, .int v2), (3, .int v3)] → SW p l e rm_X7_needPlan s m args below meth c D vwCl shM cA ad (Fq D vwCl shM cA ad below args s (fun q => some (.int q.1) : (Int32 × vS) → Option Value) (fun q => q.2) (fun _ => True)) (K36 v2 v3) S 36 ls []) (ls : Array Slot) (hl : lv_has ls 4 [(0, .ref (ad 0)), (1, .int v1), (3, .int v3)]) : SW p l e rm_X7_needPlan s m args below meth c D vwCl shM cA ad (Fq D vwCl shM cA ad below args s (fun q => some (.int q.1) : (Int32 × vS) → Option Value) (fun q => q.2) (fun _ => True)) (bX7_needPlan_67 K36 S v1 v3) S 67 ls [] := by
  rw [bX7_needPlan_67]
  refine sx_iconst (v := 0) C0 dX7_needPlan_67 (by decide) ?_
  exact bX7_needPlan_68_t C0 _ _ _ _ hK36 _ (lv_sub hl [0, 1, 2] rfl)
def bX7_needPlan_75    (S : vS) (v2 : Int32)  : Option (Int32 × vS) := (if v2 = 0 then ((mX7_meets S (3 : Int32)).bind fun q85 => (some (q85.1, q85.2))) else (some ((0 : Int32), S)))
set_option maxHeartbeats 4000000 in
set_option maxRecDepth 100000 in
theorem bX7_needPlan_75_t {p : Program} {l : Launch} {e : Env} {s : State} {m : MethodId} {args : Array Value} {below : List Frame} {meth : Method} {c : Code} {D : va_G} {cA : Nat → ClassId} {ad : Nat → Nat}   (C0 : Cx D vwCl tlM shM cA ad ExM RX7 cX7_needPlan 4 (some .int) p s m args meth c)  (S : vS) (v2 : Int32) (ls : Array Slot) (hl : lv_has ls 4 [(0, .ref (ad 0)), (2, .int v2)]) : SW p l e rm_X7_needPlan s m args below meth c D vwCl shM cA ad (Fq D vwCl shM cA ad below args s (fun q => some (.int q.1) : (Int32 × vS) → Option Value) (fun q => q.2) (fun _ => True)) (bX7_needPlan_75 S v2) S 75 ls [] := by
  rw [bX7_needPlan_75]
  refine sx_iload_n C0 dX7_needPlan_75 rfl (lv_at hl 1 rfl) ?_
  refine sx_if_eq (tgt := 83) C0 dX7_needPlan_76 (by decide) (fun _ => ?_) (fun _ => ?_)
  · refine sx_aload_n C0 dX7_needPlan_83 rfl (lv_at hl 0 rfl) ?_
    refine sx_iconst (v := 3) C0 dX7_needPlan_84 (by decide) ?_
    refine sw_bind (fun q85 e85 => ?_)
    refine cv_X7_94 (As := [.int (3 : Int32)]) C0 (c_X7_meets C0.2.2.2.2.2.2.2.1 (3 : Int32) S _ e85) is7 ⟨rfl, rfl⟩ ⟨Nat.le_of_ble_eq_true rfl, Nat.le_of_ble_eq_true rfl⟩ rfl hl.1 (Nat.le_of_ble_eq_true rfl) rfl dX7_needPlan_85 (fun _ => ?_)
    exact sx_iret C0 rfl rfl trivial dX7_needPlan_88
  · refine sx_iconst (v := 0) C0 dX7_needPlan_79 (by decide) ?_
    refine sx_goto (tgt := 88) C0 dX7_needPlan_80 (by decide) ?_
    exact sx_iret C0 rfl rfl trivial dX7_needPlan_88
def lX7_needPlan_36  (S : vS)  (v1 : Int32) : Nat → Int32 → Int32 → Option (Int32 × vS)
  | 0, _, _ => none
  | n + 1, v2, v3 => ((gI (S.1 2) 6 v1).bind fun a42 => (if a42 ≤ v3 then (bX7_needPlan_75 S v2) else (if v2 = 0 then (bX7_needPlan_67 (lX7_needPlan_36 S v1 n) S v1 v3) else ((mX7_rowAt S v1 v3).bind fun a54 => (if (mX7_isNumber S a54) = 0 then (bX7_needPlan_67 (lX7_needPlan_36 S v1 n) S v1 v3) else (bX7_needPlan_68 (lX7_needPlan_36 S v1 n) S v1 v3 (1 : Int32)))))))
set_option maxHeartbeats 4000000 in
set_option maxRecDepth 100000 in
theorem lX7_needPlan_36_t {p : Program} {l : Launch} {e : Env} {s : State} {m : MethodId} {args : Array Value} {below : List Frame} {meth : Method} {c : Code} {D : va_G} {cA : Nat → ClassId} {ad : Nat → Nat}   (C0 : Cx D vwCl tlM shM cA ad ExM RX7 cX7_needPlan 4 (some .int) p s m args meth c)  (S : vS) (v1 : Int32)  : ∀ (n : Nat) (v2 : Int32) (v3 : Int32) (ls : Array Slot), lv_has ls 4 [(0, .ref (ad 0)), (1, .int v1), (2, .int v2), (3, .int v3)] → SW p l e rm_X7_needPlan s m args below meth c D vwCl shM cA ad (Fq D vwCl shM cA ad below args s (fun q => some (.int q.1) : (Int32 × vS) → Option Value) (fun q => q.2) (fun _ => True)) (lX7_needPlan_36 S v1 n v2 v3) S 36 ls [] := by
  intro n
  induction n with
  | zero =>
    intro v2 v3 ls hl
    rw [lX7_needPlan_36]
    exact sw_none
  | succ n ih =>
    intro v2 v3 ls hl
    rw [lX7_needPlan_36]
    refine sx_iload_n C0 dX7_needPlan_36 rfl (lv_at hl 3 rfl) ?_
    refine sx_aload_n C0 dX7_needPlan_37 rfl (lv_at hl 0 rfl) ?_
    refine gf_X7_13 C0 is7 dX7_needPlan_38 ?_
    refine sx_iload_n C0 dX7_needPlan_41 rfl (lv_at hl 1 rfl) ?_
    refine sx_iald C0 is7_sizes rfl dX7_needPlan_42 (fun a42 => ?_)
    refine sx_icmp_ge (tgt := 75) C0 dX7_needPlan_43 (by decide) (fun _ => ?_) (fun _ => ?_)
    · exact bX7_needPlan_75_t C0 _ _ _ (lv_sub hl [0, 2] rfl)
    · refine sx_iload_n C0 dX7_needPlan_46 rfl (lv_at hl 2 rfl) ?_
      refine sx_if_eq (tgt := 67) C0 dX7_needPlan_47 (by decide) (fun _ => ?_) (fun _ => ?_)
      · exact bX7_needPlan_67_t C0 _ _ _ ih _ (lv_sub hl [0, 1, 3] rfl)
      · refine sx_aload_n C0 dX7_needPlan_50 rfl (lv_at hl 0 rfl) ?_
        refine sx_aload_n C0 dX7_needPlan_51 rfl (lv_at hl 0 rfl) ?_
        refine sx_iload_n C0 dX7_needPlan_52 rfl (lv_at hl 1 rfl) ?_
        refine sx_iload_n C0 dX7_needPlan_53 rfl (lv_at hl 3 rfl) ?_
        refine sw_bind (fun a54 e54 => ?_)
        refine cv_X7_98 (As := [.int v1, .int v3]) C0 (c_X7_rowAt C0.2.2.2.2.2.2.2.1 v1 v3 S _ e54) is7 ⟨rfl, rfl⟩ ⟨Nat.le_of_ble_eq_true rfl, Nat.le_of_ble_eq_true rfl⟩ rfl hl.1 (Nat.le_of_ble_eq_true rfl) rfl dX7_needPlan_54 (fun _ => ?_)
        refine cv_X7_217 (As := [.int a54]) C0 (c_X7_isNumber C0.2.2.2.2.2.2.2.1 a54 S) is7 ⟨rfl, rfl⟩ ⟨Nat.le_of_ble_eq_true rfl, Nat.le_of_ble_eq_true rfl⟩ rfl hl.1 (Nat.le_of_ble_eq_true rfl) rfl dX7_needPlan_57 (fun hb57 => ?_)
        refine sx_if_eq (tgt := 67) C0 dX7_needPlan_60 (by decide) (fun _ => ?_) (fun _ => ?_)
        · exact bX7_needPlan_67_t C0 _ _ _ ih _ (lv_sub hl [0, 1, 3] rfl)
        · refine sx_iconst (v := 1) C0 dX7_needPlan_63 (by decide) ?_
          refine sx_goto (tgt := 68) C0 dX7_needPlan_64 (by decide) ?_
          exact bX7_needPlan_68_t C0 _ _ _ _ ih _ (lv_sub hl [0, 1, 3] rfl)
def mX7_needPlan (S : vS) (v1 : Int32) : Option (Int32 × vS) := ((gI (S.1 2) 6 v1).bind fun a5 => (if 0 ≤ a5 then ((gI (S.1 2) 6 v1).bind fun a20 => (if a20 ≤ (30 : Int32) then (lX7_needPlan_36 S v1 FU (1 : Int32) (0 : Int32)) else ((mX7_meets S (5 : Int32)).bind fun q28 => (some (q28.1, q28.2))))) else ((mX7_meets S (1 : Int32)).bind fun q11 => (some (q11.1, q11.2)))))
set_option maxHeartbeats 4000000 in
set_option maxRecDepth 100000 in
theorem c_X7_needPlan {l : Launch} {D : va_G} {cA : Nat → ClassId} {ad : Nat → Nat} (G : Gx shM ad ExM) (v1 : Int32) (S : vS) (r : (Int32 × vS)) (hr : (mX7_needPlan S v1) = some r) : Met l yX7_needPlan (Cond.code yX7_needPlan cX7_needPlan 4 (some .int) :: ALL) rm_X7_needPlan (Po D vwCl tlM shM cA ad ExM [.ref (ad 0), .int v1] S) (Qo D vwCl shM cA ad (some (.int r.1)) r.2 True) 0 0 (aw shM ad) := by
  refine Met.sx (M := (mX7_needPlan S v1)) (rv := (fun q => some (.int q.1) : (Int32 × vS) → Option Value)) (rs := fun q => q.2) (B := fun _ => True) (by decide) ⟨rfl, rfl⟩ (Nat.le_of_ble_eq_true rfl) G (fun p e s m args below meth c C0 ls hl => ?_) hr
  have hl : lv_has ls 4 [(0, .ref (ad 0)), (1, .int v1)] := hl
  rw [mX7_needPlan]
  refine sx_aload_n C0 dX7_needPlan_0 rfl (lv_at hl 0 rfl) ?_
  refine gf_X7_13 C0 is7 dX7_needPlan_1 ?_
  refine sx_iload_n C0 dX7_needPlan_4 rfl (lv_at hl 1 rfl) ?_
  refine sx_iald C0 is7_sizes rfl dX7_needPlan_5 (fun a5 => ?_)
  refine sx_if_ge (tgt := 15) C0 dX7_needPlan_6 (by decide) (fun _ => ?_) (fun _ => ?_)
  · refine sx_aload_n C0 dX7_needPlan_15 rfl (lv_at hl 0 rfl) ?_
    refine gf_X7_13 C0 is7 dX7_needPlan_16 ?_
    refine sx_iload_n C0 dX7_needPlan_19 rfl (lv_at hl 1 rfl) ?_
    refine sx_iald C0 is7_sizes rfl dX7_needPlan_20 (fun a20 => ?_)
    refine sx_bipush (v := 30) C0 dX7_needPlan_21 (by decide) ?_
    refine sx_icmp_le (tgt := 32) C0 dX7_needPlan_23 (by decide) (fun _ => ?_) (fun _ => ?_)
    · refine sx_iconst (v := 1) C0 dX7_needPlan_32 (by decide) ?_
      refine sx_istore_n (lv' := [(2, .int (1 : Int32)), (0, .ref (ad 0)), (1, .int v1)]) C0 dX7_needPlan_33 rfl hl (by decide) rfl (fun ls hl => ?_)
      refine sx_iconst (v := 0) C0 dX7_needPlan_34 (by decide) ?_
      refine sx_istore_n (lv' := [(3, .int (0 : Int32)), (2, .int (1 : Int32)), (0, .ref (ad 0)), (1, .int v1)]) C0 dX7_needPlan_35 rfl hl (by decide) rfl (fun ls hl => ?_)
      exact lX7_needPlan_36_t C0 _ _ _ _ _ _ (lv_sub hl [2, 3, 1, 0] rfl)
    · refine sx_aload_n C0 dX7_needPlan_26 rfl (lv_at hl 0 rfl) ?_
      refine sx_iconst (v := 5) C0 dX7_needPlan_27 (by decide) ?_
      refine sw_bind (fun q28 e28 => ?_)
      refine cv_X7_94 (As := [.int (5 : Int32)]) C0 (c_X7_meets C0.2.2.2.2.2.2.2.1 (5 : Int32) S _ e28) is7 ⟨rfl, rfl⟩ ⟨Nat.le_of_ble_eq_true rfl, Nat.le_of_ble_eq_true rfl⟩ rfl hl.1 (Nat.le_of_ble_eq_true rfl) rfl dX7_needPlan_28 (fun _ => ?_)
      exact sx_iret C0 rfl rfl trivial dX7_needPlan_31
  · refine sx_aload_n C0 dX7_needPlan_9 rfl (lv_at hl 0 rfl) ?_
    refine sx_iconst (v := 1) C0 dX7_needPlan_10 (by decide) ?_
    refine sw_bind (fun q11 e11 => ?_)
    refine cv_X7_94 (As := [.int (1 : Int32)]) C0 (c_X7_meets C0.2.2.2.2.2.2.2.1 (1 : Int32) S _ e11) is7 ⟨rfl, rfl⟩ ⟨Nat.le_of_ble_eq_true rfl, Nat.le_of_ble_eq_true rfl⟩ rfl hl.1 (Nat.le_of_ble_eq_true rfl) rfl dX7_needPlan_11 (fun _ => ?_)
    exact sx_iret C0 rfl rfl trivial dX7_needPlan_14
abbrev rm_X7_tries : Room := { frames := 7, cells := 0, slots := 0, locals := 158 }
def bX7_tries_81    (S : vS) (v3 : Int32) (v4 : Int32)  : Option (Int32 × vS) := (lt (mX7_tells S v4 v3) fun q85 => (some (q85.1, q85.2)))
set_option maxHeartbeats 4000000 in
set_option maxRecDepth 100000 in
theorem bX7_tries_81_t {p : Program} {l : Launch} {e : Env} {s : State} {m : MethodId} {args : Array Value} {below : List Frame} {meth : Method} {c : Code} {D : va_G} {cA : Nat → ClassId} {ad : Nat → Nat}   (C0 : Cx D vwCl tlM shM cA ad ExM RX7 cX7_tries 5 (some .int) p s m args meth c)  (S : vS) (v3 : Int32) (v4 : Int32) (ls : Array Slot) (hl : lv_has ls 5 [(0, .ref (ad 0)), (3, .int v3), (4, .int v4)]) : SW p l e rm_X7_tries s m args below meth c D vwCl shM cA ad (Fq D vwCl shM cA ad below args s (fun q => some (.int q.1) : (Int32 × vS) → Option Value) (fun q => q.2) (fun _ => True)) (bX7_tries_81 S v3 v4) S 81 ls [] := by
  rw [bX7_tries_81]
  refine sx_aload_n C0 dX7_tries_81 rfl (lv_at hl 0 rfl) ?_
  refine sx_iload C0 dX7_tries_82 (lv_at hl 2 rfl) ?_
  refine sx_iload_n C0 dX7_tries_84 rfl (lv_at hl 1 rfl) ?_
  refine cv_X7_102 (As := [.int v4, .int v3]) C0 (c_X7_tells C0.2.2.2.2.2.2.2.1 v4 v3 S) is7 ⟨rfl, rfl⟩ ⟨Nat.le_of_ble_eq_true rfl, Nat.le_of_ble_eq_true rfl⟩ rfl hl.1 (Nat.le_of_ble_eq_true rfl) rfl dX7_tries_85 (fun _ => ?_)
  refine sw_ltQ (val := .int) (fun q85 => ?_)
  exact sx_iret C0 rfl rfl trivial dX7_tries_88
def lX7_tries_42    (v1 : Int32) : Nat → vS → Int32 → Int32 → Option (Int32 × vS)
  | 0, _, _, _ => none
  | n + 1, S, v3, v4 => ((gI (S.1 2) 6 v1).bind fun a48 => (if a48 ≤ v3 then (bX7_tries_81 S v3 v4) else ((mX7_rowAt S v1 v3).bind fun a57 => ((mX7_goes S (1 : Int32) a57).bind fun q60 => (if q60.1 = 0 then (bX7_tries_81 q60.2 v3 v4) else (lt (v4 + (q60.2.1 0 20)) fun v4_73 => ((lX7_tries_42 v1 n) q60.2 (v3 + (1 : Int32)) v4_73)))))))
set_option maxHeartbeats 4000000 in
set_option maxRecDepth 100000 in
theorem lX7_tries_42_t {p : Program} {l : Launch} {e : Env} {s : State} {m : MethodId} {args : Array Value} {below : List Frame} {meth : Method} {c : Code} {D : va_G} {cA : Nat → ClassId} {ad : Nat → Nat}   (C0 : Cx D vwCl tlM shM cA ad ExM RX7 cX7_tries 5 (some .int) p s m args meth c)   (v1 : Int32)  : ∀ (n : Nat) (S : vS) (v3 : Int32) (v4 : Int32) (ls : Array Slot), lv_has ls 5 [(0, .ref (ad 0)), (1, .int v1), (3, .int v3), (4, .int v4)] → SW p l e rm_X7_tries s m args below meth c D vwCl shM cA ad (Fq D vwCl shM cA ad below args s (fun q => some (.int q.1) : (Int32 × vS) → Option Value) (fun q => q.2) (fun _ => True)) (lX7_tries_42 v1 n S v3 v4) S 42 ls [] := by
  intro n
  induction n with
  | zero =>
    intro S v3 v4 ls hl
    rw [lX7_tries_42]
    exact sw_none
  | succ n ih =>
    intro S v3 v4 ls hl
    rw [lX7_tries_42]
    refine sx_iload_n C0 dX7_tries_42 rfl (lv_at hl 2 rfl) ?_
    refine sx_aload_n C0 dX7_tries_43 rfl (lv_at hl 0 rfl) ?_
    refine gf_X7_13 C0 is7 dX7_tries_44 ?_
    refine sx_iload_n C0 dX7_tries_47 rfl (lv_at hl 1 rfl) ?_
    refine sx_iald C0 is7_sizes rfl dX7_tries_48 (fun a48 => ?_)
    refine sx_icmp_ge (tgt := 81) C0 dX7_tries_49 (by decide) (fun _ => ?_) (fun _ => ?_)
    · exact bX7_tries_81_t C0 _ _ _ _ (lv_sub hl [0, 2, 3] rfl)
    · refine sx_aload_n C0 dX7_tries_52 rfl (lv_at hl 0 rfl) ?_
      refine sx_iconst (v := 1) C0 dX7_tries_53 (by decide) ?_
      refine sx_aload_n C0 dX7_tries_54 rfl (lv_at hl 0 rfl) ?_
      refine sx_iload_n C0 dX7_tries_55 rfl (lv_at hl 1 rfl) ?_
      refine sx_iload_n C0 dX7_tries_56 rfl (lv_at hl 2 rfl) ?_
      refine sw_bind (fun a57 e57 => ?_)
      refine cv_X7_98 (As := [.int v1, .int v3]) C0 (c_X7_rowAt C0.2.2.2.2.2.2.2.1 v1 v3 S _ e57) is7 ⟨rfl, rfl⟩ ⟨Nat.le_of_ble_eq_true rfl, Nat.le_of_ble_eq_true rfl⟩ rfl hl.1 (Nat.le_of_ble_eq_true rfl) rfl dX7_tries_57 (fun _ => ?_)
      refine sw_bind (fun q60 e60 => ?_)
      refine cv_X7_214 (As := [.int (1 : Int32), .int a57]) C0 (c_X7_goes C0.2.2.2.2.2.2.2.1 (1 : Int32) a57 S _ e60) is7 ⟨rfl, rfl⟩ ⟨Nat.le_of_ble_eq_true rfl, Nat.le_of_ble_eq_true rfl⟩ rfl hl.1 (Nat.le_of_ble_eq_true rfl) rfl dX7_tries_60 (fun hb60 => ?_)
      refine sx_if_eq (tgt := 81) C0 dX7_tries_63 (by decide) (fun _ => ?_) (fun _ => ?_)
      · exact bX7_tries_81_t C0 _ _ _ _ (lv_sub hl [0, 2, 3] rfl)
      · refine sx_iload C0 dX7_tries_66 (lv_at hl 3 rfl) ?_
        refine sx_aload_n C0 dX7_tries_68 rfl (lv_at hl 0 rfl) ?_
        refine gf_X7_186 C0 is7 dX7_tries_69 ?_
        refine sx_iadd C0 dX7_tries_72 ?_
        refine sw_lt (val := .int) (fun v4_73 => ?_)
        refine sx_istore (lv' := [(4, .int v4_73), (0, .ref (ad 0)), (1, .int v1), (3, .int v3)]) C0 dX7_tries_73 hl (by decide) rfl (fun ls hl => ?_)
        refine sx_iinc (v := (v3 + (1 : Int32))) (lv' := [(3, .int (v3 + (1 : Int32))), (4, .int v4_73), (0, .ref (ad 0)), (1, .int v1)]) C0 dX7_tries_75 hl (k := 3) rfl rfl (by decide) rfl (fun ls hl => ?_)
        refine sx_goto (tgt := 42) C0 dX7_tries_78 (by decide) ?_
        exact ih _ _ _ _ (lv_sub hl [2, 3, 0, 1] rfl)
def mX7_tries (S : vS) (v1 : Int32) : Option (Int32 × vS) := (if (mX7_isRow v1) = 0 then (some ((-1 : Int32), S)) else (if (S.1 0 10) = 0 then (some ((-4 : Int32), S)) else ((mX7_needPlan S v1).bind fun q21 => (lt q21.1 fun v2_24 => (if 0 ≤ v2_24 then ((mX7_copyValley q21.2 (0 : Int32) (1 : Int32)).bind fun S34 => (lX7_tries_42 v1 FU S34 (0 : Int32) (0 : Int32))) else (some (v2_24, q21.2)))))))
set_option maxHeartbeats 4000000 in
set_option maxRecDepth 100000 in
theorem c_X7_tries {l : Launch} {D : va_G} {cA : Nat → ClassId} {ad : Nat → Nat} (G : Gx shM ad ExM) (v1 : Int32) (S : vS) (r : (Int32 × vS)) (hr : (mX7_tries S v1) = some r) : Met l yX7_tries (Cond.code yX7_tries cX7_tries 5 (some .int) :: ALL) rm_X7_tries (Po D vwCl tlM shM cA ad ExM [.ref (ad 0), .int v1] S) (Qo D vwCl shM cA ad (some (.int r.1)) r.2 True) 0 0 (aw shM ad) := by
  refine Met.sx (M := (mX7_tries S v1)) (rv := (fun q => some (.int q.1) : (Int32 × vS) → Option Value)) (rs := fun q => q.2) (B := fun _ => True) (by decide) ⟨rfl, rfl⟩ (Nat.le_of_ble_eq_true rfl) G (fun p e s m args below meth c C0 ls hl => ?_) hr
  have hl : lv_has ls 5 [(0, .ref (ad 0)), (1, .int v1)] := hl
  rw [mX7_tries]
  refine sx_iload_n C0 dX7_tries_0 rfl (lv_at hl 1 rfl) ?_
  refine cv_X7_90 (As := [.int v1]) C0 (c_X7_isRow C0.2.2.2.2.2.2.2.1 v1 S) ⟨rfl, rfl⟩ ⟨Nat.le_of_ble_eq_true rfl, Nat.le_of_ble_eq_true rfl⟩ rfl hl.1 (Nat.le_of_ble_eq_true rfl) rfl dX7_tries_1 (fun hb1 => ?_)
  refine sx_if_ne (tgt := 9) C0 dX7_tries_4 (by decide) (fun _ => ?_) (fun _ => ?_)
  · refine sx_iconst (v := (-1)) C0 dX7_tries_7 (by decide) ?_
    exact sx_iret C0 rfl rfl trivial dX7_tries_8
  · refine sx_aload_n C0 dX7_tries_9 rfl (lv_at hl 0 rfl) ?_
    refine gf_X7_139 C0 is7 dX7_tries_10 ?_
    refine sx_if_ne (tgt := 19) C0 dX7_tries_13 (by decide) (fun _ => ?_) (fun _ => ?_)
    · refine sx_bipush (v := (-4)) C0 dX7_tries_16 (by decide) ?_
      exact sx_iret C0 rfl rfl trivial dX7_tries_18
    · refine sx_aload_n C0 dX7_tries_19 rfl (lv_at hl 0 rfl) ?_
      refine sx_iload_n C0 dX7_tries_20 rfl (lv_at hl 1 rfl) ?_
      refine sw_bind (fun q21 e21 => ?_)
      refine cv_X7_273 (As := [.int v1]) C0 (c_X7_needPlan C0.2.2.2.2.2.2.2.1 v1 S _ e21) is7 ⟨rfl, rfl⟩ ⟨Nat.le_of_ble_eq_true rfl, Nat.le_of_ble_eq_true rfl⟩ rfl hl.1 (Nat.le_of_ble_eq_true rfl) rfl dX7_tries_21 (fun _ => ?_)
      refine sw_lt (val := .int) (fun v2_24 => ?_)
      refine sx_istore_n (lv' := [(2, .int v2_24), (0, .ref (ad 0)), (1, .int v1)]) C0 dX7_tries_24 rfl hl (by decide) rfl (fun ls hl => ?_)
      refine sx_iload_n C0 dX7_tries_25 rfl (lv_at hl 0 rfl) ?_
      refine sx_if_ge (tgt := 31) C0 dX7_tries_26 (by decide) (fun _ => ?_) (fun _ => ?_)
      · refine sx_aload_n C0 dX7_tries_31 rfl (lv_at hl 1 rfl) ?_
        refine sx_iconst (v := 0) C0 dX7_tries_32 (by decide) ?_
        refine sx_iconst (v := 1) C0 dX7_tries_33 (by decide) ?_
        refine sw_bind (fun S34 e34 => ?_)
        refine cv_X7_233 (As := [.int (0 : Int32), .int (1 : Int32)]) C0 (c_X7_copyValley C0.2.2.2.2.2.2.2.1 (0 : Int32) (1 : Int32) q21.2 _ e34) is7 ⟨rfl, rfl⟩ ⟨Nat.le_of_ble_eq_true rfl, Nat.le_of_ble_eq_true rfl⟩ rfl hl.1 (Nat.le_of_ble_eq_true rfl) rfl dX7_tries_34 (fun _ => ?_)
        refine sx_iconst (v := 0) C0 dX7_tries_37 (by decide) ?_
        refine sx_istore_n (lv' := [(3, .int (0 : Int32)), (2, .int v2_24), (0, .ref (ad 0)), (1, .int v1)]) C0 dX7_tries_38 rfl hl (by decide) rfl (fun ls hl => ?_)
        refine sx_iconst (v := 0) C0 dX7_tries_39 (by decide) ?_
        refine sx_istore (lv' := [(4, .int (0 : Int32)), (3, .int (0 : Int32)), (2, .int v2_24), (0, .ref (ad 0)), (1, .int v1)]) C0 dX7_tries_40 hl (by decide) rfl (fun ls hl => ?_)
        exact lX7_tries_42_t C0 _ _ _ _ _ _ (lv_sub hl [3, 4, 1, 0] rfl)
      · refine sx_iload_n C0 dX7_tries_29 rfl (lv_at hl 0 rfl) ?_
        exact sx_iret C0 rfl rfl trivial dX7_tries_30
abbrev rm_X7_safe : Room := { frames := 9, cells := 0, slots := 0, locals := 202 }
def bX7_safe_36    (S : vS) (v2 : Int32)  : Option (Int32 × vS) := ((mX7_keepPlan S).bind fun S37 => ((mX7_planToRow S37 v2).bind fun S42 => (some ((1 : Int32), S42))))
set_option maxHeartbeats 4000000 in
set_option maxRecDepth 100000 in
theorem bX7_safe_36_t {p : Program} {l : Launch} {e : Env} {s : State} {m : MethodId} {args : Array Value} {below : List Frame} {meth : Method} {c : Code} {D : va_G} {cA : Nat → ClassId} {ad : Nat → Nat}   (C0 : Cx D vwCl tlM shM cA ad ExM RX7 cX7_safe 4 (some .int) p s m args meth c)  (S : vS) (v2 : Int32) (ls : Array Slot) (hl : lv_has ls 4 [(0, .ref (ad 0)), (2, .int v2)]) : SW p l e rm_X7_safe s m args below meth c D vwCl shM cA ad (Fq D vwCl shM cA ad below args s (fun q => some (.int q.1) : (Int32 × vS) → Option Value) (fun q => q.2) (fun _ => True)) (bX7_safe_36 S v2) S 36 ls [] := by
  rw [bX7_safe_36]
  refine sx_aload_n C0 dX7_safe_36 rfl (lv_at hl 0 rfl) ?_
  refine sw_bind (fun S37 e37 => ?_)
  refine cv_X7_260 (As := []) C0 (c_X7_keepPlan C0.2.2.2.2.2.2.2.1 S _ e37) is7 ⟨rfl, rfl⟩ ⟨Nat.le_of_ble_eq_true rfl, Nat.le_of_ble_eq_true rfl⟩ rfl hl.1 (Nat.le_of_ble_eq_true rfl) rfl dX7_safe_37 (fun _ => ?_)
  refine sx_aload_n C0 dX7_safe_40 rfl (lv_at hl 0 rfl) ?_
  refine sx_iload_n C0 dX7_safe_41 rfl (lv_at hl 1 rfl) ?_
  refine sw_bind (fun S42 e42 => ?_)
  refine cv_X7_270 (As := [.int v2]) C0 (c_X7_planToRow C0.2.2.2.2.2.2.2.1 v2 S37 _ e42) is7 ⟨rfl, rfl⟩ ⟨Nat.le_of_ble_eq_true rfl, Nat.le_of_ble_eq_true rfl⟩ rfl hl.1 (Nat.le_of_ble_eq_true rfl) rfl dX7_safe_42 (fun _ => ?_)
  refine sx_iconst (v := 1) C0 dX7_safe_45 (by decide) ?_
  exact sx_iret C0 rfl rfl trivial dX7_safe_46
def lX7_safe_22    (v2 : Int32) : Nat → vS → Option (Int32 × vS)
  | 0, _ => none
  | n + 1, S => ((mX7_nextPlan S).bind fun q23 => (if q23.1 = 0 then (some ((-9 : Int32), q23.2)) else (if (q23.2.1 0 31) = 0 then (bX7_safe_36 q23.2 v2) else ((lX7_safe_22 v2 n) q23.2))))
set_option maxHeartbeats 4000000 in
set_option maxRecDepth 100000 in
theorem lX7_safe_22_t {p : Program} {l : Launch} {e : Env} {s : State} {m : MethodId} {args : Array Value} {below : List Frame} {meth : Method} {c : Code} {D : va_G} {cA : Nat → ClassId} {ad : Nat → Nat}   (C0 : Cx D vwCl tlM shM cA ad ExM RX7 cX7_safe 4 (some .int) p s m args meth c)   (v2 : Int32)  : ∀ (n : Nat) (S : vS)  (ls : Array Slot), lv_has ls 4 [(0, .ref (ad 0)), (2, .int v2)] → SW p l e rm_X7_safe s m args below meth c D vwCl shM cA ad (Fq D vwCl shM cA ad below args s (fun q => some (.int q.1) : (Int32 × vS) → Option Value) (fun q => q.2) (fun _ => True)) (lX7_safe_22 v2 n S) S 22 ls [] := by
  intro n
  induction n with
  | zero =>
    intro S ls hl
    rw [lX7_safe_22]
    exact sw_none
  | succ n ih =>
    intro S ls hl
    rw [lX7_safe_22]
    refine sx_aload_n C0 dX7_safe_22 rfl (lv_at hl 0 rfl) ?_
    refine sw_bind (fun q23 e23 => ?_)
    refine cv_X7_256 (As := []) C0 (c_X7_nextPlan C0.2.2.2.2.2.2.2.1 S _ e23) is7 ⟨rfl, rfl⟩ ⟨Nat.le_of_ble_eq_true rfl, Nat.le_of_ble_eq_true rfl⟩ rfl hl.1 (Nat.le_of_ble_eq_true rfl) rfl dX7_safe_23 (fun hb23 => ?_)
    refine sx_if_eq (tgt := 47) C0 dX7_safe_26 (by decide) (fun _ => ?_) (fun _ => ?_)
    · refine sx_bipush (v := (-9)) C0 dX7_safe_47 (by decide) ?_
      exact sx_iret C0 rfl rfl trivial dX7_safe_49
    · refine sx_aload_n C0 dX7_safe_29 rfl (lv_at hl 0 rfl) ?_
      refine gf_X7_240 C0 is7 dX7_safe_30 ?_
      refine sx_if_ne (tgt := 22) C0 dX7_safe_33 (by decide) (fun _ => ?_) (fun _ => ?_)
      · exact bX7_safe_36_t C0 _ _ _ (lv_sub hl [0, 1] rfl)
      · exact ih _ _ (lv_sub hl [0, 1] rfl)
def mX7_safe (S : vS) (v1 : Int32) (v2 : Int32) : Option (Int32 × vS) := (lt (mX7_needDays S (mX7_isRow v2) v1 (4 : Int32)) fun v3_10 => (if 0 ≤ v3_10 then ((mX7_noPlan S v1).bind fun S19 => (lX7_safe_22 v2 FU S19)) else (some (v3_10, S))))
set_option maxHeartbeats 4000000 in
set_option maxRecDepth 100000 in
theorem c_X7_safe {l : Launch} {D : va_G} {cA : Nat → ClassId} {ad : Nat → Nat} (G : Gx shM ad ExM) (v1 : Int32) (v2 : Int32) (S : vS) (r : (Int32 × vS)) (hr : (mX7_safe S v1 v2) = some r) : Met l yX7_safe (Cond.code yX7_safe cX7_safe 4 (some .int) :: ALL) rm_X7_safe (Po D vwCl tlM shM cA ad ExM [.ref (ad 0), .int v1, .int v2] S) (Qo D vwCl shM cA ad (some (.int r.1)) r.2 True) 0 0 (aw shM ad) := by
  refine Met.sx (M := (mX7_safe S v1 v2)) (rv := (fun q => some (.int q.1) : (Int32 × vS) → Option Value)) (rs := fun q => q.2) (B := fun _ => True) (by decide) ⟨rfl, rfl⟩ (Nat.le_of_ble_eq_true rfl) G (fun p e s m args below meth c C0 ls hl => ?_) hr
  have hl : lv_has ls 4 [(0, .ref (ad 0)), (1, .int v1), (2, .int v2)] := hl
  rw [mX7_safe]
  refine sx_aload_n C0 dX7_safe_0 rfl (lv_at hl 0 rfl) ?_
  refine sx_iload_n C0 dX7_safe_1 rfl (lv_at hl 2 rfl) ?_
  refine cv_X7_90 (As := [.int v2]) C0 (c_X7_isRow C0.2.2.2.2.2.2.2.1 v2 S) ⟨rfl, rfl⟩ ⟨Nat.le_of_ble_eq_true rfl, Nat.le_of_ble_eq_true rfl⟩ rfl hl.1 (Nat.le_of_ble_eq_true rfl) rfl dX7_safe_2 (fun hb2 => ?_)
  refine sx_iload_n C0 dX7_safe_5 rfl (lv_at hl 1 rfl) ?_
  refine sx_iconst (v := 4) C0 dX7_safe_6 (by decide) ?_
  refine cv_X7_263 (As := [.int (mX7_isRow v2), .int v1, .int (4 : Int32)]) C0 (c_X7_needDays C0.2.2.2.2.2.2.2.1 (mX7_isRow v2) v1 (4 : Int32) S) is7 ⟨rfl, rfl⟩ ⟨Nat.le_of_ble_eq_true rfl, Nat.le_of_ble_eq_true rfl⟩ rfl hl.1 (Nat.le_of_ble_eq_true rfl) rfl dX7_safe_7 (fun _ => ?_)
  refine sw_lt (val := .int) (fun v3_10 => ?_)
  refine sx_istore_n (lv' := [(3, .int v3_10), (0, .ref (ad 0)), (1, .int v1), (2, .int v2)]) C0 dX7_safe_10 rfl hl (by decide) rfl (fun ls hl => ?_)
  refine sx_iload_n C0 dX7_safe_11 rfl (lv_at hl 0 rfl) ?_
  refine sx_if_ge (tgt := 17) C0 dX7_safe_12 (by decide) (fun _ => ?_) (fun _ => ?_)
  · refine sx_aload_n C0 dX7_safe_17 rfl (lv_at hl 1 rfl) ?_
    refine sx_iload_n C0 dX7_safe_18 rfl (lv_at hl 2 rfl) ?_
    refine sw_bind (fun S19 e19 => ?_)
    refine cv_X7_253 (As := [.int v1]) C0 (c_X7_noPlan C0.2.2.2.2.2.2.2.1 v1 S _ e19) is7 ⟨rfl, rfl⟩ ⟨Nat.le_of_ble_eq_true rfl, Nat.le_of_ble_eq_true rfl⟩ rfl hl.1 (Nat.le_of_ble_eq_true rfl) rfl dX7_safe_19 (fun _ => ?_)
    exact lX7_safe_22_t C0 _ _ _ _ (lv_sub hl [1, 3] rfl)
  · refine sx_iload_n C0 dX7_safe_15 rfl (lv_at hl 0 rfl) ?_
    exact sx_iret C0 rfl rfl trivial dX7_safe_16
abbrev rm_X7_share : Room := { frames := 9, cells := 0, slots := 0, locals := 202 }
def bX7_share_48   (K24 : vS → Int32 → Int32 → Option (Int32 × vS)) (S : vS) (v3 : Int32) (t0 : Int32) (t1 : Int32) : Option (Int32 × vS) := (lt (t1 + t0) fun v4_49 => (K24 S v3 v4_49))
set_option maxHeartbeats 4000000 in
set_option maxRecDepth 100000 in
theorem bX7_share_48_t {p : Program} {l : Launch} {e : Env} {s : State} {m : MethodId} {args : Array Value} {below : List Frame} {meth : Method} {c : Code} {D : va_G} {cA : Nat → ClassId} {ad : Nat → Nat} {K24 : vS → Int32 → Int32 → Option (Int32 × vS)}  (C0 : Cx D vwCl tlM shM cA ad ExM RX7 cX7_share 5 (some .int) p s m args meth c)  (S : vS) (v3 : Int32) (t0 : Int32) (t1 : Int32) (hK24 : ∀ (S : vS) (v3 : Int32) (v4 : Int32) (ls : Array Slot), lv_has ls 5 [(0, .ref (ad 0)), (3, .int v3), (4, .int v4)] → SW p l e rm_X7_share s m args below meth c D vwCl shM cA ad (Fq D vwCl shM cA ad below args s (fun q => some (.int q.1) : (Int32 × vS) → Option Value) (fun q => q.2) (fun _ => True)) (K24 S v3 v4) S 24 ls []) (ls : Array Slot) (hl : lv_has ls 5 [(0, .ref (ad 0)), (3, .int v3)]) : SW p l e rm_X7_share s m args below meth c D vwCl shM cA ad (Fq D vwCl shM cA ad below args s (fun q => some (.int q.1) : (Int32 × vS) → Option Value) (fun q => q.2) (fun _ => True)) (bX7_share_48 K24 S v3 t0 t1) S 48 ls [.int t0, .int t1] := by
  rw [bX7_share_48]
  refine sx_iadd C0 dX7_share_48 ?_
  refine sw_lt (val := .int) (fun v4_49 => ?_)
  refine sx_istore (lv' := [(4, .int v4_49), (0, .ref (ad 0)), (3, .int v3)]) C0 dX7_share_49 hl (by decide) rfl (fun ls hl => ?_)
  refine sx_goto (tgt := 24) C0 dX7_share_51 (by decide) ?_
  exact hK24 _ _ _ _ (lv_sub hl [1, 2, 0] rfl)
def bX7_share_54    (S : vS) (v3 : Int32) (v4 : Int32)  : Option (Int32 × vS) := ((mX7_fraction S (Int32.toInt64 v4) (Int32.toInt64 v3) v4).bind fun q62 => (some (q62.1, q62.2)))
set_option maxHeartbeats 4000000 in
set_option maxRecDepth 100000 in
theorem bX7_share_54_t {p : Program} {l : Launch} {e : Env} {s : State} {m : MethodId} {args : Array Value} {below : List Frame} {meth : Method} {c : Code} {D : va_G} {cA : Nat → ClassId} {ad : Nat → Nat}   (C0 : Cx D vwCl tlM shM cA ad ExM RX7 cX7_share 5 (some .int) p s m args meth c)  (S : vS) (v3 : Int32) (v4 : Int32) (ls : Array Slot) (hl : lv_has ls 5 [(0, .ref (ad 0)), (3, .int v3), (4, .int v4)]) : SW p l e rm_X7_share s m args below meth c D vwCl shM cA ad (Fq D vwCl shM cA ad below args s (fun q => some (.int q.1) : (Int32 × vS) → Option Value) (fun q => q.2) (fun _ => True)) (bX7_share_54 S v3 v4) S 54 ls [] := by
  rw [bX7_share_54]
  refine sx_aload_n C0 dX7_share_54 rfl (lv_at hl 0 rfl) ?_
  refine sx_iload C0 dX7_share_55 (lv_at hl 2 rfl) ?_
  refine sx_i2l C0 dX7_share_57 ?_
  refine sx_iload_n C0 dX7_share_58 rfl (lv_at hl 1 rfl) ?_
  refine sx_i2l C0 dX7_share_59 ?_
  refine sx_iload C0 dX7_share_60 (lv_at hl 2 rfl) ?_
  refine sw_bind (fun q62 e62 => ?_)
  refine cv_X7_276 (As := [.long (Int32.toInt64 v4), .long (Int32.toInt64 v3), .int v4]) C0 (c_X7_fraction C0.2.2.2.2.2.2.2.1 (Int32.toInt64 v4) (Int32.toInt64 v3) v4 S _ e62) is7 ⟨rfl, rfl⟩ ⟨Nat.le_of_ble_eq_true rfl, Nat.le_of_ble_eq_true rfl⟩ rfl hl.1 (Nat.le_of_ble_eq_true rfl) rfl dX7_share_62 (fun _ => ?_)
  exact sx_iret C0 rfl rfl trivial dX7_share_65
def lX7_share_24     : Nat → vS → Int32 → Int32 → Option (Int32 × vS)
  | 0, _, _, _ => none
  | n + 1, S, v3, v4 => ((mX7_nextPlan S).bind fun q25 => (if q25.1 = 0 then (bX7_share_54 q25.2 v3 v4) else (if (q25.2.1 0 31) = 0 then (bX7_share_48 (lX7_share_24 n) q25.2 (v3 + (1 : Int32)) (1 : Int32) v4) else (bX7_share_48 (lX7_share_24 n) q25.2 (v3 + (1 : Int32)) (0 : Int32) v4))))
set_option maxHeartbeats 4000000 in
set_option maxRecDepth 100000 in
theorem lX7_share_24_t {p : Program} {l : Launch} {e : Env} {s : State} {m : MethodId} {args : Array Value} {below : List Frame} {meth : Method} {c : Code} {D : va_G} {cA : Nat → ClassId} {ad : Nat → Nat}   (C0 : Cx D vwCl tlM shM cA ad ExM RX7 cX7_share 5 (some .int) p s m args meth c)     : ∀ (n : Nat) (S : vS) (v3 : Int32) (v4 : Int32) (ls : Array Slot), lv_has ls 5 [(0, .ref (ad 0)), (3, .int v3), (4, .int v4)] → SW p l e rm_X7_share s m args below meth c D vwCl shM cA ad (Fq D vwCl shM cA ad below args s (fun q => some (.int q.1) : (Int32 × vS) → Option Value) (fun q => q.2) (fun _ => True)) (lX7_share_24 n S v3 v4) S 24 ls [] := by
  intro n
  induction n with
  | zero =>
    intro S v3 v4 ls hl
    rw [lX7_share_24]
    exact sw_none
  | succ n ih =>
    intro S v3 v4 ls hl
    rw [lX7_share_24]
    refine sx_aload_n C0 dX7_share_24 rfl (lv_at hl 0 rfl) ?_
    refine sw_bind (fun q25 e25 => ?_)
    refine cv_X7_256 (As := []) C0 (c_X7_nextPlan C0.2.2.2.2.2.2.2.1 S _ e25) is7 ⟨rfl, rfl⟩ ⟨Nat.le_of_ble_eq_true rfl, Nat.le_of_ble_eq_true rfl⟩ rfl hl.1 (Nat.le_of_ble_eq_true rfl) rfl dX7_share_25 (fun hb25 => ?_)
    refine sx_if_eq (tgt := 54) C0 dX7_share_28 (by decide) (fun _ => ?_) (fun _ => ?_)
    · exact bX7_share_54_t C0 _ _ _ _ (lv_sub hl [0, 1, 2] rfl)
    · refine sx_iinc (v := (v3 + (1 : Int32))) (lv' := [(3, .int (v3 + (1 : Int32))), (0, .ref (ad 0)), (4, .int v4)]) C0 dX7_share_31 hl (k := 1) rfl rfl (by decide) rfl (fun ls hl => ?_)
      refine sx_iload C0 dX7_share_34 (lv_at hl 2 rfl) ?_
      refine sx_aload_n C0 dX7_share_36 rfl (lv_at hl 1 rfl) ?_
      refine gf_X7_240 C0 is7 dX7_share_37 ?_
      refine sx_if_ne (tgt := 47) C0 dX7_share_40 (by decide) (fun _ => ?_) (fun _ => ?_)
      · refine sx_iconst (v := 1) C0 dX7_share_43 (by decide) ?_
        refine sx_goto (tgt := 48) C0 dX7_share_44 (by decide) ?_
        exact bX7_share_48_t C0 _ _ _ _ ih _ (lv_sub hl [1, 0] rfl)
      · refine sx_iconst (v := 0) C0 dX7_share_47 (by decide) ?_
        exact bX7_share_48_t C0 _ _ _ _ ih _ (lv_sub hl [1, 0] rfl)
def mX7_share (S : vS) (v1 : Int32) : Option (Int32 × vS) := (lt (mX7_needDays S (1 : Int32) v1 (3 : Int32)) fun v2_7 => (if 0 ≤ v2_7 then ((mX7_noPlan S v1).bind fun S21 => (lX7_share_24 FU S21 (0 : Int32) (0 : Int32))) else (some (v2_7, S))))
set_option maxHeartbeats 4000000 in
set_option maxRecDepth 100000 in
theorem c_X7_share {l : Launch} {D : va_G} {cA : Nat → ClassId} {ad : Nat → Nat} (G : Gx shM ad ExM) (v1 : Int32) (S : vS) (r : (Int32 × vS)) (hr : (mX7_share S v1) = some r) : Met l yX7_share (Cond.code yX7_share cX7_share 5 (some .int) :: ALL) rm_X7_share (Po D vwCl tlM shM cA ad ExM [.ref (ad 0), .int v1] S) (Qo D vwCl shM cA ad (some (.int r.1)) r.2 True) 0 0 (aw shM ad) := by
  refine Met.sx (M := (mX7_share S v1)) (rv := (fun q => some (.int q.1) : (Int32 × vS) → Option Value)) (rs := fun q => q.2) (B := fun _ => True) (by decide) ⟨rfl, rfl⟩ (Nat.le_of_ble_eq_true rfl) G (fun p e s m args below meth c C0 ls hl => ?_) hr
  have hl : lv_has ls 5 [(0, .ref (ad 0)), (1, .int v1)] := hl
  rw [mX7_share]
  refine sx_aload_n C0 dX7_share_0 rfl (lv_at hl 0 rfl) ?_
  refine sx_iconst (v := 1) C0 dX7_share_1 (by decide) ?_
  refine sx_iload_n C0 dX7_share_2 rfl (lv_at hl 1 rfl) ?_
  refine sx_iconst (v := 3) C0 dX7_share_3 (by decide) ?_
  refine cv_X7_263 (As := [.int (1 : Int32), .int v1, .int (3 : Int32)]) C0 (c_X7_needDays C0.2.2.2.2.2.2.2.1 (1 : Int32) v1 (3 : Int32) S) is7 ⟨rfl, rfl⟩ ⟨Nat.le_of_ble_eq_true rfl, Nat.le_of_ble_eq_true rfl⟩ rfl hl.1 (Nat.le_of_ble_eq_true rfl) rfl dX7_share_4 (fun _ => ?_)
  refine sw_lt (val := .int) (fun v2_7 => ?_)
  refine sx_istore_n (lv' := [(2, .int v2_7), (0, .ref (ad 0)), (1, .int v1)]) C0 dX7_share_7 rfl hl (by decide) rfl (fun ls hl => ?_)
  refine sx_iload_n C0 dX7_share_8 rfl (lv_at hl 0 rfl) ?_
  refine sx_if_ge (tgt := 14) C0 dX7_share_9 (by decide) (fun _ => ?_) (fun _ => ?_)
  · refine sx_iconst (v := 0) C0 dX7_share_14 (by decide) ?_
    refine sx_istore_n (lv' := [(3, .int (0 : Int32)), (2, .int v2_7), (0, .ref (ad 0)), (1, .int v1)]) C0 dX7_share_15 rfl hl (by decide) rfl (fun ls hl => ?_)
    refine sx_iconst (v := 0) C0 dX7_share_16 (by decide) ?_
    refine sx_istore (lv' := [(4, .int (0 : Int32)), (3, .int (0 : Int32)), (2, .int v2_7), (0, .ref (ad 0)), (1, .int v1)]) C0 dX7_share_17 hl (by decide) rfl (fun ls hl => ?_)
    refine sx_aload_n C0 dX7_share_19 rfl (lv_at hl 3 rfl) ?_
    refine sx_iload_n C0 dX7_share_20 rfl (lv_at hl 4 rfl) ?_
    refine sw_bind (fun S21 e21 => ?_)
    refine cv_X7_253 (As := [.int v1]) C0 (c_X7_noPlan C0.2.2.2.2.2.2.2.1 v1 S _ e21) is7 ⟨rfl, rfl⟩ ⟨Nat.le_of_ble_eq_true rfl, Nat.le_of_ble_eq_true rfl⟩ rfl hl.1 (Nat.le_of_ble_eq_true rfl) rfl dX7_share_21 (fun _ => ?_)
    exact lX7_share_24_t C0 _ _ _ _ _ (lv_sub hl [3, 1, 0] rfl)
  · refine sx_iload_n C0 dX7_share_12 rfl (lv_at hl 0 rfl) ?_
    exact sx_iret C0 rfl rfl trivial dX7_share_13
abbrev rm_X7_food : Room := { frames := 9, cells := 0, slots := 0, locals := 202 }
def bX7_food_58   (K22 : vS → Int32 → Option (Int32 × vS)) (S : vS)  (t0 : Int32) : Option (Int32 × vS) := (K22 S t0)
set_option maxHeartbeats 4000000 in
set_option maxRecDepth 100000 in
theorem bX7_food_58_t {p : Program} {l : Launch} {e : Env} {s : State} {m : MethodId} {args : Array Value} {below : List Frame} {meth : Method} {c : Code} {D : va_G} {cA : Nat → ClassId} {ad : Nat → Nat} {K22 : vS → Int32 → Option (Int32 × vS)}  (C0 : Cx D vwCl tlM shM cA ad ExM RX7 cX7_food 4 (some .int) p s m args meth c)  (S : vS)  (t0 : Int32) (hK22 : ∀ (S : vS) (v3 : Int32) (ls : Array Slot), lv_has ls 4 [(0, .ref (ad 0)), (3, .int v3)] → SW p l e rm_X7_food s m args below meth c D vwCl shM cA ad (Fq D vwCl shM cA ad below args s (fun q => some (.int q.1) : (Int32 × vS) → Option Value) (fun q => q.2) (fun _ => True)) (K22 S v3) S 22 ls []) (ls : Array Slot) (hl : lv_has ls 4 [(0, .ref (ad 0))]) : SW p l e rm_X7_food s m args below meth c D vwCl shM cA ad (Fq D vwCl shM cA ad below args s (fun q => some (.int q.1) : (Int32 × vS) → Option Value) (fun q => q.2) (fun _ => True)) (bX7_food_58 K22 S t0) S 58 ls [.int t0] := by
  rw [bX7_food_58]
  refine sx_istore_n (lv' := [(3, .int t0), (0, .ref (ad 0))]) C0 dX7_food_58 rfl hl (by decide) rfl (fun ls hl => ?_)
  refine sx_goto (tgt := 22) C0 dX7_food_59 (by decide) ?_
  exact hK22 _ _ _ (lv_sub hl [1, 0] rfl)
def bX7_food_57   (K22 : vS → Int32 → Option (Int32 × vS)) (S : vS) (v3 : Int32)  : Option (Int32 × vS) := (bX7_food_58 K22 S v3)
set_option maxHeartbeats 4000000 in
set_option maxRecDepth 100000 in
theorem bX7_food_57_t {p : Program} {l : Launch} {e : Env} {s : State} {m : MethodId} {args : Array Value} {below : List Frame} {meth : Method} {c : Code} {D : va_G} {cA : Nat → ClassId} {ad : Nat → Nat} {K22 : vS → Int32 → Option (Int32 × vS)}  (C0 : Cx D vwCl tlM shM cA ad ExM RX7 cX7_food 4 (some .int) p s m args meth c)  (S : vS) (v3 : Int32) (hK22 : ∀ (S : vS) (v3 : Int32) (ls : Array Slot), lv_has ls 4 [(0, .ref (ad 0)), (3, .int v3)] → SW p l e rm_X7_food s m args below meth c D vwCl shM cA ad (Fq D vwCl shM cA ad below args s (fun q => some (.int q.1) : (Int32 × vS) → Option Value) (fun q => q.2) (fun _ => True)) (K22 S v3) S 22 ls []) (ls : Array Slot) (hl : lv_has ls 4 [(0, .ref (ad 0)), (3, .int v3)]) : SW p l e rm_X7_food s m args below meth c D vwCl shM cA ad (Fq D vwCl shM cA ad below args s (fun q => some (.int q.1) : (Int32 × vS) → Option Value) (fun q => q.2) (fun _ => True)) (bX7_food_57 K22 S v3) S 57 ls [] := by
  rw [bX7_food_57]
  refine sx_iload_n C0 dX7_food_57 rfl (lv_at hl 1 rfl) ?_
  exact bX7_food_58_t C0 _ _ hK22 _ (lv_sub hl [0] rfl)
def bX7_food_50   (K22 : vS → Int32 → Option (Int32 × vS)) (S : vS)   : Option (Int32 × vS) := (bX7_food_58 K22 S (S.1 0 33))
set_option maxHeartbeats 4000000 in
set_option maxRecDepth 100000 in
theorem bX7_food_50_t {p : Program} {l : Launch} {e : Env} {s : State} {m : MethodId} {args : Array Value} {below : List Frame} {meth : Method} {c : Code} {D : va_G} {cA : Nat → ClassId} {ad : Nat → Nat} {K22 : vS → Int32 → Option (Int32 × vS)}  (C0 : Cx D vwCl tlM shM cA ad ExM RX7 cX7_food 4 (some .int) p s m args meth c)  (S : vS)  (hK22 : ∀ (S : vS) (v3 : Int32) (ls : Array Slot), lv_has ls 4 [(0, .ref (ad 0)), (3, .int v3)] → SW p l e rm_X7_food s m args below meth c D vwCl shM cA ad (Fq D vwCl shM cA ad below args s (fun q => some (.int q.1) : (Int32 × vS) → Option Value) (fun q => q.2) (fun _ => True)) (K22 S v3) S 22 ls []) (ls : Array Slot) (hl : lv_has ls 4 [(0, .ref (ad 0))]) : SW p l e rm_X7_food s m args below meth c D vwCl shM cA ad (Fq D vwCl shM cA ad below args s (fun q => some (.int q.1) : (Int32 × vS) → Option Value) (fun q => q.2) (fun _ => True)) (bX7_food_50 K22 S) S 50 ls [] := by
  rw [bX7_food_50]
  refine sx_aload_n C0 dX7_food_50 rfl (lv_at hl 0 rfl) ?_
  refine gf_X7_243 C0 is7 dX7_food_51 ?_
  refine sx_goto (tgt := 58) C0 dX7_food_54 (by decide) ?_
  exact bX7_food_58_t C0 _ _ hK22 _ (lv_sub hl [0] rfl)
def lX7_food_22     : Nat → vS → Int32 → Option (Int32 × vS)
  | 0, _, _ => none
  | n + 1, S, v3 => ((mX7_nextPlan S).bind fun q23 => (if q23.1 = 0 then (some (v3, q23.2)) else (if (q23.2.1 0 31) = 0 then (if v3 = (-9 : Int32) then (bX7_food_50 (lX7_food_22 n) q23.2) else (if v3 ≤ (q23.2.1 0 33) then (bX7_food_57 (lX7_food_22 n) q23.2 v3) else (bX7_food_50 (lX7_food_22 n) q23.2))) else (bX7_food_57 (lX7_food_22 n) q23.2 v3))))
set_option maxHeartbeats 4000000 in
set_option maxRecDepth 100000 in
theorem lX7_food_22_t {p : Program} {l : Launch} {e : Env} {s : State} {m : MethodId} {args : Array Value} {below : List Frame} {meth : Method} {c : Code} {D : va_G} {cA : Nat → ClassId} {ad : Nat → Nat}   (C0 : Cx D vwCl tlM shM cA ad ExM RX7 cX7_food 4 (some .int) p s m args meth c)     : ∀ (n : Nat) (S : vS) (v3 : Int32) (ls : Array Slot), lv_has ls 4 [(0, .ref (ad 0)), (3, .int v3)] → SW p l e rm_X7_food s m args below meth c D vwCl shM cA ad (Fq D vwCl shM cA ad below args s (fun q => some (.int q.1) : (Int32 × vS) → Option Value) (fun q => q.2) (fun _ => True)) (lX7_food_22 n S v3) S 22 ls [] := by
  intro n
  induction n with
  | zero =>
    intro S v3 ls hl
    rw [lX7_food_22]
    exact sw_none
  | succ n ih =>
    intro S v3 ls hl
    rw [lX7_food_22]
    refine sx_aload_n C0 dX7_food_22 rfl (lv_at hl 0 rfl) ?_
    refine sw_bind (fun q23 e23 => ?_)
    refine cv_X7_256 (As := []) C0 (c_X7_nextPlan C0.2.2.2.2.2.2.2.1 S _ e23) is7 ⟨rfl, rfl⟩ ⟨Nat.le_of_ble_eq_true rfl, Nat.le_of_ble_eq_true rfl⟩ rfl hl.1 (Nat.le_of_ble_eq_true rfl) rfl dX7_food_23 (fun hb23 => ?_)
    refine sx_if_eq (tgt := 62) C0 dX7_food_26 (by decide) (fun _ => ?_) (fun _ => ?_)
    · refine sx_iload_n C0 dX7_food_62 rfl (lv_at hl 1 rfl) ?_
      exact sx_iret C0 rfl rfl trivial dX7_food_63
    · refine sx_aload_n C0 dX7_food_29 rfl (lv_at hl 0 rfl) ?_
      refine gf_X7_240 C0 is7 dX7_food_30 ?_
      refine sx_if_ne (tgt := 57) C0 dX7_food_33 (by decide) (fun _ => ?_) (fun _ => ?_)
      · refine sx_iload_n C0 dX7_food_36 rfl (lv_at hl 1 rfl) ?_
        refine sx_bipush (v := (-9)) C0 dX7_food_37 (by decide) ?_
        refine sx_icmp_eq (tgt := 50) C0 dX7_food_39 (by decide) (fun _ => ?_) (fun _ => ?_)
        · exact bX7_food_50_t C0 _ ih _ (lv_sub hl [0] rfl)
        · refine sx_aload_n C0 dX7_food_42 rfl (lv_at hl 0 rfl) ?_
          refine gf_X7_243 C0 is7 dX7_food_43 ?_
          refine sx_iload_n C0 dX7_food_46 rfl (lv_at hl 1 rfl) ?_
          refine sx_icmp_ge (tgt := 57) C0 dX7_food_47 (by decide) (fun _ => ?_) (fun _ => ?_)
          · exact bX7_food_57_t C0 _ _ ih _ (lv_sub hl [0, 1] rfl)
          · exact bX7_food_50_t C0 _ ih _ (lv_sub hl [0] rfl)
      · exact bX7_food_57_t C0 _ _ ih _ (lv_sub hl [0, 1] rfl)
def mX7_food (S : vS) (v1 : Int32) : Option (Int32 × vS) := (lt (mX7_needDays S (1 : Int32) v1 (3 : Int32)) fun v2_7 => (if 0 ≤ v2_7 then ((mX7_noPlan S v1).bind fun S19 => (lX7_food_22 FU S19 (-9 : Int32))) else (some (v2_7, S))))
set_option maxHeartbeats 4000000 in
set_option maxRecDepth 100000 in
theorem c_X7_food {l : Launch} {D : va_G} {cA : Nat → ClassId} {ad : Nat → Nat} (G : Gx shM ad ExM) (v1 : Int32) (S : vS) (r : (Int32 × vS)) (hr : (mX7_food S v1) = some r) : Met l yX7_food (Cond.code yX7_food cX7_food 4 (some .int) :: ALL) rm_X7_food (Po D vwCl tlM shM cA ad ExM [.ref (ad 0), .int v1] S) (Qo D vwCl shM cA ad (some (.int r.1)) r.2 True) 0 0 (aw shM ad) := by
  refine Met.sx (M := (mX7_food S v1)) (rv := (fun q => some (.int q.1) : (Int32 × vS) → Option Value)) (rs := fun q => q.2) (B := fun _ => True) (by decide) ⟨rfl, rfl⟩ (Nat.le_of_ble_eq_true rfl) G (fun p e s m args below meth c C0 ls hl => ?_) hr
  have hl : lv_has ls 4 [(0, .ref (ad 0)), (1, .int v1)] := hl
  rw [mX7_food]
  refine sx_aload_n C0 dX7_food_0 rfl (lv_at hl 0 rfl) ?_
  refine sx_iconst (v := 1) C0 dX7_food_1 (by decide) ?_
  refine sx_iload_n C0 dX7_food_2 rfl (lv_at hl 1 rfl) ?_
  refine sx_iconst (v := 3) C0 dX7_food_3 (by decide) ?_
  refine cv_X7_263 (As := [.int (1 : Int32), .int v1, .int (3 : Int32)]) C0 (c_X7_needDays C0.2.2.2.2.2.2.2.1 (1 : Int32) v1 (3 : Int32) S) is7 ⟨rfl, rfl⟩ ⟨Nat.le_of_ble_eq_true rfl, Nat.le_of_ble_eq_true rfl⟩ rfl hl.1 (Nat.le_of_ble_eq_true rfl) rfl dX7_food_4 (fun _ => ?_)
  refine sw_lt (val := .int) (fun v2_7 => ?_)
  refine sx_istore_n (lv' := [(2, .int v2_7), (0, .ref (ad 0)), (1, .int v1)]) C0 dX7_food_7 rfl hl (by decide) rfl (fun ls hl => ?_)
  refine sx_iload_n C0 dX7_food_8 rfl (lv_at hl 0 rfl) ?_
  refine sx_if_ge (tgt := 14) C0 dX7_food_9 (by decide) (fun _ => ?_) (fun _ => ?_)
  · refine sx_bipush (v := (-9)) C0 dX7_food_14 (by decide) ?_
    refine sx_istore_n (lv' := [(3, .int (-9 : Int32)), (2, .int v2_7), (0, .ref (ad 0)), (1, .int v1)]) C0 dX7_food_16 rfl hl (by decide) rfl (fun ls hl => ?_)
    refine sx_aload_n C0 dX7_food_17 rfl (lv_at hl 2 rfl) ?_
    refine sx_iload_n C0 dX7_food_18 rfl (lv_at hl 3 rfl) ?_
    refine sw_bind (fun S19 e19 => ?_)
    refine cv_X7_253 (As := [.int v1]) C0 (c_X7_noPlan C0.2.2.2.2.2.2.2.1 v1 S _ e19) is7 ⟨rfl, rfl⟩ ⟨Nat.le_of_ble_eq_true rfl, Nat.le_of_ble_eq_true rfl⟩ rfl hl.1 (Nat.le_of_ble_eq_true rfl) rfl dX7_food_19 (fun _ => ?_)
    exact lX7_food_22_t C0 _ _ _ _ (lv_sub hl [2, 0] rfl)
  · refine sx_iload_n C0 dX7_food_12 rfl (lv_at hl 0 rfl) ?_
    exact sx_iret C0 rfl rfl trivial dX7_food_13
