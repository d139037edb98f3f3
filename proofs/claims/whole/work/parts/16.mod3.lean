abbrev rm_X7_harm : Room := { frames := 9, cells := 0, slots := 0, locals := 202 }
def bX7_harm_74    (S : vS) (v3 : Int32) (v4 : Int32)  : Option (Int32 × vS) := (lt (mX7_tells S v4 v3) fun q78 => (some (q78.1, q78.2)))
set_option maxHeartbeats 4000000 in
set_option maxRecDepth 100000 in
theorem bX7_harm_74_t {p : Program} {l : Launch} {e : Env} {s : State} {m : MethodId} {args : Array Value} {below : List Frame} {meth : Method} {c : Code} {D : va_G} {cA : Nat → ClassId} {ad : Nat → Nat}   (C0 : Cx D vwCl tlM shM cA ad ExM RX7 cX7_harm 5 (some .int) p s m args meth c)  (S : vS) (v3 : Int32) (v4 : Int32) (ls : Array Slot) (hl : lv_has ls 5 [(0, .ref (ad 0)), (3, .int v3), (4, .int v4)]) : SW p l e rm_X7_harm s m args below meth c D vwCl shM cA ad (Fq D vwCl shM cA ad below args s (fun q => some (.int q.1) : (Int32 × vS) → Option Value) (fun q => q.2) (fun _ => True)) (bX7_harm_74 S v3 v4) S 74 ls [] := by
  rw [bX7_harm_74]
  refine sx_aload_n C0 dX7_harm_74 rfl (lv_at hl 0 rfl) ?_
  refine sx_iload C0 dX7_harm_75 (lv_at hl 2 rfl) ?_
  refine sx_iload_n C0 dX7_harm_77 rfl (lv_at hl 1 rfl) ?_
  refine cv_X7_102 (As := [.int v4, .int v3]) C0 (c_X7_tells C0.2.2.2.2.2.2.2.1 v4 v3 S) is7 ⟨rfl, rfl⟩ ⟨Nat.le_of_ble_eq_true rfl, Nat.le_of_ble_eq_true rfl⟩ rfl hl.1 (Nat.le_of_ble_eq_true rfl) rfl dX7_harm_78 (fun _ => ?_)
  refine sw_ltQ (val := .int) (fun q78 => ?_)
  exact sx_iret C0 rfl rfl trivial dX7_harm_81
def bX7_harm_60   (K24 : vS → Int32 → Int32 → Option (Int32 × vS)) (S : vS)   : Option (Int32 × vS) := (lt (S.1 0 31) fun v3_64 => (lt (S.1 0 32) fun v4_69 => (K24 S v3_64 v4_69)))
set_option maxHeartbeats 4000000 in
set_option maxRecDepth 100000 in
theorem bX7_harm_60_t {p : Program} {l : Launch} {e : Env} {s : State} {m : MethodId} {args : Array Value} {below : List Frame} {meth : Method} {c : Code} {D : va_G} {cA : Nat → ClassId} {ad : Nat → Nat} {K24 : vS → Int32 → Int32 → Option (Int32 × vS)}  (C0 : Cx D vwCl tlM shM cA ad ExM RX7 cX7_harm 5 (some .int) p s m args meth c)  (S : vS)  (hK24 : ∀ (S : vS) (v3 : Int32) (v4 : Int32) (ls : Array Slot), lv_has ls 5 [(0, .ref (ad 0)), (3, .int v3), (4, .int v4)] → SW p l e rm_X7_harm s m args below meth c D vwCl shM cA ad (Fq D vwCl shM cA ad below args s (fun q => some (.int q.1) : (Int32 × vS) → Option Value) (fun q => q.2) (fun _ => True)) (K24 S v3 v4) S 24 ls []) (ls : Array Slot) (hl : lv_has ls 5 [(0, .ref (ad 0))]) : SW p l e rm_X7_harm s m args below meth c D vwCl shM cA ad (Fq D vwCl shM cA ad below args s (fun q => some (.int q.1) : (Int32 × vS) → Option Value) (fun q => q.2) (fun _ => True)) (bX7_harm_60 K24 S) S 60 ls [] := by
  rw [bX7_harm_60]
  refine sx_aload_n C0 dX7_harm_60 rfl (lv_at hl 0 rfl) ?_
  refine gf_X7_240 C0 is7 dX7_harm_61 ?_
  refine sw_lt (val := .int) (fun v3_64 => ?_)
  refine sx_istore_n (lv' := [(3, .int v3_64), (0, .ref (ad 0))]) C0 dX7_harm_64 rfl hl (by decide) rfl (fun ls hl => ?_)
  refine sx_aload_n C0 dX7_harm_65 rfl (lv_at hl 1 rfl) ?_
  refine gf_X7_249 C0 is7 dX7_harm_66 ?_
  refine sw_lt (val := .int) (fun v4_69 => ?_)
  refine sx_istore (lv' := [(4, .int v4_69), (3, .int v3_64), (0, .ref (ad 0))]) C0 dX7_harm_69 hl (by decide) rfl (fun ls hl => ?_)
  refine sx_goto (tgt := 24) C0 dX7_harm_71 (by decide) ?_
  exact hK24 _ _ _ _ (lv_sub hl [2, 1, 0] rfl)
def lX7_harm_24     : Nat → vS → Int32 → Int32 → Option (Int32 × vS)
  | 0, _, _, _ => none
  | n + 1, S, v3, v4 => ((mX7_nextPlan S).bind fun q25 => (if q25.1 = 0 then (bX7_harm_74 q25.2 v3 v4) else (if v3 < 0 then (bX7_harm_60 (lX7_harm_24 n) q25.2) else (if (q25.2.1 0 31) < v3 then (bX7_harm_60 (lX7_harm_24 n) q25.2) else (if (q25.2.1 0 31) = v3 then (if (q25.2.1 0 32) ≤ v4 then ((lX7_harm_24 n) q25.2 v3 v4) else (bX7_harm_60 (lX7_harm_24 n) q25.2)) else ((lX7_harm_24 n) q25.2 v3 v4))))))
set_option maxHeartbeats 4000000 in
set_option maxRecDepth 100000 in
theorem lX7_harm_24_t {p : Program} {l : Launch} {e : Env} {s : State} {m : MethodId} {args : Array Value} {below : List Frame} {meth : Method} {c : Code} {D : va_G} {cA : Nat → ClassId} {ad : Nat → Nat}   (C0 : Cx D vwCl tlM shM cA ad ExM RX7 cX7_harm 5 (some .int) p s m args meth c)     : ∀ (n : Nat) (S : vS) (v3 : Int32) (v4 : Int32) (ls : Array Slot), lv_has ls 5 [(0, .ref (ad 0)), (3, .int v3), (4, .int v4)] → SW p l e rm_X7_harm s m args below meth c D vwCl shM cA ad (Fq D vwCl shM cA ad below args s (fun q => some (.int q.1) : (Int32 × vS) → Option Value) (fun q => q.2) (fun _ => True)) (lX7_harm_24 n S v3 v4) S 24 ls [] := by
  intro n
  induction n with
  | zero =>
    intro S v3 v4 ls hl
    rw [lX7_harm_24]
    exact sw_none
  | succ n ih =>
    intro S v3 v4 ls hl
    rw [lX7_harm_24]
    refine sx_aload_n C0 dX7_harm_24 rfl (lv_at hl 0 rfl) ?_
    refine sw_bind (fun q25 e25 => ?_)
    refine cv_X7_256 (As := []) C0 (c_X7_nextPlan C0.2.2.2.2.2.2.2.1 S _ e25) is7 ⟨rfl, rfl⟩ ⟨Nat.le_of_ble_eq_true rfl, Nat.le_of_ble_eq_true rfl⟩ rfl hl.1 (Nat.le_of_ble_eq_true rfl) rfl dX7_harm_25 (fun hb25 => ?_)
    refine sx_if_eq (tgt := 74) C0 dX7_harm_28 (by decide) (fun _ => ?_) (fun _ => ?_)
    · exact bX7_harm_74_t C0 _ _ _ _ (lv_sub hl [0, 1, 2] rfl)
    · refine sx_iload_n C0 dX7_harm_31 rfl (lv_at hl 1 rfl) ?_
      refine sx_if_lt (tgt := 60) C0 dX7_harm_32 (by decide) (fun _ => ?_) (fun _ => ?_)
      · exact bX7_harm_60_t C0 _ ih _ (lv_sub hl [0] rfl)
      · refine sx_aload_n C0 dX7_harm_35 rfl (lv_at hl 0 rfl) ?_
        refine gf_X7_240 C0 is7 dX7_harm_36 ?_
        refine sx_iload_n C0 dX7_harm_39 rfl (lv_at hl 1 rfl) ?_
        refine sx_icmp_lt (tgt := 60) C0 dX7_harm_40 (by decide) (fun _ => ?_) (fun _ => ?_)
        · exact bX7_harm_60_t C0 _ ih _ (lv_sub hl [0] rfl)
        · refine sx_aload_n C0 dX7_harm_43 rfl (lv_at hl 0 rfl) ?_
          refine gf_X7_240 C0 is7 dX7_harm_44 ?_
          refine sx_iload_n C0 dX7_harm_47 rfl (lv_at hl 1 rfl) ?_
          refine sx_icmp_ne (tgt := 24) C0 dX7_harm_48 (by decide) (fun _ => ?_) (fun _ => ?_)
          · refine sx_aload_n C0 dX7_harm_51 rfl (lv_at hl 0 rfl) ?_
            refine gf_X7_249 C0 is7 dX7_harm_52 ?_
            refine sx_iload C0 dX7_harm_55 (lv_at hl 2 rfl) ?_
            refine sx_icmp_le (tgt := 24) C0 dX7_harm_57 (by decide) (fun _ => ?_) (fun _ => ?_)
            · exact ih _ _ _ _ (lv_sub hl [0, 1, 2] rfl)
            · exact bX7_harm_60_t C0 _ ih _ (lv_sub hl [0] rfl)
          · exact ih _ _ _ _ (lv_sub hl [0, 1, 2] rfl)
def mX7_harm (S : vS) (v1 : Int32) : Option (Int32 × vS) := (lt (mX7_needDays S (1 : Int32) v1 (3 : Int32)) fun v2_7 => (if 0 ≤ v2_7 then ((mX7_noPlan S v1).bind fun S21 => (lX7_harm_24 FU S21 (-1 : Int32) (0 : Int32))) else (some (v2_7, S))))
set_option maxHeartbeats 4000000 in
set_option maxRecDepth 100000 in
theorem c_X7_harm {l : Launch} {D : va_G} {cA : Nat → ClassId} {ad : Nat → Nat} (G : Gx shM ad ExM) (v1 : Int32) (S : vS) (r : (Int32 × vS)) (hr : (mX7_harm S v1) = some r) : Met l yX7_harm (Cond.code yX7_harm cX7_harm 5 (some .int) :: ALL) rm_X7_harm (Po D vwCl tlM shM cA ad ExM [.ref (ad 0), .int v1] S) (Qo D vwCl shM cA ad (some (.int r.1)) r.2 True) 0 0 (aw shM ad) := by
  refine Met.sx (M := (mX7_harm S v1)) (rv := (fun q => some (.int q.1) : (Int32 × vS) → Option Value)) (rs := fun q => q.2) (B := fun _ => True) (by decide) ⟨rfl, rfl⟩ (Nat.le_of_ble_eq_true rfl) G (fun p e s m args below meth c C0 ls hl => ?_) hr
  have hl : lv_has ls 5 [(0, .ref (ad 0)), (1, .int v1)] := hl
  rw [mX7_harm]
  refine sx_aload_n C0 dX7_harm_0 rfl (lv_at hl 0 rfl) ?_
  refine sx_iconst (v := 1) C0 dX7_harm_1 (by decide) ?_
  refine sx_iload_n C0 dX7_harm_2 rfl (lv_at hl 1 rfl) ?_
  refine sx_iconst (v := 3) C0 dX7_harm_3 (by decide) ?_
  refine cv_X7_263 (As := [.int (1 : Int32), .int v1, .int (3 : Int32)]) C0 (c_X7_needDays C0.2.2.2.2.2.2.2.1 (1 : Int32) v1 (3 : Int32) S) is7 ⟨rfl, rfl⟩ ⟨Nat.le_of_ble_eq_true rfl, Nat.le_of_ble_eq_true rfl⟩ rfl hl.1 (Nat.le_of_ble_eq_true rfl) rfl dX7_harm_4 (fun _ => ?_)
  refine sw_lt (val := .int) (fun v2_7 => ?_)
  refine sx_istore_n (lv' := [(2, .int v2_7), (0, .ref (ad 0)), (1, .int v1)]) C0 dX7_harm_7 rfl hl (by decide) rfl (fun ls hl => ?_)
  refine sx_iload_n C0 dX7_harm_8 rfl (lv_at hl 0 rfl) ?_
  refine sx_if_ge (tgt := 14) C0 dX7_harm_9 (by decide) (fun _ => ?_) (fun _ => ?_)
  · refine sx_iconst (v := (-1)) C0 dX7_harm_14 (by decide) ?_
    refine sx_istore_n (lv' := [(3, .int (-1 : Int32)), (2, .int v2_7), (0, .ref (ad 0)), (1, .int v1)]) C0 dX7_harm_15 rfl hl (by decide) rfl (fun ls hl => ?_)
    refine sx_iconst (v := 0) C0 dX7_harm_16 (by decide) ?_
    refine sx_istore (lv' := [(4, .int (0 : Int32)), (3, .int (-1 : Int32)), (2, .int v2_7), (0, .ref (ad 0)), (1, .int v1)]) C0 dX7_harm_17 hl (by decide) rfl (fun ls hl => ?_)
    refine sx_aload_n C0 dX7_harm_19 rfl (lv_at hl 3 rfl) ?_
    refine sx_iload_n C0 dX7_harm_20 rfl (lv_at hl 4 rfl) ?_
    refine sw_bind (fun S21 e21 => ?_)
    refine cv_X7_253 (As := [.int v1]) C0 (c_X7_noPlan C0.2.2.2.2.2.2.2.1 v1 S _ e21) is7 ⟨rfl, rfl⟩ ⟨Nat.le_of_ble_eq_true rfl, Nat.le_of_ble_eq_true rfl⟩ rfl hl.1 (Nat.le_of_ble_eq_true rfl) rfl dX7_harm_21 (fun _ => ?_)
    exact lX7_harm_24_t C0 _ _ _ _ _ (lv_sub hl [3, 1, 0] rfl)
  · refine sx_iload_n C0 dX7_harm_12 rfl (lv_at hl 0 rfl) ?_
    exact sx_iret C0 rfl rfl trivial dX7_harm_13
abbrev rm_X7_starve : Room := { frames := 10, cells := 0, slots := 0, locals := 224 }
def bX7_starve_92    (S : vS) (v4 : Int32) (v5 : Int32)  : Option (Int32 × vS) := (lt (wI S 0 34 (-9 : Int32)) fun S95 => (if v4 = (-9 : Int32) then (some ((-9 : Int32), S95)) else (lt (mX7_tells S95 v5 v4) fun q115 => (some (q115.1, q115.2)))))
set_option maxHeartbeats 4000000 in
set_option maxRecDepth 100000 in
theorem bX7_starve_92_t {p : Program} {l : Launch} {e : Env} {s : State} {m : MethodId} {args : Array Value} {below : List Frame} {meth : Method} {c : Code} {D : va_G} {cA : Nat → ClassId} {ad : Nat → Nat}   (C0 : Cx D vwCl tlM shM cA ad ExM RX7 cX7_starve 8 (some .int) p s m args meth c)  (S : vS) (v4 : Int32) (v5 : Int32) (ls : Array Slot) (hl : lv_has ls 8 [(0, .ref (ad 0)), (4, .int v4), (5, .int v5)]) : SW p l e rm_X7_starve s m args below meth c D vwCl shM cA ad (Fq D vwCl shM cA ad below args s (fun q => some (.int q.1) : (Int32 × vS) → Option Value) (fun q => q.2) (fun _ => True)) (bX7_starve_92 S v4 v5) S 92 ls [] := by
  rw [bX7_starve_92]
  refine sx_aload_n C0 dX7_starve_92 rfl (lv_at hl 0 rfl) ?_
  refine sx_bipush (v := (-9)) C0 dX7_starve_93 (by decide) ?_
  refine pf_X7_63 C0 is7 dX7_starve_95 (fun S95 => ?_)
  refine sx_iload C0 dX7_starve_98 (lv_at hl 1 rfl) ?_
  refine sx_bipush (v := (-9)) C0 dX7_starve_100 (by decide) ?_
  refine sx_icmp_ne (tgt := 110) C0 dX7_starve_102 (by decide) (fun _ => ?_) (fun _ => ?_)
  · refine sx_bipush (v := (-9)) C0 dX7_starve_105 (by decide) ?_
    refine sx_goto (tgt := 118) C0 dX7_starve_107 (by decide) ?_
    exact sx_iret C0 rfl rfl trivial dX7_starve_118
  · refine sx_aload_n C0 dX7_starve_110 rfl (lv_at hl 0 rfl) ?_
    refine sx_iload C0 dX7_starve_111 (lv_at hl 2 rfl) ?_
    refine sx_iload C0 dX7_starve_113 (lv_at hl 1 rfl) ?_
    refine cv_X7_102 (As := [.int v5, .int v4]) C0 (c_X7_tells C0.2.2.2.2.2.2.2.1 v5 v4 S95) is7 ⟨rfl, rfl⟩ ⟨Nat.le_of_ble_eq_true rfl, Nat.le_of_ble_eq_true rfl⟩ rfl hl.1 (Nat.le_of_ble_eq_true rfl) rfl dX7_starve_115 (fun _ => ?_)
    refine sw_ltQ (val := .int) (fun q115 => ?_)
    exact sx_iret C0 rfl rfl trivial dX7_starve_118
def bX7_starve_78   (K30 : vS → Int32 → Int32 → Int32 → Option (Int32 × vS)) (S : vS) (v1 : Int32) (v3 : Int32) (v6 : Int32) (v7 : Int32)  : Option (Int32 × vS) := (K30 S v6 v7 (v6 + (1 : Int32)))
set_option maxHeartbeats 4000000 in
set_option maxRecDepth 100000 in
theorem bX7_starve_78_t {p : Program} {l : Launch} {e : Env} {s : State} {m : MethodId} {args : Array Value} {below : List Frame} {meth : Method} {c : Code} {D : va_G} {cA : Nat → ClassId} {ad : Nat → Nat} {K30 : vS → Int32 → Int32 → Int32 → Option (Int32 × vS)}  (C0 : Cx D vwCl tlM shM cA ad ExM RX7 cX7_starve 8 (some .int) p s m args meth c)  (S : vS) (v1 : Int32) (v3 : Int32) (v6 : Int32) (v7 : Int32) (hK30 : ∀ (S : vS) (v4 : Int32) (v5 : Int32) (v6 : Int32) (ls : Array Slot), lv_has ls 8 [(0, .ref (ad 0)), (1, .int v1), (3, .int v3), (4, .int v4), (5, .int v5), (6, .int v6)] → SW p l e rm_X7_starve s m args below meth c D vwCl shM cA ad (Fq D vwCl shM cA ad below args s (fun q => some (.int q.1) : (Int32 × vS) → Option Value) (fun q => q.2) (fun _ => True)) (K30 S v4 v5 v6) S 30 ls []) (ls : Array Slot) (hl : lv_has ls 8 [(0, .ref (ad 0)), (1, .int v1), (3, .int v3), (6, .int v6), (7, .int v7)]) : SW p l e rm_X7_starve s m args below meth c D vwCl shM cA ad (Fq D vwCl shM cA ad below args s (fun q => some (.int q.1) : (Int32 × vS) → Option Value) (fun q => q.2) (fun _ => True)) (bX7_starve_78 K30 S v1 v3 v6 v7) S 78 ls [] := by
  rw [bX7_starve_78]
  refine sx_iload C0 dX7_starve_78 (lv_at hl 3 rfl) ?_
  refine sx_istore (lv' := [(4, .int v6), (0, .ref (ad 0)), (1, .int v1), (3, .int v3), (6, .int v6), (7, .int v7)]) C0 dX7_starve_80 hl (by decide) rfl (fun ls hl => ?_)
  refine sx_iload C0 dX7_starve_82 (lv_at hl 5 rfl) ?_
  refine sx_istore (lv' := [(5, .int v7), (4, .int v6), (0, .ref (ad 0)), (1, .int v1), (3, .int v3), (6, .int v6), (7, .int v7)]) C0 dX7_starve_84 hl (by decide) rfl (fun ls hl => ?_)
  refine sx_iinc (v := (v6 + (1 : Int32))) (lv' := [(6, .int (v6 + (1 : Int32))), (5, .int v7), (4, .int v6), (0, .ref (ad 0)), (1, .int v1), (3, .int v3), (7, .int v7)]) C0 dX7_starve_86 hl (k := 5) rfl rfl (by decide) rfl (fun ls hl => ?_)
  refine sx_goto (tgt := 30) C0 dX7_starve_89 (by decide) ?_
  exact hK30 _ _ _ _ _ (lv_sub hl [3, 4, 5, 2, 1, 0] rfl)
def lX7_starve_30    (v1 : Int32) (v3 : Int32) : Nat → vS → Int32 → Int32 → Int32 → Option (Int32 × vS)
  | 0, _, _, _, _ => none
  | n + 1, S, v4, v5, v6 => (if (S.1 0 10) ≤ v6 then (bX7_starve_92 S v4 v5) else ((mX7_isGone S (0 : Int32) v6).bind fun a43 => (if a43 = 0 then (lt (wI S 0 34 v6) fun S52 => ((mX7_mostOf S52 v1).bind fun q58 => (lt (v3 - q58.1) fun v7_62 => (if v4 = (-9 : Int32) then (bX7_starve_78 (lX7_starve_30 v1 v3 n) q58.2 v1 v3 v6 v7_62) else (if v5 ≤ v7_62 then ((lX7_starve_30 v1 v3 n) q58.2 v4 v5 (v6 + (1 : Int32))) else (bX7_starve_78 (lX7_starve_30 v1 v3 n) q58.2 v1 v3 v6 v7_62)))))) else ((lX7_starve_30 v1 v3 n) S v4 v5 (v6 + (1 : Int32))))))
set_option maxHeartbeats 4000000 in
set_option maxRecDepth 100000 in
theorem lX7_starve_30_t {p : Program} {l : Launch} {e : Env} {s : State} {m : MethodId} {args : Array Value} {below : List Frame} {meth : Method} {c : Code} {D : va_G} {cA : Nat → ClassId} {ad : Nat → Nat}   (C0 : Cx D vwCl tlM shM cA ad ExM RX7 cX7_starve 8 (some .int) p s m args meth c)   (v1 : Int32) (v3 : Int32)  : ∀ (n : Nat) (S : vS) (v4 : Int32) (v5 : Int32) (v6 : Int32) (ls : Array Slot), lv_has ls 8 [(0, .ref (ad 0)), (1, .int v1), (3, .int v3), (4, .int v4), (5, .int v5), (6, .int v6)] → SW p l e rm_X7_starve s m args below meth c D vwCl shM cA ad (Fq D vwCl shM cA ad below args s (fun q => some (.int q.1) : (Int32 × vS) → Option Value) (fun q => q.2) (fun _ => True)) (lX7_starve_30 v1 v3 n S v4 v5 v6) S 30 ls [] := by
  intro n
  induction n with
  | zero =>
    intro S v4 v5 v6 ls hl
    rw [lX7_starve_30]
    exact sw_none
  | succ n ih =>
    intro S v4 v5 v6 ls hl
    rw [lX7_starve_30]
    refine sx_iload C0 dX7_starve_30 (lv_at hl 5 rfl) ?_
    refine sx_aload_n C0 dX7_starve_32 rfl (lv_at hl 0 rfl) ?_
    refine gf_X7_139 C0 is7 dX7_starve_33 ?_
    refine sx_icmp_ge (tgt := 92) C0 dX7_starve_36 (by decide) (fun _ => ?_) (fun _ => ?_)
    · exact bX7_starve_92_t C0 _ _ _ _ (lv_sub hl [0, 3, 4] rfl)
    · refine sx_aload_n C0 dX7_starve_39 rfl (lv_at hl 0 rfl) ?_
      refine sx_iconst (v := 0) C0 dX7_starve_40 (by decide) ?_
      refine sx_iload C0 dX7_starve_41 (lv_at hl 5 rfl) ?_
      refine sw_bind (fun a43 e43 => ?_)
      refine cv_X7_155 (As := [.int (0 : Int32), .int v6]) C0 (c_X7_isGone C0.2.2.2.2.2.2.2.1 (0 : Int32) v6 S _ e43) is7 ⟨rfl, rfl⟩ ⟨Nat.le_of_ble_eq_true rfl, Nat.le_of_ble_eq_true rfl⟩ rfl hl.1 (Nat.le_of_ble_eq_true rfl) rfl dX7_starve_43 (fun hb43 => ?_)
      refine sx_if_ne (tgt := 86) C0 dX7_starve_46 (by decide) (fun _ => ?_) (fun _ => ?_)
      · refine sx_aload_n C0 dX7_starve_49 rfl (lv_at hl 0 rfl) ?_
        refine sx_iload C0 dX7_starve_50 (lv_at hl 5 rfl) ?_
        refine pf_X7_63 C0 is7 dX7_starve_52 (fun S52 => ?_)
        refine sx_iload_n C0 dX7_starve_55 rfl (lv_at hl 2 rfl) ?_
        refine sx_aload_n C0 dX7_starve_56 rfl (lv_at hl 0 rfl) ?_
        refine sx_iload_n C0 dX7_starve_57 rfl (lv_at hl 1 rfl) ?_
        refine sw_bind (fun q58 e58 => ?_)
        refine cv_X7_267 (As := [.int v1]) C0 (c_X7_mostOf C0.2.2.2.2.2.2.2.1 v1 S52 _ e58) is7 ⟨rfl, rfl⟩ ⟨Nat.le_of_ble_eq_true rfl, Nat.le_of_ble_eq_true rfl⟩ rfl hl.1 (Nat.le_of_ble_eq_true rfl) rfl dX7_starve_58 (fun _ => ?_)
        refine sx_isub C0 dX7_starve_61 ?_
        refine sw_lt (val := .int) (fun v7_62 => ?_)
        refine sx_istore (lv' := [(7, .int v7_62), (0, .ref (ad 0)), (1, .int v1), (3, .int v3), (4, .int v4), (5, .int v5), (6, .int v6)]) C0 dX7_starve_62 hl (by decide) rfl (fun ls hl => ?_)
        refine sx_iload C0 dX7_starve_64 (lv_at hl 4 rfl) ?_
        refine sx_bipush (v := (-9)) C0 dX7_starve_66 (by decide) ?_
        refine sx_icmp_eq (tgt := 78) C0 dX7_starve_68 (by decide) (fun _ => ?_) (fun _ => ?_)
        · exact bX7_starve_78_t C0 _ _ _ _ _ ih _ (lv_sub hl [1, 2, 3, 6, 0] rfl)
        · refine sx_iload C0 dX7_starve_71 (lv_at hl 0 rfl) ?_
          refine sx_iload C0 dX7_starve_73 (lv_at hl 5 rfl) ?_
          refine sx_icmp_ge (tgt := 86) C0 dX7_starve_75 (by decide) (fun _ => ?_) (fun _ => ?_)
          · refine sx_iinc (v := (v6 + (1 : Int32))) (lv' := [(6, .int (v6 + (1 : Int32))), (7, .int v7_62), (0, .ref (ad 0)), (1, .int v1), (3, .int v3), (4, .int v4), (5, .int v5)]) C0 dX7_starve_86 hl (k := 6) rfl rfl (by decide) rfl (fun ls hl => ?_)
            refine sx_goto (tgt := 30) C0 dX7_starve_89 (by decide) ?_
            exact ih _ _ _ _ _ (lv_sub hl [2, 3, 4, 5, 6, 0] rfl)
          · exact bX7_starve_78_t C0 _ _ _ _ _ ih _ (lv_sub hl [1, 2, 3, 6, 0] rfl)
      · refine sx_iinc (v := (v6 + (1 : Int32))) (lv' := [(6, .int (v6 + (1 : Int32))), (0, .ref (ad 0)), (1, .int v1), (3, .int v3), (4, .int v4), (5, .int v5)]) C0 dX7_starve_86 hl (k := 5) rfl rfl (by decide) rfl (fun ls hl => ?_)
        refine sx_goto (tgt := 30) C0 dX7_starve_89 (by decide) ?_
        exact ih _ _ _ _ _ (lv_sub hl [1, 2, 3, 4, 5, 0] rfl)
def mX7_starve (S : vS) (v1 : Int32) : Option (Int32 × vS) := (lt (mX7_needDays S (1 : Int32) v1 (3 : Int32)) fun v2_7 => (if 0 ≤ v2_7 then ((mX7_mostOf S v1).bind fun q16 => (lt q16.1 fun v3_19 => (lX7_starve_30 v1 v3_19 FU q16.2 (-9 : Int32) (0 : Int32) (0 : Int32)))) else (some (v2_7, S))))
set_option maxHeartbeats 4000000 in
set_option maxRecDepth 100000 in
theorem c_X7_starve {l : Launch} {D : va_G} {cA : Nat → ClassId} {ad : Nat → Nat} (G : Gx shM ad ExM) (v1 : Int32) (S : vS) (r : (Int32 × vS)) (hr : (mX7_starve S v1) = some r) : Met l yX7_starve (Cond.code yX7_starve cX7_starve 8 (some .int) :: ALL) rm_X7_starve (Po D vwCl tlM shM cA ad ExM [.ref (ad 0), .int v1] S) (Qo D vwCl shM cA ad (some (.int r.1)) r.2 True) 0 0 (aw shM ad) := by
  refine Met.sx (M := (mX7_starve S v1)) (rv := (fun q => some (.int q.1) : (Int32 × vS) → Option Value)) (rs := fun q => q.2) (B := fun _ => True) (by decide) ⟨rfl, rfl⟩ (Nat.le_of_ble_eq_true rfl) G (fun p e s m args below meth c C0 ls hl => ?_) hr
  have hl : lv_has ls 8 [(0, .ref (ad 0)), (1, .int v1)] := hl
  rw [mX7_starve]
  refine sx_aload_n C0 dX7_starve_0 rfl (lv_at hl 0 rfl) ?_
  refine sx_iconst (v := 1) C0 dX7_starve_1 (by decide) ?_
  refine sx_iload_n C0 dX7_starve_2 rfl (lv_at hl 1 rfl) ?_
  refine sx_iconst (v := 3) C0 dX7_starve_3 (by decide) ?_
  refine cv_X7_263 (As := [.int (1 : Int32), .int v1, .int (3 : Int32)]) C0 (c_X7_needDays C0.2.2.2.2.2.2.2.1 (1 : Int32) v1 (3 : Int32) S) is7 ⟨rfl, rfl⟩ ⟨Nat.le_of_ble_eq_true rfl, Nat.le_of_ble_eq_true rfl⟩ rfl hl.1 (Nat.le_of_ble_eq_true rfl) rfl dX7_starve_4 (fun _ => ?_)
  refine sw_lt (val := .int) (fun v2_7 => ?_)
  refine sx_istore_n (lv' := [(2, .int v2_7), (0, .ref (ad 0)), (1, .int v1)]) C0 dX7_starve_7 rfl hl (by decide) rfl (fun ls hl => ?_)
  refine sx_iload_n C0 dX7_starve_8 rfl (lv_at hl 0 rfl) ?_
  refine sx_if_ge (tgt := 14) C0 dX7_starve_9 (by decide) (fun _ => ?_) (fun _ => ?_)
  · refine sx_aload_n C0 dX7_starve_14 rfl (lv_at hl 1 rfl) ?_
    refine sx_iload_n C0 dX7_starve_15 rfl (lv_at hl 2 rfl) ?_
    refine sw_bind (fun q16 e16 => ?_)
    refine cv_X7_267 (As := [.int v1]) C0 (c_X7_mostOf C0.2.2.2.2.2.2.2.1 v1 S _ e16) is7 ⟨rfl, rfl⟩ ⟨Nat.le_of_ble_eq_true rfl, Nat.le_of_ble_eq_true rfl⟩ rfl hl.1 (Nat.le_of_ble_eq_true rfl) rfl dX7_starve_16 (fun _ => ?_)
    refine sw_lt (val := .int) (fun v3_19 => ?_)
    refine sx_istore_n (lv' := [(3, .int v3_19), (2, .int v2_7), (0, .ref (ad 0)), (1, .int v1)]) C0 dX7_starve_19 rfl hl (by decide) rfl (fun ls hl => ?_)
    refine sx_bipush (v := (-9)) C0 dX7_starve_20 (by decide) ?_
    refine sx_istore (lv' := [(4, .int (-9 : Int32)), (3, .int v3_19), (2, .int v2_7), (0, .ref (ad 0)), (1, .int v1)]) C0 dX7_starve_22 hl (by decide) rfl (fun ls hl => ?_)
    refine sx_iconst (v := 0) C0 dX7_starve_24 (by decide) ?_
    refine sx_istore (lv' := [(5, .int (0 : Int32)), (4, .int (-9 : Int32)), (3, .int v3_19), (2, .int v2_7), (0, .ref (ad 0)), (1, .int v1)]) C0 dX7_starve_25 hl (by decide) rfl (fun ls hl => ?_)
    refine sx_iconst (v := 0) C0 dX7_starve_27 (by decide) ?_
    refine sx_istore (lv' := [(6, .int (0 : Int32)), (5, .int (0 : Int32)), (4, .int (-9 : Int32)), (3, .int v3_19), (2, .int v2_7), (0, .ref (ad 0)), (1, .int v1)]) C0 dX7_starve_28 hl (by decide) rfl (fun ls hl => ?_)
    exact lX7_starve_30_t C0 _ _ _ _ _ _ _ _ (lv_sub hl [5, 6, 3, 2, 1, 0] rfl)
  · refine sx_iload_n C0 dX7_starve_12 rfl (lv_at hl 0 rfl) ?_
    exact sx_iret C0 rfl rfl trivial dX7_starve_13
abbrev rm_X7_price : Room := { frames := 10, cells := 0, slots := 0, locals := 224 }
def mX7_price (S : vS) (v1 : Int32) (v2 : Int32) : Option (Int32 × vS) := (if (mX7_isGod S v1) = 0 then (some ((-1 : Int32), S)) else (if (mX7_in v2 (1 : Int32) (3 : Int32)) = 0 then (some ((-1 : Int32), S)) else ((mX7_isGone S (0 : Int32) v1).bind fun a22 => (if a22 = 0 then ((mX7_mostOf S v2).bind fun q33 => (lt q33.1 fun v3_36 => ((mX7_v q33.2 (0 : Int32) ((3 : Int32) + v1)).bind fun a42 => ((mX7_place q33.2 (0 : Int32) ((3 : Int32) + v1) (-9 : Int32)).bind fun S54 => ((mX7_mostOf S54 v2).bind fun q59 => (lt q59.1 fun v5_62 => ((mX7_place q59.2 (0 : Int32) ((3 : Int32) + v1) a42).bind fun S71 => (lt (mX7_tells S71 (v3_36 - v5_62) (1 : Int32)) fun q80 => (some (q80.1, q80.2)))))))))) else (some ((-4 : Int32), S))))))
set_option maxHeartbeats 4000000 in
set_option maxRecDepth 100000 in
theorem c_X7_price {l : Launch} {D : va_G} {cA : Nat → ClassId} {ad : Nat → Nat} (G : Gx shM ad ExM) (v1 : Int32) (v2 : Int32) (S : vS) (r : (Int32 × vS)) (hr : (mX7_price S v1 v2) = some r) : Met l yX7_price (Cond.code yX7_price cX7_price 6 (some .int) :: ALL) rm_X7_price (Po D vwCl tlM shM cA ad ExM [.ref (ad 0), .int v1, .int v2] S) (Qo D vwCl shM cA ad (some (.int r.1)) r.2 True) 0 0 (aw shM ad) := by
  refine Met.sx (M := (mX7_price S v1 v2)) (rv := (fun q => some (.int q.1) : (Int32 × vS) → Option Value)) (rs := fun q => q.2) (B := fun _ => True) (by decide) ⟨rfl, rfl⟩ (Nat.le_of_ble_eq_true rfl) G (fun p e s m args below meth c C0 ls hl => ?_) hr
  have hl : lv_has ls 6 [(0, .ref (ad 0)), (1, .int v1), (2, .int v2)] := hl
  rw [mX7_price]
  refine sx_aload_n C0 dX7_price_0 rfl (lv_at hl 0 rfl) ?_
  refine sx_iload_n C0 dX7_price_1 rfl (lv_at hl 1 rfl) ?_
  refine cv_X7_208 (As := [.int v1]) C0 (c_X7_isGod C0.2.2.2.2.2.2.2.1 v1 S) is7 ⟨rfl, rfl⟩ ⟨Nat.le_of_ble_eq_true rfl, Nat.le_of_ble_eq_true rfl⟩ rfl hl.1 (Nat.le_of_ble_eq_true rfl) rfl dX7_price_2 (fun hb2 => ?_)
  refine sx_if_eq (tgt := 17) C0 dX7_price_5 (by decide) (fun _ => ?_) (fun _ => ?_)
  · refine sx_iconst (v := (-1)) C0 dX7_price_17 (by decide) ?_
    exact sx_iret C0 rfl rfl trivial dX7_price_18
  · refine sx_iload_n C0 dX7_price_8 rfl (lv_at hl 2 rfl) ?_
    refine sx_iconst (v := 1) C0 dX7_price_9 (by decide) ?_
    refine sx_iconst (v := 3) C0 dX7_price_10 (by decide) ?_
    refine cv_X7_80 (As := [.int v2, .int (1 : Int32), .int (3 : Int32)]) C0 (c_X7_in C0.2.2.2.2.2.2.2.1 v2 (1 : Int32) (3 : Int32) S) ⟨rfl, rfl⟩ ⟨Nat.le_of_ble_eq_true rfl, Nat.le_of_ble_eq_true rfl⟩ rfl hl.1 (Nat.le_of_ble_eq_true rfl) rfl dX7_price_11 (fun hb11 => ?_)
    refine sx_if_ne (tgt := 19) C0 dX7_price_14 (by decide) (fun _ => ?_) (fun _ => ?_)
    · refine sx_iconst (v := (-1)) C0 dX7_price_17 (by decide) ?_
      exact sx_iret C0 rfl rfl trivial dX7_price_18
    · refine sx_aload_n C0 dX7_price_19 rfl (lv_at hl 0 rfl) ?_
      refine sx_iconst (v := 0) C0 dX7_price_20 (by decide) ?_
      refine sx_iload_n C0 dX7_price_21 rfl (lv_at hl 1 rfl) ?_
      refine sw_bind (fun a22 e22 => ?_)
      refine cv_X7_155 (As := [.int (0 : Int32), .int v1]) C0 (c_X7_isGone C0.2.2.2.2.2.2.2.1 (0 : Int32) v1 S _ e22) is7 ⟨rfl, rfl⟩ ⟨Nat.le_of_ble_eq_true rfl, Nat.le_of_ble_eq_true rfl⟩ rfl hl.1 (Nat.le_of_ble_eq_true rfl) rfl dX7_price_22 (fun hb22 => ?_)
      refine sx_if_eq (tgt := 31) C0 dX7_price_25 (by decide) (fun _ => ?_) (fun _ => ?_)
      · refine sx_aload_n C0 dX7_price_31 rfl (lv_at hl 0 rfl) ?_
        refine sx_iload_n C0 dX7_price_32 rfl (lv_at hl 2 rfl) ?_
        refine sw_bind (fun q33 e33 => ?_)
        refine cv_X7_267 (As := [.int v2]) C0 (c_X7_mostOf C0.2.2.2.2.2.2.2.1 v2 S _ e33) is7 ⟨rfl, rfl⟩ ⟨Nat.le_of_ble_eq_true rfl, Nat.le_of_ble_eq_true rfl⟩ rfl hl.1 (Nat.le_of_ble_eq_true rfl) rfl dX7_price_33 (fun _ => ?_)
        refine sw_lt (val := .int) (fun v3_36 => ?_)
        refine sx_istore_n (lv' := [(3, .int v3_36), (0, .ref (ad 0)), (1, .int v1), (2, .int v2)]) C0 dX7_price_36 rfl hl (by decide) rfl (fun ls hl => ?_)
        refine sx_aload_n C0 dX7_price_37 rfl (lv_at hl 1 rfl) ?_
        refine sx_iconst (v := 0) C0 dX7_price_38 (by decide) ?_
        refine sx_iconst (v := 3) C0 dX7_price_39 (by decide) ?_
        refine sx_iload_n C0 dX7_price_40 rfl (lv_at hl 2 rfl) ?_
        refine sx_iadd C0 dX7_price_41 ?_
        refine sw_bind (fun a42 e42 => ?_)
        refine cv_X7_149 (As := [.int (0 : Int32), .int ((3 : Int32) + v1)]) C0 (c_X7_v C0.2.2.2.2.2.2.2.1 (0 : Int32) ((3 : Int32) + v1) q33.2 _ e42) is7 ⟨rfl, rfl⟩ ⟨Nat.le_of_ble_eq_true rfl, Nat.le_of_ble_eq_true rfl⟩ rfl hl.1 (Nat.le_of_ble_eq_true rfl) rfl dX7_price_42 (fun _ => ?_)
        refine sx_istore (lv' := [(4, .int a42), (3, .int v3_36), (0, .ref (ad 0)), (1, .int v1), (2, .int v2)]) C0 dX7_price_45 hl (by decide) rfl (fun ls hl => ?_)
        refine sx_aload_n C0 dX7_price_47 rfl (lv_at hl 2 rfl) ?_
        refine sx_iconst (v := 0) C0 dX7_price_48 (by decide) ?_
        refine sx_iconst (v := 3) C0 dX7_price_49 (by decide) ?_
        refine sx_iload_n C0 dX7_price_50 rfl (lv_at hl 3 rfl) ?_
        refine sx_iadd C0 dX7_price_51 ?_
        refine sx_bipush (v := (-9)) C0 dX7_price_52 (by decide) ?_
        refine sw_bind (fun S54 e54 => ?_)
        refine cv_X7_142 (As := [.int (0 : Int32), .int ((3 : Int32) + v1), .int (-9 : Int32)]) C0 (c_X7_place C0.2.2.2.2.2.2.2.1 (0 : Int32) ((3 : Int32) + v1) (-9 : Int32) q33.2 _ e54) is7 ⟨rfl, rfl⟩ ⟨Nat.le_of_ble_eq_true rfl, Nat.le_of_ble_eq_true rfl⟩ rfl hl.1 (Nat.le_of_ble_eq_true rfl) rfl dX7_price_54 (fun _ => ?_)
        refine sx_aload_n C0 dX7_price_57 rfl (lv_at hl 2 rfl) ?_
        refine sx_iload_n C0 dX7_price_58 rfl (lv_at hl 4 rfl) ?_
        refine sw_bind (fun q59 e59 => ?_)
        refine cv_X7_267 (As := [.int v2]) C0 (c_X7_mostOf C0.2.2.2.2.2.2.2.1 v2 S54 _ e59) is7 ⟨rfl, rfl⟩ ⟨Nat.le_of_ble_eq_true rfl, Nat.le_of_ble_eq_true rfl⟩ rfl hl.1 (Nat.le_of_ble_eq_true rfl) rfl dX7_price_59 (fun _ => ?_)
        refine sw_lt (val := .int) (fun v5_62 => ?_)
        refine sx_istore (lv' := [(5, .int v5_62), (4, .int a42), (3, .int v3_36), (0, .ref (ad 0)), (1, .int v1), (2, .int v2)]) C0 dX7_price_62 hl (by decide) rfl (fun ls hl => ?_)
        refine sx_aload_n C0 dX7_price_64 rfl (lv_at hl 3 rfl) ?_
        refine sx_iconst (v := 0) C0 dX7_price_65 (by decide) ?_
        refine sx_iconst (v := 3) C0 dX7_price_66 (by decide) ?_
        refine sx_iload_n C0 dX7_price_67 rfl (lv_at hl 4 rfl) ?_
        refine sx_iadd C0 dX7_price_68 ?_
        refine sx_iload C0 dX7_price_69 (lv_at hl 1 rfl) ?_
        refine sw_bind (fun S71 e71 => ?_)
        refine cv_X7_142 (As := [.int (0 : Int32), .int ((3 : Int32) + v1), .int a42]) C0 (c_X7_place C0.2.2.2.2.2.2.2.1 (0 : Int32) ((3 : Int32) + v1) a42 q59.2 _ e71) is7 ⟨rfl, rfl⟩ ⟨Nat.le_of_ble_eq_true rfl, Nat.le_of_ble_eq_true rfl⟩ rfl hl.1 (Nat.le_of_ble_eq_true rfl) rfl dX7_price_71 (fun _ => ?_)
        refine sx_aload_n C0 dX7_price_74 rfl (lv_at hl 3 rfl) ?_
        refine sx_iload_n C0 dX7_price_75 rfl (lv_at hl 2 rfl) ?_
        refine sx_iload C0 dX7_price_76 (lv_at hl 0 rfl) ?_
        refine sx_isub C0 dX7_price_78 ?_
        refine sx_iconst (v := 1) C0 dX7_price_79 (by decide) ?_
        refine cv_X7_102 (As := [.int (v3_36 - v5_62), .int (1 : Int32)]) C0 (c_X7_tells C0.2.2.2.2.2.2.2.1 (v3_36 - v5_62) (1 : Int32) S71) is7 ⟨rfl, rfl⟩ ⟨Nat.le_of_ble_eq_true rfl, Nat.le_of_ble_eq_true rfl⟩ rfl hl.1 (Nat.le_of_ble_eq_true rfl) rfl dX7_price_80 (fun _ => ?_)
        refine sw_ltQ (val := .int) (fun q80 => ?_)
        exact sx_iret C0 rfl rfl trivial dX7_price_83
      · refine sx_bipush (v := (-4)) C0 dX7_price_28 (by decide) ?_
        exact sx_iret C0 rfl rfl trivial dX7_price_30
abbrev rm_X7_altar : Room := { frames := 10, cells := 0, slots := 0, locals := 224 }
def mX7_altar (S : vS) (v1 : Int32) (v2 : Int32) (v3 : Int32) (v4 : Int32) : Option (Int32 × vS) := (if (mX7_isGod S v1) = 0 then (some ((-1 : Int32), S)) else (if (mX7_in v2 (0 : Int32) (2 : Int32)) = 0 then (some ((-1 : Int32), S)) else (if (mX7_in v3 (1 : Int32) (6 : Int32)) = 0 then (some ((-1 : Int32), S)) else (if (mX7_in v4 (1 : Int32) (3 : Int32)) = 0 then (some ((-1 : Int32), S)) else ((mX7_isGone S (0 : Int32) v1).bind fun a42 => (if a42 = 0 then ((gI (S.1 7) 24 (((6 : Int32) * v1) + (1 : Int32))).bind fun a61 => ((mX7_patienceOf S v1).bind fun a66 => ((pI S 7 24 (((6 : Int32) * v1) + (1 : Int32)) v2).bind fun S82 => ((pI S82 7 24 (((6 : Int32) * v1) + (2 : Int32)) v3).bind fun S94 => ((mX7_mostOf S94 v4).bind fun q98 => (lt q98.1 fun v7_101 => ((pI q98.2 7 24 (((6 : Int32) * v1) + (1 : Int32)) a61).bind fun S115 => ((pI S115 7 24 (((6 : Int32) * v1) + (2 : Int32)) a66).bind fun S128 => (lt (mX7_tells S128 v7_101 (1 : Int32)) fun q133 => (some (q133.1, q133.2))))))))))) else (some ((-4 : Int32), S))))))))
set_option maxHeartbeats 4000000 in
set_option maxRecDepth 100000 in
theorem c_X7_altar {l : Launch} {D : va_G} {cA : Nat → ClassId} {ad : Nat → Nat} (G : Gx shM ad ExM) (v1 : Int32) (v2 : Int32) (v3 : Int32) (v4 : Int32) (S : vS) (r : (Int32 × vS)) (hr : (mX7_altar S v1 v2 v3 v4) = some r) : Met l yX7_altar (Cond.code yX7_altar cX7_altar 8 (some .int) :: ALL) rm_X7_altar (Po D vwCl tlM shM cA ad ExM [.ref (ad 0), .int v1, .int v2, .int v3, .int v4] S) (Qo D vwCl shM cA ad (some (.int r.1)) r.2 True) 0 0 (aw shM ad) := by
  refine Met.sx (M := (mX7_altar S v1 v2 v3 v4)) (rv := (fun q => some (.int q.1) : (Int32 × vS) → Option Value)) (rs := fun q => q.2) (B := fun _ => True) (by decide) ⟨rfl, rfl⟩ (Nat.le_of_ble_eq_true rfl) G (fun p e s m args below meth c C0 ls hl => ?_) hr
  have hl : lv_has ls 8 [(0, .ref (ad 0)), (1, .int v1), (2, .int v2), (3, .int v3), (4, .int v4)] := hl
  rw [mX7_altar]
  refine sx_aload_n C0 dX7_altar_0 rfl (lv_at hl 0 rfl) ?_
  refine sx_iload_n C0 dX7_altar_1 rfl (lv_at hl 1 rfl) ?_
  refine cv_X7_208 (As := [.int v1]) C0 (c_X7_isGod C0.2.2.2.2.2.2.2.1 v1 S) is7 ⟨rfl, rfl⟩ ⟨Nat.le_of_ble_eq_true rfl, Nat.le_of_ble_eq_true rfl⟩ rfl hl.1 (Nat.le_of_ble_eq_true rfl) rfl dX7_altar_2 (fun hb2 => ?_)
  refine sx_if_eq (tgt := 37) C0 dX7_altar_5 (by decide) (fun _ => ?_) (fun _ => ?_)
  · refine sx_iconst (v := (-1)) C0 dX7_altar_37 (by decide) ?_
    exact sx_iret C0 rfl rfl trivial dX7_altar_38
  · refine sx_iload_n C0 dX7_altar_8 rfl (lv_at hl 2 rfl) ?_
    refine sx_iconst (v := 0) C0 dX7_altar_9 (by decide) ?_
    refine sx_iconst (v := 2) C0 dX7_altar_10 (by decide) ?_
    refine cv_X7_80 (As := [.int v2, .int (0 : Int32), .int (2 : Int32)]) C0 (c_X7_in C0.2.2.2.2.2.2.2.1 v2 (0 : Int32) (2 : Int32) S) ⟨rfl, rfl⟩ ⟨Nat.le_of_ble_eq_true rfl, Nat.le_of_ble_eq_true rfl⟩ rfl hl.1 (Nat.le_of_ble_eq_true rfl) rfl dX7_altar_11 (fun hb11 => ?_)
    refine sx_if_eq (tgt := 37) C0 dX7_altar_14 (by decide) (fun _ => ?_) (fun _ => ?_)
    · refine sx_iconst (v := (-1)) C0 dX7_altar_37 (by decide) ?_
      exact sx_iret C0 rfl rfl trivial dX7_altar_38
    · refine sx_iload_n C0 dX7_altar_17 rfl (lv_at hl 3 rfl) ?_
      refine sx_iconst (v := 1) C0 dX7_altar_18 (by decide) ?_
      refine sx_bipush (v := 6) C0 dX7_altar_19 (by decide) ?_
      refine cv_X7_80 (As := [.int v3, .int (1 : Int32), .int (6 : Int32)]) C0 (c_X7_in C0.2.2.2.2.2.2.2.1 v3 (1 : Int32) (6 : Int32) S) ⟨rfl, rfl⟩ ⟨Nat.le_of_ble_eq_true rfl, Nat.le_of_ble_eq_true rfl⟩ rfl hl.1 (Nat.le_of_ble_eq_true rfl) rfl dX7_altar_21 (fun hb21 => ?_)
      refine sx_if_eq (tgt := 37) C0 dX7_altar_24 (by decide) (fun _ => ?_) (fun _ => ?_)
      · refine sx_iconst (v := (-1)) C0 dX7_altar_37 (by decide) ?_
        exact sx_iret C0 rfl rfl trivial dX7_altar_38
      · refine sx_iload C0 dX7_altar_27 (lv_at hl 4 rfl) ?_
        refine sx_iconst (v := 1) C0 dX7_altar_29 (by decide) ?_
        refine sx_iconst (v := 3) C0 dX7_altar_30 (by decide) ?_
        refine cv_X7_80 (As := [.int v4, .int (1 : Int32), .int (3 : Int32)]) C0 (c_X7_in C0.2.2.2.2.2.2.2.1 v4 (1 : Int32) (3 : Int32) S) ⟨rfl, rfl⟩ ⟨Nat.le_of_ble_eq_true rfl, Nat.le_of_ble_eq_true rfl⟩ rfl hl.1 (Nat.le_of_ble_eq_true rfl) rfl dX7_altar_31 (fun hb31 => ?_)
        refine sx_if_ne (tgt := 39) C0 dX7_altar_34 (by decide) (fun _ => ?_) (fun _ => ?_)
        · refine sx_iconst (v := (-1)) C0 dX7_altar_37 (by decide) ?_
          exact sx_iret C0 rfl rfl trivial dX7_altar_38
        · refine sx_aload_n C0 dX7_altar_39 rfl (lv_at hl 0 rfl) ?_
          refine sx_iconst (v := 0) C0 dX7_altar_40 (by decide) ?_
          refine sx_iload_n C0 dX7_altar_41 rfl (lv_at hl 1 rfl) ?_
          refine sw_bind (fun a42 e42 => ?_)
          refine cv_X7_155 (As := [.int (0 : Int32), .int v1]) C0 (c_X7_isGone C0.2.2.2.2.2.2.2.1 (0 : Int32) v1 S _ e42) is7 ⟨rfl, rfl⟩ ⟨Nat.le_of_ble_eq_true rfl, Nat.le_of_ble_eq_true rfl⟩ rfl hl.1 (Nat.le_of_ble_eq_true rfl) rfl dX7_altar_42 (fun hb42 => ?_)
          refine sx_if_eq (tgt := 51) C0 dX7_altar_45 (by decide) (fun _ => ?_) (fun _ => ?_)
          · refine sx_aload_n C0 dX7_altar_51 rfl (lv_at hl 0 rfl) ?_
            refine gf_X7_29 C0 is7 dX7_altar_52 ?_
            refine sx_bipush (v := 6) C0 dX7_altar_55 (by decide) ?_
            refine sx_iload_n C0 dX7_altar_57 rfl (lv_at hl 1 rfl) ?_
            refine sx_imul C0 dX7_altar_58 ?_
            refine sx_iconst (v := 1) C0 dX7_altar_59 (by decide) ?_
            refine sx_iadd C0 dX7_altar_60 ?_
            refine sx_iald C0 is7_gods rfl dX7_altar_61 (fun a61 => ?_)
            refine sx_istore (lv' := [(5, .int a61), (0, .ref (ad 0)), (1, .int v1), (2, .int v2), (3, .int v3), (4, .int v4)]) C0 dX7_altar_62 hl (by decide) rfl (fun ls hl => ?_)
            refine sx_aload_n C0 dX7_altar_64 rfl (lv_at hl 1 rfl) ?_
            refine sx_iload_n C0 dX7_altar_65 rfl (lv_at hl 2 rfl) ?_
            refine sw_bind (fun a66 e66 => ?_)
            refine cv_X7_192 (As := [.int v1]) C0 (c_X7_patienceOf C0.2.2.2.2.2.2.2.1 v1 S _ e66) is7 ⟨rfl, rfl⟩ ⟨Nat.le_of_ble_eq_true rfl, Nat.le_of_ble_eq_true rfl⟩ rfl hl.1 (Nat.le_of_ble_eq_true rfl) rfl dX7_altar_66 (fun _ => ?_)
            refine sx_istore (lv' := [(6, .int a66), (5, .int a61), (0, .ref (ad 0)), (1, .int v1), (2, .int v2), (3, .int v3), (4, .int v4)]) C0 dX7_altar_69 hl (by decide) rfl (fun ls hl => ?_)
            refine sx_aload_n C0 dX7_altar_71 rfl (lv_at hl 2 rfl) ?_
            refine gf_X7_29 C0 is7 dX7_altar_72 ?_
            refine sx_bipush (v := 6) C0 dX7_altar_75 (by decide) ?_
            refine sx_iload_n C0 dX7_altar_77 rfl (lv_at hl 3 rfl) ?_
            refine sx_imul C0 dX7_altar_78 ?_
            refine sx_iconst (v := 1) C0 dX7_altar_79 (by decide) ?_
            refine sx_iadd C0 dX7_altar_80 ?_
            refine sx_iload_n C0 dX7_altar_81 rfl (lv_at hl 4 rfl) ?_
            refine sx_iast C0 is7_gods rfl dX7_altar_82 (fun S82 => ?_)
            refine sx_aload_n C0 dX7_altar_83 rfl (lv_at hl 2 rfl) ?_
            refine gf_X7_29 C0 is7 dX7_altar_84 ?_
            refine sx_bipush (v := 6) C0 dX7_altar_87 (by decide) ?_
            refine sx_iload_n C0 dX7_altar_89 rfl (lv_at hl 3 rfl) ?_
            refine sx_imul C0 dX7_altar_90 ?_
            refine sx_iconst (v := 2) C0 dX7_altar_91 (by decide) ?_
            refine sx_iadd C0 dX7_altar_92 ?_
            refine sx_iload_n C0 dX7_altar_93 rfl (lv_at hl 5 rfl) ?_
            refine sx_iast C0 is7_gods rfl dX7_altar_94 (fun S94 => ?_)
            refine sx_aload_n C0 dX7_altar_95 rfl (lv_at hl 2 rfl) ?_
            refine sx_iload C0 dX7_altar_96 (lv_at hl 6 rfl) ?_
            refine sw_bind (fun q98 e98 => ?_)
            refine cv_X7_267 (As := [.int v4]) C0 (c_X7_mostOf C0.2.2.2.2.2.2.2.1 v4 S94 _ e98) is7 ⟨rfl, rfl⟩ ⟨Nat.le_of_ble_eq_true rfl, Nat.le_of_ble_eq_true rfl⟩ rfl hl.1 (Nat.le_of_ble_eq_true rfl) rfl dX7_altar_98 (fun _ => ?_)
            refine sw_lt (val := .int) (fun v7_101 => ?_)
            refine sx_istore (lv' := [(7, .int v7_101), (6, .int a66), (5, .int a61), (0, .ref (ad 0)), (1, .int v1), (2, .int v2), (3, .int v3), (4, .int v4)]) C0 dX7_altar_101 hl (by decide) rfl (fun ls hl => ?_)
            refine sx_aload_n C0 dX7_altar_103 rfl (lv_at hl 3 rfl) ?_
            refine gf_X7_29 C0 is7 dX7_altar_104 ?_
            refine sx_bipush (v := 6) C0 dX7_altar_107 (by decide) ?_
            refine sx_iload_n C0 dX7_altar_109 rfl (lv_at hl 4 rfl) ?_
            refine sx_imul C0 dX7_altar_110 ?_
            refine sx_iconst (v := 1) C0 dX7_altar_111 (by decide) ?_
            refine sx_iadd C0 dX7_altar_112 ?_
            refine sx_iload C0 dX7_altar_113 (lv_at hl 2 rfl) ?_
            refine sx_iast C0 is7_gods rfl dX7_altar_115 (fun S115 => ?_)
            refine sx_aload_n C0 dX7_altar_116 rfl (lv_at hl 3 rfl) ?_
            refine gf_X7_29 C0 is7 dX7_altar_117 ?_
            refine sx_bipush (v := 6) C0 dX7_altar_120 (by decide) ?_
            refine sx_iload_n C0 dX7_altar_122 rfl (lv_at hl 4 rfl) ?_
            refine sx_imul C0 dX7_altar_123 ?_
            refine sx_iconst (v := 2) C0 dX7_altar_124 (by decide) ?_
            refine sx_iadd C0 dX7_altar_125 ?_
            refine sx_iload C0 dX7_altar_126 (lv_at hl 1 rfl) ?_
            refine sx_iast C0 is7_gods rfl dX7_altar_128 (fun S128 => ?_)
            refine sx_aload_n C0 dX7_altar_129 rfl (lv_at hl 3 rfl) ?_
            refine sx_iload C0 dX7_altar_130 (lv_at hl 0 rfl) ?_
            refine sx_iconst (v := 1) C0 dX7_altar_132 (by decide) ?_
            refine cv_X7_102 (As := [.int v7_101, .int (1 : Int32)]) C0 (c_X7_tells C0.2.2.2.2.2.2.2.1 v7_101 (1 : Int32) S128) is7 ⟨rfl, rfl⟩ ⟨Nat.le_of_ble_eq_true rfl, Nat.le_of_ble_eq_true rfl⟩ rfl hl.1 (Nat.le_of_ble_eq_true rfl) rfl dX7_altar_133 (fun _ => ?_)
            refine sw_ltQ (val := .int) (fun q133 => ?_)
            exact sx_iret C0 rfl rfl trivial dX7_altar_136
          · refine sx_bipush (v := (-4)) C0 dX7_altar_48 (by decide) ?_
            exact sx_iret C0 rfl rfl trivial dX7_altar_50
abbrev rm_X7_sentOf : Room := { frames := 1, cells := 0, slots := 0, locals := 21 }
def bX7_sentOf_31   (K4 : Int32 → Int32 → Option Int32) (S : vS) (v1 : Int32) (v3 : Int32) (t0 : Int32) (t1 : Int32) : Option Int32 := (lt (t1 + t0) fun v2_32 => (K4 v2_32 (v3 + (1 : Int32))))
set_option maxHeartbeats 4000000 in
set_option maxRecDepth 100000 in
theorem bX7_sentOf_31_t {p : Program} {l : Launch} {e : Env} {s : State} {m : MethodId} {args : Array Value} {below : List Frame} {meth : Method} {c : Code} {D : va_G} {cA : Nat → ClassId} {ad : Nat → Nat} {K4 : Int32 → Int32 → Option Int32}  (C0 : Cx D vwCl tlM shM cA ad ExM RX7 cX7_sentOf 4 (some .int) p s m args meth c)  (S : vS) (v1 : Int32) (v3 : Int32) (t0 : Int32) (t1 : Int32) (hK4 : ∀ (v2 : Int32) (v3 : Int32) (ls : Array Slot), lv_has ls 4 [(0, .ref (ad 0)), (1, .int v1), (2, .int v2), (3, .int v3)] → SW p l e rm_X7_sentOf s m args below meth c D vwCl shM cA ad (Fq D vwCl shM cA ad below args s (fun r => some (.int r) : Int32 → Option Value) (fun _ => S) (fun _ => True)) (K4 v2 v3) S 4 ls []) (ls : Array Slot) (hl : lv_has ls 4 [(0, .ref (ad 0)), (1, .int v1), (3, .int v3)]) : SW p l e rm_X7_sentOf s m args below meth c D vwCl shM cA ad (Fq D vwCl shM cA ad below args s (fun r => some (.int r) : Int32 → Option Value) (fun _ => S) (fun _ => True)) (bX7_sentOf_31 K4 S v1 v3 t0 t1) S 31 ls [.int t0, .int t1] := by
  rw [bX7_sentOf_31]
  refine sx_iadd C0 dX7_sentOf_31 ?_
  refine sw_lt (val := .int) (fun v2_32 => ?_)
  refine sx_istore_n (lv' := [(2, .int v2_32), (0, .ref (ad 0)), (1, .int v1), (3, .int v3)]) C0 dX7_sentOf_32 rfl hl (by decide) rfl (fun ls hl => ?_)
  refine sx_iinc (v := (v3 + (1 : Int32))) (lv' := [(3, .int (v3 + (1 : Int32))), (2, .int v2_32), (0, .ref (ad 0)), (1, .int v1)]) C0 dX7_sentOf_33 hl (k := 3) rfl rfl (by decide) rfl (fun ls hl => ?_)
  refine sx_goto (tgt := 4) C0 dX7_sentOf_36 (by decide) ?_
  exact hK4 _ _ _ (lv_sub hl [2, 3, 1, 0] rfl)
def lX7_sentOf_4  (S : vS)  (v1 : Int32) : Nat → Int32 → Int32 → Option Int32
  | 0, _, _ => none
  | n + 1, v2, v3 => (if (S.1 0 10) ≤ v3 then (some v2) else (if (mX7_has v1 v3) = 0 then (bX7_sentOf_31 (lX7_sentOf_4 S v1 n) S v1 v3 (0 : Int32) v2) else ((gI (S.1 11) 4 v3).bind fun a26 => (bX7_sentOf_31 (lX7_sentOf_4 S v1 n) S v1 v3 a26 v2))))
set_option maxHeartbeats 4000000 in
set_option maxRecDepth 100000 in
theorem lX7_sentOf_4_t {p : Program} {l : Launch} {e : Env} {s : State} {m : MethodId} {args : Array Value} {below : List Frame} {meth : Method} {c : Code} {D : va_G} {cA : Nat → ClassId} {ad : Nat → Nat}   (C0 : Cx D vwCl tlM shM cA ad ExM RX7 cX7_sentOf 4 (some .int) p s m args meth c)  (S : vS) (v1 : Int32)  : ∀ (n : Nat) (v2 : Int32) (v3 : Int32) (ls : Array Slot), lv_has ls 4 [(0, .ref (ad 0)), (1, .int v1), (2, .int v2), (3, .int v3)] → SW p l e rm_X7_sentOf s m args below meth c D vwCl shM cA ad (Fq D vwCl shM cA ad below args s (fun r => some (.int r) : Int32 → Option Value) (fun _ => S) (fun _ => True)) (lX7_sentOf_4 S v1 n v2 v3) S 4 ls [] := by
  intro n
  induction n with
  | zero =>
    intro v2 v3 ls hl
    rw [lX7_sentOf_4]
    exact sw_none
  | succ n ih =>
    intro v2 v3 ls hl
    rw [lX7_sentOf_4]
    refine sx_iload_n C0 dX7_sentOf_4 rfl (lv_at hl 3 rfl) ?_
    refine sx_aload_n C0 dX7_sentOf_5 rfl (lv_at hl 0 rfl) ?_
    refine gf_X7_139 C0 is7 dX7_sentOf_6 ?_
    refine sx_icmp_ge (tgt := 39) C0 dX7_sentOf_9 (by decide) (fun _ => ?_) (fun _ => ?_)
    · refine sx_iload_n C0 dX7_sentOf_39 rfl (lv_at hl 2 rfl) ?_
      exact sx_iret C0 rfl rfl trivial dX7_sentOf_40
    · refine sx_iload_n C0 dX7_sentOf_12 rfl (lv_at hl 2 rfl) ?_
      refine sx_iload_n C0 dX7_sentOf_13 rfl (lv_at hl 1 rfl) ?_
      refine sx_iload_n C0 dX7_sentOf_14 rfl (lv_at hl 3 rfl) ?_
      refine cv_X7_174 (As := [.int v1, .int v3]) C0 (c_X7_has C0.2.2.2.2.2.2.2.1 v1 v3 S) ⟨rfl, rfl⟩ ⟨Nat.le_of_ble_eq_true rfl, Nat.le_of_ble_eq_true rfl⟩ rfl hl.1 (Nat.le_of_ble_eq_true rfl) rfl dX7_sentOf_15 (fun hb15 => ?_)
      refine sx_if_eq (tgt := 30) C0 dX7_sentOf_18 (by decide) (fun _ => ?_) (fun _ => ?_)
      · refine sx_iconst (v := 0) C0 dX7_sentOf_30 (by decide) ?_
        exact bX7_sentOf_31_t C0 _ _ _ _ _ ih _ (lv_sub hl [0, 1, 3] rfl)
      · refine sx_aload_n C0 dX7_sentOf_21 rfl (lv_at hl 0 rfl) ?_
        refine gf_X7_41 C0 is7 dX7_sentOf_22 ?_
        refine sx_iload_n C0 dX7_sentOf_25 rfl (lv_at hl 3 rfl) ?_
        refine sx_iald C0 is7_sentNow rfl dX7_sentOf_26 (fun a26 => ?_)
        refine sx_goto (tgt := 31) C0 dX7_sentOf_27 (by decide) ?_
        exact bX7_sentOf_31_t C0 _ _ _ _ _ ih _ (lv_sub hl [0, 1, 3] rfl)
def mX7_sentOf (S : vS) (v1 : Int32) : Option Int32 := (lX7_sentOf_4 S v1 FU (0 : Int32) (0 : Int32))
set_option maxHeartbeats 4000000 in
set_option maxRecDepth 100000 in
theorem c_X7_sentOf {l : Launch} {D : va_G} {cA : Nat → ClassId} {ad : Nat → Nat} (G : Gx shM ad ExM) (v1 : Int32) (S : vS) (r : Int32) (hr : (mX7_sentOf S v1) = some r) : Met l yX7_sentOf (Cond.code yX7_sentOf cX7_sentOf 4 (some .int) :: ALL) rm_X7_sentOf (Po D vwCl tlM shM cA ad ExM [.ref (ad 0), .int v1] S) (Qo D vwCl shM cA ad (some (.int r)) S True) 0 0 (aw shM ad) := by
  refine Met.sx (M := (mX7_sentOf S v1)) (rv := (fun r => some (.int r) : Int32 → Option Value)) (rs := fun _ => S) (B := fun _ => True) (by decide) ⟨rfl, rfl⟩ (Nat.le_of_ble_eq_true rfl) G (fun p e s m args below meth c C0 ls hl => ?_) hr
  have hl : lv_has ls 4 [(0, .ref (ad 0)), (1, .int v1)] := hl
  rw [mX7_sentOf]
  refine sx_iconst (v := 0) C0 dX7_sentOf_0 (by decide) ?_
  refine sx_istore_n (lv' := [(2, .int (0 : Int32)), (0, .ref (ad 0)), (1, .int v1)]) C0 dX7_sentOf_1 rfl hl (by decide) rfl (fun ls hl => ?_)
  refine sx_iconst (v := 0) C0 dX7_sentOf_2 (by decide) ?_
  refine sx_istore_n (lv' := [(3, .int (0 : Int32)), (2, .int (0 : Int32)), (0, .ref (ad 0)), (1, .int v1)]) C0 dX7_sentOf_3 rfl hl (by decide) rfl (fun ls hl => ?_)
  exact lX7_sentOf_4_t C0 _ _ _ _ _ _ (lv_sub hl [2, 3, 1, 0] rfl)
abbrev rm_X7_lastTurn : Room := { frames := 7, cells := 0, slots := 0, locals := 158 }
def bX7_lastTurn_94   (K15 : vS → Int32 → Int32 → Int32 → Option (Int32 × vS)) (S : vS) (v1 : Int32) (v2 : Int32) (v3 : Int32) (v4 : Int32) (v6 : Int32)  : Option (Int32 × vS) := (K15 S v4 (1 : Int32) (v6 + (1 : Int32)))
set_option maxHeartbeats 4000000 in
set_option maxRecDepth 100000 in
theorem bX7_lastTurn_94_t {p : Program} {l : Launch} {e : Env} {s : State} {m : MethodId} {args : Array Value} {below : List Frame} {meth : Method} {c : Code} {D : va_G} {cA : Nat → ClassId} {ad : Nat → Nat} {K15 : vS → Int32 → Int32 → Int32 → Option (Int32 × vS)}  (C0 : Cx D vwCl tlM shM cA ad ExM RX7 cX7_lastTurn 8 (some .int) p s m args meth c)  (S : vS) (v1 : Int32) (v2 : Int32) (v3 : Int32) (v4 : Int32) (v6 : Int32) (hK15 : ∀ (S : vS) (v4 : Int32) (v5 : Int32) (v6 : Int32) (ls : Array Slot), lv_has ls 8 [(0, .ref (ad 0)), (1, .int v1), (2, .int v2), (3, .int v3), (4, .int v4), (5, .int v5), (6, .int v6)] → SW p l e rm_X7_lastTurn s m args below meth c D vwCl shM cA ad (Fq D vwCl shM cA ad below args s (fun q => some (.int q.1) : (Int32 × vS) → Option Value) (fun q => q.2) (fun _ => True)) (K15 S v4 v5 v6) S 15 ls []) (ls : Array Slot) (hl : lv_has ls 8 [(0, .ref (ad 0)), (1, .int v1), (2, .int v2), (3, .int v3), (4, .int v4), (6, .int v6)]) : SW p l e rm_X7_lastTurn s m args below meth c D vwCl shM cA ad (Fq D vwCl shM cA ad below args s (fun q => some (.int q.1) : (Int32 × vS) → Option Value) (fun q => q.2) (fun _ => True)) (bX7_lastTurn_94 K15 S v1 v2 v3 v4 v6) S 94 ls [] := by
  rw [bX7_lastTurn_94]
  refine sx_iconst (v := 1) C0 dX7_lastTurn_94 (by decide) ?_
  refine sx_istore (lv' := [(5, .int (1 : Int32)), (0, .ref (ad 0)), (1, .int v1), (2, .int v2), (3, .int v3), (4, .int v4), (6, .int v6)]) C0 dX7_lastTurn_95 hl (by decide) rfl (fun ls hl => ?_)
  refine sx_iinc (v := (v6 + (1 : Int32))) (lv' := [(6, .int (v6 + (1 : Int32))), (5, .int (1 : Int32)), (0, .ref (ad 0)), (1, .int v1), (2, .int v2), (3, .int v3), (4, .int v4)]) C0 dX7_lastTurn_97 hl (k := 6) rfl rfl (by decide) rfl (fun ls hl => ?_)
  refine sx_goto (tgt := 15) C0 dX7_lastTurn_100 (by decide) ?_
  exact hK15 _ _ _ _ _ (lv_sub hl [2, 3, 4, 5, 6, 1, 0] rfl)
def bX7_lastTurn_84   (K15 : vS → Int32 → Int32 → Int32 → Option (Int32 × vS)) (S : vS) (v1 : Int32) (v2 : Int32) (v3 : Int32) (v6 : Int32) (v7 : Int32)  : Option (Int32 × vS) := (lt (wI S 0 36 v6) fun S91 => (bX7_lastTurn_94 K15 S91 v1 v2 v3 v7 v6))
set_option maxHeartbeats 4000000 in
set_option maxRecDepth 100000 in
theorem bX7_lastTurn_84_t {p : Program} {l : Launch} {e : Env} {s : State} {m : MethodId} {args : Array Value} {below : List Frame} {meth : Method} {c : Code} {D : va_G} {cA : Nat → ClassId} {ad : Nat → Nat} {K15 : vS → Int32 → Int32 → Int32 → Option (Int32 × vS)}  (C0 : Cx D vwCl tlM shM cA ad ExM RX7 cX7_lastTurn 8 (some .int) p s m args meth c)  (S : vS) (v1 : Int32) (v2 : Int32) (v3 : Int32) (v6 : Int32) (v7 : Int32) (hK15 : ∀ (S : vS) (v4 : Int32) (v5 : Int32) (v6 : Int32) (ls : Array Slot), lv_has ls 8 [(0, .ref (ad 0)), (1, .int v1), (2, .int v2), (3, .int v3), (4, .int v4), (5, .int v5), (6, .int v6)] → SW p l e rm_X7_lastTurn s m args below meth c D vwCl shM cA ad (Fq D vwCl shM cA ad below args s (fun q => some (.int q.1) : (Int32 × vS) → Option Value) (fun q => q.2) (fun _ => True)) (K15 S v4 v5 v6) S 15 ls []) (ls : Array Slot) (hl : lv_has ls 8 [(0, .ref (ad 0)), (1, .int v1), (2, .int v2), (3, .int v3), (6, .int v6), (7, .int v7)]) : SW p l e rm_X7_lastTurn s m args below meth c D vwCl shM cA ad (Fq D vwCl shM cA ad below args s (fun q => some (.int q.1) : (Int32 × vS) → Option Value) (fun q => q.2) (fun _ => True)) (bX7_lastTurn_84 K15 S v1 v2 v3 v6 v7) S 84 ls [] := by
  rw [bX7_lastTurn_84]
  refine sx_iload C0 dX7_lastTurn_84 (lv_at hl 5 rfl) ?_
  refine sx_istore (lv' := [(4, .int v7), (0, .ref (ad 0)), (1, .int v1), (2, .int v2), (3, .int v3), (6, .int v6), (7, .int v7)]) C0 dX7_lastTurn_86 hl (by decide) rfl (fun ls hl => ?_)
  refine sx_aload_n C0 dX7_lastTurn_88 rfl (lv_at hl 1 rfl) ?_
  refine sx_iload C0 dX7_lastTurn_89 (lv_at hl 5 rfl) ?_
  refine pf_X7_280 C0 is7 dX7_lastTurn_91 (fun S91 => ?_)
  exact bX7_lastTurn_94_t C0 _ _ _ _ _ _ hK15 _ (lv_sub hl [1, 2, 3, 4, 0, 5] rfl)
def lX7_lastTurn_15    (v1 : Int32) (v2 : Int32) (v3 : Int32) : Nat → vS → Int32 → Int32 → Int32 → Option (Int32 × vS)
  | 0, _, _, _, _ => none
  | n + 1, S, v4, v5, v6 => (if (12 : Int32) < v6 then (some (v4, S)) else ((mX7_copyValley S v1 (v1 + (1 : Int32))).bind fun S27 => (if (mX7_isNumber S27 v6) = 0 then ((lX7_lastTurn_15 v1 v2 v3 n) S27 v4 v5 (v6 + (1 : Int32))) else ((mX7_goes S27 (v1 + (1 : Int32)) v6).bind fun q45 => (if q45.1 = 0 then ((lX7_lastTurn_15 v1 v2 v3 n) q45.2 v4 v5 (v6 + (1 : Int32))) else ((mX7_sentOf q45.2 v2).bind fun a53 => (if v5 = 0 then (bX7_lastTurn_84 (lX7_lastTurn_15 v1 v2 v3 n) q45.2 v1 v2 v3 v6 a53) else (if v3 = 0 then (if v4 ≤ a53 then (bX7_lastTurn_94 (lX7_lastTurn_15 v1 v2 v3 n) q45.2 v1 v2 v3 v4 v6) else (bX7_lastTurn_84 (lX7_lastTurn_15 v1 v2 v3 n) q45.2 v1 v2 v3 v6 a53)) else (if a53 ≤ v4 then (bX7_lastTurn_94 (lX7_lastTurn_15 v1 v2 v3 n) q45.2 v1 v2 v3 v4 v6) else (bX7_lastTurn_84 (lX7_lastTurn_15 v1 v2 v3 n) q45.2 v1 v2 v3 v6 a53))))))))))
set_option maxHeartbeats 4000000 in
set_option maxRecDepth 100000 in
theorem lX7_lastTurn_15_t {p : Program} {l : Launch} {e : Env} {s : State} {m : MethodId} {args : Array Value} {below : List Frame} {meth : Method} {c : Code} {D : va_G} {cA : Nat → ClassId} {ad : Nat → Nat}   (C0 : Cx D vwCl tlM shM cA ad ExM RX7 cX7_lastTurn 8 (some .int) p s m args meth c)   (v1 : Int32) (v2 : Int32) (v3 : Int32)  : ∀ (n : Nat) (S : vS) (v4 : Int32) (v5 : Int32) (v6 : Int32) (ls : Array Slot), lv_has ls 8 [(0, .ref (ad 0)), (1, .int v1), (2, .int v2), (3, .int v3), (4, .int v4), (5, .int v5), (6, .int v6)] → SW p l e rm_X7_lastTurn s m args below meth c D vwCl shM cA ad (Fq D vwCl shM cA ad below args s (fun q => some (.int q.1) : (Int32 × vS) → Option Value) (fun q => q.2) (fun _ => True)) (lX7_lastTurn_15 v1 v2 v3 n S v4 v5 v6) S 15 ls [] := by
  intro n
  induction n with
  | zero =>
    intro S v4 v5 v6 ls hl
    rw [lX7_lastTurn_15]
    exact sw_none
  | succ n ih =>
    intro S v4 v5 v6 ls hl
    rw [lX7_lastTurn_15]
    refine sx_iload C0 dX7_lastTurn_15 (lv_at hl 6 rfl) ?_
    refine sx_bipush (v := 12) C0 dX7_lastTurn_17 (by decide) ?_
    refine sx_icmp_gt (tgt := 103) C0 dX7_lastTurn_19 (by decide) (fun _ => ?_) (fun _ => ?_)
    · refine sx_iload C0 dX7_lastTurn_103 (lv_at hl 4 rfl) ?_
      exact sx_iret C0 rfl rfl trivial dX7_lastTurn_105
    · refine sx_aload_n C0 dX7_lastTurn_22 rfl (lv_at hl 0 rfl) ?_
      refine sx_iload_n C0 dX7_lastTurn_23 rfl (lv_at hl 1 rfl) ?_
      refine sx_iload_n C0 dX7_lastTurn_24 rfl (lv_at hl 1 rfl) ?_
      refine sx_iconst (v := 1) C0 dX7_lastTurn_25 (by decide) ?_
      refine sx_iadd C0 dX7_lastTurn_26 ?_
      refine sw_bind (fun S27 e27 => ?_)
      refine cv_X7_233 (As := [.int v1, .int (v1 + (1 : Int32))]) C0 (c_X7_copyValley C0.2.2.2.2.2.2.2.1 v1 (v1 + (1 : Int32)) S _ e27) is7 ⟨rfl, rfl⟩ ⟨Nat.le_of_ble_eq_true rfl, Nat.le_of_ble_eq_true rfl⟩ rfl hl.1 (Nat.le_of_ble_eq_true rfl) rfl dX7_lastTurn_27 (fun _ => ?_)
      refine sx_aload_n C0 dX7_lastTurn_30 rfl (lv_at hl 0 rfl) ?_
      refine sx_iload C0 dX7_lastTurn_31 (lv_at hl 6 rfl) ?_
      refine cv_X7_217 (As := [.int v6]) C0 (c_X7_isNumber C0.2.2.2.2.2.2.2.1 v6 S27) is7 ⟨rfl, rfl⟩ ⟨Nat.le_of_ble_eq_true rfl, Nat.le_of_ble_eq_true rfl⟩ rfl hl.1 (Nat.le_of_ble_eq_true rfl) rfl dX7_lastTurn_33 (fun hb33 => ?_)
      refine sx_if_eq (tgt := 97) C0 dX7_lastTurn_36 (by decide) (fun _ => ?_) (fun _ => ?_)
      · refine sx_iinc (v := (v6 + (1 : Int32))) (lv' := [(6, .int (v6 + (1 : Int32))), (0, .ref (ad 0)), (1, .int v1), (2, .int v2), (3, .int v3), (4, .int v4), (5, .int v5)]) C0 dX7_lastTurn_97 hl (k := 6) rfl rfl (by decide) rfl (fun ls hl => ?_)
        refine sx_goto (tgt := 15) C0 dX7_lastTurn_100 (by decide) ?_
        exact ih _ _ _ _ _ (lv_sub hl [1, 2, 3, 4, 5, 6, 0] rfl)
      · refine sx_aload_n C0 dX7_lastTurn_39 rfl (lv_at hl 0 rfl) ?_
        refine sx_iload_n C0 dX7_lastTurn_40 rfl (lv_at hl 1 rfl) ?_
        refine sx_iconst (v := 1) C0 dX7_lastTurn_41 (by decide) ?_
        refine sx_iadd C0 dX7_lastTurn_42 ?_
        refine sx_iload C0 dX7_lastTurn_43 (lv_at hl 6 rfl) ?_
        refine sw_bind (fun q45 e45 => ?_)
        refine cv_X7_214 (As := [.int (v1 + (1 : Int32)), .int v6]) C0 (c_X7_goes C0.2.2.2.2.2.2.2.1 (v1 + (1 : Int32)) v6 S27 _ e45) is7 ⟨rfl, rfl⟩ ⟨Nat.le_of_ble_eq_true rfl, Nat.le_of_ble_eq_true rfl⟩ rfl hl.1 (Nat.le_of_ble_eq_true rfl) rfl dX7_lastTurn_45 (fun hb45 => ?_)
        refine sx_if_eq (tgt := 97) C0 dX7_lastTurn_48 (by decide) (fun _ => ?_) (fun _ => ?_)
        · refine sx_iinc (v := (v6 + (1 : Int32))) (lv' := [(6, .int (v6 + (1 : Int32))), (0, .ref (ad 0)), (1, .int v1), (2, .int v2), (3, .int v3), (4, .int v4), (5, .int v5)]) C0 dX7_lastTurn_97 hl (k := 6) rfl rfl (by decide) rfl (fun ls hl => ?_)
          refine sx_goto (tgt := 15) C0 dX7_lastTurn_100 (by decide) ?_
          exact ih _ _ _ _ _ (lv_sub hl [1, 2, 3, 4, 5, 6, 0] rfl)
        · refine sx_aload_n C0 dX7_lastTurn_51 rfl (lv_at hl 0 rfl) ?_
          refine sx_iload_n C0 dX7_lastTurn_52 rfl (lv_at hl 2 rfl) ?_
          refine sw_bind (fun a53 e53 => ?_)
          refine cv_X7_283 (As := [.int v2]) C0 (c_X7_sentOf C0.2.2.2.2.2.2.2.1 v2 q45.2 _ e53) is7 ⟨rfl, rfl⟩ ⟨Nat.le_of_ble_eq_true rfl, Nat.le_of_ble_eq_true rfl⟩ rfl hl.1 (Nat.le_of_ble_eq_true rfl) rfl dX7_lastTurn_53 (fun _ => ?_)
          refine sx_istore (lv' := [(7, .int a53), (0, .ref (ad 0)), (1, .int v1), (2, .int v2), (3, .int v3), (4, .int v4), (5, .int v5), (6, .int v6)]) C0 dX7_lastTurn_56 hl (by decide) rfl (fun ls hl => ?_)
          refine sx_iload C0 dX7_lastTurn_58 (lv_at hl 6 rfl) ?_
          refine sx_if_eq (tgt := 84) C0 dX7_lastTurn_60 (by decide) (fun _ => ?_) (fun _ => ?_)
          · exact bX7_lastTurn_84_t C0 _ _ _ _ _ _ ih _ (lv_sub hl [1, 2, 3, 4, 7, 0] rfl)
          · refine sx_iload_n C0 dX7_lastTurn_63 rfl (lv_at hl 4 rfl) ?_
            refine sx_if_eq (tgt := 77) C0 dX7_lastTurn_64 (by decide) (fun _ => ?_) (fun _ => ?_)
            · refine sx_iload C0 dX7_lastTurn_77 (lv_at hl 0 rfl) ?_
              refine sx_iload C0 dX7_lastTurn_79 (lv_at hl 5 rfl) ?_
              refine sx_icmp_ge (tgt := 94) C0 dX7_lastTurn_81 (by decide) (fun _ => ?_) (fun _ => ?_)
              · exact bX7_lastTurn_94_t C0 _ _ _ _ _ _ ih _ (lv_sub hl [1, 2, 3, 4, 5, 7] rfl)
              · exact bX7_lastTurn_84_t C0 _ _ _ _ _ _ ih _ (lv_sub hl [1, 2, 3, 4, 7, 0] rfl)
            · refine sx_iload C0 dX7_lastTurn_67 (lv_at hl 0 rfl) ?_
              refine sx_iload C0 dX7_lastTurn_69 (lv_at hl 5 rfl) ?_
              refine sx_icmp_le (tgt := 94) C0 dX7_lastTurn_71 (by decide) (fun _ => ?_) (fun _ => ?_)
              · exact bX7_lastTurn_94_t C0 _ _ _ _ _ _ ih _ (lv_sub hl [1, 2, 3, 4, 5, 7] rfl)
              · refine sx_goto (tgt := 84) C0 dX7_lastTurn_74 (by decide) ?_
                exact bX7_lastTurn_84_t C0 _ _ _ _ _ _ ih _ (lv_sub hl [1, 2, 3, 4, 7, 0] rfl)
def mX7_lastTurn (S : vS) (v1 : Int32) (v2 : Int32) (v3 : Int32) : Option (Int32 × vS) := (lt (wI S 0 36 (12 : Int32)) fun S9 => (lX7_lastTurn_15 v1 v2 v3 FU S9 (0 : Int32) (0 : Int32) (0 : Int32)))
set_option maxHeartbeats 4000000 in
set_option maxRecDepth 100000 in
theorem c_X7_lastTurn {l : Launch} {D : va_G} {cA : Nat → ClassId} {ad : Nat → Nat} (G : Gx shM ad ExM) (v1 : Int32) (v2 : Int32) (v3 : Int32) (S : vS) (r : (Int32 × vS)) (hr : (mX7_lastTurn S v1 v2 v3) = some r) : Met l yX7_lastTurn (Cond.code yX7_lastTurn cX7_lastTurn 8 (some .int) :: ALL) rm_X7_lastTurn (Po D vwCl tlM shM cA ad ExM [.ref (ad 0), .int v1, .int v2, .int v3] S) (Qo D vwCl shM cA ad (some (.int r.1)) r.2 True) 0 0 (aw shM ad) := by
  refine Met.sx (M := (mX7_lastTurn S v1 v2 v3)) (rv := (fun q => some (.int q.1) : (Int32 × vS) → Option Value)) (rs := fun q => q.2) (B := fun _ => True) (by decide) ⟨rfl, rfl⟩ (Nat.le_of_ble_eq_true rfl) G (fun p e s m args below meth c C0 ls hl => ?_) hr
  have hl : lv_has ls 8 [(0, .ref (ad 0)), (1, .int v1), (2, .int v2), (3, .int v3)] := hl
  rw [mX7_lastTurn]
  refine sx_iconst (v := 0) C0 dX7_lastTurn_0 (by decide) ?_
  refine sx_istore (lv' := [(4, .int (0 : Int32)), (0, .ref (ad 0)), (1, .int v1), (2, .int v2), (3, .int v3)]) C0 dX7_lastTurn_1 hl (by decide) rfl (fun ls hl => ?_)
  refine sx_iconst (v := 0) C0 dX7_lastTurn_3 (by decide) ?_
  refine sx_istore (lv' := [(5, .int (0 : Int32)), (4, .int (0 : Int32)), (0, .ref (ad 0)), (1, .int v1), (2, .int v2), (3, .int v3)]) C0 dX7_lastTurn_4 hl (by decide) rfl (fun ls hl => ?_)
  refine sx_aload_n C0 dX7_lastTurn_6 rfl (lv_at hl 2 rfl) ?_
  refine sx_bipush (v := 12) C0 dX7_lastTurn_7 (by decide) ?_
  refine pf_X7_280 C0 is7 dX7_lastTurn_9 (fun S9 => ?_)
  refine sx_iconst (v := 0) C0 dX7_lastTurn_12 (by decide) ?_
  refine sx_istore (lv' := [(6, .int (0 : Int32)), (5, .int (0 : Int32)), (4, .int (0 : Int32)), (0, .ref (ad 0)), (1, .int v1), (2, .int v2), (3, .int v3)]) C0 dX7_lastTurn_13 hl (by decide) rfl (fun ls hl => ?_)
  exact lX7_lastTurn_15_t C0 _ _ _ _ _ _ _ _ _ (lv_sub hl [3, 4, 5, 6, 2, 1, 0] rfl)
abbrev rm_X7_twoTurns : Room := { frames := 8, cells := 0, slots := 0, locals := 185 }
def bX7_twoTurns_112   (K13 : vS → Int32 → Int32 → Int32 → Int32 → Option (Int32 × vS)) (S : vS) (v1 : Int32) (v2 : Int32) (v3 : Int32) (v4 : Int32) (v6 : Int32) (v7 : Int32)  : Option (Int32 × vS) := (K13 S v4 (1 : Int32) v6 (v7 + (1 : Int32)))
set_option maxHeartbeats 4000000 in
set_option maxRecDepth 100000 in
theorem bX7_twoTurns_112_t {p : Program} {l : Launch} {e : Env} {s : State} {m : MethodId} {args : Array Value} {below : List Frame} {meth : Method} {c : Code} {D : va_G} {cA : Nat → ClassId} {ad : Nat → Nat} {K13 : vS → Int32 → Int32 → Int32 → Int32 → Option (Int32 × vS)}  (C0 : Cx D vwCl tlM shM cA ad ExM RX7 cX7_twoTurns 9 (some .int) p s m args meth c)  (S : vS) (v1 : Int32) (v2 : Int32) (v3 : Int32) (v4 : Int32) (v6 : Int32) (v7 : Int32) (hK13 : ∀ (S : vS) (v4 : Int32) (v5 : Int32) (v6 : Int32) (v7 : Int32) (ls : Array Slot), lv_has ls 9 [(0, .ref (ad 0)), (1, .int v1), (2, .int v2), (3, .int v3), (4, .int v4), (5, .int v5), (6, .int v6), (7, .int v7)] → SW p l e rm_X7_twoTurns s m args below meth c D vwCl shM cA ad (Fq D vwCl shM cA ad below args s (fun q => some (.int q.1) : (Int32 × vS) → Option Value) (fun q => q.2) (fun _ => True)) (K13 S v4 v5 v6 v7) S 13 ls []) (ls : Array Slot) (hl : lv_has ls 9 [(0, .ref (ad 0)), (1, .int v1), (2, .int v2), (3, .int v3), (4, .int v4), (6, .int v6), (7, .int v7)]) : SW p l e rm_X7_twoTurns s m args below meth c D vwCl shM cA ad (Fq D vwCl shM cA ad below args s (fun q => some (.int q.1) : (Int32 × vS) → Option Value) (fun q => q.2) (fun _ => True)) (bX7_twoTurns_112 K13 S v1 v2 v3 v4 v6 v7) S 112 ls [] := by
  rw [bX7_twoTurns_112]
  refine sx_iconst (v := 1) C0 dX7_twoTurns_112 (by decide) ?_
  refine sx_istore (lv' := [(5, .int (1 : Int32)), (0, .ref (ad 0)), (1, .int v1), (2, .int v2), (3, .int v3), (4, .int v4), (6, .int v6), (7, .int v7)]) C0 dX7_twoTurns_113 hl (by decide) rfl (fun ls hl => ?_)
  refine sx_iinc (v := (v7 + (1 : Int32))) (lv' := [(7, .int (v7 + (1 : Int32))), (5, .int (1 : Int32)), (0, .ref (ad 0)), (1, .int v1), (2, .int v2), (3, .int v3), (4, .int v4), (6, .int v6)]) C0 dX7_twoTurns_115 hl (k := 7) rfl rfl (by decide) rfl (fun ls hl => ?_)
  refine sx_goto (tgt := 13) C0 dX7_twoTurns_118 (by decide) ?_
  exact hK13 _ _ _ _ _ _ (lv_sub hl [2, 3, 4, 5, 6, 1, 7, 0] rfl)
def bX7_twoTurns_104   (K13 : vS → Int32 → Int32 → Int32 → Int32 → Option (Int32 × vS)) (S : vS) (v1 : Int32) (v2 : Int32) (v3 : Int32) (v7 : Int32) (v8 : Int32)  : Option (Int32 × vS) := (bX7_twoTurns_112 K13 S v1 v2 v3 v8 v7 v7)
set_option maxHeartbeats 4000000 in
set_option maxRecDepth 100000 in
theorem bX7_twoTurns_104_t {p : Program} {l : Launch} {e : Env} {s : State} {m : MethodId} {args : Array Value} {below : List Frame} {meth : Method} {c : Code} {D : va_G} {cA : Nat → ClassId} {ad : Nat → Nat} {K13 : vS → Int32 → Int32 → Int32 → Int32 → Option (Int32 × vS)}  (C0 : Cx D vwCl tlM shM cA ad ExM RX7 cX7_twoTurns 9 (some .int) p s m args meth c)  (S : vS) (v1 : Int32) (v2 : Int32) (v3 : Int32) (v7 : Int32) (v8 : Int32) (hK13 : ∀ (S : vS) (v4 : Int32) (v5 : Int32) (v6 : Int32) (v7 : Int32) (ls : Array Slot), lv_has ls 9 [(0, .ref (ad 0)), (1, .int v1), (2, .int v2), (3, .int v3), (4, .int v4), (5, .int v5), (6, .int v6), (7, .int v7)] → SW p l e rm_X7_twoTurns s m args below meth c D vwCl shM cA ad (Fq D vwCl shM cA ad below args s (fun q => some (.int q.1) : (Int32 × vS) → Option Value) (fun q => q.2) (fun _ => True)) (K13 S v4 v5 v6 v7) S 13 ls []) (ls : Array Slot) (hl : lv_has ls 9 [(0, .ref (ad 0)), (1, .int v1), (2, .int v2), (3, .int v3), (7, .int v7), (8, .int v8)]) : SW p l e rm_X7_twoTurns s m args below meth c D vwCl shM cA ad (Fq D vwCl shM cA ad below args s (fun q => some (.int q.1) : (Int32 × vS) → Option Value) (fun q => q.2) (fun _ => True)) (bX7_twoTurns_104 K13 S v1 v2 v3 v7 v8) S 104 ls [] := by
  rw [bX7_twoTurns_104]
  refine sx_iload C0 dX7_twoTurns_104 (lv_at hl 5 rfl) ?_
  refine sx_istore (lv' := [(4, .int v8), (0, .ref (ad 0)), (1, .int v1), (2, .int v2), (3, .int v3), (7, .int v7), (8, .int v8)]) C0 dX7_twoTurns_106 hl (by decide) rfl (fun ls hl => ?_)
  refine sx_iload C0 dX7_twoTurns_108 (lv_at hl 5 rfl) ?_
  refine sx_istore (lv' := [(6, .int v7), (4, .int v8), (0, .ref (ad 0)), (1, .int v1), (2, .int v2), (3, .int v3), (7, .int v7), (8, .int v8)]) C0 dX7_twoTurns_110 hl (by decide) rfl (fun ls hl => ?_)
  exact bX7_twoTurns_112_t C0 _ _ _ _ _ _ _ hK13 _ (lv_sub hl [2, 3, 4, 5, 1, 0, 6] rfl)
def bX7_twoTurns_72   (K13 : vS → Int32 → Int32 → Int32 → Int32 → Option (Int32 × vS)) (S : vS) (v1 : Int32) (v2 : Int32) (v3 : Int32) (v4 : Int32) (v5 : Int32) (v6 : Int32) (v7 : Int32) (t0 : Int32) (t1 : Int32) (t2 : Int32) (t4 : Int32) : Option (Int32 × vS) := ((mX7_lastTurn S t2 t1 t0).bind fun q72 => (lt (t4 + q72.1) fun v8_76 => (if v5 = 0 then (bX7_twoTurns_104 K13 q72.2 v1 v2 v3 v7 v8_76) else (if v3 = 0 then (if v4 ≤ v8_76 then (bX7_twoTurns_112 K13 q72.2 v1 v2 v3 v4 v6 v7) else (bX7_twoTurns_104 K13 q72.2 v1 v2 v3 v7 v8_76)) else (if v8_76 ≤ v4 then (bX7_twoTurns_112 K13 q72.2 v1 v2 v3 v4 v6 v7) else (bX7_twoTurns_104 K13 q72.2 v1 v2 v3 v7 v8_76))))))
set_option maxHeartbeats 4000000 in
set_option maxRecDepth 100000 in
theorem bX7_twoTurns_72_t {p : Program} {l : Launch} {e : Env} {s : State} {m : MethodId} {args : Array Value} {below : List Frame} {meth : Method} {c : Code} {D : va_G} {cA : Nat → ClassId} {ad : Nat → Nat} {K13 : vS → Int32 → Int32 → Int32 → Int32 → Option (Int32 × vS)}  (C0 : Cx D vwCl tlM shM cA ad ExM RX7 cX7_twoTurns 9 (some .int) p s m args meth c)  (S : vS) (v1 : Int32) (v2 : Int32) (v3 : Int32) (v4 : Int32) (v5 : Int32) (v6 : Int32) (v7 : Int32) (t0 : Int32) (t1 : Int32) (t2 : Int32) (t4 : Int32) (hK13 : ∀ (S : vS) (v4 : Int32) (v5 : Int32) (v6 : Int32) (v7 : Int32) (ls : Array Slot), lv_has ls 9 [(0, .ref (ad 0)), (1, .int v1), (2, .int v2), (3, .int v3), (4, .int v4), (5, .int v5), (6, .int v6), (7, .int v7)] → SW p l e rm_X7_twoTurns s m args below meth c D vwCl shM cA ad (Fq D vwCl shM cA ad below args s (fun q => some (.int q.1) : (Int32 × vS) → Option Value) (fun q => q.2) (fun _ => True)) (K13 S v4 v5 v6 v7) S 13 ls []) (ls : Array Slot) (hl : lv_has ls 9 [(0, .ref (ad 0)), (1, .int v1), (2, .int v2), (3, .int v3), (4, .int v4), (5, .int v5), (6, .int v6), (7, .int v7)]) : SW p l e rm_X7_twoTurns s m args below meth c D vwCl shM cA ad (Fq D vwCl shM cA ad below args s (fun q => some (.int q.1) : (Int32 × vS) → Option Value) (fun q => q.2) (fun _ => True)) (bX7_twoTurns_72 K13 S v1 v2 v3 v4 v5 v6 v7 t0 t1 t2 t4) S 72 ls [.int t0, .int t1, .int t2, .ref (ad 0), .int t4] := by
  rw [bX7_twoTurns_72]
  refine sw_bind (fun q72 e72 => ?_)
  refine cv_X7_286 (As := [.int t2, .int t1, .int t0]) C0 (c_X7_lastTurn C0.2.2.2.2.2.2.2.1 t2 t1 t0 S _ e72) is7 ⟨rfl, rfl⟩ ⟨Nat.le_of_ble_eq_true rfl, Nat.le_of_ble_eq_true rfl⟩ rfl hl.1 (Nat.le_of_ble_eq_true rfl) rfl dX7_twoTurns_72 (fun _ => ?_)
  refine sx_iadd C0 dX7_twoTurns_75 ?_
  refine sw_lt (val := .int) (fun v8_76 => ?_)
  refine sx_istore (lv' := [(8, .int v8_76), (0, .ref (ad 0)), (1, .int v1), (2, .int v2), (3, .int v3), (4, .int v4), (5, .int v5), (6, .int v6), (7, .int v7)]) C0 dX7_twoTurns_76 hl (by decide) rfl (fun ls hl => ?_)
  refine sx_iload C0 dX7_twoTurns_78 (lv_at hl 6 rfl) ?_
  refine sx_if_eq (tgt := 104) C0 dX7_twoTurns_80 (by decide) (fun _ => ?_) (fun _ => ?_)
  · exact bX7_twoTurns_104_t C0 _ _ _ _ _ _ hK13 _ (lv_sub hl [1, 2, 3, 4, 8, 0] rfl)
  · refine sx_iload_n C0 dX7_twoTurns_83 rfl (lv_at hl 4 rfl) ?_
    refine sx_if_eq (tgt := 97) C0 dX7_twoTurns_84 (by decide) (fun _ => ?_) (fun _ => ?_)
    · refine sx_iload C0 dX7_twoTurns_97 (lv_at hl 0 rfl) ?_
      refine sx_iload C0 dX7_twoTurns_99 (lv_at hl 5 rfl) ?_
      refine sx_icmp_ge (tgt := 112) C0 dX7_twoTurns_101 (by decide) (fun _ => ?_) (fun _ => ?_)
      · exact bX7_twoTurns_112_t C0 _ _ _ _ _ _ _ hK13 _ (lv_sub hl [1, 2, 3, 4, 5, 7, 8] rfl)
      · exact bX7_twoTurns_104_t C0 _ _ _ _ _ _ hK13 _ (lv_sub hl [1, 2, 3, 4, 8, 0] rfl)
    · refine sx_iload C0 dX7_twoTurns_87 (lv_at hl 0 rfl) ?_
      refine sx_iload C0 dX7_twoTurns_89 (lv_at hl 5 rfl) ?_
      refine sx_icmp_le (tgt := 112) C0 dX7_twoTurns_91 (by decide) (fun _ => ?_) (fun _ => ?_)
      · exact bX7_twoTurns_112_t C0 _ _ _ _ _ _ _ hK13 _ (lv_sub hl [1, 2, 3, 4, 5, 7, 8] rfl)
      · refine sx_goto (tgt := 104) C0 dX7_twoTurns_94 (by decide) ?_
        exact bX7_twoTurns_104_t C0 _ _ _ _ _ _ hK13 _ (lv_sub hl [1, 2, 3, 4, 8, 0] rfl)
def bX7_twoTurns_121    (S : vS) (v4 : Int32) (v6 : Int32)  : Option (Int32 × vS) := (lt (wI S 0 36 v6) fun S124 => (some (v4, S124)))
set_option maxHeartbeats 4000000 in
set_option maxRecDepth 100000 in
theorem bX7_twoTurns_121_t {p : Program} {l : Launch} {e : Env} {s : State} {m : MethodId} {args : Array Value} {below : List Frame} {meth : Method} {c : Code} {D : va_G} {cA : Nat → ClassId} {ad : Nat → Nat}   (C0 : Cx D vwCl tlM shM cA ad ExM RX7 cX7_twoTurns 9 (some .int) p s m args meth c)  (S : vS) (v4 : Int32) (v6 : Int32) (ls : Array Slot) (hl : lv_has ls 9 [(0, .ref (ad 0)), (4, .int v4), (6, .int v6)]) : SW p l e rm_X7_twoTurns s m args below meth c D vwCl shM cA ad (Fq D vwCl shM cA ad below args s (fun q => some (.int q.1) : (Int32 × vS) → Option Value) (fun q => q.2) (fun _ => True)) (bX7_twoTurns_121 S v4 v6) S 121 ls [] := by
  rw [bX7_twoTurns_121]
  refine sx_aload_n C0 dX7_twoTurns_121 rfl (lv_at hl 0 rfl) ?_
  refine sx_iload C0 dX7_twoTurns_122 (lv_at hl 2 rfl) ?_
  refine pf_X7_280 C0 is7 dX7_twoTurns_124 (fun S124 => ?_)
  refine sx_iload C0 dX7_twoTurns_127 (lv_at hl 1 rfl) ?_
  exact sx_iret C0 rfl rfl trivial dX7_twoTurns_129
def lX7_twoTurns_13    (v1 : Int32) (v2 : Int32) (v3 : Int32) : Nat → vS → Int32 → Int32 → Int32 → Int32 → Option (Int32 × vS)
  | 0, _, _, _, _, _ => none
  | n + 1, S, v4, v5, v6, v7 => (if (12 : Int32) < v7 then (bX7_twoTurns_121 S v4 v6) else ((mX7_copyValley S v1 (v1 + (1 : Int32))).bind fun S25 => (if (mX7_isNumber S25 v7) = 0 then ((lX7_twoTurns_13 v1 v2 v3 n) S25 v4 v5 v6 (v7 + (1 : Int32))) else ((mX7_goes S25 (v1 + (1 : Int32)) v7).bind fun q43 => (if q43.1 = 0 then ((lX7_twoTurns_13 v1 v2 v3 n) q43.2 v4 v5 v6 (v7 + (1 : Int32))) else ((mX7_sentOf q43.2 v2).bind fun a51 => (if v3 = 0 then (bX7_twoTurns_72 (lX7_twoTurns_13 v1 v2 v3 n) q43.2 v1 v2 v3 v4 v5 v6 v7 (1 : Int32) v2 (v1 + (1 : Int32)) a51) else (bX7_twoTurns_72 (lX7_twoTurns_13 v1 v2 v3 n) q43.2 v1 v2 v3 v4 v5 v6 v7 (0 : Int32) v2 (v1 + (1 : Int32)) a51))))))))
set_option maxHeartbeats 4000000 in
set_option maxRecDepth 100000 in
theorem lX7_twoTurns_13_t {p : Program} {l : Launch} {e : Env} {s : State} {m : MethodId} {args : Array Value} {below : List Frame} {meth : Method} {c : Code} {D : va_G} {cA : Nat → ClassId} {ad : Nat → Nat}   (C0 : Cx D vwCl tlM shM cA ad ExM RX7 cX7_twoTurns 9 (some .int) p s m args meth c)   (v1 : Int32) (v2 : Int32) (v3 : Int32)  : ∀ (n : Nat) (S : vS) (v4 : Int32) (v5 : Int32) (v6 : Int32) (v7 : Int32) (ls : Array Slot), lv_has ls 9 [(0, .ref (ad 0)), (1, .int v1), (2, .int v2), (3, .int v3), (4, .int v4), (5, .int v5), (6, .int v6), (7, .int v7)] → SW p l e rm_X7_twoTurns s m args below meth c D vwCl shM cA ad (Fq D vwCl shM cA ad below args s (fun q => some (.int q.1) : (Int32 × vS) → Option Value) (fun q => q.2) (fun _ => True)) (lX7_twoTurns_13 v1 v2 v3 n S v4 v5 v6 v7) S 13 ls [] := by
  intro n
  induction n with
  | zero =>
    intro S v4 v5 v6 v7 ls hl
    rw [lX7_twoTurns_13]
    exact sw_none
  | succ n ih =>
    intro S v4 v5 v6 v7 ls hl
    rw [lX7_twoTurns_13]
    refine sx_iload C0 dX7_twoTurns_13 (lv_at hl 7 rfl) ?_
    refine sx_bipush (v := 12) C0 dX7_twoTurns_15 (by decide) ?_
    refine sx_icmp_gt (tgt := 121) C0 dX7_twoTurns_17 (by decide) (fun _ => ?_) (fun _ => ?_)
    · exact bX7_twoTurns_121_t C0 _ _ _ _ (lv_sub hl [0, 4, 6] rfl)
    · refine sx_aload_n C0 dX7_twoTurns_20 rfl (lv_at hl 0 rfl) ?_
      refine sx_iload_n C0 dX7_twoTurns_21 rfl (lv_at hl 1 rfl) ?_
      refine sx_iload_n C0 dX7_twoTurns_22 rfl (lv_at hl 1 rfl) ?_
      refine sx_iconst (v := 1) C0 dX7_twoTurns_23 (by decide) ?_
      refine sx_iadd C0 dX7_twoTurns_24 ?_
      refine sw_bind (fun S25 e25 => ?_)
      refine cv_X7_233 (As := [.int v1, .int (v1 + (1 : Int32))]) C0 (c_X7_copyValley C0.2.2.2.2.2.2.2.1 v1 (v1 + (1 : Int32)) S _ e25) is7 ⟨rfl, rfl⟩ ⟨Nat.le_of_ble_eq_true rfl, Nat.le_of_ble_eq_true rfl⟩ rfl hl.1 (Nat.le_of_ble_eq_true rfl) rfl dX7_twoTurns_25 (fun _ => ?_)
      refine sx_aload_n C0 dX7_twoTurns_28 rfl (lv_at hl 0 rfl) ?_
      refine sx_iload C0 dX7_twoTurns_29 (lv_at hl 7 rfl) ?_
      refine cv_X7_217 (As := [.int v7]) C0 (c_X7_isNumber C0.2.2.2.2.2.2.2.1 v7 S25) is7 ⟨rfl, rfl⟩ ⟨Nat.le_of_ble_eq_true rfl, Nat.le_of_ble_eq_true rfl⟩ rfl hl.1 (Nat.le_of_ble_eq_true rfl) rfl dX7_twoTurns_31 (fun hb31 => ?_)
      refine sx_if_eq (tgt := 115) C0 dX7_twoTurns_34 (by decide) (fun _ => ?_) (fun _ => ?_)
      · refine sx_iinc (v := (v7 + (1 : Int32))) (lv' := [(7, .int (v7 + (1 : Int32))), (0, .ref (ad 0)), (1, .int v1), (2, .int v2), (3, .int v3), (4, .int v4), (5, .int v5), (6, .int v6)]) C0 dX7_twoTurns_115 hl (k := 7) rfl rfl (by decide) rfl (fun ls hl => ?_)
        refine sx_goto (tgt := 13) C0 dX7_twoTurns_118 (by decide) ?_
        exact ih _ _ _ _ _ _ (lv_sub hl [1, 2, 3, 4, 5, 6, 7, 0] rfl)
      · refine sx_aload_n C0 dX7_twoTurns_37 rfl (lv_at hl 0 rfl) ?_
        refine sx_iload_n C0 dX7_twoTurns_38 rfl (lv_at hl 1 rfl) ?_
        refine sx_iconst (v := 1) C0 dX7_twoTurns_39 (by decide) ?_
        refine sx_iadd C0 dX7_twoTurns_40 ?_
        refine sx_iload C0 dX7_twoTurns_41 (lv_at hl 7 rfl) ?_
        refine sw_bind (fun q43 e43 => ?_)
        refine cv_X7_214 (As := [.int (v1 + (1 : Int32)), .int v7]) C0 (c_X7_goes C0.2.2.2.2.2.2.2.1 (v1 + (1 : Int32)) v7 S25 _ e43) is7 ⟨rfl, rfl⟩ ⟨Nat.le_of_ble_eq_true rfl, Nat.le_of_ble_eq_true rfl⟩ rfl hl.1 (Nat.le_of_ble_eq_true rfl) rfl dX7_twoTurns_43 (fun hb43 => ?_)
        refine sx_if_eq (tgt := 115) C0 dX7_twoTurns_46 (by decide) (fun _ => ?_) (fun _ => ?_)
        · refine sx_iinc (v := (v7 + (1 : Int32))) (lv' := [(7, .int (v7 + (1 : Int32))), (0, .ref (ad 0)), (1, .int v1), (2, .int v2), (3, .int v3), (4, .int v4), (5, .int v5), (6, .int v6)]) C0 dX7_twoTurns_115 hl (k := 7) rfl rfl (by decide) rfl (fun ls hl => ?_)
          refine sx_goto (tgt := 13) C0 dX7_twoTurns_118 (by decide) ?_
          exact ih _ _ _ _ _ _ (lv_sub hl [1, 2, 3, 4, 5, 6, 7, 0] rfl)
        · refine sx_aload_n C0 dX7_twoTurns_49 rfl (lv_at hl 0 rfl) ?_
          refine sx_iload_n C0 dX7_twoTurns_50 rfl (lv_at hl 2 rfl) ?_
          refine sw_bind (fun a51 e51 => ?_)
          refine cv_X7_283 (As := [.int v2]) C0 (c_X7_sentOf C0.2.2.2.2.2.2.2.1 v2 q43.2 _ e51) is7 ⟨rfl, rfl⟩ ⟨Nat.le_of_ble_eq_true rfl, Nat.le_of_ble_eq_true rfl⟩ rfl hl.1 (Nat.le_of_ble_eq_true rfl) rfl dX7_twoTurns_51 (fun _ => ?_)
          refine sx_istore (lv' := [(8, .int a51), (0, .ref (ad 0)), (1, .int v1), (2, .int v2), (3, .int v3), (4, .int v4), (5, .int v5), (6, .int v6), (7, .int v7)]) C0 dX7_twoTurns_54 hl (by decide) rfl (fun ls hl => ?_)
          refine sx_iload C0 dX7_twoTurns_56 (lv_at hl 0 rfl) ?_
          refine sx_aload_n C0 dX7_twoTurns_58 rfl (lv_at hl 1 rfl) ?_
          refine sx_iload_n C0 dX7_twoTurns_59 rfl (lv_at hl 2 rfl) ?_
          refine sx_iconst (v := 1) C0 dX7_twoTurns_60 (by decide) ?_
          refine sx_iadd C0 dX7_twoTurns_61 ?_
          refine sx_iload_n C0 dX7_twoTurns_62 rfl (lv_at hl 3 rfl) ?_
          refine sx_iload_n C0 dX7_twoTurns_63 rfl (lv_at hl 4 rfl) ?_
          refine sx_if_ne (tgt := 71) C0 dX7_twoTurns_64 (by decide) (fun _ => ?_) (fun _ => ?_)
          · refine sx_iconst (v := 1) C0 dX7_twoTurns_67 (by decide) ?_
            refine sx_goto (tgt := 72) C0 dX7_twoTurns_68 (by decide) ?_
            exact bX7_twoTurns_72_t C0 _ _ _ _ _ _ _ _ _ _ _ _ ih _ (lv_sub hl [1, 2, 3, 4, 5, 6, 7, 8] rfl)
          · refine sx_iconst (v := 0) C0 dX7_twoTurns_71 (by decide) ?_
            exact bX7_twoTurns_72_t C0 _ _ _ _ _ _ _ _ _ _ _ _ ih _ (lv_sub hl [1, 2, 3, 4, 5, 6, 7, 8] rfl)
def mX7_twoTurns (S : vS) (v1 : Int32) (v2 : Int32) (v3 : Int32) : Option (Int32 × vS) := (lX7_twoTurns_13 v1 v2 v3 FU S (0 : Int32) (0 : Int32) (12 : Int32) (0 : Int32))
set_option maxHeartbeats 4000000 in
set_option maxRecDepth 100000 in
theorem c_X7_twoTurns {l : Launch} {D : va_G} {cA : Nat → ClassId} {ad : Nat → Nat} (G : Gx shM ad ExM) (v1 : Int32) (v2 : Int32) (v3 : Int32) (S : vS) (r : (Int32 × vS)) (hr : (mX7_twoTurns S v1 v2 v3) = some r) : Met l yX7_twoTurns (Cond.code yX7_twoTurns cX7_twoTurns 9 (some .int) :: ALL) rm_X7_twoTurns (Po D vwCl tlM shM cA ad ExM [.ref (ad 0), .int v1, .int v2, .int v3] S) (Qo D vwCl shM cA ad (some (.int r.1)) r.2 True) 0 0 (aw shM ad) := by
  refine Met.sx (M := (mX7_twoTurns S v1 v2 v3)) (rv := (fun q => some (.int q.1) : (Int32 × vS) → Option Value)) (rs := fun q => q.2) (B := fun _ => True) (by decide) ⟨rfl, rfl⟩ (Nat.le_of_ble_eq_true rfl) G (fun p e s m args below meth c C0 ls hl => ?_) hr
  have hl : lv_has ls 9 [(0, .ref (ad 0)), (1, .int v1), (2, .int v2), (3, .int v3)] := hl
  rw [mX7_twoTurns]
  refine sx_iconst (v := 0) C0 dX7_twoTurns_0 (by decide) ?_
  refine sx_istore (lv' := [(4, .int (0 : Int32)), (0, .ref (ad 0)), (1, .int v1), (2, .int v2), (3, .int v3)]) C0 dX7_twoTurns_1 hl (by decide) rfl (fun ls hl => ?_)
  refine sx_iconst (v := 0) C0 dX7_twoTurns_3 (by decide) ?_
  refine sx_istore (lv' := [(5, .int (0 : Int32)), (4, .int (0 : Int32)), (0, .ref (ad 0)), (1, .int v1), (2, .int v2), (3, .int v3)]) C0 dX7_twoTurns_4 hl (by decide) rfl (fun ls hl => ?_)
  refine sx_bipush (v := 12) C0 dX7_twoTurns_6 (by decide) ?_
  refine sx_istore (lv' := [(6, .int (12 : Int32)), (5, .int (0 : Int32)), (4, .int (0 : Int32)), (0, .ref (ad 0)), (1, .int v1), (2, .int v2), (3, .int v3)]) C0 dX7_twoTurns_8 hl (by decide) rfl (fun ls hl => ?_)
  refine sx_iconst (v := 0) C0 dX7_twoTurns_10 (by decide) ?_
  refine sx_istore (lv' := [(7, .int (0 : Int32)), (6, .int (12 : Int32)), (5, .int (0 : Int32)), (4, .int (0 : Int32)), (0, .ref (ad 0)), (1, .int v1), (2, .int v2), (3, .int v3)]) C0 dX7_twoTurns_11 hl (by decide) rfl (fun ls hl => ?_)
  exact lX7_twoTurns_13_t C0 _ _ _ _ _ _ _ _ _ _ (lv_sub hl [4, 5, 6, 7, 3, 2, 1, 0] rfl)
abbrev rm_X7_threeTurns : Room := { frames := 9, cells := 0, slots := 0, locals := 213 }
def bX7_threeTurns_96    (S : vS) (v3 : Int32) (v5 : Int32)  : Option (Int32 × vS) := (lt (wI S 0 36 v5) fun S99 => (some (v3, S99)))
set_option maxHeartbeats 4000000 in
set_option maxRecDepth 100000 in
theorem bX7_threeTurns_96_t {p : Program} {l : Launch} {e : Env} {s : State} {m : MethodId} {args : Array Value} {below : List Frame} {meth : Method} {c : Code} {D : va_G} {cA : Nat → ClassId} {ad : Nat → Nat}   (C0 : Cx D vwCl tlM shM cA ad ExM RX7 cX7_threeTurns 8 (some .int) p s m args meth c)  (S : vS) (v3 : Int32) (v5 : Int32) (ls : Array Slot) (hl : lv_has ls 8 [(0, .ref (ad 0)), (3, .int v3), (5, .int v5)]) : SW p l e rm_X7_threeTurns s m args below meth c D vwCl shM cA ad (Fq D vwCl shM cA ad below args s (fun q => some (.int q.1) : (Int32 × vS) → Option Value) (fun q => q.2) (fun _ => True)) (bX7_threeTurns_96 S v3 v5) S 96 ls [] := by
  rw [bX7_threeTurns_96]
  refine sx_aload_n C0 dX7_threeTurns_96 rfl (lv_at hl 0 rfl) ?_
  refine sx_iload C0 dX7_threeTurns_97 (lv_at hl 2 rfl) ?_
  refine pf_X7_280 C0 is7 dX7_threeTurns_99 (fun S99 => ?_)
  refine sx_iload_n C0 dX7_threeTurns_102 rfl (lv_at hl 1 rfl) ?_
  exact sx_iret C0 rfl rfl trivial dX7_threeTurns_103
def bX7_threeTurns_87   (K12 : vS → Int32 → Int32 → Int32 → Int32 → Option (Int32 × vS)) (S : vS) (v1 : Int32) (v2 : Int32) (v3 : Int32) (v5 : Int32) (v6 : Int32)  : Option (Int32 × vS) := (K12 S v3 (1 : Int32) v5 (v6 + (1 : Int32)))
set_option maxHeartbeats 4000000 in
set_option maxRecDepth 100000 in
theorem bX7_threeTurns_87_t {p : Program} {l : Launch} {e : Env} {s : State} {m : MethodId} {args : Array Value} {below : List Frame} {meth : Method} {c : Code} {D : va_G} {cA : Nat → ClassId} {ad : Nat → Nat} {K12 : vS → Int32 → Int32 → Int32 → Int32 → Option (Int32 × vS)}  (C0 : Cx D vwCl tlM shM cA ad ExM RX7 cX7_threeTurns 8 (some .int) p s m args meth c)  (S : vS) (v1 : Int32) (v2 : Int32) (v3 : Int32) (v5 : Int32) (v6 : Int32) (hK12 : ∀ (S : vS) (v3 : Int32) (v4 : Int32) (v5 : Int32) (v6 : Int32) (ls : Array Slot), lv_has ls 8 [(0, .ref (ad 0)), (1, .int v1), (2, .int v2), (3, .int v3), (4, .int v4), (5, .int v5), (6, .int v6)] → SW p l e rm_X7_threeTurns s m args below meth c D vwCl shM cA ad (Fq D vwCl shM cA ad below args s (fun q => some (.int q.1) : (Int32 × vS) → Option Value) (fun q => q.2) (fun _ => True)) (K12 S v3 v4 v5 v6) S 12 ls []) (ls : Array Slot) (hl : lv_has ls 8 [(0, .ref (ad 0)), (1, .int v1), (2, .int v2), (3, .int v3), (5, .int v5), (6, .int v6)]) : SW p l e rm_X7_threeTurns s m args below meth c D vwCl shM cA ad (Fq D vwCl shM cA ad below args s (fun q => some (.int q.1) : (Int32 × vS) → Option Value) (fun q => q.2) (fun _ => True)) (bX7_threeTurns_87 K12 S v1 v2 v3 v5 v6) S 87 ls [] := by
  rw [bX7_threeTurns_87]
  refine sx_iconst (v := 1) C0 dX7_threeTurns_87 (by decide) ?_
  refine sx_istore (lv' := [(4, .int (1 : Int32)), (0, .ref (ad 0)), (1, .int v1), (2, .int v2), (3, .int v3), (5, .int v5), (6, .int v6)]) C0 dX7_threeTurns_88 hl (by decide) rfl (fun ls hl => ?_)
  refine sx_iinc (v := (v6 + (1 : Int32))) (lv' := [(6, .int (v6 + (1 : Int32))), (4, .int (1 : Int32)), (0, .ref (ad 0)), (1, .int v1), (2, .int v2), (3, .int v3), (5, .int v5)]) C0 dX7_threeTurns_90 hl (k := 6) rfl rfl (by decide) rfl (fun ls hl => ?_)
  refine sx_goto (tgt := 12) C0 dX7_threeTurns_93 (by decide) ?_
  exact hK12 _ _ _ _ _ _ (lv_sub hl [2, 3, 4, 5, 1, 6, 0] rfl)
def bX7_threeTurns_80   (K12 : vS → Int32 → Int32 → Int32 → Int32 → Option (Int32 × vS)) (S : vS) (v1 : Int32) (v2 : Int32) (v6 : Int32) (v7 : Int32)  : Option (Int32 × vS) := (bX7_threeTurns_87 K12 S v1 v2 v7 v6 v6)
set_option maxHeartbeats 4000000 in
set_option maxRecDepth 100000 in
theorem bX7_threeTurns_80_t {p : Program} {l : Launch} {e : Env} {s : State} {m : MethodId} {args : Array Value} {below : List Frame} {meth : Method} {c : Code} {D : va_G} {cA : Nat → ClassId} {ad : Nat → Nat} {K12 : vS → Int32 → Int32 → Int32 → Int32 → Option (Int32 × vS)}  (C0 : Cx D vwCl tlM shM cA ad ExM RX7 cX7_threeTurns 8 (some .int) p s m args meth c)  (S : vS) (v1 : Int32) (v2 : Int32) (v6 : Int32) (v7 : Int32) (hK12 : ∀ (S : vS) (v3 : Int32) (v4 : Int32) (v5 : Int32) (v6 : Int32) (ls : Array Slot), lv_has ls 8 [(0, .ref (ad 0)), (1, .int v1), (2, .int v2), (3, .int v3), (4, .int v4), (5, .int v5), (6, .int v6)] → SW p l e rm_X7_threeTurns s m args below meth c D vwCl shM cA ad (Fq D vwCl shM cA ad below args s (fun q => some (.int q.1) : (Int32 × vS) → Option Value) (fun q => q.2) (fun _ => True)) (K12 S v3 v4 v5 v6) S 12 ls []) (ls : Array Slot) (hl : lv_has ls 8 [(0, .ref (ad 0)), (1, .int v1), (2, .int v2), (6, .int v6), (7, .int v7)]) : SW p l e rm_X7_threeTurns s m args below meth c D vwCl shM cA ad (Fq D vwCl shM cA ad below args s (fun q => some (.int q.1) : (Int32 × vS) → Option Value) (fun q => q.2) (fun _ => True)) (bX7_threeTurns_80 K12 S v1 v2 v6 v7) S 80 ls [] := by
  rw [bX7_threeTurns_80]
  refine sx_iload C0 dX7_threeTurns_80 (lv_at hl 4 rfl) ?_
  refine sx_istore_n (lv' := [(3, .int v7), (0, .ref (ad 0)), (1, .int v1), (2, .int v2), (6, .int v6), (7, .int v7)]) C0 dX7_threeTurns_82 rfl hl (by decide) rfl (fun ls hl => ?_)
  refine sx_iload C0 dX7_threeTurns_83 (lv_at hl 4 rfl) ?_
  refine sx_istore (lv' := [(5, .int v6), (3, .int v7), (0, .ref (ad 0)), (1, .int v1), (2, .int v2), (6, .int v6), (7, .int v7)]) C0 dX7_threeTurns_85 hl (by decide) rfl (fun ls hl => ?_)
  exact bX7_threeTurns_87_t C0 _ _ _ _ _ _ hK12 _ (lv_sub hl [2, 3, 4, 1, 0, 5] rfl)
def lX7_threeTurns_12    (v1 : Int32) (v2 : Int32) : Nat → vS → Int32 → Int32 → Int32 → Int32 → Option (Int32 × vS)
  | 0, _, _, _, _, _ => none
  | n + 1, S, v3, v4, v5, v6 => (if (12 : Int32) < v6 then (bX7_threeTurns_96 S v3 v5) else ((mX7_copyValley S v1 (v1 + (1 : Int32))).bind fun S24 => (if (mX7_isNumber S24 v6) = 0 then ((lX7_threeTurns_12 v1 v2 n) S24 v3 v4 v5 (v6 + (1 : Int32))) else ((mX7_goes S24 (v1 + (1 : Int32)) v6).bind fun q42 => (if q42.1 = 0 then ((lX7_threeTurns_12 v1 v2 n) q42.2 v3 v4 v5 (v6 + (1 : Int32))) else ((mX7_sentOf q42.2 v2).bind fun a50 => ((mX7_twoTurns q42.2 (v1 + (1 : Int32)) v2 (0 : Int32)).bind fun q63 => (lt (a50 + q63.1) fun v7_67 => (if v4 = 0 then (bX7_threeTurns_80 (lX7_threeTurns_12 v1 v2 n) q63.2 v1 v2 v6 v7_67) else (if v7_67 ≤ v3 then (bX7_threeTurns_87 (lX7_threeTurns_12 v1 v2 n) q63.2 v1 v2 v3 v5 v6) else (bX7_threeTurns_80 (lX7_threeTurns_12 v1 v2 n) q63.2 v1 v2 v6 v7_67)))))))))))
set_option maxHeartbeats 4000000 in
set_option maxRecDepth 100000 in
theorem lX7_threeTurns_12_t {p : Program} {l : Launch} {e : Env} {s : State} {m : MethodId} {args : Array Value} {below : List Frame} {meth : Method} {c : Code} {D : va_G} {cA : Nat → ClassId} {ad : Nat → Nat}   (C0 : Cx D vwCl tlM shM cA ad ExM RX7 cX7_threeTurns 8 (some .int) p s m args meth c)   (v1 : Int32) (v2 : Int32)  : ∀ (n : Nat) (S : vS) (v3 : Int32) (v4 : Int32) (v5 : Int32) (v6 : Int32) (ls : Array Slot), lv_has ls 8 [(0, .ref (ad 0)), (1, .int v1), (2, .int v2), (3, .int v3), (4, .int v4), (5, .int v5), (6, .int v6)] → SW p l e rm_X7_threeTurns s m args below meth c D vwCl shM cA ad (Fq D vwCl shM cA ad below args s (fun q => some (.int q.1) : (Int32 × vS) → Option Value) (fun q => q.2) (fun _ => True)) (lX7_threeTurns_12 v1 v2 n S v3 v4 v5 v6) S 12 ls [] := by
  intro n
  induction n with
  | zero =>
    intro S v3 v4 v5 v6 ls hl
    rw [lX7_threeTurns_12]
    exact sw_none
  | succ n ih =>
    intro S v3 v4 v5 v6 ls hl
    rw [lX7_threeTurns_12]
    refine sx_iload C0 dX7_threeTurns_12 (lv_at hl 6 rfl) ?_
    refine sx_bipush (v := 12) C0 dX7_threeTurns_14 (by decide) ?_
    refine sx_icmp_gt (tgt := 96) C0 dX7_threeTurns_16 (by decide) (fun _ => ?_) (fun _ => ?_)
    · exact bX7_threeTurns_96_t C0 _ _ _ _ (lv_sub hl [0, 3, 5] rfl)
    · refine sx_aload_n C0 dX7_threeTurns_19 rfl (lv_at hl 0 rfl) ?_
      refine sx_iload_n C0 dX7_threeTurns_20 rfl (lv_at hl 1 rfl) ?_
      refine sx_iload_n C0 dX7_threeTurns_21 rfl (lv_at hl 1 rfl) ?_
      refine sx_iconst (v := 1) C0 dX7_threeTurns_22 (by decide) ?_
      refine sx_iadd C0 dX7_threeTurns_23 ?_
      refine sw_bind (fun S24 e24 => ?_)
      refine cv_X7_233 (As := [.int v1, .int (v1 + (1 : Int32))]) C0 (c_X7_copyValley C0.2.2.2.2.2.2.2.1 v1 (v1 + (1 : Int32)) S _ e24) is7 ⟨rfl, rfl⟩ ⟨Nat.le_of_ble_eq_true rfl, Nat.le_of_ble_eq_true rfl⟩ rfl hl.1 (Nat.le_of_ble_eq_true rfl) rfl dX7_threeTurns_24 (fun _ => ?_)
      refine sx_aload_n C0 dX7_threeTurns_27 rfl (lv_at hl 0 rfl) ?_
      refine sx_iload C0 dX7_threeTurns_28 (lv_at hl 6 rfl) ?_
      refine cv_X7_217 (As := [.int v6]) C0 (c_X7_isNumber C0.2.2.2.2.2.2.2.1 v6 S24) is7 ⟨rfl, rfl⟩ ⟨Nat.le_of_ble_eq_true rfl, Nat.le_of_ble_eq_true rfl⟩ rfl hl.1 (Nat.le_of_ble_eq_true rfl) rfl dX7_threeTurns_30 (fun hb30 => ?_)
      refine sx_if_eq (tgt := 90) C0 dX7_threeTurns_33 (by decide) (fun _ => ?_) (fun _ => ?_)
      · refine sx_iinc (v := (v6 + (1 : Int32))) (lv' := [(6, .int (v6 + (1 : Int32))), (0, .ref (ad 0)), (1, .int v1), (2, .int v2), (3, .int v3), (4, .int v4), (5, .int v5)]) C0 dX7_threeTurns_90 hl (k := 6) rfl rfl (by decide) rfl (fun ls hl => ?_)
        refine sx_goto (tgt := 12) C0 dX7_threeTurns_93 (by decide) ?_
        exact ih _ _ _ _ _ _ (lv_sub hl [1, 2, 3, 4, 5, 6, 0] rfl)
      · refine sx_aload_n C0 dX7_threeTurns_36 rfl (lv_at hl 0 rfl) ?_
        refine sx_iload_n C0 dX7_threeTurns_37 rfl (lv_at hl 1 rfl) ?_
        refine sx_iconst (v := 1) C0 dX7_threeTurns_38 (by decide) ?_
        refine sx_iadd C0 dX7_threeTurns_39 ?_
        refine sx_iload C0 dX7_threeTurns_40 (lv_at hl 6 rfl) ?_
        refine sw_bind (fun q42 e42 => ?_)
        refine cv_X7_214 (As := [.int (v1 + (1 : Int32)), .int v6]) C0 (c_X7_goes C0.2.2.2.2.2.2.2.1 (v1 + (1 : Int32)) v6 S24 _ e42) is7 ⟨rfl, rfl⟩ ⟨Nat.le_of_ble_eq_true rfl, Nat.le_of_ble_eq_true rfl⟩ rfl hl.1 (Nat.le_of_ble_eq_true rfl) rfl dX7_threeTurns_42 (fun hb42 => ?_)
        refine sx_if_eq (tgt := 90) C0 dX7_threeTurns_45 (by decide) (fun _ => ?_) (fun _ => ?_)
        · refine sx_iinc (v := (v6 + (1 : Int32))) (lv' := [(6, .int (v6 + (1 : Int32))), (0, .ref (ad 0)), (1, .int v1), (2, .int v2), (3, .int v3), (4, .int v4), (5, .int v5)]) C0 dX7_threeTurns_90 hl (k := 6) rfl rfl (by decide) rfl (fun ls hl => ?_)
          refine sx_goto (tgt := 12) C0 dX7_threeTurns_93 (by decide) ?_
          exact ih _ _ _ _ _ _ (lv_sub hl [1, 2, 3, 4, 5, 6, 0] rfl)
        · refine sx_aload_n C0 dX7_threeTurns_48 rfl (lv_at hl 0 rfl) ?_
          refine sx_iload_n C0 dX7_threeTurns_49 rfl (lv_at hl 2 rfl) ?_
          refine sw_bind (fun a50 e50 => ?_)
          refine cv_X7_283 (As := [.int v2]) C0 (c_X7_sentOf C0.2.2.2.2.2.2.2.1 v2 q42.2 _ e50) is7 ⟨rfl, rfl⟩ ⟨Nat.le_of_ble_eq_true rfl, Nat.le_of_ble_eq_true rfl⟩ rfl hl.1 (Nat.le_of_ble_eq_true rfl) rfl dX7_threeTurns_50 (fun _ => ?_)
          refine sx_istore (lv' := [(7, .int a50), (0, .ref (ad 0)), (1, .int v1), (2, .int v2), (3, .int v3), (4, .int v4), (5, .int v5), (6, .int v6)]) C0 dX7_threeTurns_53 hl (by decide) rfl (fun ls hl => ?_)
          refine sx_iload C0 dX7_threeTurns_55 (lv_at hl 0 rfl) ?_
          refine sx_aload_n C0 dX7_threeTurns_57 rfl (lv_at hl 1 rfl) ?_
          refine sx_iload_n C0 dX7_threeTurns_58 rfl (lv_at hl 2 rfl) ?_
          refine sx_iconst (v := 1) C0 dX7_threeTurns_59 (by decide) ?_
          refine sx_iadd C0 dX7_threeTurns_60 ?_
          refine sx_iload_n C0 dX7_threeTurns_61 rfl (lv_at hl 3 rfl) ?_
          refine sx_iconst (v := 0) C0 dX7_threeTurns_62 (by decide) ?_
          refine sw_bind (fun q63 e63 => ?_)
          refine cv_X7_290 (As := [.int (v1 + (1 : Int32)), .int v2, .int (0 : Int32)]) C0 (c_X7_twoTurns C0.2.2.2.2.2.2.2.1 (v1 + (1 : Int32)) v2 (0 : Int32) q42.2 _ e63) is7 ⟨rfl, rfl⟩ ⟨Nat.le_of_ble_eq_true rfl, Nat.le_of_ble_eq_true rfl⟩ rfl hl.1 (Nat.le_of_ble_eq_true rfl) rfl dX7_threeTurns_63 (fun _ => ?_)
          refine sx_iadd C0 dX7_threeTurns_66 ?_
          refine sw_lt (val := .int) (fun v7_67 => ?_)
          refine sx_istore (lv' := [(7, .int v7_67), (0, .ref (ad 0)), (1, .int v1), (2, .int v2), (3, .int v3), (4, .int v4), (5, .int v5), (6, .int v6)]) C0 dX7_threeTurns_67 hl (by decide) rfl (fun ls hl => ?_)
          refine sx_iload C0 dX7_threeTurns_69 (lv_at hl 5 rfl) ?_
          refine sx_if_eq (tgt := 80) C0 dX7_threeTurns_71 (by decide) (fun _ => ?_) (fun _ => ?_)
          · exact bX7_threeTurns_80_t C0 _ _ _ _ _ ih _ (lv_sub hl [1, 2, 3, 7, 0] rfl)
          · refine sx_iload C0 dX7_threeTurns_74 (lv_at hl 0 rfl) ?_
            refine sx_iload_n C0 dX7_threeTurns_76 rfl (lv_at hl 4 rfl) ?_
            refine sx_icmp_le (tgt := 87) C0 dX7_threeTurns_77 (by decide) (fun _ => ?_) (fun _ => ?_)
            · exact bX7_threeTurns_87_t C0 _ _ _ _ _ _ ih _ (lv_sub hl [1, 2, 3, 4, 6, 7] rfl)
            · exact bX7_threeTurns_80_t C0 _ _ _ _ _ ih _ (lv_sub hl [1, 2, 3, 7, 0] rfl)
def mX7_threeTurns (S : vS) (v1 : Int32) (v2 : Int32) : Option (Int32 × vS) := (lX7_threeTurns_12 v1 v2 FU S (0 : Int32) (0 : Int32) (12 : Int32) (0 : Int32))
set_option maxHeartbeats 4000000 in
set_option maxRecDepth 100000 in
theorem c_X7_threeTurns {l : Launch} {D : va_G} {cA : Nat → ClassId} {ad : Nat → Nat} (G : Gx shM ad ExM) (v1 : Int32) (v2 : Int32) (S : vS) (r : (Int32 × vS)) (hr : (mX7_threeTurns S v1 v2) = some r) : Met l yX7_threeTurns (Cond.code yX7_threeTurns cX7_threeTurns 8 (some .int) :: ALL) rm_X7_threeTurns (Po D vwCl tlM shM cA ad ExM [.ref (ad 0), .int v1, .int v2] S) (Qo D vwCl shM cA ad (some (.int r.1)) r.2 True) 0 0 (aw shM ad) := by
  refine Met.sx (M := (mX7_threeTurns S v1 v2)) (rv := (fun q => some (.int q.1) : (Int32 × vS) → Option Value)) (rs := fun q => q.2) (B := fun _ => True) (by decide) ⟨rfl, rfl⟩ (Nat.le_of_ble_eq_true rfl) G (fun p e s m args below meth c C0 ls hl => ?_) hr
  have hl : lv_has ls 8 [(0, .ref (ad 0)), (1, .int v1), (2, .int v2)] := hl
  rw [mX7_threeTurns]
  refine sx_iconst (v := 0) C0 dX7_threeTurns_0 (by decide) ?_
  refine sx_istore_n (lv' := [(3, .int (0 : Int32)), (0, .ref (ad 0)), (1, .int v1), (2, .int v2)]) C0 dX7_threeTurns_1 rfl hl (by decide) rfl (fun ls hl => ?_)
  refine sx_iconst (v := 0) C0 dX7_threeTurns_2 (by decide) ?_
  refine sx_istore (lv' := [(4, .int (0 : Int32)), (3, .int (0 : Int32)), (0, .ref (ad 0)), (1, .int v1), (2, .int v2)]) C0 dX7_threeTurns_3 hl (by decide) rfl (fun ls hl => ?_)
  refine sx_bipush (v := 12) C0 dX7_threeTurns_5 (by decide) ?_
  refine sx_istore (lv' := [(5, .int (12 : Int32)), (4, .int (0 : Int32)), (3, .int (0 : Int32)), (0, .ref (ad 0)), (1, .int v1), (2, .int v2)]) C0 dX7_threeTurns_7 hl (by decide) rfl (fun ls hl => ?_)
  refine sx_iconst (v := 0) C0 dX7_threeTurns_9 (by decide) ?_
  refine sx_istore (lv' := [(6, .int (0 : Int32)), (5, .int (12 : Int32)), (4, .int (0 : Int32)), (3, .int (0 : Int32)), (0, .ref (ad 0)), (1, .int v1), (2, .int v2)]) C0 dX7_threeTurns_10 hl (by decide) rfl (fun ls hl => ?_)
  exact lX7_threeTurns_12_t C0 _ _ _ _ _ _ _ _ _ (lv_sub hl [4, 5, 6, 3, 2, 1, 0] rfl)
abbrev rm_X7_turns : Room := { frames := 10, cells := 0, slots := 0, locals := 240 }
def bX7_turns_87    (S : vS)  (t0 : Int32) : Option (Int32 × vS) := (lt (mX7_whole S (S.1 0 36) (1 : Int32)) fun q94 => (lt (mX7_tells q94.2 t0 (1 : Int32)) fun q101 => (some (q101.1, q101.2))))
set_option maxHeartbeats 4000000 in
set_option maxRecDepth 100000 in
theorem bX7_turns_87_t {p : Program} {l : Launch} {e : Env} {s : State} {m : MethodId} {args : Array Value} {below : List Frame} {meth : Method} {c : Code} {D : va_G} {cA : Nat → ClassId} {ad : Nat → Nat}   (C0 : Cx D vwCl tlM shM cA ad ExM RX7 cX7_turns 4 (some .int) p s m args meth c)  (S : vS)  (t0 : Int32) (ls : Array Slot) (hl : lv_has ls 4 [(0, .ref (ad 0))]) : SW p l e rm_X7_turns s m args below meth c D vwCl shM cA ad (Fq D vwCl shM cA ad below args s (fun q => some (.int q.1) : (Int32 × vS) → Option Value) (fun q => q.2) (fun _ => True)) (bX7_turns_87 S t0) S 87 ls [.int t0] := by
  rw [bX7_turns_87]
  refine sx_istore_n (lv' := [(3, .int t0), (0, .ref (ad 0))]) C0 dX7_turns_87 rfl hl (by decide) rfl (fun ls hl => ?_)
  refine sx_aload_n C0 dX7_turns_88 rfl (lv_at hl 1 rfl) ?_
  refine sx_aload_n C0 dX7_turns_89 rfl (lv_at hl 1 rfl) ?_
  refine gf_X7_280 C0 is7 dX7_turns_90 ?_
  refine sx_iconst (v := 1) C0 dX7_turns_93 (by decide) ?_
  refine cv_X7_296 (As := [.int (S.1 0 36), .int (1 : Int32)]) C0 (c_X7_whole C0.2.2.2.2.2.2.2.1 (S.1 0 36) (1 : Int32) S) is7 ⟨rfl, rfl⟩ ⟨Nat.le_of_ble_eq_true rfl, Nat.le_of_ble_eq_true rfl⟩ rfl hl.1 (Nat.le_of_ble_eq_true rfl) rfl dX7_turns_94 (fun _ => ?_)
  refine sw_ltQ (val := .int) (fun q94 => ?_)
  refine sx_pop C0 dX7_turns_97 rfl ?_
  refine sx_aload_n C0 dX7_turns_98 rfl (lv_at hl 1 rfl) ?_
  refine sx_iload_n C0 dX7_turns_99 rfl (lv_at hl 0 rfl) ?_
  refine sx_iconst (v := 1) C0 dX7_turns_100 (by decide) ?_
  refine cv_X7_102 (As := [.int t0, .int (1 : Int32)]) C0 (c_X7_tells C0.2.2.2.2.2.2.2.1 t0 (1 : Int32) q94.2) is7 ⟨rfl, rfl⟩ ⟨Nat.le_of_ble_eq_true rfl, Nat.le_of_ble_eq_true rfl⟩ rfl hl.1 (Nat.le_of_ble_eq_true rfl) rfl dX7_turns_101 (fun _ => ?_)
  refine sw_ltQ (val := .int) (fun q101 => ?_)
  exact sx_iret C0 rfl rfl trivial dX7_turns_104
def mX7_turns (S : vS) (v1 : Int32) (v2 : Int32) : Option (Int32 × vS) := (if (mX7_in v1 (0 : Int32) (((1 : Int32) <<< ((S.1 0 10) &&& (31 : Int32))) - (1 : Int32))) = 0 then (some ((-1 : Int32), S)) else (if (mX7_in v2 (0 : Int32) (3 : Int32)) = 0 then (some ((-1 : Int32), S)) else (if (S.1 0 10) = 0 then (some ((-4 : Int32), S)) else (lt (wI S 0 36 (12 : Int32)) fun S40 => (if v2 = 0 then (bX7_turns_87 S40 (0 : Int32)) else (if v2 = (1 : Int32) then ((mX7_lastTurn S40 (0 : Int32) v1 (1 : Int32)).bind fun q60 => (bX7_turns_87 q60.2 q60.1)) else (if v2 = (2 : Int32) then ((mX7_twoTurns S40 (0 : Int32) v1 (1 : Int32)).bind fun q75 => (bX7_turns_87 q75.2 q75.1)) else ((mX7_threeTurns S40 (0 : Int32) v1).bind fun q84 => (bX7_turns_87 q84.2 q84.1)))))))))
set_option maxHeartbeats 4000000 in
set_option maxRecDepth 100000 in
theorem c_X7_turns {l : Launch} {D : va_G} {cA : Nat → ClassId} {ad : Nat → Nat} (G : Gx shM ad ExM) (v1 : Int32) (v2 : Int32) (S : vS) (r : (Int32 × vS)) (hr : (mX7_turns S v1 v2) = some r) : Met l yX7_turns (Cond.code yX7_turns cX7_turns 4 (some .int) :: ALL) rm_X7_turns (Po D vwCl tlM shM cA ad ExM [.ref (ad 0), .int v1, .int v2] S) (Qo D vwCl shM cA ad (some (.int r.1)) r.2 True) 0 0 (aw shM ad) := by
  refine Met.sx (M := (mX7_turns S v1 v2)) (rv := (fun q => some (.int q.1) : (Int32 × vS) → Option Value)) (rs := fun q => q.2) (B := fun _ => True) (by decide) ⟨rfl, rfl⟩ (Nat.le_of_ble_eq_true rfl) G (fun p e s m args below meth c C0 ls hl => ?_) hr
  have hl : lv_has ls 4 [(0, .ref (ad 0)), (1, .int v1), (2, .int v2)] := hl
  rw [mX7_turns]
  refine sx_iload_n C0 dX7_turns_0 rfl (lv_at hl 1 rfl) ?_
  refine sx_iconst (v := 0) C0 dX7_turns_1 (by decide) ?_
  refine sx_iconst (v := 1) C0 dX7_turns_2 (by decide) ?_
  refine sx_aload_n C0 dX7_turns_3 rfl (lv_at hl 0 rfl) ?_
  refine gf_X7_139 C0 is7 dX7_turns_4 ?_
  refine sx_ishl C0 dX7_turns_7 ?_
  refine sx_iconst (v := 1) C0 dX7_turns_8 (by decide) ?_
  refine sx_isub C0 dX7_turns_9 ?_
  refine cv_X7_80 (As := [.int v1, .int (0 : Int32), .int (((1 : Int32) <<< ((S.1 0 10) &&& (31 : Int32))) - (1 : Int32))]) C0 (c_X7_in C0.2.2.2.2.2.2.2.1 v1 (0 : Int32) (((1 : Int32) <<< ((S.1 0 10) &&& (31 : Int32))) - (1 : Int32)) S) ⟨rfl, rfl⟩ ⟨Nat.le_of_ble_eq_true rfl, Nat.le_of_ble_eq_true rfl⟩ rfl hl.1 (Nat.le_of_ble_eq_true rfl) rfl dX7_turns_10 (fun hb10 => ?_)
  refine sx_if_eq (tgt := 25) C0 dX7_turns_13 (by decide) (fun _ => ?_) (fun _ => ?_)
  · refine sx_iconst (v := (-1)) C0 dX7_turns_25 (by decide) ?_
    exact sx_iret C0 rfl rfl trivial dX7_turns_26
  · refine sx_iload_n C0 dX7_turns_16 rfl (lv_at hl 2 rfl) ?_
    refine sx_iconst (v := 0) C0 dX7_turns_17 (by decide) ?_
    refine sx_iconst (v := 3) C0 dX7_turns_18 (by decide) ?_
    refine cv_X7_80 (As := [.int v2, .int (0 : Int32), .int (3 : Int32)]) C0 (c_X7_in C0.2.2.2.2.2.2.2.1 v2 (0 : Int32) (3 : Int32) S) ⟨rfl, rfl⟩ ⟨Nat.le_of_ble_eq_true rfl, Nat.le_of_ble_eq_true rfl⟩ rfl hl.1 (Nat.le_of_ble_eq_true rfl) rfl dX7_turns_19 (fun hb19 => ?_)
    refine sx_if_ne (tgt := 27) C0 dX7_turns_22 (by decide) (fun _ => ?_) (fun _ => ?_)
    · refine sx_iconst (v := (-1)) C0 dX7_turns_25 (by decide) ?_
      exact sx_iret C0 rfl rfl trivial dX7_turns_26
    · refine sx_aload_n C0 dX7_turns_27 rfl (lv_at hl 0 rfl) ?_
      refine gf_X7_139 C0 is7 dX7_turns_28 ?_
      refine sx_if_ne (tgt := 37) C0 dX7_turns_31 (by decide) (fun _ => ?_) (fun _ => ?_)
      · refine sx_bipush (v := (-4)) C0 dX7_turns_34 (by decide) ?_
        exact sx_iret C0 rfl rfl trivial dX7_turns_36
      · refine sx_aload_n C0 dX7_turns_37 rfl (lv_at hl 0 rfl) ?_
        refine sx_bipush (v := 12) C0 dX7_turns_38 (by decide) ?_
        refine pf_X7_280 C0 is7 dX7_turns_40 (fun S40 => ?_)
        refine sx_iload_n C0 dX7_turns_43 rfl (lv_at hl 2 rfl) ?_
        refine sx_if_ne (tgt := 51) C0 dX7_turns_44 (by decide) (fun _ => ?_) (fun _ => ?_)
        · refine sx_iconst (v := 0) C0 dX7_turns_47 (by decide) ?_
          refine sx_goto (tgt := 87) C0 dX7_turns_48 (by decide) ?_
          exact bX7_turns_87_t C0 _ _ _ (lv_sub hl [0] rfl)
        · refine sx_iload_n C0 dX7_turns_51 rfl (lv_at hl 2 rfl) ?_
          refine sx_iconst (v := 1) C0 dX7_turns_52 (by decide) ?_
          refine sx_icmp_ne (tgt := 66) C0 dX7_turns_53 (by decide) (fun _ => ?_) (fun _ => ?_)
          · refine sx_aload_n C0 dX7_turns_56 rfl (lv_at hl 0 rfl) ?_
            refine sx_iconst (v := 0) C0 dX7_turns_57 (by decide) ?_
            refine sx_iload_n C0 dX7_turns_58 rfl (lv_at hl 1 rfl) ?_
            refine sx_iconst (v := 1) C0 dX7_turns_59 (by decide) ?_
            refine sw_bind (fun q60 e60 => ?_)
            refine cv_X7_286 (As := [.int (0 : Int32), .int v1, .int (1 : Int32)]) C0 (c_X7_lastTurn C0.2.2.2.2.2.2.2.1 (0 : Int32) v1 (1 : Int32) S40 _ e60) is7 ⟨rfl, rfl⟩ ⟨Nat.le_of_ble_eq_true rfl, Nat.le_of_ble_eq_true rfl⟩ rfl hl.1 (Nat.le_of_ble_eq_true rfl) rfl dX7_turns_60 (fun _ => ?_)
            refine sx_goto (tgt := 87) C0 dX7_turns_63 (by decide) ?_
            exact bX7_turns_87_t C0 _ _ _ (lv_sub hl [0] rfl)
          · refine sx_iload_n C0 dX7_turns_66 rfl (lv_at hl 2 rfl) ?_
            refine sx_iconst (v := 2) C0 dX7_turns_67 (by decide) ?_
            refine sx_icmp_ne (tgt := 81) C0 dX7_turns_68 (by decide) (fun _ => ?_) (fun _ => ?_)
            · refine sx_aload_n C0 dX7_turns_71 rfl (lv_at hl 0 rfl) ?_
              refine sx_iconst (v := 0) C0 dX7_turns_72 (by decide) ?_
              refine sx_iload_n C0 dX7_turns_73 rfl (lv_at hl 1 rfl) ?_
              refine sx_iconst (v := 1) C0 dX7_turns_74 (by decide) ?_
              refine sw_bind (fun q75 e75 => ?_)
              refine cv_X7_290 (As := [.int (0 : Int32), .int v1, .int (1 : Int32)]) C0 (c_X7_twoTurns C0.2.2.2.2.2.2.2.1 (0 : Int32) v1 (1 : Int32) S40 _ e75) is7 ⟨rfl, rfl⟩ ⟨Nat.le_of_ble_eq_true rfl, Nat.le_of_ble_eq_true rfl⟩ rfl hl.1 (Nat.le_of_ble_eq_true rfl) rfl dX7_turns_75 (fun _ => ?_)
              refine sx_goto (tgt := 87) C0 dX7_turns_78 (by decide) ?_
              exact bX7_turns_87_t C0 _ _ _ (lv_sub hl [0] rfl)
            · refine sx_aload_n C0 dX7_turns_81 rfl (lv_at hl 0 rfl) ?_
              refine sx_iconst (v := 0) C0 dX7_turns_82 (by decide) ?_
              refine sx_iload_n C0 dX7_turns_83 rfl (lv_at hl 1 rfl) ?_
              refine sw_bind (fun q84 e84 => ?_)
              refine cv_X7_293 (As := [.int (0 : Int32), .int v1]) C0 (c_X7_threeTurns C0.2.2.2.2.2.2.2.1 (0 : Int32) v1 S40 _ e84) is7 ⟨rfl, rfl⟩ ⟨Nat.le_of_ble_eq_true rfl, Nat.le_of_ble_eq_true rfl⟩ rfl hl.1 (Nat.le_of_ble_eq_true rfl) rfl dX7_turns_84 (fun _ => ?_)
              exact bX7_turns_87_t C0 _ _ _ (lv_sub hl [0] rfl)
abbrev rm_X7_needBook : Room := { frames := 3, cells := 0, slots := 0, locals := 66 }
def bX7_needBook_18    (S : vS)   : Option (Int32 × vS) := ((mX7_meets S (1 : Int32)).bind fun q20 => (some (q20.1, q20.2)))
set_option maxHeartbeats 4000000 in
set_option maxRecDepth 100000 in
theorem bX7_needBook_18_t {p : Program} {l : Launch} {e : Env} {s : State} {m : MethodId} {args : Array Value} {below : List Frame} {meth : Method} {c : Code} {D : va_G} {cA : Nat → ClassId} {ad : Nat → Nat}   (C0 : Cx D vwCl tlM shM cA ad ExM RX7 cX7_needBook 3 (some .int) p s m args meth c)  (S : vS)  (ls : Array Slot) (hl : lv_has ls 3 [(0, .ref (ad 0))]) : SW p l e rm_X7_needBook s m args below meth c D vwCl shM cA ad (Fq D vwCl shM cA ad below args s (fun q => some (.int q.1) : (Int32 × vS) → Option Value) (fun q => q.2) (fun _ => True)) (bX7_needBook_18 S) S 18 ls [] := by
  rw [bX7_needBook_18]
  refine sx_aload_n C0 dX7_needBook_18 rfl (lv_at hl 0 rfl) ?_
  refine sx_iconst (v := 1) C0 dX7_needBook_19 (by decide) ?_
  refine sw_bind (fun q20 e20 => ?_)
  refine cv_X7_94 (As := [.int (1 : Int32)]) C0 (c_X7_meets C0.2.2.2.2.2.2.2.1 (1 : Int32) S _ e20) is7 ⟨rfl, rfl⟩ ⟨Nat.le_of_ble_eq_true rfl, Nat.le_of_ble_eq_true rfl⟩ rfl hl.1 (Nat.le_of_ble_eq_true rfl) rfl dX7_needBook_20 (fun _ => ?_)
  exact sx_iret C0 rfl rfl trivial dX7_needBook_23
def bX7_needBook_50    (S : vS)   : Option (Int32 × vS) := ((mX7_meets S (5 : Int32)).bind fun q52 => (some (q52.1, q52.2)))
set_option maxHeartbeats 4000000 in
set_option maxRecDepth 100000 in
theorem bX7_needBook_50_t {p : Program} {l : Launch} {e : Env} {s : State} {m : MethodId} {args : Array Value} {below : List Frame} {meth : Method} {c : Code} {D : va_G} {cA : Nat → ClassId} {ad : Nat → Nat}   (C0 : Cx D vwCl tlM shM cA ad ExM RX7 cX7_needBook 3 (some .int) p s m args meth c)  (S : vS)  (ls : Array Slot) (hl : lv_has ls 3 [(0, .ref (ad 0))]) : SW p l e rm_X7_needBook s m args below meth c D vwCl shM cA ad (Fq D vwCl shM cA ad below args s (fun q => some (.int q.1) : (Int32 × vS) → Option Value) (fun q => q.2) (fun _ => True)) (bX7_needBook_50 S) S 50 ls [] := by
  rw [bX7_needBook_50]
  refine sx_aload_n C0 dX7_needBook_50 rfl (lv_at hl 0 rfl) ?_
  refine sx_iconst (v := 5) C0 dX7_needBook_51 (by decide) ?_
  refine sw_bind (fun q52 e52 => ?_)
  refine cv_X7_94 (As := [.int (5 : Int32)]) C0 (c_X7_meets C0.2.2.2.2.2.2.2.1 (5 : Int32) S _ e52) is7 ⟨rfl, rfl⟩ ⟨Nat.le_of_ble_eq_true rfl, Nat.le_of_ble_eq_true rfl⟩ rfl hl.1 (Nat.le_of_ble_eq_true rfl) rfl dX7_needBook_52 (fun _ => ?_)
  exact sx_iret C0 rfl rfl trivial dX7_needBook_55
def mX7_needBook (S : vS) (v1 : Int32) (v2 : Int32) : Option (Int32 × vS) := ((gI (S.1 2) 6 v1).bind fun a5 => (if a5 < 0 then (bX7_needBook_18 S) else ((gI (S.1 2) 6 v2).bind fun a14 => (if 0 ≤ a14 then ((gI (S.1 2) 6 v1).bind fun a29 => (if (30 : Int32) < a29 then (bX7_needBook_50 S) else ((gI (S.1 2) 6 v1).bind fun a40 => ((gI (S.1 2) 6 v2).bind fun a46 => (if a40 = a46 then ((mX7_needPlan S v1).bind fun q58 => (some (q58.1, q58.2))) else (bX7_needBook_50 S)))))) else (bX7_needBook_18 S)))))
set_option maxHeartbeats 4000000 in
set_option maxRecDepth 100000 in
theorem c_X7_needBook {l : Launch} {D : va_G} {cA : Nat → ClassId} {ad : Nat → Nat} (G : Gx shM ad ExM) (v1 : Int32) (v2 : Int32) (S : vS) (r : (Int32 × vS)) (hr : (mX7_needBook S v1 v2) = some r) : Met l yX7_needBook (Cond.code yX7_needBook cX7_needBook 3 (some .int) :: ALL) rm_X7_needBook (Po D vwCl tlM shM cA ad ExM [.ref (ad 0), .int v1, .int v2] S) (Qo D vwCl shM cA ad (some (.int r.1)) r.2 True) 0 0 (aw shM ad) := by
  refine Met.sx (M := (mX7_needBook S v1 v2)) (rv := (fun q => some (.int q.1) : (Int32 × vS) → Option Value)) (rs := fun q => q.2) (B := fun _ => True) (by decide) ⟨rfl, rfl⟩ (Nat.le_of_ble_eq_true rfl) G (fun p e s m args below meth c C0 ls hl => ?_) hr
  have hl : lv_has ls 3 [(0, .ref (ad 0)), (1, .int v1), (2, .int v2)] := hl
  rw [mX7_needBook]
  refine sx_aload_n C0 dX7_needBook_0 rfl (lv_at hl 0 rfl) ?_
  refine gf_X7_13 C0 is7 dX7_needBook_1 ?_
  refine sx_iload_n C0 dX7_needBook_4 rfl (lv_at hl 1 rfl) ?_
  refine sx_iald C0 is7_sizes rfl dX7_needBook_5 (fun a5 => ?_)
  refine sx_if_lt (tgt := 18) C0 dX7_needBook_6 (by decide) (fun _ => ?_) (fun _ => ?_)
  · exact bX7_needBook_18_t C0 _ _ (lv_sub hl [0] rfl)
  · refine sx_aload_n C0 dX7_needBook_9 rfl (lv_at hl 0 rfl) ?_
    refine gf_X7_13 C0 is7 dX7_needBook_10 ?_
    refine sx_iload_n C0 dX7_needBook_13 rfl (lv_at hl 2 rfl) ?_
    refine sx_iald C0 is7_sizes rfl dX7_needBook_14 (fun a14 => ?_)
    refine sx_if_ge (tgt := 24) C0 dX7_needBook_15 (by decide) (fun _ => ?_) (fun _ => ?_)
    · refine sx_aload_n C0 dX7_needBook_24 rfl (lv_at hl 0 rfl) ?_
      refine gf_X7_13 C0 is7 dX7_needBook_25 ?_
      refine sx_iload_n C0 dX7_needBook_28 rfl (lv_at hl 1 rfl) ?_
      refine sx_iald C0 is7_sizes rfl dX7_needBook_29 (fun a29 => ?_)
      refine sx_bipush (v := 30) C0 dX7_needBook_30 (by decide) ?_
      refine sx_icmp_gt (tgt := 50) C0 dX7_needBook_32 (by decide) (fun _ => ?_) (fun _ => ?_)
      · exact bX7_needBook_50_t C0 _ _ (lv_sub hl [0] rfl)
      · refine sx_aload_n C0 dX7_needBook_35 rfl (lv_at hl 0 rfl) ?_
        refine gf_X7_13 C0 is7 dX7_needBook_36 ?_
        refine sx_iload_n C0 dX7_needBook_39 rfl (lv_at hl 1 rfl) ?_
        refine sx_iald C0 is7_sizes rfl dX7_needBook_40 (fun a40 => ?_)
        refine sx_aload_n C0 dX7_needBook_41 rfl (lv_at hl 0 rfl) ?_
        refine gf_X7_13 C0 is7 dX7_needBook_42 ?_
        refine sx_iload_n C0 dX7_needBook_45 rfl (lv_at hl 2 rfl) ?_
        refine sx_iald C0 is7_sizes rfl dX7_needBook_46 (fun a46 => ?_)
        refine sx_icmp_eq (tgt := 56) C0 dX7_needBook_47 (by decide) (fun _ => ?_) (fun _ => ?_)
        · refine sx_aload_n C0 dX7_needBook_56 rfl (lv_at hl 0 rfl) ?_
          refine sx_iload_n C0 dX7_needBook_57 rfl (lv_at hl 1 rfl) ?_
          refine sw_bind (fun q58 e58 => ?_)
          refine cv_X7_273 (As := [.int v1]) C0 (c_X7_needPlan C0.2.2.2.2.2.2.2.1 v1 S _ e58) is7 ⟨rfl, rfl⟩ ⟨Nat.le_of_ble_eq_true rfl, Nat.le_of_ble_eq_true rfl⟩ rfl hl.1 (Nat.le_of_ble_eq_true rfl) rfl dX7_needBook_58 (fun _ => ?_)
          exact sx_iret C0 rfl rfl trivial dX7_needBook_61
        · exact bX7_needBook_50_t C0 _ _ (lv_sub hl [0] rfl)
    · exact bX7_needBook_18_t C0 _ _ (lv_sub hl [0] rfl)
abbrev rm_X7_fitting : Room := { frames := 7, cells := 0, slots := 0, locals := 158 }
def bX7_fitting_95   (K13 : vS → Int32 → Int32 → Option (Int32 × vS)) (K45 : vS → Int32 → Int32 → Option (Int32 × vS)) (S : vS) (v1 : Int32) (v2 : Int32) (v3 : Int32) (v4 : Int32) (v5 : Int32) (v6 : Int32) (v8 : Int32) (t0 : Int32) : Option (Int32 × vS) := (K45 S t0 (v8 + (1 : Int32)))
set_option maxHeartbeats 4000000 in
set_option maxRecDepth 100000 in
theorem bX7_fitting_95_t {p : Program} {l : Launch} {e : Env} {s : State} {m : MethodId} {args : Array Value} {below : List Frame} {meth : Method} {c : Code} {D : va_G} {cA : Nat → ClassId} {ad : Nat → Nat} {K13 : vS → Int32 → Int32 → Option (Int32 × vS)} {K45 : vS → Int32 → Int32 → Option (Int32 × vS)}  (C0 : Cx D vwCl tlM shM cA ad ExM RX7 cX7_fitting 9 (some .int) p s m args meth c)  (S : vS) (v1 : Int32) (v2 : Int32) (v3 : Int32) (v4 : Int32) (v5 : Int32) (v6 : Int32) (v8 : Int32) (t0 : Int32) (hK13 : ∀ (S : vS) (v5 : Int32) (v6 : Int32) (ls : Array Slot), lv_has ls 9 [(0, .ref (ad 0)), (1, .int v1), (2, .int v2), (3, .int v3), (4, .int v4), (5, .int v5), (6, .int v6)] → SW p l e rm_X7_fitting s m args below meth c D vwCl shM cA ad (Fq D vwCl shM cA ad below args s (fun q => some (.int q.1) : (Int32 × vS) → Option Value) (fun q => q.2) (fun _ => True)) (K13 S v5 v6) S 13 ls []) (hK45 : ∀ (S : vS) (v7 : Int32) (v8 : Int32) (ls : Array Slot), lv_has ls 9 [(0, .ref (ad 0)), (1, .int v1), (2, .int v2), (3, .int v3), (4, .int v4), (5, .int v5), (6, .int v6), (7, .int v7), (8, .int v8)] → SW p l e rm_X7_fitting s m args below meth c D vwCl shM cA ad (Fq D vwCl shM cA ad below args s (fun q => some (.int q.1) : (Int32 × vS) → Option Value) (fun q => q.2) (fun _ => True)) (K45 S v7 v8) S 45 ls []) (ls : Array Slot) (hl : lv_has ls 9 [(0, .ref (ad 0)), (1, .int v1), (2, .int v2), (3, .int v3), (4, .int v4), (5, .int v5), (6, .int v6), (8, .int v8)]) : SW p l e rm_X7_fitting s m args below meth c D vwCl shM cA ad (Fq D vwCl shM cA ad below args s (fun q => some (.int q.1) : (Int32 × vS) → Option Value) (fun q => q.2) (fun _ => True)) (bX7_fitting_95 K13 K45 S v1 v2 v3 v4 v5 v6 v8 t0) S 95 ls [.int t0] := by
  rw [bX7_fitting_95]
  refine sx_istore (lv' := [(7, .int t0), (0, .ref (ad 0)), (1, .int v1), (2, .int v2), (3, .int v3), (4, .int v4), (5, .int v5), (6, .int v6), (8, .int v8)]) C0 dX7_fitting_95 hl (by decide) rfl (fun ls hl => ?_)
  refine sx_iinc (v := (v8 + (1 : Int32))) (lv' := [(8, .int (v8 + (1 : Int32))), (7, .int t0), (0, .ref (ad 0)), (1, .int v1), (2, .int v2), (3, .int v3), (4, .int v4), (5, .int v5), (6, .int v6)]) C0 dX7_fitting_97 hl (k := 8) rfl rfl (by decide) rfl (fun ls hl => ?_)
  refine sx_goto (tgt := 45) C0 dX7_fitting_100 (by decide) ?_
  exact hK45 _ _ _ _ (lv_sub hl [2, 3, 4, 5, 6, 7, 8, 1, 0] rfl)
def bX7_fitting_94   (K13 : vS → Int32 → Int32 → Option (Int32 × vS)) (K45 : vS → Int32 → Int32 → Option (Int32 × vS)) (S : vS) (v1 : Int32) (v2 : Int32) (v3 : Int32) (v4 : Int32) (v5 : Int32) (v6 : Int32) (v8 : Int32)  : Option (Int32 × vS) := (bX7_fitting_95 K13 K45 S v1 v2 v3 v4 v5 v6 v8 (0 : Int32))
set_option maxHeartbeats 4000000 in
set_option maxRecDepth 100000 in
theorem bX7_fitting_94_t {p : Program} {l : Launch} {e : Env} {s : State} {m : MethodId} {args : Array Value} {below : List Frame} {meth : Method} {c : Code} {D : va_G} {cA : Nat → ClassId} {ad : Nat → Nat} {K13 : vS → Int32 → Int32 → Option (Int32 × vS)} {K45 : vS → Int32 → Int32 → Option (Int32 × vS)}  (C0 : Cx D vwCl tlM shM cA ad ExM RX7 cX7_fitting 9 (some .int) p s m args meth c)  (S : vS) (v1 : Int32) (v2 : Int32) (v3 : Int32) (v4 : Int32) (v5 : Int32) (v6 : Int32) (v8 : Int32) (hK13 : ∀ (S : vS) (v5 : Int32) (v6 : Int32) (ls : Array Slot), lv_has ls 9 [(0, .ref (ad 0)), (1, .int v1), (2, .int v2), (3, .int v3), (4, .int v4), (5, .int v5), (6, .int v6)] → SW p l e rm_X7_fitting s m args below meth c D vwCl shM cA ad (Fq D vwCl shM cA ad below args s (fun q => some (.int q.1) : (Int32 × vS) → Option Value) (fun q => q.2) (fun _ => True)) (K13 S v5 v6) S 13 ls []) (hK45 : ∀ (S : vS) (v7 : Int32) (v8 : Int32) (ls : Array Slot), lv_has ls 9 [(0, .ref (ad 0)), (1, .int v1), (2, .int v2), (3, .int v3), (4, .int v4), (5, .int v5), (6, .int v6), (7, .int v7), (8, .int v8)] → SW p l e rm_X7_fitting s m args below meth c D vwCl shM cA ad (Fq D vwCl shM cA ad below args s (fun q => some (.int q.1) : (Int32 × vS) → Option Value) (fun q => q.2) (fun _ => True)) (K45 S v7 v8) S 45 ls []) (ls : Array Slot) (hl : lv_has ls 9 [(0, .ref (ad 0)), (1, .int v1), (2, .int v2), (3, .int v3), (4, .int v4), (5, .int v5), (6, .int v6), (8, .int v8)]) : SW p l e rm_X7_fitting s m args below meth c D vwCl shM cA ad (Fq D vwCl shM cA ad below args s (fun q => some (.int q.1) : (Int32 × vS) → Option Value) (fun q => q.2) (fun _ => True)) (bX7_fitting_94 K13 K45 S v1 v2 v3 v4 v5 v6 v8) S 94 ls [] := by
  rw [bX7_fitting_94]
  refine sx_iconst (v := 0) C0 dX7_fitting_94 (by decide) ?_
  exact bX7_fitting_95_t C0 _ _ _ _ _ _ _ _ _ hK13 hK45 _ (lv_sub hl [0, 1, 2, 3, 4, 5, 6, 7] rfl)
def bX7_fitting_118   (K13 : vS → Int32 → Int32 → Option (Int32 × vS)) (S : vS) (v1 : Int32) (v2 : Int32) (v3 : Int32) (v4 : Int32) (v6 : Int32) (t0 : Int32) (t1 : Int32) : Option (Int32 × vS) := (lt (t1 ||| t0) fun v5_119 => (K13 S v5_119 (v6 + (1 : Int32))))
set_option maxHeartbeats 4000000 in
set_option maxRecDepth 100000 in
theorem bX7_fitting_118_t {p : Program} {l : Launch} {e : Env} {s : State} {m : MethodId} {args : Array Value} {below : List Frame} {meth : Method} {c : Code} {D : va_G} {cA : Nat → ClassId} {ad : Nat → Nat} {K13 : vS → Int32 → Int32 → Option (Int32 × vS)}  (C0 : Cx D vwCl tlM shM cA ad ExM RX7 cX7_fitting 9 (some .int) p s m args meth c)  (S : vS) (v1 : Int32) (v2 : Int32) (v3 : Int32) (v4 : Int32) (v6 : Int32) (t0 : Int32) (t1 : Int32) (hK13 : ∀ (S : vS) (v5 : Int32) (v6 : Int32) (ls : Array Slot), lv_has ls 9 [(0, .ref (ad 0)), (1, .int v1), (2, .int v2), (3, .int v3), (4, .int v4), (5, .int v5), (6, .int v6)] → SW p l e rm_X7_fitting s m args below meth c D vwCl shM cA ad (Fq D vwCl shM cA ad below args s (fun q => some (.int q.1) : (Int32 × vS) → Option Value) (fun q => q.2) (fun _ => True)) (K13 S v5 v6) S 13 ls []) (ls : Array Slot) (hl : lv_has ls 9 [(0, .ref (ad 0)), (1, .int v1), (2, .int v2), (3, .int v3), (4, .int v4), (6, .int v6)]) : SW p l e rm_X7_fitting s m args below meth c D vwCl shM cA ad (Fq D vwCl shM cA ad below args s (fun q => some (.int q.1) : (Int32 × vS) → Option Value) (fun q => q.2) (fun _ => True)) (bX7_fitting_118 K13 S v1 v2 v3 v4 v6 t0 t1) S 118 ls [.int t0, .int t1] := by
  rw [bX7_fitting_118]
  refine sx_ior C0 dX7_fitting_118 ?_
  refine sw_lt (val := .int) (fun v5_119 => ?_)
  refine sx_istore (lv' := [(5, .int v5_119), (0, .ref (ad 0)), (1, .int v1), (2, .int v2), (3, .int v3), (4, .int v4), (6, .int v6)]) C0 dX7_fitting_119 hl (by decide) rfl (fun ls hl => ?_)
  refine sx_iinc (v := (v6 + (1 : Int32))) (lv' := [(6, .int (v6 + (1 : Int32))), (5, .int v5_119), (0, .ref (ad 0)), (1, .int v1), (2, .int v2), (3, .int v3), (4, .int v4)]) C0 dX7_fitting_121 hl (k := 6) rfl rfl (by decide) rfl (fun ls hl => ?_)
  refine sx_goto (tgt := 13) C0 dX7_fitting_124 (by decide) ?_
  exact hK13 _ _ _ _ (lv_sub hl [2, 3, 4, 5, 6, 1, 0] rfl)
def bX7_fitting_103   (K13 : vS → Int32 → Int32 → Option (Int32 × vS)) (S : vS) (v1 : Int32) (v2 : Int32) (v3 : Int32) (v4 : Int32) (v5 : Int32) (v6 : Int32) (v7 : Int32)  : Option (Int32 × vS) := (if v7 = 0 then (bX7_fitting_118 K13 S v1 v2 v3 v4 v6 (0 : Int32) v5) else (bX7_fitting_118 K13 S v1 v2 v3 v4 v6 ((1 : Int32) <<< (v6 &&& (31 : Int32))) v5))
set_option maxHeartbeats 4000000 in
set_option maxRecDepth 100000 in
theorem bX7_fitting_103_t {p : Program} {l : Launch} {e : Env} {s : State} {m : MethodId} {args : Array Value} {below : List Frame} {meth : Method} {c : Code} {D : va_G} {cA : Nat → ClassId} {ad : Nat → Nat} {K13 : vS → Int32 → Int32 → Option (Int32 × vS)}  (C0 : Cx D vwCl tlM shM cA ad ExM RX7 cX7_fitting 9 (some .int) p s m args meth c)  (S : vS) (v1 : Int32) (v2 : Int32) (v3 : Int32) (v4 : Int32) (v5 : Int32) (v6 : Int32) (v7 : Int32) (hK13 : ∀ (S : vS) (v5 : Int32) (v6 : Int32) (ls : Array Slot), lv_has ls 9 [(0, .ref (ad 0)), (1, .int v1), (2, .int v2), (3, .int v3), (4, .int v4), (5, .int v5), (6, .int v6)] → SW p l e rm_X7_fitting s m args below meth c D vwCl shM cA ad (Fq D vwCl shM cA ad below args s (fun q => some (.int q.1) : (Int32 × vS) → Option Value) (fun q => q.2) (fun _ => True)) (K13 S v5 v6) S 13 ls []) (ls : Array Slot) (hl : lv_has ls 9 [(0, .ref (ad 0)), (1, .int v1), (2, .int v2), (3, .int v3), (4, .int v4), (5, .int v5), (6, .int v6), (7, .int v7)]) : SW p l e rm_X7_fitting s m args below meth c D vwCl shM cA ad (Fq D vwCl shM cA ad below args s (fun q => some (.int q.1) : (Int32 × vS) → Option Value) (fun q => q.2) (fun _ => True)) (bX7_fitting_103 K13 S v1 v2 v3 v4 v5 v6 v7) S 103 ls [] := by
  rw [bX7_fitting_103]
  refine sx_iload C0 dX7_fitting_103 (lv_at hl 5 rfl) ?_
  refine sx_iload C0 dX7_fitting_105 (lv_at hl 7 rfl) ?_
  refine sx_if_eq (tgt := 117) C0 dX7_fitting_107 (by decide) (fun _ => ?_) (fun _ => ?_)
  · refine sx_iconst (v := 0) C0 dX7_fitting_117 (by decide) ?_
    exact bX7_fitting_118_t C0 _ _ _ _ _ _ _ _ hK13 _ (lv_sub hl [0, 1, 2, 3, 4, 6] rfl)
  · refine sx_iconst (v := 1) C0 dX7_fitting_110 (by decide) ?_
    refine sx_iload C0 dX7_fitting_111 (lv_at hl 6 rfl) ?_
    refine sx_ishl C0 dX7_fitting_113 ?_
    refine sx_goto (tgt := 118) C0 dX7_fitting_114 (by decide) ?_
    exact bX7_fitting_118_t C0 _ _ _ _ _ _ _ _ hK13 _ (lv_sub hl [0, 1, 2, 3, 4, 6] rfl)
def lX7_fitting_45   (K13 : vS → Int32 → Int32 → Option (Int32 × vS)) (v1 : Int32) (v2 : Int32) (v3 : Int32) (v4 : Int32) (v5 : Int32) (v6 : Int32) : Nat → vS → Int32 → Int32 → Option (Int32 × vS)
  | 0, _, _, _ => none
  | n + 1, S, v7, v8 => ((gI (S.1 2) 6 v2).bind fun a52 => (if a52 ≤ v8 then (bX7_fitting_103 K13 S v1 v2 v3 v4 v5 v6 v7) else (if v7 = 0 then (bX7_fitting_103 K13 S v1 v2 v3 v4 v5 v6 v7) else ((mX7_rowAt S v2 v8).bind fun a67 => ((mX7_goes S (1 : Int32) a67).bind fun q70 => (if q70.1 = 0 then (bX7_fitting_94 K13 (lX7_fitting_45 K13 v1 v2 v3 v4 v5 v6 n) q70.2 v1 v2 v3 v4 v5 v6 v8) else ((mX7_rowAt q70.2 v3 v8).bind fun a84 => (if (q70.2.1 0 20) = a84 then (bX7_fitting_95 K13 (lX7_fitting_45 K13 v1 v2 v3 v4 v5 v6 n) q70.2 v1 v2 v3 v4 v5 v6 v8 (1 : Int32)) else (bX7_fitting_94 K13 (lX7_fitting_45 K13 v1 v2 v3 v4 v5 v6 n) q70.2 v1 v2 v3 v4 v5 v6 v8)))))))))
set_option maxHeartbeats 4000000 in
set_option maxRecDepth 100000 in
theorem lX7_fitting_45_t {p : Program} {l : Launch} {e : Env} {s : State} {m : MethodId} {args : Array Value} {below : List Frame} {meth : Method} {c : Code} {D : va_G} {cA : Nat → ClassId} {ad : Nat → Nat} {K13 : vS → Int32 → Int32 → Option (Int32 × vS)}  (C0 : Cx D vwCl tlM shM cA ad ExM RX7 cX7_fitting 9 (some .int) p s m args meth c)   (v1 : Int32) (v2 : Int32) (v3 : Int32) (v4 : Int32) (v5 : Int32) (v6 : Int32) (hK13 : ∀ (S : vS) (v5 : Int32) (v6 : Int32) (ls : Array Slot), lv_has ls 9 [(0, .ref (ad 0)), (1, .int v1), (2, .int v2), (3, .int v3), (4, .int v4), (5, .int v5), (6, .int v6)] → SW p l e rm_X7_fitting s m args below meth c D vwCl shM cA ad (Fq D vwCl shM cA ad below args s (fun q => some (.int q.1) : (Int32 × vS) → Option Value) (fun q => q.2) (fun _ => True)) (K13 S v5 v6) S 13 ls []) : ∀ (n : Nat) (S : vS) (v7 : Int32) (v8 : Int32) (ls : Array Slot), lv_has ls 9 [(0, .ref (ad 0)), (1, .int v1), (2, .int v2), (3, .int v3), (4, .int v4), (5, .int v5), (6, .int v6), (7, .int v7), (8, .int v8)] → SW p l e rm_X7_fitting s m args below meth c D vwCl shM cA ad (Fq D vwCl shM cA ad below args s (fun q => some (.int q.1) : (Int32 × vS) → Option Value) (fun q => q.2) (fun _ => True)) (lX7_fitting_45 K13 v1 v2 v3 v4 v5 v6 n S v7 v8) S 45 ls [] := by
  intro n
  induction n with
  | zero =>
    intro S v7 v8 ls hl
    rw [lX7_fitting_45]
    exact sw_none
  | succ n ih =>
    intro S v7 v8 ls hl
    rw [lX7_fitting_45]
    refine sx_iload C0 dX7_fitting_45 (lv_at hl 8 rfl) ?_
    refine sx_aload_n C0 dX7_fitting_47 rfl (lv_at hl 0 rfl) ?_
    refine gf_X7_13 C0 is7 dX7_fitting_48 ?_
    refine sx_iload_n C0 dX7_fitting_51 rfl (lv_at hl 2 rfl) ?_
    refine sx_iald C0 is7_sizes rfl dX7_fitting_52 (fun a52 => ?_)
    refine sx_icmp_ge (tgt := 103) C0 dX7_fitting_53 (by decide) (fun _ => ?_) (fun _ => ?_)
    · exact bX7_fitting_103_t C0 _ _ _ _ _ _ _ _ hK13 _ (lv_sub hl [0, 1, 2, 3, 4, 5, 6, 7] rfl)
    · refine sx_iload C0 dX7_fitting_56 (lv_at hl 7 rfl) ?_
      refine sx_if_eq (tgt := 103) C0 dX7_fitting_58 (by decide) (fun _ => ?_) (fun _ => ?_)
      · exact bX7_fitting_103_t C0 _ _ _ _ _ _ _ _ hK13 _ (lv_sub hl [0, 1, 2, 3, 4, 5, 6, 7] rfl)
      · refine sx_aload_n C0 dX7_fitting_61 rfl (lv_at hl 0 rfl) ?_
        refine sx_iconst (v := 1) C0 dX7_fitting_62 (by decide) ?_
        refine sx_aload_n C0 dX7_fitting_63 rfl (lv_at hl 0 rfl) ?_
        refine sx_iload_n C0 dX7_fitting_64 rfl (lv_at hl 2 rfl) ?_
        refine sx_iload C0 dX7_fitting_65 (lv_at hl 8 rfl) ?_
        refine sw_bind (fun a67 e67 => ?_)
        refine cv_X7_98 (As := [.int v2, .int v8]) C0 (c_X7_rowAt C0.2.2.2.2.2.2.2.1 v2 v8 S _ e67) is7 ⟨rfl, rfl⟩ ⟨Nat.le_of_ble_eq_true rfl, Nat.le_of_ble_eq_true rfl⟩ rfl hl.1 (Nat.le_of_ble_eq_true rfl) rfl dX7_fitting_67 (fun _ => ?_)
        refine sw_bind (fun q70 e70 => ?_)
        refine cv_X7_214 (As := [.int (1 : Int32), .int a67]) C0 (c_X7_goes C0.2.2.2.2.2.2.2.1 (1 : Int32) a67 S _ e70) is7 ⟨rfl, rfl⟩ ⟨Nat.le_of_ble_eq_true rfl, Nat.le_of_ble_eq_true rfl⟩ rfl hl.1 (Nat.le_of_ble_eq_true rfl) rfl dX7_fitting_70 (fun hb70 => ?_)
        refine sx_if_eq (tgt := 94) C0 dX7_fitting_73 (by decide) (fun _ => ?_) (fun _ => ?_)
        · exact bX7_fitting_94_t C0 _ _ _ _ _ _ _ _ hK13 ih _ (lv_sub hl [0, 1, 2, 3, 4, 5, 6, 8] rfl)
        · refine sx_aload_n C0 dX7_fitting_76 rfl (lv_at hl 0 rfl) ?_
          refine gf_X7_186 C0 is7 dX7_fitting_77 ?_
          refine sx_aload_n C0 dX7_fitting_80 rfl (lv_at hl 0 rfl) ?_
          refine sx_iload_n C0 dX7_fitting_81 rfl (lv_at hl 3 rfl) ?_
          refine sx_iload C0 dX7_fitting_82 (lv_at hl 8 rfl) ?_
          refine sw_bind (fun a84 e84 => ?_)
          refine cv_X7_98 (As := [.int v3, .int v8]) C0 (c_X7_rowAt C0.2.2.2.2.2.2.2.1 v3 v8 q70.2 _ e84) is7 ⟨rfl, rfl⟩ ⟨Nat.le_of_ble_eq_true rfl, Nat.le_of_ble_eq_true rfl⟩ rfl hl.1 (Nat.le_of_ble_eq_true rfl) rfl dX7_fitting_84 (fun _ => ?_)
          refine sx_icmp_ne (tgt := 94) C0 dX7_fitting_87 (by decide) (fun _ => ?_) (fun _ => ?_)
          · refine sx_iconst (v := 1) C0 dX7_fitting_90 (by decide) ?_
            refine sx_goto (tgt := 95) C0 dX7_fitting_91 (by decide) ?_
            exact bX7_fitting_95_t C0 _ _ _ _ _ _ _ _ _ hK13 ih _ (lv_sub hl [0, 1, 2, 3, 4, 5, 6, 8] rfl)
          · exact bX7_fitting_94_t C0 _ _ _ _ _ _ _ _ hK13 ih _ (lv_sub hl [0, 1, 2, 3, 4, 5, 6, 8] rfl)
def bX7_fitting_127    (S : vS) (v1 : Int32) (v4 : Int32) (v5 : Int32)  : Option (Int32 × vS) := ((pI S 7 24 (((6 : Int32) * v1) + (2 : Int32)) v4).bind fun S139 => (some (v5, S139)))
set_option maxHeartbeats 4000000 in
set_option maxRecDepth 100000 in
theorem bX7_fitting_127_t {p : Program} {l : Launch} {e : Env} {s : State} {m : MethodId} {args : Array Value} {below : List Frame} {meth : Method} {c : Code} {D : va_G} {cA : Nat → ClassId} {ad : Nat → Nat}   (C0 : Cx D vwCl tlM shM cA ad ExM RX7 cX7_fitting 9 (some .int) p s m args meth c)  (S : vS) (v1 : Int32) (v4 : Int32) (v5 : Int32) (ls : Array Slot) (hl : lv_has ls 9 [(0, .ref (ad 0)), (1, .int v1), (4, .int v4), (5, .int v5)]) : SW p l e rm_X7_fitting s m args below meth c D vwCl shM cA ad (Fq D vwCl shM cA ad below args s (fun q => some (.int q.1) : (Int32 × vS) → Option Value) (fun q => q.2) (fun _ => True)) (bX7_fitting_127 S v1 v4 v5) S 127 ls [] := by
  rw [bX7_fitting_127]
  refine sx_aload_n C0 dX7_fitting_127 rfl (lv_at hl 0 rfl) ?_
  refine gf_X7_29 C0 is7 dX7_fitting_128 ?_
  refine sx_bipush (v := 6) C0 dX7_fitting_131 (by decide) ?_
  refine sx_iload_n C0 dX7_fitting_133 rfl (lv_at hl 1 rfl) ?_
  refine sx_imul C0 dX7_fitting_134 ?_
  refine sx_iconst (v := 2) C0 dX7_fitting_135 (by decide) ?_
  refine sx_iadd C0 dX7_fitting_136 ?_
  refine sx_iload C0 dX7_fitting_137 (lv_at hl 2 rfl) ?_
  refine sx_iast C0 is7_gods rfl dX7_fitting_139 (fun S139 => ?_)
  refine sx_iload C0 dX7_fitting_140 (lv_at hl 3 rfl) ?_
  exact sx_iret C0 rfl rfl trivial dX7_fitting_142
def lX7_fitting_13    (v1 : Int32) (v2 : Int32) (v3 : Int32) (v4 : Int32) : Nat → vS → Int32 → Int32 → Option (Int32 × vS)
  | 0, _, _, _ => none
  | n + 1, S, v5, v6 => (if (6 : Int32) < v6 then (bX7_fitting_127 S v1 v4 v5) else ((pI S 7 24 (((6 : Int32) * v1) + (2 : Int32)) v6).bind fun S32 => ((mX7_copyValley S32 (0 : Int32) (1 : Int32)).bind fun S36 => (lX7_fitting_45 (lX7_fitting_13 v1 v2 v3 v4 n) v1 v2 v3 v4 v5 v6 FU S36 (1 : Int32) (0 : Int32)))))
set_option maxHeartbeats 4000000 in
set_option maxRecDepth 100000 in
theorem lX7_fitting_13_t {p : Program} {l : Launch} {e : Env} {s : State} {m : MethodId} {args : Array Value} {below : List Frame} {meth : Method} {c : Code} {D : va_G} {cA : Nat → ClassId} {ad : Nat → Nat}   (C0 : Cx D vwCl tlM shM cA ad ExM RX7 cX7_fitting 9 (some .int) p s m args meth c)   (v1 : Int32) (v2 : Int32) (v3 : Int32) (v4 : Int32)  : ∀ (n : Nat) (S : vS) (v5 : Int32) (v6 : Int32) (ls : Array Slot), lv_has ls 9 [(0, .ref (ad 0)), (1, .int v1), (2, .int v2), (3, .int v3), (4, .int v4), (5, .int v5), (6, .int v6)] → SW p l e rm_X7_fitting s m args below meth c D vwCl shM cA ad (Fq D vwCl shM cA ad below args s (fun q => some (.int q.1) : (Int32 × vS) → Option Value) (fun q => q.2) (fun _ => True)) (lX7_fitting_13 v1 v2 v3 v4 n S v5 v6) S 13 ls [] := by
  intro n
  induction n with
  | zero =>
    intro S v5 v6 ls hl
    rw [lX7_fitting_13]
    exact sw_none
  | succ n ih =>
    intro S v5 v6 ls hl
    rw [lX7_fitting_13]
    refine sx_iload C0 dX7_fitting_13 (lv_at hl 6 rfl) ?_
    refine sx_bipush (v := 6) C0 dX7_fitting_15 (by decide) ?_
    refine sx_icmp_gt (tgt := 127) C0 dX7_fitting_17 (by decide) (fun _ => ?_) (fun _ => ?_)
    · exact bX7_fitting_127_t C0 _ _ _ _ _ (lv_sub hl [0, 1, 4, 5] rfl)
    · refine sx_aload_n C0 dX7_fitting_20 rfl (lv_at hl 0 rfl) ?_
      refine gf_X7_29 C0 is7 dX7_fitting_21 ?_
      refine sx_bipush (v := 6) C0 dX7_fitting_24 (by decide) ?_
      refine sx_iload_n C0 dX7_fitting_26 rfl (lv_at hl 1 rfl) ?_
      refine sx_imul C0 dX7_fitting_27 ?_
      refine sx_iconst (v := 2) C0 dX7_fitting_28 (by decide) ?_
      refine sx_iadd C0 dX7_fitting_29 ?_
      refine sx_iload C0 dX7_fitting_30 (lv_at hl 6 rfl) ?_
      refine sx_iast C0 is7_gods rfl dX7_fitting_32 (fun S32 => ?_)
      refine sx_aload_n C0 dX7_fitting_33 rfl (lv_at hl 0 rfl) ?_
      refine sx_iconst (v := 0) C0 dX7_fitting_34 (by decide) ?_
      refine sx_iconst (v := 1) C0 dX7_fitting_35 (by decide) ?_
      refine sw_bind (fun S36 e36 => ?_)
      refine cv_X7_233 (As := [.int (0 : Int32), .int (1 : Int32)]) C0 (c_X7_copyValley C0.2.2.2.2.2.2.2.1 (0 : Int32) (1 : Int32) S32 _ e36) is7 ⟨rfl, rfl⟩ ⟨Nat.le_of_ble_eq_true rfl, Nat.le_of_ble_eq_true rfl⟩ rfl hl.1 (Nat.le_of_ble_eq_true rfl) rfl dX7_fitting_36 (fun _ => ?_)
      refine sx_iconst (v := 1) C0 dX7_fitting_39 (by decide) ?_
      refine sx_istore (lv' := [(7, .int (1 : Int32)), (0, .ref (ad 0)), (1, .int v1), (2, .int v2), (3, .int v3), (4, .int v4), (5, .int v5), (6, .int v6)]) C0 dX7_fitting_40 hl (by decide) rfl (fun ls hl => ?_)
      refine sx_iconst (v := 0) C0 dX7_fitting_42 (by decide) ?_
      refine sx_istore (lv' := [(8, .int (0 : Int32)), (7, .int (1 : Int32)), (0, .ref (ad 0)), (1, .int v1), (2, .int v2), (3, .int v3), (4, .int v4), (5, .int v5), (6, .int v6)]) C0 dX7_fitting_43 hl (by decide) rfl (fun ls hl => ?_)
      exact lX7_fitting_45_t C0 _ _ _ _ _ _ ih _ _ _ _ _ (lv_sub hl [2, 3, 4, 5, 6, 7, 8, 1, 0] rfl)
def mX7_fitting (S : vS) (v1 : Int32) (v2 : Int32) (v3 : Int32) : Option (Int32 × vS) := ((mX7_patienceOf S v1).bind fun a2 => (lX7_fitting_13 v1 v2 v3 a2 FU S (0 : Int32) (1 : Int32)))
set_option maxHeartbeats 4000000 in
set_option maxRecDepth 100000 in
theorem c_X7_fitting {l : Launch} {D : va_G} {cA : Nat → ClassId} {ad : Nat → Nat} (G : Gx shM ad ExM) (v1 : Int32) (v2 : Int32) (v3 : Int32) (S : vS) (r : (Int32 × vS)) (hr : (mX7_fitting S v1 v2 v3) = some r) : Met l yX7_fitting (Cond.code yX7_fitting cX7_fitting 9 (some .int) :: ALL) rm_X7_fitting (Po D vwCl tlM shM cA ad ExM [.ref (ad 0), .int v1, .int v2, .int v3] S) (Qo D vwCl shM cA ad (some (.int r.1)) r.2 True) 0 0 (aw shM ad) := by
  refine Met.sx (M := (mX7_fitting S v1 v2 v3)) (rv := (fun q => some (.int q.1) : (Int32 × vS) → Option Value)) (rs := fun q => q.2) (B := fun _ => True) (by decide) ⟨rfl, rfl⟩ (Nat.le_of_ble_eq_true rfl) G (fun p e s m args below meth c C0 ls hl => ?_) hr
  have hl : lv_has ls 9 [(0, .ref (ad 0)), (1, .int v1), (2, .int v2), (3, .int v3)] := hl
  rw [mX7_fitting]
  refine sx_aload_n C0 dX7_fitting_0 rfl (lv_at hl 0 rfl) ?_
  refine sx_iload_n C0 dX7_fitting_1 rfl (lv_at hl 1 rfl) ?_
  refine sw_bind (fun a2 e2 => ?_)
  refine cv_X7_192 (As := [.int v1]) C0 (c_X7_patienceOf C0.2.2.2.2.2.2.2.1 v1 S _ e2) is7 ⟨rfl, rfl⟩ ⟨Nat.le_of_ble_eq_true rfl, Nat.le_of_ble_eq_true rfl⟩ rfl hl.1 (Nat.le_of_ble_eq_true rfl) rfl dX7_fitting_2 (fun _ => ?_)
  refine sx_istore (lv' := [(4, .int a2), (0, .ref (ad 0)), (1, .int v1), (2, .int v2), (3, .int v3)]) C0 dX7_fitting_5 hl (by decide) rfl (fun ls hl => ?_)
  refine sx_iconst (v := 0) C0 dX7_fitting_7 (by decide) ?_
  refine sx_istore (lv' := [(5, .int (0 : Int32)), (4, .int a2), (0, .ref (ad 0)), (1, .int v1), (2, .int v2), (3, .int v3)]) C0 dX7_fitting_8 hl (by decide) rfl (fun ls hl => ?_)
  refine sx_iconst (v := 1) C0 dX7_fitting_10 (by decide) ?_
  refine sx_istore (lv' := [(6, .int (1 : Int32)), (5, .int (0 : Int32)), (4, .int a2), (0, .ref (ad 0)), (1, .int v1), (2, .int v2), (3, .int v3)]) C0 dX7_fitting_11 hl (by decide) rfl (fun ls hl => ?_)
  exact lX7_fitting_13_t C0 _ _ _ _ _ _ _ _ _ (lv_sub hl [3, 4, 5, 6, 2, 1, 0] rfl)
abbrev rm_X7_fits : Room := { frames := 8, cells := 0, slots := 0, locals := 186 }
def mX7_fits (S : vS) (v1 : Int32) (v2 : Int32) (v3 : Int32) : Option (Int32 × vS) := (if (mX7_isGod S v1) = 0 then (some ((-1 : Int32), S)) else (if (mX7_isRow v2) = 0 then (some ((-1 : Int32), S)) else (if (mX7_isRow v3) = 0 then (some ((-1 : Int32), S)) else ((mX7_needBook S v2 v3).bind fun q27 => (lt q27.1 fun v4_30 => (if 0 ≤ v4_30 then ((mX7_fitting q27.2 v1 v2 v3).bind fun q46 => (some (q46.1, q46.2))) else (some (v4_30, q27.2))))))))
set_option maxHeartbeats 4000000 in
set_option maxRecDepth 100000 in
theorem c_X7_fits {l : Launch} {D : va_G} {cA : Nat → ClassId} {ad : Nat → Nat} (G : Gx shM ad ExM) (v1 : Int32) (v2 : Int32) (v3 : Int32) (S : vS) (r : (Int32 × vS)) (hr : (mX7_fits S v1 v2 v3) = some r) : Met l yX7_fits (Cond.code yX7_fits cX7_fits 5 (some .int) :: ALL) rm_X7_fits (Po D vwCl tlM shM cA ad ExM [.ref (ad 0), .int v1, .int v2, .int v3] S) (Qo D vwCl shM cA ad (some (.int r.1)) r.2 True) 0 0 (aw shM ad) := by
  refine Met.sx (M := (mX7_fits S v1 v2 v3)) (rv := (fun q => some (.int q.1) : (Int32 × vS) → Option Value)) (rs := fun q => q.2) (B := fun _ => True) (by decide) ⟨rfl, rfl⟩ (Nat.le_of_ble_eq_true rfl) G (fun p e s m args below meth c C0 ls hl => ?_) hr
  have hl : lv_has ls 5 [(0, .ref (ad 0)), (1, .int v1), (2, .int v2), (3, .int v3)] := hl
  rw [mX7_fits]
  refine sx_aload_n C0 dX7_fits_0 rfl (lv_at hl 0 rfl) ?_
  refine sx_iload_n C0 dX7_fits_1 rfl (lv_at hl 1 rfl) ?_
  refine cv_X7_208 (As := [.int v1]) C0 (c_X7_isGod C0.2.2.2.2.2.2.2.1 v1 S) is7 ⟨rfl, rfl⟩ ⟨Nat.le_of_ble_eq_true rfl, Nat.le_of_ble_eq_true rfl⟩ rfl hl.1 (Nat.le_of_ble_eq_true rfl) rfl dX7_fits_2 (fun hb2 => ?_)
  refine sx_if_eq (tgt := 22) C0 dX7_fits_5 (by decide) (fun _ => ?_) (fun _ => ?_)
  · refine sx_iconst (v := (-1)) C0 dX7_fits_22 (by decide) ?_
    exact sx_iret C0 rfl rfl trivial dX7_fits_23
  · refine sx_iload_n C0 dX7_fits_8 rfl (lv_at hl 2 rfl) ?_
    refine cv_X7_90 (As := [.int v2]) C0 (c_X7_isRow C0.2.2.2.2.2.2.2.1 v2 S) ⟨rfl, rfl⟩ ⟨Nat.le_of_ble_eq_true rfl, Nat.le_of_ble_eq_true rfl⟩ rfl hl.1 (Nat.le_of_ble_eq_true rfl) rfl dX7_fits_9 (fun hb9 => ?_)
    refine sx_if_eq (tgt := 22) C0 dX7_fits_12 (by decide) (fun _ => ?_) (fun _ => ?_)
    · refine sx_iconst (v := (-1)) C0 dX7_fits_22 (by decide) ?_
      exact sx_iret C0 rfl rfl trivial dX7_fits_23
    · refine sx_iload_n C0 dX7_fits_15 rfl (lv_at hl 3 rfl) ?_
      refine cv_X7_90 (As := [.int v3]) C0 (c_X7_isRow C0.2.2.2.2.2.2.2.1 v3 S) ⟨rfl, rfl⟩ ⟨Nat.le_of_ble_eq_true rfl, Nat.le_of_ble_eq_true rfl⟩ rfl hl.1 (Nat.le_of_ble_eq_true rfl) rfl dX7_fits_16 (fun hb16 => ?_)
      refine sx_if_ne (tgt := 24) C0 dX7_fits_19 (by decide) (fun _ => ?_) (fun _ => ?_)
      · refine sx_iconst (v := (-1)) C0 dX7_fits_22 (by decide) ?_
        exact sx_iret C0 rfl rfl trivial dX7_fits_23
      · refine sx_aload_n C0 dX7_fits_24 rfl (lv_at hl 0 rfl) ?_
        refine sx_iload_n C0 dX7_fits_25 rfl (lv_at hl 2 rfl) ?_
        refine sx_iload_n C0 dX7_fits_26 rfl (lv_at hl 3 rfl) ?_
        refine sw_bind (fun q27 e27 => ?_)
        refine cv_X7_299 (As := [.int v2, .int v3]) C0 (c_X7_needBook C0.2.2.2.2.2.2.2.1 v2 v3 S _ e27) is7 ⟨rfl, rfl⟩ ⟨Nat.le_of_ble_eq_true rfl, Nat.le_of_ble_eq_true rfl⟩ rfl hl.1 (Nat.le_of_ble_eq_true rfl) rfl dX7_fits_27 (fun _ => ?_)
        refine sw_lt (val := .int) (fun v4_30 => ?_)
        refine sx_istore (lv' := [(4, .int v4_30), (0, .ref (ad 0)), (1, .int v1), (2, .int v2), (3, .int v3)]) C0 dX7_fits_30 hl (by decide) rfl (fun ls hl => ?_)
        refine sx_iload C0 dX7_fits_32 (lv_at hl 0 rfl) ?_
        refine sx_if_ge (tgt := 42) C0 dX7_fits_34 (by decide) (fun _ => ?_) (fun _ => ?_)
        · refine sx_aload_n C0 dX7_fits_42 rfl (lv_at hl 1 rfl) ?_
          refine sx_iload_n C0 dX7_fits_43 rfl (lv_at hl 2 rfl) ?_
          refine sx_iload_n C0 dX7_fits_44 rfl (lv_at hl 3 rfl) ?_
          refine sx_iload_n C0 dX7_fits_45 rfl (lv_at hl 4 rfl) ?_
          refine sw_bind (fun q46 e46 => ?_)
          refine cv_X7_302 (As := [.int v1, .int v2, .int v3]) C0 (c_X7_fitting C0.2.2.2.2.2.2.2.1 v1 v2 v3 q27.2 _ e46) is7 ⟨rfl, rfl⟩ ⟨Nat.le_of_ble_eq_true rfl, Nat.le_of_ble_eq_true rfl⟩ rfl hl.1 (Nat.le_of_ble_eq_true rfl) rfl dX7_fits_46 (fun _ => ?_)
          exact sx_iret C0 rfl rfl trivial dX7_fits_49
        · refine sx_iload C0 dX7_fits_37 (lv_at hl 0 rfl) ?_
          refine sx_goto (tgt := 49) C0 dX7_fits_39 (by decide) ?_
          exact sx_iret C0 rfl rfl trivial dX7_fits_49
abbrev rm_X7_whose : Room := { frames := 8, cells := 0, slots := 0, locals := 186 }
def bX7_whose_112    (S : vS) (v4 : Int32) (v5 : Int32)  : Option (Int32 × vS) := (lt (mX7_tells S v5 v4) fun q117 => (some (q117.1, q117.2)))
set_option maxHeartbeats 4000000 in
set_option maxRecDepth 100000 in
theorem bX7_whose_112_t {p : Program} {l : Launch} {e : Env} {s : State} {m : MethodId} {args : Array Value} {below : List Frame} {meth : Method} {c : Code} {D : va_G} {cA : Nat → ClassId} {ad : Nat → Nat}   (C0 : Cx D vwCl tlM shM cA ad ExM RX7 cX7_whose 8 (some .int) p s m args meth c)  (S : vS) (v4 : Int32) (v5 : Int32) (ls : Array Slot) (hl : lv_has ls 8 [(0, .ref (ad 0)), (4, .int v4), (5, .int v5)]) : SW p l e rm_X7_whose s m args below meth c D vwCl shM cA ad (Fq D vwCl shM cA ad below args s (fun q => some (.int q.1) : (Int32 × vS) → Option Value) (fun q => q.2) (fun _ => True)) (bX7_whose_112 S v4 v5) S 112 ls [] := by
  rw [bX7_whose_112]
  refine sx_aload_n C0 dX7_whose_112 rfl (lv_at hl 0 rfl) ?_
  refine sx_iload C0 dX7_whose_113 (lv_at hl 2 rfl) ?_
  refine sx_iload C0 dX7_whose_115 (lv_at hl 1 rfl) ?_
  refine cv_X7_102 (As := [.int v5, .int v4]) C0 (c_X7_tells C0.2.2.2.2.2.2.2.1 v5 v4 S) is7 ⟨rfl, rfl⟩ ⟨Nat.le_of_ble_eq_true rfl, Nat.le_of_ble_eq_true rfl⟩ rfl hl.1 (Nat.le_of_ble_eq_true rfl) rfl dX7_whose_117 (fun _ => ?_)
  refine sw_ltQ (val := .int) (fun q117 => ?_)
  exact sx_iret C0 rfl rfl trivial dX7_whose_120
def bX7_whose_93   (K48 : vS → Int32 → Int32 → Int32 → Option (Int32 × vS)) (S : vS) (v1 : Int32) (v2 : Int32) (v5 : Int32) (v6 : Int32) (v7 : Int32) (t0 : Int32) (t1 : Int32) : Option (Int32 × vS) := (lt (t1 ||| t0) fun v4_94 => ((mX7_bits v7).bind fun a100 => (lt (v5 + a100) fun v5_104 => (K48 S v4_94 v5_104 (v6 + (1 : Int32))))))
set_option maxHeartbeats 4000000 in
set_option maxRecDepth 100000 in
theorem bX7_whose_93_t {p : Program} {l : Launch} {e : Env} {s : State} {m : MethodId} {args : Array Value} {below : List Frame} {meth : Method} {c : Code} {D : va_G} {cA : Nat → ClassId} {ad : Nat → Nat} {K48 : vS → Int32 → Int32 → Int32 → Option (Int32 × vS)}  (C0 : Cx D vwCl tlM shM cA ad ExM RX7 cX7_whose 8 (some .int) p s m args meth c)  (S : vS) (v1 : Int32) (v2 : Int32) (v5 : Int32) (v6 : Int32) (v7 : Int32) (t0 : Int32) (t1 : Int32) (hK48 : ∀ (S : vS) (v4 : Int32) (v5 : Int32) (v6 : Int32) (ls : Array Slot), lv_has ls 8 [(0, .ref (ad 0)), (1, .int v1), (2, .int v2), (4, .int v4), (5, .int v5), (6, .int v6)] → SW p l e rm_X7_whose s m args below meth c D vwCl shM cA ad (Fq D vwCl shM cA ad below args s (fun q => some (.int q.1) : (Int32 × vS) → Option Value) (fun q => q.2) (fun _ => True)) (K48 S v4 v5 v6) S 48 ls []) (ls : Array Slot) (hl : lv_has ls 8 [(0, .ref (ad 0)), (1, .int v1), (2, .int v2), (5, .int v5), (6, .int v6), (7, .int v7)]) : SW p l e rm_X7_whose s m args below meth c D vwCl shM cA ad (Fq D vwCl shM cA ad below args s (fun q => some (.int q.1) : (Int32 × vS) → Option Value) (fun q => q.2) (fun _ => True)) (bX7_whose_93 K48 S v1 v2 v5 v6 v7 t0 t1) S 93 ls [.int t0, .int t1] := by
  rw [bX7_whose_93]
  refine sx_ior C0 dX7_whose_93 ?_
  refine sw_lt (val := .int) (fun v4_94 => ?_)
  refine sx_istore (lv' := [(4, .int v4_94), (0, .ref (ad 0)), (1, .int v1), (2, .int v2), (5, .int v5), (6, .int v6), (7, .int v7)]) C0 dX7_whose_94 hl (by decide) rfl (fun ls hl => ?_)
  refine sx_iload C0 dX7_whose_96 (lv_at hl 4 rfl) ?_
  refine sx_iload C0 dX7_whose_98 (lv_at hl 6 rfl) ?_
  refine sw_bind (fun a100 e100 => ?_)
  refine cv_X7_171 (As := [.int v7]) C0 (c_X7_bits C0.2.2.2.2.2.2.2.1 v7 S _ e100) ⟨rfl, rfl⟩ ⟨Nat.le_of_ble_eq_true rfl, Nat.le_of_ble_eq_true rfl⟩ rfl hl.1 (Nat.le_of_ble_eq_true rfl) rfl dX7_whose_100 (fun _ => ?_)
  refine sx_iadd C0 dX7_whose_103 ?_
  refine sw_lt (val := .int) (fun v5_104 => ?_)
  refine sx_istore (lv' := [(5, .int v5_104), (4, .int v4_94), (0, .ref (ad 0)), (1, .int v1), (2, .int v2), (6, .int v6), (7, .int v7)]) C0 dX7_whose_104 hl (by decide) rfl (fun ls hl => ?_)
  refine sx_iinc (v := (v6 + (1 : Int32))) (lv' := [(6, .int (v6 + (1 : Int32))), (5, .int v5_104), (4, .int v4_94), (0, .ref (ad 0)), (1, .int v1), (2, .int v2), (7, .int v7)]) C0 dX7_whose_106 hl (k := 5) rfl rfl (by decide) rfl (fun ls hl => ?_)
  refine sx_goto (tgt := 48) C0 dX7_whose_109 (by decide) ?_
  exact hK48 _ _ _ _ _ (lv_sub hl [3, 4, 5, 2, 1, 0] rfl)
def lX7_whose_48    (v1 : Int32) (v2 : Int32) : Nat → vS → Int32 → Int32 → Int32 → Option (Int32 × vS)
  | 0, _, _, _, _ => none
  | n + 1, S, v4, v5, v6 => (if (S.1 0 10) ≤ v6 then (bX7_whose_112 S v4 v5) else ((mX7_fitting S v6 v1 v2).bind fun q62 => ((mX7_patienceOf q62.2 v6).bind fun a69 => (lt (q62.1 &&& (((1 : Int32) <<< (a69 &&& (31 : Int32))) ^^^ (-1 : Int32))) fun v7_76 => (if v7_76 = 0 then (bX7_whose_93 (lX7_whose_48 v1 v2 n) q62.2 v1 v2 v5 v6 v7_76 (0 : Int32) v4) else (bX7_whose_93 (lX7_whose_48 v1 v2 n) q62.2 v1 v2 v5 v6 v7_76 ((1 : Int32) <<< (v6 &&& (31 : Int32))) v4))))))
set_option maxHeartbeats 4000000 in
set_option maxRecDepth 100000 in
theorem lX7_whose_48_t {p : Program} {l : Launch} {e : Env} {s : State} {m : MethodId} {args : Array Value} {below : List Frame} {meth : Method} {c : Code} {D : va_G} {cA : Nat → ClassId} {ad : Nat → Nat}   (C0 : Cx D vwCl tlM shM cA ad ExM RX7 cX7_whose 8 (some .int) p s m args meth c)   (v1 : Int32) (v2 : Int32)  : ∀ (n : Nat) (S : vS) (v4 : Int32) (v5 : Int32) (v6 : Int32) (ls : Array Slot), lv_has ls 8 [(0, .ref (ad 0)), (1, .int v1), (2, .int v2), (4, .int v4), (5, .int v5), (6, .int v6)] → SW p l e rm_X7_whose s m args below meth c D vwCl shM cA ad (Fq D vwCl shM cA ad below args s (fun q => some (.int q.1) : (Int32 × vS) → Option Value) (fun q => q.2) (fun _ => True)) (lX7_whose_48 v1 v2 n S v4 v5 v6) S 48 ls [] := by
  intro n
  induction n with
  | zero =>
    intro S v4 v5 v6 ls hl
    rw [lX7_whose_48]
    exact sw_none
  | succ n ih =>
    intro S v4 v5 v6 ls hl
    rw [lX7_whose_48]
    refine sx_iload C0 dX7_whose_48 (lv_at hl 5 rfl) ?_
    refine sx_aload_n C0 dX7_whose_50 rfl (lv_at hl 0 rfl) ?_
    refine gf_X7_139 C0 is7 dX7_whose_51 ?_
    refine sx_icmp_ge (tgt := 112) C0 dX7_whose_54 (by decide) (fun _ => ?_) (fun _ => ?_)
    · exact bX7_whose_112_t C0 _ _ _ _ (lv_sub hl [0, 3, 4] rfl)
    · refine sx_aload_n C0 dX7_whose_57 rfl (lv_at hl 0 rfl) ?_
      refine sx_iload C0 dX7_whose_58 (lv_at hl 5 rfl) ?_
      refine sx_iload_n C0 dX7_whose_60 rfl (lv_at hl 1 rfl) ?_
      refine sx_iload_n C0 dX7_whose_61 rfl (lv_at hl 2 rfl) ?_
      refine sw_bind (fun q62 e62 => ?_)
      refine cv_X7_302 (As := [.int v6, .int v1, .int v2]) C0 (c_X7_fitting C0.2.2.2.2.2.2.2.1 v6 v1 v2 S _ e62) is7 ⟨rfl, rfl⟩ ⟨Nat.le_of_ble_eq_true rfl, Nat.le_of_ble_eq_true rfl⟩ rfl hl.1 (Nat.le_of_ble_eq_true rfl) rfl dX7_whose_62 (fun _ => ?_)
      refine sx_iconst (v := 1) C0 dX7_whose_65 (by decide) ?_
      refine sx_aload_n C0 dX7_whose_66 rfl (lv_at hl 0 rfl) ?_
      refine sx_iload C0 dX7_whose_67 (lv_at hl 5 rfl) ?_
      refine sw_bind (fun a69 e69 => ?_)
      refine cv_X7_192 (As := [.int v6]) C0 (c_X7_patienceOf C0.2.2.2.2.2.2.2.1 v6 q62.2 _ e69) is7 ⟨rfl, rfl⟩ ⟨Nat.le_of_ble_eq_true rfl, Nat.le_of_ble_eq_true rfl⟩ rfl hl.1 (Nat.le_of_ble_eq_true rfl) rfl dX7_whose_69 (fun _ => ?_)
      refine sx_ishl C0 dX7_whose_72 ?_
      refine sx_iconst (v := (-1)) C0 dX7_whose_73 (by decide) ?_
      refine sx_ixor C0 dX7_whose_74 ?_
      refine sx_iand C0 dX7_whose_75 ?_
      refine sw_lt (val := .int) (fun v7_76 => ?_)
      refine sx_istore (lv' := [(7, .int v7_76), (0, .ref (ad 0)), (1, .int v1), (2, .int v2), (4, .int v4), (5, .int v5), (6, .int v6)]) C0 dX7_whose_76 hl (by decide) rfl (fun ls hl => ?_)
      refine sx_iload C0 dX7_whose_78 (lv_at hl 4 rfl) ?_
      refine sx_iload C0 dX7_whose_80 (lv_at hl 0 rfl) ?_
      refine sx_if_eq (tgt := 92) C0 dX7_whose_82 (by decide) (fun _ => ?_) (fun _ => ?_)
      · refine sx_iconst (v := 0) C0 dX7_whose_92 (by decide) ?_
        exact bX7_whose_93_t C0 _ _ _ _ _ _ _ _ ih _ (lv_sub hl [1, 2, 3, 5, 6, 0] rfl)
      · refine sx_iconst (v := 1) C0 dX7_whose_85 (by decide) ?_
        refine sx_iload C0 dX7_whose_86 (lv_at hl 6 rfl) ?_
        refine sx_ishl C0 dX7_whose_88 ?_
        refine sx_goto (tgt := 93) C0 dX7_whose_89 (by decide) ?_
        exact bX7_whose_93_t C0 _ _ _ _ _ _ _ _ ih _ (lv_sub hl [1, 2, 3, 5, 6, 0] rfl)
def mX7_whose (S : vS) (v1 : Int32) (v2 : Int32) : Option (Int32 × vS) := (if (mX7_isRow v1) = 0 then (some ((-1 : Int32), S)) else (if (mX7_isRow v2) = 0 then (some ((-1 : Int32), S)) else (if (S.1 0 10) = 0 then (some ((-4 : Int32), S)) else ((mX7_needBook S v1 v2).bind fun q29 => (lt q29.1 fun v3_32 => (if 0 ≤ v3_32 then (lX7_whose_48 v1 v2 FU q29.2 (0 : Int32) (0 : Int32) (0 : Int32)) else (some (v3_32, q29.2))))))))
set_option maxHeartbeats 4000000 in
set_option maxRecDepth 100000 in
theorem c_X7_whose {l : Launch} {D : va_G} {cA : Nat → ClassId} {ad : Nat → Nat} (G : Gx shM ad ExM) (v1 : Int32) (v2 : Int32) (S : vS) (r : (Int32 × vS)) (hr : (mX7_whose S v1 v2) = some r) : Met l yX7_whose (Cond.code yX7_whose cX7_whose 8 (some .int) :: ALL) rm_X7_whose (Po D vwCl tlM shM cA ad ExM [.ref (ad 0), .int v1, .int v2] S) (Qo D vwCl shM cA ad (some (.int r.1)) r.2 True) 0 0 (aw shM ad) := by
  refine Met.sx (M := (mX7_whose S v1 v2)) (rv := (fun q => some (.int q.1) : (Int32 × vS) → Option Value)) (rs := fun q => q.2) (B := fun _ => True) (by decide) ⟨rfl, rfl⟩ (Nat.le_of_ble_eq_true rfl) G (fun p e s m args below meth c C0 ls hl => ?_) hr
  have hl : lv_has ls 8 [(0, .ref (ad 0)), (1, .int v1), (2, .int v2)] := hl
  rw [mX7_whose]
  refine sx_iload_n C0 dX7_whose_0 rfl (lv_at hl 1 rfl) ?_
  refine cv_X7_90 (As := [.int v1]) C0 (c_X7_isRow C0.2.2.2.2.2.2.2.1 v1 S) ⟨rfl, rfl⟩ ⟨Nat.le_of_ble_eq_true rfl, Nat.le_of_ble_eq_true rfl⟩ rfl hl.1 (Nat.le_of_ble_eq_true rfl) rfl dX7_whose_1 (fun hb1 => ?_)
  refine sx_if_eq (tgt := 14) C0 dX7_whose_4 (by decide) (fun _ => ?_) (fun _ => ?_)
  · refine sx_iconst (v := (-1)) C0 dX7_whose_14 (by decide) ?_
    exact sx_iret C0 rfl rfl trivial dX7_whose_15
  · refine sx_iload_n C0 dX7_whose_7 rfl (lv_at hl 2 rfl) ?_
    refine cv_X7_90 (As := [.int v2]) C0 (c_X7_isRow C0.2.2.2.2.2.2.2.1 v2 S) ⟨rfl, rfl⟩ ⟨Nat.le_of_ble_eq_true rfl, Nat.le_of_ble_eq_true rfl⟩ rfl hl.1 (Nat.le_of_ble_eq_true rfl) rfl dX7_whose_8 (fun hb8 => ?_)
    refine sx_if_ne (tgt := 16) C0 dX7_whose_11 (by decide) (fun _ => ?_) (fun _ => ?_)
    · refine sx_iconst (v := (-1)) C0 dX7_whose_14 (by decide) ?_
      exact sx_iret C0 rfl rfl trivial dX7_whose_15
    · refine sx_aload_n C0 dX7_whose_16 rfl (lv_at hl 0 rfl) ?_
      refine gf_X7_139 C0 is7 dX7_whose_17 ?_
      refine sx_if_ne (tgt := 26) C0 dX7_whose_20 (by decide) (fun _ => ?_) (fun _ => ?_)
      · refine sx_bipush (v := (-4)) C0 dX7_whose_23 (by decide) ?_
        exact sx_iret C0 rfl rfl trivial dX7_whose_25
      · refine sx_aload_n C0 dX7_whose_26 rfl (lv_at hl 0 rfl) ?_
        refine sx_iload_n C0 dX7_whose_27 rfl (lv_at hl 1 rfl) ?_
        refine sx_iload_n C0 dX7_whose_28 rfl (lv_at hl 2 rfl) ?_
        refine sw_bind (fun q29 e29 => ?_)
        refine cv_X7_299 (As := [.int v1, .int v2]) C0 (c_X7_needBook C0.2.2.2.2.2.2.2.1 v1 v2 S _ e29) is7 ⟨rfl, rfl⟩ ⟨Nat.le_of_ble_eq_true rfl, Nat.le_of_ble_eq_true rfl⟩ rfl hl.1 (Nat.le_of_ble_eq_true rfl) rfl dX7_whose_29 (fun _ => ?_)
        refine sw_lt (val := .int) (fun v3_32 => ?_)
        refine sx_istore_n (lv' := [(3, .int v3_32), (0, .ref (ad 0)), (1, .int v1), (2, .int v2)]) C0 dX7_whose_32 rfl hl (by decide) rfl (fun ls hl => ?_)
        refine sx_iload_n C0 dX7_whose_33 rfl (lv_at hl 0 rfl) ?_
        refine sx_if_ge (tgt := 39) C0 dX7_whose_34 (by decide) (fun _ => ?_) (fun _ => ?_)
        · refine sx_iconst (v := 0) C0 dX7_whose_39 (by decide) ?_
          refine sx_istore (lv' := [(4, .int (0 : Int32)), (3, .int v3_32), (0, .ref (ad 0)), (1, .int v1), (2, .int v2)]) C0 dX7_whose_40 hl (by decide) rfl (fun ls hl => ?_)
          refine sx_iconst (v := 0) C0 dX7_whose_42 (by decide) ?_
          refine sx_istore (lv' := [(5, .int (0 : Int32)), (4, .int (0 : Int32)), (3, .int v3_32), (0, .ref (ad 0)), (1, .int v1), (2, .int v2)]) C0 dX7_whose_43 hl (by decide) rfl (fun ls hl => ?_)
          refine sx_iconst (v := 0) C0 dX7_whose_45 (by decide) ?_
          refine sx_istore (lv' := [(6, .int (0 : Int32)), (5, .int (0 : Int32)), (4, .int (0 : Int32)), (3, .int v3_32), (0, .ref (ad 0)), (1, .int v1), (2, .int v2)]) C0 dX7_whose_46 hl (by decide) rfl (fun ls hl => ?_)
          exact lX7_whose_48_t C0 _ _ _ _ _ _ _ _ (lv_sub hl [4, 5, 6, 2, 1, 0] rfl)
        · refine sx_iload_n C0 dX7_whose_37 rfl (lv_at hl 0 rfl) ?_
          exact sx_iret C0 rfl rfl trivial dX7_whose_38
abbrev rm_X7_leftBy : Room := { frames := 7, cells := 0, slots := 0, locals := 158 }
def bX7_leftBy_121   (K77 : Int32 → Int32 → Option (Int32 × vS)) (K90 : Int32 → Int32 → Option (Int32 × vS)) (S : vS) (v4 : Int32) (v5 : Int32) (v7 : Int32) (t0 : Int32) (t1 : Int32) : Option (Int32 × vS) := (lt (t1 + t0) fun v6_122 => (K90 v6_122 (v7 + (1 : Int32))))
set_option maxHeartbeats 4000000 in
set_option maxRecDepth 100000 in
theorem bX7_leftBy_121_t {p : Program} {l : Launch} {e : Env} {s : State} {m : MethodId} {args : Array Value} {below : List Frame} {meth : Method} {c : Code} {D : va_G} {cA : Nat → ClassId} {ad : Nat → Nat} {K77 : Int32 → Int32 → Option (Int32 × vS)} {K90 : Int32 → Int32 → Option (Int32 × vS)}  (C0 : Cx D vwCl tlM shM cA ad ExM RX7 cX7_leftBy 8 (some .int) p s m args meth c)  (S : vS) (v4 : Int32) (v5 : Int32) (v7 : Int32) (t0 : Int32) (t1 : Int32) (hK77 : ∀ (v4 : Int32) (v5 : Int32) (ls : Array Slot), lv_has ls 8 [(0, .ref (ad 0)), (4, .int v4), (5, .int v5)] → SW p l e rm_X7_leftBy s m args below meth c D vwCl shM cA ad (Fq D vwCl shM cA ad below args s (fun q => some (.int q.1) : (Int32 × vS) → Option Value) (fun q => q.2) (fun _ => True)) (K77 v4 v5) S 77 ls []) (hK90 : ∀ (v6 : Int32) (v7 : Int32) (ls : Array Slot), lv_has ls 8 [(0, .ref (ad 0)), (4, .int v4), (5, .int v5), (6, .int v6), (7, .int v7)] → SW p l e rm_X7_leftBy s m args below meth c D vwCl shM cA ad (Fq D vwCl shM cA ad below args s (fun q => some (.int q.1) : (Int32 × vS) → Option Value) (fun q => q.2) (fun _ => True)) (K90 v6 v7) S 90 ls []) (ls : Array Slot) (hl : lv_has ls 8 [(0, .ref (ad 0)), (4, .int v4), (5, .int v5), (7, .int v7)]) : SW p l e rm_X7_leftBy s m args below meth c D vwCl shM cA ad (Fq D vwCl shM cA ad below args s (fun q => some (.int q.1) : (Int32 × vS) → Option Value) (fun q => q.2) (fun _ => True)) (bX7_leftBy_121 K77 K90 S v4 v5 v7 t0 t1) S 121 ls [.int t0, .int t1] := by
  rw [bX7_leftBy_121]
  refine sx_iadd C0 dX7_leftBy_121 ?_
  refine sw_lt (val := .int) (fun v6_122 => ?_)
  refine sx_istore (lv' := [(6, .int v6_122), (0, .ref (ad 0)), (4, .int v4), (5, .int v5), (7, .int v7)]) C0 dX7_leftBy_122 hl (by decide) rfl (fun ls hl => ?_)
  refine sx_iinc (v := (v7 + (1 : Int32))) (lv' := [(7, .int (v7 + (1 : Int32))), (6, .int v6_122), (0, .ref (ad 0)), (4, .int v4), (5, .int v5)]) C0 dX7_leftBy_124 hl (k := 4) rfl rfl (by decide) rfl (fun ls hl => ?_)
  refine sx_goto (tgt := 90) C0 dX7_leftBy_127 (by decide) ?_
  exact hK90 _ _ _ (lv_sub hl [2, 3, 4, 1, 0] rfl)
def bX7_leftBy_130   (K77 : Int32 → Int32 → Option (Int32 × vS)) (S : vS) (v4 : Int32) (v5 : Int32) (v6 : Int32)  : Option (Int32 × vS) := (lt (mX7_greater v4 v6) fun v4_137 => (K77 v4_137 (v5 + (1 : Int32))))
set_option maxHeartbeats 4000000 in
set_option maxRecDepth 100000 in
theorem bX7_leftBy_130_t {p : Program} {l : Launch} {e : Env} {s : State} {m : MethodId} {args : Array Value} {below : List Frame} {meth : Method} {c : Code} {D : va_G} {cA : Nat → ClassId} {ad : Nat → Nat} {K77 : Int32 → Int32 → Option (Int32 × vS)}  (C0 : Cx D vwCl tlM shM cA ad ExM RX7 cX7_leftBy 8 (some .int) p s m args meth c)  (S : vS) (v4 : Int32) (v5 : Int32) (v6 : Int32) (hK77 : ∀ (v4 : Int32) (v5 : Int32) (ls : Array Slot), lv_has ls 8 [(0, .ref (ad 0)), (4, .int v4), (5, .int v5)] → SW p l e rm_X7_leftBy s m args below meth c D vwCl shM cA ad (Fq D vwCl shM cA ad below args s (fun q => some (.int q.1) : (Int32 × vS) → Option Value) (fun q => q.2) (fun _ => True)) (K77 v4 v5) S 77 ls []) (ls : Array Slot) (hl : lv_has ls 8 [(0, .ref (ad 0)), (4, .int v4), (5, .int v5), (6, .int v6)]) : SW p l e rm_X7_leftBy s m args below meth c D vwCl shM cA ad (Fq D vwCl shM cA ad below args s (fun q => some (.int q.1) : (Int32 × vS) → Option Value) (fun q => q.2) (fun _ => True)) (bX7_leftBy_130 K77 S v4 v5 v6) S 130 ls [] := by
  rw [bX7_leftBy_130]
  refine sx_iload C0 dX7_leftBy_130 (lv_at hl 1 rfl) ?_
  refine sx_iload C0 dX7_leftBy_132 (lv_at hl 3 rfl) ?_
  refine cv_X7_177 (As := [.int v4, .int v6]) C0 (c_X7_greater C0.2.2.2.2.2.2.2.1 v4 v6 S) ⟨rfl, rfl⟩ ⟨Nat.le_of_ble_eq_true rfl, Nat.le_of_ble_eq_true rfl⟩ rfl hl.1 (Nat.le_of_ble_eq_true rfl) rfl dX7_leftBy_134 (fun _ => ?_)
  refine sw_lt (val := .int) (fun v4_137 => ?_)
  refine sx_istore (lv' := [(4, .int v4_137), (0, .ref (ad 0)), (5, .int v5), (6, .int v6)]) C0 dX7_leftBy_137 hl (by decide) rfl (fun ls hl => ?_)
  refine sx_iinc (v := (v5 + (1 : Int32))) (lv' := [(5, .int (v5 + (1 : Int32))), (4, .int v4_137), (0, .ref (ad 0)), (6, .int v6)]) C0 dX7_leftBy_139 hl (k := 2) rfl rfl (by decide) rfl (fun ls hl => ?_)
  refine sx_goto (tgt := 77) C0 dX7_leftBy_142 (by decide) ?_
  exact hK77 _ _ _ (lv_sub hl [2, 1, 0] rfl)
def lX7_leftBy_90  (S : vS) (K77 : Int32 → Int32 → Option (Int32 × vS)) (v4 : Int32) (v5 : Int32) : Nat → Int32 → Int32 → Option (Int32 × vS)
  | 0, _, _ => none
  | n + 1, v6, v7 => (if (6 : Int32) < v7 then (bX7_leftBy_130 K77 S v4 v5 v6) else ((gI (S.1 19) 7 v7).bind fun a105 => ((gI (S.1 19) 7 v5).bind fun a112 => (if a105 = a112 then (bX7_leftBy_121 K77 (lX7_leftBy_90 S K77 v4 v5 n) S v4 v5 v7 (1 : Int32) v6) else (bX7_leftBy_121 K77 (lX7_leftBy_90 S K77 v4 v5 n) S v4 v5 v7 (0 : Int32) v6)))))
set_option maxHeartbeats 4000000 in
set_option maxRecDepth 100000 in
theorem lX7_leftBy_90_t {p : Program} {l : Launch} {e : Env} {s : State} {m : MethodId} {args : Array Value} {below : List Frame} {meth : Method} {c : Code} {D : va_G} {cA : Nat → ClassId} {ad : Nat → Nat} {K77 : Int32 → Int32 → Option (Int32 × vS)}  (C0 : Cx D vwCl tlM shM cA ad ExM RX7 cX7_leftBy 8 (some .int) p s m args meth c)  (S : vS) (v4 : Int32) (v5 : Int32) (hK77 : ∀ (v4 : Int32) (v5 : Int32) (ls : Array Slot), lv_has ls 8 [(0, .ref (ad 0)), (4, .int v4), (5, .int v5)] → SW p l e rm_X7_leftBy s m args below meth c D vwCl shM cA ad (Fq D vwCl shM cA ad below args s (fun q => some (.int q.1) : (Int32 × vS) → Option Value) (fun q => q.2) (fun _ => True)) (K77 v4 v5) S 77 ls []) : ∀ (n : Nat) (v6 : Int32) (v7 : Int32) (ls : Array Slot), lv_has ls 8 [(0, .ref (ad 0)), (4, .int v4), (5, .int v5), (6, .int v6), (7, .int v7)] → SW p l e rm_X7_leftBy s m args below meth c D vwCl shM cA ad (Fq D vwCl shM cA ad below args s (fun q => some (.int q.1) : (Int32 × vS) → Option Value) (fun q => q.2) (fun _ => True)) (lX7_leftBy_90 S K77 v4 v5 n v6 v7) S 90 ls [] := by
  intro n
  induction n with
  | zero =>
    intro v6 v7 ls hl
    rw [lX7_leftBy_90]
    exact sw_none
  | succ n ih =>
    intro v6 v7 ls hl
    rw [lX7_leftBy_90]
    refine sx_iload C0 dX7_leftBy_90 (lv_at hl 4 rfl) ?_
    refine sx_bipush (v := 6) C0 dX7_leftBy_92 (by decide) ?_
    refine sx_icmp_gt (tgt := 130) C0 dX7_leftBy_94 (by decide) (fun _ => ?_) (fun _ => ?_)
    · exact bX7_leftBy_130_t C0 _ _ _ _ hK77 _ (lv_sub hl [0, 1, 2, 3] rfl)
    · refine sx_iload C0 dX7_leftBy_97 (lv_at hl 3 rfl) ?_
      refine sx_aload_n C0 dX7_leftBy_99 rfl (lv_at hl 0 rfl) ?_
      refine gf_X7_70 C0 is7 dX7_leftBy_100 ?_
      refine sx_iload C0 dX7_leftBy_103 (lv_at hl 4 rfl) ?_
      refine sx_iald C0 is7_worthBy rfl dX7_leftBy_105 (fun a105 => ?_)
      refine sx_aload_n C0 dX7_leftBy_106 rfl (lv_at hl 0 rfl) ?_
      refine gf_X7_70 C0 is7 dX7_leftBy_107 ?_
      refine sx_iload C0 dX7_leftBy_110 (lv_at hl 2 rfl) ?_
      refine sx_iald C0 is7_worthBy rfl dX7_leftBy_112 (fun a112 => ?_)
      refine sx_icmp_ne (tgt := 120) C0 dX7_leftBy_113 (by decide) (fun _ => ?_) (fun _ => ?_)
      · refine sx_iconst (v := 1) C0 dX7_leftBy_116 (by decide) ?_
        refine sx_goto (tgt := 121) C0 dX7_leftBy_117 (by decide) ?_
        exact bX7_leftBy_121_t C0 _ _ _ _ _ _ hK77 ih _ (lv_sub hl [0, 1, 2, 4] rfl)
      · refine sx_iconst (v := 0) C0 dX7_leftBy_120 (by decide) ?_
        exact bX7_leftBy_121_t C0 _ _ _ _ _ _ hK77 ih _ (lv_sub hl [0, 1, 2, 4] rfl)
def lX7_leftBy_77  (S : vS)   : Nat → Int32 → Int32 → Option (Int32 × vS)
  | 0, _, _ => none
  | n + 1, v4, v5 => (if (6 : Int32) < v5 then (some (v4, S)) else (lX7_leftBy_90 S (lX7_leftBy_77 S n) v4 v5 FU (0 : Int32) (1 : Int32)))
set_option maxHeartbeats 4000000 in
set_option maxRecDepth 100000 in
theorem lX7_leftBy_77_t {p : Program} {l : Launch} {e : Env} {s : State} {m : MethodId} {args : Array Value} {below : List Frame} {meth : Method} {c : Code} {D : va_G} {cA : Nat → ClassId} {ad : Nat → Nat}   (C0 : Cx D vwCl tlM shM cA ad ExM RX7 cX7_leftBy 8 (some .int) p s m args meth c)  (S : vS)   : ∀ (n : Nat) (v4 : Int32) (v5 : Int32) (ls : Array Slot), lv_has ls 8 [(0, .ref (ad 0)), (4, .int v4), (5, .int v5)] → SW p l e rm_X7_leftBy s m args below meth c D vwCl shM cA ad (Fq D vwCl shM cA ad below args s (fun q => some (.int q.1) : (Int32 × vS) → Option Value) (fun q => q.2) (fun _ => True)) (lX7_leftBy_77 S n v4 v5) S 77 ls [] := by
  intro n
  induction n with
  | zero =>
    intro v4 v5 ls hl
    rw [lX7_leftBy_77]
    exact sw_none
  | succ n ih =>
    intro v4 v5 ls hl
    rw [lX7_leftBy_77]
    refine sx_iload C0 dX7_leftBy_77 (lv_at hl 2 rfl) ?_
    refine sx_bipush (v := 6) C0 dX7_leftBy_79 (by decide) ?_
    refine sx_icmp_gt (tgt := 145) C0 dX7_leftBy_81 (by decide) (fun _ => ?_) (fun _ => ?_)
    · refine sx_iload C0 dX7_leftBy_145 (lv_at hl 1 rfl) ?_
      exact sx_iret C0 rfl rfl trivial dX7_leftBy_147
    · refine sx_iconst (v := 0) C0 dX7_leftBy_84 (by decide) ?_
      refine sx_istore (lv' := [(6, .int (0 : Int32)), (0, .ref (ad 0)), (4, .int v4), (5, .int v5)]) C0 dX7_leftBy_85 hl (by decide) rfl (fun ls hl => ?_)
      refine sx_iconst (v := 1) C0 dX7_leftBy_87 (by decide) ?_
      refine sx_istore (lv' := [(7, .int (1 : Int32)), (6, .int (0 : Int32)), (0, .ref (ad 0)), (4, .int v4), (5, .int v5)]) C0 dX7_leftBy_88 hl (by decide) rfl (fun ls hl => ?_)
      exact lX7_leftBy_90_t C0 _ _ _ ih _ _ _ _ (lv_sub hl [2, 3, 4, 1, 0] rfl)
def bX7_leftBy_59    (S : vS) (v1 : Int32) (v3 : Int32)  : Option (Int32 × vS) := ((pI S 7 24 (((6 : Int32) * v1) + (2 : Int32)) v3).bind fun S70 => (lX7_leftBy_77 S70 FU (0 : Int32) (1 : Int32)))
set_option maxHeartbeats 4000000 in
set_option maxRecDepth 100000 in
theorem bX7_leftBy_59_t {p : Program} {l : Launch} {e : Env} {s : State} {m : MethodId} {args : Array Value} {below : List Frame} {meth : Method} {c : Code} {D : va_G} {cA : Nat → ClassId} {ad : Nat → Nat}   (C0 : Cx D vwCl tlM shM cA ad ExM RX7 cX7_leftBy 8 (some .int) p s m args meth c)  (S : vS) (v1 : Int32) (v3 : Int32) (ls : Array Slot) (hl : lv_has ls 8 [(0, .ref (ad 0)), (1, .int v1), (3, .int v3)]) : SW p l e rm_X7_leftBy s m args below meth c D vwCl shM cA ad (Fq D vwCl shM cA ad below args s (fun q => some (.int q.1) : (Int32 × vS) → Option Value) (fun q => q.2) (fun _ => True)) (bX7_leftBy_59 S v1 v3) S 59 ls [] := by
  rw [bX7_leftBy_59]
  refine sx_aload_n C0 dX7_leftBy_59 rfl (lv_at hl 0 rfl) ?_
  refine gf_X7_29 C0 is7 dX7_leftBy_60 ?_
  refine sx_bipush (v := 6) C0 dX7_leftBy_63 (by decide) ?_
  refine sx_iload_n C0 dX7_leftBy_65 rfl (lv_at hl 1 rfl) ?_
  refine sx_imul C0 dX7_leftBy_66 ?_
  refine sx_iconst (v := 2) C0 dX7_leftBy_67 (by decide) ?_
  refine sx_iadd C0 dX7_leftBy_68 ?_
  refine sx_iload_n C0 dX7_leftBy_69 rfl (lv_at hl 2 rfl) ?_
  refine sx_iast C0 is7_gods rfl dX7_leftBy_70 (fun S70 => ?_)
  refine sx_iconst (v := 0) C0 dX7_leftBy_71 (by decide) ?_
  refine sx_istore (lv' := [(4, .int (0 : Int32)), (0, .ref (ad 0)), (1, .int v1), (3, .int v3)]) C0 dX7_leftBy_72 hl (by decide) rfl (fun ls hl => ?_)
  refine sx_iconst (v := 1) C0 dX7_leftBy_74 (by decide) ?_
  refine sx_istore (lv' := [(5, .int (1 : Int32)), (4, .int (0 : Int32)), (0, .ref (ad 0)), (1, .int v1), (3, .int v3)]) C0 dX7_leftBy_75 hl (by decide) rfl (fun ls hl => ?_)
  exact lX7_leftBy_77_t C0 _ _ _ _ _ (lv_sub hl [2, 1, 0] rfl)
def lX7_leftBy_9    (v1 : Int32) (v2 : Int32) (v3 : Int32) : Nat → vS → Int32 → Option (Int32 × vS)
  | 0, _, _ => none
  | n + 1, S, v4 => (if (6 : Int32) < v4 then (bX7_leftBy_59 S v1 v3) else ((pI S 7 24 (((6 : Int32) * v1) + (2 : Int32)) v4).bind fun S28 => ((mX7_copyValley S28 (0 : Int32) (1 : Int32)).bind fun S32 => ((mX7_goes S32 (1 : Int32) v2).bind fun q38 => ((pI q38.2 19 7 v4 (q38.2.1 0 20)).bind fun S52 => ((lX7_leftBy_9 v1 v2 v3 n) S52 (v4 + (1 : Int32))))))))
set_option maxHeartbeats 4000000 in
set_option maxRecDepth 100000 in
theorem lX7_leftBy_9_t {p : Program} {l : Launch} {e : Env} {s : State} {m : MethodId} {args : Array Value} {below : List Frame} {meth : Method} {c : Code} {D : va_G} {cA : Nat → ClassId} {ad : Nat → Nat}   (C0 : Cx D vwCl tlM shM cA ad ExM RX7 cX7_leftBy 8 (some .int) p s m args meth c)   (v1 : Int32) (v2 : Int32) (v3 : Int32)  : ∀ (n : Nat) (S : vS) (v4 : Int32) (ls : Array Slot), lv_has ls 8 [(0, .ref (ad 0)), (1, .int v1), (2, .int v2), (3, .int v3), (4, .int v4)] → SW p l e rm_X7_leftBy s m args below meth c D vwCl shM cA ad (Fq D vwCl shM cA ad below args s (fun q => some (.int q.1) : (Int32 × vS) → Option Value) (fun q => q.2) (fun _ => True)) (lX7_leftBy_9 v1 v2 v3 n S v4) S 9 ls [] := by
  intro n
  induction n with
  | zero =>
    intro S v4 ls hl
    rw [lX7_leftBy_9]
    exact sw_none
  | succ n ih =>
    intro S v4 ls hl
    rw [lX7_leftBy_9]
    refine sx_iload C0 dX7_leftBy_9 (lv_at hl 4 rfl) ?_
    refine sx_bipush (v := 6) C0 dX7_leftBy_11 (by decide) ?_
    refine sx_icmp_gt (tgt := 59) C0 dX7_leftBy_13 (by decide) (fun _ => ?_) (fun _ => ?_)
    · exact bX7_leftBy_59_t C0 _ _ _ _ (lv_sub hl [0, 1, 3] rfl)
    · refine sx_aload_n C0 dX7_leftBy_16 rfl (lv_at hl 0 rfl) ?_
      refine gf_X7_29 C0 is7 dX7_leftBy_17 ?_
      refine sx_bipush (v := 6) C0 dX7_leftBy_20 (by decide) ?_
      refine sx_iload_n C0 dX7_leftBy_22 rfl (lv_at hl 1 rfl) ?_
      refine sx_imul C0 dX7_leftBy_23 ?_
      refine sx_iconst (v := 2) C0 dX7_leftBy_24 (by decide) ?_
      refine sx_iadd C0 dX7_leftBy_25 ?_
      refine sx_iload C0 dX7_leftBy_26 (lv_at hl 4 rfl) ?_
      refine sx_iast C0 is7_gods rfl dX7_leftBy_28 (fun S28 => ?_)
      refine sx_aload_n C0 dX7_leftBy_29 rfl (lv_at hl 0 rfl) ?_
      refine sx_iconst (v := 0) C0 dX7_leftBy_30 (by decide) ?_
      refine sx_iconst (v := 1) C0 dX7_leftBy_31 (by decide) ?_
      refine sw_bind (fun S32 e32 => ?_)
      refine cv_X7_233 (As := [.int (0 : Int32), .int (1 : Int32)]) C0 (c_X7_copyValley C0.2.2.2.2.2.2.2.1 (0 : Int32) (1 : Int32) S28 _ e32) is7 ⟨rfl, rfl⟩ ⟨Nat.le_of_ble_eq_true rfl, Nat.le_of_ble_eq_true rfl⟩ rfl hl.1 (Nat.le_of_ble_eq_true rfl) rfl dX7_leftBy_32 (fun _ => ?_)
      refine sx_aload_n C0 dX7_leftBy_35 rfl (lv_at hl 0 rfl) ?_
      refine sx_iconst (v := 1) C0 dX7_leftBy_36 (by decide) ?_
      refine sx_iload_n C0 dX7_leftBy_37 rfl (lv_at hl 2 rfl) ?_
      refine sw_bind (fun q38 e38 => ?_)
      refine cv_X7_214 (As := [.int (1 : Int32), .int v2]) C0 (c_X7_goes C0.2.2.2.2.2.2.2.1 (1 : Int32) v2 S32 _ e38) is7 ⟨rfl, rfl⟩ ⟨Nat.le_of_ble_eq_true rfl, Nat.le_of_ble_eq_true rfl⟩ rfl hl.1 (Nat.le_of_ble_eq_true rfl) rfl dX7_leftBy_38 (fun hb38 => ?_)
      refine sx_pop C0 dX7_leftBy_41 rfl ?_
      refine sx_aload_n C0 dX7_leftBy_42 rfl (lv_at hl 0 rfl) ?_
      refine gf_X7_70 C0 is7 dX7_leftBy_43 ?_
      refine sx_iload C0 dX7_leftBy_46 (lv_at hl 4 rfl) ?_
      refine sx_aload_n C0 dX7_leftBy_48 rfl (lv_at hl 0 rfl) ?_
      refine gf_X7_186 C0 is7 dX7_leftBy_49 ?_
      refine sx_iast C0 is7_worthBy rfl dX7_leftBy_52 (fun S52 => ?_)
      refine sx_iinc (v := (v4 + (1 : Int32))) (lv' := [(4, .int (v4 + (1 : Int32))), (0, .ref (ad 0)), (1, .int v1), (2, .int v2), (3, .int v3)]) C0 dX7_leftBy_53 hl (k := 4) rfl rfl (by decide) rfl (fun ls hl => ?_)
      refine sx_goto (tgt := 9) C0 dX7_leftBy_56 (by decide) ?_
      exact ih _ _ _ (lv_sub hl [1, 2, 3, 4, 0] rfl)
def mX7_leftBy (S : vS) (v1 : Int32) (v2 : Int32) : Option (Int32 × vS) := ((mX7_patienceOf S v1).bind fun a2 => (lX7_leftBy_9 v1 v2 a2 FU S (1 : Int32)))
set_option maxHeartbeats 4000000 in
set_option maxRecDepth 100000 in
theorem c_X7_leftBy {l : Launch} {D : va_G} {cA : Nat → ClassId} {ad : Nat → Nat} (G : Gx shM ad ExM) (v1 : Int32) (v2 : Int32) (S : vS) (r : (Int32 × vS)) (hr : (mX7_leftBy S v1 v2) = some r) : Met l yX7_leftBy (Cond.code yX7_leftBy cX7_leftBy 8 (some .int) :: ALL) rm_X7_leftBy (Po D vwCl tlM shM cA ad ExM [.ref (ad 0), .int v1, .int v2] S) (Qo D vwCl shM cA ad (some (.int r.1)) r.2 True) 0 0 (aw shM ad) := by
  refine Met.sx (M := (mX7_leftBy S v1 v2)) (rv := (fun q => some (.int q.1) : (Int32 × vS) → Option Value)) (rs := fun q => q.2) (B := fun _ => True) (by decide) ⟨rfl, rfl⟩ (Nat.le_of_ble_eq_true rfl) G (fun p e s m args below meth c C0 ls hl => ?_) hr
  have hl : lv_has ls 8 [(0, .ref (ad 0)), (1, .int v1), (2, .int v2)] := hl
  rw [mX7_leftBy]
  refine sx_aload_n C0 dX7_leftBy_0 rfl (lv_at hl 0 rfl) ?_
  refine sx_iload_n C0 dX7_leftBy_1 rfl (lv_at hl 1 rfl) ?_
  refine sw_bind (fun a2 e2 => ?_)
  refine cv_X7_192 (As := [.int v1]) C0 (c_X7_patienceOf C0.2.2.2.2.2.2.2.1 v1 S _ e2) is7 ⟨rfl, rfl⟩ ⟨Nat.le_of_ble_eq_true rfl, Nat.le_of_ble_eq_true rfl⟩ rfl hl.1 (Nat.le_of_ble_eq_true rfl) rfl dX7_leftBy_2 (fun _ => ?_)
  refine sx_istore_n (lv' := [(3, .int a2), (0, .ref (ad 0)), (1, .int v1), (2, .int v2)]) C0 dX7_leftBy_5 rfl hl (by decide) rfl (fun ls hl => ?_)
  refine sx_iconst (v := 1) C0 dX7_leftBy_6 (by decide) ?_
  refine sx_istore (lv' := [(4, .int (1 : Int32)), (3, .int a2), (0, .ref (ad 0)), (1, .int v1), (2, .int v2)]) C0 dX7_leftBy_7 hl (by decide) rfl (fun ls hl => ?_)
  exact lX7_leftBy_9_t C0 _ _ _ _ _ _ _ (lv_sub hl [2, 3, 4, 1, 0] rfl)
abbrev rm_X7_ask : Room := { frames := 8, cells := 0, slots := 0, locals := 185 }
def bX7_ask_91    (S : vS) (v2 : Int32) (v3 : Int32)  : Option (Int32 × vS) := (lt (mX7_tells S v3 v2) fun q94 => (some (q94.1, q94.2)))
set_option maxHeartbeats 4000000 in
set_option maxRecDepth 100000 in
theorem bX7_ask_91_t {p : Program} {l : Launch} {e : Env} {s : State} {m : MethodId} {args : Array Value} {below : List Frame} {meth : Method} {c : Code} {D : va_G} {cA : Nat → ClassId} {ad : Nat → Nat}   (C0 : Cx D vwCl tlM shM cA ad ExM RX7 cX7_ask 6 (some .int) p s m args meth c)  (S : vS) (v2 : Int32) (v3 : Int32) (ls : Array Slot) (hl : lv_has ls 6 [(0, .ref (ad 0)), (2, .int v2), (3, .int v3)]) : SW p l e rm_X7_ask s m args below meth c D vwCl shM cA ad (Fq D vwCl shM cA ad below args s (fun q => some (.int q.1) : (Int32 × vS) → Option Value) (fun q => q.2) (fun _ => True)) (bX7_ask_91 S v2 v3) S 91 ls [] := by
  rw [bX7_ask_91]
  refine sx_aload_n C0 dX7_ask_91 rfl (lv_at hl 0 rfl) ?_
  refine sx_iload_n C0 dX7_ask_92 rfl (lv_at hl 2 rfl) ?_
  refine sx_iload_n C0 dX7_ask_93 rfl (lv_at hl 1 rfl) ?_
  refine cv_X7_102 (As := [.int v3, .int v2]) C0 (c_X7_tells C0.2.2.2.2.2.2.2.1 v3 v2 S) is7 ⟨rfl, rfl⟩ ⟨Nat.le_of_ble_eq_true rfl, Nat.le_of_ble_eq_true rfl⟩ rfl hl.1 (Nat.le_of_ble_eq_true rfl) rfl dX7_ask_94 (fun _ => ?_)
  refine sw_ltQ (val := .int) (fun q94 => ?_)
  exact sx_iret C0 rfl rfl trivial dX7_ask_97
def bX7_ask_79   (K30 : vS → Int32 → Int32 → Int32 → Option (Int32 × vS)) (S : vS) (v1 : Int32) (v4 : Int32) (v5 : Int32)  : Option (Int32 × vS) := (K30 S v4 v5 (v4 + (1 : Int32)))
set_option maxHeartbeats 4000000 in
set_option maxRecDepth 100000 in
theorem bX7_ask_79_t {p : Program} {l : Launch} {e : Env} {s : State} {m : MethodId} {args : Array Value} {below : List Frame} {meth : Method} {c : Code} {D : va_G} {cA : Nat → ClassId} {ad : Nat → Nat} {K30 : vS → Int32 → Int32 → Int32 → Option (Int32 × vS)}  (C0 : Cx D vwCl tlM shM cA ad ExM RX7 cX7_ask 6 (some .int) p s m args meth c)  (S : vS) (v1 : Int32) (v4 : Int32) (v5 : Int32) (hK30 : ∀ (S : vS) (v2 : Int32) (v3 : Int32) (v4 : Int32) (ls : Array Slot), lv_has ls 6 [(0, .ref (ad 0)), (1, .int v1), (2, .int v2), (3, .int v3), (4, .int v4)] → SW p l e rm_X7_ask s m args below meth c D vwCl shM cA ad (Fq D vwCl shM cA ad below args s (fun q => some (.int q.1) : (Int32 × vS) → Option Value) (fun q => q.2) (fun _ => True)) (K30 S v2 v3 v4) S 30 ls []) (ls : Array Slot) (hl : lv_has ls 6 [(0, .ref (ad 0)), (1, .int v1), (4, .int v4), (5, .int v5)]) : SW p l e rm_X7_ask s m args below meth c D vwCl shM cA ad (Fq D vwCl shM cA ad below args s (fun q => some (.int q.1) : (Int32 × vS) → Option Value) (fun q => q.2) (fun _ => True)) (bX7_ask_79 K30 S v1 v4 v5) S 79 ls [] := by
  rw [bX7_ask_79]
  refine sx_iload C0 dX7_ask_79 (lv_at hl 2 rfl) ?_
  refine sx_istore_n (lv' := [(2, .int v4), (0, .ref (ad 0)), (1, .int v1), (4, .int v4), (5, .int v5)]) C0 dX7_ask_81 rfl hl (by decide) rfl (fun ls hl => ?_)
  refine sx_iload C0 dX7_ask_82 (lv_at hl 4 rfl) ?_
  refine sx_istore_n (lv' := [(3, .int v5), (2, .int v4), (0, .ref (ad 0)), (1, .int v1), (4, .int v4), (5, .int v5)]) C0 dX7_ask_84 rfl hl (by decide) rfl (fun ls hl => ?_)
  refine sx_iinc (v := (v4 + (1 : Int32))) (lv' := [(4, .int (v4 + (1 : Int32))), (3, .int v5), (2, .int v4), (0, .ref (ad 0)), (1, .int v1), (5, .int v5)]) C0 dX7_ask_85 hl (k := 4) rfl rfl (by decide) rfl (fun ls hl => ?_)
  refine sx_goto (tgt := 30) C0 dX7_ask_88 (by decide) ?_
  exact hK30 _ _ _ _ _ (lv_sub hl [3, 4, 2, 1, 0] rfl)
def lX7_ask_30    (v1 : Int32) : Nat → vS → Int32 → Int32 → Int32 → Option (Int32 × vS)
  | 0, _, _, _, _ => none
  | n + 1, S, v2, v3, v4 => (if (12 : Int32) < v4 then (bX7_ask_91 S v2 v3) else (if (mX7_isNumber S v4) = 0 then ((lX7_ask_30 v1 n) S v2 v3 (v4 + (1 : Int32))) else ((mX7_costOf S (0 : Int32) v4).bind fun a50 => (if a50 = (-9 : Int32) then ((lX7_ask_30 v1 n) S v2 v3 (v4 + (1 : Int32))) else ((mX7_leftBy S v1 v4).bind fun q62 => (lt q62.1 fun v5_65 => (if v2 = (-9 : Int32) then (bX7_ask_79 (lX7_ask_30 v1 n) q62.2 v1 v4 v5_65) else (if v3 ≤ v5_65 then ((lX7_ask_30 v1 n) q62.2 v2 v3 (v4 + (1 : Int32))) else (bX7_ask_79 (lX7_ask_30 v1 n) q62.2 v1 v4 v5_65)))))))))
set_option maxHeartbeats 4000000 in
set_option maxRecDepth 100000 in
theorem lX7_ask_30_t {p : Program} {l : Launch} {e : Env} {s : State} {m : MethodId} {args : Array Value} {below : List Frame} {meth : Method} {c : Code} {D : va_G} {cA : Nat → ClassId} {ad : Nat → Nat}   (C0 : Cx D vwCl tlM shM cA ad ExM RX7 cX7_ask 6 (some .int) p s m args meth c)   (v1 : Int32)  : ∀ (n : Nat) (S : vS) (v2 : Int32) (v3 : Int32) (v4 : Int32) (ls : Array Slot), lv_has ls 6 [(0, .ref (ad 0)), (1, .int v1), (2, .int v2), (3, .int v3), (4, .int v4)] → SW p l e rm_X7_ask s m args below meth c D vwCl shM cA ad (Fq D vwCl shM cA ad below args s (fun q => some (.int q.1) : (Int32 × vS) → Option Value) (fun q => q.2) (fun _ => True)) (lX7_ask_30 v1 n S v2 v3 v4) S 30 ls [] := by
  intro n
  induction n with
  | zero =>
    intro S v2 v3 v4 ls hl
    rw [lX7_ask_30]
    exact sw_none
  | succ n ih =>
    intro S v2 v3 v4 ls hl
    rw [lX7_ask_30]
    refine sx_iload C0 dX7_ask_30 (lv_at hl 4 rfl) ?_
    refine sx_bipush (v := 12) C0 dX7_ask_32 (by decide) ?_
    refine sx_icmp_gt (tgt := 91) C0 dX7_ask_34 (by decide) (fun _ => ?_) (fun _ => ?_)
    · exact bX7_ask_91_t C0 _ _ _ _ (lv_sub hl [0, 2, 3] rfl)
    · refine sx_aload_n C0 dX7_ask_37 rfl (lv_at hl 0 rfl) ?_
      refine sx_iload C0 dX7_ask_38 (lv_at hl 4 rfl) ?_
      refine cv_X7_217 (As := [.int v4]) C0 (c_X7_isNumber C0.2.2.2.2.2.2.2.1 v4 S) is7 ⟨rfl, rfl⟩ ⟨Nat.le_of_ble_eq_true rfl, Nat.le_of_ble_eq_true rfl⟩ rfl hl.1 (Nat.le_of_ble_eq_true rfl) rfl dX7_ask_40 (fun hb40 => ?_)
      refine sx_if_eq (tgt := 85) C0 dX7_ask_43 (by decide) (fun _ => ?_) (fun _ => ?_)
      · refine sx_iinc (v := (v4 + (1 : Int32))) (lv' := [(4, .int (v4 + (1 : Int32))), (0, .ref (ad 0)), (1, .int v1), (2, .int v2), (3, .int v3)]) C0 dX7_ask_85 hl (k := 4) rfl rfl (by decide) rfl (fun ls hl => ?_)
        refine sx_goto (tgt := 30) C0 dX7_ask_88 (by decide) ?_
        exact ih _ _ _ _ _ (lv_sub hl [1, 2, 3, 4, 0] rfl)
      · refine sx_aload_n C0 dX7_ask_46 rfl (lv_at hl 0 rfl) ?_
        refine sx_iconst (v := 0) C0 dX7_ask_47 (by decide) ?_
        refine sx_iload C0 dX7_ask_48 (lv_at hl 4 rfl) ?_
        refine sw_bind (fun a50 e50 => ?_)
        refine cv_X7_195 (As := [.int (0 : Int32), .int v4]) C0 (c_X7_costOf C0.2.2.2.2.2.2.2.1 (0 : Int32) v4 S _ e50) is7 ⟨rfl, rfl⟩ ⟨Nat.le_of_ble_eq_true rfl, Nat.le_of_ble_eq_true rfl⟩ rfl hl.1 (Nat.le_of_ble_eq_true rfl) rfl dX7_ask_50 (fun _ => ?_)
        refine sx_bipush (v := (-9)) C0 dX7_ask_53 (by decide) ?_
        refine sx_icmp_eq (tgt := 85) C0 dX7_ask_55 (by decide) (fun _ => ?_) (fun _ => ?_)
        · refine sx_iinc (v := (v4 + (1 : Int32))) (lv' := [(4, .int (v4 + (1 : Int32))), (0, .ref (ad 0)), (1, .int v1), (2, .int v2), (3, .int v3)]) C0 dX7_ask_85 hl (k := 4) rfl rfl (by decide) rfl (fun ls hl => ?_)
          refine sx_goto (tgt := 30) C0 dX7_ask_88 (by decide) ?_
          exact ih _ _ _ _ _ (lv_sub hl [1, 2, 3, 4, 0] rfl)
        · refine sx_aload_n C0 dX7_ask_58 rfl (lv_at hl 0 rfl) ?_
          refine sx_iload_n C0 dX7_ask_59 rfl (lv_at hl 1 rfl) ?_
          refine sx_iload C0 dX7_ask_60 (lv_at hl 4 rfl) ?_
          refine sw_bind (fun q62 e62 => ?_)
          refine cv_X7_306 (As := [.int v1, .int v4]) C0 (c_X7_leftBy C0.2.2.2.2.2.2.2.1 v1 v4 S _ e62) is7 ⟨rfl, rfl⟩ ⟨Nat.le_of_ble_eq_true rfl, Nat.le_of_ble_eq_true rfl⟩ rfl hl.1 (Nat.le_of_ble_eq_true rfl) rfl dX7_ask_62 (fun _ => ?_)
          refine sw_lt (val := .int) (fun v5_65 => ?_)
          refine sx_istore (lv' := [(5, .int v5_65), (0, .ref (ad 0)), (1, .int v1), (2, .int v2), (3, .int v3), (4, .int v4)]) C0 dX7_ask_65 hl (by decide) rfl (fun ls hl => ?_)
          refine sx_iload_n C0 dX7_ask_67 rfl (lv_at hl 3 rfl) ?_
          refine sx_bipush (v := (-9)) C0 dX7_ask_68 (by decide) ?_
          refine sx_icmp_eq (tgt := 79) C0 dX7_ask_70 (by decide) (fun _ => ?_) (fun _ => ?_)
          · exact bX7_ask_79_t C0 _ _ _ _ ih _ (lv_sub hl [1, 2, 5, 0] rfl)
          · refine sx_iload C0 dX7_ask_73 (lv_at hl 0 rfl) ?_
            refine sx_iload_n C0 dX7_ask_75 rfl (lv_at hl 4 rfl) ?_
            refine sx_icmp_ge (tgt := 85) C0 dX7_ask_76 (by decide) (fun _ => ?_) (fun _ => ?_)
            · refine sx_iinc (v := (v4 + (1 : Int32))) (lv' := [(4, .int (v4 + (1 : Int32))), (5, .int v5_65), (0, .ref (ad 0)), (1, .int v1), (2, .int v2), (3, .int v3)]) C0 dX7_ask_85 hl (k := 5) rfl rfl (by decide) rfl (fun ls hl => ?_)
              refine sx_goto (tgt := 30) C0 dX7_ask_88 (by decide) ?_
              exact ih _ _ _ _ _ (lv_sub hl [2, 3, 4, 5, 0] rfl)
            · exact bX7_ask_79_t C0 _ _ _ _ ih _ (lv_sub hl [1, 2, 5, 0] rfl)
def mX7_ask (S : vS) (v1 : Int32) : Option (Int32 × vS) := (if (mX7_isGod S v1) = 0 then (some ((-1 : Int32), S)) else ((mX7_isGone S (0 : Int32) v1).bind fun a13 => (if a13 = 0 then (lX7_ask_30 v1 FU S (-9 : Int32) (0 : Int32) (0 : Int32)) else (some ((-4 : Int32), S)))))
set_option maxHeartbeats 4000000 in
set_option maxRecDepth 100000 in
theorem c_X7_ask {l : Launch} {D : va_G} {cA : Nat → ClassId} {ad : Nat → Nat} (G : Gx shM ad ExM) (v1 : Int32) (S : vS) (r : (Int32 × vS)) (hr : (mX7_ask S v1) = some r) : Met l yX7_ask (Cond.code yX7_ask cX7_ask 6 (some .int) :: ALL) rm_X7_ask (Po D vwCl tlM shM cA ad ExM [.ref (ad 0), .int v1] S) (Qo D vwCl shM cA ad (some (.int r.1)) r.2 True) 0 0 (aw shM ad) := by
  refine Met.sx (M := (mX7_ask S v1)) (rv := (fun q => some (.int q.1) : (Int32 × vS) → Option Value)) (rs := fun q => q.2) (B := fun _ => True) (by decide) ⟨rfl, rfl⟩ (Nat.le_of_ble_eq_true rfl) G (fun p e s m args below meth c C0 ls hl => ?_) hr
  have hl : lv_has ls 6 [(0, .ref (ad 0)), (1, .int v1)] := hl
  rw [mX7_ask]
  refine sx_aload_n C0 dX7_ask_0 rfl (lv_at hl 0 rfl) ?_
  refine sx_iload_n C0 dX7_ask_1 rfl (lv_at hl 1 rfl) ?_
  refine cv_X7_208 (As := [.int v1]) C0 (c_X7_isGod C0.2.2.2.2.2.2.2.1 v1 S) is7 ⟨rfl, rfl⟩ ⟨Nat.le_of_ble_eq_true rfl, Nat.le_of_ble_eq_true rfl⟩ rfl hl.1 (Nat.le_of_ble_eq_true rfl) rfl dX7_ask_2 (fun hb2 => ?_)
  refine sx_if_ne (tgt := 10) C0 dX7_ask_5 (by decide) (fun _ => ?_) (fun _ => ?_)
  · refine sx_iconst (v := (-1)) C0 dX7_ask_8 (by decide) ?_
    exact sx_iret C0 rfl rfl trivial dX7_ask_9
  · refine sx_aload_n C0 dX7_ask_10 rfl (lv_at hl 0 rfl) ?_
    refine sx_iconst (v := 0) C0 dX7_ask_11 (by decide) ?_
    refine sx_iload_n C0 dX7_ask_12 rfl (lv_at hl 1 rfl) ?_
    refine sw_bind (fun a13 e13 => ?_)
    refine cv_X7_155 (As := [.int (0 : Int32), .int v1]) C0 (c_X7_isGone C0.2.2.2.2.2.2.2.1 (0 : Int32) v1 S _ e13) is7 ⟨rfl, rfl⟩ ⟨Nat.le_of_ble_eq_true rfl, Nat.le_of_ble_eq_true rfl⟩ rfl hl.1 (Nat.le_of_ble_eq_true rfl) rfl dX7_ask_13 (fun hb13 => ?_)
    refine sx_if_eq (tgt := 22) C0 dX7_ask_16 (by decide) (fun _ => ?_) (fun _ => ?_)
    · refine sx_bipush (v := (-9)) C0 dX7_ask_22 (by decide) ?_
      refine sx_istore_n (lv' := [(2, .int (-9 : Int32)), (0, .ref (ad 0)), (1, .int v1)]) C0 dX7_ask_24 rfl hl (by decide) rfl (fun ls hl => ?_)
      refine sx_iconst (v := 0) C0 dX7_ask_25 (by decide) ?_
      refine sx_istore_n (lv' := [(3, .int (0 : Int32)), (2, .int (-9 : Int32)), (0, .ref (ad 0)), (1, .int v1)]) C0 dX7_ask_26 rfl hl (by decide) rfl (fun ls hl => ?_)
      refine sx_iconst (v := 0) C0 dX7_ask_27 (by decide) ?_
      refine sx_istore (lv' := [(4, .int (0 : Int32)), (3, .int (0 : Int32)), (2, .int (-9 : Int32)), (0, .ref (ad 0)), (1, .int v1)]) C0 dX7_ask_28 hl (by decide) rfl (fun ls hl => ?_)
      exact lX7_ask_30_t C0 _ _ _ _ _ _ _ (lv_sub hl [3, 4, 2, 1, 0] rfl)
    · refine sx_bipush (v := (-4)) C0 dX7_ask_19 (by decide) ?_
      exact sx_iret C0 rfl rfl trivial dX7_ask_21
abbrev rm_X7_year : Room := { frames := 7, cells := 0, slots := 0, locals := 158 }
def bX7_year_153    (S : vS) (v5 : Int32) (v6 : Int32)  : Option (Int32 × vS) := (lt (mX7_whole S v6 (1 : Int32)) fun q157 => (lt (mX7_tells q157.2 v5 (1 : Int32)) fun q165 => (some (q165.1, q165.2))))
set_option maxHeartbeats 4000000 in
set_option maxRecDepth 100000 in
theorem bX7_year_153_t {p : Program} {l : Launch} {e : Env} {s : State} {m : MethodId} {args : Array Value} {below : List Frame} {meth : Method} {c : Code} {D : va_G} {cA : Nat → ClassId} {ad : Nat → Nat}   (C0 : Cx D vwCl tlM shM cA ad ExM RX7 cX7_year 10 (some .int) p s m args meth c)  (S : vS) (v5 : Int32) (v6 : Int32) (ls : Array Slot) (hl : lv_has ls 10 [(0, .ref (ad 0)), (5, .int v5), (6, .int v6)]) : SW p l e rm_X7_year s m args below meth c D vwCl shM cA ad (Fq D vwCl shM cA ad below args s (fun q => some (.int q.1) : (Int32 × vS) → Option Value) (fun q => q.2) (fun _ => True)) (bX7_year_153 S v5 v6) S 153 ls [] := by
  rw [bX7_year_153]
  refine sx_aload_n C0 dX7_year_153 rfl (lv_at hl 0 rfl) ?_
  refine sx_iload C0 dX7_year_154 (lv_at hl 2 rfl) ?_
  refine sx_iconst (v := 1) C0 dX7_year_156 (by decide) ?_
  refine cv_X7_296 (As := [.int v6, .int (1 : Int32)]) C0 (c_X7_whole C0.2.2.2.2.2.2.2.1 v6 (1 : Int32) S) is7 ⟨rfl, rfl⟩ ⟨Nat.le_of_ble_eq_true rfl, Nat.le_of_ble_eq_true rfl⟩ rfl hl.1 (Nat.le_of_ble_eq_true rfl) rfl dX7_year_157 (fun _ => ?_)
  refine sw_ltQ (val := .int) (fun q157 => ?_)
  refine sx_pop C0 dX7_year_160 rfl ?_
  refine sx_aload_n C0 dX7_year_161 rfl (lv_at hl 0 rfl) ?_
  refine sx_iload C0 dX7_year_162 (lv_at hl 1 rfl) ?_
  refine sx_iconst (v := 1) C0 dX7_year_164 (by decide) ?_
  refine cv_X7_102 (As := [.int v5, .int (1 : Int32)]) C0 (c_X7_tells C0.2.2.2.2.2.2.2.1 v5 (1 : Int32) q157.2) is7 ⟨rfl, rfl⟩ ⟨Nat.le_of_ble_eq_true rfl, Nat.le_of_ble_eq_true rfl⟩ rfl hl.1 (Nat.le_of_ble_eq_true rfl) rfl dX7_year_165 (fun _ => ?_)
  refine sw_ltQ (val := .int) (fun q165 => ?_)
  exact sx_iret C0 rfl rfl trivial dX7_year_168
def bX7_year_144   (K51 : vS → Int64 → Int32 → Int32 → Int32 → Option (Int32 × vS)) (S : vS) (v2 : Int32) (v3 : Int64) (v5 : Int32) (v7 : Int32) (t0 : Int32) (t1 : Int32) : Option (Int32 × vS) := (lt (t1 + t0) fun v6_145 => (K51 S v3 v5 v6_145 (v7 + (1 : Int32))))
set_option maxHeartbeats 4000000 in
set_option maxRecDepth 100000 in
theorem bX7_year_144_t {p : Program} {l : Launch} {e : Env} {s : State} {m : MethodId} {args : Array Value} {below : List Frame} {meth : Method} {c : Code} {D : va_G} {cA : Nat → ClassId} {ad : Nat → Nat} {K51 : vS → Int64 → Int32 → Int32 → Int32 → Option (Int32 × vS)}  (C0 : Cx D vwCl tlM shM cA ad ExM RX7 cX7_year 10 (some .int) p s m args meth c)  (S : vS) (v2 : Int32) (v3 : Int64) (v5 : Int32) (v7 : Int32) (t0 : Int32) (t1 : Int32) (hK51 : ∀ (S : vS) (v3 : Int64) (v5 : Int32) (v6 : Int32) (v7 : Int32) (ls : Array Slot), lv_has ls 10 [(0, .ref (ad 0)), (2, .int v2), (3, .long v3), (5, .int v5), (6, .int v6), (7, .int v7)] → SW p l e rm_X7_year s m args below meth c D vwCl shM cA ad (Fq D vwCl shM cA ad below args s (fun q => some (.int q.1) : (Int32 × vS) → Option Value) (fun q => q.2) (fun _ => True)) (K51 S v3 v5 v6 v7) S 51 ls []) (ls : Array Slot) (hl : lv_has ls 10 [(0, .ref (ad 0)), (2, .int v2), (3, .long v3), (5, .int v5), (7, .int v7)]) : SW p l e rm_X7_year s m args below meth c D vwCl shM cA ad (Fq D vwCl shM cA ad below args s (fun q => some (.int q.1) : (Int32 × vS) → Option Value) (fun q => q.2) (fun _ => True)) (bX7_year_144 K51 S v2 v3 v5 v7 t0 t1) S 144 ls [.int t0, .int t1] := by
  rw [bX7_year_144]
  refine sx_iadd C0 dX7_year_144 ?_
  refine sw_lt (val := .int) (fun v6_145 => ?_)
  refine sx_istore (lv' := [(6, .int v6_145), (0, .ref (ad 0)), (2, .int v2), (3, .long v3), (5, .int v5), (7, .int v7)]) C0 dX7_year_145 hl (by decide) rfl (fun ls hl => ?_)
  refine sx_iinc (v := (v7 + (1 : Int32))) (lv' := [(7, .int (v7 + (1 : Int32))), (6, .int v6_145), (0, .ref (ad 0)), (2, .int v2), (3, .long v3), (5, .int v5)]) C0 dX7_year_147 hl (k := 5) rfl rfl (by decide) rfl (fun ls hl => ?_)
  refine sx_goto (tgt := 51) C0 dX7_year_150 (by decide) ?_
  exact hK51 _ _ _ _ _ _ (lv_sub hl [2, 3, 4, 5, 1, 0] rfl)
def bX7_year_117   (K51 : vS → Int64 → Int32 → Int32 → Int32 → Option (Int32 × vS)) (S : vS) (v2 : Int32) (v3 : Int64) (v5 : Int32) (v6 : Int32) (v7 : Int32) (t0 : Int32) (t1 : Int32) : Option (Int32 × vS) := ((mX7_goes S t1 t0).bind fun q117 => (lt (v5 + (q117.2.1 0 20)) fun v5_128 => (if (q117.2.1 0 21) ≤ 0 then (bX7_year_144 K51 q117.2 v2 v3 v5_128 v7 (0 : Int32) v6) else (bX7_year_144 K51 q117.2 v2 v3 v5_128 v7 (1 : Int32) v6))))
set_option maxHeartbeats 4000000 in
set_option maxRecDepth 100000 in
theorem bX7_year_117_t {p : Program} {l : Launch} {e : Env} {s : State} {m : MethodId} {args : Array Value} {below : List Frame} {meth : Method} {c : Code} {D : va_G} {cA : Nat → ClassId} {ad : Nat → Nat} {K51 : vS → Int64 → Int32 → Int32 → Int32 → Option (Int32 × vS)}  (C0 : Cx D vwCl tlM shM cA ad ExM RX7 cX7_year 10 (some .int) p s m args meth c)  (S : vS) (v2 : Int32) (v3 : Int64) (v5 : Int32) (v6 : Int32) (v7 : Int32) (t0 : Int32) (t1 : Int32) (hK51 : ∀ (S : vS) (v3 : Int64) (v5 : Int32) (v6 : Int32) (v7 : Int32) (ls : Array Slot), lv_has ls 10 [(0, .ref (ad 0)), (2, .int v2), (3, .long v3), (5, .int v5), (6, .int v6), (7, .int v7)] → SW p l e rm_X7_year s m args below meth c D vwCl shM cA ad (Fq D vwCl shM cA ad below args s (fun q => some (.int q.1) : (Int32 × vS) → Option Value) (fun q => q.2) (fun _ => True)) (K51 S v3 v5 v6 v7) S 51 ls []) (ls : Array Slot) (hl : lv_has ls 10 [(0, .ref (ad 0)), (2, .int v2), (3, .long v3), (5, .int v5), (6, .int v6), (7, .int v7)]) : SW p l e rm_X7_year s m args below meth c D vwCl shM cA ad (Fq D vwCl shM cA ad below args s (fun q => some (.int q.1) : (Int32 × vS) → Option Value) (fun q => q.2) (fun _ => True)) (bX7_year_117 K51 S v2 v3 v5 v6 v7 t0 t1) S 117 ls [.int t0, .int t1, .ref (ad 0)] := by
  rw [bX7_year_117]
  refine sw_bind (fun q117 e117 => ?_)
  refine cv_X7_214 (As := [.int t1, .int t0]) C0 (c_X7_goes C0.2.2.2.2.2.2.2.1 t1 t0 S _ e117) is7 ⟨rfl, rfl⟩ ⟨Nat.le_of_ble_eq_true rfl, Nat.le_of_ble_eq_true rfl⟩ rfl hl.1 (Nat.le_of_ble_eq_true rfl) rfl dX7_year_117 (fun hb117 => ?_)
  refine sx_pop C0 dX7_year_120 rfl ?_
  refine sx_iload C0 dX7_year_121 (lv_at hl 3 rfl) ?_
  refine sx_aload_n C0 dX7_year_123 rfl (lv_at hl 0 rfl) ?_
  refine gf_X7_186 C0 is7 dX7_year_124 ?_
  refine sx_iadd C0 dX7_year_127 ?_
  refine sw_lt (val := .int) (fun v5_128 => ?_)
  refine sx_istore (lv' := [(5, .int v5_128), (0, .ref (ad 0)), (2, .int v2), (3, .long v3), (6, .int v6), (7, .int v7)]) C0 dX7_year_128 hl (by decide) rfl (fun ls hl => ?_)
  refine sx_iload C0 dX7_year_130 (lv_at hl 4 rfl) ?_
  refine sx_aload_n C0 dX7_year_132 rfl (lv_at hl 1 rfl) ?_
  refine gf_X7_189 C0 is7 dX7_year_133 ?_
  refine sx_if_le (tgt := 143) C0 dX7_year_136 (by decide) (fun _ => ?_) (fun _ => ?_)
  · refine sx_iconst (v := 0) C0 dX7_year_143 (by decide) ?_
    exact bX7_year_144_t C0 _ _ _ _ _ _ _ hK51 _ (lv_sub hl [1, 2, 3, 0, 5] rfl)
  · refine sx_iconst (v := 1) C0 dX7_year_139 (by decide) ?_
    refine sx_goto (tgt := 144) C0 dX7_year_140 (by decide) ?_
    exact bX7_year_144_t C0 _ _ _ _ _ _ _ hK51 _ (lv_sub hl [1, 2, 3, 0, 5] rfl)
def bX7_year_101   (K51 : vS → Int64 → Int32 → Int32 → Int32 → Option (Int32 × vS)) (S : vS) (v2 : Int32) (v3 : Int64) (v5 : Int32) (v6 : Int32) (v7 : Int32) (v8 : Int32) (t0 : Int32) : Option (Int32 × vS) := (if t0 = 0 then (bX7_year_117 K51 S v2 v3 v5 v6 v7 (12 : Int32) (1 : Int32)) else (bX7_year_117 K51 S v2 v3 v5 v6 v7 v8 (1 : Int32)))
set_option maxHeartbeats 4000000 in
set_option maxRecDepth 100000 in
theorem bX7_year_101_t {p : Program} {l : Launch} {e : Env} {s : State} {m : MethodId} {args : Array Value} {below : List Frame} {meth : Method} {c : Code} {D : va_G} {cA : Nat → ClassId} {ad : Nat → Nat} {K51 : vS → Int64 → Int32 → Int32 → Int32 → Option (Int32 × vS)}  (C0 : Cx D vwCl tlM shM cA ad ExM RX7 cX7_year 10 (some .int) p s m args meth c)  (S : vS) (v2 : Int32) (v3 : Int64) (v5 : Int32) (v6 : Int32) (v7 : Int32) (v8 : Int32) (t0 : Int32) (hK51 : ∀ (S : vS) (v3 : Int64) (v5 : Int32) (v6 : Int32) (v7 : Int32) (ls : Array Slot), lv_has ls 10 [(0, .ref (ad 0)), (2, .int v2), (3, .long v3), (5, .int v5), (6, .int v6), (7, .int v7)] → SW p l e rm_X7_year s m args below meth c D vwCl shM cA ad (Fq D vwCl shM cA ad below args s (fun q => some (.int q.1) : (Int32 × vS) → Option Value) (fun q => q.2) (fun _ => True)) (K51 S v3 v5 v6 v7) S 51 ls []) (ls : Array Slot) (hl : lv_has ls 10 [(0, .ref (ad 0)), (2, .int v2), (3, .long v3), (5, .int v5), (6, .int v6), (7, .int v7), (8, .int v8)]) : SW p l e rm_X7_year s m args below meth c D vwCl shM cA ad (Fq D vwCl shM cA ad below args s (fun q => some (.int q.1) : (Int32 × vS) → Option Value) (fun q => q.2) (fun _ => True)) (bX7_year_101 K51 S v2 v3 v5 v6 v7 v8 t0) S 101 ls [.int t0] := by
  rw [bX7_year_101]
  refine sx_istore (lv' := [(9, .int t0), (0, .ref (ad 0)), (2, .int v2), (3, .long v3), (5, .int v5), (6, .int v6), (7, .int v7), (8, .int v8)]) C0 dX7_year_101 hl (by decide) rfl (fun ls hl => ?_)
  refine sx_aload_n C0 dX7_year_103 rfl (lv_at hl 1 rfl) ?_
  refine sx_iconst (v := 1) C0 dX7_year_104 (by decide) ?_
  refine sx_iload C0 dX7_year_105 (lv_at hl 0 rfl) ?_
  refine sx_if_eq (tgt := 115) C0 dX7_year_107 (by decide) (fun _ => ?_) (fun _ => ?_)
  · refine sx_bipush (v := 12) C0 dX7_year_115 (by decide) ?_
    exact bX7_year_117_t C0 _ _ _ _ _ _ _ _ hK51 _ (lv_sub hl [1, 2, 3, 4, 5, 6] rfl)
  · refine sx_iload C0 dX7_year_110 (lv_at hl 7 rfl) ?_
    refine sx_goto (tgt := 117) C0 dX7_year_112 (by decide) ?_
    exact bX7_year_117_t C0 _ _ _ _ _ _ _ _ hK51 _ (lv_sub hl [1, 2, 3, 4, 5, 6] rfl)
def bX7_year_100   (K51 : vS → Int64 → Int32 → Int32 → Int32 → Option (Int32 × vS)) (S : vS) (v2 : Int32) (v3 : Int64) (v5 : Int32) (v6 : Int32) (v7 : Int32) (v8 : Int32)  : Option (Int32 × vS) := (bX7_year_101 K51 S v2 v3 v5 v6 v7 v8 (0 : Int32))
set_option maxHeartbeats 4000000 in
set_option maxRecDepth 100000 in
theorem bX7_year_100_t {p : Program} {l : Launch} {e : Env} {s : State} {m : MethodId} {args : Array Value} {below : List Frame} {meth : Method} {c : Code} {D : va_G} {cA : Nat → ClassId} {ad : Nat → Nat} {K51 : vS → Int64 → Int32 → Int32 → Int32 → Option (Int32 × vS)}  (C0 : Cx D vwCl tlM shM cA ad ExM RX7 cX7_year 10 (some .int) p s m args meth c)  (S : vS) (v2 : Int32) (v3 : Int64) (v5 : Int32) (v6 : Int32) (v7 : Int32) (v8 : Int32) (hK51 : ∀ (S : vS) (v3 : Int64) (v5 : Int32) (v6 : Int32) (v7 : Int32) (ls : Array Slot), lv_has ls 10 [(0, .ref (ad 0)), (2, .int v2), (3, .long v3), (5, .int v5), (6, .int v6), (7, .int v7)] → SW p l e rm_X7_year s m args below meth c D vwCl shM cA ad (Fq D vwCl shM cA ad below args s (fun q => some (.int q.1) : (Int32 × vS) → Option Value) (fun q => q.2) (fun _ => True)) (K51 S v3 v5 v6 v7) S 51 ls []) (ls : Array Slot) (hl : lv_has ls 10 [(0, .ref (ad 0)), (2, .int v2), (3, .long v3), (5, .int v5), (6, .int v6), (7, .int v7), (8, .int v8)]) : SW p l e rm_X7_year s m args below meth c D vwCl shM cA ad (Fq D vwCl shM cA ad below args s (fun q => some (.int q.1) : (Int32 × vS) → Option Value) (fun q => q.2) (fun _ => True)) (bX7_year_100 K51 S v2 v3 v5 v6 v7 v8) S 100 ls [] := by
  rw [bX7_year_100]
  refine sx_iconst (v := 0) C0 dX7_year_100 (by decide) ?_
  exact bX7_year_101_t C0 _ _ _ _ _ _ _ _ hK51 _ (lv_sub hl [0, 1, 2, 3, 4, 5, 6] rfl)
def lX7_year_51    (v2 : Int32) : Nat → vS → Int64 → Int32 → Int32 → Int32 → Option (Int32 × vS)
  | 0, _, _, _, _, _ => none
  | n + 1, S, v3, v5, v6, v7 => (if v2 ≤ v7 then (bX7_year_153 S v5 v6) else (lt (((48271 : Int64) * v3) - ((48271 : Int64) * v3) / (2147483647 : Int64) * (2147483647 : Int64)) fun v3_66 => (lt (Int64.toInt32 (v3_66 - v3_66 / (13 : Int64) * (13 : Int64))) fun v8_73 => (if (mX7_isNumber S v8_73) = 0 then (bX7_year_100 (lX7_year_51 v2 n) S v2 v3_66 v5 v6 v7 v8_73) else ((mX7_costOf S (1 : Int32) v8_73).bind fun a88 => (if a88 = (-9 : Int32) then (bX7_year_100 (lX7_year_51 v2 n) S v2 v3_66 v5 v6 v7 v8_73) else (bX7_year_101 (lX7_year_51 v2 n) S v2 v3_66 v5 v6 v7 v8_73 (1 : Int32))))))))
set_option maxHeartbeats 4000000 in
set_option maxRecDepth 100000 in
theorem lX7_year_51_t {p : Program} {l : Launch} {e : Env} {s : State} {m : MethodId} {args : Array Value} {below : List Frame} {meth : Method} {c : Code} {D : va_G} {cA : Nat → ClassId} {ad : Nat → Nat}   (C0 : Cx D vwCl tlM shM cA ad ExM RX7 cX7_year 10 (some .int) p s m args meth c)   (v2 : Int32)  : ∀ (n : Nat) (S : vS) (v3 : Int64) (v5 : Int32) (v6 : Int32) (v7 : Int32) (ls : Array Slot), lv_has ls 10 [(0, .ref (ad 0)), (2, .int v2), (3, .long v3), (5, .int v5), (6, .int v6), (7, .int v7)] → SW p l e rm_X7_year s m args below meth c D vwCl shM cA ad (Fq D vwCl shM cA ad below args s (fun q => some (.int q.1) : (Int32 × vS) → Option Value) (fun q => q.2) (fun _ => True)) (lX7_year_51 v2 n S v3 v5 v6 v7) S 51 ls [] := by
  intro n
  induction n with
  | zero =>
    intro S v3 v5 v6 v7 ls hl
    rw [lX7_year_51]
    exact sw_none
  | succ n ih =>
    intro S v3 v5 v6 v7 ls hl
    rw [lX7_year_51]
    refine sx_iload C0 dX7_year_51 (lv_at hl 5 rfl) ?_
    refine sx_iload_n C0 dX7_year_53 rfl (lv_at hl 1 rfl) ?_
    refine sx_icmp_ge (tgt := 153) C0 dX7_year_54 (by decide) (fun _ => ?_) (fun _ => ?_)
    · exact bX7_year_153_t C0 _ _ _ _ (lv_sub hl [0, 3, 4] rfl)
    · refine sx_ldc2 C0 wk_X7_310 dX7_year_57 ?_
      refine sx_lload_n C0 dX7_year_60 rfl (lv_at hl 2 rfl) ?_
      refine sx_lmul C0 dX7_year_61 ?_
      refine sx_ldc2 C0 wk_X7_312 dX7_year_62 ?_
      refine sx_lrem C0 dX7_year_65 (by decide) ?_
      refine sw_lt (val := .long) (fun v3_66 => ?_)
      refine sx_lstore_n (lv' := [(3, .long v3_66), (0, .ref (ad 0)), (2, .int v2), (5, .int v5), (6, .int v6), (7, .int v7)]) C0 dX7_year_66 rfl hl (by decide) rfl (fun ls hl => ?_)
      refine sx_lload_n C0 dX7_year_67 rfl (lv_at hl 0 rfl) ?_
      refine sx_ldc2 C0 wk_X7_314 dX7_year_68 ?_
      refine sx_lrem C0 dX7_year_71 (by decide) ?_
      refine sx_l2i C0 dX7_year_72 ?_
      refine sw_lt (val := .int) (fun v8_73 => ?_)
      refine sx_istore (lv' := [(8, .int v8_73), (3, .long v3_66), (0, .ref (ad 0)), (2, .int v2), (5, .int v5), (6, .int v6), (7, .int v7)]) C0 dX7_year_73 hl (by decide) rfl (fun ls hl => ?_)
      refine sx_aload_n C0 dX7_year_75 rfl (lv_at hl 2 rfl) ?_
      refine sx_iload C0 dX7_year_76 (lv_at hl 0 rfl) ?_
      refine cv_X7_217 (As := [.int v8_73]) C0 (c_X7_isNumber C0.2.2.2.2.2.2.2.1 v8_73 S) is7 ⟨rfl, rfl⟩ ⟨Nat.le_of_ble_eq_true rfl, Nat.le_of_ble_eq_true rfl⟩ rfl hl.1 (Nat.le_of_ble_eq_true rfl) rfl dX7_year_78 (fun hb78 => ?_)
      refine sx_if_eq (tgt := 100) C0 dX7_year_81 (by decide) (fun _ => ?_) (fun _ => ?_)
      · exact bX7_year_100_t C0 _ _ _ _ _ _ _ ih _ (lv_sub hl [2, 3, 1, 4, 5, 6, 0] rfl)
      · refine sx_aload_n C0 dX7_year_84 rfl (lv_at hl 2 rfl) ?_
        refine sx_iconst (v := 1) C0 dX7_year_85 (by decide) ?_
        refine sx_iload C0 dX7_year_86 (lv_at hl 0 rfl) ?_
        refine sw_bind (fun a88 e88 => ?_)
        refine cv_X7_195 (As := [.int (1 : Int32), .int v8_73]) C0 (c_X7_costOf C0.2.2.2.2.2.2.2.1 (1 : Int32) v8_73 S _ e88) is7 ⟨rfl, rfl⟩ ⟨Nat.le_of_ble_eq_true rfl, Nat.le_of_ble_eq_true rfl⟩ rfl hl.1 (Nat.le_of_ble_eq_true rfl) rfl dX7_year_88 (fun _ => ?_)
        refine sx_bipush (v := (-9)) C0 dX7_year_91 (by decide) ?_
        refine sx_icmp_eq (tgt := 100) C0 dX7_year_93 (by decide) (fun _ => ?_) (fun _ => ?_)
        · exact bX7_year_100_t C0 _ _ _ _ _ _ _ ih _ (lv_sub hl [2, 3, 1, 4, 5, 6, 0] rfl)
        · refine sx_iconst (v := 1) C0 dX7_year_96 (by decide) ?_
          refine sx_goto (tgt := 101) C0 dX7_year_97 (by decide) ?_
          exact bX7_year_101_t C0 _ _ _ _ _ _ _ _ ih _ (lv_sub hl [2, 3, 1, 4, 5, 6, 0] rfl)
def mX7_year (S : vS) (v1 : Int32) (v2 : Int32) : Option (Int32 × vS) := (if (mX7_in v1 (1 : Int32) (2147483646 : Int32)) = 0 then (some ((-1 : Int32), S)) else (if (mX7_in v2 (1 : Int32) (100 : Int32)) = 0 then (some ((-1 : Int32), S)) else (if (S.1 0 10) = 0 then (some ((-4 : Int32), S)) else (lt (Int32.toInt64 v1) fun v3_35 => ((mX7_copyValley S (0 : Int32) (1 : Int32)).bind fun S45 => (lX7_year_51 v2 FU S45 v3_35 (0 : Int32) (0 : Int32) (0 : Int32)))))))
set_option maxHeartbeats 4000000 in
set_option maxRecDepth 100000 in
theorem c_X7_year {l : Launch} {D : va_G} {cA : Nat → ClassId} {ad : Nat → Nat} (G : Gx shM ad ExM) (v1 : Int32) (v2 : Int32) (S : vS) (r : (Int32 × vS)) (hr : (mX7_year S v1 v2) = some r) : Met l yX7_year (Cond.code yX7_year cX7_year 10 (some .int) :: ALL) rm_X7_year (Po D vwCl tlM shM cA ad ExM [.ref (ad 0), .int v1, .int v2] S) (Qo D vwCl shM cA ad (some (.int r.1)) r.2 True) 0 0 (aw shM ad) := by
  refine Met.sx (M := (mX7_year S v1 v2)) (rv := (fun q => some (.int q.1) : (Int32 × vS) → Option Value)) (rs := fun q => q.2) (B := fun _ => True) (by decide) ⟨rfl, rfl⟩ (Nat.le_of_ble_eq_true rfl) G (fun p e s m args below meth c C0 ls hl => ?_) hr
  have hl : lv_has ls 10 [(0, .ref (ad 0)), (1, .int v1), (2, .int v2)] := hl
  rw [mX7_year]
  refine sx_iload_n C0 dX7_year_0 rfl (lv_at hl 1 rfl) ?_
  refine sx_iconst (v := 1) C0 dX7_year_1 (by decide) ?_
  refine sx_ldcw C0 wk_X7_309 dX7_year_2 ?_
  refine cv_X7_80 (As := [.int v1, .int (1 : Int32), .int (2147483646 : Int32)]) C0 (c_X7_in C0.2.2.2.2.2.2.2.1 v1 (1 : Int32) (2147483646 : Int32) S) ⟨rfl, rfl⟩ ⟨Nat.le_of_ble_eq_true rfl, Nat.le_of_ble_eq_true rfl⟩ rfl hl.1 (Nat.le_of_ble_eq_true rfl) rfl dX7_year_5 (fun hb5 => ?_)
  refine sx_if_eq (tgt := 21) C0 dX7_year_8 (by decide) (fun _ => ?_) (fun _ => ?_)
  · refine sx_iconst (v := (-1)) C0 dX7_year_21 (by decide) ?_
    exact sx_iret C0 rfl rfl trivial dX7_year_22
  · refine sx_iload_n C0 dX7_year_11 rfl (lv_at hl 2 rfl) ?_
    refine sx_iconst (v := 1) C0 dX7_year_12 (by decide) ?_
    refine sx_bipush (v := 100) C0 dX7_year_13 (by decide) ?_
    refine cv_X7_80 (As := [.int v2, .int (1 : Int32), .int (100 : Int32)]) C0 (c_X7_in C0.2.2.2.2.2.2.2.1 v2 (1 : Int32) (100 : Int32) S) ⟨rfl, rfl⟩ ⟨Nat.le_of_ble_eq_true rfl, Nat.le_of_ble_eq_true rfl⟩ rfl hl.1 (Nat.le_of_ble_eq_true rfl) rfl dX7_year_15 (fun hb15 => ?_)
    refine sx_if_ne (tgt := 23) C0 dX7_year_18 (by decide) (fun _ => ?_) (fun _ => ?_)
    · refine sx_iconst (v := (-1)) C0 dX7_year_21 (by decide) ?_
      exact sx_iret C0 rfl rfl trivial dX7_year_22
    · refine sx_aload_n C0 dX7_year_23 rfl (lv_at hl 0 rfl) ?_
      refine gf_X7_139 C0 is7 dX7_year_24 ?_
      refine sx_if_ne (tgt := 33) C0 dX7_year_27 (by decide) (fun _ => ?_) (fun _ => ?_)
      · refine sx_bipush (v := (-4)) C0 dX7_year_30 (by decide) ?_
        exact sx_iret C0 rfl rfl trivial dX7_year_32
      · refine sx_iload_n C0 dX7_year_33 rfl (lv_at hl 1 rfl) ?_
        refine sx_i2l C0 dX7_year_34 ?_
        refine sw_lt (val := .long) (fun v3_35 => ?_)
        refine sx_lstore_n (lv' := [(3, .long v3_35), (0, .ref (ad 0)), (1, .int v1), (2, .int v2)]) C0 dX7_year_35 rfl hl (by decide) rfl (fun ls hl => ?_)
        refine sx_iconst (v := 0) C0 dX7_year_36 (by decide) ?_
        refine sx_istore (lv' := [(5, .int (0 : Int32)), (3, .long v3_35), (0, .ref (ad 0)), (1, .int v1), (2, .int v2)]) C0 dX7_year_37 hl (by decide) rfl (fun ls hl => ?_)
        refine sx_iconst (v := 0) C0 dX7_year_39 (by decide) ?_
        refine sx_istore (lv' := [(6, .int (0 : Int32)), (5, .int (0 : Int32)), (3, .long v3_35), (0, .ref (ad 0)), (1, .int v1), (2, .int v2)]) C0 dX7_year_40 hl (by decide) rfl (fun ls hl => ?_)
        refine sx_aload_n C0 dX7_year_42 rfl (lv_at hl 3 rfl) ?_
        refine sx_iconst (v := 0) C0 dX7_year_43 (by decide) ?_
        refine sx_iconst (v := 1) C0 dX7_year_44 (by decide) ?_
        refine sw_bind (fun S45 e45 => ?_)
        refine cv_X7_233 (As := [.int (0 : Int32), .int (1 : Int32)]) C0 (c_X7_copyValley C0.2.2.2.2.2.2.2.1 (0 : Int32) (1 : Int32) S _ e45) is7 ⟨rfl, rfl⟩ ⟨Nat.le_of_ble_eq_true rfl, Nat.le_of_ble_eq_true rfl⟩ rfl hl.1 (Nat.le_of_ble_eq_true rfl) rfl dX7_year_45 (fun _ => ?_)
        refine sx_iconst (v := 0) C0 dX7_year_48 (by decide) ?_
        refine sx_istore (lv' := [(7, .int (0 : Int32)), (6, .int (0 : Int32)), (5, .int (0 : Int32)), (3, .long v3_35), (0, .ref (ad 0)), (1, .int v1), (2, .int v2)]) C0 dX7_year_49 hl (by decide) rfl (fun ls hl => ?_)
        exact lX7_year_51_t C0 _ _ _ _ _ _ _ _ (lv_sub hl [4, 6, 3, 2, 1, 0] rfl)
abbrev rm_X7_counted : Room := { frames := 2, cells := 0, slots := 0, locals := 44 }
def bX7_counted_93   (K68 : Int32 → Int32 → Option Int32) (S : vS) (v1 : Int32) (v3 : Int32) (t0 : Int32) (t1 : Int32) : Option Int32 := (lt (t1 + t0) fun v2_94 => (K68 v2_94 (v3 + (1 : Int32))))
set_option maxHeartbeats 4000000 in
set_option maxRecDepth 100000 in
theorem bX7_counted_93_t {p : Program} {l : Launch} {e : Env} {s : State} {m : MethodId} {args : Array Value} {below : List Frame} {meth : Method} {c : Code} {D : va_G} {cA : Nat → ClassId} {ad : Nat → Nat} {K68 : Int32 → Int32 → Option Int32}  (C0 : Cx D vwCl tlM shM cA ad ExM RX7 cX7_counted 4 (some .int) p s m args meth c)  (S : vS) (v1 : Int32) (v3 : Int32) (t0 : Int32) (t1 : Int32) (hK68 : ∀ (v2 : Int32) (v3 : Int32) (ls : Array Slot), lv_has ls 4 [(0, .ref (ad 0)), (1, .int v1), (2, .int v2), (3, .int v3)] → SW p l e rm_X7_counted s m args below meth c D vwCl shM cA ad (Fq D vwCl shM cA ad below args s (fun r => some (.int r) : Int32 → Option Value) (fun _ => S) (fun _ => True)) (K68 v2 v3) S 68 ls []) (ls : Array Slot) (hl : lv_has ls 4 [(0, .ref (ad 0)), (1, .int v1), (3, .int v3)]) : SW p l e rm_X7_counted s m args below meth c D vwCl shM cA ad (Fq D vwCl shM cA ad below args s (fun r => some (.int r) : Int32 → Option Value) (fun _ => S) (fun _ => True)) (bX7_counted_93 K68 S v1 v3 t0 t1) S 93 ls [.int t0, .int t1] := by
  rw [bX7_counted_93]
  refine sx_iadd C0 dX7_counted_93 ?_
  refine sw_lt (val := .int) (fun v2_94 => ?_)
  refine sx_istore_n (lv' := [(2, .int v2_94), (0, .ref (ad 0)), (1, .int v1), (3, .int v3)]) C0 dX7_counted_94 rfl hl (by decide) rfl (fun ls hl => ?_)
  refine sx_iinc (v := (v3 + (1 : Int32))) (lv' := [(3, .int (v3 + (1 : Int32))), (2, .int v2_94), (0, .ref (ad 0)), (1, .int v1)]) C0 dX7_counted_95 hl (k := 3) rfl rfl (by decide) rfl (fun ls hl => ?_)
  refine sx_goto (tgt := 68) C0 dX7_counted_98 (by decide) ?_
  exact hK68 _ _ _ (lv_sub hl [2, 3, 1, 0] rfl)
def bX7_counted_92   (K68 : Int32 → Int32 → Option Int32) (S : vS) (v1 : Int32) (v3 : Int32) (t0 : Int32) : Option Int32 := (bX7_counted_93 K68 S v1 v3 (0 : Int32) t0)
set_option maxHeartbeats 4000000 in
set_option maxRecDepth 100000 in
theorem bX7_counted_92_t {p : Program} {l : Launch} {e : Env} {s : State} {m : MethodId} {args : Array Value} {below : List Frame} {meth : Method} {c : Code} {D : va_G} {cA : Nat → ClassId} {ad : Nat → Nat} {K68 : Int32 → Int32 → Option Int32}  (C0 : Cx D vwCl tlM shM cA ad ExM RX7 cX7_counted 4 (some .int) p s m args meth c)  (S : vS) (v1 : Int32) (v3 : Int32) (t0 : Int32) (hK68 : ∀ (v2 : Int32) (v3 : Int32) (ls : Array Slot), lv_has ls 4 [(0, .ref (ad 0)), (1, .int v1), (2, .int v2), (3, .int v3)] → SW p l e rm_X7_counted s m args below meth c D vwCl shM cA ad (Fq D vwCl shM cA ad below args s (fun r => some (.int r) : Int32 → Option Value) (fun _ => S) (fun _ => True)) (K68 v2 v3) S 68 ls []) (ls : Array Slot) (hl : lv_has ls 4 [(0, .ref (ad 0)), (1, .int v1), (3, .int v3)]) : SW p l e rm_X7_counted s m args below meth c D vwCl shM cA ad (Fq D vwCl shM cA ad below args s (fun r => some (.int r) : Int32 → Option Value) (fun _ => S) (fun _ => True)) (bX7_counted_92 K68 S v1 v3 t0) S 92 ls [.int t0] := by
  rw [bX7_counted_92]
  refine sx_iconst (v := 0) C0 dX7_counted_92 (by decide) ?_
  exact bX7_counted_93_t C0 _ _ _ _ _ hK68 _ (lv_sub hl [0, 1, 2] rfl)
def bX7_counted_130   (K103 : Int32 → Int32 → Option Int32) (S : vS) (v1 : Int32) (v3 : Int32) (t0 : Int32) (t1 : Int32) : Option Int32 := (lt (t1 + t0) fun v2_131 => (K103 v2_131 (v3 + (1 : Int32))))
set_option maxHeartbeats 4000000 in
set_option maxRecDepth 100000 in
theorem bX7_counted_130_t {p : Program} {l : Launch} {e : Env} {s : State} {m : MethodId} {args : Array Value} {below : List Frame} {meth : Method} {c : Code} {D : va_G} {cA : Nat → ClassId} {ad : Nat → Nat} {K103 : Int32 → Int32 → Option Int32}  (C0 : Cx D vwCl tlM shM cA ad ExM RX7 cX7_counted 4 (some .int) p s m args meth c)  (S : vS) (v1 : Int32) (v3 : Int32) (t0 : Int32) (t1 : Int32) (hK103 : ∀ (v2 : Int32) (v3 : Int32) (ls : Array Slot), lv_has ls 4 [(0, .ref (ad 0)), (1, .int v1), (2, .int v2), (3, .int v3)] → SW p l e rm_X7_counted s m args below meth c D vwCl shM cA ad (Fq D vwCl shM cA ad below args s (fun r => some (.int r) : Int32 → Option Value) (fun _ => S) (fun _ => True)) (K103 v2 v3) S 103 ls []) (ls : Array Slot) (hl : lv_has ls 4 [(0, .ref (ad 0)), (1, .int v1), (3, .int v3)]) : SW p l e rm_X7_counted s m args below meth c D vwCl shM cA ad (Fq D vwCl shM cA ad below args s (fun r => some (.int r) : Int32 → Option Value) (fun _ => S) (fun _ => True)) (bX7_counted_130 K103 S v1 v3 t0 t1) S 130 ls [.int t0, .int t1] := by
  rw [bX7_counted_130]
  refine sx_iadd C0 dX7_counted_130 ?_
  refine sw_lt (val := .int) (fun v2_131 => ?_)
  refine sx_istore_n (lv' := [(2, .int v2_131), (0, .ref (ad 0)), (1, .int v1), (3, .int v3)]) C0 dX7_counted_131 rfl hl (by decide) rfl (fun ls hl => ?_)
  refine sx_iinc (v := (v3 + (1 : Int32))) (lv' := [(3, .int (v3 + (1 : Int32))), (2, .int v2_131), (0, .ref (ad 0)), (1, .int v1)]) C0 dX7_counted_132 hl (k := 3) rfl rfl (by decide) rfl (fun ls hl => ?_)
  refine sx_goto (tgt := 103) C0 dX7_counted_135 (by decide) ?_
  exact hK103 _ _ _ (lv_sub hl [2, 3, 1, 0] rfl)
def bX7_counted_129   (K103 : Int32 → Int32 → Option Int32) (S : vS) (v1 : Int32) (v3 : Int32) (t0 : Int32) : Option Int32 := (bX7_counted_130 K103 S v1 v3 (0 : Int32) t0)
set_option maxHeartbeats 4000000 in
set_option maxRecDepth 100000 in
theorem bX7_counted_129_t {p : Program} {l : Launch} {e : Env} {s : State} {m : MethodId} {args : Array Value} {below : List Frame} {meth : Method} {c : Code} {D : va_G} {cA : Nat → ClassId} {ad : Nat → Nat} {K103 : Int32 → Int32 → Option Int32}  (C0 : Cx D vwCl tlM shM cA ad ExM RX7 cX7_counted 4 (some .int) p s m args meth c)  (S : vS) (v1 : Int32) (v3 : Int32) (t0 : Int32) (hK103 : ∀ (v2 : Int32) (v3 : Int32) (ls : Array Slot), lv_has ls 4 [(0, .ref (ad 0)), (1, .int v1), (2, .int v2), (3, .int v3)] → SW p l e rm_X7_counted s m args below meth c D vwCl shM cA ad (Fq D vwCl shM cA ad below args s (fun r => some (.int r) : Int32 → Option Value) (fun _ => S) (fun _ => True)) (K103 v2 v3) S 103 ls []) (ls : Array Slot) (hl : lv_has ls 4 [(0, .ref (ad 0)), (1, .int v1), (3, .int v3)]) : SW p l e rm_X7_counted s m args below meth c D vwCl shM cA ad (Fq D vwCl shM cA ad below args s (fun r => some (.int r) : Int32 → Option Value) (fun _ => S) (fun _ => True)) (bX7_counted_129 K103 S v1 v3 t0) S 129 ls [.int t0] := by
  rw [bX7_counted_129]
  refine sx_iconst (v := 0) C0 dX7_counted_129 (by decide) ?_
  exact bX7_counted_130_t C0 _ _ _ _ _ hK103 _ (lv_sub hl [0, 1, 2] rfl)
def bX7_counted_166   (K140 : Int32 → Int32 → Option Int32) (S : vS) (v1 : Int32) (v3 : Int32) (t0 : Int32) (t1 : Int32) : Option Int32 := (lt (t1 + t0) fun v2_167 => (K140 v2_167 (v3 + (1 : Int32))))
set_option maxHeartbeats 4000000 in
set_option maxRecDepth 100000 in
theorem bX7_counted_166_t {p : Program} {l : Launch} {e : Env} {s : State} {m : MethodId} {args : Array Value} {below : List Frame} {meth : Method} {c : Code} {D : va_G} {cA : Nat → ClassId} {ad : Nat → Nat} {K140 : Int32 → Int32 → Option Int32}  (C0 : Cx D vwCl tlM shM cA ad ExM RX7 cX7_counted 4 (some .int) p s m args meth c)  (S : vS) (v1 : Int32) (v3 : Int32) (t0 : Int32) (t1 : Int32) (hK140 : ∀ (v2 : Int32) (v3 : Int32) (ls : Array Slot), lv_has ls 4 [(0, .ref (ad 0)), (1, .int v1), (2, .int v2), (3, .int v3)] → SW p l e rm_X7_counted s m args below meth c D vwCl shM cA ad (Fq D vwCl shM cA ad below args s (fun r => some (.int r) : Int32 → Option Value) (fun _ => S) (fun _ => True)) (K140 v2 v3) S 140 ls []) (ls : Array Slot) (hl : lv_has ls 4 [(0, .ref (ad 0)), (1, .int v1), (3, .int v3)]) : SW p l e rm_X7_counted s m args below meth c D vwCl shM cA ad (Fq D vwCl shM cA ad below args s (fun r => some (.int r) : Int32 → Option Value) (fun _ => S) (fun _ => True)) (bX7_counted_166 K140 S v1 v3 t0 t1) S 166 ls [.int t0, .int t1] := by
  rw [bX7_counted_166]
  refine sx_iadd C0 dX7_counted_166 ?_
  refine sw_lt (val := .int) (fun v2_167 => ?_)
  refine sx_istore_n (lv' := [(2, .int v2_167), (0, .ref (ad 0)), (1, .int v1), (3, .int v3)]) C0 dX7_counted_167 rfl hl (by decide) rfl (fun ls hl => ?_)
  refine sx_iinc (v := (v3 + (1 : Int32))) (lv' := [(3, .int (v3 + (1 : Int32))), (2, .int v2_167), (0, .ref (ad 0)), (1, .int v1)]) C0 dX7_counted_168 hl (k := 3) rfl rfl (by decide) rfl (fun ls hl => ?_)
  refine sx_goto (tgt := 140) C0 dX7_counted_171 (by decide) ?_
  exact hK140 _ _ _ (lv_sub hl [2, 3, 1, 0] rfl)
def bX7_counted_165   (K140 : Int32 → Int32 → Option Int32) (S : vS) (v1 : Int32) (v3 : Int32) (t0 : Int32) : Option Int32 := (bX7_counted_166 K140 S v1 v3 (0 : Int32) t0)
set_option maxHeartbeats 4000000 in
set_option maxRecDepth 100000 in
theorem bX7_counted_165_t {p : Program} {l : Launch} {e : Env} {s : State} {m : MethodId} {args : Array Value} {below : List Frame} {meth : Method} {c : Code} {D : va_G} {cA : Nat → ClassId} {ad : Nat → Nat} {K140 : Int32 → Int32 → Option Int32}  (C0 : Cx D vwCl tlM shM cA ad ExM RX7 cX7_counted 4 (some .int) p s m args meth c)  (S : vS) (v1 : Int32) (v3 : Int32) (t0 : Int32) (hK140 : ∀ (v2 : Int32) (v3 : Int32) (ls : Array Slot), lv_has ls 4 [(0, .ref (ad 0)), (1, .int v1), (2, .int v2), (3, .int v3)] → SW p l e rm_X7_counted s m args below meth c D vwCl shM cA ad (Fq D vwCl shM cA ad below args s (fun r => some (.int r) : Int32 → Option Value) (fun _ => S) (fun _ => True)) (K140 v2 v3) S 140 ls []) (ls : Array Slot) (hl : lv_has ls 4 [(0, .ref (ad 0)), (1, .int v1), (3, .int v3)]) : SW p l e rm_X7_counted s m args below meth c D vwCl shM cA ad (Fq D vwCl shM cA ad below args s (fun r => some (.int r) : Int32 → Option Value) (fun _ => S) (fun _ => True)) (bX7_counted_165 K140 S v1 v3 t0) S 165 ls [.int t0] := by
  rw [bX7_counted_165]
  refine sx_iconst (v := 0) C0 dX7_counted_165 (by decide) ?_
  exact bX7_counted_166_t C0 _ _ _ _ _ hK140 _ (lv_sub hl [0, 1, 2] rfl)
def bX7_counted_174    (S : vS) (v1 : Int32) (v2 : Int32)  : Option Int32 := (if v1 = 0 then (some (S.1 0 10)) else (if v1 = (1 : Int32) then ((mX7_v S (0 : Int32) (14 : Int32)).bind fun a194 => (some a194)) else (some v2)))
set_option maxHeartbeats 4000000 in
set_option maxRecDepth 100000 in
theorem bX7_counted_174_t {p : Program} {l : Launch} {e : Env} {s : State} {m : MethodId} {args : Array Value} {below : List Frame} {meth : Method} {c : Code} {D : va_G} {cA : Nat → ClassId} {ad : Nat → Nat}   (C0 : Cx D vwCl tlM shM cA ad ExM RX7 cX7_counted 4 (some .int) p s m args meth c)  (S : vS) (v1 : Int32) (v2 : Int32) (ls : Array Slot) (hl : lv_has ls 4 [(0, .ref (ad 0)), (1, .int v1), (2, .int v2)]) : SW p l e rm_X7_counted s m args below meth c D vwCl shM cA ad (Fq D vwCl shM cA ad below args s (fun r => some (.int r) : Int32 → Option Value) (fun _ => S) (fun _ => True)) (bX7_counted_174 S v1 v2) S 174 ls [] := by
  rw [bX7_counted_174]
  refine sx_iload_n C0 dX7_counted_174 rfl (lv_at hl 1 rfl) ?_
  refine sx_if_ne (tgt := 185) C0 dX7_counted_175 (by decide) (fun _ => ?_) (fun _ => ?_)
  · refine sx_aload_n C0 dX7_counted_178 rfl (lv_at hl 0 rfl) ?_
    refine gf_X7_139 C0 is7 dX7_counted_179 ?_
    refine sx_goto (tgt := 201) C0 dX7_counted_182 (by decide) ?_
    exact sx_iret C0 rfl rfl trivial dX7_counted_201
  · refine sx_iload_n C0 dX7_counted_185 rfl (lv_at hl 1 rfl) ?_
    refine sx_iconst (v := 1) C0 dX7_counted_186 (by decide) ?_
    refine sx_icmp_ne (tgt := 200) C0 dX7_counted_187 (by decide) (fun _ => ?_) (fun _ => ?_)
    · refine sx_aload_n C0 dX7_counted_190 rfl (lv_at hl 0 rfl) ?_
      refine sx_iconst (v := 0) C0 dX7_counted_191 (by decide) ?_
      refine sx_bipush (v := 14) C0 dX7_counted_192 (by decide) ?_
      refine sw_bind (fun a194 e194 => ?_)
      refine cv_X7_149 (As := [.int (0 : Int32), .int (14 : Int32)]) C0 (c_X7_v C0.2.2.2.2.2.2.2.1 (0 : Int32) (14 : Int32) S _ e194) is7 ⟨rfl, rfl⟩ ⟨Nat.le_of_ble_eq_true rfl, Nat.le_of_ble_eq_true rfl⟩ rfl hl.1 (Nat.le_of_ble_eq_true rfl) rfl dX7_counted_194 (fun _ => ?_)
      refine sx_goto (tgt := 201) C0 dX7_counted_197 (by decide) ?_
      exact sx_iret C0 rfl rfl trivial dX7_counted_201
    · refine sx_iload_n C0 dX7_counted_200 rfl (lv_at hl 2 rfl) ?_
      exact sx_iret C0 rfl rfl trivial dX7_counted_201
def lX7_counted_140  (S : vS)  (v1 : Int32) : Nat → Int32 → Int32 → Option Int32
  | 0, _, _ => none
  | n + 1, v2, v3 => (if (4 : Int32) ≤ v3 then (bX7_counted_174 S v1 v2) else (if v1 = (7 : Int32) then ((gI (S.1 5) 4 v3).bind fun a157 => (if a157 < 0 then (bX7_counted_165 (lX7_counted_140 S v1 n) S v1 v3 v2) else (bX7_counted_166 (lX7_counted_140 S v1 n) S v1 v3 (1 : Int32) v2))) else (bX7_counted_165 (lX7_counted_140 S v1 n) S v1 v3 v2)))
set_option maxHeartbeats 4000000 in
set_option maxRecDepth 100000 in
theorem lX7_counted_140_t {p : Program} {l : Launch} {e : Env} {s : State} {m : MethodId} {args : Array Value} {below : List Frame} {meth : Method} {c : Code} {D : va_G} {cA : Nat → ClassId} {ad : Nat → Nat}   (C0 : Cx D vwCl tlM shM cA ad ExM RX7 cX7_counted 4 (some .int) p s m args meth c)  (S : vS) (v1 : Int32)  : ∀ (n : Nat) (v2 : Int32) (v3 : Int32) (ls : Array Slot), lv_has ls 4 [(0, .ref (ad 0)), (1, .int v1), (2, .int v2), (3, .int v3)] → SW p l e rm_X7_counted s m args below meth c D vwCl shM cA ad (Fq D vwCl shM cA ad below args s (fun r => some (.int r) : Int32 → Option Value) (fun _ => S) (fun _ => True)) (lX7_counted_140 S v1 n v2 v3) S 140 ls [] := by
  intro n
  induction n with
  | zero =>
    intro v2 v3 ls hl
    rw [lX7_counted_140]
    exact sw_none
  | succ n ih =>
    intro v2 v3 ls hl
    rw [lX7_counted_140]
    refine sx_iload_n C0 dX7_counted_140 rfl (lv_at hl 3 rfl) ?_
    refine sx_iconst (v := 4) C0 dX7_counted_141 (by decide) ?_
    refine sx_icmp_ge (tgt := 174) C0 dX7_counted_142 (by decide) (fun _ => ?_) (fun _ => ?_)
    · exact bX7_counted_174_t C0 _ _ _ _ (lv_sub hl [0, 1, 2] rfl)
    · refine sx_iload_n C0 dX7_counted_145 rfl (lv_at hl 2 rfl) ?_
      refine sx_iload_n C0 dX7_counted_146 rfl (lv_at hl 1 rfl) ?_
      refine sx_bipush (v := 7) C0 dX7_counted_147 (by decide) ?_
      refine sx_icmp_ne (tgt := 165) C0 dX7_counted_149 (by decide) (fun _ => ?_) (fun _ => ?_)
      · refine sx_aload_n C0 dX7_counted_152 rfl (lv_at hl 0 rfl) ?_
        refine gf_X7_22 C0 is7 dX7_counted_153 ?_
        refine sx_iload_n C0 dX7_counted_156 rfl (lv_at hl 3 rfl) ?_
        refine sx_iald C0 is7_textSizes rfl dX7_counted_157 (fun a157 => ?_)
        refine sx_if_lt (tgt := 165) C0 dX7_counted_158 (by decide) (fun _ => ?_) (fun _ => ?_)
        · exact bX7_counted_165_t C0 _ _ _ _ ih _ (lv_sub hl [0, 1, 3] rfl)
        · refine sx_iconst (v := 1) C0 dX7_counted_161 (by decide) ?_
          refine sx_goto (tgt := 166) C0 dX7_counted_162 (by decide) ?_
          exact bX7_counted_166_t C0 _ _ _ _ _ ih _ (lv_sub hl [0, 1, 3] rfl)
      · exact bX7_counted_165_t C0 _ _ _ _ ih _ (lv_sub hl [0, 1, 3] rfl)
def bX7_counted_138    (S : vS) (v1 : Int32) (v2 : Int32)  : Option Int32 := (lX7_counted_140 S v1 FU v2 (0 : Int32))
set_option maxHeartbeats 4000000 in
set_option maxRecDepth 100000 in
theorem bX7_counted_138_t {p : Program} {l : Launch} {e : Env} {s : State} {m : MethodId} {args : Array Value} {below : List Frame} {meth : Method} {c : Code} {D : va_G} {cA : Nat → ClassId} {ad : Nat → Nat}   (C0 : Cx D vwCl tlM shM cA ad ExM RX7 cX7_counted 4 (some .int) p s m args meth c)  (S : vS) (v1 : Int32) (v2 : Int32) (ls : Array Slot) (hl : lv_has ls 4 [(0, .ref (ad 0)), (1, .int v1), (2, .int v2)]) : SW p l e rm_X7_counted s m args below meth c D vwCl shM cA ad (Fq D vwCl shM cA ad below args s (fun r => some (.int r) : Int32 → Option Value) (fun _ => S) (fun _ => True)) (bX7_counted_138 S v1 v2) S 138 ls [] := by
  rw [bX7_counted_138]
  refine sx_iconst (v := 0) C0 dX7_counted_138 (by decide) ?_
  refine sx_istore_n (lv' := [(3, .int (0 : Int32)), (0, .ref (ad 0)), (1, .int v1), (2, .int v2)]) C0 dX7_counted_139 rfl hl (by decide) rfl (fun ls hl => ?_)
  exact lX7_counted_140_t C0 _ _ _ _ _ _ (lv_sub hl [1, 2, 3, 0] rfl)
def lX7_counted_103  (S : vS)  (v1 : Int32) : Nat → Int32 → Int32 → Option Int32
  | 0, _, _ => none
  | n + 1, v2, v3 => (if (6 : Int32) ≤ v3 then (bX7_counted_138 S v1 v2) else (if v1 = (6 : Int32) then ((gI (S.1 2) 6 v3).bind fun a121 => (if a121 < 0 then (bX7_counted_129 (lX7_counted_103 S v1 n) S v1 v3 v2) else (bX7_counted_130 (lX7_counted_103 S v1 n) S v1 v3 (1 : Int32) v2))) else (bX7_counted_129 (lX7_counted_103 S v1 n) S v1 v3 v2)))
set_option maxHeartbeats 4000000 in
set_option maxRecDepth 100000 in
theorem lX7_counted_103_t {p : Program} {l : Launch} {e : Env} {s : State} {m : MethodId} {args : Array Value} {below : List Frame} {meth : Method} {c : Code} {D : va_G} {cA : Nat → ClassId} {ad : Nat → Nat}   (C0 : Cx D vwCl tlM shM cA ad ExM RX7 cX7_counted 4 (some .int) p s m args meth c)  (S : vS) (v1 : Int32)  : ∀ (n : Nat) (v2 : Int32) (v3 : Int32) (ls : Array Slot), lv_has ls 4 [(0, .ref (ad 0)), (1, .int v1), (2, .int v2), (3, .int v3)] → SW p l e rm_X7_counted s m args below meth c D vwCl shM cA ad (Fq D vwCl shM cA ad below args s (fun r => some (.int r) : Int32 → Option Value) (fun _ => S) (fun _ => True)) (lX7_counted_103 S v1 n v2 v3) S 103 ls [] := by
  intro n
  induction n with
  | zero =>
    intro v2 v3 ls hl
    rw [lX7_counted_103]
    exact sw_none
  | succ n ih =>
    intro v2 v3 ls hl
    rw [lX7_counted_103]
    refine sx_iload_n C0 dX7_counted_103 rfl (lv_at hl 3 rfl) ?_
    refine sx_bipush (v := 6) C0 dX7_counted_104 (by decide) ?_
    refine sx_icmp_ge (tgt := 138) C0 dX7_counted_106 (by decide) (fun _ => ?_) (fun _ => ?_)
    · exact bX7_counted_138_t C0 _ _ _ _ (lv_sub hl [0, 1, 2] rfl)
    · refine sx_iload_n C0 dX7_counted_109 rfl (lv_at hl 2 rfl) ?_
      refine sx_iload_n C0 dX7_counted_110 rfl (lv_at hl 1 rfl) ?_
      refine sx_bipush (v := 6) C0 dX7_counted_111 (by decide) ?_
      refine sx_icmp_ne (tgt := 129) C0 dX7_counted_113 (by decide) (fun _ => ?_) (fun _ => ?_)
      · refine sx_aload_n C0 dX7_counted_116 rfl (lv_at hl 0 rfl) ?_
        refine gf_X7_13 C0 is7 dX7_counted_117 ?_
        refine sx_iload_n C0 dX7_counted_120 rfl (lv_at hl 3 rfl) ?_
        refine sx_iald C0 is7_sizes rfl dX7_counted_121 (fun a121 => ?_)
        refine sx_if_lt (tgt := 129) C0 dX7_counted_122 (by decide) (fun _ => ?_) (fun _ => ?_)
        · exact bX7_counted_129_t C0 _ _ _ _ ih _ (lv_sub hl [0, 1, 3] rfl)
        · refine sx_iconst (v := 1) C0 dX7_counted_125 (by decide) ?_
          refine sx_goto (tgt := 130) C0 dX7_counted_126 (by decide) ?_
          exact bX7_counted_130_t C0 _ _ _ _ _ ih _ (lv_sub hl [0, 1, 3] rfl)
      · exact bX7_counted_129_t C0 _ _ _ _ ih _ (lv_sub hl [0, 1, 3] rfl)
def bX7_counted_101    (S : vS) (v1 : Int32) (v2 : Int32)  : Option Int32 := (lX7_counted_103 S v1 FU v2 (0 : Int32))
set_option maxHeartbeats 4000000 in
set_option maxRecDepth 100000 in
theorem bX7_counted_101_t {p : Program} {l : Launch} {e : Env} {s : State} {m : MethodId} {args : Array Value} {below : List Frame} {meth : Method} {c : Code} {D : va_G} {cA : Nat → ClassId} {ad : Nat → Nat}   (C0 : Cx D vwCl tlM shM cA ad ExM RX7 cX7_counted 4 (some .int) p s m args meth c)  (S : vS) (v1 : Int32) (v2 : Int32) (ls : Array Slot) (hl : lv_has ls 4 [(0, .ref (ad 0)), (1, .int v1), (2, .int v2)]) : SW p l e rm_X7_counted s m args below meth c D vwCl shM cA ad (Fq D vwCl shM cA ad below args s (fun r => some (.int r) : Int32 → Option Value) (fun _ => S) (fun _ => True)) (bX7_counted_101 S v1 v2) S 101 ls [] := by
  rw [bX7_counted_101]
  refine sx_iconst (v := 0) C0 dX7_counted_101 (by decide) ?_
  refine sx_istore_n (lv' := [(3, .int (0 : Int32)), (0, .ref (ad 0)), (1, .int v1), (2, .int v2)]) C0 dX7_counted_102 rfl hl (by decide) rfl (fun ls hl => ?_)
  exact lX7_counted_103_t C0 _ _ _ _ _ _ (lv_sub hl [1, 2, 3, 0] rfl)
def lX7_counted_68  (S : vS)  (v1 : Int32) : Nat → Int32 → Int32 → Option Int32
  | 0, _, _ => none
  | n + 1, v2, v3 => (if (3 : Int32) ≤ v3 then (bX7_counted_101 S v1 v2) else (if v1 = (5 : Int32) then ((gI (S.1 13) 3 v3).bind fun a84 => (if a84 = 0 then (bX7_counted_92 (lX7_counted_68 S v1 n) S v1 v3 v2) else (bX7_counted_93 (lX7_counted_68 S v1 n) S v1 v3 (1 : Int32) v2))) else (bX7_counted_92 (lX7_counted_68 S v1 n) S v1 v3 v2)))
set_option maxHeartbeats 4000000 in
set_option maxRecDepth 100000 in
theorem lX7_counted_68_t {p : Program} {l : Launch} {e : Env} {s : State} {m : MethodId} {args : Array Value} {below : List Frame} {meth : Method} {c : Code} {D : va_G} {cA : Nat → ClassId} {ad : Nat → Nat}   (C0 : Cx D vwCl tlM shM cA ad ExM RX7 cX7_counted 4 (some .int) p s m args meth c)  (S : vS) (v1 : Int32)  : ∀ (n : Nat) (v2 : Int32) (v3 : Int32) (ls : Array Slot), lv_has ls 4 [(0, .ref (ad 0)), (1, .int v1), (2, .int v2), (3, .int v3)] → SW p l e rm_X7_counted s m args below meth c D vwCl shM cA ad (Fq D vwCl shM cA ad below args s (fun r => some (.int r) : Int32 → Option Value) (fun _ => S) (fun _ => True)) (lX7_counted_68 S v1 n v2 v3) S 68 ls [] := by
  intro n
  induction n with
  | zero =>
    intro v2 v3 ls hl
    rw [lX7_counted_68]
    exact sw_none
  | succ n ih =>
    intro v2 v3 ls hl
    rw [lX7_counted_68]
    refine sx_iload_n C0 dX7_counted_68 rfl (lv_at hl 3 rfl) ?_
    refine sx_iconst (v := 3) C0 dX7_counted_69 (by decide) ?_
    refine sx_icmp_ge (tgt := 101) C0 dX7_counted_70 (by decide) (fun _ => ?_) (fun _ => ?_)
    · exact bX7_counted_101_t C0 _ _ _ _ (lv_sub hl [0, 1, 2] rfl)
    · refine sx_iload_n C0 dX7_counted_73 rfl (lv_at hl 2 rfl) ?_
      refine sx_iload_n C0 dX7_counted_74 rfl (lv_at hl 1 rfl) ?_
      refine sx_iconst (v := 5) C0 dX7_counted_75 (by decide) ?_
      refine sx_icmp_ne (tgt := 92) C0 dX7_counted_76 (by decide) (fun _ => ?_) (fun _ => ?_)
      · refine sx_aload_n C0 dX7_counted_79 rfl (lv_at hl 0 rfl) ?_
        refine gf_X7_47 C0 is7 dX7_counted_80 ?_
        refine sx_iload_n C0 dX7_counted_83 rfl (lv_at hl 3 rfl) ?_
        refine sx_zald C0 is7_isKept rfl dX7_counted_84 (fun a84 => ?_)
        refine sx_if_eq (tgt := 92) C0 dX7_counted_85 (by decide) (fun _ => ?_) (fun _ => ?_)
        · exact bX7_counted_92_t C0 _ _ _ _ ih _ (lv_sub hl [0, 1, 3] rfl)
        · refine sx_iconst (v := 1) C0 dX7_counted_88 (by decide) ?_
          refine sx_goto (tgt := 93) C0 dX7_counted_89 (by decide) ?_
          exact bX7_counted_93_t C0 _ _ _ _ _ ih _ (lv_sub hl [0, 1, 3] rfl)
      · exact bX7_counted_92_t C0 _ _ _ _ ih _ (lv_sub hl [0, 1, 3] rfl)
def bX7_counted_66    (S : vS) (v1 : Int32) (v2 : Int32)  : Option Int32 := (lX7_counted_68 S v1 FU v2 (0 : Int32))
set_option maxHeartbeats 4000000 in
set_option maxRecDepth 100000 in
theorem bX7_counted_66_t {p : Program} {l : Launch} {e : Env} {s : State} {m : MethodId} {args : Array Value} {below : List Frame} {meth : Method} {c : Code} {D : va_G} {cA : Nat → ClassId} {ad : Nat → Nat}   (C0 : Cx D vwCl tlM shM cA ad ExM RX7 cX7_counted 4 (some .int) p s m args meth c)  (S : vS) (v1 : Int32) (v2 : Int32) (ls : Array Slot) (hl : lv_has ls 4 [(0, .ref (ad 0)), (1, .int v1), (2, .int v2)]) : SW p l e rm_X7_counted s m args below meth c D vwCl shM cA ad (Fq D vwCl shM cA ad below args s (fun r => some (.int r) : Int32 → Option Value) (fun _ => S) (fun _ => True)) (bX7_counted_66 S v1 v2) S 66 ls [] := by
  rw [bX7_counted_66]
  refine sx_iconst (v := 0) C0 dX7_counted_66 (by decide) ?_
  refine sx_istore_n (lv' := [(3, .int (0 : Int32)), (0, .ref (ad 0)), (1, .int v1), (2, .int v2)]) C0 dX7_counted_67 rfl hl (by decide) rfl (fun ls hl => ?_)
  exact lX7_counted_68_t C0 _ _ _ _ _ _ (lv_sub hl [1, 2, 3, 0] rfl)
def bX7_counted_58   (K4 : Int32 → Int32 → Option Int32) (S : vS) (v1 : Int32) (v3 : Int32) (t0 : Int32) (t1 : Int32) : Option Int32 := (lt (t1 + t0) fun v2_59 => (K4 v2_59 (v3 + (1 : Int32))))
set_option maxHeartbeats 4000000 in
set_option maxRecDepth 100000 in
theorem bX7_counted_58_t {p : Program} {l : Launch} {e : Env} {s : State} {m : MethodId} {args : Array Value} {below : List Frame} {meth : Method} {c : Code} {D : va_G} {cA : Nat → ClassId} {ad : Nat → Nat} {K4 : Int32 → Int32 → Option Int32}  (C0 : Cx D vwCl tlM shM cA ad ExM RX7 cX7_counted 4 (some .int) p s m args meth c)  (S : vS) (v1 : Int32) (v3 : Int32) (t0 : Int32) (t1 : Int32) (hK4 : ∀ (v2 : Int32) (v3 : Int32) (ls : Array Slot), lv_has ls 4 [(0, .ref (ad 0)), (1, .int v1), (2, .int v2), (3, .int v3)] → SW p l e rm_X7_counted s m args below meth c D vwCl shM cA ad (Fq D vwCl shM cA ad below args s (fun r => some (.int r) : Int32 → Option Value) (fun _ => S) (fun _ => True)) (K4 v2 v3) S 4 ls []) (ls : Array Slot) (hl : lv_has ls 4 [(0, .ref (ad 0)), (1, .int v1), (3, .int v3)]) : SW p l e rm_X7_counted s m args below meth c D vwCl shM cA ad (Fq D vwCl shM cA ad below args s (fun r => some (.int r) : Int32 → Option Value) (fun _ => S) (fun _ => True)) (bX7_counted_58 K4 S v1 v3 t0 t1) S 58 ls [.int t0, .int t1] := by
  rw [bX7_counted_58]
  refine sx_iadd C0 dX7_counted_58 ?_
  refine sw_lt (val := .int) (fun v2_59 => ?_)
  refine sx_istore_n (lv' := [(2, .int v2_59), (0, .ref (ad 0)), (1, .int v1), (3, .int v3)]) C0 dX7_counted_59 rfl hl (by decide) rfl (fun ls hl => ?_)
  refine sx_iinc (v := (v3 + (1 : Int32))) (lv' := [(3, .int (v3 + (1 : Int32))), (2, .int v2_59), (0, .ref (ad 0)), (1, .int v1)]) C0 dX7_counted_60 hl (k := 3) rfl rfl (by decide) rfl (fun ls hl => ?_)
  refine sx_goto (tgt := 4) C0 dX7_counted_63 (by decide) ?_
  exact hK4 _ _ _ (lv_sub hl [2, 3, 1, 0] rfl)
def bX7_counted_57   (K4 : Int32 → Int32 → Option Int32) (S : vS) (v1 : Int32) (v3 : Int32) (t0 : Int32) : Option Int32 := (bX7_counted_58 K4 S v1 v3 (0 : Int32) t0)
set_option maxHeartbeats 4000000 in
set_option maxRecDepth 100000 in
theorem bX7_counted_57_t {p : Program} {l : Launch} {e : Env} {s : State} {m : MethodId} {args : Array Value} {below : List Frame} {meth : Method} {c : Code} {D : va_G} {cA : Nat → ClassId} {ad : Nat → Nat} {K4 : Int32 → Int32 → Option Int32}  (C0 : Cx D vwCl tlM shM cA ad ExM RX7 cX7_counted 4 (some .int) p s m args meth c)  (S : vS) (v1 : Int32) (v3 : Int32) (t0 : Int32) (hK4 : ∀ (v2 : Int32) (v3 : Int32) (ls : Array Slot), lv_has ls 4 [(0, .ref (ad 0)), (1, .int v1), (2, .int v2), (3, .int v3)] → SW p l e rm_X7_counted s m args below meth c D vwCl shM cA ad (Fq D vwCl shM cA ad below args s (fun r => some (.int r) : Int32 → Option Value) (fun _ => S) (fun _ => True)) (K4 v2 v3) S 4 ls []) (ls : Array Slot) (hl : lv_has ls 4 [(0, .ref (ad 0)), (1, .int v1), (3, .int v3)]) : SW p l e rm_X7_counted s m args below meth c D vwCl shM cA ad (Fq D vwCl shM cA ad below args s (fun r => some (.int r) : Int32 → Option Value) (fun _ => S) (fun _ => True)) (bX7_counted_57 K4 S v1 v3 t0) S 57 ls [.int t0] := by
  rw [bX7_counted_57]
  refine sx_iconst (v := 0) C0 dX7_counted_57 (by decide) ?_
  exact bX7_counted_58_t C0 _ _ _ _ _ hK4 _ (lv_sub hl [0, 1, 2] rfl)
def bX7_counted_53   (K4 : Int32 → Int32 → Option Int32) (S : vS) (v1 : Int32) (v3 : Int32) (t0 : Int32) : Option Int32 := (bX7_counted_58 K4 S v1 v3 (1 : Int32) t0)
set_option maxHeartbeats 4000000 in
set_option maxRecDepth 100000 in
theorem bX7_counted_53_t {p : Program} {l : Launch} {e : Env} {s : State} {m : MethodId} {args : Array Value} {below : List Frame} {meth : Method} {c : Code} {D : va_G} {cA : Nat → ClassId} {ad : Nat → Nat} {K4 : Int32 → Int32 → Option Int32}  (C0 : Cx D vwCl tlM shM cA ad ExM RX7 cX7_counted 4 (some .int) p s m args meth c)  (S : vS) (v1 : Int32) (v3 : Int32) (t0 : Int32) (hK4 : ∀ (v2 : Int32) (v3 : Int32) (ls : Array Slot), lv_has ls 4 [(0, .ref (ad 0)), (1, .int v1), (2, .int v2), (3, .int v3)] → SW p l e rm_X7_counted s m args below meth c D vwCl shM cA ad (Fq D vwCl shM cA ad below args s (fun r => some (.int r) : Int32 → Option Value) (fun _ => S) (fun _ => True)) (K4 v2 v3) S 4 ls []) (ls : Array Slot) (hl : lv_has ls 4 [(0, .ref (ad 0)), (1, .int v1), (3, .int v3)]) : SW p l e rm_X7_counted s m args below meth c D vwCl shM cA ad (Fq D vwCl shM cA ad below args s (fun r => some (.int r) : Int32 → Option Value) (fun _ => S) (fun _ => True)) (bX7_counted_53 K4 S v1 v3 t0) S 53 ls [.int t0] := by
  rw [bX7_counted_53]
  refine sx_iconst (v := 1) C0 dX7_counted_53 (by decide) ?_
  refine sx_goto (tgt := 58) C0 dX7_counted_54 (by decide) ?_
  exact bX7_counted_58_t C0 _ _ _ _ _ hK4 _ (lv_sub hl [0, 1, 2] rfl)
def bX7_counted_40   (K4 : Int32 → Int32 → Option Int32) (S : vS) (v1 : Int32) (v3 : Int32) (t0 : Int32) : Option Int32 := (if v1 = (4 : Int32) then ((mX7_isSleeper S v3).bind fun a47 => (if a47 = 0 then (bX7_counted_57 K4 S v1 v3 t0) else (bX7_counted_53 K4 S v1 v3 t0))) else (bX7_counted_57 K4 S v1 v3 t0))
set_option maxHeartbeats 4000000 in
set_option maxRecDepth 100000 in
theorem bX7_counted_40_t {p : Program} {l : Launch} {e : Env} {s : State} {m : MethodId} {args : Array Value} {below : List Frame} {meth : Method} {c : Code} {D : va_G} {cA : Nat → ClassId} {ad : Nat → Nat} {K4 : Int32 → Int32 → Option Int32}  (C0 : Cx D vwCl tlM shM cA ad ExM RX7 cX7_counted 4 (some .int) p s m args meth c)  (S : vS) (v1 : Int32) (v3 : Int32) (t0 : Int32) (hK4 : ∀ (v2 : Int32) (v3 : Int32) (ls : Array Slot), lv_has ls 4 [(0, .ref (ad 0)), (1, .int v1), (2, .int v2), (3, .int v3)] → SW p l e rm_X7_counted s m args below meth c D vwCl shM cA ad (Fq D vwCl shM cA ad below args s (fun r => some (.int r) : Int32 → Option Value) (fun _ => S) (fun _ => True)) (K4 v2 v3) S 4 ls []) (ls : Array Slot) (hl : lv_has ls 4 [(0, .ref (ad 0)), (1, .int v1), (3, .int v3)]) : SW p l e rm_X7_counted s m args below meth c D vwCl shM cA ad (Fq D vwCl shM cA ad below args s (fun r => some (.int r) : Int32 → Option Value) (fun _ => S) (fun _ => True)) (bX7_counted_40 K4 S v1 v3 t0) S 40 ls [.int t0] := by
  rw [bX7_counted_40]
  refine sx_iload_n C0 dX7_counted_40 rfl (lv_at hl 1 rfl) ?_
  refine sx_iconst (v := 4) C0 dX7_counted_41 (by decide) ?_
  refine sx_icmp_ne (tgt := 57) C0 dX7_counted_42 (by decide) (fun _ => ?_) (fun _ => ?_)
  · refine sx_aload_n C0 dX7_counted_45 rfl (lv_at hl 0 rfl) ?_
    refine sx_iload_n C0 dX7_counted_46 rfl (lv_at hl 2 rfl) ?_
    refine sw_bind (fun a47 e47 => ?_)
    refine cv_X7_152 (As := [.int v3]) C0 (c_X7_isSleeper C0.2.2.2.2.2.2.2.1 v3 S _ e47) is7 ⟨rfl, rfl⟩ ⟨Nat.le_of_ble_eq_true rfl, Nat.le_of_ble_eq_true rfl⟩ rfl hl.1 (Nat.le_of_ble_eq_true rfl) rfl dX7_counted_47 (fun hb47 => ?_)
    refine sx_if_eq (tgt := 57) C0 dX7_counted_50 (by decide) (fun _ => ?_) (fun _ => ?_)
    · exact bX7_counted_57_t C0 _ _ _ _ hK4 _ (lv_sub hl [0, 1, 2] rfl)
    · exact bX7_counted_53_t C0 _ _ _ _ hK4 _ (lv_sub hl [0, 1, 2] rfl)
  · exact bX7_counted_57_t C0 _ _ _ _ hK4 _ (lv_sub hl [0, 1, 2] rfl)
def bX7_counted_27   (K4 : Int32 → Int32 → Option Int32) (S : vS) (v1 : Int32) (v3 : Int32) (t0 : Int32) : Option Int32 := (if v1 = (3 : Int32) then ((mX7_isJealous S v3).bind fun a34 => (if a34 = 0 then (bX7_counted_40 K4 S v1 v3 t0) else (bX7_counted_53 K4 S v1 v3 t0))) else (bX7_counted_40 K4 S v1 v3 t0))
set_option maxHeartbeats 4000000 in
set_option maxRecDepth 100000 in
theorem bX7_counted_27_t {p : Program} {l : Launch} {e : Env} {s : State} {m : MethodId} {args : Array Value} {below : List Frame} {meth : Method} {c : Code} {D : va_G} {cA : Nat → ClassId} {ad : Nat → Nat} {K4 : Int32 → Int32 → Option Int32}  (C0 : Cx D vwCl tlM shM cA ad ExM RX7 cX7_counted 4 (some .int) p s m args meth c)  (S : vS) (v1 : Int32) (v3 : Int32) (t0 : Int32) (hK4 : ∀ (v2 : Int32) (v3 : Int32) (ls : Array Slot), lv_has ls 4 [(0, .ref (ad 0)), (1, .int v1), (2, .int v2), (3, .int v3)] → SW p l e rm_X7_counted s m args below meth c D vwCl shM cA ad (Fq D vwCl shM cA ad below args s (fun r => some (.int r) : Int32 → Option Value) (fun _ => S) (fun _ => True)) (K4 v2 v3) S 4 ls []) (ls : Array Slot) (hl : lv_has ls 4 [(0, .ref (ad 0)), (1, .int v1), (3, .int v3)]) : SW p l e rm_X7_counted s m args below meth c D vwCl shM cA ad (Fq D vwCl shM cA ad below args s (fun r => some (.int r) : Int32 → Option Value) (fun _ => S) (fun _ => True)) (bX7_counted_27 K4 S v1 v3 t0) S 27 ls [.int t0] := by
  rw [bX7_counted_27]
  refine sx_iload_n C0 dX7_counted_27 rfl (lv_at hl 1 rfl) ?_
  refine sx_iconst (v := 3) C0 dX7_counted_28 (by decide) ?_
  refine sx_icmp_ne (tgt := 40) C0 dX7_counted_29 (by decide) (fun _ => ?_) (fun _ => ?_)
  · refine sx_aload_n C0 dX7_counted_32 rfl (lv_at hl 0 rfl) ?_
    refine sx_iload_n C0 dX7_counted_33 rfl (lv_at hl 2 rfl) ?_
    refine sw_bind (fun a34 e34 => ?_)
    refine cv_X7_180 (As := [.int v3]) C0 (c_X7_isJealous C0.2.2.2.2.2.2.2.1 v3 S _ e34) is7 ⟨rfl, rfl⟩ ⟨Nat.le_of_ble_eq_true rfl, Nat.le_of_ble_eq_true rfl⟩ rfl hl.1 (Nat.le_of_ble_eq_true rfl) rfl dX7_counted_34 (fun hb34 => ?_)
    refine sx_if_ne (tgt := 53) C0 dX7_counted_37 (by decide) (fun _ => ?_) (fun _ => ?_)
    · exact bX7_counted_40_t C0 _ _ _ _ hK4 _ (lv_sub hl [0, 1, 2] rfl)
    · exact bX7_counted_53_t C0 _ _ _ _ hK4 _ (lv_sub hl [0, 1, 2] rfl)
  · exact bX7_counted_40_t C0 _ _ _ _ hK4 _ (lv_sub hl [0, 1, 2] rfl)
def lX7_counted_4  (S : vS)  (v1 : Int32) : Nat → Int32 → Int32 → Option Int32
  | 0, _, _ => none
  | n + 1, v2, v3 => (if (S.1 0 10) ≤ v3 then (bX7_counted_66 S v1 v2) else (if v1 = (2 : Int32) then ((mX7_isGone S (0 : Int32) v3).bind fun a21 => (if a21 = 0 then (bX7_counted_27 (lX7_counted_4 S v1 n) S v1 v3 v2) else (bX7_counted_53 (lX7_counted_4 S v1 n) S v1 v3 v2))) else (bX7_counted_27 (lX7_counted_4 S v1 n) S v1 v3 v2)))
set_option maxHeartbeats 4000000 in
set_option maxRecDepth 100000 in
theorem lX7_counted_4_t {p : Program} {l : Launch} {e : Env} {s : State} {m : MethodId} {args : Array Value} {below : List Frame} {meth : Method} {c : Code} {D : va_G} {cA : Nat → ClassId} {ad : Nat → Nat}   (C0 : Cx D vwCl tlM shM cA ad ExM RX7 cX7_counted 4 (some .int) p s m args meth c)  (S : vS) (v1 : Int32)  : ∀ (n : Nat) (v2 : Int32) (v3 : Int32) (ls : Array Slot), lv_has ls 4 [(0, .ref (ad 0)), (1, .int v1), (2, .int v2), (3, .int v3)] → SW p l e rm_X7_counted s m args below meth c D vwCl shM cA ad (Fq D vwCl shM cA ad below args s (fun r => some (.int r) : Int32 → Option Value) (fun _ => S) (fun _ => True)) (lX7_counted_4 S v1 n v2 v3) S 4 ls [] := by
  intro n
  induction n with
  | zero =>
    intro v2 v3 ls hl
    rw [lX7_counted_4]
    exact sw_none
  | succ n ih =>
    intro v2 v3 ls hl
    rw [lX7_counted_4]
    refine sx_iload_n C0 dX7_counted_4 rfl (lv_at hl 3 rfl) ?_
    refine sx_aload_n C0 dX7_counted_5 rfl (lv_at hl 0 rfl) ?_
    refine gf_X7_139 C0 is7 dX7_counted_6 ?_
    refine sx_icmp_ge (tgt := 66) C0 dX7_counted_9 (by decide) (fun _ => ?_) (fun _ => ?_)
    · exact bX7_counted_66_t C0 _ _ _ _ (lv_sub hl [0, 1, 2] rfl)
    · refine sx_iload_n C0 dX7_counted_12 rfl (lv_at hl 2 rfl) ?_
      refine sx_iload_n C0 dX7_counted_13 rfl (lv_at hl 1 rfl) ?_
      refine sx_iconst (v := 2) C0 dX7_counted_14 (by decide) ?_
      refine sx_icmp_ne (tgt := 27) C0 dX7_counted_15 (by decide) (fun _ => ?_) (fun _ => ?_)
      · refine sx_aload_n C0 dX7_counted_18 rfl (lv_at hl 0 rfl) ?_
        refine sx_iconst (v := 0) C0 dX7_counted_19 (by decide) ?_
        refine sx_iload_n C0 dX7_counted_20 rfl (lv_at hl 3 rfl) ?_
        refine sw_bind (fun a21 e21 => ?_)
        refine cv_X7_155 (As := [.int (0 : Int32), .int v3]) C0 (c_X7_isGone C0.2.2.2.2.2.2.2.1 (0 : Int32) v3 S _ e21) is7 ⟨rfl, rfl⟩ ⟨Nat.le_of_ble_eq_true rfl, Nat.le_of_ble_eq_true rfl⟩ rfl hl.1 (Nat.le_of_ble_eq_true rfl) rfl dX7_counted_21 (fun hb21 => ?_)
        refine sx_if_ne (tgt := 53) C0 dX7_counted_24 (by decide) (fun _ => ?_) (fun _ => ?_)
        · exact bX7_counted_27_t C0 _ _ _ _ ih _ (lv_sub hl [0, 1, 3] rfl)
        · exact bX7_counted_53_t C0 _ _ _ _ ih _ (lv_sub hl [0, 1, 3] rfl)
      · exact bX7_counted_27_t C0 _ _ _ _ ih _ (lv_sub hl [0, 1, 3] rfl)
def mX7_counted (S : vS) (v1 : Int32) : Option Int32 := (lX7_counted_4 S v1 FU (0 : Int32) (0 : Int32))
set_option maxHeartbeats 4000000 in
set_option maxRecDepth 100000 in
theorem c_X7_counted {l : Launch} {D : va_G} {cA : Nat → ClassId} {ad : Nat → Nat} (G : Gx shM ad ExM) (v1 : Int32) (S : vS) (r : Int32) (hr : (mX7_counted S v1) = some r) : Met l yX7_counted (Cond.code yX7_counted cX7_counted 4 (some .int) :: ALL) rm_X7_counted (Po D vwCl tlM shM cA ad ExM [.ref (ad 0), .int v1] S) (Qo D vwCl shM cA ad (some (.int r)) S True) 0 0 (aw shM ad) := by
  refine Met.sx (M := (mX7_counted S v1)) (rv := (fun r => some (.int r) : Int32 → Option Value)) (rs := fun _ => S) (B := fun _ => True) (by decide) ⟨rfl, rfl⟩ (Nat.le_of_ble_eq_true rfl) G (fun p e s m args below meth c C0 ls hl => ?_) hr
  have hl : lv_has ls 4 [(0, .ref (ad 0)), (1, .int v1)] := hl
  rw [mX7_counted]
  refine sx_iconst (v := 0) C0 dX7_counted_0 (by decide) ?_
  refine sx_istore_n (lv' := [(2, .int (0 : Int32)), (0, .ref (ad 0)), (1, .int v1)]) C0 dX7_counted_1 rfl hl (by decide) rfl (fun ls hl => ?_)
  refine sx_iconst (v := 0) C0 dX7_counted_2 (by decide) ?_
  refine sx_istore_n (lv' := [(3, .int (0 : Int32)), (2, .int (0 : Int32)), (0, .ref (ad 0)), (1, .int v1)]) C0 dX7_counted_3 rfl hl (by decide) rfl (fun ls hl => ?_)
  exact lX7_counted_4_t C0 _ _ _ _ _ _ (lv_sub hl [2, 3, 1, 0] rfl)
abbrev rm_X7_count : Room := { frames := 3, cells := 0, slots := 0, locals := 67 }
def mX7_count (S : vS) (v1 : Int32) : Option Int32 := (if (mX7_in v1 (0 : Int32) (7 : Int32)) = 0 then (some (-1 : Int32)) else ((mX7_counted S v1).bind fun a12 => (some a12)))
set_option maxHeartbeats 4000000 in
set_option maxRecDepth 100000 in
theorem c_X7_count {l : Launch} {D : va_G} {cA : Nat → ClassId} {ad : Nat → Nat} (G : Gx shM ad ExM) (v1 : Int32) (S : vS) (r : Int32) (hr : (mX7_count S v1) = some r) : Met l yX7_count (Cond.code yX7_count cX7_count 2 (some .int) :: ALL) rm_X7_count (Po D vwCl tlM shM cA ad ExM [.ref (ad 0), .int v1] S) (Qo D vwCl shM cA ad (some (.int r)) S True) 0 0 (aw shM ad) := by
  refine Met.sx (M := (mX7_count S v1)) (rv := (fun r => some (.int r) : Int32 → Option Value)) (rs := fun _ => S) (B := fun _ => True) (by decide) ⟨rfl, rfl⟩ (Nat.le_of_ble_eq_true rfl) G (fun p e s m args below meth c C0 ls hl => ?_) hr
  have hl : lv_has ls 2 [(0, .ref (ad 0)), (1, .int v1)] := hl
  rw [mX7_count]
  refine sx_iload_n C0 dX7_count_0 rfl (lv_at hl 1 rfl) ?_
  refine sx_iconst (v := 0) C0 dX7_count_1 (by decide) ?_
  refine sx_bipush (v := 7) C0 dX7_count_2 (by decide) ?_
  refine cv_X7_80 (As := [.int v1, .int (0 : Int32), .int (7 : Int32)]) C0 (c_X7_in C0.2.2.2.2.2.2.2.1 v1 (0 : Int32) (7 : Int32) S) ⟨rfl, rfl⟩ ⟨Nat.le_of_ble_eq_true rfl, Nat.le_of_ble_eq_true rfl⟩ rfl hl.1 (Nat.le_of_ble_eq_true rfl) rfl dX7_count_4 (fun hb4 => ?_)
  refine sx_if_eq (tgt := 18) C0 dX7_count_7 (by decide) (fun _ => ?_) (fun _ => ?_)
  · refine sx_iconst (v := (-1)) C0 dX7_count_18 (by decide) ?_
    exact sx_iret C0 rfl rfl trivial dX7_count_19
  · refine sx_aload_n C0 dX7_count_10 rfl (lv_at hl 0 rfl) ?_
    refine sx_iload_n C0 dX7_count_11 rfl (lv_at hl 1 rfl) ?_
    refine sw_bind (fun a12 e12 => ?_)
    refine cv_X7_316 (As := [.int v1]) C0 (c_X7_counted C0.2.2.2.2.2.2.2.1 v1 S _ e12) is7 ⟨rfl, rfl⟩ ⟨Nat.le_of_ble_eq_true rfl, Nat.le_of_ble_eq_true rfl⟩ rfl hl.1 (Nat.le_of_ble_eq_true rfl) rfl dX7_count_12 (fun _ => ?_)
    refine sx_goto (tgt := 19) C0 dX7_count_15 (by decide) ?_
    exact sx_iret C0 rfl rfl trivial dX7_count_19
abbrev rm_X7_mix : Room := { frames := 0, cells := 0, slots := 0, locals := 0 }
def mX7_mix (S : vS) (v1 : Int64) : vS := (lt (wL S 0 38 (((31 : Int64) * (S.2 0 38)) + v1)) fun S11 => S11)
set_option maxHeartbeats 4000000 in
set_option maxRecDepth 100000 in
theorem c_X7_mix {l : Launch} {D : va_G} {cA : Nat → ClassId} {ad : Nat → Nat} (G : Gx shM ad ExM) (v1 : Int64) (S : vS) : Met l yX7_mix (Cond.code yX7_mix cX7_mix 3 none :: ALL) rm_X7_mix (Po D vwCl tlM shM cA ad ExM [.ref (ad 0), .long v1] S) (Qo D vwCl shM cA ad none (mX7_mix S v1) True) 0 0 (aw shM ad) := by
  refine Met.sx (M := some (mX7_mix S v1)) (rv := (fun _ => none : vS → Option Value)) (rs := fun S1 => S1) (B := fun _ => True) (by decide) ⟨rfl, rfl⟩ (Nat.le_of_ble_eq_true rfl) G (fun p e s m args below meth c C0 ls hl => ?_) rfl
  have hl : lv_has ls 3 [(0, .ref (ad 0)), (1, .long v1)] := hl
  rw [mX7_mix]
  refine sx_aload_n C0 dX7_mix_0 rfl (lv_at hl 0 rfl) ?_
  refine sx_ldc2 C0 wk_X7_319 dX7_mix_1 ?_
  refine sx_aload_n C0 dX7_mix_4 rfl (lv_at hl 0 rfl) ?_
  refine gf_X7_321 C0 is7 dX7_mix_5 ?_
  refine sx_lmul C0 dX7_mix_8 ?_
  refine sx_lload_n C0 dX7_mix_9 rfl (lv_at hl 1 rfl) ?_
  refine sx_ladd C0 dX7_mix_10 ?_
  refine pfs_X7_321 C0 is7 dX7_mix_11 (fun S11 => ?_)
  exact sx_vret C0 rfl rfl trivial dX7_mix_14
abbrev rm_X7_mixValley : Room := { frames := 2, cells := 0, slots := 0, locals := 44 }
def bX7_mixValley_186   (K152 : vS → Int32 → Option vS) (S : vS) (v1 : Int32) (t0 : Int64) : Option vS := (lt (mX7_mix S t0) fun S186 => (K152 S186 (v1 + (1 : Int32))))
set_option maxHeartbeats 4000000 in
set_option maxRecDepth 100000 in
theorem bX7_mixValley_186_t {p : Program} {l : Launch} {e : Env} {s : State} {m : MethodId} {args : Array Value} {below : List Frame} {meth : Method} {c : Code} {D : va_G} {cA : Nat → ClassId} {ad : Nat → Nat} {K152 : vS → Int32 → Option vS}  (C0 : Cx D vwCl tlM shM cA ad ExM RX7 cX7_mixValley 3 none p s m args meth c)  (S : vS) (v1 : Int32) (t0 : Int64) (hK152 : ∀ (S : vS) (v1 : Int32) (ls : Array Slot), lv_has ls 3 [(0, .ref (ad 0)), (1, .int v1)] → SW p l e rm_X7_mixValley s m args below meth c D vwCl shM cA ad (Fq D vwCl shM cA ad below args s (fun _ => none : vS → Option Value) (fun S1 => S1) (fun _ => True)) (K152 S v1) S 152 ls []) (ls : Array Slot) (hl : lv_has ls 3 [(0, .ref (ad 0)), (1, .int v1)]) : SW p l e rm_X7_mixValley s m args below meth c D vwCl shM cA ad (Fq D vwCl shM cA ad below args s (fun _ => none : vS → Option Value) (fun S1 => S1) (fun _ => True)) (bX7_mixValley_186 K152 S v1 t0) S 186 ls [.long t0, .ref (ad 0)] := by
  rw [bX7_mixValley_186]
  refine cv_X7_324 (As := [.long t0]) C0 (c_X7_mix C0.2.2.2.2.2.2.2.1 t0 S) is7 ⟨rfl, rfl⟩ ⟨Nat.le_of_ble_eq_true rfl, Nat.le_of_ble_eq_true rfl⟩ rfl hl.1 (Nat.le_of_ble_eq_true rfl) rfl dX7_mixValley_186 (fun _ => ?_)
  refine sw_ltS (fun S186 => ?_)
  refine sx_iinc (v := (v1 + (1 : Int32))) (lv' := [(1, .int (v1 + (1 : Int32))), (0, .ref (ad 0))]) C0 dX7_mixValley_189 hl (k := 1) rfl rfl (by decide) rfl (fun ls hl => ?_)
  refine sx_goto (tgt := 152) C0 dX7_mixValley_192 (by decide) ?_
  exact hK152 _ _ _ (lv_sub hl [1, 0] rfl)
def lX7_mixValley_152     : Nat → vS → Int32 → Option vS
  | 0, _, _ => none
  | n + 1, S, v1 => (if (3 : Int32) ≤ v1 then (some S) else ((gI (S.1 13) 3 v1).bind fun a163 => (if a163 = 0 then (bX7_mixValley_186 (lX7_mixValley_152 n) S v1 (-1 : Int64)) else ((gI (S.1 14) 45 (((15 : Int32) * v1) + (14 : Int32))).bind fun a178 => (bX7_mixValley_186 (lX7_mixValley_152 n) S v1 (Int32.toInt64 a178))))))
set_option maxHeartbeats 4000000 in
set_option maxRecDepth 100000 in
theorem lX7_mixValley_152_t {p : Program} {l : Launch} {e : Env} {s : State} {m : MethodId} {args : Array Value} {below : List Frame} {meth : Method} {c : Code} {D : va_G} {cA : Nat → ClassId} {ad : Nat → Nat}   (C0 : Cx D vwCl tlM shM cA ad ExM RX7 cX7_mixValley 3 none p s m args meth c)     : ∀ (n : Nat) (S : vS) (v1 : Int32) (ls : Array Slot), lv_has ls 3 [(0, .ref (ad 0)), (1, .int v1)] → SW p l e rm_X7_mixValley s m args below meth c D vwCl shM cA ad (Fq D vwCl shM cA ad below args s (fun _ => none : vS → Option Value) (fun S1 => S1) (fun _ => True)) (lX7_mixValley_152 n S v1) S 152 ls [] := by
  intro n
  induction n with
  | zero =>
    intro S v1 ls hl
    rw [lX7_mixValley_152]
    exact sw_none
  | succ n ih =>
    intro S v1 ls hl
    rw [lX7_mixValley_152]
    refine sx_iload_n C0 dX7_mixValley_152 rfl (lv_at hl 1 rfl) ?_
    refine sx_iconst (v := 3) C0 dX7_mixValley_153 (by decide) ?_
    refine sx_icmp_ge (tgt := 195) C0 dX7_mixValley_154 (by decide) (fun _ => ?_) (fun _ => ?_)
    · exact sx_vret C0 rfl rfl trivial dX7_mixValley_195
    · refine sx_aload_n C0 dX7_mixValley_157 rfl (lv_at hl 0 rfl) ?_
      refine sx_aload_n C0 dX7_mixValley_158 rfl (lv_at hl 0 rfl) ?_
      refine gf_X7_47 C0 is7 dX7_mixValley_159 ?_
      refine sx_iload_n C0 dX7_mixValley_162 rfl (lv_at hl 1 rfl) ?_
      refine sx_zald C0 is7_isKept rfl dX7_mixValley_163 (fun a163 => ?_)
      refine sx_if_eq (tgt := 183) C0 dX7_mixValley_164 (by decide) (fun _ => ?_) (fun _ => ?_)
      · refine sx_ldc2 C0 wk_X7_328 dX7_mixValley_183 ?_
        exact bX7_mixValley_186_t C0 _ _ _ ih _ (lv_sub hl [0, 1] rfl)
      · refine sx_aload_n C0 dX7_mixValley_167 rfl (lv_at hl 0 rfl) ?_
        refine gf_X7_51 C0 is7 dX7_mixValley_168 ?_
        refine sx_bipush (v := 15) C0 dX7_mixValley_171 (by decide) ?_
        refine sx_iload_n C0 dX7_mixValley_173 rfl (lv_at hl 1 rfl) ?_
        refine sx_imul C0 dX7_mixValley_174 ?_
        refine sx_bipush (v := 14) C0 dX7_mixValley_175 (by decide) ?_
        refine sx_iadd C0 dX7_mixValley_177 ?_
        refine sx_iald C0 is7_keptNow rfl dX7_mixValley_178 (fun a178 => ?_)
        refine sx_i2l C0 dX7_mixValley_179 ?_
        refine sx_goto (tgt := 186) C0 dX7_mixValley_180 (by decide) ?_
        exact bX7_mixValley_186_t C0 _ _ _ ih _ (lv_sub hl [0, 1] rfl)
def bX7_mixValley_150    (S : vS)   : Option vS := (lX7_mixValley_152 FU S (0 : Int32))
set_option maxHeartbeats 4000000 in
set_option maxRecDepth 100000 in
theorem bX7_mixValley_150_t {p : Program} {l : Launch} {e : Env} {s : State} {m : MethodId} {args : Array Value} {below : List Frame} {meth : Method} {c : Code} {D : va_G} {cA : Nat → ClassId} {ad : Nat → Nat}   (C0 : Cx D vwCl tlM shM cA ad ExM RX7 cX7_mixValley 3 none p s m args meth c)  (S : vS)  (ls : Array Slot) (hl : lv_has ls 3 [(0, .ref (ad 0))]) : SW p l e rm_X7_mixValley s m args below meth c D vwCl shM cA ad (Fq D vwCl shM cA ad below args s (fun _ => none : vS → Option Value) (fun S1 => S1) (fun _ => True)) (bX7_mixValley_150 S) S 150 ls [] := by
  rw [bX7_mixValley_150]
  refine sx_iconst (v := 0) C0 dX7_mixValley_150 (by decide) ?_
  refine sx_istore_n (lv' := [(1, .int (0 : Int32)), (0, .ref (ad 0))]) C0 dX7_mixValley_151 rfl hl (by decide) rfl (fun ls hl => ?_)
  exact lX7_mixValley_152_t C0 _ _ _ _ (lv_sub hl [1, 0] rfl)
def lX7_mixValley_116     : Nat → vS → Int32 → Option vS
  | 0, _, _ => none
  | n + 1, S, v1 => ((mX7_v S (0 : Int32) (14 : Int32)).bind fun a121 => (if a121 ≤ v1 then (bX7_mixValley_150 S) else ((gI (S.1 12) 4000 (((20 : Int32) * v1) + (15 : Int32))).bind fun a139 => (lt (mX7_mix S (Int32.toInt64 a139)) fun S141 => ((lX7_mixValley_116 n) S141 (v1 + (1 : Int32)))))))
set_option maxHeartbeats 4000000 in
set_option maxRecDepth 100000 in
theorem lX7_mixValley_116_t {p : Program} {l : Launch} {e : Env} {s : State} {m : MethodId} {args : Array Value} {below : List Frame} {meth : Method} {c : Code} {D : va_G} {cA : Nat → ClassId} {ad : Nat → Nat}   (C0 : Cx D vwCl tlM shM cA ad ExM RX7 cX7_mixValley 3 none p s m args meth c)     : ∀ (n : Nat) (S : vS) (v1 : Int32) (ls : Array Slot), lv_has ls 3 [(0, .ref (ad 0)), (1, .int v1)] → SW p l e rm_X7_mixValley s m args below meth c D vwCl shM cA ad (Fq D vwCl shM cA ad below args s (fun _ => none : vS → Option Value) (fun S1 => S1) (fun _ => True)) (lX7_mixValley_116 n S v1) S 116 ls [] := by
  intro n
  induction n with
  | zero =>
    intro S v1 ls hl
    rw [lX7_mixValley_116]
    exact sw_none
  | succ n ih =>
    intro S v1 ls hl
    rw [lX7_mixValley_116]
    refine sx_iload_n C0 dX7_mixValley_116 rfl (lv_at hl 1 rfl) ?_
    refine sx_aload_n C0 dX7_mixValley_117 rfl (lv_at hl 0 rfl) ?_
    refine sx_iconst (v := 0) C0 dX7_mixValley_118 (by decide) ?_
    refine sx_bipush (v := 14) C0 dX7_mixValley_119 (by decide) ?_
    refine sw_bind (fun a121 e121 => ?_)
    refine cv_X7_149 (As := [.int (0 : Int32), .int (14 : Int32)]) C0 (c_X7_v C0.2.2.2.2.2.2.2.1 (0 : Int32) (14 : Int32) S _ e121) is7 ⟨rfl, rfl⟩ ⟨Nat.le_of_ble_eq_true rfl, Nat.le_of_ble_eq_true rfl⟩ rfl hl.1 (Nat.le_of_ble_eq_true rfl) rfl dX7_mixValley_121 (fun _ => ?_)
    refine sx_icmp_ge (tgt := 150) C0 dX7_mixValley_124 (by decide) (fun _ => ?_) (fun _ => ?_)
    · exact bX7_mixValley_150_t C0 _ _ (lv_sub hl [0] rfl)
    · refine sx_aload_n C0 dX7_mixValley_127 rfl (lv_at hl 0 rfl) ?_
      refine sx_aload_n C0 dX7_mixValley_128 rfl (lv_at hl 0 rfl) ?_
      refine gf_X7_44 C0 is7 dX7_mixValley_129 ?_
      refine sx_bipush (v := 20) C0 dX7_mixValley_132 (by decide) ?_
      refine sx_iload_n C0 dX7_mixValley_134 rfl (lv_at hl 1 rfl) ?_
      refine sx_imul C0 dX7_mixValley_135 ?_
      refine sx_bipush (v := 15) C0 dX7_mixValley_136 (by decide) ?_
      refine sx_iadd C0 dX7_mixValley_138 ?_
      refine sx_iald C0 is7_days rfl dX7_mixValley_139 (fun a139 => ?_)
      refine sx_i2l C0 dX7_mixValley_140 ?_
      refine cv_X7_324 (As := [.long (Int32.toInt64 a139)]) C0 (c_X7_mix C0.2.2.2.2.2.2.2.1 (Int32.toInt64 a139) S) is7 ⟨rfl, rfl⟩ ⟨Nat.le_of_ble_eq_true rfl, Nat.le_of_ble_eq_true rfl⟩ rfl hl.1 (Nat.le_of_ble_eq_true rfl) rfl dX7_mixValley_141 (fun _ => ?_)
      refine sw_ltS (fun S141 => ?_)
      refine sx_iinc (v := (v1 + (1 : Int32))) (lv' := [(1, .int (v1 + (1 : Int32))), (0, .ref (ad 0))]) C0 dX7_mixValley_144 hl (k := 1) rfl rfl (by decide) rfl (fun ls hl => ?_)
      refine sx_goto (tgt := 116) C0 dX7_mixValley_147 (by decide) ?_
      exact ih _ _ _ (lv_sub hl [1, 0] rfl)
def bX7_mixValley_90    (S : vS)   : Option vS := ((mX7_v S (0 : Int32) (12 : Int32)).bind fun a95 => (lt (mX7_mix S (Int32.toInt64 a95)) fun S99 => ((mX7_v S99 (0 : Int32) (13 : Int32)).bind fun a107 => (lt (mX7_mix S99 (Int32.toInt64 a107)) fun S111 => (lX7_mixValley_116 FU S111 (0 : Int32))))))
set_option maxHeartbeats 4000000 in
set_option maxRecDepth 100000 in
theorem bX7_mixValley_90_t {p : Program} {l : Launch} {e : Env} {s : State} {m : MethodId} {args : Array Value} {below : List Frame} {meth : Method} {c : Code} {D : va_G} {cA : Nat → ClassId} {ad : Nat → Nat}   (C0 : Cx D vwCl tlM shM cA ad ExM RX7 cX7_mixValley 3 none p s m args meth c)  (S : vS)  (ls : Array Slot) (hl : lv_has ls 3 [(0, .ref (ad 0))]) : SW p l e rm_X7_mixValley s m args below meth c D vwCl shM cA ad (Fq D vwCl shM cA ad below args s (fun _ => none : vS → Option Value) (fun S1 => S1) (fun _ => True)) (bX7_mixValley_90 S) S 90 ls [] := by
  rw [bX7_mixValley_90]
  refine sx_aload_n C0 dX7_mixValley_90 rfl (lv_at hl 0 rfl) ?_
  refine sx_aload_n C0 dX7_mixValley_91 rfl (lv_at hl 0 rfl) ?_
  refine sx_iconst (v := 0) C0 dX7_mixValley_92 (by decide) ?_
  refine sx_bipush (v := 12) C0 dX7_mixValley_93 (by decide) ?_
  refine sw_bind (fun a95 e95 => ?_)
  refine cv_X7_149 (As := [.int (0 : Int32), .int (12 : Int32)]) C0 (c_X7_v C0.2.2.2.2.2.2.2.1 (0 : Int32) (12 : Int32) S _ e95) is7 ⟨rfl, rfl⟩ ⟨Nat.le_of_ble_eq_true rfl, Nat.le_of_ble_eq_true rfl⟩ rfl hl.1 (Nat.le_of_ble_eq_true rfl) rfl dX7_mixValley_95 (fun _ => ?_)
  refine sx_i2l C0 dX7_mixValley_98 ?_
  refine cv_X7_324 (As := [.long (Int32.toInt64 a95)]) C0 (c_X7_mix C0.2.2.2.2.2.2.2.1 (Int32.toInt64 a95) S) is7 ⟨rfl, rfl⟩ ⟨Nat.le_of_ble_eq_true rfl, Nat.le_of_ble_eq_true rfl⟩ rfl hl.1 (Nat.le_of_ble_eq_true rfl) rfl dX7_mixValley_99 (fun _ => ?_)
  refine sw_ltS (fun S99 => ?_)
  refine sx_aload_n C0 dX7_mixValley_102 rfl (lv_at hl 0 rfl) ?_
  refine sx_aload_n C0 dX7_mixValley_103 rfl (lv_at hl 0 rfl) ?_
  refine sx_iconst (v := 0) C0 dX7_mixValley_104 (by decide) ?_
  refine sx_bipush (v := 13) C0 dX7_mixValley_105 (by decide) ?_
  refine sw_bind (fun a107 e107 => ?_)
  refine cv_X7_149 (As := [.int (0 : Int32), .int (13 : Int32)]) C0 (c_X7_v C0.2.2.2.2.2.2.2.1 (0 : Int32) (13 : Int32) S99 _ e107) is7 ⟨rfl, rfl⟩ ⟨Nat.le_of_ble_eq_true rfl, Nat.le_of_ble_eq_true rfl⟩ rfl hl.1 (Nat.le_of_ble_eq_true rfl) rfl dX7_mixValley_107 (fun _ => ?_)
  refine sx_i2l C0 dX7_mixValley_110 ?_
  refine cv_X7_324 (As := [.long (Int32.toInt64 a107)]) C0 (c_X7_mix C0.2.2.2.2.2.2.2.1 (Int32.toInt64 a107) S99) is7 ⟨rfl, rfl⟩ ⟨Nat.le_of_ble_eq_true rfl, Nat.le_of_ble_eq_true rfl⟩ rfl hl.1 (Nat.le_of_ble_eq_true rfl) rfl dX7_mixValley_111 (fun _ => ?_)
  refine sw_ltS (fun S111 => ?_)
  refine sx_iconst (v := 0) C0 dX7_mixValley_114 (by decide) ?_
  refine sx_istore_n (lv' := [(1, .int (0 : Int32)), (0, .ref (ad 0))]) C0 dX7_mixValley_115 rfl hl (by decide) rfl (fun ls hl => ?_)
  exact lX7_mixValley_116_t C0 _ _ _ _ (lv_sub hl [1, 0] rfl)
def bX7_mixValley_81   (K28 : vS → Int32 → Option vS) (S : vS) (v1 : Int32) (t0 : Int64) : Option vS := (lt (mX7_mix S t0) fun S81 => (K28 S81 (v1 + (1 : Int32))))
set_option maxHeartbeats 4000000 in
set_option maxRecDepth 100000 in
theorem bX7_mixValley_81_t {p : Program} {l : Launch} {e : Env} {s : State} {m : MethodId} {args : Array Value} {below : List Frame} {meth : Method} {c : Code} {D : va_G} {cA : Nat → ClassId} {ad : Nat → Nat} {K28 : vS → Int32 → Option vS}  (C0 : Cx D vwCl tlM shM cA ad ExM RX7 cX7_mixValley 3 none p s m args meth c)  (S : vS) (v1 : Int32) (t0 : Int64) (hK28 : ∀ (S : vS) (v1 : Int32) (ls : Array Slot), lv_has ls 3 [(0, .ref (ad 0)), (1, .int v1)] → SW p l e rm_X7_mixValley s m args below meth c D vwCl shM cA ad (Fq D vwCl shM cA ad below args s (fun _ => none : vS → Option Value) (fun S1 => S1) (fun _ => True)) (K28 S v1) S 28 ls []) (ls : Array Slot) (hl : lv_has ls 3 [(0, .ref (ad 0)), (1, .int v1)]) : SW p l e rm_X7_mixValley s m args below meth c D vwCl shM cA ad (Fq D vwCl shM cA ad below args s (fun _ => none : vS → Option Value) (fun S1 => S1) (fun _ => True)) (bX7_mixValley_81 K28 S v1 t0) S 81 ls [.long t0, .ref (ad 0)] := by
  rw [bX7_mixValley_81]
  refine cv_X7_324 (As := [.long t0]) C0 (c_X7_mix C0.2.2.2.2.2.2.2.1 t0 S) is7 ⟨rfl, rfl⟩ ⟨Nat.le_of_ble_eq_true rfl, Nat.le_of_ble_eq_true rfl⟩ rfl hl.1 (Nat.le_of_ble_eq_true rfl) rfl dX7_mixValley_81 (fun _ => ?_)
  refine sw_ltS (fun S81 => ?_)
  refine sx_iinc (v := (v1 + (1 : Int32))) (lv' := [(1, .int (v1 + (1 : Int32))), (0, .ref (ad 0))]) C0 dX7_mixValley_84 hl (k := 1) rfl rfl (by decide) rfl (fun ls hl => ?_)
  refine sx_goto (tgt := 28) C0 dX7_mixValley_87 (by decide) ?_
  exact hK28 _ _ _ (lv_sub hl [1, 0] rfl)
def bX7_mixValley_61   (K28 : vS → Int32 → Option vS) (S : vS) (v1 : Int32)  : Option vS := ((mX7_v S (0 : Int32) (7 : Int32)).bind fun a66 => (if (mX7_has a66 v1) = 0 then (bX7_mixValley_81 K28 S v1 (0 : Int64)) else (bX7_mixValley_81 K28 S v1 (1 : Int64))))
set_option maxHeartbeats 4000000 in
set_option maxRecDepth 100000 in
theorem bX7_mixValley_61_t {p : Program} {l : Launch} {e : Env} {s : State} {m : MethodId} {args : Array Value} {below : List Frame} {meth : Method} {c : Code} {D : va_G} {cA : Nat → ClassId} {ad : Nat → Nat} {K28 : vS → Int32 → Option vS}  (C0 : Cx D vwCl tlM shM cA ad ExM RX7 cX7_mixValley 3 none p s m args meth c)  (S : vS) (v1 : Int32) (hK28 : ∀ (S : vS) (v1 : Int32) (ls : Array Slot), lv_has ls 3 [(0, .ref (ad 0)), (1, .int v1)] → SW p l e rm_X7_mixValley s m args below meth c D vwCl shM cA ad (Fq D vwCl shM cA ad below args s (fun _ => none : vS → Option Value) (fun S1 => S1) (fun _ => True)) (K28 S v1) S 28 ls []) (ls : Array Slot) (hl : lv_has ls 3 [(0, .ref (ad 0)), (1, .int v1)]) : SW p l e rm_X7_mixValley s m args below meth c D vwCl shM cA ad (Fq D vwCl shM cA ad below args s (fun _ => none : vS → Option Value) (fun S1 => S1) (fun _ => True)) (bX7_mixValley_61 K28 S v1) S 61 ls [] := by
  rw [bX7_mixValley_61]
  refine sx_aload_n C0 dX7_mixValley_61 rfl (lv_at hl 0 rfl) ?_
  refine sx_aload_n C0 dX7_mixValley_62 rfl (lv_at hl 0 rfl) ?_
  refine sx_iconst (v := 0) C0 dX7_mixValley_63 (by decide) ?_
  refine sx_bipush (v := 7) C0 dX7_mixValley_64 (by decide) ?_
  refine sw_bind (fun a66 e66 => ?_)
  refine cv_X7_149 (As := [.int (0 : Int32), .int (7 : Int32)]) C0 (c_X7_v C0.2.2.2.2.2.2.2.1 (0 : Int32) (7 : Int32) S _ e66) is7 ⟨rfl, rfl⟩ ⟨Nat.le_of_ble_eq_true rfl, Nat.le_of_ble_eq_true rfl⟩ rfl hl.1 (Nat.le_of_ble_eq_true rfl) rfl dX7_mixValley_66 (fun _ => ?_)
  refine sx_iload_n C0 dX7_mixValley_69 rfl (lv_at hl 1 rfl) ?_
  refine cv_X7_174 (As := [.int a66, .int v1]) C0 (c_X7_has C0.2.2.2.2.2.2.2.1 a66 v1 S) ⟨rfl, rfl⟩ ⟨Nat.le_of_ble_eq_true rfl, Nat.le_of_ble_eq_true rfl⟩ rfl hl.1 (Nat.le_of_ble_eq_true rfl) rfl dX7_mixValley_70 (fun hb70 => ?_)
  refine sx_if_eq (tgt := 80) C0 dX7_mixValley_73 (by decide) (fun _ => ?_) (fun _ => ?_)
  · refine sx_lconst (v := 0) C0 dX7_mixValley_80 (by decide) ?_
    exact bX7_mixValley_81_t C0 _ _ _ hK28 _ (lv_sub hl [0, 1] rfl)
  · refine sx_lconst (v := 1) C0 dX7_mixValley_76 (by decide) ?_
    refine sx_goto (tgt := 81) C0 dX7_mixValley_77 (by decide) ?_
    exact bX7_mixValley_81_t C0 _ _ _ hK28 _ (lv_sub hl [0, 1] rfl)
def lX7_mixValley_38   (K28 : vS → Int32 → Option vS) (v1 : Int32) : Nat → vS → Int32 → Option vS
  | 0, _, _ => none
  | n + 1, S, v2 => (if (7 : Int32) ≤ v2 then (bX7_mixValley_61 K28 S v1) else ((mX7_godTells S v1 v2).bind fun a48 => (lt (mX7_mix S (Int32.toInt64 a48)) fun S52 => ((lX7_mixValley_38 K28 v1 n) S52 (v2 + (1 : Int32))))))
set_option maxHeartbeats 4000000 in
set_option maxRecDepth 100000 in
theorem lX7_mixValley_38_t {p : Program} {l : Launch} {e : Env} {s : State} {m : MethodId} {args : Array Value} {below : List Frame} {meth : Method} {c : Code} {D : va_G} {cA : Nat → ClassId} {ad : Nat → Nat} {K28 : vS → Int32 → Option vS}  (C0 : Cx D vwCl tlM shM cA ad ExM RX7 cX7_mixValley 3 none p s m args meth c)   (v1 : Int32) (hK28 : ∀ (S : vS) (v1 : Int32) (ls : Array Slot), lv_has ls 3 [(0, .ref (ad 0)), (1, .int v1)] → SW p l e rm_X7_mixValley s m args below meth c D vwCl shM cA ad (Fq D vwCl shM cA ad below args s (fun _ => none : vS → Option Value) (fun S1 => S1) (fun _ => True)) (K28 S v1) S 28 ls []) : ∀ (n : Nat) (S : vS) (v2 : Int32) (ls : Array Slot), lv_has ls 3 [(0, .ref (ad 0)), (1, .int v1), (2, .int v2)] → SW p l e rm_X7_mixValley s m args below meth c D vwCl shM cA ad (Fq D vwCl shM cA ad below args s (fun _ => none : vS → Option Value) (fun S1 => S1) (fun _ => True)) (lX7_mixValley_38 K28 v1 n S v2) S 38 ls [] := by
  intro n
  induction n with
  | zero =>
    intro S v2 ls hl
    rw [lX7_mixValley_38]
    exact sw_none
  | succ n ih =>
    intro S v2 ls hl
    rw [lX7_mixValley_38]
    refine sx_iload_n C0 dX7_mixValley_38 rfl (lv_at hl 2 rfl) ?_
    refine sx_bipush (v := 7) C0 dX7_mixValley_39 (by decide) ?_
    refine sx_icmp_ge (tgt := 61) C0 dX7_mixValley_41 (by decide) (fun _ => ?_) (fun _ => ?_)
    · exact bX7_mixValley_61_t C0 _ _ hK28 _ (lv_sub hl [0, 1] rfl)
    · refine sx_aload_n C0 dX7_mixValley_44 rfl (lv_at hl 0 rfl) ?_
      refine sx_aload_n C0 dX7_mixValley_45 rfl (lv_at hl 0 rfl) ?_
      refine sx_iload_n C0 dX7_mixValley_46 rfl (lv_at hl 1 rfl) ?_
      refine sx_iload_n C0 dX7_mixValley_47 rfl (lv_at hl 2 rfl) ?_
      refine sw_bind (fun a48 e48 => ?_)
      refine cv_X7_211 (As := [.int v1, .int v2]) C0 (c_X7_godTells C0.2.2.2.2.2.2.2.1 v1 v2 S _ e48) is7 ⟨rfl, rfl⟩ ⟨Nat.le_of_ble_eq_true rfl, Nat.le_of_ble_eq_true rfl⟩ rfl hl.1 (Nat.le_of_ble_eq_true rfl) rfl dX7_mixValley_48 (fun _ => ?_)
      refine sx_i2l C0 dX7_mixValley_51 ?_
      refine cv_X7_324 (As := [.long (Int32.toInt64 a48)]) C0 (c_X7_mix C0.2.2.2.2.2.2.2.1 (Int32.toInt64 a48) S) is7 ⟨rfl, rfl⟩ ⟨Nat.le_of_ble_eq_true rfl, Nat.le_of_ble_eq_true rfl⟩ rfl hl.1 (Nat.le_of_ble_eq_true rfl) rfl dX7_mixValley_52 (fun _ => ?_)
      refine sw_ltS (fun S52 => ?_)
      refine sx_iinc (v := (v2 + (1 : Int32))) (lv' := [(2, .int (v2 + (1 : Int32))), (0, .ref (ad 0)), (1, .int v1)]) C0 dX7_mixValley_55 hl (k := 2) rfl rfl (by decide) rfl (fun ls hl => ?_)
      refine sx_goto (tgt := 38) C0 dX7_mixValley_58 (by decide) ?_
      exact ih _ _ _ (lv_sub hl [1, 2, 0] rfl)
def lX7_mixValley_28     : Nat → vS → Int32 → Option vS
  | 0, _, _ => none
  | n + 1, S, v1 => (if (S.1 0 10) ≤ v1 then (bX7_mixValley_90 S) else (lX7_mixValley_38 (lX7_mixValley_28 n) v1 FU S (0 : Int32)))
set_option maxHeartbeats 4000000 in
set_option maxRecDepth 100000 in
theorem lX7_mixValley_28_t {p : Program} {l : Launch} {e : Env} {s : State} {m : MethodId} {args : Array Value} {below : List Frame} {meth : Method} {c : Code} {D : va_G} {cA : Nat → ClassId} {ad : Nat → Nat}   (C0 : Cx D vwCl tlM shM cA ad ExM RX7 cX7_mixValley 3 none p s m args meth c)     : ∀ (n : Nat) (S : vS) (v1 : Int32) (ls : Array Slot), lv_has ls 3 [(0, .ref (ad 0)), (1, .int v1)] → SW p l e rm_X7_mixValley s m args below meth c D vwCl shM cA ad (Fq D vwCl shM cA ad below args s (fun _ => none : vS → Option Value) (fun S1 => S1) (fun _ => True)) (lX7_mixValley_28 n S v1) S 28 ls [] := by
  intro n
  induction n with
  | zero =>
    intro S v1 ls hl
    rw [lX7_mixValley_28]
    exact sw_none
  | succ n ih =>
    intro S v1 ls hl
    rw [lX7_mixValley_28]
    refine sx_iload_n C0 dX7_mixValley_28 rfl (lv_at hl 1 rfl) ?_
    refine sx_aload_n C0 dX7_mixValley_29 rfl (lv_at hl 0 rfl) ?_
    refine gf_X7_139 C0 is7 dX7_mixValley_30 ?_
    refine sx_icmp_ge (tgt := 90) C0 dX7_mixValley_33 (by decide) (fun _ => ?_) (fun _ => ?_)
    · exact bX7_mixValley_90_t C0 _ _ (lv_sub hl [0] rfl)
    · refine sx_iconst (v := 0) C0 dX7_mixValley_36 (by decide) ?_
      refine sx_istore_n (lv' := [(2, .int (0 : Int32)), (0, .ref (ad 0)), (1, .int v1)]) C0 dX7_mixValley_37 rfl hl (by decide) rfl (fun ls hl => ?_)
      exact lX7_mixValley_38_t C0 _ ih _ _ _ _ (lv_sub hl [1, 2, 0] rfl)
def bX7_mixValley_26    (S : vS)   : Option vS := (lX7_mixValley_28 FU S (0 : Int32))
set_option maxHeartbeats 4000000 in
set_option maxRecDepth 100000 in
theorem bX7_mixValley_26_t {p : Program} {l : Launch} {e : Env} {s : State} {m : MethodId} {args : Array Value} {below : List Frame} {meth : Method} {c : Code} {D : va_G} {cA : Nat → ClassId} {ad : Nat → Nat}   (C0 : Cx D vwCl tlM shM cA ad ExM RX7 cX7_mixValley 3 none p s m args meth c)  (S : vS)  (ls : Array Slot) (hl : lv_has ls 3 [(0, .ref (ad 0))]) : SW p l e rm_X7_mixValley s m args below meth c D vwCl shM cA ad (Fq D vwCl shM cA ad below args s (fun _ => none : vS → Option Value) (fun S1 => S1) (fun _ => True)) (bX7_mixValley_26 S) S 26 ls [] := by
  rw [bX7_mixValley_26]
  refine sx_iconst (v := 0) C0 dX7_mixValley_26 (by decide) ?_
  refine sx_istore_n (lv' := [(1, .int (0 : Int32)), (0, .ref (ad 0))]) C0 dX7_mixValley_27 rfl hl (by decide) rfl (fun ls hl => ?_)
  exact lX7_mixValley_28_t C0 _ _ _ _ (lv_sub hl [1, 0] rfl)
def lX7_mixValley_2     : Nat → vS → Int32 → Option vS
  | 0, _, _ => none
  | n + 1, S, v1 => (if (3 : Int32) ≤ v1 then (bX7_mixValley_26 S) else ((mX7_v S (0 : Int32) ((0 : Int32) + v1)).bind fun a13 => (lt (mX7_mix S (Int32.toInt64 a13)) fun S17 => ((lX7_mixValley_2 n) S17 (v1 + (1 : Int32))))))
set_option maxHeartbeats 4000000 in
set_option maxRecDepth 100000 in
theorem lX7_mixValley_2_t {p : Program} {l : Launch} {e : Env} {s : State} {m : MethodId} {args : Array Value} {below : List Frame} {meth : Method} {c : Code} {D : va_G} {cA : Nat → ClassId} {ad : Nat → Nat}   (C0 : Cx D vwCl tlM shM cA ad ExM RX7 cX7_mixValley 3 none p s m args meth c)     : ∀ (n : Nat) (S : vS) (v1 : Int32) (ls : Array Slot), lv_has ls 3 [(0, .ref (ad 0)), (1, .int v1)] → SW p l e rm_X7_mixValley s m args below meth c D vwCl shM cA ad (Fq D vwCl shM cA ad below args s (fun _ => none : vS → Option Value) (fun S1 => S1) (fun _ => True)) (lX7_mixValley_2 n S v1) S 2 ls [] := by
  intro n
  induction n with
  | zero =>
    intro S v1 ls hl
    rw [lX7_mixValley_2]
    exact sw_none
  | succ n ih =>
    intro S v1 ls hl
    rw [lX7_mixValley_2]
    refine sx_iload_n C0 dX7_mixValley_2 rfl (lv_at hl 1 rfl) ?_
    refine sx_iconst (v := 3) C0 dX7_mixValley_3 (by decide) ?_
    refine sx_icmp_ge (tgt := 26) C0 dX7_mixValley_4 (by decide) (fun _ => ?_) (fun _ => ?_)
    · exact bX7_mixValley_26_t C0 _ _ (lv_sub hl [0] rfl)
    · refine sx_aload_n C0 dX7_mixValley_7 rfl (lv_at hl 0 rfl) ?_
      refine sx_aload_n C0 dX7_mixValley_8 rfl (lv_at hl 0 rfl) ?_
      refine sx_iconst (v := 0) C0 dX7_mixValley_9 (by decide) ?_
      refine sx_iconst (v := 0) C0 dX7_mixValley_10 (by decide) ?_
      refine sx_iload_n C0 dX7_mixValley_11 rfl (lv_at hl 1 rfl) ?_
      refine sx_iadd C0 dX7_mixValley_12 ?_
      refine sw_bind (fun a13 e13 => ?_)
      refine cv_X7_149 (As := [.int (0 : Int32), .int ((0 : Int32) + v1)]) C0 (c_X7_v C0.2.2.2.2.2.2.2.1 (0 : Int32) ((0 : Int32) + v1) S _ e13) is7 ⟨rfl, rfl⟩ ⟨Nat.le_of_ble_eq_true rfl, Nat.le_of_ble_eq_true rfl⟩ rfl hl.1 (Nat.le_of_ble_eq_true rfl) rfl dX7_mixValley_13 (fun _ => ?_)
      refine sx_i2l C0 dX7_mixValley_16 ?_
      refine cv_X7_324 (As := [.long (Int32.toInt64 a13)]) C0 (c_X7_mix C0.2.2.2.2.2.2.2.1 (Int32.toInt64 a13) S) is7 ⟨rfl, rfl⟩ ⟨Nat.le_of_ble_eq_true rfl, Nat.le_of_ble_eq_true rfl⟩ rfl hl.1 (Nat.le_of_ble_eq_true rfl) rfl dX7_mixValley_17 (fun _ => ?_)
      refine sw_ltS (fun S17 => ?_)
      refine sx_iinc (v := (v1 + (1 : Int32))) (lv' := [(1, .int (v1 + (1 : Int32))), (0, .ref (ad 0))]) C0 dX7_mixValley_20 hl (k := 1) rfl rfl (by decide) rfl (fun ls hl => ?_)
      refine sx_goto (tgt := 2) C0 dX7_mixValley_23 (by decide) ?_
      exact ih _ _ _ (lv_sub hl [1, 0] rfl)
def mX7_mixValley (S : vS)  : Option vS := (lX7_mixValley_2 FU S (0 : Int32))
set_option maxHeartbeats 4000000 in
set_option maxRecDepth 100000 in
theorem c_X7_mixValley {l : Launch} {D : va_G} {cA : Nat → ClassId} {ad : Nat → Nat} (G : Gx shM ad ExM)  (S : vS) (r : vS) (hr : (mX7_mixValley S) = some r) : Met l yX7_mixValley (Cond.code yX7_mixValley cX7_mixValley 3 none :: ALL) rm_X7_mixValley (Po D vwCl tlM shM cA ad ExM [.ref (ad 0)] S) (Qo D vwCl shM cA ad none r True) 0 0 (aw shM ad) := by
  refine Met.sx (M := (mX7_mixValley S)) (rv := (fun _ => none : vS → Option Value)) (rs := fun S1 => S1) (B := fun _ => True) (by decide) ⟨rfl, rfl⟩ (Nat.le_of_ble_eq_true rfl) G (fun p e s m args below meth c C0 ls hl => ?_) hr
  have hl : lv_has ls 3 [(0, .ref (ad 0))] := hl
  rw [mX7_mixValley]
  refine sx_iconst (v := 0) C0 dX7_mixValley_0 (by decide) ?_
  refine sx_istore_n (lv' := [(1, .int (0 : Int32)), (0, .ref (ad 0))]) C0 dX7_mixValley_1 rfl hl (by decide) rfl (fun ls hl => ?_)
  exact lX7_mixValley_2_t C0 _ _ _ _ (lv_sub hl [1, 0] rfl)
abbrev rm_X7_digest : Room := { frames := 3, cells := 0, slots := 0, locals := 67 }
def lX7_digest_56   (K37 : vS → Int32 → Option (Int64 × vS)) (v1 : Int32) : Nat → vS → Int32 → Option (Int64 × vS)
  | 0, _, _ => none
  | n + 1, S, v2 => ((gI (S.1 2) 6 v1).bind fun a62 => (if a62 ≤ v2 then (K37 S (v1 + (1 : Int32))) else ((mX7_rowAt S v1 v2).bind fun a70 => (lt (mX7_mix S (Int32.toInt64 a70)) fun S74 => ((lX7_digest_56 K37 v1 n) S74 (v2 + (1 : Int32)))))))
set_option maxHeartbeats 4000000 in
set_option maxRecDepth 100000 in
theorem lX7_digest_56_t {p : Program} {l : Launch} {e : Env} {s : State} {m : MethodId} {args : Array Value} {below : List Frame} {meth : Method} {c : Code} {D : va_G} {cA : Nat → ClassId} {ad : Nat → Nat} {K37 : vS → Int32 → Option (Int64 × vS)}  (C0 : Cx D vwCl tlM shM cA ad ExM RX7 cX7_digest 3 (some .long) p s m args meth c)   (v1 : Int32) (hK37 : ∀ (S : vS) (v1 : Int32) (ls : Array Slot), lv_has ls 3 [(0, .ref (ad 0)), (1, .int v1)] → SW p l e rm_X7_digest s m args below meth c D vwCl shM cA ad (Fq D vwCl shM cA ad below args s (fun q => some (.long q.1) : (Int64 × vS) → Option Value) (fun q => q.2) (fun _ => True)) (K37 S v1) S 37 ls []) : ∀ (n : Nat) (S : vS) (v2 : Int32) (ls : Array Slot), lv_has ls 3 [(0, .ref (ad 0)), (1, .int v1), (2, .int v2)] → SW p l e rm_X7_digest s m args below meth c D vwCl shM cA ad (Fq D vwCl shM cA ad below args s (fun q => some (.long q.1) : (Int64 × vS) → Option Value) (fun q => q.2) (fun _ => True)) (lX7_digest_56 K37 v1 n S v2) S 56 ls [] := by
  intro n
  induction n with
  | zero =>
    intro S v2 ls hl
    rw [lX7_digest_56]
    exact sw_none
  | succ n ih =>
    intro S v2 ls hl
    rw [lX7_digest_56]
    refine sx_iload_n C0 dX7_digest_56 rfl (lv_at hl 2 rfl) ?_
    refine sx_aload_n C0 dX7_digest_57 rfl (lv_at hl 0 rfl) ?_
    refine gf_X7_13 C0 is7 dX7_digest_58 ?_
    refine sx_iload_n C0 dX7_digest_61 rfl (lv_at hl 1 rfl) ?_
    refine sx_iald C0 is7_sizes rfl dX7_digest_62 (fun a62 => ?_)
    refine sx_icmp_ge (tgt := 83) C0 dX7_digest_63 (by decide) (fun _ => ?_) (fun _ => ?_)
    · refine sx_iinc (v := (v1 + (1 : Int32))) (lv' := [(1, .int (v1 + (1 : Int32))), (0, .ref (ad 0)), (2, .int v2)]) C0 dX7_digest_83 hl (k := 1) rfl rfl (by decide) rfl (fun ls hl => ?_)
      refine sx_goto (tgt := 37) C0 dX7_digest_86 (by decide) ?_
      exact hK37 _ _ _ (lv_sub hl [1, 0] rfl)
    · refine sx_aload_n C0 dX7_digest_66 rfl (lv_at hl 0 rfl) ?_
      refine sx_aload_n C0 dX7_digest_67 rfl (lv_at hl 0 rfl) ?_
      refine sx_iload_n C0 dX7_digest_68 rfl (lv_at hl 1 rfl) ?_
      refine sx_iload_n C0 dX7_digest_69 rfl (lv_at hl 2 rfl) ?_
      refine sw_bind (fun a70 e70 => ?_)
      refine cv_X7_98 (As := [.int v1, .int v2]) C0 (c_X7_rowAt C0.2.2.2.2.2.2.2.1 v1 v2 S _ e70) is7 ⟨rfl, rfl⟩ ⟨Nat.le_of_ble_eq_true rfl, Nat.le_of_ble_eq_true rfl⟩ rfl hl.1 (Nat.le_of_ble_eq_true rfl) rfl dX7_digest_70 (fun _ => ?_)
      refine sx_i2l C0 dX7_digest_73 ?_
      refine cv_X7_324 (As := [.long (Int32.toInt64 a70)]) C0 (c_X7_mix C0.2.2.2.2.2.2.2.1 (Int32.toInt64 a70) S) is7 ⟨rfl, rfl⟩ ⟨Nat.le_of_ble_eq_true rfl, Nat.le_of_ble_eq_true rfl⟩ rfl hl.1 (Nat.le_of_ble_eq_true rfl) rfl dX7_digest_74 (fun _ => ?_)
      refine sw_ltS (fun S74 => ?_)
      refine sx_iinc (v := (v2 + (1 : Int32))) (lv' := [(2, .int (v2 + (1 : Int32))), (0, .ref (ad 0)), (1, .int v1)]) C0 dX7_digest_77 hl (k := 2) rfl rfl (by decide) rfl (fun ls hl => ?_)
      refine sx_goto (tgt := 56) C0 dX7_digest_80 (by decide) ?_
      exact ih _ _ _ (lv_sub hl [1, 2, 0] rfl)
def lX7_digest_109   (K91 : vS → Int32 → Option (Int64 × vS)) (v1 : Int32) : Nat → vS → Int32 → Option (Int64 × vS)
  | 0, _, _ => none
  | n + 1, S, v2 => ((gI (S.1 5) 4 v1).bind fun a115 => (if a115 ≤ v2 then (K91 S (v1 + (1 : Int32))) else ((mX7_byteAt S v1 v2).bind fun a123 => (lt (mX7_mix S (Int32.toInt64 a123)) fun S127 => ((lX7_digest_109 K91 v1 n) S127 (v2 + (1 : Int32)))))))
set_option maxHeartbeats 4000000 in
set_option maxRecDepth 100000 in
theorem lX7_digest_109_t {p : Program} {l : Launch} {e : Env} {s : State} {m : MethodId} {args : Array Value} {below : List Frame} {meth : Method} {c : Code} {D : va_G} {cA : Nat → ClassId} {ad : Nat → Nat} {K91 : vS → Int32 → Option (Int64 × vS)}  (C0 : Cx D vwCl tlM shM cA ad ExM RX7 cX7_digest 3 (some .long) p s m args meth c)   (v1 : Int32) (hK91 : ∀ (S : vS) (v1 : Int32) (ls : Array Slot), lv_has ls 3 [(0, .ref (ad 0)), (1, .int v1)] → SW p l e rm_X7_digest s m args below meth c D vwCl shM cA ad (Fq D vwCl shM cA ad below args s (fun q => some (.long q.1) : (Int64 × vS) → Option Value) (fun q => q.2) (fun _ => True)) (K91 S v1) S 91 ls []) : ∀ (n : Nat) (S : vS) (v2 : Int32) (ls : Array Slot), lv_has ls 3 [(0, .ref (ad 0)), (1, .int v1), (2, .int v2)] → SW p l e rm_X7_digest s m args below meth c D vwCl shM cA ad (Fq D vwCl shM cA ad below args s (fun q => some (.long q.1) : (Int64 × vS) → Option Value) (fun q => q.2) (fun _ => True)) (lX7_digest_109 K91 v1 n S v2) S 109 ls [] := by
  intro n
  induction n with
  | zero =>
    intro S v2 ls hl
    rw [lX7_digest_109]
    exact sw_none
  | succ n ih =>
    intro S v2 ls hl
    rw [lX7_digest_109]
    refine sx_iload_n C0 dX7_digest_109 rfl (lv_at hl 2 rfl) ?_
    refine sx_aload_n C0 dX7_digest_110 rfl (lv_at hl 0 rfl) ?_
    refine gf_X7_22 C0 is7 dX7_digest_111 ?_
    refine sx_iload_n C0 dX7_digest_114 rfl (lv_at hl 1 rfl) ?_
    refine sx_iald C0 is7_textSizes rfl dX7_digest_115 (fun a115 => ?_)
    refine sx_icmp_ge (tgt := 136) C0 dX7_digest_116 (by decide) (fun _ => ?_) (fun _ => ?_)
    · refine sx_iinc (v := (v1 + (1 : Int32))) (lv' := [(1, .int (v1 + (1 : Int32))), (0, .ref (ad 0)), (2, .int v2)]) C0 dX7_digest_136 hl (k := 1) rfl rfl (by decide) rfl (fun ls hl => ?_)
      refine sx_goto (tgt := 91) C0 dX7_digest_139 (by decide) ?_
      exact hK91 _ _ _ (lv_sub hl [1, 0] rfl)
    · refine sx_aload_n C0 dX7_digest_119 rfl (lv_at hl 0 rfl) ?_
      refine sx_aload_n C0 dX7_digest_120 rfl (lv_at hl 0 rfl) ?_
      refine sx_iload_n C0 dX7_digest_121 rfl (lv_at hl 1 rfl) ?_
      refine sx_iload_n C0 dX7_digest_122 rfl (lv_at hl 2 rfl) ?_
      refine sw_bind (fun a123 e123 => ?_)
      refine cv_X7_111 (As := [.int v1, .int v2]) C0 (c_X7_byteAt C0.2.2.2.2.2.2.2.1 v1 v2 S _ e123) is7 ⟨rfl, rfl⟩ ⟨Nat.le_of_ble_eq_true rfl, Nat.le_of_ble_eq_true rfl⟩ rfl hl.1 (Nat.le_of_ble_eq_true rfl) rfl dX7_digest_123 (fun _ => ?_)
      refine sx_i2l C0 dX7_digest_126 ?_
      refine cv_X7_324 (As := [.long (Int32.toInt64 a123)]) C0 (c_X7_mix C0.2.2.2.2.2.2.2.1 (Int32.toInt64 a123) S) is7 ⟨rfl, rfl⟩ ⟨Nat.le_of_ble_eq_true rfl, Nat.le_of_ble_eq_true rfl⟩ rfl hl.1 (Nat.le_of_ble_eq_true rfl) rfl dX7_digest_127 (fun _ => ?_)
      refine sw_ltS (fun S127 => ?_)
      refine sx_iinc (v := (v2 + (1 : Int32))) (lv' := [(2, .int (v2 + (1 : Int32))), (0, .ref (ad 0)), (1, .int v1)]) C0 dX7_digest_130 hl (k := 2) rfl rfl (by decide) rfl (fun ls hl => ?_)
      refine sx_goto (tgt := 109) C0 dX7_digest_133 (by decide) ?_
      exact ih _ _ _ (lv_sub hl [1, 2, 0] rfl)
def bX7_digest_142    (S : vS)   : Option (Int64 × vS) := (some ((S.2 0 38), S))
set_option maxHeartbeats 4000000 in
set_option maxRecDepth 100000 in
theorem bX7_digest_142_t {p : Program} {l : Launch} {e : Env} {s : State} {m : MethodId} {args : Array Value} {below : List Frame} {meth : Method} {c : Code} {D : va_G} {cA : Nat → ClassId} {ad : Nat → Nat}   (C0 : Cx D vwCl tlM shM cA ad ExM RX7 cX7_digest 3 (some .long) p s m args meth c)  (S : vS)  (ls : Array Slot) (hl : lv_has ls 3 [(0, .ref (ad 0))]) : SW p l e rm_X7_digest s m args below meth c D vwCl shM cA ad (Fq D vwCl shM cA ad below args s (fun q => some (.long q.1) : (Int64 × vS) → Option Value) (fun q => q.2) (fun _ => True)) (bX7_digest_142 S) S 142 ls [] := by
  rw [bX7_digest_142]
  refine sx_aload_n C0 dX7_digest_142 rfl (lv_at hl 0 rfl) ?_
  refine gf_X7_321 C0 is7 dX7_digest_143 ?_
  exact sx_lret C0 rfl rfl trivial dX7_digest_146
def lX7_digest_91     : Nat → vS → Int32 → Option (Int64 × vS)
  | 0, _, _ => none
  | n + 1, S, v1 => (if (4 : Int32) ≤ v1 then (bX7_digest_142 S) else ((gI (S.1 5) 4 v1).bind fun a102 => (lt (mX7_mix S (Int32.toInt64 a102)) fun S104 => (lX7_digest_109 (lX7_digest_91 n) v1 FU S104 (0 : Int32)))))
set_option maxHeartbeats 4000000 in
set_option maxRecDepth 100000 in
theorem lX7_digest_91_t {p : Program} {l : Launch} {e : Env} {s : State} {m : MethodId} {args : Array Value} {below : List Frame} {meth : Method} {c : Code} {D : va_G} {cA : Nat → ClassId} {ad : Nat → Nat}   (C0 : Cx D vwCl tlM shM cA ad ExM RX7 cX7_digest 3 (some .long) p s m args meth c)     : ∀ (n : Nat) (S : vS) (v1 : Int32) (ls : Array Slot), lv_has ls 3 [(0, .ref (ad 0)), (1, .int v1)] → SW p l e rm_X7_digest s m args below meth c D vwCl shM cA ad (Fq D vwCl shM cA ad below args s (fun q => some (.long q.1) : (Int64 × vS) → Option Value) (fun q => q.2) (fun _ => True)) (lX7_digest_91 n S v1) S 91 ls [] := by
  intro n
  induction n with
  | zero =>
    intro S v1 ls hl
    rw [lX7_digest_91]
    exact sw_none
  | succ n ih =>
    intro S v1 ls hl
    rw [lX7_digest_91]
    refine sx_iload_n C0 dX7_digest_91 rfl (lv_at hl 1 rfl) ?_
    refine sx_iconst (v := 4) C0 dX7_digest_92 (by decide) ?_
    refine sx_icmp_ge (tgt := 142) C0 dX7_digest_93 (by decide) (fun _ => ?_) (fun _ => ?_)
    · exact bX7_digest_142_t C0 _ _ (lv_sub hl [0] rfl)
    · refine sx_aload_n C0 dX7_digest_96 rfl (lv_at hl 0 rfl) ?_
      refine sx_aload_n C0 dX7_digest_97 rfl (lv_at hl 0 rfl) ?_
      refine gf_X7_22 C0 is7 dX7_digest_98 ?_
      refine sx_iload_n C0 dX7_digest_101 rfl (lv_at hl 1 rfl) ?_
      refine sx_iald C0 is7_textSizes rfl dX7_digest_102 (fun a102 => ?_)
      refine sx_i2l C0 dX7_digest_103 ?_
      refine cv_X7_324 (As := [.long (Int32.toInt64 a102)]) C0 (c_X7_mix C0.2.2.2.2.2.2.2.1 (Int32.toInt64 a102) S) is7 ⟨rfl, rfl⟩ ⟨Nat.le_of_ble_eq_true rfl, Nat.le_of_ble_eq_true rfl⟩ rfl hl.1 (Nat.le_of_ble_eq_true rfl) rfl dX7_digest_104 (fun _ => ?_)
      refine sw_ltS (fun S104 => ?_)
      refine sx_iconst (v := 0) C0 dX7_digest_107 (by decide) ?_
      refine sx_istore_n (lv' := [(2, .int (0 : Int32)), (0, .ref (ad 0)), (1, .int v1)]) C0 dX7_digest_108 rfl hl (by decide) rfl (fun ls hl => ?_)
      exact lX7_digest_109_t C0 _ ih _ _ _ _ (lv_sub hl [1, 2, 0] rfl)
def bX7_digest_89    (S : vS)   : Option (Int64 × vS) := (lX7_digest_91 FU S (0 : Int32))
set_option maxHeartbeats 4000000 in
set_option maxRecDepth 100000 in
theorem bX7_digest_89_t {p : Program} {l : Launch} {e : Env} {s : State} {m : MethodId} {args : Array Value} {below : List Frame} {meth : Method} {c : Code} {D : va_G} {cA : Nat → ClassId} {ad : Nat → Nat}   (C0 : Cx D vwCl tlM shM cA ad ExM RX7 cX7_digest 3 (some .long) p s m args meth c)  (S : vS)  (ls : Array Slot) (hl : lv_has ls 3 [(0, .ref (ad 0))]) : SW p l e rm_X7_digest s m args below meth c D vwCl shM cA ad (Fq D vwCl shM cA ad below args s (fun q => some (.long q.1) : (Int64 × vS) → Option Value) (fun q => q.2) (fun _ => True)) (bX7_digest_89 S) S 89 ls [] := by
  rw [bX7_digest_89]
  refine sx_iconst (v := 0) C0 dX7_digest_89 (by decide) ?_
  refine sx_istore_n (lv' := [(1, .int (0 : Int32)), (0, .ref (ad 0))]) C0 dX7_digest_90 rfl hl (by decide) rfl (fun ls hl => ?_)
  exact lX7_digest_91_t C0 _ _ _ _ (lv_sub hl [1, 0] rfl)
def lX7_digest_37     : Nat → vS → Int32 → Option (Int64 × vS)
  | 0, _, _ => none
  | n + 1, S, v1 => (if (6 : Int32) ≤ v1 then (bX7_digest_89 S) else ((gI (S.1 2) 6 v1).bind fun a49 => (lt (mX7_mix S (Int32.toInt64 a49)) fun S51 => (lX7_digest_56 (lX7_digest_37 n) v1 FU S51 (0 : Int32)))))
set_option maxHeartbeats 4000000 in
set_option maxRecDepth 100000 in
theorem lX7_digest_37_t {p : Program} {l : Launch} {e : Env} {s : State} {m : MethodId} {args : Array Value} {below : List Frame} {meth : Method} {c : Code} {D : va_G} {cA : Nat → ClassId} {ad : Nat → Nat}   (C0 : Cx D vwCl tlM shM cA ad ExM RX7 cX7_digest 3 (some .long) p s m args meth c)     : ∀ (n : Nat) (S : vS) (v1 : Int32) (ls : Array Slot), lv_has ls 3 [(0, .ref (ad 0)), (1, .int v1)] → SW p l e rm_X7_digest s m args below meth c D vwCl shM cA ad (Fq D vwCl shM cA ad below args s (fun q => some (.long q.1) : (Int64 × vS) → Option Value) (fun q => q.2) (fun _ => True)) (lX7_digest_37 n S v1) S 37 ls [] := by
  intro n
  induction n with
  | zero =>
    intro S v1 ls hl
    rw [lX7_digest_37]
    exact sw_none
  | succ n ih =>
    intro S v1 ls hl
    rw [lX7_digest_37]
    refine sx_iload_n C0 dX7_digest_37 rfl (lv_at hl 1 rfl) ?_
    refine sx_bipush (v := 6) C0 dX7_digest_38 (by decide) ?_
    refine sx_icmp_ge (tgt := 89) C0 dX7_digest_40 (by decide) (fun _ => ?_) (fun _ => ?_)
    · exact bX7_digest_89_t C0 _ _ (lv_sub hl [0] rfl)
    · refine sx_aload_n C0 dX7_digest_43 rfl (lv_at hl 0 rfl) ?_
      refine sx_aload_n C0 dX7_digest_44 rfl (lv_at hl 0 rfl) ?_
      refine gf_X7_13 C0 is7 dX7_digest_45 ?_
      refine sx_iload_n C0 dX7_digest_48 rfl (lv_at hl 1 rfl) ?_
      refine sx_iald C0 is7_sizes rfl dX7_digest_49 (fun a49 => ?_)
      refine sx_i2l C0 dX7_digest_50 ?_
      refine cv_X7_324 (As := [.long (Int32.toInt64 a49)]) C0 (c_X7_mix C0.2.2.2.2.2.2.2.1 (Int32.toInt64 a49) S) is7 ⟨rfl, rfl⟩ ⟨Nat.le_of_ble_eq_true rfl, Nat.le_of_ble_eq_true rfl⟩ rfl hl.1 (Nat.le_of_ble_eq_true rfl) rfl dX7_digest_51 (fun _ => ?_)
      refine sw_ltS (fun S51 => ?_)
      refine sx_iconst (v := 0) C0 dX7_digest_54 (by decide) ?_
      refine sx_istore_n (lv' := [(2, .int (0 : Int32)), (0, .ref (ad 0)), (1, .int v1)]) C0 dX7_digest_55 rfl hl (by decide) rfl (fun ls hl => ?_)
      exact lX7_digest_56_t C0 _ ih _ _ _ _ (lv_sub hl [1, 2, 0] rfl)
def bX7_digest_31    (S : vS)   : Option (Int64 × vS) := ((mX7_mixValley S).bind fun S32 => (lX7_digest_37 FU S32 (0 : Int32)))
set_option maxHeartbeats 4000000 in
set_option maxRecDepth 100000 in
theorem bX7_digest_31_t {p : Program} {l : Launch} {e : Env} {s : State} {m : MethodId} {args : Array Value} {below : List Frame} {meth : Method} {c : Code} {D : va_G} {cA : Nat → ClassId} {ad : Nat → Nat}   (C0 : Cx D vwCl tlM shM cA ad ExM RX7 cX7_digest 3 (some .long) p s m args meth c)  (S : vS)  (ls : Array Slot) (hl : lv_has ls 3 [(0, .ref (ad 0))]) : SW p l e rm_X7_digest s m args below meth c D vwCl shM cA ad (Fq D vwCl shM cA ad below args s (fun q => some (.long q.1) : (Int64 × vS) → Option Value) (fun q => q.2) (fun _ => True)) (bX7_digest_31 S) S 31 ls [] := by
  rw [bX7_digest_31]
  refine sx_aload_n C0 dX7_digest_31 rfl (lv_at hl 0 rfl) ?_
  refine sw_bind (fun S32 e32 => ?_)
  refine cv_X7_332 (As := []) C0 (c_X7_mixValley C0.2.2.2.2.2.2.2.1 S _ e32) is7 ⟨rfl, rfl⟩ ⟨Nat.le_of_ble_eq_true rfl, Nat.le_of_ble_eq_true rfl⟩ rfl hl.1 (Nat.le_of_ble_eq_true rfl) rfl dX7_digest_32 (fun _ => ?_)
  refine sx_iconst (v := 0) C0 dX7_digest_35 (by decide) ?_
  refine sx_istore_n (lv' := [(1, .int (0 : Int32)), (0, .ref (ad 0))]) C0 dX7_digest_36 rfl hl (by decide) rfl (fun ls hl => ?_)
  exact lX7_digest_37_t C0 _ _ _ _ (lv_sub hl [1, 0] rfl)
def lX7_digest_9     : Nat → vS → Int32 → Option (Int64 × vS)
  | 0, _, _ => none
  | n + 1, S, v1 => (if (8 : Int32) ≤ v1 then (bX7_digest_31 S) else ((mX7_counted S v1).bind fun a18 => (lt (mX7_mix S (Int32.toInt64 a18)) fun S22 => ((lX7_digest_9 n) S22 (v1 + (1 : Int32))))))
set_option maxHeartbeats 4000000 in
set_option maxRecDepth 100000 in
theorem lX7_digest_9_t {p : Program} {l : Launch} {e : Env} {s : State} {m : MethodId} {args : Array Value} {below : List Frame} {meth : Method} {c : Code} {D : va_G} {cA : Nat → ClassId} {ad : Nat → Nat}   (C0 : Cx D vwCl tlM shM cA ad ExM RX7 cX7_digest 3 (some .long) p s m args meth c)     : ∀ (n : Nat) (S : vS) (v1 : Int32) (ls : Array Slot), lv_has ls 3 [(0, .ref (ad 0)), (1, .int v1)] → SW p l e rm_X7_digest s m args below meth c D vwCl shM cA ad (Fq D vwCl shM cA ad below args s (fun q => some (.long q.1) : (Int64 × vS) → Option Value) (fun q => q.2) (fun _ => True)) (lX7_digest_9 n S v1) S 9 ls [] := by
  intro n
  induction n with
  | zero =>
    intro S v1 ls hl
    rw [lX7_digest_9]
    exact sw_none
  | succ n ih =>
    intro S v1 ls hl
    rw [lX7_digest_9]
    refine sx_iload_n C0 dX7_digest_9 rfl (lv_at hl 1 rfl) ?_
    refine sx_bipush (v := 8) C0 dX7_digest_10 (by decide) ?_
    refine sx_icmp_ge (tgt := 31) C0 dX7_digest_12 (by decide) (fun _ => ?_) (fun _ => ?_)
    · exact bX7_digest_31_t C0 _ _ (lv_sub hl [0] rfl)
    · refine sx_aload_n C0 dX7_digest_15 rfl (lv_at hl 0 rfl) ?_
      refine sx_aload_n C0 dX7_digest_16 rfl (lv_at hl 0 rfl) ?_
      refine sx_iload_n C0 dX7_digest_17 rfl (lv_at hl 1 rfl) ?_
      refine sw_bind (fun a18 e18 => ?_)
      refine cv_X7_316 (As := [.int v1]) C0 (c_X7_counted C0.2.2.2.2.2.2.2.1 v1 S _ e18) is7 ⟨rfl, rfl⟩ ⟨Nat.le_of_ble_eq_true rfl, Nat.le_of_ble_eq_true rfl⟩ rfl hl.1 (Nat.le_of_ble_eq_true rfl) rfl dX7_digest_18 (fun _ => ?_)
      refine sx_i2l C0 dX7_digest_21 ?_
      refine cv_X7_324 (As := [.long (Int32.toInt64 a18)]) C0 (c_X7_mix C0.2.2.2.2.2.2.2.1 (Int32.toInt64 a18) S) is7 ⟨rfl, rfl⟩ ⟨Nat.le_of_ble_eq_true rfl, Nat.le_of_ble_eq_true rfl⟩ rfl hl.1 (Nat.le_of_ble_eq_true rfl) rfl dX7_digest_22 (fun _ => ?_)
      refine sw_ltS (fun S22 => ?_)
      refine sx_iinc (v := (v1 + (1 : Int32))) (lv' := [(1, .int (v1 + (1 : Int32))), (0, .ref (ad 0))]) C0 dX7_digest_25 hl (k := 1) rfl rfl (by decide) rfl (fun ls hl => ?_)
      refine sx_goto (tgt := 9) C0 dX7_digest_28 (by decide) ?_
      exact ih _ _ _ (lv_sub hl [1, 0] rfl)
def mX7_digest (S : vS)  : Option (Int64 × vS) := (lt (wL S 0 38 (17 : Int64)) fun S4 => (lX7_digest_9 FU S4 (0 : Int32)))
set_option maxHeartbeats 4000000 in
set_option maxRecDepth 100000 in
theorem c_X7_digest {l : Launch} {D : va_G} {cA : Nat → ClassId} {ad : Nat → Nat} (G : Gx shM ad ExM)  (S : vS) (r : (Int64 × vS)) (hr : (mX7_digest S) = some r) : Met l yX7_digest (Cond.code yX7_digest cX7_digest 3 (some .long) :: ALL) rm_X7_digest (Po D vwCl tlM shM cA ad ExM [.ref (ad 0)] S) (Qo D vwCl shM cA ad (some (.long r.1)) r.2 True) 0 0 (aw shM ad) := by
  refine Met.sx (M := (mX7_digest S)) (rv := (fun q => some (.long q.1) : (Int64 × vS) → Option Value)) (rs := fun q => q.2) (B := fun _ => True) (by decide) ⟨rfl, rfl⟩ (Nat.le_of_ble_eq_true rfl) G (fun p e s m args below meth c C0 ls hl => ?_) hr
  have hl : lv_has ls 3 [(0, .ref (ad 0))] := hl
  rw [mX7_digest]
  refine sx_aload_n C0 dX7_digest_0 rfl (lv_at hl 0 rfl) ?_
  refine sx_ldc2 C0 wk_X7_330 dX7_digest_1 ?_
  refine pf_X7_321 C0 is7 dX7_digest_4 (fun S4 => ?_)
  refine sx_iconst (v := 0) C0 dX7_digest_7 (by decide) ?_
  refine sx_istore_n (lv' := [(1, .int (0 : Int32)), (0, .ref (ad 0))]) C0 dX7_digest_8 rfl hl (by decide) rfl (fun ls hl => ?_)
  exact lX7_digest_9_t C0 _ _ _ _ (lv_sub hl [1, 0] rfl)
