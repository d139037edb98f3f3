abbrev rm_X1_start : Room := { frames := 1, cells := 0, slots := 0, locals := 26 }
def mX1_start (S : vS) (k : Nat) (k1 : Nat) (v2 : Int32) : Option vS := ((aI (scl k) (0 : Int32)).bind fun x5 => ((mX3_take S x5 k1).bind fun S7 => ((aI (scl k) (0 : Int32)).bind fun x15 => (lt (mX3_forgetSums S7 x15) fun S16 => (lt (wI S16 k 2 (mxI (0 : Int32) (mnI v2 (4 : Int32)))) fun S29 => (lt (wI S29 k 3 (0 : Int32)) fun S34 => (lt (wI S34 k 4 (0 : Int32)) fun S39 => (lt (wI S39 k 5 (0 : Int32)) fun S44 => (lt (wI S44 k 6 (0 : Int32)) fun S49 => (lt (wI S49 k 7 (0 : Int32)) fun S54 => (some S54)))))))))))
set_option maxHeartbeats 4000000 in
set_option maxRecDepth 100000 in
theorem c_X1_start {l : Launch} {D : va_G} {cA : Nat → ClassId} {ad : Nat → Nat} {kl : Nat} (G : Gx shC ad (ExC ad kl)) (k : Nat) (hk : IsX1 k) (k1 : Nat) (h1 : IsX3 k1) (v2 : Int32) (S : vS) (r : vS) (hr : (mX1_start S k k1 v2) = some r) : Met l yX1_start (Cond.code yX1_start cX1_start 3 none :: ALL) rm_X1_start (Po D vwCl tlC shC cA ad (ExC ad kl) [.ref (ad k), .ref (ad k1), .int v2] S) (Qo D vwCl shC cA ad none r True) 0 0 (aw shC ad) := by
  refine Met.sx (M := (mX1_start S k k1 v2)) (rv := (fun _ => none : vS → Option Value)) (rs := fun S1 => S1) (B := fun _ => True) (by decide) ⟨rfl, rfl⟩ (Nat.le_of_ble_eq_true rfl) G (fun p e s m args below meth c C0 ls hl => ?_) hr
  have hl : lv_has ls 3 [(0, .ref (ad k)), (1, .ref (ad k1)), (2, .int v2)] := hl
  rw [mX1_start]
  refine sx_aload_n C0 dX1_start_0 rfl (lv_at hl 0 rfl) ?_
  refine gf_X1_12 C0 hk.1 dX1_start_1 ?_
  refine sx_iconst (v := 0) C0 dX1_start_4 (by decide) ?_
  refine sx_aald C0 hk.2.1 rfl rfl dX1_start_5 (fun x5 hx5 => ?_)
  refine sx_aload_n C0 dX1_start_6 rfl (lv_at hl 1 rfl) ?_
  refine sw_bind (fun S7 e7 => ?_)
  refine cv_X1_69 (As := [.ref (ad k1)]) C0 (c_X3_take C0.2.2.2.2.2.2.2.1 x5 (hk.2.2.2.2 x5 hx5) k1 h1 S _ e7) (hk.2.2.2.2 x5 hx5).1 ⟨rfl, rfl⟩ ⟨Nat.le_of_ble_eq_true rfl, Nat.le_of_ble_eq_true rfl⟩ rfl hl.1 (Nat.le_of_ble_eq_true rfl) rfl dX1_start_7 (fun _ => ?_)
  refine sx_aload_n C0 dX1_start_10 rfl (lv_at hl 0 rfl) ?_
  refine gf_X1_12 C0 hk.1 dX1_start_11 ?_
  refine sx_iconst (v := 0) C0 dX1_start_14 (by decide) ?_
  refine sx_aald C0 hk.2.1 rfl rfl dX1_start_15 (fun x15 hx15 => ?_)
  refine cv_X1_73 (As := []) C0 (c_X3_forgetSums C0.2.2.2.2.2.2.2.1 x15 (hk.2.2.2.2 x15 hx15) S7) (hk.2.2.2.2 x15 hx15).1 ⟨rfl, rfl⟩ ⟨Nat.le_of_ble_eq_true rfl, Nat.le_of_ble_eq_true rfl⟩ rfl hl.1 (Nat.le_of_ble_eq_true rfl) rfl dX1_start_16 (fun _ => ?_)
  refine sw_ltS (fun S16 => ?_)
  refine sx_aload_n C0 dX1_start_19 rfl (lv_at hl 0 rfl) ?_
  refine sx_iconst (v := 0) C0 dX1_start_20 (by decide) ?_
  refine sx_iload_n C0 dX1_start_21 rfl (lv_at hl 2 rfl) ?_
  refine sx_iconst (v := 4) C0 dX1_start_22 (by decide) ?_
  refine sx_mmin C0 wm_X1_76 hl.1 ⟨Nat.le_of_ble_eq_true rfl, Nat.le_of_ble_eq_true rfl⟩ dX1_start_23 ?_
  refine sx_mmax C0 wm_X1_82 hl.1 ⟨Nat.le_of_ble_eq_true rfl, Nat.le_of_ble_eq_true rfl⟩ dX1_start_26 ?_
  refine pf_X1_22 C0 hk.1 dX1_start_29 (fun S29 => ?_)
  refine sx_aload_n C0 dX1_start_32 rfl (lv_at hl 0 rfl) ?_
  refine sx_iconst (v := 0) C0 dX1_start_33 (by decide) ?_
  refine pf_X1_26 C0 hk.1 dX1_start_34 (fun S34 => ?_)
  refine sx_aload_n C0 dX1_start_37 rfl (lv_at hl 0 rfl) ?_
  refine sx_iconst (v := 0) C0 dX1_start_38 (by decide) ?_
  refine pf_X1_29 C0 hk.1 (Or.inl rfl) dX1_start_39 (fun S39 => ?_)
  refine sx_aload_n C0 dX1_start_42 rfl (lv_at hl 0 rfl) ?_
  refine sx_iconst (v := 0) C0 dX1_start_43 (by decide) ?_
  refine pf_X1_33 C0 hk.1 (Or.inl rfl) dX1_start_44 (fun S44 => ?_)
  refine sx_aload_n C0 dX1_start_47 rfl (lv_at hl 0 rfl) ?_
  refine sx_iconst (v := 0) C0 dX1_start_48 (by decide) ?_
  refine pf_X1_36 C0 hk.1 dX1_start_49 (fun S49 => ?_)
  refine sx_aload_n C0 dX1_start_52 rfl (lv_at hl 0 rfl) ?_
  refine sx_iconst (v := 0) C0 dX1_start_53 (by decide) ?_
  refine pf_X1_39 C0 hk.1 dX1_start_54 (fun S54 => ?_)
  exact sx_vret C0 rfl rfl trivial dX1_start_57
abbrev rm_X1_weigh : Room := { frames := 1, cells := 0, slots := 0, locals := 26 }
def bX1_weigh_131 (k : Nat) (k1 : Nat)   (S : vS)   : Option vS := (lt (wI S k 8 (mX3_worth S k1)) fun S136 => ((cI S136 (k + 22) 4 (0 : Int32) (k + 23) 4 (0 : Int32) (4 : Int32)).bind fun S154 => (some S154)))
set_option maxHeartbeats 4000000 in
set_option maxRecDepth 100000 in
theorem bX1_weigh_131_t {p : Program} {l : Launch} {e : Env} {s : State} {m : MethodId} {args : Array Value} {below : List Frame} {meth : Method} {c : Code} {D : va_G} {cA : Nat → ClassId} {ad : Nat → Nat} {kl : Nat}   (C0 : Cx D vwCl tlC shC cA ad (ExC ad kl) RX1 cX1_weigh 3 none p s m args meth c) (k : Nat) (hk : IsX1 k) (k1 : Nat) (h1 : IsX3 k1) (S : vS)  (ls : Array Slot) (hl : lv_has ls 3 [(0, .ref (ad k)), (1, .ref (ad k1))]) : SW p l e rm_X1_weigh s m args below meth c D vwCl shC cA ad (Fq D vwCl shC cA ad below args s (fun _ => none : vS → Option Value) (fun S1 => S1) (fun _ => True)) (bX1_weigh_131 k k1 S) S 131 ls [] := by
  rw [bX1_weigh_131]
  refine sx_aload_n C0 dX1_weigh_131 rfl (lv_at hl 0 rfl) ?_
  refine sx_aload_n C0 dX1_weigh_132 rfl (lv_at hl 1 rfl) ?_
  refine cv_X1_116 (As := []) C0 (c_X3_worth C0.2.2.2.2.2.2.2.1 k1 h1 S) h1.1 ⟨rfl, rfl⟩ ⟨Nat.le_of_ble_eq_true rfl, Nat.le_of_ble_eq_true rfl⟩ rfl hl.1 (Nat.le_of_ble_eq_true rfl) rfl dX1_weigh_133 (fun _ => ?_)
  refine pf_X1_42 C0 hk.1 dX1_weigh_136 (fun S136 => ?_)
  refine sx_aload_n C0 dX1_weigh_139 rfl (lv_at hl 0 rfl) ?_
  refine gf_X1_18 C0 hk.1 dX1_weigh_140 ?_
  refine sx_iconst (v := 0) C0 dX1_weigh_143 (by decide) ?_
  refine sx_aload_n C0 dX1_weigh_144 rfl (lv_at hl 0 rfl) ?_
  refine gf_X1_54 C0 hk.1 dX1_weigh_145 ?_
  refine sx_iconst (v := 0) C0 dX1_weigh_148 (by decide) ?_
  refine sx_aload_n C0 dX1_weigh_149 rfl (lv_at hl 0 rfl) ?_
  refine gf_X1_54 C0 hk.1 dX1_weigh_150 ?_
  refine sx_alen (v := (4 : Int32)) C0 hk.2.2.2.1 rfl rfl dX1_weigh_153 ?_
  refine sx_acopy C0 wm_X1_120 hk.2.2.1 hk.2.2.2.1 rfl hl.1 ⟨Nat.le_of_ble_eq_true rfl, Nat.le_of_ble_eq_true rfl⟩ dX1_weigh_154 (fun S154 => ?_)
  exact sx_vret C0 rfl rfl trivial dX1_weigh_157
def bX1_weigh_116 (k : Nat) (k1 : Nat)   (S : vS) (v2 : Int32)  : Option vS := (if v2 = 0 then (if (mX3_worth S k1) ≤ (S.1 k 8) then (some S) else (bX1_weigh_131 k k1 S)) else (bX1_weigh_131 k k1 S))
set_option maxHeartbeats 4000000 in
set_option maxRecDepth 100000 in
theorem bX1_weigh_116_t {p : Program} {l : Launch} {e : Env} {s : State} {m : MethodId} {args : Array Value} {below : List Frame} {meth : Method} {c : Code} {D : va_G} {cA : Nat → ClassId} {ad : Nat → Nat} {kl : Nat}   (C0 : Cx D vwCl tlC shC cA ad (ExC ad kl) RX1 cX1_weigh 3 none p s m args meth c) (k : Nat) (hk : IsX1 k) (k1 : Nat) (h1 : IsX3 k1) (S : vS) (v2 : Int32) (ls : Array Slot) (hl : lv_has ls 3 [(0, .ref (ad k)), (1, .ref (ad k1)), (2, .int v2)]) : SW p l e rm_X1_weigh s m args below meth c D vwCl shC cA ad (Fq D vwCl shC cA ad below args s (fun _ => none : vS → Option Value) (fun S1 => S1) (fun _ => True)) (bX1_weigh_116 k k1 S v2) S 116 ls [] := by
  rw [bX1_weigh_116]
  refine sx_iload_n C0 dX1_weigh_116 rfl (lv_at hl 2 rfl) ?_
  refine sx_if_ne (tgt := 131) C0 dX1_weigh_117 (by decide) (fun _ => ?_) (fun _ => ?_)
  · refine sx_aload_n C0 dX1_weigh_120 rfl (lv_at hl 1 rfl) ?_
    refine cv_X1_116 (As := []) C0 (c_X3_worth C0.2.2.2.2.2.2.2.1 k1 h1 S) h1.1 ⟨rfl, rfl⟩ ⟨Nat.le_of_ble_eq_true rfl, Nat.le_of_ble_eq_true rfl⟩ rfl hl.1 (Nat.le_of_ble_eq_true rfl) rfl dX1_weigh_121 (fun _ => ?_)
    refine sx_aload_n C0 dX1_weigh_124 rfl (lv_at hl 0 rfl) ?_
    refine gf_X1_42 C0 hk.1 dX1_weigh_125 ?_
    refine sx_icmp_le (tgt := 157) C0 dX1_weigh_128 (by decide) (fun _ => ?_) (fun _ => ?_)
    · exact sx_vret C0 rfl rfl trivial dX1_weigh_157
    · exact bX1_weigh_131_t C0 k hk k1 h1 _ _ (lv_sub hl [0, 1] rfl)
  · exact bX1_weigh_131_t C0 k hk k1 h1 _ _ (lv_sub hl [0, 1] rfl)
def bX1_weigh_100 (k : Nat) (k1 : Nat)   (S : vS) (v2 : Int32)  : Option vS := (lt (wI S k 9 (S.1 k1 4)) fun S105 => (lt (wI S105 k 10 (S105.1 k1 3)) fun S113 => (bX1_weigh_116 k k1 S113 v2)))
set_option maxHeartbeats 4000000 in
set_option maxRecDepth 100000 in
theorem bX1_weigh_100_t {p : Program} {l : Launch} {e : Env} {s : State} {m : MethodId} {args : Array Value} {below : List Frame} {meth : Method} {c : Code} {D : va_G} {cA : Nat → ClassId} {ad : Nat → Nat} {kl : Nat}   (C0 : Cx D vwCl tlC shC cA ad (ExC ad kl) RX1 cX1_weigh 3 none p s m args meth c) (k : Nat) (hk : IsX1 k) (k1 : Nat) (h1 : IsX3 k1) (S : vS) (v2 : Int32) (ls : Array Slot) (hl : lv_has ls 3 [(0, .ref (ad k)), (1, .ref (ad k1)), (2, .int v2)]) : SW p l e rm_X1_weigh s m args below meth c D vwCl shC cA ad (Fq D vwCl shC cA ad below args s (fun _ => none : vS → Option Value) (fun S1 => S1) (fun _ => True)) (bX1_weigh_100 k k1 S v2) S 100 ls [] := by
  rw [bX1_weigh_100]
  refine sx_aload_n C0 dX1_weigh_100 rfl (lv_at hl 0 rfl) ?_
  refine sx_aload_n C0 dX1_weigh_101 rfl (lv_at hl 1 rfl) ?_
  refine gf_X1_107 C0 h1.1 dX1_weigh_102 ?_
  refine pf_X1_45 C0 hk.1 dX1_weigh_105 (fun S105 => ?_)
  refine sx_aload_n C0 dX1_weigh_108 rfl (lv_at hl 0 rfl) ?_
  refine sx_aload_n C0 dX1_weigh_109 rfl (lv_at hl 1 rfl) ?_
  refine gf_X1_113 C0 h1.1 dX1_weigh_110 ?_
  refine pf_X1_48 C0 hk.1 dX1_weigh_113 (fun S113 => ?_)
  exact bX1_weigh_116_t C0 k hk k1 h1 _ _ _ (lv_sub hl [0, 1, 2] rfl)
def bX1_weigh_63 (k : Nat) (k1 : Nat)   (S : vS) (v2 : Int32)  : Option vS := (if v2 = 0 then (if (S.1 k1 4) < (S.1 k 9) then (bX1_weigh_100 k k1 S v2) else (if (S.1 k1 4) = (S.1 k 9) then (if (S.1 k1 3) ≤ (S.1 k 10) then (bX1_weigh_116 k k1 S v2) else (bX1_weigh_100 k k1 S v2)) else (bX1_weigh_116 k k1 S v2))) else (bX1_weigh_100 k k1 S v2))
set_option maxHeartbeats 4000000 in
set_option maxRecDepth 100000 in
theorem bX1_weigh_63_t {p : Program} {l : Launch} {e : Env} {s : State} {m : MethodId} {args : Array Value} {below : List Frame} {meth : Method} {c : Code} {D : va_G} {cA : Nat → ClassId} {ad : Nat → Nat} {kl : Nat}   (C0 : Cx D vwCl tlC shC cA ad (ExC ad kl) RX1 cX1_weigh 3 none p s m args meth c) (k : Nat) (hk : IsX1 k) (k1 : Nat) (h1 : IsX3 k1) (S : vS) (v2 : Int32) (ls : Array Slot) (hl : lv_has ls 3 [(0, .ref (ad k)), (1, .ref (ad k1)), (2, .int v2)]) : SW p l e rm_X1_weigh s m args below meth c D vwCl shC cA ad (Fq D vwCl shC cA ad below args s (fun _ => none : vS → Option Value) (fun S1 => S1) (fun _ => True)) (bX1_weigh_63 k k1 S v2) S 63 ls [] := by
  rw [bX1_weigh_63]
  refine sx_iload_n C0 dX1_weigh_63 rfl (lv_at hl 2 rfl) ?_
  refine sx_if_ne (tgt := 100) C0 dX1_weigh_64 (by decide) (fun _ => ?_) (fun _ => ?_)
  · refine sx_aload_n C0 dX1_weigh_67 rfl (lv_at hl 1 rfl) ?_
    refine gf_X1_107 C0 h1.1 dX1_weigh_68 ?_
    refine sx_aload_n C0 dX1_weigh_71 rfl (lv_at hl 0 rfl) ?_
    refine gf_X1_45 C0 hk.1 dX1_weigh_72 ?_
    refine sx_icmp_lt (tgt := 100) C0 dX1_weigh_75 (by decide) (fun _ => ?_) (fun _ => ?_)
    · exact bX1_weigh_100_t C0 k hk k1 h1 _ _ _ (lv_sub hl [0, 1, 2] rfl)
    · refine sx_aload_n C0 dX1_weigh_78 rfl (lv_at hl 1 rfl) ?_
      refine gf_X1_107 C0 h1.1 dX1_weigh_79 ?_
      refine sx_aload_n C0 dX1_weigh_82 rfl (lv_at hl 0 rfl) ?_
      refine gf_X1_45 C0 hk.1 dX1_weigh_83 ?_
      refine sx_icmp_ne (tgt := 116) C0 dX1_weigh_86 (by decide) (fun _ => ?_) (fun _ => ?_)
      · refine sx_aload_n C0 dX1_weigh_89 rfl (lv_at hl 1 rfl) ?_
        refine gf_X1_113 C0 h1.1 dX1_weigh_90 ?_
        refine sx_aload_n C0 dX1_weigh_93 rfl (lv_at hl 0 rfl) ?_
        refine gf_X1_48 C0 hk.1 dX1_weigh_94 ?_
        refine sx_icmp_le (tgt := 116) C0 dX1_weigh_97 (by decide) (fun _ => ?_) (fun _ => ?_)
        · exact bX1_weigh_116_t C0 k hk k1 h1 _ _ _ (lv_sub hl [0, 1, 2] rfl)
        · exact bX1_weigh_100_t C0 k hk k1 h1 _ _ _ (lv_sub hl [0, 1, 2] rfl)
      · exact bX1_weigh_116_t C0 k hk k1 h1 _ _ _ (lv_sub hl [0, 1, 2] rfl)
  · exact bX1_weigh_100_t C0 k hk k1 h1 _ _ _ (lv_sub hl [0, 1, 2] rfl)
def bX1_weigh_55 (k : Nat) (k1 : Nat)   (S : vS) (v2 : Int32)  : Option vS := (lt (wI S k 11 (S.1 k1 5)) fun S60 => (bX1_weigh_63 k k1 S60 v2))
set_option maxHeartbeats 4000000 in
set_option maxRecDepth 100000 in
theorem bX1_weigh_55_t {p : Program} {l : Launch} {e : Env} {s : State} {m : MethodId} {args : Array Value} {below : List Frame} {meth : Method} {c : Code} {D : va_G} {cA : Nat → ClassId} {ad : Nat → Nat} {kl : Nat}   (C0 : Cx D vwCl tlC shC cA ad (ExC ad kl) RX1 cX1_weigh 3 none p s m args meth c) (k : Nat) (hk : IsX1 k) (k1 : Nat) (h1 : IsX3 k1) (S : vS) (v2 : Int32) (ls : Array Slot) (hl : lv_has ls 3 [(0, .ref (ad k)), (1, .ref (ad k1)), (2, .int v2)]) : SW p l e rm_X1_weigh s m args below meth c D vwCl shC cA ad (Fq D vwCl shC cA ad below args s (fun _ => none : vS → Option Value) (fun S1 => S1) (fun _ => True)) (bX1_weigh_55 k k1 S v2) S 55 ls [] := by
  rw [bX1_weigh_55]
  refine sx_aload_n C0 dX1_weigh_55 rfl (lv_at hl 0 rfl) ?_
  refine sx_aload_n C0 dX1_weigh_56 rfl (lv_at hl 1 rfl) ?_
  refine gf_X1_110 C0 h1.1 dX1_weigh_57 ?_
  refine pf_X1_51 C0 hk.1 dX1_weigh_60 (fun S60 => ?_)
  exact bX1_weigh_63_t C0 k hk k1 h1 _ _ _ (lv_sub hl [0, 1, 2] rfl)
def bX1_weigh_40 (k : Nat) (k1 : Nat)   (S : vS) (v2 : Int32)  : Option vS := (if v2 = 0 then (if (S.1 k 11) ≤ (S.1 k1 5) then (bX1_weigh_63 k k1 S v2) else (bX1_weigh_55 k k1 S v2)) else (bX1_weigh_55 k k1 S v2))
set_option maxHeartbeats 4000000 in
set_option maxRecDepth 100000 in
theorem bX1_weigh_40_t {p : Program} {l : Launch} {e : Env} {s : State} {m : MethodId} {args : Array Value} {below : List Frame} {meth : Method} {c : Code} {D : va_G} {cA : Nat → ClassId} {ad : Nat → Nat} {kl : Nat}   (C0 : Cx D vwCl tlC shC cA ad (ExC ad kl) RX1 cX1_weigh 3 none p s m args meth c) (k : Nat) (hk : IsX1 k) (k1 : Nat) (h1 : IsX3 k1) (S : vS) (v2 : Int32) (ls : Array Slot) (hl : lv_has ls 3 [(0, .ref (ad k)), (1, .ref (ad k1)), (2, .int v2)]) : SW p l e rm_X1_weigh s m args below meth c D vwCl shC cA ad (Fq D vwCl shC cA ad below args s (fun _ => none : vS → Option Value) (fun S1 => S1) (fun _ => True)) (bX1_weigh_40 k k1 S v2) S 40 ls [] := by
  rw [bX1_weigh_40]
  refine sx_iload_n C0 dX1_weigh_40 rfl (lv_at hl 2 rfl) ?_
  refine sx_if_ne (tgt := 55) C0 dX1_weigh_41 (by decide) (fun _ => ?_) (fun _ => ?_)
  · refine sx_aload_n C0 dX1_weigh_44 rfl (lv_at hl 1 rfl) ?_
    refine gf_X1_110 C0 h1.1 dX1_weigh_45 ?_
    refine sx_aload_n C0 dX1_weigh_48 rfl (lv_at hl 0 rfl) ?_
    refine gf_X1_51 C0 hk.1 dX1_weigh_49 ?_
    refine sx_icmp_ge (tgt := 63) C0 dX1_weigh_52 (by decide) (fun _ => ?_) (fun _ => ?_)
    · exact bX1_weigh_63_t C0 k hk k1 h1 _ _ _ (lv_sub hl [0, 1, 2] rfl)
    · exact bX1_weigh_55_t C0 k hk k1 h1 _ _ _ (lv_sub hl [0, 1, 2] rfl)
  · exact bX1_weigh_55_t C0 k hk k1 h1 _ _ _ (lv_sub hl [0, 1, 2] rfl)
def bX1_weigh_12 (k : Nat) (k1 : Nat)   (S : vS)  (t0 : Int32) : Option vS := (lt (wI S k 6 ((S.1 k 6) + (1 : Int32))) fun S20 => (if (S20.1 k1 4) = 0 then (lt (wI S20 k 7 ((S20.1 k 7) + (1 : Int32))) fun S37 => (bX1_weigh_40 k k1 S37 t0)) else (bX1_weigh_40 k k1 S20 t0)))
set_option maxHeartbeats 4000000 in
set_option maxRecDepth 100000 in
theorem bX1_weigh_12_t {p : Program} {l : Launch} {e : Env} {s : State} {m : MethodId} {args : Array Value} {below : List Frame} {meth : Method} {c : Code} {D : va_G} {cA : Nat → ClassId} {ad : Nat → Nat} {kl : Nat}   (C0 : Cx D vwCl tlC shC cA ad (ExC ad kl) RX1 cX1_weigh 3 none p s m args meth c) (k : Nat) (hk : IsX1 k) (k1 : Nat) (h1 : IsX3 k1) (S : vS)  (t0 : Int32) (ls : Array Slot) (hl : lv_has ls 3 [(0, .ref (ad k)), (1, .ref (ad k1))]) : SW p l e rm_X1_weigh s m args below meth c D vwCl shC cA ad (Fq D vwCl shC cA ad below args s (fun _ => none : vS → Option Value) (fun S1 => S1) (fun _ => True)) (bX1_weigh_12 k k1 S t0) S 12 ls [.int t0] := by
  rw [bX1_weigh_12]
  refine sx_istore_n (lv' := [(2, .int t0), (0, .ref (ad k)), (1, .ref (ad k1))]) C0 dX1_weigh_12 rfl hl (by decide) rfl (fun ls hl => ?_)
  refine sx_aload_n C0 dX1_weigh_13 rfl (lv_at hl 1 rfl) ?_
  refine sx_dup C0 dX1_weigh_14 rfl ?_
  refine gf_X1_36 C0 hk.1 dX1_weigh_15 ?_
  refine sx_iconst (v := 1) C0 dX1_weigh_18 (by decide) ?_
  refine sx_iadd C0 dX1_weigh_19 ?_
  refine pf_X1_36 C0 hk.1 dX1_weigh_20 (fun S20 => ?_)
  refine sx_aload_n C0 dX1_weigh_23 rfl (lv_at hl 2 rfl) ?_
  refine gf_X1_107 C0 h1.1 dX1_weigh_24 ?_
  refine sx_if_ne (tgt := 40) C0 dX1_weigh_27 (by decide) (fun _ => ?_) (fun _ => ?_)
  · refine sx_aload_n C0 dX1_weigh_30 rfl (lv_at hl 1 rfl) ?_
    refine sx_dup C0 dX1_weigh_31 rfl ?_
    refine gf_X1_39 C0 hk.1 dX1_weigh_32 ?_
    refine sx_iconst (v := 1) C0 dX1_weigh_35 (by decide) ?_
    refine sx_iadd C0 dX1_weigh_36 ?_
    refine pf_X1_39 C0 hk.1 dX1_weigh_37 (fun S37 => ?_)
    exact bX1_weigh_40_t C0 k hk k1 h1 _ _ _ (lv_sub hl [1, 2, 0] rfl)
  · exact bX1_weigh_40_t C0 k hk k1 h1 _ _ _ (lv_sub hl [1, 2, 0] rfl)
def mX1_weigh (S : vS) (k : Nat) (k1 : Nat) : Option vS := (if (S.1 k 6) = 0 then (bX1_weigh_12 k k1 S (1 : Int32)) else (bX1_weigh_12 k k1 S (0 : Int32)))
set_option maxHeartbeats 4000000 in
set_option maxRecDepth 100000 in
theorem c_X1_weigh {l : Launch} {D : va_G} {cA : Nat → ClassId} {ad : Nat → Nat} {kl : Nat} (G : Gx shC ad (ExC ad kl)) (k : Nat) (hk : IsX1 k) (k1 : Nat) (h1 : IsX3 k1) (S : vS) (r : vS) (hr : (mX1_weigh S k k1) = some r) : Met l yX1_weigh (Cond.code yX1_weigh cX1_weigh 3 none :: ALL) rm_X1_weigh (Po D vwCl tlC shC cA ad (ExC ad kl) [.ref (ad k), .ref (ad k1)] S) (Qo D vwCl shC cA ad none r True) 0 0 (aw shC ad) := by
  refine Met.sx (M := (mX1_weigh S k k1)) (rv := (fun _ => none : vS → Option Value)) (rs := fun S1 => S1) (B := fun _ => True) (by decide) ⟨rfl, rfl⟩ (Nat.le_of_ble_eq_true rfl) G (fun p e s m args below meth c C0 ls hl => ?_) hr
  have hl : lv_has ls 3 [(0, .ref (ad k)), (1, .ref (ad k1))] := hl
  rw [mX1_weigh]
  refine sx_aload_n C0 dX1_weigh_0 rfl (lv_at hl 0 rfl) ?_
  refine gf_X1_36 C0 hk.1 dX1_weigh_1 ?_
  refine sx_if_ne (tgt := 11) C0 dX1_weigh_4 (by decide) (fun _ => ?_) (fun _ => ?_)
  · refine sx_iconst (v := 1) C0 dX1_weigh_7 (by decide) ?_
    refine sx_goto (tgt := 12) C0 dX1_weigh_8 (by decide) ?_
    exact bX1_weigh_12_t C0 k hk k1 h1 _ _ _ (lv_sub hl [0, 1] rfl)
  · refine sx_iconst (v := 0) C0 dX1_weigh_11 (by decide) ?_
    exact bX1_weigh_12_t C0 k hk k1 h1 _ _ _ (lv_sub hl [0, 1] rfl)
abbrev rm_X1_goOn : Room := { frames := 3, cells := 0, slots := 0, locals := 76 }
def mX1_goOn (S : vS) (k : Nat) (k1 : Nat) (v2 : Int32) (v3 : Int32) : Option (Int32 × vS) := (if v2 < 0 then (some ((0 : Int32), S)) else (if v2 < (4 : Int32) then ((aI (scl k) v2).bind fun x20 => ((mX3_costOf S x20 k1 v3).bind fun a23 => (if a23 = (-9 : Int32) then (some ((0 : Int32), S)) else ((aI (scl k) (v2 + (1 : Int32))).bind fun x44 => ((aI (scl k) v2).bind fun x50 => ((mX3_take S x44 x50).bind fun S51 => ((aI (scl k) (v2 + (1 : Int32))).bind fun x61 => ((mX3_spendDay S51 x61 k1 v3 a23).bind fun S66 => ((pI S66 (k + 22) 4 v2 v3).bind fun S75 => (some ((1 : Int32), S75))))))))))) else (some ((0 : Int32), S))))
set_option maxHeartbeats 4000000 in
set_option maxRecDepth 100000 in
theorem c_X1_goOn {l : Launch} {D : va_G} {cA : Nat → ClassId} {ad : Nat → Nat} {kl : Nat} (G : Gx shC ad (ExC ad kl)) (k : Nat) (hk : IsX1 k) (k1 : Nat) (h1 : IsX0 k1) (v2 : Int32) (v3 : Int32) (S : vS) (r : (Int32 × vS)) (hr : (mX1_goOn S k k1 v2 v3) = some r) : Met l yX1_goOn (Cond.code yX1_goOn cX1_goOn 5 (some .boolean) :: ALL) rm_X1_goOn (Po D vwCl tlC shC cA ad (ExC ad kl) [.ref (ad k), .ref (ad k1), .int v2, .int v3] S) (Qo D vwCl shC cA ad (some (.int r.1)) r.2 (isB r.1)) 0 0 (aw shC ad) := by
  refine Met.sx (M := (mX1_goOn S k k1 v2 v3)) (rv := (fun q => some (.int q.1) : (Int32 × vS) → Option Value)) (rs := fun q => q.2) (B := fun q => isB q.1) (by decide) ⟨rfl, rfl⟩ (Nat.le_of_ble_eq_true rfl) G (fun p e s m args below meth c C0 ls hl => ?_) hr
  have hl : lv_has ls 5 [(0, .ref (ad k)), (1, .ref (ad k1)), (2, .int v2), (3, .int v3)] := hl
  rw [mX1_goOn]
  refine sx_iload_n C0 dX1_goOn_0 rfl (lv_at hl 2 rfl) ?_
  refine sx_if_lt (tgt := 13) C0 dX1_goOn_1 (by decide) (fun _ => ?_) (fun _ => ?_)
  · refine sx_iconst (v := 0) C0 dX1_goOn_13 (by decide) ?_
    exact sx_zret C0 rfl rfl (Or.inl rfl) (Or.inl rfl) dX1_goOn_14
  · refine sx_iload_n C0 dX1_goOn_4 rfl (lv_at hl 2 rfl) ?_
    refine sx_aload_n C0 dX1_goOn_5 rfl (lv_at hl 0 rfl) ?_
    refine gf_X1_18 C0 hk.1 dX1_goOn_6 ?_
    refine sx_alen (v := (4 : Int32)) C0 hk.2.2.1 rfl rfl dX1_goOn_9 ?_
    refine sx_icmp_lt (tgt := 15) C0 dX1_goOn_10 (by decide) (fun _ => ?_) (fun _ => ?_)
    · refine sx_aload_n C0 dX1_goOn_15 rfl (lv_at hl 0 rfl) ?_
      refine gf_X1_12 C0 hk.1 dX1_goOn_16 ?_
      refine sx_iload_n C0 dX1_goOn_19 rfl (lv_at hl 2 rfl) ?_
      refine sx_aald C0 hk.2.1 rfl rfl dX1_goOn_20 (fun x20 hx20 => ?_)
      refine sx_aload_n C0 dX1_goOn_21 rfl (lv_at hl 1 rfl) ?_
      refine sx_iload_n C0 dX1_goOn_22 rfl (lv_at hl 3 rfl) ?_
      refine sw_bind (fun a23 e23 => ?_)
      refine cv_X1_96 (As := [.ref (ad k1), .int v3]) C0 (c_X3_costOf C0.2.2.2.2.2.2.2.1 x20 (hk.2.2.2.2 x20 hx20) k1 h1 v3 S _ e23) (hk.2.2.2.2 x20 hx20).1 ⟨rfl, rfl⟩ ⟨Nat.le_of_ble_eq_true rfl, Nat.le_of_ble_eq_true rfl⟩ rfl hl.1 (Nat.le_of_ble_eq_true rfl) rfl dX1_goOn_23 (fun _ => ?_)
      refine sx_istore (lv' := [(4, .int a23), (0, .ref (ad k)), (1, .ref (ad k1)), (2, .int v2), (3, .int v3)]) C0 dX1_goOn_26 hl (by decide) rfl (fun ls hl => ?_)
      refine sx_iload C0 dX1_goOn_28 (lv_at hl 0 rfl) ?_
      refine sx_bipush (v := (-9)) C0 dX1_goOn_30 (by decide) ?_
      refine sx_icmp_ne (tgt := 37) C0 dX1_goOn_32 (by decide) (fun _ => ?_) (fun _ => ?_)
      · refine sx_iconst (v := 0) C0 dX1_goOn_35 (by decide) ?_
        exact sx_zret C0 rfl rfl (Or.inl rfl) (Or.inl rfl) dX1_goOn_36
      · refine sx_aload_n C0 dX1_goOn_37 rfl (lv_at hl 1 rfl) ?_
        refine gf_X1_12 C0 hk.1 dX1_goOn_38 ?_
        refine sx_iload_n C0 dX1_goOn_41 rfl (lv_at hl 3 rfl) ?_
        refine sx_iconst (v := 1) C0 dX1_goOn_42 (by decide) ?_
        refine sx_iadd C0 dX1_goOn_43 ?_
        refine sx_aald C0 hk.2.1 rfl rfl dX1_goOn_44 (fun x44 hx44 => ?_)
        refine sx_aload_n C0 dX1_goOn_45 rfl (lv_at hl 1 rfl) ?_
        refine gf_X1_12 C0 hk.1 dX1_goOn_46 ?_
        refine sx_iload_n C0 dX1_goOn_49 rfl (lv_at hl 3 rfl) ?_
        refine sx_aald C0 hk.2.1 rfl rfl dX1_goOn_50 (fun x50 hx50 => ?_)
        refine sw_bind (fun S51 e51 => ?_)
        refine cv_X1_69 (As := [.ref (ad x50)]) C0 (c_X3_take C0.2.2.2.2.2.2.2.1 x44 (hk.2.2.2.2 x44 hx44) x50 (hk.2.2.2.2 x50 hx50) S _ e51) (hk.2.2.2.2 x44 hx44).1 ⟨rfl, rfl⟩ ⟨Nat.le_of_ble_eq_true rfl, Nat.le_of_ble_eq_true rfl⟩ rfl hl.1 (Nat.le_of_ble_eq_true rfl) rfl dX1_goOn_51 (fun _ => ?_)
        refine sx_aload_n C0 dX1_goOn_54 rfl (lv_at hl 1 rfl) ?_
        refine gf_X1_12 C0 hk.1 dX1_goOn_55 ?_
        refine sx_iload_n C0 dX1_goOn_58 rfl (lv_at hl 3 rfl) ?_
        refine sx_iconst (v := 1) C0 dX1_goOn_59 (by decide) ?_
        refine sx_iadd C0 dX1_goOn_60 ?_
        refine sx_aald C0 hk.2.1 rfl rfl dX1_goOn_61 (fun x61 hx61 => ?_)
        refine sx_aload_n C0 dX1_goOn_62 rfl (lv_at hl 2 rfl) ?_
        refine sx_iload_n C0 dX1_goOn_63 rfl (lv_at hl 4 rfl) ?_
        refine sx_iload C0 dX1_goOn_64 (lv_at hl 0 rfl) ?_
        refine sw_bind (fun S66 e66 => ?_)
        refine cv_X1_100 (As := [.ref (ad k1), .int v3, .int a23]) C0 (c_X3_spendDay C0.2.2.2.2.2.2.2.1 x61 (hk.2.2.2.2 x61 hx61) k1 h1 v3 a23 S51 _ e66) (hk.2.2.2.2 x61 hx61).1 ⟨rfl, rfl⟩ ⟨Nat.le_of_ble_eq_true rfl, Nat.le_of_ble_eq_true rfl⟩ rfl hl.1 (Nat.le_of_ble_eq_true rfl) rfl dX1_goOn_66 (fun _ => ?_)
        refine sx_aload_n C0 dX1_goOn_69 rfl (lv_at hl 1 rfl) ?_
        refine gf_X1_18 C0 hk.1 dX1_goOn_70 ?_
        refine sx_iload_n C0 dX1_goOn_73 rfl (lv_at hl 3 rfl) ?_
        refine sx_iload_n C0 dX1_goOn_74 rfl (lv_at hl 4 rfl) ?_
        refine sx_iast C0 hk.2.2.1 rfl dX1_goOn_75 (fun S75 => ?_)
        refine sx_iconst (v := 1) C0 dX1_goOn_76 (by decide) ?_
        exact sx_zret C0 rfl rfl (Or.inr rfl) (Or.inr rfl) dX1_goOn_77
    · refine sx_iconst (v := 0) C0 dX1_goOn_13 (by decide) ?_
      exact sx_zret C0 rfl rfl (Or.inl rfl) (Or.inl rfl) dX1_goOn_14
abbrev rm_X1_isWanted : Room := { frames := 0, cells := 0, slots := 0, locals := 0 }
def bX1_isWanted_55 (k : Nat)   (S : vS)   : Option Int32 := (some (0 : Int32))
set_option maxHeartbeats 4000000 in
set_option maxRecDepth 100000 in
theorem bX1_isWanted_55_t {p : Program} {l : Launch} {e : Env} {s : State} {m : MethodId} {args : Array Value} {below : List Frame} {meth : Method} {c : Code} {D : va_G} {cA : Nat → ClassId} {ad : Nat → Nat} {kl : Nat}   (C0 : Cx D vwCl tlC shC cA ad (ExC ad kl) RX1 cX1_isWanted 2 (some .boolean) p s m args meth c) (k : Nat) (hk : IsX1 k) (S : vS)  (ls : Array Slot) (hl : lv_has ls 2 []) : SW p l e rm_X1_isWanted s m args below meth c D vwCl shC cA ad (Fq D vwCl shC cA ad below args s (fun r => some (.int r) : Int32 → Option Value) (fun _ => S) (fun r => isB r)) (bX1_isWanted_55 k S) S 55 ls [] := by
  rw [bX1_isWanted_55]
  refine sx_iconst (v := 0) C0 dX1_isWanted_55 (by decide) ?_
  exact sx_zret C0 rfl rfl (Or.inl rfl) (Or.inl rfl) dX1_isWanted_56
def mX1_isWanted (S : vS) (k : Nat) (v1 : Int32) : Option Int32 := (if v1 < 0 then (some (0 : Int32)) else (if v1 < (5 : Int32) then ((aI (scl k) v1).bind fun x20 => (if ((S.1 x20 8) &&& (S.1 k 3)) = 0 then (if (S.1 k 4) = 0 then (some (1 : Int32)) else ((aI (scl k) v1).bind fun x44 => (if (S.1 x44 4) = 0 then (some (1 : Int32)) else (bX1_isWanted_55 k S)))) else (bX1_isWanted_55 k S))) else (some (0 : Int32))))
set_option maxHeartbeats 4000000 in
set_option maxRecDepth 100000 in
theorem c_X1_isWanted {l : Launch} {D : va_G} {cA : Nat → ClassId} {ad : Nat → Nat} {kl : Nat} (G : Gx shC ad (ExC ad kl)) (k : Nat) (hk : IsX1 k) (v1 : Int32) (S : vS) (r : Int32) (hr : (mX1_isWanted S k v1) = some r) : Met l yX1_isWanted (Cond.code yX1_isWanted cX1_isWanted 2 (some .boolean) :: ALL) rm_X1_isWanted (Po D vwCl tlC shC cA ad (ExC ad kl) [.ref (ad k), .int v1] S) (Qo D vwCl shC cA ad (some (.int r)) S (isB r)) 0 0 (aw shC ad) := by
  refine Met.sx (M := (mX1_isWanted S k v1)) (rv := (fun r => some (.int r) : Int32 → Option Value)) (rs := fun _ => S) (B := fun r => isB r) (by decide) ⟨rfl, rfl⟩ (Nat.le_of_ble_eq_true rfl) G (fun p e s m args below meth c C0 ls hl => ?_) hr
  have hl : lv_has ls 2 [(0, .ref (ad k)), (1, .int v1)] := hl
  rw [mX1_isWanted]
  refine sx_iload_n C0 dX1_isWanted_0 rfl (lv_at hl 1 rfl) ?_
  refine sx_if_lt (tgt := 13) C0 dX1_isWanted_1 (by decide) (fun _ => ?_) (fun _ => ?_)
  · refine sx_iconst (v := 0) C0 dX1_isWanted_13 (by decide) ?_
    exact sx_zret C0 rfl rfl (Or.inl rfl) (Or.inl rfl) dX1_isWanted_14
  · refine sx_iload_n C0 dX1_isWanted_4 rfl (lv_at hl 1 rfl) ?_
    refine sx_aload_n C0 dX1_isWanted_5 rfl (lv_at hl 0 rfl) ?_
    refine gf_X1_12 C0 hk.1 dX1_isWanted_6 ?_
    refine sx_alenR (v := (5 : Int32)) C0 hk.2.1 rfl rfl dX1_isWanted_9 ?_
    refine sx_icmp_lt (tgt := 15) C0 dX1_isWanted_10 (by decide) (fun _ => ?_) (fun _ => ?_)
    · refine sx_aload_n C0 dX1_isWanted_15 rfl (lv_at hl 0 rfl) ?_
      refine gf_X1_12 C0 hk.1 dX1_isWanted_16 ?_
      refine sx_iload_n C0 dX1_isWanted_19 rfl (lv_at hl 1 rfl) ?_
      refine sx_aald C0 hk.2.1 rfl rfl dX1_isWanted_20 (fun x20 hx20 => ?_)
      refine gf_X1_104 C0 (hk.2.2.2.2 x20 hx20).1 dX1_isWanted_21 ?_
      refine sx_aload_n C0 dX1_isWanted_24 rfl (lv_at hl 0 rfl) ?_
      refine gf_X1_26 C0 hk.1 dX1_isWanted_25 ?_
      refine sx_iand C0 dX1_isWanted_28 ?_
      refine sx_if_ne (tgt := 55) C0 dX1_isWanted_29 (by decide) (fun _ => ?_) (fun _ => ?_)
      · refine sx_aload_n C0 dX1_isWanted_32 rfl (lv_at hl 0 rfl) ?_
        refine gf_X1_29 C0 hk.1 dX1_isWanted_33 ?_
        refine sx_if_eq (tgt := 51) C0 dX1_isWanted_36 (by decide) (fun _ => ?_) (fun _ => ?_)
        · refine sx_iconst (v := 1) C0 dX1_isWanted_51 (by decide) ?_
          refine sx_goto (tgt := 56) C0 dX1_isWanted_52 (by decide) ?_
          exact sx_zret C0 rfl rfl (Or.inr rfl) (Or.inr rfl) dX1_isWanted_56
        · refine sx_aload_n C0 dX1_isWanted_39 rfl (lv_at hl 0 rfl) ?_
          refine gf_X1_12 C0 hk.1 dX1_isWanted_40 ?_
          refine sx_iload_n C0 dX1_isWanted_43 rfl (lv_at hl 1 rfl) ?_
          refine sx_aald C0 hk.2.1 rfl rfl dX1_isWanted_44 (fun x44 hx44 => ?_)
          refine gf_X1_107 C0 (hk.2.2.2.2 x44 hx44).1 dX1_isWanted_45 ?_
          refine sx_if_ne (tgt := 55) C0 dX1_isWanted_48 (by decide) (fun _ => ?_) (fun _ => ?_)
          · refine sx_iconst (v := 1) C0 dX1_isWanted_51 (by decide) ?_
            refine sx_goto (tgt := 56) C0 dX1_isWanted_52 (by decide) ?_
            exact sx_zret C0 rfl rfl (Or.inr rfl) (Or.inr rfl) dX1_isWanted_56
          · exact bX1_isWanted_55_t C0 k hk _ _ (lv_sub hl [] rfl)
      · exact bX1_isWanted_55_t C0 k hk _ _ (lv_sub hl [] rfl)
    · refine sx_iconst (v := 0) C0 dX1_isWanted_13 (by decide) ?_
      exact sx_zret C0 rfl rfl (Or.inl rfl) (Or.inl rfl) dX1_isWanted_14
abbrev rm_X1_walk (d : Nat) : Room := { frames := 4 + d, cells := 0, slots := 0, locals := 100 + d * 23 }
def bX1_walk_45 (rec : vS → Nat → Nat → Int32 → Option vS) (k1 : Nat) (k2 : Nat)  (K24 : vS → Int32 → Option vS) (S : vS) (v2 : Int32) (v3 : Int32)  : Option vS := ((mX1_goOn S k1 k2 v2 v3).bind fun q49 => (if q49.1 = 0 then (K24 q49.2 (v3 + (1 : Int32))) else ((mX1_isWanted q49.2 k1 (v2 + (1 : Int32))).bind fun a59 => (if a59 = 0 then (K24 q49.2 (v3 + (1 : Int32))) else ((rec q49.2 k1 k2 (v2 + (1 : Int32))).bind fun S70 => (K24 S70 (v3 + (1 : Int32))))))))
set_option maxHeartbeats 4000000 in
set_option maxRecDepth 100000 in
theorem bX1_walk_45_t {p : Program} {l : Launch} {e : Env} {s : State} {m : MethodId} {args : Array Value} {below : List Frame} {meth : Method} {c : Code} {D : va_G} {cA : Nat → ClassId} {ad : Nat → Nat} {kl : Nat} {K24 : vS → Int32 → Option vS}  (C0 : Cx D vwCl tlC shC cA ad (ExC ad kl) RX1 cX1_walk 4 none p s m args meth c) {d : Nat} {rec : vS → Nat → Nat → Int32 → Option vS} (hrec : ∀ (k1 : Nat) (h1 : IsX1 k1) (k2 : Nat) (h2 : IsX0 k2) (v2 : Int32) (S : vS) (r : vS), rec S k1 k2 v2 = some r → Met l yX1_walk (Cond.code yX1_walk cX1_walk 4 none :: ALL) (rm_X1_walk d) (Po D vwCl tlC shC cA ad (ExC ad kl) [.ref (ad k1), .ref (ad k2), .int v2] S) (Qo D vwCl shC cA ad none r True) 0 0 (aw shC ad)) (k1 : Nat) (h1 : IsX1 k1) (k2 : Nat) (h2 : IsX0 k2) (S : vS) (v2 : Int32) (v3 : Int32) (hK24 : ∀ (S : vS) (v3 : Int32) (ls : Array Slot), lv_has ls 4 [(0, .ref (ad k1)), (1, .ref (ad k2)), (2, .int v2), (3, .int v3)] → SW p l e (rm_X1_walk (d + 1)) s m args below meth c D vwCl shC cA ad (Fq D vwCl shC cA ad below args s (fun _ => none : vS → Option Value) (fun S1 => S1) (fun _ => True)) (K24 S v3) S 24 ls []) (ls : Array Slot) (hl : lv_has ls 4 [(0, .ref (ad k1)), (1, .ref (ad k2)), (2, .int v2), (3, .int v3)]) : SW p l e (rm_X1_walk (d + 1)) s m args below meth c D vwCl shC cA ad (Fq D vwCl shC cA ad below args s (fun _ => none : vS → Option Value) (fun S1 => S1) (fun _ => True)) (bX1_walk_45 rec k1 k2 K24 S v2 v3) S 45 ls [] := by
  rw [bX1_walk_45]
  refine sx_aload_n C0 dX1_walk_45 rfl (lv_at hl 0 rfl) ?_
  refine sx_aload_n C0 dX1_walk_46 rfl (lv_at hl 1 rfl) ?_
  refine sx_iload_n C0 dX1_walk_47 rfl (lv_at hl 2 rfl) ?_
  refine sx_iload_n C0 dX1_walk_48 rfl (lv_at hl 3 rfl) ?_
  refine sw_bind (fun q49 e49 => ?_)
  refine cv_X1_88 (As := [.ref (ad k2), .int v2, .int v3]) C0 (c_X1_goOn C0.2.2.2.2.2.2.2.1 k1 h1 k2 h2 v2 v3 S _ e49) h1.1 ⟨rfl, rfl⟩ ⟨by show _ ≤ _; first | exact Nat.le_of_ble_eq_true rfl | (dsimp only [rm_X1_walk]; omega), by show _ ≤ _; first | exact Nat.le_of_ble_eq_true rfl | (dsimp only [rm_X1_walk]; omega)⟩ rfl hl.1 (Nat.le_of_ble_eq_true rfl) rfl dX1_walk_49 (fun hb49 => ?_)
  refine sx_if_eq (tgt := 73) C0 dX1_walk_52 (by decide) (fun _ => ?_) (fun _ => ?_)
  · refine sx_iinc (v := (v3 + (1 : Int32))) (lv' := [(3, .int (v3 + (1 : Int32))), (0, .ref (ad k1)), (1, .ref (ad k2)), (2, .int v2)]) C0 dX1_walk_73 hl (k := 3) rfl rfl (by decide) rfl (fun ls hl => ?_)
    refine sx_goto (tgt := 24) C0 dX1_walk_76 (by decide) ?_
    exact hK24 _ _ _ (lv_sub hl [1, 2, 3, 0] rfl)
  · refine sx_aload_n C0 dX1_walk_55 rfl (lv_at hl 0 rfl) ?_
    refine sx_iload_n C0 dX1_walk_56 rfl (lv_at hl 2 rfl) ?_
    refine sx_iconst (v := 1) C0 dX1_walk_57 (by decide) ?_
    refine sx_iadd C0 dX1_walk_58 ?_
    refine sw_bind (fun a59 e59 => ?_)
    refine cv_X1_92 (As := [.int (v2 + (1 : Int32))]) C0 (c_X1_isWanted C0.2.2.2.2.2.2.2.1 k1 h1 (v2 + (1 : Int32)) q49.2 _ e59) h1.1 ⟨rfl, rfl⟩ ⟨by show _ ≤ _; first | exact Nat.le_of_ble_eq_true rfl | (dsimp only [rm_X1_walk]; omega), by show _ ≤ _; first | exact Nat.le_of_ble_eq_true rfl | (dsimp only [rm_X1_walk]; omega)⟩ rfl hl.1 (Nat.le_of_ble_eq_true rfl) rfl dX1_walk_59 (fun hb59 => ?_)
    refine sx_if_eq (tgt := 73) C0 dX1_walk_62 (by decide) (fun _ => ?_) (fun _ => ?_)
    · refine sx_iinc (v := (v3 + (1 : Int32))) (lv' := [(3, .int (v3 + (1 : Int32))), (0, .ref (ad k1)), (1, .ref (ad k2)), (2, .int v2)]) C0 dX1_walk_73 hl (k := 3) rfl rfl (by decide) rfl (fun ls hl => ?_)
      refine sx_goto (tgt := 24) C0 dX1_walk_76 (by decide) ?_
      exact hK24 _ _ _ (lv_sub hl [1, 2, 3, 0] rfl)
    · refine sx_aload_n C0 dX1_walk_65 rfl (lv_at hl 0 rfl) ?_
      refine sx_aload_n C0 dX1_walk_66 rfl (lv_at hl 1 rfl) ?_
      refine sx_iload_n C0 dX1_walk_67 rfl (lv_at hl 2 rfl) ?_
      refine sx_iconst (v := 1) C0 dX1_walk_68 (by decide) ?_
      refine sx_iadd C0 dX1_walk_69 ?_
      refine sw_bind (fun S70 e70 => ?_)
      refine cv_X1_61 (As := [.ref (ad k1), .ref (ad k2), .int (v2 + (1 : Int32))]) C0 (hrec k1 h1 k2 h2 (v2 + (1 : Int32)) q49.2 _ e70) ⟨rfl, rfl⟩ ⟨by show _ ≤ _; first | exact Nat.le_of_ble_eq_true rfl | (dsimp only [rm_X1_walk]; omega), by show _ ≤ _; first | exact Nat.le_of_ble_eq_true rfl | (dsimp only [rm_X1_walk]; omega)⟩ rfl hl.1 (Nat.le_of_ble_eq_true rfl) rfl dX1_walk_70 (fun _ => ?_)
      refine sx_iinc (v := (v3 + (1 : Int32))) (lv' := [(3, .int (v3 + (1 : Int32))), (0, .ref (ad k1)), (1, .ref (ad k2)), (2, .int v2)]) C0 dX1_walk_73 hl (k := 3) rfl rfl (by decide) rfl (fun ls hl => ?_)
      refine sx_goto (tgt := 24) C0 dX1_walk_76 (by decide) ?_
      exact hK24 _ _ _ (lv_sub hl [1, 2, 3, 0] rfl)
def lX1_walk_24 (rec : vS → Nat → Nat → Int32 → Option vS) (k1 : Nat) (k2 : Nat)   (v2 : Int32) : Nat → vS → Int32 → Option vS
  | 0, _, _ => none
  | n + 1, S, v3 => (if (12 : Int32) < v3 then (some S) else (if (S.1 k1 5) = 0 then (bX1_walk_45 rec k1 k2 (lX1_walk_24 rec k1 k2 v2 n) S v2 v3) else (if (S.1 k1 6) ≤ 0 then (bX1_walk_45 rec k1 k2 (lX1_walk_24 rec k1 k2 v2 n) S v2 v3) else (some S))))
set_option maxHeartbeats 4000000 in
set_option maxRecDepth 100000 in
theorem lX1_walk_24_t {p : Program} {l : Launch} {e : Env} {s : State} {m : MethodId} {args : Array Value} {below : List Frame} {meth : Method} {c : Code} {D : va_G} {cA : Nat → ClassId} {ad : Nat → Nat} {kl : Nat}   (C0 : Cx D vwCl tlC shC cA ad (ExC ad kl) RX1 cX1_walk 4 none p s m args meth c) {d : Nat} {rec : vS → Nat → Nat → Int32 → Option vS} (hrec : ∀ (k1 : Nat) (h1 : IsX1 k1) (k2 : Nat) (h2 : IsX0 k2) (v2 : Int32) (S : vS) (r : vS), rec S k1 k2 v2 = some r → Met l yX1_walk (Cond.code yX1_walk cX1_walk 4 none :: ALL) (rm_X1_walk d) (Po D vwCl tlC shC cA ad (ExC ad kl) [.ref (ad k1), .ref (ad k2), .int v2] S) (Qo D vwCl shC cA ad none r True) 0 0 (aw shC ad)) (k1 : Nat) (h1 : IsX1 k1) (k2 : Nat) (h2 : IsX0 k2)  (v2 : Int32)  : ∀ (n : Nat) (S : vS) (v3 : Int32) (ls : Array Slot), lv_has ls 4 [(0, .ref (ad k1)), (1, .ref (ad k2)), (2, .int v2), (3, .int v3)] → SW p l e (rm_X1_walk (d + 1)) s m args below meth c D vwCl shC cA ad (Fq D vwCl shC cA ad below args s (fun _ => none : vS → Option Value) (fun S1 => S1) (fun _ => True)) (lX1_walk_24 rec k1 k2 v2 n S v3) S 24 ls [] := by
  intro n
  induction n with
  | zero =>
    intro S v3 ls hl
    rw [lX1_walk_24]
    exact sw_none
  | succ n ih =>
    intro S v3 ls hl
    rw [lX1_walk_24]
    refine sx_iload_n C0 dX1_walk_24 rfl (lv_at hl 3 rfl) ?_
    refine sx_bipush (v := 12) C0 dX1_walk_25 (by decide) ?_
    refine sx_icmp_gt (tgt := 79) C0 dX1_walk_27 (by decide) (fun _ => ?_) (fun _ => ?_)
    · exact sx_vret C0 rfl rfl trivial dX1_walk_79
    · refine sx_aload_n C0 dX1_walk_30 rfl (lv_at hl 0 rfl) ?_
      refine gf_X1_33 C0 h1.1 dX1_walk_31 ?_
      refine sx_if_eq (tgt := 45) C0 dX1_walk_34 (by decide) (fun _ => ?_) (fun _ => ?_)
      · exact bX1_walk_45_t C0 hrec k1 h1 k2 h2 _ _ _ ih _ (lv_sub hl [0, 1, 2, 3] rfl)
      · refine sx_aload_n C0 dX1_walk_37 rfl (lv_at hl 0 rfl) ?_
        refine gf_X1_36 C0 h1.1 dX1_walk_38 ?_
        refine sx_if_le (tgt := 45) C0 dX1_walk_41 (by decide) (fun _ => ?_) (fun _ => ?_)
        · exact bX1_walk_45_t C0 hrec k1 h1 k2 h2 _ _ _ ih _ (lv_sub hl [0, 1, 2, 3] rfl)
        · exact sx_vret C0 rfl rfl trivial dX1_walk_44
def mX1_walk : Nat → vS → Nat → Nat → Int32 → Option vS
  | 0, _, _, _, _ => none
  | d + 1, S, k1, k2, v2 => (if v2 < (S.1 k1 2) then (lX1_walk_24 (mX1_walk d) k1 k2 v2 FU S (0 : Int32)) else ((aI (scl k1) (S.1 k1 2)).bind fun x17 => ((mX1_weigh S k1 x17).bind fun S18 => (some S18))))
set_option maxHeartbeats 4000000 in
set_option maxRecDepth 100000 in
theorem cd_X1_walk {l : Launch} {D : va_G} {cA : Nat → ClassId} {ad : Nat → Nat} {kl : Nat} (G : Gx shC ad (ExC ad kl)) : ∀ (d : Nat) (k1 : Nat) (h1 : IsX1 k1) (k2 : Nat) (h2 : IsX0 k2) (v2 : Int32) (S : vS) (r : vS), mX1_walk d S k1 k2 v2 = some r → Met l yX1_walk (Cond.code yX1_walk cX1_walk 4 none :: ALL) (rm_X1_walk d) (Po D vwCl tlC shC cA ad (ExC ad kl) [.ref (ad k1), .ref (ad k2), .int v2] S) (Qo D vwCl shC cA ad none r True) 0 0 (aw shC ad) := by
  intro d
  induction d with
  | zero => intro k1 h1 k2 h2 v2 S r h; rw [mX1_walk] at h; exact nomatch h
  | succ d hrec =>
    intro k1 h1 k2 h2 v2 S r h
    refine Met.sx (M := mX1_walk (d + 1) S k1 k2 v2) (rv := (fun _ => none : vS → Option Value)) (rs := fun S1 => S1) (B := fun _ => True) (by decide) ⟨rfl, rfl⟩ (Nat.le_of_ble_eq_true rfl) G (fun p e s m args below meth c C0 ls hl => ?_) h
    have hl : lv_has ls 4 [(0, .ref (ad k1)), (1, .ref (ad k2)), (2, .int v2)] := hl
    rw [mX1_walk]
    refine sx_iload_n C0 dX1_walk_0 rfl (lv_at hl 2 rfl) ?_
    refine sx_aload_n C0 dX1_walk_1 rfl (lv_at hl 0 rfl) ?_
    refine gf_X1_22 C0 h1.1 dX1_walk_2 ?_
    refine sx_icmp_lt (tgt := 22) C0 dX1_walk_5 (by decide) (fun _ => ?_) (fun _ => ?_)
    · refine sx_iconst (v := 0) C0 dX1_walk_22 (by decide) ?_
      refine sx_istore_n (lv' := [(3, .int (0 : Int32)), (0, .ref (ad k1)), (1, .ref (ad k2)), (2, .int v2)]) C0 dX1_walk_23 rfl hl (by decide) rfl (fun ls hl => ?_)
      exact lX1_walk_24_t C0 hrec k1 h1 k2 h2 _ _ _ _ _ (lv_sub hl [1, 2, 3, 0] rfl)
    · refine sx_aload_n C0 dX1_walk_8 rfl (lv_at hl 0 rfl) ?_
      refine sx_aload_n C0 dX1_walk_9 rfl (lv_at hl 0 rfl) ?_
      refine gf_X1_12 C0 h1.1 dX1_walk_10 ?_
      refine sx_aload_n C0 dX1_walk_13 rfl (lv_at hl 0 rfl) ?_
      refine gf_X1_22 C0 h1.1 dX1_walk_14 ?_
      refine sx_aald C0 h1.2.1 rfl rfl dX1_walk_17 (fun x17 hx17 => ?_)
      refine sw_bind (fun S18 e18 => ?_)
      refine cv_X1_85 (As := [.ref (ad x17)]) C0 (c_X1_weigh C0.2.2.2.2.2.2.2.1 k1 h1 x17 (h1.2.2.2.2 x17 hx17) S _ e18) h1.1 ⟨rfl, rfl⟩ ⟨by show _ ≤ _; first | exact Nat.le_of_ble_eq_true rfl | (dsimp only [rm_X1_walk]; omega), by show _ ≤ _; first | exact Nat.le_of_ble_eq_true rfl | (dsimp only [rm_X1_walk]; omega)⟩ rfl hl.1 (Nat.le_of_ble_eq_true rfl) rfl dX1_walk_18 (fun _ => ?_)
      exact sx_vret C0 rfl rfl trivial dX1_walk_21
theorem c_X1_walk {l : Launch} {D : va_G} {cA : Nat → ClassId} {ad : Nat → Nat} {kl : Nat} (G : Gx shC ad (ExC ad kl)) (k1 : Nat) (h1 : IsX1 k1) (k2 : Nat) (h2 : IsX0 k2) (v2 : Int32) (S : vS) (r : vS) (h : mX1_walk 6 S k1 k2 v2 = some r) : Met l yX1_walk (Cond.code yX1_walk cX1_walk 4 none :: ALL) (rm_X1_walk 6) (Po D vwCl tlC shC cA ad (ExC ad kl) [.ref (ad k1), .ref (ad k2), .int v2] S) (Qo D vwCl shC cA ad none r True) 0 0 (aw shC ad) := cd_X1_walk G 6 k1 h1 k2 h2 v2 S r h
abbrev rm_X1_seekAll : Room := { frames := 13, cells := 0, slots := 0, locals := 307 }
def mX1_seekAll (S : vS) (k : Nat) (k1 : Nat) (k2 : Nat) (v3 : Int32) : Option vS := ((mX1_start S k k2 v3).bind fun S3 => ((mX1_walk 6 S3 k k1 (0 : Int32)).bind fun S9 => (some S9)))
set_option maxHeartbeats 4000000 in
set_option maxRecDepth 100000 in
theorem c_X1_seekAll {l : Launch} {D : va_G} {cA : Nat → ClassId} {ad : Nat → Nat} {kl : Nat} (G : Gx shC ad (ExC ad kl)) (k : Nat) (hk : IsX1 k) (k1 : Nat) (h1 : IsX0 k1) (k2 : Nat) (h2 : IsX3 k2) (v3 : Int32) (S : vS) (r : vS) (hr : (mX1_seekAll S k k1 k2 v3) = some r) : Met l yX1_seekAll (Cond.code yX1_seekAll cX1_seekAll 4 none :: ALL) rm_X1_seekAll (Po D vwCl tlC shC cA ad (ExC ad kl) [.ref (ad k), .ref (ad k1), .ref (ad k2), .int v3] S) (Qo D vwCl shC cA ad none r True) 0 0 (aw shC ad) := by
  refine Met.sx (M := (mX1_seekAll S k k1 k2 v3)) (rv := (fun _ => none : vS → Option Value)) (rs := fun S1 => S1) (B := fun _ => True) (by decide) ⟨rfl, rfl⟩ (Nat.le_of_ble_eq_true rfl) G (fun p e s m args below meth c C0 ls hl => ?_) hr
  have hl : lv_has ls 4 [(0, .ref (ad k)), (1, .ref (ad k1)), (2, .ref (ad k2)), (3, .int v3)] := hl
  rw [mX1_seekAll]
  refine sx_aload_n C0 dX1_seekAll_0 rfl (lv_at hl 0 rfl) ?_
  refine sx_aload_n C0 dX1_seekAll_1 rfl (lv_at hl 2 rfl) ?_
  refine sx_iload_n C0 dX1_seekAll_2 rfl (lv_at hl 3 rfl) ?_
  refine sw_bind (fun S3 e3 => ?_)
  refine cv_X1_57 (As := [.ref (ad k2), .int v3]) C0 (c_X1_start C0.2.2.2.2.2.2.2.1 k hk k2 h2 v3 S _ e3) hk.1 ⟨rfl, rfl⟩ ⟨Nat.le_of_ble_eq_true rfl, Nat.le_of_ble_eq_true rfl⟩ rfl hl.1 (Nat.le_of_ble_eq_true rfl) rfl dX1_seekAll_3 (fun _ => ?_)
  refine sx_aload_n C0 dX1_seekAll_6 rfl (lv_at hl 0 rfl) ?_
  refine sx_aload_n C0 dX1_seekAll_7 rfl (lv_at hl 1 rfl) ?_
  refine sx_iconst (v := 0) C0 dX1_seekAll_8 (by decide) ?_
  refine sw_bind (fun S9 e9 => ?_)
  refine cv_X1_61 (As := [.ref (ad k), .ref (ad k1), .int (0 : Int32)]) C0 (c_X1_walk C0.2.2.2.2.2.2.2.1 k hk k1 h1 (0 : Int32) S3 _ e9) ⟨rfl, rfl⟩ ⟨Nat.le_of_ble_eq_true rfl, Nat.le_of_ble_eq_true rfl⟩ rfl hl.1 (Nat.le_of_ble_eq_true rfl) rfl dX1_seekAll_9 (fun _ => ?_)
  exact sx_vret C0 rfl rfl trivial dX1_seekAll_12
abbrev rm_X1_seekHarmless : Room := { frames := 13, cells := 0, slots := 0, locals := 307 }
def mX1_seekHarmless (S : vS) (k : Nat) (k1 : Nat) (k2 : Nat) (v3 : Int32) (v4 : Int32) : Option vS := ((mX1_start S k k2 v3).bind fun S3 => (lt (wI S3 k 4 (1 : Int32)) fun S8 => (lt (wI S8 k 5 v4) fun S14 => ((mX1_walk 6 S14 k k1 (0 : Int32)).bind fun S20 => (some S20)))))
set_option maxHeartbeats 4000000 in
set_option maxRecDepth 100000 in
theorem c_X1_seekHarmless {l : Launch} {D : va_G} {cA : Nat → ClassId} {ad : Nat → Nat} {kl : Nat} (G : Gx shC ad (ExC ad kl)) (k : Nat) (hk : IsX1 k) (k1 : Nat) (h1 : IsX0 k1) (k2 : Nat) (h2 : IsX3 k2) (v3 : Int32) (v4 : Int32) (hz4 : isB v4) (S : vS) (r : vS) (hr : (mX1_seekHarmless S k k1 k2 v3 v4) = some r) : Met l yX1_seekHarmless (Cond.code yX1_seekHarmless cX1_seekHarmless 5 none :: ALL) rm_X1_seekHarmless (Po D vwCl tlC shC cA ad (ExC ad kl) [.ref (ad k), .ref (ad k1), .ref (ad k2), .int v3, .int v4] S) (Qo D vwCl shC cA ad none r True) 0 0 (aw shC ad) := by
  refine Met.sx (M := (mX1_seekHarmless S k k1 k2 v3 v4)) (rv := (fun _ => none : vS → Option Value)) (rs := fun S1 => S1) (B := fun _ => True) (by decide) ⟨rfl, rfl⟩ (Nat.le_of_ble_eq_true rfl) G (fun p e s m args below meth c C0 ls hl => ?_) hr
  have hl : lv_has ls 5 [(0, .ref (ad k)), (1, .ref (ad k1)), (2, .ref (ad k2)), (3, .int v3), (4, .int v4)] := hl
  rw [mX1_seekHarmless]
  refine sx_aload_n C0 dX1_seekHarmless_0 rfl (lv_at hl 0 rfl) ?_
  refine sx_aload_n C0 dX1_seekHarmless_1 rfl (lv_at hl 2 rfl) ?_
  refine sx_iload_n C0 dX1_seekHarmless_2 rfl (lv_at hl 3 rfl) ?_
  refine sw_bind (fun S3 e3 => ?_)
  refine cv_X1_57 (As := [.ref (ad k2), .int v3]) C0 (c_X1_start C0.2.2.2.2.2.2.2.1 k hk k2 h2 v3 S _ e3) hk.1 ⟨rfl, rfl⟩ ⟨Nat.le_of_ble_eq_true rfl, Nat.le_of_ble_eq_true rfl⟩ rfl hl.1 (Nat.le_of_ble_eq_true rfl) rfl dX1_seekHarmless_3 (fun _ => ?_)
  refine sx_aload_n C0 dX1_seekHarmless_6 rfl (lv_at hl 0 rfl) ?_
  refine sx_iconst (v := 1) C0 dX1_seekHarmless_7 (by decide) ?_
  refine pf_X1_29 C0 hk.1 (Or.inr rfl) dX1_seekHarmless_8 (fun S8 => ?_)
  refine sx_aload_n C0 dX1_seekHarmless_11 rfl (lv_at hl 0 rfl) ?_
  refine sx_iload C0 dX1_seekHarmless_12 (lv_at hl 4 rfl) ?_
  refine pf_X1_33 C0 hk.1 hz4 dX1_seekHarmless_14 (fun S14 => ?_)
  refine sx_aload_n C0 dX1_seekHarmless_17 rfl (lv_at hl 0 rfl) ?_
  refine sx_aload_n C0 dX1_seekHarmless_18 rfl (lv_at hl 1 rfl) ?_
  refine sx_iconst (v := 0) C0 dX1_seekHarmless_19 (by decide) ?_
  refine sw_bind (fun S20 e20 => ?_)
  refine cv_X1_61 (As := [.ref (ad k), .ref (ad k1), .int (0 : Int32)]) C0 (c_X1_walk C0.2.2.2.2.2.2.2.1 k hk k1 h1 (0 : Int32) S14 _ e20) ⟨rfl, rfl⟩ ⟨Nat.le_of_ble_eq_true rfl, Nat.le_of_ble_eq_true rfl⟩ rfl hl.1 (Nat.le_of_ble_eq_true rfl) rfl dX1_seekHarmless_20 (fun _ => ?_)
  exact sx_vret C0 rfl rfl trivial dX1_seekHarmless_23
abbrev rm_X1_seekUnfed : Room := { frames := 13, cells := 0, slots := 0, locals := 307 }
def mX1_seekUnfed (S : vS) (k : Nat) (k1 : Nat) (k2 : Nat) (v3 : Int32) (v4 : Int32) : Option vS := ((mX1_start S k k2 v3).bind fun S3 => (lt (wI S3 k 3 ((1 : Int32) <<< (v4 &&& (31 : Int32)))) fun S11 => ((mX1_walk 6 S11 k k1 (0 : Int32)).bind fun S17 => (some S17))))
set_option maxHeartbeats 4000000 in
set_option maxRecDepth 100000 in
theorem c_X1_seekUnfed {l : Launch} {D : va_G} {cA : Nat → ClassId} {ad : Nat → Nat} {kl : Nat} (G : Gx shC ad (ExC ad kl)) (k : Nat) (hk : IsX1 k) (k1 : Nat) (h1 : IsX0 k1) (k2 : Nat) (h2 : IsX3 k2) (v3 : Int32) (v4 : Int32) (S : vS) (r : vS) (hr : (mX1_seekUnfed S k k1 k2 v3 v4) = some r) : Met l yX1_seekUnfed (Cond.code yX1_seekUnfed cX1_seekUnfed 5 none :: ALL) rm_X1_seekUnfed (Po D vwCl tlC shC cA ad (ExC ad kl) [.ref (ad k), .ref (ad k1), .ref (ad k2), .int v3, .int v4] S) (Qo D vwCl shC cA ad none r True) 0 0 (aw shC ad) := by
  refine Met.sx (M := (mX1_seekUnfed S k k1 k2 v3 v4)) (rv := (fun _ => none : vS → Option Value)) (rs := fun S1 => S1) (B := fun _ => True) (by decide) ⟨rfl, rfl⟩ (Nat.le_of_ble_eq_true rfl) G (fun p e s m args below meth c C0 ls hl => ?_) hr
  have hl : lv_has ls 5 [(0, .ref (ad k)), (1, .ref (ad k1)), (2, .ref (ad k2)), (3, .int v3), (4, .int v4)] := hl
  rw [mX1_seekUnfed]
  refine sx_aload_n C0 dX1_seekUnfed_0 rfl (lv_at hl 0 rfl) ?_
  refine sx_aload_n C0 dX1_seekUnfed_1 rfl (lv_at hl 2 rfl) ?_
  refine sx_iload_n C0 dX1_seekUnfed_2 rfl (lv_at hl 3 rfl) ?_
  refine sw_bind (fun S3 e3 => ?_)
  refine cv_X1_57 (As := [.ref (ad k2), .int v3]) C0 (c_X1_start C0.2.2.2.2.2.2.2.1 k hk k2 h2 v3 S _ e3) hk.1 ⟨rfl, rfl⟩ ⟨Nat.le_of_ble_eq_true rfl, Nat.le_of_ble_eq_true rfl⟩ rfl hl.1 (Nat.le_of_ble_eq_true rfl) rfl dX1_seekUnfed_3 (fun _ => ?_)
  refine sx_aload_n C0 dX1_seekUnfed_6 rfl (lv_at hl 0 rfl) ?_
  refine sx_iconst (v := 1) C0 dX1_seekUnfed_7 (by decide) ?_
  refine sx_iload C0 dX1_seekUnfed_8 (lv_at hl 4 rfl) ?_
  refine sx_ishl C0 dX1_seekUnfed_10 ?_
  refine pf_X1_26 C0 hk.1 dX1_seekUnfed_11 (fun S11 => ?_)
  refine sx_aload_n C0 dX1_seekUnfed_14 rfl (lv_at hl 0 rfl) ?_
  refine sx_aload_n C0 dX1_seekUnfed_15 rfl (lv_at hl 1 rfl) ?_
  refine sx_iconst (v := 0) C0 dX1_seekUnfed_16 (by decide) ?_
  refine sw_bind (fun S17 e17 => ?_)
  refine cv_X1_61 (As := [.ref (ad k), .ref (ad k1), .int (0 : Int32)]) C0 (c_X1_walk C0.2.2.2.2.2.2.2.1 k hk k1 h1 (0 : Int32) S11 _ e17) ⟨rfl, rfl⟩ ⟨Nat.le_of_ble_eq_true rfl, Nat.le_of_ble_eq_true rfl⟩ rfl hl.1 (Nat.le_of_ble_eq_true rfl) rfl dX1_seekUnfed_17 (fun _ => ?_)
  exact sx_vret C0 rfl rfl trivial dX1_seekUnfed_20
abbrev rm_X1_valueOfDuel (d : Nat) : Room := { frames := 4 + d, cells := 0, slots := 0, locals := 100 + d * 28 }
def bX1_valueOfDuel_120 (rec : vS → Nat → Nat → Int32 → Int32 → Option (Int32 × vS)) (k1 : Nat) (k2 : Nat)  (K46 : vS → Int32 → Int32 → Int32 → Option (Int32 × vS)) (S : vS) (v2 : Int32) (v3 : Int32) (v4 : Int32) (v7 : Int32) (v8 : Int32)  : Option (Int32 × vS) := (K46 S v7 v8 (v7 + (1 : Int32)))
set_option maxHeartbeats 4000000 in
set_option maxRecDepth 100000 in
theorem bX1_valueOfDuel_120_t {p : Program} {l : Launch} {e : Env} {s : State} {m : MethodId} {args : Array Value} {below : List Frame} {meth : Method} {c : Code} {D : va_G} {cA : Nat → ClassId} {ad : Nat → Nat} {kl : Nat} {K46 : vS → Int32 → Int32 → Int32 → Option (Int32 × vS)}  (C0 : Cx D vwCl tlC shC cA ad (ExC ad kl) RX1 cX1_valueOfDuel 9 (some .int) p s m args meth c) {d : Nat} {rec : vS → Nat → Nat → Int32 → Int32 → Option (Int32 × vS)} (hrec : ∀ (k1 : Nat) (h1 : IsX1 k1) (k2 : Nat) (h2 : IsX0 k2) (v2 : Int32) (v3 : Int32) (S : vS) (r : (Int32 × vS)), rec S k1 k2 v2 v3 = some r → Met l yX1_valueOfDuel (Cond.code yX1_valueOfDuel cX1_valueOfDuel 9 (some .int) :: ALL) (rm_X1_valueOfDuel d) (Po D vwCl tlC shC cA ad (ExC ad kl) [.ref (ad k1), .ref (ad k2), .int v2, .int v3] S) (Qo D vwCl shC cA ad (some (.int r.1)) r.2 True) 0 0 (aw shC ad)) (k1 : Nat) (h1 : IsX1 k1) (k2 : Nat) (h2 : IsX0 k2) (S : vS) (v2 : Int32) (v3 : Int32) (v4 : Int32) (v7 : Int32) (v8 : Int32) (hK46 : ∀ (S : vS) (v5 : Int32) (v6 : Int32) (v7 : Int32) (ls : Array Slot), lv_has ls 9 [(0, .ref (ad k1)), (1, .ref (ad k2)), (2, .int v2), (3, .int v3), (4, .int v4), (5, .int v5), (6, .int v6), (7, .int v7)] → SW p l e (rm_X1_valueOfDuel (d + 1)) s m args below meth c D vwCl shC cA ad (Fq D vwCl shC cA ad below args s (fun q => some (.int q.1) : (Int32 × vS) → Option Value) (fun q => q.2) (fun _ => True)) (K46 S v5 v6 v7) S 46 ls []) (ls : Array Slot) (hl : lv_has ls 9 [(0, .ref (ad k1)), (1, .ref (ad k2)), (2, .int v2), (3, .int v3), (4, .int v4), (7, .int v7), (8, .int v8)]) : SW p l e (rm_X1_valueOfDuel (d + 1)) s m args below meth c D vwCl shC cA ad (Fq D vwCl shC cA ad below args s (fun q => some (.int q.1) : (Int32 × vS) → Option Value) (fun q => q.2) (fun _ => True)) (bX1_valueOfDuel_120 rec k1 k2 K46 S v2 v3 v4 v7 v8) S 120 ls [] := by
  rw [bX1_valueOfDuel_120]
  refine sx_iload C0 dX1_valueOfDuel_120 (lv_at hl 5 rfl) ?_
  refine sx_istore (lv' := [(5, .int v7), (0, .ref (ad k1)), (1, .ref (ad k2)), (2, .int v2), (3, .int v3), (4, .int v4), (7, .int v7), (8, .int v8)]) C0 dX1_valueOfDuel_122 hl (by decide) rfl (fun ls hl => ?_)
  refine sx_iload C0 dX1_valueOfDuel_124 (lv_at hl 7 rfl) ?_
  refine sx_istore (lv' := [(6, .int v8), (5, .int v7), (0, .ref (ad k1)), (1, .ref (ad k2)), (2, .int v2), (3, .int v3), (4, .int v4), (7, .int v7), (8, .int v8)]) C0 dX1_valueOfDuel_126 hl (by decide) rfl (fun ls hl => ?_)
  refine sx_iinc (v := (v7 + (1 : Int32))) (lv' := [(7, .int (v7 + (1 : Int32))), (6, .int v8), (5, .int v7), (0, .ref (ad k1)), (1, .ref (ad k2)), (2, .int v2), (3, .int v3), (4, .int v4), (8, .int v8)]) C0 dX1_valueOfDuel_128 hl (k := 7) rfl rfl (by decide) rfl (fun ls hl => ?_)
  refine sx_goto (tgt := 46) C0 dX1_valueOfDuel_131 (by decide) ?_
  exact hK46 _ _ _ _ _ (lv_sub hl [3, 4, 5, 6, 7, 2, 1, 0] rfl)
def bX1_valueOfDuel_134 (rec : vS → Nat → Nat → Int32 → Int32 → Option (Int32 × vS)) (k1 : Nat) (k2 : Nat)   (S : vS) (v3 : Int32) (v5 : Int32) (v6 : Int32)  : Option (Int32 × vS) := ((pI S (k1 + 22) 4 v3 v5).bind fun S141 => (some (v6, S141)))
set_option maxHeartbeats 4000000 in
set_option maxRecDepth 100000 in
theorem bX1_valueOfDuel_134_t {p : Program} {l : Launch} {e : Env} {s : State} {m : MethodId} {args : Array Value} {below : List Frame} {meth : Method} {c : Code} {D : va_G} {cA : Nat → ClassId} {ad : Nat → Nat} {kl : Nat}   (C0 : Cx D vwCl tlC shC cA ad (ExC ad kl) RX1 cX1_valueOfDuel 9 (some .int) p s m args meth c) {d : Nat} {rec : vS → Nat → Nat → Int32 → Int32 → Option (Int32 × vS)} (hrec : ∀ (k1 : Nat) (h1 : IsX1 k1) (k2 : Nat) (h2 : IsX0 k2) (v2 : Int32) (v3 : Int32) (S : vS) (r : (Int32 × vS)), rec S k1 k2 v2 v3 = some r → Met l yX1_valueOfDuel (Cond.code yX1_valueOfDuel cX1_valueOfDuel 9 (some .int) :: ALL) (rm_X1_valueOfDuel d) (Po D vwCl tlC shC cA ad (ExC ad kl) [.ref (ad k1), .ref (ad k2), .int v2, .int v3] S) (Qo D vwCl shC cA ad (some (.int r.1)) r.2 True) 0 0 (aw shC ad)) (k1 : Nat) (h1 : IsX1 k1) (k2 : Nat) (h2 : IsX0 k2) (S : vS) (v3 : Int32) (v5 : Int32) (v6 : Int32) (ls : Array Slot) (hl : lv_has ls 9 [(0, .ref (ad k1)), (3, .int v3), (5, .int v5), (6, .int v6)]) : SW p l e (rm_X1_valueOfDuel (d + 1)) s m args below meth c D vwCl shC cA ad (Fq D vwCl shC cA ad below args s (fun q => some (.int q.1) : (Int32 × vS) → Option Value) (fun q => q.2) (fun _ => True)) (bX1_valueOfDuel_134 rec k1 k2 S v3 v5 v6) S 134 ls [] := by
  rw [bX1_valueOfDuel_134]
  refine sx_aload_n C0 dX1_valueOfDuel_134 rfl (lv_at hl 0 rfl) ?_
  refine gf_X1_18 C0 h1.1 dX1_valueOfDuel_135 ?_
  refine sx_iload_n C0 dX1_valueOfDuel_138 rfl (lv_at hl 1 rfl) ?_
  refine sx_iload C0 dX1_valueOfDuel_139 (lv_at hl 2 rfl) ?_
  refine sx_iast C0 h1.2.2.1 rfl dX1_valueOfDuel_141 (fun S141 => ?_)
  refine sx_iload C0 dX1_valueOfDuel_142 (lv_at hl 3 rfl) ?_
  exact sx_iret C0 rfl rfl trivial dX1_valueOfDuel_144
def lX1_valueOfDuel_46 (rec : vS → Nat → Nat → Int32 → Int32 → Option (Int32 × vS)) (k1 : Nat) (k2 : Nat)   (v2 : Int32) (v3 : Int32) (v4 : Int32) : Nat → vS → Int32 → Int32 → Int32 → Option (Int32 × vS)
  | 0, _, _, _, _ => none
  | n + 1, S, v5, v6, v7 => (if (12 : Int32) < v7 then (bX1_valueOfDuel_134 rec k1 k2 S v3 v5 v6) else ((mX1_goOn S k1 k2 v3 v7).bind fun q58 => (if q58.1 = 0 then ((lX1_valueOfDuel_46 rec k1 k2 v2 v3 v4 n) q58.2 v5 v6 (v7 + (1 : Int32))) else ((aI (scl k1) (v3 + (1 : Int32))).bind fun x74 => ((mX3_sentBy q58.2 x74 v2).bind fun a76 => ((rec q58.2 k1 k2 v2 (v3 + (1 : Int32))).bind fun q85 => (lt (a76 + q85.1) fun v8_89 => (if v5 = (-9 : Int32) then (bX1_valueOfDuel_120 rec k1 k2 (lX1_valueOfDuel_46 rec k1 k2 v2 v3 v4 n) q85.2 v2 v3 v4 v7 v8_89) else (if v4 = 0 then (if v6 ≤ v8_89 then ((lX1_valueOfDuel_46 rec k1 k2 v2 v3 v4 n) q85.2 v5 v6 (v7 + (1 : Int32))) else (bX1_valueOfDuel_120 rec k1 k2 (lX1_valueOfDuel_46 rec k1 k2 v2 v3 v4 n) q85.2 v2 v3 v4 v7 v8_89)) else (if v8_89 ≤ v6 then ((lX1_valueOfDuel_46 rec k1 k2 v2 v3 v4 n) q85.2 v5 v6 (v7 + (1 : Int32))) else (bX1_valueOfDuel_120 rec k1 k2 (lX1_valueOfDuel_46 rec k1 k2 v2 v3 v4 n) q85.2 v2 v3 v4 v7 v8_89)))))))))))
set_option maxHeartbeats 4000000 in
set_option maxRecDepth 100000 in
theorem lX1_valueOfDuel_46_t {p : Program} {l : Launch} {e : Env} {s : State} {m : MethodId} {args : Array Value} {below : List Frame} {meth : Method} {c : Code} {D : va_G} {cA : Nat → ClassId} {ad : Nat → Nat} {kl : Nat}   (C0 : Cx D vwCl tlC shC cA ad (ExC ad kl) RX1 cX1_valueOfDuel 9 (some .int) p s m args meth c) {d : Nat} {rec : vS → Nat → Nat → Int32 → Int32 → Option (Int32 × vS)} (hrec : ∀ (k1 : Nat) (h1 : IsX1 k1) (k2 : Nat) (h2 : IsX0 k2) (v2 : Int32) (v3 : Int32) (S : vS) (r : (Int32 × vS)), rec S k1 k2 v2 v3 = some r → Met l yX1_valueOfDuel (Cond.code yX1_valueOfDuel cX1_valueOfDuel 9 (some .int) :: ALL) (rm_X1_valueOfDuel d) (Po D vwCl tlC shC cA ad (ExC ad kl) [.ref (ad k1), .ref (ad k2), .int v2, .int v3] S) (Qo D vwCl shC cA ad (some (.int r.1)) r.2 True) 0 0 (aw shC ad)) (k1 : Nat) (h1 : IsX1 k1) (k2 : Nat) (h2 : IsX0 k2)  (v2 : Int32) (v3 : Int32) (v4 : Int32)  : ∀ (n : Nat) (S : vS) (v5 : Int32) (v6 : Int32) (v7 : Int32) (ls : Array Slot), lv_has ls 9 [(0, .ref (ad k1)), (1, .ref (ad k2)), (2, .int v2), (3, .int v3), (4, .int v4), (5, .int v5), (6, .int v6), (7, .int v7)] → SW p l e (rm_X1_valueOfDuel (d + 1)) s m args below meth c D vwCl shC cA ad (Fq D vwCl shC cA ad below args s (fun q => some (.int q.1) : (Int32 × vS) → Option Value) (fun q => q.2) (fun _ => True)) (lX1_valueOfDuel_46 rec k1 k2 v2 v3 v4 n S v5 v6 v7) S 46 ls [] := by
  intro n
  induction n with
  | zero =>
    intro S v5 v6 v7 ls hl
    rw [lX1_valueOfDuel_46]
    exact sw_none
  | succ n ih =>
    intro S v5 v6 v7 ls hl
    rw [lX1_valueOfDuel_46]
    refine sx_iload C0 dX1_valueOfDuel_46 (lv_at hl 7 rfl) ?_
    refine sx_bipush (v := 12) C0 dX1_valueOfDuel_48 (by decide) ?_
    refine sx_icmp_gt (tgt := 134) C0 dX1_valueOfDuel_50 (by decide) (fun _ => ?_) (fun _ => ?_)
    · exact bX1_valueOfDuel_134_t C0 hrec k1 h1 k2 h2 _ _ _ _ _ (lv_sub hl [0, 3, 5, 6] rfl)
    · refine sx_aload_n C0 dX1_valueOfDuel_53 rfl (lv_at hl 0 rfl) ?_
      refine sx_aload_n C0 dX1_valueOfDuel_54 rfl (lv_at hl 1 rfl) ?_
      refine sx_iload_n C0 dX1_valueOfDuel_55 rfl (lv_at hl 3 rfl) ?_
      refine sx_iload C0 dX1_valueOfDuel_56 (lv_at hl 7 rfl) ?_
      refine sw_bind (fun q58 e58 => ?_)
      refine cv_X1_88 (As := [.ref (ad k2), .int v3, .int v7]) C0 (c_X1_goOn C0.2.2.2.2.2.2.2.1 k1 h1 k2 h2 v3 v7 S _ e58) h1.1 ⟨rfl, rfl⟩ ⟨by show _ ≤ _; first | exact Nat.le_of_ble_eq_true rfl | (dsimp only [rm_X1_valueOfDuel]; omega), by show _ ≤ _; first | exact Nat.le_of_ble_eq_true rfl | (dsimp only [rm_X1_valueOfDuel]; omega)⟩ rfl hl.1 (Nat.le_of_ble_eq_true rfl) rfl dX1_valueOfDuel_58 (fun hb58 => ?_)
      refine sx_if_ne (tgt := 67) C0 dX1_valueOfDuel_61 (by decide) (fun _ => ?_) (fun _ => ?_)
      · refine sx_goto (tgt := 128) C0 dX1_valueOfDuel_64 (by decide) ?_
        refine sx_iinc (v := (v7 + (1 : Int32))) (lv' := [(7, .int (v7 + (1 : Int32))), (0, .ref (ad k1)), (1, .ref (ad k2)), (2, .int v2), (3, .int v3), (4, .int v4), (5, .int v5), (6, .int v6)]) C0 dX1_valueOfDuel_128 hl (k := 7) rfl rfl (by decide) rfl (fun ls hl => ?_)
        refine sx_goto (tgt := 46) C0 dX1_valueOfDuel_131 (by decide) ?_
        exact ih _ _ _ _ _ (lv_sub hl [1, 2, 3, 4, 5, 6, 7, 0] rfl)
      · refine sx_aload_n C0 dX1_valueOfDuel_67 rfl (lv_at hl 0 rfl) ?_
        refine gf_X1_12 C0 h1.1 dX1_valueOfDuel_68 ?_
        refine sx_iload_n C0 dX1_valueOfDuel_71 rfl (lv_at hl 3 rfl) ?_
        refine sx_iconst (v := 1) C0 dX1_valueOfDuel_72 (by decide) ?_
        refine sx_iadd C0 dX1_valueOfDuel_73 ?_
        refine sx_aald C0 h1.2.1 rfl rfl dX1_valueOfDuel_74 (fun x74 hx74 => ?_)
        refine sx_iload_n C0 dX1_valueOfDuel_75 rfl (lv_at hl 2 rfl) ?_
        refine sw_bind (fun a76 e76 => ?_)
        refine cv_X1_126 (As := [.int v2]) C0 (c_X3_sentBy C0.2.2.2.2.2.2.2.1 x74 (h1.2.2.2.2 x74 hx74) v2 q58.2 _ e76) (h1.2.2.2.2 x74 hx74).1 ⟨rfl, rfl⟩ ⟨by show _ ≤ _; first | exact Nat.le_of_ble_eq_true rfl | (dsimp only [rm_X1_valueOfDuel]; omega), by show _ ≤ _; first | exact Nat.le_of_ble_eq_true rfl | (dsimp only [rm_X1_valueOfDuel]; omega)⟩ rfl hl.1 (Nat.le_of_ble_eq_true rfl) rfl dX1_valueOfDuel_76 (fun _ => ?_)
        refine sx_aload_n C0 dX1_valueOfDuel_79 rfl (lv_at hl 0 rfl) ?_
        refine sx_aload_n C0 dX1_valueOfDuel_80 rfl (lv_at hl 1 rfl) ?_
        refine sx_iload_n C0 dX1_valueOfDuel_81 rfl (lv_at hl 2 rfl) ?_
        refine sx_iload_n C0 dX1_valueOfDuel_82 rfl (lv_at hl 3 rfl) ?_
        refine sx_iconst (v := 1) C0 dX1_valueOfDuel_83 (by decide) ?_
        refine sx_iadd C0 dX1_valueOfDuel_84 ?_
        refine sw_bind (fun q85 e85 => ?_)
        refine cv_X1_65 (As := [.ref (ad k1), .ref (ad k2), .int v2, .int (v3 + (1 : Int32))]) C0 (hrec k1 h1 k2 h2 v2 (v3 + (1 : Int32)) q58.2 _ e85) ⟨rfl, rfl⟩ ⟨by show _ ≤ _; first | exact Nat.le_of_ble_eq_true rfl | (dsimp only [rm_X1_valueOfDuel]; omega), by show _ ≤ _; first | exact Nat.le_of_ble_eq_true rfl | (dsimp only [rm_X1_valueOfDuel]; omega)⟩ rfl hl.1 (Nat.le_of_ble_eq_true rfl) rfl dX1_valueOfDuel_85 (fun _ => ?_)
        refine sx_iadd C0 dX1_valueOfDuel_88 ?_
        refine sw_lt (val := .int) (fun v8_89 => ?_)
        refine sx_istore (lv' := [(8, .int v8_89), (0, .ref (ad k1)), (1, .ref (ad k2)), (2, .int v2), (3, .int v3), (4, .int v4), (5, .int v5), (6, .int v6), (7, .int v7)]) C0 dX1_valueOfDuel_89 hl (by decide) rfl (fun ls hl => ?_)
        refine sx_iload C0 dX1_valueOfDuel_91 (lv_at hl 6 rfl) ?_
        refine sx_bipush (v := (-9)) C0 dX1_valueOfDuel_93 (by decide) ?_
        refine sx_icmp_eq (tgt := 120) C0 dX1_valueOfDuel_95 (by decide) (fun _ => ?_) (fun _ => ?_)
        · exact bX1_valueOfDuel_120_t C0 hrec k1 h1 k2 h2 _ _ _ _ _ _ ih _ (lv_sub hl [1, 2, 3, 4, 5, 8, 0] rfl)
        · refine sx_iload C0 dX1_valueOfDuel_98 (lv_at hl 5 rfl) ?_
          refine sx_if_eq (tgt := 113) C0 dX1_valueOfDuel_100 (by decide) (fun _ => ?_) (fun _ => ?_)
          · refine sx_iload C0 dX1_valueOfDuel_113 (lv_at hl 0 rfl) ?_
            refine sx_iload C0 dX1_valueOfDuel_115 (lv_at hl 7 rfl) ?_
            refine sx_icmp_ge (tgt := 128) C0 dX1_valueOfDuel_117 (by decide) (fun _ => ?_) (fun _ => ?_)
            · refine sx_iinc (v := (v7 + (1 : Int32))) (lv' := [(7, .int (v7 + (1 : Int32))), (8, .int v8_89), (0, .ref (ad k1)), (1, .ref (ad k2)), (2, .int v2), (3, .int v3), (4, .int v4), (5, .int v5), (6, .int v6)]) C0 dX1_valueOfDuel_128 hl (k := 8) rfl rfl (by decide) rfl (fun ls hl => ?_)
              refine sx_goto (tgt := 46) C0 dX1_valueOfDuel_131 (by decide) ?_
              exact ih _ _ _ _ _ (lv_sub hl [2, 3, 4, 5, 6, 7, 8, 0] rfl)
            · exact bX1_valueOfDuel_120_t C0 hrec k1 h1 k2 h2 _ _ _ _ _ _ ih _ (lv_sub hl [1, 2, 3, 4, 5, 8, 0] rfl)
          · refine sx_iload C0 dX1_valueOfDuel_103 (lv_at hl 0 rfl) ?_
            refine sx_iload C0 dX1_valueOfDuel_105 (lv_at hl 7 rfl) ?_
            refine sx_icmp_le (tgt := 128) C0 dX1_valueOfDuel_107 (by decide) (fun _ => ?_) (fun _ => ?_)
            · refine sx_iinc (v := (v7 + (1 : Int32))) (lv' := [(7, .int (v7 + (1 : Int32))), (8, .int v8_89), (0, .ref (ad k1)), (1, .ref (ad k2)), (2, .int v2), (3, .int v3), (4, .int v4), (5, .int v5), (6, .int v6)]) C0 dX1_valueOfDuel_128 hl (k := 8) rfl rfl (by decide) rfl (fun ls hl => ?_)
              refine sx_goto (tgt := 46) C0 dX1_valueOfDuel_131 (by decide) ?_
              exact ih _ _ _ _ _ (lv_sub hl [2, 3, 4, 5, 6, 7, 8, 0] rfl)
            · refine sx_goto (tgt := 120) C0 dX1_valueOfDuel_110 (by decide) ?_
              exact bX1_valueOfDuel_120_t C0 hrec k1 h1 k2 h2 _ _ _ _ _ _ ih _ (lv_sub hl [1, 2, 3, 4, 5, 8, 0] rfl)
def bX1_valueOfDuel_34 (rec : vS → Nat → Nat → Int32 → Int32 → Option (Int32 × vS)) (k1 : Nat) (k2 : Nat)   (S : vS) (v2 : Int32) (v3 : Int32) (t0 : Int32) : Option (Int32 × vS) := (lX1_valueOfDuel_46 rec k1 k2 v2 v3 t0 FU S (-9 : Int32) (0 : Int32) (0 : Int32))
set_option maxHeartbeats 4000000 in
set_option maxRecDepth 100000 in
theorem bX1_valueOfDuel_34_t {p : Program} {l : Launch} {e : Env} {s : State} {m : MethodId} {args : Array Value} {below : List Frame} {meth : Method} {c : Code} {D : va_G} {cA : Nat → ClassId} {ad : Nat → Nat} {kl : Nat}   (C0 : Cx D vwCl tlC shC cA ad (ExC ad kl) RX1 cX1_valueOfDuel 9 (some .int) p s m args meth c) {d : Nat} {rec : vS → Nat → Nat → Int32 → Int32 → Option (Int32 × vS)} (hrec : ∀ (k1 : Nat) (h1 : IsX1 k1) (k2 : Nat) (h2 : IsX0 k2) (v2 : Int32) (v3 : Int32) (S : vS) (r : (Int32 × vS)), rec S k1 k2 v2 v3 = some r → Met l yX1_valueOfDuel (Cond.code yX1_valueOfDuel cX1_valueOfDuel 9 (some .int) :: ALL) (rm_X1_valueOfDuel d) (Po D vwCl tlC shC cA ad (ExC ad kl) [.ref (ad k1), .ref (ad k2), .int v2, .int v3] S) (Qo D vwCl shC cA ad (some (.int r.1)) r.2 True) 0 0 (aw shC ad)) (k1 : Nat) (h1 : IsX1 k1) (k2 : Nat) (h2 : IsX0 k2) (S : vS) (v2 : Int32) (v3 : Int32) (t0 : Int32) (ls : Array Slot) (hl : lv_has ls 9 [(0, .ref (ad k1)), (1, .ref (ad k2)), (2, .int v2), (3, .int v3)]) : SW p l e (rm_X1_valueOfDuel (d + 1)) s m args below meth c D vwCl shC cA ad (Fq D vwCl shC cA ad below args s (fun q => some (.int q.1) : (Int32 × vS) → Option Value) (fun q => q.2) (fun _ => True)) (bX1_valueOfDuel_34 rec k1 k2 S v2 v3 t0) S 34 ls [.int t0] := by
  rw [bX1_valueOfDuel_34]
  refine sx_istore (lv' := [(4, .int t0), (0, .ref (ad k1)), (1, .ref (ad k2)), (2, .int v2), (3, .int v3)]) C0 dX1_valueOfDuel_34 hl (by decide) rfl (fun ls hl => ?_)
  refine sx_bipush (v := (-9)) C0 dX1_valueOfDuel_36 (by decide) ?_
  refine sx_istore (lv' := [(5, .int (-9 : Int32)), (4, .int t0), (0, .ref (ad k1)), (1, .ref (ad k2)), (2, .int v2), (3, .int v3)]) C0 dX1_valueOfDuel_38 hl (by decide) rfl (fun ls hl => ?_)
  refine sx_iconst (v := 0) C0 dX1_valueOfDuel_40 (by decide) ?_
  refine sx_istore (lv' := [(6, .int (0 : Int32)), (5, .int (-9 : Int32)), (4, .int t0), (0, .ref (ad k1)), (1, .ref (ad k2)), (2, .int v2), (3, .int v3)]) C0 dX1_valueOfDuel_41 hl (by decide) rfl (fun ls hl => ?_)
  refine sx_iconst (v := 0) C0 dX1_valueOfDuel_43 (by decide) ?_
  refine sx_istore (lv' := [(7, .int (0 : Int32)), (6, .int (0 : Int32)), (5, .int (-9 : Int32)), (4, .int t0), (0, .ref (ad k1)), (1, .ref (ad k2)), (2, .int v2), (3, .int v3)]) C0 dX1_valueOfDuel_44 hl (by decide) rfl (fun ls hl => ?_)
  exact lX1_valueOfDuel_46_t C0 hrec k1 h1 k2 h2 _ _ _ _ _ _ _ _ _ (lv_sub hl [4, 5, 6, 7, 3, 2, 1, 0] rfl)
def mX1_valueOfDuel : Nat → vS → Nat → Nat → Int32 → Int32 → Option (Int32 × vS)
  | 0, _, _, _, _, _ => none
  | d + 1, S, k1, k2, v2, v3 => (if v3 < 0 then (some ((0 : Int32), S)) else (if (S.1 k1 2) ≤ v3 then (some ((0 : Int32), S)) else (if v3 < (4 : Int32) then (if (v3 &&& (1 : Int32)) = 0 then (bX1_valueOfDuel_34 (mX1_valueOfDuel d) k1 k2 S v2 v3 (1 : Int32)) else (bX1_valueOfDuel_34 (mX1_valueOfDuel d) k1 k2 S v2 v3 (0 : Int32))) else (some ((0 : Int32), S)))))
set_option maxHeartbeats 4000000 in
set_option maxRecDepth 100000 in
theorem cd_X1_valueOfDuel {l : Launch} {D : va_G} {cA : Nat → ClassId} {ad : Nat → Nat} {kl : Nat} (G : Gx shC ad (ExC ad kl)) : ∀ (d : Nat) (k1 : Nat) (h1 : IsX1 k1) (k2 : Nat) (h2 : IsX0 k2) (v2 : Int32) (v3 : Int32) (S : vS) (r : (Int32 × vS)), mX1_valueOfDuel d S k1 k2 v2 v3 = some r → Met l yX1_valueOfDuel (Cond.code yX1_valueOfDuel cX1_valueOfDuel 9 (some .int) :: ALL) (rm_X1_valueOfDuel d) (Po D vwCl tlC shC cA ad (ExC ad kl) [.ref (ad k1), .ref (ad k2), .int v2, .int v3] S) (Qo D vwCl shC cA ad (some (.int r.1)) r.2 True) 0 0 (aw shC ad) := by
  intro d
  induction d with
  | zero => intro k1 h1 k2 h2 v2 v3 S r h; rw [mX1_valueOfDuel] at h; exact nomatch h
  | succ d hrec =>
    intro k1 h1 k2 h2 v2 v3 S r h
    refine Met.sx (M := mX1_valueOfDuel (d + 1) S k1 k2 v2 v3) (rv := (fun q => some (.int q.1) : (Int32 × vS) → Option Value)) (rs := fun q => q.2) (B := fun _ => True) (by decide) ⟨rfl, rfl⟩ (Nat.le_of_ble_eq_true rfl) G (fun p e s m args below meth c C0 ls hl => ?_) h
    have hl : lv_has ls 9 [(0, .ref (ad k1)), (1, .ref (ad k2)), (2, .int v2), (3, .int v3)] := hl
    rw [mX1_valueOfDuel]
    refine sx_iload_n C0 dX1_valueOfDuel_0 rfl (lv_at hl 3 rfl) ?_
    refine sx_if_lt (tgt := 21) C0 dX1_valueOfDuel_1 (by decide) (fun _ => ?_) (fun _ => ?_)
    · refine sx_iconst (v := 0) C0 dX1_valueOfDuel_21 (by decide) ?_
      exact sx_iret C0 rfl rfl trivial dX1_valueOfDuel_22
    · refine sx_iload_n C0 dX1_valueOfDuel_4 rfl (lv_at hl 3 rfl) ?_
      refine sx_aload_n C0 dX1_valueOfDuel_5 rfl (lv_at hl 0 rfl) ?_
      refine gf_X1_22 C0 h1.1 dX1_valueOfDuel_6 ?_
      refine sx_icmp_ge (tgt := 21) C0 dX1_valueOfDuel_9 (by decide) (fun _ => ?_) (fun _ => ?_)
      · refine sx_iconst (v := 0) C0 dX1_valueOfDuel_21 (by decide) ?_
        exact sx_iret C0 rfl rfl trivial dX1_valueOfDuel_22
      · refine sx_iload_n C0 dX1_valueOfDuel_12 rfl (lv_at hl 3 rfl) ?_
        refine sx_aload_n C0 dX1_valueOfDuel_13 rfl (lv_at hl 0 rfl) ?_
        refine gf_X1_18 C0 h1.1 dX1_valueOfDuel_14 ?_
        refine sx_alen (v := (4 : Int32)) C0 h1.2.2.1 rfl rfl dX1_valueOfDuel_17 ?_
        refine sx_icmp_lt (tgt := 23) C0 dX1_valueOfDuel_18 (by decide) (fun _ => ?_) (fun _ => ?_)
        · refine sx_iload_n C0 dX1_valueOfDuel_23 rfl (lv_at hl 3 rfl) ?_
          refine sx_iconst (v := 1) C0 dX1_valueOfDuel_24 (by decide) ?_
          refine sx_iand C0 dX1_valueOfDuel_25 ?_
          refine sx_if_ne (tgt := 33) C0 dX1_valueOfDuel_26 (by decide) (fun _ => ?_) (fun _ => ?_)
          · refine sx_iconst (v := 1) C0 dX1_valueOfDuel_29 (by decide) ?_
            refine sx_goto (tgt := 34) C0 dX1_valueOfDuel_30 (by decide) ?_
            exact bX1_valueOfDuel_34_t C0 hrec k1 h1 k2 h2 _ _ _ _ _ (lv_sub hl [0, 1, 2, 3] rfl)
          · refine sx_iconst (v := 0) C0 dX1_valueOfDuel_33 (by decide) ?_
            exact bX1_valueOfDuel_34_t C0 hrec k1 h1 k2 h2 _ _ _ _ _ (lv_sub hl [0, 1, 2, 3] rfl)
        · refine sx_iconst (v := 0) C0 dX1_valueOfDuel_21 (by decide) ?_
          exact sx_iret C0 rfl rfl trivial dX1_valueOfDuel_22
theorem c_X1_valueOfDuel {l : Launch} {D : va_G} {cA : Nat → ClassId} {ad : Nat → Nat} {kl : Nat} (G : Gx shC ad (ExC ad kl)) (k1 : Nat) (h1 : IsX1 k1) (k2 : Nat) (h2 : IsX0 k2) (v2 : Int32) (v3 : Int32) (S : vS) (r : (Int32 × vS)) (h : mX1_valueOfDuel 6 S k1 k2 v2 v3 = some r) : Met l yX1_valueOfDuel (Cond.code yX1_valueOfDuel cX1_valueOfDuel 9 (some .int) :: ALL) (rm_X1_valueOfDuel 6) (Po D vwCl tlC shC cA ad (ExC ad kl) [.ref (ad k1), .ref (ad k2), .int v2, .int v3] S) (Qo D vwCl shC cA ad (some (.int r.1)) r.2 True) 0 0 (aw shC ad) := cd_X1_valueOfDuel G 6 k1 h1 k2 h2 v2 v3 S r h
abbrev rm_X1_duel : Room := { frames := 13, cells := 0, slots := 0, locals := 352 }
def mX1_duel (S : vS) (k : Nat) (k1 : Nat) (k2 : Nat) (v3 : Int32) (v4 : Int32) : Option (Int32 × vS) := ((mX1_start S k k2 v3).bind fun S3 => ((mX1_valueOfDuel 6 S3 k k1 v4 (0 : Int32)).bind fun q11 => (some (q11.1, q11.2))))
set_option maxHeartbeats 4000000 in
set_option maxRecDepth 100000 in
theorem c_X1_duel {l : Launch} {D : va_G} {cA : Nat → ClassId} {ad : Nat → Nat} {kl : Nat} (G : Gx shC ad (ExC ad kl)) (k : Nat) (hk : IsX1 k) (k1 : Nat) (h1 : IsX0 k1) (k2 : Nat) (h2 : IsX3 k2) (v3 : Int32) (v4 : Int32) (S : vS) (r : (Int32 × vS)) (hr : (mX1_duel S k k1 k2 v3 v4) = some r) : Met l yX1_duel (Cond.code yX1_duel cX1_duel 5 (some .int) :: ALL) rm_X1_duel (Po D vwCl tlC shC cA ad (ExC ad kl) [.ref (ad k), .ref (ad k1), .ref (ad k2), .int v3, .int v4] S) (Qo D vwCl shC cA ad (some (.int r.1)) r.2 True) 0 0 (aw shC ad) := by
  refine Met.sx (M := (mX1_duel S k k1 k2 v3 v4)) (rv := (fun q => some (.int q.1) : (Int32 × vS) → Option Value)) (rs := fun q => q.2) (B := fun _ => True) (by decide) ⟨rfl, rfl⟩ (Nat.le_of_ble_eq_true rfl) G (fun p e s m args below meth c C0 ls hl => ?_) hr
  have hl : lv_has ls 5 [(0, .ref (ad k)), (1, .ref (ad k1)), (2, .ref (ad k2)), (3, .int v3), (4, .int v4)] := hl
  rw [mX1_duel]
  refine sx_aload_n C0 dX1_duel_0 rfl (lv_at hl 0 rfl) ?_
  refine sx_aload_n C0 dX1_duel_1 rfl (lv_at hl 2 rfl) ?_
  refine sx_iload_n C0 dX1_duel_2 rfl (lv_at hl 3 rfl) ?_
  refine sw_bind (fun S3 e3 => ?_)
  refine cv_X1_57 (As := [.ref (ad k2), .int v3]) C0 (c_X1_start C0.2.2.2.2.2.2.2.1 k hk k2 h2 v3 S _ e3) hk.1 ⟨rfl, rfl⟩ ⟨Nat.le_of_ble_eq_true rfl, Nat.le_of_ble_eq_true rfl⟩ rfl hl.1 (Nat.le_of_ble_eq_true rfl) rfl dX1_duel_3 (fun _ => ?_)
  refine sx_aload_n C0 dX1_duel_6 rfl (lv_at hl 0 rfl) ?_
  refine sx_aload_n C0 dX1_duel_7 rfl (lv_at hl 1 rfl) ?_
  refine sx_iload C0 dX1_duel_8 (lv_at hl 4 rfl) ?_
  refine sx_iconst (v := 0) C0 dX1_duel_10 (by decide) ?_
  refine sw_bind (fun q11 e11 => ?_)
  refine cv_X1_65 (As := [.ref (ad k), .ref (ad k1), .int v4, .int (0 : Int32)]) C0 (c_X1_valueOfDuel C0.2.2.2.2.2.2.2.1 k hk k1 h1 v4 (0 : Int32) S3 _ e11) ⟨rfl, rfl⟩ ⟨Nat.le_of_ble_eq_true rfl, Nat.le_of_ble_eq_true rfl⟩ rfl hl.1 (Nat.le_of_ble_eq_true rfl) rfl dX1_duel_11 (fun _ => ?_)
  exact sx_iret C0 rfl rfl trivial dX1_duel_14
abbrev rm_X1_firstOfDuel : Room := { frames := 0, cells := 0, slots := 0, locals := 0 }
def mX1_firstOfDuel (S : vS) (k : Nat) : Option Int32 := ((gI (S.1 (k + 22)) 4 (0 : Int32)).bind fun a5 => (some a5))
set_option maxHeartbeats 4000000 in
set_option maxRecDepth 100000 in
theorem c_X1_firstOfDuel {l : Launch} {D : va_G} {cA : Nat → ClassId} {ad : Nat → Nat} {kl : Nat} (G : Gx shC ad (ExC ad kl)) (k : Nat) (hk : IsX1 k) (S : vS) (r : Int32) (hr : (mX1_firstOfDuel S k) = some r) : Met l yX1_firstOfDuel (Cond.code yX1_firstOfDuel cX1_firstOfDuel 1 (some .int) :: ALL) rm_X1_firstOfDuel (Po D vwCl tlC shC cA ad (ExC ad kl) [.ref (ad k)] S) (Qo D vwCl shC cA ad (some (.int r)) S True) 0 0 (aw shC ad) := by
  refine Met.sx (M := (mX1_firstOfDuel S k)) (rv := (fun r => some (.int r) : Int32 → Option Value)) (rs := fun _ => S) (B := fun _ => True) (by decide) ⟨rfl, rfl⟩ (Nat.le_of_ble_eq_true rfl) G (fun p e s m args below meth c C0 ls hl => ?_) hr
  have hl : lv_has ls 1 [(0, .ref (ad k))] := hl
  rw [mX1_firstOfDuel]
  refine sx_aload_n C0 dX1_firstOfDuel_0 rfl (lv_at hl 0 rfl) ?_
  refine gf_X1_18 C0 hk.1 dX1_firstOfDuel_1 ?_
  refine sx_iconst (v := 0) C0 dX1_firstOfDuel_4 (by decide) ?_
  refine sx_iald C0 hk.2.2.1 rfl dX1_firstOfDuel_5 (fun a5 => ?_)
  exact sx_iret C0 rfl rfl trivial dX1_firstOfDuel_6
abbrev rm_X2_sign : Room := { frames := 0, cells := 0, slots := 0, locals := 0 }
def bX2_sign_30 (k : Nat)   (S : vS)   : Option Int32 := (some (-1000 : Int32))
set_option maxHeartbeats 4000000 in
set_option maxRecDepth 100000 in
theorem bX2_sign_30_t {p : Program} {l : Launch} {e : Env} {s : State} {m : MethodId} {args : Array Value} {below : List Frame} {meth : Method} {c : Code} {D : va_G} {cA : Nat → ClassId} {ad : Nat → Nat} {kl : Nat}   (C0 : Cx D vwCl tlC shC cA ad (ExC ad kl) RX2 cX2_sign 1 (some .int) p s m args meth c) (k : Nat) (hk : IsX2 k) (S : vS)  (ls : Array Slot) (hl : lv_has ls 1 []) : SW p l e rm_X2_sign s m args below meth c D vwCl shC cA ad (Fq D vwCl shC cA ad below args s (fun r => some (.int r) : Int32 → Option Value) (fun _ => S) (fun _ => True)) (bX2_sign_30 k S) S 30 ls [] := by
  rw [bX2_sign_30]
  refine sx_sipush (v := (-1000)) C0 dX2_sign_30 (by decide) ?_
  exact sx_iret C0 rfl rfl trivial dX2_sign_33
def mX2_sign (S : vS) (k : Nat) : Option Int32 := (if (S.1 k 4) < 0 then (bX2_sign_30 k S) else (if (S.1 k 3) ≤ (S.1 k 4) then (bX2_sign_30 k S) else ((gI (S.1 (k + 12)) 60 (S.1 k 4)).bind fun a26 => (some a26))))
set_option maxHeartbeats 4000000 in
set_option maxRecDepth 100000 in
theorem c_X2_sign {l : Launch} {D : va_G} {cA : Nat → ClassId} {ad : Nat → Nat} {kl : Nat} (G : Gx shC ad (ExC ad kl)) (k : Nat) (hk : IsX2 k) (S : vS) (r : Int32) (hr : (mX2_sign S k) = some r) : Met l yX2_sign (Cond.code yX2_sign cX2_sign 1 (some .int) :: ALL) rm_X2_sign (Po D vwCl tlC shC cA ad (ExC ad kl) [.ref (ad k)] S) (Qo D vwCl shC cA ad (some (.int r)) S True) 0 0 (aw shC ad) := by
  refine Met.sx (M := (mX2_sign S k)) (rv := (fun r => some (.int r) : Int32 → Option Value)) (rs := fun _ => S) (B := fun _ => True) (by decide) ⟨rfl, rfl⟩ (Nat.le_of_ble_eq_true rfl) G (fun p e s m args below meth c C0 ls hl => ?_) hr
  have hl : lv_has ls 1 [(0, .ref (ad k))] := hl
  rw [mX2_sign]
  refine sx_aload_n C0 dX2_sign_0 rfl (lv_at hl 0 rfl) ?_
  refine gf_X2_29 C0 hk.1 dX2_sign_1 ?_
  refine sx_if_lt (tgt := 30) C0 dX2_sign_4 (by decide) (fun _ => ?_) (fun _ => ?_)
  · exact bX2_sign_30_t C0 k hk _ _ (lv_sub hl [] rfl)
  · refine sx_aload_n C0 dX2_sign_7 rfl (lv_at hl 0 rfl) ?_
    refine gf_X2_29 C0 hk.1 dX2_sign_8 ?_
    refine sx_aload_n C0 dX2_sign_11 rfl (lv_at hl 0 rfl) ?_
    refine gf_X2_25 C0 hk.1 dX2_sign_12 ?_
    refine sx_icmp_ge (tgt := 30) C0 dX2_sign_15 (by decide) (fun _ => ?_) (fun _ => ?_)
    · exact bX2_sign_30_t C0 k hk _ _ (lv_sub hl [] rfl)
    · refine sx_aload_n C0 dX2_sign_18 rfl (lv_at hl 0 rfl) ?_
      refine gf_X2_22 C0 hk.1 dX2_sign_19 ?_
      refine sx_aload_n C0 dX2_sign_22 rfl (lv_at hl 0 rfl) ?_
      refine gf_X2_29 C0 hk.1 dX2_sign_23 ?_
      refine sx_iald C0 hk.2.2.2 rfl dX2_sign_26 (fun a26 => ?_)
      refine sx_goto (tgt := 33) C0 dX2_sign_27 (by decide) ?_
      exact sx_iret C0 rfl rfl trivial dX2_sign_33
abbrev rm_X2_skipBlanks : Room := { frames := 1, cells := 0, slots := 0, locals := 20 }
def lX2_skipBlanks_0 (k : Nat)    : Nat → vS → Option vS
  | 0, _ => none
  | n + 1, S => (if (S.1 k 5) = (-9 : Int32) then (if (S.1 k 3) ≤ (S.1 k 4) then (some S) else ((mX2_sign S k).bind fun a21 => (if a21 = (32 : Int32) then (lt (wI S k 4 ((S.1 k 4) + (1 : Int32))) fun S36 => ((lX2_skipBlanks_0 k n) S36)) else (some S)))) else (some S))
set_option maxHeartbeats 4000000 in
set_option maxRecDepth 100000 in
theorem lX2_skipBlanks_0_t {p : Program} {l : Launch} {e : Env} {s : State} {m : MethodId} {args : Array Value} {below : List Frame} {meth : Method} {c : Code} {D : va_G} {cA : Nat → ClassId} {ad : Nat → Nat} {kl : Nat}   (C0 : Cx D vwCl tlC shC cA ad (ExC ad kl) RX2 cX2_skipBlanks 1 none p s m args meth c) (k : Nat) (hk : IsX2 k)    : ∀ (n : Nat) (S : vS)  (ls : Array Slot), lv_has ls 1 [(0, .ref (ad k))] → SW p l e rm_X2_skipBlanks s m args below meth c D vwCl shC cA ad (Fq D vwCl shC cA ad below args s (fun _ => none : vS → Option Value) (fun S1 => S1) (fun _ => True)) (lX2_skipBlanks_0 k n S) S 0 ls [] := by
  intro n
  induction n with
  | zero =>
    intro S ls hl
    rw [lX2_skipBlanks_0]
    exact sw_none
  | succ n ih =>
    intro S ls hl
    rw [lX2_skipBlanks_0]
    refine sx_aload_n C0 dX2_skipBlanks_0 rfl (lv_at hl 0 rfl) ?_
    refine gf_X2_32 C0 hk.1 dX2_skipBlanks_1 ?_
    refine sx_bipush (v := (-9)) C0 dX2_skipBlanks_4 (by decide) ?_
    refine sx_icmp_ne (tgt := 42) C0 dX2_skipBlanks_6 (by decide) (fun _ => ?_) (fun _ => ?_)
    · refine sx_aload_n C0 dX2_skipBlanks_9 rfl (lv_at hl 0 rfl) ?_
      refine gf_X2_29 C0 hk.1 dX2_skipBlanks_10 ?_
      refine sx_aload_n C0 dX2_skipBlanks_13 rfl (lv_at hl 0 rfl) ?_
      refine gf_X2_25 C0 hk.1 dX2_skipBlanks_14 ?_
      refine sx_icmp_ge (tgt := 42) C0 dX2_skipBlanks_17 (by decide) (fun _ => ?_) (fun _ => ?_)
      · exact sx_vret C0 rfl rfl trivial dX2_skipBlanks_42
      · refine sx_aload_n C0 dX2_skipBlanks_20 rfl (lv_at hl 0 rfl) ?_
        refine sw_bind (fun a21 e21 => ?_)
        refine cv_X2_64 (As := []) C0 (c_X2_sign C0.2.2.2.2.2.2.2.1 k hk S _ e21) hk.1 ⟨rfl, rfl⟩ ⟨Nat.le_of_ble_eq_true rfl, Nat.le_of_ble_eq_true rfl⟩ rfl hl.1 (Nat.le_of_ble_eq_true rfl) rfl dX2_skipBlanks_21 (fun _ => ?_)
        refine sx_bipush (v := 32) C0 dX2_skipBlanks_24 (by decide) ?_
        refine sx_icmp_ne (tgt := 42) C0 dX2_skipBlanks_26 (by decide) (fun _ => ?_) (fun _ => ?_)
        · refine sx_aload_n C0 dX2_skipBlanks_29 rfl (lv_at hl 0 rfl) ?_
          refine sx_dup C0 dX2_skipBlanks_30 rfl ?_
          refine gf_X2_29 C0 hk.1 dX2_skipBlanks_31 ?_
          refine sx_iconst (v := 1) C0 dX2_skipBlanks_34 (by decide) ?_
          refine sx_iadd C0 dX2_skipBlanks_35 ?_
          refine pf_X2_29 C0 hk.1 dX2_skipBlanks_36 (fun S36 => ?_)
          refine sx_goto (tgt := 0) C0 dX2_skipBlanks_39 (by decide) ?_
          exact ih _ _ (lv_sub hl [0] rfl)
        · exact sx_vret C0 rfl rfl trivial dX2_skipBlanks_42
    · exact sx_vret C0 rfl rfl trivial dX2_skipBlanks_42
def mX2_skipBlanks (S : vS) (k : Nat) : Option vS := (lX2_skipBlanks_0 k FU S)
set_option maxHeartbeats 4000000 in
set_option maxRecDepth 100000 in
theorem c_X2_skipBlanks {l : Launch} {D : va_G} {cA : Nat → ClassId} {ad : Nat → Nat} {kl : Nat} (G : Gx shC ad (ExC ad kl)) (k : Nat) (hk : IsX2 k) (S : vS) (r : vS) (hr : (mX2_skipBlanks S k) = some r) : Met l yX2_skipBlanks (Cond.code yX2_skipBlanks cX2_skipBlanks 1 none :: ALL) rm_X2_skipBlanks (Po D vwCl tlC shC cA ad (ExC ad kl) [.ref (ad k)] S) (Qo D vwCl shC cA ad none r True) 0 0 (aw shC ad) := by
  refine Met.sx (M := (mX2_skipBlanks S k)) (rv := (fun _ => none : vS → Option Value)) (rs := fun S1 => S1) (B := fun _ => True) (by decide) ⟨rfl, rfl⟩ (Nat.le_of_ble_eq_true rfl) G (fun p e s m args below meth c C0 ls hl => ?_) hr
  have hl : lv_has ls 1 [(0, .ref (ad k))] := hl
  rw [mX2_skipBlanks]
  exact lX2_skipBlanks_0_t C0 k hk _ _ _ (lv_sub hl [0] rfl)
abbrev rm_X2_figure : Room := { frames := 1, cells := 0, slots := 0, locals := 20 }
def bX2_figure_29 (k : Nat)   (S : vS) (v1 : Int32)  : Option (Int32 × vS) := (lt (wI S k 5 (S.1 k 4)) fun S34 => (some (v1, S34)))
set_option maxHeartbeats 4000000 in
set_option maxRecDepth 100000 in
theorem bX2_figure_29_t {p : Program} {l : Launch} {e : Env} {s : State} {m : MethodId} {args : Array Value} {below : List Frame} {meth : Method} {c : Code} {D : va_G} {cA : Nat → ClassId} {ad : Nat → Nat} {kl : Nat}   (C0 : Cx D vwCl tlC shC cA ad (ExC ad kl) RX2 cX2_figure 4 (some .int) p s m args meth c) (k : Nat) (hk : IsX2 k) (S : vS) (v1 : Int32) (ls : Array Slot) (hl : lv_has ls 4 [(0, .ref (ad k)), (1, .int v1)]) : SW p l e rm_X2_figure s m args below meth c D vwCl shC cA ad (Fq D vwCl shC cA ad below args s (fun q => some (.int q.1) : (Int32 × vS) → Option Value) (fun q => q.2) (fun _ => True)) (bX2_figure_29 k S v1) S 29 ls [] := by
  rw [bX2_figure_29]
  refine sx_aload_n C0 dX2_figure_29 rfl (lv_at hl 0 rfl) ?_
  refine sx_aload_n C0 dX2_figure_30 rfl (lv_at hl 0 rfl) ?_
  refine gf_X2_29 C0 hk.1 dX2_figure_31 ?_
  refine pf_X2_32 C0 hk.1 dX2_figure_34 (fun S34 => ?_)
  refine sx_iload_n C0 dX2_figure_37 rfl (lv_at hl 1 rfl) ?_
  exact sx_iret C0 rfl rfl trivial dX2_figure_38
def mX2_figure (S : vS) (k : Nat) (v1 : Int32) (v2 : Int32) : Option (Int32 × vS) := (if (S.1 k 5) = (-9 : Int32) then ((mX2_sign S k).bind fun a12 => (lt (a12 - (48 : Int32)) fun v3_18 => (if v3_18 < v1 then (bX2_figure_29 k S v1) else (if v3_18 ≤ v2 then (lt (wI S k 4 ((S.1 k 4) + (1 : Int32))) fun S46 => (some (v3_18, S46))) else (bX2_figure_29 k S v1))))) else (some (v1, S)))
set_option maxHeartbeats 4000000 in
set_option maxRecDepth 100000 in
theorem c_X2_figure {l : Launch} {D : va_G} {cA : Nat → ClassId} {ad : Nat → Nat} {kl : Nat} (G : Gx shC ad (ExC ad kl)) (k : Nat) (hk : IsX2 k) (v1 : Int32) (v2 : Int32) (S : vS) (r : (Int32 × vS)) (hr : (mX2_figure S k v1 v2) = some r) : Met l yX2_figure (Cond.code yX2_figure cX2_figure 4 (some .int) :: ALL) rm_X2_figure (Po D vwCl tlC shC cA ad (ExC ad kl) [.ref (ad k), .int v1, .int v2] S) (Qo D vwCl shC cA ad (some (.int r.1)) r.2 True) 0 0 (aw shC ad) := by
  refine Met.sx (M := (mX2_figure S k v1 v2)) (rv := (fun q => some (.int q.1) : (Int32 × vS) → Option Value)) (rs := fun q => q.2) (B := fun _ => True) (by decide) ⟨rfl, rfl⟩ (Nat.le_of_ble_eq_true rfl) G (fun p e s m args below meth c C0 ls hl => ?_) hr
  have hl : lv_has ls 4 [(0, .ref (ad k)), (1, .int v1), (2, .int v2)] := hl
  rw [mX2_figure]
  refine sx_aload_n C0 dX2_figure_0 rfl (lv_at hl 0 rfl) ?_
  refine gf_X2_32 C0 hk.1 dX2_figure_1 ?_
  refine sx_bipush (v := (-9)) C0 dX2_figure_4 (by decide) ?_
  refine sx_icmp_eq (tgt := 11) C0 dX2_figure_6 (by decide) (fun _ => ?_) (fun _ => ?_)
  · refine sx_aload_n C0 dX2_figure_11 rfl (lv_at hl 0 rfl) ?_
    refine sw_bind (fun a12 e12 => ?_)
    refine cv_X2_64 (As := []) C0 (c_X2_sign C0.2.2.2.2.2.2.2.1 k hk S _ e12) hk.1 ⟨rfl, rfl⟩ ⟨Nat.le_of_ble_eq_true rfl, Nat.le_of_ble_eq_true rfl⟩ rfl hl.1 (Nat.le_of_ble_eq_true rfl) rfl dX2_figure_12 (fun _ => ?_)
    refine sx_bipush (v := 48) C0 dX2_figure_15 (by decide) ?_
    refine sx_isub C0 dX2_figure_17 ?_
    refine sw_lt (val := .int) (fun v3_18 => ?_)
    refine sx_istore_n (lv' := [(3, .int v3_18), (0, .ref (ad k)), (1, .int v1), (2, .int v2)]) C0 dX2_figure_18 rfl hl (by decide) rfl (fun ls hl => ?_)
    refine sx_iload_n C0 dX2_figure_19 rfl (lv_at hl 0 rfl) ?_
    refine sx_iload_n C0 dX2_figure_20 rfl (lv_at hl 2 rfl) ?_
    refine sx_icmp_lt (tgt := 29) C0 dX2_figure_21 (by decide) (fun _ => ?_) (fun _ => ?_)
    · exact bX2_figure_29_t C0 k hk _ _ _ (lv_sub hl [1, 2] rfl)
    · refine sx_iload_n C0 dX2_figure_24 rfl (lv_at hl 0 rfl) ?_
      refine sx_iload_n C0 dX2_figure_25 rfl (lv_at hl 3 rfl) ?_
      refine sx_icmp_le (tgt := 39) C0 dX2_figure_26 (by decide) (fun _ => ?_) (fun _ => ?_)
      · refine sx_aload_n C0 dX2_figure_39 rfl (lv_at hl 1 rfl) ?_
        refine sx_dup C0 dX2_figure_40 rfl ?_
        refine gf_X2_29 C0 hk.1 dX2_figure_41 ?_
        refine sx_iconst (v := 1) C0 dX2_figure_44 (by decide) ?_
        refine sx_iadd C0 dX2_figure_45 ?_
        refine pf_X2_29 C0 hk.1 dX2_figure_46 (fun S46 => ?_)
        refine sx_iload_n C0 dX2_figure_49 rfl (lv_at hl 0 rfl) ?_
        exact sx_iret C0 rfl rfl trivial dX2_figure_50
      · exact bX2_figure_29_t C0 k hk _ _ _ (lv_sub hl [1, 2] rfl)
  · refine sx_iload_n C0 dX2_figure_9 rfl (lv_at hl 1 rfl) ?_
    exact sx_iret C0 rfl rfl trivial dX2_figure_10
abbrev rm_X2_readStores : Room := { frames := 2, cells := 0, slots := 0, locals := 43 }
def lX2_readStores_34 (k : Nat)    : Nat → vS → Int32 → Option vS
  | 0, _, _ => none
  | n + 1, S, v1 => (if (3 : Int32) ≤ v1 then (some S) else ((mX2_figure S k (0 : Int32) (9 : Int32)).bind fun q48 => ((pI q48.2 (k + 11) 3 v1 q48.1).bind fun S51 => ((lX2_readStores_34 k n) S51 (v1 + (1 : Int32))))))
set_option maxHeartbeats 4000000 in
set_option maxRecDepth 100000 in
theorem lX2_readStores_34_t {p : Program} {l : Launch} {e : Env} {s : State} {m : MethodId} {args : Array Value} {below : List Frame} {meth : Method} {c : Code} {D : va_G} {cA : Nat → ClassId} {ad : Nat → Nat} {kl : Nat}   (C0 : Cx D vwCl tlC shC cA ad (ExC ad kl) RX2 cX2_readStores 2 none p s m args meth c) (k : Nat) (hk : IsX2 k)    : ∀ (n : Nat) (S : vS) (v1 : Int32) (ls : Array Slot), lv_has ls 2 [(0, .ref (ad k)), (1, .int v1)] → SW p l e rm_X2_readStores s m args below meth c D vwCl shC cA ad (Fq D vwCl shC cA ad below args s (fun _ => none : vS → Option Value) (fun S1 => S1) (fun _ => True)) (lX2_readStores_34 k n S v1) S 34 ls [] := by
  intro n
  induction n with
  | zero =>
    intro S v1 ls hl
    rw [lX2_readStores_34]
    exact sw_none
  | succ n ih =>
    intro S v1 ls hl
    rw [lX2_readStores_34]
    refine sx_iload_n C0 dX2_readStores_34 rfl (lv_at hl 1 rfl) ?_
    refine sx_iconst (v := 3) C0 dX2_readStores_35 (by decide) ?_
    refine sx_icmp_ge (tgt := 58) C0 dX2_readStores_36 (by decide) (fun _ => ?_) (fun _ => ?_)
    · exact sx_vret C0 rfl rfl trivial dX2_readStores_58
    · refine sx_aload_n C0 dX2_readStores_39 rfl (lv_at hl 0 rfl) ?_
      refine gf_X2_18 C0 hk.1 dX2_readStores_40 ?_
      refine sx_iload_n C0 dX2_readStores_43 rfl (lv_at hl 1 rfl) ?_
      refine sx_aload_n C0 dX2_readStores_44 rfl (lv_at hl 0 rfl) ?_
      refine sx_iconst (v := 0) C0 dX2_readStores_45 (by decide) ?_
      refine sx_bipush (v := 9) C0 dX2_readStores_46 (by decide) ?_
      refine sw_bind (fun q48 e48 => ?_)
      refine cv_X2_68 (As := [.int (0 : Int32), .int (9 : Int32)]) C0 (c_X2_figure C0.2.2.2.2.2.2.2.1 k hk (0 : Int32) (9 : Int32) S _ e48) hk.1 ⟨rfl, rfl⟩ ⟨Nat.le_of_ble_eq_true rfl, Nat.le_of_ble_eq_true rfl⟩ rfl hl.1 (Nat.le_of_ble_eq_true rfl) rfl dX2_readStores_48 (fun _ => ?_)
      refine sx_iast C0 hk.2.2.1 rfl dX2_readStores_51 (fun S51 => ?_)
      refine sx_iinc (v := (v1 + (1 : Int32))) (lv' := [(1, .int (v1 + (1 : Int32))), (0, .ref (ad k))]) C0 dX2_readStores_52 hl (k := 1) rfl rfl (by decide) rfl (fun ls hl => ?_)
      refine sx_goto (tgt := 34) C0 dX2_readStores_55 (by decide) ?_
      exact ih _ _ _ (lv_sub hl [1, 0] rfl)
def mX2_readStores (S : vS) (k : Nat) : Option vS := ((mX2_skipBlanks S k).bind fun S1 => ((mX2_sign S1 k).bind fun a5 => (if a5 = (102 : Int32) then (lt (wI S1 k 4 ((S1.1 k 4) + (1 : Int32))) fun S29 => (lX2_readStores_34 k FU S29 (0 : Int32))) else (lt (wI S1 k 5 (S1.1 k 4)) fun S18 => (some S18)))))
set_option maxHeartbeats 4000000 in
set_option maxRecDepth 100000 in
theorem c_X2_readStores {l : Launch} {D : va_G} {cA : Nat → ClassId} {ad : Nat → Nat} {kl : Nat} (G : Gx shC ad (ExC ad kl)) (k : Nat) (hk : IsX2 k) (S : vS) (r : vS) (hr : (mX2_readStores S k) = some r) : Met l yX2_readStores (Cond.code yX2_readStores cX2_readStores 2 none :: ALL) rm_X2_readStores (Po D vwCl tlC shC cA ad (ExC ad kl) [.ref (ad k)] S) (Qo D vwCl shC cA ad none r True) 0 0 (aw shC ad) := by
  refine Met.sx (M := (mX2_readStores S k)) (rv := (fun _ => none : vS → Option Value)) (rs := fun S1 => S1) (B := fun _ => True) (by decide) ⟨rfl, rfl⟩ (Nat.le_of_ble_eq_true rfl) G (fun p e s m args below meth c C0 ls hl => ?_) hr
  have hl : lv_has ls 2 [(0, .ref (ad k))] := hl
  rw [mX2_readStores]
  refine sx_aload_n C0 dX2_readStores_0 rfl (lv_at hl 0 rfl) ?_
  refine sw_bind (fun S1 e1 => ?_)
  refine cv_X2_61 (As := []) C0 (c_X2_skipBlanks C0.2.2.2.2.2.2.2.1 k hk S _ e1) hk.1 ⟨rfl, rfl⟩ ⟨Nat.le_of_ble_eq_true rfl, Nat.le_of_ble_eq_true rfl⟩ rfl hl.1 (Nat.le_of_ble_eq_true rfl) rfl dX2_readStores_1 (fun _ => ?_)
  refine sx_aload_n C0 dX2_readStores_4 rfl (lv_at hl 0 rfl) ?_
  refine sw_bind (fun a5 e5 => ?_)
  refine cv_X2_64 (As := []) C0 (c_X2_sign C0.2.2.2.2.2.2.2.1 k hk S1 _ e5) hk.1 ⟨rfl, rfl⟩ ⟨Nat.le_of_ble_eq_true rfl, Nat.le_of_ble_eq_true rfl⟩ rfl hl.1 (Nat.le_of_ble_eq_true rfl) rfl dX2_readStores_5 (fun _ => ?_)
  refine sx_bipush (v := 102) C0 dX2_readStores_8 (by decide) ?_
  refine sx_icmp_eq (tgt := 22) C0 dX2_readStores_10 (by decide) (fun _ => ?_) (fun _ => ?_)
  · refine sx_aload_n C0 dX2_readStores_22 rfl (lv_at hl 0 rfl) ?_
    refine sx_dup C0 dX2_readStores_23 rfl ?_
    refine gf_X2_29 C0 hk.1 dX2_readStores_24 ?_
    refine sx_iconst (v := 1) C0 dX2_readStores_27 (by decide) ?_
    refine sx_iadd C0 dX2_readStores_28 ?_
    refine pf_X2_29 C0 hk.1 dX2_readStores_29 (fun S29 => ?_)
    refine sx_iconst (v := 0) C0 dX2_readStores_32 (by decide) ?_
    refine sx_istore_n (lv' := [(1, .int (0 : Int32)), (0, .ref (ad k))]) C0 dX2_readStores_33 rfl hl (by decide) rfl (fun ls hl => ?_)
    exact lX2_readStores_34_t C0 k hk _ _ _ _ (lv_sub hl [1, 0] rfl)
  · refine sx_aload_n C0 dX2_readStores_13 rfl (lv_at hl 0 rfl) ?_
    refine sx_aload_n C0 dX2_readStores_14 rfl (lv_at hl 0 rfl) ?_
    refine gf_X2_29 C0 hk.1 dX2_readStores_15 ?_
    refine pf_X2_32 C0 hk.1 dX2_readStores_18 (fun S18 => ?_)
    exact sx_vret C0 rfl rfl trivial dX2_readStores_21
abbrev rm_X2_kind : Room := { frames := 1, cells := 0, slots := 0, locals := 20 }
def bX2_kind_40 (k : Nat)   (S : vS)   : Option (Int32 × vS) := (lt (wI S k 5 (S.1 k 4)) fun S45 => (some ((0 : Int32), S45)))
set_option maxHeartbeats 4000000 in
set_option maxRecDepth 100000 in
theorem bX2_kind_40_t {p : Program} {l : Launch} {e : Env} {s : State} {m : MethodId} {args : Array Value} {below : List Frame} {meth : Method} {c : Code} {D : va_G} {cA : Nat → ClassId} {ad : Nat → Nat} {kl : Nat}   (C0 : Cx D vwCl tlC shC cA ad (ExC ad kl) RX2 cX2_kind 2 (some .int) p s m args meth c) (k : Nat) (hk : IsX2 k) (S : vS)  (ls : Array Slot) (hl : lv_has ls 2 [(0, .ref (ad k))]) : SW p l e rm_X2_kind s m args below meth c D vwCl shC cA ad (Fq D vwCl shC cA ad below args s (fun q => some (.int q.1) : (Int32 × vS) → Option Value) (fun q => q.2) (fun _ => True)) (bX2_kind_40 k S) S 40 ls [] := by
  rw [bX2_kind_40]
  refine sx_aload_n C0 dX2_kind_40 rfl (lv_at hl 0 rfl) ?_
  refine sx_aload_n C0 dX2_kind_41 rfl (lv_at hl 0 rfl) ?_
  refine gf_X2_29 C0 hk.1 dX2_kind_42 ?_
  refine pf_X2_32 C0 hk.1 dX2_kind_45 (fun S45 => ?_)
  refine sx_iconst (v := 0) C0 dX2_kind_48 (by decide) ?_
  exact sx_iret C0 rfl rfl trivial dX2_kind_49
def bX2_kind_22 (k : Nat)   (S : vS) (v1 : Int32)  : Option (Int32 × vS) := (lt (wI S k 4 ((S.1 k 4) + (1 : Int32))) fun S29 => (some (v1, S29)))
set_option maxHeartbeats 4000000 in
set_option maxRecDepth 100000 in
theorem bX2_kind_22_t {p : Program} {l : Launch} {e : Env} {s : State} {m : MethodId} {args : Array Value} {below : List Frame} {meth : Method} {c : Code} {D : va_G} {cA : Nat → ClassId} {ad : Nat → Nat} {kl : Nat}   (C0 : Cx D vwCl tlC shC cA ad (ExC ad kl) RX2 cX2_kind 2 (some .int) p s m args meth c) (k : Nat) (hk : IsX2 k) (S : vS) (v1 : Int32) (ls : Array Slot) (hl : lv_has ls 2 [(0, .ref (ad k)), (1, .int v1)]) : SW p l e rm_X2_kind s m args below meth c D vwCl shC cA ad (Fq D vwCl shC cA ad below args s (fun q => some (.int q.1) : (Int32 × vS) → Option Value) (fun q => q.2) (fun _ => True)) (bX2_kind_22 k S v1) S 22 ls [] := by
  rw [bX2_kind_22]
  refine sx_aload_n C0 dX2_kind_22 rfl (lv_at hl 0 rfl) ?_
  refine sx_dup C0 dX2_kind_23 rfl ?_
  refine gf_X2_29 C0 hk.1 dX2_kind_24 ?_
  refine sx_iconst (v := 1) C0 dX2_kind_27 (by decide) ?_
  refine sx_iadd C0 dX2_kind_28 ?_
  refine pf_X2_29 C0 hk.1 dX2_kind_29 (fun S29 => ?_)
  refine sx_iload_n C0 dX2_kind_32 rfl (lv_at hl 1 rfl) ?_
  exact sx_iret C0 rfl rfl trivial dX2_kind_33
def lX2_kind_2 (k : Nat) (S : vS)   : Nat → Int32 → Option (Int32 × vS)
  | 0, _ => none
  | n + 1, v1 => (if (6 : Int32) ≤ v1 then (bX2_kind_40 k S) else ((mX2_sign S k).bind fun a11 => ((gI kindL 6 v1).bind fun a18 => (if a11 = a18 then (bX2_kind_22 k S v1) else ((lX2_kind_2 k S n) (v1 + (1 : Int32)))))))
set_option maxHeartbeats 4000000 in
set_option maxRecDepth 100000 in
theorem lX2_kind_2_t {p : Program} {l : Launch} {e : Env} {s : State} {m : MethodId} {args : Array Value} {below : List Frame} {meth : Method} {c : Code} {D : va_G} {cA : Nat → ClassId} {ad : Nat → Nat} {kl : Nat}   (C0 : Cx D vwCl tlC shC cA ad (ExC ad kl) RX2 cX2_kind 2 (some .int) p s m args meth c) (k : Nat) (hk : IsX2 k) (S : vS)   : ∀ (n : Nat) (v1 : Int32) (ls : Array Slot), lv_has ls 2 [(0, .ref (ad k)), (1, .int v1)] → SW p l e rm_X2_kind s m args below meth c D vwCl shC cA ad (Fq D vwCl shC cA ad below args s (fun q => some (.int q.1) : (Int32 × vS) → Option Value) (fun q => q.2) (fun _ => True)) (lX2_kind_2 k S n v1) S 2 ls [] := by
  intro n
  induction n with
  | zero =>
    intro v1 ls hl
    rw [lX2_kind_2]
    exact sw_none
  | succ n ih =>
    intro v1 ls hl
    rw [lX2_kind_2]
    refine sx_iload_n C0 dX2_kind_2 rfl (lv_at hl 1 rfl) ?_
    refine sx_KL C0 dX2_kind_3 ?_
    refine sx_KLlen C0 dX2_kind_6 ?_
    refine sx_icmp_ge (tgt := 40) C0 dX2_kind_7 (by decide) (fun _ => ?_) (fun _ => ?_)
    · exact bX2_kind_40_t C0 k hk _ _ (lv_sub hl [0] rfl)
    · refine sx_aload_n C0 dX2_kind_10 rfl (lv_at hl 0 rfl) ?_
      refine sw_bind (fun a11 e11 => ?_)
      refine cv_X2_64 (As := []) C0 (c_X2_sign C0.2.2.2.2.2.2.2.1 k hk S _ e11) hk.1 ⟨rfl, rfl⟩ ⟨Nat.le_of_ble_eq_true rfl, Nat.le_of_ble_eq_true rfl⟩ rfl hl.1 (Nat.le_of_ble_eq_true rfl) rfl dX2_kind_11 (fun _ => ?_)
      refine sx_KL C0 dX2_kind_14 ?_
      refine sx_iload_n C0 dX2_kind_17 rfl (lv_at hl 1 rfl) ?_
      refine sx_KLald C0 dX2_kind_18 (fun a18 => ?_)
      refine sx_icmp_ne (tgt := 34) C0 dX2_kind_19 (by decide) (fun _ => ?_) (fun _ => ?_)
      · exact bX2_kind_22_t C0 k hk _ _ _ (lv_sub hl [0, 1] rfl)
      · refine sx_iinc (v := (v1 + (1 : Int32))) (lv' := [(1, .int (v1 + (1 : Int32))), (0, .ref (ad k))]) C0 dX2_kind_34 hl (k := 1) rfl rfl (by decide) rfl (fun ls hl => ?_)
        refine sx_goto (tgt := 2) C0 dX2_kind_37 (by decide) ?_
        exact ih _ _ (lv_sub hl [1, 0] rfl)
def mX2_kind (S : vS) (k : Nat) : Option (Int32 × vS) := (lX2_kind_2 k S FU (0 : Int32))
set_option maxHeartbeats 4000000 in
set_option maxRecDepth 100000 in
theorem c_X2_kind {l : Launch} {D : va_G} {cA : Nat → ClassId} {ad : Nat → Nat} {kl : Nat} (G : Gx shC ad (ExC ad kl)) (k : Nat) (hk : IsX2 k) (S : vS) (r : (Int32 × vS)) (hr : (mX2_kind S k) = some r) : Met l yX2_kind (Cond.code yX2_kind cX2_kind 2 (some .int) :: ALL) rm_X2_kind (Po D vwCl tlC shC cA ad (ExC ad kl) [.ref (ad k)] S) (Qo D vwCl shC cA ad (some (.int r.1)) r.2 True) 0 0 (aw shC ad) := by
  refine Met.sx (M := (mX2_kind S k)) (rv := (fun q => some (.int q.1) : (Int32 × vS) → Option Value)) (rs := fun q => q.2) (B := fun _ => True) (by decide) ⟨rfl, rfl⟩ (Nat.le_of_ble_eq_true rfl) G (fun p e s m args below meth c C0 ls hl => ?_) hr
  have hl : lv_has ls 2 [(0, .ref (ad k))] := hl
  rw [mX2_kind]
  refine sx_iconst (v := 0) C0 dX2_kind_0 (by decide) ?_
  refine sx_istore_n (lv' := [(1, .int (0 : Int32)), (0, .ref (ad k))]) C0 dX2_kind_1 rfl hl (by decide) rfl (fun ls hl => ?_)
  exact lX2_kind_2_t C0 k hk _ _ _ _ (lv_sub hl [1, 0] rfl)
abbrev rm_X2_neighbour : Room := { frames := 1, cells := 0, slots := 0, locals := 20 }
def bX2_neighbour_65 (k : Nat)   (S : vS) (v3 : Int32) (v4 : Int32)  : Option (Int32 × vS) := (lt (wI S k 4 ((S.1 k 4) + (1 : Int32))) fun S72 => (if v4 = 0 then (some ((-9 : Int32), S72)) else (some (v3, S72))))
set_option maxHeartbeats 4000000 in
set_option maxRecDepth 100000 in
theorem bX2_neighbour_65_t {p : Program} {l : Launch} {e : Env} {s : State} {m : MethodId} {args : Array Value} {below : List Frame} {meth : Method} {c : Code} {D : va_G} {cA : Nat → ClassId} {ad : Nat → Nat} {kl : Nat}   (C0 : Cx D vwCl tlC shC cA ad (ExC ad kl) RX2 cX2_neighbour 5 (some .int) p s m args meth c) (k : Nat) (hk : IsX2 k) (S : vS) (v3 : Int32) (v4 : Int32) (ls : Array Slot) (hl : lv_has ls 5 [(0, .ref (ad k)), (3, .int v3), (4, .int v4)]) : SW p l e rm_X2_neighbour s m args below meth c D vwCl shC cA ad (Fq D vwCl shC cA ad below args s (fun q => some (.int q.1) : (Int32 × vS) → Option Value) (fun q => q.2) (fun _ => True)) (bX2_neighbour_65 k S v3 v4) S 65 ls [] := by
  rw [bX2_neighbour_65]
  refine sx_aload_n C0 dX2_neighbour_65 rfl (lv_at hl 0 rfl) ?_
  refine sx_dup C0 dX2_neighbour_66 rfl ?_
  refine gf_X2_29 C0 hk.1 dX2_neighbour_67 ?_
  refine sx_iconst (v := 1) C0 dX2_neighbour_70 (by decide) ?_
  refine sx_iadd C0 dX2_neighbour_71 ?_
  refine pf_X2_29 C0 hk.1 dX2_neighbour_72 (fun S72 => ?_)
  refine sx_iload C0 dX2_neighbour_75 (lv_at hl 2 rfl) ?_
  refine sx_if_eq (tgt := 84) C0 dX2_neighbour_77 (by decide) (fun _ => ?_) (fun _ => ?_)
  · refine sx_bipush (v := (-9)) C0 dX2_neighbour_84 (by decide) ?_
    exact sx_iret C0 rfl rfl trivial dX2_neighbour_86
  · refine sx_iload_n C0 dX2_neighbour_80 rfl (lv_at hl 1 rfl) ?_
    refine sx_goto (tgt := 86) C0 dX2_neighbour_81 (by decide) ?_
    exact sx_iret C0 rfl rfl trivial dX2_neighbour_86
def bX2_neighbour_54 (k : Nat)   (S : vS)   : Option (Int32 × vS) := (lt (wI S k 5 (S.1 k 4)) fun S59 => (some ((-9 : Int32), S59)))
set_option maxHeartbeats 4000000 in
set_option maxRecDepth 100000 in
theorem bX2_neighbour_54_t {p : Program} {l : Launch} {e : Env} {s : State} {m : MethodId} {args : Array Value} {below : List Frame} {meth : Method} {c : Code} {D : va_G} {cA : Nat → ClassId} {ad : Nat → Nat} {kl : Nat}   (C0 : Cx D vwCl tlC shC cA ad (ExC ad kl) RX2 cX2_neighbour 5 (some .int) p s m args meth c) (k : Nat) (hk : IsX2 k) (S : vS)  (ls : Array Slot) (hl : lv_has ls 5 [(0, .ref (ad k))]) : SW p l e rm_X2_neighbour s m args below meth c D vwCl shC cA ad (Fq D vwCl shC cA ad below args s (fun q => some (.int q.1) : (Int32 × vS) → Option Value) (fun q => q.2) (fun _ => True)) (bX2_neighbour_54 k S) S 54 ls [] := by
  rw [bX2_neighbour_54]
  refine sx_aload_n C0 dX2_neighbour_54 rfl (lv_at hl 0 rfl) ?_
  refine sx_aload_n C0 dX2_neighbour_55 rfl (lv_at hl 0 rfl) ?_
  refine gf_X2_29 C0 hk.1 dX2_neighbour_56 ?_
  refine pf_X2_32 C0 hk.1 dX2_neighbour_59 (fun S59 => ?_)
  refine sx_bipush (v := (-9)) C0 dX2_neighbour_62 (by decide) ?_
  exact sx_iret C0 rfl rfl trivial dX2_neighbour_64
def bX2_neighbour_34 (k : Nat)   (S : vS) (v2 : Int32) (v3 : Int32) (t0 : Int32) : Option (Int32 × vS) := (if t0 = 0 then (if v2 = 0 then ((mX2_sign S k).bind fun a46 => (if a46 = (45 : Int32) then (bX2_neighbour_65 k S v3 t0) else (bX2_neighbour_54 k S))) else (bX2_neighbour_54 k S)) else (bX2_neighbour_65 k S v3 t0))
set_option maxHeartbeats 4000000 in
set_option maxRecDepth 100000 in
theorem bX2_neighbour_34_t {p : Program} {l : Launch} {e : Env} {s : State} {m : MethodId} {args : Array Value} {below : List Frame} {meth : Method} {c : Code} {D : va_G} {cA : Nat → ClassId} {ad : Nat → Nat} {kl : Nat}   (C0 : Cx D vwCl tlC shC cA ad (ExC ad kl) RX2 cX2_neighbour 5 (some .int) p s m args meth c) (k : Nat) (hk : IsX2 k) (S : vS) (v2 : Int32) (v3 : Int32) (t0 : Int32) (ls : Array Slot) (hl : lv_has ls 5 [(0, .ref (ad k)), (2, .int v2), (3, .int v3)]) : SW p l e rm_X2_neighbour s m args below meth c D vwCl shC cA ad (Fq D vwCl shC cA ad below args s (fun q => some (.int q.1) : (Int32 × vS) → Option Value) (fun q => q.2) (fun _ => True)) (bX2_neighbour_34 k S v2 v3 t0) S 34 ls [.int t0] := by
  rw [bX2_neighbour_34]
  refine sx_istore (lv' := [(4, .int t0), (0, .ref (ad k)), (2, .int v2), (3, .int v3)]) C0 dX2_neighbour_34 hl (by decide) rfl (fun ls hl => ?_)
  refine sx_iload C0 dX2_neighbour_36 (lv_at hl 0 rfl) ?_
  refine sx_if_ne (tgt := 65) C0 dX2_neighbour_38 (by decide) (fun _ => ?_) (fun _ => ?_)
  · refine sx_iload_n C0 dX2_neighbour_41 rfl (lv_at hl 2 rfl) ?_
    refine sx_if_ne (tgt := 54) C0 dX2_neighbour_42 (by decide) (fun _ => ?_) (fun _ => ?_)
    · refine sx_aload_n C0 dX2_neighbour_45 rfl (lv_at hl 1 rfl) ?_
      refine sw_bind (fun a46 e46 => ?_)
      refine cv_X2_64 (As := []) C0 (c_X2_sign C0.2.2.2.2.2.2.2.1 k hk S _ e46) hk.1 ⟨rfl, rfl⟩ ⟨Nat.le_of_ble_eq_true rfl, Nat.le_of_ble_eq_true rfl⟩ rfl hl.1 (Nat.le_of_ble_eq_true rfl) rfl dX2_neighbour_46 (fun _ => ?_)
      refine sx_bipush (v := 45) C0 dX2_neighbour_49 (by decide) ?_
      refine sx_icmp_eq (tgt := 65) C0 dX2_neighbour_51 (by decide) (fun _ => ?_) (fun _ => ?_)
      · exact bX2_neighbour_65_t C0 k hk _ _ _ _ (lv_sub hl [1, 3, 0] rfl)
      · exact bX2_neighbour_54_t C0 k hk _ _ (lv_sub hl [1] rfl)
    · exact bX2_neighbour_54_t C0 k hk _ _ (lv_sub hl [1] rfl)
  · exact bX2_neighbour_65_t C0 k hk _ _ _ _ (lv_sub hl [1, 3, 0] rfl)
def bX2_neighbour_33 (k : Nat)   (S : vS) (v2 : Int32) (v3 : Int32)  : Option (Int32 × vS) := (bX2_neighbour_34 k S v2 v3 (0 : Int32))
set_option maxHeartbeats 4000000 in
set_option maxRecDepth 100000 in
theorem bX2_neighbour_33_t {p : Program} {l : Launch} {e : Env} {s : State} {m : MethodId} {args : Array Value} {below : List Frame} {meth : Method} {c : Code} {D : va_G} {cA : Nat → ClassId} {ad : Nat → Nat} {kl : Nat}   (C0 : Cx D vwCl tlC shC cA ad (ExC ad kl) RX2 cX2_neighbour 5 (some .int) p s m args meth c) (k : Nat) (hk : IsX2 k) (S : vS) (v2 : Int32) (v3 : Int32) (ls : Array Slot) (hl : lv_has ls 5 [(0, .ref (ad k)), (2, .int v2), (3, .int v3)]) : SW p l e rm_X2_neighbour s m args below meth c D vwCl shC cA ad (Fq D vwCl shC cA ad below args s (fun q => some (.int q.1) : (Int32 × vS) → Option Value) (fun q => q.2) (fun _ => True)) (bX2_neighbour_33 k S v2 v3) S 33 ls [] := by
  rw [bX2_neighbour_33]
  refine sx_iconst (v := 0) C0 dX2_neighbour_33 (by decide) ?_
  exact bX2_neighbour_34_t C0 k hk _ _ _ _ _ (lv_sub hl [0, 1, 2] rfl)
def mX2_neighbour (S : vS) (k : Nat) (v1 : Int32) (v2 : Int32) : Option (Int32 × vS) := (if (S.1 k 5) = (-9 : Int32) then ((mX2_sign S k).bind fun a13 => (lt (a13 - (65 : Int32)) fun v3_19 => (if v3_19 < 0 then (bX2_neighbour_33 k S v2 v3_19) else (if v1 ≤ v3_19 then (bX2_neighbour_33 k S v2 v3_19) else (bX2_neighbour_34 k S v2 v3_19 (1 : Int32)))))) else (some ((-9 : Int32), S)))
set_option maxHeartbeats 4000000 in
set_option maxRecDepth 100000 in
theorem c_X2_neighbour {l : Launch} {D : va_G} {cA : Nat → ClassId} {ad : Nat → Nat} {kl : Nat} (G : Gx shC ad (ExC ad kl)) (k : Nat) (hk : IsX2 k) (v1 : Int32) (v2 : Int32) (S : vS) (r : (Int32 × vS)) (hr : (mX2_neighbour S k v1 v2) = some r) : Met l yX2_neighbour (Cond.code yX2_neighbour cX2_neighbour 5 (some .int) :: ALL) rm_X2_neighbour (Po D vwCl tlC shC cA ad (ExC ad kl) [.ref (ad k), .int v1, .int v2] S) (Qo D vwCl shC cA ad (some (.int r.1)) r.2 True) 0 0 (aw shC ad) := by
  refine Met.sx (M := (mX2_neighbour S k v1 v2)) (rv := (fun q => some (.int q.1) : (Int32 × vS) → Option Value)) (rs := fun q => q.2) (B := fun _ => True) (by decide) ⟨rfl, rfl⟩ (Nat.le_of_ble_eq_true rfl) G (fun p e s m args below meth c C0 ls hl => ?_) hr
  have hl : lv_has ls 5 [(0, .ref (ad k)), (1, .int v1), (2, .int v2)] := hl
  rw [mX2_neighbour]
  refine sx_aload_n C0 dX2_neighbour_0 rfl (lv_at hl 0 rfl) ?_
  refine gf_X2_32 C0 hk.1 dX2_neighbour_1 ?_
  refine sx_bipush (v := (-9)) C0 dX2_neighbour_4 (by decide) ?_
  refine sx_icmp_eq (tgt := 12) C0 dX2_neighbour_6 (by decide) (fun _ => ?_) (fun _ => ?_)
  · refine sx_aload_n C0 dX2_neighbour_12 rfl (lv_at hl 0 rfl) ?_
    refine sw_bind (fun a13 e13 => ?_)
    refine cv_X2_64 (As := []) C0 (c_X2_sign C0.2.2.2.2.2.2.2.1 k hk S _ e13) hk.1 ⟨rfl, rfl⟩ ⟨Nat.le_of_ble_eq_true rfl, Nat.le_of_ble_eq_true rfl⟩ rfl hl.1 (Nat.le_of_ble_eq_true rfl) rfl dX2_neighbour_13 (fun _ => ?_)
    refine sx_bipush (v := 65) C0 dX2_neighbour_16 (by decide) ?_
    refine sx_isub C0 dX2_neighbour_18 ?_
    refine sw_lt (val := .int) (fun v3_19 => ?_)
    refine sx_istore_n (lv' := [(3, .int v3_19), (0, .ref (ad k)), (1, .int v1), (2, .int v2)]) C0 dX2_neighbour_19 rfl hl (by decide) rfl (fun ls hl => ?_)
    refine sx_iload_n C0 dX2_neighbour_20 rfl (lv_at hl 0 rfl) ?_
    refine sx_if_lt (tgt := 33) C0 dX2_neighbour_21 (by decide) (fun _ => ?_) (fun _ => ?_)
    · exact bX2_neighbour_33_t C0 k hk _ _ _ _ (lv_sub hl [1, 3, 0] rfl)
    · refine sx_iload_n C0 dX2_neighbour_24 rfl (lv_at hl 0 rfl) ?_
      refine sx_iload_n C0 dX2_neighbour_25 rfl (lv_at hl 2 rfl) ?_
      refine sx_icmp_ge (tgt := 33) C0 dX2_neighbour_26 (by decide) (fun _ => ?_) (fun _ => ?_)
      · exact bX2_neighbour_33_t C0 k hk _ _ _ _ (lv_sub hl [1, 3, 0] rfl)
      · refine sx_iconst (v := 1) C0 dX2_neighbour_29 (by decide) ?_
        refine sx_goto (tgt := 34) C0 dX2_neighbour_30 (by decide) ?_
        exact bX2_neighbour_34_t C0 k hk _ _ _ _ _ (lv_sub hl [1, 3, 0] rfl)
  · refine sx_bipush (v := (-9)) C0 dX2_neighbour_9 (by decide) ?_
    exact sx_iret C0 rfl rfl trivial dX2_neighbour_11
abbrev rm_X2_readGod : Room := { frames := 2, cells := 0, slots := 0, locals := 44 }
def bX2_readGod_114 (k : Nat)   (S : vS) (v1 : Int32) (t0 : Int32) (t1 : Int32) (t3 : Int32) : Option vS := ((mX2_neighbour S k t1 t0).bind fun q114 => ((pI q114.2 ((k + 1) + 6) 4 t3 q114.1).bind fun S117 => (lt (wI S117 (k + 1) 0 (v1 + (1 : Int32))) fun S125 => (some S125))))
set_option maxHeartbeats 4000000 in
set_option maxRecDepth 100000 in
theorem bX2_readGod_114_t {p : Program} {l : Launch} {e : Env} {s : State} {m : MethodId} {args : Array Value} {below : List Frame} {meth : Method} {c : Code} {D : va_G} {cA : Nat → ClassId} {ad : Nat → Nat} {kl : Nat}   (C0 : Cx D vwCl tlC shC cA ad (ExC ad kl) RX2 cX2_readGod 2 none p s m args meth c) (k : Nat) (hk : IsX2 k) (S : vS) (v1 : Int32) (t0 : Int32) (t1 : Int32) (t3 : Int32) (ls : Array Slot) (hl : lv_has ls 2 [(0, .ref (ad k)), (1, .int v1)]) : SW p l e rm_X2_readGod s m args below meth c D vwCl shC cA ad (Fq D vwCl shC cA ad below args s (fun _ => none : vS → Option Value) (fun S1 => S1) (fun _ => True)) (bX2_readGod_114 k S v1 t0 t1 t3) S 114 ls [.int t0, .int t1, .ref (ad k), .int t3, .ref (ad ((k + 1) + 6))] := by
  rw [bX2_readGod_114]
  refine sw_bind (fun q114 e114 => ?_)
  refine cv_X2_96 (As := [.int t1, .int t0]) C0 (c_X2_neighbour C0.2.2.2.2.2.2.2.1 k hk t1 t0 S _ e114) hk.1 ⟨rfl, rfl⟩ ⟨Nat.le_of_ble_eq_true rfl, Nat.le_of_ble_eq_true rfl⟩ rfl hl.1 (Nat.le_of_ble_eq_true rfl) rfl dX2_readGod_114 (fun _ => ?_)
  refine sx_iast C0 hk.2.1.2.2.2.2.2.2.1 rfl dX2_readGod_117 (fun S117 => ?_)
  refine sx_aload_n C0 dX2_readGod_118 rfl (lv_at hl 0 rfl) ?_
  refine gf_X2_12 C0 hk.1 dX2_readGod_119 ?_
  refine sx_iload_n C0 dX2_readGod_122 rfl (lv_at hl 1 rfl) ?_
  refine sx_iconst (v := 1) C0 dX2_readGod_123 (by decide) ?_
  refine sx_iadd C0 dX2_readGod_124 ?_
  refine pf_X2_49 C0 hk.2.1.1 dX2_readGod_125 (fun S125 => ?_)
  exact sx_vret C0 rfl rfl trivial dX2_readGod_128
def mX2_readGod (S : vS) (k : Nat) (v1 : Int32) : Option vS := (if v1 < 0 then (some S) else (if v1 < (4 : Int32) then ((mX2_kind S k).bind fun q19 => ((pI q19.2 ((k + 1) + 1) 4 v1 q19.1).bind fun S22 => ((mX2_figure S22 k (0 : Int32) (2 : Int32)).bind fun q34 => ((pI q34.2 ((k + 1) + 2) 4 v1 q34.1).bind fun S37 => ((mX2_figure S37 k (1 : Int32) (6 : Int32)).bind fun q50 => ((pI q50.2 ((k + 1) + 3) 4 v1 q50.1).bind fun S53 => ((mX2_figure S53 k (0 : Int32) (9 : Int32)).bind fun q66 => ((pI q66.2 ((k + 1) + 4) 4 v1 q66.1).bind fun S69 => ((mX2_figure S69 k (0 : Int32) (9 : Int32)).bind fun q82 => ((pI q82.2 ((k + 1) + 5) 4 v1 q82.1).bind fun S85 => ((gI (S85.1 ((k + 1) + 1)) 4 v1).bind fun a104 => (if a104 = (1 : Int32) then (bX2_readGod_114 k S85 v1 (1 : Int32) v1 v1) else (bX2_readGod_114 k S85 v1 (0 : Int32) v1 v1))))))))))))) else (some S)))
set_option maxHeartbeats 4000000 in
set_option maxRecDepth 100000 in
theorem c_X2_readGod {l : Launch} {D : va_G} {cA : Nat → ClassId} {ad : Nat → Nat} {kl : Nat} (G : Gx shC ad (ExC ad kl)) (k : Nat) (hk : IsX2 k) (v1 : Int32) (S : vS) (r : vS) (hr : (mX2_readGod S k v1) = some r) : Met l yX2_readGod (Cond.code yX2_readGod cX2_readGod 2 none :: ALL) rm_X2_readGod (Po D vwCl tlC shC cA ad (ExC ad kl) [.ref (ad k), .int v1] S) (Qo D vwCl shC cA ad none r True) 0 0 (aw shC ad) := by
  refine Met.sx (M := (mX2_readGod S k v1)) (rv := (fun _ => none : vS → Option Value)) (rs := fun S1 => S1) (B := fun _ => True) (by decide) ⟨rfl, rfl⟩ (Nat.le_of_ble_eq_true rfl) G (fun p e s m args below meth c C0 ls hl => ?_) hr
  have hl : lv_has ls 2 [(0, .ref (ad k)), (1, .int v1)] := hl
  rw [mX2_readGod]
  refine sx_iload_n C0 dX2_readGod_0 rfl (lv_at hl 1 rfl) ?_
  refine sx_if_lt (tgt := 9) C0 dX2_readGod_1 (by decide) (fun _ => ?_) (fun _ => ?_)
  · exact sx_vret C0 rfl rfl trivial dX2_readGod_9
  · refine sx_iload_n C0 dX2_readGod_4 rfl (lv_at hl 1 rfl) ?_
    refine sx_iconst (v := 4) C0 dX2_readGod_5 (by decide) ?_
    refine sx_icmp_lt (tgt := 10) C0 dX2_readGod_6 (by decide) (fun _ => ?_) (fun _ => ?_)
    · refine sx_aload_n C0 dX2_readGod_10 rfl (lv_at hl 0 rfl) ?_
      refine gf_X2_12 C0 hk.1 dX2_readGod_11 ?_
      refine gf_X2_75 C0 hk.2.1.1 dX2_readGod_14 ?_
      refine sx_iload_n C0 dX2_readGod_17 rfl (lv_at hl 1 rfl) ?_
      refine sx_aload_n C0 dX2_readGod_18 rfl (lv_at hl 0 rfl) ?_
      refine sw_bind (fun q19 e19 => ?_)
      refine cv_X2_78 (As := []) C0 (c_X2_kind C0.2.2.2.2.2.2.2.1 k hk S _ e19) hk.1 ⟨rfl, rfl⟩ ⟨Nat.le_of_ble_eq_true rfl, Nat.le_of_ble_eq_true rfl⟩ rfl hl.1 (Nat.le_of_ble_eq_true rfl) rfl dX2_readGod_19 (fun _ => ?_)
      refine sx_iast C0 hk.2.1.2.1 rfl dX2_readGod_22 (fun S22 => ?_)
      refine sx_aload_n C0 dX2_readGod_23 rfl (lv_at hl 0 rfl) ?_
      refine gf_X2_12 C0 hk.1 dX2_readGod_24 ?_
      refine gf_X2_81 C0 hk.2.1.1 dX2_readGod_27 ?_
      refine sx_iload_n C0 dX2_readGod_30 rfl (lv_at hl 1 rfl) ?_
      refine sx_aload_n C0 dX2_readGod_31 rfl (lv_at hl 0 rfl) ?_
      refine sx_iconst (v := 0) C0 dX2_readGod_32 (by decide) ?_
      refine sx_iconst (v := 2) C0 dX2_readGod_33 (by decide) ?_
      refine sw_bind (fun q34 e34 => ?_)
      refine cv_X2_68 (As := [.int (0 : Int32), .int (2 : Int32)]) C0 (c_X2_figure C0.2.2.2.2.2.2.2.1 k hk (0 : Int32) (2 : Int32) S22 _ e34) hk.1 ⟨rfl, rfl⟩ ⟨Nat.le_of_ble_eq_true rfl, Nat.le_of_ble_eq_true rfl⟩ rfl hl.1 (Nat.le_of_ble_eq_true rfl) rfl dX2_readGod_34 (fun _ => ?_)
      refine sx_iast C0 hk.2.1.2.2.1 rfl dX2_readGod_37 (fun S37 => ?_)
      refine sx_aload_n C0 dX2_readGod_38 rfl (lv_at hl 0 rfl) ?_
      refine gf_X2_12 C0 hk.1 dX2_readGod_39 ?_
      refine gf_X2_84 C0 hk.2.1.1 dX2_readGod_42 ?_
      refine sx_iload_n C0 dX2_readGod_45 rfl (lv_at hl 1 rfl) ?_
      refine sx_aload_n C0 dX2_readGod_46 rfl (lv_at hl 0 rfl) ?_
      refine sx_iconst (v := 1) C0 dX2_readGod_47 (by decide) ?_
      refine sx_bipush (v := 6) C0 dX2_readGod_48 (by decide) ?_
      refine sw_bind (fun q50 e50 => ?_)
      refine cv_X2_68 (As := [.int (1 : Int32), .int (6 : Int32)]) C0 (c_X2_figure C0.2.2.2.2.2.2.2.1 k hk (1 : Int32) (6 : Int32) S37 _ e50) hk.1 ⟨rfl, rfl⟩ ⟨Nat.le_of_ble_eq_true rfl, Nat.le_of_ble_eq_true rfl⟩ rfl hl.1 (Nat.le_of_ble_eq_true rfl) rfl dX2_readGod_50 (fun _ => ?_)
      refine sx_iast C0 hk.2.1.2.2.2.1 rfl dX2_readGod_53 (fun S53 => ?_)
      refine sx_aload_n C0 dX2_readGod_54 rfl (lv_at hl 0 rfl) ?_
      refine gf_X2_12 C0 hk.1 dX2_readGod_55 ?_
      refine gf_X2_87 C0 hk.2.1.1 dX2_readGod_58 ?_
      refine sx_iload_n C0 dX2_readGod_61 rfl (lv_at hl 1 rfl) ?_
      refine sx_aload_n C0 dX2_readGod_62 rfl (lv_at hl 0 rfl) ?_
      refine sx_iconst (v := 0) C0 dX2_readGod_63 (by decide) ?_
      refine sx_bipush (v := 9) C0 dX2_readGod_64 (by decide) ?_
      refine sw_bind (fun q66 e66 => ?_)
      refine cv_X2_68 (As := [.int (0 : Int32), .int (9 : Int32)]) C0 (c_X2_figure C0.2.2.2.2.2.2.2.1 k hk (0 : Int32) (9 : Int32) S53 _ e66) hk.1 ⟨rfl, rfl⟩ ⟨Nat.le_of_ble_eq_true rfl, Nat.le_of_ble_eq_true rfl⟩ rfl hl.1 (Nat.le_of_ble_eq_true rfl) rfl dX2_readGod_66 (fun _ => ?_)
      refine sx_iast C0 hk.2.1.2.2.2.2.1 rfl dX2_readGod_69 (fun S69 => ?_)
      refine sx_aload_n C0 dX2_readGod_70 rfl (lv_at hl 0 rfl) ?_
      refine gf_X2_12 C0 hk.1 dX2_readGod_71 ?_
      refine gf_X2_90 C0 hk.2.1.1 dX2_readGod_74 ?_
      refine sx_iload_n C0 dX2_readGod_77 rfl (lv_at hl 1 rfl) ?_
      refine sx_aload_n C0 dX2_readGod_78 rfl (lv_at hl 0 rfl) ?_
      refine sx_iconst (v := 0) C0 dX2_readGod_79 (by decide) ?_
      refine sx_bipush (v := 9) C0 dX2_readGod_80 (by decide) ?_
      refine sw_bind (fun q82 e82 => ?_)
      refine cv_X2_68 (As := [.int (0 : Int32), .int (9 : Int32)]) C0 (c_X2_figure C0.2.2.2.2.2.2.2.1 k hk (0 : Int32) (9 : Int32) S69 _ e82) hk.1 ⟨rfl, rfl⟩ ⟨Nat.le_of_ble_eq_true rfl, Nat.le_of_ble_eq_true rfl⟩ rfl hl.1 (Nat.le_of_ble_eq_true rfl) rfl dX2_readGod_82 (fun _ => ?_)
      refine sx_iast C0 hk.2.1.2.2.2.2.2.1 rfl dX2_readGod_85 (fun S85 => ?_)
      refine sx_aload_n C0 dX2_readGod_86 rfl (lv_at hl 0 rfl) ?_
      refine gf_X2_12 C0 hk.1 dX2_readGod_87 ?_
      refine gf_X2_93 C0 hk.2.1.1 dX2_readGod_90 ?_
      refine sx_iload_n C0 dX2_readGod_93 rfl (lv_at hl 1 rfl) ?_
      refine sx_aload_n C0 dX2_readGod_94 rfl (lv_at hl 0 rfl) ?_
      refine sx_iload_n C0 dX2_readGod_95 rfl (lv_at hl 1 rfl) ?_
      refine sx_aload_n C0 dX2_readGod_96 rfl (lv_at hl 0 rfl) ?_
      refine gf_X2_12 C0 hk.1 dX2_readGod_97 ?_
      refine gf_X2_75 C0 hk.2.1.1 dX2_readGod_100 ?_
      refine sx_iload_n C0 dX2_readGod_103 rfl (lv_at hl 1 rfl) ?_
      refine sx_iald C0 hk.2.1.2.1 rfl dX2_readGod_104 (fun a104 => ?_)
      refine sx_iconst (v := 1) C0 dX2_readGod_105 (by decide) ?_
      refine sx_icmp_ne (tgt := 113) C0 dX2_readGod_106 (by decide) (fun _ => ?_) (fun _ => ?_)
      · refine sx_iconst (v := 1) C0 dX2_readGod_109 (by decide) ?_
        refine sx_goto (tgt := 114) C0 dX2_readGod_110 (by decide) ?_
        exact bX2_readGod_114_t C0 k hk _ _ _ _ _ _ (lv_sub hl [0, 1] rfl)
      · refine sx_iconst (v := 0) C0 dX2_readGod_113 (by decide) ?_
        exact bX2_readGod_114_t C0 k hk _ _ _ _ _ _ (lv_sub hl [0, 1] rfl)
    · exact sx_vret C0 rfl rfl trivial dX2_readGod_9
abbrev rm_X2_readGods : Room := { frames := 3, cells := 0, slots := 0, locals := 65 }
def bX2_readGods_37 (k : Nat)   (S : vS)   : Option vS := (lt (wI S k 5 (S.1 k 4)) fun S42 => (some S42))
set_option maxHeartbeats 4000000 in
set_option maxRecDepth 100000 in
theorem bX2_readGods_37_t {p : Program} {l : Launch} {e : Env} {s : State} {m : MethodId} {args : Array Value} {below : List Frame} {meth : Method} {c : Code} {D : va_G} {cA : Nat → ClassId} {ad : Nat → Nat} {kl : Nat}   (C0 : Cx D vwCl tlC shC cA ad (ExC ad kl) RX2 cX2_readGods 2 none p s m args meth c) (k : Nat) (hk : IsX2 k) (S : vS)  (ls : Array Slot) (hl : lv_has ls 2 [(0, .ref (ad k))]) : SW p l e rm_X2_readGods s m args below meth c D vwCl shC cA ad (Fq D vwCl shC cA ad below args s (fun _ => none : vS → Option Value) (fun S1 => S1) (fun _ => True)) (bX2_readGods_37 k S) S 37 ls [] := by
  rw [bX2_readGods_37]
  refine sx_aload_n C0 dX2_readGods_37 rfl (lv_at hl 0 rfl) ?_
  refine sx_aload_n C0 dX2_readGods_38 rfl (lv_at hl 0 rfl) ?_
  refine gf_X2_29 C0 hk.1 dX2_readGods_39 ?_
  refine pf_X2_32 C0 hk.1 dX2_readGods_42 (fun S42 => ?_)
  exact sx_vret C0 rfl rfl trivial dX2_readGods_45
def lX2_readGods_2 (k : Nat)    : Nat → vS → Int32 → Option vS
  | 0, _, _ => none
  | n + 1, S, v1 => (if (4 : Int32) < v1 then (some S) else ((mX2_skipBlanks S k).bind fun S8 => (if (S8.1 k 5) = (-9 : Int32) then (if (S8.1 k 4) < (S8.1 k 3) then (if v1 = (4 : Int32) then (bX2_readGods_37 k S8) else ((mX2_readGod S8 k v1).bind fun S48 => ((lX2_readGods_2 k n) S48 (v1 + (1 : Int32))))) else (some S8)) else (some S8))))
set_option maxHeartbeats 4000000 in
set_option maxRecDepth 100000 in
theorem lX2_readGods_2_t {p : Program} {l : Launch} {e : Env} {s : State} {m : MethodId} {args : Array Value} {below : List Frame} {meth : Method} {c : Code} {D : va_G} {cA : Nat → ClassId} {ad : Nat → Nat} {kl : Nat}   (C0 : Cx D vwCl tlC shC cA ad (ExC ad kl) RX2 cX2_readGods 2 none p s m args meth c) (k : Nat) (hk : IsX2 k)    : ∀ (n : Nat) (S : vS) (v1 : Int32) (ls : Array Slot), lv_has ls 2 [(0, .ref (ad k)), (1, .int v1)] → SW p l e rm_X2_readGods s m args below meth c D vwCl shC cA ad (Fq D vwCl shC cA ad below args s (fun _ => none : vS → Option Value) (fun S1 => S1) (fun _ => True)) (lX2_readGods_2 k n S v1) S 2 ls [] := by
  intro n
  induction n with
  | zero =>
    intro S v1 ls hl
    rw [lX2_readGods_2]
    exact sw_none
  | succ n ih =>
    intro S v1 ls hl
    rw [lX2_readGods_2]
    refine sx_iload_n C0 dX2_readGods_2 rfl (lv_at hl 1 rfl) ?_
    refine sx_iconst (v := 4) C0 dX2_readGods_3 (by decide) ?_
    refine sx_icmp_gt (tgt := 57) C0 dX2_readGods_4 (by decide) (fun _ => ?_) (fun _ => ?_)
    · exact sx_vret C0 rfl rfl trivial dX2_readGods_57
    · refine sx_aload_n C0 dX2_readGods_7 rfl (lv_at hl 0 rfl) ?_
      refine sw_bind (fun S8 e8 => ?_)
      refine cv_X2_61 (As := []) C0 (c_X2_skipBlanks C0.2.2.2.2.2.2.2.1 k hk S _ e8) hk.1 ⟨rfl, rfl⟩ ⟨Nat.le_of_ble_eq_true rfl, Nat.le_of_ble_eq_true rfl⟩ rfl hl.1 (Nat.le_of_ble_eq_true rfl) rfl dX2_readGods_8 (fun _ => ?_)
      refine sx_aload_n C0 dX2_readGods_11 rfl (lv_at hl 0 rfl) ?_
      refine gf_X2_32 C0 hk.1 dX2_readGods_12 ?_
      refine sx_bipush (v := (-9)) C0 dX2_readGods_15 (by decide) ?_
      refine sx_icmp_ne (tgt := 31) C0 dX2_readGods_17 (by decide) (fun _ => ?_) (fun _ => ?_)
      · refine sx_aload_n C0 dX2_readGods_20 rfl (lv_at hl 0 rfl) ?_
        refine gf_X2_29 C0 hk.1 dX2_readGods_21 ?_
        refine sx_aload_n C0 dX2_readGods_24 rfl (lv_at hl 0 rfl) ?_
        refine gf_X2_25 C0 hk.1 dX2_readGods_25 ?_
        refine sx_icmp_lt (tgt := 32) C0 dX2_readGods_28 (by decide) (fun _ => ?_) (fun _ => ?_)
        · refine sx_iload_n C0 dX2_readGods_32 rfl (lv_at hl 1 rfl) ?_
          refine sx_iconst (v := 4) C0 dX2_readGods_33 (by decide) ?_
          refine sx_icmp_ne (tgt := 46) C0 dX2_readGods_34 (by decide) (fun _ => ?_) (fun _ => ?_)
          · exact bX2_readGods_37_t C0 k hk _ _ (lv_sub hl [0] rfl)
          · refine sx_aload_n C0 dX2_readGods_46 rfl (lv_at hl 0 rfl) ?_
            refine sx_iload_n C0 dX2_readGods_47 rfl (lv_at hl 1 rfl) ?_
            refine sw_bind (fun S48 e48 => ?_)
            refine cv_X2_71 (As := [.int v1]) C0 (c_X2_readGod C0.2.2.2.2.2.2.2.1 k hk v1 S8 _ e48) hk.1 ⟨rfl, rfl⟩ ⟨Nat.le_of_ble_eq_true rfl, Nat.le_of_ble_eq_true rfl⟩ rfl hl.1 (Nat.le_of_ble_eq_true rfl) rfl dX2_readGods_48 (fun _ => ?_)
            refine sx_iinc (v := (v1 + (1 : Int32))) (lv' := [(1, .int (v1 + (1 : Int32))), (0, .ref (ad k))]) C0 dX2_readGods_51 hl (k := 1) rfl rfl (by decide) rfl (fun ls hl => ?_)
            refine sx_goto (tgt := 2) C0 dX2_readGods_54 (by decide) ?_
            exact ih _ _ _ (lv_sub hl [1, 0] rfl)
        · exact sx_vret C0 rfl rfl trivial dX2_readGods_31
      · exact sx_vret C0 rfl rfl trivial dX2_readGods_31
def mX2_readGods (S : vS) (k : Nat) : Option vS := (lX2_readGods_2 k FU S (0 : Int32))
set_option maxHeartbeats 4000000 in
set_option maxRecDepth 100000 in
theorem c_X2_readGods {l : Launch} {D : va_G} {cA : Nat → ClassId} {ad : Nat → Nat} {kl : Nat} (G : Gx shC ad (ExC ad kl)) (k : Nat) (hk : IsX2 k) (S : vS) (r : vS) (hr : (mX2_readGods S k) = some r) : Met l yX2_readGods (Cond.code yX2_readGods cX2_readGods 2 none :: ALL) rm_X2_readGods (Po D vwCl tlC shC cA ad (ExC ad kl) [.ref (ad k)] S) (Qo D vwCl shC cA ad none r True) 0 0 (aw shC ad) := by
  refine Met.sx (M := (mX2_readGods S k)) (rv := (fun _ => none : vS → Option Value)) (rs := fun S1 => S1) (B := fun _ => True) (by decide) ⟨rfl, rfl⟩ (Nat.le_of_ble_eq_true rfl) G (fun p e s m args below meth c C0 ls hl => ?_) hr
  have hl : lv_has ls 2 [(0, .ref (ad k))] := hl
  rw [mX2_readGods]
  refine sx_iconst (v := 0) C0 dX2_readGods_0 (by decide) ?_
  refine sx_istore_n (lv' := [(1, .int (0 : Int32)), (0, .ref (ad k))]) C0 dX2_readGods_1 rfl hl (by decide) rfl (fun ls hl => ?_)
  exact lX2_readGods_2_t C0 k hk _ _ _ _ (lv_sub hl [1, 0] rfl)
abbrev rm_X2_firstFault : Room := { frames := 4, cells := 0, slots := 0, locals := 87 }
def bX2_firstFault_42 (k : Nat) (k1 n1 : Nat)   (S : vS)   : Option (Int32 × vS) := (lt (wI S k 4 (0 : Int32)) fun S44 => (lt (wI S44 k 5 (-9 : Int32)) fun S50 => (lt (wI S50 (k + 1) 0 (0 : Int32)) fun S58 => ((mX2_readStores S58 k).bind fun S62 => ((mX2_readGods S62 k).bind fun S66 => ((mX0_settle S66 (k + 1)).bind fun S73 => (some ((S73.1 k 5), S73))))))))
set_option maxHeartbeats 4000000 in
set_option maxRecDepth 100000 in
theorem bX2_firstFault_42_t {p : Program} {l : Launch} {e : Env} {s : State} {m : MethodId} {args : Array Value} {below : List Frame} {meth : Method} {c : Code} {D : va_G} {cA : Nat → ClassId} {ad : Nat → Nat} {kl : Nat}   (C0 : Cx D vwCl tlC shC cA ad (ExC ad kl) RX2 cX2_firstFault 4 (some .int) p s m args meth c) (k : Nat) (hk : IsX2 k) (k1 n1 : Nat) (h1 : IsX4 k1 n1) (S : vS)  (ls : Array Slot) (hl : lv_has ls 4 [(0, .ref (ad k))]) : SW p l e rm_X2_firstFault s m args below meth c D vwCl shC cA ad (Fq D vwCl shC cA ad below args s (fun q => some (.int q.1) : (Int32 × vS) → Option Value) (fun q => q.2) (fun _ => True)) (bX2_firstFault_42 k k1 n1 S) S 42 ls [] := by
  rw [bX2_firstFault_42]
  refine sx_aload_n C0 dX2_firstFault_42 rfl (lv_at hl 0 rfl) ?_
  refine sx_iconst (v := 0) C0 dX2_firstFault_43 (by decide) ?_
  refine pf_X2_29 C0 hk.1 dX2_firstFault_44 (fun S44 => ?_)
  refine sx_aload_n C0 dX2_firstFault_47 rfl (lv_at hl 0 rfl) ?_
  refine sx_bipush (v := (-9)) C0 dX2_firstFault_48 (by decide) ?_
  refine pf_X2_32 C0 hk.1 dX2_firstFault_50 (fun S50 => ?_)
  refine sx_aload_n C0 dX2_firstFault_53 rfl (lv_at hl 0 rfl) ?_
  refine gf_X2_12 C0 hk.1 dX2_firstFault_54 ?_
  refine sx_iconst (v := 0) C0 dX2_firstFault_57 (by decide) ?_
  refine pf_X2_49 C0 hk.2.1.1 dX2_firstFault_58 (fun S58 => ?_)
  refine sx_aload_n C0 dX2_firstFault_61 rfl (lv_at hl 0 rfl) ?_
  refine sw_bind (fun S62 e62 => ?_)
  refine cv_X2_52 (As := []) C0 (c_X2_readStores C0.2.2.2.2.2.2.2.1 k hk S58 _ e62) hk.1 ⟨rfl, rfl⟩ ⟨Nat.le_of_ble_eq_true rfl, Nat.le_of_ble_eq_true rfl⟩ rfl hl.1 (Nat.le_of_ble_eq_true rfl) rfl dX2_firstFault_62 (fun _ => ?_)
  refine sx_aload_n C0 dX2_firstFault_65 rfl (lv_at hl 0 rfl) ?_
  refine sw_bind (fun S66 e66 => ?_)
  refine cv_X2_55 (As := []) C0 (c_X2_readGods C0.2.2.2.2.2.2.2.1 k hk S62 _ e66) hk.1 ⟨rfl, rfl⟩ ⟨Nat.le_of_ble_eq_true rfl, Nat.le_of_ble_eq_true rfl⟩ rfl hl.1 (Nat.le_of_ble_eq_true rfl) rfl dX2_firstFault_66 (fun _ => ?_)
  refine sx_aload_n C0 dX2_firstFault_69 rfl (lv_at hl 0 rfl) ?_
  refine gf_X2_12 C0 hk.1 dX2_firstFault_70 ?_
  refine sw_bind (fun S73 e73 => ?_)
  refine cv_X2_58 (As := []) C0 (c_X0_settle C0.2.2.2.2.2.2.2.1 (k + 1) hk.2.1 S66 _ e73) hk.2.1.1 ⟨rfl, rfl⟩ ⟨Nat.le_of_ble_eq_true rfl, Nat.le_of_ble_eq_true rfl⟩ rfl hl.1 (Nat.le_of_ble_eq_true rfl) rfl dX2_firstFault_73 (fun _ => ?_)
  refine sx_aload_n C0 dX2_firstFault_76 rfl (lv_at hl 0 rfl) ?_
  refine gf_X2_32 C0 hk.1 dX2_firstFault_77 ?_
  exact sx_iret C0 rfl rfl trivial dX2_firstFault_80
def lX2_firstFault_16 (k : Nat) (k1 n1 : Nat)   (v2 : Int32) : Nat → vS → Int32 → Option (Int32 × vS)
  | 0, _, _ => none
  | n + 1, S, v3 => (if (S.1 k 3) ≤ v3 then (bX2_firstFault_42 k k1 n1 S) else ((mX4_read S k1 n1 v2 v3).bind fun a32 => ((pI S (k + 12) 60 v3 a32).bind fun S35 => ((lX2_firstFault_16 k k1 n1 v2 n) S35 (v3 + (1 : Int32))))))
set_option maxHeartbeats 4000000 in
set_option maxRecDepth 100000 in
theorem lX2_firstFault_16_t {p : Program} {l : Launch} {e : Env} {s : State} {m : MethodId} {args : Array Value} {below : List Frame} {meth : Method} {c : Code} {D : va_G} {cA : Nat → ClassId} {ad : Nat → Nat} {kl : Nat}   (C0 : Cx D vwCl tlC shC cA ad (ExC ad kl) RX2 cX2_firstFault 4 (some .int) p s m args meth c) (k : Nat) (hk : IsX2 k) (k1 n1 : Nat) (h1 : IsX4 k1 n1)  (v2 : Int32)  : ∀ (n : Nat) (S : vS) (v3 : Int32) (ls : Array Slot), lv_has ls 4 [(0, .ref (ad k)), (1, .ref (ad k1)), (2, .int v2), (3, .int v3)] → SW p l e rm_X2_firstFault s m args below meth c D vwCl shC cA ad (Fq D vwCl shC cA ad below args s (fun q => some (.int q.1) : (Int32 × vS) → Option Value) (fun q => q.2) (fun _ => True)) (lX2_firstFault_16 k k1 n1 v2 n S v3) S 16 ls [] := by
  intro n
  induction n with
  | zero =>
    intro S v3 ls hl
    rw [lX2_firstFault_16]
    exact sw_none
  | succ n ih =>
    intro S v3 ls hl
    rw [lX2_firstFault_16]
    refine sx_iload_n C0 dX2_firstFault_16 rfl (lv_at hl 3 rfl) ?_
    refine sx_aload_n C0 dX2_firstFault_17 rfl (lv_at hl 0 rfl) ?_
    refine gf_X2_25 C0 hk.1 dX2_firstFault_18 ?_
    refine sx_icmp_ge (tgt := 42) C0 dX2_firstFault_21 (by decide) (fun _ => ?_) (fun _ => ?_)
    · exact bX2_firstFault_42_t C0 k hk k1 n1 h1 _ _ (lv_sub hl [0] rfl)
    · refine sx_aload_n C0 dX2_firstFault_24 rfl (lv_at hl 0 rfl) ?_
      refine gf_X2_22 C0 hk.1 dX2_firstFault_25 ?_
      refine sx_iload_n C0 dX2_firstFault_28 rfl (lv_at hl 3 rfl) ?_
      refine sx_aload_n C0 dX2_firstFault_29 rfl (lv_at hl 1 rfl) ?_
      refine sx_iload_n C0 dX2_firstFault_30 rfl (lv_at hl 2 rfl) ?_
      refine sx_iload_n C0 dX2_firstFault_31 rfl (lv_at hl 3 rfl) ?_
      refine sw_bind (fun a32 e32 => ?_)
      refine cv_X2_46 (As := [.int v2, .int v3]) C0 (c_X4_read C0.2.2.2.2.2.2.2.1 k1 n1 h1 v2 v3 S _ e32) h1.1 ⟨rfl, rfl⟩ ⟨Nat.le_of_ble_eq_true rfl, Nat.le_of_ble_eq_true rfl⟩ rfl hl.1 (Nat.le_of_ble_eq_true rfl) rfl dX2_firstFault_32 (fun _ => ?_)
      refine sx_iast C0 hk.2.2.2 rfl dX2_firstFault_35 (fun S35 => ?_)
      refine sx_iinc (v := (v3 + (1 : Int32))) (lv' := [(3, .int (v3 + (1 : Int32))), (0, .ref (ad k)), (1, .ref (ad k1)), (2, .int v2)]) C0 dX2_firstFault_36 hl (k := 3) rfl rfl (by decide) rfl (fun ls hl => ?_)
      refine sx_goto (tgt := 16) C0 dX2_firstFault_39 (by decide) ?_
      exact ih _ _ _ (lv_sub hl [1, 2, 3, 0] rfl)
def mX2_firstFault (S : vS) (k : Nat) (k1 n1 : Nat) (v2 : Int32) : Option (Int32 × vS) := ((mX4_size S k1 n1 v2).bind fun a3 => (lt (wI S k 3 (mnI a3 (60 : Int32))) fun S11 => (lX2_firstFault_16 k k1 n1 v2 FU S11 (0 : Int32))))
set_option maxHeartbeats 4000000 in
set_option maxRecDepth 100000 in
theorem c_X2_firstFault {l : Launch} {D : va_G} {cA : Nat → ClassId} {ad : Nat → Nat} {kl : Nat} (G : Gx shC ad (ExC ad kl)) (k : Nat) (hk : IsX2 k) (k1 n1 : Nat) (h1 : IsX4 k1 n1) (v2 : Int32) (S : vS) (r : (Int32 × vS)) (hr : (mX2_firstFault S k k1 n1 v2) = some r) : Met l yX2_firstFault (Cond.code yX2_firstFault cX2_firstFault 4 (some .int) :: ALL) rm_X2_firstFault (Po D vwCl tlC shC cA ad (ExC ad kl) [.ref (ad k), .ref (ad k1), .int v2] S) (Qo D vwCl shC cA ad (some (.int r.1)) r.2 True) 0 0 (aw shC ad) := by
  refine Met.sx (M := (mX2_firstFault S k k1 n1 v2)) (rv := (fun q => some (.int q.1) : (Int32 × vS) → Option Value)) (rs := fun q => q.2) (B := fun _ => True) (by decide) ⟨rfl, rfl⟩ (Nat.le_of_ble_eq_true rfl) G (fun p e s m args below meth c C0 ls hl => ?_) hr
  have hl : lv_has ls 4 [(0, .ref (ad k)), (1, .ref (ad k1)), (2, .int v2)] := hl
  rw [mX2_firstFault]
  refine sx_aload_n C0 dX2_firstFault_0 rfl (lv_at hl 0 rfl) ?_
  refine sx_aload_n C0 dX2_firstFault_1 rfl (lv_at hl 1 rfl) ?_
  refine sx_iload_n C0 dX2_firstFault_2 rfl (lv_at hl 2 rfl) ?_
  refine sw_bind (fun a3 e3 => ?_)
  refine cv_X2_35 (As := [.int v2]) C0 (c_X4_size C0.2.2.2.2.2.2.2.1 k1 n1 h1 v2 S _ e3) h1.1 ⟨rfl, rfl⟩ ⟨Nat.le_of_ble_eq_true rfl, Nat.le_of_ble_eq_true rfl⟩ rfl hl.1 (Nat.le_of_ble_eq_true rfl) rfl dX2_firstFault_3 (fun _ => ?_)
  refine sx_bipush (v := 60) C0 dX2_firstFault_6 (by decide) ?_
  refine sx_mmin C0 wm_X2_40 hl.1 ⟨Nat.le_of_ble_eq_true rfl, Nat.le_of_ble_eq_true rfl⟩ dX2_firstFault_8 ?_
  refine pf_X2_25 C0 hk.1 dX2_firstFault_11 (fun S11 => ?_)
  refine sx_iconst (v := 0) C0 dX2_firstFault_14 (by decide) ?_
  refine sx_istore_n (lv' := [(3, .int (0 : Int32)), (0, .ref (ad k)), (1, .ref (ad k1)), (2, .int v2)]) C0 dX2_firstFault_15 rfl hl (by decide) rfl (fun ls hl => ?_)
  exact lX2_firstFault_16_t C0 k hk k1 n1 h1 _ _ _ _ _ (lv_sub hl [1, 2, 3, 0] rfl)
abbrev rm_X5_begin : Room := { frames := 2, cells := 0, slots := 0, locals := 45 }
def mX5_begin (S : vS) (k : Nat) (k1 : Nat) (k2 n2 : Nat) : Option vS := ((mX0_take S (k + 1) k1).bind fun S5 => ((mX3_begin S5 (k + 11) k2 n2).bind fun S13 => (some S13)))
set_option maxHeartbeats 4000000 in
set_option maxRecDepth 100000 in
theorem c_X5_begin {l : Launch} {D : va_G} {cA : Nat → ClassId} {ad : Nat → Nat} {kl : Nat} (G : Gx shC ad (ExC ad kl)) (k : Nat) (hk : IsX5 k) (k1 : Nat) (h1 : IsX0 k1) (k2 n2 : Nat) (h2 : shC[k2]? = some (.inl (0, n2))) (S : vS) (r : vS) (hr : (mX5_begin S k k1 k2 n2) = some r) : Met l yX5_begin (Cond.code yX5_begin cX5_begin 3 none :: ALL) rm_X5_begin (Po D vwCl tlC shC cA ad (ExC ad kl) [.ref (ad k), .ref (ad k1), .ref (ad k2)] S) (Qo D vwCl shC cA ad none r True) 0 0 (aw shC ad) := by
  refine Met.sx (M := (mX5_begin S k k1 k2 n2)) (rv := (fun _ => none : vS → Option Value)) (rs := fun S1 => S1) (B := fun _ => True) (by decide) ⟨rfl, rfl⟩ (Nat.le_of_ble_eq_true rfl) G (fun p e s m args below meth c C0 ls hl => ?_) hr
  have hl : lv_has ls 3 [(0, .ref (ad k)), (1, .ref (ad k1)), (2, .ref (ad k2))] := hl
  rw [mX5_begin]
  refine sx_aload_n C0 dX5_begin_0 rfl (lv_at hl 0 rfl) ?_
  refine gf_X5_16 C0 hk.1 dX5_begin_1 ?_
  refine sx_aload_n C0 dX5_begin_4 rfl (lv_at hl 1 rfl) ?_
  refine sw_bind (fun S5 e5 => ?_)
  refine cv_X5_33 (As := [.ref (ad k1)]) C0 (c_X0_take C0.2.2.2.2.2.2.2.1 (k + 1) hk.2.1 k1 h1 S _ e5) hk.2.1.1 ⟨rfl, rfl⟩ ⟨Nat.le_of_ble_eq_true rfl, Nat.le_of_ble_eq_true rfl⟩ rfl hl.1 (Nat.le_of_ble_eq_true rfl) rfl dX5_begin_5 (fun _ => ?_)
  refine sx_aload_n C0 dX5_begin_8 rfl (lv_at hl 0 rfl) ?_
  refine gf_X5_21 C0 hk.1 dX5_begin_9 ?_
  refine sx_aload_n C0 dX5_begin_12 rfl (lv_at hl 2 rfl) ?_
  refine sw_bind (fun S13 e13 => ?_)
  refine cv_X5_37 (As := [.ref (ad k2)]) C0 (c_X3_begin C0.2.2.2.2.2.2.2.1 (k + 11) hk.2.2.1 k2 n2 h2 S5 _ e13) hk.2.2.1.1 ⟨rfl, rfl⟩ ⟨Nat.le_of_ble_eq_true rfl, Nat.le_of_ble_eq_true rfl⟩ rfl hl.1 (Nat.le_of_ble_eq_true rfl) rfl dX5_begin_13 (fun _ => ?_)
  exact sx_vret C0 rfl rfl trivial dX5_begin_16
abbrev rm_X5_take : Room := { frames := 1, cells := 0, slots := 0, locals := 26 }
def mX5_take (S : vS) (k : Nat) (k1 : Nat) : Option vS := ((mX0_take S (k + 1) (k1 + 1)).bind fun S8 => ((mX3_take S8 (k + 11) (k1 + 11)).bind fun S19 => (lt ((S19.1 (k1 + 11) 0) * (17 : Int32)) fun v2_32 => (if v2_32 < 0 then (some S19) else (if (3400 : Int32) < v2_32 then (some S19) else ((cI S19 (k1 + 15) 3400 (0 : Int32) (k + 15) 3400 (0 : Int32) v2_32).bind fun S57 => (some S57)))))))
set_option maxHeartbeats 4000000 in
set_option maxRecDepth 100000 in
theorem c_X5_take {l : Launch} {D : va_G} {cA : Nat → ClassId} {ad : Nat → Nat} {kl : Nat} (G : Gx shC ad (ExC ad kl)) (k : Nat) (hk : IsX5 k) (k1 : Nat) (h1 : IsX5 k1) (S : vS) (r : vS) (hr : (mX5_take S k k1) = some r) : Met l yX5_take (Cond.code yX5_take cX5_take 3 none :: ALL) rm_X5_take (Po D vwCl tlC shC cA ad (ExC ad kl) [.ref (ad k), .ref (ad k1)] S) (Qo D vwCl shC cA ad none r True) 0 0 (aw shC ad) := by
  refine Met.sx (M := (mX5_take S k k1)) (rv := (fun _ => none : vS → Option Value)) (rs := fun S1 => S1) (B := fun _ => True) (by decide) ⟨rfl, rfl⟩ (Nat.le_of_ble_eq_true rfl) G (fun p e s m args below meth c C0 ls hl => ?_) hr
  have hl : lv_has ls 3 [(0, .ref (ad k)), (1, .ref (ad k1))] := hl
  rw [mX5_take]
  refine sx_aload_n C0 dX5_take_0 rfl (lv_at hl 0 rfl) ?_
  refine gf_X5_16 C0 hk.1 dX5_take_1 ?_
  refine sx_aload_n C0 dX5_take_4 rfl (lv_at hl 1 rfl) ?_
  refine gf_X5_16 C0 h1.1 dX5_take_5 ?_
  refine sw_bind (fun S8 e8 => ?_)
  refine cv_X5_33 (As := [.ref (ad (k1 + 1))]) C0 (c_X0_take C0.2.2.2.2.2.2.2.1 (k + 1) hk.2.1 (k1 + 1) h1.2.1 S _ e8) hk.2.1.1 ⟨rfl, rfl⟩ ⟨Nat.le_of_ble_eq_true rfl, Nat.le_of_ble_eq_true rfl⟩ rfl hl.1 (Nat.le_of_ble_eq_true rfl) rfl dX5_take_8 (fun _ => ?_)
  refine sx_aload_n C0 dX5_take_11 rfl (lv_at hl 0 rfl) ?_
  refine gf_X5_21 C0 hk.1 dX5_take_12 ?_
  refine sx_aload_n C0 dX5_take_15 rfl (lv_at hl 1 rfl) ?_
  refine gf_X5_21 C0 h1.1 dX5_take_16 ?_
  refine sw_bind (fun S19 e19 => ?_)
  refine cv_X5_41 (As := [.ref (ad (k1 + 11))]) C0 (c_X3_take C0.2.2.2.2.2.2.2.1 (k + 11) hk.2.2.1 (k1 + 11) h1.2.2.1 S8 _ e19) hk.2.2.1.1 ⟨rfl, rfl⟩ ⟨Nat.le_of_ble_eq_true rfl, Nat.le_of_ble_eq_true rfl⟩ rfl hl.1 (Nat.le_of_ble_eq_true rfl) rfl dX5_take_19 (fun _ => ?_)
  refine sx_aload_n C0 dX5_take_22 rfl (lv_at hl 1 rfl) ?_
  refine gf_X5_21 C0 h1.1 dX5_take_23 ?_
  refine gf_X5_44 C0 h1.2.2.1.1 dX5_take_26 ?_
  refine sx_bipush (v := 17) C0 dX5_take_29 (by decide) ?_
  refine sx_imul C0 dX5_take_31 ?_
  refine sw_lt (val := .int) (fun v2_32 => ?_)
  refine sx_istore_n (lv' := [(2, .int v2_32), (0, .ref (ad k)), (1, .ref (ad k1))]) C0 dX5_take_32 rfl hl (by decide) rfl (fun ls hl => ?_)
  refine sx_iload_n C0 dX5_take_33 rfl (lv_at hl 0 rfl) ?_
  refine sx_if_lt (tgt := 60) C0 dX5_take_34 (by decide) (fun _ => ?_) (fun _ => ?_)
  · exact sx_vret C0 rfl rfl trivial dX5_take_60
  · refine sx_iload_n C0 dX5_take_37 rfl (lv_at hl 0 rfl) ?_
    refine sx_aload_n C0 dX5_take_38 rfl (lv_at hl 1 rfl) ?_
    refine gf_X5_29 C0 hk.1 dX5_take_39 ?_
    refine sx_alen (v := (3400 : Int32)) C0 hk.2.2.2 rfl rfl dX5_take_42 ?_
    refine sx_icmp_gt (tgt := 60) C0 dX5_take_43 (by decide) (fun _ => ?_) (fun _ => ?_)
    · exact sx_vret C0 rfl rfl trivial dX5_take_60
    · refine sx_aload_n C0 dX5_take_46 rfl (lv_at hl 2 rfl) ?_
      refine gf_X5_29 C0 h1.1 dX5_take_47 ?_
      refine sx_iconst (v := 0) C0 dX5_take_50 (by decide) ?_
      refine sx_aload_n C0 dX5_take_51 rfl (lv_at hl 1 rfl) ?_
      refine gf_X5_29 C0 hk.1 dX5_take_52 ?_
      refine sx_iconst (v := 0) C0 dX5_take_55 (by decide) ?_
      refine sx_iload_n C0 dX5_take_56 rfl (lv_at hl 0 rfl) ?_
      refine sx_acopy C0 wm_X5_48 h1.2.2.2 hk.2.2.2 rfl hl.1 ⟨Nat.le_of_ble_eq_true rfl, Nat.le_of_ble_eq_true rfl⟩ dX5_take_57 (fun S57 => ?_)
      exact sx_vret C0 rfl rfl trivial dX5_take_60
abbrev rm_X5_spendDay : Room := { frames := 4, cells := 0, slots := 0, locals := 99 }
def mX5_spendDay (S : vS) (k : Nat) (v1 : Int32) : Option (Int32 × vS) := (if (S.1 (k + 11) 0) < 0 then (some ((0 : Int32), S)) else (if (S.1 (k + 11) 0) < (200 : Int32) then (lt ((S.1 (k + 11) 0) * (17 : Int32)) fun v2_35 => (lt (mX3_worth S (k + 11)) fun v3_43 => ((mX3_save S (k + 11) (k + 15) 3400 (v2_35 + (6 : Int32))).bind fun S56 => ((mX3_goOn S56 (k + 11) (k + 1) v1).bind fun q68 => (if q68.1 = 0 then (some ((0 : Int32), q68.2)) else ((pI q68.2 (k + 15) 3400 (v2_35 + (0 : Int32)) v1).bind fun S84 => ((pI S84 (k + 15) 3400 (v2_35 + (1 : Int32)) (S84.1 (k + 11) 8)).bind fun S99 => ((cI S99 ((k + 11) + 3) 4 (0 : Int32) (k + 15) 3400 (v2_35 + (2 : Int32)) (4 : Int32)).bind fun S116 => (some (((mX3_worth S116 (k + 11)) - v3_43), S116)))))))))) else (some ((0 : Int32), S))))
set_option maxHeartbeats 4000000 in
set_option maxRecDepth 100000 in
theorem c_X5_spendDay {l : Launch} {D : va_G} {cA : Nat → ClassId} {ad : Nat → Nat} {kl : Nat} (G : Gx shC ad (ExC ad kl)) (k : Nat) (hk : IsX5 k) (v1 : Int32) (S : vS) (r : (Int32 × vS)) (hr : (mX5_spendDay S k v1) = some r) : Met l yX5_spendDay (Cond.code yX5_spendDay cX5_spendDay 4 (some .int) :: ALL) rm_X5_spendDay (Po D vwCl tlC shC cA ad (ExC ad kl) [.ref (ad k), .int v1] S) (Qo D vwCl shC cA ad (some (.int r.1)) r.2 True) 0 0 (aw shC ad) := by
  refine Met.sx (M := (mX5_spendDay S k v1)) (rv := (fun q => some (.int q.1) : (Int32 × vS) → Option Value)) (rs := fun q => q.2) (B := fun _ => True) (by decide) ⟨rfl, rfl⟩ (Nat.le_of_ble_eq_true rfl) G (fun p e s m args below meth c C0 ls hl => ?_) hr
  have hl : lv_has ls 4 [(0, .ref (ad k)), (1, .int v1)] := hl
  rw [mX5_spendDay]
  refine sx_aload_n C0 dX5_spendDay_0 rfl (lv_at hl 0 rfl) ?_
  refine gf_X5_21 C0 hk.1 dX5_spendDay_1 ?_
  refine gf_X5_44 C0 hk.2.2.1.1 dX5_spendDay_4 ?_
  refine sx_if_lt (tgt := 23) C0 dX5_spendDay_7 (by decide) (fun _ => ?_) (fun _ => ?_)
  · refine sx_iconst (v := 0) C0 dX5_spendDay_23 (by decide) ?_
    exact sx_iret C0 rfl rfl trivial dX5_spendDay_24
  · refine sx_aload_n C0 dX5_spendDay_10 rfl (lv_at hl 0 rfl) ?_
    refine gf_X5_21 C0 hk.1 dX5_spendDay_11 ?_
    refine gf_X5_44 C0 hk.2.2.1.1 dX5_spendDay_14 ?_
    refine sx_sipush (v := 200) C0 dX5_spendDay_17 (by decide) ?_
    refine sx_icmp_lt (tgt := 25) C0 dX5_spendDay_20 (by decide) (fun _ => ?_) (fun _ => ?_)
    · refine sx_aload_n C0 dX5_spendDay_25 rfl (lv_at hl 0 rfl) ?_
      refine gf_X5_21 C0 hk.1 dX5_spendDay_26 ?_
      refine gf_X5_44 C0 hk.2.2.1.1 dX5_spendDay_29 ?_
      refine sx_bipush (v := 17) C0 dX5_spendDay_32 (by decide) ?_
      refine sx_imul C0 dX5_spendDay_34 ?_
      refine sw_lt (val := .int) (fun v2_35 => ?_)
      refine sx_istore_n (lv' := [(2, .int v2_35), (0, .ref (ad k)), (1, .int v1)]) C0 dX5_spendDay_35 rfl hl (by decide) rfl (fun ls hl => ?_)
      refine sx_aload_n C0 dX5_spendDay_36 rfl (lv_at hl 1 rfl) ?_
      refine gf_X5_21 C0 hk.1 dX5_spendDay_37 ?_
      refine cv_X5_54 (As := []) C0 (c_X3_worth C0.2.2.2.2.2.2.2.1 (k + 11) hk.2.2.1 S) hk.2.2.1.1 ⟨rfl, rfl⟩ ⟨Nat.le_of_ble_eq_true rfl, Nat.le_of_ble_eq_true rfl⟩ rfl hl.1 (Nat.le_of_ble_eq_true rfl) rfl dX5_spendDay_40 (fun _ => ?_)
      refine sw_lt (val := .int) (fun v3_43 => ?_)
      refine sx_istore_n (lv' := [(3, .int v3_43), (2, .int v2_35), (0, .ref (ad k)), (1, .int v1)]) C0 dX5_spendDay_43 rfl hl (by decide) rfl (fun ls hl => ?_)
      refine sx_aload_n C0 dX5_spendDay_44 rfl (lv_at hl 2 rfl) ?_
      refine gf_X5_21 C0 hk.1 dX5_spendDay_45 ?_
      refine sx_aload_n C0 dX5_spendDay_48 rfl (lv_at hl 2 rfl) ?_
      refine gf_X5_29 C0 hk.1 dX5_spendDay_49 ?_
      refine sx_iload_n C0 dX5_spendDay_52 rfl (lv_at hl 1 rfl) ?_
      refine sx_bipush (v := 6) C0 dX5_spendDay_53 (by decide) ?_
      refine sx_iadd C0 dX5_spendDay_55 ?_
      refine sw_bind (fun S56 e56 => ?_)
      refine cv_X5_58 (As := [.ref (ad (k + 15)), .int (v2_35 + (6 : Int32))]) C0 (c_X3_save C0.2.2.2.2.2.2.2.1 (k + 11) hk.2.2.1 (k + 15) 3400 hk.2.2.2 (v2_35 + (6 : Int32)) S _ e56) hk.2.2.1.1 ⟨rfl, rfl⟩ ⟨Nat.le_of_ble_eq_true rfl, Nat.le_of_ble_eq_true rfl⟩ rfl hl.1 (Nat.le_of_ble_eq_true rfl) rfl dX5_spendDay_56 (fun _ => ?_)
      refine sx_aload_n C0 dX5_spendDay_59 rfl (lv_at hl 2 rfl) ?_
      refine gf_X5_21 C0 hk.1 dX5_spendDay_60 ?_
      refine sx_aload_n C0 dX5_spendDay_63 rfl (lv_at hl 2 rfl) ?_
      refine gf_X5_16 C0 hk.1 dX5_spendDay_64 ?_
      refine sx_iload_n C0 dX5_spendDay_67 rfl (lv_at hl 3 rfl) ?_
      refine sw_bind (fun q68 e68 => ?_)
      refine cv_X5_62 (As := [.ref (ad (k + 1)), .int v1]) C0 (c_X3_goOn C0.2.2.2.2.2.2.2.1 (k + 11) hk.2.2.1 (k + 1) hk.2.1 v1 S56 _ e68) hk.2.2.1.1 ⟨rfl, rfl⟩ ⟨Nat.le_of_ble_eq_true rfl, Nat.le_of_ble_eq_true rfl⟩ rfl hl.1 (Nat.le_of_ble_eq_true rfl) rfl dX5_spendDay_68 (fun hb68 => ?_)
      refine sx_if_ne (tgt := 76) C0 dX5_spendDay_71 (by decide) (fun _ => ?_) (fun _ => ?_)
      · refine sx_iconst (v := 0) C0 dX5_spendDay_74 (by decide) ?_
        exact sx_iret C0 rfl rfl trivial dX5_spendDay_75
      · refine sx_aload_n C0 dX5_spendDay_76 rfl (lv_at hl 2 rfl) ?_
        refine gf_X5_29 C0 hk.1 dX5_spendDay_77 ?_
        refine sx_iload_n C0 dX5_spendDay_80 rfl (lv_at hl 1 rfl) ?_
        refine sx_iconst (v := 0) C0 dX5_spendDay_81 (by decide) ?_
        refine sx_iadd C0 dX5_spendDay_82 ?_
        refine sx_iload_n C0 dX5_spendDay_83 rfl (lv_at hl 3 rfl) ?_
        refine sx_iast C0 hk.2.2.2 rfl dX5_spendDay_84 (fun S84 => ?_)
        refine sx_aload_n C0 dX5_spendDay_85 rfl (lv_at hl 2 rfl) ?_
        refine gf_X5_29 C0 hk.1 dX5_spendDay_86 ?_
        refine sx_iload_n C0 dX5_spendDay_89 rfl (lv_at hl 1 rfl) ?_
        refine sx_iconst (v := 1) C0 dX5_spendDay_90 (by decide) ?_
        refine sx_iadd C0 dX5_spendDay_91 ?_
        refine sx_aload_n C0 dX5_spendDay_92 rfl (lv_at hl 2 rfl) ?_
        refine gf_X5_21 C0 hk.1 dX5_spendDay_93 ?_
        refine gf_X5_66 C0 hk.2.2.1.1 dX5_spendDay_96 ?_
        refine sx_iast C0 hk.2.2.2 rfl dX5_spendDay_99 (fun S99 => ?_)
        refine sx_aload_n C0 dX5_spendDay_100 rfl (lv_at hl 2 rfl) ?_
        refine gf_X5_21 C0 hk.1 dX5_spendDay_101 ?_
        refine gf_X5_69 C0 hk.2.2.1.1 dX5_spendDay_104 ?_
        refine sx_iconst (v := 0) C0 dX5_spendDay_107 (by decide) ?_
        refine sx_aload_n C0 dX5_spendDay_108 rfl (lv_at hl 2 rfl) ?_
        refine gf_X5_29 C0 hk.1 dX5_spendDay_109 ?_
        refine sx_iload_n C0 dX5_spendDay_112 rfl (lv_at hl 1 rfl) ?_
        refine sx_iconst (v := 2) C0 dX5_spendDay_113 (by decide) ?_
        refine sx_iadd C0 dX5_spendDay_114 ?_
        refine sx_iconst (v := 4) C0 dX5_spendDay_115 (by decide) ?_
        refine sx_acopy C0 wm_X5_48 hk.2.2.1.2.2.2 hk.2.2.2 rfl hl.1 ⟨Nat.le_of_ble_eq_true rfl, Nat.le_of_ble_eq_true rfl⟩ dX5_spendDay_116 (fun S116 => ?_)
        refine sx_aload_n C0 dX5_spendDay_119 rfl (lv_at hl 2 rfl) ?_
        refine gf_X5_21 C0 hk.1 dX5_spendDay_120 ?_
        refine cv_X5_54 (As := []) C0 (c_X3_worth C0.2.2.2.2.2.2.2.1 (k + 11) hk.2.2.1 S116) hk.2.2.1.1 ⟨rfl, rfl⟩ ⟨Nat.le_of_ble_eq_true rfl, Nat.le_of_ble_eq_true rfl⟩ rfl hl.1 (Nat.le_of_ble_eq_true rfl) rfl dX5_spendDay_123 (fun _ => ?_)
        refine sx_iload_n C0 dX5_spendDay_126 rfl (lv_at hl 0 rfl) ?_
        refine sx_isub C0 dX5_spendDay_127 ?_
        exact sx_iret C0 rfl rfl trivial dX5_spendDay_128
    · refine sx_iconst (v := 0) C0 dX5_spendDay_23 (by decide) ?_
      exact sx_iret C0 rfl rfl trivial dX5_spendDay_24
abbrev rm_X5_goBackTo : Room := { frames := 2, cells := 0, slots := 0, locals := 48 }
def mX5_goBackTo (S : vS) (k : Nat) (v1 : Int32) : Option vS := (if v1 < 0 then (some S) else (if v1 < (S.1 (k + 11) 0) then ((mX3_load S (k + 11) (k + 15) 3400 ((v1 * (17 : Int32)) + (6 : Int32))).bind fun S31 => (lt (wI S31 (k + 11) 0 v1) fun S39 => (some S39))) else (some S)))
set_option maxHeartbeats 4000000 in
set_option maxRecDepth 100000 in
theorem c_X5_goBackTo {l : Launch} {D : va_G} {cA : Nat → ClassId} {ad : Nat → Nat} {kl : Nat} (G : Gx shC ad (ExC ad kl)) (k : Nat) (hk : IsX5 k) (v1 : Int32) (S : vS) (r : vS) (hr : (mX5_goBackTo S k v1) = some r) : Met l yX5_goBackTo (Cond.code yX5_goBackTo cX5_goBackTo 2 none :: ALL) rm_X5_goBackTo (Po D vwCl tlC shC cA ad (ExC ad kl) [.ref (ad k), .int v1] S) (Qo D vwCl shC cA ad none r True) 0 0 (aw shC ad) := by
  refine Met.sx (M := (mX5_goBackTo S k v1)) (rv := (fun _ => none : vS → Option Value)) (rs := fun S1 => S1) (B := fun _ => True) (by decide) ⟨rfl, rfl⟩ (Nat.le_of_ble_eq_true rfl) G (fun p e s m args below meth c C0 ls hl => ?_) hr
  have hl : lv_has ls 2 [(0, .ref (ad k)), (1, .int v1)] := hl
  rw [mX5_goBackTo]
  refine sx_iload_n C0 dX5_goBackTo_0 rfl (lv_at hl 1 rfl) ?_
  refine sx_if_lt (tgt := 15) C0 dX5_goBackTo_1 (by decide) (fun _ => ?_) (fun _ => ?_)
  · exact sx_vret C0 rfl rfl trivial dX5_goBackTo_15
  · refine sx_iload_n C0 dX5_goBackTo_4 rfl (lv_at hl 1 rfl) ?_
    refine sx_aload_n C0 dX5_goBackTo_5 rfl (lv_at hl 0 rfl) ?_
    refine gf_X5_21 C0 hk.1 dX5_goBackTo_6 ?_
    refine gf_X5_44 C0 hk.2.2.1.1 dX5_goBackTo_9 ?_
    refine sx_icmp_lt (tgt := 16) C0 dX5_goBackTo_12 (by decide) (fun _ => ?_) (fun _ => ?_)
    · refine sx_aload_n C0 dX5_goBackTo_16 rfl (lv_at hl 0 rfl) ?_
      refine gf_X5_21 C0 hk.1 dX5_goBackTo_17 ?_
      refine sx_aload_n C0 dX5_goBackTo_20 rfl (lv_at hl 0 rfl) ?_
      refine gf_X5_29 C0 hk.1 dX5_goBackTo_21 ?_
      refine sx_iload_n C0 dX5_goBackTo_24 rfl (lv_at hl 1 rfl) ?_
      refine sx_bipush (v := 17) C0 dX5_goBackTo_25 (by decide) ?_
      refine sx_imul C0 dX5_goBackTo_27 ?_
      refine sx_bipush (v := 6) C0 dX5_goBackTo_28 (by decide) ?_
      refine sx_iadd C0 dX5_goBackTo_30 ?_
      refine sw_bind (fun S31 e31 => ?_)
      refine cv_X5_72 (As := [.ref (ad (k + 15)), .int ((v1 * (17 : Int32)) + (6 : Int32))]) C0 (c_X3_load C0.2.2.2.2.2.2.2.1 (k + 11) hk.2.2.1 (k + 15) 3400 hk.2.2.2 ((v1 * (17 : Int32)) + (6 : Int32)) S _ e31) hk.2.2.1.1 ⟨rfl, rfl⟩ ⟨Nat.le_of_ble_eq_true rfl, Nat.le_of_ble_eq_true rfl⟩ rfl hl.1 (Nat.le_of_ble_eq_true rfl) rfl dX5_goBackTo_31 (fun _ => ?_)
      refine sx_aload_n C0 dX5_goBackTo_34 rfl (lv_at hl 0 rfl) ?_
      refine gf_X5_21 C0 hk.1 dX5_goBackTo_35 ?_
      refine sx_iload_n C0 dX5_goBackTo_38 rfl (lv_at hl 1 rfl) ?_
      refine pf_X5_44 C0 hk.2.2.1.1 dX5_goBackTo_39 (fun S39 => ?_)
      exact sx_vret C0 rfl rfl trivial dX5_goBackTo_42
    · exact sx_vret C0 rfl rfl trivial dX5_goBackTo_15
abbrev rm_X5_noted : Room := { frames := 0, cells := 0, slots := 0, locals := 0 }
def bX5_noted_36 (k : Nat)   (S : vS)   : Option Int32 := (some (0 : Int32))
set_option maxHeartbeats 4000000 in
set_option maxRecDepth 100000 in
theorem bX5_noted_36_t {p : Program} {l : Launch} {e : Env} {s : State} {m : MethodId} {args : Array Value} {below : List Frame} {meth : Method} {c : Code} {D : va_G} {cA : Nat → ClassId} {ad : Nat → Nat} {kl : Nat}   (C0 : Cx D vwCl tlC shC cA ad (ExC ad kl) RX5 cX5_noted 3 (some .int) p s m args meth c) (k : Nat) (hk : IsX5 k) (S : vS)  (ls : Array Slot) (hl : lv_has ls 3 []) : SW p l e rm_X5_noted s m args below meth c D vwCl shC cA ad (Fq D vwCl shC cA ad below args s (fun r => some (.int r) : Int32 → Option Value) (fun _ => S) (fun _ => True)) (bX5_noted_36 k S) S 36 ls [] := by
  rw [bX5_noted_36]
  refine sx_iconst (v := 0) C0 dX5_noted_36 (by decide) ?_
  exact sx_iret C0 rfl rfl trivial dX5_noted_37
def mX5_noted (S : vS) (k : Nat) (v1 : Int32) (v2 : Int32) : Option Int32 := (if v1 < 0 then (bX5_noted_36 k S) else (if (S.1 (k + 11) 0) ≤ v1 then (bX5_noted_36 k S) else (if (200 : Int32) ≤ v1 then (bX5_noted_36 k S) else ((gI (S.1 (k + 15)) 3400 ((v1 * (17 : Int32)) + v2)).bind fun a32 => (some a32)))))
set_option maxHeartbeats 4000000 in
set_option maxRecDepth 100000 in
theorem c_X5_noted {l : Launch} {D : va_G} {cA : Nat → ClassId} {ad : Nat → Nat} {kl : Nat} (G : Gx shC ad (ExC ad kl)) (k : Nat) (hk : IsX5 k) (v1 : Int32) (v2 : Int32) (S : vS) (r : Int32) (hr : (mX5_noted S k v1 v2) = some r) : Met l yX5_noted (Cond.code yX5_noted cX5_noted 3 (some .int) :: ALL) rm_X5_noted (Po D vwCl tlC shC cA ad (ExC ad kl) [.ref (ad k), .int v1, .int v2] S) (Qo D vwCl shC cA ad (some (.int r)) S True) 0 0 (aw shC ad) := by
  refine Met.sx (M := (mX5_noted S k v1 v2)) (rv := (fun r => some (.int r) : Int32 → Option Value)) (rs := fun _ => S) (B := fun _ => True) (by decide) ⟨rfl, rfl⟩ (Nat.le_of_ble_eq_true rfl) G (fun p e s m args below meth c C0 ls hl => ?_) hr
  have hl : lv_has ls 3 [(0, .ref (ad k)), (1, .int v1), (2, .int v2)] := hl
  rw [mX5_noted]
  refine sx_iload_n C0 dX5_noted_0 rfl (lv_at hl 1 rfl) ?_
  refine sx_if_lt (tgt := 36) C0 dX5_noted_1 (by decide) (fun _ => ?_) (fun _ => ?_)
  · exact bX5_noted_36_t C0 k hk _ _ (lv_sub hl [] rfl)
  · refine sx_iload_n C0 dX5_noted_4 rfl (lv_at hl 1 rfl) ?_
    refine sx_aload_n C0 dX5_noted_5 rfl (lv_at hl 0 rfl) ?_
    refine gf_X5_21 C0 hk.1 dX5_noted_6 ?_
    refine gf_X5_44 C0 hk.2.2.1.1 dX5_noted_9 ?_
    refine sx_icmp_ge (tgt := 36) C0 dX5_noted_12 (by decide) (fun _ => ?_) (fun _ => ?_)
    · exact bX5_noted_36_t C0 k hk _ _ (lv_sub hl [] rfl)
    · refine sx_iload_n C0 dX5_noted_15 rfl (lv_at hl 1 rfl) ?_
      refine sx_sipush (v := 200) C0 dX5_noted_16 (by decide) ?_
      refine sx_icmp_ge (tgt := 36) C0 dX5_noted_19 (by decide) (fun _ => ?_) (fun _ => ?_)
      · exact bX5_noted_36_t C0 k hk _ _ (lv_sub hl [] rfl)
      · refine sx_aload_n C0 dX5_noted_22 rfl (lv_at hl 0 rfl) ?_
        refine gf_X5_29 C0 hk.1 dX5_noted_23 ?_
        refine sx_iload_n C0 dX5_noted_26 rfl (lv_at hl 1 rfl) ?_
        refine sx_bipush (v := 17) C0 dX5_noted_27 (by decide) ?_
        refine sx_imul C0 dX5_noted_29 ?_
        refine sx_iload_n C0 dX5_noted_30 rfl (lv_at hl 2 rfl) ?_
        refine sx_iadd C0 dX5_noted_31 ?_
        refine sx_iald C0 hk.2.2.2 rfl dX5_noted_32 (fun a32 => ?_)
        refine sx_goto (tgt := 37) C0 dX5_noted_33 (by decide) ?_
        exact sx_iret C0 rfl rfl trivial dX5_noted_37
abbrev rm_X5_offeringOn : Room := { frames := 1, cells := 0, slots := 0, locals := 22 }
def mX5_offeringOn (S : vS) (k : Nat) (v1 : Int32) : Option Int32 := ((mX5_noted S k v1 (0 : Int32)).bind fun a3 => (some a3))
set_option maxHeartbeats 4000000 in
set_option maxRecDepth 100000 in
theorem c_X5_offeringOn {l : Launch} {D : va_G} {cA : Nat → ClassId} {ad : Nat → Nat} {kl : Nat} (G : Gx shC ad (ExC ad kl)) (k : Nat) (hk : IsX5 k) (v1 : Int32) (S : vS) (r : Int32) (hr : (mX5_offeringOn S k v1) = some r) : Met l yX5_offeringOn (Cond.code yX5_offeringOn cX5_offeringOn 2 (some .int) :: ALL) rm_X5_offeringOn (Po D vwCl tlC shC cA ad (ExC ad kl) [.ref (ad k), .int v1] S) (Qo D vwCl shC cA ad (some (.int r)) S True) 0 0 (aw shC ad) := by
  refine Met.sx (M := (mX5_offeringOn S k v1)) (rv := (fun r => some (.int r) : Int32 → Option Value)) (rs := fun _ => S) (B := fun _ => True) (by decide) ⟨rfl, rfl⟩ (Nat.le_of_ble_eq_true rfl) G (fun p e s m args below meth c C0 ls hl => ?_) hr
  have hl : lv_has ls 2 [(0, .ref (ad k)), (1, .int v1)] := hl
  rw [mX5_offeringOn]
  refine sx_aload_n C0 dX5_offeringOn_0 rfl (lv_at hl 0 rfl) ?_
  refine sx_iload_n C0 dX5_offeringOn_1 rfl (lv_at hl 1 rfl) ?_
  refine sx_iconst (v := 0) C0 dX5_offeringOn_2 (by decide) ?_
  refine sw_bind (fun a3 e3 => ?_)
  refine cv_X5_75 (As := [.int v1, .int (0 : Int32)]) C0 (c_X5_noted C0.2.2.2.2.2.2.2.1 k hk v1 (0 : Int32) S _ e3) hk.1 ⟨rfl, rfl⟩ ⟨Nat.le_of_ble_eq_true rfl, Nat.le_of_ble_eq_true rfl⟩ rfl hl.1 (Nat.le_of_ble_eq_true rfl) rfl dX5_offeringOn_3 (fun _ => ?_)
  exact sx_iret C0 rfl rfl trivial dX5_offeringOn_6
abbrev rm_X5_sentOn : Room := { frames := 1, cells := 0, slots := 0, locals := 22 }
def mX5_sentOn (S : vS) (k : Nat) (v1 : Int32) (v2 : Int32) : Option Int32 := (if (mX0_has S (k + 1) v2) = 0 then (some (0 : Int32)) else ((mX5_noted S k v1 ((2 : Int32) + v2)).bind fun a16 => (some a16)))
set_option maxHeartbeats 4000000 in
set_option maxRecDepth 100000 in
theorem c_X5_sentOn {l : Launch} {D : va_G} {cA : Nat → ClassId} {ad : Nat → Nat} {kl : Nat} (G : Gx shC ad (ExC ad kl)) (k : Nat) (hk : IsX5 k) (v1 : Int32) (v2 : Int32) (S : vS) (r : Int32) (hr : (mX5_sentOn S k v1 v2) = some r) : Met l yX5_sentOn (Cond.code yX5_sentOn cX5_sentOn 3 (some .int) :: ALL) rm_X5_sentOn (Po D vwCl tlC shC cA ad (ExC ad kl) [.ref (ad k), .int v1, .int v2] S) (Qo D vwCl shC cA ad (some (.int r)) S True) 0 0 (aw shC ad) := by
  refine Met.sx (M := (mX5_sentOn S k v1 v2)) (rv := (fun r => some (.int r) : Int32 → Option Value)) (rs := fun _ => S) (B := fun _ => True) (by decide) ⟨rfl, rfl⟩ (Nat.le_of_ble_eq_true rfl) G (fun p e s m args below meth c C0 ls hl => ?_) hr
  have hl : lv_has ls 3 [(0, .ref (ad k)), (1, .int v1), (2, .int v2)] := hl
  rw [mX5_sentOn]
  refine sx_aload_n C0 dX5_sentOn_0 rfl (lv_at hl 0 rfl) ?_
  refine gf_X5_16 C0 hk.1 dX5_sentOn_1 ?_
  refine sx_iload_n C0 dX5_sentOn_4 rfl (lv_at hl 2 rfl) ?_
  refine cv_X5_79 (As := [.int v2]) C0 (c_X0_has C0.2.2.2.2.2.2.2.1 (k + 1) hk.2.1 v2 S) hk.2.1.1 ⟨rfl, rfl⟩ ⟨Nat.le_of_ble_eq_true rfl, Nat.le_of_ble_eq_true rfl⟩ rfl hl.1 (Nat.le_of_ble_eq_true rfl) rfl dX5_sentOn_5 (fun hb5 => ?_)
  refine sx_if_eq (tgt := 22) C0 dX5_sentOn_8 (by decide) (fun _ => ?_) (fun _ => ?_)
  · refine sx_iconst (v := 0) C0 dX5_sentOn_22 (by decide) ?_
    exact sx_iret C0 rfl rfl trivial dX5_sentOn_23
  · refine sx_aload_n C0 dX5_sentOn_11 rfl (lv_at hl 0 rfl) ?_
    refine sx_iload_n C0 dX5_sentOn_12 rfl (lv_at hl 1 rfl) ?_
    refine sx_iconst (v := 2) C0 dX5_sentOn_13 (by decide) ?_
    refine sx_iload_n C0 dX5_sentOn_14 rfl (lv_at hl 2 rfl) ?_
    refine sx_iadd C0 dX5_sentOn_15 ?_
    refine sw_bind (fun a16 e16 => ?_)
    refine cv_X5_75 (As := [.int v1, .int ((2 : Int32) + v2)]) C0 (c_X5_noted C0.2.2.2.2.2.2.2.1 k hk v1 ((2 : Int32) + v2) S _ e16) hk.1 ⟨rfl, rfl⟩ ⟨Nat.le_of_ble_eq_true rfl, Nat.le_of_ble_eq_true rfl⟩ rfl hl.1 (Nat.le_of_ble_eq_true rfl) rfl dX5_sentOn_16 (fun _ => ?_)
    refine sx_goto (tgt := 23) C0 dX5_sentOn_19 (by decide) ?_
    exact sx_iret C0 rfl rfl trivial dX5_sentOn_23
abbrev rm_X5_daysSinceFed : Room := { frames := 1, cells := 0, slots := 0, locals := 22 }
def bX5_daysSinceFed_43 (k : Nat)   (S : vS) (v2 : Int32) (v3 : Int32)  : Option Int32 := (some (v2 - v3))
set_option maxHeartbeats 4000000 in
set_option maxRecDepth 100000 in
theorem bX5_daysSinceFed_43_t {p : Program} {l : Launch} {e : Env} {s : State} {m : MethodId} {args : Array Value} {below : List Frame} {meth : Method} {c : Code} {D : va_G} {cA : Nat → ClassId} {ad : Nat → Nat} {kl : Nat}   (C0 : Cx D vwCl tlC shC cA ad (ExC ad kl) RX5 cX5_daysSinceFed 4 (some .int) p s m args meth c) (k : Nat) (hk : IsX5 k) (S : vS) (v2 : Int32) (v3 : Int32) (ls : Array Slot) (hl : lv_has ls 4 [(2, .int v2), (3, .int v3)]) : SW p l e rm_X5_daysSinceFed s m args below meth c D vwCl shC cA ad (Fq D vwCl shC cA ad below args s (fun r => some (.int r) : Int32 → Option Value) (fun _ => S) (fun _ => True)) (bX5_daysSinceFed_43 k S v2 v3) S 43 ls [] := by
  rw [bX5_daysSinceFed_43]
  refine sx_iload_n C0 dX5_daysSinceFed_43 rfl (lv_at hl 0 rfl) ?_
  refine sx_iload_n C0 dX5_daysSinceFed_44 rfl (lv_at hl 1 rfl) ?_
  refine sx_isub C0 dX5_daysSinceFed_45 ?_
  exact sx_iret C0 rfl rfl trivial dX5_daysSinceFed_46
def lX5_daysSinceFed_26 (k : Nat) (S : vS)  (v1 : Int32) (v2 : Int32) : Nat → Int32 → Option Int32
  | 0, _ => none
  | n + 1, v3 => (if v3 < 0 then (some (-9 : Int32)) else ((mX5_noted S k v3 (1 : Int32)).bind fun a33 => (if ((a33 >>> (v1 &&& (31 : Int32))) &&& (1 : Int32)) = 0 then ((lX5_daysSinceFed_26 k S v1 v2 n) (v3 + (-1 : Int32))) else (bX5_daysSinceFed_43 k S v2 v3))))
set_option maxHeartbeats 4000000 in
set_option maxRecDepth 100000 in
theorem lX5_daysSinceFed_26_t {p : Program} {l : Launch} {e : Env} {s : State} {m : MethodId} {args : Array Value} {below : List Frame} {meth : Method} {c : Code} {D : va_G} {cA : Nat → ClassId} {ad : Nat → Nat} {kl : Nat}   (C0 : Cx D vwCl tlC shC cA ad (ExC ad kl) RX5 cX5_daysSinceFed 4 (some .int) p s m args meth c) (k : Nat) (hk : IsX5 k) (S : vS) (v1 : Int32) (v2 : Int32)  : ∀ (n : Nat) (v3 : Int32) (ls : Array Slot), lv_has ls 4 [(0, .ref (ad k)), (1, .int v1), (2, .int v2), (3, .int v3)] → SW p l e rm_X5_daysSinceFed s m args below meth c D vwCl shC cA ad (Fq D vwCl shC cA ad below args s (fun r => some (.int r) : Int32 → Option Value) (fun _ => S) (fun _ => True)) (lX5_daysSinceFed_26 k S v1 v2 n v3) S 26 ls [] := by
  intro n
  induction n with
  | zero =>
    intro v3 ls hl
    rw [lX5_daysSinceFed_26]
    exact sw_none
  | succ n ih =>
    intro v3 ls hl
    rw [lX5_daysSinceFed_26]
    refine sx_iload_n C0 dX5_daysSinceFed_26 rfl (lv_at hl 3 rfl) ?_
    refine sx_if_lt (tgt := 53) C0 dX5_daysSinceFed_27 (by decide) (fun _ => ?_) (fun _ => ?_)
    · refine sx_bipush (v := (-9)) C0 dX5_daysSinceFed_53 (by decide) ?_
      exact sx_iret C0 rfl rfl trivial dX5_daysSinceFed_55
    · refine sx_aload_n C0 dX5_daysSinceFed_30 rfl (lv_at hl 0 rfl) ?_
      refine sx_iload_n C0 dX5_daysSinceFed_31 rfl (lv_at hl 3 rfl) ?_
      refine sx_iconst (v := 1) C0 dX5_daysSinceFed_32 (by decide) ?_
      refine sw_bind (fun a33 e33 => ?_)
      refine cv_X5_75 (As := [.int v3, .int (1 : Int32)]) C0 (c_X5_noted C0.2.2.2.2.2.2.2.1 k hk v3 (1 : Int32) S _ e33) hk.1 ⟨rfl, rfl⟩ ⟨Nat.le_of_ble_eq_true rfl, Nat.le_of_ble_eq_true rfl⟩ rfl hl.1 (Nat.le_of_ble_eq_true rfl) rfl dX5_daysSinceFed_33 (fun _ => ?_)
      refine sx_iload_n C0 dX5_daysSinceFed_36 rfl (lv_at hl 1 rfl) ?_
      refine sx_ishr C0 dX5_daysSinceFed_37 ?_
      refine sx_iconst (v := 1) C0 dX5_daysSinceFed_38 (by decide) ?_
      refine sx_iand C0 dX5_daysSinceFed_39 ?_
      refine sx_if_eq (tgt := 47) C0 dX5_daysSinceFed_40 (by decide) (fun _ => ?_) (fun _ => ?_)
      · refine sx_iinc (v := (v3 + (-1 : Int32))) (lv' := [(3, .int (v3 + (-1 : Int32))), (0, .ref (ad k)), (1, .int v1), (2, .int v2)]) C0 dX5_daysSinceFed_47 hl (k := 3) rfl rfl (by decide) rfl (fun ls hl => ?_)
        refine sx_goto (tgt := 26) C0 dX5_daysSinceFed_50 (by decide) ?_
        exact ih _ _ (lv_sub hl [1, 2, 3, 0] rfl)
      · exact bX5_daysSinceFed_43_t C0 k hk _ _ _ _ (lv_sub hl [2, 3] rfl)
def mX5_daysSinceFed (S : vS) (k : Nat) (v1 : Int32) : Option Int32 := (if (mX0_has S (k + 1) v1) = 0 then (some (-9 : Int32)) else (lt ((S.1 (k + 11) 0) - (1 : Int32)) fun v2_23 => (lX5_daysSinceFed_26 k S v1 v2_23 FU v2_23)))
set_option maxHeartbeats 4000000 in
set_option maxRecDepth 100000 in
theorem c_X5_daysSinceFed {l : Launch} {D : va_G} {cA : Nat → ClassId} {ad : Nat → Nat} {kl : Nat} (G : Gx shC ad (ExC ad kl)) (k : Nat) (hk : IsX5 k) (v1 : Int32) (S : vS) (r : Int32) (hr : (mX5_daysSinceFed S k v1) = some r) : Met l yX5_daysSinceFed (Cond.code yX5_daysSinceFed cX5_daysSinceFed 4 (some .int) :: ALL) rm_X5_daysSinceFed (Po D vwCl tlC shC cA ad (ExC ad kl) [.ref (ad k), .int v1] S) (Qo D vwCl shC cA ad (some (.int r)) S True) 0 0 (aw shC ad) := by
  refine Met.sx (M := (mX5_daysSinceFed S k v1)) (rv := (fun r => some (.int r) : Int32 → Option Value)) (rs := fun _ => S) (B := fun _ => True) (by decide) ⟨rfl, rfl⟩ (Nat.le_of_ble_eq_true rfl) G (fun p e s m args below meth c C0 ls hl => ?_) hr
  have hl : lv_has ls 4 [(0, .ref (ad k)), (1, .int v1)] := hl
  rw [mX5_daysSinceFed]
  refine sx_aload_n C0 dX5_daysSinceFed_0 rfl (lv_at hl 0 rfl) ?_
  refine gf_X5_16 C0 hk.1 dX5_daysSinceFed_1 ?_
  refine sx_iload_n C0 dX5_daysSinceFed_4 rfl (lv_at hl 1 rfl) ?_
  refine cv_X5_79 (As := [.int v1]) C0 (c_X0_has C0.2.2.2.2.2.2.2.1 (k + 1) hk.2.1 v1 S) hk.2.1.1 ⟨rfl, rfl⟩ ⟨Nat.le_of_ble_eq_true rfl, Nat.le_of_ble_eq_true rfl⟩ rfl hl.1 (Nat.le_of_ble_eq_true rfl) rfl dX5_daysSinceFed_5 (fun hb5 => ?_)
  refine sx_if_ne (tgt := 14) C0 dX5_daysSinceFed_8 (by decide) (fun _ => ?_) (fun _ => ?_)
  · refine sx_bipush (v := (-9)) C0 dX5_daysSinceFed_11 (by decide) ?_
    exact sx_iret C0 rfl rfl trivial dX5_daysSinceFed_13
  · refine sx_aload_n C0 dX5_daysSinceFed_14 rfl (lv_at hl 0 rfl) ?_
    refine gf_X5_21 C0 hk.1 dX5_daysSinceFed_15 ?_
    refine gf_X5_44 C0 hk.2.2.1.1 dX5_daysSinceFed_18 ?_
    refine sx_iconst (v := 1) C0 dX5_daysSinceFed_21 (by decide) ?_
    refine sx_isub C0 dX5_daysSinceFed_22 ?_
    refine sw_lt (val := .int) (fun v2_23 => ?_)
    refine sx_istore_n (lv' := [(2, .int v2_23), (0, .ref (ad k)), (1, .int v1)]) C0 dX5_daysSinceFed_23 rfl hl (by decide) rfl (fun ls hl => ?_)
    refine sx_iload_n C0 dX5_daysSinceFed_24 rfl (lv_at hl 0 rfl) ?_
    refine sx_istore_n (lv' := [(3, .int v2_23), (2, .int v2_23), (0, .ref (ad k)), (1, .int v1)]) C0 dX5_daysSinceFed_25 rfl hl (by decide) rfl (fun ls hl => ?_)
    exact lX5_daysSinceFed_26_t C0 k hk _ _ _ _ _ _ (lv_sub hl [2, 3, 1, 0] rfl)
