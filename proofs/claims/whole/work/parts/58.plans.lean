/-! ===== PURE: plans, in their order ===== -/
abbrev vP : Type := List Nat × (Nat × Nat × Nat)
/-- may the plan go on by d: u is a god never to be fed (4: none); hl: no HARM is wanted -/
def okB (G : Nat → Int32) (n u : Nat) (hl : Bool) (F : Nat → Int32) (h d : Nat) : Bool :=
  canB G n F d && (!(decide (u < 4) && bt (fdD G n F d) u) && (!hl || decide (h + hsD G n F d = 0)))
def fromP (X : Nat → List vP) : Nat → List vP
  | 0 => []
  | k + 1 => X (12 - k) ++ fromP X k
def consP (d : Nat) (p : vP) : vP := (d :: p.1, p.2)
def allP (G : Nat → Int32) (n u : Nat) (hl : Bool) : Nat → (Nat → Int32) → Nat → Nat → Nat → List vP
  | 0, _, g, h, c => [([], (g, h, c))]
  | L + 1, F, g, h, c => fromP (fun d => if okB G n u hl F h d = true then (allP G n u hl L (dyF G n F d) (g + gsD G n F d) (h + hsD G n F d) (c + cosN G n F d)).map (consP d) else []) 13
/-- plans that begin by d -/
def hdP (G : Nat → Int32) (n u : Nat) (hl : Bool) (L : Nat) (F : Nat → Int32) (g h c d : Nat) : List vP :=
  if okB G n u hl F h d = true then (allP G n u hl L (dyF G n F d) (g + gsD G n F d) (h + hsD G n F d) (c + cosN G n F d)).map (consP d) else []
theorem allP_s (G : Nat → Int32) (n u : Nat) (hl : Bool) (L : Nat) (F : Nat → Int32) (g h c : Nat) : allP G n u hl (L + 1) F g h c = fromP (hdP G n u hl L F g h c) 13 := rfl
theorem fromP_s (X : Nat → List vP) {d : Nat} (hd : d < 13) : fromP X (13 - d) = X d ++ fromP X (12 - d) := by
  have : 13 - d = (12 - d) + 1 := by omega
  rw [this]
  show X (12 - (12 - d)) ++ _ = _
  rw [show 12 - (12 - d) = d by omega]
/-- plans behind all that begin so -/
def aft (G : Nat → Int32) (n u : Nat) : List Nat → Nat → (Nat → Int32) → Nat → Nat → Nat → List vP
  | [], _, _, _, _, _ => []
  | _ :: _, 0, _, _, _, _ => []
  | d :: ds, L + 1, F, g, h, c => (if okB G n u false F h d = true then (aft G n u ds L (dyF G n F d) (g + gsD G n F d) (h + hsD G n F d) (c + cosN G n F d)).map (consP d) else []) ++ fromP (hdP G n u false L F g h c) (12 - d)
/-- a plan and all behind it -/
def geP (G : Nat → Int32) (n u : Nat) : List Nat → Nat → (Nat → Int32) → Nat → Nat → Nat → List vP
  | [], _, _, g, h, c => [([], (g, h, c))]
  | _ :: _, 0, _, _, _, _ => []
  | d :: ds, L + 1, F, g, h, c => (if okB G n u false F h d = true then (geP G n u ds L (dyF G n F d) (g + gsD G n F d) (h + hsD G n F d) (c + cosN G n F d)).map (consP d) else []) ++ fromP (hdP G n u false L F g h c) (12 - d)
/-- how many days of a plan can be -/
def badI (G : Nat → Int32) (n u : Nat) : List Nat → (Nat → Int32) → Nat
  | [], _ => 0
  | d :: ds, F => if okB G n u false F 0 d = true then badI G n u ds (dyF G n F d) + 1 else 0
/-- what a plan brings -/
def layO (G : Nat → Int32) (n : Nat) : List Nat → (Nat → Int32) → Nat → Nat → Nat → Nat × Nat × Nat
  | [], _, g, h, c => (g, h, c)
  | d :: ds, F, g, h, c => layO G n ds (dyF G n F d) (g + gsD G n F d) (h + hsD G n F d) (c + cosN G n F d)
section PLN
variable {G : Nat → Int32} {n u : Nat}
theorem okB_h {F : Nat → Int32} {h h' d : Nat} : okB G n u false F h d = okB G n u false F h' d := by unfold okB; simp
theorem badI_le : ∀ (ds : List Nat) (F : Nat → Int32), badI G n u ds F ≤ ds.length := by
  intro ds
  induction ds with
  | nil => intro F; exact Nat.le_refl 0
  | cons d ds ih =>
    intro F
    unfold badI
    have := ih (dyF G n F d)
    split
    · simp only [List.length_cons]; omega
    · exact Nat.zero_le _
theorem ge_zero : ∀ (L : Nat) (F : Nat → Int32) (g h c : Nat), geP G n u (List.replicate L 0) L F g h c = allP G n u false L F g h c := by
  intro L
  induction L with
  | zero => intro F g h c; rfl
  | succ L ih =>
    intro F g h c
    rw [List.replicate_succ]
    show (if okB G n u false F h 0 = true then (geP G n u (List.replicate L 0) L (dyF G n F 0) (g + gsD G n F 0) (h + hsD G n F 0) (c + cosN G n F 0)).map (consP 0) else []) ++ fromP (hdP G n u false L F g h c) 12 = _
    rw [ih, allP_s]
    show _ = hdP G n u false L F g h c 0 ++ fromP (hdP G n u false L F g h c) 12
    rfl
/-- a plan that goes through heads the list; else the list is what lies behind its first bad day -/
theorem ge_split : ∀ (q : List Nat) (F : Nat → Int32) (g h c : Nat),
    (badI G n u q F = q.length → geP G n u q q.length F g h c = (q, layO G n q F g h c) :: aft G n u q q.length F g h c) ∧
    (badI G n u q F < q.length → geP G n u q q.length F g h c = aft G n u (q.take (badI G n u q F + 1)) q.length F g h c) := by
  intro q
  induction q with
  | nil =>
    intro F g h c
    exact ⟨fun _ => rfl, fun z => absurd z (Nat.lt_irrefl _)⟩
  | cons d ds ih =>
    intro F g h c
    obtain ⟨i1, i2⟩ := ih (dyF G n F d) (g + gsD G n F d) (h + hsD G n F d) (c + cosN G n F d)
    have hb : badI G n u (d :: ds) F = if okB G n u false F 0 d = true then badI G n u ds (dyF G n F d) + 1 else 0 := rfl
    have hg : geP G n u (d :: ds) (ds.length + 1) F g h c = (if okB G n u false F h d = true then (geP G n u ds ds.length (dyF G n F d) (g + gsD G n F d) (h + hsD G n F d) (c + cosN G n F d)).map (consP d) else []) ++ fromP (hdP G n u false ds.length F g h c) (12 - d) := rfl
    rw [List.length_cons, hb, hg]
    cases ho : okB G n u false F h d
    · rw [okB_h (h' := h), ho]
      refine ⟨fun z => absurd z (by simp), fun _ => ?_⟩
      show [] ++ fromP (hdP G n u false ds.length F g h c) (12 - d) = aft G n u [d] (ds.length + 1) F g h c
      show _ = (if okB G n u false F h d = true then ([] : List vP) else []) ++ fromP (hdP G n u false ds.length F g h c) (12 - d)
      rw [ho]
      rfl
    · rw [okB_h (h' := h), ho, if_pos rfl, if_pos rfl]
      refine ⟨fun z => ?_, fun z => ?_⟩
      · rw [i1 (by omega)]
        have ha : aft G n u (d :: ds) (ds.length + 1) F g h c = (if okB G n u false F h d = true then (aft G n u ds ds.length (dyF G n F d) (g + gsD G n F d) (h + hsD G n F d) (c + cosN G n F d)).map (consP d) else []) ++ fromP (hdP G n u false ds.length F g h c) (12 - d) := rfl
        rw [ha, ho, if_pos rfl]
        rfl
      · rw [i2 (by omega), List.take_succ_cons]
        have ha : aft G n u (d :: ds.take (badI G n u ds (dyF G n F d) + 1)) (ds.length + 1) F g h c = (if okB G n u false F h d = true then (aft G n u (ds.take (badI G n u ds (dyF G n F d) + 1)) ds.length (dyF G n F d) (g + gsD G n F d) (h + hsD G n F d) (c + cosN G n F d)).map (consP d) else []) ++ fromP (hdP G n u false ds.length F g h c) (12 - d) := rfl
        rw [ha, ho, if_pos rfl]
/-- the next one in their order -/
theorem aft_succ : ∀ (ds : List Nat) (d L : Nat) (F : Nat → Int32) (g h c : Nat), d < 12 → aft G n u (ds ++ [d]) (ds.length + 1 + L) F g h c = geP G n u (ds ++ ((d + 1) :: List.replicate L 0)) (ds.length + 1 + L) F g h c := by
  intro ds
  induction ds with
  | nil =>
    intro d L F g h c hd
    rw [show ([] : List Nat).length + 1 + L = L + 1 by simp; omega]
    show (if okB G n u false F h d = true then ([] : List vP).map (consP d) else []) ++ fromP (hdP G n u false L F g h c) (12 - d) = (if okB G n u false F h (d + 1) = true then (geP G n u (List.replicate L 0) L (dyF G n F (d + 1)) (g + gsD G n F (d + 1)) (h + hsD G n F (d + 1)) (c + cosN G n F (d + 1))).map (consP (d + 1)) else []) ++ fromP (hdP G n u false L F g h c) (12 - (d + 1))
    rw [ge_zero]
    have h1 : (if okB G n u false F h d = true then ([] : List vP).map (consP d) else []) = [] := by split <;> rfl
    rw [h1, List.nil_append]
    have h2 := fromP_s (hdP G n u false L F g h c) (d := d + 1) (by omega)
    rw [show 13 - (d + 1) = 12 - d by omega] at h2
    rw [h2]
    rfl
  | cons e ds ih =>
    intro d L F g h c hd
    have hl : (e :: ds).length + 1 + L = (ds.length + 1 + L) + 1 := by simp only [List.length_cons]; omega
    rw [hl]
    show (if okB G n u false F h e = true then (aft G n u (ds ++ [d]) (ds.length + 1 + L) (dyF G n F e) (g + gsD G n F e) (h + hsD G n F e) (c + cosN G n F e)).map (consP e) else []) ++ _ = (if okB G n u false F h e = true then (geP G n u (ds ++ ((d + 1) :: List.replicate L 0)) (ds.length + 1 + L) (dyF G n F e) (g + gsD G n F e) (h + hsD G n F e) (c + cosN G n F e)).map (consP e) else []) ++ _
    rw [ih d L _ _ _ _ hd]
theorem aft_12 : ∀ (ds : List Nat) (L : Nat) (F : Nat → Int32) (g h c : Nat), aft G n u (ds ++ [12]) L F g h c = aft G n u ds L F g h c := by
  intro ds
  induction ds with
  | nil =>
    intro L F g h c
    cases L with
    | zero => rfl
    | succ L =>
      show (if okB G n u false F h 12 = true then ([] : List vP).map (consP 12) else []) ++ fromP (hdP G n u false L F g h c) (12 - 12) = []
      split <;> rfl
  | cons e ds ih =>
    intro L F g h c
    cases L with
    | zero => rfl
    | succ L =>
      show (if okB G n u false F h e = true then (aft G n u (ds ++ [12]) L _ _ _ _).map (consP e) else []) ++ _ = (if okB G n u false F h e = true then (aft G n u ds L _ _ _ _).map (consP e) else []) ++ _
      rw [ih]
theorem aft_12s : ∀ (k : Nat) (ds : List Nat) (L : Nat) (F : Nat → Int32) (g h c : Nat), aft G n u (ds ++ List.replicate k 12) L F g h c = aft G n u ds L F g h c := by
  intro k
  induction k with
  | zero => intro ds L F g h c; rw [List.replicate_zero, List.append_nil]
  | succ k ih =>
    intro ds L F g h c
    rw [List.replicate_succ, show ds ++ 12 :: List.replicate k 12 = (ds ++ [12]) ++ List.replicate k 12 by simp, ih, aft_12]
/-! how many numbers are left to try -/
def rc : List Nat → Nat → Nat
  | [], _ => 0
  | _ :: _, 0 => 0
  | d :: ds, L + 1 => rc ds L + (12 - d) * 13 ^ L
theorem rc_12 : ∀ (ds : List Nat) (L : Nat), rc (ds ++ [12]) L = rc ds L := by
  intro ds
  induction ds with
  | nil =>
    intro L
    cases L with
    | zero => rfl
    | succ L => show rc [] L + (12 - 12) * 13 ^ L = 0; simp [rc]
  | cons e ds ih =>
    intro L
    cases L with
    | zero => rfl
    | succ L => show rc (ds ++ [12]) L + _ = rc ds L + _; rw [ih]
theorem rc_12s : ∀ (k : Nat) (ds : List Nat) (L : Nat), rc (ds ++ List.replicate k 12) L = rc ds L := by
  intro k
  induction k with
  | zero => intro ds L; rw [List.replicate_zero, List.append_nil]
  | succ k ih =>
    intro ds L
    rw [List.replicate_succ, show ds ++ 12 :: List.replicate k 12 = (ds ++ [12]) ++ List.replicate k 12 by simp, ih, rc_12]
theorem rc_zero : ∀ L : Nat, rc (List.replicate L 0) L + 1 = 13 ^ L := by
  intro L
  induction L with
  | zero => rfl
  | succ L ih =>
    rw [List.replicate_succ]
    show rc (List.replicate L 0) L + (12 - 0) * 13 ^ L + 1 = _
    rw [Nat.pow_succ]
    omega
theorem rc_succ : ∀ (ds : List Nat) (d L : Nat), d < 12 → rc (ds ++ ((d + 1) :: List.replicate L 0)) (ds.length + 1 + L) + 1 = rc (ds ++ [d]) (ds.length + 1 + L) := by
  intro ds
  induction ds with
  | nil =>
    intro d L hd
    rw [show ([] : List Nat).length + 1 + L = L + 1 by simp; omega]
    show rc (List.replicate L 0) L + (12 - (d + 1)) * 13 ^ L + 1 = rc [] L + (12 - d) * 13 ^ L
    have h1 := rc_zero L
    have h2 : (12 - d) * 13 ^ L = (12 - (d + 1)) * 13 ^ L + 13 ^ L := by
      rw [show 12 - d = (12 - (d + 1)) + 1 by omega, Nat.succ_mul]
    have h3 : rc [] L = 0 := rfl
    rw [h2, h3]
    omega
  | cons e ds ih =>
    intro d L hd
    have hl : (e :: ds).length + 1 + L = (ds.length + 1 + L) + 1 := by simp only [List.length_cons]; omega
    rw [hl]
    show rc (ds ++ ((d + 1) :: List.replicate L 0)) (ds.length + 1 + L) + _ + 1 = rc (ds ++ [d]) (ds.length + 1 + L) + _
    have := ih d L hd
    omega
theorem rc_take : ∀ (k : Nat) (q : List Nat) (L : Nat), rc (q.take k) L ≤ rc q L := by
  intro k
  induction k with
  | zero => intro q L; rw [List.take_zero]; exact Nat.zero_le _
  | succ k ih =>
    intro q L
    cases q with
    | nil => exact Nat.le_refl _
    | cons d q =>
      rw [List.take_succ_cons]
      cases L with
      | zero => exact Nat.le_refl _
      | succ L =>
        show rc (q.take k) L + _ ≤ rc q L + _
        have := ih q L
        omega
theorem rc_lt : ∀ (ds : List Nat) (L : Nat), rc ds L < 13 ^ L := by
  intro ds
  induction ds with
  | nil => intro L; have := rc_zero L; show 0 < 13 ^ L; omega
  | cons d ds ih =>
    intro L
    cases L with
    | zero => exact Nat.one_pos
    | succ L =>
      show rc ds L + (12 - d) * 13 ^ L < 13 ^ (L + 1)
      have h1 := ih L
      have h2 : (12 - d) * 13 ^ L ≤ 12 * 13 ^ L := Nat.mul_le_mul_right _ (by omega)
      rw [Nat.pow_succ]
      omega
end PLN
