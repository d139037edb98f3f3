/-! ===== PURE: what holds between the class's world S and the reference's world T ===== -/
/-- a set of gods -/
def nib (s : Int32) : Prop := ∃ m, m < 16 ∧ s = nI m
/-- bit g of a set -/
def bt (s : Int32) (g : Nat) : Bool := decide (((s >>> (nI g &&& nI 31)) &&& nI 1) = nI 1)
/-- a size of a row: missing, or up to 60 -/
def szo (x : Int32) : Prop := x = m1 ∨ ∃ m, m ≤ 60 ∧ x = nI m
/-- a shelf at the cell k of z rows; sizes in the cell a, places in the cell b of the reference -/
def Sh (S T : vS) (k z a b : Nat) : Prop := ∀ r, r < z → S.1 (k + 2 + z) r = T.1 a r ∧ szo (T.1 a r) ∧ ∀ m, m ≤ 60 → T.1 a r = nI m → ∀ i, i < m → S.1 (k + 2 + r) i = T.1 b (60 * r + i)
def RT (S T : vS) : Prop := S.1 0 11 = T.1 0 2 ∧ S.2 0 12 = T.2 0 3 ∧ S.2 0 13 = T.2 0 4
def gK (G : Nat → Int32) (g : Nat) : Int32 := G (6 * g)
def gF (G : Nat → Int32) (g : Nat) : Int32 := G (6 * g + 1)
def gP (G : Nat → Int32) (g : Nat) : Int32 := G (6 * g + 2)
def gG (G : Nat → Int32) (g : Nat) : Int32 := G (6 * g + 3)
def gH (G : Nat → Int32) (g : Nat) : Int32 := G (6 * g + 4)
def gA (G : Nat → Int32) (g : Nat) : Int32 := G (6 * g + 5)
def jel (G : Nat → Int32) (g : Nat) : Bool := decide (gK G g = nI 2) || decide (gK G g = nI 4)
def slp (G : Nat → Int32) (g : Nat) : Bool := decide (gK G g = nI 3) || decide (gK G g = nI 5)
def tw (G : Nat → Int32) (g o : Nat) : Bool := (decide (gK G o = nI 1) && decide (gA G o = nI g)) || (decide (gK G g = nI 1) && decide (gA G g = nI o))
def GInv (n : Nat) (G : Nat → Int32) : Prop := ∀ g, g < n → (∃ k, k < 6 ∧ gK G g = nI k) ∧ (∃ f, f < 3 ∧ gF G g = nI f) ∧ (∃ q, 1 ≤ q ∧ q ≤ 6 ∧ gP G g = nI q) ∧ (∃ q, q ≤ 9 ∧ gG G g = nI q) ∧ (∃ q, q ≤ 9 ∧ gH G g = nI q) ∧ (gA G g = gN ∨ ∃ a, a < g ∧ gA G g = nI a) ∧ (gK G g = nI 1 → gA G g ≠ gN)
/-- gods at the cell k of the class -/
def GodR (S : vS) (k n : Nat) (G : Nat → Int32) : Prop :=
  S.1 k 0 = nI n ∧ S.1 k 1 = nI (2 ^ n - 1) ∧ nib (S.1 k 2) ∧ (∀ g, g < 4 → bt (S.1 k 2) g = (decide (g < n) && slp G g)) ∧
  ∀ g, g < n → S.1 (k + 1) g = gK G g ∧ S.1 (k + 2) g = gF G g ∧ S.1 (k + 3) g = gP G g ∧ S.1 (k + 4) g = gG G g ∧ S.1 (k + 5) g = gH G g ∧ S.1 (k + 6) g = gA G g ∧
    nib (S.1 (k + 7) g) ∧ (∀ o, o < 4 → bt (S.1 (k + 7) g) o = (decide (o < n) && (decide (o = g) || tw G g o))) ∧
    nib (S.1 (k + 8) g) ∧ (∀ o, o < 4 → bt (S.1 (k + 8) g) o = (!decide (gK G g = nI 1) && decide (gA G g = nI o))) ∧
    S.1 (k + 9) g = (if jel G g = true then nI 2 else nI 1)
/-- a frame of the reference: its place, if it is one of the frame's -/
def frA (a : Nat → Int32) (f : Nat) : Nat → Int32 := fun i => if i < 15 then a (15 * f + i) else nI 0
def fr (T : vS) (f : Nat) : Nat → Int32 := frA (T.1 10) f
/-- who is gone, as the class has it -/
def goneR (s : Int32) (n : Nat) (F : Nat → Int32) : Prop := nib s ∧ ∀ g, g < 4 → bt s g = (decide (g < n) && decide (F (3 + g) = gN))
/-- a scene at the cell k of the class -/
def ScR (S : vS) (k n : Nat) (F : Nat → Int32) : Prop :=
  S.1 k 0 = F 14 ∧ goneR (S.1 k 1) n F ∧ S.1 k 2 = F 7 ∧ (∀ f, f < 3 → S.1 (k + 1) f = F f) ∧ ∀ g, g < n → F (3 + g) ≠ gN → S.1 (k + 2) g = F (3 + g)
def FInv (n : Nat) (F : Nat → Int32) : Prop :=
  (∃ d, d ≤ 1000 ∧ F 14 = nI d) ∧ nib (F 7) ∧ (∀ f, f < 3 → ∃ s, s ≤ 99 ∧ F f = nI s) ∧ ∀ g, g < n → F (3 + g) = gN ∨ ∃ h, h ≤ 9 ∧ F (3 + g) = nI h
/-- on which day a god was fed last, by the diary Y -/
def lastF (Y : Nat → Int32) (a : Nat) : Nat → Int32
  | 0 => gN
  | e + 1 => if bt (Y (17 * e + 1)) a = true then nI e else lastF Y a e
def HatR (Y : Nat → Int32) (n : Nat) (G A : Nat → Int32) (e : Nat) : Prop :=
  ∀ g, g < n → gK G g ≠ nI 1 → (gA G g = gN → A (8 + g) = gN) ∧ ∀ a, a < 4 → gA G g = nI a → A (8 + g) = lastF Y a e
/-- a line of the diary, what lies ahead of the day -/
def SavR (Y : Nat → Int32) (b n : Nat) (A : Nat → Int32) : Prop :=
  goneR (Y b) n A ∧ Y (b + 1) = A 7 ∧ Y (b + 2) = A 12 ∧ Y (b + 3) = A 13 ∧ (∀ f, f < 3 → Y (b + 4 + f) = A f) ∧ ∀ g, g < n → A (3 + g) ≠ gN → Y (b + 7 + g) = A (3 + g)
def DayR (Y : Nat → Int32) (n : Nat) (G D : Nat → Int32) (e : Nat) : Prop :=
  Y (17 * e) = D (20 * e + 15) ∧ nib (Y (17 * e + 1)) ∧ (∀ g, g < n → Y (17 * e + 2 + g) = D (20 * e + 16 + g)) ∧
  SavR Y (17 * e + 6) n (fun i => D (20 * e + i)) ∧ FInv n (fun i => D (20 * e + i)) ∧ D (20 * e + 14) = nI e ∧ HatR Y n G (fun i => D (20 * e + i)) e
def VilR (S : vS) (k n : Nat) (G F D : Nat → Int32) : Prop :=
  GodR S (k + 1) n G ∧ ScR S (k + 11) n F ∧ S.1 (k + 11) 3 = F 12 ∧ S.1 (k + 11) 4 = F 13 ∧ FInv n F ∧
  ∃ d, d ≤ 200 ∧ F 14 = nI d ∧ HatR (S.1 (k + 15)) n G F d ∧ ∀ e, e < d → DayR (S.1 (k + 15)) n G D e
/-- gods with the patiences of the kept village k -/
def gKp (T : vS) (k : Nat) : Nat → Int32 := fun i => if i % 6 = 2 then T.1 15 (4 * k + i / 6) else T.1 7 i
def KepR (S T : vS) (n k : Nat) : Prop :=
  (S.1 (47 + 16 * k) 2 = nI 0 ∧ T.1 13 k = nI 0) ∨ (0 < n ∧ S.1 (47 + 16 * k) 2 = nI 1 ∧ T.1 13 k = nI 1 ∧ GInv n (gKp T k) ∧ VilR S (47 + 16 * k) n (gKp T k) (fun i => T.1 14 (15 * k + i)) (fun i => T.1 16 (4000 * k + i)))
def RV (S T : vS) : Prop := ∃ n, n ≤ 4 ∧ T.1 0 10 = nI n ∧ T.1 0 34 = gN ∧ GInv n (T.1 7) ∧ VilR S 30 n (T.1 7) (fr T 0) (T.1 12) ∧ ∀ k, k < 3 → KepR S T n k
def Rel (S T : vS) : Prop := RFind S T ∧ RT S T ∧ Sh S T 1 6 2 3 ∧ Sh S T 10 4 5 6 ∧ RV S T
theorem GodR_tr {S S' : vS} {k k' n : Nat} {G : Nat → Int32} (hn : n ≤ 4) (h0 : ∀ j, j < 3 → S'.1 k' j = S.1 k j) (h : ∀ i, 1 ≤ i → i < 10 → ∀ g, g < 4 → S'.1 (k' + i) g = S.1 (k + i) g) (R : GodR S k n G) : GodR S' k' n G := by
  obtain ⟨a1, a2, a3, a4, a5⟩ := R
  refine ⟨by rw [h0 0 (by omega)]; exact a1, by rw [h0 1 (by omega)]; exact a2, by rw [h0 2 (by omega)]; exact a3, by rw [h0 2 (by omega)]; exact a4, fun g hg => ?_⟩
  have hg4 : g < 4 := by omega
  rw [h 1 (by omega) (by omega) g hg4, h 2 (by omega) (by omega) g hg4, h 3 (by omega) (by omega) g hg4, h 4 (by omega) (by omega) g hg4, h 5 (by omega) (by omega) g hg4, h 6 (by omega) (by omega) g hg4, h 7 (by omega) (by omega) g hg4, h 8 (by omega) (by omega) g hg4, h 9 (by omega) (by omega) g hg4]
  exact a5 g hg
theorem ScR_tr {S S' : vS} {k k' n : Nat} {F : Nat → Int32} (hn : n ≤ 4) (h0 : ∀ j, j < 3 → S'.1 k' j = S.1 k j) (h1 : ∀ f, f < 3 → S'.1 (k' + 1) f = S.1 (k + 1) f) (h2 : ∀ g, g < 4 → S'.1 (k' + 2) g = S.1 (k + 2) g) (R : ScR S k n F) : ScR S' k' n F := by
  obtain ⟨a1, a2, a3, a4, a5⟩ := R
  refine ⟨by rw [h0 0 (by omega)]; exact a1, by rw [h0 1 (by omega)]; exact a2, by rw [h0 2 (by omega)]; exact a3, fun f hf => by rw [h1 f hf]; exact a4 f hf, fun g hg hf => by rw [h2 g (by omega)]; exact a5 g hg hf⟩
theorem lastF_tr {Y Y' : Nat → Int32} {a : Nat} : ∀ e, (∀ i, i < 17 * e → Y' i = Y i) → lastF Y' a e = lastF Y a e := by
  intro e
  induction e with
  | zero => intro _; rfl
  | succ e ih =>
    intro h
    unfold lastF
    rw [ih (fun i hi => h i (by omega)), h (17 * e + 1) (by omega)]
theorem HatR_tr {Y Y' : Nat → Int32} {n : Nat} {G A : Nat → Int32} {e : Nat} (h : ∀ i, i < 17 * e → Y' i = Y i) (R : HatR Y n G A e) : HatR Y' n G A e := by
  intro g hg hk
  obtain ⟨a1, a2⟩ := R g hg hk
  exact ⟨a1, fun a ha he => by rw [lastF_tr e h]; exact a2 a ha he⟩
theorem SavR_tr {Y Y' : Nat → Int32} {b n : Nat} {A : Nat → Int32} (hn : n ≤ 4) (h : ∀ i, b ≤ i → i < b + 11 → Y' i = Y i) (R : SavR Y b n A) : SavR Y' b n A := by
  obtain ⟨a1, a2, a3, a4, a5, a6⟩ := R
  refine ⟨by rw [h b (by omega) (by omega)]; exact a1, by rw [h _ (by omega) (by omega)]; exact a2, by rw [h _ (by omega) (by omega)]; exact a3, by rw [h _ (by omega) (by omega)]; exact a4, fun f hf => by rw [h _ (by omega) (by omega)]; exact a5 f hf, fun g hg hf => by rw [h _ (by omega) (by omega)]; exact a6 g hg hf⟩
theorem DayR_tr {Y Y' : Nat → Int32} {n : Nat} {G D : Nat → Int32} {e : Nat} (hn : n ≤ 4) (h : ∀ i, i < 17 * (e + 1) → Y' i = Y i) (R : DayR Y n G D e) : DayR Y' n G D e := by
  obtain ⟨a1, a2, a3, a4, a5, a6, a7⟩ := R
  exact ⟨by rw [h _ (by omega)]; exact a1, by rw [h _ (by omega)]; exact a2, fun g hg => by rw [h _ (by omega)]; exact a3 g hg, SavR_tr hn (fun i h1 h2 => h i (by omega)) a4, a5, a6, HatR_tr (fun i hi => h i (by omega)) a7⟩
theorem VilR_tr {S S' : vS} {k k' n : Nat} {G F D : Nat → Int32} (hn : n ≤ 4) (h0 : ∀ j, j < 3 → S'.1 (k' + 1) j = S.1 (k + 1) j) (h : ∀ i, 1 ≤ i → i < 10 → ∀ g, g < 4 → S'.1 (k' + 1 + i) g = S.1 (k + 1 + i) g)
    (h1 : ∀ j, j < 5 → S'.1 (k' + 11) j = S.1 (k + 11) j) (h2 : ∀ f, f < 3 → S'.1 (k' + 12) f = S.1 (k + 12) f) (h3 : ∀ g, g < 4 → S'.1 (k' + 13) g = S.1 (k + 13) g) (h4 : ∀ d, F 14 = nI d → d ≤ 200 → ∀ i, i < 17 * d → S'.1 (k' + 15) i = S.1 (k + 15) i) (R : VilR S k n G F D) : VilR S' k' n G F D := by
  obtain ⟨a1, a2, a3, a4, a5, d, a6, a7, a8, a9⟩ := R
  have h4 := h4 d a7 a6
  exact ⟨GodR_tr hn h0 h a1, ScR_tr hn (fun j hj => h1 j (by omega)) h2 h3 a2, by rw [h1 3 (by omega)]; exact a3, by rw [h1 4 (by omega)]; exact a4, a5, d, a6, a7, HatR_tr h4 a8, fun e he => DayR_tr hn (fun i hi => h4 i (by omega)) (a9 e he)⟩
/-- the same cells: the same village -/
theorem VilR_eq {S S' : vS} {k n : Nat} {G F D : Nat → Int32} (hn : n ≤ 4) (h : ∀ c, k < c → c < k + 16 → S'.1 c = S.1 c) (R : VilR S k n G F D) : VilR S' k n G F D :=
  VilR_tr hn (fun j _ => by rw [h _ (by omega) (by omega)]) (fun i h1 h2 g _ => by rw [h _ (by omega) (by omega)]) (fun j _ => by rw [h _ (by omega) (by omega)]) (fun j _ => by rw [h _ (by omega) (by omega)]) (fun j _ => by rw [h _ (by omega) (by omega)]) (fun d _ _ i _ => by rw [h _ (by omega) (by omega)]) R
theorem gKp_eq {T T' : vS} {k : Nat} (h7 : T'.1 7 = T.1 7) (h15 : T'.1 15 = T.1 15) : gKp T' k = gKp T k := by
  unfold gKp
  rw [h7, h15]
theorem KepR_eq {S S' T T' : vS} {n k : Nat} (hn : n ≤ 4) (hS : ∀ c, 47 + 16 * k ≤ c → c < 63 + 16 * k → S'.1 c = S.1 c) (h7 : T'.1 7 = T.1 7) (h13 : T'.1 13 = T.1 13) (h14 : T'.1 14 = T.1 14) (h15 : T'.1 15 = T.1 15) (h16 : T'.1 16 = T.1 16) (R : KepR S T n k) : KepR S' T' n k := by
  rcases R with ⟨a1, a2⟩ | ⟨a1, a2, a3, a4, a5⟩
  · exact Or.inl ⟨by rw [hS _ (by omega) (by omega)]; exact a1, by rw [h13]; exact a2⟩
  · refine Or.inr ⟨a1, by rw [hS _ (by omega) (by omega)]; exact a2, by rw [h13]; exact a3, by rw [gKp_eq h7 h15]; exact a4, ?_⟩
    rw [gKp_eq h7 h15, h14, h16]
    exact VilR_eq hn (fun c h1 h2 => hS c (by omega) (by omega)) a5
theorem RV_eq {S S' T T' : vS} (hS : ∀ c, 30 ≤ c → c < 95 → S'.1 c = S.1 c) (h10 : T'.1 0 10 = T.1 0 10) (h34 : T'.1 0 34 = T.1 0 34) (h7 : T'.1 7 = T.1 7) (hf : fr T' 0 = fr T 0) (h12 : T'.1 12 = T.1 12) (h13 : T'.1 13 = T.1 13) (h14 : T'.1 14 = T.1 14) (h15 : T'.1 15 = T.1 15) (h16 : T'.1 16 = T.1 16) (R : RV S T) : RV S' T' := by
  obtain ⟨n, hn, a1, a2, a3, a4, a5⟩ := R
  refine ⟨n, hn, by rw [h10]; exact a1, by rw [h34]; exact a2, by rw [h7]; exact a3, ?_, fun k hk => KepR_eq hn (fun c h1 h2 => hS c (by omega) (by omega)) h7 h13 h14 h15 h16 (a5 k hk)⟩
  rw [h7, hf, h12]
  exact VilR_eq hn (fun c h1 h2 => hS c (by omega) (by omega)) a4
theorem fr_eq {T T' : vS} {f : Nat} (h : T'.1 10 = T.1 10) : fr T' f = fr T f := by
  unfold fr
  rw [h]
theorem fr_i {T : vS} {f i : Nat} (h : i < 15) : fr T f i = T.1 10 (15 * f + i) := if_pos h
theorem fr_0 {T : vS} {i : Nat} (h : i < 15) : T.1 10 i = fr T 0 i := by
  rw [fr_i h, Nat.mul_zero, Nat.zero_add]
theorem Sh_eq {S S' T T' : vS} {k z a b : Nat} (hS : ∀ c, k + 2 ≤ c → c ≤ k + 2 + z → S'.1 c = S.1 c) (ha : T'.1 a = T.1 a) (hb : T'.1 b = T.1 b) (R : Sh S T k z a b) : Sh S' T' k z a b := by
  intro r hr
  rw [hS _ (by omega) (by omega), hS (k + 2 + r) (by omega) (by omega), ha, hb]
  exact R r hr
theorem RFind_eq {S S' T T' : vS} (h1 : S'.1 0 10 = S.1 0 10) (h2 : S'.1 134 = S.1 134) (h3 : T'.1 0 0 = T.1 0 0) (h4 : T'.1 1 = T.1 1) (R : RFind S T) : RFind S' T' := by
  unfold RFind
  rw [h1, h2, h3, h4]
  exact R
theorem RT_eq {S S' T T' : vS} (h1 : S'.1 0 11 = S.1 0 11) (h2 : S'.2 = S.2) (h3 : T'.1 0 2 = T.1 0 2) (h4 : T'.2 = T.2) (R : RT S T) : RT S' T' := by
  unfold RT
  rw [h1, h2, h3, h4]
  exact R
/-- what the object says, its rows and texts are as they were -/
def KeepS (S S' : vS) : Prop := (∀ c, c < 17 → S'.1 c = S.1 c) ∧ S'.1 134 = S.1 134 ∧ S'.2 = S.2
def KeepT (T T' : vS) : Prop := T'.1 0 0 = T.1 0 0 ∧ T'.1 0 2 = T.1 0 2 ∧ T'.1 1 = T.1 1 ∧ T'.1 2 = T.1 2 ∧ T'.1 3 = T.1 3 ∧ T'.1 5 = T.1 5 ∧ T'.1 6 = T.1 6 ∧ T'.2 = T.2
theorem Rel_vil {S S' T T' : vS} (R : Rel S T) (hS : KeepS S S') (hT : KeepT T T') (h : RV S' T') : Rel S' T' := by
  obtain ⟨a1, a2, a3, a4, _⟩ := R
  obtain ⟨s1, s2, s3⟩ := hS
  obtain ⟨t1, t2, t3, t4, t5, t6, t7, t8⟩ := hT
  exact ⟨RFind_eq (by rw [s1 0 (by omega)]) s2 t1 t3 a1, RT_eq (by rw [s1 0 (by omega)]) s3 t2 t8 a2, Sh_eq (fun c h1 h2 => s1 c (by omega)) t4 t5 a3, Sh_eq (fun c h1 h2 => s1 c (by omega)) t6 t7 a4, h⟩
theorem Rel_tell {S T : vS} (R : Rel S T) (x : Int32) : Rel (wI S 0 11 x) (wI T 0 2 x) := by
  obtain ⟨a1, ⟨b1, b2, b3⟩, a3, a4, a5⟩ := R
  refine ⟨RFind_eq (S := S) (T := T) ?_ ?_ ?_ ?_ a1, ⟨?_, b2, b3⟩, Sh_eq ?_ ?_ ?_ a3, Sh_eq ?_ ?_ ?_ a4, RV_eq (S := S) (T := T) ?_ ?_ ?_ ?_ (fr_eq ?_) ?_ ?_ ?_ ?_ ?_ a5⟩
  all_goals (try intro c h1); (try intro h2); simp (disch := omega) only [qlt, qb_some, qb_none, ↓qn_1, ↓qn_2, ↓qn_3, ↓qn_4, ↓qn_9, ↓qn_1000, ↓qn_low, qi_0, qi_1, qi_2, qi_3, qi_4, qi_5, qi_6, qi_7, qi_8, qi_9, qi_10, qi_11, qi_12, qi_13, qi_14, qi_15, qi_16, qi_17, qi_20, qi_24, qi_30, qi_31, qi_32, qi_60, qi_99, qi_100, qi_200, qi_1000, qi_3400, qi_4000, qi_of, pu_gI, pu_pI, nI_leI, nI_ltI, nI_eq, nI_add, pk_mul, pk_sub, pk_div, qw_s, qw_o, qw_l, qr_s, qr_o, qr_l, ql_i, ql_s, ql_o, pk_us, pk_un, pk_uLs, pk_uLn, if_pos, if_neg, if_true, if_false, ite_self, eq_self, Nat.zero_add, Nat.add_zero, qwr, not_true_eq_false, not_false_eq_true, Option.some.injEq, qe_gn0, qe_m1n, qe_gng, qe_ngn, qe_gm, qe_mg, qe_lm1, qe_lgn, qe_lem, qe_leg, qe_tm1, qe_tgn]
theorem Rel_rows {S S' T T' : vS} (R : Rel S T) (hS : ∀ c, (c < 3 ∨ 9 < c) → S'.1 c = S.1 c) (hS2 : S'.2 = S.2) (hT : ∀ c, c ≠ 2 → c ≠ 3 → c ≠ 4 → T'.1 c = T.1 c) (hT2 : T'.2 = T.2) (h : Sh S' T' 1 6 2 3) : Rel S' T' := by
  obtain ⟨a1, a2, a3, a4, a5⟩ := R
  have t0 := hT 0 (by decide) (by decide) (by decide)
  have s0 := hS 0 (by omega)
  have tt : ∀ c, 5 ≤ c → T'.1 c = T.1 c := fun c hc => hT c (by omega) (by omega) (by omega)
  exact ⟨RFind_eq (by rw [s0]) (hS 134 (by omega)) (by rw [t0]) (hT 1 (by decide) (by decide) (by decide)) a1, RT_eq (by rw [s0]) hS2 (by rw [t0]) hT2 a2, h, Sh_eq (fun c h1 h2 => hS c (by omega)) (tt 5 (by omega)) (tt 6 (by omega)) a4,
    RV_eq (fun c h1 h2 => hS c (by omega)) (by rw [t0]) (by rw [t0]) (tt 7 (by omega)) (fr_eq (tt 10 (by omega))) (tt 12 (by omega)) (tt 13 (by omega)) (tt 14 (by omega)) (tt 15 (by omega)) (tt 16 (by omega)) a5⟩
theorem Rel_texts {S S' T T' : vS} (R : Rel S T) (hS : ∀ c, (c < 12 ∨ 16 < c) → S'.1 c = S.1 c) (hS2 : S'.2 = S.2) (hT : ∀ c, c ≠ 5 → c ≠ 6 → T'.1 c = T.1 c) (hT2 : T'.2 = T.2) (h : Sh S' T' 10 4 5 6) : Rel S' T' := by
  obtain ⟨a1, a2, a3, a4, a5⟩ := R
  have t0 := hT 0 (by decide) (by decide)
  have s0 := hS 0 (by omega)
  have tt : ∀ c, 7 ≤ c → T'.1 c = T.1 c := fun c hc => hT c (by omega) (by omega)
  exact ⟨RFind_eq (by rw [s0]) (hS 134 (by omega)) (by rw [t0]) (hT 1 (by decide) (by decide)) a1, RT_eq (by rw [s0]) hS2 (by rw [t0]) hT2 a2, Sh_eq (fun c h1 h2 => hS c (by omega)) (hT 2 (by decide) (by decide)) (hT 3 (by decide) (by decide)) a3, h,
    RV_eq (fun c h1 h2 => hS c (by omega)) (by rw [t0]) (by rw [t0]) (tt 7 (by omega)) (fr_eq (tt 10 (by omega))) (tt 12 (by omega)) (tt 13 (by omega)) (tt 14 (by omega)) (tt 15 (by omega)) (tt 16 (by omega)) a5⟩
/-! the loops that write one row, place by place -/
theorem lp_fill {β : Type} (L : Nat → vS → Int32 → Option β) (S0 : vS) (c off e : Nat) (val : Nat → Int32) (exit : vS → Option β)
    (hx : ∀ n f, (∀ i, (i < off ∨ off + e ≤ i) → f i = S0.1 c i) → L (n + 1) (wR S0 c f) (nI e) = exit (wR S0 c f))
    (hs : ∀ n f j, j < e → (∀ i, (i < off ∨ off + e ≤ i) → f i = S0.1 c i) → L (n + 1) (wR S0 c f) (nI j) = L n (wR S0 c (upd f (off + j) (val j))) (nI (j + 1))) :
    ∀ n j f, j ≤ e → e - j < n → (∀ i, (i < off ∨ off + e ≤ i) → f i = S0.1 c i) → L n (wR S0 c f) (nI j) = exit (wR S0 c (fun i => if off + j ≤ i ∧ i < off + e then val (i - off) else f i)) := by
  intro n
  induction n with
  | zero => intro j f h1 h2; omega
  | succ n ih =>
    intro j f h1 h2 hf
    by_cases h : j = e
    · subst h
      rw [hx n f hf]
      congr 2
      funext i
      exact (if_neg (by omega)).symm
    · rw [hs n f j (by omega) hf, ih (j + 1) _ (by omega) (by omega) (fun i hi => by rw [← hf i hi]; exact pk_un (by omega))]
      congr 2
      funext i
      by_cases hi : i = off + j
      · subst hi
        rw [if_neg (by omega), pk_us, if_pos (by omega)]
        congr 1
        omega
      · rw [pk_un hi]
        by_cases h3 : off + (j + 1) ≤ i ∧ i < off + e
        · rw [if_pos h3, if_pos (by omega)]
        · rw [if_neg h3, if_neg (by omega)]
theorem lp_fill0 {β : Type} (L : Nat → vS → Int32 → Option β) (S0 : vS) (c off e : Nat) (val : Nat → Int32) (exit : vS → Option β)
    (hx : ∀ n f, (∀ i, (i < off ∨ off + e ≤ i) → f i = S0.1 c i) → L (n + 1) (wR S0 c f) (nI e) = exit (wR S0 c f))
    (hs : ∀ n f j, j < e → (∀ i, (i < off ∨ off + e ≤ i) → f i = S0.1 c i) → L (n + 1) (wR S0 c f) (nI j) = L n (wR S0 c (upd f (off + j) (val j))) (nI (j + 1))) (he : e < FU) :
    L FU S0 (nI 0) = exit (wR S0 c (fun i => if off ≤ i ∧ i < off + e then val (i - off) else S0.1 c i)) := by
  have h := lp_fill L S0 c off e val exit hx hs FU 0 (S0.1 c) (Nat.zero_le e) (by omega) (fun _ _ => rfl)
  rw [pu_wR_self] at h
  exact h
