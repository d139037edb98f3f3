/-! ===== PURE: how both begin ===== -/
theorem i_S {c : Nat} (h1 : c ≠ 9) (h2 : c ≠ 16) (h3 : c ≠ 17) (i : Nat) : S6i.1 c i = nI 0 := by
  show (wL (wI (wR (wR Sz 9 (fun j => if j < 6 then (-1) else 0)) 16 (fun j => if j < 4 then (-1) else 0)) 17 5 (-9)) 0 13 1).1 c i = nI 0
  rw [ql_i, qw_o h3, qr_o h2, qr_o h1]
  exact qi_0
theorem i_T {c : Nat} (h0 : c ≠ 0) (h2 : c ≠ 2) (h5 : c ≠ 5) (i : Nat) : (S7i Sz).1 c i = nI 0 := by
  show (wI (wI (wI (wI (wI (wI (wI (wI (wI (wI (wL (wI Sz 0 34 (-9)) 0 4 1) 2 0 (-1)) 2 1 (-1)) 2 2 (-1)) 2 3 (-1)) 2 4 (-1)) 2 5 (-1)) 5 0 (-1)) 5 1 (-1)) 5 2 (-1)) 5 3 (-1)).1 c i = nI 0
  rw [qw_o h5, qw_o h5, qw_o h5, qw_o h5, qw_o h2, qw_o h2, qw_o h2, qw_o h2, qw_o h2, qw_o h2, ql_i, qw_o h0]
  exact qi_0
theorem i_T0 (i : Nat) : (S7i Sz).1 0 i = upd (Sz.1 0) 34 (-9) i := by
  show (wI (wI (wI (wI (wI (wI (wI (wI (wI (wI (wL (wI Sz 0 34 (-9)) 0 4 1) 2 0 (-1)) 2 1 (-1)) 2 2 (-1)) 2 3 (-1)) 2 4 (-1)) 2 5 (-1)) 5 0 (-1)) 5 1 (-1)) 5 2 (-1)) 5 3 (-1)).1 0 i = _
  rw [qw_o (by decide), qw_o (by decide), qw_o (by decide), qw_o (by decide), qw_o (by decide), qw_o (by decide), qw_o (by decide), qw_o (by decide), qw_o (by decide), qw_o (by decide), ql_i, qw_s]
theorem i_T0n {i : Nat} (h : i ≠ 34) : (S7i Sz).1 0 i = nI 0 := by
  rw [i_T0, pk_un h]
  exact qi_0
theorem i_T34 : (S7i Sz).1 0 34 = gN := by
  rw [i_T0, pk_us]
  rfl
theorem i_S9 {r : Nat} (h : r < 6) : S6i.1 9 r = m1 := by
  show (wL (wI (wR (wR Sz 9 (fun j => if j < 6 then (-1) else 0)) 16 (fun j => if j < 4 then (-1) else 0)) 17 5 (-9)) 0 13 1).1 9 r = m1
  rw [ql_i, qw_o (by decide), qr_o (by decide), qr_s, if_pos h]
  rfl
theorem i_S16 {r : Nat} (h : r < 4) : S6i.1 16 r = m1 := by
  show (wL (wI (wR (wR Sz 9 (fun j => if j < 6 then (-1) else 0)) 16 (fun j => if j < 4 then (-1) else 0)) 17 5 (-9)) 0 13 1).1 16 r = m1
  rw [ql_i, qw_o (by decide), qr_s, if_pos h]
  rfl
theorem i_T2 {r : Nat} (h : r < 6) : (S7i Sz).1 2 r = m1 := by
  have : r = 0 ∨ r = 1 ∨ r = 2 ∨ r = 3 ∨ r = 4 ∨ r = 5 := by omega
  rcases this with rfl | rfl | rfl | rfl | rfl | rfl <;> rfl
theorem i_T5 {r : Nat} (h : r < 4) : (S7i Sz).1 5 r = m1 := by
  have : r = 0 ∨ r = 1 ∨ r = 2 ∨ r = 3 := by omega
  rcases this with rfl | rfl | rfl | rfl <;> rfl
theorem m1_nI {m : Nat} (h : m < 2 ^ 31) : ¬ m1 = nI m := fun e => qe_mn h e.symm
theorem rel_0 : Rel S6i (S7i Sz) := by
  have hfr : ∀ i, fr (S7i Sz) 0 i = nI 0 := by
    intro i
    unfold fr frA
    split
    · exact i_T (by decide) (by decide) (by decide) _
    · rfl
  refine ⟨?_, ⟨?_, rfl, rfl⟩, fun r hr => ⟨?_, Or.inl (i_T2 hr), fun m hm e => ?_⟩, fun r hr => ⟨?_, Or.inl (i_T5 hr), fun m hm e => ?_⟩, 0, by decide, i_T0n (by decide), i_T34, fun g hg => absurd hg (by omega), ?_, fun k hk => Or.inl ⟨?_, i_T (by decide) (by decide) (by decide) _⟩⟩
  · unfold RFind
    exact ⟨by rw [i_S (by decide) (by decide) (by decide), i_T0n (by decide)], by intro k; intros; rw [i_S (by decide) (by decide) (by decide), i_T (by decide) (by decide) (by decide)]⟩
  · rw [i_S (by decide) (by decide) (by decide), i_T0n (by decide)]
  · rw [i_T2 hr]; exact i_S9 hr
  · rw [i_T2 hr] at e
    exact absurd e (m1_nI (by omega))
  · rw [i_T5 hr]; exact i_S16 hr
  · rw [i_T5 hr] at e
    exact absurd e (m1_nI (by omega))
  · have z : ∀ c i, 18 ≤ c → S6i.1 c i = nI 0 := fun c i hc => i_S (by omega) (by omega) (by omega) i
    refine ⟨⟨z _ _ (by decide), z _ _ (by decide), ?_, fun g hg => ?_, fun g hg => absurd hg (by omega)⟩, ⟨?_, ⟨?_, fun g hg => ?_⟩, ?_, fun f hf => ?_, fun g hg => absurd hg (by omega)⟩, ?_, ?_, ⟨⟨0, by decide, hfr _⟩, ?_, fun f hf => ⟨0, by decide, hfr _⟩, fun g hg => absurd hg (by omega)⟩, 0, by decide, hfr _, fun g hg => absurd hg (by omega), fun e he => absurd he (by omega)⟩
    · rw [z _ _ (by decide)]; exact nib_0
    · rw [z _ _ (by decide), bt_z g hg]; simp
    · rw [z _ _ (by decide), hfr]
    · rw [z _ _ (by decide)]; exact nib_0
    · rw [z _ _ (by decide), bt_z g hg]; simp
    · rw [z _ _ (by decide), hfr]
    · rw [z _ _ (by decide), hfr]
    · rw [z _ _ (by decide), hfr]
    · rw [z _ _ (by decide), hfr]
    · rw [hfr]; exact nib_0
  · exact i_S (by omega) (by omega) (by omega) _
/-- each call keeps both alike -/
theorem all_steps : AllSteps Rel := ⟨st_row, st_lay, st_at, st_tear, st_copy, st_mean, st_text, st_put, st_fault, st_valley, st_god, st_mark, st_store, st_stores, st_patience, st_offer, st_may, st_rest, st_sent, st_offered, st_undo, st_sums, st_keep, st_on, st_best, st_tries, st_safe, st_share, st_food, st_harm, st_starve, st_price, st_altar, st_turns, st_fits, st_whose, st_ask, st_year, st_asked, st_upper, st_lower, st_count, st_finding, st_findings, st_digest⟩
