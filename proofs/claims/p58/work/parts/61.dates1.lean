/-! THE LAW'S dates: the different dates -/
def zDn (σ : zRow) (j : Nat) : Nat := zfo (fun i u => if s_fst σ i = 0 then u else u + 1) 0 j 0
theorem zDn_S {σ : zRow} {j : Nat} : zDn σ (j + 1) = if s_fst σ j = 0 then zDn σ j else zDn σ j + 1 := by
  unfold zDn
  rw [zfo_succ, Nat.zero_add]
theorem zDn_le {σ : zRow} : ∀ j, zDn σ j ≤ j := by
  intro j
  induction j with
  | zero => exact Nat.le_refl _
  | succ j ih => rw [zDn_S]; split <;> omega
theorem zDn_mono {σ : zRow} {i : Nat} : ∀ {j}, i ≤ j → zDn σ i ≤ zDn σ j := by
  intro j
  induction j with
  | zero =>
            intro h
            obtain rfl : i = 0 := (by omega)
            exact Nat.le_refl _
  | succ j ih =>
    intro h
    rcases Nat.lt_or_eq_of_le h with h | h
    · have := ih (by omega); rw [zDn_S]; split <;> omega
    · rw [h]; exact Nat.le_refl _
theorem zDn_i {σ : zRow} {j : Nat} : zfo (fun i u => if s_fst σ i = 0 then u else u + 1) 0 j (0 : Int32) = nI (zDn σ j) := by
  unfold zDn
  refine zfo_rel (P := fun (a : Int32) (b : Nat) => a = nI b) rfl (fun i a b _ _ h => ?_)
  subst h
  split
  · rfl
  · exact nI_1 _
/-- the date at a place of the list of different dates -/
theorem s_dat_at {σ : zRow} {n : Nat} (hn : n ≤ 10) : ∀ k j x, j + k = n → x ≤ 10 → (∀ i, j ≤ i → i < n → s_fst σ i ≠ 0 → zDn σ i = x → s_dat σ (nI x) j k (nI (zDn σ j)) = some i) ∧ (zDn σ n ≤ x → s_dat σ (nI x) j k (nI (zDn σ j)) = none) := by
  intro k
  induction k with
  | zero => intro j x hj hx; exact ⟨fun i h1 h2 => by omega, fun _ => rfl⟩
  | succ k ih =>
    intro j x hj hx
    have hd := zDn_le (σ := σ) j
    obtain ⟨ih1, ih2⟩ := ih (j + 1) x (by omega) hx
    unfold s_dat
    by_cases h0 : s_fst σ j = 0
    · rw [zDn_S, if_pos h0] at ih1 ih2
      rw [if_pos h0]
      refine ⟨fun i h1 h2 h3 h4 => ih1 i (by rcases Nat.lt_or_eq_of_le h1 with h | h; omega; exact absurd h0 (h ▸ h3)) h2 h3 h4, ih2⟩
    · rw [zDn_S, if_neg h0] at ih1 ih2
      rw [if_neg h0]
      by_cases h1 : zDn σ j = x
      · rw [h1, if_pos rfl]
        refine ⟨fun i h2 h3 h4 h5 => ?_, fun h => ?_⟩
        · rcases Nat.lt_or_eq_of_le h2 with h | h
          · have := zDn_mono (σ := σ) (i := j + 1) (j := i) (by omega)
            rw [zDn_S, if_neg h0] at this
            omega
          · rw [h]
        · have := zDn_mono (σ := σ) (i := j + 1) (j := n) (by omega)
          rw [zDn_S, if_neg h0] at this
          omega
      · rw [if_neg (fun z => h1 ((nI_eq (by omega) (by omega)).mp z)), nI_1]
        refine ⟨fun i h2 h3 h4 h5 => ?_, ih2⟩
        rcases Nat.lt_or_eq_of_le h2 with h | h
        · exact ih1 i (by omega) h3 h4 h5
        · exact absurd h5 (h ▸ h1)
section DA
variable {T : zT} {σ : zRow} {hs : List zRow} {S : Option (Nat × zRow)}
theorem g_Ldat (h : zWs T σ hs S) {i : Nat} (hi : i < zn σ) (hf : s_fst σ i ≠ 0) : f_L_dateAt (nI (zDn σ i)) T = some (σ (21 + 13 * i + 4), T) := by
  have n10 := h.I.n10
  have hd := zDn_le (σ := σ) i
  unfold f_L_dateAt
  have e := (s_dat_at n10 (zn σ) 0 (zDn σ i) (by omega) (by omega)).1 i (Nat.zero_le _) hi hf rfl
  rw [show nI (zDn σ 0) = 0 from rfl] at e
  rw [g_dateAt h, e]
  rfl
theorem g_Ldat_no (h : zWs T σ hs S) : f_L_dateAt (nI (zDn σ (zn σ))) T = some (-5, T) := by
  have n10 := h.I.n10
  have hd := zDn_le (σ := σ) (zn σ)
  unfold f_L_dateAt
  have e := (s_dat_at n10 (zn σ) 0 (zDn σ (zn σ)) (by omega) (by omega)).2 (Nat.le_refl _)
  rw [show nI (zDn σ 0) = 0 from rfl] at e
  rw [g_dateAt h, e]
  rfl
theorem l_fst (h : zWs T σ hs S) {c : Nat} (hc : c < zn σ) {w1 : Int32} : ∀ k j fuel u, (u = 0 ∨ u = 1) → j + k = c → k < fuel → lp_L_dates_36 w1 (nI c) fuel u (nI j) T = some (((if u = 0 then 0 else if (zfn (s_eqb σ (σ (21 + 13 * c + 4))) j k).isSome = true then 0 else 1), nI c), T) := by
  have n10 := h.I.n10
  intro k
  induction k with
  | zero =>
    intro j fuel u hu hj hk
    obtain ⟨f, rfl⟩ : ∃ f, fuel = f + 1 := ⟨fuel - 1, by omega⟩
    obtain rfl : j = c := by omega
    rw [lp_L_dates_36, if_pos (Int32.le_refl _)]
    rcases hu with rfl | rfl <;> rfl
  | succ k ih =>
    intro j fuel u hu hj hk
    obtain ⟨f, rfl⟩ : ∃ f, fuel = f + 1 := ⟨fuel - 1, by omega⟩
    rw [lp_L_dates_36, if_neg (nI_ge (by omega) (by omega))]
    simp only [zl_s, nI_1]
    rcases hu with rfl | rfl
    · rw [if_pos rfl, ih (j + 1) f 0 (Or.inl rfl) (by omega) (by omega)]
      rfl
    · rw [if_neg (show ¬ (1 : Int32) = 0 by decide), g_birthdayOf h (by omega), zbi_s, g_birthdayOf h hc, zbi_s, if_neg (show ¬ (1 : Int32) = 0 by decide)]
      unfold zfn s_eqb
      by_cases he : σ (21 + 13 * j + 4) = σ (21 + 13 * c + 4)
      · rw [if_pos he, ih (j + 1) f 0 (Or.inl rfl) (by omega) (by omega)]
        simp [he]
      · rw [if_neg he, ih (j + 1) f 1 (Or.inr rfl) (by omega) (by omega)]
        rw [if_neg (show ¬ (1 : Int32) = 0 by decide)]
        simp [he]
        rfl
theorem l_d6 (h : zWs T σ hs S) : ∀ k j fuel, j + k = zn σ → k < fuel → lp_L_dates_6 fuel (nI (zDn σ j)) 1 (nI j) T = some ((nI (zDn σ (zn σ)), 1, nI (zn σ)), T) := by
  have n10 := h.I.n10
  intro k
  induction k with
  | zero =>
    intro j fuel hj hk
    obtain ⟨f, rfl⟩ : ∃ f, fuel = f + 1 := ⟨fuel - 1, by omega⟩
    obtain rfl : j = zn σ := by omega
    rw [lp_L_dates_6, g_childCount h, zb_s, if_pos (Int32.le_refl _)]
  | succ k ih =>
    intro j fuel hj hk
    obtain ⟨f, rfl⟩ : ∃ f, fuel = f + 1 := ⟨fuel - 1, by omega⟩
    have hjn : j < zn σ := by omega
    have e := ih (j + 1) f (by omega) (by omega)
    rw [zDn_S] at e
    rw [lp_L_dates_6, g_childCount h, zb_s, if_neg (nI_ge (by omega) (by omega)), if_neg (show ¬ (1 : Int32) = 0 by decide), g_birthdayOf h hjn, zbi_s]
    simp only [zl_s, nI_1, Int32.add_zero]
    have body : ∀ z : Int32, (z = 0 ∨ z = 1) → (if z = 0 then (0 : Int32) else if (zfn (s_eqb σ (σ (21 + 13 * j + 4))) 0 j).isSome = true then 0 else 1) = s_fst σ j → lp_L_dates_36 (nI (zDn σ j)) (nI j) 16 z 0 T = some ((s_fst σ j, nI j), T) := fun z hz hf => by
      have := l_fst h hjn (w1 := nI (zDn σ j)) j 0 16 z hz (by omega) (by omega)
      rw [← nl_0, hf] at this
      exact this
    have hfin : ∀ z : Int32, (z = 0 ∨ z = 1) → (if z = 0 then (0 : Int32) else if (zfn (s_eqb σ (σ (21 + 13 * j + 4))) 0 j).isSome = true then 0 else 1) = s_fst σ j → (zb (lp_L_dates_36 (nI (zDn σ j)) (nI j) 16 z 0 T) fun v23 T22 => (if v23.1 = 0 then (if v23.1 = 0 then lp_L_dates_6 f (nI (zDn σ j)) 1 (nI (j + 1)) T22 else lp_L_dates_6 f (nI (zDn σ j + 1)) 1 (nI (j + 1)) T22) else zb (f_L_dateAt (nI (zDn σ j)) T22) fun v29 T30 => zbi (f_X3_birthdayOf (nI j) T30) fun v32 T33 => (if v29 = v32 then (if v23.1 = 0 then lp_L_dates_6 f (nI (zDn σ j)) 1 (nI (j + 1)) T33 else lp_L_dates_6 f (nI (zDn σ j + 1)) 1 (nI (j + 1)) T33) else (if v23.1 = 0 then lp_L_dates_6 f (nI (zDn σ j)) 0 (nI (j + 1)) T33 else lp_L_dates_6 f (nI (zDn σ j + 1)) 0 (nI (j + 1)) T33)))) = some ((nI (zDn σ (zn σ)), 1, nI (zn σ)), T) := fun z hz hf => by
      rw [body z hz hf, zb_s]
      dsimp only
      by_cases h0 : s_fst σ j = 0
      · rw [if_pos h0, if_pos h0]
        rw [if_pos h0] at e
        exact e
      · rw [if_neg h0, g_Ldat h hjn h0, zb_s, g_birthdayOf h hjn, zbi_s, if_pos rfl, if_neg h0]
        rw [if_neg h0] at e
        exact e
    rcases (h.I.c hjn).2.2.1 with hb | ⟨x, hx, hb⟩
    · rw [if_pos (show σ (21 + 13 * j + 4) < 0 by rw [hb]; decide)]
      refine hfin 0 (Or.inl rfl) ?_
      rw [if_pos rfl]
      unfold s_fst
      split
      · rfl
      · first | rfl | rw [if_pos hb]
    · rw [if_neg (show ¬ σ (21 + 13 * j + 4) < 0 by rw [hb]; exact nI_pos (by omega))]
      refine hfin 1 (Or.inr rfl) ?_
      rw [if_neg (show ¬ (1 : Int32) = 0 by decide)]
      unfold s_fst
      split
      · rfl
      · have hbn : ¬ σ (21 + 13 * j + 4) = -1 := by rw [hb, q_m1ne (by omega)]; exact id
        first | rw [if_neg hbn] | simp [hbn]
end DA
