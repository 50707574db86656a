/-! CALLS THAT CHANGE NOTHING: loops over the rows (the class's half) -/
section QB
variable {T : zT} {ρ : Nat} {σ : Nat → Int32}
theorem zfo_rel {α β : Type} {st : Nat → α → α} {st' : Nat → β → β} {P : α → β → Prop} : ∀ {k j : Nat} {a : α} {b : β}, P a b → (∀ i a b, j ≤ i → i < j + k → P a b → P (st i a) (st' i b)) → P (zfo st j k a) (zfo st' j k b)
  | 0, _, _, _, h, _ => h
  | k + 1, j, a, b, h, hs => zfo_rel (k := k) (j := j + 1) (hs j a b (Nat.le_refl _) (by omega) h) (fun i a b h1 h2 => hs i a b (by omega) (by omega))
def s_hmp (σ : Nat → Int32) (g d : Int32) : Nat → Bool := fun i => if σ (21 + 13 * i + 3) = g then (if σ (21 + 13 * i + 4) = d then true else false) else false
def s_eqb (σ : Nat → Int32) (d : Int32) : Nat → Bool := fun i => if σ (21 + 13 * i + 4) = d then true else false
def s_fst (σ : Nat → Int32) (c : Nat) : Int32 := if (zfn (s_eqb σ (σ (21 + 13 * c + 4))) 0 c).isSome = true then 0 else if σ (21 + 13 * c + 4) = -1 then 0 else 1
def s_dto (d x : Int32) : Int32 := if x - d + 360 - (x - d + 360) / 360 * 360 = 0 then 360 else x - d + 360 - (x - d + 360) / 360 * 360
def s_unt (d x : Int32) : Int32 := if x ≤ d then x - d + 360 else x - d
def s_mon (σ : Nat → Int32) (m : Int32) : Int32 := zfo (fun i u => if σ (21 + 13 * i + 4) = -1 then u else if σ (21 + 13 * i + 4) / 30 + 1 = m then u + 1 else u) 0 (zn σ) 0
def s_dat (σ : Nat → Int32) (x : Int32) : Nat → Nat → Int32 → Option Nat
  | _, 0, _ => none
  | j, k + 1, s => if s_fst σ j = 0 then s_dat σ x (j + 1) k s else if s = x then some j else s_dat σ x (j + 1) k (s + 1)
def s_cl (σ : Nat → Int32) (c : Nat) : Nat → Int32 → Int32 := fun i u => if σ (21 + 13 * c + 4) = -1 then u else if σ (21 + 13 * c + 4) = σ (21 + 13 * i + 4) then (if σ (21 + 13 * c + 3) = σ (21 + 13 * i + 3) then u + 1 else u) else u
theorem q_unt {x : Int32} : f_X2_daysUntil ρ x T = some (s_unt (T.1 1 ρ 1) x, T) := by
  unfold f_X2_daysUntil s_unt
  split <;> rfl
theorem q_du {b d : Nat} (hb : b < 360) (hd : d < 360) : s_unt (nI d) (nI b) = s_dto (nI d) (nI b) ∧ ∃ z, 1 ≤ z ∧ z ≤ 360 ∧ s_dto (nI d) (nI b) = nI z := by
  have e : nI b - nI d + 360 = nI (b + 360 - d) := by
    rw [Int32.sub_eq_add_neg, Int32.add_assoc, Int32.add_comm (-nI d), ← Int32.add_assoc, nl_360, nI_add, ← Int32.sub_eq_add_neg, pk_sub (by omega)]
  have e2 : nI (b + 360 - d) - nI (b + 360 - d) / 360 * 360 = nI ((b + 360 - d) % 360) := pk_rem (by omega) (by decide) (by decide)
  unfold s_unt s_dto
  rw [e, e2]
  simp (disch := omega) only [q_le]
  by_cases h : b ≤ d
  · rw [if_pos h]
    by_cases h0 : b = d
    · subst h0
      rw [show (b + 360 - b) % 360 = 0 by omega, if_pos nI_0, show b + 360 - b = 360 by omega]
      exact ⟨rfl, 360, by decide, by decide, rfl⟩
    · rw [show (b + 360 - d) % 360 = b + 360 - d by omega, if_neg (nI_ne0 (by omega) (by omega))]
      exact ⟨rfl, b + 360 - d, by omega, by omega, rfl⟩
  · rw [if_neg h, pk_sub (by omega), show (b + 360 - d) % 360 = b - d by omega, if_neg (nI_ne0 (by omega) (by omega))]
    exact ⟨rfl, b - d, by omega, by omega, rfl⟩
theorem qx_pin_l (R : zRR T 0 σ) (I : zIv σ) {g d : Int32} : ∀ k j fuel, j + k = zn σ → k < fuel → lp_X3_partyIn_20 g d fuel (nI j) T = some ((match zfn (s_hmp σ g d) j k with | some i => (0, nI i) | none => (1, nI (zn σ))), T) := by
  have n10 := I.n10
  have r9 : T.1 1 0 9 = nI (zn σ) := R.f9.trans I.n
  intro k
  induction k with
  | zero =>
    intro j fuel hj hk
    obtain ⟨f, rfl⟩ : ∃ f, fuel = f + 1 := ⟨fuel - 1, by omega⟩
    obtain rfl : j = zn σ := by omega
    simp (disch := omega) only [lp_X3_partyIn_20, r9, q_le]
    rw [if_pos (Nat.le_refl _)]; rfl
  | succ k ih =>
    intro j fuel hj hk
    obtain ⟨f, rfl⟩ : ∃ f, fuel = f + 1 := ⟨fuel - 1, by omega⟩
    have e := ih (j + 1) f (by omega) (by omega)
    have n1 : ¬ zn σ ≤ j := by omega
    have n2 : j < zn σ := by omega
    have c8 : f_X3_cell 8 0 (nI j) T = some (T.2 8 0 j, T) := q_cellc (by decide) (by omega)
    rw [R.ho n2] at c8
    have c9 : f_X3_cell 9 0 (nI j) T = some (T.2 9 0 j, T) := q_cellc (by decide) (by omega)
    rw [R.bi n2] at c9
    unfold zfn
    simp (disch := omega) only [lp_X3_partyIn_20, s_hmp, c8, c9, r9, q_le, q_eq, zb_s, zl_s, nI_1]
    rw [if_neg n1]
    by_cases h0 : σ (21 + 13 * j + 3) = g
    · by_cases h1 : σ (21 + 13 * j + 4) = d
      · simp (disch := omega) only [if_pos h0, if_pos h1, if_true, if_false, Bool.false_eq_true] <;> exact e
      · simp (disch := omega) only [if_pos h0, if_neg h1, if_true, if_false, Bool.false_eq_true] <;> exact e
    · by_cases h1 : σ (21 + 13 * j + 4) = d
      · simp (disch := omega) only [if_neg h0, if_pos h1, if_true, if_false, Bool.false_eq_true] <;> exact e
      · simp (disch := omega) only [if_neg h0, if_neg h1, if_true, if_false, Bool.false_eq_true] <;> exact e
theorem qx_fst_l (R : zRR T 0 σ) (I : zIv σ) {c : Nat} (hc : c < zn σ) : ∀ k j fuel, j + k = c → k < fuel → lp_X3_isFirstWithItsDate_14 (nI c) (σ (21 + 13 * c + 4)) fuel (nI j) T = some ((match zfn (s_eqb σ (σ (21 + 13 * c + 4))) j k with | some i => (0, nI i) | none => (1, nI (c))), T) := by
  have n10 := I.n10
  intro k
  induction k with
  | zero =>
    intro j fuel hj hk
    obtain ⟨f, rfl⟩ : ∃ f, fuel = f + 1 := ⟨fuel - 1, by omega⟩
    obtain rfl : j = c := by omega
    simp (disch := omega) only [lp_X3_isFirstWithItsDate_14, q_le]
    rw [if_pos (Nat.le_refl _)]; rfl
  | succ k ih =>
    intro j fuel hj hk
    obtain ⟨f, rfl⟩ : ∃ f, fuel = f + 1 := ⟨fuel - 1, by omega⟩
    have e := ih (j + 1) f (by omega) (by omega)
    have n1 : ¬ c ≤ j := by omega
    have n2 : j < c := by omega
    have c9 : f_X3_cell 9 0 (nI j) T = some (T.2 9 0 j, T) := q_cellc (by decide) (by omega)
    rw [R.bi (show j < zn σ by omega)] at c9
    unfold zfn
    simp (disch := omega) only [lp_X3_isFirstWithItsDate_14, s_eqb, c9, q_le, q_eq, zb_s, zl_s, nI_1]
    rw [if_neg n1]
    by_cases h0 : σ (21 + 13 * j + 4) = σ (21 + 13 * c + 4)
    · simp (disch := omega) only [if_pos h0, if_true, if_false, Bool.false_eq_true] <;> exact e
    · simp (disch := omega) only [if_neg h0, if_true, if_false, Bool.false_eq_true] <;> exact e
theorem qx_fst (R : zRR T 0 σ) (I : zIv σ) {c : Nat} (hc : c < zn σ) : f_X3_isFirstWithItsDate (nI c) T = some (s_fst σ c, T) := by
  have n10 := I.n10
  unfold f_X3_isFirstWithItsDate s_fst
  have e := qx_fst_l R I hc c 0 2000 (by omega) (by omega)
  rw [← nl_0] at e
  rw [q_cellc (by decide) (by omega), R.bi hc, zb_s, e, zb_s]
  cases zfn (s_eqb σ (σ (21 + 13 * c + 4))) 0 c with
  | some i => rfl
  | none =>
    show (if σ (21 + 13 * c + 4) = -1 then _ else _) = some ((if σ (21 + 13 * c + 4) = -1 then 0 else 1), T)
    split <;> rfl
theorem qx_dif_l (R : zRR T 0 σ) (I : zIv σ) : ∀ k j fuel u, j + k = zn σ → k < fuel → lp_X3_differentDates_4  fuel u (nI j) T = some ((zfo (fun i u => if s_fst σ i = 0 then u else u + 1) j k u, nI (zn σ)), T) := by
  have n10 := I.n10
  have r9 : T.1 1 0 9 = nI (zn σ) := R.f9.trans I.n
  intro k
  induction k with
  | zero =>
    intro j fuel u hj hk
    obtain ⟨f, rfl⟩ : ∃ f, fuel = f + 1 := ⟨fuel - 1, by omega⟩
    obtain rfl : j = zn σ := by omega
    simp (disch := omega) only [lp_X3_differentDates_4, r9, q_le]
    rw [if_pos (Nat.le_refl _)]; rfl
  | succ k ih =>
    intro j fuel u hj hk
    obtain ⟨f, rfl⟩ : ∃ f, fuel = f + 1 := ⟨fuel - 1, by omega⟩
    have e := ih (j + 1) f ((fun i u => if s_fst σ i = 0 then u else u + 1) j u) (by omega) (by omega)
    have n1 : ¬ zn σ ≤ j := by omega
    have n2 : j < zn σ := by omega
    have ef := qx_fst R I n2
    show _ = some ((zfo (fun i u => if s_fst σ i = 0 then u else u + 1) (j + 1) k ((fun i u => if s_fst σ i = 0 then u else u + 1) j u), nI (zn σ)), T)
    simp (disch := omega) only [lp_X3_differentDates_4, ef, r9, q_le, q_eq, zb_s, zl_s, nI_1]
    rw [if_neg n1]
    by_cases h0 : s_fst σ j = 0
    · simp (disch := omega) only [if_pos h0, if_true, if_false, Int32.add_zero] at e ⊢
      exact e
    · simp (disch := omega) only [if_neg h0, if_true, if_false, Int32.add_zero] at e ⊢
      exact e
theorem qx_dat_l (R : zRR T 0 σ) (I : zIv σ) {x : Int32} : ∀ k j fuel s, j + k = zn σ → k < fuel → ∃ s', lp_X3_dateAt_4 x fuel s (nI j) T = some ((match s_dat σ x j k s with | some i => (0, (s', nI i)) | none => (1, (s', nI (zn σ)))), T) := by
  have n10 := I.n10
  have r9 : T.1 1 0 9 = nI (zn σ) := R.f9.trans I.n
  intro k
  induction k with
  | zero =>
    intro j fuel s hj hk
    obtain ⟨f, rfl⟩ : ∃ f, fuel = f + 1 := ⟨fuel - 1, by omega⟩
    obtain rfl : j = zn σ := by omega
    simp (disch := omega) only [lp_X3_dateAt_4, r9, q_le]
    rw [if_pos (Nat.le_refl _)]; exact ⟨s, rfl⟩
  | succ k ih =>
    intro j fuel s hj hk
    obtain ⟨f, rfl⟩ : ∃ f, fuel = f + 1 := ⟨fuel - 1, by omega⟩
    have n1 : ¬ zn σ ≤ j := by omega
    have n2 : j < zn σ := by omega
    have ef := qx_fst R I n2
    unfold s_dat
    simp (disch := omega) only [lp_X3_dateAt_4, r9, ef, q_le, zb_s, zl_s, nI_1]
    rw [if_neg n1]
    by_cases h0 : s_fst σ j = 0
    · simp only [if_pos h0]; exact ih (j + 1) f s (by omega) (by omega)
    · simp only [if_neg h0]
      by_cases h1 : s = x
      · simp only [if_pos h1]; exact ⟨s, rfl⟩
      · simp only [if_neg h1]; exact ih (j + 1) f (s + 1) (by omega) (by omega)
theorem qx_mon_l (R : zRR T 0 σ) (I : zIv σ) {m : Int32} : ∀ k j fuel u, j + k = zn σ → k < fuel → lp_X3_countBirthdaysIn_4 m fuel u (nI j) T = some ((zfo (fun i u => if σ (21 + 13 * i + 4) = -1 then u else if σ (21 + 13 * i + 4) / 30 + 1 = m then u + 1 else u) j k u, nI (zn σ)), T) := by
  have n10 := I.n10
  have r9 : T.1 1 0 9 = nI (zn σ) := R.f9.trans I.n
  intro k
  induction k with
  | zero =>
    intro j fuel u hj hk
    obtain ⟨f, rfl⟩ : ∃ f, fuel = f + 1 := ⟨fuel - 1, by omega⟩
    obtain rfl : j = zn σ := by omega
    simp (disch := omega) only [lp_X3_countBirthdaysIn_4, r9, q_le]
    rw [if_pos (Nat.le_refl _)]; rfl
  | succ k ih =>
    intro j fuel u hj hk
    obtain ⟨f, rfl⟩ : ∃ f, fuel = f + 1 := ⟨fuel - 1, by omega⟩
    have e := ih (j + 1) f ((fun i u => if σ (21 + 13 * i + 4) = -1 then u else if σ (21 + 13 * i + 4) / 30 + 1 = m then u + 1 else u) j u) (by omega) (by omega)
    have n1 : ¬ zn σ ≤ j := by omega
    have n2 : j < zn σ := by omega
    have c9 : f_X3_cell 9 0 (nI j) T = some (T.2 9 0 j, T) := q_cellc (by decide) (by omega)
    rw [R.bi n2] at c9
    have em : ∀ x, f_X3_monthAt x T = some (x / 30 + 1, T) := fun _ => rfl
    show _ = some ((zfo (fun i u => if σ (21 + 13 * i + 4) = -1 then u else if σ (21 + 13 * i + 4) / 30 + 1 = m then u + 1 else u) (j + 1) k ((fun i u => if σ (21 + 13 * i + 4) = -1 then u else if σ (21 + 13 * i + 4) / 30 + 1 = m then u + 1 else u) j u), nI (zn σ)), T)
    simp (disch := omega) only [lp_X3_countBirthdaysIn_4, c9, em, r9, q_le, q_eq, zb_s, zl_s, nI_1]
    rw [if_neg n1]
    by_cases h0 : σ (21 + 13 * j + 4) = -1
    · by_cases h1 : σ (21 + 13 * j + 4) / 30 + 1 = m
      · simp (disch := omega) only [if_pos h0, if_pos h1, if_true, if_false, Int32.add_zero] at e ⊢
        exact e
      · simp (disch := omega) only [if_pos h0, if_neg h1, if_true, if_false, Int32.add_zero] at e ⊢
        exact e
    · by_cases h1 : σ (21 + 13 * j + 4) / 30 + 1 = m
      · simp (disch := omega) only [if_neg h0, if_pos h1, if_true, if_false, Int32.add_zero] at e ⊢
        exact e
      · simp (disch := omega) only [if_neg h0, if_neg h1, if_true, if_false, Int32.add_zero] at e ⊢
        exact e
theorem qx_mon (R : zRR T 0 σ) (I : zIv σ) (m : Int32) : f_X3_countBirthdaysIn m T = some (s_mon σ m, T) := by
  have n10 := I.n10
  unfold f_X3_countBirthdaysIn
  have e := qx_mon_l R I (m := m) (zn σ) 0 2000 0 (by omega) (by omega)
  rw [← nl_0] at e
  rw [e]; rfl
theorem qx_cla_l (R : zRR T 0 σ) (I : zIv σ) {c : Nat} (hc : c < zn σ) : ∀ k j fuel u, j + k = c → k < fuel → lp_X3_clashes_17 (nI c) fuel u (nI j) T = some ((zfo (s_cl σ c) j k u, nI (c)), T) := by
  have n10 := I.n10
  intro k
  induction k with
  | zero =>
    intro j fuel u hj hk
    obtain ⟨f, rfl⟩ : ∃ f, fuel = f + 1 := ⟨fuel - 1, by omega⟩
    obtain rfl : j = c := by omega
    simp (disch := omega) only [lp_X3_clashes_17, q_le]
    rw [if_pos (Nat.le_refl _)]; rfl
  | succ k ih =>
    intro j fuel u hj hk
    obtain ⟨f, rfl⟩ : ∃ f, fuel = f + 1 := ⟨fuel - 1, by omega⟩
    have e := ih (j + 1) f ((s_cl σ c) j u) (by omega) (by omega)
    have n1 : ¬ c ≤ j := by omega
    have n2 : j < c := by omega
    have z1 : ¬ (1 : Int32) = 0 := by decide
    have b9 : f_X3_cell 9 0 (nI c) T = some (T.2 9 0 c, T) := q_cellc (by decide) (by omega)
    rw [R.bi hc] at b9
    have b8 : f_X3_cell 8 0 (nI c) T = some (T.2 8 0 c, T) := q_cellc (by decide) (by omega)
    rw [R.ho hc] at b8
    have c9 : f_X3_cell 9 0 (nI j) T = some (T.2 9 0 j, T) := q_cellc (by decide) (by omega)
    rw [R.bi (show j < zn σ by omega)] at c9
    have c8 : f_X3_cell 8 0 (nI j) T = some (T.2 8 0 j, T) := q_cellc (by decide) (by omega)
    rw [R.ho (show j < zn σ by omega)] at c8
    show _ = some ((zfo (s_cl σ c) (j + 1) k ((s_cl σ c) j u), nI (c)), T)
    simp (disch := omega) only [lp_X3_clashes_17, f_X3_clash, b9, b8, c9, c8, q_le, q_eq, zb_s, zl_s, nI_1]
    rw [if_neg n1]
    by_cases h0 : σ (21 + 13 * c + 4) = -1
    · by_cases h1 : σ (21 + 13 * c + 4) = σ (21 + 13 * j + 4)
      · by_cases h2 : σ (21 + 13 * c + 3) = σ (21 + 13 * j + 3)
        · simp (disch := omega) only [if_pos h0, if_pos h1, if_pos h2, s_cl, if_true, if_false, z1, zb_s, zl_s, nI_1, Int32.add_zero] at e ⊢
          exact e
        · simp (disch := omega) only [if_pos h0, if_pos h1, if_neg h2, s_cl, if_true, if_false, z1, zb_s, zl_s, nI_1, Int32.add_zero] at e ⊢
          exact e
      · by_cases h2 : σ (21 + 13 * c + 3) = σ (21 + 13 * j + 3)
        · simp (disch := omega) only [if_pos h0, if_neg h1, if_pos h2, s_cl, if_true, if_false, z1, zb_s, zl_s, nI_1, Int32.add_zero] at e ⊢
          exact e
        · simp (disch := omega) only [if_pos h0, if_neg h1, if_neg h2, s_cl, if_true, if_false, z1, zb_s, zl_s, nI_1, Int32.add_zero] at e ⊢
          exact e
    · by_cases h1 : σ (21 + 13 * c + 4) = σ (21 + 13 * j + 4)
      · by_cases h2 : σ (21 + 13 * c + 3) = σ (21 + 13 * j + 3)
        · simp (disch := omega) only [if_neg h0, if_pos h1, if_pos h2, s_cl, if_true, if_false, z1, zb_s, zl_s, nI_1, Int32.add_zero] at e ⊢
          exact e
        · simp (disch := omega) only [if_neg h0, if_pos h1, if_neg h2, s_cl, if_true, if_false, z1, zb_s, zl_s, nI_1, Int32.add_zero] at e ⊢
          exact e
      · by_cases h2 : σ (21 + 13 * c + 3) = σ (21 + 13 * j + 3)
        · simp (disch := omega) only [if_neg h0, if_neg h1, if_pos h2, s_cl, if_true, if_false, z1, zb_s, zl_s, nI_1, Int32.add_zero] at e ⊢
          exact e
        · simp (disch := omega) only [if_neg h0, if_neg h1, if_neg h2, s_cl, if_true, if_false, z1, zb_s, zl_s, nI_1, Int32.add_zero] at e ⊢
          exact e
def s_mwc (σ : Nat → Int32) : Nat → Int32 → Int32 := fun i u => if s_cnt σ 0 (nI i) ≤ s_cnt σ 0 u then u else nI i
def s_bus (σ : Nat → Int32) : Nat → Int32 × Int32 → Int32 × Int32 := fun i p => if s_mon σ (nI i) ≤ p.2 then p else (nI i, s_mon σ (nI i))
def s_nxc (σ : Nat → Int32) : Nat → Int32 × Int32 → Int32 × Int32 := fun i p => if σ (21 + 13 * i + 4) = -1 then p else if p.2 ≤ s_unt (σ 1) (σ (21 + 13 * i + 4)) then p else (nI i, s_unt (σ 1) (σ (21 + 13 * i + 4)))
def s_nxm (σ : Nat → Int32) : Nat → Int32 × Int32 → Int32 × Int32 := fun i p => if σ (21 + 13 * i + 4) = -1 then p else if p.1 = -1 then (nI i, s_dto (σ 1) (σ (21 + 13 * i + 4))) else if p.2 ≤ s_dto (σ 1) (σ (21 + 13 * i + 4)) then p else (nI i, s_dto (σ 1) (σ (21 + 13 * i + 4)))
def s_frg (σ : Nat → Int32) (c : Nat) (d : Int32) : Nat → Bool := fun g => if s_rea σ c g d = 0 then true else false
theorem q_lt12 {j : Nat} (h : j < 2 ^ 31) : ((12 : Int32) < nI j) = (12 < j) := q_lt (a := 12) (by decide) h
theorem qx_mwc_l (R : zRR T 0 σ) (I : zIv σ) : ∀ k j fuel u, j + k = 6 → k < fuel → lp_X3_mostWantedCake_4  fuel u (nI j) T = some ((zfo (s_mwc σ) j k u, nI (6)), T) := by
  intro k
  induction k with
  | zero =>
    intro j fuel u hj hk
    obtain ⟨f, rfl⟩ : ∃ f, fuel = f + 1 := ⟨fuel - 1, by omega⟩
    obtain rfl : j = 6 := by omega
    simp (disch := omega) only [lp_X3_mostWantedCake_4, q_le6]
    rw [if_pos (Nat.le_refl _)]; rfl
  | succ k ih =>
    intro j fuel u hj hk
    obtain ⟨f, rfl⟩ : ∃ f, fuel = f + 1 := ⟨fuel - 1, by omega⟩
    have e := ih (j + 1) f ((s_mwc σ) j u) (by omega) (by omega)
    have n1 : ¬ 6 ≤ j := by omega
    have n2 : j < 6 := by omega
    have ef := fun v => qx_fans R I v
    show _ = some ((zfo (s_mwc σ) (j + 1) k ((s_mwc σ) j u), nI (6)), T)
    simp (disch := omega) only [lp_X3_mostWantedCake_4, ef, q_le6, q_le, q_eq, zb_s, zl_s, nI_1]
    rw [if_neg n1]
    by_cases h0 : s_cnt σ 0 (nI j) ≤ s_cnt σ 0 u
    · simp (disch := omega) only [if_pos h0, s_mwc, if_true, if_false, Int32.add_zero] at e ⊢
      exact e
    · simp (disch := omega) only [if_neg h0, s_mwc, if_true, if_false, Int32.add_zero] at e ⊢
      exact e
theorem qx_bus_l (R : zRR T 0 σ) (I : zIv σ) : ∀ k j fuel a b, j + k = 13 → k < fuel → lp_X3_busiestMonth_6  fuel a b (nI j) T = some (((zfo (s_bus σ) j k (a, b)).1, (zfo (s_bus σ) j k (a, b)).2, nI (13)), T) := by
  intro k
  induction k with
  | zero =>
    intro j fuel a b hj hk
    obtain ⟨f, rfl⟩ : ∃ f, fuel = f + 1 := ⟨fuel - 1, by omega⟩
    obtain rfl : j = 13 := by omega
    simp (disch := omega) only [lp_X3_busiestMonth_6, q_lt12]
    rw [if_pos (by omega)]; rfl
  | succ k ih =>
    intro j fuel a b hj hk
    obtain ⟨f, rfl⟩ : ∃ f, fuel = f + 1 := ⟨fuel - 1, by omega⟩
    have e := ih (j + 1) f ((s_bus σ) j (a, b)).1 ((s_bus σ) j (a, b)).2 (by omega) (by omega)
    have n1 : ¬ 12 < j := by omega
    have n2 : j < 13 := by omega
    have ef := fun v => qx_mon R I v
    show _ = some (((zfo (s_bus σ) (j + 1) k ((s_bus σ) j (a, b))).1, (zfo (s_bus σ) (j + 1) k ((s_bus σ) j (a, b))).2, nI (13)), T)
    simp (disch := omega) only [lp_X3_busiestMonth_6, ef, q_lt12, zb_s, zl_s, nI_1]
    rw [if_neg n1]
    by_cases h0 : s_mon σ (nI j) ≤ b
    · simp (disch := omega) only [if_pos h0, s_bus, if_true, if_false, Int32.add_zero] at e ⊢
      exact e
    · simp (disch := omega) only [if_neg h0, s_bus, if_true, if_false, Int32.add_zero] at e ⊢
      exact e
theorem qx_nxc_l (R : zRR T 0 σ) (I : zIv σ) : ∀ k j fuel a b, j + k = zn σ → k < fuel → lp_X3_nextChild_8  fuel a b (nI j) T = some (((zfo (s_nxc σ) j k (a, b)).1, (zfo (s_nxc σ) j k (a, b)).2, nI (zn σ)), T) := by
  have n10 := I.n10
  have r9 : T.1 1 0 9 = nI (zn σ) := R.f9.trans I.n
  intro k
  induction k with
  | zero =>
    intro j fuel a b hj hk
    obtain ⟨f, rfl⟩ : ∃ f, fuel = f + 1 := ⟨fuel - 1, by omega⟩
    obtain rfl : j = zn σ := by omega
    simp (disch := omega) only [lp_X3_nextChild_8, r9, q_le]
    rw [if_pos (by omega)]; rfl
  | succ k ih =>
    intro j fuel a b hj hk
    obtain ⟨f, rfl⟩ : ∃ f, fuel = f + 1 := ⟨fuel - 1, by omega⟩
    have e := ih (j + 1) f ((s_nxc σ) j (a, b)).1 ((s_nxc σ) j (a, b)).2 (by omega) (by omega)
    have n1 : ¬ zn σ ≤ j := by omega
    have n2 : j < zn σ := by omega
    have eu := fun x => q_unt (ρ := 0) (T := T) (x := x)
    rw [R.f1] at eu
    have c9 : f_X3_cell 9 0 (nI j) T = some (T.2 9 0 j, T) := q_cellc (by decide) (by omega)
    rw [R.bi n2] at c9
    show _ = some (((zfo (s_nxc σ) (j + 1) k ((s_nxc σ) j (a, b))).1, (zfo (s_nxc σ) (j + 1) k ((s_nxc σ) j (a, b))).2, nI (zn σ)), T)
    simp (disch := omega) only [lp_X3_nextChild_8, c9, eu, r9, q_le, zb_s, zl_s, nI_1]
    rw [if_neg n1]
    by_cases h0 : σ (21 + 13 * j + 4) = -1
    · by_cases h1 : b ≤ s_unt (σ 1) (σ (21 + 13 * j + 4))
      · simp (disch := omega) only [if_pos h0, if_pos h1, s_nxc, if_true, if_false, Int32.add_zero] at e ⊢
        exact e
      · simp (disch := omega) only [if_pos h0, if_neg h1, s_nxc, if_true, if_false, Int32.add_zero] at e ⊢
        exact e
    · by_cases h1 : b ≤ s_unt (σ 1) (σ (21 + 13 * j + 4))
      · simp (disch := omega) only [if_neg h0, if_pos h1, s_nxc, if_true, if_false, Int32.add_zero] at e ⊢
        exact e
      · simp (disch := omega) only [if_neg h0, if_neg h1, s_nxc, if_true, if_false, Int32.add_zero] at e ⊢
        exact e
theorem qx_clo_l (R : zRR T 0 σ) (I : zIv σ) : ∀ k j fuel u, j + k = zn σ → k < fuel → lp_X3_clashes_4  fuel u (nI j) T = some ((zfo (fun i u => zfo (s_cl σ i) 0 i u) j k u, nI (zn σ)), T) := by
  have n10 := I.n10
  have r9 : T.1 1 0 9 = nI (zn σ) := R.f9.trans I.n
  intro k
  induction k with
  | zero =>
    intro j fuel u hj hk
    obtain ⟨f, rfl⟩ : ∃ f, fuel = f + 1 := ⟨fuel - 1, by omega⟩
    obtain rfl : j = zn σ := by omega
    simp (disch := omega) only [lp_X3_clashes_4, r9, q_le]
    rw [if_pos (Nat.le_refl _)]; rfl
  | succ k ih =>
    intro j fuel u hj hk
    obtain ⟨f, rfl⟩ : ∃ f, fuel = f + 1 := ⟨fuel - 1, by omega⟩
    have e := ih (j + 1) f ((fun i u => zfo (s_cl σ i) 0 i u) j u) (by omega) (by omega)
    have n1 : ¬ zn σ ≤ j := by omega
    have n2 : j < zn σ := by omega
    have ei := fun u => qx_cla_l R I n2 j 0 2000 u (by omega) (by omega)
    simp only [← nl_0] at ei
    show _ = some ((zfo (fun i u => zfo (s_cl σ i) 0 i u) (j + 1) k ((fun i u => zfo (s_cl σ i) 0 i u) j u), nI (zn σ)), T)
    simp (disch := omega) only [lp_X3_clashes_4, ei, r9, q_le, q_eq, zb_s, zl_s, nI_1]
    rw [if_neg n1]
    exact e
theorem s_nx_rel {σ : Nat → Int32} (I : zIv σ) : (zfo (s_nxc σ) 0 (zn σ) (-1, 361)).1 = (zfo (s_nxm σ) 0 (zn σ) (-1, 0)).1 := by
  have n10 := I.n10
  obtain ⟨d, hd, ed⟩ := I.date
  have key : (fun (p q : Int32 × Int32) => p.1 = q.1 ∧ ((q.1 = -1 ∧ p.2 = 361) ∨ (¬ q.1 = -1 ∧ p.2 = q.2))) (zfo (s_nxc σ) 0 (zn σ) (-1, 361)) (zfo (s_nxm σ) 0 (zn σ) (-1, 0)) := by
    refine zfo_rel (P := fun (p q : Int32 × Int32) => p.1 = q.1 ∧ ((q.1 = -1 ∧ p.2 = 361) ∨ (¬ q.1 = -1 ∧ p.2 = q.2))) ⟨rfl, Or.inl ⟨rfl, rfl⟩⟩ ?_
    rintro i ⟨a, b⟩ ⟨a', b'⟩ - hi ⟨e1, e2⟩
    simp only at e1 e2
    subst e1
    unfold s_nxc s_nxm
    simp only
    rcases (I.c (c := i) (by omega)).2.2.1 with hb | ⟨x, hx, hb⟩
    · rw [if_pos hb, if_pos hb]; exact ⟨rfl, e2⟩
    · have hn : ¬ σ (21 + 13 * i + 4) = -1 := by rw [hb, q_m1ne (by omega)]; exact id
      obtain ⟨h1, z, hz1, hz2, h2⟩ := q_du hx hd
      rw [if_neg hn, if_neg hn, hb, ed, h1, h2]
      have hi' : ¬ nI i = -1 := by rw [q_m1ne (by omega)]; exact id
      rcases e2 with ⟨ea, eb⟩ | ⟨ea, eb⟩
      · rw [if_pos ea, eb, nl_361, if_neg (nI_ge (by omega) (by omega))]
        exact ⟨rfl, Or.inr ⟨hi', rfl⟩⟩
      · rw [if_neg ea, eb]
        by_cases hh : b' ≤ nI z
        · rw [if_pos hh]; exact ⟨rfl, Or.inr ⟨ea, rfl⟩⟩
        · rw [if_neg hh]; exact ⟨rfl, Or.inr ⟨hi', rfl⟩⟩
  exact key.1
end QB
