/-! THE REST OF THE CALLS THAT CHANGE NOTHING -/
section QC
variable {T M : zT} {ρ : Nat} {σ : Nat → Int32}
def s_mwc (σ : Nat → Int32) : Nat → Int32 → Int32 := fun i u => if s_cnt σ 0 (nI i) ≤ s_cnt σ 0 u then u else nI i
def s_bus (σ : Nat → Int32) : Nat → Int32 × Int32 → Int32 × Int32 := fun i p => if s_mon σ (nI i) ≤ p.2 then p else (nI i, s_mon σ (nI i))
def s_nxc (σ : Nat → Int32) : Nat → Int32 × Int32 → Int32 × Int32 := fun i p => if σ (21 + 13 * i + 4) = -1 then p else if p.2 ≤ s_unt (σ 1) (σ (21 + 13 * i + 4)) then p else (nI i, s_unt (σ 1) (σ (21 + 13 * i + 4)))
def s_nxm (σ : Nat → Int32) : Nat → Int32 × Int32 → Int32 × Int32 := fun i p => if σ (21 + 13 * i + 4) = -1 then p else if p.1 = -1 then (nI i, s_dto (σ 1) (σ (21 + 13 * i + 4))) else if p.2 ≤ s_dto (σ 1) (σ (21 + 13 * i + 4)) then p else (nI i, s_dto (σ 1) (σ (21 + 13 * i + 4)))
def s_frg (σ : Nat → Int32) (c : Nat) (d : Int32) : Nat → Bool := fun g => if s_rea σ c g d = 0 then true else false
theorem q_lt12 {j : Nat} (h : j < 2 ^ 31) : ((12 : Int32) < nI j) = (12 < j) := q_lt (a := 12) (by decide) h
theorem qx_mwc_l (R : zRR T 0 σ) (I : zIv σ) : ∀ k j fuel u, j + k = 6 → k < fuel → lp_X3_mostWantedCake_4  fuel u (nI j) T = some ((zfo (s_mwc σ) j k u, nI (6)), T) := by
  intro k
  induction k with
  | zero =>
    intro j fuel u hj hk
    obtain ⟨f, rfl⟩ : ∃ f, fuel = f + 1 := ⟨fuel - 1, by omega⟩
    obtain rfl : j = 6 := by omega
    simp (disch := omega) only [lp_X3_mostWantedCake_4, q_le6]
    rw [if_pos (Nat.le_refl _)]; rfl
  | succ k ih =>
    intro j fuel u hj hk
    obtain ⟨f, rfl⟩ : ∃ f, fuel = f + 1 := ⟨fuel - 1, by omega⟩
    have e := ih (j + 1) f ((s_mwc σ) j u) (by omega) (by omega)
    have n1 : ¬ 6 ≤ j := by omega
    have n2 : j < 6 := by omega
    have ef := fun v => qx_fans R I v
    show _ = some ((zfo (s_mwc σ) (j + 1) k ((s_mwc σ) j u), nI (6)), T)
    simp (disch := omega) only [lp_X3_mostWantedCake_4, ef, q_le6, q_le, q_eq, zb_s, zl_s, nI_1]
    rw [if_neg n1]
    by_cases h0 : s_cnt σ 0 (nI j) ≤ s_cnt σ 0 u
    · simp (disch := omega) only [if_pos h0, s_mwc, if_true, if_false, Int32.add_zero] at e ⊢
      exact e
    · simp (disch := omega) only [if_neg h0, s_mwc, if_true, if_false, Int32.add_zero] at e ⊢
      exact e
theorem qm_mwc_l (hσ : M.2 2 0 = σ) (I : zIv σ) : ∀ k j fuel u, j + k = 6 → k < fuel → lp_X4_mostWantedCake_4  fuel u (nI j) M = some ((zfo (s_mwc σ) j k u, nI (6)), M) := by
  intro k
  induction k with
  | zero =>
    intro j fuel u hj hk
    obtain ⟨f, rfl⟩ : ∃ f, fuel = f + 1 := ⟨fuel - 1, by omega⟩
    obtain rfl : j = 6 := by omega
    simp (disch := omega) only [lp_X4_mostWantedCake_4, q_le6]
    rw [if_pos (Nat.le_refl _)]; rfl
  | succ k ih =>
    intro j fuel u hj hk
    obtain ⟨f, rfl⟩ : ∃ f, fuel = f + 1 := ⟨fuel - 1, by omega⟩
    have e := ih (j + 1) f ((s_mwc σ) j u) (by omega) (by omega)
    have n1 : ¬ 6 ≤ j := by omega
    have n2 : j < 6 := by omega
    have ef := fun v => qm_lik hσ I v
    show _ = some ((zfo (s_mwc σ) (j + 1) k ((s_mwc σ) j u), nI (6)), M)
    simp (disch := omega) only [lp_X4_mostWantedCake_4, ef, q_le6, q_le, q_eq, zb_s, zl_s, nI_1]
    rw [if_neg n1]
    by_cases h0 : s_cnt σ 0 (nI j) ≤ s_cnt σ 0 u
    · simp (disch := omega) only [if_pos h0, s_mwc, if_true, if_false, Int32.add_zero] at e ⊢
      exact e
    · simp (disch := omega) only [if_neg h0, s_mwc, if_true, if_false, Int32.add_zero] at e ⊢
      exact e
theorem qx_bus_l (R : zRR T 0 σ) (I : zIv σ) : ∀ k j fuel a b, j + k = 13 → k < fuel → lp_X3_busiestMonth_6  fuel a b (nI j) T = some (((zfo (s_bus σ) j k (a, b)).1, (zfo (s_bus σ) j k (a, b)).2, nI (13)), T) := by
  intro k
  induction k with
  | zero =>
    intro j fuel a b hj hk
    obtain ⟨f, rfl⟩ : ∃ f, fuel = f + 1 := ⟨fuel - 1, by omega⟩
    obtain rfl : j = 13 := by omega
    simp (disch := omega) only [lp_X3_busiestMonth_6, q_lt12]
    rw [if_pos (by omega)]; rfl
  | succ k ih =>
    intro j fuel a b hj hk
    obtain ⟨f, rfl⟩ : ∃ f, fuel = f + 1 := ⟨fuel - 1, by omega⟩
    have e := ih (j + 1) f ((s_bus σ) j (a, b)).1 ((s_bus σ) j (a, b)).2 (by omega) (by omega)
    have n1 : ¬ 12 < j := by omega
    have n2 : j < 13 := by omega
    have ef := fun v => qx_mon R I v
    show _ = some (((zfo (s_bus σ) (j + 1) k ((s_bus σ) j (a, b))).1, (zfo (s_bus σ) (j + 1) k ((s_bus σ) j (a, b))).2, nI (13)), T)
    simp (disch := omega) only [lp_X3_busiestMonth_6, ef, q_lt12, zb_s, zl_s, nI_1]
    rw [if_neg n1]
    by_cases h0 : s_mon σ (nI j) ≤ b
    · simp (disch := omega) only [if_pos h0, s_bus, if_true, if_false, Int32.add_zero] at e ⊢
      exact e
    · simp (disch := omega) only [if_neg h0, s_bus, if_true, if_false, Int32.add_zero] at e ⊢
      exact e
theorem qm_bus_l (hσ : M.2 2 0 = σ) (I : zIv σ) : ∀ k j fuel a b, j + k = 13 → k < fuel → lp_X4_busiestMonth_6  fuel a b (nI j) M = some (((zfo (s_bus σ) j k (a, b)).1, (zfo (s_bus σ) j k (a, b)).2, nI (13)), M) := by
  intro k
  induction k with
  | zero =>
    intro j fuel a b hj hk
    obtain ⟨f, rfl⟩ : ∃ f, fuel = f + 1 := ⟨fuel - 1, by omega⟩
    obtain rfl : j = 13 := by omega
    simp (disch := omega) only [lp_X4_busiestMonth_6, q_lt12]
    rw [if_pos (by omega)]; rfl
  | succ k ih =>
    intro j fuel a b hj hk
    obtain ⟨f, rfl⟩ : ∃ f, fuel = f + 1 := ⟨fuel - 1, by omega⟩
    have e := ih (j + 1) f ((s_bus σ) j (a, b)).1 ((s_bus σ) j (a, b)).2 (by omega) (by omega)
    have n1 : ¬ 12 < j := by omega
    have n2 : j < 13 := by omega
    have ef := fun v => qm_mon hσ I v
    show _ = some (((zfo (s_bus σ) (j + 1) k ((s_bus σ) j (a, b))).1, (zfo (s_bus σ) (j + 1) k ((s_bus σ) j (a, b))).2, nI (13)), M)
    simp (disch := omega) only [lp_X4_busiestMonth_6, ef, q_lt12, zb_s, zl_s, nI_1]
    rw [if_neg n1]
    by_cases h0 : s_mon σ (nI j) ≤ b
    · simp (disch := omega) only [if_pos h0, s_bus, if_true, if_false, Int32.add_zero] at e ⊢
      exact e
    · simp (disch := omega) only [if_neg h0, s_bus, if_true, if_false, Int32.add_zero] at e ⊢
      exact e
theorem qx_nxc_l (R : zRR T 0 σ) (I : zIv σ) : ∀ k j fuel a b, j + k = zn σ → k < fuel → lp_X3_nextChild_8  fuel a b (nI j) T = some (((zfo (s_nxc σ) j k (a, b)).1, (zfo (s_nxc σ) j k (a, b)).2, nI (zn σ)), T) := by
  have n10 := I.n10
  have r9 : T.1 1 0 9 = nI (zn σ) := R.f9.trans I.n
  intro k
  induction k with
  | zero =>
    intro j fuel a b hj hk
    obtain ⟨f, rfl⟩ : ∃ f, fuel = f + 1 := ⟨fuel - 1, by omega⟩
    obtain rfl : j = zn σ := by omega
    simp (disch := omega) only [lp_X3_nextChild_8, r9, q_le]
    rw [if_pos (by omega)]; rfl
  | succ k ih =>
    intro j fuel a b hj hk
    obtain ⟨f, rfl⟩ : ∃ f, fuel = f + 1 := ⟨fuel - 1, by omega⟩
    have e := ih (j + 1) f ((s_nxc σ) j (a, b)).1 ((s_nxc σ) j (a, b)).2 (by omega) (by omega)
    have n1 : ¬ zn σ ≤ j := by omega
    have n2 : j < zn σ := by omega
    have eu := fun x => q_unt (ρ := 0) (T := T) (x := x)
    rw [R.f1] at eu
    have c9 : f_X3_cell 9 0 (nI j) T = some (T.2 9 0 j, T) := q_cellc (by decide) (by omega)
    rw [R.bi n2] at c9
    show _ = some (((zfo (s_nxc σ) (j + 1) k ((s_nxc σ) j (a, b))).1, (zfo (s_nxc σ) (j + 1) k ((s_nxc σ) j (a, b))).2, nI (zn σ)), T)
    simp (disch := omega) only [lp_X3_nextChild_8, c9, eu, r9, q_le, zb_s, zl_s, nI_1]
    rw [if_neg n1]
    by_cases h0 : σ (21 + 13 * j + 4) = -1
    · by_cases h1 : b ≤ s_unt (σ 1) (σ (21 + 13 * j + 4))
      · simp (disch := omega) only [if_pos h0, if_pos h1, s_nxc, if_true, if_false, Int32.add_zero] at e ⊢
        exact e
      · simp (disch := omega) only [if_pos h0, if_neg h1, s_nxc, if_true, if_false, Int32.add_zero] at e ⊢
        exact e
    · by_cases h1 : b ≤ s_unt (σ 1) (σ (21 + 13 * j + 4))
      · simp (disch := omega) only [if_neg h0, if_pos h1, s_nxc, if_true, if_false, Int32.add_zero] at e ⊢
        exact e
      · simp (disch := omega) only [if_neg h0, if_neg h1, s_nxc, if_true, if_false, Int32.add_zero] at e ⊢
        exact e
theorem qm_nxc_l (hσ : M.2 2 0 = σ) (I : zIv σ) : ∀ k j fuel a b, j + k = zn σ → k < fuel → lp_X4_nextChild_6  fuel a b (nI j) M = some (((zfo (s_nxm σ) j k (a, b)).1, (zfo (s_nxm σ) j k (a, b)).2, nI (zn σ)), M) := by
  have n10 := I.n10
  have m5 : M.2 2 0 5 = nI (zn σ) := by rw [hσ]; exact I.n
  intro k
  induction k with
  | zero =>
    intro j fuel a b hj hk
    obtain ⟨f, rfl⟩ : ∃ f, fuel = f + 1 := ⟨fuel - 1, by omega⟩
    obtain rfl : j = zn σ := by omega
    simp (disch := omega) only [lp_X4_nextChild_6, m5, q_le]
    rw [if_pos (by omega)]; rfl
  | succ k ih =>
    intro j fuel a b hj hk
    obtain ⟨f, rfl⟩ : ∃ f, fuel = f + 1 := ⟨fuel - 1, by omega⟩
    have e := ih (j + 1) f ((s_nxm σ) j (a, b)).1 ((s_nxm σ) j (a, b)).2 (by omega) (by omega)
    have n1 : ¬ zn σ ≤ j := by omega
    have n2 : j < zn σ := by omega
    have eu := fun x => q_dto (M := M) (x := x)
    rw [hσ] at eu
    have eh := q_has hσ (c := j) (by omega)
    have z1 : ¬ (1 : Int32) = 0 := by decide
    show _ = some (((zfo (s_nxm σ) (j + 1) k ((s_nxm σ) j (a, b))).1, (zfo (s_nxm σ) (j + 1) k ((s_nxm σ) j (a, b))).2, nI (zn σ)), M)
    simp (disch := omega) only [lp_X4_nextChild_6, eu, eh, m5, hσ, q_c, q_ad0, q_ad1, q_ad2, q_ad3, q_ad4, q_ad5, q_ad6, q_ad7, q_zt, q_clamp, if_true, q_le, zb_s, zl_s, nI_1]
    rw [if_neg n1]
    by_cases h0 : σ (21 + 13 * j + 4) = -1
    · by_cases h1 : a = -1
      · by_cases h2 : b ≤ s_dto (σ 1) (σ (21 + 13 * j + 4))
        · simp (disch := omega) only [if_pos h0, if_pos h1, if_pos h2, s_nxm, if_true, if_false, z1, Int32.add_zero] at e ⊢
          exact e
        · simp (disch := omega) only [if_pos h0, if_pos h1, if_neg h2, s_nxm, if_true, if_false, z1, Int32.add_zero] at e ⊢
          exact e
      · by_cases h2 : b ≤ s_dto (σ 1) (σ (21 + 13 * j + 4))
        · simp (disch := omega) only [if_pos h0, if_neg h1, if_pos h2, s_nxm, if_true, if_false, z1, Int32.add_zero] at e ⊢
          exact e
        · simp (disch := omega) only [if_pos h0, if_neg h1, if_neg h2, s_nxm, if_true, if_false, z1, Int32.add_zero] at e ⊢
          exact e
    · by_cases h1 : a = -1
      · by_cases h2 : b ≤ s_dto (σ 1) (σ (21 + 13 * j + 4))
        · simp (disch := omega) only [if_neg h0, if_pos h1, if_pos h2, s_nxm, if_true, if_false, z1, Int32.add_zero] at e ⊢
          exact e
        · simp (disch := omega) only [if_neg h0, if_pos h1, if_neg h2, s_nxm, if_true, if_false, z1, Int32.add_zero] at e ⊢
          exact e
      · by_cases h2 : b ≤ s_dto (σ 1) (σ (21 + 13 * j + 4))
        · simp (disch := omega) only [if_neg h0, if_neg h1, if_pos h2, s_nxm, if_true, if_false, z1, Int32.add_zero] at e ⊢
          exact e
        · simp (disch := omega) only [if_neg h0, if_neg h1, if_neg h2, s_nxm, if_true, if_false, z1, Int32.add_zero] at e ⊢
          exact e
theorem qx_clo_l (R : zRR T 0 σ) (I : zIv σ) : ∀ k j fuel u, j + k = zn σ → k < fuel → lp_X3_clashes_4  fuel u (nI j) T = some ((zfo (fun i u => zfo (s_cl σ i) 0 i u) j k u, nI (zn σ)), T) := by
  have n10 := I.n10
  have r9 : T.1 1 0 9 = nI (zn σ) := R.f9.trans I.n
  intro k
  induction k with
  | zero =>
    intro j fuel u hj hk
    obtain ⟨f, rfl⟩ : ∃ f, fuel = f + 1 := ⟨fuel - 1, by omega⟩
    obtain rfl : j = zn σ := by omega
    simp (disch := omega) only [lp_X3_clashes_4, r9, q_le]
    rw [if_pos (Nat.le_refl _)]; rfl
  | succ k ih =>
    intro j fuel u hj hk
    obtain ⟨f, rfl⟩ : ∃ f, fuel = f + 1 := ⟨fuel - 1, by omega⟩
    have e := ih (j + 1) f ((fun i u => zfo (s_cl σ i) 0 i u) j u) (by omega) (by omega)
    have n1 : ¬ zn σ ≤ j := by omega
    have n2 : j < zn σ := by omega
    have ei := fun u => qx_cla_l R I n2 j 0 2000 u (by omega) (by omega)
    simp only [← nl_0] at ei
    show _ = some ((zfo (fun i u => zfo (s_cl σ i) 0 i u) (j + 1) k ((fun i u => zfo (s_cl σ i) 0 i u) j u), nI (zn σ)), T)
    simp (disch := omega) only [lp_X3_clashes_4, ei, r9, q_le, q_eq, zb_s, zl_s, nI_1]
    rw [if_neg n1]
    exact e
theorem qm_clo_l (hσ : M.2 2 0 = σ) (I : zIv σ) : ∀ k j fuel u, j + k = zn σ → k < fuel → lp_X4_clashes_4  fuel u (nI j) M = some ((zfo (fun i u => zfo (s_cl σ i) 0 i u) j k u, nI (zn σ)), M) := by
  have n10 := I.n10
  have m5 : M.2 2 0 5 = nI (zn σ) := by rw [hσ]; exact I.n
  intro k
  induction k with
  | zero =>
    intro j fuel u hj hk
    obtain ⟨f, rfl⟩ : ∃ f, fuel = f + 1 := ⟨fuel - 1, by omega⟩
    obtain rfl : j = zn σ := by omega
    simp (disch := omega) only [lp_X4_clashes_4, m5, q_le]
    rw [if_pos (Nat.le_refl _)]; rfl
  | succ k ih =>
    intro j fuel u hj hk
    obtain ⟨f, rfl⟩ : ∃ f, fuel = f + 1 := ⟨fuel - 1, by omega⟩
    have e := ih (j + 1) f ((fun i u => zfo (s_cl σ i) 0 i u) j u) (by omega) (by omega)
    have n1 : ¬ zn σ ≤ j := by omega
    have n2 : j < zn σ := by omega
    have ei := fun u => qm_cla_l hσ I n2 j 0 2000 u (by omega) (by omega)
    simp only [← nl_0] at ei
    show _ = some ((zfo (fun i u => zfo (s_cl σ i) 0 i u) (j + 1) k ((fun i u => zfo (s_cl σ i) 0 i u) j u), nI (zn σ)), M)
    simp (disch := omega) only [lp_X4_clashes_4, ei, m5, q_le, q_eq, zb_s, zl_s, nI_1]
    rw [if_neg n1]
    exact e
theorem qx_frg_l (R : zRR T 0 σ) (I : zIv σ) {c : Nat} (hc : c < zn σ) {d : Int32} : ∀ k j fuel, j + k = zg σ → k < fuel → lp_X3_freeGarden_20 (nI c) d fuel (nI j) T = some ((match zfn (s_frg σ c d) j k with | some i => (0, nI i) | none => (1, nI (zg σ))), T) := by
  have n10 := I.g4
  have r8 : T.1 1 0 8 = nI (zg σ) := R.f8.trans I.g
  intro k
  induction k with
  | zero =>
    intro j fuel hj hk
    obtain ⟨f, rfl⟩ : ∃ f, fuel = f + 1 := ⟨fuel - 1, by omega⟩
    obtain rfl : j = zg σ := by omega
    simp (disch := omega) only [lp_X3_freeGarden_20, r8, q_le]
    rw [if_pos (Nat.le_refl _)]; rfl
  | succ k ih =>
    intro j fuel hj hk
    obtain ⟨f, rfl⟩ : ∃ f, fuel = f + 1 := ⟨fuel - 1, by omega⟩
    have e := ih (j + 1) f (by omega) (by omega)
    have n1 : ¬ zg σ ≤ j := by omega
    have n2 : j < zg σ := by omega
    have er := qx_rea R I hc n2 d
    unfold zfn
    simp (disch := omega) only [lp_X3_freeGarden_20, s_frg, er, r8, q_le, q_eq, zb_s, zl_s, nI_1]
    rw [if_neg n1]
    by_cases h0 : s_rea σ c j d = 0
    · simp (disch := omega) only [if_pos h0, if_true, if_false, Bool.false_eq_true] <;> exact e
    · simp (disch := omega) only [if_neg h0, if_true, if_false, Bool.false_eq_true] <;> exact e
theorem qm_frg_l (hσ : M.2 2 0 = σ) (I : zIv σ) {c : Nat} (hc : c < zn σ) {m dd : Int32} : ∀ k j fuel, j + k = zg σ → k < fuel → lp_X4_freeGarden_31 (nI c) m dd fuel (nI j) M = some ((match zfn (s_frg σ c ((m - 1) * 30 + dd - 1)) j k with | some i => nI i | none => nI (zg σ)), M) := by
  have n10 := I.g4
  have m4 : M.2 2 0 4 = nI (zg σ) := by rw [hσ]; exact I.g
  intro k
  induction k with
  | zero =>
    intro j fuel hj hk
    obtain ⟨f, rfl⟩ : ∃ f, fuel = f + 1 := ⟨fuel - 1, by omega⟩
    obtain rfl : j = zg σ := by omega
    simp (disch := omega) only [lp_X4_freeGarden_31, m4, q_le]
    rw [if_pos (Nat.le_refl _)]; rfl
  | succ k ih =>
    intro j fuel hj hk
    obtain ⟨f, rfl⟩ : ∃ f, fuel = f + 1 := ⟨fuel - 1, by omega⟩
    have e := ih (j + 1) f (by omega) (by omega)
    have n1 : ¬ zg σ ≤ j := by omega
    have n2 : j < zg σ := by omega
    have er := qm_rea hσ I hc n2 ((m - 1) * 30 + dd - 1)
    unfold zfn
    simp (disch := omega) only [lp_X4_freeGarden_31, s_frg, q_pos, er, m4, q_le, q_eq, zb_s, zl_s, nI_1]
    rw [if_neg n1]
    by_cases h0 : s_rea σ c j ((m - 1) * 30 + dd - 1) = 0
    · simp (disch := omega) only [if_pos h0, if_true, if_false, Bool.false_eq_true] <;> exact e
    · simp (disch := omega) only [if_neg h0, if_true, if_false, Bool.false_eq_true] <;> exact e
end QC
section OC
variable {T M : zT}
theorem o_mostWantedCake (h : zRel T M) : zOpI (f_X3_mostWantedCake T) (f_X4_mostWantedCake M) := by
  have n10 := h.I.n10
  refine zOpI.ro h (v := zfo (s_mwc (M.2 2 0)) 1 5 0) ?_ ?_
  · unfold f_X3_mostWantedCake
    have e := qx_mwc_l h.R h.I 5 1 2000 0 (by omega) (by omega)
    rw [← nl_1] at e
    rw [e]; rfl
  · unfold f_X4_mostWantedCake
    have e := qm_mwc_l (M := M) rfl h.I 5 1 2000 0 (by omega) (by omega)
    rw [← nl_1] at e
    rw [e]; rfl
theorem o_busiestMonth (h : zRel T M) : zOpI (f_X3_busiestMonth T) (f_X4_busiestMonth M) := by
  have n10 := h.I.n10
  refine zOpI.ro h (v := (zfo (s_bus (M.2 2 0)) 1 12 (-1, 0)).1) ?_ ?_
  · unfold f_X3_busiestMonth
    have e := qx_bus_l h.R h.I 12 1 2000 (-1) 0 (by omega) (by omega)
    rw [← nl_1] at e
    rw [e, zb_s]
  · unfold f_X4_busiestMonth
    have e := qm_bus_l (M := M) rfl h.I 12 1 2000 (-1) 0 (by omega) (by omega)
    rw [← nl_1] at e
    rw [e, zb_s, q_told, zb_s]
theorem o_differentDates (h : zRel T M) : zOpI (f_X3_differentDates T) (f_X4_differentDates M) := by
  have n10 := h.I.n10
  refine zOpI.ro h (v := zfo (fun i u => if s_fst (M.2 2 0) i = 0 then u else u + 1) 0 (zn (M.2 2 0)) 0) ?_ ?_
  · unfold f_X3_differentDates
    have e := qx_dif_l h.R h.I (zn (M.2 2 0)) 0 2000 0 (by omega) (by omega)
    rw [← nl_0] at e
    rw [e]; rfl
  · unfold f_X4_differentDates
    have e := qm_dif_l (M := M) rfl h.I (zn (M.2 2 0)) 0 2000 0 (by omega) (by omega)
    rw [← nl_0] at e
    rw [e]; rfl
theorem o_clashes (h : zRel T M) : zOpI (f_X3_clashes T) (f_X4_clashes M) := by
  have n10 := h.I.n10
  refine zOpI.ro h (v := zfo (fun i u => zfo (s_cl (M.2 2 0) i) 0 i u) 0 (zn (M.2 2 0)) 0) ?_ ?_
  · unfold f_X3_clashes
    have e := qx_clo_l h.R h.I (zn (M.2 2 0)) 0 2000 0 (by omega) (by omega)
    rw [← nl_0] at e
    rw [e]; rfl
  · unfold f_X4_clashes
    have e := qm_clo_l (M := M) rfl h.I (zn (M.2 2 0)) 0 2000 0 (by omega) (by omega)
    rw [← nl_0] at e
    rw [e]; rfl
theorem s_nx_rel {σ : Nat → Int32} (I : zIv σ) : (zfo (s_nxc σ) 0 (zn σ) (-1, 361)).1 = (zfo (s_nxm σ) 0 (zn σ) (-1, 0)).1 := by
  have n10 := I.n10
  obtain ⟨d, hd, ed⟩ := I.date
  have key : (fun (p q : Int32 × Int32) => p.1 = q.1 ∧ ((q.1 = -1 ∧ p.2 = 361) ∨ (¬ q.1 = -1 ∧ p.2 = q.2))) (zfo (s_nxc σ) 0 (zn σ) (-1, 361)) (zfo (s_nxm σ) 0 (zn σ) (-1, 0)) := by
    refine zfo_rel (P := fun (p q : Int32 × Int32) => p.1 = q.1 ∧ ((q.1 = -1 ∧ p.2 = 361) ∨ (¬ q.1 = -1 ∧ p.2 = q.2))) ⟨rfl, Or.inl ⟨rfl, rfl⟩⟩ ?_
    rintro i ⟨a, b⟩ ⟨a', b'⟩ - hi ⟨e1, e2⟩
    simp only at e1 e2
    subst e1
    unfold s_nxc s_nxm
    simp only
    rcases (I.c (c := i) (by omega)).2.2.1 with hb | ⟨x, hx, hb⟩
    · rw [if_pos hb, if_pos hb]; exact ⟨rfl, e2⟩
    · have hn : ¬ σ (21 + 13 * i + 4) = -1 := by rw [hb, q_m1ne (by omega)]; exact id
      obtain ⟨h1, z, hz1, hz2, h2⟩ := q_du hx hd
      rw [if_neg hn, if_neg hn, hb, ed, h1, h2]
      have hi' : ¬ nI i = -1 := by rw [q_m1ne (by omega)]; exact id
      rcases e2 with ⟨ea, eb⟩ | ⟨ea, eb⟩
      · rw [if_pos ea, eb, nl_361, if_neg (nI_ge (by omega) (by omega))]
        exact ⟨rfl, Or.inr ⟨hi', rfl⟩⟩
      · rw [if_neg ea, eb]
        by_cases hh : b' ≤ nI z
        · rw [if_pos hh]; exact ⟨rfl, Or.inr ⟨ea, rfl⟩⟩
        · rw [if_neg hh]; exact ⟨rfl, Or.inr ⟨hi', rfl⟩⟩
  exact key.1
theorem o_nextChild (h : zRel T M) : zOpI (f_X3_nextChild T) (f_X4_nextChild M) := by
  have n10 := h.I.n10
  refine zOpI.ro h (v := (zfo (s_nxm (M.2 2 0)) 0 (zn (M.2 2 0)) (-1, 0)).1) ?_ ?_
  · unfold f_X3_nextChild
    have e := qx_nxc_l h.R h.I (zn (M.2 2 0)) 0 2000 (-1) 361 (by omega) (by omega)
    rw [← nl_0] at e
    rw [e, zb_s, s_nx_rel h.I]
  · unfold f_X4_nextChild
    have e := qm_nxc_l (M := M) rfl h.I (zn (M.2 2 0)) 0 2000 (-1) 0 (by omega) (by omega)
    rw [← nl_0] at e
    rw [e]; rfl
theorem o_strengthOf (h : zRel T M) (p : Int32) : zOpX [(2, 1)] (f_X3_strengthOf p  T) (f_X4_strengthOf p  M) := by
  have n10 := h.I.n10
  have g4 := h.I.g4
  unfold f_X3_strengthOf f_X4_strengthOf
  rcases q_cut (p := p) (n := zn (M.2 2 0)) (by omega) with hp | ⟨c, hc, rfl⟩
  · refine zOpX.ex h 2 1 (by simp) ?_ ?_
    · rw [qx_needC_f h hp, zx_r]
    · rw [qm_isC_f h hp]; rfl
  · rw [qx_needC_t h hc, qm_isC_t h hc, zx_l, zb_s, if_neg (show ¬ (1 : Int32) = 0 by decide)]
    obtain ⟨k, hk, ek⟩ := (h.I.c hc).2.1
    refine zOpX.ro h (v := s_str (M.2 2 0) c (M.2 2 0 (21 + 13 * c + 0)) k) ?_ ?_
    · rw [q_cellc (by decide) (by omega), h.R.fa hc, zb_s, qx_str h.R h.I hc hk ek]; rfl
    · simp (disch := omega) only [zb_s, zl_s, q_c, q_ad0, q_zt, q_clamp, if_true]
      rw [qm_str (M := M) rfl h.I hc hk ek]; rfl
theorem o_daysUntilBirthday (h : zRel T M) (p : Int32) : zOpX [(2, 1)] (f_X3_daysUntilBirthday p  T) (f_X4_daysUntilBirthday p  M) := by
  have n10 := h.I.n10
  have g4 := h.I.g4
  unfold f_X3_daysUntilBirthday f_X4_daysUntilBirthday
  rcases q_cut (p := p) (n := zn (M.2 2 0)) (by omega) with hp | ⟨c, hc, rfl⟩
  · refine zOpX.ex h 2 1 (by simp) ?_ ?_
    · rw [qx_needC_f h hp, zx_r]
    · rw [qm_isC_f h hp]; rfl
  · rw [qx_needC_t h hc, qm_isC_t h hc, zx_l, zb_s, if_neg (show ¬ (1 : Int32) = 0 by decide)]
    obtain ⟨d, hd, ed⟩ := h.I.date
    rw [q_has (M := M) rfl (by omega), q_cellc (by decide) (by omega), h.R.bi hc, zb_s, zb_s]
    rcases (h.I.c hc).2.2.1 with hb | ⟨x, hx, hb⟩
    · refine zOpX.ro h (v := -1) ?_ ?_
      · rw [if_pos hb]
      · rw [if_pos hb, if_pos rfl]; rfl
    · have hn : ¬ M.2 2 0 (21 + 13 * c + 4) = -1 := by rw [hb, q_m1ne (by omega)]; exact id
      refine zOpX.ro h (v := s_dto (nI d) (nI x)) ?_ ?_
      · rw [if_neg hn, hb, q_unt, h.R.f1, ed, (q_du hx hd).1]; rfl
      · rw [if_neg hn, if_neg (by decide)]
        simp (disch := omega) only [zb_s, zl_s, q_c, q_ad4, q_zt, q_clamp, if_true]
        rw [hb, q_dto, ed]; rfl
theorem o_drawsNeeded (h : zRel T M) (p : Int32) : zOpX [(2, 1)] (f_X3_drawsNeeded p  T) (f_X4_drawsNeeded p  M) := by
  have n10 := h.I.n10
  have g4 := h.I.g4
  unfold f_X3_drawsNeeded f_X4_drawsNeeded
  rcases q_cut (p := p) (n := zn (M.2 2 0)) (by omega) with hp | ⟨c, hc, rfl⟩
  · refine zOpX.ex h 2 1 (by simp) ?_ ?_
    · rw [qx_needC_f h hp, zx_r]
    · rw [qm_isC_f h hp]; rfl
  · rw [qx_needC_t h hc, qm_isC_t h hc, zx_l, zb_s, if_neg (show ¬ (1 : Int32) = 0 by decide)]
    obtain ⟨k, hk, ek⟩ := (h.I.c hc).2.1
    rw [qx_drw h.R h.I hc hk ek, qm_drw (M := M) rfl h.I hc hk ek]
    exact Or.inl ⟨_, T, _, rfl, rfl, rfl, (h.dw _ _).thr 0⟩
theorem o_partyIn (h : zRel T M) (p m d : Int32) : zOpX [(2, 1), (1, 2)] (f_X3_partyIn p m d T) (f_X4_partyIn p m d M) := by
  have n10 := h.I.n10
  have g4 := h.I.g4
  unfold f_X3_partyIn f_X4_partyIn
  rcases q_cut (p := p) (n := zg (M.2 2 0)) (by omega) with hp | ⟨c, hc, rfl⟩
  · refine zOpX.ex h 2 1 (by simp) ?_ ?_
    · rw [qx_needG_f h hp, zx_r]
    · rw [qm_isG_f h hp]; rfl
  · rw [qx_needG_t h hc, qm_isG_t h hc, zx_l, zb_s, if_neg (show ¬ (1 : Int32) = 0 by decide)]
    rcases q_date (T := T) (M := M) m d with ⟨e1, e2⟩ | ⟨D, hD, eD, e1, e2⟩
    · refine zOpX.ex h 1 2 (by simp) ?_ ?_
      · rw [e1, zx_r]
      · rw [e2]; rfl
    · refine zOpX.ro h (v := match zfn (s_hmp (M.2 2 0) (nI c) ((m - 1) * 30 + d - 1)) 0 (zn (M.2 2 0)) with | some i => nI i | none => -1) ?_ ?_
      · have e := qx_pin_l h.R h.I (g := nI c) (d := (m - 1) * 30 + d - 1) (zn (M.2 2 0)) 0 2000 (by omega) (by omega)
        rw [← nl_0] at e
        rw [e1, zx_l, q_dof, zb_s, e, zb_s]
        cases zfn (s_hmp (M.2 2 0) (nI c) ((m - 1) * 30 + d - 1)) 0 (zn (M.2 2 0)) with
        | none => rfl
        | some i => rfl
      · have e := qm_pon_l (M := M) rfl h.I (g := nI c) (d := (m - 1) * 30 + d - 1) (zn (M.2 2 0)) 0 2000 (by omega) (by omega)
        rw [← nl_0] at e
        rw [e2, zb_s, if_neg (show ¬ (1 : Int32) = 0 by decide), q_pos, zb_s]
        unfold f_X4_partyOn
        rw [e, zb_s]
        cases zfn (s_hmp (M.2 2 0) (nI c) ((m - 1) * 30 + d - 1)) 0 (zn (M.2 2 0)) with
        | none => rfl
        | some i => rfl
theorem o_childrenOn (h : zRel T M) (m d : Int32) : zOpX [(1, 1)] (f_X3_childrenOn m d T) (f_X4_childrenOn m d M) := by
  have n10 := h.I.n10
  unfold f_X3_childrenOn f_X4_childrenOn
  rcases q_date (T := T) (M := M) m d with ⟨e1, e2⟩ | ⟨D, hD, eD, e1, e2⟩
  · refine zOpX.ex h 1 1 (by simp) ?_ ?_
    · rw [e1, zx_r]
    · rw [e2]; rfl
  · refine zOpX.ro h (v := s_cnt (M.2 2 0) 4 ((m - 1) * 30 + d - 1)) ?_ ?_
    · rw [e1, zx_l, q_dof, zb_s, h.R.f9, h.I.n, qx_count h.I (by decide) (fun c hc => h.R.bi hc)]; rfl
    · rw [e2, zb_s, if_neg (show ¬ (1 : Int32) = 0 by decide), q_pos, zb_s, qm_sha (M := M) rfl h.I]; rfl
theorem o_dateAt (h : zRel T M) (p : Int32) : zOpX [(2, 1)] (f_X3_dateAt p T) (f_X4_dateAt p M) := by
  have n10 := h.I.n10
  unfold f_X3_dateAt f_X4_dateAt
  obtain ⟨s1, e1⟩ := qx_dat_l h.R h.I (x := p) (zn (M.2 2 0)) 0 2000 0 (by omega) (by omega)
  obtain ⟨s2, e2⟩ := qm_dat_l (M := M) rfl h.I (x := p) (zn (M.2 2 0)) 0 2000 0 (by omega) (by omega)
  rw [← nl_0] at e1 e2
  have hlt : ∀ k j s i, s_dat (M.2 2 0) p j k s = some i → i < j + k := by
    intro k
    induction k with
    | zero => intro j s i hh; cases hh
    | succ k ih =>
      intro j s i hh
      unfold s_dat at hh
      by_cases h0 : s_fst (M.2 2 0) j = 0
      · rw [if_pos h0] at hh; have := ih _ _ _ hh; omega
      · rw [if_neg h0] at hh
        by_cases h1 : s = p
        · rw [if_pos h1] at hh; cases hh; omega
        · rw [if_neg h1] at hh; have := ih _ _ _ hh; omega
  rw [e1, e2, zb_s, zb_s]
  cases ez : s_dat (M.2 2 0) p 0 (zn (M.2 2 0)) 0 with
  | none => exact zOpX.ex h 2 1 (by simp) rfl rfl
  | some i =>
    have hi := hlt _ _ _ _ ez
    rw [Nat.zero_add] at hi
    refine zOpX.ro h (v := M.2 2 0 (21 + 13 * i + 4)) ?_ ?_
    · dsimp only
      rw [if_pos rfl]
      rw [q_cellc (by decide) (by omega), h.R.bi hi]; rfl
    · dsimp only
      rw [if_pos rfl]
      simp (disch := omega) only [zb_s, zl_s, q_c, q_ad4, q_zt, q_clamp, if_true]
      rfl
theorem o_obstacle (h : zRel T M) (p g m d : Int32) : zOpX [(2, 1), (1, 2)] (f_X3_obstacle p g m d T) (f_X4_obstacle p g m d M) := by
  have n10 := h.I.n10
  have g4 := h.I.g4
  unfold f_X3_obstacle f_X4_obstacle
  rcases q_cut (p := p) (n := zn (M.2 2 0)) (by omega) with hp | ⟨c, hc, rfl⟩
  · refine zOpX.ex h 2 1 (by simp) ?_ ?_
    · rw [qx_needC_f h hp, zx_r]
    · rw [qm_isC_f h hp]; rfl
  rw [qx_needC_t h hc, qm_isC_t h hc, zx_l, zb_s, if_neg (show ¬ (1 : Int32) = 0 by decide)]
  rcases q_cut (p := g) (n := zg (M.2 2 0)) (by omega) with hp | ⟨k, hk, rfl⟩
  · refine zOpX.ex h 2 1 (by simp) ?_ ?_
    · rw [qx_needG_f h hp, zx_r]
    · rw [qm_isG_f h hp]; rfl
  rw [qx_needG_t h hk, qm_isG_t h hk, zx_l, zb_s, if_neg (show ¬ (1 : Int32) = 0 by decide)]
  rcases q_date (T := T) (M := M) m d with ⟨e1, e2⟩ | ⟨D, hD, eD, e1, e2⟩
  · refine zOpX.ex h 1 2 (by simp) ?_ ?_
    · rw [e1, zx_r]
    · rw [e2]; rfl
  · refine zOpX.ro h (v := s_rea (M.2 2 0) c k ((m - 1) * 30 + d - 1)) ?_ ?_
    · rw [e1, zx_l, q_dof, zb_s, qx_rea h.R h.I hc hk]; rfl
    · rw [e2, zb_s, if_neg (show ¬ (1 : Int32) = 0 by decide), q_pos, zb_s, qm_rea (M := M) rfl h.I hc hk]; rfl
theorem o_freeGarden (h : zRel T M) (p m d : Int32) : zOpX [(2, 1), (1, 2)] (f_X3_freeGarden p m d T) (f_X4_freeGarden p m d M) := by
  have n10 := h.I.n10
  have g4 := h.I.g4
  unfold f_X3_freeGarden f_X4_freeGarden
  rcases q_cut (p := p) (n := zn (M.2 2 0)) (by omega) with hp | ⟨c, hc, rfl⟩
  · refine zOpX.ex h 2 1 (by simp) ?_ ?_
    · rw [qx_needC_f h hp, zx_r]
    · rw [qm_isC_f h hp]; rfl
  rw [qx_needC_t h hc, qm_isC_t h hc, zx_l, zb_s, if_neg (show ¬ (1 : Int32) = 0 by decide)]
  rcases q_date (T := T) (M := M) m d with ⟨e1, e2⟩ | ⟨D, hD, eD, e1, e2⟩
  · refine zOpX.ex h 1 2 (by simp) ?_ ?_
    · rw [e1, zx_r]
    · rw [e2]; rfl
  have e3 := qx_frg_l h.R h.I hc (d := (m - 1) * 30 + d - 1) (zg (M.2 2 0)) 0 2000 (by omega) (by omega)
  have e4 := qm_frg_l (M := M) rfl h.I hc (m := m) (dd := d) (zg (M.2 2 0)) 0 2000 (by omega) (by omega)
  rw [← nl_0] at e3 e4
  rw [e1, zx_l, q_dof, zb_s, e3, zb_s, e2, zb_s, if_neg (show ¬ (1 : Int32) = 0 by decide), e4, zb_s, h.I.g]
  cases ez : zfn (s_frg (M.2 2 0) c ((m - 1) * 30 + d - 1)) 0 (zg (M.2 2 0)) with
  | none =>
    refine zOpX.ro h (v := -1) rfl ?_
    show (if nI (zg (M.2 2 0)) ≤ nI (zg (M.2 2 0)) then _ else _) = _
    rw [if_pos (Int32.le_refl _)]; rfl
  | some i =>
    have hi := (zfn_some ez).2.1
    refine zOpX.ro h (v := nI i) rfl ?_
    show (if nI (zg (M.2 2 0)) ≤ nI i then _ else _) = _
    rw [if_neg (nI_ge (by omega) (by omega))]; rfl
end OC
