/-! MODEL: what its readers answer, told by its row -/
theorem q_zt {j L : Nat} (h : j < L) (hL : L < 2 ^ 31) : (zin (nI j) L = true) = True := by
  rw [q_zin (by omega)]; exact eq_true h
theorem q_ad0 (a : Nat) : nI a + 0 = nI (a + 0) := nI_add a 0
theorem q_ad1 (a : Nat) : nI a + 1 = nI (a + 1) := nI_add a 1
theorem q_ad2 (a : Nat) : nI a + 2 = nI (a + 2) := nI_add a 2
theorem q_ad3 (a : Nat) : nI a + 3 = nI (a + 3) := nI_add a 3
theorem q_ad4 (a : Nat) : nI a + 4 = nI (a + 4) := nI_add a 4
theorem q_ad5 (a : Nat) : nI a + 5 = nI (a + 5) := nI_add a 5
theorem q_ad6 (a : Nat) : nI a + 6 = nI (a + 6) := nI_add a 6
theorem q_ad7 (a : Nat) : nI a + 7 = nI (a + 7) := nI_add a 7
theorem q_la11 (a : Nat) : 11 + nI a = nI (11 + a) := nI_add 11 a
theorem q_la17 (a : Nat) : 17 + nI a = nI (17 + a) := nI_add 17 a
theorem q_la21 (a : Nat) : 21 + nI a = nI (21 + a) := nI_add 21 a
theorem q_c {k : Nat} {M : zT} : f_X4_c (nI k) M = some (nI (21 + 13 * k), M) := by
  unfold f_X4_c
  rw [nl_13, pk_mul, nl_21, nI_add]
section QM
variable {M : zT} {σ : Nat → Int32}
theorem qm_lik_l (hσ : M.2 2 0 = σ) (I : zIv σ) {v : Int32} : ∀ k j fuel u, j + k = zn σ → k < fuel → lp_X4_liking_4 v fuel u (nI j) M = some ((zfo (fun i u => if σ (21 + 13 * i + 0) = v then u + 1 else u) j k u, nI (zn σ)), M) := by
  have n10 := I.n10
  have m5 : M.2 2 0 5 = nI (zn σ) := by rw [hσ]; exact I.n
  intro k
  induction k with
  | zero =>
    intro j fuel u hj hk
    obtain ⟨f, rfl⟩ : ∃ f, fuel = f + 1 := ⟨fuel - 1, by omega⟩
    obtain rfl : j = zn σ := by omega
    simp (disch := omega) only [lp_X4_liking_4, m5, q_le]
    rw [if_pos (Nat.le_refl _)]; rfl
  | succ k ih =>
    intro j fuel u hj hk
    obtain ⟨f, rfl⟩ : ∃ f, fuel = f + 1 := ⟨fuel - 1, by omega⟩
    have e := ih (j + 1) f ((fun i u => if σ (21 + 13 * i + 0) = v then u + 1 else u) j u) (by omega) (by omega)
    have n1 : ¬ zn σ ≤ j := by omega
    have n2 : j < zn σ := by omega
    show _ = some ((zfo (fun i u => if σ (21 + 13 * i + 0) = v then u + 1 else u) (j + 1) k ((fun i u => if σ (21 + 13 * i + 0) = v then u + 1 else u) j u), nI (zn σ)), M)
    simp (disch := omega) only [lp_X4_liking_4, m5, hσ, q_c, q_ad0, q_ad1, q_ad2, q_ad3, q_ad4, q_ad5, q_ad6, q_ad7, q_zt, q_clamp, if_true, q_le, zb_s, zl_s, nI_1]
    rw [if_neg n1]
    by_cases h0 : σ (21 + 13 * j + 0) = v
    · simp (disch := omega) only [if_pos h0, if_true, if_false, Int32.add_zero] at e ⊢
      exact e
    · simp (disch := omega) only [if_neg h0, if_true, if_false, Int32.add_zero] at e ⊢
      exact e
theorem qm_sha_l (hσ : M.2 2 0 = σ) (I : zIv σ) {v : Int32} : ∀ k j fuel u, j + k = zn σ → k < fuel → lp_X4_sharing_4 v fuel u (nI j) M = some ((zfo (fun i u => if σ (21 + 13 * i + 4) = v then u + 1 else u) j k u, nI (zn σ)), M) := by
  have n10 := I.n10
  have m5 : M.2 2 0 5 = nI (zn σ) := by rw [hσ]; exact I.n
  intro k
  induction k with
  | zero =>
    intro j fuel u hj hk
    obtain ⟨f, rfl⟩ : ∃ f, fuel = f + 1 := ⟨fuel - 1, by omega⟩
    obtain rfl : j = zn σ := by omega
    simp (disch := omega) only [lp_X4_sharing_4, m5, q_le]
    rw [if_pos (Nat.le_refl _)]; rfl
  | succ k ih =>
    intro j fuel u hj hk
    obtain ⟨f, rfl⟩ : ∃ f, fuel = f + 1 := ⟨fuel - 1, by omega⟩
    have e := ih (j + 1) f ((fun i u => if σ (21 + 13 * i + 4) = v then u + 1 else u) j u) (by omega) (by omega)
    have n1 : ¬ zn σ ≤ j := by omega
    have n2 : j < zn σ := by omega
    show _ = some ((zfo (fun i u => if σ (21 + 13 * i + 4) = v then u + 1 else u) (j + 1) k ((fun i u => if σ (21 + 13 * i + 4) = v then u + 1 else u) j u), nI (zn σ)), M)
    simp (disch := omega) only [lp_X4_sharing_4, m5, hσ, q_c, q_ad0, q_ad1, q_ad2, q_ad3, q_ad4, q_ad5, q_ad6, q_ad7, q_zt, q_clamp, if_true, q_le, zb_s, zl_s, nI_1]
    rw [if_neg n1]
    by_cases h0 : σ (21 + 13 * j + 4) = v
    · simp (disch := omega) only [if_pos h0, if_true, if_false, Int32.add_zero] at e ⊢
      exact e
    · simp (disch := omega) only [if_neg h0, if_true, if_false, Int32.add_zero] at e ⊢
      exact e
theorem qm_cho_l (hσ : M.2 2 0 = σ) (I : zIv σ) {v : Int32} : ∀ k j fuel u, j + k = zn σ → k < fuel → lp_X4_childrenOf_18 v fuel u (nI j) M = some ((zfo (fun i u => if σ (21 + 13 * i + 3) = v then u + 1 else u) j k u, nI (zn σ)), M) := by
  have n10 := I.n10
  have m5 : M.2 2 0 5 = nI (zn σ) := by rw [hσ]; exact I.n
  intro k
  induction k with
  | zero =>
    intro j fuel u hj hk
    obtain ⟨f, rfl⟩ : ∃ f, fuel = f + 1 := ⟨fuel - 1, by omega⟩
    obtain rfl : j = zn σ := by omega
    simp (disch := omega) only [lp_X4_childrenOf_18, m5, q_le]
    rw [if_pos (Nat.le_refl _)]; rfl
  | succ k ih =>
    intro j fuel u hj hk
    obtain ⟨f, rfl⟩ : ∃ f, fuel = f + 1 := ⟨fuel - 1, by omega⟩
    have e := ih (j + 1) f ((fun i u => if σ (21 + 13 * i + 3) = v then u + 1 else u) j u) (by omega) (by omega)
    have n1 : ¬ zn σ ≤ j := by omega
    have n2 : j < zn σ := by omega
    show _ = some ((zfo (fun i u => if σ (21 + 13 * i + 3) = v then u + 1 else u) (j + 1) k ((fun i u => if σ (21 + 13 * i + 3) = v then u + 1 else u) j u), nI (zn σ)), M)
    simp (disch := omega) only [lp_X4_childrenOf_18, m5, hσ, q_c, q_ad0, q_ad1, q_ad2, q_ad3, q_ad4, q_ad5, q_ad6, q_ad7, q_zt, q_clamp, if_true, q_le, zb_s, zl_s, nI_1]
    rw [if_neg n1]
    by_cases h0 : σ (21 + 13 * j + 3) = v
    · simp (disch := omega) only [if_pos h0, if_true, if_false, Int32.add_zero] at e ⊢
      exact e
    · simp (disch := omega) only [if_neg h0, if_true, if_false, Int32.add_zero] at e ⊢
      exact e
theorem qm_lik (hσ : M.2 2 0 = σ) (I : zIv σ) (v : Int32) : f_X4_liking v M = some (s_cnt σ 0 v, M) := by
  have n10 := I.n10
  unfold f_X4_liking
  rw [nl_0, qm_lik_l hσ I (zn σ) 0 2000 _ (by omega) (by omega)]; rfl
theorem qm_sha (hσ : M.2 2 0 = σ) (I : zIv σ) (v : Int32) : f_X4_sharing v M = some (s_cnt σ 4 v, M) := by
  have n10 := I.n10
  unfold f_X4_sharing
  rw [nl_0, qm_sha_l hσ I (zn σ) 0 2000 _ (by omega) (by omega)]; rfl
theorem qm_tak_l (hσ : M.2 2 0 = σ) (I : zIv σ) {c : Nat} (hc : c < 10) {g d : Int32} : ∀ k j fuel, j + k = zn σ → k < fuel → lp_X4_isTaken_3 (nI c) g d fuel (nI j) M = some ((match zfn (s_tkp σ c g d) j k with | some i => (0, nI i) | none => (1, nI (zn σ))), M) := by
  have n10 := I.n10
  have m5 : M.2 2 0 5 = nI (zn σ) := by rw [hσ]; exact I.n
  intro k
  induction k with
  | zero =>
    intro j fuel hj hk
    obtain ⟨f, rfl⟩ : ∃ f, fuel = f + 1 := ⟨fuel - 1, by omega⟩
    obtain rfl : j = zn σ := by omega
    simp (disch := omega) only [lp_X4_isTaken_3, m5, q_le]
    rw [if_pos (Nat.le_refl _)]; rfl
  | succ k ih =>
    intro j fuel hj hk
    obtain ⟨f, rfl⟩ : ∃ f, fuel = f + 1 := ⟨fuel - 1, by omega⟩
    have e := ih (j + 1) f (by omega) (by omega)
    have n1 : ¬ zn σ ≤ j := by omega
    have n2 : j < zn σ := by omega
    unfold zfn
    simp (disch := omega) only [lp_X4_isTaken_3, s_tkp, m5, hσ, q_c, q_ad0, q_ad1, q_ad2, q_ad3, q_ad4, q_ad5, q_ad6, q_ad7, q_zt, q_clamp, if_true, q_le, q_eq, zb_s, zl_s, nI_1]
    rw [if_neg n1]
    by_cases h0 : j = c
    · by_cases h1 : σ (21 + 13 * j + 3) = g
      · by_cases h2 : σ (21 + 13 * j + 4) = d
        · simp (disch := omega) only [if_pos h0, if_pos h1, if_pos h2, if_true, if_false, Bool.false_eq_true] <;> exact e
        · simp (disch := omega) only [if_pos h0, if_pos h1, if_neg h2, if_true, if_false, Bool.false_eq_true] <;> exact e
      · by_cases h2 : σ (21 + 13 * j + 4) = d
        · simp (disch := omega) only [if_pos h0, if_neg h1, if_pos h2, if_true, if_false, Bool.false_eq_true] <;> exact e
        · simp (disch := omega) only [if_pos h0, if_neg h1, if_neg h2, if_true, if_false, Bool.false_eq_true] <;> exact e
    · by_cases h1 : σ (21 + 13 * j + 3) = g
      · by_cases h2 : σ (21 + 13 * j + 4) = d
        · simp (disch := omega) only [if_neg h0, if_pos h1, if_pos h2, if_true, if_false, Bool.false_eq_true] <;> exact e
        · simp (disch := omega) only [if_neg h0, if_pos h1, if_neg h2, if_true, if_false, Bool.false_eq_true] <;> exact e
      · by_cases h2 : σ (21 + 13 * j + 4) = d
        · simp (disch := omega) only [if_neg h0, if_neg h1, if_pos h2, if_true, if_false, Bool.false_eq_true] <;> exact e
        · simp (disch := omega) only [if_neg h0, if_neg h1, if_neg h2, if_true, if_false, Bool.false_eq_true] <;> exact e
theorem qm_rea (hσ : M.2 2 0 = σ) (I : zIv σ) {c g : Nat} (hc : c < zn σ) (hg : g < zg σ) (d : Int32) : f_X4_reason (nI c) (nI g) d M = some (s_rea σ c g d, M) := by
  have n10 := I.n10
  have g4 := I.g4
  unfold f_X4_reason f_X4_isTaken s_rea
  have e := qm_tak_l hσ I (c := c) (by omega) (g := nI g) (d := d) (zn σ) 0 2000 (by omega) (by omega)
  rw [← nl_0] at e
  rw [e, zb_s]
  cases zfn (s_tkp σ c (nI g) d) 0 (zn σ) with
  | some i => rfl
  | none =>
    show zb (some ((0 : Int32), M)) _ = _
    simp (disch := omega) only [zb_s, zl_s, q_la17, q_c, q_ad0, q_zt, q_clamp, if_true, hσ, qm_lik hσ I]
    show _ = some ((if s_cnt σ 0 (σ (21 + 13 * c + 0)) ≤ σ (17 + g) then 0 else 2), M)
    show (if s_cnt σ 0 (σ (21 + 13 * c + 0)) ≤ σ (17 + g) then _ else _) = some ((if s_cnt σ 0 (σ (21 + 13 * c + 0)) ≤ σ (17 + g) then 0 else 2), M)
    by_cases h : s_cnt σ 0 (σ (21 + 13 * c + 0)) ≤ σ (17 + g)
    · rw [if_pos h, if_pos h]
      all_goals rfl
    · rw [if_neg h, if_neg h]
      all_goals rfl
/-- the model keeps its draws' last seed and date in two cells -/
def zdw (M : zT) (s d : Int32) : zT := wI (wI M 0 0 15 s) 0 0 16 d
theorem zdw_2 {M : zT} {s d : Int32} : (zdw M s d).2 = M.2 := rfl
theorem zdw_15 {M : zT} {s d : Int32} : (zdw M s d).1 0 0 15 = s := rfl
theorem zdw_16 {M : zT} {s d : Int32} : (zdw M s d).1 0 0 16 = d := rfl
theorem zdw_w {M : zT} {s d s' d' : Int32} : wI (wI (zdw M s d) 0 0 15 s') 0 0 16 d' = zdw M s' d' := by
  unfold zdw wI
  refine Prod.ext (funext fun a => funext fun b => funext fun c => ?_) rfl
  simp only
  by_cases h : a = 0 ∧ b = 0 ∧ c = 15
  · obtain ⟨rfl, rfl, rfl⟩ := h; rfl
  · simp only [if_neg h]
    by_cases h2 : a = 0 ∧ b = 0 ∧ c = 16
    · simp only [if_pos h2]
    · simp only [if_neg h2]
theorem zdw_0 {M : zT} {s : Int32} : wI M 0 0 15 s = zdw M s (M.1 0 0 16) := by
  unfold zdw wI
  refine Prod.ext (funext fun a => funext fun b => funext fun c => ?_) rfl
  simp only
  by_cases h : a = 0 ∧ b = 0 ∧ c = 16
  · obtain ⟨rfl, rfl, rfl⟩ := h; rfl
  · simp only [if_neg h]
theorem qm_drw_l (hσ : M.2 2 0 = σ) (I : zIv σ) {c h : Nat} (hc : c < zn σ) (hh : h < zg σ) (eh : σ (21 + 13 * c + 3) = nI h) : ∀ k j fuel s t, j + k = 21 → k < fuel → lp_X4_tries_12 (nI c) fuel (nI j) (zdw M s t) = some ((match (s_drw σ c h j k s).1 with | some i => (0, nI i) | none => (1, nI 21)), zdw M (s_drw σ c h j k s).2 (if k = 0 then t else s_day (s_drw σ c h j k s).2)) := by
  have n10 := I.n10
  intro k
  induction k with
  | zero =>
    intro j fuel s t hj hk
    obtain ⟨f, rfl⟩ : ∃ f, fuel = f + 1 := ⟨fuel - 1, by omega⟩
    obtain rfl : j = 21 := by omega
    simp (disch := omega) only [lp_X4_tries_12, nl_20, q_lt]
    rw [if_pos (by decide)]; rfl
  | succ k ih =>
    intro j fuel s t hj hk
    obtain ⟨f, rfl⟩ : ∃ f, fuel = f + 1 := ⟨fuel - 1, by omega⟩
    have e := ih (j + 1) f (s_nxt s) (s_day (s_nxt s)) (by omega) (by omega)
    have e1 : f_X4_seedBehind s (zdw M s t) = some (s_nxt s, zdw M s t) := rfl
    have e2 := qm_rea (M := zdw M (s_nxt s) (s_day (s_nxt s))) (σ := σ) hσ I hc hh (s_day (s_nxt s))
    have e3 : wI (wI (zdw M s t) 0 0 15 (s_nxt s)) 0 0 16 (s_nxt s - s_nxt s / 360 * 360) = zdw M (s_nxt s) (s_day (s_nxt s)) := zdw_w
    have e4 : (wI (zdw M s t) 0 0 15 (s_nxt s)).1 0 0 15 = s_nxt s := q_wIs
    unfold s_drw
    simp (disch := omega) only [lp_X4_tries_12, nl_20, q_lt, zdw_15, e1, zb_s, zl_s, e4, e3, q_c, q_ad3, q_zt, if_true, q_clamp, zdw_2, zdw_16, hσ, eh, e2, nI_1]
    rw [if_neg (show ¬ 20 < j by omega), if_neg (Nat.succ_ne_zero k)]
    by_cases h0 : s_rea σ c h (s_day (s_nxt s)) = 0
    · simp only [if_pos h0]
    · simp only [if_neg h0]
      rw [e]
      by_cases hk0 : k = 0
      · subst hk0; rfl
      · rw [if_neg hk0]
theorem qm_drw (hσ : M.2 2 0 = σ) (I : zIv σ) {c h : Nat} (hc : c < zn σ) (hh : h < zg σ) (eh : σ (21 + 13 * c + 3) = nI h) : f_X4_tries (nI c) M = some ((match (s_drw σ c h 1 20 (σ 2)).1 with | some i => nI i | none => -1), zdw M (s_drw σ c h 1 20 (σ 2)).2 (s_day (s_drw σ c h 1 20 (σ 2)).2)) := by
  unfold f_X4_tries
  have e := qm_drw_l hσ I hc hh eh 20 1 2000 (σ 2) (M.1 0 0 16) (by omega) (by omega)
  rw [← nl_1, if_neg (by decide)] at e
  rw [hσ, zl_s, zl_s, zdw_0, e, zb_s]
  cases (s_drw σ c h 1 20 (σ 2)).1 with
  | none => rfl
  | some i => rfl
theorem qm_cak_l (hσ : M.2 2 0 = σ) (I : zIv σ) {c f0 : Nat} (hc : c < zn σ) (hf : f0 < 6) (ef : σ (21 + 13 * c + 0) = nI f0) : ∀ k j fuel, j + k = 6 → k < fuel → lp_X4_cakeFor_2 (nI c) fuel (nI j) M = some ((match zfn (s_ckp σ f0) j k with | some i => (0, (nI i, nI ((f0 + i) % 6))) | none => (1, (nI 6, nI 0))), M) := by
  have n10 := I.n10
  intro k
  induction k with
  | zero =>
    intro j fuel hj hk
    obtain ⟨f, rfl⟩ : ∃ f, fuel = f + 1 := ⟨fuel - 1, by omega⟩
    obtain rfl : j = 6 := by omega
    simp (disch := omega) only [lp_X4_cakeFor_2, q_le6, q_le]
    rw [if_pos (Nat.le_refl _)]; rfl
  | succ k ih =>
    intro j fuel hj hk
    obtain ⟨f, rfl⟩ : ∃ f, fuel = f + 1 := ⟨fuel - 1, by omega⟩
    have e := ih (j + 1) f (by omega) (by omega)
    have n1 : ¬ 6 ≤ j := by omega
    have n2 : j < 6 := by omega
    have r6 : nI (f0 + j) - nI (f0 + j) / 6 * 6 = nI ((f0 + j) % 6) := pk_rem (by omega) (by decide) (by decide)
    unfold zfn
    simp (disch := omega) only [lp_X4_cakeFor_2, s_ckp, q_le6, ef, nI_add, r6, q_la11, hσ, q_c, q_ad0, q_ad1, q_ad2, q_ad3, q_ad4, q_ad5, q_ad6, q_ad7, q_zt, q_clamp, if_true, q_le, q_eq, zb_s, zl_s, nI_1]
    rw [if_neg n1]
    by_cases h0 : σ (11 + (f0 + j) % 6) ≤ 0
    · simp (disch := omega) only [if_pos h0, if_true, if_false, Bool.false_eq_true] <;> exact e
    · simp (disch := omega) only [if_neg h0, if_true, if_false, Bool.false_eq_true] <;> exact e
theorem qm_cak (hσ : M.2 2 0 = σ) (I : zIv σ) {c f0 : Nat} (hc : c < zn σ) (hf : f0 < 6) (ef : σ (21 + 13 * c + 0) = nI f0) : f_X4_cakeFor (nI c) M = some ((match s_cak σ f0 with | some i => nI i | none => -1), M) := by
  unfold f_X4_cakeFor s_cak
  rw [nl_0, qm_cak_l hσ I hc hf ef 6 0 2000 (by omega) (by omega), zb_s]
  cases zfn (s_ckp σ f0) 0 6 with
  | none => rfl
  | some i => rfl
theorem qm_str (hσ : M.2 2 0 = σ) (I : zIv σ) {c h : Nat} (hc : c < zn σ) (hh : h < zg σ) (eh : σ (21 + 13 * c + 3) = nI h) (k : Int32) : f_X4_strength (nI c) k M = some (s_str σ c k h, M) := by
  have n10 := I.n10
  have g4 := I.g4
  have key : ∀ z : Int32, jn_X4_strength_25 (nI c) (s_cnt σ 0 k) z M = some (σ (21 + 13 * c + 1) + (if σ (17 + h) - 1 < s_cnt σ 0 k - z then σ (17 + h) - 1 else s_cnt σ 0 k - z), M) := by
    intro z
    unfold jn_X4_strength_25
    simp (disch := omega) only [zb_s, zl_s, q_c, q_ad3, q_ad1, q_zt, if_true, q_clamp, hσ, eh, q_la17]
    by_cases h1 : σ (17 + h) - 1 < s_cnt σ 0 k - z
    · rw [if_pos h1, if_pos (Int32.le_of_lt h1)]
    · rw [if_neg h1]
      by_cases h2 : σ (17 + h) - 1 ≤ s_cnt σ 0 k - z
      · rw [if_pos h2, Int32.le_antisymm h2 (Int32.not_lt.mp h1)]
      · rw [if_neg h2]
  unfold f_X4_strength s_str
  simp (disch := omega) only [qm_lik hσ I, zb_s, zl_s, q_c, q_ad0, q_zt, if_true, q_clamp, hσ, key]
  by_cases h5 : σ (21 + 13 * c + 0) = k
  · simp only [if_pos h5]
  · simp only [if_neg h5]
end QM
