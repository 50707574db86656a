/-! THE MODEL'S TOKENS -/
theorem q_wIc {T : zT} {κ ι k k' : Nat} {u v : Int32} (h : k ≠ k') : wI (wI T κ ι k u) κ ι k' v = wI (wI T κ ι k' v) κ ι k u := by
  unfold wI
  refine Prod.ext (funext fun a => funext fun b => funext fun c => ?_) rfl
  simp only
  by_cases h1 : a = κ ∧ b = ι ∧ c = k'
  · rw [if_pos h1, if_neg (fun z => h (z.2.2.symm.trans h1.2.2)), if_pos h1]
  · rw [if_neg h1, if_neg h1]
section LM
variable {M : zT} {n : Nat}
theorem q_letter (v : Int32) : f_X4_isLetter v M = some ((if zci v = 1 then 1 else 0), M) := by
  unfold f_X4_isLetter
  by_cases h1 : v < 97
  · rw [if_pos h1, if_neg (fun z => ((zci_1 v).mp z).1 h1)]
  · rw [if_neg h1]
    by_cases h2 : 122 < v
    · rw [if_pos h2, if_neg (fun z => ((zci_1 v).mp z).2 h2)]
    · rw [if_neg h2, if_pos ((zci_1 v).mpr ⟨h1, h2⟩)]
theorem q_digit (v : Int32) : f_X4_isDigit v M = some ((if zci v = 2 then 1 else 0), M) := by
  unfold f_X4_isDigit
  by_cases h1 : v < 48
  · rw [if_pos h1, if_neg (fun z => ((zci_2 v).mp z).1 h1)]
  · rw [if_neg h1]
    by_cases h2 : 57 < v
    · rw [if_pos h2, if_neg (fun z => ((zci_2 v).mp z).2 h2)]
    · rw [if_neg h2, if_pos ((zci_2 v).mpr ⟨h1, h2⟩)]
theorem qm_skip {w1 : Int32} (h17 : M.1 0 0 17 = nI n) (hn : n ≤ 600) : ∀ k j f, j + k = n → k < f → lp_X4_next_30 w1 f (wI M 0 0 19 (nI j)) = some ((), wI M 0 0 19 (nI (zwh (fun i => decide (zcl (M.2 7 0) n i = 0)) j k))) := by
  intro k
  induction k with
  | zero =>
    intro j f hj hf
    obtain ⟨f, rfl⟩ : ∃ g, f = g + 1 := ⟨f - 1, by omega⟩
    obtain rfl : j = n := by omega
    rw [lp_X4_next_30, q_wIs, q_wIk (by omega), h17, if_pos (Int32.le_refl _)]; rfl
  | succ k ih =>
    intro j f hj hf
    obtain ⟨f, rfl⟩ : ∃ g, f = g + 1 := ⟨f - 1, by omega⟩
    have e := ih (j + 1) f (by omega) (by omega)
    have hz : zcl (M.2 7 0) n j = 0 ↔ M.2 7 0 j = 32 ∨ M.2 7 0 j = 10 := by rw [zcl_lt (by omega)]; exact zci_0 _
    rw [lp_X4_next_30, q_wIs, q_wIk (by omega), h17, if_neg (nI_ge (by omega) (by omega))]
    unfold zwh
    simp (disch := omega) only [zl_s, q_zt, q_clamp, if_true, q_wI2, nI_1, q_wII]
    by_cases h1 : M.2 7 0 j = 32
    · rw [if_pos h1, if_pos (decide_eq_true (hz.mpr (Or.inl h1)))]; exact e
    · rw [if_neg h1]
      by_cases h2 : M.2 7 0 j = 10
      · rw [if_pos h2, if_pos (decide_eq_true (hz.mpr (Or.inr h2)))]; exact e
      · have h3 : ¬ zcl (M.2 7 0) n j = 0 := fun z => by rcases hz.mp z with h | h; exact h1 h; exact h2 h
        rw [if_neg h2, if_neg (by simpa using h3)]
theorem qm_let {w1 : Int32} (h17 : M.1 0 0 17 = nI n) (hn : n ≤ 600) : ∀ k j f, j + k = n → k < f → lp_X4_next_145 w1 f (wI M 0 0 20 (nI j)) = some ((), wI M 0 0 20 (nI (zwh (fun i => decide (zcl (M.2 7 0) n i = 1)) j k))) := by
  intro k
  induction k with
  | zero =>
    intro j f hj hf
    obtain ⟨f, rfl⟩ : ∃ g, f = g + 1 := ⟨f - 1, by omega⟩
    obtain rfl : j = n := by omega
    rw [lp_X4_next_145, q_wIs, q_wIk (by omega), h17, if_pos (Int32.le_refl _)]; rfl
  | succ k ih =>
    intro j f hj hf
    obtain ⟨f, rfl⟩ : ∃ g, f = g + 1 := ⟨f - 1, by omega⟩
    have e := ih (j + 1) f (by omega) (by omega)
    have hz : zcl (M.2 7 0) n j = zci (M.2 7 0 j) := zcl_lt (by omega)
    have z1 : ¬ (1 : Int32) = 0 := by decide
    rw [lp_X4_next_145, q_wIs, q_wIk (by omega), h17, if_neg (nI_ge (by omega) (by omega))]
    unfold zwh
    simp (disch := omega) only [zl_s, q_zt, q_clamp, if_true, q_wI2, q_letter, zb_s, q_wIs, nI_1, q_wII]
    by_cases h1 : zci (M.2 7 0 j) = 1
    · rw [if_pos h1, if_neg z1, if_pos (decide_eq_true (hz.trans h1))]; exact e
    · rw [if_neg h1, if_pos rfl, if_neg (by rw [hz]; simpa using h1)]
/-- the value of a number's first four digits -/
def zvs (b : Nat → Int32) (s : Nat) : Nat → Int32 → Int32 := fun i u => if i < s + 4 then 10 * u + b i - 48 else u
theorem qm_dig {w1 : Int32} {s : Nat} (h17 : M.1 0 0 17 = nI n) (h19 : M.1 0 0 19 = nI s) (hn : n ≤ 600) : ∀ k j f u, j + k = n → s ≤ j → k < f → lp_X4_next_220 w1 f (wI (wI M 0 0 20 (nI j)) 0 0 21 u) = some ((), wI (wI M 0 0 20 (nI (zwh (fun i => decide (zcl (M.2 7 0) n i = 2)) j k))) 0 0 21 (zfo (zvs (M.2 7 0) s) j (zwh (fun i => decide (zcl (M.2 7 0) n i = 2)) j k - j) u)) := by
  intro k
  induction k with
  | zero =>
    intro j f u hj hs hf
    obtain ⟨f, rfl⟩ : ∃ g, f = g + 1 := ⟨f - 1, by omega⟩
    obtain rfl : j = n := by omega
    rw [lp_X4_next_220, q_wIk (by omega), q_wIk (by omega), q_wIk (by omega), q_wIs, h17, if_pos (Int32.le_refl _)]
    unfold zwh
    rw [Nat.sub_self]; rfl
  | succ k ih =>
    intro j f u hj hs hf
    obtain ⟨f, rfl⟩ : ∃ g, f = g + 1 := ⟨f - 1, by omega⟩
    have e := ih (j + 1) f (zvs (M.2 7 0) s j u) (by omega) (by omega) (by omega)
    have hz : zcl (M.2 7 0) n j = zci (M.2 7 0 j) := zcl_lt (by omega)
    have z1 : ¬ (1 : Int32) = 0 := by decide
    have r17 : (wI (wI M 0 0 20 (nI j)) 0 0 21 u).1 0 0 17 = nI n := by rw [q_wIk (by omega), q_wIk (by omega), h17]
    have r19 : (wI (wI M 0 0 20 (nI j)) 0 0 21 u).1 0 0 19 = nI s := by rw [q_wIk (by omega), q_wIk (by omega), h19]
    have r20 : (wI (wI M 0 0 20 (nI j)) 0 0 21 u).1 0 0 20 = nI j := by rw [q_wIk (by omega), q_wIs]
    have r21 : (wI (wI M 0 0 20 (nI j)) 0 0 21 u).1 0 0 21 = u := q_wIs
    have w20 : ∀ v, wI (wI (wI M 0 0 20 (nI j)) 0 0 21 v) 0 0 20 (nI (j + 1)) = wI (wI M 0 0 20 (nI (j + 1))) 0 0 21 v := fun v => by rw [q_wIc (by decide), q_wII]
    have r20' : ∀ v, (wI (wI M 0 0 20 (nI j)) 0 0 21 v).1 0 0 20 = nI j := fun v => by rw [q_wIk (by omega), q_wIs]
    rw [lp_X4_next_220, r17, r20, if_neg (nI_ge (by omega) (by omega))]
    simp (disch := omega) only [zl_s, q_zt, q_clamp, if_true, q_wI2, q_digit, zb_s, r19, r20, r21, q_wII, r20', nI_1, w20]
    by_cases h1 : zci (M.2 7 0 j) = 2
    · have hw : zwh (fun i => decide (zcl (M.2 7 0) n i = 2)) j (k + 1) = zwh (fun i => decide (zcl (M.2 7 0) n i = 2)) (j + 1) k := by
        rw [zwh, if_pos (decide_eq_true (hz.trans h1))]
      have hg : j + 1 ≤ zwh (fun i => decide (zcl (M.2 7 0) n i = 2)) (j + 1) k := zwh_ge
      rw [hw, show zwh (fun i => decide (zcl (M.2 7 0) n i = 2)) (j + 1) k - j = (zwh (fun i => decide (zcl (M.2 7 0) n i = 2)) (j + 1) k - (j + 1)) + 1 by omega]
      rw [if_pos h1, if_neg z1, pk_sub hs]
      show _ = some ((), wI _ 0 0 21 (zfo (zvs (M.2 7 0) s) (j + 1) _ (zvs (M.2 7 0) s j u)))
      rw [← e]
      unfold zvs
      by_cases h4 : j < s + 4
      · rw [if_neg (show ¬ (4 : Int32) ≤ nI (j - s) from nI_ge (b := 4) (by omega) (by decide)), if_pos h4]
      · rw [if_pos (show (4 : Int32) ≤ nI (j - s) from nI_le (a := 4) (by omega) (by omega)), if_neg h4]
    · have hw : zwh (fun i => decide (zcl (M.2 7 0) n i = 2)) j (k + 1) = j := by
        rw [zwh, if_neg (by rw [hz]; simpa using h1)]
      rw [hw, Nat.sub_self, if_neg h1, if_pos rfl]; rfl
theorem w_next {e : Nat} (h17 : M.1 0 0 17 = nI n) (hn : n ≤ 600) (h20 : M.1 0 0 20 = nI e) (he : e ≤ n) : ∃ M', f_X4_next M = some ((), M') ∧ M'.2 = M.2 ∧ (∀ j, j < 18 ∨ 21 < j → M'.1 0 0 j = M.1 0 0 j) ∧ M'.1 0 0 19 = nI (ztS (M.2 7 0) n e) ∧
    (∀ s r, s = ztS (M.2 7 0) n e → (r ↔ (M.1 0 0 18 = 1 ∨ M.1 0 0 18 = 2) ∧ s = e) →
      (zcl (M.2 7 0) n s = 4 ∧ M'.1 0 0 18 = 0 ∧ M'.1 0 0 20 = nI s) ∨ (zcl (M.2 7 0) n s = 1 ∧ ¬ r ∧ M'.1 0 0 18 = 1 ∧ M'.1 0 0 20 = nI (ztE (M.2 7 0) n s)) ∨ (zcl (M.2 7 0) n s = 1 ∧ r ∧ M'.1 0 0 18 = 4) ∨
      (zcl (M.2 7 0) n s = 2 ∧ ¬ r ∧ ztE (M.2 7 0) n s - s ≤ 4 ∧ M'.1 0 0 18 = 2 ∧ M'.1 0 0 20 = nI (ztE (M.2 7 0) n s) ∧ M'.1 0 0 21 = zfo (zvs (M.2 7 0) s) s (ztE (M.2 7 0) n s - s) 0) ∨ (zcl (M.2 7 0) n s = 2 ∧ (r ∨ 4 < ztE (M.2 7 0) n s - s) ∧ M'.1 0 0 18 = 4) ∨
      (zcl (M.2 7 0) n s = 3 ∧ M'.1 0 0 18 = 3 ∧ M'.1 0 0 20 = nI (s + 1)) ∨ (zcl (M.2 7 0) n s = 5 ∧ M'.1 0 0 18 = 4)) := by
  obtain ⟨s, es⟩ : ∃ s, s = ztS (M.2 7 0) n e := ⟨_, rfl⟩
  have hs1 : e ≤ s := by rw [es]; exact zwh_ge
  have hs2 : s ≤ n := by
    have := zwh_le (p := fun i => decide (zcl (M.2 7 0) n i = 0)) (k := n - e) (j := e)
    rw [es]; unfold ztS; omega
  have hb : zcl (M.2 7 0) n s ≠ 0 := by
    intro hz
    by_cases h : s < n
    · have := zwh_stop (p := fun i => decide (zcl (M.2 7 0) n i = 0)) (k := n - e) (j := e) (by unfold ztS at es; omega)
      rw [show zwh (fun i => decide (zcl (M.2 7 0) n i = 0)) e (n - e) = s from es.symm] at this
      simp [hz] at this
    · unfold zcl at hz
      rw [if_pos (by omega)] at hz
      omega
  have e1 : ∀ w, lp_X4_next_30 w 2000 (wI M 0 0 19 (nI e)) = some ((), wI M 0 0 19 (nI s)) := fun w => by rw [qm_skip h17 hn (n - e) e 2000 (by omega) (by omega), es]; rfl
  obtain ⟨M1, m1⟩ : ∃ z, z = wI M 0 0 19 (nI s) := ⟨_, rfl⟩
  have a17 : M1.1 0 0 17 = nI n := by rw [m1, q_wIk (by omega)]; exact h17
  have a19 : M1.1 0 0 19 = nI s := by rw [m1, q_wIs]
  have a20 : M1.1 0 0 20 = nI e := by rw [m1, q_wIk (by omega)]; exact h20
  have a2 : M1.2 = M.2 := by rw [m1]; rfl
  have aj : ∀ j, j < 18 ∨ 21 < j → M1.1 0 0 j = M.1 0 0 j := fun j hj => by rw [m1, q_wIk (by omega)]
  -- the last stretch
  have key : ∀ (g : Int32) (r : Prop), (g = 0 ∨ g = 1) → (r ↔ g = 1) → ∃ M', jn_X4_next_102 g M1 = some ((), M') ∧ M'.2 = M.2 ∧ (∀ j, j < 18 ∨ 21 < j → M'.1 0 0 j = M.1 0 0 j) ∧ M'.1 0 0 19 = nI s ∧
      ((zcl (M.2 7 0) n s = 4 ∧ M'.1 0 0 18 = 0 ∧ M'.1 0 0 20 = nI s) ∨ (zcl (M.2 7 0) n s = 1 ∧ ¬ r ∧ M'.1 0 0 18 = 1 ∧ M'.1 0 0 20 = nI (ztE (M.2 7 0) n s)) ∨ (zcl (M.2 7 0) n s = 1 ∧ r ∧ M'.1 0 0 18 = 4) ∨
      (zcl (M.2 7 0) n s = 2 ∧ ¬ r ∧ ztE (M.2 7 0) n s - s ≤ 4 ∧ M'.1 0 0 18 = 2 ∧ M'.1 0 0 20 = nI (ztE (M.2 7 0) n s) ∧ M'.1 0 0 21 = zfo (zvs (M.2 7 0) s) s (ztE (M.2 7 0) n s - s) 0) ∨ (zcl (M.2 7 0) n s = 2 ∧ (r ∨ 4 < ztE (M.2 7 0) n s - s) ∧ M'.1 0 0 18 = 4) ∨
      (zcl (M.2 7 0) n s = 3 ∧ M'.1 0 0 18 = 3 ∧ M'.1 0 0 20 = nI (s + 1)) ∨ (zcl (M.2 7 0) n s = 5 ∧ M'.1 0 0 18 = 4)) := by
    intro g r hg hr
    have b17 : ∀ v, (wI M1 0 0 20 v).1 0 0 17 = nI n := fun v => by rw [q_wIk (by omega), a17]
    have b19 : ∀ v, (wI M1 0 0 20 v).1 0 0 19 = nI s := fun v => by rw [q_wIk (by omega), a19]
    have fr : ∀ k v, k = 18 ∨ k = 20 ∨ k = 21 → ∀ (U : zT), (∀ j, j < 18 ∨ 21 < j → U.1 0 0 j = M.1 0 0 j) → ∀ j, j < 18 ∨ 21 < j → (wI U 0 0 k v).1 0 0 j = M.1 0 0 j := fun k v hk U hU j hj => by rw [q_wIk (by omega)]; exact hU j hj
    unfold jn_X4_next_102
    rw [a19, zl_s, zl_s, b19, b17]
    by_cases hsn : s = n
    · refine ⟨wI (wI M1 0 0 20 (nI s)) 0 0 18 0, ?_, a2, fr 18 _ (by omega) _ (fr 20 _ (by omega) _ aj), by rw [q_wIk (by omega), b19], Or.inl ⟨?_, q_wIs, by rw [q_wIk (by omega), q_wIs]⟩⟩
      · rw [hsn, if_pos rfl, zl_s]
      · unfold zcl; rw [if_pos (by omega)]
    have hlt : s < n := by omega
    have hc := zcl_lt (b := M.2 7 0) hlt
    have r7 : (wI M1 0 0 20 (nI s)).2 7 0 = M.2 7 0 := by rw [q_wI2, a2]
    have z1 : ¬ (1 : Int32) = 0 := by decide
    rw [if_neg (by rw [q_eq (by omega) (by omega)]; exact hsn), zl_s, if_pos (of_eq_true (q_zt (show s < 600 by omega) (by decide))), nI_clamp (by omega), r7, q_letter, zb_s, b19]
    by_cases h1 : zci (M.2 7 0 s) = 1
    · have hz1 : zcl (M.2 7 0) n s = 1 := hc.trans h1
      have e2 := qm_let (w1 := g) (M := M1) a17 hn (n - s) s 2000 (by omega) (by omega)
      rw [a2] at e2
      have hE : ztE (M.2 7 0) n s = zwh (fun i => decide (zcl (M.2 7 0) n i = 1)) s (n - s) := by unfold ztE ztR; rw [hz1, if_pos (Or.inl rfl)]
      rw [← hE] at e2
      rw [if_pos h1, if_neg z1, e2, zb_s]
      rcases hg with rfl | rfl
      · rw [if_pos rfl, zl_s]
        exact ⟨_, rfl, a2, fr 18 _ (by omega) _ (fr 20 _ (by omega) _ aj), by rw [q_wIk (by omega), b19], Or.inr (Or.inl ⟨hz1, fun z => by have := hr.mp z; revert this; decide, q_wIs, by rw [q_wIk (by omega), q_wIs]⟩)⟩
      · rw [if_neg z1, zl_s]
        exact ⟨_, rfl, a2, fr 18 _ (by omega) _ (fr 20 _ (by omega) _ aj), by rw [q_wIk (by omega), b19], Or.inr (Or.inr (Or.inl ⟨hz1, hr.mpr rfl, q_wIs⟩))⟩
    rw [if_neg h1, if_pos rfl, zl_s, if_pos (of_eq_true (q_zt (show s < 600 by omega) (by decide))), nI_clamp (by omega), q_digit, r7, zb_s, b19]
    by_cases h2 : zci (M.2 7 0 s) = 2
    · have hz2 : zcl (M.2 7 0) n s = 2 := hc.trans h2
      have e2 := qm_dig (w1 := g) (M := M1) a17 a19 hn (n - s) s 2000 0 (by omega) (Nat.le_refl _) (by omega)
      rw [a2] at e2
      have hE : ztE (M.2 7 0) n s = zwh (fun i => decide (zcl (M.2 7 0) n i = 2)) s (n - s) := by unfold ztE ztR; rw [hz2, if_pos (Or.inr rfl)]
      rw [← hE] at e2
      have hEs : s ≤ ztE (M.2 7 0) n s := by rw [hE]; exact zwh_ge
      have hEn : ztE (M.2 7 0) n s ≤ n := by
        rw [hE]
        have := zwh_le (p := fun i => decide (zcl (M.2 7 0) n i = 2)) (k := n - s) (j := s)
        omega
      rw [if_pos h2, if_neg z1, zl_s, e2, zb_s]
      unfold jn_X4_next_296
      have c20 : ∀ v w, (wI (wI M1 0 0 20 v) 0 0 21 w).1 0 0 20 = v := fun v w => by rw [q_wIk (by omega), q_wIs]
      have c19 : ∀ v w, (wI (wI M1 0 0 20 v) 0 0 21 w).1 0 0 19 = nI s := fun v w => by rw [q_wIk (by omega), b19]
      rw [c20, c19, pk_sub hEs]
      rcases hg with rfl | rfl
      · have nr : ¬ r := fun z => by have := hr.mp z; revert this; decide
        rw [if_pos rfl]
        by_cases h4 : ztE (M.2 7 0) n s - s ≤ 4
        · rw [if_pos (show nI (ztE (M.2 7 0) n s - s) ≤ (4 : Int32) from nI_le (b := 4) h4 (by decide)), zl_s]
          exact ⟨_, rfl, a2, fr 18 _ (by omega) _ (fr 21 _ (by omega) _ (fr 20 _ (by omega) _ aj)), by rw [q_wIk (by omega), c19], Or.inr (Or.inr (Or.inr (Or.inl ⟨hz2, nr, h4, q_wIs, by rw [q_wIk (by omega), c20], by rw [q_wIk (by omega), q_wIs]⟩)))⟩
        · rw [if_neg (show ¬ nI (ztE (M.2 7 0) n s - s) ≤ (4 : Int32) from nI_ge (a := 4) (by omega) (by omega)), zl_s]
          exact ⟨_, rfl, a2, fr 18 _ (by omega) _ (fr 21 _ (by omega) _ (fr 20 _ (by omega) _ aj)), by rw [q_wIk (by omega), c19], Or.inr (Or.inr (Or.inr (Or.inr (Or.inl ⟨hz2, Or.inr (by omega), q_wIs⟩))))⟩
      · rw [if_neg z1, zl_s]
        exact ⟨_, rfl, a2, fr 18 _ (by omega) _ (fr 21 _ (by omega) _ (fr 20 _ (by omega) _ aj)), by rw [q_wIk (by omega), c19], Or.inr (Or.inr (Or.inr (Or.inr (Or.inl ⟨hz2, Or.inl (hr.mpr rfl), q_wIs⟩))))⟩
    rw [if_neg h2, if_pos rfl, nI_1, zl_s, zl_s, q_wII, b19, zl_s, if_pos (of_eq_true (q_zt (show s < 600 by omega) (by decide))), nI_clamp (by omega), q_wI2, a2]
    by_cases h3 : M.2 7 0 s = 59
    · rw [if_pos h3, zl_s]
      exact ⟨_, rfl, a2, fr 18 _ (by omega) _ (fr 20 _ (by omega) _ aj), by rw [q_wIk (by omega), b19], Or.inr (Or.inr (Or.inr (Or.inr (Or.inr (Or.inl ⟨hc.trans ((zci_3 _).mpr h3), q_wIs, by rw [q_wIk (by omega), q_wIs]⟩)))))⟩
    · rw [if_neg h3, zl_s]
      have hz5 : zcl (M.2 7 0) n s = 5 := by
        have n1 := zci_le (M.2 7 0 s)
        have n2 := zci_ne4 (M.2 7 0 s)
        have n3 : zci (M.2 7 0 s) ≠ 3 := fun z => h3 ((zci_3 _).mp z)
        rw [hc] at hb ⊢
        omega
      exact ⟨_, rfl, a2, fr 18 _ (by omega) _ (fr 20 _ (by omega) _ aj), by rw [q_wIk (by omega), b19], Or.inr (Or.inr (Or.inr (Or.inr (Or.inr (Or.inr ⟨hz5, q_wIs⟩)))))⟩
  -- the way there
  have way : ∃ g, (g = 0 ∨ g = 1) ∧ (((M.1 0 0 18 = 1 ∨ M.1 0 0 18 = 2) ∧ s = e) ↔ g = 1) ∧ f_X4_next M = jn_X4_next_102 g M1 := by
    have z01 : ¬ (0 : Int32) = 1 := by decide
    have z10 : ¬ (1 : Int32) = 0 := by decide
    unfold f_X4_next jn_X4_next_16 jn_X4_next_21 jn_X4_next_82 jn_X4_next_101
    simp only [h20, zl_s, e1, zb_s, ← m1, a19, a20]
    have hse : (nI s = nI e) = (s = e) := q_eq (by omega) (by omega)
    simp only [hse]
    by_cases k1 : M.1 0 0 18 = 1
    · rw [if_pos k1, if_neg z10]
      by_cases hse : s = e
      · rw [if_pos hse]; exact ⟨1, Or.inr rfl, ⟨fun _ => rfl, fun _ => ⟨Or.inl k1, hse⟩⟩, rfl⟩
      · rw [if_neg hse]; exact ⟨0, Or.inl rfl, ⟨fun z => (hse z.2).elim, fun z => (z01 z).elim⟩, rfl⟩
    · rw [if_neg k1]
      by_cases k2 : M.1 0 0 18 = 2
      · rw [if_pos k2, if_neg z10]
        by_cases hse : s = e
        · rw [if_pos hse]; exact ⟨1, Or.inr rfl, ⟨fun _ => rfl, fun _ => ⟨Or.inr k2, hse⟩⟩, rfl⟩
        · rw [if_neg hse]; exact ⟨0, Or.inl rfl, ⟨fun z => (hse z.2).elim, fun z => (z01 z).elim⟩, rfl⟩
      · rw [if_neg k2, if_pos trivial]
        exact ⟨0, Or.inl rfl, ⟨fun z => by rcases z.1 with h | h; exact (k1 h).elim; exact (k2 h).elim, fun z => (z01 z).elim⟩, rfl⟩
  obtain ⟨g, hg, hr, ef⟩ := way
  obtain ⟨M', b1, b2, b3, b4, b5⟩ := key g ((M.1 0 0 18 = 1 ∨ M.1 0 0 18 = 2) ∧ s = e) hg hr
  refine ⟨M', ef.trans b1, b2, b3, by rw [← es]; exact b4, fun s' r h1 h2 => ?_⟩
  rw [← es] at h1
  subst h1
  rw [h2]
  exact b5
end LM
