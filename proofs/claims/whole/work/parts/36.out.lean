/-! OUTPUT -/
def zO (T0 M0 : zT) (k : Nat) (T M : zT) : Prop := ∃ g g', T = wA (wI T0 0 0 1 (nI k)) 0 3 g ∧ M = wA (wI M0 0 0 12 (nI k)) 8 0 g' ∧ ∀ j, j < k → g j = g' j
section OU
variable {T0 M0 T M : zT}
theorem zO.T1 {k : Nat} (h : zO T0 M0 k T M) : T.1 0 0 1 = nI k := by obtain ⟨g, g', rfl, rfl, -⟩ := h; rw [q_wA1]; exact q_wIs
theorem zO.M1 {k : Nat} (h : zO T0 M0 k T M) : M.1 0 0 12 = nI k := by obtain ⟨g, g', rfl, rfl, -⟩ := h; rw [q_wA1]; exact q_wIs
theorem w_byte {k : Nat} (h : zO T0 M0 k T M) (hk : k < 32) (x : Int32) : ∃ T' M', f_X3_writeByte x T = some ((), T') ∧ f_X4_writes x M = some ((), M') ∧ zO T0 M0 (k + 1) T' M' := by
  obtain ⟨g, g', rfl, rfl, hg⟩ := h
  refine ⟨wA (wI T0 0 0 1 (nI (k + 1))) 0 3 (upd g k x.toInt8.toInt32.toInt8.toInt32), wA (wI M0 0 0 12 (nI (k + 1))) 8 0 (upd g' k x.toInt8.toInt32.toInt8.toInt32), ?_, ?_, _, _, rfl, rfl, fun j hj => ?_⟩
  · unfold f_X3_writeByte
    simp only [q_wA1, q_wIs]
    rw [if_neg (nI_pos (by omega)), if_neg (show ¬ (32 : Int32) ≤ nI k from nI_ge (b := 32) hk (by decide)), if_pos (of_eq_true (q_zt hk (by decide))), zl_s, nI_clamp (by omega)]
    simp only [q_wAs, q_wAA, zl_s, q_wA1, q_wIs, nI_1]
    rw [← q_wAI, q_wII]
  · unfold f_X4_writes
    simp only [q_wA1, q_wIs]
    rw [if_pos (of_eq_true (q_zt (show k < 40 by omega) (by decide))), zl_s, nI_clamp (by omega)]
    simp only [q_wAs, q_wAA, zl_s, q_wA1, q_wIs, nI_1]
    rw [← q_wAI, q_wII]
  · by_cases e : j = k
    · subst e; rw [pk_us, pk_us]
    · rw [pk_un e, pk_un e]; exact hg j (by omega)
theorem q_div1 (x : Int32) : x / 1 = x := by
  apply Int32.toInt_inj.mp
  have h1 := Int32.le_toInt x
  have h2 := Int32.toInt_lt x
  rw [Int32.toInt_div, show (1 : Int32).toInt = 1 from rfl, Int.tdiv_one]
  exact Int.bmod_eq_of_le (by omega) (by omega)
theorem q_p10 {i : Nat} (h : i ≤ 9) : 10 ^ i < 2 ^ 31 := by
  have h2 : 10 ^ i ≤ 10 ^ 9 := Nat.pow_le_pow_right (by decide) h
  have h3 : 10 ^ 9 < 2 ^ 31 := by decide
  omega
theorem q_p10p (i : Nat) : 0 < 10 ^ i := Nat.pow_pos (by decide)
theorem q_pd {i : Nat} (h : i + 1 ≤ 9) : nI (10 ^ (i + 1)) / 10 = nI (10 ^ i) := by
  rw [nl_10, pk_div (q_p10 h) (by decide) (by decide), Nat.pow_succ, Nat.mul_div_cancel _ (by decide)]
/-- the class passes the powers that are too high -/
theorem w_num_skip {w : Int32} {m : Nat} (hm : ∀ i, m < i → i ≤ 9 → ¬ nI (10 ^ i) ≤ w) : ∀ k f, m + k ≤ 9 → lp_X3_writeNumber_4 w (f + k) (nI (10 ^ (m + k))) T = lp_X3_writeNumber_4 w f (nI (10 ^ m)) T := by
  intro k
  induction k with
  | zero => intro f _; rfl
  | succ k ih =>
    intro f hk
    have hp := q_p10p (m + (k + 1))
    have hp2 := q_p10 (i := m + (k + 1)) hk
    have h1 : ¬ nI (10 ^ (m + (k + 1))) = 1 := by
      rw [nl_1, q_eq hp2 (by decide)]
      have : 10 ^ (m + k) * 10 = 10 ^ (m + (k + 1)) := (Nat.pow_succ _ _).symm
      have := q_p10p (m + k)
      omega
    show lp_X3_writeNumber_4 w ((f + k) + 1) (nI (10 ^ (m + (k + 1)))) T = _
    rw [lp_X3_writeNumber_4, if_neg (nI_nle hp hp2), if_neg (hm _ (by omega) hk), if_neg h1, zl_s, show m + (k + 1) = (m + k) + 1 by omega, q_pd (by omega)]
    exact ih f (by omega)
/-- the model seeks the top power -/
theorem w_num_top {w : Int32} {m : Nat} (hm9 : m ≤ 9) (hlo : ∀ i, i < m → ¬ w / nI (10 ^ i) ≤ 9) (htop : w / nI (10 ^ m) ≤ 9) : ∀ k j f, j + k = m → k < f → lp_X4_writesNumber_2 w f (nI (10 ^ j)) M = some (nI (10 ^ m), M) := by
  intro k
  induction k with
  | zero =>
    intro j f hj hf
    obtain ⟨f, rfl⟩ : ∃ g, f = g + 1 := ⟨f - 1, by omega⟩
    obtain rfl : j = m := by omega
    rw [lp_X4_writesNumber_2, if_pos (nI_ne0 (q_p10p _) (q_p10 hm9)), if_pos htop]
  | succ k ih =>
    intro j f hj hf
    obtain ⟨f, rfl⟩ : ∃ g, f = g + 1 := ⟨f - 1, by omega⟩
    rw [lp_X4_writesNumber_2, if_pos (nI_ne0 (q_p10p _) (q_p10 (by omega))), if_neg (hlo j (by omega)), zl_s, nl_10, pk_mul, show 10 ^ j * 10 = 10 ^ (j + 1) from (Nat.pow_succ _ _).symm]
    exact ih (j + 1) f (by omega) (by omega)
/-- both write from the top down -/
theorem w_num_wr {w : Int32} : ∀ m k T M f1 f2, m ≤ 9 → (∀ i, 0 < i → i ≤ m → nI (10 ^ i) ≤ w) → zO T0 M0 k T M → k + m < 32 → m + 1 < f1 → m + 1 < f2 → ∃ T' M' u, lp_X3_writeNumber_4 w f1 (nI (10 ^ m)) T = some (u, T') ∧ lp_X4_writesNumber_18 w f2 (nI (10 ^ m)) M = some (u, M') ∧ zO T0 M0 (k + m + 1) T' M' := by
  intro m
  induction m with
  | zero =>
    intro k T M f1 f2 h9 hle hO hk h1 h2
    obtain ⟨f1, rfl⟩ : ∃ g, f1 = g + 2 := ⟨f1 - 2, by omega⟩
    obtain ⟨f2, rfl⟩ : ∃ g, f2 = g + 2 := ⟨f2 - 2, by omega⟩
    obtain ⟨T', M', e1, e2, hO'⟩ := w_byte hO (by omega) (48 + (w / 1 - w / 1 / 10 * 10))
    have d0 : (1 : Int32) / 10 = 0 := by decide
    have n1 : ¬ (1 : Int32) ≤ 0 := by decide
    have n2 : ¬ (1 : Int32) = 0 := by decide
    refine ⟨T', M', 0, ?_, ?_, hO'⟩
    · rw [show nI (10 ^ 0) = (1 : Int32) from rfl, lp_X3_writeNumber_4, if_neg n1]
      have tail : lp_X3_writeNumber_4 w (f1 + 1) 0 T' = some (0, T') := by rw [lp_X3_writeNumber_4, if_pos (by decide)]
      by_cases hw : (1 : Int32) ≤ w
      · rw [if_pos hw, if_pos n2, zl_s, e1, zb_s, zl_s, d0, tail]
      · rw [if_neg hw, if_pos rfl, if_pos n2, zl_s, e1, zb_s, zl_s, d0, tail]
    · rw [show nI (10 ^ 0) = (1 : Int32) from rfl, lp_X4_writesNumber_18, if_neg n1, if_pos n2, zl_s, e2, zb_s, zl_s, d0, lp_X4_writesNumber_18, if_pos (by decide)]
  | succ m ih =>
    intro k T M f1 f2 h9 hle hO hk h1 h2
    obtain ⟨f1, rfl⟩ : ∃ g, f1 = g + 1 := ⟨f1 - 1, by omega⟩
    obtain ⟨f2, rfl⟩ : ∃ g, f2 = g + 1 := ⟨f2 - 1, by omega⟩
    have n1 : ¬ nI (10 ^ (m + 1)) ≤ 0 := nI_nle (q_p10p _) (q_p10 h9)
    have n2 : ¬ nI (10 ^ (m + 1)) = 0 := nI_ne0 (q_p10p _) (q_p10 h9)
    obtain ⟨T1, M1, e1, e2, hO1⟩ := w_byte hO (by omega) (48 + (w / nI (10 ^ (m + 1)) - w / nI (10 ^ (m + 1)) / 10 * 10))
    obtain ⟨T', M', u, e3, e4, hO'⟩ := ih (k + 1) T1 M1 f1 f2 (by omega) (fun i a b => hle i a (by omega)) hO1 (by omega) (by omega) (by omega)
    refine ⟨T', M', u, ?_, ?_, by rw [show k + (m + 1) + 1 = k + 1 + m + 1 by omega]; exact hO'⟩
    · rw [lp_X3_writeNumber_4, if_neg n1, if_pos (hle _ (by omega) (Nat.le_refl _)), if_pos n2, zl_s, e1, zb_s, zl_s, q_pd h9, e3]
    · rw [lp_X4_writesNumber_18, if_neg n1, if_pos n2, zl_s, e2, zb_s, zl_s, q_pd h9, e4]
/-- the top power of a number -/
theorem q_top (w : Int32) : ∃ m, m ≤ 9 ∧ (∀ i, m < i → i ≤ 9 → ¬ nI (10 ^ i) ≤ w) ∧ (∀ i, 0 < i → i ≤ m → nI (10 ^ i) ≤ w) ∧ (∀ i, i < m → ¬ w / nI (10 ^ i) ≤ 9) ∧ w / nI (10 ^ m) ≤ 9 := by
  by_cases h0 : w < 0
  · refine ⟨0, by decide, fun i _ hi hh => ?_, fun i a b => by omega, fun i hi => by omega, ?_⟩
    · exact nI_pos (q_p10 hi) (Int32.lt_of_le_of_lt hh h0)
    · rw [show nI (10 ^ 0) = (1 : Int32) from rfl, q_div1]
      exact Int32.le_trans (Int32.le_of_lt h0) (by decide)
  obtain ⟨v, hv, rfl⟩ := nI_of h0
  obtain ⟨m, hm, h1, h2⟩ : ∃ m, m ≤ 9 ∧ (∀ i, m < i → i ≤ 9 → v < 10 ^ i) ∧ (0 < m → 10 ^ m ≤ v) := by
    have key : ∀ n, n ≤ 9 → (∀ i, n < i → i ≤ 9 → v < 10 ^ i) → ∃ m, m ≤ 9 ∧ (∀ i, m < i → i ≤ 9 → v < 10 ^ i) ∧ (0 < m → 10 ^ m ≤ v) := by
      intro n
      induction n with
      | zero => intro h a; exact ⟨0, h, a, fun z => by omega⟩
      | succ n ih =>
        intro h a
        by_cases hh : 10 ^ (n + 1) ≤ v
        · exact ⟨n + 1, h, a, fun _ => hh⟩
        · exact ih (by omega) (fun i x y => by
            by_cases e : i = n + 1
            · subst e; omega
            · exact a i (by omega) y)
    exact key 9 (Nat.le_refl _) (fun i a b => by omega)
  have mono : ∀ i, i ≤ m → 10 ^ i ≤ 10 ^ m := fun i hi => Nat.pow_le_pow_right (by decide) hi
  have dv : ∀ i, i ≤ 9 → nI v / nI (10 ^ i) = nI (v / 10 ^ i) := fun i hi => pk_div hv (q_p10p i) (q_p10 hi)
  refine ⟨m, hm, fun i a b => nI_ge (h1 i a b) (q_p10 b), fun i a b => nI_le (Nat.le_trans (mono i b) (h2 (by omega))) hv, fun i hi => ?_, ?_⟩
  · rw [dv i (by omega), nl_9, nI_leI (Nat.lt_of_le_of_lt (Nat.div_le_self _ _) hv) (by decide)]
    have h3 : 10 ^ (i + 1) ≤ v := Nat.le_trans (mono (i + 1) (by omega)) (h2 (by omega))
    rw [Nat.pow_succ] at h3
    have h4 : 10 ≤ v / 10 ^ i := by
      rw [Nat.le_div_iff_mul_le (q_p10p i), Nat.mul_comm]; exact h3
    omega
  · rw [dv m hm, nl_9, nI_leI (Nat.lt_of_le_of_lt (Nat.div_le_self _ _) hv) (by decide)]
    have h4 : v / 10 ^ m < 10 := by
      rw [Nat.div_lt_iff_lt_mul (q_p10p m), Nat.mul_comm, ← Nat.pow_succ]
      by_cases e : m = 9
      · subst e; exact Nat.lt_trans hv (by decide)
      · exact h1 (m + 1) (by omega) (by omega)
    omega
theorem w_numB {k : Nat} (hO : zO T0 M0 k T M) (w : Int32) (B : Nat) (hB : ∀ m, m ≤ 9 → (∀ i, 0 < i → i ≤ m → nI (10 ^ i) ≤ w) → m ≤ B) (hk : k + B < 32) : ∃ T' M' k', f_X3_writeNumber w T = some ((), T') ∧ f_X4_writesNumber w M = some ((), M') ∧ zO T0 M0 k' T' M' ∧ k' ≤ k + B + 1 := by
  obtain ⟨m, hm, a1, a2, a3, a4⟩ := q_top w
  have hmB := hB m hm a2
  obtain ⟨T', M', u, e1, e2, hO'⟩ := w_num_wr (w := w) m k T M (2000 - (9 - m)) 2000 hm a2 hO (by omega) (by omega) (by omega)
  have e3 := w_num_skip (T := T) (w := w) (m := m) a1 (9 - m) (2000 - (9 - m)) (by omega)
  rw [show 2000 - (9 - m) + (9 - m) = 2000 by omega, show m + (9 - m) = 9 by omega, e1] at e3
  have e4 := w_num_top (M := M) hm a3 a4 m 0 2000 (by omega) (by omega)
  refine ⟨T', M', k + m + 1, ?_, ?_, hO', by omega⟩
  · unfold f_X3_writeNumber
    rw [show (1000000000 : Int32) = nI (10 ^ 9) from rfl, e3, zb_s]
  · unfold f_X4_writesNumber
    rw [show (1 : Int32) = nI (10 ^ 0) from rfl, e4, zb_s, e2, zb_s]
theorem w_num {k : Nat} (hO : zO T0 M0 k T M) (w : Int32) (hk : k + 9 < 32) : ∃ T' M' k', f_X3_writeNumber w T = some ((), T') ∧ f_X4_writesNumber w M = some ((), M') ∧ zO T0 M0 k' T' M' ∧ k' ≤ k + 10 := w_numB hO w 9 (fun m h _ => h) hk
theorem w_num2 {k v : Nat} (hO : zO T0 M0 k T M) (hv : v < 100) (hk : k + 1 < 32) : ∃ T' M' k', f_X3_writeNumber (nI v) T = some ((), T') ∧ f_X4_writesNumber (nI v) M = some ((), M') ∧ zO T0 M0 k' T' M' ∧ k' ≤ k + 2 := w_numB hO (nI v) 1 (fun m _ h => by
  by_cases e : m ≤ 1
  · exact e
  · have := h 2 (by decide) (by omega)
    rw [nI_leI (by decide) (by omega)] at this
    omega) hk
end OU
