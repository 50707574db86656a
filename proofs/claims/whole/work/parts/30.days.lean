/-! DAYS PASSED: the loops -/
theorem zgo_refl {T : zT} {ρ : Nat} {σ : Nat → Int32} (R : zRR T ρ σ) (I : zIv σ) : zgo ρ T T σ σ := ⟨R, I, zfr_refl, rfl, rfl⟩
theorem zgo_trans {T T1 T2 : zT} {ρ : Nat} {σ σ1 σ2 : Nat → Int32} (h : zgo ρ T T1 σ σ1) (h' : zgo ρ T1 T2 σ1 σ2) : zgo ρ T T2 σ σ2 := ⟨h'.1, h'.2.1, zfr_trans h.2.2.1 h'.2.2.1, h'.2.2.2.1.trans h.2.2.2.1, h'.2.2.2.2.trans h.2.2.2.2⟩
theorem w_kids {ρ n : Nat} : ∀ k j f1 f2 (T M : zT) (σ : Nat → Int32), zRR T ρ σ → zIv σ → M.2 2 0 = σ → zn σ = n → j + k = n → k < f1 → k < f2 → ∃ x T' σ', (∀ w1 w3 u, lp_X2_pass_16 ρ w1 w3 f1 u (nI j) T = some ((u + x, nI n), T')) ∧ (∀ u, lp_X4_passesDay_45 f2 u (nI j) M = some ((u + x, nI n), wA M 2 0 σ')) ∧ zgo ρ T T' σ σ' ∧ σ' 0 = σ 0 ∧ σ' 1 = σ 1 := by
  intro k
  induction k with
  | zero =>
    intro j f1 f2 T M σ R I hσ hn hj h1 h2
    obtain ⟨f1, rfl⟩ : ∃ f, f1 = f + 1 := ⟨f1 - 1, by omega⟩
    obtain ⟨f2, rfl⟩ : ∃ f, f2 = f + 1 := ⟨f2 - 1, by omega⟩
    obtain rfl : j = n := by omega
    refine ⟨0, T, σ, fun w1 w3 u => ?_, fun u => ?_, zgo_refl R I, rfl, rfl⟩
    · unfold lp_X2_pass_16
      rw [R.f9, I.n, hn, if_pos (Int32.le_refl _), Int32.add_zero]
    · unfold lp_X4_passesDay_45
      rw [hσ, I.n, hn, if_pos (Int32.le_refl _), Int32.add_zero, ← hσ, q_wAself]
  | succ k ih =>
    intro j f1 f2 T M σ R I hσ hn hj h1 h2
    obtain ⟨f1, rfl⟩ : ∃ f, f1 = f + 1 := ⟨f1 - 1, by omega⟩
    obtain ⟨f2, rfl⟩ : ∃ f, f2 = f + 1 := ⟨f2 - 1, by omega⟩
    have n10 := I.n10
    have hc : j < zn σ := by omega
    have n1 : ¬ nI n ≤ nI j := nI_ge (by omega) (by omega)
    have c9 : f_X3_cell 9 ρ (nI j) T = some (σ (21 + 13 * j + 4), T) := by rw [q_cellc (by decide) (by omega), R.bi hc]
    by_cases hd : σ (21 + 13 * j + 4) = σ 1
    · obtain ⟨b, T1, σ1, e1, e2, hg, z0, z1, hb⟩ := w_cel R I hσ hc
      obtain ⟨x, T', σ', e3, e4, hg', z0', z1'⟩ := ih (j + 1) f1 f2 T1 (wA M 2 0 σ1) σ1 hg.1 hg.2.1 q_wAs (hg.2.2.2.1.trans hn) (by omega) (by omega) (by omega)
      have cx : ∀ w1 w3 u, lp_X2_pass_16 ρ w1 w3 (f1 + 1) u (nI j) T = (if b = 0 then lp_X2_pass_16 ρ w1 w3 f1 u (nI (j + 1)) T1 else lp_X2_pass_16 ρ w1 w3 f1 (u + 1) (nI (j + 1)) T1) := by
        intro w1 w3 u
        rw [lp_X2_pass_16]
        rw [R.f9, I.n, hn, if_neg n1, c9, zb_s, R.f1, if_pos hd, e1, zb_s]
        simp only [zl_s, nI_1]
      have cm : ∀ u, lp_X4_passesDay_45 (f2 + 1) u (nI j) M = (if b = 0 then lp_X4_passesDay_45 f2 u (nI (j + 1)) (wA M 2 0 σ1) else lp_X4_passesDay_45 f2 (u + 1) (nI (j + 1)) (wA M 2 0 σ1)) := by
        intro u
        rw [lp_X4_passesDay_45]
        rw [hσ, I.n, hn, if_neg n1]
        simp (disch := omega) only [zb_s, zl_s, q_c, q_ad4, q_zt, q_clamp, if_true, hσ, if_pos hd, e2, nI_1, Int32.add_zero]
      rcases hb with rfl | rfl
      · refine ⟨x, T', σ', fun w1 w3 u => ?_, fun u => ?_, zgo_trans hg hg', z0'.trans z0, z1'.trans z1⟩
        · rw [cx, if_pos rfl, e3]
        · rw [cm, if_pos rfl, e4, q_wAA]
      · refine ⟨1 + x, T', σ', fun w1 w3 u => ?_, fun u => ?_, zgo_trans hg hg', z0'.trans z0, z1'.trans z1⟩
        · rw [cx, if_neg (by decide), e3, Int32.add_assoc]
        · rw [cm, if_neg (by decide), e4, q_wAA, Int32.add_assoc]
    · obtain ⟨x, T', σ', e3, e4, hg', z0', z1'⟩ := ih (j + 1) f1 f2 T M σ R I hσ hn (by omega) (by omega) (by omega)
      refine ⟨x, T', σ', fun w1 w3 u => ?_, fun u => ?_, hg', z0', z1'⟩
      · rw [lp_X2_pass_16]
        rw [R.f9, I.n, hn, if_neg n1, c9, zb_s, R.f1, if_neg hd]
        simp only [zl_s, nI_1]
        exact e3 w1 w3 u
      · rw [lp_X4_passesDay_45]
        rw [hσ, I.n, hn, if_neg n1]
        simp (disch := omega) only [zb_s, zl_s, q_c, q_ad4, q_zt, q_clamp, if_true, hσ, if_neg hd, nI_1]
        exact e4 u
section DY
variable {T M : zT} {ρ : Nat} {σ : Nat → Int32}
theorem w_day {y t : Nat} (R : zRR T ρ σ) (I : zIv σ) (hσ : M.2 2 0 = σ) (hy : σ 0 = nI y) (ht : σ 1 = nI t) (ht3 : t < 360) : ∃ T1, f_X2_beginNextDate ρ T = some ((), T1) ∧ ∃ x T' σ', (∀ w1 w3 u, lp_X2_pass_16 ρ w1 w3 2000 u 0 T1 = some ((u + x, nI (zn σ)), T')) ∧ f_X4_passesDay M = some (x, wA M 2 0 σ') ∧ zgo ρ T T' σ σ' ∧ ∃ y' t', t' < 360 ∧ σ' 0 = nI y' ∧ σ' 1 = nI t' ∧ 360 * y' + t' = 360 * y + t + 1 := by
  have n10 := I.n10
  have er : nI (t + 1) - nI (t + 1) / 360 * 360 = nI ((t + 1) % 360) := pk_rem (by omega) (by decide) (by decide)
  have zz : (0 : Int32).toNatClampNeg = 0 := rfl
  have zi : (zin (0 : Int32) 151 = true) = True := eq_true (by decide)
  have fin : ∀ (T1 : zT) (σ1 : Nat → Int32), zRR T1 ρ σ1 → zIv σ1 → zfr (zPr ρ) T T1 → zn σ1 = zn σ → zg σ1 = zg σ → f_X2_beginNextDate ρ T = some ((), T1) → (∀ v, zb (lp_X4_passesDay_45 2000 0 0 (wA M 2 0 σ1)) (fun v25 T24 => some (v25.1, T24)) = v → f_X4_passesDay M = v) → (∃ y' t', t' < 360 ∧ σ1 0 = nI y' ∧ σ1 1 = nI t' ∧ 360 * y' + t' = 360 * y + t + 1) → ∃ T1, f_X2_beginNextDate ρ T = some ((), T1) ∧ ∃ x T' σ', (∀ w1 w3 u, lp_X2_pass_16 ρ w1 w3 2000 u 0 T1 = some ((u + x, nI (zn σ)), T')) ∧ f_X4_passesDay M = some (x, wA M 2 0 σ') ∧ zgo ρ T T' σ σ' ∧ ∃ y' t', t' < 360 ∧ σ' 0 = nI y' ∧ σ' 1 = nI t' ∧ 360 * y' + t' = 360 * y + t + 1 := by
    intro T1 σ1 R1 I1 F1 n1 g1 e1 e2 hyt
    obtain ⟨x, T', σ', e3, e4, hg, z0, z1⟩ := w_kids (n := zn σ) (zn σ) 0 2000 2000 T1 (wA M 2 0 σ1) σ1 R1 I1 q_wAs n1 (by omega) (by omega) (by omega)
    simp only [← nl_0] at e3 e4
    refine ⟨T1, e1, x, T', σ', e3, e2 _ ?_, ⟨hg.1, hg.2.1, zfr_trans F1 hg.2.2.1, hg.2.2.2.1.trans n1, hg.2.2.2.2.trans g1⟩, ?_⟩
    · rw [e4, zb_s, q_wAA, Int32.zero_add]
    · obtain ⟨y', t', h1, h2, h3, h4⟩ := hyt
      exact ⟨y', t', h1, z0.trans h2, z1.trans h3, h4⟩
  by_cases h : t + 1 = 360
  · refine fin (wI (wI (wI T 1 ρ 1 (nI (t + 1))) 1 ρ 1 0) 1 ρ 0 (nI (y + 1))) (upd (upd σ 1 (nI 0)) 0 (nI (y + 1))) ?_ ((I.date' (by decide)).up (Or.inl rfl)) (zfr_trans (zfr_wI ⟨by decide, by decide, rfl⟩) (zfr_trans (zfr_wI ⟨by decide, by decide, rfl⟩) (zfr_wI ⟨by decide, by decide, rfl⟩))) (by rw [zn_upd (by decide), zn_upd (by decide)]) (by rw [zg_upd (by decide), zg_upd (by decide)]) ?_ ?_ ⟨y + 1, 0, by decide, pk_us, by rw [pk_un (by decide), pk_us], by omega⟩
    · have := ((R.i1 (nI (t + 1))).i1 (nI 0)).i0 (nI (y + 1))
      rw [q_uu] at this
      exact this
    · unfold f_X2_beginNextDate
      rw [R.f1, ht, nI_1, zl_s, zl_s, q_wIs, if_pos (by rw [h]; rfl), zl_s, zl_s, zl_s, q_wIk (by omega), q_wIk (by omega), R.f0, hy, nI_1]
    · intro v hv
      unfold f_X4_passesDay jn_X4_passesDay_41
      have e0 : (t + 1) % 360 = 0 := by omega
      rw [← hv]
      simp (disch := omega) only [hσ, ht, nI_1, zl_s, er, e0, q_wAs, pk_us, nl_0, eq_self, if_true, q_zt, q_clamp, q_wAA]
      rw [pk_un (by decide), hy, nl_1, nI_add]
  · refine fin (wI T 1 ρ 1 (nI (t + 1))) (upd σ 1 (nI (t + 1))) (R.i1 _) (I.date' (by omega)) (zfr_wI ⟨by decide, by decide, rfl⟩) (zn_upd (by decide)) (zg_upd (by decide)) ?_ ?_ ⟨y, t + 1, by omega, by rw [pk_un (by decide)]; exact hy, pk_us, by omega⟩
    · unfold f_X2_beginNextDate
      rw [R.f1, ht, nI_1, zl_s, zl_s, q_wIs, if_neg (by rw [nl_360, q_eq (by omega) (by omega)]; exact h)]
    · intro v hv
      unfold f_X4_passesDay jn_X4_passesDay_41
      have e0 : (t + 1) % 360 = t + 1 := by omega
      have e1 : ¬ nI (t + 1) = nI 0 := by rw [q_eq (by omega) (by omega)]; omega
      have e2 : upd (upd σ 1 (nI (t + 1))) 0 (upd σ 1 (nI (t + 1)) 0 + nI 0) = upd σ 1 (nI (t + 1)) := q_upds (Int32.add_zero _)
      rw [← hv]
      simp (disch := omega) only [hσ, ht, nI_1, zl_s, er, e0, q_wAs, pk_us, nl_0, if_neg e1, if_true, q_zt, q_clamp, q_wAA, e2]
theorem w_pass_l {d : Nat} (hd : d ≤ 720) : ∀ k j f1 f2 (T M : zT) (σ : Nat → Int32) (y t : Nat), zRR T ρ σ → zIv σ → M.2 2 0 = σ → σ 0 = nI y → σ 1 = nI t → t < 360 → j + k = d → k < f1 → k < f2 → ∃ x T' σ', (∀ u, lp_X2_pass_4 ρ (nI d) f1 u (nI j) T = some ((u + x, nI d), T')) ∧ (∀ u, lp_X4_passes_4 (nI d) f2 u (nI j) M = some ((u + x, nI d), wA M 2 0 σ')) ∧ zgo ρ T T' σ σ' ∧ ∃ y' t', t' < 360 ∧ σ' 0 = nI y' ∧ σ' 1 = nI t' ∧ 360 * y' + t' = 360 * y + t + k := by
  intro k
  induction k with
  | zero =>
    intro j f1 f2 T M σ y t R I hσ hy ht ht3 hj h1 h2
    obtain ⟨f1, rfl⟩ : ∃ f, f1 = f + 1 := ⟨f1 - 1, by omega⟩
    obtain ⟨f2, rfl⟩ : ∃ f, f2 = f + 1 := ⟨f2 - 1, by omega⟩
    obtain rfl : j = d := by omega
    refine ⟨0, T, σ, fun u => ?_, fun u => ?_, zgo_refl R I, y, t, ht3, hy, ht, by omega⟩
    · rw [lp_X2_pass_4, if_pos (Int32.le_refl _), Int32.add_zero]
    · rw [lp_X4_passes_4, if_pos (Int32.le_refl _), Int32.add_zero, ← hσ, q_wAself]
  | succ k ih =>
    intro j f1 f2 T M σ y t R I hσ hy ht ht3 hj h1 h2
    obtain ⟨f1, rfl⟩ : ∃ f, f1 = f + 1 := ⟨f1 - 1, by omega⟩
    obtain ⟨f2, rfl⟩ : ∃ f, f2 = f + 1 := ⟨f2 - 1, by omega⟩
    have n1 : ¬ nI d ≤ nI j := nI_ge (by omega) (by omega)
    obtain ⟨T1, e1, x, T2, σ2, e2, e3, hg, y2, t2, ht2, hy2, hd2, ey⟩ := w_day R I hσ hy ht ht3
    obtain ⟨x', T', σ', e4, e5, hg', y', t', a1, a2, a3, a4⟩ := ih (j + 1) f1 f2 T2 (wA M 2 0 σ2) σ2 y2 t2 hg.1 hg.2.1 q_wAs hy2 hd2 ht2 (by omega) (by omega) (by omega)
    refine ⟨x + x', T', σ', fun u => ?_, fun u => ?_, zgo_trans hg hg', y', t', a1, a2, a3, by omega⟩
    · rw [lp_X2_pass_4, if_neg n1, e1, zb_s, e2, zb_s, zl_s, nI_1]
      simp only
      rw [e4, Int32.add_assoc]
    · rw [lp_X4_passes_4, if_neg n1, e3, zb_s, zl_s, zl_s, nI_1, e5, q_wAA, Int32.add_assoc]
theorem w_pass {d y t : Nat} (hd : d ≤ 720) (R : zRR T ρ σ) (I : zIv σ) (hσ : M.2 2 0 = σ) (hy : σ 0 = nI y) (ht : σ 1 = nI t) (ht3 : t < 360) : ∃ x T' σ', f_X2_pass ρ (nI d) T = some (x, T') ∧ f_X4_passes (nI d) M = some (x, wA M 2 0 σ') ∧ zgo ρ T T' σ σ' ∧ ∃ y' t', t' < 360 ∧ σ' 0 = nI y' ∧ σ' 1 = nI t' ∧ 360 * y' + t' = 360 * y + t + d := by
  obtain ⟨x, T', σ', e1, e2, hg, hy'⟩ := w_pass_l (ρ := ρ) hd d 0 2000 2000 T M σ y t R I hσ hy ht ht3 (by omega) (by omega) (by omega)
  simp only [← nl_0] at e1 e2
  refine ⟨x, T', σ', ?_, ?_, hg, hy'⟩
  · unfold f_X2_pass
    rw [e1, zb_s, Int32.zero_add]
  · unfold f_X4_passes
    rw [e2, zb_s, Int32.zero_add]
end DY
