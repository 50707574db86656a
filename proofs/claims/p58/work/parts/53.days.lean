/-! DAYS PASSED: the loops -/
/-- what passing gives of a row: x parties held -/
def zps (N' : Nat → Nat) (B C : Nat) (x : Int32) (σ σ' : Nat → Int32) : Prop := zIv σ' ∧ zNr N' B C σ' ∧ zkp σ σ' ∧ σ' 9 = σ 9 + x ∧ σ' 3 + σ' 8 = σ 3 + σ 8
theorem zps_refl {N N' : Nat → Nat} {B C : Nat} {σ : Nat → Int32} (I : zIv σ) (hN : zNr N B C σ) (h : ∀ i, N i ≤ N' i) : zps N' B C 0 σ σ := ⟨I, hN.mono h, zkp_refl, (Int32.add_zero _).symm, rfl⟩
theorem zps_trans {N N' : Nat → Nat} {B C : Nat} {x x' : Int32} {σ σ1 σ2 : Nat → Int32} (h : zps N B C x σ σ1) (h' : zps N' B C x' σ1 σ2) : zps N' B C (x + x') σ σ2 :=
  ⟨h'.1, h'.2.1, zkp_trans h.2.2.1 h'.2.2.1, by rw [h'.2.2.2.1, h.2.2.2.1, Int32.add_assoc], h'.2.2.2.2.trans h.2.2.2.2⟩
theorem w_kids {n B C : Nat} (hC : C ≤ 9999) : ∀ k j f1 (N : Nat → Nat) (σ : Nat → Int32), zIv σ → zNr N B C σ → (∀ i, (if j ≤ i then N i + 1 else N i) ≤ 100000) → zn σ = n → j + k = n → k < f1 → ∃ x σ', zps (fun i => if j ≤ i then N i + 1 else N i) B C x σ σ' ∧ σ' 0 = σ 0 ∧ σ' 1 = σ 1 ∧
    ∀ (ρ : Nat) (T : zT), zRR T ρ σ → ∃ T', (∀ w1 w3 u, lp_X2_pass_16 ρ w1 w3 f1 u (nI j) T = some ((u + x, nI n), T')) ∧ zRR T' ρ σ' ∧ zfr (zPr ρ) T T' := by
  intro k
  induction k with
  | zero =>
    intro j f1 N σ I hN hNb hn hj h1
    obtain ⟨f1, rfl⟩ : ∃ f, f1 = f + 1 := ⟨f1 - 1, by omega⟩
    obtain rfl : j = n := by omega
    refine ⟨0, σ, zps_refl I hN (fun i => by split <;> omega), rfl, rfl, fun ρ T R => ⟨T, fun w1 w3 u => ?_, R, zfr_refl⟩⟩
    unfold lp_X2_pass_16
    rw [R.f9, I.n, hn, if_pos (Int32.le_refl _), Int32.add_zero]
  | succ k ih =>
    intro j f1 N σ I hN hNb hn hj h1
    obtain ⟨f1, rfl⟩ : ∃ f, f1 = f + 1 := ⟨f1 - 1, by omega⟩
    have n10 := I.n10
    have hc : j < zn σ := by omega
    have n1 : ¬ nI n ≤ nI j := nI_ge (by omega) (by omega)
    have c9 : ∀ (ρ : Nat) (T : zT), zRR T ρ σ → f_X3_cell 9 ρ (nI j) T = some (σ (21 + 13 * j + 4), T) := fun ρ T R => by rw [q_cellc (by decide) (by omega), R.bi hc]
    by_cases hd : σ (21 + 13 * j + 4) = σ 1
    · obtain ⟨b, σ1, hb, I1, N1, k1, z0, z1, z9, z38, cl⟩ := w_cel I hN hC (fun i => by have := hNb i; split at this <;> omega) hc
      have hbig : ∀ i, (if j + 1 ≤ i then zuN N j i + 1 else zuN N j i) ≤ 100000 := fun i => by
        have h2 := hNb i
        unfold zuN
        by_cases e : i = j
        · subst e; rw [if_pos (Nat.le_refl _)] at h2; rw [if_neg (by omega), if_pos rfl]; exact h2
        · rw [if_neg e]; split at h2 <;> split <;> omega
      obtain ⟨x, σ', hz, z0', z1', cl'⟩ := ih (j + 1) f1 (zuN N j) σ1 I1 N1 hbig (k1.n.trans hn) (by omega) (by omega)
      refine ⟨b + x, σ', ⟨hz.1, hz.2.1.mono (fun i => ?_), zkp_trans k1 hz.2.2.1, by rw [hz.2.2.2.1, z9, Int32.add_assoc], hz.2.2.2.2.trans z38⟩, z0'.trans z0, z1'.trans z1, fun ρ T R => ?_⟩
      · unfold zuN
        by_cases e : i = j
        · subst e; rw [if_neg (by omega), if_pos rfl, if_pos (Nat.le_refl _)]; exact Nat.le_refl _
        · rw [if_neg e]; split <;> split <;> omega
      · obtain ⟨T1, e1, R1, F1⟩ := cl ρ T R
        obtain ⟨T', e2, R', F'⟩ := cl' ρ T1 R1
        refine ⟨T', fun w1 w3 u => ?_, R', zfr_trans F1 F'⟩
        have cx : lp_X2_pass_16 ρ w1 w3 (f1 + 1) u (nI j) T = (if b = 0 then lp_X2_pass_16 ρ w1 w3 f1 u (nI (j + 1)) T1 else lp_X2_pass_16 ρ w1 w3 f1 (u + 1) (nI (j + 1)) T1) := by
          rw [lp_X2_pass_16]
          rw [R.f9, I.n, hn, if_neg n1, c9 ρ T R, zb_s, R.f1, if_pos hd, e1, zb_s]
          simp only [zl_s, nI_1]
        rcases hb with rfl | rfl
        · rw [cx, if_pos rfl, e2, Int32.zero_add]
        · rw [cx, if_neg (by decide), e2, Int32.add_assoc]
    · obtain ⟨x, σ', hz, z0', z1', cl'⟩ := ih (j + 1) f1 N σ I hN (fun i => by have := hNb i; split at this <;> split <;> omega) hn (by omega) (by omega)
      refine ⟨x, σ', ⟨hz.1, hz.2.1.mono (fun i => by split <;> split <;> omega), hz.2.2⟩, z0', z1', fun ρ T R => ?_⟩
      obtain ⟨T', e2, R', F'⟩ := cl' ρ T R
      refine ⟨T', fun w1 w3 u => ?_, R', F'⟩
      rw [lp_X2_pass_16]
      rw [R.f9, I.n, hn, if_neg n1, c9 ρ T R, zb_s, R.f1, if_neg hd]
      simp only [zl_s, nI_1]
      exact e2 w1 w3 u
theorem zNr.upd' {N : Nat → Nat} {B C j : Nat} {x : Int32} {σ : Nat → Int32} (h : zNr N B C σ) (hj : j ≤ 2) : zNr N B C (upd σ j x) := by
  refine ⟨?_, fun k hk => ?_, fun c hc => ?_⟩
  · rw [pk_un (by omega)]; exact h.1
  · rw [pk_un (by omega)]; exact h.2.1 k hk
  · rw [zn_upd (by omega)] at hc
    rw [pk_un (by omega), pk_un (by omega), pk_un (by omega)]
    exact h.2.2 c hc
section DAYS
variable {σ : Nat → Int32} {B C : Nat}
theorem w_day {N : Nat → Nat} {y t : Nat} (hC : C ≤ 9999) (I : zIv σ) (hN : zNr N B C σ) (hNb : ∀ i, N i + 1 ≤ 100000) (hy : σ 0 = nI y) (ht : σ 1 = nI t) (ht3 : t < 360) : ∃ x σ', zps (fun i => N i + 1) B C x σ σ' ∧ (∃ y' t', t' < 360 ∧ σ' 0 = nI y' ∧ σ' 1 = nI t' ∧ 360 * y' + t' = 360 * y + t + 1) ∧
    ∀ (ρ : Nat) (T : zT), zRR T ρ σ → ∃ T1 T', f_X2_beginNextDate ρ T = some ((), T1) ∧ (∀ w1 w3 u, lp_X2_pass_16 ρ w1 w3 2000 u 0 T1 = some ((u + x, nI (zn σ)), T')) ∧ zRR T' ρ σ' ∧ zfr (zPr ρ) T T' := by
  have n10 := I.n10
  have fin : ∀ (σ1 : Nat → Int32), zIv σ1 → zNr N B C σ1 → zkp σ σ1 → σ1 9 = σ 9 → σ1 3 = σ 3 → σ1 8 = σ 8 → (∃ y' t', t' < 360 ∧ σ1 0 = nI y' ∧ σ1 1 = nI t' ∧ 360 * y' + t' = 360 * y + t + 1) → (∀ (ρ : Nat) (T : zT), zRR T ρ σ → ∃ T1, f_X2_beginNextDate ρ T = some ((), T1) ∧ zRR T1 ρ σ1 ∧ zfr (zPr ρ) T T1) → ∃ x σ', zps (fun i => N i + 1) B C x σ σ' ∧ (∃ y' t', t' < 360 ∧ σ' 0 = nI y' ∧ σ' 1 = nI t' ∧ 360 * y' + t' = 360 * y + t + 1) ∧
    ∀ (ρ : Nat) (T : zT), zRR T ρ σ → ∃ T1 T', f_X2_beginNextDate ρ T = some ((), T1) ∧ (∀ w1 w3 u, lp_X2_pass_16 ρ w1 w3 2000 u 0 T1 = some ((u + x, nI (zn σ)), T')) ∧ zRR T' ρ σ' ∧ zfr (zPr ρ) T T' := by
    intro σ1 I1 N1 k1 z9 z3 z8 hyt cl
    obtain ⟨x, σ', hz, z0, z1, cl'⟩ := w_kids (n := zn σ) hC (zn σ) 0 2000 N σ1 I1 N1 (fun i => by have := hNb i; split <;> omega) k1.n (by omega) (by omega)
    refine ⟨x, σ', ⟨hz.1, hz.2.1.mono (fun i => by split <;> omega), zkp_trans k1 hz.2.2.1, by rw [hz.2.2.2.1, z9], by rw [hz.2.2.2.2, z3, z8]⟩, ?_, fun ρ T R => ?_⟩
    · obtain ⟨y', t', h1, h2, h3, h4⟩ := hyt
      exact ⟨y', t', h1, z0.trans h2, z1.trans h3, h4⟩
    · obtain ⟨T1, e1, R1, F1⟩ := cl ρ T R
      obtain ⟨T', e2, R', F'⟩ := cl' ρ T1 R1
      exact ⟨T1, T', e1, e2, R', zfr_trans F1 F'⟩
  by_cases h : t + 1 = 360
  · refine fin (upd (upd σ 1 (nI 0)) 0 (nI (y + 1))) ((I.date' (by decide)).up (Or.inl rfl)) ((hN.upd' (by decide)).upd' (by decide)) (zkp_upd (zkp_upd zkp_refl (by rintro (h | ⟨h, h'⟩ | ⟨h, h'⟩ | ⟨c', o, h, h'⟩) <;> omega)) (by rintro (h | ⟨h, h'⟩ | ⟨h, h'⟩ | ⟨c', o, h, h'⟩) <;> omega)) (by rw [pk_un (by decide), pk_un (by decide)]) (by rw [pk_un (by decide), pk_un (by decide)]) (by rw [pk_un (by decide), pk_un (by decide)]) ⟨y + 1, 0, by decide, pk_us, by rw [pk_un (by decide), pk_us], by omega⟩ (fun ρ T R => ?_)
    refine ⟨wI (wI (wI T 1 ρ 1 (nI (t + 1))) 1 ρ 1 0) 1 ρ 0 (nI (y + 1)), ?_, ?_, zfr_trans (zfr_wI ⟨by decide, by decide, rfl⟩) (zfr_trans (zfr_wI ⟨by decide, by decide, rfl⟩) (zfr_wI ⟨by decide, by decide, rfl⟩))⟩
    · unfold f_X2_beginNextDate
      rw [R.f1, ht, nI_1, zl_s, zl_s, q_wIs, if_pos (by rw [h]; rfl), zl_s, zl_s, zl_s, q_wIk (by omega), q_wIk (by omega), R.f0, hy, nI_1]
    · have := ((R.i1 (nI (t + 1))).i1 (nI 0)).i0 (nI (y + 1))
      rw [q_uu] at this
      exact this
  · refine fin (upd σ 1 (nI (t + 1))) (I.date' (by omega)) (hN.upd' (by decide)) (zkp_upd zkp_refl (by rintro (h | ⟨h, h'⟩ | ⟨h, h'⟩ | ⟨c', o, h, h'⟩) <;> omega)) (by rw [pk_un (by decide)]) (by rw [pk_un (by decide)]) (by rw [pk_un (by decide)]) ⟨y, t + 1, by omega, by rw [pk_un (by decide)]; exact hy, pk_us, by omega⟩ (fun ρ T R => ?_)
    refine ⟨wI T 1 ρ 1 (nI (t + 1)), ?_, R.i1 _, zfr_wI ⟨by decide, by decide, rfl⟩⟩
    unfold f_X2_beginNextDate
    rw [R.f1, ht, nI_1, zl_s, zl_s, q_wIs, if_neg (by rw [nl_360, q_eq (by omega) (by omega)]; exact h)]
theorem w_pass_l {d : Nat} (hd : d ≤ 720) (hC : C ≤ 9999) : ∀ k j f1 (N : Nat → Nat) (σ : Nat → Int32) (y t : Nat), zIv σ → zNr N B C σ → (∀ i, N i + k ≤ 90000) → σ 0 = nI y → σ 1 = nI t → t < 360 → j + k = d → k < f1 → ∃ x σ', zps (fun i => N i + k) B C x σ σ' ∧ (∃ y' t', t' < 360 ∧ σ' 0 = nI y' ∧ σ' 1 = nI t' ∧ 360 * y' + t' = 360 * y + t + k) ∧
    ∀ (ρ : Nat) (T : zT), zRR T ρ σ → ∃ T', (∀ u, lp_X2_pass_4 ρ (nI d) f1 u (nI j) T = some ((u + x, nI d), T')) ∧ zRR T' ρ σ' ∧ zfr (zPr ρ) T T' := by
  intro k
  induction k with
  | zero =>
    intro j f1 N σ y t I hN hNb hy ht ht3 hj h1
    obtain ⟨f1, rfl⟩ : ∃ f, f1 = f + 1 := ⟨f1 - 1, by omega⟩
    obtain rfl : j = d := by omega
    refine ⟨0, σ, zps_refl I hN (fun i => Nat.le_refl _), ⟨y, t, ht3, hy, ht, by omega⟩, fun ρ T R => ⟨T, fun u => ?_, R, zfr_refl⟩⟩
    rw [lp_X2_pass_4, if_pos (Int32.le_refl _), Int32.add_zero]
  | succ k ih =>
    intro j f1 N σ y t I hN hNb hy ht ht3 hj h1
    obtain ⟨f1, rfl⟩ : ∃ f, f1 = f + 1 := ⟨f1 - 1, by omega⟩
    have n1 : ¬ nI d ≤ nI j := nI_ge (by omega) (by omega)
    obtain ⟨x, σ2, hz, ⟨y2, t2, ht2, hy2, hd2, ey⟩, cl⟩ := w_day hC I hN (fun i => by have := hNb i; omega) hy ht ht3
    obtain ⟨x', σ', hz', ⟨y', t', a1, a2, a3, a4⟩, cl'⟩ := ih (j + 1) f1 (fun i => N i + 1) σ2 y2 t2 hz.1 hz.2.1 (fun i => by have := hNb i; omega) hy2 hd2 ht2 (by omega) (by omega)
    refine ⟨x + x', σ', ?_, ⟨y', t', a1, a2, a3, by omega⟩, fun ρ T R => ?_⟩
    · have h := zps_trans hz hz'
      exact ⟨h.1, h.2.1.mono (fun i => by omega), h.2.2⟩
    · obtain ⟨T1, T2, e1, e2, R2, F2⟩ := cl ρ T R
      obtain ⟨T', e4, R', F'⟩ := cl' ρ T2 R2
      refine ⟨T', fun u => ?_, R', zfr_trans F2 F'⟩
      rw [lp_X2_pass_4, if_neg n1, e1, zb_s, e2, zb_s, zl_s, nI_1]
      simp only
      rw [e4, Int32.add_assoc]
/-- PASSING d days: what becomes of the row, and that the class does so -/
theorem w_pass {N : Nat → Nat} {d y t : Nat} (hd : d ≤ 720) (hC : C ≤ 9999) (I : zIv σ) (hN : zNr N B C σ) (hNb : ∀ i, N i + d ≤ 90000) (hy : σ 0 = nI y) (ht : σ 1 = nI t) (ht3 : t < 360) : ∃ x σ', zps (fun i => N i + d) B C x σ σ' ∧ (∃ y' t', t' < 360 ∧ σ' 0 = nI y' ∧ σ' 1 = nI t' ∧ 360 * y' + t' = 360 * y + t + d) ∧
    ∀ (ρ : Nat) (T : zT), zRR T ρ σ → ∃ T', f_X2_pass ρ (nI d) T = some (x, T') ∧ zRR T' ρ σ' ∧ zfr (zPr ρ) T T' := by
  obtain ⟨x, σ', hz, hy', cl⟩ := w_pass_l hd hC d 0 2000 N σ y t I hN hNb hy ht ht3 (by omega) (by omega)
  refine ⟨x, σ', hz, hy', fun ρ T R => ?_⟩
  obtain ⟨T', e1, R', F'⟩ := cl ρ T R
  simp only [← nl_0] at e1
  refine ⟨T', ?_, R', F'⟩
  unfold f_X2_pass
  rw [e1, zb_s, Int32.zero_add]
end DAYS
