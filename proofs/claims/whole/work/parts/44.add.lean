/-! A GARDEN, A CHILD, A NEW REGISTRY -/
section AD
variable {T M : zT} {ρ : Nat} {σ : Nat → Int32}
theorem w_gard (R : zRR T ρ σ) (I : zIv σ) (hσ : M.2 2 0 = σ) (hg : zg σ < 4) (x : Int32) : ∃ T' σ', f_X2_addGarden ρ x T = some ((), T') ∧ f_X4_plants x M = some ((), wA M 2 0 σ') ∧ zRR T' ρ σ' ∧ zIv σ' ∧ zfr (zPr ρ) T T' ∧ σ' 0 = σ 0 ∧ zn σ' = zn σ ∧ zg σ' = zg σ + 1 := by
  have n10 := I.n10
  obtain ⟨σ', es⟩ : ∃ z, z = upd (upd σ (17 + zg σ) x) 4 (nI (zg σ + 1)) := ⟨_, rfl⟩
  obtain ⟨T1, et1⟩ : ∃ z, z = wA T 3 ρ (upd (T.2 3 ρ) (zg σ) x) := ⟨_, rfl⟩
  have hn : zn σ' = zn σ := by rw [es, zn_upd (by decide), zn_upd (by omega)]
  have hg' : zg σ' = zg σ + 1 := by
    have h4 : σ' 4 = nI (zg σ + 1) := by rw [es, pk_us]
    show (σ' 4).toNatClampNeg = zg σ + 1
    rw [h4, nI_clamp (by omega)]
  have lo : ∀ j, j ≠ 4 → j ≠ 17 + zg σ → σ' j = σ j := fun j a b => by rw [es, pk_un a, pk_un b]
  have e1 : f_X3_setCell 3 ρ (nI (zg σ)) x T = some ((), T1) := by rw [q_setCell (by rw [zlen_3]; exact hg) (by rw [zlen_3]; decide), et1]
  have f1 : ∀ k, T1.1 1 ρ k = T.1 1 ρ k := fun k => by rw [et1]; rfl
  refine ⟨wI T1 1 ρ 8 (nI (zg σ + 1)), σ', ?_, ?_, ⟨⟨?_, ?_, ?_, ?_, ?_, ?_, ?_, ?_, ?_, ?_⟩, fun k hk => ?_, fun g hgg => ?_, fun c hc => ?_⟩, ⟨⟨?_, ?_⟩, ⟨?_, ?_⟩, ?_, ?_, ?_, fun c hc => ?_⟩, ?_, lo 0 (by decide) (by omega), hn, hg'⟩
  · unfold f_X2_addGarden
    rw [R.f8, I.g, if_neg (show ¬ (4 : Int32) ≤ nI (zg σ) from nI_ge (b := 4) hg (by decide)), e1, zb_s, f1, R.f8, I.g, nI_1, zl_s, zl_s]
  · unfold f_X4_plants
    rw [hσ, I.g]
    simp (disch := omega) only [q_la17, q_zt, q_clamp, if_true, zl_s, q_wAs, q_wAA]
    rw [pk_un (by omega), I.g, nI_1, ← es]
  · rw [q_wIk (by omega), f1, R.f0, lo 0 (by decide) (by omega)]
  · rw [q_wIk (by omega), f1, R.f1, lo 1 (by decide) (by omega)]
  · rw [q_wIk (by omega), f1, R.f2, lo 2 (by decide) (by omega)]
  · rw [q_wIk (by omega), f1, R.f3, lo 3 (by decide) (by omega)]
  · rw [q_wIk (by omega), f1, R.f4, lo 6 (by decide) (by omega)]
  · rw [q_wIk (by omega), f1, R.f5, lo 7 (by decide) (by omega)]
  · rw [q_wIk (by omega), f1, R.f6, lo 8 (by decide) (by omega)]
  · rw [q_wIk (by omega), f1, R.f7, lo 10 (by decide) (by omega)]
  · rw [q_wIs, es, pk_us]
  · rw [q_wIk (by omega), f1, R.f9, lo 5 (by decide) (by omega)]
  · rw [q_wI2, et1, q_wAo (by omega), R.ck hk, lo _ (by omega) (by omega)]
  · rw [q_wI2, et1, q_wAs]
    rw [hg'] at hgg
    by_cases e : g = zg σ
    · subst e; rw [pk_us, es, pk_un (by omega), pk_us]
    · rw [pk_un e, R.st (by omega), lo _ (by omega) (by omega)]
  · rw [hn] at hc
    rw [q_wI2, et1, q_wAo (by omega), q_wAo (by omega), q_wAo (by omega), q_wAo (by omega), q_wAo (by omega), q_wAo (by omega), q_wAo (by omega), q_wAo (by omega), lo _ (by omega) (by omega), lo _ (by omega) (by omega), lo _ (by omega) (by omega), lo _ (by omega) (by omega), lo _ (by omega) (by omega), lo _ (by omega) (by omega), lo _ (by omega) (by omega), znm_congr (f := zlet σ' c) (g := zlet σ c) (fun i hi => lo _ (by omega) (by omega))]
    exact R.2.2.2 c hc
  · rw [hn, lo 5 (by decide) (by omega)]; exact I.n
  · rw [hn]; exact I.n10
  · rw [hg', es, pk_us]
  · rw [hg']; exact hg
  · rw [lo 1 (by decide) (by omega)]; exact I.date
  · rw [lo 2 (by decide) (by omega)]; exact I.seed
  · rw [hn, lo 9 (by decide) (by omega), I.held]
    exact (zfo_congr (fun i _ h2 a => by rw [lo _ (by omega) (by omega)])).symm
  · rw [hn] at hc
    obtain ⟨a1, ⟨h, a2, a2'⟩, a3, a4⟩ := I.c hc
    refine ⟨?_, ⟨h, by omega, ?_⟩, ?_, ?_⟩
    · rw [lo _ (by omega) (by omega)]; exact a1
    · rw [lo _ (by omega) (by omega)]; exact a2'
    · rw [lo _ (by omega) (by omega)]; exact a3
    · exact a4.congr (fun i hi => lo _ (by omega) (by omega))
  · exact zfr_trans (by rw [et1]; exact zfr_wA ⟨by decide, by decide, rfl⟩) (zfr_wI ⟨by decide, by decide, rfl⟩)
theorem w_com_l {a : Nat} (ha : a + 13 ≤ 151) : ∀ k j f (τ : Nat → Int32), j + k = 6 → k < f → ∃ τ', lp_X4_comes_86 (nI a) f (nI j) (wA M 2 0 τ) = some (nI 6, wA M 2 0 τ') ∧ (∀ i, j ≤ i → i < 6 → τ' (a + 7 + i) = M.2 6 0 i) ∧ ∀ p, (p < a + 7 + j ∨ a + 13 ≤ p) → τ' p = τ p := by
  intro k
  induction k with
  | zero =>
    intro j f τ hj hf
    obtain ⟨f, rfl⟩ : ∃ q, f = q + 1 := ⟨f - 1, by omega⟩
    obtain rfl : j = 6 := by omega
    rw [lp_X4_comes_86, if_pos (by decide)]
    exact ⟨τ, rfl, fun i a b => by omega, fun p _ => rfl⟩
  | succ k ih =>
    intro j f τ hj hf
    obtain ⟨f, rfl⟩ : ∃ q, f = q + 1 := ⟨f - 1, by omega⟩
    obtain ⟨τ', e1, e2, e3⟩ := ih (j + 1) f (upd τ (a + 7 + j) (M.2 6 0 j)) (by omega) (by omega)
    have r6 : (wA M 2 0 τ).2 6 0 = M.2 6 0 := q_wAo (by decide)
    rw [lp_X4_comes_86, if_neg (by rw [q_le6 (by omega)]; omega)]
    simp (disch := omega) only [q_ad7, nI_add, q_zt, q_clamp, if_true, zl_s, q_wAs, q_wAA, r6, nI_1]
    refine ⟨τ', e1, fun i h1 h2 => ?_, fun p hp => ?_⟩
    · by_cases e : i = j
      · subst e; rw [e3 _ (by omega), pk_us]
      · exact e2 i (by omega) h2
    · rw [e3 p (by omega), pk_un (by omega)]
theorem w_kid (R : zRR T ρ σ) (I : zIv σ) (hσ : M.2 2 0 = σ) (hn : zn σ < 10) (hN : zNm (M.2 6 0)) {f h : Nat} (hf : f < 6) (hh : h < zg σ) (br ag : Int32) : ∃ T' σ', f_X2_addChild ρ (znm (M.2 6 0)) (nI f) br ag (nI h) T = some ((), T') ∧ f_X4_comes (nI f) br ag (nI h) M = some ((), wA M 2 0 σ') ∧ zRR T' ρ σ' ∧ zIv σ' ∧ zfr (zPr ρ) T T' ∧ σ' 0 = σ 0 ∧ zn σ' = zn σ + 1 ∧ zg σ' = zg σ := by
  have g4 := I.g4
  obtain ⟨N, eN⟩ : ∃ N, N = zn σ := ⟨_, rfl⟩
  rw [← eN] at hn
  -- the model
  obtain ⟨τ, m1, m2, m3⟩ := w_com_l (M := M) (a := 21 + 13 * N) (by omega) 6 0 2000 (upd (upd (upd (upd (upd (upd (upd σ (21 + 13 * N + 0) (nI f)) (21 + 13 * N + 1) br) (21 + 13 * N + 2) ag) (21 + 13 * N + 3) (nI h)) (21 + 13 * N + 4) (-1)) (21 + 13 * N + 5) 0) (21 + 13 * N + 6) 0) (by omega) (by omega)
  rw [← nl_0] at m1
  obtain ⟨σ', es⟩ : ∃ z, z = upd τ 5 (nI (N + 1)) := ⟨_, rfl⟩
  have lo : ∀ j, j ≠ 5 → j < 21 + 13 * N → σ' j = σ j := fun j a b => by
    rw [es, pk_un a, m3 j (by omega), pk_un (by omega), pk_un (by omega), pk_un (by omega), pk_un (by omega), pk_un (by omega), pk_un (by omega), pk_un (by omega)]
  have s0 : σ' (21 + 13 * N + 0) = nI f := by rw [es, pk_un (by omega), m3 _ (by omega), pk_un (by omega), pk_un (by omega), pk_un (by omega), pk_un (by omega), pk_un (by omega), pk_un (by omega), pk_us]
  have s1 : σ' (21 + 13 * N + 1) = br := by rw [es, pk_un (by omega), m3 _ (by omega), pk_un (by omega), pk_un (by omega), pk_un (by omega), pk_un (by omega), pk_un (by omega), pk_us]
  have s2 : σ' (21 + 13 * N + 2) = ag := by rw [es, pk_un (by omega), m3 _ (by omega), pk_un (by omega), pk_un (by omega), pk_un (by omega), pk_un (by omega), pk_us]
  have s3 : σ' (21 + 13 * N + 3) = nI h := by rw [es, pk_un (by omega), m3 _ (by omega), pk_un (by omega), pk_un (by omega), pk_un (by omega), pk_us]
  have s4 : σ' (21 + 13 * N + 4) = -1 := by rw [es, pk_un (by omega), m3 _ (by omega), pk_un (by omega), pk_un (by omega), pk_us]
  have s5 : σ' (21 + 13 * N + 5) = 0 := by rw [es, pk_un (by omega), m3 _ (by omega), pk_un (by omega), pk_us]
  have s6 : σ' (21 + 13 * N + 6) = 0 := by rw [es, pk_un (by omega), m3 _ (by omega), pk_us]
  have sl : ∀ i, i < 6 → zlet σ' N i = M.2 6 0 i := fun i hi => by
    unfold zlet; rw [es, pk_un (by omega), m2 i (by omega) hi]
  have hn' : zn σ' = N + 1 := by unfold zn; rw [es, pk_us, nI_clamp (by omega)]
  have hg' : zg σ' = zg σ := by unfold zg; rw [lo 4 (by decide) (by omega)]
  have M5 : M.2 2 0 5 = nI N := by rw [hσ, eN]; exact I.n
  have em : f_X4_comes (nI f) br ag (nI h) M = some ((), wA M 2 0 σ') := by
    unfold f_X4_comes
    rw [M5, q_c, zb_s]
    simp (disch := omega) only [q_ad0, q_ad1, q_ad2, q_ad3, q_ad4, q_ad5, q_ad6, q_zt, q_clamp, if_true, zl_s, q_wAs, q_wAA, hσ]
    simp only [Nat.add_zero] at m1 ⊢
    rw [m1, zb_s, q_wAs, m3 5 (by omega)]
    rw [pk_un (by omega), pk_un (by omega), pk_un (by omega), pk_un (by omega), pk_un (by omega), pk_un (by omega), pk_un (by omega), I.n, ← eN, nI_1, ← es, q_wAA]
  -- the class
  have F : ∀ (U : zT) κ, 2 ≤ κ → κ ≤ 11 → ∀ g, zfr (zPr ρ) U (wA U κ ρ g) := fun U κ a b g => zfr_wA ⟨by omega, b, rfl⟩
  obtain ⟨T1, t1⟩ : ∃ z, z = wA T 4 ρ (upd (T.2 4 ρ) N (znm (M.2 6 0))) := ⟨_, rfl⟩
  obtain ⟨T2, t2⟩ : ∃ z, z = wA T1 5 ρ (upd (T.2 5 ρ) N (nI f)) := ⟨_, rfl⟩
  obtain ⟨T3, t3⟩ : ∃ z, z = wA T2 6 ρ (upd (T.2 6 ρ) N br) := ⟨_, rfl⟩
  obtain ⟨T4, t4⟩ : ∃ z, z = wA T3 7 ρ (upd (T.2 7 ρ) N ag) := ⟨_, rfl⟩
  obtain ⟨T5, t5⟩ : ∃ z, z = wA T4 8 ρ (upd (T.2 8 ρ) N (nI h)) := ⟨_, rfl⟩
  obtain ⟨T6, t6⟩ : ∃ z, z = wA T5 9 ρ (upd (T.2 9 ρ) N (-1)) := ⟨_, rfl⟩
  obtain ⟨T7, t7⟩ : ∃ z, z = wA T6 10 ρ (upd (T.2 10 ρ) N 0) := ⟨_, rfl⟩
  obtain ⟨T8, t8⟩ : ∃ z, z = wA T7 11 ρ (upd (T.2 11 ρ) N 0) := ⟨_, rfl⟩
  have r9 : T.1 1 ρ 9 = nI N := by rw [eN]; exact R.f9.trans I.n
  have i1 : T1.1 = T.1 := by rw [t1]; rfl
  have i2 : T2.1 = T.1 := by rw [t2, ← i1]; rfl
  have i3 : T3.1 = T.1 := by rw [t3, ← i2]; rfl
  have i4 : T4.1 = T.1 := by rw [t4, ← i3]; rfl
  have i5 : T5.1 = T.1 := by rw [t5, ← i4]; rfl
  have i6 : T6.1 = T.1 := by rw [t6, ← i5]; rfl
  have i7 : T7.1 = T.1 := by rw [t7, ← i6]; rfl
  have i8 : T8.1 = T.1 := by rw [t8, ← i7]; rfl
  have a1 : ∀ κ, 4 < κ → T1.2 κ ρ = T.2 κ ρ := fun κ hκ => by rw [t1, q_wAo (by omega)]
  have a2 : ∀ κ, 5 < κ → T2.2 κ ρ = T.2 κ ρ := fun κ hκ => by rw [t2, q_wAo (by omega), a1 κ (by omega)]
  have a3 : ∀ κ, 6 < κ → T3.2 κ ρ = T.2 κ ρ := fun κ hκ => by rw [t3, q_wAo (by omega), a2 κ (by omega)]
  have a4 : ∀ κ, 7 < κ → T4.2 κ ρ = T.2 κ ρ := fun κ hκ => by rw [t4, q_wAo (by omega), a3 κ (by omega)]
  have a5 : ∀ κ, 8 < κ → T5.2 κ ρ = T.2 κ ρ := fun κ hκ => by rw [t5, q_wAo (by omega), a4 κ (by omega)]
  have a6 : ∀ κ, 9 < κ → T6.2 κ ρ = T.2 κ ρ := fun κ hκ => by rw [t6, q_wAo (by omega), a5 κ (by omega)]
  have a7 : ∀ κ, 10 < κ → T7.2 κ ρ = T.2 κ ρ := fun κ hκ => by rw [t7, q_wAo (by omega), a6 κ (by omega)]
  have ex : f_X2_addChild ρ (znm (M.2 6 0)) (nI f) br ag (nI h) T = some ((), wI T8 1 ρ 9 (nI (N + 1))) := by
    unfold f_X2_addChild
    rw [r9, if_neg (show ¬ (10 : Int32) ≤ nI N from nI_ge (b := 10) hn (by decide)), q_setc (by decide) hn, ← t1, zb_s, i1, r9, q_setc (by decide) hn, a1 5 (by decide), ← t2, zb_s, i2, r9, q_setc (by decide) hn, a2 6 (by decide), ← t3, zb_s, i3, r9, q_setc (by decide) hn, a3 7 (by decide), ← t4, zb_s, i4, r9, q_setc (by decide) hn, a4 8 (by decide), ← t5, zb_s, i5, r9, q_setc (by decide) hn, a5 9 (by decide), ← t6, zb_s, i6, r9, q_setc (by decide) hn, a6 10 (by decide), ← t7, zb_s, i7, r9, q_setc (by decide) hn, a7 11 (by decide), ← t8, zb_s, i8, r9, nI_1, zl_s, zl_s]
  have FF : zfr (zPr ρ) T (wI T8 1 ρ 9 (nI (N + 1))) := by
    refine zfr_trans ?_ (zfr_wI ⟨by decide, by decide, rfl⟩)
    rw [t8]; refine zfr_trans ?_ (F _ _ (by decide) (by decide) _)
    rw [t7]; refine zfr_trans ?_ (F _ _ (by decide) (by decide) _)
    rw [t6]; refine zfr_trans ?_ (F _ _ (by decide) (by decide) _)
    rw [t5]; refine zfr_trans ?_ (F _ _ (by decide) (by decide) _)
    rw [t4]; refine zfr_trans ?_ (F _ _ (by decide) (by decide) _)
    rw [t3]; refine zfr_trans ?_ (F _ _ (by decide) (by decide) _)
    rw [t2]; refine zfr_trans ?_ (F _ _ (by decide) (by decide) _)
    rw [t1]; exact F _ _ (by decide) (by decide) _
  have c2 : T8.2 2 ρ = T.2 2 ρ := by rw [t8, q_wAo (by omega), t7, q_wAo (by omega), t6, q_wAo (by omega), t5, q_wAo (by omega), t4, q_wAo (by omega), t3, q_wAo (by omega), t2, q_wAo (by omega), t1, q_wAo (by omega)]
  have c3 : T8.2 3 ρ = T.2 3 ρ := by rw [t8, q_wAo (by omega), t7, q_wAo (by omega), t6, q_wAo (by omega), t5, q_wAo (by omega), t4, q_wAo (by omega), t3, q_wAo (by omega), t2, q_wAo (by omega), t1, q_wAo (by omega)]
  have c4 : T8.2 4 ρ = upd (T.2 4 ρ) N (znm (M.2 6 0)) := by rw [t8, q_wAo (by omega), t7, q_wAo (by omega), t6, q_wAo (by omega), t5, q_wAo (by omega), t4, q_wAo (by omega), t3, q_wAo (by omega), t2, q_wAo (by omega), t1, q_wAs]
  have c5 : T8.2 5 ρ = upd (T.2 5 ρ) N (nI f) := by rw [t8, q_wAo (by omega), t7, q_wAo (by omega), t6, q_wAo (by omega), t5, q_wAo (by omega), t4, q_wAo (by omega), t3, q_wAo (by omega), t2, q_wAs]
  have c6 : T8.2 6 ρ = upd (T.2 6 ρ) N br := by rw [t8, q_wAo (by omega), t7, q_wAo (by omega), t6, q_wAo (by omega), t5, q_wAo (by omega), t4, q_wAo (by omega), t3, q_wAs]
  have c7 : T8.2 7 ρ = upd (T.2 7 ρ) N ag := by rw [t8, q_wAo (by omega), t7, q_wAo (by omega), t6, q_wAo (by omega), t5, q_wAo (by omega), t4, q_wAs]
  have c8 : T8.2 8 ρ = upd (T.2 8 ρ) N (nI h) := by rw [t8, q_wAo (by omega), t7, q_wAo (by omega), t6, q_wAo (by omega), t5, q_wAs]
  have c9 : T8.2 9 ρ = upd (T.2 9 ρ) N (-1) := by rw [t8, q_wAo (by omega), t7, q_wAo (by omega), t6, q_wAs]
  have c10 : T8.2 10 ρ = upd (T.2 10 ρ) N 0 := by rw [t8, q_wAo (by omega), t7, q_wAs]
  have c11 : T8.2 11 ρ = upd (T.2 11 ρ) N 0 := by rw [t8, q_wAs]
  refine ⟨_, σ', ex, em, ⟨⟨?_, ?_, ?_, ?_, ?_, ?_, ?_, ?_, ?_, ?_⟩, fun k hk => ?_, fun g hgg => ?_, fun c hc => ?_⟩, ⟨⟨?_, ?_⟩, ⟨?_, ?_⟩, ?_, ?_, ?_, fun c hc => ?_⟩, FF, lo 0 (by decide) (by omega), by rw [hn', eN], hg'⟩
  · rw [q_wIk (by omega), i8, R.f0, lo 0 (by decide) (by omega)]
  · rw [q_wIk (by omega), i8, R.f1, lo 1 (by decide) (by omega)]
  · rw [q_wIk (by omega), i8, R.f2, lo 2 (by decide) (by omega)]
  · rw [q_wIk (by omega), i8, R.f3, lo 3 (by decide) (by omega)]
  · rw [q_wIk (by omega), i8, R.f4, lo 6 (by decide) (by omega)]
  · rw [q_wIk (by omega), i8, R.f5, lo 7 (by decide) (by omega)]
  · rw [q_wIk (by omega), i8, R.f6, lo 8 (by decide) (by omega)]
  · rw [q_wIk (by omega), i8, R.f7, lo 10 (by decide) (by omega)]
  · rw [q_wIk (by omega), i8, R.f8, lo 4 (by decide) (by omega)]
  · rw [q_wIs, es, pk_us]
  · rw [q_wI2, c2, R.ck hk, lo _ (by omega) (by omega)]
  · rw [hg'] at hgg; rw [q_wI2, c3, R.st hgg, lo _ (by omega) (by omega)]
  · rw [hn'] at hc
    rw [q_wI2, c4, c5, c6, c7, c8, c9, c10, c11]
    by_cases e : c = N
    · subst e
      rw [pk_us, pk_us, pk_us, pk_us, pk_us, pk_us, pk_us, pk_us, s0, s1, s2, s3, s4, s5, s6]
      exact ⟨(znm_congr sl).symm, rfl, rfl, rfl, rfl, rfl, rfl, rfl⟩
    · rw [pk_un e, pk_un e, pk_un e, pk_un e, pk_un e, pk_un e, pk_un e, pk_un e, lo _ (by omega) (by omega), lo _ (by omega) (by omega), lo _ (by omega) (by omega), lo _ (by omega) (by omega), lo _ (by omega) (by omega), lo _ (by omega) (by omega), lo _ (by omega) (by omega), znm_congr (f := zlet σ' c) (g := zlet σ c) (fun i hi => lo _ (by omega) (by omega))]
      exact R.2.2.2 c (by omega)
  · rw [hn', es, pk_us]
  · rw [hn']; omega
  · rw [hg', lo 4 (by decide) (by omega)]; exact I.g
  · rw [hg']; exact g4
  · rw [lo 1 (by decide) (by omega)]; exact I.date
  · rw [lo 2 (by decide) (by omega)]; exact I.seed
  · rw [hn', zsm_succ, s5, Int32.add_zero, lo 9 (by decide) (by omega), I.held, ← eN]
    exact zfo_congr (fun i _ h2 a => by rw [lo _ (by omega) (by omega)])
  · rw [hn'] at hc
    by_cases e : c = N
    · subst e
      exact ⟨⟨f, hf, s0⟩, ⟨h, by rw [hg']; exact hh, s3⟩, Or.inl s4, hN.congr sl⟩
    · obtain ⟨b1, b2, b3, b4⟩ := I.c (c := c) (by omega)
      refine ⟨?_, ?_, ?_, ?_⟩
      · rw [lo _ (by omega) (by omega)]; exact b1
      · rw [lo _ (by omega) (by omega), hg']; exact b2
      · rw [lo _ (by omega) (by omega)]; exact b3
      · exact b4.congr (fun i hi => lo _ (by omega) (by omega))
end AD
