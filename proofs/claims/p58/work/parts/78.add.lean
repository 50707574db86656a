/-! A GARDEN, A CHILD, A NEW REGISTRY: the class's half -/
section AD
variable {T : zT} {ρ : Nat} {σ : Nat → Int32}
theorem w_gard (R : zRR T ρ σ) (I : zIv σ) (hg : zg σ < 4) (x : Int32) : ∃ T' σ', f_X2_addGarden ρ x T = some ((), T') ∧ zRR T' ρ σ' ∧ zIv σ' ∧ zfr (zPr ρ) T T' ∧ σ' 0 = σ 0 ∧ zn σ' = zn σ ∧ zg σ' = zg σ + 1 ∧ (∀ j, j ≠ 4 → j ≠ 17 + zg σ → σ' j = σ j) := by
  have n10 := I.n10
  obtain ⟨σ', es⟩ : ∃ z, z = upd (upd σ (17 + zg σ) x) 4 (nI (zg σ + 1)) := ⟨_, rfl⟩
  obtain ⟨T1, et1⟩ : ∃ z, z = wA T 3 ρ (upd (T.2 3 ρ) (zg σ) x) := ⟨_, rfl⟩
  have hn : zn σ' = zn σ := by rw [es, zn_upd (by decide), zn_upd (by omega)]
  have hg' : zg σ' = zg σ + 1 := by
    have h4 : σ' 4 = nI (zg σ + 1) := by rw [es, pk_us]
    show (σ' 4).toNatClampNeg = zg σ + 1
    rw [h4, nI_clamp (by omega)]
  have lo : ∀ j, j ≠ 4 → j ≠ 17 + zg σ → σ' j = σ j := fun j a b => by rw [es, pk_un a, pk_un b]
  have e1 : f_X3_setCell 3 ρ (nI (zg σ)) x T = some ((), T1) := by rw [q_setCell (by rw [zlen_3]; exact hg) (by rw [zlen_3]; decide), et1]
  have f1 : ∀ k, T1.1 1 ρ k = T.1 1 ρ k := fun k => by rw [et1]; rfl
  refine ⟨wI T1 1 ρ 8 (nI (zg σ + 1)), σ', ?_, ⟨⟨?_, ?_, ?_, ?_, ?_, ?_, ?_, ?_, ?_, ?_⟩, fun k hk => ?_, fun g hgg => ?_, fun c hc => ?_⟩, ⟨⟨?_, ?_⟩, ⟨?_, ?_⟩, ?_, ?_, ?_, fun c hc => ?_⟩, ?_, lo 0 (by decide) (by omega), hn, hg', lo⟩
  · unfold f_X2_addGarden
    rw [R.f8, I.g, if_neg (show ¬ (4 : Int32) ≤ nI (zg σ) from nI_ge (b := 4) hg (by decide)), e1, zb_s, f1, R.f8, I.g, nI_1, zl_s, zl_s]
  · rw [q_wIk (by omega), f1, R.f0, lo 0 (by decide) (by omega)]
  · rw [q_wIk (by omega), f1, R.f1, lo 1 (by decide) (by omega)]
  · rw [q_wIk (by omega), f1, R.f2, lo 2 (by decide) (by omega)]
  · rw [q_wIk (by omega), f1, R.f3, lo 3 (by decide) (by omega)]
  · rw [q_wIk (by omega), f1, R.f4, lo 6 (by decide) (by omega)]
  · rw [q_wIk (by omega), f1, R.f5, lo 7 (by decide) (by omega)]
  · rw [q_wIk (by omega), f1, R.f6, lo 8 (by decide) (by omega)]
  · rw [q_wIk (by omega), f1, R.f7, lo 10 (by decide) (by omega)]
  · rw [q_wIs, es, pk_us]
  · rw [q_wIk (by omega), f1, R.f9, lo 5 (by decide) (by omega)]
  · rw [q_wI2, et1, q_wAo (by omega), R.ck hk, lo _ (by omega) (by omega)]
  · rw [q_wI2, et1, q_wAs]
    rw [hg'] at hgg
    by_cases e : g = zg σ
    · subst e; rw [pk_us, es, pk_un (by omega), pk_us]
    · rw [pk_un e, R.st (by omega), lo _ (by omega) (by omega)]
  · rw [hn] at hc
    rw [q_wI2, et1, q_wAo (by omega), q_wAo (by omega), q_wAo (by omega), q_wAo (by omega), q_wAo (by omega), q_wAo (by omega), q_wAo (by omega), q_wAo (by omega), lo _ (by omega) (by omega), lo _ (by omega) (by omega), lo _ (by omega) (by omega), lo _ (by omega) (by omega), lo _ (by omega) (by omega), lo _ (by omega) (by omega), lo _ (by omega) (by omega), znm_congr (f := zlet σ' c) (g := zlet σ c) (fun i hi => lo _ (by omega) (by omega))]
    exact R.2.2.2 c hc
  · rw [hn, lo 5 (by decide) (by omega)]; exact I.n
  · rw [hn]; exact I.n10
  · rw [hg', es, pk_us]
  · rw [hg']; exact hg
  · rw [lo 1 (by decide) (by omega)]; exact I.date
  · rw [lo 2 (by decide) (by omega)]; exact I.seed
  · rw [hn, lo 9 (by decide) (by omega), I.held]
    exact (zfo_congr (fun i _ h2 a => by rw [lo _ (by omega) (by omega)])).symm
  · rw [hn] at hc
    obtain ⟨a1, ⟨h, a2, a2'⟩, a3, a4⟩ := I.c hc
    refine ⟨?_, ⟨h, by omega, ?_⟩, ?_, ?_⟩
    · rw [lo _ (by omega) (by omega)]; exact a1
    · rw [lo _ (by omega) (by omega)]; exact a2'
    · rw [lo _ (by omega) (by omega)]; exact a3
    · exact a4.congr (fun i hi => lo _ (by omega) (by omega))
  · exact zfr_trans (by rw [et1]; exact zfr_wA ⟨by decide, by decide, rfl⟩) (zfr_wI ⟨by decide, by decide, rfl⟩)
theorem w_kid (R : zRR T ρ σ) (I : zIv σ) (hn : zn σ < 10) {g : Nat → Int32} (hN : zNm g) {f h : Nat} (hf : f < 6) (hh : h < zg σ) (br ag : Int32) : ∃ T' σ', f_X2_addChild ρ (znm (g)) (nI f) br ag (nI h) T = some ((), T') ∧ zRR T' ρ σ' ∧ zIv σ' ∧ zfr (zPr ρ) T T' ∧ σ' 0 = σ 0 ∧ zn σ' = zn σ + 1 ∧ zg σ' = zg σ ∧ (∀ j, j ≠ 5 → j < 21 + 13 * zn σ → σ' j = σ j) ∧ σ' (21 + 13 * zn σ + 2) = ag ∧ σ' (21 + 13 * zn σ + 4) = -1 ∧ σ' (21 + 13 * zn σ + 5) = 0 ∧ σ' (21 + 13 * zn σ + 6) = 0 ∧ (∀ i, i < 6 → zlet σ' (zn σ) i = g i) := by
  have g4 := I.g4
  obtain ⟨N, eN⟩ : ∃ N, N = zn σ := ⟨_, rfl⟩
  rw [← eN] at hn
  obtain ⟨τ, m2, m3⟩ : ∃ τ : Nat → Int32, (∀ i, 0 ≤ i → i < 6 → τ (21 + 13 * N + 7 + i) = g i) ∧ ∀ p, (p < 21 + 13 * N + 7 ∨ 21 + 13 * N + 13 ≤ p) → τ p = (upd (upd (upd (upd (upd (upd (upd σ (21 + 13 * N + 0) (nI f)) (21 + 13 * N + 1) br) (21 + 13 * N + 2) ag) (21 + 13 * N + 3) (nI h)) (21 + 13 * N + 4) (-1)) (21 + 13 * N + 5) 0) (21 + 13 * N + 6) 0) p := by
    refine ⟨fun p => if 21 + 13 * N + 7 ≤ p ∧ p < 21 + 13 * N + 13 then g (p - (21 + 13 * N + 7)) else (upd (upd (upd (upd (upd (upd (upd σ (21 + 13 * N + 0) (nI f)) (21 + 13 * N + 1) br) (21 + 13 * N + 2) ag) (21 + 13 * N + 3) (nI h)) (21 + 13 * N + 4) (-1)) (21 + 13 * N + 5) 0) (21 + 13 * N + 6) 0) p, fun i _ hi => ?_, fun p hp => if_neg (by omega)⟩
    show (if 21 + 13 * N + 7 ≤ 21 + 13 * N + 7 + i ∧ 21 + 13 * N + 7 + i < 21 + 13 * N + 13 then g (21 + 13 * N + 7 + i - (21 + 13 * N + 7)) else _) = g i
    rw [if_pos (by omega), Nat.add_sub_cancel_left]
  obtain ⟨σ', es⟩ : ∃ z, z = upd τ 5 (nI (N + 1)) := ⟨_, rfl⟩
  have lo : ∀ j, j ≠ 5 → j < 21 + 13 * N → σ' j = σ j := fun j a b => by
    rw [es, pk_un a, m3 j (by omega), pk_un (by omega), pk_un (by omega), pk_un (by omega), pk_un (by omega), pk_un (by omega), pk_un (by omega), pk_un (by omega)]
  have s0 : σ' (21 + 13 * N + 0) = nI f := by rw [es, pk_un (by omega), m3 _ (by omega), pk_un (by omega), pk_un (by omega), pk_un (by omega), pk_un (by omega), pk_un (by omega), pk_un (by omega), pk_us]
  have s1 : σ' (21 + 13 * N + 1) = br := by rw [es, pk_un (by omega), m3 _ (by omega), pk_un (by omega), pk_un (by omega), pk_un (by omega), pk_un (by omega), pk_un (by omega), pk_us]
  have s2 : σ' (21 + 13 * N + 2) = ag := by rw [es, pk_un (by omega), m3 _ (by omega), pk_un (by omega), pk_un (by omega), pk_un (by omega), pk_un (by omega), pk_us]
  have s3 : σ' (21 + 13 * N + 3) = nI h := by rw [es, pk_un (by omega), m3 _ (by omega), pk_un (by omega), pk_un (by omega), pk_un (by omega), pk_us]
  have s4 : σ' (21 + 13 * N + 4) = -1 := by rw [es, pk_un (by omega), m3 _ (by omega), pk_un (by omega), pk_un (by omega), pk_us]
  have s5 : σ' (21 + 13 * N + 5) = 0 := by rw [es, pk_un (by omega), m3 _ (by omega), pk_un (by omega), pk_us]
  have s6 : σ' (21 + 13 * N + 6) = 0 := by rw [es, pk_un (by omega), m3 _ (by omega), pk_us]
  have sl : ∀ i, i < 6 → zlet σ' N i = g i := fun i hi => by
    unfold zlet; rw [es, pk_un (by omega), m2 i (Nat.zero_le _) hi]
  have hn' : zn σ' = N + 1 := by unfold zn; rw [es, pk_us, nI_clamp (by omega)]
  have hg' : zg σ' = zg σ := by unfold zg; rw [lo 4 (by decide) (by omega)]
  have F : ∀ (U : zT) κ, 2 ≤ κ → κ ≤ 11 → ∀ g, zfr (zPr ρ) U (wA U κ ρ g) := fun U κ a b g => zfr_wA ⟨by omega, b, rfl⟩
  obtain ⟨T1, t1⟩ : ∃ z, z = wA T 4 ρ (upd (T.2 4 ρ) N (znm (g))) := ⟨_, rfl⟩
  obtain ⟨T2, t2⟩ : ∃ z, z = wA T1 5 ρ (upd (T.2 5 ρ) N (nI f)) := ⟨_, rfl⟩
  obtain ⟨T3, t3⟩ : ∃ z, z = wA T2 6 ρ (upd (T.2 6 ρ) N br) := ⟨_, rfl⟩
  obtain ⟨T4, t4⟩ : ∃ z, z = wA T3 7 ρ (upd (T.2 7 ρ) N ag) := ⟨_, rfl⟩
  obtain ⟨T5, t5⟩ : ∃ z, z = wA T4 8 ρ (upd (T.2 8 ρ) N (nI h)) := ⟨_, rfl⟩
  obtain ⟨T6, t6⟩ : ∃ z, z = wA T5 9 ρ (upd (T.2 9 ρ) N (-1)) := ⟨_, rfl⟩
  obtain ⟨T7, t7⟩ : ∃ z, z = wA T6 10 ρ (upd (T.2 10 ρ) N 0) := ⟨_, rfl⟩
  obtain ⟨T8, t8⟩ : ∃ z, z = wA T7 11 ρ (upd (T.2 11 ρ) N 0) := ⟨_, rfl⟩
  have r9 : T.1 1 ρ 9 = nI N := by rw [eN]; exact R.f9.trans I.n
  have i1 : T1.1 = T.1 := by rw [t1]; rfl
  have i2 : T2.1 = T.1 := by rw [t2, ← i1]; rfl
  have i3 : T3.1 = T.1 := by rw [t3, ← i2]; rfl
  have i4 : T4.1 = T.1 := by rw [t4, ← i3]; rfl
  have i5 : T5.1 = T.1 := by rw [t5, ← i4]; rfl
  have i6 : T6.1 = T.1 := by rw [t6, ← i5]; rfl
  have i7 : T7.1 = T.1 := by rw [t7, ← i6]; rfl
  have i8 : T8.1 = T.1 := by rw [t8, ← i7]; rfl
  have a1 : ∀ κ, 4 < κ → T1.2 κ ρ = T.2 κ ρ := fun κ hκ => by rw [t1, q_wAo (by omega)]
  have a2 : ∀ κ, 5 < κ → T2.2 κ ρ = T.2 κ ρ := fun κ hκ => by rw [t2, q_wAo (by omega), a1 κ (by omega)]
  have a3 : ∀ κ, 6 < κ → T3.2 κ ρ = T.2 κ ρ := fun κ hκ => by rw [t3, q_wAo (by omega), a2 κ (by omega)]
  have a4 : ∀ κ, 7 < κ → T4.2 κ ρ = T.2 κ ρ := fun κ hκ => by rw [t4, q_wAo (by omega), a3 κ (by omega)]
  have a5 : ∀ κ, 8 < κ → T5.2 κ ρ = T.2 κ ρ := fun κ hκ => by rw [t5, q_wAo (by omega), a4 κ (by omega)]
  have a6 : ∀ κ, 9 < κ → T6.2 κ ρ = T.2 κ ρ := fun κ hκ => by rw [t6, q_wAo (by omega), a5 κ (by omega)]
  have a7 : ∀ κ, 10 < κ → T7.2 κ ρ = T.2 κ ρ := fun κ hκ => by rw [t7, q_wAo (by omega), a6 κ (by omega)]
  have ex : f_X2_addChild ρ (znm (g)) (nI f) br ag (nI h) T = some ((), wI T8 1 ρ 9 (nI (N + 1))) := by
    unfold f_X2_addChild
    rw [r9, if_neg (show ¬ (10 : Int32) ≤ nI N from nI_ge (b := 10) hn (by decide)), q_setc (by decide) hn, ← t1, zb_s, i1, r9, q_setc (by decide) hn, a1 5 (by decide), ← t2, zb_s, i2, r9, q_setc (by decide) hn, a2 6 (by decide), ← t3, zb_s, i3, r9, q_setc (by decide) hn, a3 7 (by decide), ← t4, zb_s, i4, r9, q_setc (by decide) hn, a4 8 (by decide), ← t5, zb_s, i5, r9, q_setc (by decide) hn, a5 9 (by decide), ← t6, zb_s, i6, r9, q_setc (by decide) hn, a6 10 (by decide), ← t7, zb_s, i7, r9, q_setc (by decide) hn, a7 11 (by decide), ← t8, zb_s, i8, r9, nI_1, zl_s, zl_s]
  have FF : zfr (zPr ρ) T (wI T8 1 ρ 9 (nI (N + 1))) := by
    refine zfr_trans ?_ (zfr_wI ⟨by decide, by decide, rfl⟩)
    rw [t8]; refine zfr_trans ?_ (F _ _ (by decide) (by decide) _)
    rw [t7]; refine zfr_trans ?_ (F _ _ (by decide) (by decide) _)
    rw [t6]; refine zfr_trans ?_ (F _ _ (by decide) (by decide) _)
    rw [t5]; refine zfr_trans ?_ (F _ _ (by decide) (by decide) _)
    rw [t4]; refine zfr_trans ?_ (F _ _ (by decide) (by decide) _)
    rw [t3]; refine zfr_trans ?_ (F _ _ (by decide) (by decide) _)
    rw [t2]; refine zfr_trans ?_ (F _ _ (by decide) (by decide) _)
    rw [t1]; exact F _ _ (by decide) (by decide) _
  have c2 : T8.2 2 ρ = T.2 2 ρ := by rw [t8, q_wAo (by omega), t7, q_wAo (by omega), t6, q_wAo (by omega), t5, q_wAo (by omega), t4, q_wAo (by omega), t3, q_wAo (by omega), t2, q_wAo (by omega), t1, q_wAo (by omega)]
  have c3 : T8.2 3 ρ = T.2 3 ρ := by rw [t8, q_wAo (by omega), t7, q_wAo (by omega), t6, q_wAo (by omega), t5, q_wAo (by omega), t4, q_wAo (by omega), t3, q_wAo (by omega), t2, q_wAo (by omega), t1, q_wAo (by omega)]
  have c4 : T8.2 4 ρ = upd (T.2 4 ρ) N (znm (g)) := by rw [t8, q_wAo (by omega), t7, q_wAo (by omega), t6, q_wAo (by omega), t5, q_wAo (by omega), t4, q_wAo (by omega), t3, q_wAo (by omega), t2, q_wAo (by omega), t1, q_wAs]
  have c5 : T8.2 5 ρ = upd (T.2 5 ρ) N (nI f) := by rw [t8, q_wAo (by omega), t7, q_wAo (by omega), t6, q_wAo (by omega), t5, q_wAo (by omega), t4, q_wAo (by omega), t3, q_wAo (by omega), t2, q_wAs]
  have c6 : T8.2 6 ρ = upd (T.2 6 ρ) N br := by rw [t8, q_wAo (by omega), t7, q_wAo (by omega), t6, q_wAo (by omega), t5, q_wAo (by omega), t4, q_wAo (by omega), t3, q_wAs]
  have c7 : T8.2 7 ρ = upd (T.2 7 ρ) N ag := by rw [t8, q_wAo (by omega), t7, q_wAo (by omega), t6, q_wAo (by omega), t5, q_wAo (by omega), t4, q_wAs]
  have c8 : T8.2 8 ρ = upd (T.2 8 ρ) N (nI h) := by rw [t8, q_wAo (by omega), t7, q_wAo (by omega), t6, q_wAo (by omega), t5, q_wAs]
  have c9 : T8.2 9 ρ = upd (T.2 9 ρ) N (-1) := by rw [t8, q_wAo (by omega), t7, q_wAo (by omega), t6, q_wAs]
  have c10 : T8.2 10 ρ = upd (T.2 10 ρ) N 0 := by rw [t8, q_wAo (by omega), t7, q_wAs]
  have c11 : T8.2 11 ρ = upd (T.2 11 ρ) N 0 := by rw [t8, q_wAs]
  refine ⟨_, σ', ex, ⟨⟨?_, ?_, ?_, ?_, ?_, ?_, ?_, ?_, ?_, ?_⟩, fun k hk => ?_, fun g hgg => ?_, fun c hc => ?_⟩, ⟨⟨?_, ?_⟩, ⟨?_, ?_⟩, ?_, ?_, ?_, fun c hc => ?_⟩, FF, lo 0 (by decide) (by omega), by rw [hn', eN], hg', by rw [← eN]; exact lo, by rw [← eN]; exact s2, by rw [← eN]; exact s4, by rw [← eN]; exact s5, by rw [← eN]; exact s6, by rw [← eN]; exact sl⟩
  · rw [q_wIk (by omega), i8, R.f0, lo 0 (by decide) (by omega)]
  · rw [q_wIk (by omega), i8, R.f1, lo 1 (by decide) (by omega)]
  · rw [q_wIk (by omega), i8, R.f2, lo 2 (by decide) (by omega)]
  · rw [q_wIk (by omega), i8, R.f3, lo 3 (by decide) (by omega)]
  · rw [q_wIk (by omega), i8, R.f4, lo 6 (by decide) (by omega)]
  · rw [q_wIk (by omega), i8, R.f5, lo 7 (by decide) (by omega)]
  · rw [q_wIk (by omega), i8, R.f6, lo 8 (by decide) (by omega)]
  · rw [q_wIk (by omega), i8, R.f7, lo 10 (by decide) (by omega)]
  · rw [q_wIk (by omega), i8, R.f8, lo 4 (by decide) (by omega)]
  · rw [q_wIs, es, pk_us]
  · rw [q_wI2, c2, R.ck hk, lo _ (by omega) (by omega)]
  · rw [hg'] at hgg; rw [q_wI2, c3, R.st hgg, lo _ (by omega) (by omega)]
  · rw [hn'] at hc
    rw [q_wI2, c4, c5, c6, c7, c8, c9, c10, c11]
    by_cases e : c = N
    · subst e
      rw [pk_us, pk_us, pk_us, pk_us, pk_us, pk_us, pk_us, pk_us, s0, s1, s2, s3, s4, s5, s6]
      exact ⟨(znm_congr sl).symm, rfl, rfl, rfl, rfl, rfl, rfl, rfl⟩
    · rw [pk_un e, pk_un e, pk_un e, pk_un e, pk_un e, pk_un e, pk_un e, pk_un e, lo _ (by omega) (by omega), lo _ (by omega) (by omega), lo _ (by omega) (by omega), lo _ (by omega) (by omega), lo _ (by omega) (by omega), lo _ (by omega) (by omega), lo _ (by omega) (by omega), znm_congr (f := zlet σ' c) (g := zlet σ c) (fun i hi => lo _ (by omega) (by omega))]
      exact R.2.2.2 c (by omega)
  · rw [hn', es, pk_us]
  · rw [hn']; omega
  · rw [hg', lo 4 (by decide) (by omega)]; exact I.g
  · rw [hg']; exact g4
  · rw [lo 1 (by decide) (by omega)]; exact I.date
  · rw [lo 2 (by decide) (by omega)]; exact I.seed
  · rw [hn', zsm_succ, s5, Int32.add_zero, lo 9 (by decide) (by omega), I.held, ← eN]
    exact zfo_congr (fun i _ h2 a => by rw [lo _ (by omega) (by omega)])
  · rw [hn'] at hc
    by_cases e : c = N
    · subst e
      exact ⟨⟨f, hf, s0⟩, ⟨h, by rw [hg']; exact hh, s3⟩, Or.inl s4, hN.congr sl⟩
    · obtain ⟨b1, b2, b3, b4⟩ := I.c (c := c) (by omega)
      refine ⟨?_, ?_, ?_, ?_⟩
      · rw [lo _ (by omega) (by omega)]; exact b1
      · rw [lo _ (by omega) (by omega), hg']; exact b2
      · rw [lo _ (by omega) (by omega)]; exact b3
      · exact b4.congr (fun i hi => lo _ (by omega) (by omega))
end AD
section LD
variable {T : zT} {n : Nat}
theorem q_fill {κ ι L : Nat} {w : Int32} (hL : L = zlen 0 κ ι) (hl : L ≤ 600) : ∀ k j f g, j + k = L → k < f → ∃ g', lp_J7_fill_53178_5 κ ι w (nI L) f (nI j) (wA T κ ι g) = some (nI L, wA T κ ι g') ∧ (∀ i, j ≤ i → i < L → g' i = w) ∧ ∀ i, i < j → g' i = g i := by
  intro k
  induction k with
  | zero =>
    intro j f g hj hf
    obtain ⟨f, rfl⟩ : ∃ q, f = q + 1 := ⟨f - 1, by omega⟩
    obtain rfl : j = L := by omega
    rw [lp_J7_fill_53178_5, if_pos (Int32.le_refl _)]
    exact ⟨g, rfl, fun i a b => by omega, fun i _ => rfl⟩
  | succ k ih =>
    intro j f g hj hf
    obtain ⟨f, rfl⟩ : ∃ q, f = q + 1 := ⟨f - 1, by omega⟩
    obtain ⟨g', e1, e2, e3⟩ := ih (j + 1) f (upd g j w) (by omega) (by omega)
    rw [lp_J7_fill_53178_5, if_neg (nI_ge (by omega) (by omega)), if_pos (of_eq_true (q_zt (show j < zlen 0 κ ι by omega) (by omega))), zl_s, zl_s, nI_clamp (by omega), q_wAs, q_wAA, nI_1]
    refine ⟨g', e1, fun i a b => ?_, fun i hi => ?_⟩
    · by_cases hij : i = j
      · subst hij; rw [e3 _ (by omega), pk_us]
      · exact e2 i (by omega) b
    · rw [e3 i (by omega), pk_un (by omega)]
/-- a registry begun -/
theorem w_begin (s c : Int32) : ∃ T', f_X2_begin 2 s c T = some ((), T') ∧ zfr (zPr 2) T T' ∧ ∀ σ : Nat → Int32, (∀ j, j < 21 → j ≠ 2 → j ≠ 3 → j ≠ 6 → σ j = 0) → σ 2 = s → σ 3 = c → σ 6 = c → zRR T' 2 σ := by
  obtain ⟨T1, t1⟩ : ∃ z, z = wI (wI (wI (wI (wI (wI (wI (wI (wI (wI T 1 2 0 0) 1 2 1 0) 1 2 2 s) 1 2 3 c) 1 2 4 c) 1 2 5 0) 1 2 6 0) 1 2 7 0) 1 2 8 0) 1 2 9 0 := ⟨_, rfl⟩
  obtain ⟨g, e1, e2, -⟩ := q_fill (T := T1) (κ := 2) (ι := 2) (L := 6) (w := 0) rfl (by decide) 6 0 2000 (T1.2 2 2) (by decide) (by decide)
  rw [q_wAself] at e1
  have F1 : zfr (zPr 2) T T1 := by
    have w : ∀ (U : zT) k v, zfr (zPr 2) U (wI U 1 2 k v) := fun U k v => zfr_wI ⟨by decide, by decide, rfl⟩
    rw [t1]
    exact zfr_trans (w _ _ _) (zfr_trans (w _ _ _) (zfr_trans (w _ _ _) (zfr_trans (w _ _ _) (zfr_trans (w _ _ _) (zfr_trans (w _ _ _) (zfr_trans (w _ _ _) (zfr_trans (w _ _ _) (zfr_trans (w _ _ _) (w _ _ _)))))))))
  refine ⟨wA T1 2 2 g, ?_, zfr_trans F1 (zfr_wA ⟨by decide, by decide, rfl⟩), fun σ h0 h2 h3 h6 => ?_⟩
  · unfold f_X2_begin f_J7_fill_53178
    simp only [zl_s]
    rw [← t1, zlen_2]
    have e1' : lp_J7_fill_53178_5 2 2 0 (nI 6) 2000 0 T1 = some (nI 6, wA T1 2 2 g) := e1
    rw [e1', zb_s, zb_s]
  · have hn : zn σ = 0 := by unfold zn; rw [h0 5 (by decide) (by decide) (by decide) (by decide)]; rfl
    have hg : zg σ = 0 := by unfold zg; rw [h0 4 (by decide) (by decide) (by decide) (by decide)]; rfl
    refine ⟨⟨?_, ?_, ?_, ?_, ?_, ?_, ?_, ?_, ?_, ?_⟩, fun k hk => ?_, fun g' hg' => by omega, fun c hc => by omega⟩
    · rw [q_wA1, t1, h0 0 (by decide) (by decide) (by decide) (by decide)]; rfl
    · rw [q_wA1, t1, h0 1 (by decide) (by decide) (by decide) (by decide)]; rfl
    · rw [q_wA1, t1, h2]; rfl
    · rw [q_wA1, t1, h3]; rfl
    · rw [q_wA1, t1, h6]; rfl
    · rw [q_wA1, t1, h0 7 (by decide) (by decide) (by decide) (by decide)]; rfl
    · rw [q_wA1, t1, h0 8 (by decide) (by decide) (by decide) (by decide)]; rfl
    · rw [q_wA1, t1, h0 10 (by decide) (by decide) (by decide) (by decide)]; rfl
    · rw [q_wA1, t1, h0 4 (by decide) (by decide) (by decide) (by decide)]; rfl
    · rw [q_wA1, t1, h0 5 (by decide) (by decide) (by decide) (by decide)]; rfl
    · rw [q_wAs, e2 k (by omega) hk, h0 (11 + k) (by omega) (by omega) (by omega) (by omega)]
end LD
