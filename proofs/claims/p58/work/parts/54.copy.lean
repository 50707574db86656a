/-! COPIES: a registry onto another, a row onto another -/
theorem q_copyRow {T : zT} {κ q r : Nat} (hκ : 2 ≤ κ) (hl : zlen 0 κ q = zlen 0 κ r) (h6 : zlen 0 κ r ≤ 600) : f_X3_copyRow κ q κ r T = some ((), wA T κ r (va_cpy (T.2 κ q) (T.2 κ r) 0 0 (zlen 0 κ r))) := by
  unfold f_X3_copyRow
  rw [hl, zl_s, if_neg (nI_nlt (Nat.le_refl _) (by omega)), if_pos ⟨nI_pos (by omega), by rw [nI_clamp (by omega)]; exact Nat.le_refl _, by rw [nI_clamp (by omega)]; exact Nat.le_refl _⟩, zl_s, nI_clamp (by omega)]
section CF
variable {T : zT} {r q : Nat} {σ : Nat → Int32}
theorem w_copy (hne : r ≠ q) (R : zRR T q σ) (I : zIv σ) : ∃ T', f_X2_copyFrom r q T = some ((), T') ∧ zRR T' r σ ∧ zfr (zPr r) T T' := by
  have n10 := I.n10
  have g4 := I.g4
  have hq : ∀ κ, ¬ zPr r κ q := fun κ h => hne h.2.2.symm
  have F0 : zfr (zPr r) T T := zfr_refl
  obtain ⟨T1, t1⟩ : ∃ z, z = wI T 1 r 0 (T.1 1 q 0) := ⟨_, rfl⟩
  have F1 : zfr (zPr r) T T1 := by rw [t1]; exact zfr_trans F0 (zfr_wI ⟨by decide, by decide, rfl⟩)
  obtain ⟨T2, t2⟩ : ∃ z, z = wI T1 1 r 1 (T.1 1 q 1) := ⟨_, rfl⟩
  have F2 : zfr (zPr r) T T2 := by rw [t2]; exact zfr_trans F1 (zfr_wI ⟨by decide, by decide, rfl⟩)
  obtain ⟨T3, t3⟩ : ∃ z, z = wI T2 1 r 2 (T.1 1 q 2) := ⟨_, rfl⟩
  have F3 : zfr (zPr r) T T3 := by rw [t3]; exact zfr_trans F2 (zfr_wI ⟨by decide, by decide, rfl⟩)
  obtain ⟨T4, t4⟩ : ∃ z, z = wI T3 1 r 3 (T.1 1 q 3) := ⟨_, rfl⟩
  have F4 : zfr (zPr r) T T4 := by rw [t4]; exact zfr_trans F3 (zfr_wI ⟨by decide, by decide, rfl⟩)
  obtain ⟨T5, t5⟩ : ∃ z, z = wI T4 1 r 4 (T.1 1 q 4) := ⟨_, rfl⟩
  have F5 : zfr (zPr r) T T5 := by rw [t5]; exact zfr_trans F4 (zfr_wI ⟨by decide, by decide, rfl⟩)
  obtain ⟨T6, t6⟩ : ∃ z, z = wI T5 1 r 5 (T.1 1 q 5) := ⟨_, rfl⟩
  have F6 : zfr (zPr r) T T6 := by rw [t6]; exact zfr_trans F5 (zfr_wI ⟨by decide, by decide, rfl⟩)
  obtain ⟨T7, t7⟩ : ∃ z, z = wI T6 1 r 6 (T.1 1 q 6) := ⟨_, rfl⟩
  have F7 : zfr (zPr r) T T7 := by rw [t7]; exact zfr_trans F6 (zfr_wI ⟨by decide, by decide, rfl⟩)
  obtain ⟨T8, t8⟩ : ∃ z, z = wI T7 1 r 7 (T.1 1 q 7) := ⟨_, rfl⟩
  have F8 : zfr (zPr r) T T8 := by rw [t8]; exact zfr_trans F7 (zfr_wI ⟨by decide, by decide, rfl⟩)
  obtain ⟨T9, t9⟩ : ∃ z, z = wI T8 1 r 8 (T.1 1 q 8) := ⟨_, rfl⟩
  have F9 : zfr (zPr r) T T9 := by rw [t9]; exact zfr_trans F8 (zfr_wI ⟨by decide, by decide, rfl⟩)
  obtain ⟨T10, t10⟩ : ∃ z, z = wI T9 1 r 9 (T.1 1 q 9) := ⟨_, rfl⟩
  have F10 : zfr (zPr r) T T10 := by rw [t10]; exact zfr_trans F9 (zfr_wI ⟨by decide, by decide, rfl⟩)
  obtain ⟨T11, t11⟩ : ∃ z, z = wA T10 2 r (va_cpy (T.2 2 q) (T10.2 2 r) 0 0 6) := ⟨_, rfl⟩
  have F11 : zfr (zPr r) T T11 := by rw [t11]; exact zfr_trans F10 (zfr_wA ⟨by decide, by decide, rfl⟩)
  have c11 : f_X3_copyRow 2 q 2 r T10 = some ((), T11) := by
    rw [q_copyRow (by decide) (by rfl) (by rw [zlen_2]; decide), zfr_2 F10 (hq 2), zlen_2, ← t11]
  obtain ⟨T12, t12⟩ : ∃ z, z = wA T11 3 r (va_cpy (T.2 3 q) (T11.2 3 r) 0 0 4) := ⟨_, rfl⟩
  have F12 : zfr (zPr r) T T12 := by rw [t12]; exact zfr_trans F11 (zfr_wA ⟨by decide, by decide, rfl⟩)
  have c12 : f_X3_copyRow 3 q 3 r T11 = some ((), T12) := by
    rw [q_copyRow (by decide) (by rfl) (by rw [zlen_3]; decide), zfr_2 F11 (hq 3), zlen_3, ← t12]
  obtain ⟨T13, t13⟩ : ∃ z, z = wA T12 4 r (va_cpy (T.2 4 q) (T12.2 4 r) 0 0 10) := ⟨_, rfl⟩
  have F13 : zfr (zPr r) T T13 := by rw [t13]; exact zfr_trans F12 (zfr_wA ⟨by decide, by decide, rfl⟩)
  have c13 : f_X3_copyRow 4 q 4 r T12 = some ((), T13) := by
    rw [q_copyRow (by decide) (by rw [zlen_c (by decide), zlen_c (by decide)]) (by rw [zlen_c (by decide)]; decide), zfr_2 F12 (hq 4), zlen_c (by decide), ← t13]
  obtain ⟨T14, t14⟩ : ∃ z, z = wA T13 5 r (va_cpy (T.2 5 q) (T13.2 5 r) 0 0 10) := ⟨_, rfl⟩
  have F14 : zfr (zPr r) T T14 := by rw [t14]; exact zfr_trans F13 (zfr_wA ⟨by decide, by decide, rfl⟩)
  have c14 : f_X3_copyRow 5 q 5 r T13 = some ((), T14) := by
    rw [q_copyRow (by decide) (by rw [zlen_c (by decide), zlen_c (by decide)]) (by rw [zlen_c (by decide)]; decide), zfr_2 F13 (hq 5), zlen_c (by decide), ← t14]
  obtain ⟨T15, t15⟩ : ∃ z, z = wA T14 6 r (va_cpy (T.2 6 q) (T14.2 6 r) 0 0 10) := ⟨_, rfl⟩
  have F15 : zfr (zPr r) T T15 := by rw [t15]; exact zfr_trans F14 (zfr_wA ⟨by decide, by decide, rfl⟩)
  have c15 : f_X3_copyRow 6 q 6 r T14 = some ((), T15) := by
    rw [q_copyRow (by decide) (by rw [zlen_c (by decide), zlen_c (by decide)]) (by rw [zlen_c (by decide)]; decide), zfr_2 F14 (hq 6), zlen_c (by decide), ← t15]
  obtain ⟨T16, t16⟩ : ∃ z, z = wA T15 7 r (va_cpy (T.2 7 q) (T15.2 7 r) 0 0 10) := ⟨_, rfl⟩
  have F16 : zfr (zPr r) T T16 := by rw [t16]; exact zfr_trans F15 (zfr_wA ⟨by decide, by decide, rfl⟩)
  have c16 : f_X3_copyRow 7 q 7 r T15 = some ((), T16) := by
    rw [q_copyRow (by decide) (by rw [zlen_c (by decide), zlen_c (by decide)]) (by rw [zlen_c (by decide)]; decide), zfr_2 F15 (hq 7), zlen_c (by decide), ← t16]
  obtain ⟨T17, t17⟩ : ∃ z, z = wA T16 8 r (va_cpy (T.2 8 q) (T16.2 8 r) 0 0 10) := ⟨_, rfl⟩
  have F17 : zfr (zPr r) T T17 := by rw [t17]; exact zfr_trans F16 (zfr_wA ⟨by decide, by decide, rfl⟩)
  have c17 : f_X3_copyRow 8 q 8 r T16 = some ((), T17) := by
    rw [q_copyRow (by decide) (by rw [zlen_c (by decide), zlen_c (by decide)]) (by rw [zlen_c (by decide)]; decide), zfr_2 F16 (hq 8), zlen_c (by decide), ← t17]
  obtain ⟨T18, t18⟩ : ∃ z, z = wA T17 9 r (va_cpy (T.2 9 q) (T17.2 9 r) 0 0 10) := ⟨_, rfl⟩
  have F18 : zfr (zPr r) T T18 := by rw [t18]; exact zfr_trans F17 (zfr_wA ⟨by decide, by decide, rfl⟩)
  have c18 : f_X3_copyRow 9 q 9 r T17 = some ((), T18) := by
    rw [q_copyRow (by decide) (by rw [zlen_c (by decide), zlen_c (by decide)]) (by rw [zlen_c (by decide)]; decide), zfr_2 F17 (hq 9), zlen_c (by decide), ← t18]
  obtain ⟨T19, t19⟩ : ∃ z, z = wA T18 10 r (va_cpy (T.2 10 q) (T18.2 10 r) 0 0 10) := ⟨_, rfl⟩
  have F19 : zfr (zPr r) T T19 := by rw [t19]; exact zfr_trans F18 (zfr_wA ⟨by decide, by decide, rfl⟩)
  have c19 : f_X3_copyRow 10 q 10 r T18 = some ((), T19) := by
    rw [q_copyRow (by decide) (by rw [zlen_c (by decide), zlen_c (by decide)]) (by rw [zlen_c (by decide)]; decide), zfr_2 F18 (hq 10), zlen_c (by decide), ← t19]
  obtain ⟨T20, t20⟩ : ∃ z, z = wA T19 11 r (va_cpy (T.2 11 q) (T19.2 11 r) 0 0 10) := ⟨_, rfl⟩
  have F20 : zfr (zPr r) T T20 := by rw [t20]; exact zfr_trans F19 (zfr_wA ⟨by decide, by decide, rfl⟩)
  have c20 : f_X3_copyRow 11 q 11 r T19 = some ((), T20) := by
    rw [q_copyRow (by decide) (by rw [zlen_c (by decide), zlen_c (by decide)]) (by rw [zlen_c (by decide)]; decide), zfr_2 F19 (hq 11), zlen_c (by decide), ← t20]
  refine ⟨T20, ?_, ⟨⟨?_, ?_, ?_, ?_, ?_, ?_, ?_, ?_, ?_, ?_⟩, fun k hk => ?_, fun g hg => ?_, fun c hc => ⟨?_, ?_, ?_, ?_, ?_, ?_, ?_, ?_⟩⟩, F20⟩
  · unfold f_X2_copyFrom
    rw [zl_s, zl_s, ← t1, zfr_1 F1 (hq 1) 1, zl_s, zl_s, ← t2, zfr_1 F2 (hq 1) 2, zl_s, zl_s, ← t3, zfr_1 F3 (hq 1) 3, zl_s, zl_s, ← t4, zfr_1 F4 (hq 1) 4, zl_s, zl_s, ← t5, zfr_1 F5 (hq 1) 5, zl_s, zl_s, ← t6, zfr_1 F6 (hq 1) 6, zl_s, zl_s, ← t7, zfr_1 F7 (hq 1) 7, zl_s, zl_s, ← t8, zfr_1 F8 (hq 1) 8, zl_s, zl_s, ← t9, zfr_1 F9 (hq 1) 9, zl_s, zl_s, ← t10, c11, zb_s, c12, zb_s, c13, zb_s, c14, zb_s, c15, zb_s, c16, zb_s, c17, zb_s, c18, zb_s, c19, zb_s, c20, zb_s]
  · rw [t20, q_wA1, t19, q_wA1, t18, q_wA1, t17, q_wA1, t16, q_wA1, t15, q_wA1, t14, q_wA1, t13, q_wA1, t12, q_wA1, t11, q_wA1, t10, q_wIk (by omega), t9, q_wIk (by omega), t8, q_wIk (by omega), t7, q_wIk (by omega), t6, q_wIk (by omega), t5, q_wIk (by omega), t4, q_wIk (by omega), t3, q_wIk (by omega), t2, q_wIk (by omega), t1, q_wIs, R.f0]
  · rw [t20, q_wA1, t19, q_wA1, t18, q_wA1, t17, q_wA1, t16, q_wA1, t15, q_wA1, t14, q_wA1, t13, q_wA1, t12, q_wA1, t11, q_wA1, t10, q_wIk (by omega), t9, q_wIk (by omega), t8, q_wIk (by omega), t7, q_wIk (by omega), t6, q_wIk (by omega), t5, q_wIk (by omega), t4, q_wIk (by omega), t3, q_wIk (by omega), t2, q_wIs, R.f1]
  · rw [t20, q_wA1, t19, q_wA1, t18, q_wA1, t17, q_wA1, t16, q_wA1, t15, q_wA1, t14, q_wA1, t13, q_wA1, t12, q_wA1, t11, q_wA1, t10, q_wIk (by omega), t9, q_wIk (by omega), t8, q_wIk (by omega), t7, q_wIk (by omega), t6, q_wIk (by omega), t5, q_wIk (by omega), t4, q_wIk (by omega), t3, q_wIs, R.f2]
  · rw [t20, q_wA1, t19, q_wA1, t18, q_wA1, t17, q_wA1, t16, q_wA1, t15, q_wA1, t14, q_wA1, t13, q_wA1, t12, q_wA1, t11, q_wA1, t10, q_wIk (by omega), t9, q_wIk (by omega), t8, q_wIk (by omega), t7, q_wIk (by omega), t6, q_wIk (by omega), t5, q_wIk (by omega), t4, q_wIs, R.f3]
  · rw [t20, q_wA1, t19, q_wA1, t18, q_wA1, t17, q_wA1, t16, q_wA1, t15, q_wA1, t14, q_wA1, t13, q_wA1, t12, q_wA1, t11, q_wA1, t10, q_wIk (by omega), t9, q_wIk (by omega), t8, q_wIk (by omega), t7, q_wIk (by omega), t6, q_wIk (by omega), t5, q_wIs, R.f4]
  · rw [t20, q_wA1, t19, q_wA1, t18, q_wA1, t17, q_wA1, t16, q_wA1, t15, q_wA1, t14, q_wA1, t13, q_wA1, t12, q_wA1, t11, q_wA1, t10, q_wIk (by omega), t9, q_wIk (by omega), t8, q_wIk (by omega), t7, q_wIk (by omega), t6, q_wIs, R.f5]
  · rw [t20, q_wA1, t19, q_wA1, t18, q_wA1, t17, q_wA1, t16, q_wA1, t15, q_wA1, t14, q_wA1, t13, q_wA1, t12, q_wA1, t11, q_wA1, t10, q_wIk (by omega), t9, q_wIk (by omega), t8, q_wIk (by omega), t7, q_wIs, R.f6]
  · rw [t20, q_wA1, t19, q_wA1, t18, q_wA1, t17, q_wA1, t16, q_wA1, t15, q_wA1, t14, q_wA1, t13, q_wA1, t12, q_wA1, t11, q_wA1, t10, q_wIk (by omega), t9, q_wIk (by omega), t8, q_wIs, R.f7]
  · rw [t20, q_wA1, t19, q_wA1, t18, q_wA1, t17, q_wA1, t16, q_wA1, t15, q_wA1, t14, q_wA1, t13, q_wA1, t12, q_wA1, t11, q_wA1, t10, q_wIk (by omega), t9, q_wIs, R.f8]
  · rw [t20, q_wA1, t19, q_wA1, t18, q_wA1, t17, q_wA1, t16, q_wA1, t15, q_wA1, t14, q_wA1, t13, q_wA1, t12, q_wA1, t11, q_wA1, t10, q_wIs, R.f9]
  · rw [t20, q_wAo (by omega), t19, q_wAo (by omega), t18, q_wAo (by omega), t17, q_wAo (by omega), t16, q_wAo (by omega), t15, q_wAo (by omega), t14, q_wAo (by omega), t13, q_wAo (by omega), t12, q_wAo (by omega), t11, q_wAs, pk_cpy_in (by omega) (by omega), Nat.sub_zero, Nat.zero_add, R.ck hk]
  · rw [t20, q_wAo (by omega), t19, q_wAo (by omega), t18, q_wAo (by omega), t17, q_wAo (by omega), t16, q_wAo (by omega), t15, q_wAo (by omega), t14, q_wAo (by omega), t13, q_wAo (by omega), t12, q_wAs, pk_cpy_in (by omega) (by omega), Nat.sub_zero, Nat.zero_add, R.st hg]
  · rw [t20, q_wAo (by omega), t19, q_wAo (by omega), t18, q_wAo (by omega), t17, q_wAo (by omega), t16, q_wAo (by omega), t15, q_wAo (by omega), t14, q_wAo (by omega), t13, q_wAs, pk_cpy_in (by omega) (by omega), Nat.sub_zero, Nat.zero_add, R.nm hc]
  · rw [t20, q_wAo (by omega), t19, q_wAo (by omega), t18, q_wAo (by omega), t17, q_wAo (by omega), t16, q_wAo (by omega), t15, q_wAo (by omega), t14, q_wAs, pk_cpy_in (by omega) (by omega), Nat.sub_zero, Nat.zero_add, R.fa hc]
  · rw [t20, q_wAo (by omega), t19, q_wAo (by omega), t18, q_wAo (by omega), t17, q_wAo (by omega), t16, q_wAo (by omega), t15, q_wAs, pk_cpy_in (by omega) (by omega), Nat.sub_zero, Nat.zero_add, R.br hc]
  · rw [t20, q_wAo (by omega), t19, q_wAo (by omega), t18, q_wAo (by omega), t17, q_wAo (by omega), t16, q_wAs, pk_cpy_in (by omega) (by omega), Nat.sub_zero, Nat.zero_add, R.ag hc]
  · rw [t20, q_wAo (by omega), t19, q_wAo (by omega), t18, q_wAo (by omega), t17, q_wAs, pk_cpy_in (by omega) (by omega), Nat.sub_zero, Nat.zero_add, R.ho hc]
  · rw [t20, q_wAo (by omega), t19, q_wAo (by omega), t18, q_wAs, pk_cpy_in (by omega) (by omega), Nat.sub_zero, Nat.zero_add, R.bi hc]
  · rw [t20, q_wAo (by omega), t19, q_wAs, pk_cpy_in (by omega) (by omega), Nat.sub_zero, Nat.zero_add, R.pa hc]
  · rw [t20, q_wAs, pk_cpy_in (by omega) (by omega), Nat.sub_zero, Nat.zero_add, R.wi hc]
end CF
theorem w_state {T : zT} {nx : Nat} (h : nx < 10) : f_X0_stateAt (nI nx) T = some (some (3 + nx), T) := by
  unfold f_X0_stateAt
  rw [if_neg (nI_pos (by omega)), if_neg (show ¬ (10 : Int32) ≤ nI nx from nI_ge (b := 10) h (by decide)), if_pos (of_eq_true (q_zt h (by decide))), nI_clamp (by omega)]
