/-! LINES: birthday, child -/
section LP
variable {T0 M0 T M : zT} {n : Nat}
theorem mf_66 (h : ¬ M.1 0 0 22 = 0) (a b c : Int32) : jn_X4_readsBirthday_66 a b c M = some ((), M) := by unfold jn_X4_readsBirthday_66; rw [if_neg h]
theorem l_birth {s e : Nat} (hC : zCx T0 M0 n) (K : zKw T0 M0 n s e T M) : zLn T0 M0 n e (f_X1_readBirthday T) (f_X4_readsBirthday M) := by
  obtain ⟨M1, a1, a2, hP1, hO1, hB1⟩ := K.adv hC
  obtain ⟨x, T2, c', M2, x1, m1, hP2, hN2, hh⟩ := w_known hC hP1 hO1 hB1
  have hn := hC.1
  unfold f_X1_readBirthday f_X4_readsBirthday
  rw [a1, zb_s, x1, m1, zb_s, zb_s]
  rcases hh with hF | ⟨hO2, m2, c, s1, e1, hc, rfl, rfl, t6, t7, t8, t19, hse, hen, q18, q20, he⟩
  · obtain ⟨v1, y1⟩ := xf_num hn hP2 hF.1 1 12
    obtain ⟨v2, y2⟩ := xf_num hn hP2 hF.1 1 30
    rw [y1, zb_s, y2, zb_s, if_neg hF.1, mf_goes hF.m, zb_s, mf_takes hF.m, zb_s, mf_here hF.m, zb_s, if_neg hF.m, mf_66 hF.m]
    exact .bad rfl rfl hP2 hF hN2
  · obtain ⟨M3, b1, b2, b3, b4, b5⟩ := w_adv hC hP2 hO2.1 t6 t7 t8 hse hen q20 (Or.inr (Or.inl ⟨rfl, q18⟩))
    have hO3 : zOK T2 M3 := ⟨hO2.1, (b3 22 (by omega)).trans hO2.2.1, by rw [b2]; exact hO2.2.2⟩
    have g : f_X4_goesOn M2 = some ((), M3) := by unfold f_X4_goesOn; rw [if_pos hO2.2.1, b1, zb_s]
    rw [g, zb_s]
    refine w_seq hC b4 hO3 (b5.mono he) (fun v T' M' hP' hF hN => ?_) (fun v T' M' c1 c2 hP' hO' hB' m4 F4 => ?_)
    · obtain ⟨v2, y2⟩ := xf_num hn hP' hF.1 1 30
      rw [y2, zb_s, if_neg hF.1, mf_here hF.m, zb_s, if_neg hF.m, mf_66 hF.m]
      exact .bad rfl rfl hP' hF hN
    · refine w_seqH hC hP' hO' hB' (fun w T5 M5 hP5 hF hN => ?_) (fun w T5 M5 s2 e2 d1 d2 hP5 hO5 u6 u7 u8 u19 hse2 hen2 u18 u20 he2 m5 F5 => ?_)
      · rw [if_neg hF.1, if_neg hF.m, mf_66 hF.m]
        exact .bad rfl rfl hP5 hF hN
      · obtain ⟨mm, hm1, hm2, rfl⟩ : ∃ k : Nat, 1 ≤ k ∧ k ≤ 12 ∧ v = nI k := by
          rcases q_rng (p := v) (a := 1) (b := 12) (by decide) (by decide) with h | h | h
          · exact (c1 h).elim
          · exact (c2 h).elim
          · exact h
        obtain ⟨dd, hd1, hd2, rfl⟩ : ∃ k : Nat, 1 ≤ k ∧ k ≤ 30 ∧ w = nI k := by
          rcases q_rng (p := w) (a := 1) (b := 30) (by decide) (by decide) with h | h | h
          · exact (d1 h).elim
          · exact (d2 h).elim
          · exact h
        obtain ⟨D, eD⟩ : ∃ D, D = (mm - 1) * 30 + dd - 1 := ⟨_, rfl⟩
        have hD : D < 360 := by omega
        have pD : (nI mm - 1) * 30 + nI dd - 1 = nI D := by rw [nl_1, nl_30, pk_sub hm1, pk_mul, nI_add, pk_sub (by omega), eD]
        have e22 : M5.2 2 0 = M2.2 2 0 := by rw [m5, m4, b2]
        have R := hO5.2.2.1
        have I := hO5.2.2.2.1
        have n10 := I.n10
        have hc5 : c < zn (M5.2 2 0) := by rw [e22, m2]; exact hc
        obtain ⟨h, hh, eh⟩ := (I.c hc5).2.1
        rw [if_pos hO5.1, if_pos hO5.2.1, q_dof, pD, zb_s, q_cellc (by decide) (by omega), R.ho hc5, eh, zb_s, qx_rea R I hc5 hh, zb_s]
        simp (disch := omega) only [zb_s, zl_s, q_c, q_ad3, q_zt, q_clamp, if_true, q_pos, pD, eh, qm_rea (M := M5) rfl I hc5 hh]
        by_cases hr : s_rea (M5.2 2 0) c h (nI D) = 0
        · rw [if_pos hr, if_pos hr, q_setc (by decide) (by omega), zb_s]
          obtain ⟨M6, n1, n2, n3, n4⟩ := w_end (T' := wA T5 9 2 (upd (T5.2 9 2) c (nI D))) (M' := wA M5 2 0 (upd (M5.2 2 0) (21 + 13 * c + 4) (nI D))) hC hP5 hO5.1 hO5.2.1 u6 u7 u8 hse2 hen2 u20 (Or.inr ⟨rfl, u18⟩) he2 (zfr_wA ⟨by decide, by decide, rfl⟩) (fun j _ => rfl) (fun κ x y => q_wAo (by omega)) (by rw [q_wAs]; exact ⟨R.a9 I.g4 _, I.birth' (Or.inr ⟨D, hD, rfl⟩), hO5.2.2.2.2.same (pk_un (by omega))⟩)
          unfold jn_X4_readsBirthday_66
          rw [if_pos hO5.2.1]
          simp (disch := omega) only [zb_s, zl_s, q_c, q_ad4, q_zt, q_clamp, if_true, q_pos, pD, n1]
          exact ⟨_, M6, rfl, rfl, n2, Or.inr ⟨n3, n4⟩⟩
        · obtain ⟨T6, M6, x3, m3, hP6, hF, hN6⟩ := w_stop (p := 6) (e0 := 0) (by decide) hP5 (zN10.of hO5.2.2) hO5.1 hO5.2.1 u7 u19
          rw [if_neg hr, if_neg hr, x3, m3, zb_s, zb_s, mf_66 hF.m]
          exact .bad rfl rfl hP6 hF hN6
theorem xf_39 (hn : n ≤ 600) (hP : zPh T0 M0 n T M) (h : ¬ T.1 0 1 2 = 0) (w : Int32) : jn_X1_readChild_39 w T = some ((), T) := by
  unfold jn_X1_readChild_39
  obtain ⟨v1, y1⟩ := xf_num hn hP h 0 5
  obtain ⟨v2, y2⟩ := xf_num hn hP h 1 20
  obtain ⟨v3, y3⟩ := xf_num hn hP h 0 99
  obtain ⟨v4, y4⟩ := xf_num hn hP h 0 (T.1 1 2 8 - 1)
  rw [y1, zb_s, y2, zb_s, y3, zb_s, y4, zb_s, if_neg h]
theorem xf_17 (hn : n ≤ 600) (hP : zPh T0 M0 n T M) (h : ¬ T.1 0 1 2 = 0) (hN : zN10 T) : jn_X1_readChild_17 T = some ((), T) := by
  unfold jn_X1_readChild_17
  obtain ⟨v, e1⟩ := xf_nam hn hP h
  obtain ⟨x, e2⟩ := xf_named hN v
  rw [e1, zb_s, e2, zb_s, xf_39 hn hP h, xf_fail h, zb_s, xf_39 hn hP h]
  split <;> rfl
theorem mf_45 (h : ¬ M.1 0 0 22 = 0) : jn_X4_readsChild_45 M = some ((), M) := by
  unfold jn_X4_readsChild_45
  rw [mf_goes h, zb_s, mf_takes h, zb_s, mf_takes h, zb_s, mf_takes h, zb_s, mf_takes h, zb_s, if_neg h]
theorem l_child {s e : Nat} (hC : zCx T0 M0 n) (K : zKw T0 M0 n s e T M) : zLn T0 M0 n e (f_X1_readChild T) (f_X4_readsChild M) := by
  obtain ⟨M1, a1, a2, hP1, hO1, hB1⟩ := K.adv hC
  obtain ⟨hP, hO, ⟨t6, t7, t8, t19, hse, hen⟩, q18, q20⟩ := K
  have I := hO.2.2.2.1
  have R := hO.2.2.1
  have n10 := I.n10
  have hn := hC.1
  unfold f_X1_readChild f_X4_readsChild
  rw [R.f9, I.n]
  by_cases h4 : zn (M.2 2 0) = 10
  · obtain ⟨T1, M2, x1, m1, hP2, hF, hN⟩ := w_stop (p := 5) (e0 := 0) (by decide) hP (zN10.of hO.2.2) hO.1 hO.2.1 t7 t19
    rw [if_neg (show ¬ nI (zn (M.2 2 0)) < (10 : Int32) by rw [h4]; decide), if_pos (show nI (zn (M.2 2 0)) = (10 : Int32) by rw [h4]; rfl), x1, m1, zb_s, zb_s, xf_17 hn hP2 hF.1 hN]
    exact .bad rfl rfl hP2 hF hN
  rw [if_pos (show nI (zn (M.2 2 0)) < (10 : Int32) from nI_lt (b := 10) (by omega) (by decide)), if_neg (show ¬ nI (zn (M.2 2 0)) = (10 : Int32) from fun z => h4 (q_inj (b := 10) z (by omega) (by decide))), a1, zb_s]
  unfold jn_X1_readChild_17
  obtain ⟨v, T2, M2, x1, m1, hP2, F2, m2, hh⟩ := w_namH hC hP1 hO1.1 hO1.2.1 hB1
  have hN2 := (zN10.of hO1.2.2).fr F2
  rw [x1, m1, zb_s, zb_s]
  rcases hh with hF | ⟨g0, g22, hNm, hv, s1, e1, ⟨⟨t6, t7, t8, t19, hse, hen⟩, -⟩, q18, q20, hlt, hes⟩
  · obtain ⟨w, x2⟩ := xf_named hN2 v
    rw [x2, zb_s, if_neg hF.m, mf_45 hF.m, xf_fail hF.1, zb_s, xf_39 hn hP2 hF.1]
    by_cases hw : w = -1
    · rw [if_pos hw]; exact .bad rfl rfl hP2 hF hN2
    · rw [if_neg hw]; exact .bad rfl rfl hP2 hF hN2
  · have hO2 := hO1.fr F2 g0 g22 m2
    have R2 := hO2.2.2.1
    have I2 := hO2.2.2.2.1
    have n102 := I2.n10
    have eM2 : M2.2 2 0 = M.2 2 0 := by rw [m2, a2]
    rw [hv, qx_named R2 I2, zb_s, if_pos g22, qm_spd rfl I2 hNm, zb_s]
    cases ez : zfn (fun i => if znm (zlet (M2.2 2 0) i) = znm (M2.2 6 0) then true else false) 0 (zn (M2.2 2 0)) with
    | some c =>
      have hc := (zfn_some ez).2.1
      have hcn : ¬ nI c = -1 := by rw [q_m1ne (by omega)]; exact id
      obtain ⟨T3, M3, x3, m3, hP3, hF, hN3⟩ := w_stop (p := 4) (e0 := 0) (by decide) hP2 hN2 g0 g22 t7 t19
      simp only
      rw [if_neg hcn, if_neg hcn, x3, m3, zb_s, zb_s, xf_39 hn hP3 hF.1, mf_45 hF.m]
      exact .bad rfl rfl hP3 hF hN3
    | none =>
      simp only
      rw [if_pos trivial, if_pos trivial]
      obtain ⟨M3, b1, b2, b3, b4, b5⟩ := w_adv hC hP2 hO2.1 t6 t7 t8 hse hen q20 (Or.inr (Or.inl ⟨rfl, q18⟩))
      have hO3 : zOK T2 M3 := ⟨hO2.1, (b3 22 (by omega)).trans hO2.2.1, by rw [b2]; exact hO2.2.2⟩
      have g : f_X4_goesOn M2 = some ((), M3) := by unfold f_X4_goesOn; rw [if_pos hO2.2.1, b1, zb_s]
      unfold jn_X1_readChild_39 jn_X4_readsChild_45
      rw [g, zb_s]
      refine w_seq hC b4 hO3 (b5.mono (by omega)) (fun v1 T' M' hP' hF hN => ?_) (fun v1 T4 M4 c1 c2 hP4 hO4 hB4 m4 F4 => ?_)
      · obtain ⟨u2, y2⟩ := xf_num hn hP' hF.1 1 20
        obtain ⟨u3, y3⟩ := xf_num hn hP' hF.1 0 99
        obtain ⟨u4, y4⟩ := xf_num hn hP' hF.1 0 (T'.1 1 2 8 - 1)
        rw [y2, zb_s, y3, zb_s, y4, zb_s, if_neg hF.1, mf_takes hF.m, zb_s, mf_takes hF.m, zb_s, mf_takes hF.m, zb_s, if_neg hF.m]
        exact .bad rfl rfl hP' hF hN
      refine w_seq hC hP4 hO4 hB4 (fun v2 T' M' hP' hF hN => ?_) (fun v2 T5 M5 c3 c4 hP5 hO5 hB5 m5 F5 => ?_)
      · obtain ⟨u3, y3⟩ := xf_num hn hP' hF.1 0 99
        obtain ⟨u4, y4⟩ := xf_num hn hP' hF.1 0 (T'.1 1 2 8 - 1)
        rw [y3, zb_s, y4, zb_s, if_neg hF.1, mf_takes hF.m, zb_s, mf_takes hF.m, zb_s, if_neg hF.m]
        exact .bad rfl rfl hP' hF hN
      refine w_seq hC hP5 hO5 hB5 (fun v3 T' M' hP' hF hN => ?_) (fun v3 T6 M6 c5 c6 hP6 hO6 hB6 m6 F6 => ?_)
      · obtain ⟨u4, y4⟩ := xf_num hn hP' hF.1 0 (T'.1 1 2 8 - 1)
        rw [y4, zb_s, if_neg hF.1, mf_takes hF.m, zb_s, if_neg hF.m]
        exact .bad rfl rfl hP' hF hN
      have R6 := hO6.2.2.1
      have I6 := hO6.2.2.2.1
      have e8 : T6.1 1 2 8 = M6.2 2 0 4 := R6.f8
      rw [e8]
      refine w_seq hC hP6 hO6 hB6 (fun v4 T' M' hP' hF hN => ?_) (fun v4 T7 M7 c7 c8 hP7 hO7 hB7 m7 F7 => ?_)
      · rw [if_neg hF.1, if_neg hF.m]
        exact .bad rfl rfl hP' hF hN
      have R7 := hO7.2.2.1
      have I7 := hO7.2.2.2.1
      have g47 := I7.g4
      obtain ⟨f, hf0, hf5, rfl⟩ : ∃ k : Nat, 0 ≤ k ∧ k ≤ 5 ∧ v1 = nI k := by
        rcases q_rng (p := v1) (a := 0) (b := 5) (by decide) (by decide) with h | h | h
        · exact (c1 h).elim
        · exact (c2 h).elim
        · exact h
      have e27 : M7.2 2 0 = M6.2 2 0 := by rw [m7]
      have e4 : M6.2 2 0 4 = nI (zg (M7.2 2 0)) := by rw [← e27]; exact I7.g
      rw [e4] at c8
      obtain ⟨k, hk, rfl⟩ : ∃ k : Nat, k < zg (M7.2 2 0) ∧ v4 = nI k := by
        rcases q_cut (p := v4) (n := zg (M7.2 2 0)) (by omega) with h | h
        · rcases h with h | h
          · exact (c7 h).elim
          · exact (c8 (q_pred_lt (by omega) h)).elim
        · exact h
      have e67 : M7.2 6 0 = M2.2 6 0 := by rw [m7, m6, m5, m4, b2]
      have hn7 : zn (M7.2 2 0) < 10 := by rw [e27, show M6.2 2 0 = M.2 2 0 by rw [m6, m5, m4, b2, eM2]]; omega
      rw [if_pos hO7.1, if_pos hO7.2.1, ← e67]
      obtain ⟨T8, σ', d1, d2, d3, d4, d5, d6, d7, d8⟩ := w_kid (M := M7) R7 I7 rfl hn7 (by rw [e67]; exact hNm) (show f < 6 by omega) hk v2 v3
      rw [d1, d2, zb_s, zb_s]
      refine ⟨T8, _, rfl, rfl, hP7.reg d5 (fun j _ => rfl) (fun κ x y => q_wAo (by omega)), Or.inr ⟨⟨?_, hO7.2.1, ?_⟩, hB7.reg hn hP7 hO7.1 d5 (fun j _ _ => rfl)⟩⟩
      · rw [zfr_1 d5 (fun z => by have := z.1; omega)]; exact hO7.1
      · rw [q_wAs]; exact ⟨d3, d4, hO7.2.2.2.2.same d6⟩
end LP
