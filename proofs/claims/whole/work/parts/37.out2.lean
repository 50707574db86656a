/-! OUTPUT: the calls -/
section OV
variable {T0 M0 T M : zT}
theorem q_p27 {i : Nat} (h : i ≤ 5) : 27 ^ i < 2 ^ 31 := by
  have h2 : 27 ^ i ≤ 27 ^ 5 := Nat.pow_le_pow_right (by decide) h
  have h3 : 27 ^ 5 < 2 ^ 31 := by decide
  omega
theorem q_p27p (i : Nat) : 0 < 27 ^ i := Nat.pow_pos (by decide)
theorem q_pd27 {i : Nat} (h : i + 1 ≤ 5) : nI (27 ^ (i + 1)) / 27 = nI (27 ^ i) := by
  rw [nl_27, pk_div (q_p27 h) (by decide) (by decide), Nat.pow_succ, Nat.mul_div_cancel _ (by decide)]
theorem q_dg {N e : Nat} (hN : N < 2 ^ 31) (he : e ≤ 5) : nI N / nI (27 ^ e) - nI N / nI (27 ^ e) / 27 * 27 = nI (N / 27 ^ e % 27) := by
  rw [pk_div hN (q_p27p e) (q_p27 he)]
  exact pk_rem (Nat.lt_of_le_of_lt (Nat.div_le_self _ _) hN) (by decide) (by decide)
/-- the class passes the powers above the name -/
theorem w_nam_skip {N m : Nat} (hN : N < 2 ^ 31) (hm : ∀ e, m ≤ e → e ≤ 5 → N / 27 ^ e % 27 = 0) : ∀ k f, m + k ≤ 5 → lp_X3_writeName_4 (nI N) (f + (k + 1)) (nI (27 ^ (m + k))) T = lp_X3_writeName_4 (nI N) f (nI (27 ^ m) / 27) T := by
  intro k
  induction k with
  | zero =>
    intro f hk'
    have hk : m ≤ 5 := hk'
    show lp_X3_writeName_4 (nI N) (f + 1) (nI (27 ^ m)) T = _
    rw [lp_X3_writeName_4, if_neg (nI_nle (q_p27p _) (q_p27 hk)), if_pos (nI_ne0 (q_p27p _) (q_p27 hk)), zl_s, zl_s, q_dg hN hk, hm m (Nat.le_refl _) hk, if_pos (by decide), zl_s]
  | succ k ih =>
    intro f hk
    show lp_X3_writeName_4 (nI N) ((f + (k + 1)) + 1) (nI (27 ^ (m + (k + 1)))) T = _
    rw [lp_X3_writeName_4, if_neg (nI_nle (q_p27p _) (q_p27 hk)), if_pos (nI_ne0 (q_p27p _) (q_p27 hk)), zl_s, zl_s, q_dg hN hk, hm _ (by omega) hk, if_pos (by decide), zl_s, show m + (k + 1) = (m + k) + 1 by omega, q_pd27 (by omega)]
    exact ih f (by omega)
/-- both write the letters -/
theorem w_nam_wr {N m : Nat} {l : Nat → Nat} {at' : Nat} {w1 : Int32} (hN : N < 2 ^ 31) (h1 : 1 ≤ m) (h6 : m ≤ 6) (hl : ∀ i, 97 ≤ l i ∧ l i ≤ 122) (hd : ∀ i, i < m → N / 27 ^ (m - (i + 1)) % 27 = l i - 96) (ha : at' + 13 ≤ 151) (hf : ∀ i, i < m → M0.2 2 0 (at' + 7 + i) = nI (l i)) (hz : ∀ i, m ≤ i → i < 6 → M0.2 2 0 (at' + 7 + i) = 0) : ∀ k i T M n f1 f2, i + (k + 1) = m → zO T0 M0 n T M → n + k < 31 → k + 2 < f1 → k + 2 < f2 → ∃ T' M' u v, lp_X3_writeName_4 (nI N) f1 (nI (27 ^ k)) T = some (u, T') ∧ lp_X4_writeChild_26 w1 (nI at') f2 (nI i) M = some (v, M') ∧ zO T0 M0 (n + k + 1) T' M' := by
  have step : ∀ i k, i + (k + 1) = m → (97 : Int32) + nI (N / 27 ^ k % 27) - 1 = nI (l i) := by
    intro i k e
    have := hd i (by omega)
    rw [show m - (i + 1) = k by omega] at this
    have h := hl i
    rw [this, nl_97, nl_1, nI_add, pk_sub (by omega)]
    congr 1; omega
  have rd : ∀ n T M, zO T0 M0 n T M → ∀ j, M.2 2 0 j = M0.2 2 0 j := by
    rintro n T M ⟨g, g', rfl, rfl, -⟩ j; rfl
  intro k
  induction k with
  | zero =>
    intro i T M n f1 f2 e hO hn hf1 hf2
    obtain ⟨f1, rfl⟩ : ∃ g, f1 = g + 2 := ⟨f1 - 2, by omega⟩
    obtain ⟨f2, rfl⟩ : ∃ g, f2 = g + 2 := ⟨f2 - 2, by omega⟩
    obtain ⟨T', M', e1, e2, hO'⟩ := w_byte hO (by omega) (nI (l i))
    have hs := step i 0 e
    have hq := hl i
    have hdg := hd i (by omega)
    rw [show m - (i + 1) = 0 by omega] at hdg
    have fi := hf i (by omega)
    have n3 : ¬ nI (l i) = 0 := nI_ne0 (by omega) (by omega)
    have tail : lp_X4_writeChild_26 w1 (nI at') (f2 + 1) (nI (i + 1)) M' = some (nI (i + 1), M') := by
      rw [lp_X4_writeChild_26]
      by_cases h : i + 1 = 6
      · rw [h, if_pos (by decide)]
      · rw [if_neg (by rw [q_le6 (by omega)]; omega)]
        simp (disch := omega) only [zl_s, q_ad7, nI_add, q_zt, q_clamp, if_true, rd _ _ _ hO', hz (i + 1) (by omega) (by omega)]
    refine ⟨T', M', nI (27 ^ 0) / 27, nI (i + 1), ?_, ?_, hO'⟩
    · rw [lp_X3_writeName_4, if_neg (nI_nle (q_p27p _) (q_p27 (by decide))), if_pos (nI_ne0 (q_p27p _) (q_p27 (by decide))), zl_s, zl_s, q_dg hN (by decide), hdg, if_neg (nI_nle (by omega) (by omega)), ← hdg, hs, e1, zb_s, zl_s, lp_X3_writeName_4, if_pos (by decide)]
    · rw [lp_X4_writeChild_26, if_neg (by rw [q_le6 (by omega)]; omega)]
      simp (disch := omega) only [zl_s, q_ad7, nI_add, q_zt, q_clamp, if_true, rd _ _ _ hO, fi, if_neg n3, e2, zb_s, nI_1]
      exact tail
  | succ k ih =>
    intro i T M n f1 f2 e hO hn hf1 hf2
    obtain ⟨f1, rfl⟩ : ∃ g, f1 = g + 1 := ⟨f1 - 1, by omega⟩
    obtain ⟨f2, rfl⟩ : ∃ g, f2 = g + 1 := ⟨f2 - 1, by omega⟩
    obtain ⟨T1, M1, e1, e2, hO1⟩ := w_byte hO (by omega) (nI (l i))
    have hs := step i (k + 1) e
    have hq := hl i
    have hdg := hd i (by omega)
    rw [show m - (i + 1) = k + 1 by omega] at hdg
    have fi := hf i (by omega)
    have n3 : ¬ nI (l i) = 0 := nI_ne0 (by omega) (by omega)
    obtain ⟨T', M', u, v, e3, e4, hO'⟩ := ih (i + 1) T1 M1 (n + 1) f1 f2 (by omega) hO1 (by omega) (by omega) (by omega)
    refine ⟨T', M', u, v, ?_, ?_, by rw [show n + (k + 1) + 1 = n + 1 + k + 1 by omega]; exact hO'⟩
    · rw [lp_X3_writeName_4, if_neg (nI_nle (q_p27p _) (q_p27 (by omega))), if_pos (nI_ne0 (q_p27p _) (q_p27 (by omega))), zl_s, zl_s, q_dg hN (by omega), hdg, if_neg (nI_nle (by omega) (by omega)), ← hdg, hs, e1, zb_s, zl_s, q_pd27 (by omega), e3]
    · rw [lp_X4_writeChild_26, if_neg (by rw [q_le6 (by omega)]; omega)]
      simp (disch := omega) only [zl_s, q_ad7, nI_add, q_zt, q_clamp, if_true, rd _ _ _ hO, fi, if_neg n3, e2, zb_s, nI_1]
      exact e4
theorem w_nam {f : Nat → Int32} {at' : Nat} {w1 : Int32} (h : zNm f) (ha : at' + 13 ≤ 151) (hf : ∀ i, i < 6 → M0.2 2 0 (at' + 7 + i) = f i) (hO : zO T0 M0 0 T M) : ∃ T' M' v k, f_X3_writeName (znm f) T = some ((), T') ∧ lp_X4_writeChild_26 w1 (nI at') 2000 0 M = some (v, M') ∧ zO T0 M0 k T' M' ∧ k ≤ 6 := by
  obtain ⟨m, l, h1, h2, hl, h3, h4⟩ := h.let
  have hN := nmN_31 hl h2
  obtain ⟨T', M', u, v, e1, e2, hO'⟩ := w_nam_wr (T0 := T0) (M0 := M0) (N := nmN l m) (m := m) (l := l) (at' := at') (w1 := w1) hN h1 h2 hl (fun i hi => by
    have := nmN_div hl (m - (i + 1)) (i + 1)
    rw [show i + 1 + (m - (i + 1)) = m by omega] at this
    rw [this, nmN_mod hl]) ha (fun i hi => by rw [hf i (by omega), h3 i hi]) (fun i hi hi' => by rw [hf i hi', h4 i hi hi']) (m - 1) 0 T M 0 (2000 - (6 - m)) 2000 (by omega) hO (by omega) (by omega) (by omega)
  refine ⟨T', M', v, m, ?_, e2, by rw [show 0 + (m - 1) + 1 = m by omega] at hO'; exact hO', h2⟩
  unfold f_X3_writeName
  rw [znm_nmN h2 hl h3 h4, show (14348907 : Int32) = nI (27 ^ 5) from rfl]
  by_cases h6 : m = 6
  · subst h6
    rw [e1, zb_s]
  · have e3 := w_nam_skip (T := T) (N := nmN l m) (m := m) hN (fun e a b => by
      have : nmN l m < 27 ^ e := Nat.lt_of_lt_of_le (nmN_lt hl m) (Nat.pow_le_pow_right (by decide) a)
      rw [Nat.div_eq_of_lt this]) (5 - m) (2000 - (6 - m)) (by omega)
    obtain ⟨p, rfl⟩ : ∃ p, m = p + 1 := ⟨m - 1, by omega⟩
    rw [show 2000 - (6 - (p + 1)) + (5 - (p + 1) + 1) = 2000 by omega, show p + 1 + (5 - (p + 1)) = 5 by omega, q_pd27 (by omega)] at e3
    rw [e3]
    rw [show p + 1 - 1 = p by omega] at e1
    rw [e1, zb_s]
theorem zO.start (T0 M0 : zT) : zO T0 M0 0 (wI T0 0 0 1 0) (wI M0 0 0 12 0) := ⟨T0.2 0 3, M0.2 8 0, by rw [show (nI 0) = (0 : Int32) from rfl]; exact (q_wAself (T := wI T0 0 0 1 0)).symm, by rw [show (nI 0) = (0 : Int32) from rfl]; exact (q_wAself (T := wI M0 0 0 12 0)).symm, fun j hj => by omega⟩
theorem zO.rel {k : Nat} (h : zRel T0 M0) (hO : zO T0 M0 k T M) (hk : k ≤ 32) : zRel T M := by
  obtain ⟨g, g', rfl, rfl, hg⟩ := hO
  obtain ⟨a1, a2, a3, a4, a5, a6, a7⟩ := h
  exact ⟨a1, a2, a3, a4, ⟨k, hk, by rw [q_wA1]; exact q_wIs, by rw [q_wA1]; exact q_wIs, hg⟩, a6, a7⟩
theorem zO.reg {k : Nat} (hO : zO T0 M0 k T M) : (∀ κ ι, 1 ≤ κ → T.2 κ ι = T0.2 κ ι) ∧ (∀ κ ι j, 1 ≤ κ → T.1 κ ι j = T0.1 κ ι j) ∧ M.2 2 0 = M0.2 2 0 := by
  obtain ⟨g, g', rfl, rfl, hg⟩ := hO
  refine ⟨fun κ ι h => ?_, fun κ ι j h => ?_, rfl⟩
  · rw [q_wAo (by omega), q_wI2]
  · rw [q_wA1, q_wIk (by omega)]
theorem o_writeDate (h : zRel T M) : zOpI (f_X3_writeDate T) (f_X4_writeDate M) := by
  have O0 := zO.start T M
  unfold f_X3_writeDate f_X4_writeDate f_X3_dayAt f_X3_monthAt
  have d1 : ∀ k T' M', zO T M k T' M' → T'.1 1 0 1 = M.2 2 0 1 := fun k T' M' hO => (hO.reg.2.1 1 0 1 (by decide)).trans h.R.f1
  have d0 : ∀ k T' M', zO T M k T' M' → T'.1 1 0 0 = M.2 2 0 0 := fun k T' M' hO => (hO.reg.2.1 1 0 0 (by decide)).trans h.R.f0
  have m1 : ∀ k T' M' j, zO T M k T' M' → M'.2 2 0 j = M.2 2 0 j := fun k T' M' j hO => by rw [hO.reg.2.2]
  simp only [zl_s, zb_s]
  rw [d1 _ _ _ O0, m1 _ _ _ 1 O0]
  obtain ⟨T1, M1, k1, a1, b1, O1, l1⟩ := w_num O0 (M.2 2 0 1 - M.2 2 0 1 / 30 * 30 + 1) (by omega)
  rw [a1, b1, zb_s, zb_s]
  obtain ⟨T2, M2, a2, b2, O2⟩ := w_byte O1 (by omega) 46
  rw [a2, b2, zb_s, zb_s, d1 _ _ _ O2, m1 _ _ _ 1 O2]
  obtain ⟨T3, M3, k3, a3, b3, O3, l3⟩ := w_num O2 (M.2 2 0 1 / 30 + 1) (by omega)
  rw [a3, b3, zb_s, zb_s]
  obtain ⟨T4, M4, a4, b4, O4⟩ := w_byte O3 (by omega) 46
  rw [a4, b4, zb_s, zb_s, d0 _ _ _ O4, m1 _ _ _ 0 O4]
  obtain ⟨T5, M5, k5, a5, b5, O5, l5⟩ := w_num O4 (M.2 2 0 0) (by omega)
  rw [a5, b5, zb_s, zb_s, q_told, zb_s, O5.T1, O5.M1]
  exact ⟨_, _, _, rfl, rfl, (O5.rel h (by omega)).thr 0⟩
theorem o_outputByte (h : zRel T M) (p : Int32) : zOpX [(2, 1)] (f_X3_outputByte p T) (f_X4_outputByte p M) := by
  obtain ⟨k, hk, e1, e2, e3⟩ := h.2.2.2.2.1
  unfold f_X3_outputByte f_X4_outputByte
  rw [e1, e2]
  rcases q_cut (p := p) (n := k) (by omega) with hp | ⟨c, hc, rfl⟩
  · refine zOpX.ex h 2 1 (by simp) ?_ ?_
    · rcases hp with hp | hp
      · rw [if_pos hp]
      · by_cases h0 : p < 0
        · rw [if_pos h0]
        · rw [if_neg h0, if_pos hp]
    · rw [q_in_f (by omega) hp]; rfl
  · refine zOpX.ro h (v := M.2 8 0 c) ?_ ?_
    · rw [if_neg (nI_pos (by omega)), if_neg (nI_ge hc (by omega)), if_pos (show nI c < (32 : Int32) from nI_lt (b := 32) (by omega) (by decide)), if_pos (of_eq_true (q_zt (show c < 32 by omega) (by decide))), nI_clamp (by omega), e3 c hc]
    · rw [q_in_t (by omega) hc, zb_s, if_neg (show ¬ (1 : Int32) = 0 by decide), if_pos (of_eq_true (q_zt (show c < 40 by omega) (by decide))), nI_clamp (by omega)]; rfl
theorem o_writeChild (h : zRel T M) (p : Int32) : zOpX [(2, 1)] (f_X3_writeChild p T) (f_X4_writeChild p M) := by
  have n10 := h.I.n10
  unfold f_X3_writeChild f_X4_writeChild
  rcases q_cut (p := p) (n := zn (M.2 2 0)) (by omega) with hp | ⟨c, hc, rfl⟩
  · refine zOpX.ex h 2 1 (by simp) ?_ ?_
    · rw [qx_needC_f h hp, zx_r]
    · rw [qm_isC_f h hp]; rfl
  have O0 := zO.start T M
  have tt : ∀ κ k T' M', 4 ≤ κ → zO T M k T' M' → f_X3_cell κ 0 (nI c) T' = some (T.2 κ 0 c, T') := fun κ k T' M' hκ hO => by rw [q_cellc hκ (by omega), hO.reg.1 κ 0 (by omega)]
  have mm : ∀ k T' M', zO T M k T' M' → M'.2 2 0 = M.2 2 0 := fun k T' M' hO => hO.reg.2.2
  rw [qx_needC_t h hc, qm_isC_t h hc, zx_l, zb_s, if_neg (show ¬ (1 : Int32) = 0 by decide), zl_s, q_c, zb_s, zl_s, tt 4 _ _ _ (by decide) O0, zb_s, h.R.nm hc]
  obtain ⟨T1, M1, v, k1, a1, b1, O1, l1⟩ := w_nam (w1 := nI c) (at' := 21 + 13 * c) (h.I.c hc).2.2.2 (by omega) (fun i hi => rfl) O0
  rw [a1, b1, zb_s, zb_s]
  unfold jn_X4_writeChild_67
  obtain ⟨T2, M2, a2, b2, O2⟩ := w_byte O1 (by omega) 32
  rw [a2, b2, zb_s, zb_s, tt 7 _ _ _ (by decide) O2, zb_s, h.R.ag hc]
  simp (disch := omega) only [zl_s, q_ad2, q_zt, q_clamp, if_true, mm _ _ _ O2]
  obtain ⟨T3, M3, k3, a3, b3, O3, l3⟩ := w_num O2 (M.2 2 0 (21 + 13 * c + 2)) (by omega)
  rw [a3, b3, zb_s, zb_s, tt 9 _ _ _ (by decide) O3, zb_s, h.R.bi hc, q_has (mm _ _ _ O3) (by omega), zb_s]
  rcases (h.I.c hc).2.2.1 with hb | ⟨x, hx, hb⟩
  · rw [if_pos hb, if_pos hb, if_pos rfl, q_told, zb_s, O3.T1, O3.M1]
    exact Or.inl ⟨_, _, _, rfl, rfl, rfl, (O3.rel h (by omega)).thr 0⟩
  · have hn : ¬ M.2 2 0 (21 + 13 * c + 4) = -1 := by rw [hb, q_m1ne (by omega)]; exact id
    have e1 : nI x / 30 + 1 = nI (x / 30 + 1) := by rw [nl_30, pk_div (by omega) (by decide) (by decide), nI_1]
    have e2 : nI x - nI x / 30 * 30 + 1 = nI (x % 30 + 1) := by rw [nl_30, pk_rem (by omega) (by decide) (by decide), nI_1]
    rw [if_neg hn, if_neg hn, if_neg (show ¬ (1 : Int32) = 0 by decide), hb]
    obtain ⟨T4, M4, a4, b4, O4⟩ := w_byte O3 (by omega) 32
    obtain ⟨T5, M5, k5, a5, b5, O5, l5⟩ := w_num2 O4 (v := x / 30 + 1) (by omega) (by omega)
    obtain ⟨T6, M6, a6, b6, O6⟩ := w_byte O5 (by omega) 47
    obtain ⟨T7, M7, k7, a7, b7, O7, l7⟩ := w_num2 O6 (v := x % 30 + 1) (by omega) (by omega)
    have em : ∀ U : zT, f_X3_monthAt (nI x) U = some (nI (x / 30 + 1), U) := fun U => by unfold f_X3_monthAt; rw [e1]
    have ed : ∀ U : zT, f_X3_dayAt (nI x) U = some (nI (x % 30 + 1), U) := fun U => by unfold f_X3_dayAt; rw [e2]
    rw [a4, b4, zb_s, zb_s, em, zb_s, a5, zb_s, a6, zb_s, ed, zb_s, a7, zb_s, O7.T1]
    simp (disch := omega) only [zl_s, q_ad4, q_zt, q_clamp, if_true, mm _ _ _ O4, mm _ _ _ O6, hb, e1, e2, b5, b6, b7, zb_s, q_told, O7.M1]
    exact Or.inl ⟨_, _, _, rfl, rfl, rfl, (O7.rel h (by omega)).thr 0⟩
end OV
