/-! ADVANCE, THE FORECASTS, RESTORE, UNDO, SAVE -/
section CI
variable {T M : zT}
theorem q_late {y t d : Nat} (hy : y ≤ 99) (ht : t < 360) (hd : d ≤ 720) : (nI d ≤ nI ((99 - y) * 360 + 359 - t) ↔ (nI y * 360 + nI t) + nI d < 36000) := by
  rw [nl_360, pk_mul, nI_add, nI_add, nl_36000, nI_leI (by omega) (by omega), nI_ltI (by omega) (by omega)]
  omega
theorem o_advance (h : zRel T M) (p : Int32) : zOpX [(1, 1), (0, 2)] (f_X3_advance p T) (f_X4_advance p M) := by
  unfold f_X3_advance f_X4_advance
  rw [q_in, zb_s]
  rcases q_rng (p := p) (a := 1) (b := 720) (by decide) (by decide) with h1 | h1 | ⟨d, hd1, hd2, rfl⟩
  · rw [← nl_1] at h1
    rw [if_pos h1, if_pos h1]
    exact zOpX.ex h 1 1 (by simp) rfl rfl
  · rw [← nl_720] at h1
    by_cases h0 : p < 1
    · rw [if_pos h0, if_pos h0]
      exact zOpX.ex h 1 1 (by simp) rfl rfl
    · rw [if_neg h0, if_neg h0, if_neg (Int32.not_le.mpr h1), if_pos h1]
      exact zOpX.ex h 1 1 (by simp) rfl rfl
  have e1 : ¬ nI d < 1 := nI_nlt (b := 1) hd1 (by omega)
  have e2 : nI d ≤ 720 := nI_le (b := 720) hd2 (by decide)
  obtain ⟨y, hy9, hy⟩ := h.y
  obtain ⟨t, ht3, ht⟩ := h.I.date
  rw [if_neg e1, if_neg e1, if_pos e2, if_neg (Int32.not_lt.mpr e2), if_neg (show ¬ (1 : Int32) = 0 by decide), qx_left h.R ht ht3 hy hy9, zb_s]
  unfold f_X4_isTooLate
  rw [hy, ht]
  by_cases hl : nI d ≤ nI ((99 - y) * 360 + 359 - t)
  · have hl2 := (q_late hy9 ht3 hd2).mp hl
    rw [if_pos hl, if_pos hl2, zb_s, if_pos rfl]
    obtain ⟨T1, f, c', e3, e4, hh⟩ := w_rec h
    obtain ⟨x, T2, σ', e5, e6, hg, y', t', a1, a2, a3, a4⟩ := w_pass (M := wI (wA M 4 0 f) 0 0 5 (nI c')) hd2 hh.R hh.I rfl hy ht ht3
    rw [e3, e4, zb_s, zb_s, e5, e6, zb_s, zb_s, q_told, zb_s]
    have hy' : y' ≤ 99 := by
      rw [nI_leI (by omega) (by omega)] at hl
      omega
    exact Or.inl ⟨_, _, _, rfl, rfl, rfl, (hh.up (zGd.go hg ⟨y', hy', a2⟩) hg.2.2.1).thr 0⟩
  · have hl2 : ¬ (nI y * 360 + nI t) + nI d < 36000 := fun z => hl ((q_late hy9 ht3 hd2).mpr z)
    rw [if_neg hl, if_neg hl2, zb_s, if_neg (by decide)]
    exact zOpX.ex h 0 2 (by simp) rfl rfl
theorem w_aside {M : zT} : f_X4_putsAside M = some ((), wA M 3 0 (va_cpy (M.2 2 0) (M.2 3 0) 0 0 151)) := by
  have e := q_pa_l (M := M) 151 0 2000 (by decide) (by decide)
  rw [q_cpy0, q_wAself, ← nl_0] at e
  unfold f_X4_putsAside
  rw [e, zb_s]
theorem w_back {M : zT} : f_X4_putsBack M = some ((), wA M 2 0 (va_cpy (M.2 3 0) (M.2 2 0) 0 0 151)) := by
  have e := q_pb_l (M := M) 151 0 2000 (by decide) (by decide)
  rw [q_cpy0, q_wAself, ← nl_0] at e
  unfold f_X4_putsBack
  rw [e, zb_s]
/-- the model's now, put aside, changed and put back -/
theorem zRel.back {σ f : Nat → Int32} (h : zRel T M) (hf : ∀ k, k < 151 → f k = M.2 2 0 k) : zRel T (wA (wA (wA M 3 0 (va_cpy (M.2 2 0) (M.2 3 0) 0 0 151)) 2 0 σ) 2 0 f) := by
  obtain ⟨a1, a2, a3, a4, a5, a6, a7⟩ := h
  refine ⟨?_, a2, a3, a4, a5, a6, a7⟩
  rw [q_wAs]; exact a1.congr hf
/-- the forecast -/
theorem w_fore {d : Nat} (h : zRel T M) (hd : d ≤ 720) : ∃ T' σ', f_X3_forecastDays (nI d) T = some ((), T') ∧ (∃ x, f_X4_passes (nI d) (wA M 3 0 (va_cpy (M.2 2 0) (M.2 3 0) 0 0 151)) = some (x, wA (wA M 3 0 (va_cpy (M.2 2 0) (M.2 3 0) 0 0 151)) 2 0 σ')) ∧ zRR T' 1 σ' ∧ zn σ' = zn (M.2 2 0) ∧ zRel T' M := by
  obtain ⟨y, hy9, hy⟩ := h.y
  obtain ⟨t, ht3, ht⟩ := h.I.date
  obtain ⟨T1, c1, R1, F1⟩ := w_copy (r := 1) (q := 0) (by decide) h.R h.I
  obtain ⟨x, T2, σ', e5, e6, hg, -⟩ := w_pass (T := T1) (M := wA M 3 0 (va_cpy (M.2 2 0) (M.2 3 0) 0 0 151)) (ρ := 1) hd R1 h.I rfl hy ht ht3
  refine ⟨T2, σ', ?_, ⟨x, e6⟩, hg.1, hg.2.2.2.1, h.other (zfr_trans F1 hg.2.2.1) (fun κ ι z => ⟨z.1, Or.inl z.2.2⟩)⟩
  unfold f_X3_forecastDays
  rw [c1, zb_s, e5, zb_s]
theorem q_days (p : Int32) : (f_X3_needForecastDays p T = some (.inr 1, T) ∧ f_X4_in p 0 720 M = some (0, M)) ∨ ∃ d, d ≤ 720 ∧ p = nI d ∧ f_X3_needForecastDays p T = some (.inl (), T) ∧ f_X4_in p 0 720 M = some (1, M) := by
  unfold f_X3_needForecastDays
  rw [q_in]
  rcases q_rng (p := p) (a := 0) (b := 720) (by decide) (by decide) with h1 | h1 | ⟨d, hd1, hd2, rfl⟩
  · rw [← nl_0] at h1
    exact Or.inl ⟨by rw [if_pos h1], by rw [if_pos h1]⟩
  · rw [← nl_720] at h1
    by_cases h0 : p < 0
    · exact Or.inl ⟨by rw [if_pos h0], by rw [if_pos h0]⟩
    · exact Or.inl ⟨by rw [if_neg h0, if_neg (Int32.not_le.mpr h1)], by rw [if_neg h0, if_pos h1]⟩
  · have e1 : ¬ nI d < 0 := nI_pos (by omega)
    have e2 : nI d ≤ 720 := nI_le (b := 720) hd2 (by decide)
    exact Or.inr ⟨d, hd2, rfl, by rw [if_neg e1, if_pos e2], by rw [if_neg e1, if_neg (Int32.not_lt.mpr e2)]⟩
theorem q_bk {M : zT} {σ : Nat → Int32} : ∀ k, k < 151 → va_cpy ((wA (wA M 3 0 (va_cpy (M.2 2 0) (M.2 3 0) 0 0 151)) 2 0 σ).2 3 0) ((wA (wA M 3 0 (va_cpy (M.2 2 0) (M.2 3 0) 0 0 151)) 2 0 σ).2 2 0) 0 0 151 k = M.2 2 0 k := by
  intro k hk
  rw [q_wAo (by decide), q_wAs, pk_cpy_in (by omega) (by omega), pk_cpy_in (by omega) (by omega), show 0 + (0 + (k - 0) - 0) = k by omega]
theorem o_candlesAfter (h : zRel T M) (p : Int32) : zOpX [(1, 1)] (f_X3_candlesAfter p T) (f_X4_candlesAfter p M) := by
  unfold f_X3_candlesAfter f_X4_candlesAfter
  rcases q_days (T := T) (M := M) p with ⟨e1, e2⟩ | ⟨d, hd, rfl, e1, e2⟩
  · rw [e1, e2]
    exact zOpX.ex h 1 1 (by simp) rfl rfl
  obtain ⟨T', σ', e3, ⟨x, e4⟩, R', -, h'⟩ := w_fore h hd
  rw [e1, e2, zx_l, zb_s, if_neg (show ¬ (1 : Int32) = 0 by decide), e3, zb_s, w_aside, zb_s, e4, zb_s, zl_s, w_back, zb_s, q_told, zb_s]
  exact Or.inl ⟨_, _, _, rfl, by rw [R'.f3, q_wAs], rfl, (h'.back q_bk).thr 0⟩
theorem o_wishesAfter (h : zRel T M) (p q : Int32) : zOpX [(2, 1), (1, 2)] (f_X3_wishesAfter p q T) (f_X4_wishesAfter p q M) := by
  have n10 := h.I.n10
  unfold f_X3_wishesAfter f_X4_wishesAfter
  rcases q_cut (p := p) (n := zn (M.2 2 0)) (by omega) with hp | ⟨c, hc, rfl⟩
  · refine zOpX.ex h 2 1 (by simp) ?_ ?_
    · rw [qx_needC_f h hp, zx_r]
    · rw [qm_isC_f h hp]; rfl
  rw [qx_needC_t h hc, qm_isC_t h hc, zx_l, zb_s, if_neg (show ¬ (1 : Int32) = 0 by decide)]
  rcases q_days (T := T) (M := M) q with ⟨e1, e2⟩ | ⟨d, hd, rfl, e1, e2⟩
  · rw [e1, e2]
    exact zOpX.ex h 1 2 (by simp) rfl rfl
  obtain ⟨T', σ', e3, ⟨x, e4⟩, R', hn, h'⟩ := w_fore h hd
  rw [e1, e2, zx_l, zb_s, if_neg (show ¬ (1 : Int32) = 0 by decide), e3, zb_s, w_aside, zb_s, e4, zb_s, q_cellc (by decide) (by omega), zb_s, R'.wi (by omega)]
  simp (disch := omega) only [zb_s, zl_s, q_c, q_ad6, q_zt, q_clamp, if_true, w_back, q_told]
  exact Or.inl ⟨_, _, _, rfl, by rw [q_wAs], rfl, (h'.back q_bk).thr 0⟩
theorem o_undo (h : zRel T M) : zOpX [(0, 1)] (f_X3_undo T) (f_X4_undo M) := by
  have h' := h
  obtain ⟨g0, ⟨nx, ct, hnx, hct, e1, e2, e3, e4⟩, hsv, hbu, hou, her, hky⟩ := h
  unfold f_X3_undo f_X4_undo
  rw [e2, e3]
  by_cases h0 : ct = 0
  · subst h0
    rw [if_pos nI_0, if_pos nI_0]
    exact zOpX.ex h' 0 1 (by simp) rfl rfl
  have hz : ¬ nI ct = 0 := nI_ne0 (by omega) (by omega)
  rw [if_neg hz, if_neg hz]
  obtain ⟨c, rfl⟩ : ∃ c, ct = c + 1 := ⟨ct - 1, by omega⟩
  have er : nI (nx + 10) - 1 - (nI (nx + 10) - 1) / 10 * 10 = nI ((nx + 9) % 10) := by
    rw [show nx + 10 = (nx + 9) + 1 by omega, nI_pred]
    exact pk_rem (by omega) (by decide) (by decide)
  have gi := e4 c (by omega)
  rw [show (nx + 10 - (c + 1) + c) % 10 = (nx + 9) % 10 by omega] at gi
  have hm : (if nI (c + 1) - 1 < 0 then 0 else nI (c + 1) - 1) = nI c := by rw [nI_pred, if_neg (nI_pos (by omega))]
  obtain ⟨T1, t1⟩ : ∃ z, z = wI (wI T 0 2 1 (nI ((nx + 9) % 10))) 0 2 2 (nI c) := ⟨_, rfl⟩
  have F1 : zfr (fun κ ι => κ = 0 ∧ ι = 2) T T1 := by rw [t1]; exact zfr_trans (zfr_wI ⟨rfl, rfl⟩) (zfr_wI ⟨rfl, rfl⟩)
  have gi1 := gi.fr F1 (fun κ x _ z => by omega)
  obtain ⟨T2, c1, R2, F2⟩ := w_copy (T := T1) (r := 0) (q := 3 + (nx + 9) % 10) (by omega) gi1.1 gi1.2.1
  have cx : f_X0_takeBack 0 T = some ((), T2) := by
    unfold f_X0_takeBack
    rw [e1, nl_10, nI_add, ← nl_10, zl_s, zl_s, zl_s, er, q_wIk (by omega), e2, hm, zl_s, zl_s, ← t1, show T1.1 0 2 1 = nI ((nx + 9) % 10) by rw [t1, q_wIk (by omega), q_wIs], w_state (by omega), zb_s]
    simp only
    rw [if_pos (show 3 + (nx + 9) % 10 < 15 by omega), c1, zb_s]
  have e5 := q_un_l (M := wI M 0 0 5 (nI c)) (ct := c) (by omega) q_wIs 151 0 2000 (by decide) (by decide)
  rw [q_cpy0, q_wAself, ← nl_0] at e5
  have F3 : zfr (fun κ ι => zPr 0 κ ι ∨ (κ = 0 ∧ ι = 2)) T T2 := zfr_trans (zfr_mono F1 (fun _ _ z => Or.inr z)) (zfr_mono F2 (fun _ _ z => Or.inl z))
  have e22 : T2.1 0 2 2 = nI c := by rw [zfr_1 F2 (fun z => by have := z.1; omega), t1, q_wIs]
  have e21 : T2.1 0 2 1 = nI ((nx + 9) % 10) := by rw [zfr_1 F2 (fun z => by have := z.1; omega), t1, q_wIk (by omega), q_wIs]
  rw [cx, zb_s, nI_pred, zl_s, zl_s, e5, zb_s, e22, q_told, zb_s, q_wA1, q_wIs]
  refine Or.inl ⟨_, _, _, rfl, rfl, rfl, zRel.thr ?_ 0⟩
  refine ⟨?_, ?_, ?_, ?_, ?_, ?_, hky⟩
  · rw [q_wAs]
    refine zGd.congr ⟨R2, gi.2⟩ (fun k hk => ?_)
    rw [pk_cpy_in (by omega) (by omega)]
    show M.2 4 0 (c * 151 + (k - 0)) = M.2 4 0 (151 * c + k)
    rw [show c * 151 + (k - 0) = 151 * c + k by omega]
  · refine ⟨(nx + 9) % 10, c, by omega, by omega, e21, e22, rfl, fun i hi => ?_⟩
    have := (e4 i (by omega)).fr F3 (fun κ x _ z => by rcases z with z | z; have := z.2.2; omega; omega)
    rw [show (nx + 10 - (c + 1) + i) % 10 = ((nx + 9) % 10 + 10 - c + i) % 10 by omega] at this
    exact this
  · exact hsv.fr F3 (fun z => by rcases z with z | z; have := z.1; omega; omega) (fun κ x _ => ⟨fun z => by rcases z with z | z; have := z.2.2; omega; omega, fun z => by rcases z with z | z; have := z.2.2; omega; omega⟩)
  · exact hbu.fr F3 (fun z => by rcases z with z | z; have := z.1; omega; omega) (fun z => by rcases z with z | z; have := z.1; omega; omega)
  · exact hou.fr F3 (fun z => by rcases z with z | z; have := z.1; omega; omega) (fun z => by rcases z with z | z; have := z.1; omega; omega)
  · exact her.fr F3 (fun z => by rcases z with z | z; have := z.1; omega; omega)
theorem q_bit {b0 b1 s : Nat} (h0 : b0 < 2) (h1 : b1 < 2) (hs : s < 2) : ((nI (b0 + 2 * b1) >>> (nI s &&& 31)) &&& 1 = 0) = ((if s = 0 then b0 else b1) = 0) ∧ nI (b0 + 2 * b1) ||| (1 <<< (nI s &&& 31)) = nI (if s = 0 then 1 + 2 * b1 else b0 + 2) := by
  rcases (by omega : b0 = 0 ∨ b0 = 1) with rfl | rfl <;> rcases (by omega : b1 = 0 ∨ b1 = 1) with rfl | rfl <;> rcases (by omega : s = 0 ∨ s = 1) with rfl | rfl <;> exact ⟨by decide, by decide⟩
theorem q_slot (p : Int32) : (f_X3_needSlot p T = some (.inr 2, T) ∧ f_X4_in p 0 1 M = some (0, M)) ∨ ∃ s, s < 2 ∧ p = nI s ∧ f_X3_needSlot p T = some (.inl (), T) ∧ f_X4_in p 0 1 M = some (1, M) := by
  unfold f_X3_needSlot
  have e5 : (1 : Int32) = nI 2 - 1 := by decide
  rcases q_cut (p := p) (n := 2) (by decide) with hp | ⟨c, hc, rfl⟩
  · exact Or.inl ⟨by rw [nl_2, q_need_f hp], by rw [show f_X4_in p 0 1 M = f_X4_in p 0 (nI 2 - 1) M by rw [← e5], q_in_f (by decide) hp]⟩
  · exact Or.inr ⟨c, hc, rfl, by rw [nl_2, q_need_t (by decide) hc], by rw [show f_X4_in (nI c) 0 1 M = f_X4_in (nI c) 0 (nI 2 - 1) M by rw [← e5], q_in_t (by decide) hc]⟩
theorem w_stin {s : Nat} (h : s < 2) : f_X3_stateIn (nI s) T = some (some (13 + s), T) := by
  unfold f_X3_stateIn
  rw [if_neg (nI_pos (by omega)), if_neg (show ¬ (2 : Int32) ≤ nI s from nI_ge (b := 2) h (by decide)), if_pos (of_eq_true (q_zt h (by decide))), nI_clamp (by omega)]
theorem w_fill {s : Nat} (h : s < 2) : f_X3_isFilled (nI s) T = some ((if T.2 0 5 s = 0 then 0 else 1), T) := by
  unfold f_X3_isFilled
  rw [if_neg (nI_pos (by omega)), if_neg (show ¬ (2 : Int32) ≤ nI s from nI_ge (b := 2) h (by decide)), if_pos (of_eq_true (q_zt h (by decide))), nI_clamp (by omega)]
  split <;> rfl
theorem o_restore (h : zRel T M) (p : Int32) : zOpX [(2, 1), (0, 2)] (f_X3_restore p T) (f_X4_restore p M) := by
  unfold f_X3_restore f_X4_restore
  rcases q_slot (T := T) (M := M) p with ⟨e1, e2⟩ | ⟨s, hs, rfl, e1, e2⟩
  · rw [e1, e2]
    exact zOpX.ex h 2 1 (by simp) rfl rfl
  obtain ⟨b0, b1, hb0, hb1, s0, s1, ms, g0, g1⟩ := h.2.2.1
  have hT : T.2 0 5 s = nI (if s = 0 then b0 else b1) := by
    rcases (by omega : s = 0 ∨ s = 1) with rfl | rfl
    · exact s0
    · exact s1
  have hbt := (q_bit hb0 hb1 hs).1
  rw [e1, e2, zx_l, zb_s, if_neg (show ¬ (1 : Int32) = 0 by decide), w_stin hs, zb_s, ms]
  simp only
  rw [if_pos (show 13 + s < 15 by omega), w_fill hs, zb_s, hT]
  simp only [hbt]
  by_cases hb : (if s = 0 then b0 else b1) = 0
  · rw [if_pos hb, hb, if_pos nI_0, if_pos rfl]
    exact zOpX.ex h 0 2 (by simp) rfl rfl
  · have hg : zGd T (13 + s) (zrow (M.2 5 0) s) := by
      rcases (by omega : s = 0 ∨ s = 1) with rfl | rfl
      · rw [if_pos rfl] at hb; exact g0 (by omega)
      · rw [if_neg (by decide)] at hb; exact g1 (by omega)
    have hb2 : (if s = 0 then b0 else b1) < 2 := by split <;> omega
    rw [if_neg hb, if_neg (nI_ne0 (by omega) (by omega)), if_neg (show ¬ (1 : Int32) = 0 by decide)]
    obtain ⟨T1, f, c', e3, e4, hh⟩ := w_rec h
    have hg1 : zGd T1 (13 + s) (zrow (M.2 5 0) s) := by
      obtain ⟨d0, d1, hd0, hd1, t0, t1, mt, q0, q1⟩ := hh.2.2.1
      have e7 : (wI (wA M 4 0 f) 0 0 5 (nI c')).1 0 0 7 = M.1 0 0 7 := rfl
      rw [e7, ms] at mt
      have hq := q_inj mt (by omega) (by omega)
      rcases (by omega : s = 0 ∨ s = 1) with rfl | rfl
      · rw [if_pos rfl] at hb; exact q0 (by omega)
      · rw [if_neg (by decide)] at hb; exact q1 (by omega)
    obtain ⟨T2, c1, R2, F2⟩ := w_copy (T := T1) (r := 0) (q := 13 + s) (by omega) hg1.1 hg1.2.1
    have e5 := q_rs_l (M := wI (wA M 4 0 f) 0 0 5 (nI c')) (sl := s) hs 151 0 2000 (by decide) (by decide)
    rw [q_cpy0, q_wAself, ← nl_0] at e5
    have hrow : ∀ k, k < 151 → va_cpy ((wI (wA M 4 0 f) 0 0 5 (nI c')).2 5 0) ((wI (wA M 4 0 f) 0 0 5 (nI c')).2 2 0) (s * 151) 0 151 k = zrow (M.2 5 0) s k := by
      intro k hk
      rw [pk_cpy_in (by omega) (by omega)]
      show M.2 5 0 (s * 151 + (k - 0)) = M.2 5 0 (151 * s + k)
      rw [show s * 151 + (k - 0) = 151 * s + k by omega]
    rw [e3, e4, zb_s, zb_s, c1, e5, zb_s, zb_s, q_told, zb_s, q_wAs]
    refine Or.inl ⟨_, _, _, rfl, ?_, rfl, (hh.up (zGd.congr ⟨R2, hg1.2⟩ hrow) F2).thr 0⟩
    rw [R2.f0, hrow 0 (by decide)]
theorem o_save (h : zRel T M) (p : Int32) : zOpX [(2, 1)] (f_X3_save p T) (f_X4_save p M) := by
  unfold f_X3_save f_X4_save
  rcases q_slot (T := T) (M := M) p with ⟨e1, e2⟩ | ⟨s, hs, rfl, e1, e2⟩
  · rw [e1, e2]
    exact zOpX.ex h 2 1 (by simp) rfl rfl
  have h' := h
  obtain ⟨gd, hhi, ⟨b0, b1, hb0, hb1, s0, s1, ms, g0, g1⟩, hbu, hou, her, hky⟩ := h'
  obtain ⟨T1, c1, R1, F1⟩ := w_copy (T := T) (r := 13 + s) (q := 0) (by omega) gd.1 gd.2.1
  have e5 := q_sv_l (M := M) (sl := s) hs 151 0 2000 (by decide) (by decide)
  rw [q_cpy0, q_wAself, ← nl_0] at e5
  have hbt := (q_bit hb0 hb1 hs).2
  have vb : vp_nar .boolean 1 = 1 := by decide
  rw [e1, e2, zx_l, zb_s, if_neg (show ¬ (1 : Int32) = 0 by decide), w_stin hs, zb_s]
  simp only
  rw [if_pos (show 13 + s < 15 by omega), if_neg (nI_pos (by omega)), if_neg (show ¬ (2 : Int32) ≤ nI s from nI_ge (b := 2) hs (by decide)), c1, zb_s, if_pos (of_eq_true (q_zt hs (by decide))), zl_s, nI_clamp (by omega), vb, e5, zb_s, zl_s, zl_s]
  simp only [q_wA1, ms, hbt, q_told, zb_s]
  obtain ⟨T2, t2⟩ : ∃ z, z = wA T1 0 5 (upd (T1.2 0 5) s 1) := ⟨_, rfl⟩
  have F2 : zfr (fun κ ι => zPr (13 + s) κ ι ∨ (κ = 0 ∧ ι = 5)) T T2 := by
    rw [t2]; exact zfr_trans (zfr_mono F1 (fun _ _ z => Or.inl z)) (zfr_wA (Or.inr ⟨rfl, rfl⟩))
  have F3 : zfr (fun κ ι => κ = 0 ∧ ι = 5) T1 T2 := by rw [t2]; exact zfr_wA ⟨rfl, rfl⟩
  have e05 : T1.2 0 5 = T.2 0 5 := zfr_2 F1 (fun z => by have := z.1; omega)
  have gn : zGd T2 (13 + s) (M.2 2 0) := zGd.fr ⟨R1, gd.2⟩ F3 (fun κ x _ z => by omega)
  have hrow : ∀ k, k < 151 → va_cpy (M.2 2 0) (M.2 5 0) 0 (s * 151) 151 (151 * s + k) = M.2 2 0 k := by
    intro k hk
    rw [pk_cpy_in (by omega) (by omega), show 0 + (151 * s + k - s * 151) = k by omega]
  rw [← t2]
  have ev : T1.1 1 0 0 = M.2 2 0 0 := (zfr_1 F1 (fun z => by have := z.2.2; omega) 0).trans gd.1.f0
  rw [ev]
  refine Or.inl ⟨_, T2, _, rfl, rfl, rfl, zRel.thr ?_ 0⟩
  refine ⟨?_, ?_, ?_, ?_, ?_, ?_, hky⟩
  · exact gd.fr F2 (fun κ x _ z => by rcases z with z | z; have := z.2.2; omega; omega)
  · exact hhi.fr F2 (fun z => by rcases z with z | z; have := z.1; omega; omega) (fun κ ρ a b c d z => by rcases z with z | z; have := z.2.2; omega; omega)
  · have hT2 : T2.2 0 5 = upd (T.2 0 5) s 1 := by rw [t2, q_wAs, e05]
    have e57 : (wI (wA M 5 0 (va_cpy (M.2 2 0) (M.2 5 0) 0 (s * 151) 151)) 0 0 7 (nI (if s = 0 then 1 + 2 * b1 else b0 + 2))).2 5 0 = va_cpy (M.2 2 0) (M.2 5 0) 0 (s * 151) 151 := by rw [q_wI2, q_wAs]
    rcases (by omega : s = 0 ∨ s = 1) with rfl | rfl
    · refine ⟨1, b1, by decide, hb1, by rw [hT2, pk_us]; rfl, by rw [hT2, pk_un (by decide)]; exact s1, rfl, fun _ => ?_, fun hb => ?_⟩
      · rw [e57]; exact gn.congr (fun k hk => hrow k hk)
      · rw [e57]
        exact ((g1 hb).fr F2 (fun κ x _ z => by rcases z with z | z; have := z.2.2; omega; omega)).congr (fun k hk => pk_cpy_out (by omega))
    · refine ⟨b0, 1, hb0, by decide, by rw [hT2, pk_un (by decide)]; exact s0, by rw [hT2, pk_us]; rfl, rfl, fun hb => ?_, fun _ => ?_⟩
      · rw [e57]
        exact ((g0 hb).fr F2 (fun κ x _ z => by rcases z with z | z; have := z.2.2; omega; omega)).congr (fun k hk => pk_cpy_out (by omega))
      · rw [e57]; exact gn.congr (fun k hk => hrow k hk)
  · exact hbu.fr F2 (fun z => by rcases z with z | z; have := z.1; omega; omega) (fun z => by rcases z with z | z; have := z.1; omega; omega)
  · exact hou.fr F2 (fun z => by rcases z with z | z; have := z.1; omega; omega) (fun z => by rcases z with z | z; have := z.1; omega; omega)
  · exact her.fr F2 (fun z => by rcases z with z | z; have := z.1; omega; omega)
end CI
