/-! LINES: days, draw, birthday -/
section LO
variable {T0 M0 T M : zT} {n : Nat}
theorem w_numR {e0 : Nat} (hC : zCx T0 M0 n) (hP : zPh T0 M0 n T M) (h0 : T.1 0 1 2 = 0) (h22 : M.1 0 0 22 = 0) (hB : zBh n e0 T M) : ∃ k s e, (zTw T k s e).1 0 1 7 = nI s ∧ (zTw T k s e).1 0 1 8 = nI e ∧ M.1 0 0 19 = nI s ∧ s ≤ e ∧ e ≤ n ∧ e0 ≤ s ∧ zPh T0 M0 n (zTw T k s e) M ∧ (zTw T k s e).1 0 1 2 = 0 ∧ (((∀ lo hi, f_X1_readNumber lo hi T = zb (f_X1_fail 1 (zTw T k s e)) (fun _ T' => some (0, T'))) ∧ (∀ lo hi, f_X4_here lo hi M = zb (f_X4_errs 1 M) (fun _ M' => some (lo, M')))) ∨ ((zTw T k s e).1 0 1 6 = nI 2 ∧ M.1 0 0 18 = 2 ∧ M.1 0 0 20 = nI e ∧ ∃ v, (∀ lo hi, f_X1_readNumber lo hi T = (if v < lo then zb (f_X1_fail 2 (zTw T k s e)) (fun _ T' => some (0, T')) else if v ≤ hi then some (v, zTw T k s e) else zb (f_X1_fail 2 (zTw T k s e)) (fun _ T' => some (0, T')))) ∧ ∀ lo hi, f_X4_here lo hi M = (if v < lo then zb (f_X4_errs 2 M) (fun _ M' => some (lo, M')) else if hi < v then zb (f_X4_errs 2 M) (fun _ M' => some (lo, M')) else some (v, M)))) := by
  obtain ⟨k, s, e, r1, ⟨⟨t6, t7, t8, t19, hse, hen⟩, tk⟩, hes⟩ := hB
  have hn := hC.1
  have h0' : (zTw T k s e).1 0 1 2 = 0 := by rw [zTw_j (by omega)]; exact h0
  have hk5 : k ≤ 5 := by omega
  have hP' := hP.tw hk5 hse hen
  have one : ¬ (1 : Int32) = 0 := by decide
  refine ⟨k, s, e, t7, t8, t19, hse, hen, hes, hP', h0', ?_⟩
  have mnot : ¬ M.1 0 0 18 = 2 → ∀ lo hi, f_X4_here lo hi M = zb (f_X4_errs 1 M) (fun _ M' => some (lo, M')) := by
    intro h lo hi
    unfold f_X4_here jn_X4_here_20
    have e22 : ¬ (wI (wI M 0 0 22 1) 0 0 23 (M.1 0 0 19)).1 0 0 22 = 0 := by rw [q_wIk (by omega), q_wIs]; decide
    rw [if_pos h22, if_neg h, m_errs h22, zb_s, zb_s, if_neg e22, if_neg e22]
  have xnot : ¬ k = 2 ∨ 4 < e - s → ∀ lo hi, f_X1_readNumber lo hi T = zb (f_X1_fail 1 (zTw T k s e)) (fun _ T' => some (0, T')) := by
    intro h lo hi
    unfold f_X1_readNumber
    rw [r1, zb_s, t6, t7, t8]
    by_cases h2 : k = 2
    · rw [if_pos (by rw [h2]; rfl), pk_sub hse, if_neg (show ¬ nI (e - s) ≤ (4 : Int32) from nI_ge (a := 4) (by omega) (by omega))]
    · rw [if_neg (by rw [nl_2, q_eq (by omega) (by omega)]; exact h2)]
  rcases tk with ⟨rfl, q18, -⟩ | ⟨rfl, h4, q18, q20, q21⟩ | ⟨rfl, h4, q18⟩ | ⟨rfl, q18, -⟩ | ⟨rfl, q18, -⟩ | ⟨rfl, q18⟩
  · exact Or.inl ⟨xnot (Or.inl (by decide)), mnot (by rw [q18]; decide)⟩
  · refine Or.inr ⟨t6, q18, q20, ?_⟩
    obtain ⟨v, ev⟩ : ∃ v, v = zfo (fun i u => u * 10 + T.2 0 4 i - 48) s (e - s) 0 := ⟨_, rfl⟩
    have ev2 : M.1 0 0 21 = v := by
      rw [q21, ev]
      refine zfo_congr (fun i a b u => ?_)
      unfold zvs
      rw [if_pos (by omega), zTw_2, Int32.mul_comm]
    refine ⟨v, fun lo hi => ?_, fun lo hi => ?_⟩
    · unfold f_X1_readNumber
      rw [r1, zb_s, t6, if_pos (show nI 2 = (2 : Int32) from rfl), t7, t8, pk_sub hse, if_pos (show nI (e - s) ≤ (4 : Int32) from nI_le (b := 4) h4 (by decide)), zl_s, q_numl t8 (by omega) (e - s) s 2000 0 (by omega) (by omega), zb_s]
      simp only [zTw_2, ← ev]
    · have e22 : ¬ (wI (wI M 0 0 22 2) 0 0 23 (M.1 0 0 19)).1 0 0 22 = 0 := by rw [q_wIk (by omega), q_wIs]; decide
      unfold f_X4_here jn_X4_here_20
      rw [if_pos h22, if_pos q18, if_pos h22, ev2, q_in, zb_s, m_errs h22, zb_s, zb_s, if_neg e22]
      by_cases c1 : v < lo
      · rw [if_pos c1, if_pos c1, if_pos rfl]
      · rw [if_neg c1, if_neg c1]
        by_cases c2 : hi < v
        · rw [if_pos c2, if_pos c2, if_pos rfl]
        · rw [if_neg c2, if_neg c2, if_neg one, if_pos h22, ev2]
  · exact Or.inl ⟨xnot (Or.inr h4), mnot (by rw [q18]; decide)⟩
  · exact Or.inl ⟨xnot (Or.inl (by decide)), mnot (by rw [q18]; decide)⟩
  · exact Or.inl ⟨xnot (Or.inl (by decide)), mnot (by rw [q18]; decide)⟩
  · exact Or.inl ⟨xnot (Or.inl (by decide)), mnot (by rw [q18]; decide)⟩
/-- the registry and the row have gone on; the model looks at the next token -/
theorem w_end {e e0 : Nat} {k s : Nat} {T' M' : zT} (hC : zCx T0 M0 n) (hP : zPh T0 M0 n T M) (h0 : T.1 0 1 2 = 0) (h22 : M.1 0 0 22 = 0) (t6 : T.1 0 1 6 = nI k) (t7 : T.1 0 1 7 = nI s) (t8 : T.1 0 1 8 = nI e) (hse : s ≤ e) (hen : e ≤ n) (h20 : M.1 0 0 20 = nI e) (h18 : (k = 1 ∧ M.1 0 0 18 = 1) ∨ (k = 2 ∧ M.1 0 0 18 = 2)) (he0 : e0 ≤ e) (hf : zfr (zPr 2) T T') (h1 : ∀ j, j < 15 ∨ 17 ≤ j → M'.1 0 0 j = M.1 0 0 j) (h2 : ∀ κ, κ ≠ 2 → κ ≠ 6 → M'.2 κ 0 = M.2 κ 0) (hg : zGd T' 2 (M'.2 2 0)) : ∃ M2, f_X4_next M' = some ((), M2) ∧ zPh T0 M0 n T' M2 ∧ zOK T' M2 ∧ zBh n e0 T' M2 := by
  have g : ∀ j, T'.1 0 1 j = T.1 0 1 j := fun j => zfr_1 hf (fun z => by have := z.1; omega) j
  have hP' := hP.reg (M' := M') hf (fun j hj => h1 j (by omega)) h2
  obtain ⟨M2, a1, a2, a3, a4, a5⟩ := w_adv hC hP' (by rw [g]; exact h0) (by rw [g]; exact t6) (by rw [g]; exact t7) (by rw [g]; exact t8) hse hen (by rw [h1 20 (by omega)]; exact h20) (by rw [h1 18 (by omega)]; exact h18.elim (fun z => Or.inr (Or.inl z)) (fun z => Or.inr (Or.inr (Or.inl z))))
  exact ⟨M2, a1, a4, ⟨by rw [g]; exact h0, by rw [a3 22 (by omega), h1 22 (by omega)]; exact h22, by rw [a2]; exact hg⟩, a5.mono he0⟩
/-- a line of days -/
theorem l_days {s e : Nat} (hC : zCx T0 M0 n) (K : zKw T0 M0 n s e T M) : zLn T0 M0 n e (f_X1_readDays T) (f_X4_readsDays M) := by
  obtain ⟨M1, a1, a2, hP1, hO1, hB1⟩ := K.adv hC
  have R := hO1.2.2.1
  have I := hO1.2.2.2.1
  obtain ⟨y, hy9, hy⟩ := hO1.2.2.2.2
  obtain ⟨t, ht3, ht⟩ := I.date
  obtain ⟨DL, eDL⟩ : ∃ DL, DL = (99 - y) * 360 + 359 - t := ⟨_, rfl⟩
  have hN := zN10.of hO1.2.2
  have hmin : (if nI DL < 720 then nI DL else 720) = nI (if DL < 720 then DL else 720) := by
    by_cases h : DL < 720
    · rw [if_pos h, if_pos (show nI DL < (720 : Int32) from nI_lt (b := 720) h (by decide))]
    · rw [if_neg h, if_neg (show ¬ nI DL < (720 : Int32) from nI_nlt (b := 720) (by omega) (by omega))]; rfl
  unfold f_X1_readDays f_X4_readsDays
  rw [qx_left R ht ht3 hy hy9, ← eDL, zb_s, a1, zb_s, hmin]
  obtain ⟨k, s1, e1, t7, t8, t19, hse, hen, hes, hP', h0', hh⟩ := w_numR hC hP1 hO1.1 hO1.2.1 hB1
  have bad : ∀ p : Int32, ¬ p = 0 → f_X1_readNumber 1 (nI (if DL < 720 then DL else 720)) T = zb (f_X1_fail p (zTw T k s1 e1)) (fun _ T' => some (0, T')) → f_X4_here 1 720 M1 = zb (f_X4_errs p M1) (fun _ M' => some (1, M')) → zLn T0 M0 n e (zb (f_X1_readNumber 1 (nI (if DL < 720 then DL else 720)) T) fun v5 T4 => if T4.1 0 1 2 = 0 then zb (f_X2_pass 2 v5 T4) fun v8 T7 => some ((), T7) else some ((), T4)) (zb (f_X4_here 1 720 M1) fun v5 T4 => if T4.1 0 0 22 = 0 then zb (f_X4_isTooLate v5 T4) fun v14 T13 => if v14 = 0 then if T13.1 0 0 22 = 0 then zb (f_X4_passes v5 T13) fun v17 T16 => zb (f_X4_next T16) fun _v20 T19 => some ((), T19) else some ((), T13) else zb (f_X4_errs 2 T13) fun _v23 T22 => if T22.1 0 0 22 = 0 then zb (f_X4_passes v5 T22) fun v26 T25 => zb (f_X4_next T25) fun _v29 T28 => some ((), T28) else some ((), T22) else if T4.1 0 0 22 = 0 then zb (f_X4_passes v5 T4) fun v8 T7 => zb (f_X4_next T7) fun _v11 T10 => some ((), T10) else some ((), T4)) := by
    intro p hp ex em
    obtain ⟨T2, M2, x1, m1, hP2, hF, hN2⟩ := w_stop (e0 := 0) hp hP' (hN.fr zTw_fr) h0' hO1.2.1 t7 t19
    rw [x1, zb_s] at ex
    rw [m1, zb_s] at em
    rw [ex, em, zb_s, zb_s, if_neg hF.1, if_neg hF.m, if_neg hF.m]
    exact .bad rfl rfl hP2 hF hN2
  rcases hh with ⟨x, m⟩ | ⟨t6, q18, q20, v, x, m⟩
  · exact bad 1 (by decide) (x _ _) (m _ _)
  · have x' := x 1 (nI (if DL < 720 then DL else 720))
    have m' := m 1 720
    rcases q_rng (p := v) (a := 1) (b := 720) (by decide) (by decide) with h | h | ⟨d, hd1, hd2, rfl⟩
    · rw [← nl_1] at h
      rw [if_pos h] at x' m'
      exact bad 2 (by decide) x' m'
    · rw [← nl_720] at h
      have h1 : ¬ v < 1 := fun z => Int32.lt_irrefl (Int32.lt_trans h (Int32.lt_trans z (by decide)))
      rw [if_neg h1, if_pos h] at m'
      rw [if_neg h1, if_neg (fun z => Int32.lt_irrefl (Int32.lt_of_lt_of_le h (Int32.le_trans z (show nI (if DL < 720 then DL else 720) ≤ (720 : Int32) from nI_le (b := 720) (by split <;> omega) (by decide))))) ] at x'
      exact bad 2 (by decide) x' m'
    · have h1 : ¬ nI d < 1 := nI_nlt (b := 1) hd1 (by omega)
      have h2 : ¬ (720 : Int32) < nI d := nI_nlt (a := 720) hd2 (by omega)
      rw [if_neg h1, if_neg h2] at m'
      rw [if_neg h1] at x'
      have hlate := q_late (d := d) hy9 ht3 hd2
      rw [← eDL] at hlate
      have lt1 : f_X4_isTooLate (nI d) M1 = some ((if nI d ≤ nI DL then 0 else 1), M1) := by
        unfold f_X4_isTooLate
        rw [hy, ht]
        by_cases q : nI d ≤ nI DL
        · rw [if_pos q, if_pos (hlate.mp q)]
        · rw [if_neg q, if_neg (fun z => q (hlate.mpr z))]
      by_cases hd : d ≤ DL
      · have q1 : nI d ≤ nI DL := nI_le hd (by omega)
        rw [if_pos (show nI d ≤ nI (if DL < 720 then DL else 720) from nI_le (by split <;> omega) (by split <;> omega))] at x'
        have hO2 : zOK (zTw T k s1 e1) M1 := hO1.fr zTw_fr h0' hO1.2.1 rfl
        obtain ⟨w, T2, σ', b1, b2, hg, y', t', c1, c2, c3, c4⟩ := w_pass (T := zTw T k s1 e1) (M := M1) (ρ := 2) hd2 hO2.2.2.1 I rfl hy ht ht3
        obtain ⟨M2, n1, n2, n3, n4⟩ := w_end (T' := T2) (M' := wA M1 2 0 σ') hC hP' h0' hO1.2.1 t6 t7 t8 hse hen q20 (Or.inr ⟨rfl, q18⟩) (show e ≤ e1 by omega) hg.2.2.1 (fun j _ => rfl) (fun κ x y => q_wAo (by omega)) (by rw [q_wAs]; exact zGd.go hg ⟨y', by omega, c2⟩)
        rw [x', m', zb_s, zb_s, if_pos h0', if_pos hO1.2.1, lt1, if_pos q1, zb_s, if_pos rfl, if_pos hO1.2.1, b1, b2, zb_s, zb_s, n1, zb_s]
        exact ⟨T2, M2, rfl, rfl, n2, Or.inr ⟨n3, n4⟩⟩
      · have q1 : ¬ nI d ≤ nI DL := nI_ge (by omega) (by omega)
        rw [if_neg (show ¬ nI d ≤ nI (if DL < 720 then DL else 720) from nI_ge (by split <;> omega) (by omega))] at x'
        obtain ⟨T2, M2, x1, m1, hP2, hF, hN2⟩ := w_stop (p := 2) (e0 := 0) (by decide) hP' (hN.fr zTw_fr) h0' hO1.2.1 t7 t19
        rw [x1, zb_s] at x'
        rw [x', m', zb_s, zb_s, if_neg hF.1, if_pos hO1.2.1, lt1, if_neg q1, zb_s, if_neg (by decide), m1, zb_s, if_neg hF.m]
        exact .bad rfl rfl hP2 hF hN2
/-- a known child named -/
theorem w_known {e0 : Nat} (hC : zCx T0 M0 n) (hP : zPh T0 M0 n T M) (hO : zOK T M) (hB : zBh n e0 T M) : ∃ x T' c' M', f_X1_readKnownChild T = some (x, T') ∧ f_X4_childHere M = some (c', M') ∧ zPh T0 M0 n T' M' ∧ zN10 T' ∧ (zFe T' M' ∨ (zOK T' M' ∧ M'.2 2 0 = M.2 2 0 ∧ ∃ c s e, c < zn (M.2 2 0) ∧ x = nI c ∧ c' = nI c ∧ T'.1 0 1 6 = nI 1 ∧ T'.1 0 1 7 = nI s ∧ T'.1 0 1 8 = nI e ∧ M'.1 0 0 19 = nI s ∧ s ≤ e ∧ e ≤ n ∧ M'.1 0 0 18 = 1 ∧ M'.1 0 0 20 = nI e ∧ e0 ≤ e)) := by
  obtain ⟨v, T1, M1, x1, m1, hP1, F1, m2, hh⟩ := w_namH hC hP hO.1 hO.2.1 hB
  have hN1 := (zN10.of hO.2.2).fr F1
  unfold f_X1_readKnownChild f_X4_childHere
  rw [x1, m1, zb_s, zb_s]
  rcases hh with hf | ⟨g0, g22, hNm, hv, s, e, ⟨⟨t6, t7, t8, t19, hse, hen⟩, -⟩, q18, q20, hlt, hes⟩
  · obtain ⟨w, x2⟩ := xf_named hN1 v
    rw [x2, zb_s, if_neg hf.m, if_neg (show ¬ (0 : Int32) = -1 by decide), if_neg hf.m, xf_fail hf.1, zb_s]
    by_cases hw : w = -1
    · rw [if_pos hw]; exact ⟨w, T1, 0, M1, rfl, rfl, hP1, hN1, Or.inl hf⟩
    · rw [if_neg hw]; exact ⟨w, T1, 0, M1, rfl, rfl, hP1, hN1, Or.inl hf⟩
  · have hO1 := hO.fr F1 g0 g22 m2
    have R := hO1.2.2.1
    have I := hO1.2.2.2.1
    have n10 := I.n10
    rw [hv, qx_named R I, zb_s, if_pos g22, qm_spd rfl I hNm, zb_s]
    cases ez : zfn (fun i => if znm (zlet (M1.2 2 0) i) = znm (M1.2 6 0) then true else false) 0 (zn (M1.2 2 0)) with
    | none =>
      obtain ⟨T2, M2, x3, m3, hP2, hF, hN2⟩ := w_stop (p := 3) (e0 := 0) (by decide) hP1 hN1 g0 g22 t7 t19
      simp only
      rw [if_pos trivial, if_pos trivial, x3, m3, zb_s, zb_s, if_neg hF.m]
      exact ⟨_, _, _, _, rfl, rfl, hP2, hN2, Or.inl hF⟩
    | some c =>
      have hc := (zfn_some ez).2.1
      rw [Nat.zero_add] at hc
      have hcn : ¬ nI c = -1 := by rw [q_m1ne (by omega)]; exact id
      simp only
      rw [if_neg hcn, if_neg hcn, if_pos g22]
      exact ⟨_, _, _, _, rfl, rfl, hP1, hN1, Or.inr ⟨hO1, m2, c, s, e, by rw [← m2]; exact hc, rfl, rfl, t6, t7, t8, t19, hse, hen, q18, q20, by omega⟩⟩
/-- a line that draws -/
theorem l_draw {s e : Nat} (hC : zCx T0 M0 n) (K : zKw T0 M0 n s e T M) : zLn T0 M0 n e (f_X1_readDraw T) (f_X4_readsDraw M) := by
  obtain ⟨M1, a1, a2, hP1, hO1, hB1⟩ := K.adv hC
  obtain ⟨x, T2, c', M2, x1, m1, hP2, hN2, hh⟩ := w_known hC hP1 hO1 hB1
  unfold f_X1_readDraw f_X4_readsDraw
  rw [a1, zb_s, x1, m1, zb_s, zb_s]
  rcases hh with hF | ⟨hO2, m2, c, s1, e1, hc, rfl, rfl, t6, t7, t8, t19, hse, hen, q18, q20, he⟩
  · unfold jn_X4_readsDraw_25
    rw [if_neg hF.1, if_neg hF.m, if_neg (show ¬ (1 : Int32) = -1 by decide), if_neg hF.m]
    exact .bad rfl rfl hP2 hF hN2
  · have R := hO2.2.2.1
    have I := hO2.2.2.2.1
    have n10 := I.n10
    rw [← m2] at hc
    obtain ⟨h, hh, eh⟩ := (I.c hc).2.1
    rw [if_pos hO2.1, if_pos hO2.2.1, qx_drw R I hc hh eh, qm_drw rfl I hc hh eh, zb_s, zb_s]
    unfold jn_X4_readsDraw_25
    rcases ed : s_drw (M2.2 2 0) c h 1 20 (M2.2 2 0 2) with ⟨o, s'⟩
    have z22 : ∀ u v, (zdw M2 u v).1 0 0 22 = 0 := fun u v => hO2.2.1
    cases o with
    | none =>
      have hP3 : zPh T0 M0 n T2 (zdw M2 s' (s_day s')) := hP2.reg zfr_refl (fun j hj => by unfold zdw; rw [q_wIk (by omega), q_wIk (by omega)]) (fun κ _ _ => rfl)
      obtain ⟨T3, M3, x3, m3, hP4, hF, hN4⟩ := w_stop (p := 6) (e0 := 0) (by decide) hP3 hN2 hO2.1 (z22 _ _) t7 t19
      simp only
      rw [if_pos trivial, if_pos trivial, x3, m3, zb_s, zb_s, if_neg hF.m]
      exact .bad rfl rfl hP4 hF hN4
    | some d =>
      have hd := (s_drw_it _ _ _ _ _ ed).2.1
      have hdn : ¬ nI d = -1 := by rw [q_m1ne (by omega)]; exact id
      simp only
      obtain ⟨T3, σ', e3, e4, hg, z0, -⟩ := w_draw (T := T2) (ρ := 2) R I hc hh ed
      obtain ⟨M4, n1, n2, n3, n4⟩ := w_end (T' := T3) (M' := wA (zdw M2 s' (s_day s')) 2 0 σ') hC hP2 hO2.1 hO2.2.1 t6 t7 t8 hse hen q20 (Or.inl ⟨rfl, q18⟩) he hg.2.2.1 (fun j hj => by rw [q_wA1]; unfold zdw; rw [q_wIk (by omega), q_wIk (by omega)]) (fun κ x y => by rw [q_wAo (by omega)]; rfl) (by rw [q_wAs]; exact zGd.go hg (hO2.2.2.2.2.same z0))
      rw [if_neg hdn, if_neg hdn, if_pos (z22 _ _), e3, e4 (zdw M2 s' (s_day s')) rfl rfl rfl, zb_s, zb_s, n1, zb_s]
      exact ⟨T3, M4, rfl, rfl, n2, Or.inr ⟨n3, n4⟩⟩
end LO
