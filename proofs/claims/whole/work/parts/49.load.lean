/-! THE HEAD OF A TEXT, AND LOAD -/
section LD
variable {T M : zT} {n : Nat}
theorem q_fill {κ ι L : Nat} {w : Int32} (hL : L = zlen 0 κ ι) (hl : L ≤ 600) : ∀ k j f g, j + k = L → k < f → ∃ g', lp_J7_fill_53178_5 κ ι w (nI L) f (nI j) (wA T κ ι g) = some (nI L, wA T κ ι g') ∧ (∀ i, j ≤ i → i < L → g' i = w) ∧ ∀ i, i < j → g' i = g i := by
  intro k
  induction k with
  | zero =>
    intro j f g hj hf
    obtain ⟨f, rfl⟩ : ∃ q, f = q + 1 := ⟨f - 1, by omega⟩
    obtain rfl : j = L := by omega
    rw [lp_J7_fill_53178_5, if_pos (Int32.le_refl _)]
    exact ⟨g, rfl, fun i a b => by omega, fun i _ => rfl⟩
  | succ k ih =>
    intro j f g hj hf
    obtain ⟨f, rfl⟩ : ∃ q, f = q + 1 := ⟨f - 1, by omega⟩
    obtain ⟨g', e1, e2, e3⟩ := ih (j + 1) f (upd g j w) (by omega) (by omega)
    rw [lp_J7_fill_53178_5, if_neg (nI_ge (by omega) (by omega)), if_pos (of_eq_true (q_zt (show j < zlen 0 κ ι by omega) (by omega))), zl_s, zl_s, nI_clamp (by omega), q_wAs, q_wAA, nI_1]
    refine ⟨g', e1, fun i a b => ?_, fun i hi => ?_⟩
    · by_cases hij : i = j
      · subst hij; rw [e3 _ (by omega), pk_us]
      · exact e2 i (by omega) b
    · rw [e3 i (by omega), pk_un (by omega)]
/-- a registry begun -/
theorem w_begin (s c : Int32) : ∃ T', f_X2_begin 2 s c T = some ((), T') ∧ zfr (zPr 2) T T' ∧ ∀ σ : Nat → Int32, (∀ j, j < 21 → j ≠ 2 → j ≠ 3 → j ≠ 6 → σ j = 0) → σ 2 = s → σ 3 = c → σ 6 = c → zRR T' 2 σ := by
  obtain ⟨T1, t1⟩ : ∃ z, z = wI (wI (wI (wI (wI (wI (wI (wI (wI (wI T 1 2 0 0) 1 2 1 0) 1 2 2 s) 1 2 3 c) 1 2 4 c) 1 2 5 0) 1 2 6 0) 1 2 7 0) 1 2 8 0) 1 2 9 0 := ⟨_, rfl⟩
  obtain ⟨g, e1, e2, -⟩ := q_fill (T := T1) (κ := 2) (ι := 2) (L := 6) (w := 0) rfl (by decide) 6 0 2000 (T1.2 2 2) (by decide) (by decide)
  rw [q_wAself] at e1
  have F1 : zfr (zPr 2) T T1 := by
    have w : ∀ (U : zT) k v, zfr (zPr 2) U (wI U 1 2 k v) := fun U k v => zfr_wI ⟨by decide, by decide, rfl⟩
    rw [t1]
    exact zfr_trans (w _ _ _) (zfr_trans (w _ _ _) (zfr_trans (w _ _ _) (zfr_trans (w _ _ _) (zfr_trans (w _ _ _) (zfr_trans (w _ _ _) (zfr_trans (w _ _ _) (zfr_trans (w _ _ _) (zfr_trans (w _ _ _) (w _ _ _)))))))))
  refine ⟨wA T1 2 2 g, ?_, zfr_trans F1 (zfr_wA ⟨by decide, by decide, rfl⟩), fun σ h0 h2 h3 h6 => ?_⟩
  · unfold f_X2_begin f_J7_fill_53178
    simp only [zl_s]
    rw [← t1, zlen_2]
    have e1' : lp_J7_fill_53178_5 2 2 0 (nI 6) 2000 0 T1 = some (nI 6, wA T1 2 2 g) := e1
    rw [e1', zb_s, zb_s]
  · have hn : zn σ = 0 := by unfold zn; rw [h0 5 (by decide) (by decide) (by decide) (by decide)]; rfl
    have hg : zg σ = 0 := by unfold zg; rw [h0 4 (by decide) (by decide) (by decide) (by decide)]; rfl
    refine ⟨⟨?_, ?_, ?_, ?_, ?_, ?_, ?_, ?_, ?_, ?_⟩, fun k hk => ?_, fun g' hg' => by omega, fun c hc => by omega⟩
    · rw [q_wA1, t1, h0 0 (by decide) (by decide) (by decide) (by decide)]; rfl
    · rw [q_wA1, t1, h0 1 (by decide) (by decide) (by decide) (by decide)]; rfl
    · rw [q_wA1, t1, h2]; rfl
    · rw [q_wA1, t1, h3]; rfl
    · rw [q_wA1, t1, h6]; rfl
    · rw [q_wA1, t1, h0 7 (by decide) (by decide) (by decide) (by decide)]; rfl
    · rw [q_wA1, t1, h0 8 (by decide) (by decide) (by decide) (by decide)]; rfl
    · rw [q_wA1, t1, h0 10 (by decide) (by decide) (by decide) (by decide)]; rfl
    · rw [q_wA1, t1, h0 4 (by decide) (by decide) (by decide) (by decide)]; rfl
    · rw [q_wA1, t1, h0 5 (by decide) (by decide) (by decide) (by decide)]; rfl
    · rw [q_wAs, e2 k (by omega) hk, h0 (11 + k) (by omega) (by omega) (by omega) (by omega)]
theorem q_clr {w1 : Int32} : ∀ k j f τ, j + k = 151 → k < f → ∃ τ', lp_X4_readsText_2 w1 f (nI j) (wA M 2 0 τ) = some (nI 151, wA M 2 0 τ') ∧ (∀ i, j ≤ i → i < 151 → τ' i = 0) ∧ ∀ i, i < j → τ' i = τ i := by
  intro k
  induction k with
  | zero =>
    intro j f τ hj hf
    obtain ⟨f, rfl⟩ : ∃ q, f = q + 1 := ⟨f - 1, by omega⟩
    obtain rfl : j = 151 := by omega
    rw [lp_X4_readsText_2, if_pos (by decide)]
    exact ⟨τ, rfl, fun i a b => by omega, fun i _ => rfl⟩
  | succ k ih =>
    intro j f τ hj hf
    obtain ⟨f, rfl⟩ : ∃ q, f = q + 1 := ⟨f - 1, by omega⟩
    obtain ⟨g', e1, e2, e3⟩ := ih (j + 1) f (upd τ j 0) (by omega) (by omega)
    rw [lp_X4_readsText_2, if_neg (by rw [q_le151 (by omega)]; omega), if_pos (of_eq_true (q_zt (show j < 151 by omega) (by decide))), zl_s, zl_s, nI_clamp (by omega), q_wAs, q_wAA, nI_1]
    refine ⟨g', e1, fun i a b => ?_, fun i hi => ?_⟩
    · by_cases hij : i = j
      · subst hij; rw [e3 _ (by omega), pk_us]
      · exact e2 i (by omega) b
    · rw [e3 i (by omega), pk_un (by omega)]
theorem p_parse (hC : zCx T M n) : ∃ T' M', f_X1_parse (nI n) T = some ((), T') ∧ f_X4_readsText (nI n) M = some ((), M') ∧ zPh T M n T' M' ∧ (zFe T' M' ∨ zOK T' M') := by
  have hn := hC.1
  obtain ⟨T6, t6⟩ : ∃ z, z = wI (wI (wI (wI (wI (wI T 0 1 5 (nI n)) 0 1 2 0) 0 1 3 (-1)) 0 1 6 0) 0 1 7 0) 0 1 8 0 := ⟨_, rfl⟩
  obtain ⟨τ, c1, c2, -⟩ := q_clr (M := M) (w1 := nI n) 151 0 2000 (M.2 2 0) (by decide) (by decide)
  rw [q_wAself] at c1
  obtain ⟨M5, m5⟩ : ∃ z, z = wI (wI (wI (wI (wA M 2 0 τ) 0 0 17 (nI n)) 0 0 22 0) 0 0 18 0) 0 0 20 0 := ⟨_, rfl⟩
  have b2 : T6.1 0 1 2 = 0 := by rw [t6]; rfl
  have b6 : T6.1 0 1 6 = nI 0 := by rw [t6]; rfl
  have b7 : T6.1 0 1 7 = nI 0 := by rw [t6]; rfl
  have b8 : T6.1 0 1 8 = nI 0 := by rw [t6]; rfl
  have d22 : M5.1 0 0 22 = 0 := by rw [m5]; rfl
  have d18 : M5.1 0 0 18 = 0 := by rw [m5]; rfl
  have d20 : M5.1 0 0 20 = nI 0 := by rw [m5]; rfl
  have e5 : M5.2 2 0 = τ := by rw [m5, q_wI2, q_wI2, q_wI2, q_wI2, q_wAs]
  have hP6 : zPh T M n T6 M5 := by
    refine ⟨⟨?_, ⟨?_, fun _ => ?_⟩, ?_⟩, ⟨fun j hj => ?_, ?_, fun κ h2 h6 => ?_⟩, 0, 0, 0, b6, by decide, b7, b8, Nat.le_refl _, Nat.zero_le _⟩
    · have w : ∀ (U : zT) k v, zfr (fun κ ι => (κ = 0 ∧ ι = 1) ∨ zPr 2 κ ι) U (wI U 0 1 k v) := fun U k v => zfr_wI (Or.inl ⟨rfl, rfl⟩)
      rw [t6]
      exact zfr_trans (w _ _ _) (zfr_trans (w _ _ _) (zfr_trans (w _ _ _) (zfr_trans (w _ _ _) (zfr_trans (w _ _ _) (w _ _ _)))))
    · rw [t6]; rfl
    · rw [t6]; rfl
    · rw [t6]; rfl
    · rw [m5, q_wIk (by omega), q_wIk (by omega), q_wIk (by omega), q_wIk (by omega), q_wA1]
    · rw [m5, q_wIk (by omega), q_wIk (by omega), q_wIk (by omega), q_wIs]
    · rw [m5]; exact q_wAo (by omega)
  obtain ⟨M6, n1, n2, n3, n4, n5⟩ := w_adv hC hP6 b2 b6 b7 b8 (Nat.le_refl _) (Nat.zero_le _) d20 (Or.inl ⟨rfl, d18⟩)
  have f22 : M6.1 0 0 22 = 0 := (n3 22 (by omega)).trans d22
  obtain ⟨k, s, e, r, htk, -, hk5, -⟩ := n5.tok hn n4 b2
  have htk' := htk
  obtain ⟨⟨u6, u7, u8, u19, hse, hen⟩, tk⟩ := htk'
  have hP7 := n4.tw (k := k) hk5 hse hen
  have b27 : (zTw T6 k s e).1 0 1 2 = 0 := by rw [zTw_j (by omega)]; exact b2
  obtain ⟨v, x1, m1, hv⟩ := w_key (q := 0) hC hP7 htk (by decide)
  have m1 : f_X4_isKey 0 M6 = some (v, M6) := m1
  have x1 : f_X1_tokenIs 1 (zTw T6 k s e) = some (v, zTw T6 k s e) := x1
  have one : ¬ (1 : Int32) = 0 := by decide
  -- both texts, to the head's end
  have px : f_X1_parse (nI n) T = zb (zb (f_X1_readToken T6) fun _v2 T1 => zb (f_X1_tokenIs 1 T1) fun v5 T4 => (if v5 = 0 then zb (f_X1_fail 1 T4) fun _v17 T16 => jn_X1_readHead_18 T16 else jn_X1_readHead_18 T4)) (fun _ T7 => zb (lp_X1_parse_36 2000 0 T7) fun v63 T62 => some ((), T62)) := by
    unfold f_X1_parse f_X1_readHead
    simp only [zl_s]
    rw [← t6]
  have pm : f_X4_readsText (nI n) M = zb (f_X4_next M5) fun _v12 T11 => zb (f_X4_isKey 0 T11) fun v15 T14 => (if v15 = 0 then zb (f_X4_errs 1 T14) fun _v18 T17 => jn_X4_readsText_66 T17 else zb (f_X4_next T14) fun _v46 T45 => jn_X4_readsText_66 T45) := by
    unfold f_X4_readsText
    have c1' : lp_X4_readsText_2 (nI n) 2000 0 M = some (nI 151, wA M 2 0 τ) := c1
    rw [c1', zb_s]
    simp only [zl_s]
    rw [← m5]
  rw [px, pm, r, n1, zb_s, zb_s, x1, m1, zb_s, zb_s]
  -- a failed head
  have fm : ∀ M8, ¬ M8.1 0 0 22 = 0 → ∃ M9, jn_X4_readsText_66 M8 = some ((), M9) ∧ M9.1 = M8.1 ∧ ∀ κ, κ ≠ 2 → M9.2 κ 0 = M8.2 κ 0 := by
    intro M8 h
    unfold jn_X4_readsText_66
    rw [mf_takes h, zb_s, zl_s, mf_takes (M := wA M8 2 0 _) h, zb_s, zl_s, zl_s, lp_X4_readsText_107, if_neg (show ¬ (wA (wA (wA M8 2 0 _) 2 0 _) 2 0 _).1 0 0 22 = 0 from h), zb_s]
    exact ⟨_, rfl, rfl, fun κ hκ => by rw [q_wAo (by omega), q_wAo (by omega), q_wAo (by omega)]⟩
  have bad : ∀ T8 M8 T9 M9, zPh T M n T8 M8 → zFe T8 M8 → zfr (zPr 2) T8 T9 → M9.1 = M8.1 → (∀ κ, κ ≠ 2 → M9.2 κ 0 = M8.2 κ 0) → zPh T M n T9 M9 ∧ zFe T9 M9 := by
    intro T8 M8 T9 M9 hP hF F h1 h2
    refine ⟨hP.reg F (fun j _ => by rw [h1]) (fun κ x _ => h2 κ x), ?_, ?_, ?_⟩
    · rw [zfr_1 F (fun z => by have := z.1; omega)]; exact hF.1
    · rw [zfr_1 F (fun z => by have := z.1; omega), h1]; exact hF.2.1
    · rw [zfr_1 F (fun z => by have := z.1; omega), h1]; exact hF.2.2
  have badx : ∀ T8 M8 (v1 v2 : Int32), zPh T M n T8 M8 → zFe T8 M8 → ∃ T', zb (zb (f_X2_begin 2 v1 v2 T8) fun _v14 T13 => some ((), T13)) (fun _ T7 => zb (lp_X1_parse_36 2000 0 T7) fun v63 T62 => some ((), T62)) = some ((), T') ∧ ∀ M9, M9.1 = M8.1 → (∀ κ, κ ≠ 2 → M9.2 κ 0 = M8.2 κ 0) → zPh T M n T' M9 ∧ zFe T' M9 := by
    intro T8 M8 v1 v2 hP hF
    obtain ⟨T9, y1, F, -⟩ := w_begin (T := T8) v1 v2
    have hF9 := (bad T8 M8 T9 M8 hP hF F rfl (fun _ _ => rfl)).2
    obtain ⟨⟨z, y2⟩, -⟩ := p_stop hF9 1999 0 0
    exact ⟨T9, by rw [y1, zb_s, zb_s, y2, zb_s], fun M9 h1 h2 => bad T8 M8 T9 M9 hP hF F h1 h2⟩
  rcases hv with rfl | ⟨rfl, rfl⟩
  · rw [if_pos rfl, if_pos rfl, x_fail b27, m_errs f22, zb_s, zb_s]
    obtain ⟨w1, w2, -⟩ := w_err (k := k) (e := e) one hP7 u7 u19
    obtain ⟨v1, y1⟩ := xf_num hn w2 w1.1 0 9972
    obtain ⟨v2, y2⟩ := xf_num hn w2 w1.1 0 9999
    obtain ⟨M9, z1, z2, z3⟩ := fm _ w1.m
    obtain ⟨T', q1, q2⟩ := badx _ _ v1 v2 w2 w1
    unfold jn_X1_readHead_18
    rw [y1, zb_s, y2, zb_s, q1, z1]
    exact ⟨T', M9, rfl, rfl, (q2 M9 z2 z3).1, Or.inl (q2 M9 z2 z3).2⟩
  · rw [if_neg one, if_neg one]
    obtain ⟨q18, q20⟩ : M6.1 0 0 18 = 1 ∧ M6.1 0 0 20 = nI e := by
      rcases tk with ⟨-, h, h', -⟩ | ⟨h, -⟩ | ⟨h, -⟩ | ⟨h, -⟩ | ⟨h, -⟩ | ⟨h, -⟩
      · exact ⟨h, h'⟩
      all_goals omega
    obtain ⟨M7, a1, a2, a3, a4, a5⟩ := w_adv hC hP7 b27 u6 u7 u8 hse hen q20 (Or.inr (Or.inl ⟨rfl, q18⟩))
    have g22 : M7.1 0 0 22 = 0 := (a3 22 (by omega)).trans f22
    rw [a1, zb_s]
    unfold jn_X1_readHead_18 jn_X4_readsText_66
    obtain ⟨v, T8, v', M8, y1, y2, hP8, F8, m8, hh⟩ := w_numT hC a4 b27 g22 a5 0 9972
    rw [y1, y2, zb_s, zb_s]
    have stop107 : ∀ (U : zT), ¬ U.1 0 0 22 = 0 → lp_X4_readsText_107 2000 U = some ((), U) := fun U h => by rw [lp_X4_readsText_107, if_neg h]
    rcases hh with ⟨hF, -⟩ | ⟨rfl, v1, v2, g0, g22', hB8⟩
    · obtain ⟨w2, y3⟩ := xf_num hn hP8 hF.1 0 9999
      rw [y3, zb_s, zl_s, mf_takes (M := wA M8 2 0 _) hF.m, zb_s, zl_s, zl_s, stop107 _ (by exact hF.m), zb_s]
      obtain ⟨T', q1, q2⟩ := badx T8 M8 v w2 hP8 hF
      rw [q1]
      have q3 := fun A B C => q2 (wA (wA (wA M8 2 0 A) 2 0 B) 2 0 C) rfl (fun κ hκ => by rw [q_wAo (by omega), q_wAo (by omega), q_wAo (by omega)])
      exact ⟨T', _, rfl, rfl, (q3 _ _ _).1, Or.inl (q3 _ _ _).2⟩
    · rw [zl_s]
      obtain ⟨M9, m9⟩ : ∃ z, z = wA M8 2 0 (upd (M8.2 2 0) 2 v') := ⟨_, rfl⟩
      rw [← m9]
      have hP9 : zPh T M n T8 M9 := hP8.reg zfr_refl (fun j _ => by rw [m9]; rfl) (fun κ x _ => by rw [m9]; exact q_wAo (by omega))
      have hB9 : zBh n e T8 M9 := hB8.reg hn hP8 g0 zfr_refl (fun j _ _ => by rw [m9]; rfl)
      obtain ⟨w, T10, w', M10, y3, y4, hP10, F10, m10, hh⟩ := w_numT hC hP9 g0 (by rw [m9]; exact g22') hB9 0 9999
      rw [y3, y4, zb_s, zb_s]
      rcases hh with ⟨hF, -⟩ | ⟨rfl, w1, w2, h0, h22', hB10⟩
      · rw [zl_s, zl_s, stop107 _ (by exact hF.m), zb_s]
        obtain ⟨T', q1, q2⟩ := badx T10 M10 v' w hP10 hF
        rw [q1]
        have q3 := fun A B => q2 (wA (wA M10 2 0 A) 2 0 B) rfl (fun κ hκ => by rw [q_wAo (by omega), q_wAo (by omega)])
        exact ⟨T', _, rfl, rfl, (q3 _ _).1, Or.inl (q3 _ _).2⟩
      · rw [zl_s, zl_s]
        obtain ⟨M12, m12⟩ : ∃ z, z = wA (wA M10 2 0 (upd (M10.2 2 0) 3 w')) 2 0 (upd ((wA M10 2 0 (upd (M10.2 2 0) 3 w')).2 2 0) 6 ((wA M10 2 0 (upd (M10.2 2 0) 3 w')).2 2 0 3)) := ⟨_, rfl⟩
        rw [← m12]
        obtain ⟨T11, y5, F11, hR⟩ := w_begin (T := T10) v' w'
        have eσ : M12.2 2 0 = upd (upd (upd τ 2 v') 3 w') 6 w' := by
          rw [m12, q_wAs, q_wAs, pk_us, m10, m9, q_wAs, m8, a2, n2, e5]
        obtain ⟨σ, es⟩ : ∃ z, z = upd (upd (upd τ 2 v') 3 w') 6 w' := ⟨_, rfl⟩
        rw [← es] at eσ
        have s0 : ∀ j, j < 21 → j ≠ 2 → j ≠ 3 → j ≠ 6 → σ j = 0 := fun j a b c d => by rw [es, pk_un d, pk_un c, pk_un b, c2 j (Nat.zero_le _) (by omega)]
        have hn0 : zn σ = 0 := by unfold zn; rw [s0 5 (by decide) (by decide) (by decide) (by decide)]; rfl
        have hg0 : zg σ = 0 := by unfold zg; rw [s0 4 (by decide) (by decide) (by decide) (by decide)]; rfl
        obtain ⟨sd, sd0, sd1, rfl⟩ : ∃ k : Nat, 0 ≤ k ∧ k ≤ 9972 ∧ v' = nI k := by
          rcases q_rng (p := v') (a := 0) (b := 9972) (by decide) (by decide) with h | h | h
          · exact (v1 h).elim
          · exact (v2 h).elim
          · exact h
        have gd : zGd T11 2 σ := by
          refine ⟨hR σ s0 (by rw [es, pk_un (by decide), pk_un (by decide), pk_us]) (by rw [es, pk_un (by decide), pk_us]) (by rw [es, pk_us]), ⟨⟨?_, ?_⟩, ⟨?_, ?_⟩, ⟨0, by decide, ?_⟩, ⟨sd, by omega, ?_⟩, ?_, fun c hc => by omega⟩, ⟨0, by decide, ?_⟩⟩
          · rw [hn0]; exact s0 5 (by decide) (by decide) (by decide) (by decide)
          · rw [hn0]; decide
          · rw [hg0]; exact s0 4 (by decide) (by decide) (by decide) (by decide)
          · rw [hg0]; decide
          · exact s0 1 (by decide) (by decide) (by decide) (by decide)
          · rw [es, pk_un (by decide), pk_un (by decide), pk_us]
          · rw [hn0]; exact s0 9 (by decide) (by decide) (by decide) (by decide)
          · exact s0 0 (by decide) (by decide) (by decide) (by decide)
        have hP12 : zPh T M n T11 M12 := hP10.reg F11 (fun j _ => by rw [m12]; rfl) (fun κ x _ => by rw [m12, q_wAo (by omega), q_wAo (by omega)])
        have hB12 : zBh n e T11 M12 := hB10.reg hn hP10 h0 F11 (fun j _ _ => by rw [m12]; rfl)
        have hO12 : zOK T11 M12 := ⟨by rw [zfr_1 F11 (fun z => by have := z.1; omega)]; exact h0, by rw [m12]; exact h22', by rw [eσ]; exact gd⟩
        obtain ⟨T', M', z, q1, q2, q3, q4⟩ := p_loop hC n 0 2000 2000 T11 M12 e (by omega) (by omega) hP12 hO12 hB12 (by omega) (by omega)
        have q1' : lp_X1_parse_36 2000 0 T11 = some (z, T') := q1
        rw [y5, zb_s, zb_s, q1', zb_s, q2, zb_s]
        exact ⟨T', M', rfl, rfl, q3, q4⟩
end LD
