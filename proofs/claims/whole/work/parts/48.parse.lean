/-! THE WHOLE TEXT -/
section PT
variable {T0 M0 T M : zT} {n : Nat}
theorem zBh.tok {e0 : Nat} (hn : n ≤ 600) (h : zBh n e0 T M) (hP : zPh T0 M0 n T M) (h0 : T.1 0 1 2 = 0) : ∃ k s e, f_X1_readToken T = some ((), zTw T k s e) ∧ zTk n (zTw T k s e) M k s e ∧ e0 ≤ s ∧ k ≤ 5 ∧ (k = 4 ∨ s < n) := by
  obtain ⟨k, s, e, r, ⟨⟨t6, t7, t8, t19, hse, hen⟩, tk⟩, hes⟩ := h
  obtain ⟨⟨f1, f2, f3⟩, -, k1, s1, e1, a1, a2, a3, a4, a5, a6⟩ := hP
  have x := w_read h0 f3 hn a4 a6 a1 a2
  have hk5 : k ≤ 5 := by omega
  refine ⟨k, s, e, r, ⟨⟨t6, t7, t8, t19, hse, hen⟩, tk⟩, hes, hk5, ?_⟩
  by_cases h4 : k = 4
  · exact Or.inl h4
  right
  have eq2 : zTw T _ _ _ = zTw T k s e := congrArg Prod.snd (Option.some.inj (x.symm.trans r))
  have hK : ∀ c, c ≤ 5 → (if ztS (T.2 0 4) n e1 = e1 ∧ (k1 = 1 ∨ k1 = 2) ∧ (c = 1 ∨ c = 2) then 5 else c) ≤ 5 := fun c hc => by split <;> omega
  have q6 : nI k = nI (if ztS (T.2 0 4) n e1 = e1 ∧ (k1 = 1 ∨ k1 = 2) ∧ (zcl (T.2 0 4) n (ztS (T.2 0 4) n e1) = 1 ∨ zcl (T.2 0 4) n (ztS (T.2 0 4) n e1) = 2) then 5 else zcl (T.2 0 4) n (ztS (T.2 0 4) n e1)) := by rw [← t6, ← eq2, zTw_6]
  have hKK := hK _ (zcl_le (T.2 0 4) n (ztS (T.2 0 4) n e1))
  have q6 := q_inj q6 (by omega) (by omega)
  have hb : ztS (T.2 0 4) n e1 ≤ n := by
    have := zwh_le (p := fun i => decide (zcl (T.2 0 4) n i = 0)) (k := n - e1) (j := e1)
    unfold ztS; omega
  have q7 : s = ztS (T.2 0 4) n e1 := q_inj (by rw [← t7, ← eq2, zTw_7]) (by omega) (by omega)
  rw [q7]
  refine zcl_4 (b := T.2 0 4) (fun z => h4 ?_)
  rw [q6, z, if_neg (by omega)]
theorem w_dispatch {s e : Nat} {k : Nat} (hC : zCx T0 M0 n) (hP : zPh T0 M0 n T M) (hO : zOK T M) (htk : zTk n T M k s e) (u : Int32) (f : Nat) : ∃ T' M', (zb (f_X1_tokenIs 2 T) fun v17 T16 => (if v17 = 0 then zb (f_X1_tokenIs 3 T16) fun v20 T19 => (if v20 = 0 then zb (f_X1_tokenIs 4 T19) fun v23 T22 => (if v23 = 0 then zb (f_X1_tokenIs 5 T22) fun v26 T25 => (if v26 = 0 then zb (f_X1_tokenIs 6 T25) fun v29 T28 => (if v29 = 0 then zb (f_X1_tokenIs 7 T28) fun v32 T31 => (if v32 = 0 then zb (f_X1_fail 1 T31) fun _v35 T34 => zl (u + 1) fun x37 => lp_X1_parse_36 f x37 T34 else zb (f_X1_readDays T31) fun _v39 T38 => zl (u + 1) fun x41 => lp_X1_parse_36 f x41 T38) else zb (f_X1_readCakes T28) fun _v43 T42 => zl (u + 1) fun x45 => lp_X1_parse_36 f x45 T42) else zb (f_X1_readDraw T25) fun _v47 T46 => zl (u + 1) fun x49 => lp_X1_parse_36 f x49 T46) else zb (f_X1_readBirthday T22) fun _v51 T50 => zl (u + 1) fun x53 => lp_X1_parse_36 f x53 T50) else zb (f_X1_readChild T19) fun _v55 T54 => zl (u + 1) fun x57 => lp_X1_parse_36 f x57 T54) else zb (f_X1_readGarden T16) fun _v59 T58 => zl (u + 1) fun x61 => lp_X1_parse_36 f x61 T58)) = lp_X1_parse_36 f (u + 1) T' ∧ f_X4_readsLine M = some ((), M') ∧ zPh T0 M0 n T' M' ∧ ((zFe T' M' ∧ zN10 T') ∨ (zOK T' M' ∧ zBh n e T' M')) := by
  have htk' := htk
  obtain ⟨⟨t6, t7, t8, t19, hse, hen⟩, tk⟩ := htk'
  have one : ¬ (1 : Int32) = 0 := by decide
  obtain ⟨v1, x1, m1, h1⟩ := w_key (q := 1) hC hP htk (by decide)
  obtain ⟨v2, x2, m2, h2⟩ := w_key (q := 2) hC hP htk (by decide)
  obtain ⟨v3, x3, m3, h3⟩ := w_key (q := 3) hC hP htk (by decide)
  obtain ⟨v4, x4, m4, h4⟩ := w_key (q := 4) hC hP htk (by decide)
  obtain ⟨v5, x5, m5, h5⟩ := w_key (q := 5) hC hP htk (by decide)
  obtain ⟨v6, x6, m6, h6⟩ := w_key (q := 6) hC hP htk (by decide)
  have kw : k = 1 → zKw T0 M0 n s e T M := by
    rintro rfl
    rcases tk with ⟨-, q18, q20, -⟩ | ⟨h, -⟩ | ⟨h, -⟩ | ⟨h, -⟩ | ⟨h, -⟩ | ⟨h, -⟩
    · exact ⟨hP, hO, ⟨t6, t7, t8, t19, hse, hen⟩, q18, q20⟩
    all_goals omega
  unfold f_X4_readsLine
  rw [x1, show f_X4_isKey 1 M = some (v1, M) from m1, zb_s, zb_s]
  rcases h1.symm with ⟨rfl, hk⟩ | rfl
  · obtain ⟨T', M', a, b, c, d⟩ := l_gard hC (kw hk)
    rw [if_neg one, if_neg one, a, b, zb_s, zb_s]
    exact ⟨T', M', rfl, rfl, c, d⟩
  rw [if_pos rfl, if_pos rfl, x2, show f_X4_isKey 2 M = some (v2, M) from m2, zb_s, zb_s]
  rcases h2.symm with ⟨rfl, hk⟩ | rfl
  · obtain ⟨T', M', a, b, c, d⟩ := l_child hC (kw hk)
    rw [if_neg one, if_neg one, a, b, zb_s, zb_s]
    exact ⟨T', M', rfl, rfl, c, d⟩
  rw [if_pos rfl, if_pos rfl, x3, show f_X4_isKey 3 M = some (v3, M) from m3, zb_s, zb_s]
  rcases h3.symm with ⟨rfl, hk⟩ | rfl
  · obtain ⟨T', M', a, b, c, d⟩ := l_birth hC (kw hk)
    rw [if_neg one, if_neg one, a, b, zb_s, zb_s]
    exact ⟨T', M', rfl, rfl, c, d⟩
  rw [if_pos rfl, if_pos rfl, x4, show f_X4_isKey 4 M = some (v4, M) from m4, zb_s, zb_s]
  rcases h4.symm with ⟨rfl, hk⟩ | rfl
  · obtain ⟨T', M', a, b, c, d⟩ := l_draw hC (kw hk)
    rw [if_neg one, if_neg one, a, b, zb_s, zb_s]
    exact ⟨T', M', rfl, rfl, c, d⟩
  rw [if_pos rfl, if_pos rfl, x5, show f_X4_isKey 5 M = some (v5, M) from m5, zb_s, zb_s]
  rcases h5.symm with ⟨rfl, hk⟩ | rfl
  · obtain ⟨T', M', a, b, c, d⟩ := l_cake hC (kw hk)
    rw [if_neg one, if_neg one, a, b, zb_s, zb_s]
    exact ⟨T', M', rfl, rfl, c, d⟩
  rw [if_pos rfl, if_pos rfl, x6, show f_X4_isKey 6 M = some (v6, M) from m6, zb_s, zb_s]
  rcases h6.symm with ⟨rfl, hk⟩ | rfl
  · obtain ⟨T', M', a, b, c, d⟩ := l_days hC (kw hk)
    rw [if_neg one, if_neg one, a, b, zb_s, zb_s]
    exact ⟨T', M', rfl, rfl, c, d⟩
  obtain ⟨T', M', a, b, c, d1, d2⟩ := w_stop (p := 1) (e0 := 0) one hP (zN10.of hO.2.2) hO.1 hO.2.1 t7 t19
  rw [if_pos rfl, if_pos rfl, a, b, zb_s, zb_s]
  exact ⟨T', M', rfl, rfl, c, Or.inl ⟨d1, d2⟩⟩
theorem p_stop {T M : zT} (h : zFe T M) (f u : Nat) (u' : Int32) : (∃ z, lp_X1_parse_36 (f + 1) u' T = some (z, T)) ∧ lp_X4_readsText_107 (u + 1) M = some ((), M) := by
  constructor
  · rw [lp_X1_parse_36, if_neg h.1]
    split <;> exact ⟨_, rfl⟩
  · rw [lp_X4_readsText_107, if_neg h.m]
theorem p_loop (hC : zCx T0 M0 n) : ∀ k u f1 f2 (T M : zT) e0, u + k = n → u ≤ e0 → zPh T0 M0 n T M → zOK T M → zBh n e0 T M → k + 1 < f1 → k + 1 < f2 → ∃ T' M' z, lp_X1_parse_36 f1 (nI u) T = some (z, T') ∧ lp_X4_readsText_107 f2 M = some ((), M') ∧ zPh T0 M0 n T' M' ∧ (zFe T' M' ∨ zOK T' M') := by
  have hn := hC.1
  intro k
  induction k with
  | zero =>
    intro u f1 f2 T M e0 hu he hP hO hB h1 h2
    obtain ⟨f1, rfl⟩ : ∃ g, f1 = g + 1 := ⟨f1 - 1, by omega⟩
    obtain ⟨f2, rfl⟩ : ∃ g, f2 = g + 1 := ⟨f2 - 1, by omega⟩
    obtain rfl : u = n := by omega
    obtain ⟨k, s, e, r, ⟨⟨t6, t7, t8, t19, hse, hen⟩, tk⟩, hes, hk5, hk4⟩ := hB.tok hn hP hO.1
    obtain rfl : k = 4 := by omega
    have q18 : M.1 0 0 18 = 0 := by
      rcases tk with ⟨h, -⟩ | ⟨h, -⟩ | ⟨h, -⟩ | ⟨h, -⟩ | ⟨-, h, -⟩ | ⟨h, -⟩
      · omega
      · omega
      · omega
      · omega
      · exact h
      · omega
    refine ⟨T, M, nI u, ?_, ?_, hP, Or.inr hO⟩
    · rw [lp_X1_parse_36, hP.1.2.2, if_pos (Int32.le_refl _)]
    · rw [lp_X4_readsText_107, if_pos hO.2.1, if_pos q18]
  | succ k ih =>
    intro u f1 f2 T M e0 hu he hP hO hB h1 h2
    obtain ⟨f1, rfl⟩ : ∃ g, f1 = g + 2 := ⟨f1 - 2, by omega⟩
    obtain ⟨f2, rfl⟩ : ∃ g, f2 = g + 2 := ⟨f2 - 2, by omega⟩
    obtain ⟨kk, s, e, r, ⟨⟨t6, t7, t8, t19, hse, hen⟩, tk⟩, hes, hk5, hk4⟩ := hB.tok hn hP hO.1
    have hP1 := hP.tw (k := kk) hk5 hse hen
    have h0 : (zTw T kk s e).1 0 1 2 = 0 := by rw [zTw_j (by omega)]; exact hO.1
    have hO1 : zOK (zTw T kk s e) M := hO.fr zTw_fr h0 hO.2.1 rfl
    have n1 : ¬ nI n ≤ nI u := nI_ge (by omega) (by omega)
    have z34 : ¬ (nI 4 = (3 : Int32)) := by decide
    by_cases k3 : kk = 3
    · subst k3
      rcases tk with ⟨h, -⟩ | ⟨h, -⟩ | ⟨h, -⟩ | ⟨-, q18, q20, hes1⟩ | ⟨h, -⟩ | ⟨h, -⟩
      · omega
      · omega
      · omega
      · have xl : f_X1_nextIsLine T = some (1, zTw T 3 s e) := by
          unfold f_X1_nextIsLine
          rw [r, zb_s, t6, if_pos (show nI 3 = (3 : Int32) from rfl), if_pos (show nI 3 = (3 : Int32) from rfl)]
        obtain ⟨M2, a1, a2, a3, a4, a5⟩ := w_adv hC hP1 h0 t6 t7 t8 hse hen q20 (Or.inr (Or.inr (Or.inr ⟨rfl, q18⟩)))
        have hO2 : zOK (zTw T 3 s e) M2 := ⟨h0, (a3 22 (by omega)).trans hO.2.1, by rw [a2]; exact hO1.2.2⟩
        obtain ⟨k2, s2, e2, r2, htk2, hes2, hk25, -⟩ := a5.tok hn a4 h0
        have hse2 := htk2.1.2.2.2.2.1
        have hen2 := htk2.1.2.2.2.2.2
        have hP3 := a4.tw (k := k2) hk25 hse2 hen2
        have h03 : (zTw (zTw T 3 s e) k2 s2 e2).1 0 1 2 = 0 := by rw [zTw_j (by omega)]; exact h0
        have hO3 : zOK (zTw (zTw T 3 s e) k2 s2 e2) M2 := hO2.fr zTw_fr h03 hO2.2.1 rfl
        obtain ⟨T4, M4, x4, m4, hP4, hh⟩ := w_dispatch hC hP3 hO3 htk2 (nI u) (f1 + 1)
        have z30 : ¬ (M.1 0 0 18 = 0) := by rw [q18]; decide
        have xs : lp_X1_parse_36 (f1 + 2) (nI u) T = lp_X1_parse_36 (f1 + 1) (nI (u + 1)) T4 := by
          rw [lp_X1_parse_36, hP.1.2.2, if_neg n1, if_pos hO.1, xl, zb_s, if_neg (show ¬ (1 : Int32) = 0 by decide), r2, zb_s, x4, nI_1]
        have ms : lp_X4_readsText_107 (f2 + 2) M = lp_X4_readsText_107 (f2 + 1) M4 := by
          rw [lp_X4_readsText_107, if_pos hO.2.1, if_neg z30, if_pos q18, a1, zb_s, m4, zb_s]
        rw [xs, ms]
        rcases hh with ⟨hF, -⟩ | ⟨hO4, hB4⟩
        · obtain ⟨⟨z, c1⟩, c2⟩ := p_stop hF f1 f2 (nI (u + 1))
          exact ⟨T4, M4, z, c1, c2, hP4, Or.inl hF⟩
        · exact ih (u + 1) (f1 + 1) (f2 + 1) T4 M4 e2 (by omega) (by omega) hP4 hO4 hB4 (by omega) (by omega)
      · omega
      · omega
    by_cases k4 : kk = 4
    · subst k4
      have q18 : M.1 0 0 18 = 0 := by
        rcases tk with ⟨h, -⟩ | ⟨h, -⟩ | ⟨h, -⟩ | ⟨h, -⟩ | ⟨-, h, -⟩ | ⟨h, -⟩
        · omega
        · omega
        · omega
        · omega
        · exact h
        · omega
      have xl : f_X1_nextIsLine T = some (0, zTw T 4 s e) := by
        unfold f_X1_nextIsLine
        rw [r, zb_s, t6, if_neg z34, if_pos (show nI 4 = (4 : Int32) from rfl), if_neg z34]
      refine ⟨zTw T 4 s e, M, nI u, ?_, ?_, hP1, Or.inr hO1⟩
      · rw [lp_X1_parse_36, hP.1.2.2, if_neg n1, if_pos hO.1, xl, zb_s, if_pos rfl]
      · rw [lp_X4_readsText_107, if_pos hO.2.1, if_pos q18]
    · obtain ⟨T2, M2, x2, m2, hP2, hF, hN2⟩ := w_stop (p := 1) (e0 := 0) (by decide) hP1 (zN10.of hO1.2.2) h0 hO.2.1 t7 t19
      have T26 : T2.1 0 1 6 = nI kk := by
        rw [x_fail h0] at x2
        have := congrArg Prod.snd (Option.some.inj x2)
        simp only at this
        rw [← this, q_wIk (by omega), q_wIk (by omega)]; exact t6
      have nk3 : ¬ nI kk = (3 : Int32) := fun z => k3 (q_inj (b := 3) z (by omega) (by decide))
      have nk4 : ¬ nI kk = (4 : Int32) := fun z => k4 (q_inj (b := 4) z (by omega) (by decide))
      have xl : f_X1_nextIsLine T = some (0, T2) := by
        unfold f_X1_nextIsLine
        rw [r, zb_s, t6, if_neg nk3, if_neg nk4, x2, zb_s, T26, if_neg nk3]
      have q : ¬ M.1 0 0 18 = 0 ∧ ¬ M.1 0 0 18 = 3 := by
        rcases tk with ⟨-, h, -⟩ | ⟨-, -, h, -⟩ | ⟨-, -, h⟩ | ⟨h, -⟩ | ⟨h, -⟩ | ⟨-, h⟩
        · rw [h]; exact ⟨by decide, by decide⟩
        · rw [h]; exact ⟨by decide, by decide⟩
        · rw [h]; exact ⟨by decide, by decide⟩
        · exact (k3 h).elim
        · exact (k4 h).elim
        · rw [h]; exact ⟨by decide, by decide⟩
      refine ⟨T2, M2, nI u, ?_, ?_, hP2, Or.inl hF⟩
      · rw [lp_X1_parse_36, hP.1.2.2, if_neg n1, if_pos hO.1, xl, zb_s, if_pos rfl]
      · rw [lp_X4_readsText_107, if_pos hO.2.1, if_neg q.1, if_neg q.2, m2, zb_s]
        exact (p_stop hF 0 f2 0).2
end PT
