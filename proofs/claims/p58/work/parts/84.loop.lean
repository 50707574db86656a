/-! THE LAW'S LOOPS, cut at their joins -/
def c121_82 (rc : Int32 → Int32 → zT → Option ((Int32 × Int32) × zT)) (u8 z97 : Int32) (T96 : zT) : Option ((Int32 × Int32) × zT) := (if z97 = 0 then zl (u8 + 1) fun x98 => rc z97 x98 T96 else zb (f_L_next T96) fun v99 T100 => (if (v99 - v99 / 4 * 4) = 0 then zb (f_L_undone T100) fun v103 T104 => zl (zk T100 T104) fun T106 => (if v103 < 0 then zl (u8 + 1) fun x107 => rc 0 x107 T106 else zl (u8 + 1) fun x108 => rc 1 x108 T106) else zl (u8 + 1) fun x102 => rc z97 x102 T100))
def c121_47 (rc : Int32 → Int32 → zT → Option ((Int32 × Int32) × zT)) (u8 z79 : Int32) (T78 : zT) : Option ((Int32 × Int32) × zT) := (if z79 = 0 then c121_82 rc u8 0 T78 else zb (f_L_act T78) fun v84 T85 => (if v84 = 0 then c121_82 rc u8 0 T85 else zb (f_L_children T85) fun v87 T88 => zl (zk T85 T88) fun T90 => (if v87 = 0 then c121_82 rc u8 0 T90 else zb (f_L_dates T90) fun v91 T92 => zl (zk T90 T92) fun T94 => (if v91 = 0 then c121_82 rc u8 0 T94 else c121_82 rc u8 1 T94))))
theorem c121_eq (b L : Nat) (xs : Nat → Int32) (w4 : Int32) (w6 : Int64) (n : Nat) (u3 u8 : Int32) (T : zT) : lp_L_law_121 b L xs w4 w6 (n + 1) u3 u8 T = (if 11 ≤ u8 then some ((u3, u8), T) else (if u3 = 0 then some ((u3, u8), T) else zb (f_L_sum T) fun v37 T38 => zl (zk T T38) fun T40 => zb (f_L_advanced 721 T40) fun v41 T42 => zl (zk T40 T42) fun T44 => (if v41 = (-2) then zb (f_L_drawn 10 T44) fun v49 T50 => zl (zk T44 T50) fun T52 => (if v49 = (-5) then zb (f_L_set 10 1 1 T52) fun v53 T54 => zl (zk T52 T54) fun T56 => (if v53 = (-5) then zb (f_L_forgotten (-1) T56) fun v57 T58 => zl (zk T56 T58) fun T60 => (if v57 = (-5) then zb (f_L_moved 0 4 T60) fun v61 T62 => zl (zk T60 T62) fun T64 => (if v61 = (-5) then zb (f_L_bought 0 T64) fun v65 T66 => zl (zk T64 T66) fun T68 => (if v65 = (-2) then zb (f_L_baked 6 1 T68) fun v69 T70 => zl (zk T68 T70) fun T72 => (if v69 = (-2) then zb (f_L_sum T72) fun v73 T74 => zl (zk T72 T74) fun T76 => (if (lg_cmp v73 v37) = 0 then c121_47 (lp_L_law_121 b L xs w4 w6 n) u8 1 T76 else c121_47 (lp_L_law_121 b L xs w4 w6 n) u8 0 T76) else c121_47 (lp_L_law_121 b L xs w4 w6 n) u8 0 T72) else c121_47 (lp_L_law_121 b L xs w4 w6 n) u8 0 T68) else c121_47 (lp_L_law_121 b L xs w4 w6 n) u8 0 T64) else c121_47 (lp_L_law_121 b L xs w4 w6 n) u8 0 T60) else c121_47 (lp_L_law_121 b L xs w4 w6 n) u8 0 T56) else c121_47 (lp_L_law_121 b L xs w4 w6 n) u8 0 T52) else c121_47 (lp_L_law_121 b L xs w4 w6 n) u8 0 T44))) := by
  rw [lp_L_law_121]
  rfl
def c34_136 (rc : Int32 → Int32 → zT → Option ((Int32 × Int32) × zT)) (u4 : Int32) (T155 : zT) : Option ((Int32 × Int32) × zT) := zl (u4 + 1) fun x156 => rc 0 x156 T155
def c34_123 (rc : Int32 → Int32 → zT → Option ((Int32 × Int32) × zT)) (u4 z131 : Int32) (T130 : zT) : Option ((Int32 × Int32) × zT) := zb (f_L_sum T130) fun v132 T133 => zl (zk T130 T133) fun T135 => (if z131 = 0 then c34_136 rc u4 T135 else zb (f_L_bought 1 T135) fun v138 T139 => zl (zk T135 T139) fun T141 => (if v138 ≤ 0 then c34_136 rc u4 T141 else zb (f_L_sum T141) fun v142 T143 => zl (zk T141 T143) fun T145 => (if (lg_cmp v142 v132) = 0 then c34_136 rc u4 T145 else zb (f_L_undone T145) fun v146 T147 => zl (zk T145 T147) fun T149 => (if v146 < 0 then c34_136 rc u4 T149 else zb (f_L_sum T149) fun v150 T151 => zl (zk T149 T151) fun T153 => (if (lg_cmp v150 v132) = 0 then zl (u4 + 1) fun x154 => rc 1 x154 T153 else c34_136 rc u4 T153)))))
def c34_24 (b L : Nat) (xs : Nat → Int32) (rc : Int32 → Int32 → zT → Option ((Int32 × Int32) × zT)) (u4 z32 : Int32) (T31 : zT) : Option ((Int32 × Int32) × zT) := zb (f_L_sum T31) fun v33 T34 => zl (zk T31 T34) fun T36 => zb (lp_L_law_121 b L xs u4 v33 12 z32 0 T36) fun v110 T109 => (if v110.1 = 0 then zl (u4 + 1) fun x112 => rc v110.1 x112 T109 else zb (f_L_next T109) fun v113 T114 => (if (v113 - v113 / 2 * 2) = 0 then zbi (f_X3_restore u4 T114) fun v117 T118 => zl (zk T114 T118) fun T120 => (if v117 = 0 then zb (f_L_sum T120) fun v125 T126 => zl (zk T120 T126) fun T128 => (if (lg_cmp v125 v33) = 0 then c34_123 rc u4 1 T128 else c34_123 rc u4 0 T128) else c34_123 rc u4 0 T120) else zl (u4 + 1) fun x116 => rc v110.1 x116 T114))
def c34_2 (b L : Nat) (xs : Nat → Int32) (rc : Int32 → Int32 → zT → Option ((Int32 × Int32) × zT)) (u4 z6 z7 z8 : Int32) (T5 : zT) : Option ((Int32 × Int32) × zT) := if zin z6 1 = true then zl (wA T5 0 8 (upd (T5.2 0 8) z6.toNatClampNeg (z7 ^^^ z8))) fun T10 => zb (f_L_next T10) fun v11 T12 => zl (v11 - v11 / 9 * 9) fun x14 => zb (f_L_next T12) fun v15 T16 => zl (1 + (v15 - v15 / 4 * 4)) fun x21 => zb (f_L_regload x21 x14 T16) fun v18 T19 => (if v18 = x14 then zbi (f_X3_save u4 T19) fun v26 T27 => zl (zk T19 T27) fun T29 => (if v26 = 0 then c34_24 b L xs rc u4 1 T29 else c34_24 b L xs rc u4 0 T29) else c34_24 b L xs rc u4 0 T19) else none
theorem c34_eq (b L : Nat) (xs : Nat → Int32) (n : Nat) (u3 u4 : Int32) (T : zT) : lp_L_law_34 b L xs (n + 1) u3 u4 T = (if 2 ≤ u4 then some ((u3, u4), T) else (if u3 = 0 then some ((u3, u4), T) else (if (Int32.ofNat L) ≤ u4 then c34_2 b L xs (lp_L_law_34 b L xs n) u4 0 (T.2 0 8 0) 0 T else if zin u4 L = true then c34_2 b L xs (lp_L_law_34 b L xs n) u4 0 (T.2 0 8 0) (xs u4.toNatClampNeg) T else none))) := by
  rw [lp_L_law_34]
  rfl
theorem lgc0 (x : Int64) : lg_cmp x x = 0 := Int32.le_antisymm ((lg_cmp_le x x).mpr (Int64.le_refl x)) ((lg_cmp_ge x x).mpr (Int64.le_refl x))
theorem lgcn {x y : Int64} (h : x ≠ y) : ¬ lg_cmp x y = 0 := fun e => h (Int64.le_antisymm ((lg_cmp_le x y).mp (by rw [e]; exact Int32.le_refl _)) ((lg_cmp_ge x y).mp (by rw [e]; exact Int32.le_refl _)))
section LW
variable {T : zT} {σ : zRow} {hs : List zRow} {S : Option (Nat × zRow)} {j : Nat} {b L : Nat} {xs : Nat → Int32} {w4 : Int32} {w6 : Int64}
theorem s_82 (h : zAc 2 j (j + 1) T σ hs S) (hne : hs ≠ []) (hj : j < 11) : ∃ T' σ' hs', (∀ rc, c121_82 rc (nI j) 1 T = rc 1 (nI (j + 1)) T') ∧ zAc 0 (j + 1) (j + 1) T' σ' hs' S := by
  have one : ¬ (1 : Int32) = 0 := by decide
  obtain ⟨v, T1, hv, d1, w1⟩ := g_next h.1
  by_cases h4 : nI v - nI v / 4 * 4 = 0
  · obtain ⟨ρ, hs2, rfl⟩ := List.exists_cons_of_ne_nil hne
    have hl := h.len
    rw [List.length_cons] at hl
    obtain ⟨T2, u1, w2⟩ := w_undo w1
    have e2 : f_L_undone T1 = some (nI hs2.length, T2) := by unfold f_L_undone; rw [u1]; rfl
    refine ⟨zk T1 T2, ρ, hs2, fun rc => ?_, w2.k, ⟨h.2.1.2 ρ List.mem_cons_self, fun τ hτ => h.2.1.2 τ (List.mem_cons_of_mem _ hτ)⟩, h.2.2.undo⟩
    unfold c121_82
    rw [if_neg one, d1, zb_s, if_pos h4, e2, zb_s, zl_s, if_neg (nI_pos (by omega)), zl_s, nI_1]
  · refine ⟨T1, σ, hs, fun rc => ?_, w1, h.2.1, h.2.2.next⟩
    unfold c121_82
    rw [if_neg one, d1, zb_s, if_neg h4, zl_s, nI_1]
theorem s_47 (h : zAc 0 j j T σ hs S) (hj : j < 11) : ∃ T' σ' hs', (∀ rc, c121_47 rc (nI j) 1 T = rc 1 (nI (j + 1)) T') ∧ zAc 0 (j + 1) (j + 1) T' σ' hs' S := by
  have one : ¬ (1 : Int32) = 0 := by decide
  obtain ⟨T1, σ1, hs1, a1, ac1, hne⟩ := g_act h (by omega)
  have gr1 := ac1.2.1.1.1
  have b1 : f_L_children T1 = some (1, T1) := g_children ac1.1 gr1.1 (gr1.pw (by omega)) gr1.2.1
  obtain ⟨T2, c1, w2⟩ := g_dates ac1.1
  obtain ⟨T', σ', hs', e, ac⟩ := s_82 (T := zk T1 T2) ⟨w2.k, ac1.2⟩ hne hj
  refine ⟨T', σ', hs', fun rc => ?_, ac⟩
  rw [← e rc]
  unfold c121_47
  rw [if_neg one, a1, zb_s, if_neg one, b1, zb_s, zl_s, zk_self, if_neg one, c1, zb_s, zl_s, if_neg one]
theorem s_acts (h : zAc 0 j j T σ hs S) (hj : j < 11) : ∃ T' σ' hs', (∀ f, lp_L_law_121 b L xs w4 w6 (f + 1) 1 (nI j) T = lp_L_law_121 b L xs w4 w6 f 1 (nI (j + 1)) T') ∧ zAc 0 (j + 1) (j + 1) T' σ' hs' S := by
  have one : ¬ (1 : Int32) = 0 := by decide
  have n10 := h.1.I.n10
  have g4 := h.1.I.g4
  have e0 := g_sum h.1
  have hp10 : nI (zn σ) ≤ 10 := nI_le (b := 10) n10 (by decide)
  have e1 : f_L_advanced 721 T = some (-2, T) := by unfold f_L_advanced; rw [w_adv_no h.1]; rfl
  have e2 : f_L_drawn 10 T = some (-5, T) := by unfold f_L_drawn; rw [w_drw_no h.1 (Or.inr hp10)]; rfl
  have e3 : f_L_set 10 1 1 T = some (-5, T) := by unfold f_L_set; rw [w_set_no h.1 (Or.inr hp10)]; rfl
  have e4 : f_L_forgotten (-1) T = some (-5, T) := by unfold f_L_forgotten; rw [w_forget_no h.1 (Or.inl (by decide))]; rfl
  have e5 : f_L_moved 0 4 T = some (-5, T) := by
    unfold f_L_moved
    by_cases h0 : zn σ = 0
    · rw [w_move_no h.1 (Or.inr (by rw [h0]; exact Int32.le_refl _))]; rfl
    · rw [show f_X3_moveTo 0 4 T = some (.inr 2, T) from w_move_no2 h.1 (c := 0) (by omega) (Or.inr (nI_le (b := 4) g4 (by decide)))]; rfl
  have e6 : f_L_bought 0 T = some (-2, T) := by unfold f_L_bought; rw [w_buy_no h.1]; rfl
  have e7 : f_L_baked 6 1 T = some (-2, T) := by unfold f_L_baked; rw [w_bake_no h.1]; rfl
  obtain ⟨T', σ', hs', e8, ac⟩ := s_47 h hj
  refine ⟨T', σ', hs', fun f => ?_, ac⟩
  rw [c121_eq, if_neg (show ¬ (11 : Int32) ≤ nI j from nI_ge (b := 11) hj (by decide)), if_neg one, e0, zb_s, zl_s, zk_self, e1, zb_s, zl_s, zk_self, if_pos rfl, e2, zb_s, zl_s, zk_self, if_pos rfl, e3, zb_s, zl_s, zk_self, if_pos rfl, e4, zb_s, zl_s, zk_self, if_pos rfl, e5, zb_s, zl_s, zk_self, if_pos rfl, e6, zb_s, zl_s, zk_self, if_pos rfl, e7, zb_s, zl_s, zk_self, if_pos rfl, e0, zb_s, zl_s, zk_self, if_pos (lgc0 _)]
  exact e8 _
theorem l_acts : ∀ k j f (T : zT) (σ : zRow) (hs : List zRow), zAc 0 j j T σ hs S → j + k = 11 → k < f → ∃ T' σ' hs', lp_L_law_121 b L xs w4 w6 f 1 (nI j) T = some ((1, nI 11), T') ∧ zAc 0 11 11 T' σ' hs' S := by
  intro k
  induction k with
  | zero =>
    intro j f T σ hs h hj hf
    obtain ⟨f, rfl⟩ : ∃ q, f = q + 1 := ⟨f - 1, by omega⟩
    obtain rfl : j = 11 := by omega
    rw [c121_eq, if_pos (show (11 : Int32) ≤ nI 11 from Int32.le_refl _)]
    exact ⟨T, σ, hs, rfl, h⟩
  | succ k ih =>
    intro j f T σ hs h hj hf
    obtain ⟨f, rfl⟩ : ∃ q, f = q + 1 := ⟨f - 1, by omega⟩
    obtain ⟨T1, σ1, hs1, e1, h1⟩ := s_acts (b := b) (L := L) (xs := xs) (w4 := w4) (w6 := w6) h (by omega)
    rw [e1]
    exact ih (j + 1) f T1 σ1 hs1 h1 (by omega) (by omega)
/-- the saved state restored, and one candle bought and given back -/
theorem s_123 {q : Nat} (h : zWs T σ hs S) (g : zGr 0 σ) : ∃ T', (∀ rc, c34_123 rc (nI q) 1 T = rc 1 (nI (q + 1)) T') ∧ T'.1 0 1 1 = 0 := by
  have one : ¬ (1 : Int32) = 0 := by decide
  have e0 := g_sum h
  obtain ⟨x, hx, ex⟩ := g.2.2.1.1
  obtain ⟨T1, e1, w1⟩ := (w_buy h ex (by omega) (n := 1) (by decide) (by decide)).2 (by omega)
  have e1' : f_L_bought 1 T = some (nI (x + 1), T1) := by
    unfold f_L_bought
    rw [show f_X3_buyCandles 1 T = some (.inl (nI (x + 1)), T1) from e1]; rfl
  have w2 := w1.k (T := T)
  generalize eT2 : zk T T1 = T2 at w2
  have e2 := g_sum w2
  have hne : S_sum (upd (upd σ 3 (nI (x + 1))) 7 (σ 7 + nI 1)) ≠ S_sum σ := S_bought (by
    rw [ex, nI_l (by omega), nI_l (by omega), ne_eq, pk_lEQ (by omega) (by omega)]
    omega)
  have hl2 := w2.2.1.1
  rw [List.take_succ_cons, List.length_cons] at hl2
  rw [List.take_succ_cons] at w2
  obtain ⟨T3, e3, w3⟩ := w_undo w2
  have e3' : f_L_undone T2 = some (nI (hs.take 9).length, T3) := by unfold f_L_undone; rw [e3]; rfl
  have w4 := w3.k (T := T2)
  have e4 := g_sum w4
  refine ⟨zk T2 T3, fun rc => ?_, w4.2.2.2⟩
  unfold c34_123
  rw [e0, zb_s, zl_s, zk_self, if_neg one, e1', zb_s, zl_s, eT2, if_neg (nI_nle (by omega) (by omega)), e2, zb_s, zl_s, zk_self, if_neg (lgcn hne), e3', zb_s, zl_s, if_neg (nI_pos (by omega)), e4, zb_s, zl_s, zk_self, if_pos (lgc0 _), zl_s, nI_1]
theorem s_24 {q : Nat} (h : zAc 0 0 0 T σ [] (some (q, σ))) (s0 : σ 0 = 0) : ∃ T', (∀ rc, c34_24 b L xs rc (nI q) 1 T = rc 1 (nI (q + 1)) T') ∧ T'.1 0 1 1 = 0 := by
  have one : ¬ (1 : Int32) = 0 := by decide
  have e0 := g_sum h.1
  obtain ⟨T1, σ1, hs1, e1, ac1⟩ := l_acts (b := b) (L := L) (xs := xs) (w4 := nI q) (w6 := S_sum σ) 11 0 12 T σ [] h (by decide) (by decide)
  rw [← nl_0] at e1
  obtain ⟨v, T2, hv, e2, w2⟩ := g_next ac1.1
  by_cases h2 : nI v - nI v / 2 * 2 = 0
  · obtain ⟨T3, e3, w3⟩ := w_restore w2
    have w4 := w3.k (T := T2)
    have e4 := g_sum w4
    obtain ⟨T', e5, h5⟩ := s_123 (q := q) w4 h.2.1.1.1
    refine ⟨T', fun rc => ?_, h5⟩
    rw [← e5 rc]
    unfold c34_24
    rw [e0, zb_s, zl_s, zk_self, e1, zb_s]
    dsimp only
    rw [if_neg one, e2, zb_s, if_pos h2, e3, zbi_s, zl_s, if_pos s0, e4, zb_s, zl_s, zk_self, if_pos (lgc0 _)]
  · refine ⟨T2, fun rc => ?_, w2.2.2.2⟩
    unfold c34_24
    rw [e0, zb_s, zl_s, zk_self, e1, zb_s]
    dsimp only
    rw [if_neg one, e2, zb_s, if_neg h2, zl_s, nI_1]
theorem s_2 {q : Nat} (hq : q < 2) (h0 : T.1 0 1 1 = 0) (z7 z8 : Int32) : ∃ T', (∀ rc, c34_2 b L xs rc (nI q) 0 z7 z8 T = rc 1 (nI (q + 1)) T') ∧ T'.1 0 1 1 = 0 := by
  obtain ⟨T1, t1⟩ : ∃ z, z = wA T 0 8 (upd (T.2 0 8) 0 (z7 ^^^ z8)) := ⟨_, rfl⟩
  have h1 : T1.1 0 1 1 = 0 := by rw [t1]; exact h0
  obtain ⟨v, y, T2, f1, r1, b1, F1⟩ := g_nxr T1 (d := 9) (by decide) (by decide)
  obtain ⟨v', y', T3, f2, r2, b2, F2⟩ := g_nxr T2 (d := 4) (by decide) (by decide)
  have r1' : v - v / 9 * 9 = nI y := r1
  have r2' : 1 + (v' - v' / 4 * 4) = nI (1 + y') := by rw [show v' - v' / 4 * 4 = nI y' from r2]; exact nI_add 1 _
  have h3 : T3.1 0 1 1 = 0 := by rw [zfr_1 F2 (by omega), zfr_1 F1 (by omega)]; exact h1
  obtain ⟨T4, σ, e4, ac, s0⟩ := g_regload h3 (ng := 1 + y') (nk := y) (by omega) (by omega) (by omega)
  obtain ⟨T5, e5, w5⟩ := w_save hq ac.1
  rw [s0] at e5
  obtain ⟨T', e6, h6⟩ := s_24 (b := b) (L := L) (xs := xs) (T := zk T4 T5) ⟨w5.k, ac.2⟩ s0
  refine ⟨T', fun rc => ?_, h6⟩
  rw [← e6 rc]
  have zc : (0 : Int32).toNatClampNeg = 0 := rfl
  unfold c34_2
  rw [if_pos (show zin (0 : Int32) 1 = true by decide), zl_s, zc, ← t1, f1, zb_s, zl_s, r1', f2, zb_s, zl_s, r2', e4, zb_s, if_pos rfl, e5, zbi_s, zl_s, if_pos rfl]
theorem s_34 {q : Nat} (hq : q < 2) (hL : L ≤ 260) (h0 : T.1 0 1 1 = 0) : ∃ T', (∀ f, lp_L_law_34 b L xs (f + 1) 1 (nI q) T = lp_L_law_34 b L xs f 1 (nI (q + 1)) T') ∧ T'.1 0 1 1 = 0 := by
  have one : ¬ (1 : Int32) = 0 := by decide
  by_cases hl : L ≤ q
  · obtain ⟨T', e, h⟩ := s_2 (b := b) (L := L) (xs := xs) hq h0 (T.2 0 8 0) 0
    refine ⟨T', fun f => ?_, h⟩
    rw [c34_eq, if_neg (show ¬ (2 : Int32) ≤ nI q from nI_ge (b := 2) hq (by decide)), if_neg one, if_pos (show Int32.ofNat L ≤ nI q from nI_le hl (by omega))]
    exact e _
  · obtain ⟨T', e, h⟩ := s_2 (b := b) (L := L) (xs := xs) hq h0 (T.2 0 8 0) (xs q)
    refine ⟨T', fun f => ?_, h⟩
    rw [c34_eq, if_neg (show ¬ (2 : Int32) ≤ nI q from nI_ge (b := 2) hq (by decide)), if_neg one, if_neg (show ¬ Int32.ofNat L ≤ nI q from nI_ge (by omega) (by omega)), if_pos (of_eq_true (q_zt (show q < L by omega) (by omega))), nI_clamp (by omega)]
    exact e _
end LW
/-- the law, on every script -/
theorem law_pure (b L : Nat) (xs : Nat → Int32) (T : zT) (hL : L ≤ 260) (h0 : T.1 0 1 1 = 0) : ∃ T', rg_L_law b L xs T = some (1, T') := by
  obtain ⟨T1, e1, h1⟩ := s_34 (b := b) (L := L) (xs := xs) (q := 0) (by decide) hL h0
  obtain ⟨T2, e2, h2⟩ := s_34 (b := b) (L := L) (xs := xs) (q := 1) (by decide) hL h1
  refine ⟨T2, ?_⟩
  unfold rg_L_law
  rw [show (0 : Int32) = nI 0 from rfl, e1 2, e2 1, c34_eq, if_pos (show (2 : Int32) ≤ nI (1 + 1) from Int32.le_refl _), zb_s]
