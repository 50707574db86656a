/-! THE PARSERS, SIDE BY SIDE: numbers, names, words -/
section FM
variable {T0 M0 T M : zT} {n : Nat}
theorem zFe.m {T M : zT} (h : zFe T M) : ¬ M.1 0 0 22 = 0 := fun z => h.1 (h.2.1.trans z)
/-- class and model with an error go on as they are -/
theorem xf_tok (h : ¬ T.1 0 1 2 = 0) : f_X1_readToken T = some ((), T) := by unfold f_X1_readToken; rw [if_neg h]
theorem xf_fail (h : ¬ T.1 0 1 2 = 0) (p : Int32) : f_X1_fail p T = some ((), T) := by unfold f_X1_fail; rw [if_neg h]
theorem q_byteAt {i : Nat} (h : i < 600) : f_X1_byteAt (nI i) T = some (T.2 0 4 i, T) := by
  unfold f_X1_byteAt
  rw [if_neg (nI_pos (by omega)), if_neg (show ¬ (600 : Int32) ≤ nI i from nI_ge (b := 600) h (by decide)), if_pos (of_eq_true (q_zt h (by decide))), nI_clamp (by omega)]
theorem q_numl {w1 w2 : Int32} {e : Nat} (h8 : T.1 0 1 8 = nI e) (he : e ≤ 600) : ∀ k j f u, j + k = e → k < f → lp_X1_readNumber_40 w1 w2 f u (nI j) T = some ((zfo (fun i u => u * 10 + T.2 0 4 i - 48) j k u, nI e), T) := by
  intro k
  induction k with
  | zero =>
    intro j f u hj hf
    obtain ⟨f, rfl⟩ : ∃ g, f = g + 1 := ⟨f - 1, by omega⟩
    obtain rfl : j = e := by omega
    rw [lp_X1_readNumber_40, h8, if_pos (Int32.le_refl _)]; rfl
  | succ k ih =>
    intro j f u hj hf
    obtain ⟨f, rfl⟩ : ∃ g, f = g + 1 := ⟨f - 1, by omega⟩
    rw [lp_X1_readNumber_40, h8, if_neg (nI_ge (by omega) (by omega)), q_byteAt (by omega), zb_s, zl_s, zl_s, nI_1]
    exact ih (j + 1) f _ (by omega) (by omega)
theorem q_naml {e : Nat} (h8 : T.1 0 1 8 = nI e) (he : e ≤ 600) : ∀ k j f u, j + k = e → k < f → lp_X1_readName_38 f u (nI j) T = some ((zfo (fun i u => u * 27 + T.2 0 4 i - 97 + 1) j k u, nI e), T) := by
  intro k
  induction k with
  | zero =>
    intro j f u hj hf
    obtain ⟨f, rfl⟩ : ∃ g, f = g + 1 := ⟨f - 1, by omega⟩
    obtain rfl : j = e := by omega
    rw [lp_X1_readName_38, h8, if_pos (Int32.le_refl _)]; rfl
  | succ k ih =>
    intro j f u hj hf
    obtain ⟨f, rfl⟩ : ∃ g, f = g + 1 := ⟨f - 1, by omega⟩
    rw [lp_X1_readName_38, h8, if_neg (nI_ge (by omega) (by omega)), q_byteAt (by omega), zb_s, zl_s, zl_s, nI_1]
    exact ih (j + 1) f _ (by omega) (by omega)
theorem q_nam31 {s e : Nat} (h7 : T.1 0 1 7 = nI s) (h8 : T.1 0 1 8 = nI e) (hse : s ≤ e) (he : e ≤ 600) : jn_X1_readName_31 T = some (zfo (fun i u => u * 27 + T.2 0 4 i - 97 + 1) s (e - s) 0, T) := by
  unfold jn_X1_readName_31
  rw [h7, zl_s, q_naml h8 he (e - s) s 2000 0 (by omega) (by omega), zb_s]
theorem xf_num (hn : n ≤ 600) (hP : zPh T0 M0 n T M) (h : ¬ T.1 0 1 2 = 0) (lo hi : Int32) : ∃ v, f_X1_readNumber lo hi T = some (v, T) := by
  obtain ⟨k, s, e, -, -, h7, h8, hse, hen⟩ := hP.2.2
  unfold f_X1_readNumber
  rw [xf_tok h, zb_s]
  simp only [xf_fail h, zb_s]
  by_cases h2 : T.1 0 1 6 = 2
  · rw [if_pos h2]
    by_cases h4 : T.1 0 1 8 - T.1 0 1 7 ≤ 4
    · rw [if_pos h4, h7, zl_s, q_numl h8 (by omega) (e - s) s 2000 0 (by omega) (by omega), zb_s]
      simp only [xf_fail h, zb_s]
      split
      · exact ⟨_, rfl⟩
      · split <;> exact ⟨_, rfl⟩
    · rw [if_neg h4]; exact ⟨_, rfl⟩
  · rw [if_neg h2]; exact ⟨_, rfl⟩
theorem xf_nam (hn : n ≤ 600) (hP : zPh T0 M0 n T M) (h : ¬ T.1 0 1 2 = 0) : ∃ v, f_X1_readName T = some (v, T) := by
  obtain ⟨k, s, e, -, -, h7, h8, hse, hen⟩ := hP.2.2
  unfold f_X1_readName jn_X1_readName_26
  rw [xf_tok h, zb_s, xf_fail h, zb_s, q_nam31 h7 h8 hse (by omega)]
  split
  · split <;> exact ⟨_, rfl⟩
  · exact ⟨_, rfl⟩
theorem q_cell_tot {κ ι : Nat} (hl : zlen 0 κ ι ≤ 600) (p : Int32) : ∃ v, f_X3_cell κ ι p T = some (v, T) := by
  rcases pk_ix p (n := zlen 0 κ ι) (by omega) with h | h | ⟨j, hj, rfl⟩
  · exact ⟨_, q_cell0 h⟩
  · by_cases h0 : p < 0
    · exact ⟨_, q_cell0 h0⟩
    · unfold f_X3_cell
      rw [if_neg h0, if_pos h]; exact ⟨_, rfl⟩
  · exact ⟨_, q_cell hj hl⟩
theorem xf_named (h : zN10 T) (v : Int32) : ∃ x, f_X2_childNamed 2 v T = some (x, T) := by
  obtain ⟨N, hN, h9⟩ := h
  have key : ∀ k j f, j + k = N → k < f → ∃ a x, lp_X2_childNamed_2 2 v f (nI j) T = some ((a, x), T) ∧ (a = 0 ∨ a = 1) := by
    intro k
    induction k with
    | zero =>
      intro j f hj hf
      obtain ⟨f, rfl⟩ : ∃ g, f = g + 1 := ⟨f - 1, by omega⟩
      obtain rfl : j = N := by omega
      rw [lp_X2_childNamed_2, h9, if_pos (Int32.le_refl _)]; exact ⟨_, _, rfl, Or.inr rfl⟩
    | succ k ih =>
      intro j f hj hf
      obtain ⟨f, rfl⟩ : ∃ g, f = g + 1 := ⟨f - 1, by omega⟩
      rw [lp_X2_childNamed_2, h9, if_neg (nI_ge (by omega) (by omega)), q_cellc (by decide) (by omega), zb_s]
      split
      · exact ⟨_, _, rfl, Or.inl rfl⟩
      · rw [zl_s, nI_1]; exact ih (j + 1) f (by omega) (by omega)
  obtain ⟨a, x, e, ha⟩ := key N 0 2000 (by omega) (by omega)
  rw [← nl_0] at e
  unfold f_X2_childNamed
  rw [e, zb_s]
  rcases ha with rfl | rfl
  · exact ⟨_, rfl⟩
  · exact ⟨_, rfl⟩
theorem xf_known (hn : n ≤ 600) (hP : zPh T0 M0 n T M) (h : ¬ T.1 0 1 2 = 0) (h9 : zN10 T) : ∃ v, f_X1_readKnownChild T = some (v, T) := by
  obtain ⟨v, e1⟩ := xf_nam hn hP h
  obtain ⟨x, e2⟩ := xf_named h9 v
  unfold f_X1_readKnownChild
  rw [e1, zb_s, e2, zb_s]
  split
  · rw [xf_fail h, zb_s]; exact ⟨_, rfl⟩
  · exact ⟨_, rfl⟩
theorem mf_here (h : ¬ M.1 0 0 22 = 0) (lo hi : Int32) : f_X4_here lo hi M = some (lo, M) := by
  unfold f_X4_here jn_X4_here_20
  rw [if_neg h, if_neg h, if_neg h]
theorem mf_goes (h : ¬ M.1 0 0 22 = 0) : f_X4_goesOn M = some ((), M) := by unfold f_X4_goesOn; rw [if_neg h]
theorem mf_takes (h : ¬ M.1 0 0 22 = 0) (lo hi : Int32) : f_X4_takesNumber lo hi M = some (lo, M) := by
  unfold f_X4_takesNumber
  rw [mf_here h, zb_s, mf_goes h, zb_s]
theorem mf_errs (h : ¬ M.1 0 0 22 = 0) (p : Int32) : f_X4_errs p M = some ((), M) := by unfold f_X4_errs; rw [if_neg h]
theorem mf_spells (h : ¬ M.1 0 0 22 = 0) : f_X4_spellsHere M = some ((), M) := by
  unfold f_X4_spellsHere jn_X4_spellsHere_34
  rw [if_neg h, lp_X4_spellsHere_36, if_neg (by decide), if_neg h, zb_s]
theorem mf_child (h : ¬ M.1 0 0 22 = 0) : f_X4_childHere M = some (0, M) := by
  unfold f_X4_childHere
  rw [mf_spells h, zb_s, if_neg h, if_neg (show ¬ (0 : Int32) = -1 by decide), if_neg h]
end FM
section TK
variable {T0 M0 T M : zT} {n : Nat}
theorem x_fail (h : T.1 0 1 2 = 0) (p : Int32) : f_X1_fail p T = some ((), wI (wI T 0 1 2 p) 0 1 3 (T.1 0 1 7)) := by
  unfold f_X1_fail
  rw [if_pos h, zl_s, zl_s, zl_s, q_wIk (by omega)]
theorem m_errs (h : M.1 0 0 22 = 0) (p : Int32) : f_X4_errs p M = some ((), wI (wI M 0 0 22 p) 0 0 23 (M.1 0 0 19)) := by
  unfold f_X4_errs
  rw [if_pos h, zl_s, zl_s, zl_s, q_wIk (by omega)]
/-- both tell the same error, at the same place -/
theorem w_err {k s e : Nat} {p : Int32} (hp : ¬ p = 0) (hP : zPh T0 M0 n T M) (h7 : T.1 0 1 7 = nI s) (h19 : M.1 0 0 19 = nI s) : zFe (wI (wI T 0 1 2 p) 0 1 3 (T.1 0 1 7)) (wI (wI M 0 0 22 p) 0 0 23 (M.1 0 0 19)) ∧ zPh T0 M0 n (wI (wI T 0 1 2 p) 0 1 3 (T.1 0 1 7)) (wI (wI M 0 0 22 p) 0 0 23 (M.1 0 0 19)) ∧ zfr (fun κ ι => κ = 0 ∧ ι = 1) T (wI (wI T 0 1 2 p) 0 1 3 (T.1 0 1 7)) := by
  have F : zfr (fun κ ι => κ = 0 ∧ ι = 1) T (wI (wI T 0 1 2 p) 0 1 3 (T.1 0 1 7)) := zfr_trans (zfr_wI ⟨rfl, rfl⟩) (zfr_wI ⟨rfl, rfl⟩)
  refine ⟨⟨?_, ?_, ?_⟩, ?_, F⟩
  · rw [q_wIk (by omega), q_wIs]; exact hp
  · rw [q_wIk (by omega), q_wIs, q_wIk (by omega), q_wIs]
  · rw [q_wIs, q_wIs, h7, h19]
  · obtain ⟨⟨f1, f2, f3⟩, ⟨m1, m2, m3⟩, k', s', e', a1, a2, a3, a4, a5⟩ := hP
    refine ⟨⟨zfr_trans f1 (zfr_mono F (fun _ _ z => Or.inl z)), ?_, ?_⟩, ⟨fun j hj => ?_, ?_, m3⟩, k', s', e', ?_, a2, ?_, ?_, a5⟩
    · exact ⟨by rw [q_wIk (by omega), q_wIk (by omega)]; exact f2.1, fun z => absurd z (by rw [q_wIk (by omega), q_wIs]; exact hp)⟩
    · rw [q_wIk (by omega), q_wIk (by omega)]; exact f3
    · rw [q_wIk (by omega), q_wIk (by omega)]; exact m1 j hj
    · rw [q_wIk (by omega), q_wIk (by omega)]; exact m2
    · rw [q_wIk (by omega), q_wIk (by omega)]; exact a1
    · rw [q_wIk (by omega), q_wIk (by omega)]; exact a3
    · rw [q_wIk (by omega), q_wIk (by omega)]; exact a4
theorem zPh.tw {k s e : Nat} (hP : zPh T0 M0 n T M) (hk : k ≤ 5) (hse : s ≤ e) (hen : e ≤ n) : zPh T0 M0 n (zTw T k s e) M := by
  obtain ⟨⟨f1, f2, f3⟩, hm, -⟩ := hP
  exact ⟨⟨zfr_trans f1 (zfr_mono zTw_fr (fun _ _ z => Or.inl z)), ⟨by rw [zTw_j (by omega)]; exact f2.1, fun z => by rw [zTw_j (by omega)] at z ⊢; exact f2.2 z⟩, by rw [zTw_j (by omega)]; exact f3⟩, hm, k, s, e, zTw_6, hk, zTw_7, zTw_8, hse, hen⟩
/-- a number read -/
theorem w_numH {e0 : Nat} (hC : zCx T0 M0 n) (hP : zPh T0 M0 n T M) (h0 : T.1 0 1 2 = 0) (h22 : M.1 0 0 22 = 0) (hB : zBh n e0 T M) (lo hi : Int32) : ∃ v T' v' M', f_X1_readNumber lo hi T = some (v, T') ∧ f_X4_here lo hi M = some (v', M') ∧ zPh T0 M0 n T' M' ∧ zfr (fun κ ι => κ = 0 ∧ ι = 1) T T' ∧ M'.2 = M.2 ∧ ((zFe T' M' ∧ v' = lo) ∨ (v' = v ∧ ¬ v < lo ∧ ¬ hi < v ∧ T'.1 0 1 2 = 0 ∧ M'.1 0 0 22 = 0 ∧ ∃ s e, zTk n T' M' 2 s e ∧ e - s ≤ 4 ∧ M'.1 0 0 18 = 2 ∧ M'.1 0 0 20 = nI e ∧ e0 ≤ s)) := by
  obtain ⟨k, s, e, r1, ⟨⟨t6, t7, t8, t19, hse, hen⟩, tk⟩, hes⟩ := hB
  have hn := hC.1
  have h0' : (zTw T k s e).1 0 1 2 = 0 := by rw [zTw_j (by omega)]; exact h0
  have hk5 : k ≤ 5 := by omega
  have hP' := hP.tw hk5 hse hen
  have z21 : ¬ (4 : Int32) = 2 := by decide
  have bad : ∀ p : Int32, ¬ p = 0 → f_X1_readNumber lo hi T = zb (f_X1_fail p (zTw T k s e)) (fun _ T' => some (0, T')) → f_X4_here lo hi M = zb (f_X4_errs p M) (fun _ M' => some (lo, M')) → ∃ v T' v' M', f_X1_readNumber lo hi T = some (v, T') ∧ f_X4_here lo hi M = some (v', M') ∧ zPh T0 M0 n T' M' ∧ zfr (fun κ ι => κ = 0 ∧ ι = 1) T T' ∧ M'.2 = M.2 ∧ ((zFe T' M' ∧ v' = lo) ∨ (v' = v ∧ ¬ v < lo ∧ ¬ hi < v ∧ T'.1 0 1 2 = 0 ∧ M'.1 0 0 22 = 0 ∧ ∃ s e, zTk n T' M' 2 s e ∧ e - s ≤ 4 ∧ M'.1 0 0 18 = 2 ∧ M'.1 0 0 20 = nI e ∧ e0 ≤ s)) := by
    intro p hp ex em
    obtain ⟨w1, w2, w3⟩ := w_err (k := k) (e := e) hp hP' t7 t19
    rw [x_fail h0', zb_s] at ex
    rw [m_errs h22, zb_s] at em
    exact ⟨_, _, _, _, ex, em, w2, zfr_trans zTw_fr w3, rfl, Or.inl ⟨w1, rfl⟩⟩
  have mnot : ¬ M.1 0 0 18 = 2 → f_X4_here lo hi M = zb (f_X4_errs 1 M) (fun _ M' => some (lo, M')) := by
    intro h
    unfold f_X4_here jn_X4_here_20
    have e22 : ¬ (wI (wI M 0 0 22 1) 0 0 23 (M.1 0 0 19)).1 0 0 22 = 0 := by rw [q_wIk (by omega), q_wIs]; decide
    rw [if_pos h22, if_neg h, m_errs h22, zb_s, zb_s, if_neg e22, if_neg e22]
  have xnot : ¬ k = 2 ∨ 4 < e - s → f_X1_readNumber lo hi T = zb (f_X1_fail 1 (zTw T k s e)) (fun _ T' => some (0, T')) := by
    intro h
    unfold f_X1_readNumber
    rw [r1, zb_s, t6, t7, t8]
    by_cases h2 : k = 2
    · rw [if_pos (by rw [h2]; rfl), pk_sub hse, if_neg (show ¬ nI (e - s) ≤ (4 : Int32) from nI_ge (a := 4) (by omega) (by omega))]
    · rw [if_neg (by rw [nl_2, q_eq (by omega) (by omega)]; exact h2)]
  have one : ¬ (1 : Int32) = 0 := by decide
  rcases tk with ⟨rfl, q18, -⟩ | ⟨rfl, h4, q18, q20, q21⟩ | ⟨rfl, h4, q18⟩ | ⟨rfl, q18, -⟩ | ⟨rfl, q18, -⟩ | ⟨rfl, q18⟩
  · exact bad 1 one (xnot (Or.inl (by decide))) (mnot (by rw [q18]; decide))
  · -- a number of at most four digits
    obtain ⟨v, ev⟩ : ∃ v, v = zfo (fun i u => u * 10 + T.2 0 4 i - 48) s (e - s) 0 := ⟨_, rfl⟩
    have ev2 : M.1 0 0 21 = v := by
      rw [q21, ev]
      refine zfo_congr (fun i a b u => ?_)
      unfold zvs
      rw [if_pos (by omega), zTw_2, Int32.mul_comm]
    have x1 : f_X1_readNumber lo hi T = (if v < lo then zb (f_X1_fail 2 (zTw T 2 s e)) (fun _ T' => some (0, T')) else if v ≤ hi then some (v, zTw T 2 s e) else zb (f_X1_fail 2 (zTw T 2 s e)) (fun _ T' => some (0, T'))) := by
      unfold f_X1_readNumber
      rw [r1, zb_s, t6, if_pos (show nI 2 = (2 : Int32) from rfl), t7, t8, pk_sub hse, if_pos (show nI (e - s) ≤ (4 : Int32) from nI_le (b := 4) h4 (by decide)), zl_s, q_numl t8 (by omega) (e - s) s 2000 0 (by omega) (by omega), zb_s]
      simp only [zTw_2, ← ev]
    have m1 : f_X4_here lo hi M = (if v < lo then zb (f_X4_errs 2 M) (fun _ M' => some (lo, M')) else if hi < v then zb (f_X4_errs 2 M) (fun _ M' => some (lo, M')) else some (v, M)) := by
      have e22 : ¬ (wI (wI M 0 0 22 2) 0 0 23 (M.1 0 0 19)).1 0 0 22 = 0 := by rw [q_wIk (by omega), q_wIs]; decide
      unfold f_X4_here jn_X4_here_20
      rw [if_pos h22, if_pos q18, if_pos h22, ev2, q_in, zb_s, m_errs h22, zb_s, zb_s, if_neg e22]
      by_cases c1 : v < lo
      · rw [if_pos c1, if_pos c1, if_pos rfl]
      · rw [if_neg c1, if_neg c1]
        by_cases c2 : hi < v
        · rw [if_pos c2, if_pos c2, if_pos rfl]
        · rw [if_neg c2, if_neg c2, if_neg one, if_pos h22, ev2]
    have two : ¬ (2 : Int32) = 0 := by decide
    by_cases c1 : v < lo
    · rw [if_pos c1] at x1 m1
      exact bad 2 two x1 m1
    · rw [if_neg c1] at x1 m1
      by_cases c2 : hi < v
      · rw [if_neg (Int32.not_le.mpr c2)] at x1
        rw [if_pos c2] at m1
        exact bad 2 two x1 m1
      · rw [if_pos (Int32.not_lt.mp c2)] at x1
        rw [if_neg c2] at m1
        exact ⟨v, _, v, M, x1, m1, hP', zTw_fr, rfl, Or.inr ⟨rfl, c1, c2, h0', h22, s, e, ⟨⟨t6, t7, t8, t19, hse, hen⟩, Or.inr (Or.inl ⟨rfl, h4, q18, q20, q21⟩)⟩, h4, q18, q20, hes⟩⟩
  · exact bad 1 one (xnot (Or.inr h4)) (mnot (by rw [q18]; decide))
  · exact bad 1 one (xnot (Or.inl (by decide))) (mnot (by rw [q18]; decide))
  · exact bad 1 one (xnot (Or.inl (by decide))) (mnot (by rw [q18]; decide))
  · exact bad 1 one (xnot (Or.inl (by decide))) (mnot (by rw [q18]; decide))
/-- .. and the next token looked at -/
theorem w_numT {e0 : Nat} (hC : zCx T0 M0 n) (hP : zPh T0 M0 n T M) (h0 : T.1 0 1 2 = 0) (h22 : M.1 0 0 22 = 0) (hB : zBh n e0 T M) (lo hi : Int32) : ∃ v T' v' M', f_X1_readNumber lo hi T = some (v, T') ∧ f_X4_takesNumber lo hi M = some (v', M') ∧ zPh T0 M0 n T' M' ∧ zfr (fun κ ι => κ = 0 ∧ ι = 1) T T' ∧ M'.2 = M.2 ∧ ((zFe T' M' ∧ v' = lo) ∨ (v' = v ∧ ¬ v < lo ∧ ¬ hi < v ∧ T'.1 0 1 2 = 0 ∧ M'.1 0 0 22 = 0 ∧ zBh n e0 T' M')) := by
  obtain ⟨v, T', v', M', x1, m1, hP', F, m2, hh⟩ := w_numH hC hP h0 h22 hB lo hi
  unfold f_X4_takesNumber
  rw [m1, zb_s]
  rcases hh with ⟨hf, hv⟩ | ⟨rfl, c1, c2, g0, g22, s, e, tk, h4, q18, q20, hes⟩
  · rw [mf_goes hf.m, zb_s]
    exact ⟨v, T', v', M', x1, rfl, hP', F, m2, Or.inl ⟨hf, hv⟩⟩
  · obtain ⟨⟨t6, t7, t8, t19, hse, hen⟩, -⟩ := tk
    obtain ⟨M2, a1, a2, a3, a4, k2, s2, e2, a5, a6, a7⟩ := w_adv hC hP' g0 t6 t7 t8 hse hen q20 (Or.inr (Or.inr (Or.inl ⟨rfl, q18⟩)))
    unfold f_X4_goesOn
    rw [if_pos g22, a1, zb_s, zb_s]
    exact ⟨v', T', v', M2, x1, rfl, a4, F, a2.trans m2, Or.inr ⟨rfl, c1, c2, g0, (a3 22 (by omega)).trans g22, k2, s2, e2, a5, a6, by omega⟩⟩
end TK
