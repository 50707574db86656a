/-! LINES: garden, cakes, days -/
section LN
variable {T0 M0 T M : zT} {n : Nat}
/-- a line's end: an error told alike, or both go on -/
def zLn (T0 M0 : zT) (n e : Nat) (fc fm : Option (Unit × zT)) : Prop := ∃ T' M', fc = some ((), T') ∧ fm = some ((), M') ∧ zPh T0 M0 n T' M' ∧ ((zFe T' M' ∧ zN10 T') ∨ (zOK T' M' ∧ zBh n e T' M'))
/-- a line's beginning: the keyword -/
def zKw (T0 M0 : zT) (n s e : Nat) (T M : zT) : Prop := zPh T0 M0 n T M ∧ zOK T M ∧ (T.1 0 1 6 = nI 1 ∧ T.1 0 1 7 = nI s ∧ T.1 0 1 8 = nI e ∧ M.1 0 0 19 = nI s ∧ s ≤ e ∧ e ≤ n) ∧ M.1 0 0 18 = 1 ∧ M.1 0 0 20 = nI e
theorem zN10.of {σ : Nat → Int32} (h : zGd T 2 σ) : zN10 T := ⟨zn σ, h.2.1.n10, h.1.f9.trans h.2.1.n⟩
theorem zN10.fr {T T' : zT} (h : zN10 T) (hf : zfr (fun κ ι => κ = 0 ∧ ι = 1) T T') : zN10 T' := by
  obtain ⟨N, h1, h2⟩ := h
  exact ⟨N, h1, by rw [zfr_1 hf (by omega)]; exact h2⟩
theorem zOK.fr {T T' M M' : zT} (h : zOK T M) (hf : zfr (fun κ ι => κ = 0 ∧ ι = 1) T T') (h0 : T'.1 0 1 2 = 0) (h22 : M'.1 0 0 22 = 0) (h2 : M'.2 2 0 = M.2 2 0) : zOK T' M' := ⟨h0, h22, by rw [h2]; exact h.2.2.fr hf (fun κ a b z => by omega)⟩
theorem zPh.reg {T' M' : zT} (h : zPh T0 M0 n T M) (hf : zfr (zPr 2) T T') (h1 : ∀ j, j < 15 ∨ j = 17 → M'.1 0 0 j = M.1 0 0 j) (h2 : ∀ κ, κ ≠ 2 → κ ≠ 6 → M'.2 κ 0 = M.2 κ 0) : zPh T0 M0 n T' M' := by
  obtain ⟨⟨f1, f2, f3⟩, ⟨m1, m2, m3⟩, k, s, e, a1, a2, a3, a4, a5, a6⟩ := h
  have g : ∀ j, T'.1 0 1 j = T.1 0 1 j := fun j => zfr_1 hf (fun z => by have := z.1; omega) j
  exact ⟨⟨zfr_trans f1 (zfr_mono hf (fun _ _ z => Or.inr z)), ⟨by rw [g]; exact f2.1, fun z => by rw [g] at z ⊢; exact f2.2 z⟩, by rw [g]; exact f3⟩, ⟨fun j hj => (h1 j (Or.inl hj)).trans (m1 j hj), (h1 17 (Or.inr rfl)).trans m2, fun κ x y => (h2 κ x y).trans (m3 κ x y)⟩, k, s, e, by rw [g]; exact a1, a2, by rw [g]; exact a3, by rw [g]; exact a4, a5, a6⟩
theorem zBh.reg {e0 : Nat} {T' M' : zT} (hn : n ≤ 600) (h : zBh n e0 T M) (hP : zPh T0 M0 n T M) (h0 : T.1 0 1 2 = 0) (hf : zfr (zPr 2) T T') (h1 : ∀ j, 18 ≤ j → j ≤ 21 → M'.1 0 0 j = M.1 0 0 j) : zBh n e0 T' M' := by
  obtain ⟨k, s, e, r, ⟨⟨t6, t7, t8, t19, hse, hen⟩, tk⟩, hes⟩ := h
  obtain ⟨⟨f1, f2, f3⟩, -, k1, s1, e1, a1, a2, a3, a4, a5, a6⟩ := hP
  have g : ∀ j, T'.1 0 1 j = T.1 0 1 j := fun j => zfr_1 hf (fun z => by have := z.1; omega) j
  have g4 : T'.2 0 4 = T.2 0 4 := zfr_2 hf (fun z => by have := z.1; omega)
  have x := w_read h0 f3 hn a4 a6 a1 a2
  have y := w_read (T := T') (by rw [g]; exact h0) (by rw [g]; exact f3) hn (by rw [g]; exact a4) a6 (by rw [g]; exact a1) a2
  rw [g4] at y
  obtain ⟨K, eK⟩ : ∃ K, K = (if ztS (T.2 0 4) n e1 = e1 ∧ (k1 = 1 ∨ k1 = 2) ∧ (zcl (T.2 0 4) n (ztS (T.2 0 4) n e1) = 1 ∨ zcl (T.2 0 4) n (ztS (T.2 0 4) n e1) = 2) then 5 else zcl (T.2 0 4) n (ztS (T.2 0 4) n e1)) := ⟨_, rfl⟩
  obtain ⟨S, eS⟩ : ∃ S, S = ztS (T.2 0 4) n e1 := ⟨_, rfl⟩
  obtain ⟨E, eE⟩ : ∃ E, E = ztE (T.2 0 4) n (ztS (T.2 0 4) n e1) := ⟨_, rfl⟩
  rw [← eK, ← eS] at x y
  rw [eS, ← eE] at x y
  rw [← eS] at x y
  have hK : K ≤ 5 := by
    rw [eK]; split
    · decide
    · exact zcl_le _ _ _
  have eq := x.symm.trans r
  have eq2 : zTw T K S E = zTw T k s e := by
    have := Option.some.inj eq
    exact congrArg Prod.snd this
  have hb : S ≤ n := by
    have := zwh_le (p := fun i => decide (zcl (T.2 0 4) n i = 0)) (k := n - e1) (j := e1)
    rw [eS]; unfold ztS; omega
  have hE : E ≤ n + 1 := by
    rw [eE]; unfold ztE ztR
    have h1 := fun f => zwh_le (p := fun i => decide (zcl (T.2 0 4) n i = f)) (k := n - ztS (T.2 0 4) n e1) (j := ztS (T.2 0 4) n e1)
    split
    · have := h1 (zcl (T.2 0 4) n (ztS (T.2 0 4) n e1)); omega
    · split <;> omega
  have hk5 : k ≤ 5 := by omega
  have q6 : k = K := q_inj (by rw [← t6, ← eq2, zTw_6]) (by omega) (by omega)
  have q7 : s = S := q_inj (by rw [← t7, ← eq2, zTw_7]) (by omega) (by omega)
  have q8 : e = E := q_inj (by rw [← t8, ← eq2, zTw_8]) (by omega) (by omega)
  subst q6 q7 q8
  refine ⟨k, s, e, y, ⟨⟨zTw_6, zTw_7, zTw_8, by rw [h1 19 (by decide) (by decide)]; exact t19, hse, hen⟩, ?_⟩, hes⟩
  rw [h1 18 (by decide) (by decide), h1 20 (by decide) (by decide), h1 21 (by decide) (by decide), zTw_2, g4, ← zTw_2 (T := T) (k := k) (s := s) (e := e)]
  exact tk
/-- an error at the current token -/
theorem w_stop {s e0 : Nat} {p : Int32} (hp : ¬ p = 0) (hP : zPh T0 M0 n T M) (hN : zN10 T) (h0 : T.1 0 1 2 = 0) (h22 : M.1 0 0 22 = 0) (h7 : T.1 0 1 7 = nI s) (h19 : M.1 0 0 19 = nI s) : ∃ T' M', f_X1_fail p T = some ((), T') ∧ f_X4_errs p M = some ((), M') ∧ zPh T0 M0 n T' M' ∧ zFe T' M' ∧ zN10 T' := by
  obtain ⟨w1, w2, w3⟩ := w_err (k := 0) (e := 0) hp hP h7 h19
  exact ⟨_, _, x_fail h0 p, m_errs h22 p, w2, w1, hN.fr w3⟩
theorem zKw.adv {s e : Nat} (hC : zCx T0 M0 n) (K : zKw T0 M0 n s e T M) : ∃ M', f_X4_next M = some ((), M') ∧ M'.2 = M.2 ∧ zPh T0 M0 n T M' ∧ zOK T M' ∧ zBh n e T M' := by
  obtain ⟨hP, hO, ⟨t6, t7, t8, t19, hse, hen⟩, q18, q20⟩ := K
  obtain ⟨M', a1, a2, a3, a4, a5⟩ := w_adv hC hP hO.1 t6 t7 t8 hse hen q20 (Or.inr (Or.inl ⟨rfl, q18⟩))
  exact ⟨M', a1, a2, a4, ⟨hO.1, (a3 22 (by omega)).trans hO.2.1, by rw [a2]; exact hO.2.2⟩, a5⟩
/-- a number, then the rest -/
theorem w_seq {e0 : Nat} {lo hi : Int32} {kc : Int32 → zT → Option (Unit × zT)} {km : Int32 → zT → Option (Unit × zT)} (hC : zCx T0 M0 n) (hP : zPh T0 M0 n T M) (hO : zOK T M) (hB : zBh n e0 T M)
    (hf : ∀ v T' M', zPh T0 M0 n T' M' → zFe T' M' → zN10 T' → zLn T0 M0 n e0 (kc v T') (km lo M'))
    (hk : ∀ v T' M', ¬ v < lo → ¬ hi < v → zPh T0 M0 n T' M' → zOK T' M' → zBh n e0 T' M' → M'.2 = M.2 → zfr (fun κ ι => κ = 0 ∧ ι = 1) T T' → zLn T0 M0 n e0 (kc v T') (km v M')) : zLn T0 M0 n e0 (zb (f_X1_readNumber lo hi T) kc) (zb (f_X4_takesNumber lo hi M) km) := by
  obtain ⟨v, T', v', M', x1, m1, hP', F, m2, hh⟩ := w_numT hC hP hO.1 hO.2.1 hB lo hi
  rw [x1, m1, zb_s, zb_s]
  rcases hh with ⟨h1, rfl⟩ | ⟨rfl, c1, c2, g0, g22, hB'⟩
  · exact hf v T' M' hP' h1 ((zN10.of hO.2.2).fr F)
  · exact hk v' T' M' c1 c2 hP' (hO.fr F g0 g22 (by rw [m2])) hB' m2 F
/-- .. with the token still looked at -/
theorem w_seqH {e0 : Nat} {lo hi : Int32} {kc : Int32 → zT → Option (Unit × zT)} {km : Int32 → zT → Option (Unit × zT)} (hC : zCx T0 M0 n) (hP : zPh T0 M0 n T M) (hO : zOK T M) (hB : zBh n e0 T M)
    (hf : ∀ v T' M', zPh T0 M0 n T' M' → zFe T' M' → zN10 T' → zLn T0 M0 n e0 (kc v T') (km lo M'))
    (hk : ∀ v T' M' s e, ¬ v < lo → ¬ hi < v → zPh T0 M0 n T' M' → zOK T' M' → T'.1 0 1 6 = nI 2 → T'.1 0 1 7 = nI s → T'.1 0 1 8 = nI e → M'.1 0 0 19 = nI s → s ≤ e → e ≤ n → M'.1 0 0 18 = 2 → M'.1 0 0 20 = nI e → e0 ≤ e → M'.2 = M.2 → zfr (fun κ ι => κ = 0 ∧ ι = 1) T T' → zLn T0 M0 n e0 (kc v T') (km v M')) : zLn T0 M0 n e0 (zb (f_X1_readNumber lo hi T) kc) (zb (f_X4_here lo hi M) km) := by
  obtain ⟨v, T', v', M', x1, m1, hP', F, m2, hh⟩ := w_numH hC hP hO.1 hO.2.1 hB lo hi
  rw [x1, m1, zb_s, zb_s]
  rcases hh with ⟨h1, rfl⟩ | ⟨rfl, c1, c2, g0, g22, s, e, ⟨⟨t6, t7, t8, t19, hse, hen⟩, -⟩, h4, q18, q20, hes⟩
  · exact hf v T' M' hP' h1 ((zN10.of hO.2.2).fr F)
  · exact hk v' T' M' s e c1 c2 hP' (hO.fr F g0 g22 (by rw [m2])) t6 t7 t8 t19 hse hen q18 q20 (by omega) m2 F
theorem zLn.bad {e : Nat} {T' M' : zT} {fc fm : Option (Unit × zT)} (h1 : fc = some ((), T')) (h2 : fm = some ((), M')) (hP : zPh T0 M0 n T' M') (hF : zFe T' M') (hN : zN10 T') : zLn T0 M0 n e fc fm := ⟨T', M', h1, h2, hP, Or.inl ⟨hF, hN⟩⟩
theorem zBh.mono {e e' : Nat} (h : zBh n e T M) (he : e' ≤ e) : zBh n e' T M := by
  obtain ⟨k, s, x, a, b, c⟩ := h
  exact ⟨k, s, x, a, b, by omega⟩
/-- a garden line -/
theorem l_gard {s e : Nat} (hC : zCx T0 M0 n) (K : zKw T0 M0 n s e T M) : zLn T0 M0 n e (f_X1_readGarden T) (f_X4_readsGarden M) := by
  obtain ⟨M1, a1, a2, hP1, hO1, hB1⟩ := K.adv hC
  obtain ⟨hP, hO, ⟨t6, t7, t8, t19, hse, hen⟩, q18, q20⟩ := K
  have I := hO.2.2.2.1
  have R := hO.2.2.1
  have g4 := I.g4
  have hn := hC.1
  unfold f_X1_readGarden f_X4_readsGarden
  rw [R.f8, I.g]
  by_cases h4 : zg (M.2 2 0) = 4
  · obtain ⟨T1, M2, x1, m1, hP2, hF, hN⟩ := w_stop (p := 5) (e0 := 0) (by decide) hP (zN10.of hO.2.2) hO.1 hO.2.1 t7 t19
    obtain ⟨v, x2⟩ := xf_num hn hP2 hF.1 1 12
    rw [if_neg (show ¬ nI (zg (M.2 2 0)) < (4 : Int32) by rw [h4]; decide), if_pos (show nI (zg (M.2 2 0)) = (4 : Int32) by rw [h4]; rfl), x1, m1, zb_s, zb_s, x2, zb_s, if_neg hF.1]
    exact .bad rfl rfl hP2 hF hN
  · rw [if_pos (show nI (zg (M.2 2 0)) < (4 : Int32) from nI_lt (b := 4) (by omega) (by decide)), if_neg (show ¬ nI (zg (M.2 2 0)) = (4 : Int32) from fun z => h4 (q_inj (b := 4) z (by omega) (by decide))), a1, zb_s]
    refine w_seq hC hP1 hO1 hB1 (fun v T' M' hP' hF hN => ?_) (fun v T' M' c1 c2 hP' hO' hB' m2 F => ?_)
    · rw [if_neg hF.1, if_neg hF.m]
      exact .bad rfl rfl hP' hF hN
    · rw [if_pos hO'.1, if_pos hO'.2.1]
      have e2 : M'.2 2 0 = M.2 2 0 := by rw [m2, a2]
      obtain ⟨T2, σ', b1, b2, b3, b4, b5, b6, b7, b8⟩ := w_gard (M := M') hO'.2.2.1 hO'.2.2.2.1 rfl (by rw [e2]; omega) v
      rw [b1, b2, zb_s, zb_s]
      refine ⟨T2, _, rfl, rfl, hP'.reg b5 (fun j _ => rfl) (fun κ x y => q_wAo (by omega)), Or.inr ⟨⟨?_, hO'.2.1, ?_⟩, hB'.reg hn hP' hO'.1 b5 (fun j _ _ => rfl)⟩⟩
      · rw [zfr_1 b5 (fun z => by have := z.1; omega)]; exact hO'.1
      · rw [q_wAs]; exact ⟨b3, b4, hO'.2.2.2.2.same b6⟩
/-- a line of cakes -/
theorem l_cake {s e : Nat} (hC : zCx T0 M0 n) (K : zKw T0 M0 n s e T M) : zLn T0 M0 n e (f_X1_readCakes T) (f_X4_readsCakes M) := by
  obtain ⟨M1, a1, a2, hP1, hO1, hB1⟩ := K.adv hC
  have hn := hC.1
  unfold f_X1_readCakes f_X4_readsCakes
  rw [a1, zb_s]
  refine w_seq hC hP1 hO1 hB1 (fun v T' M' hP' hF hN => ?_) (fun v T' M' c1 c2 hP' hO' hB' m2 F => ?_)
  · obtain ⟨w, x1⟩ := q_cell_tot (T := T') (κ := 2) (ι := 2) (by rw [zlen_2]; decide) v
    obtain ⟨u, x2⟩ := xf_num hn hP' hF.1 1 (99 - w)
    rw [x1, zb_s, x2, zb_s, if_neg hF.1, zl_s, if_pos (show zin ((11 : Int32) + 0) 151 = true by decide), zl_s, mf_takes hF.m, zb_s, if_neg hF.m]
    exact .bad rfl rfl hP' hF hN
  · obtain ⟨k, hk0, hk5, rfl⟩ : ∃ k : Nat, 0 ≤ k ∧ k ≤ 5 ∧ v = nI k := by
      rcases q_rng (p := v) (a := 0) (b := 5) (by decide) (by decide) with h | h | h
      · exact (c1 h).elim
      · exact (c2 h).elim
      · exact h
    have R := hO'.2.2.1
    have hk6 : k < 6 := by omega
    rw [q_cell (by rw [zlen_2]; exact hk6) (by rw [zlen_2]; decide), R.ck hk6, zb_s]
    simp (disch := omega) only [zl_s, q_la11, q_zt, q_clamp, if_true]
    refine w_seq hC hP' hO' hB' (fun v T2 M2 hP2 hF hN => ?_) (fun v T2 M2 c1 c2 hP2 hO2 hB2 m3 F2 => ?_)
    · rw [if_neg hF.1, if_neg hF.m]
      exact .bad rfl rfl hP2 hF hN
    · have R2 := hO2.2.2.1
      have I2 := hO2.2.2.2.1
      rw [if_pos hO2.1, if_pos hO2.2.1, q_addTo (by rw [zlen_2]; exact hk6) (by rw [zlen_2]; decide), R2.ck hk6, zb_s]
      have F3 : zfr (zPr 2) T2 (wA T2 2 2 (upd (T2.2 2 2) k (M2.2 2 0 (11 + k) + v))) := zfr_wA ⟨by decide, by decide, rfl⟩
      refine ⟨_, _, rfl, rfl, hP2.reg F3 (fun j _ => rfl) (fun κ x y => q_wAo (by omega)), Or.inr ⟨⟨hO2.1, hO2.2.1, ?_⟩, hB2.reg hn hP2 hO2.1 F3 (fun j _ _ => rfl)⟩⟩
      rw [q_wAs]
      exact ⟨R2.a2 hk6 _, I2.up (Or.inr (Or.inr (Or.inr (Or.inr (Or.inl ⟨by omega, by omega⟩))))), hO2.2.2.2.2.same (pk_un (by omega))⟩
end LN
