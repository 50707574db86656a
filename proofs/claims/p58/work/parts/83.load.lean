/-! A DRAWN REGISTRY, LOADED -/
theorem rT_lt {s c : Nat} {gs : List Nat} {ks : List (Nat × Nat × Nat × Nat)} {cs : List (Nat × Nat)} (hs : s < 9973) (hc : c < 300) {ng : Nat} (hng : ng ≤ 4) (ok1 : okG gs) (ok2 : okK ng ks) (hk : ks.length ≤ 10) (ok3 : okC cs) : ∀ x ∈ rT s c gs ks cs, x < 128 := by
  have zd : ∀ v, v < 10000 → ∀ l : List Nat, (∀ x ∈ l, x < 128) → ∀ x ∈ zdig v ++ l, x < 128 := fun v hv l hl x hx => by
    rcases List.mem_append.mp hx with h | h
    · exact zdig_lt hv x h
    · exact hl x h
  have zc : ∀ a, a < 128 → ∀ l : List Nat, (∀ x ∈ l, x < 128) → ∀ x ∈ a :: l, x < 128 := fun a ha l hl x hx => by
    rcases List.mem_cons.mp hx with h | h
    · rw [h]; exact ha
    · exact hl x h
  have zw : ∀ w : List Nat, (∀ x ∈ w, x < 128) → ∀ l : List Nat, (∀ x ∈ l, x < 128) → ∀ x ∈ w ++ l, x < 128 := fun w hw l hl x hx => by
    rcases List.mem_append.mp hx with h | h
    · exact hw x h
    · exact hl x h
  have hC : ∀ cs : List (Nat × Nat), okC cs → ∀ x ∈ rC cs [], x < 128 := by
    intro cs
    induction cs with
    | nil => intro _ x hx; cases hx
    | cons q r ih =>
      intro ok
      obtain ⟨a1, a2, a3⟩ := ok q List.mem_cons_self
      exact zc _ (by decide) _ (zw _ (by decide) _ (zc _ (by decide) _ (zd _ (by omega) _ (zc _ (by decide) _ (zd _ (by omega) _ (ih (fun x hx => ok x (List.mem_cons_of_mem _ hx))))))))
  have hK : ∀ (ks : List (Nat × Nat × Nat × Nat)) (j : Nat) (l : List Nat), okK ng ks → j + ks.length ≤ 10 → (∀ x ∈ l, x < 128) → ∀ x ∈ rK j ks l, x < 128 := by
    intro ks
    induction ks with
    | nil => intro j l _ _ hl; exact hl
    | cons q r ih =>
      intro j l ok hj hl
      rw [List.length_cons] at hj
      obtain ⟨a1, ⟨a2, a3⟩, a4, a5⟩ := ok q List.mem_cons_self
      exact zc _ (by decide) _ (zw _ (by decide) _ (zc _ (by decide) _ (zc _ (by omega) _ (zc _ (by decide) _ (zd _ (by omega) _ (zc _ (by decide) _ (zd _ (by omega) _ (zc _ (by decide) _ (zd _ (by omega) _ (zc _ (by decide) _ (zd _ (by omega) _ (ih (j + 1) l (fun x hx => ok x (List.mem_cons_of_mem _ hx)) (by omega) hl))))))))))))
  have hG : ∀ (gs : List Nat) (l : List Nat), okG gs → (∀ x ∈ l, x < 128) → ∀ x ∈ rG gs l, x < 128 := by
    intro gs
    induction gs with
    | nil => intro l _ hl; exact hl
    | cons q r ih =>
      intro l ok hl
      obtain ⟨a1, a2⟩ := ok q List.mem_cons_self
      exact zc _ (by decide) _ (zw _ (by decide) _ (zc _ (by decide) _ (zd _ (by omega) _ (ih l (fun x hx => ok x (List.mem_cons_of_mem _ hx)) hl))))
  exact zw _ (by decide) _ (zc _ (by decide) _ (zd _ (by omega) _ (zc _ (by decide) _ (zd _ (by omega) _ (hG gs _ ok1 (hK ks 0 _ ok2 (by omega) (hC cs ok3)))))))
/-- what the acts keep holds of a drawn row -/
theorem zDw.gr {m : Nat} {σ : zRow} (h : zDw m σ) (hm : m ≤ 4) : zGr 0 σ := by
  obtain ⟨⟨I, d0, d1, d7, d8⟩, ⟨c0, hc0, d3, d6⟩, dk, dch⟩ := h
  refine ⟨fun c c' hc _ _ h1 _ => absurd (dch c hc).2.1 h1, ?_, ⟨⟨c0, by omega, d3⟩, fun k hk => ?_, fun c hc => ?_⟩, 0, 0, by rw [d0]; rfl, by rw [d1]; rfl, by decide, by decide⟩
  · rw [d3, d6, d7, d8]; grind
  · obtain ⟨x, h1, h2⟩ := dk k hk
    exact ⟨x, by omega, h1⟩
  · obtain ⟨-, -, e5, e6, a, ha, ea⟩ := dch c hc
    exact ⟨a, 0, 0, ea, by show a ≤ 99 + 400 * 0; omega, by rw [e5]; rfl, Nat.zero_le _, by rw [e6]; rfl, Nat.le_refl _⟩
theorem g_load {T : zT} {s c : Nat} {gs : List Nat} {ks : List (Nat × Nat × Nat × Nat)} {cs : List (Nat × Nat)} (h0 : T.1 0 1 1 = 0) (hs : s < 9973) (hc : c < 300) (ok1 : okG gs) (ok2 : okK gs.length ks) (ok3 : okC cs) (hg1 : 1 ≤ gs.length) (hg : gs.length ≤ 4) (hk : ks.length ≤ 10) (hcs : cs.length ≤ 4) (hn : (rT s c gs ks cs).length ≤ 300) : ∃ T' σ, f_L_load (rT s c gs ks cs) T = some (nI ks.length, T') ∧ zAc 0 0 0 T' σ [] none ∧ σ 0 = 0 := by
  obtain ⟨T1, L, e1, hA, h11, hL1, hL2, F1⟩ := ty_all (T := T) hn (rT_lt hs hc hg ok1 ok2 hk ok3) h0
  obtain ⟨n, en⟩ : ∃ n, n = (rT s c gs ks cs).length := ⟨_, rfl⟩
  obtain ⟨T2, σ, x1, h2, R, D, hnσ, hgσ, F2⟩ := ps_T hs hc ok1 ok2 ok3 hg hk hcs en.symm (by omega) hA
  obtain ⟨T5, t5⟩ : ∃ z, z = wI (wI (wI T2 0 1 1 0) 0 0 2 (T2.1 0 1 2)) 0 0 3 (T2.1 0 1 3) := ⟨_, rfl⟩
  have r2 : (wI T2 0 1 1 0).1 0 1 2 = T2.1 0 1 2 := q_wIk (by omega)
  have r3 : (wI (wI T2 0 1 1 0) 0 0 2 (T2.1 0 1 2)).1 0 1 3 = T2.1 0 1 3 := by rw [q_wIk (by omega), q_wIk (by omega)]
  have r4 : T5.1 0 0 2 = T2.1 0 1 2 := by rw [t5, q_wIk (by omega), q_wIs]
  have l5 : T5.1 0 1 1 = 0 := by rw [t5, q_wIk (by omega), q_wIk (by omega), q_wIs]
  have I := D.1.1
  have g5 : zGd T5 2 σ := by
    refine zGd.fr (P := fun κ ι => κ = 0) ⟨R, I, ⟨0, by decide, D.1.2.1⟩⟩ ?_ (fun κ x _ z => by omega)
    rw [t5]
    exact zfr_trans (zfr_wI rfl) (zfr_trans (zfr_wI rfl) (zfr_wI rfl))
  obtain ⟨T6, c1, R6, F6⟩ := w_copy (T := T5) (r := 0) (q := 2) (by decide) g5.1 g5.2.1
  obtain ⟨T7, t7⟩ : ∃ z, z = wI (wI T6 0 2 1 0) 0 2 2 0 := ⟨_, rfl⟩
  obtain ⟨T8, t8⟩ : ∃ z, z = wA T7 0 5 (upd (upd (T7.2 0 5) 0 0) 1 0) := ⟨_, rfl⟩
  have vb : vp_nar .boolean 0 = 0 := by decide
  have lp : lp_X3_load_102 2000 0 T7 = some (2, T8) := by
    rw [lp_X3_load_102, if_neg (show ¬ (2 : Int32) ≤ 0 by decide), if_pos (show zin (0 : Int32) 2 = true by decide), zl_s, zl_s, lp_X3_load_102, if_neg (show ¬ (2 : Int32) ≤ 0 + 1 by decide), if_pos (show zin ((0 : Int32) + 1) 2 = true by decide), zl_s, zl_s, lp_X3_load_102, if_pos (show (2 : Int32) ≤ 0 + 1 + 1 by decide), vb, q_wAs, q_wAA, show ((0 : Int32)).toNatClampNeg = 0 from rfl, show ((0 : Int32) + 1).toNatClampNeg = 1 from by decide, ← t8]
    rfl
  have cf : f_X0_forgetAll T6 = some ((), T7) := by unfold f_X0_forgetAll; rw [zl_s, zl_s, ← t7]
  have F8 : zfr (fun κ ι => zPr 0 κ ι ∨ (κ = 0 ∧ ι = 2) ∨ (κ = 0 ∧ ι = 5)) T5 T8 := by
    rw [t8, t7]
    exact zfr_trans (zfr_mono F6 (fun _ _ z => Or.inl z)) (zfr_trans (zfr_wI (Or.inr (Or.inl ⟨rfl, rfl⟩))) (zfr_trans (zfr_wI (Or.inr (Or.inl ⟨rfl, rfl⟩))) (zfr_wA (Or.inr (Or.inr ⟨rfl, rfl⟩)))))
  have F68 : zfr (fun κ ι => κ = 0) T6 T8 := by
    rw [t8, t7]
    exact zfr_trans (zfr_wI rfl) (zfr_trans (zfr_wI rfl) (zfr_wA rfl))
  have gd8 : zGd T8 0 σ := zGd.fr ⟨R6, g5.2⟩ F68 (fun κ x _ z => by omega)
  have e9 : T8.1 1 0 9 = nI ks.length := by rw [← hnσ]; exact gd8.1.f9.trans I.n
  refine ⟨T8, σ, ?_, ⟨⟨gd8, ⟨Nat.zero_le _, ?_, 0, by decide, ?_, fun i ρ hi => by cases hi⟩, (fun q ρ e => by cases e), ?_⟩, ⟨⟨D.gr hcs, by omega⟩, fun ρ hρ => by cases hρ⟩, Or.inl ⟨fun i ρ hi k hk => ?_, Nat.zero_le _⟩⟩, D.1.2.1⟩
  · unfold f_L_load
    rw [e1, zb_s, ← en]
    unfold f_X3_load
    rw [if_neg (nI_pos (by omega)), h11, if_pos (nI_le (by omega) (by omega)), x1, zb_s]
    unfold f_X1_emptyBuffer
    rw [zl_s, zb_s, zl_s, r2, zl_s, zl_s, r3, zl_s, ← t5, r4, if_pos h2, c1, zb_s, cf, zb_s, lp, zb_s, e9]
    rfl
  · rw [t8, q_wA1, t7, q_wIs]; rfl
  · rw [t8, q_wA1, t7, q_wIk (by omega), q_wIs]; rfl
  · rw [zfr_1 F8 (by intro z; rcases z with z | z | z; have := z.1; omega; omega; omega)]; exact l5
  · match i, hi with
    | 0, hi =>
      rw [List.getElem?_cons_zero] at hi
      obtain rfl := Option.some.inj hi
      obtain ⟨x, h1, h2⟩ := D.2.2.1 k hk
      exact ⟨x, h1, by omega⟩
    | i + 1, hi =>
      rw [List.getElem?_cons_succ] at hi
      cases hi
theorem zRL_s {f : List Nat → zT → Option (Int32 × zT)} {o : Option (List Nat × zT)} {t : List Nat} {T1 T2 : zT} {v : Int32} (h : o = some (t, T1)) (hl : t.length ≤ 300) (h2 : f t T1 = some (v, T2)) : zRL f o = some (v, zk T1 T2) := by
  subst h
  unfold zRL
  dsimp only
  rw [if_pos hl, h2, zb_s]
/-- registry and load of the law's -/
theorem g_regload {T : zT} (h0 : T.1 0 1 1 = 0) {ng nk : Nat} (hg1 : 1 ≤ ng) (h4 : ng ≤ 4) (hk8 : nk ≤ 8) : ∃ T' σ, f_L_regload (nI ng) (nI nk) T = some (nI nk, T') ∧ zAc 0 0 0 T' σ [] none ∧ σ 0 = 0 := by
  obtain ⟨s, c, gs, ks, cs, T1, e1, hs, hc, ok1, ok2, ok3, lg, lk, lc, ln, F1⟩ := tx_T T hg1 h4 hk8
  have h01 : T1.1 0 1 1 = 0 := by rw [zfr_1 F1 (by omega)]; exact h0
  obtain ⟨T2, σ, e2, ac, s0⟩ := g_load h01 hs hc ok1 (by rw [lg]; exact ok2) ok3 (by omega) (by omega) (by omega) lc ln
  refine ⟨zk T1 T2, σ, ?_, ac.k, s0⟩
  rw [lk] at e2
  exact zRL_s e1 ln e2
