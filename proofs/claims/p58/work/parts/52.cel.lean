/-! DAYS PASSED: what becomes of a row; the class does so to any registry that holds it -/
theorem s_cak_lt {σ : Nat → Int32} {f k : Nat} (h : s_cak σ f = some k) : k < 6 := by
  unfold s_cak at h
  cases e : zfn (s_ckp σ f) 0 6 with
  | none => rw [e] at h; cases h
  | some i => rw [e] at h; cases h; exact Nat.mod_lt _ (by decide)
theorem s_cak_pos {σ : Nat → Int32} {f k : Nat} (h : s_cak σ f = some k) : ¬ σ (11 + k) ≤ 0 := by
  unfold s_cak at h
  cases e : zfn (s_ckp σ f) 0 6 with
  | none => rw [e] at h; cases h
  | some i =>
    rw [e] at h
    cases h
    have h1 := (zfn_some e).2.2
    unfold s_ckp at h1
    intro h2
    rw [if_pos h2] at h1
    cases h1
/-- small naturals in a row: N bounds each child's parties, B the cakes, C the candles -/
def zNr (N : Nat → Nat) (B C : Nat) (σ : Nat → Int32) : Prop :=
  (∃ a, a ≤ C ∧ σ 3 = nI a) ∧ (∀ k, k < 6 → ∃ a, a ≤ B ∧ σ (11 + k) = nI a) ∧ ∀ c, c < zn σ → ∃ a p w, σ (21 + 13 * c + 2) = nI a ∧ a ≤ 99 + N c ∧ σ (21 + 13 * c + 5) = nI p ∧ p ≤ N c ∧ σ (21 + 13 * c + 6) = nI w ∧ w ≤ p
/-- the places that passing days leaves alone -/
def zkp (σ σ' : Nat → Int32) : Prop := ∀ j, (j = 2 ∨ (4 ≤ j ∧ j ≤ 7) ∨ (17 ≤ j ∧ j < 21) ∨ ∃ c o, j = 21 + 13 * c + o ∧ (o = 0 ∨ o = 1 ∨ o = 3 ∨ o = 4 ∨ (7 ≤ o ∧ o < 13))) → σ' j = σ j
theorem zkp_refl {σ : Nat → Int32} : zkp σ σ := fun _ _ => rfl
theorem zkp_trans {σ σ1 σ2 : Nat → Int32} (h : zkp σ σ1) (h' : zkp σ1 σ2) : zkp σ σ2 := fun j hj => (h' j hj).trans (h j hj)
theorem zkp_upd {σ σ' : Nat → Int32} {i : Nat} {x : Int32} (h : zkp σ σ') (hi : ¬ (i = 2 ∨ (4 ≤ i ∧ i ≤ 7) ∨ (17 ≤ i ∧ i < 21) ∨ ∃ c o, i = 21 + 13 * c + o ∧ (o = 0 ∨ o = 1 ∨ o = 3 ∨ o = 4 ∨ (7 ≤ o ∧ o < 13)))) : zkp σ (upd σ' i x) := fun j hj => (pk_un (fun e => hi (by rw [← e]; exact hj))).trans (h j hj)
theorem zkp.n {σ σ' : Nat → Int32} (h : zkp σ σ') : zn σ' = zn σ := by unfold zn; rw [h 5 (Or.inr (Or.inl ⟨by decide, by decide⟩))]
theorem zkp.g {σ σ' : Nat → Int32} (h : zkp σ σ') : zg σ' = zg σ := by unfold zg; rw [h 4 (Or.inr (Or.inl ⟨by decide, by decide⟩))]
def zuN (N : Nat → Nat) (c : Nat) : Nat → Nat := fun i => if i = c then N c + 1 else N i
theorem zNr.mono {N N' : Nat → Nat} {B C : Nat} {σ : Nat → Int32} (h : zNr N B C σ) (hN : ∀ i, N i ≤ N' i) : zNr N' B C σ := ⟨h.1, h.2.1, fun c hc => by
  obtain ⟨a, p, w, h1, h2, h3, h4, h5, h6⟩ := h.2.2 c hc
  have := hN c
  exact ⟨a, p, w, h1, by omega, h3, by omega, h5, h6⟩⟩
theorem zsub1 {a : Nat} (h : 0 < a) : nI a - 1 = nI (a - 1) := by
  obtain ⟨b, rfl⟩ : ∃ b, a = b + 1 := ⟨a - 1, by omega⟩
  exact nI_pred b
section CEL
variable {N : Nat → Nat} {B C : Nat} {σ : Nat → Int32}
/-- what celebrating does to a row, with the class's doing so -/
theorem w_cel (I : zIv σ) (hN : zNr N B C σ) (hC : C ≤ 9999) (hNb : ∀ i, N i ≤ 100000) {c : Nat} (hc : c < zn σ) : ∃ b σ', (b = 0 ∨ b = 1) ∧ zIv σ' ∧ zNr (zuN N c) B C σ' ∧ zkp σ σ' ∧ σ' 0 = σ 0 ∧ σ' 1 = σ 1 ∧ σ' 9 = σ 9 + b ∧ σ' 3 + σ' 8 = σ 3 + σ 8 ∧
    ∀ (ρ : Nat) (T : zT), zRR T ρ σ → ∃ T', f_X2_celebrate ρ (nI c) T = some (b, T') ∧ zRR T' ρ σ' ∧ zfr (zPr ρ) T T' := by
  have n10 := I.n10
  obtain ⟨⟨f, hf, ef⟩, ⟨h, hh, eh⟩, -, -⟩ := I.c hc
  obtain ⟨⟨cd, hcd, e3⟩, hck, hch⟩ := hN
  obtain ⟨a0, p0, w0, ea0, ha0, ep0, hp0, ew0, hw0⟩ := hch c hc
  have hNc := hNb c
  obtain ⟨σ1, es1⟩ : ∃ z, z = upd σ (21 + 13 * c + 2) (σ (21 + 13 * c + 2) + 1) := ⟨_, rfl⟩
  have I1 : zIv σ1 := by rw [es1]; exact I.up (by unfold zfree; exact Or.inr (Or.inr (Or.inr (Or.inr (Or.inr ⟨c, by omega, Or.inr (Or.inl rfl)⟩)))))
  have k1 : zkp σ σ1 := by rw [es1]; exact zkp_upd zkp_refl (by rintro (h | ⟨h, h'⟩ | ⟨h, h'⟩ | ⟨c', o, h, h'⟩) <;> omega)
  have hc1 : c < zn σ1 := by rw [k1.n]; exact hc
  have ef1 : σ1 (21 + 13 * c + 0) = nI f := by rw [es1, pk_un (by omega)]; exact ef
  have eh1 : σ1 (21 + 13 * c + 3) = nI h := by rw [es1, pk_un (by omega)]; exact eh
  have ea1 : σ1 (21 + 13 * c + 2) = nI (a0 + 1) := by rw [es1, pk_us, ea0, nI_1]
  have o1 : ∀ j, j ≠ 21 + 13 * c + 2 → σ1 j = σ j := fun j hj => by rw [es1, pk_un hj]
  have st1 : ∀ (ρ : Nat) (T : zT), zRR T ρ σ → ∃ T1, zRR T1 ρ σ1 ∧ zfr (zPr ρ) T T1 ∧ f_X3_addToCell 7 ρ (nI c) 1 T = some ((), T1) ∧ f_X3_cell 5 ρ (nI c) T1 = some (nI f, T1) := fun ρ T R => by
    have R1 : zRR (wA T 7 ρ (upd (T.2 7 ρ) c (σ (21 + 13 * c + 2) + 1))) ρ σ1 := by rw [es1]; exact R.a7 I.g4 _
    refine ⟨_, R1, zfr_wA ⟨by decide, by decide, rfl⟩, by rw [q_addc (by decide) (by omega), R.ag hc], ?_⟩
    rw [q_cellc (by decide) (by omega), R1.fa hc1, ef1]
  cases ek : s_cak σ1 f with
  | none =>
    refine ⟨0, upd σ1 10 (σ1 10 + 1), Or.inl rfl, I1.up (Or.inr (Or.inr (Or.inr (Or.inl rfl)))), ?_, zkp_upd k1 (by rintro (h | ⟨h, h'⟩ | ⟨h, h'⟩ | ⟨c', o, h, h'⟩) <;> omega), by rw [pk_un (by decide), o1 _ (by omega)], by rw [pk_un (by decide), o1 _ (by omega)], by rw [pk_un (by decide), o1 _ (by omega), Int32.add_zero], by rw [pk_un (by decide), pk_un (by decide), o1 _ (by omega), o1 _ (by omega)], fun ρ T R => ?_⟩
    · refine ⟨⟨cd, hcd, by rw [pk_un (by decide), o1 _ (by omega)]; exact e3⟩, fun k hk => ?_, fun i hi => ?_⟩
      · rw [pk_un (by omega), o1 _ (by omega)]; exact hck k hk
      · rw [zn_upd (by decide), k1.n] at hi
        obtain ⟨a, p, w, h1, h2, h3, h4, h5, h6⟩ := hch i hi
        rw [pk_un (by omega), pk_un (by omega), pk_un (by omega), o1 (21 + 13 * i + 5) (by omega), o1 (21 + 13 * i + 6) (by omega)]
        unfold zuN
        by_cases e : i = c
        · subst e
          rw [if_pos rfl]
          exact ⟨a0 + 1, p, w, ea1, by omega, h3, by omega, h5, h6⟩
        · rw [if_neg e, o1 _ (by omega)]
          exact ⟨a, p, w, h1, h2, h3, h4, h5, h6⟩
    · obtain ⟨T1, R1, F1, a1, a2⟩ := st1 ρ T R
      have a3 := qx_cak R1 I1 hf
      rw [ek] at a3
      refine ⟨wI T1 1 ρ 7 (σ1 10 + 1), ?_, R1.i7 _, zfr_trans F1 (zfr_wI ⟨by decide, by decide, rfl⟩)⟩
      unfold f_X2_celebrate
      rw [a1, zb_s, a2, zb_s, a3, zb_s, if_pos rfl, zl_s, zl_s, R1.f7]
  | some k =>
    have hk := s_cak_lt ek
    have hk0 := s_cak_pos ek
    obtain ⟨ck, hckB, eck⟩ := hck k hk
    rw [o1 _ (by omega), eck] at hk0
    have hck0 : 0 < ck := by
      rcases Nat.eq_zero_or_pos ck with rfl | h
      · exact absurd (Int32.le_refl _) hk0
      · exact h
    obtain ⟨A, eA⟩ : ∃ z, z = σ1 (21 + 13 * c + 2) := ⟨_, rfl⟩
    obtain ⟨L, eL⟩ : ∃ z, z = (if σ1 3 < A then σ1 3 else A) := ⟨_, rfl⟩
    have hL : ∃ ln, ln ≤ cd ∧ L = nI ln := by
      rw [eL, eA, ea1, o1 _ (by omega), e3]
      by_cases hh : cd < a0 + 1
      · rw [if_pos ((nI_ltI (by omega) (by omega)).mpr hh)]; exact ⟨cd, Nat.le_refl _, rfl⟩
      · rw [if_neg (fun z => hh ((nI_ltI (by omega) (by omega)).mp z))]; exact ⟨a0 + 1, by omega, rfl⟩
    obtain ⟨ln, hln, eLn⟩ := hL
    obtain ⟨σ2, es2⟩ : ∃ z, z = upd σ1 (11 + k) (σ1 (11 + k) - 1) := ⟨_, rfl⟩
    obtain ⟨σ3, es3⟩ : ∃ z, z = upd σ2 3 (σ2 3 - L) := ⟨_, rfl⟩
    obtain ⟨σ4, es4⟩ : ∃ z, z = upd σ3 8 (σ3 8 + L) := ⟨_, rfl⟩
    obtain ⟨σ5, es5⟩ : ∃ z, z = upd (upd σ4 9 (σ4 9 + 1)) (21 + 13 * c + 5) (σ4 (21 + 13 * c + 5) + 1) := ⟨_, rfl⟩
    have I2 : zIv σ2 := by rw [es2]; exact I1.up (Or.inr (Or.inr (Or.inr (Or.inr (Or.inl ⟨by omega, by omega⟩)))))
    have I3 : zIv σ3 := by rw [es3]; exact I2.up (Or.inr (Or.inl rfl))
    have I4 : zIv σ4 := by rw [es4]; exact I3.up (Or.inr (Or.inr (Or.inl ⟨by decide, by decide⟩)))
    have k2 : zkp σ σ2 := by rw [es2]; exact zkp_upd k1 (by rintro (h | ⟨h, h'⟩ | ⟨h, h'⟩ | ⟨c', o, h, h'⟩) <;> omega)
    have k3 : zkp σ σ3 := by rw [es3]; exact zkp_upd k2 (by rintro (h | ⟨h, h'⟩ | ⟨h, h'⟩ | ⟨c', o, h, h'⟩) <;> omega)
    have k4 : zkp σ σ4 := by rw [es4]; exact zkp_upd k3 (by rintro (h | ⟨h, h'⟩ | ⟨h, h'⟩ | ⟨c', o, h, h'⟩) <;> omega)
    have k5 : zkp σ σ5 := by rw [es5]; exact zkp_upd (zkp_upd k4 (by rintro (h | ⟨h, h'⟩ | ⟨h, h'⟩ | ⟨c', o, h, h'⟩) <;> omega)) (by rintro (h | ⟨h, h'⟩ | ⟨h, h'⟩ | ⟨c', o, h, h'⟩) <;> omega)
    have hc4 : c < zn σ4 := by rw [k4.n]; exact hc
    have hc5 : c < zn σ5 := by rw [k5.n]; exact hc
    have I5 : zIv σ5 := by
      rw [es5]
      exact I4.party hc4
    have eh5 : σ5 (21 + 13 * c + 3) = nI h := by rw [k5 _ (Or.inr (Or.inr (Or.inr ⟨c, 3, rfl, by omega⟩)))]; exact eh
    have hh5 : h < zg σ5 := by rw [k5.g]; exact hh
    have v2 : ∀ j, j ≠ 11 + k → σ2 j = σ1 j := fun j hj => by rw [es2, pk_un hj]
    have v5 : ∀ j, j ≠ 3 → j ≠ 8 → j ≠ 9 → j ≠ 21 + 13 * c + 5 → σ5 j = σ2 j := fun j h1 h2 h3 h4 => by rw [es5, pk_un h4, pk_un h3, es4, pk_un h2, es3, pk_un h1]
    have v53 : σ5 3 = nI (cd - ln) := by
      rw [es5, pk_un (by omega), pk_un (by omega), es4, pk_un (by omega), es3, pk_us, v2 _ (by omega), o1 _ (by omega), e3, eLn]
      exact pk_sub hln
    have v58 : σ5 8 = σ 8 + L := by
      rw [es5, pk_un (by omega), pk_un (by omega), es4, pk_us, es3, pk_un (by omega), v2 _ (by omega), o1 _ (by omega)]
    have v59 : σ5 9 = σ 9 + 1 := by
      rw [es5, pk_un (by omega), pk_us, es4, pk_un (by omega), es3, pk_un (by omega), v2 _ (by omega), o1 _ (by omega)]
    have v5p : σ5 (21 + 13 * c + 5) = nI (p0 + 1) := by
      rw [es5, pk_us, es4, pk_un (by omega), es3, pk_un (by omega), v2 _ (by omega), o1 _ (by omega), ep0, nI_1]
    have v5k : σ5 (11 + k) = nI (ck - 1) := by
      rw [v5 _ (by omega) (by omega) (by omega) (by omega), es2, pk_us, o1 _ (by omega), eck, zsub1 hck0]
    have n5 : ∀ σ6 : Nat → Int32, (∀ j, j ≠ 21 + 13 * c + 6 → σ6 j = σ5 j) → (∃ w, σ6 (21 + 13 * c + 6) = nI w ∧ w ≤ p0 + 1) → zNr (zuN N c) B C σ6 := by
      intro σ6 h6 ⟨w, ew, hw⟩
      have hn6 : zn σ6 = zn σ := by unfold zn; rw [h6 5 (by omega)]; exact k5.n
      refine ⟨⟨cd - ln, by omega, by rw [h6 _ (by omega)]; exact v53⟩, fun i hi => ?_, fun i hi => ?_⟩
      · rw [h6 _ (by omega)]
        by_cases e : i = k
        · subst e; exact ⟨ck - 1, by omega, v5k⟩
        · rw [v5 _ (by omega) (by omega) (by omega) (by omega), v2 _ (by omega), o1 _ (by omega)]; exact hck i hi
      · rw [hn6] at hi
        unfold zuN
        by_cases e : i = c
        · subst e
          rw [if_pos rfl]
          refine ⟨a0 + 1, p0 + 1, w, ?_, by omega, ?_, by omega, ew, hw⟩
          · rw [h6 _ (by omega), v5 _ (by omega) (by omega) (by omega) (by omega), v2 _ (by omega)]; exact ea1
          · rw [h6 _ (by omega)]; exact v5p
        · obtain ⟨a, p, w, h1, h2, h3, h4, h5, h7⟩ := hch i hi
          rw [if_neg e]
          refine ⟨a, p, w, ?_, h2, ?_, h4, ?_, h7⟩
          · rw [h6 _ (by omega), v5 _ (by omega) (by omega) (by omega) (by omega), v2 _ (by omega), o1 _ (by omega)]; exact h1
          · rw [h6 _ (by omega), v5 _ (by omega) (by omega) (by omega) (by omega), v2 _ (by omega), o1 _ (by omega)]; exact h3
          · rw [h6 _ (by omega), v5 _ (by omega) (by omega) (by omega) (by omega), v2 _ (by omega), o1 _ (by omega)]; exact h5
    have w5 : σ5 (21 + 13 * c + 6) = nI w0 := by rw [v5 _ (by omega) (by omega) (by omega) (by omega), v2 _ (by omega), o1 _ (by omega)]; exact ew0
    have z05 : σ5 0 = σ 0 := by rw [v5 _ (by omega) (by omega) (by omega) (by omega), v2 _ (by omega), o1 _ (by omega)]
    have z15 : σ5 1 = σ 1 := by rw [v5 _ (by omega) (by omega) (by omega) (by omega), v2 _ (by omega), o1 _ (by omega)]
    have z38 : σ5 3 + σ5 8 = σ 3 + σ 8 := by
      have v53' : σ5 3 = σ 3 - L := by rw [v53, e3, eLn, pk_sub hln]
      rw [v53', v58]
      grind
    have hkn : ¬ nI k = -1 := by rw [q_m1ne (by omega)]; exact id
    have cls : ∀ (ρ : Nat) (T : zT), zRR T ρ σ → ∃ T5, zRR T5 ρ σ5 ∧ zfr (zPr ρ) T T5 ∧ f_X2_celebrate ρ (nI c) T = (if L = A then (if s_str σ5 c (nI k) h < L then some (1, T5) else zb (f_X3_addToCell 11 ρ (nI c) 1 T5) fun _v28 T27 => some (1, T27)) else some (1, T5)) := fun ρ T R => by
      obtain ⟨T1, R1, F1, a1, a2⟩ := st1 ρ T R
      have a3 := qx_cak R1 I1 hf
      rw [ek] at a3
      obtain ⟨T2, et2⟩ : ∃ z, z = wA T1 2 ρ (upd (T1.2 2 ρ) k (σ1 (11 + k) - 1)) := ⟨_, rfl⟩
      obtain ⟨T3, et3⟩ : ∃ z, z = wI T2 1 ρ 3 (σ2 3 - L) := ⟨_, rfl⟩
      obtain ⟨T4, et4⟩ : ∃ z, z = wI T3 1 ρ 6 (σ3 8 + L) := ⟨_, rfl⟩
      obtain ⟨T5, et5⟩ : ∃ z, z = wA T4 10 ρ (upd (T4.2 10 ρ) c (σ4 (21 + 13 * c + 5) + 1)) := ⟨_, rfl⟩
      have R2 : zRR T2 ρ σ2 := by rw [et2, es2]; exact R1.a2 hk _
      have R3 : zRR T3 ρ σ3 := by rw [et3, es3]; exact R2.i3 _
      have R4 : zRR T4 ρ σ4 := by rw [et4, es4]; exact R3.i6 _
      have R5 : zRR T5 ρ σ5 := by rw [et5, es5]; exact (R4.u9 _).a10 (by rw [zg_upd (by decide)]; exact I4.g4) _
      have F5 : zfr (zPr ρ) T T5 := by
        rw [et5, et4, et3, et2]
        exact zfr_trans F1 (zfr_trans (zfr_wA ⟨by decide, by decide, rfl⟩) (zfr_trans (zfr_wI ⟨by decide, by decide, rfl⟩) (zfr_trans (zfr_wI ⟨by decide, by decide, rfl⟩) (zfr_wA ⟨by decide, by decide, rfl⟩))))
      have a4 : f_X3_cell 7 ρ (nI c) T1 = some (A, T1) := by rw [q_cellc (by decide) (by omega), R1.ag hc1, eA]
      have a5 : f_X3_addToCell 2 ρ (nI k) (-1) T1 = some ((), T2) := by rw [q_addTo (by rw [zlen_2]; exact hk) (by rw [zlen_2]; decide), R1.ck hk, et2, Int32.sub_eq_add_neg]
      have a6 : f_X3_addToCell 10 ρ (nI c) 1 T4 = some ((), T5) := by rw [q_addc (by decide) (by omega), R4.pa hc4, et5]
      have a7 := qx_str R5 I5 hc5 hh5 eh5 (nI k)
      refine ⟨T5, R5, F5, ?_⟩
      unfold f_X2_celebrate
      rw [a1, zb_s, a2, zb_s, a3, zb_s, if_neg hkn, a4, zb_s, zl_s, R1.f3, ← eL, a5, zb_s, zl_s, zl_s, R2.f3, ← et3, zl_s, zl_s, R3.f6, ← et4, a6, zb_s, a7, zb_s]
    have done5 : (∀ (ρ : Nat) (T T5 : zT), zRR T5 ρ σ5 → (if L = A then (if s_str σ5 c (nI k) h < L then some ((1 : Int32), T5) else zb (f_X3_addToCell 11 ρ (nI c) 1 T5) fun _v28 T27 => some (1, T27)) else some (1, T5)) = some (1, T5)) → ∃ b σ', (b = 0 ∨ b = 1) ∧ zIv σ' ∧ zNr (zuN N c) B C σ' ∧ zkp σ σ' ∧ σ' 0 = σ 0 ∧ σ' 1 = σ 1 ∧ σ' 9 = σ 9 + b ∧ σ' 3 + σ' 8 = σ 3 + σ 8 ∧ ∀ (ρ : Nat) (T : zT), zRR T ρ σ → ∃ T', f_X2_celebrate ρ (nI c) T = some (b, T') ∧ zRR T' ρ σ' ∧ zfr (zPr ρ) T T' := fun hx =>
      ⟨1, σ5, Or.inr rfl, I5, n5 σ5 (fun _ _ => rfl) ⟨w0, w5, by omega⟩, k5, z05, z15, v59, z38, fun ρ T R => by
        obtain ⟨T5, R5, F5, e⟩ := cls ρ T R
        exact ⟨T5, e.trans (hx ρ T T5 R5), R5, F5⟩⟩
    by_cases hL : L = A
    · by_cases hs : s_str σ5 c (nI k) h < L
      · exact done5 (fun ρ T T5 R5 => by rw [if_pos hL, if_pos hs])
      · refine ⟨1, upd σ5 (21 + 13 * c + 6) (σ5 (21 + 13 * c + 6) + 1), Or.inr rfl, I5.up (Or.inr (Or.inr (Or.inr (Or.inr (Or.inr ⟨c, by omega, Or.inr (Or.inr rfl)⟩))))), n5 _ (fun j hj => pk_un hj) ⟨w0 + 1, by rw [pk_us, w5, nI_1], by omega⟩, zkp_upd k5 (by rintro (h | ⟨h, h'⟩ | ⟨h, h'⟩ | ⟨c', o, h, h'⟩) <;> omega), by rw [pk_un (by omega)]; exact z05, by rw [pk_un (by omega)]; exact z15, by rw [pk_un (by omega)]; exact v59, by rw [pk_un (by omega), pk_un (by omega)]; exact z38, fun ρ T R => ?_⟩
        obtain ⟨T5, R5, F5, e⟩ := cls ρ T R
        refine ⟨wA T5 11 ρ (upd (T5.2 11 ρ) c (σ5 (21 + 13 * c + 6) + 1)), ?_, R5.a11 I5.g4 _, zfr_trans F5 (zfr_wA ⟨by decide, by decide, rfl⟩)⟩
        rw [e, if_pos hL, if_neg hs, q_addc (by decide) (by omega), R5.wi hc5, zb_s]
    · exact done5 (fun ρ T T5 R5 => by rw [if_neg hL])
end CEL
