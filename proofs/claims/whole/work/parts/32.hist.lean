/-! THE HISTORY, THE SAVED STATES, THE FORECAST -/
section FR
variable {T T' M M' : zT} {P : Nat → Nat → Prop}
theorem zSv.fr (h : zSv T M) (hf : zfr P T T') (h5 : ¬ P 0 5) (hr : ∀ κ, 1 ≤ κ → κ ≤ 11 → ¬ P κ 13 ∧ ¬ P κ 14) : zSv T' M := by
  obtain ⟨b0, b1, a1, a2, a3, a4, a5, a6, a7⟩ := h
  exact ⟨b0, b1, a1, a2, by rw [zfr_2 hf h5]; exact a3, by rw [zfr_2 hf h5]; exact a4, a5, fun e => (a6 e).fr hf (fun κ x y => (hr κ x y).1), fun e => (a7 e).fr hf (fun κ x y => (hr κ x y).2)⟩
theorem zBu.fr (h : zBu T M) (hf : zfr P T T') (h1 : ¬ P 0 1) (h4 : ¬ P 0 4) : zBu T' M := by
  obtain ⟨L, a1, a2, a3, a4⟩ := h
  exact ⟨L, a1, by rw [zfr_1 hf h1]; exact a2, a3, by rw [zfr_2 hf h4]; exact a4⟩
theorem zOu.fr (h : zOu T M) (hf : zfr P T T') (h1 : ¬ P 0 0) (h4 : ¬ P 0 3) : zOu T' M := by
  obtain ⟨L, a1, a2, a3, a4⟩ := h
  exact ⟨L, a1, by rw [zfr_1 hf h1]; exact a2, a3, by rw [zfr_2 hf h4]; exact a4⟩
theorem zEr.fr (h : zEr T M) (hf : zfr P T T') (h1 : ¬ P 0 0) : zEr T' M := ⟨by rw [zfr_1 hf h1]; exact h.1, by rw [zfr_1 hf h1]; exact h.2⟩
theorem zHi.fr (h : zHi T M) (hf : zfr P T T') (h2 : ¬ P 0 2) (hr : ∀ κ ρ, 1 ≤ κ → κ ≤ 11 → 3 ≤ ρ → ρ < 13 → ¬ P κ ρ) : zHi T' M := by
  obtain ⟨nx, ct, a1, a2, a3, a4, a5, a6⟩ := h
  exact ⟨nx, ct, a1, a2, by rw [zfr_1 hf h2]; exact a3, by rw [zfr_1 hf h2]; exact a4, a5, fun i hi => (a6 i hi).fr hf (fun κ x y => hr κ _ x y (by omega) (by omega))⟩
/-- a registry that is not the present one, nor kept, may change -/
theorem zRel.other (h : zRel T M) (hf : zfr P T T') (hp : ∀ κ ι, P κ ι → 1 ≤ κ ∧ (ι = 1 ∨ ι = 2)) : zRel T' M := by
  obtain ⟨a1, a2, a3, a4, a5, a6, a7⟩ := h
  have np : ∀ κ ι, ¬ (1 ≤ κ ∧ (ι = 1 ∨ ι = 2)) → ¬ P κ ι := fun κ ι hn hh => hn (hp κ ι hh)
  refine ⟨a1.fr hf ?_, a2.fr hf ?_ ?_, a3.fr hf ?_ ?_, a4.fr hf ?_ ?_, a5.fr hf ?_ ?_, a6.fr hf ?_, a7⟩
  · intro κ x y; exact np κ 0 (by omega)
  · exact np 0 2 (by omega)
  · intro κ ρ x y z w; exact np κ ρ (by omega)
  · exact np 0 5 (by omega)
  · intro κ x y; exact ⟨np κ 13 (by omega), np κ 14 (by omega)⟩
  · exact np 0 1 (by omega)
  · exact np 0 4 (by omega)
  · exact np 0 0 (by omega)
  · exact np 0 3 (by omega)
  · exact np 0 0 (by omega)
/-- the present registry and the present row go on -/
theorem zRel.up {σ' : Nat → Int32} (h : zRel T M) (hg : zGd T' 0 σ') (hf : zfr (zPr 0) T T') : zRel T' (wA M 2 0 σ') := by
  obtain ⟨a1, a2, a3, a4, a5, a6, a7⟩ := h
  have h1 : zRel T M := ⟨a1, a2, a3, a4, a5, a6, a7⟩
  have np : ∀ κ ι, ¬ (1 ≤ κ ∧ ι = 0) → ¬ zPr 0 κ ι := fun κ ι hn hh => hn ⟨hh.1, hh.2.2⟩
  refine ⟨?_, a2.fr hf ?_ ?_, a3.fr hf ?_ ?_, a4.fr hf ?_ ?_, a5.fr hf ?_ ?_, a6.fr hf ?_, a7⟩
  · rw [q_wAs]; exact hg
  · exact np 0 2 (by omega)
  · intro κ ρ x y z w; exact np κ ρ (by omega)
  · exact np 0 5 (by omega)
  · intro κ x y; exact ⟨np κ 13 (by omega), np κ 14 (by omega)⟩
  · exact np 0 1 (by omega)
  · exact np 0 4 (by omega)
  · exact np 0 0 (by omega)
  · exact np 0 3 (by omega)
  · exact np 0 0 (by omega)
end FR
theorem w_rem {M : zT} {ct : Nat} (ec : M.1 0 0 5 = nI ct) (hct : ct < 10) : jn_X4_remembers_52 M = some ((), wI (wA M 4 0 (va_cpy (M.2 2 0) (M.2 4 0) 0 (ct * 151) 151)) 0 0 5 (nI (ct + 1))) := by
  have e := q_rm_l (M := M) hct ec 151 0 2000 (by omega) (by omega)
  rw [q_cpy0, q_wAself, ← nl_0] at e
  unfold jn_X4_remembers_52
  rw [e, zb_s, q_wA1, ec, nI_1]; rfl
theorem w_rem2 {M : zT} {ct : Nat} (ec : M.1 0 0 5 = nI ct) (hct : ct ≤ 10) : ∃ f c', f_X4_remembers M = some ((), wI (wA M 4 0 f) 0 0 5 (nI c')) ∧ ((ct < 10 ∧ c' = ct + 1 ∧ (∀ i k, i < ct → k < 151 → f (151 * i + k) = M.2 4 0 (151 * i + k)) ∧ ∀ k, k < 151 → f (151 * ct + k) = M.2 2 0 k) ∨ (ct = 10 ∧ c' = 10 ∧ (∀ i k, i < 9 → k < 151 → f (151 * i + k) = M.2 4 0 (151 * (i + 1) + k)) ∧ ∀ k, k < 151 → f (151 * 9 + k) = M.2 2 0 k)) := by
  unfold f_X4_remembers
  by_cases h : ct = 10
  · subst h
    have e := q_sh_l (M := M) 1359 151 2000 (by decide) (by decide) (by decide)
    rw [Nat.sub_self, q_cpy0, q_wAself] at e
    have e1 : nI 10 - 1 = nI 9 := by decide
    have e2 := w_rem (M := wI (wA M 4 0 (va_cpy (M.2 4 0) (M.2 4 0) 151 0 (1510 - 151))) 0 0 5 (nI 9)) (ct := 9) q_wIs (by decide)
    have e3 : (wI (wA M 4 0 (va_cpy (M.2 4 0) (M.2 4 0) 151 0 (1510 - 151))) 0 0 5 (nI 9)).2 2 0 = M.2 2 0 := rfl
    have e4 : (wI (wA M 4 0 (va_cpy (M.2 4 0) (M.2 4 0) 151 0 (1510 - 151))) 0 0 5 (nI 9)).2 4 0 = va_cpy (M.2 4 0) (M.2 4 0) 151 0 (1510 - 151) := rfl
    rw [e3, e4] at e2
    refine ⟨va_cpy (M.2 2 0) (va_cpy (M.2 4 0) (M.2 4 0) 151 0 (1510 - 151)) 0 (9 * 151) 151, 10, ?_, Or.inr ⟨rfl, rfl, ?_, ?_⟩⟩
    · rw [ec, if_pos (show nI 10 = (10 : Int32) from rfl), show (151 : Int32) = nI 151 from rfl, e, zb_s, q_wA1, ec, e1, zl_s, zl_s, e2, q_wAI, q_wAA, q_wII]
    · intro i k hi hk
      rw [pk_cpy_out (by omega), pk_cpy_in (by omega) (by omega), show 151 + (151 * i + k - 0) = 151 * (i + 1) + k by omega]
    · intro k hk
      rw [pk_cpy_in (by omega) (by omega), show 0 + (151 * 9 + k - 9 * 151) = k by omega]
  · have hct' : ct < 10 := by omega
    refine ⟨va_cpy (M.2 2 0) (M.2 4 0) 0 (ct * 151) 151, ct + 1, ?_, Or.inl ⟨hct', rfl, ?_, ?_⟩⟩
    · rw [ec, if_neg (by rw [nl_10, q_eq (by omega) (by omega)]; exact h), w_rem ec hct']
    · intro i k hi hk
      rw [pk_cpy_out (by omega)]
    · intro k hk
      rw [pk_cpy_in (by omega) (by omega), show 0 + (151 * ct + k - ct * 151) = k by omega]
theorem w_state {T : zT} {nx : Nat} (h : nx < 10) : f_X0_stateAt (nI nx) T = some (some (3 + nx), T) := by
  unfold f_X0_stateAt
  rw [if_neg (nI_pos (by omega)), if_neg (show ¬ (10 : Int32) ≤ nI nx from nI_ge (b := 10) h (by decide)), if_pos (of_eq_true (q_zt h (by decide))), nI_clamp (by omega)]
theorem w_rec {T M : zT} (h : zRel T M) : ∃ T' f c', f_X0_record 0 T = some ((), T') ∧ f_X4_remembers M = some ((), wI (wA M 4 0 f) 0 0 5 (nI c')) ∧ zRel T' (wI (wA M 4 0 f) 0 0 5 (nI c')) := by
  obtain ⟨g0, ⟨nx, ct, hnx, hct, e1, e2, e3, e4⟩, hsv, hbu, hou, her, hky⟩ := h
  obtain ⟨f, c', m1, m2⟩ := w_rem2 e3 hct
  obtain ⟨T1, c1, R1, F1⟩ := w_copy (r := 3 + nx) (q := 0) (by omega) g0.1 g0.2.1
  have np : ∀ κ ι, ¬ (ι = 3 + nx) → ¬ zPr (3 + nx) κ ι := fun κ ι hn hh => hn hh.2.2
  have f21 : T1.1 0 2 1 = nI nx := by rw [zfr_1 F1 (fun hh => by have := hh.1; omega)]; exact e1
  have f22 : T1.1 0 2 2 = nI ct := by rw [zfr_1 F1 (fun hh => by have := hh.1; omega)]; exact e2
  have er : nI (nx + 1) - nI (nx + 1) / 10 * 10 = nI ((nx + 1) % 10) := pk_rem (by omega) (by decide) (by decide)
  have em : (if 10 < nI (ct + 1) then 10 else nI (ct + 1)) = nI c' := by
    rcases m2 with ⟨h1, h2, -⟩ | ⟨h1, h2, -⟩
    · subst h2; rw [if_neg (show ¬ (10 : Int32) < nI (ct + 1) from nI_nlt (b := ct + 1) (a := 10) (by omega) (by decide))]
    · subst h1 h2; rfl
  have cx : f_X0_record 0 T = some ((), wI (wI T1 0 2 1 (nI ((nx + 1) % 10))) 0 2 2 (nI c')) := by
    unfold f_X0_record jn_X0_record_18
    rw [e1, w_state hnx, zb_s]
    simp only
    rw [if_pos (show 3 + nx < 15 by omega), c1, zb_s, f21, nI_1, zl_s, zl_s, zl_s, er, q_wIk (by omega), f22, nI_1, zl_s, em, zl_s]
  have F2 : zfr (fun κ ι => zPr (3 + nx) κ ι ∨ (κ = 0 ∧ ι = 2)) T (wI (wI T1 0 2 1 (nI ((nx + 1) % 10))) 0 2 2 (nI c')) :=
    zfr_trans (zfr_mono F1 (fun _ _ z => Or.inl z)) (zfr_trans (zfr_wI (Or.inr ⟨rfl, rfl⟩)) (zfr_wI (Or.inr ⟨rfl, rfl⟩)))
  have F3 : zfr (fun κ ι => κ = 0 ∧ ι = 2) T1 (wI (wI T1 0 2 1 (nI ((nx + 1) % 10))) 0 2 2 (nI c')) := zfr_trans (zfr_wI ⟨rfl, rfl⟩) (zfr_wI ⟨rfl, rfl⟩)
  have g1 : zGd (wI (wI T1 0 2 1 (nI ((nx + 1) % 10))) 0 2 2 (nI c')) (3 + nx) (M.2 2 0) := zGd.fr ⟨R1, g0.2⟩ F3 (fun κ x _ z => by omega)
  refine ⟨_, f, c', cx, m1, ?_, ?_, ?_, ?_, ?_, ?_, hky⟩
  · exact g0.fr F2 (fun κ x _ z => by rcases z with z | z; have := z.2.2; omega; omega)
  · refine ⟨(nx + 1) % 10, c', by omega, by omega, ?_, q_wIs, q_wIs, ?_⟩
    · rw [q_wIk (by omega), q_wIs]
    · have e5 : (wI (wA M 4 0 f) 0 0 5 (nI c')).2 4 0 = f := by rw [q_wI2, q_wAs]
      rw [e5]
      intro i hi
      rcases m2 with ⟨h1, h2, h3, h4⟩ | ⟨h1, h2, h3, h4⟩
      · subst h2
        rw [show ((nx + 1) % 10 + 10 - (ct + 1) + i) % 10 = (nx + 10 - ct + i) % 10 by omega]
        by_cases hh : i = ct
        · subst hh
          rw [show (nx + 10 - i + i) % 10 = nx by omega]
          exact g1.congr (fun k hk => h4 k hk)
        · exact ((e4 i (by omega)).fr F2 (fun κ x _ z => by rcases z with z | z; have := z.2.2; omega; omega)).congr (fun k hk => h3 i k (by omega) hk)
      · subst h1 h2
        by_cases hh : i = 9
        · subst hh
          rw [show ((nx + 1) % 10 + 10 - 10 + 9) % 10 = nx by omega]
          exact g1.congr (fun k hk => h4 k hk)
        · rw [show ((nx + 1) % 10 + 10 - 10 + i) % 10 = (nx + 10 - 10 + (i + 1)) % 10 by omega]
          exact ((e4 (i + 1) (by omega)).fr F2 (fun κ x _ z => by rcases z with z | z; have := z.2.2; omega; omega)).congr (fun k hk => h3 i k (by omega) hk)
  · exact hsv.fr F2 (fun z => by rcases z with z | z; have := z.1; omega; omega) (fun κ x _ => ⟨fun z => by rcases z with z | z; have := z.2.2; omega; omega, fun z => by rcases z with z | z; have := z.2.2; omega; omega⟩)
  · exact hbu.fr F2 (fun z => by rcases z with z | z; have := z.1; omega; omega) (fun z => by rcases z with z | z; have := z.1; omega; omega)
  · exact hou.fr F2 (fun z => by rcases z with z | z; have := z.1; omega; omega) (fun z => by rcases z with z | z; have := z.1; omega; omega)
  · exact her.fr F2 (fun z => by rcases z with z | z; have := z.1; omega; omega)
