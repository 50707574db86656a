/-! DAYS PASSED: the class's registry and the model's row go alike -/
theorem q_min (a b : Int32) : (if b < a then b else a) = (if b ≤ a then b else a) := by
  by_cases h : b < a
  · rw [if_pos h, if_pos (Int32.le_of_lt h)]
  · rw [if_neg h]
    by_cases h2 : b ≤ a
    · rw [if_pos h2]; exact (Int32.le_antisymm h2 (Int32.not_lt.mp h)).symm
    · rw [if_neg h2]
theorem s_cak_lt {σ : Nat → Int32} {f k : Nat} (h : s_cak σ f = some k) : k < 6 := by
  unfold s_cak at h
  cases e : zfn (s_ckp σ f) 0 6 with
  | none => rw [e] at h; cases h
  | some i => rw [e] at h; cases h; exact Nat.mod_lt _ (by decide)
section PS
variable {T M : zT} {ρ : Nat} {σ : Nat → Int32}
/-- what stays, or goes on, of a registry: the same places, as many children and gardens -/
def zgo (ρ : Nat) (T T' : zT) (σ σ' : Nat → Int32) : Prop := zRR T' ρ σ' ∧ zIv σ' ∧ zfr (zPr ρ) T T' ∧ zn σ' = zn σ ∧ zg σ' = zg σ
theorem w_cel (R : zRR T ρ σ) (I : zIv σ) (hσ : M.2 2 0 = σ) {c : Nat} (hc : c < zn σ) : ∃ b T' σ', f_X2_celebrate ρ (nI c) T = some (b, T') ∧ f_X4_celebrates (nI c) M = some (b, wA M 2 0 σ') ∧ zgo ρ T T' σ σ' ∧ σ' 0 = σ 0 ∧ σ' 1 = σ 1 ∧ (b = 0 ∨ b = 1) := by
  have n10 := I.n10
  obtain ⟨⟨f, hf, ef⟩, ⟨h, hh, eh⟩, -, -⟩ := I.c hc
  obtain ⟨σ1, es1⟩ : ∃ z, z = upd σ (21 + 13 * c + 2) (σ (21 + 13 * c + 2) + 1) := ⟨_, rfl⟩
  obtain ⟨T1, et1⟩ : ∃ z, z = wA T 7 ρ (upd (T.2 7 ρ) c (σ (21 + 13 * c + 2) + 1)) := ⟨_, rfl⟩
  have R1 : zRR T1 ρ σ1 := by rw [et1, es1]; exact R.a7 I.g4 _
  have I1 : zIv σ1 := by rw [es1]; exact I.up (by unfold zfree; exact Or.inr (Or.inr (Or.inr (Or.inr (Or.inr ⟨c, by omega, Or.inr (Or.inl rfl)⟩)))))
  have F1 : zfr (zPr ρ) T T1 := by rw [et1]; exact zfr_wA ⟨by decide, by decide, rfl⟩
  have n1 : zn σ1 = zn σ := by rw [es1]; exact zn_upd (by omega)
  have g1 : zg σ1 = zg σ := by rw [es1]; exact zg_upd (by omega)
  have hc1 : c < zn σ1 := by rw [n1]; exact hc
  have ef1 : σ1 (21 + 13 * c + 0) = nI f := by rw [es1, pk_un (by omega)]; exact ef
  have eh1 : σ1 (21 + 13 * c + 3) = nI h := by rw [es1, pk_un (by omega)]; exact eh
  have z0 : σ1 0 = σ 0 := by rw [es1, pk_un (by omega)]
  have z1 : σ1 1 = σ 1 := by rw [es1, pk_un (by omega)]
  have a1 : f_X3_addToCell 7 ρ (nI c) 1 T = some ((), T1) := by rw [q_addc (by decide) (by omega), R.ag hc, et1]
  have a2 : f_X3_cell 5 ρ (nI c) T1 = some (nI f, T1) := by rw [q_cellc (by decide) (by omega), R1.fa hc1, ef1]
  have a3 := qx_cak R1 I1 hf
  have b3 := qm_cak (M := wA M 2 0 σ1) q_wAs I1 hc1 hf ef1
  cases ek : s_cak σ1 f with
  | none =>
    rw [ek] at a3 b3
    refine ⟨0, wI T1 1 ρ 7 (σ1 10 + 1), upd σ1 10 (σ1 10 + 1), ?_, ?_, ⟨R1.i7 _, I1.up (Or.inr (Or.inr (Or.inr (Or.inl rfl)))), zfr_trans F1 (zfr_wI ⟨by decide, by decide, rfl⟩), by rw [zn_upd (by decide)]; exact n1, by rw [zg_upd (by decide)]; exact g1⟩, by rw [pk_un (by decide)]; exact z0, by rw [pk_un (by decide)]; exact z1, Or.inl rfl⟩
    · unfold f_X2_celebrate
      rw [a1, zb_s, a2, zb_s, a3, zb_s, if_pos rfl, zl_s, zl_s, R1.f7]
    · unfold f_X4_celebrates
      simp (disch := omega) only [zb_s, zl_s, q_c, q_ad2, q_zt, q_clamp, if_true, hσ, ← es1, b3, q_wAs, q_wAA]
  | some k =>
    rw [ek] at a3 b3
    have hk := s_cak_lt ek
    obtain ⟨A, eA⟩ : ∃ z, z = σ1 (21 + 13 * c + 2) := ⟨_, rfl⟩
    obtain ⟨L, eL⟩ : ∃ z, z = (if σ1 3 < A then σ1 3 else A) := ⟨_, rfl⟩
    obtain ⟨σ2, es2⟩ : ∃ z, z = upd σ1 (11 + k) (σ1 (11 + k) - 1) := ⟨_, rfl⟩
    obtain ⟨σ3, es3⟩ : ∃ z, z = upd σ2 3 (σ2 3 - L) := ⟨_, rfl⟩
    obtain ⟨σ4, es4⟩ : ∃ z, z = upd σ3 8 (σ3 8 + L) := ⟨_, rfl⟩
    obtain ⟨σ5, es5⟩ : ∃ z, z = upd (upd σ4 9 (σ4 9 + 1)) (21 + 13 * c + 5) (σ4 (21 + 13 * c + 5) + 1) := ⟨_, rfl⟩
    obtain ⟨T2, et2⟩ : ∃ z, z = wA T1 2 ρ (upd (T1.2 2 ρ) k (σ1 (11 + k) - 1)) := ⟨_, rfl⟩
    obtain ⟨T3, et3⟩ : ∃ z, z = wI T2 1 ρ 3 (σ2 3 - L) := ⟨_, rfl⟩
    obtain ⟨T4, et4⟩ : ∃ z, z = wI T3 1 ρ 6 (σ3 8 + L) := ⟨_, rfl⟩
    obtain ⟨T5, et5⟩ : ∃ z, z = wA T4 10 ρ (upd (T4.2 10 ρ) c (σ4 (21 + 13 * c + 5) + 1)) := ⟨_, rfl⟩
    have R2 : zRR T2 ρ σ2 := by rw [et2, es2]; exact R1.a2 hk _
    have R3 : zRR T3 ρ σ3 := by rw [et3, es3]; exact R2.i3 _
    have R4 : zRR T4 ρ σ4 := by rw [et4, es4]; exact R3.i6 _
    have I2 : zIv σ2 := by rw [es2]; exact I1.up (Or.inr (Or.inr (Or.inr (Or.inr (Or.inl ⟨by omega, by omega⟩)))))
    have I3 : zIv σ3 := by rw [es3]; exact I2.up (Or.inr (Or.inl rfl))
    have I4 : zIv σ4 := by rw [es4]; exact I3.up (Or.inr (Or.inr (Or.inl ⟨by decide, by decide⟩)))
    have n2 : zn σ2 = zn σ := by rw [es2, zn_upd (by omega)]; exact n1
    have n3 : zn σ3 = zn σ := by rw [es3, zn_upd (by decide)]; exact n2
    have n4 : zn σ4 = zn σ := by rw [es4, zn_upd (by decide)]; exact n3
    have g2 : zg σ2 = zg σ := by rw [es2, zg_upd (by omega)]; exact g1
    have g3 : zg σ3 = zg σ := by rw [es3, zg_upd (by decide)]; exact g2
    have g4 : zg σ4 = zg σ := by rw [es4, zg_upd (by decide)]; exact g3
    have hc4 : c < zn σ4 := by rw [n4]; exact hc
    have R5 : zRR T5 ρ σ5 := by rw [et5, es5]; exact (R4.u9 _).a10 (by rw [zg_upd (by decide)]; exact I4.g4) _
    have I5 : zIv σ5 := by
      rw [es5]
      exact I4.party hc4
    have n5 : zn σ5 = zn σ := by rw [es5, zn_upd (by omega), zn_upd (by decide)]; exact n4
    have g5 : zg σ5 = zg σ := by rw [es5, zg_upd (by omega), zg_upd (by decide)]; exact g4
    have hc5 : c < zn σ5 := by rw [n5]; exact hc
    have eh5 : σ5 (21 + 13 * c + 3) = nI h := by rw [es5, pk_un (by omega), pk_un (by omega), es4, pk_un (by omega), es3, pk_un (by omega), es2, pk_un (by omega)]; exact eh1
    have z05 : σ5 0 = σ 0 := by rw [es5, pk_un (by omega), pk_un (by omega), es4, pk_un (by omega), es3, pk_un (by omega), es2, pk_un (by omega)]; exact z0
    have z15 : σ5 1 = σ 1 := by rw [es5, pk_un (by omega), pk_un (by omega), es4, pk_un (by omega), es3, pk_un (by omega), es2, pk_un (by omega)]; exact z1
    have F5 : zfr (zPr ρ) T T5 := by
      rw [et5, et4, et3, et2]
      exact zfr_trans F1 (zfr_trans (zfr_wA ⟨by decide, by decide, rfl⟩) (zfr_trans (zfr_wI ⟨by decide, by decide, rfl⟩) (zfr_trans (zfr_wI ⟨by decide, by decide, rfl⟩) (zfr_wA ⟨by decide, by decide, rfl⟩))))
    have a4 : f_X3_cell 7 ρ (nI c) T1 = some (A, T1) := by rw [q_cellc (by decide) (by omega), R1.ag hc1, eA]
    have a5 : f_X3_addToCell 2 ρ (nI k) (-1) T1 = some ((), T2) := by rw [q_addTo (by rw [zlen_2]; exact hk) (by rw [zlen_2]; decide), R1.ck hk, et2, Int32.sub_eq_add_neg]
    have a6 : f_X3_addToCell 10 ρ (nI c) 1 T4 = some ((), T5) := by rw [q_addc (by decide) (by omega), R4.pa hc4, et5]
    have a7 := qx_str R5 I5 hc5 (by rw [g5]; exact hh) eh5 (nI k)
    have b7 := qm_str (M := wA M 2 0 σ5) q_wAs I5 hc5 (by rw [g5]; exact hh) eh5 (nI k)
    have hkn : ¬ nI k = -1 := by rw [q_m1ne (by omega)]; exact id
    have cx : ∀ (fin : zT → Option (Int32 × zT)), f_X2_celebrate ρ (nI c) T = (if L = A then (if s_str σ5 c (nI k) h < L then some (1, T5) else zb (f_X3_addToCell 11 ρ (nI c) 1 T5) fun _v28 T27 => some (1, T27)) else some (1, T5)) := by
      intro _
      unfold f_X2_celebrate
      rw [a1, zb_s, a2, zb_s, a3, zb_s, if_neg hkn, a4, zb_s, zl_s, R1.f3, ← eL, a5, zb_s, zl_s, zl_s, R2.f3, ← et3, zl_s, zl_s, R3.f6, ← et4, a6, zb_s, a7, zb_s]
    have e5 : σ4 (21 + 13 * c + 5) = upd σ4 9 (σ4 9 + 1) (21 + 13 * c + 5) := (pk_un (by omega)).symm
    have mj : jn_X4_celebrates_86 (nI c) (nI (21 + 13 * c)) (nI k) A L (wA M 2 0 σ2) = (if L = A then (if s_str σ5 c (nI k) h < L then some (1, wA M 2 0 (upd σ5 (21 + 13 * c + 6) (σ5 (21 + 13 * c + 6) + 0))) else some (1, wA M 2 0 (upd σ5 (21 + 13 * c + 6) (σ5 (21 + 13 * c + 6) + 1)))) else some (1, wA M 2 0 (upd σ5 (21 + 13 * c + 6) (σ5 (21 + 13 * c + 6) + 0)))) := by
      unfold jn_X4_celebrates_86
      rw [e5] at es5
      simp (disch := omega) only [zb_s, zl_s, q_ad5, q_ad6, q_zt, q_clamp, if_true, q_wAs, q_wAA, ← es3, ← es4, ← es5, b7]
    have mx : f_X4_celebrates (nI c) M = jn_X4_celebrates_86 (nI c) (nI (21 + 13 * c)) (nI k) A L (wA M 2 0 σ2) := by
      have hA : σ2 (21 + 13 * c + 2) = A := by rw [es2, pk_un (by omega), eA]
      have h3 : σ2 3 = σ1 3 := by rw [es2, pk_un (by omega)]
      unfold f_X4_celebrates
      simp (disch := omega) only [zb_s, zl_s, q_c, q_ad2, q_la11, q_zt, q_clamp, if_true, hσ, ← es1, b3, q_wAs, q_wAA, if_neg hkn, ← es2, hA, h3]
      rw [eL, q_min]
      by_cases hl : σ1 3 ≤ A
      · rw [if_pos hl, if_pos hl]
      · rw [if_neg hl, if_neg hl]
    have cx := cx (fun _ => none)
    rw [mj] at mx
    have same : upd σ5 (21 + 13 * c + 6) (σ5 (21 + 13 * c + 6) + 0) = σ5 := q_upds (Int32.add_zero _)
    rw [same] at mx
    have done5 : ∀ {x y : Option (Int32 × zT)}, x = some (1, T5) → y = some (1, wA M 2 0 σ5) → f_X2_celebrate ρ (nI c) T = x → f_X4_celebrates (nI c) M = y → ∃ b T' σ', f_X2_celebrate ρ (nI c) T = some (b, T') ∧ f_X4_celebrates (nI c) M = some (b, wA M 2 0 σ') ∧ zgo ρ T T' σ σ' ∧ σ' 0 = σ 0 ∧ σ' 1 = σ 1 ∧ (b = 0 ∨ b = 1) :=
      fun hx hy cx mx => ⟨1, T5, σ5, cx.trans hx, mx.trans hy, ⟨R5, I5, F5, n5, g5⟩, z05, z15, Or.inr rfl⟩
    by_cases hL : L = A
    · rw [if_pos hL] at cx mx
      by_cases hs : s_str σ5 c (nI k) h < L
      · rw [if_pos hs] at cx mx
        exact done5 rfl rfl cx mx
      · rw [if_neg hs] at cx mx
        refine ⟨1, wA T5 11 ρ (upd (T5.2 11 ρ) c (σ5 (21 + 13 * c + 6) + 1)), upd σ5 (21 + 13 * c + 6) (σ5 (21 + 13 * c + 6) + 1), ?_, mx, ⟨R5.a11 I5.g4 _, I5.up (Or.inr (Or.inr (Or.inr (Or.inr (Or.inr ⟨c, by omega, Or.inr (Or.inr rfl)⟩))))), zfr_trans F5 (zfr_wA ⟨by decide, by decide, rfl⟩), by rw [zn_upd (by omega)]; exact n5, by rw [zg_upd (by omega)]; exact g5⟩, by rw [pk_un (by omega)]; exact z05, by rw [pk_un (by omega)]; exact z15, Or.inr rfl⟩
        rw [cx, q_addc (by decide) (by omega), R5.wi hc5, zb_s]
    · rw [if_neg hL] at cx mx
      exact done5 rfl rfl cx mx
end PS
