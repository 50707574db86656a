/-! THE LAW'S act: baking and buying as a trial that something is recorded -/
section ACT3
variable {T : zT} {σ : zRow} {hs : List zRow} {S : Option (Nat × zRow)} {j : Nat}
theorem a_bake {a j' k : Nat} (h : zAc a j j' T σ hs S) (ha : a ≤ 1) (hj : j ≤ 11) (hk : k < 6) : ∃ v T' σ' hs', f_L_baked (nI k) 1 T = some (v, T') ∧ v ≠ 0 ∧ zAc (a + 1) j j' T' σ' hs' S ∧ hs' ≠ [] ∧ zn σ' = zn σ := by
  obtain ⟨x, ex, hx⟩ := h.ck k hk
  have hb := w_bake h.1 hk ex hx (n := 1) (by decide) (by decide)
  by_cases hf : 99 < x + 1
  · refine ⟨-3, T, σ, hs, ?_, by decide, ⟨h.1, h.2.1, h.2.2.up (Nat.le_succ _)⟩, h.2.2.full hj hk ex (by omega) hx, rfl⟩
    unfold f_L_baked
    rw [show f_X3_bakeCakes (nI k) 1 T = some (.inr 0, T) from hb.1 hf]; rfl
  · obtain ⟨T', e1, w1⟩ := hb.2 (by omega)
    refine ⟨nI (x + 1), T', _, _, ?_, nI_ne0 (by omega) (by omega), h.go ha (Nat.le_refl _) w1 (h.2.1.1.1.bake hk (by omega)) (zg_upd (by omega)) (fun M hM hx' i hi => ?_), take_ne, zn_upd (by omega)⟩
    · unfold f_L_baked
      rw [show f_X3_bakeCakes (nI k) 1 T = some (.inl (nI (x + 1)), T') from e1]; rfl
    · by_cases e : i = k
      · subst e
        obtain ⟨z, z1, z2⟩ := hx' i hi
        have := q_inj (ex.symm.trans z1) (by omega) (by omega)
        exact ⟨x + 1, pk_us, by omega⟩
      · obtain ⟨z, z1, z2⟩ := hx' i hi
        exact ⟨z, by rw [pk_un (by omega)]; exact z1, by omega⟩
theorem zAc.k {a j' : Nat} {T1 : zT} (h : zAc a j j' T σ hs S) : zAc a j j' (zk T1 T) σ hs S := ⟨h.1.k, h.2⟩
/-- forgetting a birthday -/
theorem a_441 (h : zAc 0 j j T σ hs S) (hj : j ≤ 11) {c : Nat} (hc : zn σ ≠ 0 → c < zn σ) (h0c : zn σ = 0 → c = 0) {b : Int32} (hb : zn σ ≠ 0 → b = σ (21 + 13 * c + 4)) : ∃ T' σ' hs', sp_L_act_441 (nI (zn σ)) (nI c) b T = some (1, T') ∧ zAc 2 j (j + 1) T' σ' hs' S ∧ hs' ≠ [] := by
  have n10 := h.1.I.n10
  have up : ∀ {a : Nat} {T : zT} {σ : zRow} {hs : List zRow}, zAc a j j T σ hs S → a ≤ 2 → zAc 2 j (j + 1) T σ hs S := fun z ha => ⟨z.1, z.2.1.mono (fun _ q => q.mono (Nat.le_succ _)), z.2.2.up ha⟩
  unfold sp_L_act_441
  by_cases h0 : zn σ = 0
  · have hn : nI (zn σ) = 0 := by rw [h0]; rfl
    have e1 : f_L_forgotten (nI c) T = some (-5, T) := by
      unfold f_L_forgotten
      rw [w_forget_no h.1 (Or.inr (by rw [h0]; exact nI_le (Nat.zero_le _) (by rw [h0c h0]; decide)))]; rfl
    obtain ⟨v, T', σ', hs', e2, hv, ac, hne, -⟩ := a_bake (k := 2) h (by decide) hj (by decide)
    rw [e1, zb_s]
    simp only [zl_s]
    rw [zk_self, if_pos hn, if_pos trivial, if_pos hn, show (2 : Int32) = nI 2 from rfl, e2, zb_s, if_neg hv]
    exact ⟨_, σ', hs', rfl, up ac.k (by decide), hne⟩
  · have hn : ¬ nI (zn σ) = 0 := nI_ne0 (by omega) (by omega)
    obtain ⟨⟨hh, hhg, eh⟩, -⟩ := (h.1.I.c (hc h0)).2
    obtain ⟨T1, e1, w1⟩ := w_forget h.1 (hc h0)
    have ac : zAc 1 j j T1 _ _ S := h.go (by decide) (Nat.le_refl _) w1 (h.2.1.1.1.birth (hc h0) (by have := hc h0; omega) eh (Or.inl rfl)) (zg_upd (by omega)) (fun M hM hx k hk => by
      obtain ⟨z, z1, z2⟩ := hx k hk
      exact ⟨z, by rw [pk_un (by omega)]; exact z1, by omega⟩)
    have e2 : f_L_forgotten (nI c) T = some (σ (21 + 13 * c + 4), T1) := by unfold f_L_forgotten; rw [e1]; rfl
    have ac2 := ac.k (T1 := T)
    have e3 : f_X3_birthdayOf (nI c) (zk T T1) = some (.inl (-1), zk T T1) := by rw [g_birthdayOf ac2.1 (by rw [zn_upd (by omega)]; exact hc h0), pk_us]
    rw [e2, zb_s]
    simp only [zl_s]
    rw [if_neg hn, if_pos (hb h0).symm, if_neg hn, e3, zbi_s, if_pos rfl, zk_self]
    exact ⟨_, _, _, rfl, up ac2 (by decide), take_ne⟩
end ACT3
