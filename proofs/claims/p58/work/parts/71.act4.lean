/-! THE LAW'S act: a birthday set -/
section ACT4
variable {T : zT} {σ : zRow} {hs : List zRow} {S : Option (Nat × zRow)} {j : Nat}
theorem zAc.fin {a : Nat} (h : zAc a j j T σ hs S) (ha : a ≤ 2) : zAc 2 j (j + 1) T σ hs S := ⟨h.1, h.2.1.mono (fun _ q => q.mono (Nat.le_succ _)), h.2.2.up ha⟩
theorem a_338 (h : zAc 0 j j T σ hs S) (hj : j ≤ 11) {c m d : Nat} (hc : zn σ ≠ 0 → c < zn σ) (h0c : zn σ = 0 → c = 0) (m1 : 1 ≤ m) (m2 : m ≤ 12) (d1 : 1 ≤ d) (d2 : d ≤ 30) : ∃ T' σ' hs', sp_L_act_338 (nI (zn σ)) (nI c) (nI m) (nI d) (nI ((m - 1) * 30 + (d - 1))) T = some (1, T') ∧ zAc 2 j (j + 1) T' σ' hs' S ∧ hs' ≠ [] := by
  have n10 := h.1.I.n10
  unfold sp_L_act_338
  by_cases h0 : zn σ = 0
  · have hn : nI (zn σ) = 0 := by rw [h0]; rfl
    have e1 : f_L_set (nI c) (nI m) (nI d) T = some (-5, T) := by
      unfold f_L_set
      rw [w_set_no h.1 (Or.inr (by rw [h0]; exact nI_le (Nat.zero_le _) (by rw [h0c h0]; decide)))]; rfl
    obtain ⟨v, T', σ', hs', e2, hv, ac, hne, -⟩ := a_bake (k := 1) h (by decide) hj (by decide)
    simp only [zl_s]
    rw [if_pos hn, e1, zb_s, zk_self, if_pos hn, if_pos hn, if_pos rfl, show f_L_baked 1 1 T = some (v, T') from e2, zb_s, if_neg hv]
    exact ⟨_, σ', hs', rfl, ac.k.fin (by decide), hne⟩
  · have hn : ¬ nI (zn σ) = 0 := nI_ne0 (by omega) (by omega)
    have hcn := hc h0
    obtain ⟨t, ht3, ht⟩ := h.1.I.date
    obtain ⟨hh, hhg, eh⟩ := (h.1.I.c hcn).2.1
    have e1 : f_X3_gardenOf (nI c) T = some (.inl (nI hh), T) := by rw [g_gardenOf h.1 hcn, eh]
    have e2 := g_obstacle h.1 hcn hhg m1 m2 d1 d2
    have hst := w_set h.1 hcn hhg eh ht ht3 m1 m2 d1 d2
    simp only [zl_s]
    rw [if_neg hn, e1, zbi_s, zk_self, e2, zbi_s, zk_self]
    by_cases hr : s_rea σ c hh (nI ((m - 1) * 30 + (d - 1))) = 0
    · obtain ⟨T1, e3, w1⟩ := hst.2 hr
      have ac : zAc 1 j j T1 _ _ S := h.go (by decide) (Nat.le_refl _) w1 (h.2.1.1.1.birth hcn (by omega) eh (Or.inr hr)) (zg_upd (by omega)) (fun M hM hx k hk => by
        obtain ⟨z, z1, z2⟩ := hx k hk
        exact ⟨z, by rw [pk_un (by omega)]; exact z1, by omega⟩)
      have ac2 := ac.k (T1 := T)
      have e4 : f_L_set (nI c) (nI m) (nI d) T = some (nI (if t < (m - 1) * 30 + (d - 1) then (m - 1) * 30 + (d - 1) - t else (m - 1) * 30 + (d - 1) + 360 - t), T1) := by unfold f_L_set; rw [e3]; rfl
      have hcn' : c < zn (upd σ (21 + 13 * c + 4) (nI ((m - 1) * 30 + (d - 1)))) := by rw [zn_upd (by omega)]; exact hcn
      have e5 : f_X3_birthdayOf (nI c) (zk T T1) = some (.inl (nI ((m - 1) * 30 + (d - 1))), zk T T1) := by rw [g_birthdayOf ac2.1 hcn', pk_us]
      have e6 : f_X3_daysUntilBirthday (nI c) (zk T T1) = some (.inl (nI (if t < (m - 1) * 30 + (d - 1) then (m - 1) * 30 + (d - 1) - t else (m - 1) * 30 + (d - 1) + 360 - t)), zk T T1) := by
        rw [g_daysUntil ac2.1 hcn', pk_us, if_neg (by rw [q_m1ne (by omega)]; exact id), pk_un (by omega), ht]
        have e7 := q_unt (T := wI T 1 0 1 (nI t)) (ρ := 0) (x := nI ((m - 1) * 30 + (d - 1)))
        rw [q_wIs] at e7
        have e8 : s_unt (nI t) (nI ((m - 1) * 30 + (d - 1))) = nI (if t < (m - 1) * 30 + (d - 1) then (m - 1) * 30 + (d - 1) - t else (m - 1) * 30 + (d - 1) + 360 - t) := by
          unfold s_unt
          by_cases hlt : t < (m - 1) * 30 + (d - 1)
          · rw [if_neg (nI_ge hlt (by omega)), if_pos hlt, pk_sub (by omega)]
          · have e9 : nI ((m - 1) * 30 + (d - 1) + 360) = nI ((m - 1) * 30 + (d - 1)) + 360 := (nI_add _ 360).symm
            rw [if_pos (nI_le (by omega) (by omega)), if_neg hlt, ← pk_sub (by omega), e9]
            grind
        rw [e8]
      rw [e4, zb_s, if_neg hn, if_pos hr, e5, zbi_s, if_pos rfl, zk_self, e6, zbi_s, if_pos rfl, zk_self]
      exact ⟨_, _, _, rfl, ac2.fin (by decide), take_ne⟩
    · have e4 : f_L_set (nI c) (nI m) (nI d) T = some (-3, T) := by unfold f_L_set; rw [hst.1 hr]; rfl
      obtain ⟨v, T', σ', hs', e5, hv, ac, hne, -⟩ := a_bake (k := 1) h (by decide) hj (by decide)
      rw [e4, zb_s, zk_self, if_neg hn, if_neg hr, if_neg hn, if_pos rfl, show f_L_baked 1 1 T = some (v, T') from e5, zb_s, if_neg hv]
      exact ⟨_, σ', hs', rfl, ac.k.fin (by decide), hne⟩
end ACT4
