/-! THE LAW'S act: candles bought -/
section ACT6
variable {T : zT} {σ : zRow} {hs : List zRow} {S : Option (Nat × zRow)} {j : Nat}
/-- candles bought: taken or refused -/
theorem a_buy {a n : Nat} (h : zAc a j j T σ hs S) (ha : a ≤ 1) (hj : j ≤ 20) (hn1 : 1 ≤ n) (hn : n ≤ 301) : ∃ x, σ 3 = nI x ∧ x ≤ 300 + 301 * j ∧ ((9999 < x + n ∧ f_L_bought (nI n) T = some (-3, T)) ∨ (x + n ≤ 9999 ∧ ∃ T' σ', f_L_bought (nI n) T = some (nI (x + n), T') ∧ σ' 3 = nI (x + n) ∧ (∀ k, k < 6 → σ' (11 + k) = σ (11 + k)) ∧ zn σ' = zn σ ∧ zAc (a + 1) j (j + 1) T' σ' ((σ :: hs).take 10) S)) := by
  obtain ⟨x, hx, ex⟩ := h.2.1.1.1.2.2.1.1
  have hb := w_buy h.1 ex (by omega) hn1 (by omega)
  refine ⟨x, ex, hx, ?_⟩
  by_cases hf : 9999 < x + n
  · exact Or.inl ⟨hf, by unfold f_L_bought; rw [hb.1 hf]; rfl⟩
  · obtain ⟨T', e1, w1⟩ := hb.2 (by omega)
    refine Or.inr ⟨by omega, T', _, by unfold f_L_bought; rw [e1]; rfl, by rw [pk_un (by decide), pk_us], fun k hk => by rw [pk_un (by omega), pk_un (by omega)], by rw [zn_upd (by decide), zn_upd (by decide)], h.go ha (Nat.le_succ _) w1 (h.2.1.1.1.buy (by omega) ex hn (by omega)) (by rw [zg_upd (by decide), zg_upd (by decide)]) (fun M hM hx' k hk => ?_)⟩
    obtain ⟨z, z1, z2⟩ := hx' k hk
    exact ⟨z, by rw [pk_un (by omega), pk_un (by omega)]; exact z1, by omega⟩
end ACT6
