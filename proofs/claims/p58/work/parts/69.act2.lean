/-! THE LAW'S act: days passed, the case -/
section ACT
variable {T : zT} {σ : zRow} {hs : List zRow} {S : Option (Nat × zRow)} {j : Nat}
theorem a_140 (h : zAc 0 j j T σ hs S) (hj : j ≤ 20) {c : Nat} (hc : zn σ ≠ 0 → c < zn σ) : ∃ T' σ' hs', sp_L_act_140 (nI (zn σ)) (nI c) T = some (1, T') ∧ zAc 2 j (j + 1) T' σ' hs' S ∧ hs' ≠ [] := by
  have n10 := h.1.I.n10
  obtain ⟨v, T1, hv, e1, w1⟩ := g_next h.1
  obtain ⟨g1, g2, g3, y, t, hy, ht, ht3, hyt⟩ := h.2.1.1.1
  have ed : 1 + (nI v - nI v / 400 * 400) = nI (1 + v % 400) := by rw [show nI v - nI v / 400 * 400 = nI (v % 400) from x_rem hv (d := 400) (by decide) (by decide)]; exact nI_add 1 _
  obtain ⟨d, ed'⟩ : ∃ d, d = 1 + v % 400 := ⟨_, rfl⟩
  rw [← ed'] at ed
  have hd1 : 1 ≤ d := by omega
  have hd4 : d ≤ 400 := by omega
  obtain ⟨Bm, hBm, hBk, k0, hk0, eBm⟩ := ck_max g3.2.1
  obtain ⟨x, σ', hzB, ⟨y', t', a1, a2, a3, a4⟩, cl⟩ := w_pass (σ := σ) (N := fun _ => 400 * j) (B := Bm) (C := 300 + 301 * j) (d := d) (by omega) (by omega) h.1.I ⟨g3.1, hBk, g3.2.2⟩ (fun _ => by omega) hy ht ht3
  have hz : zps (fun _ => 400 * j + d) 99 (300 + 301 * j) x σ σ' := ⟨hzB.1, ⟨hzB.2.1.1, fun k hk => by obtain ⟨b, hb, eb⟩ := hzB.2.1.2.1 k hk; exact ⟨b, by omega, eb⟩, hzB.2.1.2.2⟩, hzB.2.2⟩
  have gr' : zGr (j + 1) σ' := zGr.pass h.2.1.1.1 hd4 hy ht hyt hz a1 a2 a3 a4
  have hy9 : y ≤ 99 := by omega
  have hIy : zIy σ' := ⟨y', by omega, a2⟩
  have hn' : zn σ' = zn σ := hz.2.2.1.n
  obtain ⟨T2, e2, w2⟩ := w_can (d := d) (by omega) w1 cl
  have w3 := w2.k (T := T1)
  generalize e3 : zk T1 T2 = T3 at w3
  have fin : ∀ (z : Int32) (T4 : zT), zWs T4 σ hs S → (zn σ ≠ 0 → z = σ' (21 + 13 * c + 6)) → ∃ T' σ'' hs', (zb (f_X3_heldParties T4) fun v59 T60 => zb (f_L_advanced (nI d) (zk T4 T60)) fun v63 T64 => zb (f_X3_heldParties (zk (zk T4 T60) T64)) fun v67 T68 => if v63 = v67 - v59 then zb (f_X3_candles (zk (zk (zk T4 T60) T64) T68)) fun v71 T72 => if v71 = σ' 3 then if nI (zn σ) = 0 then some ((1 : Int32), zk (zk (zk (zk T4 T60) T64) T68) T72) else zbi (f_X3_wishesOf (nI c) (zk (zk (zk (zk T4 T60) T64) T68) T72)) fun v75 T76 => if v75 = z then some (1, zk (zk (zk (zk (zk T4 T60) T64) T68) T72) T76) else some (0, zk (zk (zk (zk (zk T4 T60) T64) T68) T72) T76) else some (0, zk (zk (zk (zk T4 T60) T64) T68) T72) else some (0, zk (zk (zk T4 T60) T64) T68)) = some (1, T') ∧ zAc 2 j (j + 1) T' σ'' hs' S ∧ hs' ≠ [] := fun z T4 w4 hz4 => by
    obtain ⟨T5, e5, w5⟩ := w_adv (d := d) w4 hd1 (by omega) hy ht ht3 hy9 (by omega) hz.1 hIy cl
    have w6 := w5.k (T := T4)
    generalize e6 : zk T4 T5 = T6 at w6
    have ac : zAc 1 j (j + 1) T6 σ' ((σ :: hs).take 10) S := zAc.go ⟨w4, h.2⟩ (by decide) (Nat.le_succ _) w6 gr' hz.2.2.1.g (fun M hM hx k hk => by
      obtain ⟨b, hb, eb⟩ := hzB.2.1.2.1 k hk
      obtain ⟨z, hz1, hz2⟩ := hx k0 hk0
      have := q_inj (eBm.symm.trans hz1) (by omega) (by omega)
      exact ⟨b, eb, by omega⟩)
    refine ⟨T6, σ', _, ?_, ⟨ac.1, ac.2.1, ac.2.2.up (by decide)⟩, take_ne⟩
    have e7 : f_L_advanced (nI d) T4 = some (x, T5) := by unfold f_L_advanced; rw [e5]; rfl
    have e8 : x = zsm σ' 5 (zn σ') - zsm σ 5 (zn σ) := by
      rw [← hz.1.held, ← w4.I.held, hz.2.2.2.1]; grind
    rw [g_heldParties w4, zb_s, zk_self, e7, zb_s, e6, g_heldParties w6, zb_s, zk_self, if_pos e8, g_candles w6, zb_s, zk_self, if_pos rfl]
    by_cases h0 : zn σ = 0
    · rw [if_pos (by rw [h0]; rfl)]
    · rw [if_neg (nI_ne0 (by omega) (by omega)), g_wishesOf w6 (by rw [hn']; exact hc h0), zbi_s, if_pos (hz4 h0).symm, zk_self]
  unfold sp_L_act_140
  rw [e1, zb_s]
  simp only [zl_s]
  rw [ed, e2, zbi_s, e3]
  by_cases h0 : zn σ = 0
  · rw [if_pos (show nI (zn σ) = 0 by rw [h0]; rfl)]
    exact fin 0 T3 w3 (fun z => absurd h0 z)
  · obtain ⟨T4, e4, w4⟩ := w_wis (d := d) (by omega) w3 (hc h0) hn' cl
    have w5 := w4.k (T := T3)
    rw [if_neg (nI_ne0 (by omega) (by omega)), e4, zbi_s]
    exact fin _ _ w5 (fun _ => rfl)
end ACT
