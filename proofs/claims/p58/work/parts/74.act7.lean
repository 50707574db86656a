/-! THE LAW'S act: candles, a garden, cakes: the cases; the act -/
section ACT7
variable {T : zT} {σ : zRow} {hs : List zRow} {S : Option (Nat × zRow)} {j : Nat}
theorem zAc.w {a j' : Nat} {T' : zT} (h : zAc a j j' T σ hs S) (w : zWs T' σ hs S) : zAc a j j' T' σ hs S := ⟨w, h.2⟩
theorem r_622 {T1 T2 T4 : zT} {v x n u w v2 : Int32} (c1 : f_X3_candles T = some (x, T)) (e1 : f_L_next T = some (v, T1)) (ed : 1 + (v - v / 300 * 300) = n) (e2 : f_L_bought n T1 = some (u, T2)) (hu : u = if x + n ≤ 9999 then x + n else -3) (c2 : f_X3_candles (zk T1 T2) = some (w, zk T1 T2)) (hw : w = if x + n ≤ 9999 then x + n else x) (e4 : f_L_baked 4 1 (zk T1 T2) = some (v2, T4)) (hv2 : v2 ≠ 0) : sp_L_act_622 T = some (1, zk (zk T1 T2) T4) := by
  unfold sp_L_act_622
  rw [c1, zb_s]
  repeat (rw [zl_s]; try dsimp only)
  rw [zk_self, e1, zb_s]
  repeat (rw [zl_s]; try dsimp only)
  rw [ed, e2, zb_s]
  repeat (rw [zl_s]; try dsimp only)
  by_cases hle : x + n ≤ 9999
  · rw [if_pos hle] at hu hw
    rw [if_pos hle, if_pos hu, c2, zb_s]
    repeat (rw [zl_s]; try dsimp only)
    rw [zk_self, if_pos hle, if_pos hw, e4, zb_s]
    repeat (rw [zl_s]; try dsimp only)
    rw [if_neg hv2]
  · rw [if_neg hle] at hu hw
    rw [if_neg hle, if_pos hu, c2, zb_s]
    repeat (rw [zl_s]; try dsimp only)
    rw [zk_self, if_neg hle, if_pos hw, e4, zb_s]
    repeat (rw [zl_s]; try dsimp only)
    rw [if_neg hv2]
theorem a_622 (h : zAc 0 j j T σ hs S) (hj : j ≤ 11) : ∃ T' σ' hs', sp_L_act_622 T = some (1, T') ∧ zAc 2 j (j + 1) T' σ' hs' S ∧ hs' ≠ [] := by
  obtain ⟨v, T1, hv, e1, w1⟩ := g_next h.1
  obtain ⟨n, en⟩ : ∃ n, n = 1 + v % 300 := ⟨_, rfl⟩
  have ed : 1 + (nI v - nI v / 300 * 300) = nI n := by
    rw [show nI v - nI v / 300 * 300 = nI (v % 300) from x_rem hv (d := 300) (by decide) (by decide), en]; exact nI_add 1 _
  have hn1 : 1 ≤ n := by omega
  have hn2 : n ≤ 301 := by omega
  have h1 : zAc 0 j j T1 σ hs S := h.w w1
  have c1 := g_candles h.1
  obtain ⟨x, ex, hx, hb⟩ := a_buy (n := n) h1 (by decide) (by omega) hn1 hn2
  rw [ex] at c1
  rcases hb with ⟨hf, e2⟩ | ⟨hf, T2, σ2, e2, e3, hk6, hzn, ac⟩
  · exact absurd hf (by omega)
  · have ac2 := ac.k (T1 := T1)
    obtain ⟨v2, T4, σ', hs', e4, hv2, hs2⟩ : ∃ v2 T4 σ' hs', f_L_baked (nI 4) 1 (zk T1 T2) = some (v2, T4) ∧ v2 ≠ 0 ∧ zAc 2 j (j + 1) T4 σ' hs' S ∧ hs' ≠ [] := by
      obtain ⟨v2, T4, σ', hs', e4, hv2, ac3, hne, -⟩ := a_bake (k := 4) ac2 (by decide) hj (by decide)
      exact ⟨v2, T4, σ', hs', e4, hv2, ac3, hne⟩
    have hle : nI x + nI n ≤ 9999 := by rw [nI_add]; exact nI_le (b := 9999) hf (by decide)
    have c2 : f_X3_candles (zk T1 T2) = some (nI (x + n), zk T1 T2) := by rw [g_candles ac2.1, e3]
    have hxn : nI (x + n) = nI x + nI n := (nI_add x n).symm
    exact ⟨_, σ', hs', r_622 c1 e1 ed e2 (by rw [if_pos hle, hxn]) c2 (by rw [if_pos hle, hxn]) e4 hv2, hs2.1.k, hs2.2⟩
theorem r_491_0 {T' : zT} {w2 w3 w4 w8 v2 : Int32} (h2 : w2 = 0) (e1 : f_L_moved w3 w4 T = some (-5, T)) (e4 : f_L_baked 3 1 T = some (v2, T')) (hv2 : v2 ≠ 0) : sp_L_act_491 w2 w3 w4 w8 T = some (1, zk T T') := by
  unfold sp_L_act_491
  repeat (rw [zl_s]; try dsimp only)
  rw [if_pos h2]
  repeat (rw [zl_s]; try dsimp only)
  rw [if_pos (show w2 ≤ 0 by rw [h2]; decide)]
  repeat (rw [zl_s]; try dsimp only)
  rw [e1, zb_s]
  repeat (rw [zl_s]; try dsimp only)
  rw [zk_self, if_pos rfl, if_pos h2]
  repeat (rw [zl_s]; try dsimp only)
  rw [if_pos rfl, if_pos rfl, e4, zb_s]
  repeat (rw [zl_s]; try dsimp only)
  rw [if_neg hv2]
theorem r_491_s {T' : zT} {w2 w3 w4 w8 v2 hh o : Int32} (h2 : ¬ w2 = 0) (h3 : ¬ w2 ≤ 0) (h8 : ¬ w8 < 0) (eg : f_X3_gardenOf w3 T = some (.inl hh, T)) (eo : f_X3_obstacle w3 w4 (w8 / 30 + 1) (w8 - w8 / 30 * 30 + 1) T = some (.inl o, T)) (ho : o ≠ 0) (e1 : f_L_moved w3 w4 T = some (-3, T)) (e4 : f_L_baked 3 1 T = some (v2, T')) (hv2 : v2 ≠ 0) : sp_L_act_491 w2 w3 w4 w8 T = some (1, zk T T') := by
  unfold sp_L_act_491
  repeat (rw [zl_s]; try dsimp only)
  rw [if_neg h2, eg, zbi_s]
  repeat (rw [zl_s]; try dsimp only)
  rw [zk_self, if_neg h3, if_neg h8, eo, zbi_s]
  repeat (rw [zl_s]; try dsimp only)
  rw [zk_self, if_neg ho]
  repeat (rw [zl_s]; try dsimp only)
  rw [e1, zb_s]
  repeat (rw [zl_s]; try dsimp only)
  rw [zk_self, if_neg (show ¬ (1 : Int32) = 0 by decide)]
  repeat (rw [zl_s]; try dsimp only)
  rw [if_neg (show ¬ (1 : Int32) = 0 by decide), if_pos rfl, e4, zb_s]
  repeat (rw [zl_s]; try dsimp only)
  rw [if_neg hv2]
theorem r_491_m {T1 : zT} {w2 w3 w4 w8 hh : Int32} (h2 : ¬ w2 = 0) (h3 : ¬ w2 ≤ 0) (eg : f_X3_gardenOf w3 T = some (.inl hh, T)) (h8 : w8 < 0 ∨ (¬ w8 < 0 ∧ f_X3_obstacle w3 w4 (w8 / 30 + 1) (w8 - w8 / 30 * 30 + 1) T = some (.inl 0, T))) (e1 : f_L_moved w3 w4 T = some (hh, T1)) (e5 : f_X3_gardenOf w3 (zk T T1) = some (.inl w4, zk T T1)) : sp_L_act_491 w2 w3 w4 w8 T = some (1, zk T T1) := by
  unfold sp_L_act_491
  repeat (rw [zl_s]; try dsimp only)
  rw [if_neg h2, eg, zbi_s]
  repeat (rw [zl_s]; try dsimp only)
  rw [zk_self, if_neg h3]
  rcases h8 with h8 | ⟨h8, eo⟩
  · rw [if_pos h8]
    repeat (rw [zl_s]; try dsimp only)
    rw [e1, zb_s]
    repeat (rw [zl_s]; try dsimp only)
    rw [if_pos rfl, if_neg h2, if_pos rfl, e5, zbi_s]
    repeat (rw [zl_s]; try dsimp only)
    rw [zk_self, if_pos rfl]
  · rw [if_neg h8, eo, zbi_s]
    repeat (rw [zl_s]; try dsimp only)
    rw [zk_self, if_pos rfl]
    repeat (rw [zl_s]; try dsimp only)
    rw [e1, zb_s]
    repeat (rw [zl_s]; try dsimp only)
    rw [if_pos rfl, if_neg h2, if_pos rfl, e5, zbi_s]
    repeat (rw [zl_s]; try dsimp only)
    rw [zk_self, if_pos rfl]
theorem a_491 (h : zAc 0 j j T σ hs S) (hj : j ≤ 11) {c g : Nat} (hc : zn σ ≠ 0 → c < zn σ) (h0c : zn σ = 0 → c = 0) (hg : g < zg σ) {b : Int32} (hb : zn σ ≠ 0 → b = σ (21 + 13 * c + 4)) : ∃ T' σ' hs', sp_L_act_491 (nI (zn σ)) (nI c) (nI g) b T = some (1, T') ∧ zAc 2 j (j + 1) T' σ' hs' S ∧ hs' ≠ [] := by
  have n10 := h.1.I.n10
  obtain ⟨v, T', σ', hs', e2, hv, ac, hne, -⟩ := a_bake (k := 3) h (by decide) hj (by decide)
  by_cases h0 : zn σ = 0
  · have hn : nI (zn σ) = 0 := by rw [h0]; rfl
    have e1 : f_L_moved (nI c) (nI g) T = some (-5, T) := by
      unfold f_L_moved
      rw [w_move_no h.1 (Or.inr (by rw [h0]; exact nI_le (Nat.zero_le _) (by rw [h0c h0]; decide)))]; rfl
    exact ⟨_, σ', hs', r_491_0 hn e1 e2 hv, ac.k.fin (by decide), hne⟩
  · have hcn := hc h0
    have hn : ¬ nI (zn σ) = 0 := nI_ne0 (by omega) (by omega)
    have hn2 : ¬ nI (zn σ) ≤ 0 := nI_ge (a := 0) (by omega) (by omega)
    obtain ⟨⟨hh, hhg, eh⟩, hbd, -⟩ := (h.1.I.c hcn).2
    have eg : f_X3_gardenOf (nI c) T = some (.inl (nI hh), T) := by rw [g_gardenOf h.1 hcn, eh]
    have hb' := hb h0
    obtain ⟨hno, hyes⟩ := w_move h.1 hcn hg
    have fin : (b < 0 ∨ (¬ b < 0 ∧ f_X3_obstacle (nI c) (nI g) (b / 30 + 1) (b - b / 30 * 30 + 1) T = some (.inl 0, T))) → (σ (21 + 13 * c + 4) = -1 ∨ s_rea σ c g (σ (21 + 13 * c + 4)) = 0) → ∃ T' σ' hs', sp_L_act_491 (nI (zn σ)) (nI c) (nI g) b T = some (1, T') ∧ zAc 2 j (j + 1) T' σ' hs' S ∧ hs' ≠ [] := fun h8 hv => by
      obtain ⟨T1, em, w1⟩ := hyes hv
      have ac : zAc 1 j j T1 _ _ S := h.go (by decide) (Nat.le_refl _) w1 (h.2.1.1.1.home hcn hv) (zg_upd (by omega)) (fun M hM hx k hk => by
        obtain ⟨z, z1, z2⟩ := hx k hk
        exact ⟨z, by rw [pk_un (by omega)]; exact z1, by omega⟩)
      have ac2 := ac.k (T1 := T)
      have e1 : f_L_moved (nI c) (nI g) T = some (nI hh, T1) := by
        unfold f_L_moved
        rw [em, eh]; rfl
      have e5 : f_X3_gardenOf (nI c) (zk T T1) = some (.inl (nI g), zk T T1) := by rw [g_gardenOf ac2.1 (by rw [zn_upd (by omega)]; exact hcn), pk_us]
      exact ⟨_, _, _, r_491_m hn hn2 eg h8 e1 e5, ac2.fin (by decide), take_ne⟩
    rcases hbd with hm | ⟨d, hd, ed⟩
    · exact fin (Or.inl (by rw [hb', hm]; decide)) (Or.inl hm)
    · rw [ed] at hb' hno fin
      have hb0 : ¬ b < 0 := by rw [hb']; exact nI_pos (by omega)
      have eo : f_X3_obstacle (nI c) (nI g) (b / 30 + 1) (b - b / 30 * 30 + 1) T = some (.inl (s_rea σ c g (nI d)), T) := by
        have e1 : nI d / 30 + 1 = nI (d / 30 + 1) := by rw [show (30 : Int32) = nI 30 from rfl, pk_div (by omega) (by decide) (by decide), nI_1]
        have e2 : (nI d - nI d / 30 * 30) + 1 = nI (d % 30 + 1) := by
          rw [show nI d - nI d / 30 * 30 = nI (d % 30) from pk_rem (by omega) (by decide) (by decide), nI_1]
        rw [hb', e1, e2, g_obstacle h.1 hcn hg (by omega) (by omega) (by omega) (by omega), show (d / 30 + 1 - 1) * 30 + (d % 30 + 1 - 1) = d by omega]
      have hd1 : nI d ≠ -1 := by rw [ne_eq, q_m1ne (by omega)]; exact id
      by_cases hr : s_rea σ c g (nI d) = 0
      · rw [hr] at eo
        exact fin (Or.inr ⟨hb0, eo⟩) (Or.inr hr)
      · have e1 : f_L_moved (nI c) (nI g) T = some (-3, T) := by
          unfold f_L_moved
          rw [hno hd1 hr]; rfl
        exact ⟨_, σ', hs', r_491_s hn hn2 hb0 eg eo hr e1 e2 hv, ac.k.fin (by decide), hne⟩
theorem r_713 {T1 T2 T3 T4 : zT} {v v' k m b u w v2 : Int32} (e1 : f_L_next T = some (v, T1)) (ek : v - v / 6 * 6 = k) (c1 : f_X3_cakes k T1 = some (.inl b, T1)) (e2 : f_L_next T1 = some (v', T2)) (em : 1 + (v' - v' / 20 * 20) = m) (e3 : f_L_baked k m T2 = some (u, T3)) (hu : u = if 99 < b + m then -3 else b + m) (c2 : f_X3_cakes k (zk T2 T3) = some (.inl w, zk T2 T3)) (hw : w = if 99 < b + m then b else b + m) (e4 : f_L_bought 1 (zk T2 T3) = some (v2, T4)) (hv2 : v2 ≠ 0) : sp_L_act_713 T = some (1, zk (zk T2 T3) T4) := by
  unfold sp_L_act_713
  rw [e1, zb_s]
  repeat (rw [zl_s]; try dsimp only)
  rw [ek, c1, zbi_s]
  repeat (rw [zl_s]; try dsimp only)
  rw [zk_self, e2, zb_s]
  repeat (rw [zl_s]; try dsimp only)
  rw [em]
  by_cases hb : 99 < b + m
  · rw [if_pos hb] at hu hw
    rw [if_pos hb, e3, zb_s]
    repeat (rw [zl_s]; try dsimp only)
    rw [if_pos rfl, if_pos hu, c2, zbi_s]
    repeat (rw [zl_s]; try dsimp only)
    rw [zk_self, if_pos rfl, if_pos hw, e4, zb_s]
    repeat (rw [zl_s]; try dsimp only)
    rw [if_neg hv2]
  · rw [if_neg hb] at hu hw
    rw [if_neg hb, e3, zb_s]
    repeat (rw [zl_s]; try dsimp only)
    rw [if_neg (show ¬ (1 : Int32) = 0 by decide), if_pos hu, c2, zbi_s]
    repeat (rw [zl_s]; try dsimp only)
    rw [zk_self, if_neg (show ¬ (1 : Int32) = 0 by decide), if_pos hw, e4, zb_s]
    repeat (rw [zl_s]; try dsimp only)
    rw [if_neg hv2]
theorem a_713 (h : zAc 0 j j T σ hs S) (hj : j ≤ 11) : ∃ T' σ' hs', sp_L_act_713 T = some (1, T') ∧ zAc 2 j (j + 1) T' σ' hs' S ∧ hs' ≠ [] := by
  obtain ⟨v, T1, hv, e1, w1⟩ := g_next h.1
  obtain ⟨k, ek0⟩ : ∃ k, k = v % 6 := ⟨_, rfl⟩
  have hk : k < 6 := by omega
  have ek : nI v - nI v / 6 * 6 = nI k := by
    rw [show nI v - nI v / 6 * 6 = nI (v % 6) from x_rem hv (d := 6) (by decide) (by decide), ek0]
  have c1 := g_cakes w1 hk
  obtain ⟨x, ex, hx⟩ := h.ck k hk
  rw [ex] at c1
  obtain ⟨v', T2, hv', e2, w2⟩ := g_next w1
  obtain ⟨m, em0⟩ : ∃ m, m = 1 + v' % 20 := ⟨_, rfl⟩
  have hm1 : 1 ≤ m := by omega
  have hm2 : m ≤ 20 := by omega
  have em : 1 + (nI v' - nI v' / 20 * 20) = nI m := by
    rw [show nI v' - nI v' / 20 * 20 = nI (v' % 20) from x_rem hv' (d := 20) (by decide) (by decide), em0]; exact nI_add 1 _
  have h2 : zAc 0 j j T2 σ hs S := h.w w2
  obtain ⟨bno, byes⟩ := w_bake w2 hk ex hx (n := m) hm1 (by omega)
  have hxm : nI x + nI m = nI (x + m) := nI_add x m
  by_cases hf : 99 < x + m
  · have hlt : (99 : Int32) < nI x + nI m := by rw [hxm]; exact nI_lt (a := 99) hf (by omega)
    have e3 : f_L_baked (nI k) (nI m) T2 = some (-3, T2) := by unfold f_L_baked; rw [bno hf]; rfl
    obtain ⟨y, ey, hy, hbb⟩ := a_buy (n := 1) h2 (by decide) (by omega) (by decide) (by decide)
    rcases hbb with ⟨hf2, -⟩ | ⟨hf2, T4, σ2, e4, -, -, -, ac⟩
    · exact absurd hf2 (by omega)
    · have c2 : f_X3_cakes (nI k) (zk T2 T2) = some (.inl (nI x), zk T2 T2) := by rw [zk_self, g_cakes w2 hk, ex]
      have e4' : f_L_bought 1 (zk T2 T2) = some (nI (y + 1), T4) := by rw [zk_self]; exact e4
      exact ⟨_, σ2, _, r_713 e1 ek c1 e2 em e3 (by rw [if_pos hlt]) c2 (by rw [if_pos hlt]) e4' (nI_ne0 (by omega) (by omega)), ⟨ac.k.1, ac.k (T1 := zk T2 T2) |>.2.1, ac.2.2.up (by decide)⟩, take_ne⟩
  · obtain ⟨T3, e3', w3⟩ := byes (by omega)
    have hge : ¬ (99 : Int32) < nI x + nI m := by rw [hxm]; exact nI_nlt (a := 99) (by omega) (by decide)
    have e3 : f_L_baked (nI k) (nI m) T2 = some (nI (x + m), T3) := by unfold f_L_baked; rw [e3']; rfl
    have ac : zAc 1 j j T3 _ _ S := h2.go (by decide) (Nat.le_refl _) w3 (h2.2.1.1.1.bake hk (by omega)) (zg_upd (by omega)) (fun M hM hx' i hi => by
      by_cases e : i = k
      · subst e
        obtain ⟨z, z1, z2⟩ := hx' i hi
        have := q_inj (ex.symm.trans z1) (by omega) (by omega)
        exact ⟨x + m, pk_us, by omega⟩
      · obtain ⟨z, z1, z2⟩ := hx' i hi
        exact ⟨z, by rw [pk_un (by omega)]; exact z1, by omega⟩)
    have ac2 := ac.k (T1 := T2)
    have c2 : f_X3_cakes (nI k) (zk T2 T3) = some (.inl (nI (x + m)), zk T2 T3) := by rw [g_cakes ac2.1 hk, pk_us]
    obtain ⟨y, ey, hy, hbb⟩ := a_buy (n := 1) ac2 (by decide) (by omega) (by decide) (by decide)
    rcases hbb with ⟨hf2, -⟩ | ⟨hf2, T4, σ2, e4, -, -, -, ac3⟩
    · exact absurd hf2 (by omega)
    · exact ⟨_, σ2, _, r_713 e1 ek c1 e2 em e3 (by rw [if_neg hge, hxm]) c2 (by rw [if_neg hge, hxm]) e4 (nI_ne0 (by omega) (by omega)), ac3.k, take_ne⟩
end ACT7
