/-! THE LAW'S act: a birthday drawn -/
section ACT5
variable {T : zT} {σ : zRow} {hs : List zRow} {S : Option (Nat × zRow)} {j : Nat}
theorem s_drw_rea {c h : Nat} : ∀ k j s i s', s_drw σ c h j k s = (some i, s') → s_rea σ c h (s_day s') = 0 := by
  intro k
  induction k with
  | zero => intro j s i s' hh; cases hh
  | succ k ih =>
    intro j s i s' hh
    unfold s_drw at hh
    by_cases h0 : s_rea σ c h (s_day (s_nxt s)) = 0
    · rw [if_pos h0] at hh
      cases hh
      exact h0
    · rw [if_neg h0] at hh
      exact ih _ _ _ _ hh
theorem a_228 (h : zAc 0 j j T σ hs S) (hj : j ≤ 11) {c : Nat} (hc : zn σ ≠ 0 → c < zn σ) (h0c : zn σ = 0 → c = 0) : ∃ T' σ' hs', sp_L_act_228 (nI (zn σ)) (nI c) T = some (1, T') ∧ zAc 2 j (j + 1) T' σ' hs' S ∧ hs' ≠ [] := by
  have n10 := h.1.I.n10
  unfold sp_L_act_228
  obtain ⟨v, T', σ', hs', e2, hv, ac, hne, -⟩ := a_bake (k := 0) h (by decide) hj (by decide)
  by_cases h0 : zn σ = 0
  · have hn : nI (zn σ) = 0 := by rw [h0]; rfl
    have e1 : f_L_drawn (nI c) T = some (-5, T) := by
      unfold f_L_drawn
      rw [w_drw_no h.1 (Or.inr (by rw [h0]; exact nI_le (Nat.zero_le _) (by rw [h0c h0]; decide)))]; rfl
    simp only [zl_s]
    rw [if_pos hn, g_nextDraw h.1, zb_s, zk_self, e1, zb_s, zk_self, if_neg (show ¬ (0 : Int32) ≤ -5 by decide), if_pos hn, if_pos rfl, show f_L_baked 0 1 T = some (v, T') from e2, zb_s, if_neg hv]
    exact ⟨_, σ', hs', rfl, ac.k.fin (by decide), hne⟩
  · have hn : ¬ nI (zn σ) = 0 := nI_ne0 (by omega) (by omega)
    have hcn := hc h0
    obtain ⟨hh, hhg, eh⟩ := (h.1.I.c hcn).2.1
    obtain ⟨dno, dyes⟩ := w_drw h.1 hcn hhg eh
    simp only [zl_s]
    rw [if_neg hn]
    cases ed : s_drw σ c hh 1 20 (σ 2) with
    | mk od s' =>
      cases od with
      | none =>
        obtain ⟨e3, e4⟩ := dno s' ed
        have e5 : f_L_drawn (nI c) T = some (-3, T) := by unfold f_L_drawn; rw [e3]; rfl
        rw [e4, zbi_s, zk_self, g_nextDraw h.1, zb_s, zk_self, e5, zb_s, zk_self, if_neg (show ¬ (0 : Int32) ≤ -1 by decide), if_neg hn, if_pos rfl, show f_L_baked 0 1 T = some (v, T') from e2, zb_s, if_neg hv]
        exact ⟨_, σ', hs', rfl, ac.k.fin (by decide), hne⟩
      | some d =>
        obtain ⟨T1, w, x, hw, ew, hx, ex, hd20, hd1, e4, e3, w1⟩ := dyes d s' ed
        have hrea := s_drw_rea _ _ _ _ _ ed
        have e5 : f_L_drawn (nI c) T = some (nI d, T1) := by unfold f_L_drawn; rw [e3]; rfl
        have eh2 : upd σ 2 s' (21 + 13 * c + 3) = nI hh := by rw [pk_un (by omega)]; exact eh
        have hr2 : s_rea (upd σ 2 s') c hh (s_day s') = 0 := by
          have a1 : zn (upd σ 2 s') = zn σ := zn_upd (by decide)
          rw [← hrea]
          unfold s_rea s_cnt
          rw [a1, pk_un (by omega), pk_un (by omega), zfn_congr (p' := s_tkp σ c (nI hh) (s_day s')) (fun i _ _ => by unfold s_tkp; rw [pk_un (by omega), pk_un (by omega)]), zfo_congr (st' := fun i u => if σ (21 + 13 * i + 0) = σ (21 + 13 * c + 0) then u + 1 else u) (fun i _ _ u => by rw [pk_un (by omega)])]
        have ac1 : zAc 1 j j T1 _ _ S := h.go (by decide) (Nat.le_refl _) w1 ((h.2.1.1.1.seed (w := s')).birth (by rw [zn_upd (by decide)]; exact hcn) (by omega) eh2 (Or.inr hr2)) (by rw [zg_upd (by omega), zg_upd (by decide)]) (fun M hM hx k hk => by
          obtain ⟨z, z1, z2⟩ := hx k hk
          exact ⟨z, by rw [pk_un (by omega), pk_un (by omega)]; exact z1, by omega⟩)
        have ac2 := ac1.k (T1 := T)
        have hcn' : c < zn (upd (upd σ 2 s') (21 + 13 * c + 4) (s_day s')) := by rw [zn_upd (by omega), zn_upd (by decide)]; exact hcn
        have e6 : f_X3_birthdayOf (nI c) (zk T T1) = some (.inl (s_day s'), zk T T1) := by rw [g_birthdayOf ac2.1 hcn', pk_us]
        have e7 : f_X3_seed (zk T T1) = some (s', zk T T1) := by rw [g_seed ac2.1, pk_un (by omega), pk_us]
        have hfirst : ¬ 1 < nI d → s_day s' = s_day (s_nxt (σ 2)) := fun hh1 => by
          have hd : d = 1 := by
            have : ¬ 1 < d := fun z => hh1 (nI_lt (a := 1) z (by omega))
            omega
          have := (s_drw_it _ _ _ _ _ ed).2.2
          rw [hd] at this
          rw [this]; rfl
        rw [e4, zbi_s, zk_self, g_nextDraw h.1, zb_s, zk_self, e5, zb_s, if_pos (z0le (by omega)), if_pos rfl]
        have tail : (zb (f_X3_seed (zk T T1)) fun v102 T103 => zbi (f_X3_birthdayOf (nI c) (zk (zk T T1) T103)) fun v106 T107 => if v102 - v102 / 360 * 360 = v106 then some ((1 : Int32), zk (zk (zk T T1) T103) T107) else some (0, zk (zk (zk T T1) T103) T107)) = some (1, zk T T1) := by
          rw [e7, zb_s, zk_self, e6, zbi_s, zk_self, if_pos (show s' - s' / 360 * 360 = s_day s' from rfl)]
        refine ⟨zk T T1, _, _, ?_, ac2.fin (by decide), take_ne⟩
        by_cases hlt : 1 < nI d
        · rw [if_pos hlt]; exact tail
        · rw [if_neg hlt, e6, zbi_s, zk_self, if_pos (hfirst hlt)]; exact tail
end ACT5
