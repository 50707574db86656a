/-! CALLS THAT CHANGE THE REGISTRY -/
section CH
variable {T M : zT}
theorem zwM {M : zT} {f : Nat → Int32} {c : Int32} : (wI (wA M 4 0 f) 0 0 5 c).2 2 0 = M.2 2 0 := rfl
/-- the seed after i draws -/
def s_it : Nat → Int32 → Int32
  | 0, s => s
  | n + 1, s => s_it n (s_nxt s)
theorem s_itS {s : Int32} : ∀ {n : Nat}, s_it (n + 1) s = s_nxt (s_it n s) := by
  intro n
  induction n generalizing s with
  | zero => rfl
  | succ n ih => show s_it (n + 1) (s_nxt s) = s_nxt (s_it n (s_nxt s)); exact ih
theorem s_drw_it {σ : Nat → Int32} {c h : Nat} : ∀ k j s i s', s_drw σ c h j k s = (some i, s') → j ≤ i ∧ i < j + k ∧ s' = s_it (i + 1 - j) s := by
  intro k
  induction k with
  | zero => intro j s i s' hh; cases hh
  | succ k ih =>
    intro j s i s' hh
    unfold s_drw at hh
    by_cases h0 : s_rea σ c h (s_day (s_nxt s)) = 0
    · rw [if_pos h0] at hh
      cases hh
      refine ⟨Nat.le_refl _, by omega, ?_⟩
      rw [show j + 1 - j = 1 by omega]; rfl
    · rw [if_neg h0] at hh
      obtain ⟨h1, h2, h3⟩ := ih _ _ _ _ hh
      refine ⟨by omega, by omega, ?_⟩
      rw [h3, show i + 1 - j = (i + 1 - (j + 1)) + 1 by omega]; rfl
theorem s_nxt_b {z : Nat} (h : z < 9973) : ∃ w, w < 9973 ∧ s_nxt (nI z) = nI w := by
  unfold s_nxt
  rw [nl_211, nl_97, pk_mul, nI_add]
  exact ⟨(z * 211 + 97) % 9973, Nat.mod_lt _ (by decide), pk_rem (by omega) (by decide) (by decide)⟩
theorem s_it_b : ∀ n z, z < 9973 → ∃ w, w < 9973 ∧ s_it n (nI z) = nI w := by
  intro n
  induction n with
  | zero => intro z h; exact ⟨z, h, rfl⟩
  | succ n ih =>
    intro z h
    obtain ⟨w, h1, h2⟩ := s_nxt_b h
    show ∃ w, w < 9973 ∧ s_it n (s_nxt (nI z)) = nI w
    rw [h2]; exact ih w h1
theorem s_day_b {z : Nat} (h : z < 9973) : ∃ d, d < 360 ∧ s_day (nI z) = nI d := ⟨z % 360, Nat.mod_lt _ (by decide), pk_rem (by omega) (by decide) (by decide)⟩
theorem q_wIself {T : zT} {κ ι k : Nat} : wI T κ ι k (T.1 κ ι k) = T := by
  unfold wI
  refine Prod.ext (funext fun a => funext fun b => funext fun c => ?_) rfl
  show (if a = κ ∧ b = ι ∧ c = k then T.1 κ ι k else T.1 a b c) = T.1 a b c
  by_cases h : a = κ ∧ b = ι ∧ c = k
  · obtain ⟨rfl, rfl, rfl⟩ := h; rw [if_pos ⟨rfl, rfl, rfl⟩]
  · rw [if_neg h]
theorem w_db_l {ρ c d : Nat} (hd : d ≤ 20) : ∀ k j fuel s, j + k = d → k < fuel → lp_X2_drawBirthday_2 ρ (nI c) (nI d) fuel (nI j) (wI T 1 ρ 2 s) = some (nI d, wI T 1 ρ 2 (s_it k s)) := by
  intro k
  induction k with
  | zero =>
    intro j fuel s hj hk
    obtain ⟨f, rfl⟩ : ∃ f, fuel = f + 1 := ⟨fuel - 1, by omega⟩
    obtain rfl : j = d := by omega
    rw [lp_X2_drawBirthday_2, if_pos (Int32.le_refl _)]; rfl
  | succ k ih =>
    intro j fuel s hj hk
    obtain ⟨f, rfl⟩ : ∃ f, fuel = f + 1 := ⟨fuel - 1, by omega⟩
    have e1 : ∀ U : zT, f_X3_seedAfter s U = some (s_nxt s, U) := fun _ => rfl
    rw [lp_X2_drawBirthday_2, if_neg (nI_ge (by omega) (by omega)), q_wIs, e1, zb_s, zl_s, zl_s, nI_1, q_wII]
    exact ih (j + 1) f (s_nxt s) (by omega) (by omega)
/-- a draw: both take the same seed and date -/
theorem w_draw {ρ c h d : Nat} {σ : Nat → Int32} {s' : Int32} (R : zRR T ρ σ) (I : zIv σ) (hc : c < zn σ) (hh : h < zg σ) (ed : s_drw σ c h 1 20 (σ 2) = (some d, s')) : ∃ T' σ', f_X2_drawBirthday ρ (nI c) (nI d) T = some ((), T') ∧ (∀ M, M.2 2 0 = σ → M.1 0 0 15 = s' → M.1 0 0 16 = s_day s' → f_X4_takesDraw (nI c) (nI d) M = some ((), wA M 2 0 σ')) ∧ zgo ρ T T' σ σ' ∧ σ' 0 = σ 0 ∧ σ' 1 = σ 1 := by
  have n10 := I.n10
  obtain ⟨h1, h2, h3⟩ := s_drw_it _ _ _ _ _ ed
  obtain ⟨z, hz, ez⟩ := I.seed
  obtain ⟨w, hw, ew⟩ := s_it_b d z hz
  rw [show d + 1 - 1 = d by omega, ez, ew] at h3
  obtain ⟨x, hx, ex⟩ := s_day_b hw
  have e := w_db_l (T := T) (ρ := ρ) (c := c) (d := d) (by omega) d 0 2000 (nI z) (by omega) (by omega)
  rw [ew, ← ez, ← R.f2, q_wIself, ← nl_0] at e
  have R1 : zRR (wI T 1 ρ 2 (nI w)) ρ (upd σ 2 (nI w)) := R.i2 _
  have I1 : zIv (upd σ 2 (nI w)) := I.seed' hw
  refine ⟨wA (wI T 1 ρ 2 (nI w)) 9 ρ (upd ((wI T 1 ρ 2 (nI w)).2 9 ρ) c (nI x)), upd (upd σ 2 (nI w)) (21 + 13 * c + 4) (nI x), ?_, ?_, ⟨R1.a9 I1.g4 _, I1.birth' (Or.inr ⟨x, hx, rfl⟩), zfr_trans (zfr_wI ⟨by decide, by decide, rfl⟩) (zfr_wA ⟨by decide, by decide, rfl⟩), by rw [zn_upd (by omega), zn_upd (by decide)], by rw [zg_upd (by omega), zg_upd (by decide)]⟩, by rw [pk_un (by omega), pk_un (by decide)], by rw [pk_un (by omega), pk_un (by decide)]⟩
  · unfold f_X2_drawBirthday
    have ex' : nI w - nI w / 360 * 360 = nI x := ex
    rw [e, zb_s, q_wIs, zl_s, ex', q_setc (by decide) (by omega), zb_s]
  · intro M hσ h15 h16
    have hdn : ¬ nI d = -1 := by rw [q_m1ne (by omega)]; exact id
    unfold f_X4_takesDraw
    rw [if_neg hdn]
    simp (disch := omega) only [zb_s, zl_s, q_c, q_ad4, q_zt, q_clamp, if_true, hσ, h15, h16, q_wAs, q_wAA, q_wA1, h3, ex]
theorem zGd.go {σ σ' : Nat → Int32} {T' : zT} {ρ : Nat} (hg : zgo ρ T T' σ σ') (hy : zIy σ') : zGd T' ρ σ' := ⟨hg.1, hg.2.1, hy⟩
theorem zIy.same {σ σ' : Nat → Int32} (h : zIy σ) (e : σ' 0 = σ 0) : zIy σ' := by unfold zIy; rw [e]; exact h
theorem o_draw (h : zRel T M) (p : Int32) : zOpX [(2, 1), (0, 2)] (f_X3_draw p T) (f_X4_draw p M) := by
  have n10 := h.I.n10
  unfold f_X3_draw f_X4_draw
  rcases q_cut (p := p) (n := zn (M.2 2 0)) (by omega) with hp | ⟨c, hc, rfl⟩
  · refine zOpX.ex h 2 1 (by simp) ?_ ?_
    · rw [qx_needC_f h hp, zx_r]
    · rw [qm_isC_f h hp]; rfl
  rw [qx_needC_t h hc, qm_isC_t h hc, zx_l, zb_s, if_neg (show ¬ (1 : Int32) = 0 by decide)]
  obtain ⟨k, hk, ek⟩ := (h.I.c hc).2.1
  rw [qx_drw h.R h.I hc hk ek, qm_drw (M := M) rfl h.I hc hk ek, zb_s, zb_s]
  rcases ed : s_drw (M.2 2 0) c k 1 20 (M.2 2 0 2) with ⟨o, s'⟩
  cases o with
  | none => exact Or.inr ⟨0, 2, T, 0, _, by simp, rfl, rfl, rfl, (h.dw _ _).thr 2⟩
  | some d =>
    have hd := (s_drw_it _ _ _ _ _ ed).2.1
    have hdn : ¬ nI d = -1 := by rw [q_m1ne (by omega)]; exact id
    simp only
    obtain ⟨T1, f, c', e1, e2, h1⟩ := w_rec (h.dw s' (s_day s'))
    obtain ⟨T2, σ', e3, e4, hg, z0, -⟩ := w_draw (T := T1) (ρ := 0) h1.R h1.I hc hk ed
    rw [if_neg hdn, if_neg hdn, e1, e2, zb_s, zb_s, e3, e4 _ rfl rfl rfl]
    exact Or.inl ⟨nI d, T2, _, rfl, rfl, rfl, (h1.up (zGd.go hg (h1.y.same z0)) hg.2.2.1).thr 0⟩
theorem o_forgetBirthday (h : zRel T M) (p : Int32) : zOpX [(2, 1)] (f_X3_forgetBirthday p T) (f_X4_forgetBirthday p M) := by
  have n10 := h.I.n10
  unfold f_X3_forgetBirthday f_X4_forgetBirthday
  rcases q_cut (p := p) (n := zn (M.2 2 0)) (by omega) with hp | ⟨c, hc, rfl⟩
  · refine zOpX.ex h 2 1 (by simp) ?_ ?_
    · rw [qx_needC_f h hp, zx_r]
    · rw [qm_isC_f h hp]; rfl
  rw [qx_needC_t h hc, qm_isC_t h hc, zx_l, zb_s, if_neg (show ¬ (1 : Int32) = 0 by decide)]
  obtain ⟨T1, f, c', e1, e2, h1⟩ := w_rec h
  rw [q_cellc (by decide) (by omega), h.R.bi hc, zb_s, e1, e2, zb_s, zb_s, q_setc (by decide) (by omega)]
  simp (disch := omega) only [zb_s, zl_s, q_c, q_ad4, q_zt, q_clamp, if_true, zwM]
  exact Or.inl ⟨_, _, _, rfl, rfl, rfl, (h1.up ⟨h1.R.a9 h1.I.g4 _, h1.I.birth' (Or.inl rfl), h1.y.same (pk_un (by omega))⟩ (zfr_wA ⟨by decide, by decide, rfl⟩)).thr 0⟩
theorem o_setBirthday (h : zRel T M) (p m d : Int32) : zOpX [(2, 1), (1, 2), (0, 3)] (f_X3_setBirthday p m d T) (f_X4_setBirthday p m d M) := by
  have n10 := h.I.n10
  unfold f_X3_setBirthday f_X4_setBirthday
  rcases q_cut (p := p) (n := zn (M.2 2 0)) (by omega) with hp | ⟨c, hc, rfl⟩
  · refine zOpX.ex h 2 1 (by simp) ?_ ?_
    · rw [qx_needC_f h hp, zx_r]
    · rw [qm_isC_f h hp]; rfl
  rw [qx_needC_t h hc, qm_isC_t h hc, zx_l, zb_s, if_neg (show ¬ (1 : Int32) = 0 by decide)]
  rcases q_date (T := T) (M := M) m d with ⟨e1, e2⟩ | ⟨D, hD, eD, e1, e2⟩
  · refine zOpX.ex h 1 2 (by simp) ?_ ?_
    · rw [e1, zx_r]
    · rw [e2]; rfl
  obtain ⟨k, hk, ek⟩ := (h.I.c hc).2.1
  rw [e1, e2, zx_l, zb_s, if_neg (show ¬ (1 : Int32) = 0 by decide), q_dof, zb_s, q_cellc (by decide) (by omega), h.R.ho hc, zb_s, eD, ek, qx_rea h.R h.I hc hk, zb_s]
  simp (disch := omega) only [zb_s, zl_s, q_c, q_ad3, q_ad4, q_zt, q_clamp, if_true, q_pos, eD, ek, qm_rea (M := M) rfl h.I hc hk]
  by_cases hr : s_rea (M.2 2 0) c k (nI D) = 0
  · rw [if_pos hr, if_pos hr]
    obtain ⟨T1, f, c', e3, e4, h1⟩ := w_rec h
    obtain ⟨dd, hdd, edd⟩ := h.I.date
    have e5 : upd (M.2 2 0) (21 + 13 * c + 4) (nI D) 1 = nI dd := by rw [pk_un (by omega)]; exact edd
    have e6 : (wA T1 9 0 (upd (T1.2 9 0) c (nI D))).1 1 0 1 = nI dd := h1.R.f1.trans edd
    rw [e3, e4, zb_s, zb_s, q_setc (by decide) (by omega), zb_s, q_unt, e6, zb_s, zwM, q_dto, q_wAs, e5, zb_s, q_told, zb_s]
    exact Or.inl ⟨_, _, _, rfl, by rw [(q_du hD hdd).1]; rfl, rfl, (h1.up ⟨h1.R.a9 h1.I.g4 _, h1.I.birth' (Or.inr ⟨D, hD, rfl⟩), h1.y.same (pk_un (by omega))⟩ (zfr_wA ⟨by decide, by decide, rfl⟩)).thr 0⟩
  · rw [if_neg hr, if_neg hr]
    exact zOpX.ex h 0 3 (by simp) rfl rfl
theorem o_moveTo (h : zRel T M) (p g : Int32) : zOpX [(2, 1), (0, 2)] (f_X3_moveTo p g T) (f_X4_moveTo p g M) := by
  have n10 := h.I.n10
  have g4 := h.I.g4
  unfold f_X3_moveTo f_X4_moveTo
  rcases q_cut (p := p) (n := zn (M.2 2 0)) (by omega) with hp | ⟨c, hc, rfl⟩
  · refine zOpX.ex h 2 1 (by simp) ?_ ?_
    · rw [qx_needC_f h hp, zx_r]
    · rw [qm_isC_f h hp]; rfl
  rw [qx_needC_t h hc, qm_isC_t h hc, zx_l, zb_s, if_neg (show ¬ (1 : Int32) = 0 by decide)]
  rcases q_cut (p := g) (n := zg (M.2 2 0)) (by omega) with hp | ⟨k, hk, rfl⟩
  · refine zOpX.ex h 2 1 (by simp) ?_ ?_
    · rw [qx_needG_f h hp, zx_r]
    · rw [qm_isG_f h hp]; rfl
  have go : zOpX [(2, 1), (0, 2)] (jn_X3_moveTo_51 (nI c) (nI k) T) (jn_X4_moveTo_56 (nI c) (nI k) M) := by
    unfold jn_X3_moveTo_51 jn_X4_moveTo_56
    obtain ⟨T1, f, c', e1, e2, h1⟩ := w_rec h
    rw [q_cellc (by decide) (by omega), h.R.ho hc, zb_s, e1, e2, zb_s, zb_s, q_setc (by decide) (by omega)]
    simp (disch := omega) only [zb_s, zl_s, q_c, q_ad3, q_zt, q_clamp, if_true, zwM]
    exact Or.inl ⟨_, _, _, rfl, rfl, rfl, (h1.up ⟨h1.R.a8 h1.I.g4 _, h1.I.home' hk, h1.y.same (pk_un (by omega))⟩ (zfr_wA ⟨by decide, by decide, rfl⟩)).thr 0⟩
  rw [qx_needG_t h hk, qm_isG_t h hk, zx_l, zb_s, if_neg (show ¬ (1 : Int32) = 0 by decide), q_cellc (by decide) (by omega), h.R.bi hc, zb_s, q_has (M := M) rfl (by omega), zb_s]
  by_cases hb : M.2 2 0 (21 + 13 * c + 4) = -1
  · simp only [if_pos hb, if_true]
    exact go
  · have z1 : ¬ (1 : Int32) = 0 := by decide
    simp (disch := omega) only [if_neg hb, if_neg z1, zb_s, zl_s, q_c, q_ad4, q_zt, q_clamp, if_true, qm_rea (M := M) rfl h.I hc hk, qx_rea h.R h.I hc hk]
    by_cases hr : s_rea (M.2 2 0) c k (M.2 2 0 (21 + 13 * c + 4)) = 0
    · rw [if_pos hr, if_pos hr]; exact go
    · rw [if_neg hr, if_neg hr]; exact zOpX.ex h 0 2 (by simp) rfl rfl
theorem o_buyCandles (h : zRel T M) (p : Int32) : zOpX [(1, 1), (0, 2)] (f_X3_buyCandles p T) (f_X4_buyCandles p M) := by
  unfold f_X3_buyCandles f_X4_buyCandles
  rw [q_in, zb_s]
  by_cases h1 : p < 1
  · rw [if_pos h1, if_pos h1]
    exact zOpX.ex h 1 1 (by simp) rfl rfl
  rw [if_neg h1, if_neg h1]
  by_cases h2 : 999 < p
  · rw [if_neg (Int32.not_le.mpr h2), if_pos h2]
    exact zOpX.ex h 1 1 (by simp) rfl rfl
  rw [if_pos (Int32.not_lt.mp h2), if_neg h2, if_neg (show ¬ (1 : Int32) = 0 by decide), h.R.f3]
  by_cases h3 : M.2 2 0 3 + p ≤ 9999
  · rw [if_pos h3, if_pos h3]
    obtain ⟨T1, f, c', e1, e2, hh⟩ := w_rec h
    have a3 : T1.1 1 0 3 = M.2 2 0 3 := hh.R.f3
    have a5 : T1.1 1 0 5 = M.2 2 0 7 := hh.R.f5
    rw [e1, e2, zb_s, zb_s, a3, zl_s, zl_s, q_wIk (by omega), a5, zl_s, zl_s, q_wIk (by omega), q_wIs, zwM, zl_s, q_wAs, pk_un (by decide), zl_s, q_wAA, q_wAs, pk_un (by decide), pk_us, q_told, zb_s]
    exact Or.inl ⟨_, _, _, rfl, rfl, rfl, (hh.up ⟨(hh.R.i3 _).i5 _, (hh.I.up (Or.inr (Or.inl rfl))).up (Or.inr (Or.inr (Or.inl ⟨by decide, by decide⟩))), hh.y.same (by rw [pk_un (by decide), pk_un (by decide)])⟩ (zfr_trans (zfr_wI ⟨by decide, by decide, rfl⟩) (zfr_wI ⟨by decide, by decide, rfl⟩))).thr 0⟩
  · rw [if_neg h3, if_neg h3]
    exact zOpX.ex h 0 2 (by simp) rfl rfl
theorem o_bakeCakes (h : zRel T M) (k p : Int32) : zOpX [(1, 1), (0, 2)] (f_X3_bakeCakes k p T) (f_X4_bakeCakes k p M) := by
  unfold f_X3_bakeCakes f_X4_bakeCakes f_X3_needKind
  have e5 : (5 : Int32) = nI 6 - 1 := by decide
  rcases q_cut (p := k) (n := 6) (by decide) with hp | ⟨c, hc, rfl⟩
  · refine zOpX.ex h 1 1 (by simp) ?_ ?_
    · rw [nl_6, q_need_f hp, zx_r]
    · rw [e5, q_in_f (by decide) hp]; rfl
  rw [nl_6, q_need_t (by decide) hc, zx_l, e5, q_in_t (by decide) hc, zb_s, if_neg (show ¬ (1 : Int32) = 0 by decide), q_in, zb_s]
  by_cases h1 : p < 1
  · rw [if_pos h1, if_pos h1]
    exact zOpX.ex h 1 1 (by simp) rfl rfl
  rw [if_neg h1, if_neg h1]
  by_cases h2 : 99 < p
  · rw [if_neg (Int32.not_le.mpr h2), if_pos h2]
    exact zOpX.ex h 1 1 (by simp) rfl rfl
  rw [if_pos (Int32.not_lt.mp h2), if_neg h2, if_neg (show ¬ (1 : Int32) = 0 by decide), q_cell (by rw [zlen_2]; exact hc) (by rw [zlen_2]; decide), h.R.ck hc, zb_s]
  obtain ⟨T1, f, c', e1, e2, hh⟩ := w_rec h
  simp (disch := omega) only [zb_s, zl_s, q_la11, q_zt, q_clamp, if_true, e1, e2, zwM, q_wAs, pk_us]
  by_cases h3 : M.2 2 0 (11 + c) + p ≤ 99
  · rw [if_pos h3, if_pos h3, q_addTo (by rw [zlen_2]; exact hc) (by rw [zlen_2]; decide), zb_s, q_cell (by rw [zlen_2]; exact hc) (by rw [zlen_2]; decide), zb_s, q_wAs, pk_us, hh.R.ck hc]
    exact Or.inl ⟨_, _, _, rfl, rfl, rfl, (hh.up ⟨hh.R.a2 hc _, hh.I.up (Or.inr (Or.inr (Or.inr (Or.inr (Or.inl ⟨by omega, by omega⟩))))), hh.y.same (pk_un (by omega))⟩ (zfr_wA ⟨by decide, by decide, rfl⟩)).thr 0⟩
  · rw [if_neg h3, if_neg h3]
    exact zOpX.ex h 0 2 (by simp) rfl rfl
end CH
