/-! CALLS THAT CHANGE NOTHING -/
theorem zfo_rel {α β : Type} {st : Nat → α → α} {st' : Nat → β → β} {P : α → β → Prop} : ∀ {k j : Nat} {a : α} {b : β}, P a b → (∀ i a b, j ≤ i → i < j + k → P a b → P (st i a) (st' i b)) → P (zfo st j k a) (zfo st' j k b)
  | 0, _, _, _, h, _ => h
  | k + 1, j, a, b, h, hs => zfo_rel (k := k) (j := j + 1) (hs j a b (Nat.le_refl _) (by omega) h) (fun i a b h1 h2 => hs i a b (by omega) (by omega))
section OA
variable {T M : zT}
theorem o_errorKind (h : zRel T M) : zOpI (f_X3_errorKind T) (f_X4_errorKind M) := zOpI.ro h (v := M.1 0 0 13) (by unfold f_X3_errorKind; rw [h.2.2.2.2.2.1.1]) rfl
theorem o_errorOffset (h : zRel T M) : zOpI (f_X3_errorOffset T) (f_X4_errorOffset M) := zOpI.ro h (v := M.1 0 0 14) (by unfold f_X3_errorOffset; rw [h.2.2.2.2.2.1.2]) rfl
theorem o_year (h : zRel T M) : zOpI (f_X3_year T) (f_X4_year M) := zOpI.ro h (v := M.2 2 0 0) (by unfold f_X3_year; rw [h.R.f0]) rfl
theorem o_month (h : zRel T M) : zOpI (f_X3_month T) (f_X4_month M) := zOpI.ro h (v := M.2 2 0 1 / 30 + 1) (by unfold f_X3_month; rw [h.R.f1]; rfl) rfl
theorem o_dayOfMonth (h : zRel T M) : zOpI (f_X3_dayOfMonth T) (f_X4_dayOfMonth M) := zOpI.ro h (v := M.2 2 0 1 - M.2 2 0 1 / 30 * 30 + 1) (by unfold f_X3_dayOfMonth; rw [h.R.f1]; rfl) rfl
theorem o_seed (h : zRel T M) : zOpI (f_X3_seed T) (f_X4_seed M) := zOpI.ro h (v := M.2 2 0 2) (by unfold f_X3_seed; rw [h.R.f2]) rfl
theorem o_nextDraw (h : zRel T M) : zOpI (f_X3_nextDraw T) (f_X4_nextDraw M) := zOpI.ro h (v := s_day (s_nxt (M.2 2 0 2))) (by unfold f_X3_nextDraw; rw [h.R.f2]; rfl) rfl
theorem o_candles (h : zRel T M) : zOpI (f_X3_candles T) (f_X4_candles M) := zOpI.ro h (v := M.2 2 0 3) (by unfold f_X3_candles; rw [h.R.f3]) rfl
theorem o_gardenCount (h : zRel T M) : zOpI (f_X3_gardenCount T) (f_X4_gardenCount M) := zOpI.ro h (v := M.2 2 0 4) (by unfold f_X3_gardenCount; rw [h.R.f8]) rfl
theorem o_childCount (h : zRel T M) : zOpI (f_X3_childCount T) (f_X4_childCount M) := zOpI.ro h (v := M.2 2 0 5) (by unfold f_X3_childCount; rw [h.R.f9]) rfl
theorem o_failedParties (h : zRel T M) : zOpI (f_X3_failedParties T) (f_X4_failedParties M) := zOpI.ro h (v := M.2 2 0 10) (by unfold f_X3_failedParties; rw [h.R.f7]) rfl
theorem o_candleDifference (h : zRel T M) : zOpI (f_X3_candleDifference T) (f_X4_candleDifference M) := by
  refine zOpI.ro h (v := if 0 ≤ M.2 2 0 3 - M.2 2 0 6 - M.2 2 0 7 + M.2 2 0 8 then M.2 2 0 3 - M.2 2 0 6 - M.2 2 0 7 + M.2 2 0 8 else -(M.2 2 0 3 - M.2 2 0 6 - M.2 2 0 7 + M.2 2 0 8)) ?_ ?_
  · unfold f_X3_candleDifference
    rw [h.R.f3, h.R.f4, h.R.f5, h.R.f6, zl_s]
    split <;> rfl
  · unfold f_X4_candleDifference f_X4_without
    split <;> rfl
theorem o_heldParties (h : zRel T M) : zOpI (f_X3_heldParties T) (f_X4_heldParties M) := by
  refine zOpI.ro h (v := M.2 2 0 9) ?_ rfl
  unfold f_X3_heldParties
  rw [h.R.f9, h.I.n, qx_sum h.I (by decide) (fun c hc => h.R.pa hc), h.I.held]; rfl
theorem o_cakes (h : zRel T M) (p : Int32) : zOpX [(1, 1)] (f_X3_cakes p T) (f_X4_cakes p M) := by
  unfold f_X3_cakes f_X4_cakes f_X3_needKind
  have e5 : (5 : Int32) = nI 6 - 1 := by decide
  rcases q_cut (p := p) (n := 6) (by decide) with hp | ⟨c, hc, rfl⟩
  · refine zOpX.ex h 1 1 (by simp) ?_ ?_
    · rw [nl_6, q_need_f hp, zx_r]
    · rw [e5, q_in_f (by decide) hp]; rfl
  · refine zOpX.ro h (v := M.2 2 0 (11 + c)) ?_ ?_
    · rw [nl_6, q_need_t (by decide) hc, zx_l, q_cell (by rw [zlen_2]; exact hc) (by rw [zlen_2]; decide), h.R.ck hc]; rfl
    · rw [e5, q_in_t (by decide) hc]
      simp (disch := omega) only [zb_s, zl_s, q_la11, q_zt, q_clamp, if_true]
      rfl
theorem o_seatsOf (h : zRel T M) (p : Int32) : zOpX [(2, 1)] (f_X3_seatsOf p T) (f_X4_seatsOf p M) := by
  have g4 := h.I.g4
  unfold f_X3_seatsOf f_X4_seatsOf
  rcases q_cut (p := p) (n := zg (M.2 2 0)) (by omega) with hp | ⟨c, hc, rfl⟩
  · refine zOpX.ex h 2 1 (by simp) ?_ ?_
    · rw [qx_needG_f h hp, zx_r]
    · rw [qm_isG_f h hp]; rfl
  · refine zOpX.ro h (v := M.2 2 0 (17 + c)) ?_ ?_
    · rw [qx_needG_t h hc, zx_l, q_cell (by rw [zlen_3]; omega) (by rw [zlen_3]; decide), h.R.st hc]; rfl
    · rw [qm_isG_t h hc]
      simp (disch := omega) only [zb_s, zl_s, q_la17, q_zt, q_clamp, if_true]
      rfl
theorem o_childrenOf (h : zRel T M) (p : Int32) : zOpX [(2, 1)] (f_X3_childrenOf p T) (f_X4_childrenOf p M) := by
  have g4 := h.I.g4
  have n10 := h.I.n10
  unfold f_X3_childrenOf f_X4_childrenOf
  rcases q_cut (p := p) (n := zg (M.2 2 0)) (by omega) with hp | ⟨c, hc, rfl⟩
  · refine zOpX.ex h 2 1 (by simp) ?_ ?_
    · rw [qx_needG_f h hp, zx_r]
    · rw [qm_isG_f h hp]; rfl
  · refine zOpX.ro h (v := s_cnt (M.2 2 0) 3 (nI c)) ?_ ?_
    · rw [qx_needG_t h hc, zx_l, h.R.f9, h.I.n, qx_count h.I (by decide) (fun c hc => h.R.ho hc)]; rfl
    · have e := qm_cho_l (M := M) rfl h.I (v := nI c) (zn (M.2 2 0)) 0 2000 0 (by omega) (by omega)
      rw [← nl_0] at e
      rw [qm_isG_t h hc, zb_s, if_neg (by decide), e]; rfl
theorem o_cakeOf (h : zRel T M) (p : Int32) : zOpX [(2, 1)] (f_X3_cakeOf p T) (f_X4_cakeOf p M) := by
  have n10 := h.I.n10
  unfold f_X3_cakeOf f_X4_cakeOf f_X4_ofChild
  rcases q_cut (p := p) (n := zn (M.2 2 0)) (by omega) with hp | ⟨c, hc, rfl⟩
  · refine zOpX.ex h 2 1 (by simp) ?_ ?_
    · rw [qx_needC_f h hp, zx_r]
    · rw [qm_isC_f h hp]; rfl
  · refine zOpX.ro h (v := M.2 2 0 (21 + 13 * c + 0)) ?_ ?_
    · rw [qx_needC_t h hc, zx_l, q_cellc (by decide) (by omega), h.R.fa hc]; rfl
    · rw [qm_isC_t h hc]
      simp (disch := omega) only [zb_s, zl_s, q_c, q_ad0, q_zt, q_clamp, if_true]
      rfl
theorem o_breathOf (h : zRel T M) (p : Int32) : zOpX [(2, 1)] (f_X3_breathOf p T) (f_X4_breathOf p M) := by
  have n10 := h.I.n10
  unfold f_X3_breathOf f_X4_breathOf f_X4_ofChild
  rcases q_cut (p := p) (n := zn (M.2 2 0)) (by omega) with hp | ⟨c, hc, rfl⟩
  · refine zOpX.ex h 2 1 (by simp) ?_ ?_
    · rw [qx_needC_f h hp, zx_r]
    · rw [qm_isC_f h hp]; rfl
  · refine zOpX.ro h (v := M.2 2 0 (21 + 13 * c + 1)) ?_ ?_
    · rw [qx_needC_t h hc, zx_l, q_cellc (by decide) (by omega), h.R.br hc]; rfl
    · rw [qm_isC_t h hc]
      simp (disch := omega) only [zb_s, zl_s, q_c, q_ad1, q_zt, q_clamp, if_true]
      rfl
theorem o_ageOf (h : zRel T M) (p : Int32) : zOpX [(2, 1)] (f_X3_ageOf p T) (f_X4_ageOf p M) := by
  have n10 := h.I.n10
  unfold f_X3_ageOf f_X4_ageOf f_X4_ofChild
  rcases q_cut (p := p) (n := zn (M.2 2 0)) (by omega) with hp | ⟨c, hc, rfl⟩
  · refine zOpX.ex h 2 1 (by simp) ?_ ?_
    · rw [qx_needC_f h hp, zx_r]
    · rw [qm_isC_f h hp]; rfl
  · refine zOpX.ro h (v := M.2 2 0 (21 + 13 * c + 2)) ?_ ?_
    · rw [qx_needC_t h hc, zx_l, q_cellc (by decide) (by omega), h.R.ag hc]; rfl
    · rw [qm_isC_t h hc]
      simp (disch := omega) only [zb_s, zl_s, q_c, q_ad2, q_zt, q_clamp, if_true]
      rfl
theorem o_gardenOf (h : zRel T M) (p : Int32) : zOpX [(2, 1)] (f_X3_gardenOf p T) (f_X4_gardenOf p M) := by
  have n10 := h.I.n10
  unfold f_X3_gardenOf f_X4_gardenOf f_X4_ofChild
  rcases q_cut (p := p) (n := zn (M.2 2 0)) (by omega) with hp | ⟨c, hc, rfl⟩
  · refine zOpX.ex h 2 1 (by simp) ?_ ?_
    · rw [qx_needC_f h hp, zx_r]
    · rw [qm_isC_f h hp]; rfl
  · refine zOpX.ro h (v := M.2 2 0 (21 + 13 * c + 3)) ?_ ?_
    · rw [qx_needC_t h hc, zx_l, q_cellc (by decide) (by omega), h.R.ho hc]; rfl
    · rw [qm_isC_t h hc]
      simp (disch := omega) only [zb_s, zl_s, q_c, q_ad3, q_zt, q_clamp, if_true]
      rfl
theorem o_birthdayOf (h : zRel T M) (p : Int32) : zOpX [(2, 1)] (f_X3_birthdayOf p T) (f_X4_birthdayOf p M) := by
  have n10 := h.I.n10
  unfold f_X3_birthdayOf f_X4_birthdayOf f_X4_ofChild
  rcases q_cut (p := p) (n := zn (M.2 2 0)) (by omega) with hp | ⟨c, hc, rfl⟩
  · refine zOpX.ex h 2 1 (by simp) ?_ ?_
    · rw [qx_needC_f h hp, zx_r]
    · rw [qm_isC_f h hp]; rfl
  · refine zOpX.ro h (v := M.2 2 0 (21 + 13 * c + 4)) ?_ ?_
    · rw [qx_needC_t h hc, zx_l, q_cellc (by decide) (by omega), h.R.bi hc]; rfl
    · rw [qm_isC_t h hc]
      simp (disch := omega) only [zb_s, zl_s, q_c, q_ad4, q_zt, q_clamp, if_true]
      rfl
theorem o_partiesOf (h : zRel T M) (p : Int32) : zOpX [(2, 1)] (f_X3_partiesOf p T) (f_X4_partiesOf p M) := by
  have n10 := h.I.n10
  unfold f_X3_partiesOf f_X4_partiesOf f_X4_ofChild
  rcases q_cut (p := p) (n := zn (M.2 2 0)) (by omega) with hp | ⟨c, hc, rfl⟩
  · refine zOpX.ex h 2 1 (by simp) ?_ ?_
    · rw [qx_needC_f h hp, zx_r]
    · rw [qm_isC_f h hp]; rfl
  · refine zOpX.ro h (v := M.2 2 0 (21 + 13 * c + 5)) ?_ ?_
    · rw [qx_needC_t h hc, zx_l, q_cellc (by decide) (by omega), h.R.pa hc]; rfl
    · rw [qm_isC_t h hc]
      simp (disch := omega) only [zb_s, zl_s, q_c, q_ad5, q_zt, q_clamp, if_true]
      rfl
theorem o_wishesOf (h : zRel T M) (p : Int32) : zOpX [(2, 1)] (f_X3_wishesOf p T) (f_X4_wishesOf p M) := by
  have n10 := h.I.n10
  unfold f_X3_wishesOf f_X4_wishesOf f_X4_ofChild
  rcases q_cut (p := p) (n := zn (M.2 2 0)) (by omega) with hp | ⟨c, hc, rfl⟩
  · refine zOpX.ex h 2 1 (by simp) ?_ ?_
    · rw [qx_needC_f h hp, zx_r]
    · rw [qm_isC_f h hp]; rfl
  · refine zOpX.ro h (v := M.2 2 0 (21 + 13 * c + 6)) ?_ ?_
    · rw [qx_needC_t h hc, zx_l, q_cellc (by decide) (by omega), h.R.wi hc]; rfl
    · rw [qm_isC_t h hc]
      simp (disch := omega) only [zb_s, zl_s, q_c, q_ad6, q_zt, q_clamp, if_true]
      rfl
end OA
