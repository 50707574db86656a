/-! CALLS THAT CHANGE NOTHING: what they answer, of the present row -/
section GET
variable {T : zT} {σ : zRow} {hs : List zRow} {S : Option (Nat × zRow)}
theorem g_year (h : zWs T σ hs S) : f_X3_year T = some (σ 0, T) := by unfold f_X3_year; rw [h.R.f0]
theorem g_month (h : zWs T σ hs S) : f_X3_month T = some (σ 1 / 30 + 1, T) := by unfold f_X3_month; rw [h.R.f1]; rfl
theorem g_dayOfMonth (h : zWs T σ hs S) : f_X3_dayOfMonth T = some (σ 1 - σ 1 / 30 * 30 + 1, T) := by unfold f_X3_dayOfMonth; rw [h.R.f1]; rfl
theorem g_seed (h : zWs T σ hs S) : f_X3_seed T = some (σ 2, T) := by unfold f_X3_seed; rw [h.R.f2]
theorem g_nextDraw (h : zWs T σ hs S) : f_X3_nextDraw T = some (s_day (s_nxt (σ 2)), T) := by unfold f_X3_nextDraw; rw [h.R.f2]; rfl
theorem g_candles (h : zWs T σ hs S) : f_X3_candles T = some (σ 3, T) := by unfold f_X3_candles; rw [h.R.f3]
theorem g_gardenCount (h : zWs T σ hs S) : f_X3_gardenCount T = some (nI (zg σ), T) := by unfold f_X3_gardenCount; rw [h.R.f8, h.I.g]
theorem g_childCount (h : zWs T σ hs S) : f_X3_childCount T = some (nI (zn σ), T) := by unfold f_X3_childCount; rw [h.R.f9, h.I.n]
theorem g_failedParties (h : zWs T σ hs S) : f_X3_failedParties T = some (σ 10, T) := by unfold f_X3_failedParties; rw [h.R.f7]
theorem g_candleDifference (h : zWs T σ hs S) (hz : σ 3 - σ 6 - σ 7 + σ 8 = 0) : f_X3_candleDifference T = some (0, T) := by
  unfold f_X3_candleDifference
  rw [h.R.f3, h.R.f4, h.R.f5, h.R.f6, zl_s, hz, if_pos (Int32.le_refl _)]
theorem g_heldParties (h : zWs T σ hs S) : f_X3_heldParties T = some (zsm σ 5 (zn σ), T) := by
  unfold f_X3_heldParties
  rw [h.R.f9, h.I.n, qx_sum h.I (by decide) (fun c hc => h.R.pa hc)]; rfl
theorem g_cakes (h : zWs T σ hs S) {k : Nat} (hk : k < 6) : f_X3_cakes (nI k) T = some (.inl (σ (11 + k)), T) := by
  unfold f_X3_cakes f_X3_needKind
  rw [if_neg (nI_pos (by omega)), if_pos (show nI k < (6 : Int32) from nI_lt (b := 6) hk (by decide)), zx_l, q_cell (by rw [zlen_2]; exact hk) (by rw [zlen_2]; decide), h.R.ck hk]; rfl
theorem g_seatsOf (h : zWs T σ hs S) {c : Nat} (hc : c < zg σ) : f_X3_seatsOf (nI c) T = some (.inl (σ (17 + c)), T) := by
  have g4 := h.I.g4
  unfold f_X3_seatsOf
  rw [qx_needG_t h hc, zx_l, q_cell (by rw [zlen_3]; omega) (by rw [zlen_3]; decide), h.R.st hc]; rfl
theorem g_cakeOf (h : zWs T σ hs S) {c : Nat} (hc : c < zn σ) : f_X3_cakeOf (nI c) T = some (.inl (σ (21 + 13 * c + 0)), T) := by
  have n10 := h.I.n10
  unfold f_X3_cakeOf
  rw [qx_needC_t h hc, zx_l, q_cellc (by decide) (by omega), h.R.fa hc]; rfl
theorem g_breathOf (h : zWs T σ hs S) {c : Nat} (hc : c < zn σ) : f_X3_breathOf (nI c) T = some (.inl (σ (21 + 13 * c + 1)), T) := by
  have n10 := h.I.n10
  unfold f_X3_breathOf
  rw [qx_needC_t h hc, zx_l, q_cellc (by decide) (by omega), h.R.br hc]; rfl
theorem g_ageOf (h : zWs T σ hs S) {c : Nat} (hc : c < zn σ) : f_X3_ageOf (nI c) T = some (.inl (σ (21 + 13 * c + 2)), T) := by
  have n10 := h.I.n10
  unfold f_X3_ageOf
  rw [qx_needC_t h hc, zx_l, q_cellc (by decide) (by omega), h.R.ag hc]; rfl
theorem g_gardenOf (h : zWs T σ hs S) {c : Nat} (hc : c < zn σ) : f_X3_gardenOf (nI c) T = some (.inl (σ (21 + 13 * c + 3)), T) := by
  have n10 := h.I.n10
  unfold f_X3_gardenOf
  rw [qx_needC_t h hc, zx_l, q_cellc (by decide) (by omega), h.R.ho hc]; rfl
theorem g_birthdayOf (h : zWs T σ hs S) {c : Nat} (hc : c < zn σ) : f_X3_birthdayOf (nI c) T = some (.inl (σ (21 + 13 * c + 4)), T) := by
  have n10 := h.I.n10
  unfold f_X3_birthdayOf
  rw [qx_needC_t h hc, zx_l, q_cellc (by decide) (by omega), h.R.bi hc]; rfl
theorem g_partiesOf (h : zWs T σ hs S) {c : Nat} (hc : c < zn σ) : f_X3_partiesOf (nI c) T = some (.inl (σ (21 + 13 * c + 5)), T) := by
  have n10 := h.I.n10
  unfold f_X3_partiesOf
  rw [qx_needC_t h hc, zx_l, q_cellc (by decide) (by omega), h.R.pa hc]; rfl
theorem g_wishesOf (h : zWs T σ hs S) {c : Nat} (hc : c < zn σ) : f_X3_wishesOf (nI c) T = some (.inl (σ (21 + 13 * c + 6)), T) := by
  have n10 := h.I.n10
  unfold f_X3_wishesOf
  rw [qx_needC_t h hc, zx_l, q_cellc (by decide) (by omega), h.R.wi hc]; rfl
theorem g_mostWantedCake (h : zWs T σ hs S) : f_X3_mostWantedCake T = some (zfo (s_mwc σ) 1 5 0, T) := by
  unfold f_X3_mostWantedCake
  have e := qx_mwc_l h.R h.I 5 1 2000 0 (by omega) (by omega)
  rw [← nl_1] at e
  rw [e]; rfl
theorem g_busiestMonth (h : zWs T σ hs S) : f_X3_busiestMonth T = some ((zfo (s_bus σ) 1 12 (-1, 0)).1, T) := by
  unfold f_X3_busiestMonth
  have e := qx_bus_l h.R h.I 12 1 2000 (-1) 0 (by omega) (by omega)
  rw [← nl_1] at e
  rw [e, zb_s]
theorem g_differentDates (h : zWs T σ hs S) : f_X3_differentDates T = some (zfo (fun i u => if s_fst σ i = 0 then u else u + 1) 0 (zn σ) 0, T) := by
  have n10 := h.I.n10
  unfold f_X3_differentDates
  have e := qx_dif_l h.R h.I (zn σ) 0 2000 0 (by omega) (by omega)
  rw [← nl_0] at e
  rw [e]; rfl
theorem g_clashes (h : zWs T σ hs S) : f_X3_clashes T = some (zfo (fun i u => zfo (s_cl σ i) 0 i u) 0 (zn σ) 0, T) := by
  have n10 := h.I.n10
  unfold f_X3_clashes
  have e := qx_clo_l h.R h.I (zn σ) 0 2000 0 (by omega) (by omega)
  rw [← nl_0] at e
  rw [e]; rfl
theorem g_nextChild (h : zWs T σ hs S) : f_X3_nextChild T = some ((zfo (s_nxc σ) 0 (zn σ) (-1, 361)).1, T) := by
  have n10 := h.I.n10
  unfold f_X3_nextChild
  have e := qx_nxc_l h.R h.I (zn σ) 0 2000 (-1) 361 (by omega) (by omega)
  rw [← nl_0] at e
  rw [e, zb_s]
theorem g_strengthOf (h : zWs T σ hs S) {c k : Nat} (hc : c < zn σ) (hk : k < zg σ) (ek : σ (21 + 13 * c + 3) = nI k) : f_X3_strengthOf (nI c) T = some (.inl (s_str σ c (σ (21 + 13 * c + 0)) k), T) := by
  have n10 := h.I.n10
  unfold f_X3_strengthOf
  rw [qx_needC_t h hc, zx_l, q_cellc (by decide) (by omega), h.R.fa hc, zb_s, qx_str h.R h.I hc hk ek]; rfl
theorem g_daysUntil (h : zWs T σ hs S) {c : Nat} (hc : c < zn σ) : f_X3_daysUntilBirthday (nI c) T = some (.inl (if σ (21 + 13 * c + 4) = -1 then -1 else s_unt (σ 1) (σ (21 + 13 * c + 4))), T) := by
  have n10 := h.I.n10
  unfold f_X3_daysUntilBirthday
  rw [qx_needC_t h hc, zx_l, q_cellc (by decide) (by omega), h.R.bi hc, zb_s]
  by_cases hb : σ (21 + 13 * c + 4) = -1
  · rw [if_pos hb, if_pos hb]
  · rw [if_neg hb, if_neg hb, q_unt, h.R.f1]; rfl
theorem g_partyIn (h : zWs T σ hs S) {c m d : Nat} (hc : c < zg σ) (h1 : 1 ≤ m) (h2 : m ≤ 12) (h3 : 1 ≤ d) (h4 : d ≤ 30) : f_X3_partyIn (nI c) (nI m) (nI d) T = some (.inl (match zfn (s_hmp σ (nI c) (nI ((m - 1) * 30 + (d - 1)))) 0 (zn σ) with | some i => nI i | none => -1), T) := by
  have n10 := h.I.n10
  unfold f_X3_partyIn
  have e := qx_pin_l h.R h.I (g := nI c) (d := nI ((m - 1) * 30 + (d - 1))) (zn σ) 0 2000 (by omega) (by omega)
  rw [← nl_0] at e
  rw [qx_needG_t h hc, zx_l, q_dateok h1 h2 h3 h4, zx_l, q_dof, zb_s, q_dofN h1 h3, e, zb_s]
  cases zfn (s_hmp σ (nI c) (nI ((m - 1) * 30 + (d - 1)))) 0 (zn σ) with
  | none => rfl
  | some i => rfl
theorem g_childrenOn (h : zWs T σ hs S) {m d : Nat} (h1 : 1 ≤ m) (h2 : m ≤ 12) (h3 : 1 ≤ d) (h4 : d ≤ 30) : f_X3_childrenOn (nI m) (nI d) T = some (.inl (s_cnt σ 4 (nI ((m - 1) * 30 + (d - 1)))), T) := by
  have n10 := h.I.n10
  unfold f_X3_childrenOn
  rw [q_dateok h1 h2 h3 h4, zx_l, q_dof, zb_s, q_dofN h1 h3, h.R.f9, h.I.n, qx_count h.I (by decide) (fun c hc => h.R.bi hc)]; rfl
theorem s_dat_lt {p : Int32} : ∀ k j s i, s_dat σ p j k s = some i → i < j + k := by
  intro k
  induction k with
  | zero => intro j s i hh; cases hh
  | succ k ih =>
    intro j s i hh
    unfold s_dat at hh
    by_cases h0 : s_fst σ j = 0
    · rw [if_pos h0] at hh; have := ih _ _ _ hh; omega
    · rw [if_neg h0] at hh
      by_cases h1 : s = p
      · rw [if_pos h1] at hh; cases hh; omega
      · rw [if_neg h1] at hh; have := ih _ _ _ hh; omega
theorem g_dateAt (h : zWs T σ hs S) (p : Int32) : f_X3_dateAt p T = some ((match s_dat σ p 0 (zn σ) 0 with | some i => .inl (σ (21 + 13 * i + 4)) | none => .inr 2), T) := by
  have n10 := h.I.n10
  unfold f_X3_dateAt
  obtain ⟨s1, e1⟩ := qx_dat_l h.R h.I (x := p) (zn σ) 0 2000 0 (by omega) (by omega)
  rw [← nl_0] at e1
  rw [e1, zb_s]
  cases ez : s_dat σ p 0 (zn σ) 0 with
  | none => rfl
  | some i =>
    have hi := s_dat_lt _ _ _ _ ez
    rw [Nat.zero_add] at hi
    dsimp only
    rw [if_pos rfl]
    rw [q_cellc (by decide) (by omega), h.R.bi hi]; rfl
theorem g_obstacle (h : zWs T σ hs S) {c k m d : Nat} (hc : c < zn σ) (hk : k < zg σ) (h1 : 1 ≤ m) (h2 : m ≤ 12) (h3 : 1 ≤ d) (h4 : d ≤ 30) : f_X3_obstacle (nI c) (nI k) (nI m) (nI d) T = some (.inl (s_rea σ c k (nI ((m - 1) * 30 + (d - 1)))), T) := by
  unfold f_X3_obstacle
  rw [qx_needC_t h hc, zx_l, qx_needG_t h hk, zx_l, q_dateok h1 h2 h3 h4, zx_l, q_dof, zb_s, q_dofN h1 h3, qx_rea h.R h.I hc hk]; rfl
theorem g_meanAge (h : zWs T σ hs S) : f_X3_meanAge T = some ((if zn σ = 0 then FP.dconst0 else FP.ddiv (FP.i2d (zsm σ 2 (zn σ))) (FP.i2d (nI (zn σ)))), T) := by
  have n10 := h.I.n10
  unfold f_X3_meanAge
  rw [h.R.f9, h.I.n]
  by_cases h0 : zn σ = 0
  · rw [if_pos h0, h0]; rfl
  · rw [if_neg (nI_ne0 (by omega) (by omega)), if_neg h0, qx_sum h.I (by decide) (fun c hc => h.R.ag hc), zb_s, h.R.f9, h.I.n, if_pos (nI_ne0 (by omega) (by omega))]
theorem g_wishShare (h : zWs T σ hs S) : f_X3_wishShare T = some ((if zsm σ 5 (zn σ) = 0 then FP.fconst0 else FP.fdiv (FP.i2f (zsm σ 6 (zn σ))) (FP.i2f (zsm σ 5 (zn σ)))), T) := by
  have n10 := h.I.n10
  unfold f_X3_wishShare
  rw [h.R.f9, h.I.n, qx_sum h.I (by decide) (fun c hc => h.R.pa hc), zb_s]
  by_cases h0 : zsm σ 5 (zn σ) = 0
  · rw [if_pos h0, if_pos h0]
  · rw [if_neg h0, if_neg h0, h.R.f9, h.I.n, qx_sum h.I (by decide) (fun c hc => h.R.wi hc), zb_s, if_pos h0]
end GET
