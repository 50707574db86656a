/-! APPEND -/
def zA (T0 M0 : zT) (k : Nat) (T M : zT) : Prop := ∃ g g', T = wA (wI T0 0 1 1 (nI k)) 0 4 g ∧ M = wA (wI M0 0 0 10 (nI k)) 7 0 g' ∧ ∀ j, j < k → g j = g' j
section AP
variable {T0 M0 T M : zT}
theorem zA.T1 {k : Nat} (h : zA T0 M0 k T M) : T.1 0 1 1 = nI k := by obtain ⟨g, g', rfl, rfl, -⟩ := h; rw [q_wA1]; exact q_wIs
theorem zA.M1 {k : Nat} (h : zA T0 M0 k T M) : M.1 0 0 10 = nI k := by obtain ⟨g, g', rfl, rfl, -⟩ := h; rw [q_wA1]; exact q_wIs
theorem zA.rel {k : Nat} (h : zRel T0 M0) (hO : zA T0 M0 k T M) (hk : k ≤ 600) : zRel T M := by
  have t1 := hO.T1
  have m1 := hO.M1
  obtain ⟨g, g', rfl, rfl, hg⟩ := hO
  obtain ⟨a1, a2, a3, a4, a5, a6, a7⟩ := h
  exact ⟨a1, a2, a3, ⟨k, hk, t1, m1, hg⟩, a5, a6, a7⟩
theorem w_addByte {k : Nat} {g : Nat → Int32} (hk : k < 600) (x : Int32) : f_X1_addByte x (wA (wI T0 0 1 1 (nI k)) 0 4 g) = some ((), wA (wI T0 0 1 1 (nI (k + 1))) 0 4 (upd g k x.toInt8.toInt32.toInt8.toInt32)) := by
  unfold f_X1_addByte
  simp only [q_wA1, q_wIs]
  rw [if_neg (nI_pos (by omega)), if_neg (show ¬ (600 : Int32) ≤ nI k from nI_ge (b := 600) hk (by decide)), if_pos (of_eq_true (q_zt hk (by decide))), zl_s, nI_clamp (by omega)]
  simp only [q_wAs, q_wAA, zl_s, q_wA1, q_wIs, nI_1]
  rw [← q_wAI, q_wII]
theorem w_four {k : Nat} (h : zA T0 M0 k T M) (hk : k + 4 ≤ 600) (x : Int32) : ∃ T' M', f_X3_appendFour x T = some ((), T') ∧ f_X4_feeds x M = some ((), M') ∧ zA T0 M0 (k + 4) T' M' := by
  obtain ⟨g, g', rfl, rfl, hg⟩ := h
  have s24 : ¬ (24 : Int32) < 0 := by decide
  have s16 : ¬ (16 : Int32) < 0 := by decide
  have s8 : ¬ (8 : Int32) < 0 := by decide
  have s0 : ¬ (0 : Int32) < 0 := by decide
  have sm : (-8 : Int32) < 0 := by decide
  have t1 : (24 : Int32) + -8 = 16 := by decide
  have t2 : (16 : Int32) + -8 = 8 := by decide
  have t3 : (8 : Int32) + -8 = 0 := by decide
  have t4 : (0 : Int32) + -8 = -8 := by decide
  have z0 : x >>> ((0 : Int32) &&& 31) = x := by rw [show ((0 : Int32) &&& 31) = 0 by decide]; exact Int32.shiftRight_zero
  refine ⟨wA (wI T0 0 1 1 (nI (k + 1 + 1 + 1 + 1))) 0 4 (upd (upd (upd (upd g k (x >>> ((24 : Int32) &&& 31)).toInt8.toInt32.toInt8.toInt32) (k + 1) (x >>> ((16 : Int32) &&& 31)).toInt8.toInt32.toInt8.toInt32) (k + 1 + 1) (x >>> ((8 : Int32) &&& 31)).toInt8.toInt32.toInt8.toInt32) (k + 1 + 1 + 1) x.toInt8.toInt32.toInt8.toInt32), wA (wI M0 0 0 10 (nI (k + 1 + 1 + 1 + 1))) 7 0 (upd (upd (upd (upd g' k (x >>> ((24 : Int32) &&& 31)).toInt8.toInt32.toInt8.toInt32) (k + 1) (x >>> ((16 : Int32) &&& 31)).toInt8.toInt32.toInt8.toInt32) (k + 1 + 1) (x >>> ((8 : Int32) &&& 31)).toInt8.toInt32.toInt8.toInt32) (k + 1 + 1 + 1) x.toInt8.toInt32.toInt8.toInt32), ?_, ?_, _, _, rfl, rfl, fun j hj => ?_⟩
  · unfold f_X3_appendFour
    rw [lp_X3_appendFour_3, if_neg s24, w_addByte (by omega), zb_s, zl_s, t1, lp_X3_appendFour_3, if_neg s16, w_addByte (by omega), zb_s, zl_s, t2, lp_X3_appendFour_3, if_neg s8, w_addByte (by omega), zb_s, zl_s, t3, lp_X3_appendFour_3, if_neg s0, w_addByte (by omega), zb_s, zl_s, t4, lp_X3_appendFour_3, if_pos sm, zb_s, z0]
  · have i1 : nI k + 1 = nI (k + 1) := nI_1 k
    have i2 : nI k + 2 = nI (k + 1 + 1) := nI_add k 2
    have i3 : nI k + 3 = nI (k + 1 + 1 + 1) := nI_add k 3
    have i4 : nI k + 4 = nI (k + 1 + 1 + 1 + 1) := nI_add k 4
    unfold f_X4_feeds
    simp (disch := omega) only [q_wA1, q_wIs, i1, i2, i3, i4, q_zt, q_clamp, if_true, zl_s, q_wAs, q_wAA]
    rw [← q_wAI, q_wII]
  · unfold upd
    by_cases e3 : j = k + 1 + 1 + 1
    · rw [if_pos e3, if_pos e3]
    rw [if_neg e3, if_neg e3]
    by_cases e2 : j = k + 1 + 1
    · rw [if_pos e2, if_pos e2]
    rw [if_neg e2, if_neg e2]
    by_cases e1 : j = k + 1
    · rw [if_pos e1, if_pos e1]
    rw [if_neg e1, if_neg e1]
    by_cases e0 : j = k
    · rw [if_pos e0, if_pos e0]
    rw [if_neg e0, if_neg e0]
    exact hg j (by omega)
theorem o_append (h : zRel T M) (a b c d e : Int32) : zOpX [(0, 1)] (f_X3_append a b c d e T) (f_X4_append a b c d e M) := by
  obtain ⟨a1, a2, a3, ⟨L, hL, l1, l2, l3⟩, a5, a6, a7⟩ := id h
  unfold f_X3_append f_X4_append
  rw [l1, l2, nl_20, nI_add]
  by_cases hh : L + 20 ≤ 600
  · rw [if_pos (show nI (L + 20) ≤ (600 : Int32) from nI_le (b := 600) hh (by decide)), if_pos (show nI L ≤ (580 : Int32) from nI_le (b := 580) (by omega) (by decide))]
    have O0 : zA T M L T M := ⟨T.2 0 4, M.2 7 0, by rw [← l1, q_wIself, q_wAself], by rw [← l2, q_wIself, q_wAself], l3⟩
    obtain ⟨T1, M1, x1, y1, O1⟩ := w_four O0 (by omega) a
    obtain ⟨T2, M2, x2, y2, O2⟩ := w_four O1 (by omega) b
    obtain ⟨T3, M3, x3, y3, O3⟩ := w_four O2 (by omega) c
    obtain ⟨T4, M4, x4, y4, O4⟩ := w_four O3 (by omega) d
    obtain ⟨T5, M5, x5, y5, O5⟩ := w_four O4 (by omega) e
    rw [x1, y1, zb_s, zb_s, x2, y2, zb_s, zb_s, x3, y3, zb_s, zb_s, x4, y4, zb_s, zb_s, x5, y5, zb_s, zb_s, q_told, zb_s]
    rw [O5.T1, O5.M1]
    exact Or.inl ⟨_, T5, _, rfl, rfl, rfl, (O5.rel h (by omega)).thr 0⟩
  · rw [if_neg (show ¬ nI (L + 20) ≤ (600 : Int32) from nI_ge (a := 600) (by omega) (by omega)), if_neg (show ¬ nI L ≤ (580 : Int32) from nI_ge (a := 580) (by omega) (by omega))]
    exact zOpX.ex h 0 1 (by simp) rfl rfl
end AP
