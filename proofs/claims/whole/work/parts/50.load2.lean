/-! LOAD -/
section LL
variable {T M : zT}
theorem o_load (h : zRel T M) (p : Int32) : zOpX [(2, 1), (1, 2)] (f_X3_load p T) (f_X4_load p M) := by
  have h' := h
  obtain ⟨gd, ⟨nx, ct, hnx, hct, h21, h22, h5, hrows⟩, ⟨b0, b1, hb0, hb1, s0, s1, ms, q0, q1⟩, ⟨L, hL, l1, l2, l3⟩, hou, her, hky⟩ := h'
  unfold f_X3_load f_X4_load
  rw [l1, l2, q_in, zb_s]
  by_cases p0 : p < 0
  · rw [if_pos p0, if_pos p0]
    exact zOpX.ex h 2 1 (by simp) rfl rfl
  rw [if_neg p0, if_neg p0]
  by_cases pL : p ≤ nI L
  case neg =>
    rw [if_neg pL, if_pos (Int32.not_le.mp pL)]
    exact zOpX.ex h 2 1 (by simp) rfl rfl
  rw [if_pos pL, if_neg (Int32.not_lt.mpr pL), if_neg (show ¬ (1 : Int32) = 0 by decide), w_aside, zb_s]
  obtain ⟨n, hn31, rfl⟩ := nI_of p0
  have hnL : n ≤ L := (nI_leI hn31 (by omega)).mp pL
  obtain ⟨M1, em1⟩ : ∃ z, z = wA M 3 0 (va_cpy (M.2 2 0) (M.2 3 0) 0 0 151) := ⟨_, rfl⟩
  rw [← em1]
  have a1 : ∀ κ, κ ≠ 3 → M1.2 κ 0 = M.2 κ 0 := fun κ hκ => by rw [em1, q_wAo (by omega)]
  have a13 : ∀ k, k < 151 → M1.2 3 0 k = M.2 2 0 k := fun k hk => by rw [em1, q_wAs, pk_cpy_in (by omega) (by omega), Nat.sub_zero, Nat.zero_add]
  have hC : zCx T M1 n := ⟨by omega, fun j hj => by rw [a1 7 (by decide)]; exact l3 j (by omega), fun i hi => by rw [a1 1 (by decide)]; exact hky i hi⟩
  obtain ⟨T2, M2, x1, m1, ⟨⟨f1, ⟨f2, f2'⟩, f3⟩, ⟨g1, g2, g3⟩, -⟩, hh⟩ := p_parse hC
  rw [x1, m1, zb_s, zb_s]
  obtain ⟨T5, t5⟩ : ∃ z, z = wI (wI (wI T2 0 1 1 0) 0 0 2 (T2.1 0 1 2)) 0 0 3 (T2.1 0 1 3) := ⟨_, rfl⟩
  have r2 : (wI T2 0 1 1 0).1 0 1 2 = T2.1 0 1 2 := q_wIk (by omega)
  have r3 : (wI (wI T2 0 1 1 0) 0 0 2 (T2.1 0 1 2)).1 0 1 3 = T2.1 0 1 3 := by rw [q_wIk (by omega), q_wIk (by omega)]
  have r4 : T5.1 0 0 2 = T2.1 0 1 2 := by rw [t5, q_wIk (by omega), q_wIs]
  have r5 : T5.1 0 0 3 = T2.1 0 1 3 := by rw [t5, q_wIs]
  have F5 : zfr (fun κ ι => (κ = 0 ∧ ι = 0) ∨ (κ = 0 ∧ ι = 1) ∨ zPr 2 κ ι) T T5 := by
    rw [t5]
    exact zfr_trans (zfr_mono f1 (fun _ _ z => Or.inr z)) (zfr_trans (zfr_wI (Or.inr (Or.inl ⟨rfl, rfl⟩))) (zfr_trans (zfr_wI (Or.inl ⟨rfl, rfl⟩)) (zfr_wI (Or.inl ⟨rfl, rfl⟩))))
  have np : ∀ κ ι, ¬ (κ = 0 ∧ ι = 0) → ¬ (κ = 0 ∧ ι = 1) → ¬ (1 ≤ κ ∧ ι = 2) → ¬ ((κ = 0 ∧ ι = 0) ∨ (κ = 0 ∧ ι = 1) ∨ zPr 2 κ ι) := fun κ ι x y z w => by
    rcases w with w | w | w
    · exact x w
    · exact y w
    · exact z ⟨w.1, w.2.2⟩
  have o1 : T5.1 0 0 1 = T.1 0 0 1 := by rw [t5, q_wIk (by omega), q_wIk (by omega), q_wIk (by omega)]; exact zfr_1 f1 (fun z => by rcases z with z | z; omega; have := z.1; omega) 1
  have l5 : T5.1 0 1 1 = 0 := by rw [t5, q_wIk (by omega), q_wIk (by omega), q_wIs]
  have hbu : ∀ U V : zT, U.1 0 1 1 = 0 → V.1 0 0 10 = 0 → zBu U V := fun U V a b => ⟨0, by decide, a, b, fun j hj => by omega⟩
  have cx : ∀ (z : Option ((Int32 ⊕ Nat) × zT)), (zb (f_X1_emptyBuffer T2) fun _v5 T4 => zl (T4.1 0 1 2) fun x7 => zl (wI T4 0 0 2 x7) fun T8 => zl (T8.1 0 1 3) fun x9 => zl (wI T8 0 0 3 x9) fun T10 => (if (T10.1 0 0 2) = 0 then zb (f_X2_copyFrom 0 2 T10) fun _v12 T11 => zb (f_X0_forgetAll T11) fun _v15 T14 => zb (lp_X3_load_102 2000 0 T14) fun v21 T20 => some ((Sum.inl (T20.1 1 0 9) : Int32 ⊕ Nat), T20) else some ((Sum.inr 1 : Int32 ⊕ Nat), T10))) = (if T2.1 0 1 2 = 0 then zb (f_X2_copyFrom 0 2 T5) fun _v12 T11 => zb (f_X0_forgetAll T11) fun _v15 T14 => zb (lp_X3_load_102 2000 0 T14) fun v21 T20 => some ((Sum.inl (T20.1 1 0 9) : Int32 ⊕ Nat), T20) else some ((Sum.inr 1 : Int32 ⊕ Nat), T5)) := by
    intro _
    unfold f_X1_emptyBuffer
    simp only [zl_s, zb_s, r2, r3, ← t5, r4]
  rw [cx none]
  have e10 : (wI M2 0 0 10 0).1 0 0 22 = M2.1 0 0 22 := q_wIk (by omega)
  have e22 : (wI (wI M2 0 0 10 0) 0 0 13 (M2.1 0 0 22)).1 0 0 22 = M2.1 0 0 22 := by rw [q_wIk (by omega), q_wIk (by omega)]
  have e23 : (wI (wI M2 0 0 10 0) 0 0 13 (M2.1 0 0 22)).1 0 0 23 = M2.1 0 0 23 := by rw [q_wIk (by omega), q_wIk (by omega)]
  rw [zl_s, zl_s, zl_s, e10, e22, e23]
  unfold jn_X4_load_56
  have e22' : ∀ v, (wI (wI (wI M2 0 0 10 0) 0 0 13 (M2.1 0 0 22)) 0 0 14 v).1 0 0 22 = M2.1 0 0 22 := fun v => by rw [q_wIk (by omega), e22]
  rcases hh with hF | hO
  · -- an error
    rw [if_neg hF.1, if_neg hF.m, zl_s, e22', if_neg hF.m, w_back, zb_s, q_refuse, zb_s]
    refine Or.inr ⟨1, 2, T5, 0, _, by simp, rfl, rfl, rfl, zRel.thr ?_ 2⟩
    refine ⟨?_, ?_, ?_, hbu _ _ l5 rfl, ?_, ⟨?_, ?_⟩, ?_⟩
    · rw [q_wAs]
      refine (gd.fr F5 (fun κ x y => np κ 0 (by omega) (by omega) (by omega))).congr (fun k hk => ?_)
      rw [pk_cpy_in (by omega) (by omega), Nat.sub_zero, Nat.zero_add]
      show M2.2 3 0 k = M.2 2 0 k
      rw [g3 3 (by decide) (by decide), a13 k hk]
    · refine ⟨nx, ct, hnx, hct, by rw [zfr_1 F5 (np 0 2 (by omega) (by omega) (by omega))]; exact h21, by rw [zfr_1 F5 (np 0 2 (by omega) (by omega) (by omega))]; exact h22, (g1 5 (by decide)).trans (by rw [em1]; exact h5), fun i hi => ?_⟩
      have e4 : (wA (wI (wI (wI M2 0 0 10 0) 0 0 13 (M2.1 0 0 22)) 0 0 14 (M2.1 0 0 23)) 2 0 (va_cpy ((wI (wI (wI M2 0 0 10 0) 0 0 13 (M2.1 0 0 22)) 0 0 14 (M2.1 0 0 23)).2 3 0) ((wI (wI (wI M2 0 0 10 0) 0 0 13 (M2.1 0 0 22)) 0 0 14 (M2.1 0 0 23)).2 2 0) 0 0 151)).2 4 0 = M.2 4 0 := (q_wAo (by decide)).trans ((g3 4 (by decide) (by decide)).trans (a1 4 (by decide)))
      rw [e4]
      exact (hrows i hi).fr F5 (fun κ x y => np κ _ (by omega) (by omega) (by omega))
    · have e5 : (wA (wI (wI (wI M2 0 0 10 0) 0 0 13 (M2.1 0 0 22)) 0 0 14 (M2.1 0 0 23)) 2 0 (va_cpy ((wI (wI (wI M2 0 0 10 0) 0 0 13 (M2.1 0 0 22)) 0 0 14 (M2.1 0 0 23)).2 3 0) ((wI (wI (wI M2 0 0 10 0) 0 0 13 (M2.1 0 0 22)) 0 0 14 (M2.1 0 0 23)).2 2 0) 0 0 151)).2 5 0 = M.2 5 0 := (q_wAo (by decide)).trans ((g3 5 (by decide) (by decide)).trans (a1 5 (by decide)))
      refine ⟨b0, b1, hb0, hb1, by rw [zfr_2 F5 (np 0 5 (by omega) (by omega) (by omega))]; exact s0, by rw [zfr_2 F5 (np 0 5 (by omega) (by omega) (by omega))]; exact s1, (g1 7 (by decide)).trans (by rw [em1]; exact ms), fun z => ?_, fun z => ?_⟩
      · rw [e5]; exact (q0 z).fr F5 (fun κ x y => np κ _ (by omega) (by omega) (by omega))
      · rw [e5]; exact (q1 z).fr F5 (fun κ x y => np κ _ (by omega) (by omega) (by omega))
    · obtain ⟨k, k1, k2, k3, k4⟩ := hou
      exact ⟨k, k1, by rw [o1]; exact k2, (g1 12 (by decide)).trans (by rw [em1]; exact k3), fun j hj => by
        rw [zfr_2 F5 (np 0 3 (by omega) (by omega) (by omega)), k4 j hj]
        exact (congrFun ((g3 8 (by decide) (by decide)).trans (a1 8 (by decide))) j).symm⟩
    · rw [r4, hF.2.1]; rfl
    · rw [r5, hF.2.2]; rfl
    · intro i hi
      exact (congrFun ((g3 1 (by decide) (by decide)).trans (a1 1 (by decide))) i).trans (hky i hi)
  · -- the new registry
    have g5 : zGd T5 2 (M2.2 2 0) := by
      refine hO.2.2.fr (P := fun κ ι => κ = 0) ?_ (fun κ x _ z => by omega)
      rw [t5]
      exact zfr_trans (zfr_wI rfl) (zfr_trans (zfr_wI rfl) (zfr_wI rfl))
    obtain ⟨T6, c1, R6, F6⟩ := w_copy (T := T5) (r := 0) (q := 2) (by decide) g5.1 g5.2.1
    obtain ⟨T7, t7⟩ : ∃ z, z = wI (wI T6 0 2 1 0) 0 2 2 0 := ⟨_, rfl⟩
    obtain ⟨T8, t8⟩ : ∃ z, z = wA T7 0 5 (upd (upd (T7.2 0 5) 0 0) 1 0) := ⟨_, rfl⟩
    have vb : vp_nar .boolean 0 = 0 := by decide
    have lp : lp_X3_load_102 2000 0 T7 = some (2, T8) := by
      rw [lp_X3_load_102, if_neg (show ¬ (2 : Int32) ≤ 0 by decide), if_pos (show zin (0 : Int32) 2 = true by decide), zl_s, zl_s, lp_X3_load_102, if_neg (show ¬ (2 : Int32) ≤ 0 + 1 by decide), if_pos (show zin ((0 : Int32) + 1) 2 = true by decide), zl_s, zl_s, lp_X3_load_102, if_pos (show (2 : Int32) ≤ 0 + 1 + 1 by decide), vb, q_wAs, q_wAA, show ((0 : Int32)).toNatClampNeg = 0 from rfl, show ((0 : Int32) + 1).toNatClampNeg = 1 from by decide, ← t8]
      rfl
    have cf : f_X0_forgetAll T6 = some ((), T7) := by unfold f_X0_forgetAll; rw [zl_s, zl_s, ← t7]
    have F8 : zfr (fun κ ι => zPr 0 κ ι ∨ (κ = 0 ∧ ι = 2) ∨ (κ = 0 ∧ ι = 5)) T5 T8 := by
      rw [t8, t7]
      exact zfr_trans (zfr_mono F6 (fun _ _ z => Or.inl z)) (zfr_trans (zfr_wI (Or.inr (Or.inl ⟨rfl, rfl⟩))) (zfr_trans (zfr_wI (Or.inr (Or.inl ⟨rfl, rfl⟩))) (zfr_wA (Or.inr (Or.inr ⟨rfl, rfl⟩)))))
    have F68 : zfr (fun κ ι => κ = 0) T6 T8 := by
      rw [t8, t7]
      exact zfr_trans (zfr_wI rfl) (zfr_trans (zfr_wI rfl) (zfr_wA rfl))
    have np8 : ∀ κ ι, ¬ (1 ≤ κ ∧ ι = 0) → ¬ (κ = 0 ∧ ι = 2) → ¬ (κ = 0 ∧ ι = 5) → ¬ (zPr 0 κ ι ∨ (κ = 0 ∧ ι = 2) ∨ (κ = 0 ∧ ι = 5)) := fun κ ι x y z w => by
      rcases w with w | w | w
      · exact x ⟨w.1, w.2.2⟩
      · exact y w
      · exact z w
    have gd8 : zGd T8 0 (M2.2 2 0) := zGd.fr ⟨R6, hO.2.2.2⟩ F68 (fun κ x _ z => by omega)
    have e1 : T8.1 1 0 9 = M2.2 2 0 5 := gd8.1.f9
    rw [if_pos hO.1, if_pos hO.2.1, c1, zb_s, cf, zb_s, lp, zb_s, zl_s, e22', if_pos hO.2.1, zl_s, zl_s, q_told, zb_s, e1]
    refine Or.inl ⟨_, T8, _, rfl, rfl, rfl, zRel.thr ?_ 0⟩
    have e00 : ∀ j, T8.1 0 0 j = T5.1 0 0 j := fun j => zfr_1 F8 (np8 0 0 (by omega) (by omega) (by omega)) j
    refine ⟨gd8, ⟨0, 0, by decide, by decide, ?_, ?_, rfl, fun i hi => by omega⟩, ⟨0, 0, by decide, by decide, ?_, ?_, rfl, fun z => by omega, fun z => by omega⟩, hbu _ _ ?_ rfl, ?_, ⟨?_, ?_⟩, ?_⟩
    · rw [t8, q_wA1, t7, q_wIk (by omega), q_wIs]; rfl
    · rw [t8, q_wA1, t7, q_wIs]; rfl
    · rw [t8, q_wAs, pk_un (by decide), pk_us]; rfl
    · rw [t8, q_wAs, pk_us]; rfl
    · rw [zfr_1 F8 (np8 0 1 (by omega) (by omega) (by omega))]; exact l5
    · obtain ⟨k, k1, k2, k3, k4⟩ := hou
      exact ⟨k, k1, by rw [e00, o1]; exact k2, (g1 12 (by decide)).trans (by rw [em1]; exact k3), fun j hj => by
        rw [zfr_2 F8 (np8 0 3 (by omega) (by omega) (by omega)), zfr_2 F5 (np 0 3 (by omega) (by omega) (by omega)), k4 j hj]
        exact (congrFun ((g3 8 (by decide) (by decide)).trans (a1 8 (by decide))) j).symm⟩
    · rw [e00, r4, hO.1]; exact hO.2.1.symm
    · rw [e00, r5, f2' hO.1]; rfl
    · intro i hi
      exact (congrFun ((g3 1 (by decide) (by decide)).trans (a1 1 (by decide))) i).trans (hky i hi)
end LL
