/-! THE TEXT OF A REGISTRY THAT IS DRAWN -/
theorem zdig_l1 {v : Nat} (h : v < 10) : (zdig v).length = 1 := by rw [zdig_1 h]; rfl
theorem zdig_l2 {v : Nat} (h : v < 100) : (zdig v).length ≤ 2 := by
  by_cases h1 : v < 10
  · rw [zdig_1 h1]; exact Nat.le_of_ble_eq_true rfl
  · rw [zdig_2 (by omega) h]; exact Nat.le_of_ble_eq_true rfl
theorem zdig_l3 {v : Nat} (h : v < 1000) : (zdig v).length ≤ 3 := by
  by_cases h1 : v < 100
  · exact Nat.le_trans (zdig_l2 h1) (by decide)
  · rw [zdig_3 (by omega) h]; exact Nat.le_of_ble_eq_true rfl
theorem zltr_8 : zltr 8 = wReg ++ [32] := by decide +kernel
theorem zltr_9 : zltr 9 = 59 :: (wGard ++ [32]) := by decide +kernel
theorem zltr_10 : zltr 10 = 59 :: (wChild ++ [32]) := by decide +kernel
theorem zltr_11 : zltr 11 = 59 :: (wCakes ++ [32]) := by decide +kernel
theorem zltr_n8 : (zltr 8).length = 9 := by decide +kernel
theorem zltr_n9 : (zltr 9).length = 8 := by decide +kernel
theorem zltr_n10 : (zltr 10).length = 7 := by decide +kernel
theorem zltr_n11 : (zltr 11).length = 7 := by decide +kernel
theorem z32 : (32 : Int32).toNatClampNeg = 32 := by decide
theorem z32i : zin 32 128 = true := by decide
/-- a draw of the law's, anywhere -/
theorem g_nxt (T : zT) : ∃ v T', v < 8388608 ∧ f_L_next T = some (nI v, T') ∧ zfr (fun κ ι => κ = 0 ∧ ι = 8) T T' := by
  unfold f_L_next
  simp only [zl_s]
  generalize eT : wA (wA T 0 8 _) 0 8 _ = T'
  have hT : zfr (fun κ ι => κ = 0 ∧ ι = 8) T T' := by rw [← eT]; exact zfr_trans zfr_8 zfr_8
  generalize T'.2 0 8 0 = x
  refine ⟨(x.toUInt32 >>> ((9 : Int32).toUInt32 &&& Int32.toUInt32 31)).toNat, T', ?_, ?_, hT⟩
  · have e : ((9 : Int32).toUInt32 &&& Int32.toUInt32 31) = 9 := by decide
    rw [e, UInt32.toNat_shiftRight]
    have := x.toUInt32.toNat_lt
    rw [show (9 : UInt32).toNat % 32 = 9 by decide, Nat.shiftRight_eq_div_pow]
    omega
  · have hu : ∀ u : UInt32, u.toInt32 = nI u.toNat := fun u => by
      show u.toInt32 = Int32.ofNat u.toNat
      apply Int32.toBitVec_inj.mp
      show u.toBitVec = BitVec.ofNat 32 u.toNat
      exact (BitVec.ofNat_toNat _ _).symm ▸ (by simp)
    rw [hu]
/-- a draw, its remainder -/
theorem g_nxr (T : zT) {d : Nat} (hd : 0 < d) (hd2 : d < 2 ^ 31) : ∃ v y T', f_L_next T = some (v, T') ∧ v - v / nI d * nI d = nI y ∧ y < d ∧ zfr (fun κ ι => κ = 0 ∧ ι = 8) T T' := by
  obtain ⟨v, T', hv, e, F⟩ := g_nxt T
  exact ⟨nI v, v % d, T', e, x_rem hv hd hd2, Nat.mod_lt _ hd, F⟩
theorem z_dig {y : Nat} (h : y < 10000) : zin (nI y) 10000 = true ∧ (nI y).toNatClampNeg = y := ⟨of_eq_true (q_zt h (by decide)), nI_clamp (by omega)⟩

theorem tx_G {ng : Nat} {w1 : Int32} (h4 : ng ≤ 4) : ∀ k j f (T : zT) (t : List Nat), j + k = ng → k < f → t.length + 10 * k ≤ 290 → ∃ gs T' t', lp_L_registry_40 (nI ng) w1 f (nI j) (T, t) = some (nI ng, (T', t')) ∧ gs.length = k ∧ okG gs ∧ (∀ l, t' ++ l = t ++ rG gs l) ∧ t'.length ≤ t.length + 10 * k ∧ zfr (fun κ ι => κ = 0 ∧ ι = 8) T T' := by
  intro k
  induction k with
  | zero =>
    intro j f T t hj hf ht
    obtain ⟨f, rfl⟩ : ∃ q, f = q + 1 := ⟨f - 1, by omega⟩
    obtain rfl : j = ng := by omega
    rw [lp_L_registry_40, if_pos (Int32.le_refl _)]
    exact ⟨[], T, t, rfl, rfl, (fun x hx => by cases hx), fun l => rfl, Nat.le_refl _, zfr_refl⟩
  | succ k ih =>
    intro j f T t hj hf ht
    obtain ⟨f, rfl⟩ : ∃ q, f = q + 1 := ⟨f - 1, by omega⟩
    rw [lp_L_registry_40, if_neg (nI_ge (by omega) (by omega))]
    try dsimp only
    have n9 := zltr_n9
    obtain ⟨t1, et1⟩ : ∃ z, z = t ++ zltr 9 := ⟨_, rfl⟩
    have lt1 : t1.length = t.length + 8 := by rw [et1, List.length_append]; omega
    rw [if_pos (show t.length + 10 ≤ 300 by omega), zl_s]
    try dsimp only
    rw [← et1]
    obtain ⟨v1, g0, U1, f1, r1, b1, F1⟩ := g_nxr T (d := 11) (by decide) (by decide)
    rw [f1, zb_s, zl_s]
    try dsimp only
    rw [zl_s]
    obtain ⟨g, eg⟩ : ∃ z, z = 2 + g0 := ⟨_, rfl⟩
    have q1 : 2 + (v1 - v1 / 11 * 11) = nI g := by rw [show v1 - v1 / 11 * 11 = nI g0 from r1, eg]; exact nI_add 2 _
    rw [q1]
    obtain ⟨i1, c1⟩ := z_dig (y := g) (by omega)
    have d1 := zdig_l2 (v := g) (by omega)
    obtain ⟨t2, et2⟩ : ∃ z, z = t1 ++ zdig g := ⟨_, rfl⟩
    have lt2 : t2.length = t1.length + (zdig g).length := by rw [et2, List.length_append]
    rw [if_pos i1, if_pos (show t1.length + 10 ≤ 300 by omega), zl_s]
    try dsimp only
    rw [c1, ← et2]
    rw [zl_s, nI_1]
    obtain ⟨gs, T', t', a1, a2, a3, a4, a5, a6⟩ := ih (j + 1) f U1 t2 (by omega) (by omega) (by omega)
    refine ⟨g :: gs, T', t', a1, by rw [List.length_cons, a2], fun x hx => ?_, fun l => ?_, by omega, zfr_trans F1 a6⟩
    · rcases List.mem_cons.mp hx with rfl | h
      · omega
      · exact a3 x h
    · rw [a4, et2, et1, zltr_9]
      show _ = t ++ (59 :: (wGard ++ (32 :: (zdig g ++ rG gs l))))
      simp only [List.append_assoc, List.cons_append, List.nil_append]
theorem tx_K {ng nk : Nat} (hg1 : 1 ≤ ng) (h4 : ng ≤ 4) (hk8 : nk ≤ 8) : ∀ k j f (T : zT) (t : List Nat), j + k = nk → k < f → t.length + 18 * k ≤ 282 → ∃ ks T' t', lp_L_registry_74 (nI ng) (nI nk) f (nI j) (T, t) = some (nI nk, (T', t')) ∧ ks.length = k ∧ okK ng ks ∧ (∀ l, t' ++ l = t ++ rK j ks l) ∧ t'.length ≤ t.length + 18 * k ∧ zfr (fun κ ι => κ = 0 ∧ ι = 8) T T' := by
  intro k
  induction k with
  | zero =>
    intro j f T t hj hf ht
    obtain ⟨f, rfl⟩ : ∃ q, f = q + 1 := ⟨f - 1, by omega⟩
    obtain rfl : j = nk := by omega
    rw [lp_L_registry_74, if_pos (Int32.le_refl _)]
    exact ⟨[], T, t, rfl, rfl, (fun x hx => by cases hx), fun l => rfl, Nat.le_refl _, zfr_refl⟩
  | succ k ih =>
    intro j f T t hj hf ht
    obtain ⟨f, rfl⟩ : ∃ q, f = q + 1 := ⟨f - 1, by omega⟩
    have hng : ¬ nI ng = 0 := nI_ne0 (by omega) (by omega)
    rw [lp_L_registry_74, if_neg (nI_ge (by omega) (by omega))]
    try dsimp only
    have n10 := zltr_n10
    obtain ⟨t1, et1⟩ : ∃ z, z = t ++ zltr 10 := ⟨_, rfl⟩
    have lt1 : t1.length = t.length + 7 := by rw [et1, List.length_append]; omega
    rw [if_pos (show t.length + 10 ≤ 300 by omega), zl_s]
    try dsimp only
    rw [← et1]
    have hch : ((112 + nI j).toUInt32 % 65536).toInt32 = nI (112 + j) := by
      rw [show (112 : Int32) + nI j = nI (112 + j) from nI_add 112 j, pk_char, pk_tn (by omega), Nat.mod_eq_of_lt (by omega)]
    rw [zl_s, hch]
    have l112 : ([112 + j] : List Nat).length = 1 := rfl
    obtain ⟨t2, et2⟩ : ∃ z, z = t1 ++ [112 + j] := ⟨_, rfl⟩
    have lt2 : t2.length = t1.length + 1 := by rw [et2, List.length_append]; omega
    rw [if_pos (show zin (nI (112 + j)) 128 = true from of_eq_true (q_zt (by omega) (by decide))), if_pos (show t1.length + 10 ≤ 300 by omega), zl_s]
    try dsimp only
    rw [nI_clamp (show 112 + j < 2 ^ 31 by omega), ← et2]
    have l32 : ([32] : List Nat).length = 1 := rfl
    obtain ⟨t3, et3⟩ : ∃ z, z = t2 ++ [32] := ⟨_, rfl⟩
    have lt3 : t3.length = t2.length + 1 := by rw [et3, List.length_append]; omega
    rw [if_pos z32i, if_pos (show t2.length + 10 ≤ 300 by omega), zl_s]
    try dsimp only
    try rw [z32]
    rw [← et3]
    obtain ⟨v1, qf0, U1, f1, r1, b1, F1⟩ := g_nxr T (d := 6) (by decide) (by decide)
    rw [f1, zb_s, zl_s]
    try dsimp only
    rw [zl_s]
    obtain ⟨qf, eqf⟩ : ∃ z, z = qf0 := ⟨_, rfl⟩
    have q1 : v1 - v1 / 6 * 6 = nI qf := by rw [eqf]; exact r1
    rw [q1]
    obtain ⟨i1, c1⟩ := z_dig (y := qf) (by omega)
    have d1 := zdig_l1 (v := qf) (by omega)
    obtain ⟨t4, et4⟩ : ∃ z, z = t3 ++ zdig qf := ⟨_, rfl⟩
    have lt4 : t4.length = t3.length + (zdig qf).length := by rw [et4, List.length_append]
    rw [if_pos i1, if_pos (show t3.length + 10 ≤ 300 by omega), zl_s]
    try dsimp only
    rw [c1, ← et4]
    have l32 : ([32] : List Nat).length = 1 := rfl
    obtain ⟨t5, et5⟩ : ∃ z, z = t4 ++ [32] := ⟨_, rfl⟩
    have lt5 : t5.length = t4.length + 1 := by rw [et5, List.length_append]; omega
    rw [if_pos z32i, if_pos (show t4.length + 10 ≤ 300 by omega), zl_s]
    try dsimp only
    try rw [z32]
    rw [← et5]
    obtain ⟨v2, qb0, U2, f2, r2, b2, F2⟩ := g_nxr U1 (d := 20) (by decide) (by decide)
    rw [f2, zb_s, zl_s]
    try dsimp only
    rw [zl_s]
    obtain ⟨qb, eqb⟩ : ∃ z, z = 1 + qb0 := ⟨_, rfl⟩
    have q2 : 1 + (v2 - v2 / 20 * 20) = nI qb := by rw [show v2 - v2 / 20 * 20 = nI qb0 from r2, eqb]; exact nI_add 1 _
    rw [q2]
    obtain ⟨i2, c2⟩ := z_dig (y := qb) (by omega)
    have d2 := zdig_l2 (v := qb) (by omega)
    obtain ⟨t6, et6⟩ : ∃ z, z = t5 ++ zdig qb := ⟨_, rfl⟩
    have lt6 : t6.length = t5.length + (zdig qb).length := by rw [et6, List.length_append]
    rw [if_pos i2, if_pos (show t5.length + 10 ≤ 300 by omega), zl_s]
    try dsimp only
    rw [c2, ← et6]
    have l32 : ([32] : List Nat).length = 1 := rfl
    obtain ⟨t7, et7⟩ : ∃ z, z = t6 ++ [32] := ⟨_, rfl⟩
    have lt7 : t7.length = t6.length + 1 := by rw [et7, List.length_append]; omega
    rw [if_pos z32i, if_pos (show t6.length + 10 ≤ 300 by omega), zl_s]
    try dsimp only
    try rw [z32]
    rw [← et7]
    obtain ⟨v3, qa0, U3, f3, r3, b3, F3⟩ := g_nxr U2 (d := 15) (by decide) (by decide)
    rw [f3, zb_s, zl_s]
    try dsimp only
    rw [zl_s]
    obtain ⟨qa, eqa⟩ : ∃ z, z = qa0 := ⟨_, rfl⟩
    have q3 : v3 - v3 / 15 * 15 = nI qa := by rw [eqa]; exact r3
    rw [q3]
    obtain ⟨i3, c3⟩ := z_dig (y := qa) (by omega)
    have d3 := zdig_l2 (v := qa) (by omega)
    obtain ⟨t8, et8⟩ : ∃ z, z = t7 ++ zdig qa := ⟨_, rfl⟩
    have lt8 : t8.length = t7.length + (zdig qa).length := by rw [et8, List.length_append]
    rw [if_pos i3, if_pos (show t7.length + 10 ≤ 300 by omega), zl_s]
    try dsimp only
    rw [c3, ← et8]
    have l32 : ([32] : List Nat).length = 1 := rfl
    obtain ⟨t9, et9⟩ : ∃ z, z = t8 ++ [32] := ⟨_, rfl⟩
    have lt9 : t9.length = t8.length + 1 := by rw [et9, List.length_append]; omega
    rw [if_pos z32i, if_pos (show t8.length + 10 ≤ 300 by omega), zl_s]
    try dsimp only
    try rw [z32]
    rw [← et9]
    obtain ⟨v4, qh0, U4, f4, r4, b4, F4⟩ := g_nxr U3 (d := ng) (by omega) (by omega)
    rw [f4, zb_s, zl_s]
    try dsimp only
    rw [if_pos hng]
    rw [zl_s]
    obtain ⟨qh, eqh⟩ : ∃ z, z = qh0 := ⟨_, rfl⟩
    have q4 : v4 - v4 / nI ng * nI ng = nI qh := by rw [eqh]; exact r4
    rw [q4]
    obtain ⟨i4, c4⟩ := z_dig (y := qh) (by omega)
    have d4 := zdig_l1 (v := qh) (by omega)
    obtain ⟨t10, et10⟩ : ∃ z, z = t9 ++ zdig qh := ⟨_, rfl⟩
    have lt10 : t10.length = t9.length + (zdig qh).length := by rw [et10, List.length_append]
    rw [if_pos i4, if_pos (show t9.length + 10 ≤ 300 by omega), zl_s]
    try dsimp only
    rw [c4, ← et10]
    rw [zl_s, nI_1]
    obtain ⟨ks, T', t', a1, a2, a3, a4, a5, a6⟩ := ih (j + 1) f U4 t10 (by omega) (by omega) (by omega)
    refine ⟨(qf, qb, qa, qh) :: ks, T', t', a1, by rw [List.length_cons, a2], fun x hx => ?_, fun l => ?_, by omega, zfr_trans (zfr_trans F1 (zfr_trans F2 (zfr_trans F3 F4))) a6⟩
    · rcases List.mem_cons.mp hx with rfl | h
      · exact ⟨show qf < 6 by omega, ⟨show 1 ≤ qb by omega, show qb ≤ 20 by omega⟩, show qa ≤ 99 by omega, show qh < ng by omega⟩
      · exact a3 x h
    · rw [a4, et10, et9, et8, et7, et6, et5, et4, et3, et2, et1, zltr_10]
      show _ = t ++ (59 :: (wChild ++ (32 :: ((112 + j) :: (32 :: (zdig qf ++ (32 :: (zdig qb ++ (32 :: (zdig qa ++ (32 :: (zdig qh ++ rK (j + 1) ks l))))))))))))
      simp only [List.append_assoc, List.cons_append, List.nil_append]
theorem tx_C : ∀ k f (T : zT) (t : List Nat), k < f → k < 10 → t.length + 10 * k ≤ 290 → ∃ cs T' t', lp_L_registry_171 f (nI k) (T, t) = some (0, (T', t')) ∧ cs.length = k ∧ okC cs ∧ (∀ l, t' ++ l = t ++ rC cs l) ∧ t'.length ≤ t.length + 10 * k ∧ zfr (fun κ ι => κ = 0 ∧ ι = 8) T T' := by
  intro k
  induction k with
  | zero =>
    intro f T t hf _ ht
    obtain ⟨f, rfl⟩ : ∃ q, f = q + 1 := ⟨f - 1, by omega⟩
    rw [lp_L_registry_171, if_pos (show nI 0 ≤ (0 : Int32) from Int32.le_refl _)]
    exact ⟨[], T, t, rfl, rfl, (fun x hx => by cases hx), fun l => rfl, Nat.le_refl _, zfr_refl⟩
  | succ k ih =>
    intro f T t hf h10 ht
    obtain ⟨f, rfl⟩ : ∃ q, f = q + 1 := ⟨f - 1, by omega⟩
    rw [lp_L_registry_171, if_neg (show ¬ nI (k + 1) ≤ (0 : Int32) from nI_ge (a := 0) (by omega) (by omega))]
    try dsimp only
    have n11 := zltr_n11
    obtain ⟨t1, et1⟩ : ∃ z, z = t ++ zltr 11 := ⟨_, rfl⟩
    have lt1 : t1.length = t.length + 7 := by rw [et1, List.length_append]; omega
    rw [if_pos (show t.length + 10 ≤ 300 by omega), zl_s]
    try dsimp only
    rw [← et1]
    obtain ⟨v1, qk0, U1, f1, r1, b1, F1⟩ := g_nxr T (d := 6) (by decide) (by decide)
    rw [f1, zb_s, zl_s]
    try dsimp only
    rw [zl_s]
    obtain ⟨qk, eqk⟩ : ∃ z, z = qk0 := ⟨_, rfl⟩
    have q1 : v1 - v1 / 6 * 6 = nI qk := by rw [eqk]; exact r1
    rw [q1]
    obtain ⟨i1, c1⟩ := z_dig (y := qk) (by omega)
    have d1 := zdig_l1 (v := qk) (by omega)
    obtain ⟨t2, et2⟩ : ∃ z, z = t1 ++ zdig qk := ⟨_, rfl⟩
    have lt2 : t2.length = t1.length + (zdig qk).length := by rw [et2, List.length_append]
    rw [if_pos i1, if_pos (show t1.length + 10 ≤ 300 by omega), zl_s]
    try dsimp only
    rw [c1, ← et2]
    have l32 : ([32] : List Nat).length = 1 := rfl
    obtain ⟨t3, et3⟩ : ∃ z, z = t2 ++ [32] := ⟨_, rfl⟩
    have lt3 : t3.length = t2.length + 1 := by rw [et3, List.length_append]; omega
    rw [if_pos z32i, if_pos (show t2.length + 10 ≤ 300 by omega), zl_s]
    try dsimp only
    try rw [z32]
    rw [← et3]
    obtain ⟨v2, qx0, U2, f2, r2, b2, F2⟩ := g_nxr U1 (d := 9) (by decide) (by decide)
    rw [f2, zb_s, zl_s]
    try dsimp only
    rw [zl_s]
    obtain ⟨qx, eqx⟩ : ∃ z, z = 1 + qx0 := ⟨_, rfl⟩
    have q2 : 1 + (v2 - v2 / 9 * 9) = nI qx := by rw [show v2 - v2 / 9 * 9 = nI qx0 from r2, eqx]; exact nI_add 1 _
    rw [q2]
    obtain ⟨i2, c2⟩ := z_dig (y := qx) (by omega)
    have d2 := zdig_l1 (v := qx) (by omega)
    obtain ⟨t4, et4⟩ : ∃ z, z = t3 ++ zdig qx := ⟨_, rfl⟩
    have lt4 : t4.length = t3.length + (zdig qx).length := by rw [et4, List.length_append]
    rw [if_pos i2, if_pos (show t3.length + 10 ≤ 300 by omega), zl_s]
    try dsimp only
    rw [c2, ← et4]
    rw [zl_s, pk_m1]
    obtain ⟨cs, T', t', a1, a2, a3, a4, a5, a6⟩ := ih f U2 t4 (by omega) (by omega) (by omega)
    refine ⟨(qk, qx) :: cs, T', t', a1, by rw [List.length_cons, a2], fun x hx => ?_, fun l => ?_, by omega, zfr_trans (zfr_trans F1 F2) a6⟩
    · rcases List.mem_cons.mp hx with rfl | h
      · exact ⟨by omega, by omega, by omega⟩
      · exact a3 x h
    · rw [a4, et4, et3, et2, et1, zltr_11]
      show _ = t ++ (59 :: (wCakes ++ (32 :: (zdig qk ++ (32 :: (zdig qx ++ rC cs l))))))
      simp only [List.append_assoc, List.cons_append, List.nil_append]
theorem tx_T (T : zT) {ng nk : Nat} (hg1 : 1 ≤ ng) (h4 : ng ≤ 4) (hk8 : nk ≤ 8) : ∃ s c gs ks cs T', f_L_registry (nI ng) (nI nk) T = some (rT s c gs ks cs, T') ∧ s < 9973 ∧ c < 300 ∧ okG gs ∧ okK ng ks ∧ okC cs ∧ gs.length = ng ∧ ks.length = nk ∧ cs.length ≤ 4 ∧ (rT s c gs ks cs).length ≤ 300 ∧ zfr (fun κ ι => κ = 0 ∧ ι = 8) T T' := by
  unfold f_L_registry rg_L_registry
  try dsimp only
  have n8 := zltr_n8
  obtain ⟨v1, qs0, U1, f1, r1, b1, F1⟩ := g_nxr T (d := 9973) (by decide) (by decide)
  rw [f1, zb_s, zl_s]
  try dsimp only
  rw [zl_s]
  obtain ⟨qs, eqs⟩ : ∃ z, z = qs0 := ⟨_, rfl⟩
  have q1 : v1 - v1 / 9973 * 9973 = nI qs := by rw [eqs]; exact r1
  rw [q1]
  obtain ⟨i1, c1⟩ := z_dig (y := qs) (by omega)
  have d1 := (zdig_len (v := qs)).2
  obtain ⟨t1, et1⟩ : ∃ z, z = (zltr 8) ++ zdig qs := ⟨_, rfl⟩
  have lt1 : t1.length = (zltr 8).length + (zdig qs).length := by rw [et1, List.length_append]
  rw [if_pos i1, if_pos (show (zltr 8).length + 10 ≤ 300 by omega), zl_s]
  try dsimp only
  rw [c1, ← et1]
  have l32 : ([32] : List Nat).length = 1 := rfl
  obtain ⟨t2, et2⟩ : ∃ z, z = t1 ++ [32] := ⟨_, rfl⟩
  have lt2 : t2.length = t1.length + 1 := by rw [et2, List.length_append]; omega
  rw [if_pos z32i, if_pos (show t1.length + 10 ≤ 300 by omega), zl_s]
  try dsimp only
  try rw [z32]
  rw [← et2]
  obtain ⟨v2, qc0, U2, f2, r2, b2, F2⟩ := g_nxr U1 (d := 300) (by decide) (by decide)
  rw [f2, zb_s, zl_s]
  try dsimp only
  rw [zl_s]
  obtain ⟨qc, eqc⟩ : ∃ z, z = qc0 := ⟨_, rfl⟩
  have q2 : v2 - v2 / 300 * 300 = nI qc := by rw [eqc]; exact r2
  rw [q2]
  obtain ⟨i2, c2⟩ := z_dig (y := qc) (by omega)
  have d2 := zdig_l3 (v := qc) (by omega)
  obtain ⟨t3, et3⟩ : ∃ z, z = t2 ++ zdig qc := ⟨_, rfl⟩
  have lt3 : t3.length = t2.length + (zdig qc).length := by rw [et3, List.length_append]
  rw [if_pos i2, if_pos (show t2.length + 10 ≤ 300 by omega), zl_s]
  try dsimp only
  rw [c2, ← et3]
  obtain ⟨gs, T1, t', a1, a2, a3, a4, a5, a6⟩ := tx_G (ng := ng) (w1 := nI nk) h4 ng 0 6 U2 t3 (by omega) (by omega) (by omega)
  obtain ⟨ks, T2, t'', b1, b2, b3, b4, b5, b6⟩ := tx_K (ng := ng) (nk := nk) hg1 h4 hk8 nk 0 10 T1 t' (by omega) (by omega) (by omega)
  obtain ⟨w, q0, T3, f9, r9, p9, F9⟩ := g_nxr T2 (d := 5) (by decide) (by decide)
  obtain ⟨cs, T4, tz, c1, c2, c3, c4, c5, c6⟩ := tx_C q0 6 T3 t'' (by omega) (by omega) (by omega)
  have r9' : w - w / 5 * 5 = nI q0 := r9
  have hT : tz = rT qs qc gs ks cs := by
    have x1 := c4 []
    rw [List.append_nil, b4, a4, et3, et2, et1, zltr_8] at x1
    rw [x1]
    unfold rT
    simp only [List.append_assoc, List.cons_append, List.nil_append]
  refine ⟨qs, qc, gs, ks, cs, T4, ?_, by omega, by omega, a3, b3, c3, a2, b2, by omega, by rw [← hT]; omega, zfr_trans (zfr_trans F1 F2) (zfr_trans a6 (zfr_trans b6 (zfr_trans F9 c6)))⟩
  rw [← hT]
  rw [show (0 : Int32) = nI 0 from rfl, a1]
  rw [zbR_s, b1, zbR_s]
  try dsimp only
  rw [f9, zb_s, zl_s]
  try dsimp only
  rw [zl_s, r9', c1, zbR_s]
  rfl
