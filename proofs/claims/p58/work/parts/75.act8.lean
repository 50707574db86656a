/-! THE LAW'S act -/
def act_K31 (v1 z12 x21 x25 x29 x30 z38 : Int32) (T37 : zT) : Option (Int32 × zT) := zb (f_L_next T37) fun v39 T40 => zl (v39 - v39 / 10 * 10) fun x42 => (if x42 = 0 then sp_L_act_140 v1 z12 T40 else (if x42 = 1 then sp_L_act_140 v1 z12 T40 else (if x42 = 2 then sp_L_act_228 v1 z12 T40 else (if x42 = 3 then sp_L_act_228 v1 z12 T40 else (if x42 = 4 then sp_L_act_338 v1 z12 x25 x29 x30 T40 else (if x42 = 5 then sp_L_act_338 v1 z12 x25 x29 x30 T40 else (if x42 = 6 then sp_L_act_441 v1 z12 z38 T40 else (if x42 = 7 then sp_L_act_491 v1 z12 x21 z38 T40 else (if x42 = 8 then sp_L_act_622 T40 else if ¬ x42 < 9 then sp_L_act_713 T40 else none)))))))))
def act_K5 (v1 z12 : Int32) (T11 : zT) : Option (Int32 × zT) := zb (f_L_next T11) fun v13 T14 => zb (f_X3_gardenCount T14) fun v16 T17 => zl (zk T14 T17) fun T19 => if ¬ v16 = 0 then zl (v13 - v13 / v16 * v16) fun x21 => zb (f_L_next T19) fun v22 T23 => zl (1 + (v22 - v22 / 12 * 12)) fun x25 => zb (f_L_next T23) fun v26 T27 => zl (1 + (v26 - v26 / 30 * 30)) fun x29 => zl ((((x25 - 1) * 30) + x29) - 1) fun x30 => (if v1 = 0 then act_K31 v1 z12 x21 x25 x29 x30 (-1) T27 else zbi (f_X3_birthdayOf z12 T27) fun v33 T34 => zl (zk T27 T34) fun T36 => act_K31 v1 z12 x21 x25 x29 x30 v33 T36) else none
theorem act_eq (T : zT) : f_L_act T = zb (f_X3_childCount T) fun v1 T2 => zl (zk T T2) fun T4 => (if v1 = 0 then act_K5 v1 0 T4 else zb (f_L_next T4) fun v7 T8 => if ¬ v1 = 0 then act_K5 v1 (v7 - v7 / v1 * v1) T8 else none) := rfl
section ACT8
variable {T : zT} {σ : zRow} {hs : List zRow} {S : Option (Nat × zRow)} {j : Nat}
theorem a_K31 (h : zAc 0 j j T σ hs S) (hj : j ≤ 11) {c g m d : Nat} (hc : zn σ ≠ 0 → c < zn σ) (h0c : zn σ = 0 → c = 0) (hg : g < zg σ) (m1 : 1 ≤ m) (m2 : m ≤ 12) (d1 : 1 ≤ d) (d2 : d ≤ 30) {b : Int32} (hb : zn σ ≠ 0 → b = σ (21 + 13 * c + 4)) : ∃ T' σ' hs', act_K31 (nI (zn σ)) (nI c) (nI g) (nI m) (nI d) (nI ((m - 1) * 30 + (d - 1))) b T = some (1, T') ∧ zAc 2 j (j + 1) T' σ' hs' S ∧ hs' ≠ [] := by
  obtain ⟨v, T1, hv, e1, w1⟩ := g_next h.1
  have h1 : zAc 0 j j T1 σ hs S := h.w w1
  obtain ⟨y, ey⟩ : ∃ y, y = v % 10 := ⟨_, rfl⟩
  have hy : y < 10 := by omega
  have ed : nI v - nI v / 10 * 10 = nI y := by
    rw [show nI v - nI v / 10 * 10 = nI (v % 10) from x_rem hv (d := 10) (by decide) (by decide), ey]
  unfold act_K31
  rw [e1, zb_s, zl_s, ed]
  have ne : ∀ (a b : Nat), a < 10 → b < 10 → a ≠ b → ¬ nI a = nI b := fun a b ha hb hab e => hab (q_inj e (by omega) (by omega))
  by_cases y0 : y = 0
  · subst y0
    rw [if_pos (show nI 0 = 0 from rfl)]
    exact a_140 h1 (by omega) hc
  by_cases y1 : y = 1
  · subst y1
    rw [if_neg (show ¬ nI 1 = 0 from ne 1 0 (by decide) (by decide) (by decide)), if_pos (show nI 1 = 1 from rfl)]
    exact a_140 h1 (by omega) hc
  by_cases y2 : y = 2
  · subst y2
    rw [if_neg (show ¬ nI 2 = 0 from ne 2 0 (by decide) (by decide) (by decide)), if_neg (show ¬ nI 2 = 1 from ne 2 1 (by decide) (by decide) (by decide)), if_pos (show nI 2 = 2 from rfl)]
    exact a_228 h1 hj hc h0c
  by_cases y3 : y = 3
  · subst y3
    rw [if_neg (show ¬ nI 3 = 0 from ne 3 0 (by decide) (by decide) (by decide)), if_neg (show ¬ nI 3 = 1 from ne 3 1 (by decide) (by decide) (by decide)), if_neg (show ¬ nI 3 = 2 from ne 3 2 (by decide) (by decide) (by decide)), if_pos (show nI 3 = 3 from rfl)]
    exact a_228 h1 hj hc h0c
  by_cases y4 : y = 4
  · subst y4
    rw [if_neg (show ¬ nI 4 = 0 from ne 4 0 (by decide) (by decide) (by decide)), if_neg (show ¬ nI 4 = 1 from ne 4 1 (by decide) (by decide) (by decide)), if_neg (show ¬ nI 4 = 2 from ne 4 2 (by decide) (by decide) (by decide)), if_neg (show ¬ nI 4 = 3 from ne 4 3 (by decide) (by decide) (by decide)), if_pos (show nI 4 = 4 from rfl)]
    exact a_338 h1 hj hc h0c m1 m2 d1 d2
  by_cases y5 : y = 5
  · subst y5
    rw [if_neg (show ¬ nI 5 = 0 from ne 5 0 (by decide) (by decide) (by decide)), if_neg (show ¬ nI 5 = 1 from ne 5 1 (by decide) (by decide) (by decide)), if_neg (show ¬ nI 5 = 2 from ne 5 2 (by decide) (by decide) (by decide)), if_neg (show ¬ nI 5 = 3 from ne 5 3 (by decide) (by decide) (by decide)), if_neg (show ¬ nI 5 = 4 from ne 5 4 (by decide) (by decide) (by decide)), if_pos (show nI 5 = 5 from rfl)]
    exact a_338 h1 hj hc h0c m1 m2 d1 d2
  by_cases y6 : y = 6
  · subst y6
    rw [if_neg (show ¬ nI 6 = 0 from ne 6 0 (by decide) (by decide) (by decide)), if_neg (show ¬ nI 6 = 1 from ne 6 1 (by decide) (by decide) (by decide)), if_neg (show ¬ nI 6 = 2 from ne 6 2 (by decide) (by decide) (by decide)), if_neg (show ¬ nI 6 = 3 from ne 6 3 (by decide) (by decide) (by decide)), if_neg (show ¬ nI 6 = 4 from ne 6 4 (by decide) (by decide) (by decide)), if_neg (show ¬ nI 6 = 5 from ne 6 5 (by decide) (by decide) (by decide)), if_pos (show nI 6 = 6 from rfl)]
    exact a_441 h1 hj hc h0c hb
  by_cases y7 : y = 7
  · subst y7
    rw [if_neg (show ¬ nI 7 = 0 from ne 7 0 (by decide) (by decide) (by decide)), if_neg (show ¬ nI 7 = 1 from ne 7 1 (by decide) (by decide) (by decide)), if_neg (show ¬ nI 7 = 2 from ne 7 2 (by decide) (by decide) (by decide)), if_neg (show ¬ nI 7 = 3 from ne 7 3 (by decide) (by decide) (by decide)), if_neg (show ¬ nI 7 = 4 from ne 7 4 (by decide) (by decide) (by decide)), if_neg (show ¬ nI 7 = 5 from ne 7 5 (by decide) (by decide) (by decide)), if_neg (show ¬ nI 7 = 6 from ne 7 6 (by decide) (by decide) (by decide)), if_pos (show nI 7 = 7 from rfl)]
    exact a_491 h1 hj hc h0c hg hb
  by_cases y8 : y = 8
  · subst y8
    rw [if_neg (show ¬ nI 8 = 0 from ne 8 0 (by decide) (by decide) (by decide)), if_neg (show ¬ nI 8 = 1 from ne 8 1 (by decide) (by decide) (by decide)), if_neg (show ¬ nI 8 = 2 from ne 8 2 (by decide) (by decide) (by decide)), if_neg (show ¬ nI 8 = 3 from ne 8 3 (by decide) (by decide) (by decide)), if_neg (show ¬ nI 8 = 4 from ne 8 4 (by decide) (by decide) (by decide)), if_neg (show ¬ nI 8 = 5 from ne 8 5 (by decide) (by decide) (by decide)), if_neg (show ¬ nI 8 = 6 from ne 8 6 (by decide) (by decide) (by decide)), if_neg (show ¬ nI 8 = 7 from ne 8 7 (by decide) (by decide) (by decide)), if_pos (show nI 8 = 8 from rfl)]
    exact a_622 h1 hj
  obtain rfl : y = 9 := by omega
  rw [if_neg (show ¬ nI 9 = 0 from ne 9 0 (by decide) (by decide) (by decide)), if_neg (show ¬ nI 9 = 1 from ne 9 1 (by decide) (by decide) (by decide)), if_neg (show ¬ nI 9 = 2 from ne 9 2 (by decide) (by decide) (by decide)), if_neg (show ¬ nI 9 = 3 from ne 9 3 (by decide) (by decide) (by decide)), if_neg (show ¬ nI 9 = 4 from ne 9 4 (by decide) (by decide) (by decide)), if_neg (show ¬ nI 9 = 5 from ne 9 5 (by decide) (by decide) (by decide)), if_neg (show ¬ nI 9 = 6 from ne 9 6 (by decide) (by decide) (by decide)), if_neg (show ¬ nI 9 = 7 from ne 9 7 (by decide) (by decide) (by decide)), if_neg (show ¬ nI 9 = 8 from ne 9 8 (by decide) (by decide) (by decide)), if_pos (show ¬ nI 9 < 9 from nI_nlt (b := 9) (by decide) (by decide))]
  exact a_713 h1 hj
theorem a_K5 (h : zAc 0 j j T σ hs S) (hj : j ≤ 11) {c : Nat} (hc : zn σ ≠ 0 → c < zn σ) (h0c : zn σ = 0 → c = 0) : ∃ T' σ' hs', act_K5 (nI (zn σ)) (nI c) T = some (1, T') ∧ zAc 2 j (j + 1) T' σ' hs' S ∧ hs' ≠ [] := by
  have n10 := h.1.I.n10
  have g4 := h.1.I.g4
  have hg1 : 1 ≤ zg σ := h.2.1.1.2
  obtain ⟨v1, T1, hv1, e1, w1⟩ := g_next h.1
  obtain ⟨v2, T2, hv2, e2, w2⟩ := g_next w1
  obtain ⟨v3, T3, hv3, e3, w3⟩ := g_next w2
  have ng : ¬ nI (zg σ) = 0 := nI_ne0 (by omega) (by omega)
  have eg : nI v1 - nI v1 / nI (zg σ) * nI (zg σ) = nI (v1 % zg σ) := x_rem hv1 (by omega) (by omega)
  have hg : v1 % zg σ < zg σ := Nat.mod_lt _ (by omega)
  obtain ⟨m, em0⟩ : ∃ m, m = 1 + v2 % 12 := ⟨_, rfl⟩
  have em : 1 + (nI v2 - nI v2 / 12 * 12) = nI m := by
    rw [show nI v2 - nI v2 / 12 * 12 = nI (v2 % 12) from x_rem hv2 (d := 12) (by decide) (by decide), em0]; exact nI_add 1 _
  obtain ⟨d, ed0⟩ : ∃ d, d = 1 + v3 % 30 := ⟨_, rfl⟩
  have ed : 1 + (nI v3 - nI v3 / 30 * 30) = nI d := by
    rw [show nI v3 - nI v3 / 30 * 30 = nI (v3 % 30) from x_rem hv3 (d := 30) (by decide) (by decide), ed0]; exact nI_add 1 _
  have ex : (nI m - 1) * 30 + nI d - 1 = nI ((m - 1) * 30 + (d - 1)) := q_dofN (by omega) (by omega)
  have h3 : zAc 0 j j T3 σ hs S := h.w w3
  unfold act_K5
  rw [e1, zb_s, g_gardenCount w1, zb_s, zl_s, zk_self, if_pos ng, zl_s, eg, e2, zb_s, zl_s, em, e3, zb_s, zl_s, ed, zl_s, ex]
  by_cases h0 : zn σ = 0
  · rw [if_pos (show nI (zn σ) = 0 by rw [h0]; rfl)]
    exact a_K31 h3 hj hc h0c hg (by omega) (by omega) (by omega) (by omega) (fun z => absurd h0 z)
  · rw [if_neg (nI_ne0 (by omega) (by omega)), g_birthdayOf w3 (hc h0), zbi_s, zl_s, zk_self]
    exact a_K31 h3 hj hc h0c hg (by omega) (by omega) (by omega) (by omega) (fun z => rfl)
theorem g_act (h : zAc 0 j j T σ hs S) (hj : j ≤ 11) : ∃ T' σ' hs', f_L_act T = some (1, T') ∧ zAc 2 j (j + 1) T' σ' hs' S ∧ hs' ≠ [] := by
  have n10 := h.1.I.n10
  rw [act_eq, g_childCount h.1, zb_s, zl_s, zk_self]
  by_cases h0 : zn σ = 0
  · rw [if_pos (show nI (zn σ) = 0 by rw [h0]; rfl)]
    exact a_K5 (c := 0) h hj (fun z => absurd h0 z) (fun _ => rfl)
  · obtain ⟨v, T1, hv, e1, w1⟩ := g_next h.1
    have ng : ¬ nI (zn σ) = 0 := nI_ne0 (by omega) (by omega)
    have ec : nI v - nI v / nI (zn σ) * nI (zn σ) = nI (v % zn σ) := x_rem hv (by omega) (by omega)
    rw [if_neg ng, e1, zb_s, if_pos ng, ec]
    exact a_K5 (h.w w1) hj (fun _ => Nat.mod_lt _ (by omega)) (fun z => absurd z h0)
end ACT8
