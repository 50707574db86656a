/-! CLASS: what a registry's readers answer, told by the row -/
/-- specs over the row -/
def s_cnt (σ : Nat → Int32) (o : Nat) (v : Int32) : Int32 := zfo (fun i u => if σ (21 + 13 * i + o) = v then u + 1 else u) 0 (zn σ) 0
def s_tkp (σ : Nat → Int32) (c : Nat) (g d : Int32) : Nat → Bool := fun i => if i = c then false else if σ (21 + 13 * i + 3) = g then (if σ (21 + 13 * i + 4) = d then true else false) else false
def s_rea (σ : Nat → Int32) (c g : Nat) (d : Int32) : Int32 := if (zfn (s_tkp σ c (nI g) d) 0 (zn σ)).isSome = true then 1 else if s_cnt σ 0 (σ (21 + 13 * c + 0)) ≤ σ (17 + g) then 0 else 2
def s_nxt (s : Int32) : Int32 := s * 211 + 97 - (s * 211 + 97) / 9973 * 9973
def s_day (s : Int32) : Int32 := s - s / 360 * 360
/-- the draws: the first that no reason stands against, with its seed -/
def s_drw (σ : Nat → Int32) (c h : Nat) : Nat → Nat → Int32 → Option Nat × Int32
  | _, 0, s => (none, s)
  | j, k + 1, s => if s_rea σ c h (s_day (s_nxt s)) = 0 then (some j, s_nxt s) else s_drw σ c h (j + 1) k (s_nxt s)
def s_ckp (σ : Nat → Int32) (f : Nat) : Nat → Bool := fun i => if σ (11 + (f + i) % 6) ≤ 0 then false else true
def s_cak (σ : Nat → Int32) (f : Nat) : Option Nat := (zfn (s_ckp σ f) 0 6).map fun i => (f + i) % 6
def s_str (σ : Nat → Int32) (c : Nat) (k : Int32) (h : Nat) : Int32 := σ (21 + 13 * c + 1) + (if σ (17 + h) - 1 < s_cnt σ 0 k - (if σ (21 + 13 * c + 0) = k then 1 else 0) then σ (17 + h) - 1 else s_cnt σ 0 k - (if σ (21 + 13 * c + 0) = k then 1 else 0))
theorem zlen_2 {ι : Nat} : zlen 0 2 ι = 6 := rfl
theorem zlen_3 {ι : Nat} : zlen 0 3 ι = 4 := rfl
theorem zlen_c {κ ι : Nat} (h : 4 ≤ κ) : zlen 0 κ ι = 10 := by
  unfold zlen
  rw [if_neg (by omega), if_neg (by omega), if_neg (by omega)]
theorem q_le6 {j : Nat} (h : j < 2 ^ 31) : ((6 : Int32) ≤ nI j) = (6 ≤ j) := q_le (a := 6) (by decide) h
section QX
variable {T : zT} {ρ : Nat} {σ : Nat → Int32}
theorem q_cellc {κ j : Nat} (h4 : 4 ≤ κ) (h : j < 10) : f_X3_cell κ ρ (nI j) T = some (T.2 κ ρ j, T) := q_cell (by rw [zlen_c h4]; exact h) (by rw [zlen_c h4]; decide)
theorem q_setc {κ j : Nat} {x : Int32} (h4 : 4 ≤ κ) (h : j < 10) : f_X3_setCell κ ρ (nI j) x T = some ((), wA T κ ρ (upd (T.2 κ ρ) j x)) := q_setCell (by rw [zlen_c h4]; exact h) (by rw [zlen_c h4]; decide)
theorem q_addc {κ j : Nat} {x : Int32} (h4 : 4 ≤ κ) (h : j < 10) : f_X3_addToCell κ ρ (nI j) x T = some ((), wA T κ ρ (upd (T.2 κ ρ) j (T.2 κ ρ j + x))) := q_addTo (by rw [zlen_c h4]; exact h) (by rw [zlen_c h4]; decide)
theorem qx_count (I : zIv σ) {κ o : Nat} (h4 : 4 ≤ κ) (hr : ∀ c, c < zn σ → T.2 κ ρ c = σ (21 + 13 * c + o)) {v : Int32} : f_X3_countOf v κ ρ (nI (zn σ)) T = some (s_cnt σ o v, T) := by
  have n10 := I.n10
  unfold f_X3_countOf
  rw [nl_0, q_countOf (κ := κ) (ι := ρ) (by rw [zlen_c h4]; exact n10) (by rw [zlen_c h4]; decide) (zn σ) 0 2000 _ (by omega) (by omega)]
  show some (zfo _ 0 (zn σ) (nI 0), T) = some (s_cnt σ o v, T)
  rw [zfo_congr (st' := fun i u => if σ (21 + 13 * i + o) = v then u + 1 else u) (fun i _ h2 a => by rw [hr i (by omega)])]
  rfl
theorem qx_fans (R : zRR T ρ σ) (I : zIv σ) (v : Int32) : f_X2_countFans ρ v T = some (s_cnt σ 0 v, T) := by
  unfold f_X2_countFans
  rw [R.f9, I.n, qx_count I (by decide) (fun c hc => R.fa hc)]; rfl
theorem qx_sum (I : zIv σ) {κ o : Nat} (h4 : 4 ≤ κ) (hr : ∀ c, c < zn σ → T.2 κ ρ c = σ (21 + 13 * c + o)) : f_X3_sum κ ρ (nI (zn σ)) T = some (zsm σ o (zn σ), T) := by
  have n10 := I.n10
  unfold f_X3_sum
  rw [nl_0, q_sum (κ := κ) (ι := ρ) (by rw [zlen_c h4]; exact n10) (by rw [zlen_c h4]; decide) (zn σ) 0 2000 _ (by omega) (by omega)]
  show some (zfo _ 0 (zn σ) (nI 0), T) = some (zsm σ o (zn σ), T)
  rw [zfo_congr (st' := fun i u => u + σ (21 + 13 * i + o)) (fun i _ h2 a => by rw [hr i (by omega)])]
  rfl
theorem qx_named_l (R : zRR T ρ σ) (I : zIv σ) {v : Int32} : ∀ k j fuel, j + k = zn σ → k < fuel → lp_X2_childNamed_2 ρ v fuel (nI j) T = some ((match zfn (fun i => if znm (zlet σ i) = v then true else false) j k with | some i => (0, nI i) | none => (1, nI (zn σ))), T) := by
  have n10 := I.n10
  have r9 : T.1 1 ρ 9 = nI (zn σ) := R.f9.trans I.n
  intro k
  induction k with
  | zero =>
    intro j fuel hj hk
    obtain ⟨f, rfl⟩ : ∃ f, fuel = f + 1 := ⟨fuel - 1, by omega⟩
    obtain rfl : j = zn σ := by omega
    simp (disch := omega) only [lp_X2_childNamed_2, r9, q_le]
    rw [if_pos (Nat.le_refl _)]; rfl
  | succ k ih =>
    intro j fuel hj hk
    obtain ⟨f, rfl⟩ : ∃ f, fuel = f + 1 := ⟨fuel - 1, by omega⟩
    have e := ih (j + 1) f (by omega) (by omega)
    have n1 : ¬ zn σ ≤ j := by omega
    have n2 : j < zn σ := by omega
    have c4 : f_X3_cell 4 ρ (nI j) T = some (T.2 4 ρ j, T) := q_cellc (by decide) (by omega)
    rw [R.nm n2] at c4
    unfold zfn
    simp (disch := omega) only [lp_X2_childNamed_2, r9, c4, q_le, q_eq, zb_s, zl_s, nI_1]
    rw [if_neg n1]
    by_cases h0 : znm (zlet σ j) = v
    · simp (disch := omega) only [if_pos h0, if_true, if_false, Bool.false_eq_true] <;> exact e
    · simp (disch := omega) only [if_neg h0, if_true, if_false, Bool.false_eq_true] <;> exact e
theorem qx_named (R : zRR T ρ σ) (I : zIv σ) (v : Int32) : f_X2_childNamed ρ v T = some ((match zfn (fun i => if znm (zlet σ i) = v then true else false) 0 (zn σ) with | some i => nI i | none => -1), T) := by
  have n10 := I.n10
  unfold f_X2_childNamed
  rw [nl_0, qx_named_l R I (zn σ) 0 2000 (by omega) (by omega)]
  cases zfn (fun i => if znm (zlet σ i) = v then true else false) 0 (zn σ) with
  | none => rfl
  | some i => rfl
theorem qx_tak_l (R : zRR T ρ σ) (I : zIv σ) {c : Nat} (hc : c < 10) {g d : Int32} : ∀ k j fuel, j + k = zn σ → k < fuel → lp_X2_reasonAgainst_3 ρ (nI c) g d fuel (nI j) T = some ((match zfn (s_tkp σ c g d) j k with | some i => (0, nI i) | none => (1, nI (zn σ))), T) := by
  have n10 := I.n10
  have r9 : T.1 1 ρ 9 = nI (zn σ) := R.f9.trans I.n
  intro k
  induction k with
  | zero =>
    intro j fuel hj hk
    obtain ⟨f, rfl⟩ : ∃ f, fuel = f + 1 := ⟨fuel - 1, by omega⟩
    obtain rfl : j = zn σ := by omega
    simp (disch := omega) only [lp_X2_reasonAgainst_3, r9, q_le]
    rw [if_pos (Nat.le_refl _)]; rfl
  | succ k ih =>
    intro j fuel hj hk
    obtain ⟨f, rfl⟩ : ∃ f, fuel = f + 1 := ⟨fuel - 1, by omega⟩
    have e := ih (j + 1) f (by omega) (by omega)
    have n1 : ¬ zn σ ≤ j := by omega
    have n2 : j < zn σ := by omega
    have c8 : f_X3_cell 8 ρ (nI j) T = some (T.2 8 ρ j, T) := q_cellc (by decide) (by omega)
    rw [R.ho n2] at c8
    have c9 : f_X3_cell 9 ρ (nI j) T = some (T.2 9 ρ j, T) := q_cellc (by decide) (by omega)
    rw [R.bi n2] at c9
    unfold zfn
    simp (disch := omega) only [lp_X2_reasonAgainst_3, s_tkp, r9, c8, c9, q_le, q_eq, zb_s, zl_s, nI_1]
    rw [if_neg n1]
    by_cases h0 : j = c
    · by_cases h1 : σ (21 + 13 * j + 3) = g
      · by_cases h2 : σ (21 + 13 * j + 4) = d
        · simp (disch := omega) only [if_pos h0, if_pos h1, if_pos h2, if_true, if_false, Bool.false_eq_true] <;> exact e
        · simp (disch := omega) only [if_pos h0, if_pos h1, if_neg h2, if_true, if_false, Bool.false_eq_true] <;> exact e
      · by_cases h2 : σ (21 + 13 * j + 4) = d
        · simp (disch := omega) only [if_pos h0, if_neg h1, if_pos h2, if_true, if_false, Bool.false_eq_true] <;> exact e
        · simp (disch := omega) only [if_pos h0, if_neg h1, if_neg h2, if_true, if_false, Bool.false_eq_true] <;> exact e
    · by_cases h1 : σ (21 + 13 * j + 3) = g
      · by_cases h2 : σ (21 + 13 * j + 4) = d
        · simp (disch := omega) only [if_neg h0, if_pos h1, if_pos h2, if_true, if_false, Bool.false_eq_true] <;> exact e
        · simp (disch := omega) only [if_neg h0, if_pos h1, if_neg h2, if_true, if_false, Bool.false_eq_true] <;> exact e
      · by_cases h2 : σ (21 + 13 * j + 4) = d
        · simp (disch := omega) only [if_neg h0, if_neg h1, if_pos h2, if_true, if_false, Bool.false_eq_true] <;> exact e
        · simp (disch := omega) only [if_neg h0, if_neg h1, if_neg h2, if_true, if_false, Bool.false_eq_true] <;> exact e
theorem qx_rea (R : zRR T ρ σ) (I : zIv σ) {c g : Nat} (hc : c < zn σ) (hg : g < zg σ) (d : Int32) : f_X2_reasonAgainst ρ (nI c) (nI g) d T = some (s_rea σ c g d, T) := by
  have n10 := I.n10
  have g4 := I.g4
  unfold f_X2_reasonAgainst s_rea
  rw [nl_0, qx_tak_l R I (by omega) (zn σ) 0 2000 (by omega) (by omega), zb_s]
  cases zfn (s_tkp σ c (nI g) d) 0 (zn σ) with
  | some i => rfl
  | none =>
    have c3 : f_X3_cell 3 ρ (nI g) T = some (T.2 3 ρ g, T) := q_cell (by rw [zlen_3]; omega) (by rw [zlen_3]; decide)
    have c5 : f_X3_cell 5 ρ (nI c) T = some (T.2 5 ρ c, T) := q_cellc (by decide) (by omega)
    rw [R.st hg] at c3
    rw [R.fa hc] at c5
    simp only [c3, c5, zb_s, qx_fans R I]
    show (if s_cnt σ 0 (σ (21 + 13 * c + 0)) ≤ σ (17 + g) then _ else _) = some ((if s_cnt σ 0 (σ (21 + 13 * c + 0)) ≤ σ (17 + g) then 0 else 2), T)
    by_cases h : s_cnt σ 0 (σ (21 + 13 * c + 0)) ≤ σ (17 + g)
    · rw [if_pos h, if_pos h]
      all_goals rfl
    · rw [if_neg h, if_neg h]
theorem qx_drw_l (R : zRR T ρ σ) (I : zIv σ) {c h : Nat} (hc : c < zn σ) (hh : h < zg σ) : ∀ k j fuel s, j + k = 21 → k < fuel → lp_X2_countDraws_17 ρ (nI c) (nI h) fuel s (nI j) T = some ((match s_drw σ c h j k s with | (some i, s') => (0, (s', nI i)) | (none, s') => (1, (s', nI 21))), T) := by
  intro k
  induction k with
  | zero =>
    intro j fuel s hj hk
    obtain ⟨f, rfl⟩ : ∃ f, fuel = f + 1 := ⟨fuel - 1, by omega⟩
    obtain rfl : j = 21 := by omega
    simp (disch := omega) only [lp_X2_countDraws_17, nl_20, q_lt]
    rw [if_pos (by decide)]; rfl
  | succ k ih =>
    intro j fuel s hj hk
    obtain ⟨f, rfl⟩ : ∃ f, fuel = f + 1 := ⟨fuel - 1, by omega⟩
    have e := ih (j + 1) f (s_nxt s) (by omega) (by omega)
    have e1 : f_X3_seedAfter s T = some (s_nxt s, T) := rfl
    have e2 := qx_rea R I hc hh (s_day (s_nxt s))
    unfold s_day at e2
    unfold s_drw
    unfold s_day
    simp (disch := omega) only [lp_X2_countDraws_17, nl_20, q_lt, e1, e2, zb_s, zl_s, nI_1]
    rw [if_neg (by omega)]
    by_cases h0 : s_rea σ c h (s_nxt s - s_nxt s / 360 * 360) = 0
    · rw [if_pos h0, if_pos h0]
    · rw [if_neg h0, if_neg h0]; exact e
theorem qx_drw (R : zRR T ρ σ) (I : zIv σ) {c h : Nat} (hc : c < zn σ) (hh : h < zg σ) (eh : σ (21 + 13 * c + 3) = nI h) : f_X2_countDraws ρ (nI c) T = some ((match (s_drw σ c h 1 20 (σ 2)).1 with | some i => nI i | none => -1), T) := by
  have n10 := I.n10
  unfold f_X2_countDraws
  have c8 : f_X3_cell 8 ρ (nI c) T = some (T.2 8 ρ c, T) := q_cellc (by decide) (by omega)
  rw [R.ho hc, eh] at c8
  simp only [c8, zb_s, zl_s, R.f2]
  rw [nl_1, qx_drw_l R I hc hh 20 1 2000 (σ 2) (by omega) (by omega), zb_s]
  rcases e : s_drw σ c h 1 20 (σ 2) with ⟨o, s'⟩
  cases o with
  | none => rfl
  | some i => rfl
theorem qx_cak_l (R : zRR T ρ σ) (I : zIv σ) {f0 : Nat} (hf : f0 < 6) : ∀ k j fuel, j + k = 6 → k < fuel → lp_X2_cakeFor_2 ρ (nI f0) fuel (nI j) T = some ((match zfn (s_ckp σ f0) j k with | some i => (0, (nI i, nI ((f0 + i) % 6))) | none => (1, (nI 6, nI 0))), T) := by
  intro k
  induction k with
  | zero =>
    intro j fuel hj hk
    obtain ⟨f, rfl⟩ : ∃ f, fuel = f + 1 := ⟨fuel - 1, by omega⟩
    obtain rfl : j = 6 := by omega
    simp (disch := omega) only [lp_X2_cakeFor_2, q_le6, q_le]
    rw [if_pos (Nat.le_refl _)]; rfl
  | succ k ih =>
    intro j fuel hj hk
    obtain ⟨f, rfl⟩ : ∃ f, fuel = f + 1 := ⟨fuel - 1, by omega⟩
    have e := ih (j + 1) f (by omega) (by omega)
    have n1 : ¬ 6 ≤ j := by omega
    have n2 : j < 6 := by omega
    have c2 : f_X3_cell 2 ρ (nI ((f0 + j) % 6)) T = some (T.2 2 ρ ((f0 + j) % 6), T) := q_cell (by rw [zlen_2]; omega) (by rw [zlen_2]; decide)
    rw [R.ck (by omega)] at c2
    have r6 : nI (f0 + j) - nI (f0 + j) / 6 * 6 = nI ((f0 + j) % 6) := pk_rem (by omega) (by decide) (by decide)
    unfold zfn
    simp (disch := omega) only [lp_X2_cakeFor_2, s_ckp, q_le6, q_le, q_eq, zb_s, zl_s, nI_1, nI_add, r6, c2]
    rw [if_neg n1]
    by_cases h0 : σ (11 + (f0 + j) % 6) ≤ 0
    · simp (disch := omega) only [if_pos h0, if_true, if_false, Bool.false_eq_true] <;> exact e
    · simp (disch := omega) only [if_neg h0, if_true, if_false, Bool.false_eq_true] <;> exact e
theorem qx_cak (R : zRR T ρ σ) (I : zIv σ) {f0 : Nat} (hf : f0 < 6) : f_X2_cakeFor ρ (nI f0) T = some ((match s_cak σ f0 with | some i => nI i | none => -1), T) := by
  unfold f_X2_cakeFor s_cak
  rw [nl_0, qx_cak_l R I hf 6 0 2000 (by omega) (by omega), zb_s]
  cases zfn (s_ckp σ f0) 0 6 with
  | none => rfl
  | some i => rfl
theorem qx_str (R : zRR T ρ σ) (I : zIv σ) {c h : Nat} (hc : c < zn σ) (hh : h < zg σ) (eh : σ (21 + 13 * c + 3) = nI h) (k : Int32) : f_X2_partyStrength ρ (nI c) k T = some (s_str σ c k h, T) := by
  have n10 := I.n10
  have g4 := I.g4
  unfold f_X2_partyStrength s_str
  have c5 : f_X3_cell 5 ρ (nI c) T = some (T.2 5 ρ c, T) := q_cellc (by decide) (by omega)
  have c8 : f_X3_cell 8 ρ (nI c) T = some (T.2 8 ρ c, T) := q_cellc (by decide) (by omega)
  have c6 : f_X3_cell 6 ρ (nI c) T = some (T.2 6 ρ c, T) := q_cellc (by decide) (by omega)
  have c3 : f_X3_cell 3 ρ (nI h) T = some (T.2 3 ρ h, T) := q_cell (by rw [zlen_3]; omega) (by rw [zlen_3]; decide)
  rw [R.fa hc] at c5
  rw [R.ho hc, eh] at c8
  rw [R.br hc] at c6
  rw [R.st hh] at c3
  rw [R.f9, I.n, qx_count I (by decide) (fun c hc => R.fa hc)]
  simp only [zb_s, c5, jn_X2_partyStrength_28, c8, c3, c6, zl_s]
  by_cases h5 : σ (21 + 13 * c + 0) = k
  · simp only [if_pos h5]; rw [← Int32.sub_eq_add_neg]
  · simp only [if_neg h5, Int32.sub_zero]
theorem qx_until {b d : Nat} (R : zRR T ρ σ) (hd : σ 1 = nI d) (hd3 : d < 360) (hb : b < 360) : f_X2_daysUntil ρ (nI b) T = some (nI (if d < b then b - d else b + 360 - d), T) := by
  unfold f_X2_daysUntil
  rw [R.f1, hd]
  simp (disch := omega) only [q_le]
  by_cases h : b ≤ d
  · rw [if_pos h, if_neg (by omega), nl_360]
    have : nI b - nI d + nI 360 = nI (b + 360 - d) := by
      rw [Int32.sub_eq_add_neg, Int32.add_assoc, Int32.add_comm (-nI d), ← Int32.add_assoc, nI_add, ← Int32.sub_eq_add_neg, pk_sub (by omega)]
    rw [this]
  · rw [if_neg h, if_pos (by omega), pk_sub (by omega)]
theorem qx_left {y d : Nat} (R : zRR T ρ σ) (hd : σ 1 = nI d) (hd3 : d < 360) (hy : σ 0 = nI y) (hy9 : y ≤ 99) : f_X2_daysLeft ρ T = some (nI ((99 - y) * 360 + 359 - d), T) := by
  unfold f_X2_daysLeft
  rw [R.f0, R.f1, hd, hy]
  simp only [nl_99, nl_360, nl_1]
  rw [pk_sub (by omega), pk_mul, nI_add, pk_sub (by omega), pk_sub (by omega)]
  congr 3
end QX
