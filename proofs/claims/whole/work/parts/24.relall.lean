/-! THE RELATION OF THE TWO OBJECTS -/
def zrow (f : Nat → Int32) (i : Nat) : Nat → Int32 := fun k => f (151 * i + k)
def zGd (T : zT) (ρ : Nat) (σ : Nat → Int32) : Prop := zRR T ρ σ ∧ zIv σ ∧ zIy σ
def zkeys : List Nat := [114, 101, 103, 105, 115, 116, 114, 121, 103, 97, 114, 100, 101, 110, 0, 0, 99, 104, 105, 108, 100, 0, 0, 0, 98, 105, 114, 116, 104, 100, 97, 121, 100, 114, 97, 119, 0, 0, 0, 0, 99, 97, 107, 101, 115, 0, 0, 0, 100, 97, 121, 115, 0, 0, 0, 0, 97, 100, 97, 0, 0, 0, 0, 0, 98, 101, 110, 0, 0, 0, 0, 0, 99, 108, 101, 111, 0, 0, 0, 0]
def zKy (M : zT) : Prop := ∀ i, i < 80 → M.2 1 0 i = nI (zkeys.getD i 0)
def zHi (T M : zT) : Prop := ∃ nx ct, nx < 10 ∧ ct ≤ 10 ∧ T.1 0 2 1 = nI nx ∧ T.1 0 2 2 = nI ct ∧ M.1 0 0 5 = nI ct ∧ ∀ i, i < ct → zGd T (3 + (nx + 10 - ct + i) % 10) (zrow (M.2 4 0) i)
def zSv (T M : zT) : Prop := ∃ b0 b1, b0 < 2 ∧ b1 < 2 ∧ T.2 0 5 0 = nI b0 ∧ T.2 0 5 1 = nI b1 ∧ M.1 0 0 7 = nI (b0 + 2 * b1) ∧ (b0 = 1 → zGd T 13 (zrow (M.2 5 0) 0)) ∧ (b1 = 1 → zGd T 14 (zrow (M.2 5 0) 1))
def zBu (T M : zT) : Prop := ∃ L, L ≤ 600 ∧ T.1 0 1 1 = nI L ∧ M.1 0 0 10 = nI L ∧ ∀ j, j < L → T.2 0 4 j = M.2 7 0 j
def zOu (T M : zT) : Prop := ∃ k, k ≤ 32 ∧ T.1 0 0 1 = nI k ∧ M.1 0 0 12 = nI k ∧ ∀ j, j < k → T.2 0 3 j = M.2 8 0 j
def zEr (T M : zT) : Prop := T.1 0 0 2 = M.1 0 0 13 ∧ T.1 0 0 3 = M.1 0 0 14
def zRel (T M : zT) : Prop := zGd T 0 (M.2 2 0) ∧ zHi T M ∧ zSv T M ∧ zBu T M ∧ zOu T M ∧ zEr T M ∧ zKy M
theorem zGd.fr {P : Nat → Nat → Prop} {T T' : zT} {ρ : Nat} {σ : Nat → Int32} (h : zGd T ρ σ) (hf : zfr P T T') (hp : ∀ κ, 1 ≤ κ → κ ≤ 11 → ¬ P κ ρ) : zGd T' ρ σ := ⟨h.1.fr hf hp, h.2⟩
/-- what of the model the relation reads -/
theorem zRel.m {T M M' : zT} (h : zRel T M) (h2 : M'.2 1 0 = M.2 1 0 ∧ M'.2 2 0 = M.2 2 0 ∧ M'.2 4 0 = M.2 4 0 ∧ M'.2 5 0 = M.2 5 0 ∧ M'.2 7 0 = M.2 7 0 ∧ M'.2 8 0 = M.2 8 0) (h1 : M'.1 0 0 5 = M.1 0 0 5 ∧ M'.1 0 0 7 = M.1 0 0 7 ∧ M'.1 0 0 10 = M.1 0 0 10 ∧ M'.1 0 0 12 = M.1 0 0 12 ∧ M'.1 0 0 13 = M.1 0 0 13 ∧ M'.1 0 0 14 = M.1 0 0 14) : zRel T M' := by
  obtain ⟨a1, a2, a3, a4, a5, a6⟩ := h2
  obtain ⟨b1, b2, b3, b4, b5, b6⟩ := h1
  unfold zRel zHi zSv zBu zOu zEr zKy
  rw [a1, a2, a3, a4, a5, a6, b1, b2, b3, b4, b5, b6]
  exact h
theorem zRel.thr {T M : zT} (h : zRel T M) (v : Int32) : zRel T (wI M 0 0 1 v) := h.m ⟨rfl, rfl, rfl, rfl, rfl, rfl⟩ ⟨rfl, rfl, rfl, rfl, rfl, rfl⟩
theorem zRel.dw {T M : zT} (h : zRel T M) (s d : Int32) : zRel T (zdw M s d) := h.m ⟨rfl, rfl, rfl, rfl, rfl, rfl⟩ ⟨rfl, rfl, rfl, rfl, rfl, rfl⟩
theorem zRel.R {T M : zT} (h : zRel T M) : zRR T 0 (M.2 2 0) := h.1.1
theorem zRel.I {T M : zT} (h : zRel T M) : zIv (M.2 2 0) := h.1.2.1
theorem zRel.y {T M : zT} (h : zRel T M) : zIy (M.2 2 0) := h.1.2.2
/-- one call: both answer alike -/
def zOpI (fc fm : Option (Int32 × zT)) : Prop := ∃ v T' M', fc = some (v, T') ∧ fm = some (v, M') ∧ zRel T' M'
def zOpX (cs : List (Nat × Nat)) (fc : Option ((Int32 ⊕ Nat) × zT)) (fm : Option (Int32 × zT)) : Prop := (∃ v T' M', fc = some (.inl v, T') ∧ fm = some (v, M') ∧ M'.1 0 0 1 = 0 ∧ zRel T' M') ∨ ∃ x k T' b M', (x, k) ∈ cs ∧ fc = some (.inr x, T') ∧ fm = some (b, M') ∧ M'.1 0 0 1 = nI k ∧ zRel T' M'
theorem q_told {v : Int32} {M : zT} : f_X4_told v M = some (v, wI M 0 0 1 0) := rfl
theorem q_refuse {v : Int32} {M : zT} : f_X4_refuse v M = some (0, wI M 0 0 1 v) := rfl
theorem zOpI.ro {T M : zT} (h : zRel T M) {v : Int32} {fc fm : Option (Int32 × zT)} (h1 : fc = some (v, T)) (h2 : fm = some (v, wI M 0 0 1 0)) : zOpI fc fm := ⟨v, T, _, h1, h2, h.thr 0⟩
theorem zOpX.ro {T M : zT} {cs : List (Nat × Nat)} (h : zRel T M) {v : Int32} {fc : Option ((Int32 ⊕ Nat) × zT)} {fm : Option (Int32 × zT)} (h1 : fc = some (.inl v, T)) (h2 : fm = some (v, wI M 0 0 1 0)) : zOpX cs fc fm := Or.inl ⟨v, T, _, h1, h2, rfl, h.thr 0⟩
theorem zOpX.ex {T M : zT} {cs : List (Nat × Nat)} (h : zRel T M) (x k : Nat) {fc : Option ((Int32 ⊕ Nat) × zT)} {fm : Option (Int32 × zT)} (hx : (x, k) ∈ cs) (h1 : fc = some (.inr x, T)) (h2 : fm = some (0, wI M 0 0 1 (nI k))) : zOpX cs fc fm := Or.inr ⟨x, k, T, 0, _, hx, h1, h2, rfl, h.thr _⟩
/-! TESTS OF ARGUMENTS -/
theorem q_in {p lo hi : Int32} {M : zT} : f_X4_in p lo hi M = some ((if p < lo then 0 else if hi < p then 0 else 1), M) := by
  unfold f_X4_in
  by_cases h1 : p < lo
  · rw [if_pos h1, if_pos h1]
  · rw [if_neg h1, if_neg h1]
    by_cases h2 : hi < p
    · rw [if_pos h2, if_pos h2]
    · rw [if_neg h2, if_neg h2]
theorem q_pred_lt {n : Nat} {p : Int32} (hn : n < 2 ^ 30) (h : nI n ≤ p) : nI n - 1 < p := by
  rw [Int32.le_iff_toInt_le, nI_toInt (by omega)] at h
  rw [Int32.lt_iff_toInt_lt, nl_1, pk_sub_toInt hn (by decide)]
  omega
theorem q_pred_nlt {n c : Nat} (hn : n < 2 ^ 30) (h : c < n) : ¬ nI n - 1 < nI c := by
  rw [Int32.lt_iff_toInt_lt, nl_1, pk_sub_toInt hn (by decide), nI_toInt (by omega)]
  omega
theorem q_in_t {n c : Nat} {M : zT} (hn : n < 2 ^ 30) (h : c < n) : f_X4_in (nI c) 0 (nI n - 1) M = some (1, M) := by
  rw [q_in, if_neg (nI_pos (by omega)), if_neg (q_pred_nlt hn h)]
theorem q_in_f {n : Nat} {p : Int32} {M : zT} (hn : n < 2 ^ 30) (h : p < 0 ∨ nI n ≤ p) : f_X4_in p 0 (nI n - 1) M = some (0, M) := by
  rw [q_in]
  rcases h with h | h
  · rw [if_pos h]
  · by_cases h0 : p < 0
    · rw [if_pos h0]
    · rw [if_neg h0, if_pos (q_pred_lt hn h)]
section ARGS
variable {T M : zT}
theorem qm_isC_t (h : zRel T M) {c : Nat} (hc : c < zn (M.2 2 0)) : f_X4_isChild (nI c) M = some (1, M) := by
  have n10 := h.I.n10
  unfold f_X4_isChild
  rw [h.I.n, q_in_t (by omega) hc]; rfl
theorem qm_isC_f (h : zRel T M) {p : Int32} (hp : p < 0 ∨ nI (zn (M.2 2 0)) ≤ p) : f_X4_isChild p M = some (0, M) := by
  have n10 := h.I.n10
  unfold f_X4_isChild
  rw [h.I.n, q_in_f (by omega) hp]; rfl
theorem qm_isG_t (h : zRel T M) {c : Nat} (hc : c < zg (M.2 2 0)) : f_X4_isGarden (nI c) M = some (1, M) := by
  have n10 := h.I.g4
  unfold f_X4_isGarden
  rw [h.I.g, q_in_t (by omega) hc]; rfl
theorem qm_isG_f (h : zRel T M) {p : Int32} (hp : p < 0 ∨ nI (zg (M.2 2 0)) ≤ p) : f_X4_isGarden p M = some (0, M) := by
  have n10 := h.I.g4
  unfold f_X4_isGarden
  rw [h.I.g, q_in_f (by omega) hp]; rfl
theorem q_need_t {n c : Nat} (hn : n < 2 ^ 30) (h : c < n) {α : Type} {a b d : α} : (if nI c < 0 then a else if nI c < nI n then b else d) = b := by
  rw [if_neg (nI_pos (by omega)), if_pos (nI_lt h (by omega))]
theorem q_need_f {n : Nat} {p : Int32} (h : p < 0 ∨ nI n ≤ p) {α : Type} {a b : α} : (if p < 0 then a else if p < nI n then b else a) = a := by
  rcases h with h | h
  · rw [if_pos h]
  · by_cases h0 : p < 0
    · rw [if_pos h0]
    · rw [if_neg h0, if_neg (Int32.not_lt.mpr h)]
theorem qx_needC_t (h : zRel T M) {c : Nat} (hc : c < zn (M.2 2 0)) : f_X3_needChild (nI c) T = some (.inl (), T) := by
  have n10 := h.I.n10
  unfold f_X3_needChild
  rw [h.R.f9, h.I.n]; exact q_need_t (by omega) hc
theorem qx_needC_f (h : zRel T M) {p : Int32} (hp : p < 0 ∨ nI (zn (M.2 2 0)) ≤ p) : f_X3_needChild p T = some (.inr 2, T) := by
  unfold f_X3_needChild
  rw [h.R.f9, h.I.n]; exact q_need_f hp
theorem qx_needG_t (h : zRel T M) {c : Nat} (hc : c < zg (M.2 2 0)) : f_X3_needGarden (nI c) T = some (.inl (), T) := by
  have n10 := h.I.g4
  unfold f_X3_needGarden
  rw [h.R.f8, h.I.g]; exact q_need_t (by omega) hc
theorem qx_needG_f (h : zRel T M) {p : Int32} (hp : p < 0 ∨ nI (zg (M.2 2 0)) ≤ p) : f_X3_needGarden p T = some (.inr 2, T) := by
  unfold f_X3_needGarden
  rw [h.R.f8, h.I.g]; exact q_need_f hp
theorem q_cut {p : Int32} {n : Nat} (hn : n < 2 ^ 31) : (p < 0 ∨ nI n ≤ p) ∨ ∃ c, c < n ∧ p = nI c := by
  rcases pk_ix p hn with h | h | h
  · exact Or.inl (Or.inl h)
  · exact Or.inl (Or.inr h)
  · exact Or.inr h
theorem q_pos (m d : Int32) (M : zT) : f_X4_position m d M = some ((m - 1) * 30 + d - 1, M) := rfl
theorem q_dof (m d : Int32) (T : zT) : f_X3_dateOf m d T = some ((m - 1) * 30 + d - 1, T) := rfl
theorem q_rng {p : Int32} {a b : Nat} (hab : a ≤ b) (hb : b < 2 ^ 31) : p < nI a ∨ nI b < p ∨ ∃ c, a ≤ c ∧ c ≤ b ∧ p = nI c := by
  by_cases h1 : p < nI a
  · exact Or.inl h1
  by_cases h2 : nI b < p
  · exact Or.inr (Or.inl h2)
  have h3 : 0 ≤ p := Int32.le_trans (nI_pos' (by omega)) (Int32.not_lt.mp h1)
  obtain ⟨c, hc, rfl⟩ := nI_of (Int32.not_lt.mpr h3)
  rw [nI_ltI hc (by omega)] at h1
  rw [nI_ltI hb hc] at h2
  exact Or.inr (Or.inr ⟨c, by omega, by omega, rfl⟩)
theorem q_date (m d : Int32) : (f_X3_needDate m d T = some (.inr 1, T) ∧ f_X4_isDate m d M = some (0, M)) ∨ ∃ D, D < 360 ∧ (m - 1) * 30 + d - 1 = nI D ∧ f_X3_needDate m d T = some (.inl (), T) ∧ f_X4_isDate m d M = some (1, M) := by
  unfold f_X3_needDate f_X4_isDate
  simp only [q_in, zb_s]
  rcases q_rng (p := m) (a := 1) (b := 12) (by decide) (by decide) with h | h | ⟨x, h1, h2, rfl⟩
  · rw [← nl_1] at h
    exact Or.inl ⟨by rw [if_pos h], by rw [if_pos h, if_pos rfl]⟩
  · rw [← nl_12] at h
    refine Or.inl ⟨?_, ?_⟩
    · rw [if_pos h]; split <;> rfl
    · rw [if_pos h]; split <;> rfl
  · have e1 : ¬ nI x < 1 := nI_nlt (b := 1) h1 (by omega)
    have e2 : ¬ 12 < nI x := nI_nlt (a := 12) h2 (by omega)
    rw [if_neg e1, if_neg e2, if_neg e1, if_neg e2, if_neg (show ¬ (1 : Int32) = 0 by decide)]
    rcases q_rng (p := d) (a := 1) (b := 30) (by decide) (by decide) with h | h | ⟨y, h3, h4, rfl⟩
    · rw [← nl_1] at h
      exact Or.inl ⟨by rw [if_pos h], by rw [if_pos h, if_pos rfl]⟩
    · rw [← nl_30] at h
      refine Or.inl ⟨?_, ?_⟩
      · rw [if_neg (Int32.not_le.mpr h)]; split <;> rfl
      · rw [if_pos h]; split <;> rfl
    · have e3 : ¬ nI y < 1 := nI_nlt (b := 1) h3 (by omega)
      have e4 : ¬ 30 < nI y := nI_nlt (a := 30) h4 (by omega)
      refine Or.inr ⟨(x - 1) * 30 + y - 1, by omega, ?_, ?_, ?_⟩
      · rw [nl_1, nl_30, pk_sub h1, pk_mul, nI_add, pk_sub (by omega)]
      · rw [if_neg e3, if_pos (Int32.not_lt.mp e4)]
      · rw [if_neg e3, if_neg e4, if_neg (by decide)]
end ARGS
