/-! THE RELATION of a registry of the class to a row of the model -/
def zn (σ : Nat → Int32) : Nat := (σ 5).toNatClampNeg
def zg (σ : Nat → Int32) : Nat := (σ 4).toNatClampNeg
def zlet (σ : Nat → Int32) (c : Nat) : Nat → Int32 := fun i => σ (21 + 13 * c + 7 + i)
/-- a name's number: its letters are digits of base 27 -/
def znm (f : Nat → Int32) : Int32 := zfo (fun i u => if f i = 0 then u else u * 27 + f i - 97 + 1) 0 6 0
def zRR (T : zT) (ρ : Nat) (σ : Nat → Int32) : Prop :=
  (T.1 1 ρ 0 = σ 0 ∧ T.1 1 ρ 1 = σ 1 ∧ T.1 1 ρ 2 = σ 2 ∧ T.1 1 ρ 3 = σ 3 ∧ T.1 1 ρ 4 = σ 6 ∧ T.1 1 ρ 5 = σ 7 ∧ T.1 1 ρ 6 = σ 8 ∧ T.1 1 ρ 7 = σ 10 ∧ T.1 1 ρ 8 = σ 4 ∧ T.1 1 ρ 9 = σ 5) ∧
  (∀ k, k < 6 → T.2 2 ρ k = σ (11 + k)) ∧ (∀ g, g < zg σ → T.2 3 ρ g = σ (17 + g)) ∧
  ∀ c, c < zn σ → T.2 4 ρ c = znm (zlet σ c) ∧ T.2 5 ρ c = σ (21 + 13 * c + 0) ∧ T.2 6 ρ c = σ (21 + 13 * c + 1) ∧ T.2 7 ρ c = σ (21 + 13 * c + 2) ∧ T.2 8 ρ c = σ (21 + 13 * c + 3) ∧ T.2 9 ρ c = σ (21 + 13 * c + 4) ∧ T.2 10 ρ c = σ (21 + 13 * c + 5) ∧ T.2 11 ρ c = σ (21 + 13 * c + 6)
/-- six letters' places that hold a name -/
def zNm (f : Nat → Int32) : Prop := ∃ m, 1 ≤ m ∧ m ≤ 6 ∧ (∀ i, i < m → ∃ l, 97 ≤ l ∧ l ≤ 122 ∧ f i = nI l) ∧ ∀ i, m ≤ i → i < 6 → f i = 0
def zIc (σ : Nat → Int32) (c : Nat) : Prop := (∃ f, f < 6 ∧ σ (21 + 13 * c + 0) = nI f) ∧ (∃ h, h < zg σ ∧ σ (21 + 13 * c + 3) = nI h) ∧ (σ (21 + 13 * c + 4) = -1 ∨ ∃ d, d < 360 ∧ σ (21 + 13 * c + 4) = nI d) ∧ zNm (zlet σ c)
def zsm (σ : Nat → Int32) (o : Nat) (n : Nat) : Int32 := zfo (fun i u => u + σ (21 + 13 * i + o)) 0 n 0
def zIv (σ : Nat → Int32) : Prop := (σ 5 = nI (zn σ) ∧ zn σ ≤ 10) ∧ (σ 4 = nI (zg σ) ∧ zg σ ≤ 4) ∧ (∃ d, d < 360 ∧ σ 1 = nI d) ∧ (∃ s, s < 9973 ∧ σ 2 = nI s) ∧ σ 9 = zsm σ 5 (zn σ) ∧ ∀ c, c < zn σ → zIc σ c
def zIy (σ : Nat → Int32) : Prop := ∃ y, y ≤ 99 ∧ σ 0 = nI y
section ZRR
variable {T : zT} {ρ : Nat} {σ : Nat → Int32}
theorem zRR.f0 (h : zRR T ρ σ) : T.1 1 ρ 0 = σ 0 := h.1.1
theorem zRR.f1 (h : zRR T ρ σ) : T.1 1 ρ 1 = σ 1 := h.1.2.1
theorem zRR.f2 (h : zRR T ρ σ) : T.1 1 ρ 2 = σ 2 := h.1.2.2.1
theorem zRR.f3 (h : zRR T ρ σ) : T.1 1 ρ 3 = σ 3 := h.1.2.2.2.1
theorem zRR.f4 (h : zRR T ρ σ) : T.1 1 ρ 4 = σ 6 := h.1.2.2.2.2.1
theorem zRR.f5 (h : zRR T ρ σ) : T.1 1 ρ 5 = σ 7 := h.1.2.2.2.2.2.1
theorem zRR.f6 (h : zRR T ρ σ) : T.1 1 ρ 6 = σ 8 := h.1.2.2.2.2.2.2.1
theorem zRR.f7 (h : zRR T ρ σ) : T.1 1 ρ 7 = σ 10 := h.1.2.2.2.2.2.2.2.1
theorem zRR.f8 (h : zRR T ρ σ) : T.1 1 ρ 8 = σ 4 := h.1.2.2.2.2.2.2.2.2.1
theorem zRR.f9 (h : zRR T ρ σ) : T.1 1 ρ 9 = σ 5 := h.1.2.2.2.2.2.2.2.2.2
theorem zRR.ck (h : zRR T ρ σ) {k : Nat} (hk : k < 6) : T.2 2 ρ k = σ (11 + k) := h.2.1 k hk
theorem zRR.st (h : zRR T ρ σ) {g : Nat} (hg : g < zg σ) : T.2 3 ρ g = σ (17 + g) := h.2.2.1 g hg
theorem zRR.nm (h : zRR T ρ σ) {c : Nat} (hc : c < zn σ) : T.2 4 ρ c = znm (zlet σ c) := (h.2.2.2 c hc).1
theorem zRR.fa (h : zRR T ρ σ) {c : Nat} (hc : c < zn σ) : T.2 5 ρ c = σ (21 + 13 * c + 0) := (h.2.2.2 c hc).2.1
theorem zRR.br (h : zRR T ρ σ) {c : Nat} (hc : c < zn σ) : T.2 6 ρ c = σ (21 + 13 * c + 1) := (h.2.2.2 c hc).2.2.1
theorem zRR.ag (h : zRR T ρ σ) {c : Nat} (hc : c < zn σ) : T.2 7 ρ c = σ (21 + 13 * c + 2) := (h.2.2.2 c hc).2.2.2.1
theorem zRR.ho (h : zRR T ρ σ) {c : Nat} (hc : c < zn σ) : T.2 8 ρ c = σ (21 + 13 * c + 3) := (h.2.2.2 c hc).2.2.2.2.1
theorem zRR.bi (h : zRR T ρ σ) {c : Nat} (hc : c < zn σ) : T.2 9 ρ c = σ (21 + 13 * c + 4) := (h.2.2.2 c hc).2.2.2.2.2.1
theorem zRR.pa (h : zRR T ρ σ) {c : Nat} (hc : c < zn σ) : T.2 10 ρ c = σ (21 + 13 * c + 5) := (h.2.2.2 c hc).2.2.2.2.2.2.1
theorem zRR.wi (h : zRR T ρ σ) {c : Nat} (hc : c < zn σ) : T.2 11 ρ c = σ (21 + 13 * c + 6) := (h.2.2.2 c hc).2.2.2.2.2.2.2
theorem zIv.n (h : zIv σ) : σ 5 = nI (zn σ) := h.1.1
theorem zIv.n10 (h : zIv σ) : zn σ ≤ 10 := h.1.2
theorem zIv.g (h : zIv σ) : σ 4 = nI (zg σ) := h.2.1.1
theorem zIv.g4 (h : zIv σ) : zg σ ≤ 4 := h.2.1.2
theorem zIv.c (h : zIv σ) {c : Nat} (hc : c < zn σ) : zIc σ c := h.2.2.2.2.2 c hc
theorem zIv.date (h : zIv σ) : ∃ d, d < 360 ∧ σ 1 = nI d := h.2.2.1
theorem zIv.seed (h : zIv σ) : ∃ s, s < 9973 ∧ σ 2 = nI s := h.2.2.2.1
theorem zIv.held (h : zIv σ) : σ 9 = zsm σ 5 (zn σ) := h.2.2.2.2.1
/-- a registry seen after writes elsewhere -/
theorem zRR.fr {P : Nat → Nat → Prop} {T' : zT} (h : zRR T ρ σ) (hf : zfr P T T') (hp : ∀ κ, 1 ≤ κ → κ ≤ 11 → ¬ P κ ρ) : zRR T' ρ σ := by
  have h1 := fun k => zfr_1 hf (hp 1 (by decide) (by decide)) k
  have h2 := fun κ (a : 1 ≤ κ) (b : κ ≤ 11) => zfr_2 hf (hp κ a b)
  refine ⟨?_, ?_, ?_, ?_⟩
  · simp only [h1]; exact h.1
  · rw [h2 2 (by decide) (by decide)]; exact h.2.1
  · rw [h2 3 (by decide) (by decide)]; exact h.2.2.1
  · rw [h2 4 (by decide) (by decide), h2 5 (by decide) (by decide), h2 6 (by decide) (by decide), h2 7 (by decide) (by decide), h2 8 (by decide) (by decide), h2 9 (by decide) (by decide), h2 10 (by decide) (by decide), h2 11 (by decide) (by decide)]
    exact h.2.2.2
end ZRR
/-! CELLS -/
section CELLS
variable {T : zT} {κ ι : Nat}
theorem q_cell {j : Nat} (h : j < zlen 0 κ ι) (hl : zlen 0 κ ι ≤ 600) : f_X3_cell κ ι (nI j) T = some (T.2 κ ι j, T) := by
  unfold f_X3_cell
  simp (disch := omega) only [nl_0, q_le, q_lt, q_zin, q_clamp]
  rw [if_neg (by omega), if_neg (by omega), if_pos h]
theorem q_cell0 {x : Int32} (h : x < 0) : f_X3_cell κ ι x T = some (0, T) := by
  unfold f_X3_cell; rw [if_pos h]
theorem q_cellL {j : Nat} (h : zlen 0 κ ι ≤ j) (hj : j < 2 ^ 31) : f_X3_cell κ ι (nI j) T = some (0, T) := by
  unfold f_X3_cell
  simp (disch := omega) only [nl_0, q_le, q_lt, q_zin, q_clamp]
  rw [if_neg (by omega), if_pos h]
theorem q_setCell {j : Nat} {x : Int32} (h : j < zlen 0 κ ι) (hl : zlen 0 κ ι ≤ 600) : f_X3_setCell κ ι (nI j) x T = some ((), wA T κ ι (upd (T.2 κ ι) j x)) := by
  unfold f_X3_setCell
  simp (disch := omega) only [nl_0, q_le, q_lt, q_zin, q_clamp, zl_s]
  rw [if_neg (by omega), if_neg (by omega), if_pos h]
theorem q_addTo {j : Nat} {x : Int32} (h : j < zlen 0 κ ι) (hl : zlen 0 κ ι ≤ 600) : f_X3_addToCell κ ι (nI j) x T = some ((), wA T κ ι (upd (T.2 κ ι) j (T.2 κ ι j + x))) := by
  unfold f_X3_addToCell
  simp (disch := omega) only [nl_0, q_le, q_lt, q_zin, q_clamp, zl_s]
  rw [if_neg (by omega), if_neg (by omega), if_pos h, if_pos h]
theorem q_countOf {v : Int32} {N : Nat} (hN : N ≤ zlen 0 κ ι) (hl : zlen 0 κ ι ≤ 600) : ∀ k j fuel u, j + k = N → k < fuel → lp_X3_countOf_5 κ ι v (nI N) fuel u (nI j) T = some ((zfo (fun i u => if T.2 κ ι i = v then u + 1 else u) j k u, nI N), T) := by
  intro k
  induction k with
  | zero =>
    intro j fuel u hj hk
    obtain ⟨f, rfl⟩ : ∃ f, fuel = f + 1 := ⟨fuel - 1, by omega⟩
    obtain rfl : j = N := by omega
    simp (disch := omega) only [lp_X3_countOf_5, q_le]
    rw [if_pos (Nat.le_refl _)]; rfl
  | succ k ih =>
    intro j fuel u hj hk
    obtain ⟨f, rfl⟩ : ∃ f, fuel = f + 1 := ⟨fuel - 1, by omega⟩
    have e := ih (j + 1) f (if T.2 κ ι j = v then u + 1 else u) (by omega) (by omega)
    have n1 : ¬ N ≤ j := by omega
    have n2 : ¬ zlen 0 κ ι ≤ j := by omega
    have n3 : j < zlen 0 κ ι := by omega
    simp (disch := omega) only [lp_X3_countOf_5, q_le, q_zin, q_clamp, zl_s, nI_1]
    rw [if_neg n1, if_neg n2, if_pos n3]
    show _ = some ((zfo _ (j + 1) k (if T.2 κ ι j = v then u + 1 else u), nI N), T)
    by_cases hv : T.2 κ ι j = v
    · simp only [if_pos hv] at e ⊢; exact e
    · simp only [if_neg hv] at e ⊢; exact e
theorem q_sum {N : Nat} (hN : N ≤ zlen 0 κ ι) (hl : zlen 0 κ ι ≤ 600) : ∀ k j fuel u, j + k = N → k < fuel → lp_X3_sum_4 κ ι (nI N) fuel u (nI j) T = some ((zfo (fun i u => u + T.2 κ ι i) j k u, nI N), T) := by
  intro k
  induction k with
  | zero =>
    intro j fuel u hj hk
    obtain ⟨f, rfl⟩ : ∃ f, fuel = f + 1 := ⟨fuel - 1, by omega⟩
    obtain rfl : j = N := by omega
    simp (disch := omega) only [lp_X3_sum_4, q_le]
    rw [if_pos (Nat.le_refl _)]; rfl
  | succ k ih =>
    intro j fuel u hj hk
    obtain ⟨f, rfl⟩ : ∃ f, fuel = f + 1 := ⟨fuel - 1, by omega⟩
    have e := ih (j + 1) f (u + T.2 κ ι j) (by omega) (by omega)
    simp (disch := omega) only [lp_X3_sum_4, q_le, q_zin, q_clamp, zl_s, nI_1]
    rw [if_neg (by omega), if_neg (by omega), if_pos (by omega)]
    exact e
end CELLS
