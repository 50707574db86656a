/-! THE LAW'S act: days passed -/
def zGp (j : Nat) (σ : zRow) : Prop := zGr j σ ∧ 1 ≤ zg σ
/-- what stands before an act, and behind it -/
def zAc (a j j' : Nat) (T : zT) (σ : zRow) (hs : List zRow) (S : Option (Nat × zRow)) : Prop := zWs T σ hs S ∧ zAll' (zGp j') σ hs ∧ zMs a j σ hs
theorem x_rem {v d : Nat} (hv : v < 8388608) (hd : 0 < d) (hd2 : d < 2 ^ 31) : nI v - nI v / nI d * nI d = nI (v % d) := pk_rem (by omega) hd hd2
theorem zGp.mono {j j' : Nat} {σ : zRow} (h : zGp j σ) (hj : j ≤ j') : zGp j' σ := ⟨h.1.mono hj, h.2⟩
theorem zAll'.mono {P Q : zRow → Prop} {σ : zRow} {hs : List zRow} (h : zAll' P σ hs) (hpq : ∀ ρ, P ρ → Q ρ) : zAll' Q σ hs := ⟨hpq _ h.1, fun ρ hρ => hpq _ (h.2 ρ hρ)⟩
theorem zAc.len {a j j' : Nat} {T : zT} {σ : zRow} {hs : List zRow} {S : Option (Nat × zRow)} (h : zAc a j j' T σ hs S) : hs.length ≤ 10 := h.1.2.1.1
theorem zAc.ck {a j j' : Nat} {T : zT} {σ : zRow} {hs : List zRow} {S : Option (Nat × zRow)} (h : zAc a j j' T σ hs S) : ∀ k, k < 6 → ∃ x, σ (11 + k) = nI x ∧ x ≤ 99 := fun k hk => by
  obtain ⟨x, h1, h2⟩ := h.2.1.1.1.2.2.1.2.1 k hk
  exact ⟨x, h2, h1⟩
/-- an act's record, with the row that follows -/
theorem zAc.go {a j j1 j2 : Nat} {T T' : zT} {σ σ' : zRow} {hs : List zRow} {S : Option (Nat × zRow)} (h : zAc a j j1 T σ hs S) (ha : a ≤ 1) (hj : j1 ≤ j2) (hw : zWs T' σ' ((σ :: hs).take 10) S) (hg : zGr j2 σ') (hzg : zg σ' = zg σ) (hb : ∀ M, M ≤ 10000 → (∀ k, k < 6 → ∃ x, σ (11 + k) = nI x ∧ x ≤ M) → ∀ k, k < 6 → ∃ x', σ' (11 + k) = nI x' ∧ x' ≤ M + 20) : zAc (a + 1) j j2 T' σ' ((σ :: hs).take 10) S :=
  ⟨hw, (h.2.1.mono (fun _ z => z.mono hj)).rec' ⟨hg, by rw [hzg]; exact h.2.1.1.2⟩, h.2.2.rec' ha h.len hb⟩
theorem take_ne {σ : zRow} {hs : List zRow} : (σ :: hs).take 10 ≠ [] := by intro h; cases h
/-- the fullest stock of cakes -/
theorem ck_max {σ : zRow} (h : ∀ k, k < 6 → ∃ x, x ≤ 99 ∧ σ (11 + k) = nI x) : ∃ B, B ≤ 99 ∧ (∀ k, k < 6 → ∃ x, x ≤ B ∧ σ (11 + k) = nI x) ∧ ∃ k, k < 6 ∧ σ (11 + k) = nI B := by
  have key : ∀ n, n < 6 → ∃ B, B ≤ 99 ∧ (∀ k, k ≤ n → ∃ x, x ≤ B ∧ σ (11 + k) = nI x) ∧ ∃ k, k < 6 ∧ σ (11 + k) = nI B := by
    intro n
    induction n with
    | zero =>
      intro _
      obtain ⟨x, h1, h2⟩ := h 0 (by decide)
      exact ⟨x, h1, fun k hk => ⟨x, Nat.le_refl _, by rw [show k = 0 by omega]; exact h2⟩, 0, by decide, h2⟩
    | succ n ih =>
      intro hn
      obtain ⟨B, b1, b2, k0, b3, b4⟩ := ih (by omega)
      obtain ⟨x, h1, h2⟩ := h (n + 1) hn
      by_cases hx : x ≤ B
      · refine ⟨B, b1, fun k hk => ?_, k0, b3, b4⟩
        by_cases e : k ≤ n
        · exact b2 k e
        · exact ⟨x, hx, by rw [show k = n + 1 by omega]; exact h2⟩
      · refine ⟨x, h1, fun k hk => ?_, n + 1, hn, h2⟩
        by_cases e : k ≤ n
        · obtain ⟨z, z1, z2⟩ := b2 k e
          exact ⟨z, by omega, z2⟩
        · exact ⟨x, Nat.le_refl _, by rw [show k = n + 1 by omega]; exact h2⟩
  obtain ⟨B, b1, b2, b3⟩ := key 5 (by decide)
  exact ⟨B, b1, fun k hk => b2 k (by omega), b3⟩
