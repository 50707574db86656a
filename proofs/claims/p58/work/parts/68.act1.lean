/-! THE LAW'S act: days passed -/
def zGp (j : Nat) (σ : zRow) : Prop := zGr j σ ∧ 1 ≤ zg σ
/-- what stands before an act, and behind it -/
def zAc (a j j' : Nat) (T : zT) (σ : zRow) (hs : List zRow) (S : Option (Nat × zRow)) : Prop := zWs T σ hs S ∧ zAll' (zGp j') σ hs ∧ zMs a j σ hs
theorem x_rem {v d : Nat} (hv : v < 8388608) (hd : 0 < d) (hd2 : d < 2 ^ 31) : nI v - nI v / nI d * nI d = nI (v % d) := pk_rem (by omega) hd hd2
theorem zGp.mono {j j' : Nat} {σ : zRow} (h : zGp j σ) (hj : j ≤ j') : zGp j' σ := ⟨h.1.mono hj, h.2⟩
theorem zAll'.mono {P Q : zRow → Prop} {σ : zRow} {hs : List zRow} (h : zAll' P σ hs) (hpq : ∀ ρ, P ρ → Q ρ) : zAll' Q σ hs := ⟨hpq _ h.1, fun ρ hρ => hpq _ (h.2 ρ hρ)⟩
theorem zAc.len {a j j' : Nat} {T : zT} {σ : zRow} {hs : List zRow} {S : Option (Nat × zRow)} (h : zAc a j j' T σ hs S) : hs.length ≤ 10 := h.1.2.1.1
theorem zAc.ck {a j j' : Nat} {T : zT} {σ : zRow} {hs : List zRow} {S : Option (Nat × zRow)} (h : zAc a j j' T σ hs S) : ∀ k, k < 6 → ∃ x, σ (11 + k) = nI x ∧ x ≤ 99 := fun k hk => by
  obtain ⟨x, h1, h2⟩ := h.2.1.1.1.2.2.1.2.1 k hk
  exact ⟨x, h2, h1⟩
/-- an act's record, with the row that follows -/
theorem zAc.go {a j j1 j2 : Nat} {T T' : zT} {σ σ' : zRow} {hs : List zRow} {S : Option (Nat × zRow)} (h : zAc a j j1 T σ hs S) (ha : a ≤ 1) (hj : j1 ≤ j2) (hw : zWs T' σ' ((σ :: hs).take 10) S) (hg : zGr j2 σ') (hzg : zg σ' = zg σ) (hb : ∀ k x, k < 6 → σ (11 + k) = nI x → x ≤ 99 → ∃ x', σ' (11 + k) = nI x' ∧ x' ≤ x + 20) : zAc (a + 1) j j2 T' σ' ((σ :: hs).take 10) S :=
  ⟨hw, (h.2.1.mono (fun _ z => z.mono hj)).rec' ⟨hg, by rw [hzg]; exact h.2.1.1.2⟩, h.2.2.rec' ha h.len hb h.ck⟩
theorem take_ne {σ : zRow} {hs : List zRow} : (σ :: hs).take 10 ≠ [] := by intro h; cases h
