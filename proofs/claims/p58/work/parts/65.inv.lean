/-! WHAT THE ACTS KEEP: of every row (the present one and the history's), j the number of acts done -/
/-- a row that j acts can lead to -/
def zGr (j : Nat) (σ : zRow) : Prop := zNC σ ∧ σ 3 - σ 6 - σ 7 + σ 8 = 0 ∧ zNr (fun _ => 400 * j) 99 (300 + 301 * j) σ ∧ ∃ y t, σ 0 = nI y ∧ σ 1 = nI t ∧ t < 360 ∧ 360 * y + t ≤ 400 * j
theorem zGr.mono {j j' : Nat} {σ : zRow} (h : zGr j σ) (hj : j ≤ j') : zGr j' σ := by
  obtain ⟨h1, h2, ⟨⟨a, ha, ea⟩, h4, h5⟩, y, t, h6, h7, h8, h9⟩ := h
  refine ⟨h1, h2, ⟨⟨a, by omega, ea⟩, h4, fun c hc => ?_⟩, y, t, h6, h7, h8, by omega⟩
  obtain ⟨a, p, w, e1, e2, e3, e4, e5, e6⟩ := h5 c hc
  have e2' : a ≤ 99 + 400 * j := e2
  have e4' : p ≤ 400 * j := e4
  exact ⟨a, p, w, e1, (by show a ≤ 99 + 400 * j'; omega), e3, (by show p ≤ 400 * j'; omega), e5, e6⟩
theorem zGr.pw {j : Nat} {σ : zRow} (h : zGr j σ) (hj : j ≤ 1000) : zPW σ := fun c hc => by
  obtain ⟨a, p, w, e1, e2, e3, e4, e5, e6⟩ := h.2.2.1.2.2 c hc
  have e4' : p ≤ 400 * j := e4
  exact ⟨p, w, e3, by omega, e5, e6⟩
/-- how full the stocks of cakes are, against the length of the history; a: records of the act under way -/
def zMs (a j : Nat) (σ : zRow) (hs : List zRow) : Prop := ((∀ i ρ, (σ :: hs)[i]? = some ρ → ∀ k, k < 6 → ∃ x, ρ (11 + k) = nI x ∧ x ≤ 36 + 20 * (hs.length - i)) ∧ hs.length ≤ 2 * j + a) ∨ 15 ≤ hs.length + j
def zAll' (P : zRow → Prop) (σ : zRow) (hs : List zRow) : Prop := P σ ∧ ∀ ρ ∈ hs, P ρ
theorem zAll'.rec' {P : zRow → Prop} {σ σ' : zRow} {hs : List zRow} (h : zAll' P σ hs) (h' : P σ') : zAll' P σ' ((σ :: hs).take 10) := ⟨h', fun ρ hρ => by
  rcases List.mem_cons.mp (List.mem_of_mem_take hρ) with rfl | h2
  · exact h.1
  · exact h.2 ρ h2⟩
theorem zMs.rec' {a j : Nat} {σ σ' : zRow} {hs : List zRow} (h : zMs a j σ hs) (ha : a ≤ 1) (hl : hs.length ≤ 10) (hb : ∀ M, M ≤ 10000 → (∀ k, k < 6 → ∃ x, σ (11 + k) = nI x ∧ x ≤ M) → ∀ k, k < 6 → ∃ x', σ' (11 + k) = nI x' ∧ x' ≤ M + 20) : zMs (a + 1) j σ' ((σ :: hs).take 10) := by
  have elen : ((σ :: hs).take 10).length = min 10 (hs.length + 1) := by rw [List.length_take, List.length_cons]
  unfold zMs
  rw [elen]
  rcases h with ⟨h1, h2⟩ | h
  · by_cases hf : hs.length = 10
    · exact Or.inr (by omega)
    · refine Or.inl ⟨fun i ρ hi k hk => ?_, by omega⟩
      match i, hi with
      | 0, hi =>
        rw [List.getElem?_cons_zero] at hi
        obtain rfl := Option.some.inj hi
        obtain ⟨x', g1, g2⟩ := hb (36 + 20 * (hs.length - 0)) (by omega) (h1 0 σ rfl) k hk
        exact ⟨x', g1, by omega⟩
      | i + 1, hi =>
        rw [List.getElem?_cons_succ, List.getElem?_take] at hi
        by_cases h10 : i < 10
        · rw [if_pos h10] at hi
          obtain ⟨x, e1, e2⟩ := h1 i ρ hi k hk
          exact ⟨x, e1, by omega⟩
        · rw [if_neg h10] at hi; cases hi
  · exact Or.inr (by omega)
/-- an undo -/
theorem zMs.undo {j : Nat} {σ ρ : zRow} {hs : List zRow} (h : zMs 2 j σ (ρ :: hs)) : zMs 0 (j + 1) ρ hs := by
  rcases h with ⟨h1, h2⟩ | h
  · refine Or.inl ⟨fun i τ hi k hk => ?_, by rw [List.length_cons] at h2; omega⟩
    obtain ⟨x, e1, e2⟩ := h1 (i + 1) τ (by rw [List.getElem?_cons_succ]; exact hi) k hk
    rw [List.length_cons] at e2
    exact ⟨x, e1, by omega⟩
  · rw [List.length_cons] at h
    exact Or.inr (by omega)
theorem zMs.next {j : Nat} {σ : zRow} {hs : List zRow} (h : zMs 2 j σ hs) : zMs 0 (j + 1) σ hs := by
  rcases h with ⟨h1, h2⟩ | h
  · exact Or.inl ⟨h1, by omega⟩
  · exact Or.inr (by omega)
theorem zMs.up {a b j : Nat} {σ : zRow} {hs : List zRow} (h : zMs a j σ hs) (hab : a ≤ b) : zMs b j σ hs := by
  rcases h with ⟨h1, h2⟩ | h
  · exact Or.inl ⟨h1, by omega⟩
  · exact Or.inr h
/-- where no cake could be baked, there is something to undo -/
theorem zMs.full {a j k x : Nat} {σ : zRow} {hs : List zRow} (h : zMs a j σ hs) (hj : j ≤ 11) (hk : k < 6) (e : σ (11 + k) = nI x) (hx : 79 < x) (hx9 : x ≤ 99) : hs ≠ [] := by
  intro hn
  subst hn
  rcases h with ⟨h1, h2⟩ | h
  · obtain ⟨y, e1, e2⟩ := h1 0 σ rfl k hk
    have : nI x = nI y := e.symm.trans e1
    rw [List.length_nil] at e2
    have := q_inj this (by omega) (by omega)
    omega
  · simp only [List.length_nil] at h; omega
