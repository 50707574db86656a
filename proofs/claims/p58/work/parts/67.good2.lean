/-! WHAT THE ACTS KEEP: stocks -/
section GOOD2
variable {σ : zRow} {j : Nat}
theorem zNC.other {p : Nat} {v : Int32} (hN : zNC σ) (h5 : p ≠ 5) (hp : ∀ c, p ≠ 21 + 13 * c + 3 ∧ p ≠ 21 + 13 * c + 4) : zNC (upd σ p v) := by
  intro a b ha hb hab e1 e2
  rw [zn_upd h5] at ha hb
  rw [pk_un (Ne.symm (hp a).2)] at e1 e2
  rw [pk_un (Ne.symm (hp b).2)] at e2
  rw [pk_un (Ne.symm (hp a).1), pk_un (Ne.symm (hp b).1)]
  exact hN a b ha hb hab e1 e2
theorem zGr.buy {a n : Nat} (g : zGr j σ) (hj : j ≤ 1000) (ha : σ 3 = nI a) (hn : n ≤ 301) (h9 : a + n ≤ 9999) : zGr (j + 1) (upd (upd σ 3 (nI (a + n))) 7 (σ 7 + nI n)) := by
  obtain ⟨h1, h2, ⟨⟨a', ha', ea'⟩, h4, h5⟩, y, t, h6, h7, h8, h10⟩ := g
  have eaa : nI a = nI a' := ha.symm.trans ea'
  have : a = a' := q_inj eaa (by omega) (by omega)
  subst this
  have e3 : upd (upd σ 3 (nI (a + n))) 7 (σ 7 + nI n) 3 = nI (a + n) := by rw [pk_un (by decide), pk_us]
  have e6 : upd (upd σ 3 (nI (a + n))) 7 (σ 7 + nI n) 6 = σ 6 := by rw [pk_un (by decide), pk_un (by decide)]
  have e7 : upd (upd σ 3 (nI (a + n))) 7 (σ 7 + nI n) 7 = σ 7 + nI n := pk_us
  have e8 : upd (upd σ 3 (nI (a + n))) 7 (σ 7 + nI n) 8 = σ 8 := by rw [pk_un (by decide), pk_un (by decide)]
  have hC : a + n ≤ 300 + 301 * (j + 1) := Nat.le_trans (Nat.add_le_add ha' hn) (Nat.le_of_eq (by rw [Nat.mul_add_one, Nat.add_assoc]))
  refine ⟨(h1.other (by decide) (fun c => ⟨by omega, by omega⟩)).other (by decide) (fun c => ⟨by omega, by omega⟩), ?_, ⟨⟨a + n, hC, e3⟩, fun k hk => by rw [pk_un (by omega), pk_un (by omega)]; exact h4 k hk, fun c hc => ?_⟩, y, t, by rw [pk_un (by decide), pk_un (by decide)]; exact h6, by rw [pk_un (by decide), pk_un (by decide)]; exact h7, h8, Nat.le_trans h10 (Nat.mul_le_mul (Nat.le_refl _) (Nat.le_succ _))⟩
  · rw [e3, e6, e7, e8, ← nI_add, ← ha]
    grind
  · rw [zn_upd (by decide), zn_upd (by decide)] at hc
    obtain ⟨b, p, w, e1, e2, e3, e4, e5, e6⟩ := h5 c hc
    have hm : 400 * j ≤ 400 * (j + 1) := Nat.mul_le_mul (Nat.le_refl _) (Nat.le_succ _)
    rw [pk_un (by omega), pk_un (by omega), pk_un (by omega), pk_un (by omega), pk_un (by omega), pk_un (by omega)]
    exact ⟨b, p, w, e1, Nat.le_trans e2 (Nat.add_le_add (Nat.le_refl _) hm), e3, Nat.le_trans e4 hm, e5, e6⟩
theorem zGr.bake {k b : Nat} (g : zGr j σ) (hk : k < 6) (hb : b ≤ 99) : zGr j (upd σ (11 + k) (nI b)) := by
  obtain ⟨h1, h2, ⟨h3, h4, h5⟩, y, t, h6, h7, h8⟩ := g
  refine ⟨h1.other (by omega) (fun c => ⟨by omega, by omega⟩), ?_, ⟨by rw [pk_un (by omega)]; exact h3, fun i hi => ?_, fun c hc => ?_⟩, y, t, by rw [pk_un (by omega)]; exact h6, by rw [pk_un (by omega)]; exact h7, h8⟩
  · rw [pk_un (by omega), pk_un (by omega), pk_un (by omega), pk_un (by omega)]; exact h2
  · by_cases e : i = k
    · subst e; exact ⟨b, hb, pk_us⟩
    · rw [pk_un (by omega)]; exact h4 i hi
  · rw [zn_upd (by omega)] at hc
    rw [pk_un (by omega), pk_un (by omega), pk_un (by omega)]
    exact h5 c hc
end GOOD2
