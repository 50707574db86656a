/-! THE LAW'S dates: the busiest month -/
def zBu (σ : zRow) (m : Nat) : Int32 × Int32 := zfo (s_bus σ) 1 m (-1, 0)
def zAll (σ : zRow) (m : Nat) : Int32 := zfo (fun m u => u + s_mon σ (nI m)) 1 m 0
section DC
variable {T : zT} {σ : zRow} {hs : List zRow} {S : Option (Nat × zRow)}
theorem zBu_S {m : Nat} : zBu σ (m + 1) = if s_mon σ (nI (1 + m)) ≤ (zBu σ m).2 then zBu σ m else (nI (1 + m), s_mon σ (nI (1 + m))) := by
  unfold zBu
  rw [zfo_succ]
  rfl
theorem zAll_S {m : Nat} : zAll σ (m + 1) = zAll σ m + s_mon σ (nI (1 + m)) := by
  unfold zAll
  rw [zfo_succ]
theorem s_mon_n (I : zIv σ) (m : Int32) : ∃ n, n ≤ 10 ∧ s_mon σ m = nI n := by
  have n10 := I.n10
  have key : ∀ k, ∃ n, n ≤ k ∧ zfo (fun i u => if σ (21 + 13 * i + 4) = -1 then u else if σ (21 + 13 * i + 4) / 30 + 1 = m then u + 1 else u) 0 k (0 : Int32) = nI n := by
    intro k
    induction k with
    | zero => exact ⟨0, Nat.le_refl _, rfl⟩
    | succ k ih =>
      obtain ⟨n, h1, h2⟩ := ih
      rw [zfo_succ, h2]
      split
      · exact ⟨n, by omega, rfl⟩
      · split
        · exact ⟨n + 1, by omega, nI_1 _⟩
        · exact ⟨n, by omega, rfl⟩
  obtain ⟨n, h1, h2⟩ := key (zn σ)
  exact ⟨n, by omega, h2⟩
theorem zBu_is (I : zIv σ) : ∀ m, ∃ q, q ≤ 10 ∧ (zBu σ m).2 = nI q ∧ (((zBu σ m).1 = -1 ∧ q = 0) ∨ ∃ i, 1 ≤ i ∧ i ≤ m ∧ (zBu σ m).1 = nI i) := by
  intro m
  induction m with
  | zero => exact ⟨0, by decide, rfl, Or.inl ⟨rfl, rfl⟩⟩
  | succ m ih =>
    obtain ⟨q, h1, h2, h3⟩ := ih
    rw [zBu_S]
    by_cases h : s_mon σ (nI (1 + m)) ≤ (zBu σ m).2
    · rw [if_pos h]
      exact ⟨q, h1, h2, h3.imp id (fun ⟨i, a, b, c⟩ => ⟨i, a, by omega, c⟩)⟩
    · rw [if_neg h]
      obtain ⟨n, hn, en⟩ := s_mon_n I (nI (1 + m))
      exact ⟨n, hn, en, Or.inr ⟨1 + m, by omega, by omega, rfl⟩⟩
theorem zBu_up (I : zIv σ) {m i : Nat} (hi : 1 ≤ i) (him : i ≤ m) (e : (zBu σ m).1 = nI i) : ∀ k, ∃ i', i ≤ i' ∧ i' ≤ m + k ∧ (zBu σ (m + k)).1 = nI i' := by
  intro k
  induction k with
  | zero => exact ⟨i, Nat.le_refl _, by omega, e⟩
  | succ k ih =>
    obtain ⟨i', h1, h2, h3⟩ := ih
    rw [show m + (k + 1) = (m + k) + 1 by omega, zBu_S]
    by_cases h : s_mon σ (nI (1 + (m + k))) ≤ (zBu σ (m + k)).2
    · rw [if_pos h]; exact ⟨i', h1, by omega, h3⟩
    · rw [if_neg h]; exact ⟨1 + (m + k), by omega, by omega, rfl⟩
theorem l_d131 (h : zWs T σ hs S) {w1 : Int32} : ∀ k j fuel, j + k = 12 → k < fuel → lp_L_dates_131 w1 (zBu σ 12).1 fuel 1 (zBu σ j).2 (zAll σ j) (nI (1 + j)) T = some ((1, (zBu σ 12).2, zAll σ 12, nI 13), T) := by
  intro k
  induction k with
  | zero =>
    intro j fuel hj hk
    obtain ⟨f, rfl⟩ : ∃ f, fuel = f + 1 := ⟨fuel - 1, by omega⟩
    obtain rfl : j = 12 := by omega
    rw [lp_L_dates_131, if_pos (by decide)]
  | succ k ih =>
    intro j fuel hj hk
    obtain ⟨f, rfl⟩ : ∃ f, fuel = f + 1 := ⟨fuel - 1, by omega⟩
    have e := ih (j + 1) f (by omega) (by omega)
    have e144 : ∀ {w1 w2 w3 w4 w5 : Int32}, lp_L_dates_144 w1 w2 w3 w4 w5 (nI (1 + j)) 32 0 1 T = some ((s_mon σ (nI (1 + j)), nI 31), T) := fun {w1 w2 w3 w4 w5} => by
      have := l_d144 h (m := 1 + j) (by omega) (by omega) (w1 := w1) (w2 := w2) (w3 := w3) (w4 := w4) (w5 := w5) 30 1 32 0 (by omega) (by omega) (by omega)
      rw [s_mon_days h.I (by omega) (by omega)] at this
      exact this
    rw [lp_L_dates_131, if_neg (show ¬ (13 : Int32) ≤ nI (1 + j) from nI_ge (b := 13) (by omega) (by decide)), e144, zb_s]
    simp only [zl_s, nI_1]
    rw [if_neg (show ¬ (1 : Int32) = 0 by decide)]
    obtain ⟨v, hv, ev⟩ := s_mon_n h.I (nI (1 + j))
    obtain ⟨q, hq, eq, hq3⟩ := zBu_is h.I j
    have es := zBu_S (σ := σ) (m := j)
    have em : (if (zBu σ j).2 < s_mon σ (nI (1 + j)) then s_mon σ (nI (1 + j)) else (zBu σ j).2) = (zBu σ (j + 1)).2 := by
      rw [es]
      by_cases hh : s_mon σ (nI (1 + j)) ≤ (zBu σ j).2
      · rw [if_pos hh, if_neg (Int32.not_lt.mpr hh)]
      · rw [if_neg hh, if_pos (Int32.not_le.mp hh)]
    have ef : lp_L_dates_131 w1 (zBu σ 12).1 f 1 (if (zBu σ j).2 < s_mon σ (nI (1 + j)) then s_mon σ (nI (1 + j)) else (zBu σ j).2) (zAll σ j + s_mon σ (nI (1 + j))) (nI (1 + j + 1)) T = some ((1, (zBu σ 12).2, zAll σ 12, nI 13), T) := by
      rw [em, ← zAll_S, show 1 + j + 1 = 1 + (j + 1) by omega]
      exact e
    have hB : ¬ s_mon σ (nI (1 + j)) ≤ (zBu σ j).2 → ∃ i', 1 + j ≤ i' ∧ i' ≤ 12 ∧ (zBu σ 12).1 = nI i' := fun hh => by
      rw [if_neg hh] at es
      obtain ⟨i', a, b, c⟩ := zBu_up h.I (m := j + 1) (i := 1 + j) (by omega) (by omega) (by rw [es]) (12 - (j + 1))
      rw [show j + 1 + (12 - (j + 1)) = 12 by omega] at b c
      exact ⟨i', a, b, c⟩
    have hB0 : s_mon σ (nI (1 + j)) ≠ 0 → 0 < (zBu σ 12).1 := fun hne => by
      by_cases hh : s_mon σ (nI (1 + j)) ≤ (zBu σ j).2
      · have hv0 : 0 < v := by
          rcases Nat.eq_zero_or_pos v with rfl | h; exact absurd ev hne; exact h
        rw [ev, eq, nI_leI (by omega) (by omega)] at hh
        rcases hq3 with ⟨-, h0⟩ | ⟨i, a, b, c⟩
        · omega
        · obtain ⟨i', a', b', c'⟩ := zBu_up h.I a b c (12 - j)
          rw [show j + (12 - j) = 12 by omega] at b' c'
          rw [c']
          exact nI_lt (a := 0) (by omega) (by omega)
      · obtain ⟨i', a, b, c⟩ := hB hh
        rw [c]
        exact nI_lt (a := 0) (by omega) (by omega)
    have k63 : (if s_mon σ (nI (1 + j)) ≤ (zBu σ j).2 then lp_L_dates_131 w1 (zBu σ 12).1 f 1 (if (zBu σ j).2 < s_mon σ (nI (1 + j)) then s_mon σ (nI (1 + j)) else (zBu σ j).2) (zAll σ j + s_mon σ (nI (1 + j))) (nI (1 + j + 1)) T else if (zBu σ 12).1 < nI (1 + j) then lp_L_dates_131 w1 (zBu σ 12).1 f 0 (if (zBu σ j).2 < s_mon σ (nI (1 + j)) then s_mon σ (nI (1 + j)) else (zBu σ j).2) (zAll σ j + s_mon σ (nI (1 + j))) (nI (1 + j + 1)) T else lp_L_dates_131 w1 (zBu σ 12).1 f 1 (if (zBu σ j).2 < s_mon σ (nI (1 + j)) then s_mon σ (nI (1 + j)) else (zBu σ j).2) (zAll σ j + s_mon σ (nI (1 + j))) (nI (1 + j + 1)) T) = some ((1, (zBu σ 12).2, zAll σ 12, nI 13), T) := by
      by_cases hh : s_mon σ (nI (1 + j)) ≤ (zBu σ j).2
      · rw [if_pos hh]; exact ef
      · obtain ⟨i', a, b, c⟩ := hB hh
        have hng : ¬ (zBu σ 12).1 < nI (1 + j) := by rw [c]; exact nI_nlt (by omega) (by omega)
        rw [if_neg hh, if_neg hng]; exact ef
    by_cases hb : 0 < (zBu σ 12).1
    · rw [if_pos hb]; exact k63
    · rw [if_neg hb, if_pos (Classical.byContradiction fun z => hb (hB0 z))]; exact k63
end DC
