/-! THE LAW'S dates: the months -/
theorem zfo_add (f g : Nat → Int32) : ∀ k j (a b : Int32), zfo (fun d u => u + (f d + g d)) j k (a + b) = zfo (fun d u => u + f d) j k a + zfo (fun d u => u + g d) j k b := by
  intro k
  induction k with
  | zero => intro j a b; rfl
  | succ k ih =>
    intro j a b
    show zfo _ (j + 1) k (a + b + (f j + g j)) = _
    rw [show a + b + (f j + g j) = (a + f j) + (b + g j) by grind, ih]
    rfl
theorem zfo_zero : ∀ k j (a : Int32), zfo (fun _ u => u + 0) j k a = a := by
  intro k
  induction k with
  | zero => intro j a; rfl
  | succ k ih => intro j a; show zfo _ (j + 1) k (a + 0) = a; rw [ih, Int32.add_zero]
theorem zfo_one (d0 : Nat) : ∀ k j (a : Int32), zfo (fun d u => u + (if d0 = d then 1 else 0)) j k a = (if j ≤ d0 ∧ d0 < j + k then a + 1 else a) := by
  intro k
  induction k with
  | zero => intro j a; rw [if_neg (by omega)]; rfl
  | succ k ih =>
    intro j a
    show zfo _ (j + 1) k (a + (if d0 = j then 1 else 0)) = _
    rw [ih]
    by_cases h : d0 = j
    · rw [if_pos h, if_neg (by omega), if_pos (by omega)]
    · rw [if_neg h, Int32.add_zero]
      by_cases h2 : j + 1 ≤ d0 ∧ d0 < j + 1 + k
      · rw [if_pos h2, if_pos (by omega)]
      · rw [if_neg h2, if_neg (by omega)]
section DB
variable {T : zT} {σ : zRow} {hs : List zRow} {S : Option (Nat × zRow)}
/-- the birthdays of a month, day by day -/
theorem s_mon_days (I : zIv σ) {m : Nat} (h1 : 1 ≤ m) (h2 : m ≤ 12) : zfo (fun d u => u + s_cnt σ 4 (nI ((m - 1) * 30 + (d - 1)))) 1 30 (0 : Int32) = s_mon σ (nI m) := by
  have n10 := I.n10
  have key : ∀ n, n ≤ zn σ → zfo (fun d u => u + zfo (fun i u => if σ (21 + 13 * i + 4) = nI ((m - 1) * 30 + (d - 1)) then u + 1 else u) 0 n 0) 1 30 (0 : Int32) = zfo (fun i u => if σ (21 + 13 * i + 4) = -1 then u else if σ (21 + 13 * i + 4) / 30 + 1 = nI m then u + 1 else u) 0 n 0 := by
    intro n
    induction n with
    | zero => intro _; exact zfo_zero 30 1 0
    | succ n ih =>
      intro hn
      have e1 : ∀ d, 1 ≤ d → d < 1 + 30 → ∀ u : Int32, u + zfo (fun i u => if σ (21 + 13 * i + 4) = nI ((m - 1) * 30 + (d - 1)) then u + 1 else u) 0 (n + 1) 0 = u + (zfo (fun i u => if σ (21 + 13 * i + 4) = nI ((m - 1) * 30 + (d - 1)) then u + 1 else u) 0 n 0 + (if σ (21 + 13 * n + 4) = nI ((m - 1) * 30 + (d - 1)) then 1 else 0)) := fun d _ _ u => by
        rw [zfo_succ, Nat.zero_add]
        split <;> grind
      rw [zfo_congr (st' := fun d u => u + (zfo (fun i u => if σ (21 + 13 * i + 4) = nI ((m - 1) * 30 + (d - 1)) then u + 1 else u) 0 n 0 + (if σ (21 + 13 * n + 4) = nI ((m - 1) * 30 + (d - 1)) then 1 else 0))) (fun d a b u => e1 d a b u)]
      rw [show (0 : Int32) = 0 + 0 from rfl, zfo_add, ← show (0 : Int32) = 0 + 0 from rfl, ih (by omega), zfo_succ (k := n), Nat.zero_add]
      rcases (I.c (c := n) (by omega)).2.2.1 with hb | ⟨x, hx, hb⟩
      · rw [if_pos hb]
        have : zfo (fun d u => u + (if σ (21 + 13 * n + 4) = nI ((m - 1) * 30 + (d - 1)) then (1 : Int32) else 0)) 1 30 0 = 0 := by
          rw [zfo_congr (st' := fun _ u => u + 0) (fun d a b u => by rw [if_neg (show ¬ σ (21 + 13 * n + 4) = nI ((m - 1) * 30 + (d - 1)) from fun z => absurd (z.symm.trans hb) (by rw [q_m1ne (by omega)]; exact id))])]
          exact zfo_zero 30 1 0
        rw [this, Int32.add_zero]
      · have hbn : ¬ σ (21 + 13 * n + 4) = -1 := by rw [hb, q_m1ne (by omega)]; exact id
        have hd30 : nI x / 30 + 1 = nI (x / 30 + 1) := by rw [show (30 : Int32) = nI 30 from rfl, pk_div (by omega) (by decide) (by decide), nI_1]
        rw [if_neg hbn, hb, hd30]
        have e2 : zfo (fun d u => u + (if nI x = nI ((m - 1) * 30 + (d - 1)) then (1 : Int32) else 0)) 1 30 0 = (if x / 30 + 1 = m then 1 else 0) := by
          rw [zfo_congr (st' := fun d u => u + (if (if x / 30 + 1 = m then x % 30 + 1 else 0) = d then 1 else 0)) (fun d a b u => by
            have hiff : (nI x = nI ((m - 1) * 30 + (d - 1))) ↔ ((if x / 30 + 1 = m then x % 30 + 1 else 0) = d) := by
              rw [nI_eq (by omega) (by omega)]
              split <;> omega
            by_cases hh : nI x = nI ((m - 1) * 30 + (d - 1))
            · rw [if_pos hh, if_pos (hiff.mp hh)]
            · rw [if_neg hh, if_neg (fun z => hh (hiff.mpr z))]), zfo_one]
          by_cases hm : x / 30 + 1 = m
          · rw [if_pos hm, if_pos (by omega), if_pos hm]; rfl
          · rw [if_neg hm, if_neg (by omega), if_neg hm]
        rw [e2]
        by_cases hm : x / 30 + 1 = m
        · rw [if_pos hm, if_pos (by rw [hm])]
        · rw [if_neg hm, if_neg (fun z => hm ((nI_eq (by omega) (by omega)).mp z)), Int32.add_zero]
  exact key (zn σ) (Nat.le_refl _)
theorem l_d144 (h : zWs T σ hs S) {m : Nat} (h1 : 1 ≤ m) (h2 : m ≤ 12) {w1 w2 w3 w4 w5 : Int32} : ∀ k j fuel u, 1 ≤ j → j + k = 31 → k < fuel → lp_L_dates_144 w1 w2 w3 w4 w5 (nI m) fuel u (nI j) T = some ((zfo (fun d u => u + s_cnt σ 4 (nI ((m - 1) * 30 + (d - 1)))) j k u, nI 31), T) := by
  intro k
  induction k with
  | zero =>
    intro j fuel u h3 hj hk
    obtain ⟨f, rfl⟩ : ∃ f, fuel = f + 1 := ⟨fuel - 1, by omega⟩
    obtain rfl : j = 31 := by omega
    rw [lp_L_dates_144, if_pos (by decide)]; rfl
  | succ k ih =>
    intro j fuel u h3 hj hk
    obtain ⟨f, rfl⟩ : ∃ f, fuel = f + 1 := ⟨fuel - 1, by omega⟩
    rw [lp_L_dates_144, if_neg (show ¬ (31 : Int32) ≤ nI j from nI_ge (b := 31) (by omega) (by decide)), g_childrenOn h h1 h2 h3 (by omega), zbi_s, zl_s, zl_s, nI_1, ih (j + 1) f _ (by omega) (by omega) (by omega)]
    rfl
end DB
