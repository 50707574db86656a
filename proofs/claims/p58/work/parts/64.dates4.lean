/-! THE LAW'S dates: kinds of cake; the end -/
def zKi (σ : zRow) (j i : Nat) : Int32 := zfo (fun c u => if σ (21 + 13 * c + 0) = nI i then u + 1 else u) 0 j 0
def zBc (σ : zRow) (j : Nat) : Int32 := zfo (fun c u => if σ (21 + 13 * c + 4) = -1 then u else u + 1) 0 j 0
def zLk (σ : zRow) (m : Nat) : Int32 := zfo (s_mwc σ) 1 m 0
section DD
variable {T : zT} {σ : zRow} {hs : List zRow} {S : Option (Nat × zRow)}
theorem zLk_S {m : Nat} : zLk σ (m + 1) = s_mwc σ (1 + m) (zLk σ m) := by
  unfold zLk
  rw [zfo_succ]
theorem zLk_is : ∀ m, m ≤ 5 → ∃ L, L ≤ m ∧ zLk σ m = nI L ∧ ∀ k, k ≤ m → s_cnt σ 0 (nI k) < s_cnt σ 0 (nI L) ∨ (s_cnt σ 0 (nI k) = s_cnt σ 0 (nI L) ∧ L ≤ k) := by
  intro m
  induction m with
  | zero => intro _; exact ⟨0, Nat.le_refl _, rfl, fun k hk => Or.inr ⟨by rw [show k = 0 by omega], Nat.zero_le _⟩⟩
  | succ m ih =>
    intro hm
    obtain ⟨L, h1, h2, h3⟩ := ih (by omega)
    rw [zLk_S, h2]
    unfold s_mwc
    by_cases h : s_cnt σ 0 (nI (1 + m)) ≤ s_cnt σ 0 (nI L)
    · rw [if_pos h]
      refine ⟨L, by omega, rfl, fun k hk => ?_⟩
      by_cases hk2 : k ≤ m
      · exact h3 k hk2
      · obtain rfl : k = 1 + m := by omega
        by_cases e : s_cnt σ 0 (nI (1 + m)) = s_cnt σ 0 (nI L)
        · exact Or.inr ⟨e, by omega⟩
        · exact Or.inl (Int32.lt_of_le_of_ne h e)
    · rw [if_neg h]
      refine ⟨1 + m, by omega, rfl, fun k hk => ?_⟩
      have hlt := Int32.not_le.mp h
      by_cases hk2 : k ≤ m
      · rcases h3 k hk2 with a | ⟨a, -⟩
        · exact Or.inl (Int32.lt_trans a hlt)
        · exact Or.inl (a ▸ hlt)
      · obtain rfl : k = 1 + m := by omega
        exact Or.inr ⟨rfl, Nat.le_refl _⟩
theorem s_all (I : zIv σ) : zAll σ 12 = zBc σ (zn σ) := by
  have n10 := I.n10
  have key : ∀ n, n ≤ zn σ → zfo (fun m u => u + zfo (fun i u => if σ (21 + 13 * i + 4) = -1 then u else if σ (21 + 13 * i + 4) / 30 + 1 = nI m then u + 1 else u) 0 n 0) 1 12 (0 : Int32) = zBc σ n := by
    intro n
    induction n with
    | zero => intro _; exact zfo_zero 12 1 0
    | succ n ih =>
      intro hn
      have eB : zBc σ (n + 1) = if σ (21 + 13 * n + 4) = -1 then zBc σ n else zBc σ n + 1 := by unfold zBc; rw [zfo_succ, Nat.zero_add]
      rw [eB]
      rcases (I.c (c := n) (by omega)).2.2.1 with hb | ⟨x, hx, hb⟩
      · rw [if_pos hb, ← ih (by omega)]
        exact zfo_congr (fun d a b u => by rw [zfo_succ, Nat.zero_add, if_pos hb])
      · have hbn : ¬ σ (21 + 13 * n + 4) = -1 := by rw [hb, q_m1ne (by omega)]; exact id
        have hd30 : nI x / 30 + 1 = nI (x / 30 + 1) := by rw [show (30 : Int32) = nI 30 from rfl, pk_div (by omega) (by decide) (by decide), nI_1]
        rw [if_neg hbn, ← ih (by omega)]
        rw [zfo_congr (st' := fun m u => u + (zfo (fun i u => if σ (21 + 13 * i + 4) = -1 then u else if σ (21 + 13 * i + 4) / 30 + 1 = nI m then u + 1 else u) 0 n 0 + (if x / 30 + 1 = m then 1 else 0))) (fun m a b u => by
          rw [zfo_succ, Nat.zero_add, if_neg hbn, hb, hd30]
          by_cases hm : x / 30 + 1 = m
          · rw [if_pos (by rw [hm]), if_pos hm]
          · rw [if_neg (fun z => hm ((nI_eq (by omega) (by omega)).mp z)), if_neg hm, Int32.add_zero])]
        rw [show (0 : Int32) = 0 + 0 from rfl, zfo_add, ← show (0 : Int32) = 0 + 0 from rfl, zfo_one, if_pos (by omega)]
        rfl
  exact key (zn σ) (Nat.le_refl _)
theorem zBc_sub : ∀ k j (a : Int32), zfo (fun c u => u - (if σ (21 + 13 * c + 4) = -1 then 0 else 1)) j k a = a - zfo (fun c u => if σ (21 + 13 * c + 4) = -1 then u else u + 1) j k (0 : Int32) := by
  have sh : ∀ k j (a : Int32), zfo (fun c u => if σ (21 + 13 * c + 4) = -1 then u else u + 1) j k a = a + zfo (fun c u => if σ (21 + 13 * c + 4) = -1 then u else u + 1) j k (0 : Int32) := by
    intro k
    induction k with
    | zero => intro j a; exact (Int32.add_zero a).symm
    | succ k ih =>
      intro j a
      show zfo _ (j + 1) k (if σ (21 + 13 * j + 4) = -1 then a else a + 1) = a + zfo _ (j + 1) k (if σ (21 + 13 * j + 4) = -1 then 0 else 0 + 1)
      by_cases h : σ (21 + 13 * j + 4) = -1
      · rw [if_pos h, if_pos h, ih]
      · rw [if_neg h, if_neg h, ih, ih (j + 1) (0 + 1)]; grind
  intro k
  induction k with
  | zero => intro j a; show a = a - 0; grind
  | succ k ih =>
    intro j a
    show zfo _ (j + 1) k (a - (if σ (21 + 13 * j + 4) = -1 then 0 else 1)) = a - zfo _ (j + 1) k (if σ (21 + 13 * j + 4) = -1 then 0 else 0 + 1)
    rw [ih]
    by_cases h : σ (21 + 13 * j + 4) = -1
    · rw [if_pos h, if_pos h]; grind
    · rw [if_neg h, if_neg h, sh k (j + 1) (0 + 1)]; grind
theorem l_d239 {w1 w2 w6 : Int32} : ∀ k j fuel a (T : zT), zWs T σ hs S → (∀ i, i < 6 → T.2 0 8 i = zKi σ j i) → j + k = zn σ → k < fuel → ∃ T', lp_L_dates_t_239 w1 w2 w6 fuel a (nI j) T = some ((zfo (fun c u => u - (if σ (21 + 13 * c + 4) = -1 then 0 else 1)) j k a, nI (zn σ)), T') ∧ zWs T' σ hs S ∧ ∀ i, i < 6 → T'.2 0 8 i = zKi σ (zn σ) i := by
  intro k
  induction k with
  | zero =>
    intro j fuel a T h hK hj hk
    obtain ⟨f, rfl⟩ : ∃ f, fuel = f + 1 := ⟨fuel - 1, by omega⟩
    obtain rfl : j = zn σ := by omega
    refine ⟨T, ?_, h, hK⟩
    rw [lp_L_dates_t_239, g_childCount h, zb_s]
    simp only [zl_s]
    rw [zk_self, if_pos (Int32.le_refl _)]; rfl
  | succ k ih =>
    intro j fuel a T h hK hj hk
    obtain ⟨f, rfl⟩ : ∃ f, fuel = f + 1 := ⟨fuel - 1, by omega⟩
    have n10 := h.I.n10
    have hjn : j < zn σ := by omega
    obtain ⟨⟨fv, hfv, ef⟩, -, hbi, -⟩ := h.I.c hjn
    have hK' : ∀ i, i < 6 → (wA T 0 8 (upd (T.2 0 8) fv (T.2 0 8 fv + 1))).2 0 8 i = zKi σ (j + 1) i := fun i hi => by
      have eK : zKi σ (j + 1) i = if σ (21 + 13 * j + 0) = nI i then zKi σ j i + 1 else zKi σ j i := by unfold zKi; rw [zfo_succ, Nat.zero_add]
      rw [q_wAs, eK, ef]
      by_cases e : i = fv
      · subst e; rw [pk_us, if_pos rfl, hK i hi]
      · rw [pk_un e, if_neg (fun z => e ((nI_eq (by omega) (by omega)).mp z).symm), hK i hi]
    obtain ⟨T', e1, e2, e3⟩ := ih (j + 1) f (a - (if σ (21 + 13 * j + 4) = -1 then 0 else 1)) _ h.r hK' (by omega) (by omega)
    refine ⟨T', ?_, e2, e3⟩
    rw [lp_L_dates_t_239, g_childCount h, zb_s]
    simp only [zl_s]
    rw [zk_self, if_neg (nI_ge (by omega) (by omega)), g_birthdayOf h hjn, zbi_s, zk_self, g_cakeOf h hjn, zbi_s, zbi_s, zk_self, ef, if_pos (of_eq_true (q_zt hfv (by decide))), if_pos (of_eq_true (q_zt hfv (by decide))), nI_clamp (by omega), nI_1]
    rcases hbi with hb | ⟨x, hx, hb⟩
    · rw [if_pos hb] at e1
      rw [if_pos (show σ (21 + 13 * j + 4) < 0 by rw [hb]; decide), e1]
      show _ = some ((zfo _ (j + 1) k (a - (if σ (21 + 13 * j + 4) = -1 then 0 else 1)), nI (zn σ)), T')
      rw [if_pos hb]
    · have hbn : ¬ σ (21 + 13 * j + 4) = -1 := by rw [hb, q_m1ne (by omega)]; exact id
      rw [if_neg hbn] at e1
      rw [if_neg (show ¬ σ (21 + 13 * j + 4) < 0 by rw [hb]; exact nI_pos (by omega)), if_pos (of_eq_true (q_zt hfv (by decide))), if_pos (of_eq_true (q_zt hfv (by decide))), e1]
      show _ = some ((zfo _ (j + 1) k (a - (if σ (21 + 13 * j + 4) = -1 then 0 else 1)), nI (zn σ)), T')
      rw [if_neg hbn]
theorem l_d289 {w1 w5 : Int32} {L : Nat} (hL : L ≤ 5) (hK : ∀ i, i < 6 → T.2 0 8 i = s_cnt σ 0 (nI i)) (hb : ∀ k, k ≤ 5 → s_cnt σ 0 (nI k) < s_cnt σ 0 (nI L) ∨ (s_cnt σ 0 (nI k) = s_cnt σ 0 (nI L) ∧ L ≤ k)) : ∀ k j fuel, j + k = 6 → k < fuel → lp_L_dates_t_289 w1 w5 (nI L) fuel 1 (nI j) T = some ((1, nI 6), T) := by
  intro k
  induction k with
  | zero =>
    intro j fuel hj hk
    obtain ⟨f, rfl⟩ : ∃ f, fuel = f + 1 := ⟨fuel - 1, by omega⟩
    obtain rfl : j = 6 := by omega
    rw [lp_L_dates_t_289, if_pos (by decide)]
  | succ k ih =>
    intro j fuel hj hk
    obtain ⟨f, rfl⟩ : ∃ f, fuel = f + 1 := ⟨fuel - 1, by omega⟩
    have e := ih (j + 1) f (by omega) (by omega)
    rw [lp_L_dates_t_289, if_neg (show ¬ (6 : Int32) ≤ nI j from nI_ge (b := 6) (by omega) (by decide))]
    simp only [zl_s, nI_1]
    rw [if_neg (show ¬ (1 : Int32) = 0 by decide), if_pos (of_eq_true (q_zt (show j < 6 by omega) (by decide))), if_pos (of_eq_true (q_zt (show L < 6 by omega) (by decide))), nI_clamp (by omega), nI_clamp (by omega), hK j (by omega), hK L (by omega)]
    rcases hb j (by omega) with h | ⟨h, h2⟩
    · rw [if_pos h]; exact e
    · rw [if_neg (by rw [h]; exact Int32.lt_irrefl), if_pos (of_eq_true (q_zt (show j < 6 by omega) (by decide))), if_pos (of_eq_true (q_zt (show L < 6 by omega) (by decide))), if_pos h, if_neg (nI_nlt h2 (by omega))]; exact e
/-- dates answers 1 -/
theorem g_dates (h : zWs T σ hs S) : ∃ T', f_L_dates T = some (1, T') ∧ zWs T' σ hs S := by
  have n10 := h.I.n10
  have e1 := l_d6 h (zn σ) 0 16 (by omega) (by omega)
  rw [show nI (zDn σ 0) = 0 from rfl, ← nl_0] at e1
  have e2 : f_X3_busiestMonth T = some ((zBu σ 12).1, T) := g_busiestMonth h
  have e3 := l_d131 h (w1 := nI (zDn σ (zn σ))) 12 0 13 (by omega) (by omega)
  rw [show (zBu σ 0).2 = 0 from rfl, show zAll σ 0 = 0 from rfl, show nI (1 + 0) = 1 from rfl] at e3
  obtain ⟨L, hL, eL, hLk⟩ := zLk_is (σ := σ) 5 (Nat.le_refl _)
  have e4 : f_X3_mostWantedCake T = some (nI L, T) := by rw [g_mostWantedCake h, ← eL]; rfl
  have hw : zWs (wA T 0 8 (fun _ => 0)) σ hs S := h.r
  obtain ⟨T', e5, e6, e7⟩ := l_d239 (w1 := nI (zDn σ (zn σ))) (w2 := 1) (w6 := nI L) (zn σ) 0 16 (zAll σ 12) _ hw (fun i hi => by rw [q_wAs]; rfl) (by omega) (by omega)
  rw [zBc_sub, s_all h.I, show zfo (fun c u => if σ (21 + 13 * c + 4) = -1 then u else u + 1) 0 (zn σ) (0 : Int32) = zBc σ (zn σ) from rfl, Int32.sub_self, ← nl_0] at e5
  have e8 := l_d289 (T := T') (w1 := nI (zDn σ (zn σ))) (w5 := 0) hL e7 hLk 6 0 16 (by omega) (by omega)
  rw [← nl_0] at e8
  refine ⟨T', ?_, e6⟩
  have e9 : f_X3_differentDates T' = some (nI (zDn σ (zn σ)), T') := by rw [g_differentDates e6, zDn_i]
  have e10 := g_Ldat_no e6
  unfold f_L_dates
  rw [e1, zb_s, e2, zb_s]
  dsimp only
  rw [e3, zb_s, e4, zb_s, zl_s]
  unfold rg_L_dates_t
  dsimp only
  rw [s_all h.I, e5, zb_s]
  dsimp only
  rw [e8, zb_s]
  dsimp only
  rw [if_neg (show ¬ (1 : Int32) = 0 by decide), if_pos rfl, e9, zb_s, zl_s, zk_self, if_pos rfl, e10, zb_s, zl_s, zk_self, if_pos rfl, zb_s, if_pos (Or.inr rfl)]
end DD
