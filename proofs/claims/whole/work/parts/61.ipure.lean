/-! BOTH BEGINNINGS AGREE -/
def zM0 : zT := (fun _ _ _ => 0, fun κ _ j => if κ = 1 then nI (zkeys.getD j 0) else 0)
def zMt : zT := (fun _ _ _ => 0, fun κ _ j => if κ = 7 then nI (ztx.getD j 0) else if κ = 1 then nI (zkeys.getD j 0) else 0)
def zTb (i : Nat) : zT := wA (wI zT0 0 1 1 (nI i)) 0 4 (fun j => if j < i then nI (ztx.getD j 0) else 0)
theorem ztx_len : (zbytes 0).length = 168 := by decide +kernel
theorem ztx_by : ∀ j, j < 168 → (zbytes 0).getD j 0 = nI (ztx.getD j 0) ∧ ((zbytes 0).getD j 0).toInt8.toInt32.toInt8.toInt32 = nI (ztx.getD j 0) := by decide +kernel
theorem i_loop : ∀ k j f, j + k = 168 → k < f → lp_X3_init_108 f (nI j) (zTb j) = some (nI 168, zTb 168) := by
  intro k
  induction k with
  | zero =>
    intro j f hj hf
    obtain ⟨f, rfl⟩ : ∃ g, f = g + 1 := ⟨f - 1, by omega⟩
    obtain rfl : j = 168 := by omega
    rw [lp_X3_init_108, ztx_len, if_pos (by rw [q_le (by decide) (by decide)]; exact Nat.le_refl _)]
  | succ k ih =>
    intro j f hj hf
    obtain ⟨f, rfl⟩ : ∃ g, f = g + 1 := ⟨f - 1, by omega⟩
    obtain ⟨b1, b2⟩ := ztx_by j (by omega)
    have e : wA (wI zT0 0 1 1 (nI (j + 1))) 0 4 (upd (fun j' => if j' < j then nI (ztx.getD j' 0) else 0) j ((zbytes 0).getD j 0).toInt8.toInt32.toInt8.toInt32) = zTb (j + 1) := by
      unfold zTb
      refine congrArg _ (funext fun i => ?_)
      unfold upd
      rw [b2]
      by_cases h1 : i = j
      · rw [if_pos h1, if_pos (by omega), h1]
      · rw [if_neg h1]
        show (if i < j then nI (ztx.getD i 0) else 0) = _
        by_cases h2 : i < j
        · rw [if_pos h2, if_pos (by omega)]
        · rw [if_neg h2, if_neg (by omega)]
    have w := w_addByte (T0 := zT0) (k := j) (g := fun j' => if j' < j then nI (ztx.getD j' 0) else 0) (by omega) ((zbytes 0).getD j 0)
    rw [e] at w
    have w' : f_X1_addByte ((zbytes 0).getD j 0) (zTb j) = some ((), zTb (j + 1)) := w
    rw [lp_X3_init_108, ztx_len, if_neg (by rw [q_le (by decide) (by omega)]; omega), if_pos (by rw [q_zin (by omega)]; omega), nI_clamp (by omega), w', zb_s, zl_s, nI_1]
    exact ih (j + 1) f (by omega) (by omega)
/-- what the machine of the model finds, and what its reader of the text finds: the same row -/
def i_chk (a b : Option (Unit × zT)) : Bool := match a, b with
  | some (_, M), some (_, N) => decide (M.1 0 0 22 = 0) && (List.range 151).all (fun k => decide (M.2 2 0 k = N.2 2 0 k)) && (List.range 80).all (fun k => decide (N.2 1 0 k = nI (zkeys.getD k 0))) && decide (N.1 0 0 5 = 0) && decide (N.1 0 0 7 = 0) && decide (N.1 0 0 10 = 0) && decide (N.1 0 0 12 = 0) && decide (N.1 0 0 13 = 0) && decide (N.1 0 0 14 = -1)
  | _, _ => false
set_option maxRecDepth 100000 in
theorem i_ev : i_chk (f_X4_readsText (nI 168) zMt) (jn_X4_init_517 zM0) = true := by decide +kernel
theorem i_rel : ∃ T' M', jn_X3_init_106 zT0 = some ((), T') ∧ jn_X4_init_517 zM0 = some ((), M') ∧ zRel T' M' := by
  have hev := i_ev
  have hC : zCx (zTb 168) zMt 168 := ⟨by decide, fun j hj => by
    show (if j < 168 then nI (ztx.getD j 0) else 0) = nI (ztx.getD j 0)
    rw [if_pos hj], fun i _ => rfl⟩
  obtain ⟨T2, M2, x1, m1, ⟨⟨f1, ⟨f2, f2'⟩, f3⟩, -, -⟩, hh⟩ := p_parse hC
  rw [m1] at hev
  cases hm : jn_X4_init_517 zM0 with
  | none => rw [hm] at hev; cases hev
  | some q =>
    obtain ⟨u, N⟩ := q
    rw [hm] at hev
    simp only [i_chk, Bool.and_eq_true, decide_eq_true_eq, List.all_eq_true, List.mem_range] at hev
    obtain ⟨⟨⟨⟨⟨⟨⟨⟨h22, hrow⟩, hkey⟩, h5⟩, h7⟩, h10⟩, h12⟩, h13⟩, h14⟩ := hev
    rcases hh with hF | hO
    · exact absurd h22 hF.m
    have lp0 : lp_X3_init_108 2000 0 zT0 = some (nI 168, zTb 168) := by
      have e0 : zT0 = zTb 0 := by
        refine Prod.ext (funext fun a => funext fun b => funext fun c => ?_) (funext fun a => funext fun b => ?_)
        · show zT0.1 a b c = (if a = 0 ∧ b = 1 ∧ c = 1 then nI 0 else zT0.1 a b c)
          by_cases h : a = 0 ∧ b = 1 ∧ c = 1
          · obtain ⟨rfl, rfl, rfl⟩ := h; rfl
          · rw [if_neg h]
        · show zT0.2 a b = (if a = 0 ∧ b = 4 then (fun j => if j < 0 then nI (ztx.getD j 0) else 0) else zT0.2 a b)
          by_cases h : a = 0 ∧ b = 4
          · rw [if_pos h]; funext j; rw [if_neg (Nat.not_lt_zero j)]; rfl
          · rw [if_neg h]
      rw [e0]
      exact i_loop 168 0 2000 (by omega) (by omega)
    have l1 : (zTb 168).1 0 1 1 = nI 168 := rfl
    obtain ⟨T3, t3⟩ : ∃ z, z = wI T2 0 1 1 0 := ⟨_, rfl⟩
    have g2 : zGd T3 2 (M2.2 2 0) := by
      rw [t3]; exact hO.2.2.fr (P := fun κ ι => κ = 0) (zfr_wI rfl) (fun κ x _ z => by omega)
    obtain ⟨T6, c1, R6, F6⟩ := w_copy (T := T3) (r := 0) (q := 2) (by decide) g2.1 g2.2.1
    have hx : jn_X3_init_106 zT0 = some ((), T6) := by
      unfold jn_X3_init_106
      rw [lp0, zb_s, l1, x1, zb_s]
      unfold f_X1_emptyBuffer
      rw [zl_s, zb_s, ← t3, c1, zb_s]
    refine ⟨T6, N, hx, rfl, ?_⟩
    have F : zfr (fun κ ι => (κ = 0 ∧ ι = 1) ∨ zPr 2 κ ι ∨ zPr 0 κ ι) (zTb 168) T6 := by
      refine zfr_trans (zfr_mono f1 (fun _ _ z => ?_)) (zfr_trans (T1 := T3) ?_ (zfr_mono F6 (fun _ _ z => Or.inr (Or.inr z))))
      · rcases z with z | z
        · exact Or.inl z
        · exact Or.inr (Or.inl z)
      · rw [t3]; exact zfr_wI (Or.inl ⟨rfl, rfl⟩)
    have np : ∀ ι, ι ≠ 1 → ¬ ((0 = 0 ∧ ι = 1) ∨ zPr 2 0 ι ∨ zPr 0 0 ι) := fun ι h z => by
      rcases z with z | z | z
      · exact h z.2
      · have := z.1; omega
      · have := z.1; omega
    have o1 : ∀ ι, ι ≠ 1 → ∀ k, T6.1 0 ι k = (zTb 168).1 0 ι k := fun ι h k => zfr_1 F (np ι h) k
    have o2 : ∀ ι, ι ≠ 1 → T6.2 0 ι = (zTb 168).2 0 ι := fun ι h => zfr_2 F (np ι h)
    have l6 : T6.1 0 1 1 = 0 := by
      rw [zfr_1 F6 (fun z => by have := z.1; omega), t3, q_wIs]
    refine ⟨zGd.congr ⟨R6, g2.2⟩ (fun k hk => (hrow k hk).symm), ⟨0, 0, by decide, by decide, ?_, ?_, h5, fun i hi => by omega⟩, ⟨0, 0, by decide, by decide, ?_, ?_, h7, fun z => by omega, fun z => by omega⟩, ⟨0, by decide, l6, h10, fun j hj => by omega⟩, ⟨0, by decide, ?_, h12, fun j hj => by omega⟩, ⟨?_, ?_⟩, fun i hi => hkey i hi⟩
    · rw [o1 2 (by decide)]; rfl
    · rw [o1 2 (by decide)]; rfl
    · rw [o2 5 (by decide)]; rfl
    · rw [o2 5 (by decide)]; rfl
    · rw [o1 0 (by decide)]; rfl
    · rw [o1 0 (by decide), h13]; rfl
    · rw [o1 0 (by decide), h14]; rfl
