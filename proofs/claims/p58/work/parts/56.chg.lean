/-! CHANGES: what the class's calls do to the rows -/
def s_it : Nat → Int32 → Int32
  | 0, s => s
  | n + 1, s => s_it n (s_nxt s)
theorem s_itS {s : Int32} : ∀ {n : Nat}, s_it (n + 1) s = s_nxt (s_it n s) := by
  intro n
  induction n generalizing s with
  | zero => rfl
  | succ n ih => show s_it (n + 1) (s_nxt s) = s_nxt (s_it n (s_nxt s)); exact ih
theorem s_drw_it {σ : Nat → Int32} {c h : Nat} : ∀ k j s i s', s_drw σ c h j k s = (some i, s') → j ≤ i ∧ i < j + k ∧ s' = s_it (i + 1 - j) s := by
  intro k
  induction k with
  | zero => intro j s i s' hh; cases hh
  | succ k ih =>
    intro j s i s' hh
    unfold s_drw at hh
    by_cases h0 : s_rea σ c h (s_day (s_nxt s)) = 0
    · rw [if_pos h0] at hh
      cases hh
      refine ⟨Nat.le_refl _, by omega, ?_⟩
      rw [show j + 1 - j = 1 by omega]; rfl
    · rw [if_neg h0] at hh
      obtain ⟨h1, h2, h3⟩ := ih _ _ _ _ hh
      refine ⟨by omega, by omega, ?_⟩
      rw [h3, show i + 1 - j = (i + 1 - (j + 1)) + 1 by omega]; rfl
theorem s_nxt_b {z : Nat} (h : z < 9973) : ∃ w, w < 9973 ∧ s_nxt (nI z) = nI w := by
  unfold s_nxt
  rw [nl_211, nl_97, pk_mul, nI_add]
  exact ⟨(z * 211 + 97) % 9973, Nat.mod_lt _ (by decide), pk_rem (by omega) (by decide) (by decide)⟩
theorem s_it_b : ∀ n z, z < 9973 → ∃ w, w < 9973 ∧ s_it n (nI z) = nI w := by
  intro n
  induction n with
  | zero => intro z h; exact ⟨z, h, rfl⟩
  | succ n ih =>
    intro z h
    obtain ⟨w, h1, h2⟩ := s_nxt_b h
    show ∃ w, w < 9973 ∧ s_it n (s_nxt (nI z)) = nI w
    rw [h2]; exact ih w h1
theorem s_day_b {z : Nat} (h : z < 9973) : ∃ d, d < 360 ∧ s_day (nI z) = nI d := ⟨z % 360, Nat.mod_lt _ (by decide), pk_rem (by omega) (by decide) (by decide)⟩
theorem q_wIself {T : zT} {κ ι k : Nat} : wI T κ ι k (T.1 κ ι k) = T := by
  unfold wI
  refine Prod.ext (funext fun a => funext fun b => funext fun c => ?_) rfl
  show (if a = κ ∧ b = ι ∧ c = k then T.1 κ ι k else T.1 a b c) = T.1 a b c
  by_cases h : a = κ ∧ b = ι ∧ c = k
  · obtain ⟨rfl, rfl, rfl⟩ := h; rw [if_pos ⟨rfl, rfl, rfl⟩]
  · rw [if_neg h]
theorem w_db_l {T : zT} {ρ c d : Nat} (hd : d ≤ 20) : ∀ k j fuel s, j + k = d → k < fuel → lp_X2_drawBirthday_2 ρ (nI c) (nI d) fuel (nI j) (wI T 1 ρ 2 s) = some (nI d, wI T 1 ρ 2 (s_it k s)) := by
  intro k
  induction k with
  | zero =>
    intro j fuel s hj hk
    obtain ⟨f, rfl⟩ : ∃ f, fuel = f + 1 := ⟨fuel - 1, by omega⟩
    obtain rfl : j = d := by omega
    rw [lp_X2_drawBirthday_2, if_pos (Int32.le_refl _)]; rfl
  | succ k ih =>
    intro j fuel s hj hk
    obtain ⟨f, rfl⟩ : ∃ f, fuel = f + 1 := ⟨fuel - 1, by omega⟩
    have e1 : ∀ U : zT, f_X3_seedAfter s U = some (s_nxt s, U) := fun _ => rfl
    rw [lp_X2_drawBirthday_2, if_neg (nI_ge (by omega) (by omega)), q_wIs, e1, zb_s, zl_s, zl_s, nI_1, q_wII]
    exact ih (j + 1) f (s_nxt s) (by omega) (by omega)
/-- a draw: both take the same seed and date -/
theorem w_draw {T : zT} {ρ c h d : Nat} {σ : zRow} {s' : Int32} (R : zRR T ρ σ) (I : zIv σ) (hc : c < zn σ) (ed : s_drw σ c h 1 20 (σ 2) = (some d, s')) : ∃ T' w x, w < 9973 ∧ s' = nI w ∧ x < 360 ∧ s_day s' = nI x ∧ d ≤ 20 ∧ 1 ≤ d ∧ f_X2_drawBirthday ρ (nI c) (nI d) T = some ((), T') ∧ zRR T' ρ (upd (upd σ 2 s') (21 + 13 * c + 4) (s_day s')) ∧ zIv (upd (upd σ 2 s') (21 + 13 * c + 4) (s_day s')) ∧ zfr (zPr ρ) T T' := by
  have n10 := I.n10
  obtain ⟨h1, h2, h3⟩ := s_drw_it _ _ _ _ _ ed
  obtain ⟨z, hz, ez⟩ := I.seed
  obtain ⟨w, hw, ew⟩ := s_it_b d z hz
  rw [show d + 1 - 1 = d by omega, ez, ew] at h3
  obtain ⟨x, hx, ex⟩ := s_day_b hw
  have e := w_db_l (T := T) (ρ := ρ) (c := c) (d := d) (by omega) d 0 2000 (nI z) (by omega) (by omega)
  rw [ew, ← ez, ← R.f2, q_wIself, ← nl_0] at e
  have R1 : zRR (wI T 1 ρ 2 (nI w)) ρ (upd σ 2 (nI w)) := R.i2 _
  have I1 : zIv (upd σ 2 (nI w)) := I.seed' hw
  rw [h3, ex]
  refine ⟨wA (wI T 1 ρ 2 (nI w)) 9 ρ (upd ((wI T 1 ρ 2 (nI w)).2 9 ρ) c (nI x)), w, x, hw, rfl, hx, rfl, by omega, h1, ?_, R1.a9 I1.g4 _, I1.birth' (Or.inr ⟨x, hx, rfl⟩), zfr_trans (zfr_wI ⟨by decide, by decide, rfl⟩) (zfr_wA ⟨by decide, by decide, rfl⟩)⟩
  unfold f_X2_drawBirthday
  have ex' : nI w - nI w / 360 * 360 = nI x := ex
  rw [e, zb_s, q_wIs, zl_s, ex', q_setc (by decide) (by omega), zb_s]
theorem zIy.same {σ σ' : zRow} (h : zIy σ) (e : σ' 0 = σ 0) : zIy σ' := by unfold zIy; rw [e]; exact h
theorem q_need_t {n c : Nat} (hn : n < 2 ^ 30) (h : c < n) {α : Type} {a b d : α} : (if nI c < 0 then a else if nI c < nI n then b else d) = b := by
  rw [if_neg (nI_pos (by omega)), if_pos (nI_lt h (by omega))]
theorem q_need_f {n : Nat} {p : Int32} (h : p < 0 ∨ nI n ≤ p) {α : Type} {a b : α} : (if p < 0 then a else if p < nI n then b else a) = a := by
  rcases h with h | h
  · rw [if_pos h]
  · by_cases h0 : p < 0
    · rw [if_pos h0]
    · rw [if_neg h0, if_neg (Int32.not_lt.mpr h)]
theorem q_dof (m d : Int32) (T : zT) : f_X3_dateOf m d T = some ((m - 1) * 30 + d - 1, T) := rfl
section CHG
variable {T : zT} {σ σ' : zRow} {hs : List zRow} {S : Option (Nat × zRow)}
theorem zWs.R (h : zWs T σ hs S) : zRR T 0 σ := h.1.1
theorem zWs.I (h : zWs T σ hs S) : zIv σ := h.1.2.1
theorem zWs.y (h : zWs T σ hs S) : zIy σ := h.1.2.2
theorem qx_needC_t (h : zWs T σ hs S) {c : Nat} (hc : c < zn σ) : f_X3_needChild (nI c) T = some (.inl (), T) := by
  have n10 := h.I.n10
  unfold f_X3_needChild
  rw [h.R.f9, h.I.n]; exact q_need_t (by omega) hc
theorem qx_needC_f (h : zWs T σ hs S) {p : Int32} (hp : p < 0 ∨ nI (zn σ) ≤ p) : f_X3_needChild p T = some (.inr 2, T) := by
  unfold f_X3_needChild
  rw [h.R.f9, h.I.n]; exact q_need_f hp
theorem qx_needG_t (h : zWs T σ hs S) {c : Nat} (hc : c < zg σ) : f_X3_needGarden (nI c) T = some (.inl (), T) := by
  have n10 := h.I.g4
  unfold f_X3_needGarden
  rw [h.R.f8, h.I.g]; exact q_need_t (by omega) hc
theorem qx_needG_f (h : zWs T σ hs S) {p : Int32} (hp : p < 0 ∨ nI (zg σ) ≤ p) : f_X3_needGarden p T = some (.inr 2, T) := by
  unfold f_X3_needGarden
  rw [h.R.f8, h.I.g]; exact q_need_f hp
theorem q_dateok {m d : Nat} (h1 : 1 ≤ m) (h2 : m ≤ 12) (h3 : 1 ≤ d) (h4 : d ≤ 30) : f_X3_needDate (nI m) (nI d) T = some (.inl (), T) := by
  unfold f_X3_needDate
  rw [if_neg (show ¬ _ < (1 : Int32) from nI_nlt (b := 1) h1 (by omega)), if_neg (show ¬ (12 : Int32) < _ from nI_nlt (a := 12) h2 (by omega)), if_neg (show ¬ _ < (1 : Int32) from nI_nlt (b := 1) h3 (by omega)), if_pos (show _ ≤ (30 : Int32) from nI_le (b := 30) h4 (by decide))]
theorem q_dofN {m d : Nat} (h1 : 1 ≤ m) (h3 : 1 ≤ d) : (nI m - 1) * 30 + nI d - 1 = nI ((m - 1) * 30 + (d - 1)) := by
  obtain ⟨a, rfl⟩ : ∃ a, m = a + 1 := ⟨m - 1, by omega⟩
  obtain ⟨b, rfl⟩ : ∃ b, d = b + 1 := ⟨d - 1, by omega⟩
  rw [nI_pred, show (30 : Int32) = nI 30 from rfl, pk_mul, nI_add, show a * 30 + (b + 1) = (a * 30 + b) + 1 by omega, nI_pred]
  rfl
/-- one place of the present row, changed behind a record -/
theorem w_chg {T1 T2 : zT} (h : zWs T σ hs S) (hg : zGd T2 0 σ') (hf : zfr (zPr 0) T T2) : zWs T2 σ' hs S := h.up hg hf
theorem w_adv {d y t : Nat} {x : Int32} (h : zWs T σ hs S) (hd1 : 1 ≤ d) (hd : d ≤ 720) (hy : σ 0 = nI y) (ht : σ 1 = nI t) (ht3 : t < 360) (hy9 : y ≤ 99) (hl : 360 * y + t + d < 36000) (I' : zIv σ') (hy' : zIy σ') (cl : ∀ (ρ : Nat) (T : zT), zRR T ρ σ → ∃ T', f_X2_pass ρ (nI d) T = some (x, T') ∧ zRR T' ρ σ' ∧ zfr (zPr ρ) T T') :
    ∃ T', f_X3_advance (nI d) T = some (.inl x, T') ∧ zWs T' σ' ((σ :: hs).take 10) S := by
  obtain ⟨T1, e1, h1⟩ := w_rec h
  obtain ⟨T2, e2, R2, F2⟩ := cl 0 T1 h1.R
  refine ⟨T2, ?_, h1.up ⟨R2, I', hy'⟩ F2⟩
  unfold f_X3_advance
  rw [if_neg (show ¬ _ < (1 : Int32) from nI_nlt (b := 1) hd1 (by omega)), if_pos (show _ ≤ (720 : Int32) from nI_le (b := 720) hd (by decide)), qx_left h.R ht ht3 hy hy9, zb_s, if_pos (nI_le (by omega) (by omega)), e1, zb_s, e2, zb_s]
theorem w_adv_no (h : zWs T σ hs S) : f_X3_advance 721 T = some (.inr 1, T) := by
  unfold f_X3_advance
  rw [if_neg (by decide), if_neg (by decide)]
theorem w_fore {d : Nat} {x : Int32} (h : zWs T σ hs S) (cl : ∀ (ρ : Nat) (T : zT), zRR T ρ σ → ∃ T', f_X2_pass ρ (nI d) T = some (x, T') ∧ zRR T' ρ σ' ∧ zfr (zPr ρ) T T') : ∃ T', f_X3_forecastDays (nI d) T = some ((), T') ∧ zRR T' 1 σ' ∧ zWs T' σ hs S := by
  obtain ⟨T1, e1, R1, F1⟩ := w_copy (r := 1) (q := 0) (by decide) h.R h.I
  obtain ⟨T2, e2, R2, F2⟩ := cl 1 T1 R1
  refine ⟨T2, ?_, R2, h.other (zfr_trans F1 F2) (fun κ ι z => Or.inr ⟨z.1, Or.inl z.2.2⟩)⟩
  unfold f_X3_forecastDays
  rw [e1, zb_s, e2, zb_s]
theorem w_can {d : Nat} {x : Int32} (hd : d ≤ 720) (h : zWs T σ hs S) (cl : ∀ (ρ : Nat) (T : zT), zRR T ρ σ → ∃ T', f_X2_pass ρ (nI d) T = some (x, T') ∧ zRR T' ρ σ' ∧ zfr (zPr ρ) T T') : ∃ T', f_X3_candlesAfter (nI d) T = some (.inl (σ' 3), T') ∧ zWs T' σ hs S := by
  obtain ⟨T1, e1, R1, h1⟩ := w_fore h cl
  refine ⟨T1, ?_, h1⟩
  unfold f_X3_candlesAfter f_X3_needForecastDays
  rw [if_neg (nI_pos (by omega)), if_pos (show _ ≤ (720 : Int32) from nI_le (b := 720) hd (by decide)), zx_l, e1, zb_s, R1.f3]
theorem w_wis {d c : Nat} {x : Int32} (hd : d ≤ 720) (h : zWs T σ hs S) (hc : c < zn σ) (hn : zn σ' = zn σ) (cl : ∀ (ρ : Nat) (T : zT), zRR T ρ σ → ∃ T', f_X2_pass ρ (nI d) T = some (x, T') ∧ zRR T' ρ σ' ∧ zfr (zPr ρ) T T') : ∃ T', f_X3_wishesAfter (nI c) (nI d) T = some (.inl (σ' (21 + 13 * c + 6)), T') ∧ zWs T' σ hs S := by
  have n10 := h.I.n10
  obtain ⟨T1, e1, R1, h1⟩ := w_fore h cl
  refine ⟨T1, ?_, h1⟩
  unfold f_X3_wishesAfter f_X3_needForecastDays
  rw [qx_needC_t h hc, zx_l, if_neg (nI_pos (by omega)), if_pos (show _ ≤ (720 : Int32) from nI_le (b := 720) hd (by decide)), zx_l, e1, zb_s, q_cellc (by decide) (by omega), zb_s, R1.wi (by omega)]
theorem w_drw {c hh : Nat} (h : zWs T σ hs S) (hc : c < zn σ) (hhg : hh < zg σ) (eh : σ (21 + 13 * c + 3) = nI hh) :
    (∀ s', s_drw σ c hh 1 20 (σ 2) = (none, s') → f_X3_draw (nI c) T = some (.inr 0, T) ∧ f_X3_drawsNeeded (nI c) T = some (.inl (-1), T)) ∧
    ∀ d s', s_drw σ c hh 1 20 (σ 2) = (some d, s') → ∃ T' w x, w < 9973 ∧ s' = nI w ∧ x < 360 ∧ s_day s' = nI x ∧ d ≤ 20 ∧ 1 ≤ d ∧ f_X3_drawsNeeded (nI c) T = some (.inl (nI d), T) ∧ f_X3_draw (nI c) T = some (.inl (nI d), T') ∧ zWs T' (upd (upd σ 2 s') (21 + 13 * c + 4) (s_day s')) ((σ :: hs).take 10) S := by
  have e1 := qx_drw h.R h.I hc hhg eh
  refine ⟨fun s' es => ?_, fun d s' es => ?_⟩
  · rw [es] at e1
    constructor
    · unfold f_X3_draw
      rw [qx_needC_t h hc, zx_l, e1, zb_s, if_pos rfl]
    · unfold f_X3_drawsNeeded
      rw [qx_needC_t h hc, zx_l, e1, zb_s]
  · rw [es] at e1
    obtain ⟨T1, e2, h1⟩ := w_rec h
    obtain ⟨T', w, x, a1, a2, a3, a4, a5, a6, a7, a8, a9, a10⟩ := w_draw h1.R h.I hc es
    refine ⟨T', w, x, a1, a2, a3, a4, a5, a6, ?_, ?_, h1.up ⟨a8, a9, h.y.same (by rw [pk_un (by omega), pk_un (by omega)])⟩ a10⟩
    · unfold f_X3_drawsNeeded
      rw [qx_needC_t h hc, zx_l, e1, zb_s]
    · unfold f_X3_draw
      rw [qx_needC_t h hc, zx_l, e1, zb_s]
      simp only
      rw [if_neg (by rw [q_m1ne (by omega)]; exact id), e2, zb_s, a7, zb_s]
theorem w_drw_no (h : zWs T σ hs S) {p : Int32} (hp : p < 0 ∨ nI (zn σ) ≤ p) : f_X3_draw p T = some (.inr 2, T) := by
  unfold f_X3_draw
  rw [qx_needC_f h hp]; rfl
theorem w_set {c hh m d : Nat} (h : zWs T σ hs S) (hc : c < zn σ) (hhg : hh < zg σ) (eh : σ (21 + 13 * c + 3) = nI hh) {t : Nat} (ht : σ 1 = nI t) (ht3 : t < 360) (h1 : 1 ≤ m) (h2 : m ≤ 12) (h3 : 1 ≤ d) (h4 : d ≤ 30) :
    (s_rea σ c hh (nI ((m - 1) * 30 + (d - 1))) ≠ 0 → f_X3_setBirthday (nI c) (nI m) (nI d) T = some (.inr 0, T)) ∧
    (s_rea σ c hh (nI ((m - 1) * 30 + (d - 1))) = 0 → ∃ T', f_X3_setBirthday (nI c) (nI m) (nI d) T = some (.inl (nI (if t < (m - 1) * 30 + (d - 1) then (m - 1) * 30 + (d - 1) - t else (m - 1) * 30 + (d - 1) + 360 - t)), T') ∧ zWs T' (upd σ (21 + 13 * c + 4) (nI ((m - 1) * 30 + (d - 1)))) ((σ :: hs).take 10) S) := by
  have n10 := h.I.n10
  have a0 := qx_needC_t h hc
  have a1 := q_dateok (T := T) h1 h2 h3 h4
  have a2 := q_dofN (m := m) (d := d) h1 h3
  have a3 : f_X3_cell 8 0 (nI c) T = some (nI hh, T) := by rw [q_cellc (by decide) (by omega), h.R.ho hc, eh]
  have a4 := qx_rea h.R h.I hc hhg (nI ((m - 1) * 30 + (d - 1)))
  refine ⟨fun hr => ?_, fun hr => ?_⟩
  · unfold f_X3_setBirthday
    rw [a0, zx_l, a1, zx_l, q_dof, zb_s, a2, a3, zb_s, a4, zb_s, if_neg hr]
  · obtain ⟨T1, e1, g1⟩ := w_rec h
    have R2 := g1.R.a9 h.I.g4 (c := c) (nI ((m - 1) * 30 + (d - 1)))
    have ht' : upd σ (21 + 13 * c + 4) (nI ((m - 1) * 30 + (d - 1))) 1 = nI t := by rw [pk_un (by omega)]; exact ht
    refine ⟨_, ?_, g1.up ⟨R2, h.I.birth' (Or.inr ⟨(m - 1) * 30 + (d - 1), by omega, rfl⟩), h.y.same (pk_un (by omega))⟩ (zfr_wA ⟨by decide, by decide, rfl⟩)⟩
    unfold f_X3_setBirthday
    rw [a0, zx_l, a1, zx_l, q_dof, zb_s, a2, a3, zb_s, a4, zb_s, if_pos hr, e1, zb_s, q_setc (by decide) (by omega), zb_s, qx_until R2 ht' ht3 (by omega), zb_s]
theorem w_set_no (h : zWs T σ hs S) {p m d : Int32} (hp : p < 0 ∨ nI (zn σ) ≤ p) : f_X3_setBirthday p m d T = some (.inr 2, T) := by
  unfold f_X3_setBirthday
  rw [qx_needC_f h hp]; rfl
theorem w_forget {c : Nat} (h : zWs T σ hs S) (hc : c < zn σ) : ∃ T', f_X3_forgetBirthday (nI c) T = some (.inl (σ (21 + 13 * c + 4)), T') ∧ zWs T' (upd σ (21 + 13 * c + 4) (-1)) ((σ :: hs).take 10) S := by
  have n10 := h.I.n10
  obtain ⟨T1, e1, g1⟩ := w_rec h
  refine ⟨_, ?_, g1.up ⟨g1.R.a9 h.I.g4 (c := c) (-1), h.I.birth' (Or.inl rfl), h.y.same (pk_un (by omega))⟩ (zfr_wA ⟨by decide, by decide, rfl⟩)⟩
  unfold f_X3_forgetBirthday
  rw [qx_needC_t h hc, zx_l, q_cellc (by decide) (by omega), h.R.bi hc, zb_s, e1, zb_s, q_setc (by decide) (by omega), zb_s]
theorem w_forget_no (h : zWs T σ hs S) {p : Int32} (hp : p < 0 ∨ nI (zn σ) ≤ p) : f_X3_forgetBirthday p T = some (.inr 2, T) := by
  unfold f_X3_forgetBirthday
  rw [qx_needC_f h hp]; rfl
theorem w_move {c g : Nat} (h : zWs T σ hs S) (hc : c < zn σ) (hg : g < zg σ) :
    (σ (21 + 13 * c + 4) ≠ -1 → s_rea σ c g (σ (21 + 13 * c + 4)) ≠ 0 → f_X3_moveTo (nI c) (nI g) T = some (.inr 0, T)) ∧
    ((σ (21 + 13 * c + 4) = -1 ∨ s_rea σ c g (σ (21 + 13 * c + 4)) = 0) → ∃ T', f_X3_moveTo (nI c) (nI g) T = some (.inl (σ (21 + 13 * c + 3)), T') ∧ zWs T' (upd σ (21 + 13 * c + 3) (nI g)) ((σ :: hs).take 10) S) := by
  have n10 := h.I.n10
  have a0 := qx_needC_t h hc
  have a1 := qx_needG_t h hg
  have a2 : f_X3_cell 9 0 (nI c) T = some (σ (21 + 13 * c + 4), T) := by rw [q_cellc (by decide) (by omega), h.R.bi hc]
  have a3 : f_X3_cell 8 0 (nI c) T = some (σ (21 + 13 * c + 3), T) := by rw [q_cellc (by decide) (by omega), h.R.ho hc]
  have a4 := qx_rea h.R h.I hc hg (σ (21 + 13 * c + 4))
  refine ⟨fun hb hr => ?_, fun hr => ?_⟩
  · unfold f_X3_moveTo
    rw [a0, zx_l, a1, zx_l, a2, zb_s, if_neg hb, a4, zb_s, if_neg hr]
  · obtain ⟨T1, e1, g1⟩ := w_rec h
    have ej : jn_X3_moveTo_51 (nI c) (nI g) T = some (.inl (σ (21 + 13 * c + 3)), wA T1 8 0 (upd (T1.2 8 0) c (nI g))) := by
      unfold jn_X3_moveTo_51
      rw [a3, zb_s, e1, zb_s, q_setc (by decide) (by omega), zb_s]
    refine ⟨_, ?_, g1.up ⟨g1.R.a8 h.I.g4 (c := c) (nI g), h.I.home' hg, h.y.same (pk_un (by omega))⟩ (zfr_wA ⟨by decide, by decide, rfl⟩)⟩
    unfold f_X3_moveTo
    rw [a0, zx_l, a1, zx_l, a2, zb_s]
    by_cases hb : σ (21 + 13 * c + 4) = -1
    · rw [if_pos hb, ej]
    · rw [if_neg hb, a4, zb_s, if_pos (hr.resolve_left hb), ej]
theorem w_move_no (h : zWs T σ hs S) {p g : Int32} (hp : p < 0 ∨ nI (zn σ) ≤ p) : f_X3_moveTo p g T = some (.inr 2, T) := by
  unfold f_X3_moveTo
  rw [qx_needC_f h hp]; rfl
theorem w_move_no2 (h : zWs T σ hs S) {c : Nat} {g : Int32} (hc : c < zn σ) (hg : g < 0 ∨ nI (zg σ) ≤ g) : f_X3_moveTo (nI c) g T = some (.inr 2, T) := by
  unfold f_X3_moveTo
  rw [qx_needC_t h hc, zx_l, qx_needG_f h hg]; rfl
theorem w_buy {a n : Nat} (h : zWs T σ hs S) (ha : σ 3 = nI a) (ha9 : a ≤ 9999) (hn1 : 1 ≤ n) (hn : n ≤ 999) :
    (9999 < a + n → f_X3_buyCandles (nI n) T = some (.inr 0, T)) ∧
    (a + n ≤ 9999 → ∃ T', f_X3_buyCandles (nI n) T = some (.inl (nI (a + n)), T') ∧ zWs T' (upd (upd σ 3 (nI (a + n))) 7 (σ 7 + nI n)) ((σ :: hs).take 10) S) := by
  refine ⟨fun hb => ?_, fun hb => ?_⟩
  · unfold f_X3_buyCandles
    rw [if_neg (show ¬ _ < (1 : Int32) from nI_nlt (b := 1) hn1 (by omega)), if_pos (show _ ≤ (999 : Int32) from nI_le (b := 999) hn (by decide)), h.R.f3, ha, nI_add, if_neg (show ¬ _ ≤ (9999 : Int32) from nI_ge (a := 9999) hb (by omega))]
  · obtain ⟨T1, e1, g1⟩ := w_rec h
    have R2 := (g1.R.i3 (nI (a + n))).i5 (σ 7 + nI n)
    refine ⟨_, ?_, g1.up ⟨R2, (h.I.up (Or.inr (Or.inl rfl))).up (Or.inr (Or.inr (Or.inl ⟨by decide, by decide⟩))), h.y.same (by rw [pk_un (by decide), pk_un (by decide)])⟩ (zfr_trans (zfr_wI ⟨by decide, by decide, rfl⟩) (zfr_wI ⟨by decide, by decide, rfl⟩))⟩
    unfold f_X3_buyCandles
    rw [if_neg (show ¬ _ < (1 : Int32) from nI_nlt (b := 1) hn1 (by omega)), if_pos (show _ ≤ (999 : Int32) from nI_le (b := 999) hn (by decide)), h.R.f3, ha, nI_add, if_pos (show _ ≤ (9999 : Int32) from nI_le (b := 9999) hb (by decide)), e1, zb_s, g1.R.f3, ha, nI_add, zl_s, zl_s, q_wIk (by omega), g1.R.f5, zl_s, zl_s, q_wIk (by omega), q_wIs]
theorem w_buy_no (h : zWs T σ hs S) : f_X3_buyCandles 0 T = some (.inr 1, T) := by
  unfold f_X3_buyCandles
  rw [if_pos (by decide)]
theorem w_bake {k a n : Nat} (h : zWs T σ hs S) (hk : k < 6) (ha : σ (11 + k) = nI a) (ha9 : a ≤ 99) (hn1 : 1 ≤ n) (hn : n ≤ 99) :
    (99 < a + n → f_X3_bakeCakes (nI k) (nI n) T = some (.inr 0, T)) ∧
    (a + n ≤ 99 → ∃ T', f_X3_bakeCakes (nI k) (nI n) T = some (.inl (nI (a + n)), T') ∧ zWs T' (upd σ (11 + k) (nI (a + n))) ((σ :: hs).take 10) S) := by
  have a0 : f_X3_needKind (nI k) T = some (.inl (), T) := by
    unfold f_X3_needKind
    rw [if_neg (nI_pos (by omega)), if_pos (show _ < (6 : Int32) from nI_lt (b := 6) hk (by decide))]
  have a1 : ∀ {U : zT}, zRR U 0 σ → f_X3_cell 2 0 (nI k) U = some (nI a, U) := fun R => by rw [q_cell (by rw [zlen_2]; exact hk) (by rw [zlen_2]; decide), R.ck hk, ha]
  refine ⟨fun hb => ?_, fun hb => ?_⟩
  · unfold f_X3_bakeCakes
    rw [a0, zx_l, if_neg (show ¬ _ < (1 : Int32) from nI_nlt (b := 1) hn1 (by omega)), if_pos (show _ ≤ (99 : Int32) from nI_le (b := 99) hn (by decide)), a1 h.R, zb_s, nI_add, if_neg (show ¬ _ ≤ (99 : Int32) from nI_ge (a := 99) hb (by omega))]
  · obtain ⟨T1, e1, g1⟩ := w_rec h
    have R2 := g1.R.a2 hk (nI (a + n))
    refine ⟨_, ?_, g1.up ⟨R2, h.I.up (Or.inr (Or.inr (Or.inr (Or.inr (Or.inl ⟨by omega, by omega⟩))))), h.y.same (pk_un (by omega))⟩ (zfr_wA ⟨by decide, by decide, rfl⟩)⟩
    unfold f_X3_bakeCakes
    rw [a0, zx_l, if_neg (show ¬ _ < (1 : Int32) from nI_nlt (b := 1) hn1 (by omega)), if_pos (show _ ≤ (99 : Int32) from nI_le (b := 99) hn (by decide)), a1 h.R, zb_s, nI_add, if_pos (show _ ≤ (99 : Int32) from nI_le (b := 99) hb (by decide)), e1, zb_s, q_addTo (by rw [zlen_2]; exact hk) (by rw [zlen_2]; decide), zb_s, g1.R.ck hk, ha, nI_add, q_cell (by rw [zlen_2]; exact hk) (by rw [zlen_2]; decide), zb_s, q_wAs, pk_us]
theorem w_bake_no (h : zWs T σ hs S) : f_X3_bakeCakes 6 1 T = some (.inr 1, T) := by
  unfold f_X3_bakeCakes f_X3_needKind
  rw [if_neg (by decide), if_neg (by decide)]
  rfl
end CHG
