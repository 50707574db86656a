/-! THE STATE of the class, as rows: the present one, the history (newest first), the saved one -/
abbrev zRow : Type := Nat → Int32
def zGd (T : zT) (ρ : Nat) (σ : zRow) : Prop := zRR T ρ σ ∧ zIv σ ∧ zIy σ
theorem zGd.fr {P : Nat → Nat → Prop} {T T' : zT} {ρ : Nat} {σ : zRow} (h : zGd T ρ σ) (hf : zfr P T T') (hp : ∀ κ, 1 ≤ κ → κ ≤ 11 → ¬ P κ ρ) : zGd T' ρ σ := ⟨h.1.fr hf hp, h.2⟩
def zHs (T : zT) (hs : List zRow) : Prop := hs.length ≤ 10 ∧ T.1 0 2 2 = nI hs.length ∧ ∃ nx, nx < 10 ∧ T.1 0 2 1 = nI nx ∧ ∀ i ρ, hs[i]? = some ρ → zGd T (3 + (nx + 9 - i) % 10) ρ
def zSa (T : zT) (S : Option (Nat × zRow)) : Prop := ∀ q ρ, S = some (q, ρ) → q < 2 ∧ T.2 0 5 q = 1 ∧ zGd T (13 + q) ρ
def zWs (T : zT) (σ : zRow) (hs : List zRow) (S : Option (Nat × zRow)) : Prop := zGd T 0 σ ∧ zHs T hs ∧ zSa T S ∧ T.1 0 1 1 = 0
section ZWS
variable {T T' : zT} {σ σ' : zRow} {hs : List zRow} {S : Option (Nat × zRow)} {P : Nat → Nat → Prop}
theorem zHs.fr (h : zHs T hs) (hf : zfr P T T') (h2 : ¬ P 0 2) (hp : ∀ κ ρ, 1 ≤ κ → κ ≤ 11 → 3 ≤ ρ → ρ < 13 → ¬ P κ ρ) : zHs T' hs := by
  obtain ⟨h1, h3, nx, h4, h5, h6⟩ := h
  exact ⟨h1, by rw [zfr_1 hf h2]; exact h3, nx, h4, by rw [zfr_1 hf h2]; exact h5, fun i ρ hi => (h6 i ρ hi).fr hf (fun κ a b => hp κ _ a b (by omega) (by omega))⟩
theorem zSa.fr (h : zSa T S) (hf : zfr P T T') (h5 : ¬ P 0 5) (hp : ∀ κ ρ, 1 ≤ κ → κ ≤ 11 → 13 ≤ ρ → ρ < 15 → ¬ P κ ρ) : zSa T' S := fun q ρ e => by
  obtain ⟨h1, h2, h3⟩ := h q ρ e
  exact ⟨h1, by rw [zfr_2 hf h5]; exact h2, h3.fr hf (fun κ a b => hp κ _ a b (by omega) (by omega))⟩
/-- writes that touch none of it -/
theorem zWs.other (h : zWs T σ hs S) (hf : zfr P T T') (hp : ∀ κ ι, P κ ι → (κ = 0 ∧ ι ≠ 1 ∧ ι ≠ 2 ∧ ι ≠ 5) ∨ (1 ≤ κ ∧ (ι = 1 ∨ ι = 2))) : zWs T' σ hs S := by
  obtain ⟨h1, h2, h3, h4⟩ := h
  refine ⟨h1.fr hf (fun κ a b z => ?_), h2.fr hf (fun z => ?_) (fun κ ρ a b c d z => ?_), h3.fr hf (fun z => ?_) (fun κ ρ a b c d z => ?_), by rw [zfr_1 hf (fun z => by have := hp _ _ z; omega)]; exact h4⟩ <;> (have := hp _ _ z; omega)
/-- the present row, changed -/
theorem zWs.up (h : zWs T σ hs S) (hg : zGd T' 0 σ') (hf : zfr (zPr 0) T T') : zWs T' σ' hs S := by
  obtain ⟨h1, h2, h3, h4⟩ := h
  exact ⟨hg, h2.fr hf (fun z => by have := z.1; omega) (fun κ ρ a b c d z => by have := z.2.2; omega), h3.fr hf (fun z => by have := z.1; omega) (fun κ ρ a b c d z => by have := z.2.2; omega), by rw [zfr_1 hf (fun z => by have := z.1; omega)]; exact h4⟩
/-- the law's own array stands beside it -/
theorem zfr_8 {f : Nat → Int32} : zfr (fun κ ι => κ = 0 ∧ ι = 8) T (wA T 0 8 f) := zfr_wA ⟨rfl, rfl⟩
theorem zfr_k {T1 : zT} : zfr (fun κ ι => κ = 0 ∧ ι = 8) T1 (zk T T1) := fun κ ι h => ⟨fun _ => rfl, zk_2 h⟩
theorem zWs.k {T1 : zT} (h : zWs T1 σ hs S) : zWs (zk T T1) σ hs S := h.other zfr_k (fun κ ι z => Or.inl (by omega))
theorem zWs.r {f : Nat → Int32} (h : zWs T σ hs S) : zWs (wA T 0 8 f) σ hs S := h.other zfr_8 (fun κ ι z => Or.inl (by omega))
theorem zk_self : zk T T = T := by
  refine Prod.ext rfl (funext fun a => funext fun b => ?_)
  show (if a = 0 ∧ b = 8 then T.2 0 8 else T.2 a b) = T.2 a b
  by_cases h : a = 0 ∧ b = 8
  · rw [if_pos h, h.1, h.2]
  · rw [if_neg h]
theorem w_rec (h : zWs T σ hs S) : ∃ T', f_X0_record 0 T = some ((), T') ∧ zWs T' σ ((σ :: hs).take 10) S := by
  obtain ⟨g0, ⟨hl, e2, nx, hnx, e1, e4⟩, hsv, hbu⟩ := h
  obtain ⟨T1, c1, R1, F1⟩ := w_copy (r := 3 + nx) (q := 0) (by omega) g0.1 g0.2.1
  obtain ⟨ct, ect⟩ : ∃ ct, ct = hs.length := ⟨_, rfl⟩
  rw [← ect] at hl e2
  have f21 : T1.1 0 2 1 = nI nx := by rw [zfr_1 F1 (fun hh => by have := hh.1; omega)]; exact e1
  have f22 : T1.1 0 2 2 = nI ct := by rw [zfr_1 F1 (fun hh => by have := hh.1; omega)]; exact e2
  have er : nI (nx + 1) - nI (nx + 1) / 10 * 10 = nI ((nx + 1) % 10) := pk_rem (by omega) (by decide) (by decide)
  have elen : ((σ :: hs).take 10).length = min 10 (ct + 1) := by rw [List.length_take, List.length_cons, ect]
  have em : (if 10 < nI (ct + 1) then 10 else nI (ct + 1)) = nI ((σ :: hs).take 10).length := by
    rw [elen]
    by_cases h : ct < 10
    · rw [if_neg (show ¬ (10 : Int32) < nI (ct + 1) from nI_nlt (b := ct + 1) (a := 10) (by omega) (by decide)), Nat.min_eq_right (by omega)]
    · obtain rfl : ct = 10 := by omega
      rfl
  obtain ⟨c', ec'⟩ : ∃ c', c' = ((σ :: hs).take 10).length := ⟨_, rfl⟩
  rw [← ec'] at em
  have cx : f_X0_record 0 T = some ((), wI (wI T1 0 2 1 (nI ((nx + 1) % 10))) 0 2 2 (nI c')) := by
    unfold f_X0_record jn_X0_record_18
    rw [e1, w_state hnx, zb_s]
    simp only
    rw [if_pos (show 3 + nx < 15 by omega), c1, zb_s, f21, nI_1, zl_s, zl_s, zl_s, er, q_wIk (by omega), f22, nI_1, zl_s, em, zl_s]
  have F2 : zfr (fun κ ι => zPr (3 + nx) κ ι ∨ (κ = 0 ∧ ι = 2)) T (wI (wI T1 0 2 1 (nI ((nx + 1) % 10))) 0 2 2 (nI c')) :=
    zfr_trans (zfr_mono F1 (fun _ _ z => Or.inl z)) (zfr_trans (zfr_wI (Or.inr ⟨rfl, rfl⟩)) (zfr_wI (Or.inr ⟨rfl, rfl⟩)))
  have F3 : zfr (fun κ ι => κ = 0 ∧ ι = 2) T1 (wI (wI T1 0 2 1 (nI ((nx + 1) % 10))) 0 2 2 (nI c')) := zfr_trans (zfr_wI ⟨rfl, rfl⟩) (zfr_wI ⟨rfl, rfl⟩)
  have g1 : zGd (wI (wI T1 0 2 1 (nI ((nx + 1) % 10))) 0 2 2 (nI c')) (3 + nx) σ := zGd.fr ⟨R1, g0.2⟩ F3 (fun κ x _ z => by omega)
  refine ⟨_, cx, g0.fr F2 (fun κ x _ z => by rcases z with z | z; have := z.2.2; omega; omega), ⟨by rw [elen]; omega, by rw [q_wIs, ec'], (nx + 1) % 10, by omega, by rw [q_wIk (by omega), q_wIs], fun i ρ hi => ?_⟩, hsv.fr F2 (fun z => by rcases z with z | z; have := z.1; omega; omega) (fun κ ρ a b c d z => by rcases z with z | z; have := z.2.2; omega; omega), by rw [zfr_1 F2 (fun z => by rcases z with z | z; have := z.1; omega; omega)]; exact hbu⟩
  have hi10 : i < 10 := by
    have := (List.getElem?_eq_some_iff.mp hi).1
    rw [elen] at this
    omega
  rw [List.getElem?_take, if_pos hi10] at hi
  match i, hi10, hi with
  | 0, _, hi =>
    rw [List.getElem?_cons_zero] at hi
    obtain rfl := Option.some.inj hi
    rw [show ((nx + 1) % 10 + 9 - 0) % 10 = nx by omega]
    exact g1
  | i + 1, hi10, hi =>
    rw [List.getElem?_cons_succ] at hi
    rw [show ((nx + 1) % 10 + 9 - (i + 1)) % 10 = (nx + 9 - i) % 10 by omega]
    exact (e4 i ρ hi).fr F2 (fun κ x _ z => by rcases z with z | z; have := z.2.2; omega; omega)
theorem w_undo {ρ : zRow} (h : zWs T σ (ρ :: hs) S) : ∃ T', f_X3_undo T = some (.inl (nI hs.length), T') ∧ zWs T' ρ hs S := by
  obtain ⟨g0, ⟨hl, e2, nx, hnx, e1, e4⟩, hsv, hbu⟩ := h
  obtain ⟨c, ec⟩ : ∃ c, c = hs.length := ⟨_, rfl⟩
  rw [List.length_cons, ← ec] at hl e2
  rw [← ec]
  have er : nI (nx + 10) - 1 - (nI (nx + 10) - 1) / 10 * 10 = nI ((nx + 9) % 10) := by
    rw [show nx + 10 = (nx + 9) + 1 by omega, nI_pred]
    exact pk_rem (by omega) (by decide) (by decide)
  have gi := e4 0 ρ rfl
  rw [show (nx + 9 - 0) % 10 = (nx + 9) % 10 by omega] at gi
  have hm : (if nI (c + 1) - 1 < 0 then 0 else nI (c + 1) - 1) = nI c := by rw [nI_pred, if_neg (nI_pos (by omega))]
  obtain ⟨T1, t1⟩ : ∃ z, z = wI (wI T 0 2 1 (nI ((nx + 9) % 10))) 0 2 2 (nI c) := ⟨_, rfl⟩
  have F1 : zfr (fun κ ι => κ = 0 ∧ ι = 2) T T1 := by rw [t1]; exact zfr_trans (zfr_wI ⟨rfl, rfl⟩) (zfr_wI ⟨rfl, rfl⟩)
  have gi1 := gi.fr F1 (fun κ x _ z => by omega)
  obtain ⟨T2, c1, R2, F2⟩ := w_copy (T := T1) (r := 0) (q := 3 + (nx + 9) % 10) (by omega) gi1.1 gi1.2.1
  have cx : f_X0_takeBack 0 T = some ((), T2) := by
    unfold f_X0_takeBack
    rw [e1, nl_10, nI_add, ← nl_10, zl_s, zl_s, zl_s, er, q_wIk (by omega), e2, hm, zl_s, zl_s, ← t1, show T1.1 0 2 1 = nI ((nx + 9) % 10) by rw [t1, q_wIk (by omega), q_wIs], w_state (by omega), zb_s]
    simp only
    rw [if_pos (show 3 + (nx + 9) % 10 < 15 by omega), c1, zb_s]
  have F3 : zfr (fun κ ι => zPr 0 κ ι ∨ (κ = 0 ∧ ι = 2)) T T2 := zfr_trans (zfr_mono F1 (fun _ _ z => Or.inr z)) (zfr_mono F2 (fun _ _ z => Or.inl z))
  have e22 : T2.1 0 2 2 = nI c := by rw [zfr_1 F2 (fun z => by have := z.1; omega), t1, q_wIs]
  have e21 : T2.1 0 2 1 = nI ((nx + 9) % 10) := by rw [zfr_1 F2 (fun z => by have := z.1; omega), t1, q_wIk (by omega), q_wIs]
  refine ⟨T2, ?_, ⟨R2, gi.2⟩, ⟨by omega, by rw [e22, ec], (nx + 9) % 10, by omega, e21, fun i τ hi => ?_⟩, hsv.fr F3 (fun z => by rcases z with z | z; have := z.1; omega; omega) (fun κ ρ a b c d z => by rcases z with z | z; have := z.2.2; omega; omega), by rw [zfr_1 F3 (fun z => by rcases z with z | z; have := z.1; omega; omega)]; exact hbu⟩
  · unfold f_X3_undo
    rw [e2, if_neg (nI_ne0 (by omega) (by omega)), cx, zb_s, e22]
  · have hi9 := (List.getElem?_eq_some_iff.mp hi).1
    have := (e4 (i + 1) τ (by rw [List.getElem?_cons_succ]; exact hi)).fr F3 (fun κ x _ z => by rcases z with z | z; have := z.2.2; omega; omega)
    rw [show (nx + 9 - (i + 1)) % 10 = ((nx + 9) % 10 + 9 - i) % 10 by omega] at this
    exact this
theorem q_slot {s : Nat} (h : s < 2) : f_X3_needSlot (nI s) T = some (.inl (), T) := by
  unfold f_X3_needSlot
  rw [if_neg (nI_pos (by omega)), if_pos (show nI s < (2 : Int32) from nI_lt (b := 2) h (by decide))]
theorem w_stin {s : Nat} (h : s < 2) : f_X3_stateIn (nI s) T = some (some (13 + s), T) := by
  unfold f_X3_stateIn
  rw [if_neg (nI_pos (by omega)), if_neg (show ¬ (2 : Int32) ≤ nI s from nI_ge (b := 2) h (by decide)), if_pos (of_eq_true (q_zt h (by decide))), nI_clamp (by omega)]
theorem w_fill {s : Nat} (h : s < 2) : f_X3_isFilled (nI s) T = some ((if T.2 0 5 s = 0 then 0 else 1), T) := by
  unfold f_X3_isFilled
  rw [if_neg (nI_pos (by omega)), if_neg (show ¬ (2 : Int32) ≤ nI s from nI_ge (b := 2) h (by decide)), if_pos (of_eq_true (q_zt h (by decide))), nI_clamp (by omega)]
  split <;> rfl
theorem w_restore {q : Nat} {ρ : zRow} (h : zWs T σ hs (some (q, ρ))) : ∃ T', f_X3_restore (nI q) T = some (.inl (ρ 0), T') ∧ zWs T' ρ ((σ :: hs).take 10) (some (q, ρ)) := by
  obtain ⟨hq, hT, hg⟩ := h.2.2.1 q ρ rfl
  obtain ⟨T1, e3, hh⟩ := w_rec h
  obtain ⟨-, hT1, hg1⟩ := hh.2.2.1 q ρ rfl
  obtain ⟨T2, c1, R2, F2⟩ := w_copy (T := T1) (r := 0) (q := 13 + q) (by omega) hg1.1 hg1.2.1
  refine ⟨T2, ?_, hh.up ⟨R2, hg1.2⟩ F2⟩
  unfold f_X3_restore
  rw [q_slot hq, zx_l, w_stin hq, zb_s]
  simp only
  rw [if_pos (show 13 + q < 15 by omega), w_fill hq, zb_s, hT, if_neg (show ¬ (1 : Int32) = 0 by decide), if_neg (show ¬ (1 : Int32) = 0 by decide), e3, zb_s, c1, zb_s, R2.f0]
theorem w_save {s : Nat} (hs2 : s < 2) (h : zWs T σ hs S) : ∃ T', f_X3_save (nI s) T = some (.inl (σ 0), T') ∧ zWs T' σ hs (some (s, σ)) := by
  obtain ⟨gd, hhi, -, hbu⟩ := h
  obtain ⟨T1, c1, R1, F1⟩ := w_copy (T := T) (r := 13 + s) (q := 0) (by omega) gd.1 gd.2.1
  have vb : vp_nar .boolean 1 = 1 := by decide
  obtain ⟨T2, t2⟩ : ∃ z, z = wA T1 0 5 (upd (T1.2 0 5) s 1) := ⟨_, rfl⟩
  have F2 : zfr (fun κ ι => zPr (13 + s) κ ι ∨ (κ = 0 ∧ ι = 5)) T T2 := by
    rw [t2]; exact zfr_trans (zfr_mono F1 (fun _ _ z => Or.inl z)) (zfr_wA (Or.inr ⟨rfl, rfl⟩))
  have F3 : zfr (fun κ ι => κ = 0 ∧ ι = 5) T1 T2 := by rw [t2]; exact zfr_wA ⟨rfl, rfl⟩
  have gn : zGd T2 (13 + s) σ := zGd.fr ⟨R1, gd.2⟩ F3 (fun κ x _ z => by omega)
  have g0 := gd.fr F2 (fun κ x _ z => by rcases z with z | z; have := z.2.2; omega; omega)
  refine ⟨T2, ?_, g0, hhi.fr F2 (fun z => by rcases z with z | z; have := z.1; omega; omega) (fun κ ρ a b c d z => by rcases z with z | z; have := z.2.2; omega; omega), fun q ρ e => ?_, by rw [zfr_1 F2 (fun z => by rcases z with z | z; have := z.1; omega; omega)]; exact hbu⟩
  · unfold f_X3_save
    rw [q_slot hs2, zx_l, w_stin hs2, zb_s]
    simp only
    rw [if_pos (show 13 + s < 15 by omega), if_neg (nI_pos (by omega)), if_neg (show ¬ (2 : Int32) ≤ nI s from nI_ge (b := 2) hs2 (by decide)), c1, zb_s, if_pos (of_eq_true (q_zt hs2 (by decide))), zl_s, nI_clamp (by omega), vb, ← t2, g0.1.f0]
  · cases e
    exact ⟨hs2, by rw [t2, q_wAs, pk_us], gn⟩
end ZWS
