/-! WHAT THE ACTS KEEP: row by row -/
section GOOD
variable {σ σ' : zRow} {j : Nat}
theorem zNr.same {N : Nat → Nat} {B C : Nat} (h : zNr N B C σ) (hn : zn σ' = zn σ) (h3 : σ' 3 = σ 3) (h11 : ∀ k, k < 6 → σ' (11 + k) = σ (11 + k)) (hc : ∀ c, c < zn σ → σ' (21 + 13 * c + 2) = σ (21 + 13 * c + 2) ∧ σ' (21 + 13 * c + 5) = σ (21 + 13 * c + 5) ∧ σ' (21 + 13 * c + 6) = σ (21 + 13 * c + 6)) : zNr N B C σ' := by
  refine ⟨by rw [h3]; exact h.1, fun k hk => by rw [h11 k hk]; exact h.2.1 k hk, fun c hc' => ?_⟩
  rw [hn] at hc'
  obtain ⟨e1, e2, e3⟩ := hc c hc'
  rw [e1, e2, e3]
  exact h.2.2 c hc'
theorem s_rea_0 {c g : Nat} {v : Int32} (h : s_rea σ c g v = 0) : ∀ i, i < zn σ → i ≠ c → σ (21 + 13 * i + 3) = nI g → σ (21 + 13 * i + 4) ≠ v := fun i hi hne h3 h4 => by
  unfold s_rea at h
  cases e : zfn (s_tkp σ c (nI g) v) 0 (zn σ) with
  | some z => rw [e, if_pos (show (some z).isSome = true from rfl)] at h; exact absurd h (by decide)
  | none =>
    have := zfn_none e i (Nat.zero_le _) (by omega)
    unfold s_tkp at this
    rw [if_neg hne, if_pos h3, if_pos h4] at this
    cases this
/-- a birthday set where nothing stands against it, or forgotten -/
theorem zNC.birth {c h : Nat} {v : Int32} (hN : zNC σ) (hc : c < zn σ) (eh : σ (21 + 13 * c + 3) = nI h) (hv : v = -1 ∨ s_rea σ c h v = 0) : zNC (upd σ (21 + 13 * c + 4) v) := by
  intro a b ha hb hab h1 h2
  rw [zn_upd (by omega)] at ha hb
  rw [pk_un (by omega), pk_un (by omega)]
  by_cases ea : a = c
  · subst ea
    rw [pk_us] at h1 h2
    rw [pk_un (by omega)] at h2
    rcases hv with rfl | hv
    · exact absurd rfl h1
    · rw [eh]
      exact fun z => s_rea_0 hv b hb (Ne.symm hab) z.symm h2.symm
  · rw [pk_un (by omega)] at h1 h2
    by_cases eb : b = c
    · subst eb
      rw [pk_us] at h2
      rcases hv with rfl | hv
      · exact absurd h2 h1
      · rw [eh]
        exact fun z => s_rea_0 hv a ha hab z h2
    · rw [pk_un (by omega)] at h2
      exact hN a b ha hb hab h1 h2
theorem zNC.home {c g : Nat} (hN : zNC σ) (hc : c < zn σ) (hv : σ (21 + 13 * c + 4) = -1 ∨ s_rea σ c g (σ (21 + 13 * c + 4)) = 0) : zNC (upd σ (21 + 13 * c + 3) (nI g)) := by
  intro a b ha hb hab h1 h2
  rw [zn_upd (by omega)] at ha hb
  rw [pk_un (by omega)] at h1
  rw [pk_un (by omega), pk_un (by omega)] at h2
  by_cases ea : a = c
  · subst ea
    rw [pk_us, pk_un (by omega)]
    rcases hv with hv | hv
    · exact absurd hv h1
    · exact fun z => s_rea_0 hv b hb (Ne.symm hab) z.symm h2.symm
  · rw [pk_un (by omega)]
    by_cases eb : b = c
    · subst eb
      rw [pk_us]
      rcases hv with hv | hv
      · exact absurd (h2.trans hv) h1
      · exact fun z => s_rea_0 hv a ha hab z h2
    · rw [pk_un (by omega)]
      exact hN a b ha hb hab h1 h2
theorem zGr.birth {c h : Nat} {v : Int32} (g : zGr j σ) (hc : c < zn σ) (hc10 : c < 10) (eh : σ (21 + 13 * c + 3) = nI h) (hv : v = -1 ∨ s_rea σ c h v = 0) : zGr j (upd σ (21 + 13 * c + 4) v) := by
  obtain ⟨h1, h2, h3, y, t, h4, h5, h6⟩ := g
  refine ⟨h1.birth hc eh hv, ?_, h3.same (zn_upd (by omega)) (pk_un (by omega)) (fun k hk => pk_un (by omega)) (fun i hi => ⟨pk_un (by omega), pk_un (by omega), pk_un (by omega)⟩), y, t, by rw [pk_un (by omega)]; exact h4, by rw [pk_un (by omega)]; exact h5, h6⟩
  rw [pk_un (by omega), pk_un (by omega), pk_un (by omega), pk_un (by omega)]; exact h2
theorem zGr.seed {w : Int32} (g : zGr j σ) : zGr j (upd σ 2 w) := by
  obtain ⟨h1, h2, h3, y, t, h4, h5, h6⟩ := g
  refine ⟨fun a b ha hb hab e1 e2 => ?_, ?_, h3.upd' (by decide), y, t, by rw [pk_un (by omega)]; exact h4, by rw [pk_un (by omega)]; exact h5, h6⟩
  · rw [zn_upd (by omega)] at ha hb
    rw [pk_un (by omega)] at e1
    rw [pk_un (by omega), pk_un (by omega)] at e2
    rw [pk_un (by omega), pk_un (by omega)]
    exact h1 a b ha hb hab e1 e2
  · rw [pk_un (by omega), pk_un (by omega), pk_un (by omega), pk_un (by omega)]; exact h2
theorem zGr.home {c g' : Nat} (g : zGr j σ) (hc : c < zn σ) (hv : σ (21 + 13 * c + 4) = -1 ∨ s_rea σ c g' (σ (21 + 13 * c + 4)) = 0) : zGr j (upd σ (21 + 13 * c + 3) (nI g')) := by
  obtain ⟨h1, h2, h3, y, t, h4, h5, h6⟩ := g
  refine ⟨h1.home hc hv, ?_, h3.same (zn_upd (by omega)) (pk_un (by omega)) (fun k hk => pk_un (by omega)) (fun i hi => ⟨pk_un (by omega), pk_un (by omega), pk_un (by omega)⟩), y, t, by rw [pk_un (by omega)]; exact h4, by rw [pk_un (by omega)]; exact h5, h6⟩
  rw [pk_un (by omega), pk_un (by omega), pk_un (by omega), pk_un (by omega)]; exact h2
theorem zGr.pass {d : Nat} {x : Int32} {y t : Nat} (g : zGr j σ) (hd : d ≤ 400) (hy : σ 0 = nI y) (ht : σ 1 = nI t) (hyt : 360 * y + t ≤ 400 * j) (hz : zps (fun _ => 400 * j + d) 99 (300 + 301 * j) x σ σ') {y' t' : Nat} (h1 : t' < 360) (h2 : σ' 0 = nI y') (h3 : σ' 1 = nI t') (h4 : 360 * y' + t' = 360 * y + t + d) : zGr (j + 1) σ' := by
  obtain ⟨g1, g2, g3, -⟩ := g
  obtain ⟨z1, ⟨⟨a, ha, ea⟩, z3, z4⟩, z5, z6, z7⟩ := hz
  have kb : ∀ c o, (o = 3 ∨ o = 4) → σ' (21 + 13 * c + o) = σ (21 + 13 * c + o) := fun c o ho => z5 _ (Or.inr (Or.inr (Or.inr ⟨c, o, rfl, by omega⟩)))
  refine ⟨fun a b ha hb hab e1 e2 => ?_, ?_, ⟨⟨a, by omega, ea⟩, z3, fun c hc => ?_⟩, y', t', h2, h3, h1, by omega⟩
  · rw [z5.n] at ha hb
    rw [kb _ 4 (by omega)] at e1 e2
    rw [kb _ 4 (by omega)] at e2
    rw [kb _ 3 (by omega), kb _ 3 (by omega)]
    exact g1 a b ha hb hab e1 e2
  · rw [z5 6 (Or.inr (Or.inl ⟨by decide, by decide⟩)), z5 7 (Or.inr (Or.inl ⟨by decide, by decide⟩))]
    grind
  · obtain ⟨a, p, w, e1, e2, e3, e4, e5, e6⟩ := z4 c hc
    have e2' : a ≤ 99 + (400 * j + d) := e2
    have e4' : p ≤ 400 * j + d := e4
    exact ⟨a, p, w, e1, (by show a ≤ 99 + 400 * (j + 1); omega), e3, (by show p ≤ 400 * (j + 1); omega), e5, e6⟩
end GOOD
