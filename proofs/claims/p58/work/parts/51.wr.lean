/-! WRITES: the relation of a registry to its row, kept -/
theorem znm_congr {f g : Nat → Int32} (h : ∀ i, i < 6 → f i = g i) : znm f = znm g := zfo_congr (fun i _ h2 a => by rw [h i (by omega)])
theorem zn_upd {σ : Nat → Int32} {j : Nat} {x : Int32} (h : j ≠ 5) : zn (upd σ j x) = zn σ := by unfold zn; rw [pk_un (Ne.symm h)]
theorem zg_upd {σ : Nat → Int32} {j : Nat} {x : Int32} (h : j ≠ 4) : zg (upd σ j x) = zg σ := by unfold zg; rw [pk_un (Ne.symm h)]
theorem zlet_upd {σ : Nat → Int32} {j c : Nat} {x : Int32} (h : ∀ i, i < 6 → j ≠ 21 + 13 * c + 7 + i) : ∀ i, i < 6 → zlet (upd σ j x) c i = zlet σ c i := fun i hi => pk_un (Ne.symm (h i hi))
theorem q_upds {σ : Nat → Int32} {j : Nat} {x : Int32} (h : x = σ j) : upd σ j x = σ := by
  subst h
  funext i
  unfold upd
  by_cases e : i = j
  · rw [if_pos e, e]
  · rw [if_neg e]
section ZU
variable {T : zT} {ρ : Nat} {σ : Nat → Int32}
theorem zRR.i0 (h : zRR T ρ σ) (x : Int32) : zRR (wI T 1 ρ 0 x) ρ (upd σ 0 x) := by
  have hn : zn (upd σ 0 x) = zn σ := zn_upd (by decide)
  have hg : zg (upd σ 0 x) = zg σ := zg_upd (by decide)
  refine ⟨⟨q_wIs.trans pk_us.symm, (q_wIk (fun e => by omega)).trans (h.f1.trans (pk_un (by decide)).symm), (q_wIk (fun e => by omega)).trans (h.f2.trans (pk_un (by decide)).symm), (q_wIk (fun e => by omega)).trans (h.f3.trans (pk_un (by decide)).symm), (q_wIk (fun e => by omega)).trans (h.f4.trans (pk_un (by decide)).symm), (q_wIk (fun e => by omega)).trans (h.f5.trans (pk_un (by decide)).symm), (q_wIk (fun e => by omega)).trans (h.f6.trans (pk_un (by decide)).symm), (q_wIk (fun e => by omega)).trans (h.f7.trans (pk_un (by decide)).symm), (q_wIk (fun e => by omega)).trans (h.f8.trans (pk_un (by decide)).symm), (q_wIk (fun e => by omega)).trans (h.f9.trans (pk_un (by decide)).symm)⟩, fun k hk => (h.ck hk).trans (pk_un (by omega)).symm, fun g hg' => ?_, fun c hc => ?_⟩
  · rw [hg] at hg'; exact (h.st hg').trans (pk_un (by omega)).symm
  · rw [hn] at hc
    exact ⟨(h.nm hc).trans (znm_congr (zlet_upd (fun i _ => by omega))).symm, (h.fa hc).trans (pk_un (by omega)).symm, (h.br hc).trans (pk_un (by omega)).symm, (h.ag hc).trans (pk_un (by omega)).symm, (h.ho hc).trans (pk_un (by omega)).symm, (h.bi hc).trans (pk_un (by omega)).symm, (h.pa hc).trans (pk_un (by omega)).symm, (h.wi hc).trans (pk_un (by omega)).symm⟩
theorem zRR.i1 (h : zRR T ρ σ) (x : Int32) : zRR (wI T 1 ρ 1 x) ρ (upd σ 1 x) := by
  have hn : zn (upd σ 1 x) = zn σ := zn_upd (by decide)
  have hg : zg (upd σ 1 x) = zg σ := zg_upd (by decide)
  refine ⟨⟨(q_wIk (fun e => by omega)).trans (h.f0.trans (pk_un (by decide)).symm), q_wIs.trans pk_us.symm, (q_wIk (fun e => by omega)).trans (h.f2.trans (pk_un (by decide)).symm), (q_wIk (fun e => by omega)).trans (h.f3.trans (pk_un (by decide)).symm), (q_wIk (fun e => by omega)).trans (h.f4.trans (pk_un (by decide)).symm), (q_wIk (fun e => by omega)).trans (h.f5.trans (pk_un (by decide)).symm), (q_wIk (fun e => by omega)).trans (h.f6.trans (pk_un (by decide)).symm), (q_wIk (fun e => by omega)).trans (h.f7.trans (pk_un (by decide)).symm), (q_wIk (fun e => by omega)).trans (h.f8.trans (pk_un (by decide)).symm), (q_wIk (fun e => by omega)).trans (h.f9.trans (pk_un (by decide)).symm)⟩, fun k hk => (h.ck hk).trans (pk_un (by omega)).symm, fun g hg' => ?_, fun c hc => ?_⟩
  · rw [hg] at hg'; exact (h.st hg').trans (pk_un (by omega)).symm
  · rw [hn] at hc
    exact ⟨(h.nm hc).trans (znm_congr (zlet_upd (fun i _ => by omega))).symm, (h.fa hc).trans (pk_un (by omega)).symm, (h.br hc).trans (pk_un (by omega)).symm, (h.ag hc).trans (pk_un (by omega)).symm, (h.ho hc).trans (pk_un (by omega)).symm, (h.bi hc).trans (pk_un (by omega)).symm, (h.pa hc).trans (pk_un (by omega)).symm, (h.wi hc).trans (pk_un (by omega)).symm⟩
theorem zRR.i2 (h : zRR T ρ σ) (x : Int32) : zRR (wI T 1 ρ 2 x) ρ (upd σ 2 x) := by
  have hn : zn (upd σ 2 x) = zn σ := zn_upd (by decide)
  have hg : zg (upd σ 2 x) = zg σ := zg_upd (by decide)
  refine ⟨⟨(q_wIk (fun e => by omega)).trans (h.f0.trans (pk_un (by decide)).symm), (q_wIk (fun e => by omega)).trans (h.f1.trans (pk_un (by decide)).symm), q_wIs.trans pk_us.symm, (q_wIk (fun e => by omega)).trans (h.f3.trans (pk_un (by decide)).symm), (q_wIk (fun e => by omega)).trans (h.f4.trans (pk_un (by decide)).symm), (q_wIk (fun e => by omega)).trans (h.f5.trans (pk_un (by decide)).symm), (q_wIk (fun e => by omega)).trans (h.f6.trans (pk_un (by decide)).symm), (q_wIk (fun e => by omega)).trans (h.f7.trans (pk_un (by decide)).symm), (q_wIk (fun e => by omega)).trans (h.f8.trans (pk_un (by decide)).symm), (q_wIk (fun e => by omega)).trans (h.f9.trans (pk_un (by decide)).symm)⟩, fun k hk => (h.ck hk).trans (pk_un (by omega)).symm, fun g hg' => ?_, fun c hc => ?_⟩
  · rw [hg] at hg'; exact (h.st hg').trans (pk_un (by omega)).symm
  · rw [hn] at hc
    exact ⟨(h.nm hc).trans (znm_congr (zlet_upd (fun i _ => by omega))).symm, (h.fa hc).trans (pk_un (by omega)).symm, (h.br hc).trans (pk_un (by omega)).symm, (h.ag hc).trans (pk_un (by omega)).symm, (h.ho hc).trans (pk_un (by omega)).symm, (h.bi hc).trans (pk_un (by omega)).symm, (h.pa hc).trans (pk_un (by omega)).symm, (h.wi hc).trans (pk_un (by omega)).symm⟩
theorem zRR.i3 (h : zRR T ρ σ) (x : Int32) : zRR (wI T 1 ρ 3 x) ρ (upd σ 3 x) := by
  have hn : zn (upd σ 3 x) = zn σ := zn_upd (by decide)
  have hg : zg (upd σ 3 x) = zg σ := zg_upd (by decide)
  refine ⟨⟨(q_wIk (fun e => by omega)).trans (h.f0.trans (pk_un (by decide)).symm), (q_wIk (fun e => by omega)).trans (h.f1.trans (pk_un (by decide)).symm), (q_wIk (fun e => by omega)).trans (h.f2.trans (pk_un (by decide)).symm), q_wIs.trans pk_us.symm, (q_wIk (fun e => by omega)).trans (h.f4.trans (pk_un (by decide)).symm), (q_wIk (fun e => by omega)).trans (h.f5.trans (pk_un (by decide)).symm), (q_wIk (fun e => by omega)).trans (h.f6.trans (pk_un (by decide)).symm), (q_wIk (fun e => by omega)).trans (h.f7.trans (pk_un (by decide)).symm), (q_wIk (fun e => by omega)).trans (h.f8.trans (pk_un (by decide)).symm), (q_wIk (fun e => by omega)).trans (h.f9.trans (pk_un (by decide)).symm)⟩, fun k hk => (h.ck hk).trans (pk_un (by omega)).symm, fun g hg' => ?_, fun c hc => ?_⟩
  · rw [hg] at hg'; exact (h.st hg').trans (pk_un (by omega)).symm
  · rw [hn] at hc
    exact ⟨(h.nm hc).trans (znm_congr (zlet_upd (fun i _ => by omega))).symm, (h.fa hc).trans (pk_un (by omega)).symm, (h.br hc).trans (pk_un (by omega)).symm, (h.ag hc).trans (pk_un (by omega)).symm, (h.ho hc).trans (pk_un (by omega)).symm, (h.bi hc).trans (pk_un (by omega)).symm, (h.pa hc).trans (pk_un (by omega)).symm, (h.wi hc).trans (pk_un (by omega)).symm⟩
theorem zRR.i4 (h : zRR T ρ σ) (x : Int32) : zRR (wI T 1 ρ 4 x) ρ (upd σ 6 x) := by
  have hn : zn (upd σ 6 x) = zn σ := zn_upd (by decide)
  have hg : zg (upd σ 6 x) = zg σ := zg_upd (by decide)
  refine ⟨⟨(q_wIk (fun e => by omega)).trans (h.f0.trans (pk_un (by decide)).symm), (q_wIk (fun e => by omega)).trans (h.f1.trans (pk_un (by decide)).symm), (q_wIk (fun e => by omega)).trans (h.f2.trans (pk_un (by decide)).symm), (q_wIk (fun e => by omega)).trans (h.f3.trans (pk_un (by decide)).symm), q_wIs.trans pk_us.symm, (q_wIk (fun e => by omega)).trans (h.f5.trans (pk_un (by decide)).symm), (q_wIk (fun e => by omega)).trans (h.f6.trans (pk_un (by decide)).symm), (q_wIk (fun e => by omega)).trans (h.f7.trans (pk_un (by decide)).symm), (q_wIk (fun e => by omega)).trans (h.f8.trans (pk_un (by decide)).symm), (q_wIk (fun e => by omega)).trans (h.f9.trans (pk_un (by decide)).symm)⟩, fun k hk => (h.ck hk).trans (pk_un (by omega)).symm, fun g hg' => ?_, fun c hc => ?_⟩
  · rw [hg] at hg'; exact (h.st hg').trans (pk_un (by omega)).symm
  · rw [hn] at hc
    exact ⟨(h.nm hc).trans (znm_congr (zlet_upd (fun i _ => by omega))).symm, (h.fa hc).trans (pk_un (by omega)).symm, (h.br hc).trans (pk_un (by omega)).symm, (h.ag hc).trans (pk_un (by omega)).symm, (h.ho hc).trans (pk_un (by omega)).symm, (h.bi hc).trans (pk_un (by omega)).symm, (h.pa hc).trans (pk_un (by omega)).symm, (h.wi hc).trans (pk_un (by omega)).symm⟩
theorem zRR.i5 (h : zRR T ρ σ) (x : Int32) : zRR (wI T 1 ρ 5 x) ρ (upd σ 7 x) := by
  have hn : zn (upd σ 7 x) = zn σ := zn_upd (by decide)
  have hg : zg (upd σ 7 x) = zg σ := zg_upd (by decide)
  refine ⟨⟨(q_wIk (fun e => by omega)).trans (h.f0.trans (pk_un (by decide)).symm), (q_wIk (fun e => by omega)).trans (h.f1.trans (pk_un (by decide)).symm), (q_wIk (fun e => by omega)).trans (h.f2.trans (pk_un (by decide)).symm), (q_wIk (fun e => by omega)).trans (h.f3.trans (pk_un (by decide)).symm), (q_wIk (fun e => by omega)).trans (h.f4.trans (pk_un (by decide)).symm), q_wIs.trans pk_us.symm, (q_wIk (fun e => by omega)).trans (h.f6.trans (pk_un (by decide)).symm), (q_wIk (fun e => by omega)).trans (h.f7.trans (pk_un (by decide)).symm), (q_wIk (fun e => by omega)).trans (h.f8.trans (pk_un (by decide)).symm), (q_wIk (fun e => by omega)).trans (h.f9.trans (pk_un (by decide)).symm)⟩, fun k hk => (h.ck hk).trans (pk_un (by omega)).symm, fun g hg' => ?_, fun c hc => ?_⟩
  · rw [hg] at hg'; exact (h.st hg').trans (pk_un (by omega)).symm
  · rw [hn] at hc
    exact ⟨(h.nm hc).trans (znm_congr (zlet_upd (fun i _ => by omega))).symm, (h.fa hc).trans (pk_un (by omega)).symm, (h.br hc).trans (pk_un (by omega)).symm, (h.ag hc).trans (pk_un (by omega)).symm, (h.ho hc).trans (pk_un (by omega)).symm, (h.bi hc).trans (pk_un (by omega)).symm, (h.pa hc).trans (pk_un (by omega)).symm, (h.wi hc).trans (pk_un (by omega)).symm⟩
theorem zRR.i6 (h : zRR T ρ σ) (x : Int32) : zRR (wI T 1 ρ 6 x) ρ (upd σ 8 x) := by
  have hn : zn (upd σ 8 x) = zn σ := zn_upd (by decide)
  have hg : zg (upd σ 8 x) = zg σ := zg_upd (by decide)
  refine ⟨⟨(q_wIk (fun e => by omega)).trans (h.f0.trans (pk_un (by decide)).symm), (q_wIk (fun e => by omega)).trans (h.f1.trans (pk_un (by decide)).symm), (q_wIk (fun e => by omega)).trans (h.f2.trans (pk_un (by decide)).symm), (q_wIk (fun e => by omega)).trans (h.f3.trans (pk_un (by decide)).symm), (q_wIk (fun e => by omega)).trans (h.f4.trans (pk_un (by decide)).symm), (q_wIk (fun e => by omega)).trans (h.f5.trans (pk_un (by decide)).symm), q_wIs.trans pk_us.symm, (q_wIk (fun e => by omega)).trans (h.f7.trans (pk_un (by decide)).symm), (q_wIk (fun e => by omega)).trans (h.f8.trans (pk_un (by decide)).symm), (q_wIk (fun e => by omega)).trans (h.f9.trans (pk_un (by decide)).symm)⟩, fun k hk => (h.ck hk).trans (pk_un (by omega)).symm, fun g hg' => ?_, fun c hc => ?_⟩
  · rw [hg] at hg'; exact (h.st hg').trans (pk_un (by omega)).symm
  · rw [hn] at hc
    exact ⟨(h.nm hc).trans (znm_congr (zlet_upd (fun i _ => by omega))).symm, (h.fa hc).trans (pk_un (by omega)).symm, (h.br hc).trans (pk_un (by omega)).symm, (h.ag hc).trans (pk_un (by omega)).symm, (h.ho hc).trans (pk_un (by omega)).symm, (h.bi hc).trans (pk_un (by omega)).symm, (h.pa hc).trans (pk_un (by omega)).symm, (h.wi hc).trans (pk_un (by omega)).symm⟩
theorem zRR.i7 (h : zRR T ρ σ) (x : Int32) : zRR (wI T 1 ρ 7 x) ρ (upd σ 10 x) := by
  have hn : zn (upd σ 10 x) = zn σ := zn_upd (by decide)
  have hg : zg (upd σ 10 x) = zg σ := zg_upd (by decide)
  refine ⟨⟨(q_wIk (fun e => by omega)).trans (h.f0.trans (pk_un (by decide)).symm), (q_wIk (fun e => by omega)).trans (h.f1.trans (pk_un (by decide)).symm), (q_wIk (fun e => by omega)).trans (h.f2.trans (pk_un (by decide)).symm), (q_wIk (fun e => by omega)).trans (h.f3.trans (pk_un (by decide)).symm), (q_wIk (fun e => by omega)).trans (h.f4.trans (pk_un (by decide)).symm), (q_wIk (fun e => by omega)).trans (h.f5.trans (pk_un (by decide)).symm), (q_wIk (fun e => by omega)).trans (h.f6.trans (pk_un (by decide)).symm), q_wIs.trans pk_us.symm, (q_wIk (fun e => by omega)).trans (h.f8.trans (pk_un (by decide)).symm), (q_wIk (fun e => by omega)).trans (h.f9.trans (pk_un (by decide)).symm)⟩, fun k hk => (h.ck hk).trans (pk_un (by omega)).symm, fun g hg' => ?_, fun c hc => ?_⟩
  · rw [hg] at hg'; exact (h.st hg').trans (pk_un (by omega)).symm
  · rw [hn] at hc
    exact ⟨(h.nm hc).trans (znm_congr (zlet_upd (fun i _ => by omega))).symm, (h.fa hc).trans (pk_un (by omega)).symm, (h.br hc).trans (pk_un (by omega)).symm, (h.ag hc).trans (pk_un (by omega)).symm, (h.ho hc).trans (pk_un (by omega)).symm, (h.bi hc).trans (pk_un (by omega)).symm, (h.pa hc).trans (pk_un (by omega)).symm, (h.wi hc).trans (pk_un (by omega)).symm⟩
theorem zRR.u9 (h : zRR T ρ σ) (x : Int32) : zRR T ρ (upd σ 9 x) := by
  have hn : zn (upd σ 9 x) = zn σ := zn_upd (by decide)
  have hg : zg (upd σ 9 x) = zg σ := zg_upd (by decide)
  refine ⟨⟨h.f0.trans (pk_un (by decide)).symm, h.f1.trans (pk_un (by decide)).symm, h.f2.trans (pk_un (by decide)).symm, h.f3.trans (pk_un (by decide)).symm, h.f4.trans (pk_un (by decide)).symm, h.f5.trans (pk_un (by decide)).symm, h.f6.trans (pk_un (by decide)).symm, h.f7.trans (pk_un (by decide)).symm, h.f8.trans (pk_un (by decide)).symm, h.f9.trans (pk_un (by decide)).symm⟩, fun k hk => (h.ck hk).trans (pk_un (by omega)).symm, fun g hg' => ?_, fun c hc => ?_⟩
  · rw [hg] at hg'; exact (h.st hg').trans (pk_un (by omega)).symm
  · rw [hn] at hc
    exact ⟨(h.nm hc).trans (znm_congr (zlet_upd (fun i _ => by omega))).symm, (h.fa hc).trans (pk_un (by omega)).symm, (h.br hc).trans (pk_un (by omega)).symm, (h.ag hc).trans (pk_un (by omega)).symm, (h.ho hc).trans (pk_un (by omega)).symm, (h.bi hc).trans (pk_un (by omega)).symm, (h.pa hc).trans (pk_un (by omega)).symm, (h.wi hc).trans (pk_un (by omega)).symm⟩
theorem zRR.a2 (h : zRR T ρ σ) {k : Nat} (hk : k < 6) (x : Int32) : zRR (wA T 2 ρ (upd (T.2 2 ρ) k x)) ρ (upd σ (11 + k) x) := by
  have hn : zn (upd σ (11 + k) x) = zn σ := zn_upd (by omega)
  have hg : zg (upd σ (11 + k) x) = zg σ := zg_upd (by omega)
  refine ⟨⟨h.f0.trans (pk_un (by omega)).symm, h.f1.trans (pk_un (by omega)).symm, h.f2.trans (pk_un (by omega)).symm, h.f3.trans (pk_un (by omega)).symm, h.f4.trans (pk_un (by omega)).symm, h.f5.trans (pk_un (by omega)).symm, h.f6.trans (pk_un (by omega)).symm, h.f7.trans (pk_un (by omega)).symm, h.f8.trans (pk_un (by omega)).symm, h.f9.trans (pk_un (by omega)).symm⟩, fun k' hk' => ?_, fun g hg' => ?_, fun c hc => ?_⟩
  · rw [q_wAs]
    by_cases e : k' = k
    · subst e; rw [pk_us, pk_us]
    · rw [pk_un e, pk_un (by omega)]; exact h.ck hk'
  · rw [hg] at hg'
    have g4 : (wA T 2 ρ (upd (T.2 2 ρ) k x)).2 3 ρ = T.2 3 ρ := q_wAo (by omega)
    rw [g4]
    by_cases e : 17 + g = 11 + k
    · omega
    · exact (h.st hg').trans (pk_un e).symm
  · rw [hn] at hc
    have e := fun κ (hκ : ¬ κ = 2) => q_wAo (T := T) (κ := 2) (ι := ρ) (κ' := κ) (ι' := ρ) (f := upd (T.2 2 ρ) k x) (fun z => hκ z.1)
    rw [e 4 (by decide), e 5 (by decide), e 6 (by decide), e 7 (by decide), e 8 (by decide), e 9 (by decide), e 10 (by decide), e 11 (by decide)]
    exact ⟨(h.nm hc).trans (znm_congr (zlet_upd (fun i _ => by omega))).symm, (h.fa hc).trans (pk_un (by omega)).symm, (h.br hc).trans (pk_un (by omega)).symm, (h.ag hc).trans (pk_un (by omega)).symm, (h.ho hc).trans (pk_un (by omega)).symm, (h.bi hc).trans (pk_un (by omega)).symm, (h.pa hc).trans (pk_un (by omega)).symm, (h.wi hc).trans (pk_un (by omega)).symm⟩
theorem zRR.a7 (h : zRR T ρ σ) (h4 : zg σ ≤ 4) {c : Nat} (x : Int32) : zRR (wA T 7 ρ (upd (T.2 7 ρ) c x)) ρ (upd σ (21 + 13 * c + 2) x) := by
  have hn : zn (upd σ (21 + 13 * c + 2) x) = zn σ := zn_upd (by omega)
  have hg : zg (upd σ (21 + 13 * c + 2) x) = zg σ := zg_upd (by omega)
  have e := fun κ (hκ : ¬ κ = 7) => q_wAo (T := T) (κ := 7) (ι := ρ) (κ' := κ) (ι' := ρ) (f := upd (T.2 7 ρ) c x) (fun z => hκ z.1)
  refine ⟨⟨h.f0.trans (pk_un (by omega)).symm, h.f1.trans (pk_un (by omega)).symm, h.f2.trans (pk_un (by omega)).symm, h.f3.trans (pk_un (by omega)).symm, h.f4.trans (pk_un (by omega)).symm, h.f5.trans (pk_un (by omega)).symm, h.f6.trans (pk_un (by omega)).symm, h.f7.trans (pk_un (by omega)).symm, h.f8.trans (pk_un (by omega)).symm, h.f9.trans (pk_un (by omega)).symm⟩, fun k hk => ?_, fun g hg' => ?_, fun c' hc => ?_⟩
  · rw [e 2 (by decide)]; exact (h.ck hk).trans (pk_un (by omega)).symm
  · rw [hg] at hg'
    have g4 := hg'
    rw [e 3 (by decide)]
    exact (h.st hg').trans (pk_un (by omega)).symm
  · rw [hn] at hc
    exact ⟨(by rw [e 4 (by decide)]; exact (h.nm hc).trans (znm_congr (zlet_upd (fun i _ => by omega))).symm), (by rw [e 5 (by decide)]; exact (h.fa hc).trans (pk_un (by omega)).symm), (by rw [e 6 (by decide)]; exact (h.br hc).trans (pk_un (by omega)).symm), (by
      rw [q_wAs]
      by_cases e' : c' = c
      · subst e'; rw [pk_us, pk_us]
      · rw [pk_un e', pk_un (by omega)]; exact h.ag hc), (by rw [e 8 (by decide)]; exact (h.ho hc).trans (pk_un (by omega)).symm), (by rw [e 9 (by decide)]; exact (h.bi hc).trans (pk_un (by omega)).symm), (by rw [e 10 (by decide)]; exact (h.pa hc).trans (pk_un (by omega)).symm), (by rw [e 11 (by decide)]; exact (h.wi hc).trans (pk_un (by omega)).symm)⟩
theorem zRR.a8 (h : zRR T ρ σ) (h4 : zg σ ≤ 4) {c : Nat} (x : Int32) : zRR (wA T 8 ρ (upd (T.2 8 ρ) c x)) ρ (upd σ (21 + 13 * c + 3) x) := by
  have hn : zn (upd σ (21 + 13 * c + 3) x) = zn σ := zn_upd (by omega)
  have hg : zg (upd σ (21 + 13 * c + 3) x) = zg σ := zg_upd (by omega)
  have e := fun κ (hκ : ¬ κ = 8) => q_wAo (T := T) (κ := 8) (ι := ρ) (κ' := κ) (ι' := ρ) (f := upd (T.2 8 ρ) c x) (fun z => hκ z.1)
  refine ⟨⟨h.f0.trans (pk_un (by omega)).symm, h.f1.trans (pk_un (by omega)).symm, h.f2.trans (pk_un (by omega)).symm, h.f3.trans (pk_un (by omega)).symm, h.f4.trans (pk_un (by omega)).symm, h.f5.trans (pk_un (by omega)).symm, h.f6.trans (pk_un (by omega)).symm, h.f7.trans (pk_un (by omega)).symm, h.f8.trans (pk_un (by omega)).symm, h.f9.trans (pk_un (by omega)).symm⟩, fun k hk => ?_, fun g hg' => ?_, fun c' hc => ?_⟩
  · rw [e 2 (by decide)]; exact (h.ck hk).trans (pk_un (by omega)).symm
  · rw [hg] at hg'
    have g4 := hg'
    rw [e 3 (by decide)]
    exact (h.st hg').trans (pk_un (by omega)).symm
  · rw [hn] at hc
    exact ⟨(by rw [e 4 (by decide)]; exact (h.nm hc).trans (znm_congr (zlet_upd (fun i _ => by omega))).symm), (by rw [e 5 (by decide)]; exact (h.fa hc).trans (pk_un (by omega)).symm), (by rw [e 6 (by decide)]; exact (h.br hc).trans (pk_un (by omega)).symm), (by rw [e 7 (by decide)]; exact (h.ag hc).trans (pk_un (by omega)).symm), (by
      rw [q_wAs]
      by_cases e' : c' = c
      · subst e'; rw [pk_us, pk_us]
      · rw [pk_un e', pk_un (by omega)]; exact h.ho hc), (by rw [e 9 (by decide)]; exact (h.bi hc).trans (pk_un (by omega)).symm), (by rw [e 10 (by decide)]; exact (h.pa hc).trans (pk_un (by omega)).symm), (by rw [e 11 (by decide)]; exact (h.wi hc).trans (pk_un (by omega)).symm)⟩
theorem zRR.a9 (h : zRR T ρ σ) (h4 : zg σ ≤ 4) {c : Nat} (x : Int32) : zRR (wA T 9 ρ (upd (T.2 9 ρ) c x)) ρ (upd σ (21 + 13 * c + 4) x) := by
  have hn : zn (upd σ (21 + 13 * c + 4) x) = zn σ := zn_upd (by omega)
  have hg : zg (upd σ (21 + 13 * c + 4) x) = zg σ := zg_upd (by omega)
  have e := fun κ (hκ : ¬ κ = 9) => q_wAo (T := T) (κ := 9) (ι := ρ) (κ' := κ) (ι' := ρ) (f := upd (T.2 9 ρ) c x) (fun z => hκ z.1)
  refine ⟨⟨h.f0.trans (pk_un (by omega)).symm, h.f1.trans (pk_un (by omega)).symm, h.f2.trans (pk_un (by omega)).symm, h.f3.trans (pk_un (by omega)).symm, h.f4.trans (pk_un (by omega)).symm, h.f5.trans (pk_un (by omega)).symm, h.f6.trans (pk_un (by omega)).symm, h.f7.trans (pk_un (by omega)).symm, h.f8.trans (pk_un (by omega)).symm, h.f9.trans (pk_un (by omega)).symm⟩, fun k hk => ?_, fun g hg' => ?_, fun c' hc => ?_⟩
  · rw [e 2 (by decide)]; exact (h.ck hk).trans (pk_un (by omega)).symm
  · rw [hg] at hg'
    have g4 := hg'
    rw [e 3 (by decide)]
    exact (h.st hg').trans (pk_un (by omega)).symm
  · rw [hn] at hc
    exact ⟨(by rw [e 4 (by decide)]; exact (h.nm hc).trans (znm_congr (zlet_upd (fun i _ => by omega))).symm), (by rw [e 5 (by decide)]; exact (h.fa hc).trans (pk_un (by omega)).symm), (by rw [e 6 (by decide)]; exact (h.br hc).trans (pk_un (by omega)).symm), (by rw [e 7 (by decide)]; exact (h.ag hc).trans (pk_un (by omega)).symm), (by rw [e 8 (by decide)]; exact (h.ho hc).trans (pk_un (by omega)).symm), (by
      rw [q_wAs]
      by_cases e' : c' = c
      · subst e'; rw [pk_us, pk_us]
      · rw [pk_un e', pk_un (by omega)]; exact h.bi hc), (by rw [e 10 (by decide)]; exact (h.pa hc).trans (pk_un (by omega)).symm), (by rw [e 11 (by decide)]; exact (h.wi hc).trans (pk_un (by omega)).symm)⟩
theorem zRR.a10 (h : zRR T ρ σ) (h4 : zg σ ≤ 4) {c : Nat} (x : Int32) : zRR (wA T 10 ρ (upd (T.2 10 ρ) c x)) ρ (upd σ (21 + 13 * c + 5) x) := by
  have hn : zn (upd σ (21 + 13 * c + 5) x) = zn σ := zn_upd (by omega)
  have hg : zg (upd σ (21 + 13 * c + 5) x) = zg σ := zg_upd (by omega)
  have e := fun κ (hκ : ¬ κ = 10) => q_wAo (T := T) (κ := 10) (ι := ρ) (κ' := κ) (ι' := ρ) (f := upd (T.2 10 ρ) c x) (fun z => hκ z.1)
  refine ⟨⟨h.f0.trans (pk_un (by omega)).symm, h.f1.trans (pk_un (by omega)).symm, h.f2.trans (pk_un (by omega)).symm, h.f3.trans (pk_un (by omega)).symm, h.f4.trans (pk_un (by omega)).symm, h.f5.trans (pk_un (by omega)).symm, h.f6.trans (pk_un (by omega)).symm, h.f7.trans (pk_un (by omega)).symm, h.f8.trans (pk_un (by omega)).symm, h.f9.trans (pk_un (by omega)).symm⟩, fun k hk => ?_, fun g hg' => ?_, fun c' hc => ?_⟩
  · rw [e 2 (by decide)]; exact (h.ck hk).trans (pk_un (by omega)).symm
  · rw [hg] at hg'
    have g4 := hg'
    rw [e 3 (by decide)]
    exact (h.st hg').trans (pk_un (by omega)).symm
  · rw [hn] at hc
    exact ⟨(by rw [e 4 (by decide)]; exact (h.nm hc).trans (znm_congr (zlet_upd (fun i _ => by omega))).symm), (by rw [e 5 (by decide)]; exact (h.fa hc).trans (pk_un (by omega)).symm), (by rw [e 6 (by decide)]; exact (h.br hc).trans (pk_un (by omega)).symm), (by rw [e 7 (by decide)]; exact (h.ag hc).trans (pk_un (by omega)).symm), (by rw [e 8 (by decide)]; exact (h.ho hc).trans (pk_un (by omega)).symm), (by rw [e 9 (by decide)]; exact (h.bi hc).trans (pk_un (by omega)).symm), (by
      rw [q_wAs]
      by_cases e' : c' = c
      · subst e'; rw [pk_us, pk_us]
      · rw [pk_un e', pk_un (by omega)]; exact h.pa hc), (by rw [e 11 (by decide)]; exact (h.wi hc).trans (pk_un (by omega)).symm)⟩
theorem zRR.a11 (h : zRR T ρ σ) (h4 : zg σ ≤ 4) {c : Nat} (x : Int32) : zRR (wA T 11 ρ (upd (T.2 11 ρ) c x)) ρ (upd σ (21 + 13 * c + 6) x) := by
  have hn : zn (upd σ (21 + 13 * c + 6) x) = zn σ := zn_upd (by omega)
  have hg : zg (upd σ (21 + 13 * c + 6) x) = zg σ := zg_upd (by omega)
  have e := fun κ (hκ : ¬ κ = 11) => q_wAo (T := T) (κ := 11) (ι := ρ) (κ' := κ) (ι' := ρ) (f := upd (T.2 11 ρ) c x) (fun z => hκ z.1)
  refine ⟨⟨h.f0.trans (pk_un (by omega)).symm, h.f1.trans (pk_un (by omega)).symm, h.f2.trans (pk_un (by omega)).symm, h.f3.trans (pk_un (by omega)).symm, h.f4.trans (pk_un (by omega)).symm, h.f5.trans (pk_un (by omega)).symm, h.f6.trans (pk_un (by omega)).symm, h.f7.trans (pk_un (by omega)).symm, h.f8.trans (pk_un (by omega)).symm, h.f9.trans (pk_un (by omega)).symm⟩, fun k hk => ?_, fun g hg' => ?_, fun c' hc => ?_⟩
  · rw [e 2 (by decide)]; exact (h.ck hk).trans (pk_un (by omega)).symm
  · rw [hg] at hg'
    have g4 := hg'
    rw [e 3 (by decide)]
    exact (h.st hg').trans (pk_un (by omega)).symm
  · rw [hn] at hc
    exact ⟨(by rw [e 4 (by decide)]; exact (h.nm hc).trans (znm_congr (zlet_upd (fun i _ => by omega))).symm), (by rw [e 5 (by decide)]; exact (h.fa hc).trans (pk_un (by omega)).symm), (by rw [e 6 (by decide)]; exact (h.br hc).trans (pk_un (by omega)).symm), (by rw [e 7 (by decide)]; exact (h.ag hc).trans (pk_un (by omega)).symm), (by rw [e 8 (by decide)]; exact (h.ho hc).trans (pk_un (by omega)).symm), (by rw [e 9 (by decide)]; exact (h.bi hc).trans (pk_un (by omega)).symm), (by rw [e 10 (by decide)]; exact (h.pa hc).trans (pk_un (by omega)).symm), (by
      rw [q_wAs]
      by_cases e' : c' = c
      · subst e'; rw [pk_us, pk_us]
      · rw [pk_un e', pk_un (by omega)]; exact h.wi hc)⟩
/-- places whose writing the invariant bears -/
def zfree (j : Nat) : Prop := j = 0 ∨ j = 3 ∨ (6 ≤ j ∧ j ≤ 8) ∨ j = 10 ∨ (11 ≤ j ∧ j < 21) ∨ ∃ c, c < 10 ∧ (j = 21 + 13 * c + 1 ∨ j = 21 + 13 * c + 2 ∨ j = 21 + 13 * c + 6)
theorem zNm.congr {f g : Nat → Int32} (h : zNm f) (e : ∀ i, i < 6 → g i = f i) : zNm g := by
  obtain ⟨m, h1, h2, h3, h4⟩ := h
  exact ⟨m, h1, h2, fun i hi => by rw [e i (by omega)]; exact h3 i hi, fun i hi hi' => by rw [e i hi']; exact h4 i hi hi'⟩
theorem zsm_upd {o n j : Nat} {x : Int32} (h : ∀ i, i < n → j ≠ 21 + 13 * i + o) : zsm (upd σ j x) o n = zsm σ o n := zfo_congr (fun i _ h2 a => by rw [pk_un (Ne.symm (h i (by omega)))])
theorem zIc.up {c j : Nat} {x : Int32} (h : zIc σ c) (h4 : j ≠ 4) (hj : ∀ o, (o = 0 ∨ o = 3 ∨ o = 4 ∨ (7 ≤ o ∧ o < 13)) → j ≠ 21 + 13 * c + o) : zIc (upd σ j x) c := by
  obtain ⟨a1, a2, a3, a4⟩ := h
  refine ⟨?_, ?_, ?_, ?_⟩
  · rw [pk_un (Ne.symm (hj 0 (by omega)))]; exact a1
  · rw [pk_un (Ne.symm (hj 3 (by omega))), zg_upd h4]; exact a2
  · rw [pk_un (Ne.symm (hj 4 (by omega)))]; exact a3
  · exact a4.congr (zlet_upd (fun i hi => by have := hj (7 + i) (by omega); omega))
theorem zfree.ne {j : Nat} (hj : zfree j) : j ≠ 1 ∧ j ≠ 2 ∧ j ≠ 4 ∧ j ≠ 5 ∧ j ≠ 9 ∧ ∀ c o, (o = 0 ∨ o = 3 ∨ o = 4 ∨ o = 5 ∨ (7 ≤ o ∧ o < 13)) → j ≠ 21 + 13 * c + o := by
  unfold zfree at hj
  rcases hj with h | h | h | h | h | ⟨c, hc, h⟩
  · refine ⟨?_, ?_, ?_, ?_, ?_, fun c o ho => ?_⟩ <;> omega
  · refine ⟨?_, ?_, ?_, ?_, ?_, fun c o ho => ?_⟩ <;> omega
  · refine ⟨?_, ?_, ?_, ?_, ?_, fun c o ho => ?_⟩ <;> omega
  · refine ⟨?_, ?_, ?_, ?_, ?_, fun c o ho => ?_⟩ <;> omega
  · refine ⟨?_, ?_, ?_, ?_, ?_, fun c o ho => ?_⟩ <;> omega
  · refine ⟨?_, ?_, ?_, ?_, ?_, fun c o ho => ?_⟩ <;> omega
theorem zIv.up {j : Nat} {x : Int32} (I : zIv σ) (hj : zfree j) : zIv (upd σ j x) := by
  obtain ⟨j1, j2, j4, j5, j9, jc⟩ := hj.ne
  have hn : zn (upd σ j x) = zn σ := zn_upd j5
  have hg : zg (upd σ j x) = zg σ := zg_upd j4
  refine ⟨⟨?_, ?_⟩, ⟨?_, ?_⟩, ?_, ?_, ?_, fun c hc => ?_⟩
  · rw [hn, pk_un (Ne.symm j5)]; exact I.n
  · rw [hn]; exact I.n10
  · rw [hg, pk_un (Ne.symm j4)]; exact I.g
  · rw [hg]; exact I.g4
  · rw [pk_un (Ne.symm j1)]; exact I.date
  · rw [pk_un (Ne.symm j2)]; exact I.seed
  · rw [hn, pk_un (Ne.symm j9), zsm_upd (fun i _ => jc i 5 (by omega))]; exact I.held
  · rw [hn] at hc
    exact (I.c hc).up j4 (fun o ho => jc c o (by omega))
theorem zIv.date' {d : Nat} (I : zIv σ) (hd : d < 360) : zIv (upd σ 1 (nI d)) := by
  have hn : zn (upd σ 1 (nI d)) = zn σ := zn_upd (by decide)
  have hg : zg (upd σ 1 (nI d)) = zg σ := zg_upd (by decide)
  refine ⟨⟨?_, ?_⟩, ⟨?_, ?_⟩, ?_, ?_, ?_, fun c hc => ?_⟩
  · rw [hn, pk_un (by decide)]; exact I.n
  · rw [hn]; exact I.n10
  · rw [hg, pk_un (by decide)]; exact I.g
  · rw [hg]; exact I.g4
  · exact ⟨d, hd, pk_us⟩
  · rw [pk_un (by decide)]; exact I.seed
  · rw [hn, pk_un (by decide), zsm_upd (fun i _ => by omega)]; exact I.held
  · rw [hn] at hc
    exact (I.c hc).up (by decide) (fun o ho => by omega)
theorem zIv.seed' {d : Nat} (I : zIv σ) (hd : d < 9973) : zIv (upd σ 2 (nI d)) := by
  have hn : zn (upd σ 2 (nI d)) = zn σ := zn_upd (by decide)
  have hg : zg (upd σ 2 (nI d)) = zg σ := zg_upd (by decide)
  refine ⟨⟨?_, ?_⟩, ⟨?_, ?_⟩, ?_, ?_, ?_, fun c hc => ?_⟩
  · rw [hn, pk_un (by decide)]; exact I.n
  · rw [hn]; exact I.n10
  · rw [hg, pk_un (by decide)]; exact I.g
  · rw [hg]; exact I.g4
  · rw [pk_un (by decide)]; exact I.date
  · exact ⟨d, hd, pk_us⟩
  · rw [hn, pk_un (by decide), zsm_upd (fun i _ => by omega)]; exact I.held
  · rw [hn] at hc
    exact (I.c hc).up (by decide) (fun o ho => by omega)
theorem zIv.birth' {c : Nat} {x : Int32} (I : zIv σ) (hx : x = -1 ∨ ∃ d, d < 360 ∧ x = nI d) : zIv (upd σ (21 + 13 * c + 4) x) := by
  have hn : zn (upd σ (21 + 13 * c + 4) x) = zn σ := zn_upd (by omega)
  have hg : zg (upd σ (21 + 13 * c + 4) x) = zg σ := zg_upd (by omega)
  refine ⟨⟨?_, ?_⟩, ⟨?_, ?_⟩, ?_, ?_, ?_, fun c' hc => ?_⟩
  · rw [hn, pk_un (by omega)]; exact I.n
  · rw [hn]; exact I.n10
  · rw [hg, pk_un (by omega)]; exact I.g
  · rw [hg]; exact I.g4
  · rw [pk_un (by omega)]; exact I.date
  · rw [pk_un (by omega)]; exact I.seed
  · rw [hn, pk_un (by omega), zsm_upd (fun i _ => by omega)]; exact I.held
  · rw [hn] at hc
    obtain ⟨a1, a2, a3, a4⟩ := I.c hc
    refine ⟨?_, ?_, ?_, ?_⟩
    · rw [pk_un (by omega)]; exact a1
    · rw [pk_un (by omega), hg]; exact a2
    · by_cases e : c' = c
      · subst e; rw [pk_us]; exact hx
      · rw [pk_un (by omega)]; exact a3
    · exact a4.congr (zlet_upd (fun i hi => by omega))
theorem zIv.home' {c g : Nat} (I : zIv σ) (hx : g < zg σ) : zIv (upd σ (21 + 13 * c + 3) (nI g)) := by
  have hn : zn (upd σ (21 + 13 * c + 3) (nI g)) = zn σ := zn_upd (by omega)
  have hg : zg (upd σ (21 + 13 * c + 3) (nI g)) = zg σ := zg_upd (by omega)
  refine ⟨⟨?_, ?_⟩, ⟨?_, ?_⟩, ?_, ?_, ?_, fun c' hc => ?_⟩
  · rw [hn, pk_un (by omega)]; exact I.n
  · rw [hn]; exact I.n10
  · rw [hg, pk_un (by omega)]; exact I.g
  · rw [hg]; exact I.g4
  · rw [pk_un (by omega)]; exact I.date
  · rw [pk_un (by omega)]; exact I.seed
  · rw [hn, pk_un (by omega), zsm_upd (fun i _ => by omega)]; exact I.held
  · rw [hn] at hc
    obtain ⟨a1, a2, a3, a4⟩ := I.c hc
    refine ⟨?_, ?_, ?_, ?_⟩
    · rw [pk_un (by omega)]; exact a1
    · rw [hg]
      by_cases e : c' = c
      · subst e; rw [pk_us]; exact ⟨g, hx, rfl⟩
      · rw [pk_un (by omega)]; exact a2
    · rw [pk_un (by omega)]; exact a3
    · exact a4.congr (zlet_upd (fun i hi => by omega))
theorem zsm_succ {o n : Nat} : zsm σ o (n + 1) = zsm σ o n + σ (21 + 13 * n + o) := by
  unfold zsm; rw [zfo_succ, Nat.zero_add]
theorem zsm_one {c : Nat} : ∀ n, c < n → zsm (upd σ (21 + 13 * c + 5) (σ (21 + 13 * c + 5) + 1)) 5 n = zsm σ 5 n + 1 := by
  intro n
  induction n with
  | zero => intro h; omega
  | succ n ih =>
    intro h
    rw [zsm_succ, zsm_succ]
    by_cases e : c = n
    · subst e
      rw [zsm_upd (fun i hi => by omega), pk_us, Int32.add_assoc]
    · rw [ih (by omega), pk_un (by omega), Int32.add_assoc, Int32.add_assoc, Int32.add_comm 1]
/-- a party held -/
theorem zIv.party {c : Nat} (I : zIv σ) (hc : c < zn σ) : zIv (upd (upd σ 9 (σ 9 + 1)) (21 + 13 * c + 5) (σ (21 + 13 * c + 5) + 1)) := by
  have hn : zn (upd (upd σ 9 (σ 9 + 1)) (21 + 13 * c + 5) (σ (21 + 13 * c + 5) + 1)) = zn σ := by rw [zn_upd (by omega), zn_upd (by omega)]
  have hg : zg (upd (upd σ 9 (σ 9 + 1)) (21 + 13 * c + 5) (σ (21 + 13 * c + 5) + 1)) = zg σ := by rw [zg_upd (by omega), zg_upd (by omega)]
  refine ⟨⟨?_, ?_⟩, ⟨?_, ?_⟩, ?_, ?_, ?_, fun c' hc' => ?_⟩
  · rw [hn, pk_un (by omega), pk_un (by omega)]; exact I.n
  · rw [hn]; exact I.n10
  · rw [hg, pk_un (by omega), pk_un (by omega)]; exact I.g
  · rw [hg]; exact I.g4
  · rw [pk_un (by omega), pk_un (by omega)]; exact I.date
  · rw [pk_un (by omega), pk_un (by omega)]; exact I.seed
  · rw [hn, pk_un (by omega), pk_us]
    have e := zsm_one (σ := upd σ 9 (σ 9 + 1)) (c := c) (zn σ) hc
    rw [pk_un (f := σ) (by omega)] at e
    rw [e, zsm_upd (fun i _ => by omega), I.held]
  · rw [hn] at hc'
    exact ((I.c hc').up (by omega) (fun o ho => by omega)).up (by omega) (fun o ho => by omega)
end ZU
