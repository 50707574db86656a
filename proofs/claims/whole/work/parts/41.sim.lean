/-! THE PARSERS, SIDE BY SIDE -/
def klen (i : Nat) : Nat := [8, 6, 5, 8, 4, 5, 4].getD i 0
theorem q_zby : ∀ i, i < 7 → (zbytes (i + 1)).length = klen i ∧ ∀ j, j < klen i → (zbytes (i + 1)).getD j 0 = nI (zkeys.getD (8 * i + j) 0) := by
  decide +kernel
theorem q_zkey : ∀ i, i < 7 → klen i ≤ 8 ∧ 4 ≤ klen i ∧ (∀ j, j < klen i → 97 ≤ zkeys.getD (8 * i + j) 0 ∧ zkeys.getD (8 * i + j) 0 ≤ 122) ∧ ∀ j, klen i ≤ j → j < 8 → zkeys.getD (8 * i + j) 0 = 0 := by
  have h : ∀ i, i < 7 → klen i ≤ 8 ∧ 4 ≤ klen i ∧ (∀ j, j < 8 → j < klen i → 97 ≤ zkeys.getD (8 * i + j) 0 ∧ zkeys.getD (8 * i + j) 0 ≤ 122) ∧ ∀ j, j < 8 → klen i ≤ j → zkeys.getD (8 * i + j) 0 = 0 := by decide +kernel
  intro i hi
  obtain ⟨h1, h2, h3, h4⟩ := h i hi
  exact ⟨h1, h2, fun j hj => h3 j (by omega) hj, fun j a b => h4 j b a⟩
section SM
variable {T0 M0 T M : zT} {n : Nat}
/-- what is given of a text -/
def zCx (T0 M0 : zT) (n : Nat) : Prop := n ≤ 600 ∧ (∀ j, j < n → T0.2 0 4 j = M0.2 7 0 j) ∧ zKy M0
def zPh (T0 M0 : zT) (n : Nat) (T M : zT) : Prop := (zfr (fun κ ι => (κ = 0 ∧ ι = 1) ∨ zPr 2 κ ι) T0 T ∧ (T.1 0 1 1 = T0.1 0 1 1 ∧ (T.1 0 1 2 = 0 → T.1 0 1 3 = -1)) ∧ T.1 0 1 5 = nI n) ∧ ((∀ j, j < 15 → M.1 0 0 j = M0.1 0 0 j) ∧ M.1 0 0 17 = nI n ∧ ∀ κ, κ ≠ 2 → κ ≠ 6 → M.2 κ 0 = M0.2 κ 0) ∧ ∃ k s e, T.1 0 1 6 = nI k ∧ k ≤ 5 ∧ T.1 0 1 7 = nI s ∧ T.1 0 1 8 = nI e ∧ s ≤ e ∧ e ≤ n
def zOK (T M : zT) : Prop := T.1 0 1 2 = 0 ∧ M.1 0 0 22 = 0 ∧ zGd T 2 (M.2 2 0)
def zFe (T M : zT) : Prop := T.1 0 1 2 ≠ 0 ∧ T.1 0 1 2 = M.1 0 0 22 ∧ T.1 0 1 3 = M.1 0 0 23
def zN10 (T : zT) : Prop := ∃ N, N ≤ 10 ∧ T.1 1 2 9 = nI N
/-- class and model have the same token -/
def zTk (n : Nat) (T M : zT) (k s e : Nat) : Prop := (T.1 0 1 6 = nI k ∧ T.1 0 1 7 = nI s ∧ T.1 0 1 8 = nI e ∧ M.1 0 0 19 = nI s ∧ s ≤ e ∧ e ≤ n) ∧
  ((k = 1 ∧ M.1 0 0 18 = 1 ∧ M.1 0 0 20 = nI e ∧ s < e ∧ ∀ i, s ≤ i → i < e → zci (T.2 0 4 i) = 1) ∨ (k = 2 ∧ e - s ≤ 4 ∧ M.1 0 0 18 = 2 ∧ M.1 0 0 20 = nI e ∧ M.1 0 0 21 = zfo (zvs (T.2 0 4) s) s (e - s) 0) ∨ (k = 2 ∧ 4 < e - s ∧ M.1 0 0 18 = 4) ∨ (k = 3 ∧ M.1 0 0 18 = 3 ∧ M.1 0 0 20 = nI e ∧ e = s + 1) ∨ (k = 4 ∧ M.1 0 0 18 = 0 ∧ M.1 0 0 20 = nI e ∧ s = n) ∨ (k = 5 ∧ M.1 0 0 18 = 4))
/-- the class is one token behind -/
def zBh (n e0 : Nat) (T M : zT) : Prop := ∃ k s e, f_X1_readToken T = some ((), zTw T k s e) ∧ zTk n (zTw T k s e) M k s e ∧ e0 ≤ s
theorem zTw_6 {k s e : Nat} : (zTw T k s e).1 0 1 6 = nI k := by unfold zTw; rw [q_wIk (by omega), q_wIk (by omega), q_wIs]
theorem zTw_7 {k s e : Nat} : (zTw T k s e).1 0 1 7 = nI s := by unfold zTw; rw [q_wIk (by omega), q_wIs]
theorem zTw_8 {k s e : Nat} : (zTw T k s e).1 0 1 8 = nI e := by unfold zTw; rw [q_wIs]
theorem zTw_j {k s e κ ι j : Nat} (h : ¬ (κ = 0 ∧ ι = 1 ∧ 6 ≤ j)) : (zTw T k s e).1 κ ι j = T.1 κ ι j := by unfold zTw; rw [q_wIk (by omega), q_wIk (by omega), q_wIk (by omega)]
theorem zTw_2 {k s e : Nat} : (zTw T k s e).2 = T.2 := rfl
theorem zTw_fr {k s e : Nat} : zfr (fun κ ι => κ = 0 ∧ ι = 1) T (zTw T k s e) := zfr_trans (zfr_wI ⟨rfl, rfl⟩) (zfr_trans (zfr_wI ⟨rfl, rfl⟩) (zfr_wI ⟨rfl, rfl⟩))
theorem zcl_eq {b b' : Nat → Int32} (h : ∀ j, j < n → b j = b' j) : zcl b n = zcl b' n := by
  funext i
  unfold zcl
  by_cases hi : n ≤ i
  · rw [if_pos hi, if_pos hi]
  · rw [if_neg hi, if_neg hi, h i (by omega)]
/-- both go on to the next token -/
theorem w_adv {k s e : Nat} (hC : zCx T0 M0 n) (hP : zPh T0 M0 n T M) (h0 : T.1 0 1 2 = 0) (hk6 : T.1 0 1 6 = nI k) (hs7 : T.1 0 1 7 = nI s) (he8 : T.1 0 1 8 = nI e) (hse : s ≤ e) (hen : e ≤ n) (h20 : M.1 0 0 20 = nI e) (h18 : (k = 0 ∧ M.1 0 0 18 = 0) ∨ (k = 1 ∧ M.1 0 0 18 = 1) ∨ (k = 2 ∧ M.1 0 0 18 = 2) ∨ (k = 3 ∧ M.1 0 0 18 = 3)) : ∃ M', f_X4_next M = some ((), M') ∧ M'.2 = M.2 ∧ (∀ j, j < 18 ∨ 21 < j → M'.1 0 0 j = M.1 0 0 j) ∧ zPh T0 M0 n T M' ∧ zBh n e T M' := by
  obtain ⟨⟨f1, f2, f3⟩, ⟨m1, m2, m3⟩, hk⟩ := hP
  obtain ⟨hn, hb, hy⟩ := hC
  have hk5 : k ≤ 5 := by omega
  have eT : T.2 0 4 = T0.2 0 4 := zfr_2 f1 (fun z => by rcases z with z | z; omega; have := z.1; omega)
  have eM : M.2 7 0 = M0.2 7 0 := m3 7 (by decide) (by decide)
  have hbb : ∀ j, j < n → T.2 0 4 j = M.2 7 0 j := fun j hj => by rw [eT, eM]; exact hb j hj
  have hz : zcl (M.2 7 0) n = zcl (T.2 0 4) n := (zcl_eq hbb).symm
  have hS : ztS (M.2 7 0) n e = ztS (T.2 0 4) n e := by unfold ztS; rw [hz]
  have hE : ∀ x, ztE (M.2 7 0) n x = ztE (T.2 0 4) n x := fun x => by unfold ztE ztR; rw [hz]
  obtain ⟨M', a1, a2, a3, a4, a5⟩ := w_next m2 hn h20 hen
  have b1 := w_read h0 f3 hn he8 hen hk6 hk5
  obtain ⟨s', es'⟩ : ∃ x, x = ztS (T.2 0 4) n e := ⟨_, rfl⟩
  rw [hS, ← es'] at a4
  rw [← es'] at b1
  have hs1 : e ≤ s' := by rw [es']; exact zwh_ge
  have hs2 : s' ≤ n := by
    have := zwh_le (p := fun i => decide (zcl (T.2 0 4) n i = 0)) (k := n - e) (j := e)
    rw [es']; unfold ztS; omega
  have a6 := a5 s' ((M.1 0 0 18 = 1 ∨ M.1 0 0 18 = 2) ∧ s' = e) (by rw [hS]; exact es') Iff.rfl
  rw [hz, hE] at a6
  have d12 : ∀ x : Int32, (x = 0 ∨ x = 3) → ¬ (x = 1 ∨ x = 2) := by
    rintro x (rfl | rfl) <;> decide
  have hrun : (M.1 0 0 18 = 1 ∨ M.1 0 0 18 = 2) ↔ (k = 1 ∨ k = 2) := by
    rcases h18 with ⟨rfl, h⟩ | ⟨rfl, h⟩ | ⟨rfl, h⟩ | ⟨rfl, h⟩
    · exact ⟨fun z => (d12 _ (Or.inl h) z).elim, fun z => by omega⟩
    · exact ⟨fun _ => Or.inl rfl, fun _ => Or.inl h⟩
    · exact ⟨fun _ => Or.inr rfl, fun _ => Or.inr h⟩
    · exact ⟨fun z => (d12 _ (Or.inr h) z).elim, fun z => by omega⟩
  rw [hrun] at a6
  have hPh : zPh T0 M0 n T M' := ⟨⟨f1, f2, f3⟩, ⟨fun j hj => (a3 j (by omega)).trans (m1 j hj), (a3 17 (by omega)).trans m2, fun κ h2 h6 => by rw [a2]; exact m3 κ h2 h6⟩, hk⟩
  refine ⟨M', a1, a2, a3, hPh, ?_⟩
  obtain ⟨E, eE⟩ : ∃ x, x = ztE (T.2 0 4) n s' := ⟨_, rfl⟩
  rw [← eE] at a6 b1
  have hR : ∀ f, ztR (T.2 0 4) n s' f ≤ n ∧ s' ≤ ztR (T.2 0 4) n s' f := fun f => by
    have h1 := zwh_le (p := fun i => decide (zcl (T.2 0 4) n i = f)) (k := n - s') (j := s')
    have h2 := zwh_ge (p := fun i => decide (zcl (T.2 0 4) n i = f)) (k := n - s') (j := s')
    unfold ztR
    exact ⟨by omega, h2⟩
  have hEE : s' ≤ E ∧ E ≤ n := by
    rw [eE]
    unfold ztE
    by_cases q1 : zcl (T.2 0 4) n s' = 1 ∨ zcl (T.2 0 4) n s' = 2
    · rw [if_pos q1]; exact ⟨(hR _).2, (hR _).1⟩
    · rw [if_neg q1]
      by_cases q3 : zcl (T.2 0 4) n s' = 3
      · rw [if_pos q3]
        have := zcl_4 (b := T.2 0 4) (n := n) (i := s') (by omega)
        omega
      · rw [if_neg q3]; omega
  -- what the class has
  have fin : ∀ c, zcl (T.2 0 4) n s' = c → ∀ tk, (if s' = e ∧ (k = 1 ∨ k = 2) ∧ (c = 1 ∨ c = 2) then 5 else c) = tk → zTk n (zTw T tk s' E) M' tk s' E → zBh n e T M' := by
    intro c hc tk htk hz
    rw [hc, htk] at b1
    exact ⟨tk, s', E, b1, hz, hs1⟩
  have base : ∀ tk, (zTw T tk s' E).1 0 1 6 = nI tk ∧ (zTw T tk s' E).1 0 1 7 = nI s' ∧ (zTw T tk s' E).1 0 1 8 = nI E ∧ M'.1 0 0 19 = nI s' ∧ s' ≤ E ∧ E ≤ n := fun tk => ⟨zTw_6, zTw_7, zTw_8, a4, hEE.1, hEE.2⟩
  have hvs : zfo (zvs (M.2 7 0) s') s' (E - s') 0 = zfo (zvs (T.2 0 4) s') s' (E - s') 0 := zfo_congr (fun i h1 h2 a => by unfold zvs; rw [hbb i (by omega)])
  have hlet : zcl (T.2 0 4) n s' = 1 → s' < E ∧ ∀ i, s' ≤ i → i < E → zci (T.2 0 4 i) = 1 := by
    intro hc
    have hsn := zcl_4 (b := T.2 0 4) (n := n) (i := s') (by omega)
    have eR : E = ztR (T.2 0 4) n s' 1 := by rw [eE]; unfold ztE; rw [hc, if_pos (Or.inl rfl)]
    refine ⟨?_, fun i h1 h2 => ?_⟩
    · rw [eR]; unfold ztR
      obtain ⟨d, hd⟩ : ∃ d, n - s' = d + 1 := ⟨n - s' - 1, by omega⟩
      rw [hd, zwh, if_pos (decide_eq_true hc)]
      have := zwh_ge (p := fun i => decide (zcl (T.2 0 4) n i = 1)) (k := d) (j := s' + 1)
      omega
    · rw [eR] at h2
      have := zwh_all (p := fun i => decide (zcl (T.2 0 4) n i = 1)) h1 h2
      have h3 := of_decide_eq_true this
      rw [← h3, zcl_lt (zcl_4 (b := T.2 0 4) (by omega))]
  rcases a6 with ⟨c, v1, v2⟩ | ⟨c, nr, v1, v2⟩ | ⟨c, r, v1⟩ | ⟨c, nr, h4, v1, v2, v3⟩ | ⟨c, r, v1⟩ | ⟨c, v1, v2⟩ | ⟨c, v1⟩
  · have hEs : E = s' := by rw [eE]; unfold ztE; rw [c, if_neg (by omega), if_neg (by omega)]
    have hsn : s' = n := by
      by_cases q : s' < n
      · rw [zcl_lt q] at c; exact (zci_ne4 _ c).elim
      · omega
    refine fin 4 c 4 (if_neg (by omega)) ⟨base 4, Or.inr (Or.inr (Or.inr (Or.inr (Or.inl ⟨rfl, v1, by rw [hEs]; exact v2, hsn⟩))))⟩
  · have nr' : ¬ (s' = e ∧ (k = 1 ∨ k = 2) ∧ (1 = 1 ∨ 1 = 2)) := fun z => nr ⟨z.2.1, z.1⟩
    exact fin 1 c 1 (if_neg nr') ⟨base 1, Or.inl ⟨rfl, v1, v2, (hlet c).1, fun i h1 h2 => by rw [zTw_2]; exact (hlet c).2 i h1 h2⟩⟩
  · exact fin 1 c 5 (if_pos ⟨r.2, r.1, Or.inl rfl⟩) ⟨base 5, Or.inr (Or.inr (Or.inr (Or.inr (Or.inr ⟨rfl, v1⟩))))⟩
  · have nr' : ¬ (s' = e ∧ (k = 1 ∨ k = 2) ∧ (2 = 1 ∨ 2 = 2)) := fun z => nr ⟨z.2.1, z.1⟩
    exact fin 2 c 2 (if_neg nr') ⟨base 2, Or.inr (Or.inl ⟨rfl, h4, v1, v2, by rw [v3, hvs, zTw_2]⟩)⟩
  · by_cases rr : (k = 1 ∨ k = 2) ∧ s' = e
    · exact fin 2 c 5 (if_pos ⟨rr.2, rr.1, Or.inr rfl⟩) ⟨base 5, Or.inr (Or.inr (Or.inr (Or.inr (Or.inr ⟨rfl, v1⟩))))⟩
    · have nr' : ¬ (s' = e ∧ (k = 1 ∨ k = 2) ∧ (2 = 1 ∨ 2 = 2)) := fun z => rr ⟨z.2.1, z.1⟩
      have h4 : 4 < E - s' := by
        rcases r with r | r
        · exact (rr r).elim
        · exact r
      exact fin 2 c 2 (if_neg nr') ⟨base 2, Or.inr (Or.inr (Or.inl ⟨rfl, h4, v1⟩))⟩
  · have hEs : E = s' + 1 := by rw [eE]; unfold ztE; rw [c, if_neg (by omega), if_pos rfl]
    exact fin 3 c 3 (if_neg (by omega)) ⟨base 3, Or.inr (Or.inr (Or.inr (Or.inl ⟨rfl, v1, by rw [hEs]; exact v2, hEs⟩)))⟩
  · exact fin 5 c 5 (if_neg (by omega)) ⟨base 5, Or.inr (Or.inr (Or.inr (Or.inr (Or.inr ⟨rfl, v1⟩))))⟩
end SM
