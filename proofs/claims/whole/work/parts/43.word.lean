/-! NAMES, KEYWORDS, CHILDREN BY NAME -/
noncomputable def zsw {α : Type} (P : Prop) (a b : α) : α := @ite α P (Classical.propDecidable P) a b
theorem zsw_t {α : Type} {P : Prop} {a b : α} (h : P) : zsw P a b = a := by unfold zsw; exact if_pos h
theorem zsw_f {α : Type} {P : Prop} {a b : α} (h : ¬ P) : zsw P a b = b := by unfold zsw; exact if_neg h
section WD
variable {T0 M0 T M : zT} {n : Nat}
theorem q_eqT {P Q : Prop} (h : P ↔ Q) : P = Q := propext h
/-- the model spells a word's letters -/
theorem qm_spell {s e : Nat} (h22 : M.1 0 0 22 = 0) (h19 : M.1 0 0 19 = nI s) (h20 : M.1 0 0 20 = nI e) (hse : s ≤ e) (he : e ≤ 600) : ∀ k j f g, j + k = 6 → k < f → (∀ i, i < j → g i = if i < e - s then M.2 7 0 (s + i) else 0) → ∃ g', lp_X4_spellsHere_36 f (nI j) (wA M 6 0 g) = some (nI 6, wA M 6 0 g') ∧ ∀ i, i < 6 → g' i = if i < e - s then M.2 7 0 (s + i) else 0 := by
  intro k
  induction k with
  | zero =>
    intro j f g hj hf hg
    obtain ⟨f, rfl⟩ : ∃ q, f = q + 1 := ⟨f - 1, by omega⟩
    obtain rfl : j = 6 := by omega
    rw [lp_X4_spellsHere_36, if_pos (by decide)]
    exact ⟨g, rfl, hg⟩
  | succ k ih =>
    intro j f g hj hf hg
    obtain ⟨f, rfl⟩ : ∃ q, f = q + 1 := ⟨f - 1, by omega⟩
    rw [lp_X4_spellsHere_36, if_neg (by rw [q_le6 (by omega)]; omega)]
    simp (disch := omega) only [q_wA1, h22, h19, h20, if_true, pk_sub, q_le, zl_s, q_zt, q_clamp, nI_add, nI_1, q_wAs, q_wAA]
    by_cases hc : e - s ≤ j
    · rw [if_pos hc]
      refine ih (j + 1) f _ (by omega) (by omega) (fun i hi => ?_)
      by_cases hij : i = j
      · subst hij; rw [pk_us, if_neg (by omega)]
      · rw [pk_un hij]; exact hg i (by omega)
    · rw [if_neg hc]
      have r7 : (wA M 6 0 g).2 7 0 = M.2 7 0 := q_wAo (by decide)
      simp (disch := omega) only [q_zt, q_clamp, if_true, r7]
      refine ih (j + 1) f _ (by omega) (by omega) (fun i hi => ?_)
      by_cases hij : i = j
      · subst hij; rw [pk_us, if_pos (by omega)]
      · rw [pk_un hij]; exact hg i (by omega)
theorem q_nmf {b : Nat → Int32} {s : Nat} {l : Nat → Nat} (hl : ∀ i, 97 ≤ l i ∧ l i ≤ 122) : ∀ m, (∀ i, i < m → b (s + i) = nI (l i)) → zfo (fun i u => u * 27 + b i - 97 + 1) s m 0 = nI (nmN l m) := by
  intro m
  induction m with
  | zero => intro _; rfl
  | succ m ih =>
    intro h
    rw [zfo_succ, ih (fun i hi => h i (by omega)), h m (by omega), q_nmst (hl m).1]; rfl
theorem q_lett {v : Int32} (h : zci v = 1) : ∃ l, 97 ≤ l ∧ l ≤ 122 ∧ v = nI l := by
  obtain ⟨h1, h2⟩ := (zci_1 v).mp h
  rcases q_rng (p := v) (a := 97) (b := 122) (by decide) (by decide) with h | h | h
  · exact (h1 h).elim
  · exact (h2 h).elim
  · exact h
/-- a name read -/
theorem w_namH {e0 : Nat} (hC : zCx T0 M0 n) (hP : zPh T0 M0 n T M) (h0 : T.1 0 1 2 = 0) (h22 : M.1 0 0 22 = 0) (hB : zBh n e0 T M) : ∃ v T' M', f_X1_readName T = some (v, T') ∧ f_X4_spellsHere M = some ((), M') ∧ zPh T0 M0 n T' M' ∧ zfr (fun κ ι => κ = 0 ∧ ι = 1) T T' ∧ M'.2 2 0 = M.2 2 0 ∧ (zFe T' M' ∨ (T'.1 0 1 2 = 0 ∧ M'.1 0 0 22 = 0 ∧ zNm (M'.2 6 0) ∧ v = znm (M'.2 6 0) ∧ ∃ s e, zTk n T' M' 1 s e ∧ M'.1 0 0 18 = 1 ∧ M'.1 0 0 20 = nI e ∧ s < e ∧ e0 ≤ s)) := by
  obtain ⟨k, s, e, r1, ⟨⟨t6, t7, t8, t19, hse, hen⟩, tk⟩, hes⟩ := hB
  have hn := hC.1
  have h0' : (zTw T k s e).1 0 1 2 = 0 := by rw [zTw_j (by omega)]; exact h0
  have hk5 : k ≤ 5 := by omega
  have hP' := hP.tw hk5 hse hen
  have one : ¬ (1 : Int32) = 0 := by decide
  have bad : (¬ k = 1 ∨ 6 < e - s) → (¬ M.1 0 0 18 = 1 ∨ ¬ M.1 0 0 20 - M.1 0 0 19 ≤ 6) → ∃ v T' M', f_X1_readName T = some (v, T') ∧ f_X4_spellsHere M = some ((), M') ∧ zPh T0 M0 n T' M' ∧ zfr (fun κ ι => κ = 0 ∧ ι = 1) T T' ∧ M'.2 2 0 = M.2 2 0 ∧ (zFe T' M' ∨ (T'.1 0 1 2 = 0 ∧ M'.1 0 0 22 = 0 ∧ zNm (M'.2 6 0) ∧ v = znm (M'.2 6 0) ∧ ∃ s e, zTk n T' M' 1 s e ∧ M'.1 0 0 18 = 1 ∧ M'.1 0 0 20 = nI e ∧ s < e ∧ e0 ≤ s)) := by
    intro hk hm
    obtain ⟨w1, w2, w3⟩ := w_err (k := k) (e := e) one hP' t7 t19
    have u7 : (wI (wI (zTw T k s e) 0 1 2 1) 0 1 3 ((zTw T k s e).1 0 1 7)).1 0 1 7 = nI s := by rw [q_wIk (by omega), q_wIk (by omega)]; exact t7
    have u8 : (wI (wI (zTw T k s e) 0 1 2 1) 0 1 3 ((zTw T k s e).1 0 1 7)).1 0 1 8 = nI e := by rw [q_wIk (by omega), q_wIk (by omega)]; exact t8
    have e22 : ¬ (wI (wI M 0 0 22 1) 0 0 23 (M.1 0 0 19)).1 0 0 22 = 0 := w1.m
    have x26 : jn_X1_readName_26 (zTw T k s e) = some (zfo (fun i u => u * 27 + (wI (wI (zTw T k s e) 0 1 2 1) 0 1 3 ((zTw T k s e).1 0 1 7)).2 0 4 i - 97 + 1) s (e - s) 0, wI (wI (zTw T k s e) 0 1 2 1) 0 1 3 ((zTw T k s e).1 0 1 7)) := by
      unfold jn_X1_readName_26
      rw [x_fail h0', zb_s, q_nam31 u7 u8 hse (by omega)]
    have m29 : jn_X4_spellsHere_29 M = some ((), wI (wI M 0 0 22 1) 0 0 23 (M.1 0 0 19)) := by
      unfold jn_X4_spellsHere_29 jn_X4_spellsHere_34
      rw [m_errs h22, zb_s, lp_X4_spellsHere_36, if_neg (by decide), if_neg e22, zb_s]
    have ex : f_X1_readName T = some (zfo (fun i u => u * 27 + (wI (wI (zTw T k s e) 0 1 2 1) 0 1 3 ((zTw T k s e).1 0 1 7)).2 0 4 i - 97 + 1) s (e - s) 0, wI (wI (zTw T k s e) 0 1 2 1) 0 1 3 ((zTw T k s e).1 0 1 7)) := by
      unfold f_X1_readName
      rw [r1, zb_s, x26, t6, t7, t8, pk_sub hse]
      rcases hk with hk | hk
      · rw [if_neg (by rw [nl_1, q_eq (by omega) (by omega)]; exact hk)]
      · rw [if_neg (show ¬ nI (e - s) ≤ (6 : Int32) from nI_ge (a := 6) hk (by omega))]
        split <;> rfl
    have em : f_X4_spellsHere M = some ((), wI (wI M 0 0 22 1) 0 0 23 (M.1 0 0 19)) := by
      unfold f_X4_spellsHere
      rw [if_pos h22, m29]
      rcases hm with hm | hm
      · rw [if_neg hm]
      · rw [if_neg hm]
        split <;> rfl
    exact ⟨_, _, _, ex, em, w2, zfr_trans zTw_fr w3, rfl, Or.inl w1⟩
  rcases tk with ⟨rfl, q18, q20, hlt, hall⟩ | ⟨rfl, -, q18, -⟩ | ⟨rfl, -, q18⟩ | ⟨rfl, q18, -⟩ | ⟨rfl, q18, -⟩ | ⟨rfl, q18⟩
  · by_cases h6 : e - s ≤ 6
    · have eM : M.2 7 0 = M0.2 7 0 := hP.2.1.2.2 7 (by decide) (by decide)
      have eT : T.2 0 4 = T0.2 0 4 := zfr_2 hP.1.1 (fun z => by rcases z with z | z; omega; have := z.1; omega)
      have hbb : ∀ j, j < n → T.2 0 4 j = M.2 7 0 j := fun j hj => by rw [eT, eM]; exact hC.2.1 j hj
      obtain ⟨g, e1, hg⟩ := qm_spell h22 t19 q20 hse (by omega) 6 0 2000 (M.2 6 0) (by decide) (by decide) (fun i hi => by omega)
      rw [q_wAself, ← nl_0] at e1
      -- the letters
      have hl : ∀ i, i < e - s → ∃ l, 97 ≤ l ∧ l ≤ 122 ∧ T.2 0 4 (s + i) = nI l := fun i hi => q_lett (hall (s + i) (by omega) (by omega))
      have hN : zNm g := ⟨e - s, by omega, h6, fun i hi => by
        obtain ⟨l, a, b, c⟩ := hl i hi
        exact ⟨l, a, b, by rw [hg i (by omega), if_pos hi, ← hbb _ (by omega), c]⟩, fun i a b => by rw [hg i b, if_neg (by omega)]⟩
      obtain ⟨l, hl97, hleq⟩ : ∃ l : Nat → Nat, (∀ i, 97 ≤ l i ∧ l i ≤ 122) ∧ ∀ i, i < e - s → T.2 0 4 (s + i) = nI (l i) := by
        refine ⟨fun i => if i < e - s then (T.2 0 4 (s + i)).toNatClampNeg else 97, fun i => ?_, fun i hi => ?_⟩
        · by_cases hi : i < e - s
          · obtain ⟨l, a, b, c⟩ := hl i hi
            simp only [if_pos hi]
            rw [c, nI_clamp (by omega)]; exact ⟨a, b⟩
          · simp only [if_neg hi]; exact ⟨by decide, by decide⟩
        · obtain ⟨l, a, b, c⟩ := hl i hi
          simp only [if_pos hi]
          rw [c, nI_clamp (by omega)]
      have hv : zfo (fun i u => u * 27 + (zTw T 1 s e).2 0 4 i - 97 + 1) s (e - s) 0 = znm g := by
        rw [zTw_2, q_nmf hl97 (e - s) hleq, znm_nmN h6 hl97 (fun i hi => by rw [hg i (by omega), if_pos hi, ← hbb _ (by omega), hleq i hi]) (fun i a b => by rw [hg i b, if_neg (by omega)])]
      refine ⟨_, zTw T 1 s e, wA M 6 0 g, ?_, ?_, ⟨hP'.1, ⟨hP'.2.1.1, hP'.2.1.2.1, fun κ a b => by rw [q_wAo (by omega)]; exact hP'.2.1.2.2 κ a b⟩, hP'.2.2⟩, zTw_fr, q_wAo (by decide), Or.inr ⟨h0', h22, by rw [q_wAs]; exact hN, by rw [q_wAs], s, e, ⟨⟨t6, t7, t8, t19, hse, hen⟩, Or.inl ⟨rfl, q18, q20, hlt, hall⟩⟩, q18, q20, hlt, hes⟩⟩
      · unfold f_X1_readName
        rw [r1, zb_s, t6, if_pos (show nI 1 = (1 : Int32) from rfl), t7, t8, pk_sub hse, if_pos (show nI (e - s) ≤ (6 : Int32) from nI_le (b := 6) h6 (by decide)), q_nam31 t7 t8 hse (by omega), hv]
      · unfold f_X4_spellsHere jn_X4_spellsHere_34
        rw [if_pos h22, if_pos q18, q20, t19, pk_sub hse, if_pos (show nI (e - s) ≤ (6 : Int32) from nI_le (b := 6) h6 (by decide)), e1, zb_s]
    · exact bad (Or.inr (by omega)) (Or.inr (by rw [q20, t19, pk_sub hse]; exact nI_ge (a := 6) (by omega) (by omega)))
  · exact bad (Or.inl (by decide)) (Or.inl (by rw [q18]; decide))
  · exact bad (Or.inl (by decide)) (Or.inl (by rw [q18]; decide))
  · exact bad (Or.inl (by decide)) (Or.inl (by rw [q18]; decide))
  · exact bad (Or.inl (by decide)) (Or.inl (by rw [q18]; decide))
  · exact bad (Or.inl (by decide)) (Or.inl (by rw [q18]; decide))
/-- a child by its spelled name -/
theorem qm_sp16 {σ : Nat → Int32} {c : Nat} (hσ : M.2 2 0 = σ) (hc : c < 10) : ∀ k j f u, j + k = 6 → k < f → (u = 0 ∨ u = 1) → lp_X4_childSpelled_16 (nI c) f u (nI j) M = some ((zsw (u = 1 ∧ ∀ i, j ≤ i → i < 6 → zlet σ c i = M.2 6 0 i) 1 0, nI 6), M) := by
  intro k
  induction k with
  | zero =>
    intro j f u hj hf hu
    obtain ⟨f, rfl⟩ : ∃ q, f = q + 1 := ⟨f - 1, by omega⟩
    obtain rfl : j = 6 := by omega
    rw [lp_X4_childSpelled_16, if_pos (by decide)]
    rcases hu with rfl | rfl
    · rw [zsw_f (fun z => by have := z.1; revert this; decide)]
    · rw [zsw_t ⟨rfl, fun i a b => by omega⟩]
  | succ k ih =>
    intro j f u hj hf hu
    obtain ⟨f, rfl⟩ : ∃ q, f = q + 1 := ⟨f - 1, by omega⟩
    have z10 : ¬ (1 : Int32) = 0 := by decide
    have z01 : ¬ (0 : Int32) = 1 := by decide
    rw [lp_X4_childSpelled_16, if_neg (by rw [q_le6 (by omega)]; omega)]
    rcases hu with rfl | rfl
    · rw [if_pos rfl, zl_s, nI_1, ih (j + 1) f 0 (by omega) (by omega) (Or.inl rfl), zsw_f (fun z => z01 z.1), zsw_f (fun z => z01 z.1)]
    · rw [if_neg z10]
      simp (disch := omega) only [q_c, zb_s, zl_s, q_ad7, nI_add, q_zt, q_clamp, if_true, hσ, nI_1]
      by_cases h : σ (21 + 13 * c + 7 + j) = M.2 6 0 j
      · rw [if_pos h, ih (j + 1) f 1 (by omega) (by omega) (Or.inr rfl)]
        have e : (∀ i, j + 1 ≤ i → i < 6 → zlet σ c i = M.2 6 0 i) ↔ (∀ i, j ≤ i → i < 6 → zlet σ c i = M.2 6 0 i) := by
          constructor
          · intro hh i a b
            by_cases hij : i = j
            · subst hij; exact h
            · exact hh i (by omega) b
          · intro hh i a b; exact hh i (by omega) b
        rw [e]
        simp only [eq_self]
      · rw [if_neg h, ih (j + 1) f 0 (by omega) (by omega) (Or.inl rfl), zsw_f (fun z => z01 z.1), zsw_f (fun z => h (z.2 j (Nat.le_refl _) (by omega)))]
theorem qm_spd {σ : Nat → Int32} (hσ : M.2 2 0 = σ) (I : zIv σ) (hN : zNm (M.2 6 0)) : f_X4_childSpelled M = some ((match zfn (fun i => if znm (zlet σ i) = znm (M.2 6 0) then true else false) 0 (zn σ) with | some i => nI i | none => -1), M) := by
  have n10 := I.n10
  have z10 : ¬ (1 : Int32) = 0 := by decide
  have key : ∀ k j f, j + k = zn σ → k < f → lp_X4_childSpelled_2 f (nI j) M = some ((match zfn (fun i => if znm (zlet σ i) = znm (M.2 6 0) then true else false) j k with | some i => (0, nI i) | none => (1, nI (zn σ))), M) := by
    intro k
    induction k with
    | zero =>
      intro j f hj hf
      obtain ⟨f, rfl⟩ : ∃ q, f = q + 1 := ⟨f - 1, by omega⟩
      obtain rfl : j = zn σ := by omega
      rw [lp_X4_childSpelled_2, hσ, I.n, if_pos (Int32.le_refl _)]; rfl
    | succ k ih =>
      intro j f hj hf
      obtain ⟨f, rfl⟩ : ∃ q, f = q + 1 := ⟨f - 1, by omega⟩
      have e := qm_sp16 hσ (c := j) (by omega) 6 0 2000 1 (by omega) (by omega) (Or.inr rfl)
      rw [← nl_0] at e
      have hi := znm_inj (I.c (c := j) (by omega)).2.2.2 hN
      unfold zfn
      rw [lp_X4_childSpelled_2, hσ, I.n, if_neg (nI_ge (by omega) (by omega))]
      by_cases h : znm (zlet σ j) = znm (M.2 6 0)
      · rw [zsw_t ⟨rfl, fun i _ b => hi.mp h i b⟩] at e
        rw [e, zb_s]
        simp only [if_neg z10, if_pos h, if_true]
      · rw [zsw_f (fun z => h (hi.mpr (fun i b => z.2 i (Nat.zero_le _) b)))] at e
        rw [e, zb_s]
        simp only [if_neg h, if_true, zl_s, nI_1, Bool.false_eq_true, if_false]
        exact ih (j + 1) f (by omega) (by omega)
  have e := key (zn σ) 0 2000 (by omega) (by omega)
  rw [← nl_0] at e
  unfold f_X4_childSpelled
  rw [e, zb_s]
  cases zfn (fun i => if znm (zlet σ i) = znm (M.2 6 0) then true else false) 0 (zn σ) with
  | none => rfl
  | some i => rfl
/-- keywords -/
theorem w_key {k s e q : Nat} (hC : zCx T0 M0 n) (hP : zPh T0 M0 n T M) (htk : zTk n T M k s e) (hq : q < 7) : ∃ v, f_X1_tokenIs (q + 1) T = some (v, T) ∧ f_X4_isKey (nI q) M = some (v, M) ∧ (v = 0 ∨ (v = 1 ∧ k = 1)) := by
  obtain ⟨⟨t6, t7, t8, t19, hse, hen⟩, tk⟩ := htk
  obtain ⟨kl, kb⟩ := q_zby q hq
  obtain ⟨k1, k2, k3, k4⟩ := q_zkey q hq
  have hn := hC.1
  by_cases hk : k = 1
  · subst hk
    rcases tk with ⟨-, q18, q20, hlt, hall⟩ | ⟨h, -⟩ | ⟨h, -⟩ | ⟨h, -⟩ | ⟨h, -⟩ | ⟨h, -⟩
    · have eM : M.2 7 0 = M0.2 7 0 := hP.2.1.2.2 7 (by decide) (by decide)
      have eT : T.2 0 4 = T0.2 0 4 := zfr_2 hP.1.1 (fun z => by rcases z with z | z; omega; have := z.1; omega)
      have hbb : ∀ j, j < n → T.2 0 4 j = M.2 7 0 j := fun j hj => by rw [eT, eM]; exact hC.2.1 j hj
      have eK : ∀ i, i < 80 → M.2 1 0 i = nI (zkeys.getD i 0) := fun i hi => by rw [hP.2.1.2.2 1 (by decide) (by decide)]; exact hC.2.2 i hi
      have hlet : ∀ i, i < e - s → ¬ T.2 0 4 (s + i) = 0 := fun i hi h => by
        obtain ⟨l, a, b, c⟩ := q_lett (hall (s + i) (by omega) (by omega))
        rw [h] at c
        have := q_inj (a := 0) c (by decide) (by omega)
        omega
      -- the class's loop
      have cx : e - s = klen q → ∀ d j f, j + d = klen q → d < f → ∃ i, lp_X1_tokenIs_28 (q + 1) f (nI j) T = some ((zsw (∀ i, j ≤ i → i < klen q → T.2 0 4 (s + i) = nI (zkeys.getD (8 * q + i) 0)) 1 0, i), T) := by
        intro hlen d
        induction d with
        | zero =>
          intro j f hj hf
          obtain ⟨f, rfl⟩ : ∃ g, f = g + 1 := ⟨f - 1, by omega⟩
          obtain rfl : j = klen q := by omega
          rw [lp_X1_tokenIs_28, kl, if_pos (Int32.le_refl _), zsw_t (fun i a b => by omega)]
          exact ⟨_, rfl⟩
        | succ d ih =>
          intro j f hj hf
          obtain ⟨f, rfl⟩ : ∃ g, f = g + 1 := ⟨f - 1, by omega⟩
          have hj' : j < klen q := by omega
          rw [lp_X1_tokenIs_28, kl, if_neg (nI_ge (by omega) (by omega)), t7, nI_add, q_byteAt (by omega), zb_s, if_pos (of_eq_true (q_zt hj' (by omega))), nI_clamp (by omega), kb j hj']
          by_cases h : T.2 0 4 (s + j) = nI (zkeys.getD (8 * q + j) 0)
          · rw [if_pos h, zl_s, nI_1]
            obtain ⟨i, e1⟩ := ih (j + 1) f (by omega) (by omega)
            have ee : (∀ i, j + 1 ≤ i → i < klen q → T.2 0 4 (s + i) = nI (zkeys.getD (8 * q + i) 0)) ↔ (∀ i, j ≤ i → i < klen q → T.2 0 4 (s + i) = nI (zkeys.getD (8 * q + i) 0)) := by
              constructor
              · intro hh i a b
                by_cases hij : i = j
                · subst hij; exact h
                · exact hh i (by omega) b
              · intro hh i a b; exact hh i (by omega) b
            refine ⟨i, ?_⟩
            rw [e1]
            by_cases q1 : ∀ i, j + 1 ≤ i → i < klen q → T.2 0 4 (s + i) = nI (zkeys.getD (8 * q + i) 0)
            · rw [zsw_t q1, zsw_t (ee.mp q1)]
            · rw [zsw_f q1, zsw_f (fun z => q1 (ee.mpr z))]
          · rw [if_neg h, zsw_f (fun z => h (z j (Nat.le_refl _) hj'))]
            exact ⟨_, rfl⟩
      -- the model's loop
      have mx : e - s ≤ 8 → ∀ d j f, j + d = 8 → d < f → ∃ i, lp_X4_isKey_26 (nI q) f (nI j) M = some ((zsw (∀ i, j ≤ i → i < 8 → (if i < e - s then T.2 0 4 (s + i) else 0) = nI (zkeys.getD (8 * q + i) 0)) 1 0, i), M) := by
        intro hlen d
        induction d with
        | zero =>
          intro j f hj hf
          obtain ⟨f, rfl⟩ : ∃ g, f = g + 1 := ⟨f - 1, by omega⟩
          obtain rfl : j = 8 := by omega
          rw [lp_X4_isKey_26, if_pos (by decide), zsw_t (fun i a b => by omega)]
          exact ⟨_, rfl⟩
        | succ d ih =>
          intro j f hj hf
          obtain ⟨f, rfl⟩ : ∃ g, f = g + 1 := ⟨f - 1, by omega⟩
          have hj8 : j < 8 := by omega
          have step : lp_X4_isKey_26 (nI q) (f + 1) (nI j) M = (if (if j < e - s then T.2 0 4 (s + j) else 0) = nI (zkeys.getD (8 * q + j) 0) then lp_X4_isKey_26 (nI q) f (nI (j + 1)) M else some ((0, nI j), M)) := by
            rw [lp_X4_isKey_26, if_neg (show ¬ (8 : Int32) ≤ nI j from nI_ge (b := 8) hj8 (by decide)), q20, t19, pk_sub hse, nl_8, pk_mul, nI_add]
            simp (disch := omega) only [q_le, zl_s, q_zt, q_clamp, if_true, eK, nI_1, nI_add]
            by_cases hc : e - s ≤ j
            · rw [if_pos hc, if_neg (show ¬ j < e - s by omega)]
            · rw [if_neg hc, if_pos (show j < e - s by omega)]
              rw [hbb (s + j) (by omega)]
          rw [step]
          by_cases h : (if j < e - s then T.2 0 4 (s + j) else 0) = nI (zkeys.getD (8 * q + j) 0)
          · rw [if_pos h]
            obtain ⟨i, e1⟩ := ih (j + 1) f (by omega) (by omega)
            refine ⟨i, ?_⟩
            rw [e1]
            by_cases q1 : ∀ i, j + 1 ≤ i → i < 8 → (if i < e - s then T.2 0 4 (s + i) else 0) = nI (zkeys.getD (8 * q + i) 0)
            · rw [zsw_t q1, zsw_t (fun i a b => by
                by_cases hij : i = j
                · subst hij; exact h
                · exact q1 i (by omega) b)]
            · rw [zsw_f q1, zsw_f (fun z => q1 (fun i a b => z i (by omega) b))]
          · rw [if_neg h, zsw_f (fun z => h (z j (Nat.le_refl _) hj8))]
            exact ⟨_, rfl⟩
      have one0 : ¬ ((1 : Nat) = 0) := by decide
      by_cases hlen : e - s = klen q
      · obtain ⟨i1, c1⟩ := cx hlen (klen q) 0 2000 (by omega) (by omega)
        obtain ⟨i2, c2⟩ := mx (by omega) 8 0 2000 (by omega) (by omega)
        rw [← nl_0] at c1 c2
        have same : (∀ i, 0 ≤ i → i < klen q → T.2 0 4 (s + i) = nI (zkeys.getD (8 * q + i) 0)) ↔ (∀ i, 0 ≤ i → i < 8 → (if i < e - s then T.2 0 4 (s + i) else 0) = nI (zkeys.getD (8 * q + i) 0)) := by
          constructor
          · intro hh i a b
            by_cases hi : i < klen q
            · rw [if_pos (by omega)]; exact hh i a hi
            · rw [if_neg (by omega), k4 i (by omega) b]; rfl
          · intro hh i a b
            have := hh i a (by omega)
            rw [if_pos (by omega)] at this
            exact this
        have fx : f_X1_tokenIs (q + 1) T = some (zsw (∀ i, 0 ≤ i → i < klen q → T.2 0 4 (s + i) = nI (zkeys.getD (8 * q + i) 0)) 1 0, T) := by
          unfold f_X1_tokenIs
          rw [t6, if_pos (show nI 1 = (1 : Int32) from rfl), t8, t7, pk_sub hse, kl, hlen, if_pos rfl, c1, zb_s]
          by_cases hh : ∀ i, 0 ≤ i → i < klen q → T.2 0 4 (s + i) = nI (zkeys.getD (8 * q + i) 0)
          · simp only [zsw_t hh, if_neg one0, if_true]
          · simp only [zsw_f hh, if_true]
        have fm : f_X4_isKey (nI q) M = some (zsw (∀ i, 0 ≤ i → i < 8 → (if i < e - s then T.2 0 4 (s + i) else 0) = nI (zkeys.getD (8 * q + i) 0)) 1 0, M) := by
          unfold f_X4_isKey
          rw [q18, if_pos rfl, q20, t19, pk_sub hse, if_pos (show nI (e - s) ≤ (8 : Int32) from nI_le (b := 8) (by omega) (by decide)), c2, zb_s]
          by_cases hh : ∀ i, 0 ≤ i → i < 8 → (if i < e - s then T.2 0 4 (s + i) else 0) = nI (zkeys.getD (8 * q + i) 0)
          · simp only [zsw_t hh, if_neg one0, if_true]
          · simp only [zsw_f hh, if_true]
        by_cases hh : ∀ i, 0 ≤ i → i < klen q → T.2 0 4 (s + i) = nI (zkeys.getD (8 * q + i) 0)
        · rw [zsw_t hh] at fx
          rw [zsw_t (same.mp hh)] at fm
          exact ⟨1, fx, fm, Or.inr ⟨rfl, rfl⟩⟩
        · rw [zsw_f hh] at fx
          rw [zsw_f (fun z => hh (same.mpr z))] at fm
          exact ⟨0, fx, fm, Or.inl rfl⟩
      · have fx : f_X1_tokenIs (q + 1) T = some (0, T) := by
          unfold f_X1_tokenIs
          rw [t6, if_pos (show nI 1 = (1 : Int32) from rfl), t8, t7, pk_sub hse, kl, if_neg (by rw [q_eq (by omega) (by omega)]; exact hlen)]
        have fm : f_X4_isKey (nI q) M = some (0, M) := by
          unfold f_X4_isKey
          rw [q18, if_pos rfl, q20, t19, pk_sub hse]
          by_cases h8 : e - s ≤ 8
          · obtain ⟨i2, c2⟩ := mx h8 8 0 2000 (by omega) (by omega)
            rw [← nl_0] at c2
            rw [if_pos (show nI (e - s) ≤ (8 : Int32) from nI_le (b := 8) h8 (by decide)), c2, zb_s]
            have hh : ¬ ∀ i, 0 ≤ i → i < 8 → (if i < e - s then T.2 0 4 (s + i) else 0) = nI (zkeys.getD (8 * q + i) 0) := by
              intro z
              rcases Nat.lt_or_gt_of_ne hlen with h | h
              · have := z (e - s) (Nat.zero_le _) (by omega)
                rw [if_neg (by omega)] at this
                have h3 := (k3 (e - s) h).1
                have h4 := (k3 (e - s) h).2
                have := q_inj (a := 0) this (by decide) (by omega)
                omega
              · have := z (klen q) (Nat.zero_le _) (by omega)
                rw [if_pos h, k4 (klen q) (Nat.le_refl _) (by omega)] at this
                exact hlet (klen q) h this
            simp only [zsw_f hh, if_true]
          · rw [if_neg (show ¬ nI (e - s) ≤ (8 : Int32) from nI_ge (a := 8) (by omega) (by omega))]
        exact ⟨0, fx, fm, Or.inl rfl⟩
    · omega
    · omega
    · omega
    · omega
    · omega
  · have fx : f_X1_tokenIs (q + 1) T = some (0, T) := by
      unfold f_X1_tokenIs
      rw [t6, if_neg (by rw [nl_1, q_eq (by omega) (by omega)]; exact hk)]
    have fm : f_X4_isKey (nI q) M = some (0, M) := by
      unfold f_X4_isKey
      rcases tk with ⟨h, -⟩ | ⟨-, -, q18, -⟩ | ⟨-, -, q18⟩ | ⟨-, q18, -⟩ | ⟨-, q18, -⟩ | ⟨-, q18⟩
      · exact (hk h).elim
      all_goals rw [q18, if_neg (by decide)]
    exact ⟨0, fx, fm, Or.inl rfl⟩
end WD
