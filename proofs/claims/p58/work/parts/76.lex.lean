/-! THE TOKENS -/
def zci (v : Int32) : Nat := if v < 97 then (if v < 48 then (if v = 59 then 3 else if v = 32 then 0 else if v = 10 then 0 else 5) else if 57 < v then (if v = 59 then 3 else if v = 32 then 0 else if v = 10 then 0 else 5) else 2) else if 122 < v then (if v < 48 then (if v = 59 then 3 else if v = 32 then 0 else if v = 10 then 0 else 5) else if 57 < v then (if v = 59 then 3 else if v = 32 then 0 else if v = 10 then 0 else 5) else 2) else 1
def zcl (b : Nat → Int32) (n i : Nat) : Nat := if n ≤ i then 4 else zci (b i)
theorem zci_le (v : Int32) : zci v ≤ 5 := by
  unfold zci
  repeat' split
  all_goals omega
theorem zci_ne4 (v : Int32) : zci v ≠ 4 := by
  unfold zci
  repeat' split
  all_goals omega
theorem zci_0 (v : Int32) : zci v = 0 ↔ v = 32 ∨ v = 10 := by
  constructor
  · intro h
    unfold zci at h
    repeat' split at h
    all_goals first | omega | (left; assumption) | (right; assumption)
  · rintro (rfl | rfl) <;> decide
theorem zci_1 (v : Int32) : zci v = 1 ↔ ¬ v < 97 ∧ ¬ 122 < v := by
  constructor
  · intro h
    unfold zci at h
    repeat' split at h
    all_goals first | omega | exact ⟨by assumption, by assumption⟩
  · rintro ⟨h1, h2⟩
    unfold zci
    rw [if_neg h1, if_neg h2]
theorem zci_2 (v : Int32) : zci v = 2 ↔ ¬ v < 48 ∧ ¬ 57 < v := by
  constructor
  · intro h
    unfold zci at h
    repeat' split at h
    all_goals first | omega | exact ⟨by assumption, by assumption⟩
  · rintro ⟨h1, h2⟩
    have h3 : v < 97 := Int32.lt_of_le_of_lt (Int32.not_lt.mp h2) (by decide)
    unfold zci
    rw [if_pos h3, if_neg h1, if_neg h2]
theorem zci_3 (v : Int32) : zci v = 3 ↔ v = 59 := by
  constructor
  · intro h
    unfold zci at h
    repeat' split at h
    all_goals first | omega | assumption
  · rintro rfl; decide
theorem zcl_le (b : Nat → Int32) (n i : Nat) : zcl b n i ≤ 5 := by
  unfold zcl; split
  · decide
  · exact zci_le _
theorem zcl_4 {b : Nat → Int32} {n i : Nat} (h : zcl b n i ≠ 4) : i < n := by
  unfold zcl at h
  by_cases e : n ≤ i
  · rw [if_pos e] at h; exact (h rfl).elim
  · omega
theorem zcl_lt {b : Nat → Int32} {n i : Nat} (h : i < n) : zcl b n i = zci (b i) := by unfold zcl; rw [if_neg (by omega)]
/-- as far as a test holds -/
def zwh (p : Nat → Bool) : Nat → Nat → Nat
  | j, 0 => j
  | j, k + 1 => if p j = true then zwh p (j + 1) k else j
theorem zwh_ge {p : Nat → Bool} : ∀ {k j : Nat}, j ≤ zwh p j k
  | 0, _ => Nat.le_refl _
  | k + 1, j => by
    unfold zwh
    split
    · exact Nat.le_trans (Nat.le_succ j) zwh_ge
    · exact Nat.le_refl _
theorem zwh_le {p : Nat → Bool} : ∀ {k j : Nat}, zwh p j k ≤ j + k
  | 0, _ => Nat.le_refl _
  | k + 1, j => by
    unfold zwh
    split
    · have := zwh_le (p := p) (k := k) (j := j + 1); omega
    · omega
theorem zwh_all {p : Nat → Bool} : ∀ {k j i : Nat}, j ≤ i → i < zwh p j k → p i = true
  | 0, j, i, h1, h2 => by unfold zwh at h2; omega
  | k + 1, j, i, h1, h2 => by
    unfold zwh at h2
    by_cases hp : p j = true
    · rw [if_pos hp] at h2
      by_cases e : i = j
      · subst e; exact hp
      · exact zwh_all (by omega) h2
    · rw [if_neg hp] at h2; omega
theorem zwh_stop {p : Nat → Bool} : ∀ {k j : Nat}, zwh p j k < j + k → p (zwh p j k) = false
  | 0, j, h => by unfold zwh at h; omega
  | k + 1, j, h => by
    unfold zwh at h ⊢
    by_cases hp : p j = true
    · rw [if_pos hp] at h ⊢
      exact zwh_stop (by omega)
    · rw [if_neg hp]; simpa using hp
theorem zwh_congr {p q : Nat → Bool} : ∀ {k j : Nat}, (∀ i, j ≤ i → i < j + k → p i = q i) → zwh p j k = zwh q j k
  | 0, _, _ => rfl
  | k + 1, j, h => by
    unfold zwh
    rw [h j (Nat.le_refl _) (by omega), zwh_congr (k := k) (j := j + 1) (fun i a c => h i (by omega) (by omega))]
/-- where the next token begins, and where it ends -/
def ztS (b : Nat → Int32) (n e : Nat) : Nat := zwh (fun i => decide (zcl b n i = 0)) e (n - e)
def ztR (b : Nat → Int32) (n s f : Nat) : Nat := zwh (fun i => decide (zcl b n i = f)) s (n - s)
def ztE (b : Nat → Int32) (n s : Nat) : Nat := if zcl b n s = 1 ∨ zcl b n s = 2 then ztR b n s (zcl b n s) else if zcl b n s = 3 then s + 1 else s
section LX
variable {T M : zT} {n : Nat}
theorem q_class {i : Nat} (h5 : T.1 0 1 5 = nI n) (hn : n ≤ 600) (hi : i ≤ 600) : f_X1_classAt (nI i) T = some (nI (zcl (T.2 0 4) n i), T) := by
  unfold f_X1_classAt jn_X1_classAt_44 jn_X1_classAt_58 zcl zci
  rw [h5, if_neg (nI_pos (by omega))]
  by_cases h : n ≤ i
  · rw [if_pos (nI_le h (by omega)), if_pos h]; rfl
  · rw [if_neg (nI_ge (by omega) (by omega)), if_neg h, if_pos (show nI i < (600 : Int32) from nI_lt (b := 600) (by omega) (by decide)), if_pos (of_eq_true (q_zt (show i < 600 by omega) (by decide))), zl_s, nI_clamp (by omega)]
    repeat' split
    all_goals rfl
theorem q_run {f : Nat} (hf : f ≤ 5) : f_X1_isRun (nI f) T = some ((if f = 1 ∨ f = 2 then 1 else 0), T) := by
  rcases (by omega : f = 0 ∨ f = 1 ∨ f = 2 ∨ f = 3 ∨ f = 4 ∨ f = 5) with rfl | rfl | rfl | rfl | rfl | rfl <;> rfl
theorem qx_skip (h5 : T.1 0 1 5 = nI n) (hn : n ≤ 600) : ∀ k j f, j + k = n → k < f → lp_X1_readToken_13 f (nI j) T = some (nI (zwh (fun i => decide (zcl (T.2 0 4) n i = 0)) j k), T) := by
  intro k
  induction k with
  | zero =>
    intro j f hj hf
    obtain ⟨f, rfl⟩ : ∃ g, f = g + 1 := ⟨f - 1, by omega⟩
    obtain rfl : j = n := by omega
    rw [lp_X1_readToken_13, h5, if_pos (Int32.le_refl _)]; rfl
  | succ k ih =>
    intro j f hj hf
    obtain ⟨f, rfl⟩ : ∃ g, f = g + 1 := ⟨f - 1, by omega⟩
    have hle := zcl_le (T.2 0 4) n j
    rw [lp_X1_readToken_13, h5, if_neg (nI_ge (by omega) (by omega)), q_class h5 hn (by omega), zb_s]
    unfold zwh
    by_cases h : zcl (T.2 0 4) n j = 0
    · rw [if_pos (by rw [h]; rfl), if_pos (decide_eq_true h), zl_s, nI_1]
      exact ih (j + 1) f (by omega) (by omega)
    · rw [if_neg (nI_ne0 (by omega) (by omega)), if_neg (by simpa using h)]
theorem qx_runl {w1 : Int32} {g : Nat} (hg : g ≤ 5) (h5 : T.1 0 1 5 = nI n) (hn : n ≤ 600) : ∀ k j f, j + k = n → k < f → lp_X1_readToken_50 w1 (nI g) f (nI j) T = some (nI (zwh (fun i => decide (zcl (T.2 0 4) n i = g)) j k), T) := by
  intro k
  induction k with
  | zero =>
    intro j f hj hf
    obtain ⟨f, rfl⟩ : ∃ g, f = g + 1 := ⟨f - 1, by omega⟩
    obtain rfl : j = n := by omega
    rw [lp_X1_readToken_50, h5, if_pos (Int32.le_refl _)]; rfl
  | succ k ih =>
    intro j f hj hf
    obtain ⟨f, rfl⟩ : ∃ g, f = g + 1 := ⟨f - 1, by omega⟩
    have hle := zcl_le (T.2 0 4) n j
    rw [lp_X1_readToken_50, h5, if_neg (nI_ge (by omega) (by omega)), q_class h5 hn (by omega), zb_s]
    unfold zwh
    by_cases h : zcl (T.2 0 4) n j = g
    · rw [if_pos (by rw [h]), if_pos (decide_eq_true h), zl_s, nI_1]
      exact ih (j + 1) f (by omega) (by omega)
    · rw [if_neg (by rw [q_eq (by omega) (by omega)]; exact h), if_neg (by simpa using h)]
/-- the class's token -/
def zTw (T : zT) (k s e : Nat) : zT := wI (wI (wI T 0 1 6 (nI k)) 0 1 7 (nI s)) 0 1 8 (nI e)
theorem w_read {e k : Nat} (h2 : T.1 0 1 2 = 0) (h5 : T.1 0 1 5 = nI n) (hn : n ≤ 600) (h8 : T.1 0 1 8 = nI e) (he : e ≤ n) (h6 : T.1 0 1 6 = nI k) (hk : k ≤ 5) : f_X1_readToken T = some ((), zTw T (if ztS (T.2 0 4) n e = e ∧ (k = 1 ∨ k = 2) ∧ (zcl (T.2 0 4) n (ztS (T.2 0 4) n e) = 1 ∨ zcl (T.2 0 4) n (ztS (T.2 0 4) n e) = 2) then 5 else zcl (T.2 0 4) n (ztS (T.2 0 4) n e)) (ztS (T.2 0 4) n e) (ztE (T.2 0 4) n (ztS (T.2 0 4) n e))) := by
  have hs1 : e ≤ ztS (T.2 0 4) n e := zwh_ge
  have hs2 : ztS (T.2 0 4) n e ≤ n := by
    have := zwh_le (p := fun i => decide (zcl (T.2 0 4) n i = 0)) (k := n - e) (j := e)
    unfold ztS; omega
  have e1 := qx_skip h5 hn (n - e) e 2000 (by omega) (by omega)
  obtain ⟨s, es⟩ : ∃ s, s = ztS (T.2 0 4) n e := ⟨_, rfl⟩
  rw [← es] at hs1 hs2 ⊢
  have e1 : lp_X1_readToken_13 2000 (nI e) T = some (nI s, T) := by rw [e1, es]; rfl
  obtain ⟨c, ec⟩ : ∃ c, c = zcl (T.2 0 4) n s := ⟨_, rfl⟩
  have hc : c ≤ 5 := by rw [ec]; exact zcl_le _ _ _
  have e2 : f_X1_classAt (nI s) T = some (nI c, T) := by rw [q_class h5 hn (by omega), ec]
  have j82 : ∀ x, jn_X1_readToken_82 (nI s) (nI c) (nI x) T = some ((), zTw T (if s = e ∧ (k = 1 ∨ k = 2) ∧ (c = 1 ∨ c = 2) then 5 else c) s x) := by
    intro x
    unfold jn_X1_readToken_82 jn_X1_readToken_111 jn_X1_readToken_112 zTw
    rw [h8, h6, q_run hk]
    by_cases a1 : s = e
    · rw [if_pos (by rw [a1]), zb_s]
      by_cases a2 : k = 1 ∨ k = 2
      · rw [if_pos a2, if_neg (show ¬ (1 : Int32) = 0 by decide), q_run hc, zb_s]
        by_cases a3 : c = 1 ∨ c = 2
        · rw [if_pos a3, if_neg (show ¬ (1 : Int32) = 0 by decide), if_neg (show ¬ (1 : Int32) = 0 by decide), if_pos ⟨a1, a2, a3⟩]; rfl
        · rw [if_neg a3, if_pos rfl, if_pos rfl, if_neg (fun z => a3 z.2.2)]; rfl
      · rw [if_neg a2, if_pos rfl, if_pos rfl, if_neg (fun z => a2 z.2.1)]; rfl
    · rw [if_neg (by rw [q_eq (by omega) (by omega)]; exact a1), if_pos rfl, if_neg (fun z => a1 z.1)]; rfl
  unfold f_X1_readToken jn_X1_readToken_35
  rw [if_pos h2, h8, zl_s, e1, zb_s, e2, zb_s, q_run hc, zb_s, ← ec]
  unfold ztE
  rw [← ec]
  by_cases a : c = 1 ∨ c = 2
  · have e3 := qx_runl (w1 := nI s) hc h5 hn (n - s) s 2000 (by omega) (by omega)
    rw [if_pos a, if_neg (show ¬ (1 : Int32) = 0 by decide), e3, zb_s, j82, if_pos a]; rfl
  · rw [if_neg a, if_pos rfl, if_neg a]
    by_cases a3 : c = 3
    · rw [if_pos (by rw [a3]; rfl), zl_s, nI_1, j82, if_pos a3]
    · rw [if_neg (by rw [nl_3, q_eq (by omega) (by omega)]; exact a3), j82, if_neg a3]
end LX
section LX2
variable {T : zT} {n : Nat}
theorem q_byteAt {i : Nat} (h : i < 600) : f_X1_byteAt (nI i) T = some (T.2 0 4 i, T) := by
  unfold f_X1_byteAt
  rw [if_neg (nI_pos (by omega)), if_neg (show ¬ (600 : Int32) ≤ nI i from nI_ge (b := 600) h (by decide)), if_pos (of_eq_true (q_zt h (by decide))), nI_clamp (by omega)]
theorem q_numl {w1 w2 : Int32} {e : Nat} (h8 : T.1 0 1 8 = nI e) (he : e ≤ 600) : ∀ k j f u, j + k = e → k < f → lp_X1_readNumber_40 w1 w2 f u (nI j) T = some ((zfo (fun i u => u * 10 + T.2 0 4 i - 48) j k u, nI e), T) := by
  intro k
  induction k with
  | zero =>
    intro j f u hj hf
    obtain ⟨f, rfl⟩ : ∃ g, f = g + 1 := ⟨f - 1, by omega⟩
    obtain rfl : j = e := by omega
    rw [lp_X1_readNumber_40, h8, if_pos (Int32.le_refl _)]; rfl
  | succ k ih =>
    intro j f u hj hf
    obtain ⟨f, rfl⟩ : ∃ g, f = g + 1 := ⟨f - 1, by omega⟩
    rw [lp_X1_readNumber_40, h8, if_neg (nI_ge (by omega) (by omega)), q_byteAt (by omega), zb_s, zl_s, zl_s, nI_1]
    exact ih (j + 1) f _ (by omega) (by omega)
theorem q_naml {e : Nat} (h8 : T.1 0 1 8 = nI e) (he : e ≤ 600) : ∀ k j f u, j + k = e → k < f → lp_X1_readName_38 f u (nI j) T = some ((zfo (fun i u => u * 27 + T.2 0 4 i - 97 + 1) j k u, nI e), T) := by
  intro k
  induction k with
  | zero =>
    intro j f u hj hf
    obtain ⟨f, rfl⟩ : ∃ g, f = g + 1 := ⟨f - 1, by omega⟩
    obtain rfl : j = e := by omega
    rw [lp_X1_readName_38, h8, if_pos (Int32.le_refl _)]; rfl
  | succ k ih =>
    intro j f u hj hf
    obtain ⟨f, rfl⟩ : ∃ g, f = g + 1 := ⟨f - 1, by omega⟩
    rw [lp_X1_readName_38, h8, if_neg (nI_ge (by omega) (by omega)), q_byteAt (by omega), zb_s, zl_s, zl_s, nI_1]
    exact ih (j + 1) f _ (by omega) (by omega)
theorem q_nam31 {s e : Nat} (h7 : T.1 0 1 7 = nI s) (h8 : T.1 0 1 8 = nI e) (hse : s ≤ e) (he : e ≤ 600) : jn_X1_readName_31 T = some (zfo (fun i u => u * 27 + T.2 0 4 i - 97 + 1) s (e - s) 0, T) := by
  unfold jn_X1_readName_31
  rw [h7, zl_s, q_naml h8 he (e - s) s 2000 0 (by omega) (by omega), zb_s]
theorem zTw_6 {k s e : Nat} : (zTw T k s e).1 0 1 6 = nI k := by unfold zTw; rw [q_wIk (by omega), q_wIk (by omega), q_wIs]
theorem zTw_7 {k s e : Nat} : (zTw T k s e).1 0 1 7 = nI s := by unfold zTw; rw [q_wIk (by omega), q_wIs]
theorem zTw_8 {k s e : Nat} : (zTw T k s e).1 0 1 8 = nI e := by unfold zTw; rw [q_wIs]
theorem zTw_j {k s e κ ι j : Nat} (h : ¬ (κ = 0 ∧ ι = 1 ∧ 6 ≤ j)) : (zTw T k s e).1 κ ι j = T.1 κ ι j := by unfold zTw; rw [q_wIk (by omega), q_wIk (by omega), q_wIk (by omega)]
theorem zTw_2 {k s e : Nat} : (zTw T k s e).2 = T.2 := rfl
theorem zTw_fr {k s e : Nat} : zfr (fun κ ι => κ = 0 ∧ ι = 1) T (zTw T k s e) := zfr_trans (zfr_wI ⟨rfl, rfl⟩) (zfr_trans (zfr_wI ⟨rfl, rfl⟩) (zfr_wI ⟨rfl, rfl⟩))
end LX2
