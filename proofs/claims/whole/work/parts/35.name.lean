/-! NAMES AS NUMBERS -/
def nmN (l : Nat → Nat) : Nat → Nat
  | 0 => 0
  | i + 1 => nmN l i * 27 + (l i - 96)
theorem nmN_lt {l : Nat → Nat} (h : ∀ i, 97 ≤ l i ∧ l i ≤ 122) : ∀ m, nmN l m < 27 ^ m := by
  intro m
  induction m with
  | zero => show (0 : Nat) < 27 ^ 0; decide
  | succ m ih =>
    show nmN l m * 27 + (l m - 96) < 27 ^ (m + 1)
    rw [Nat.pow_succ]
    have := h m
    omega
theorem nmN_ge {l : Nat → Nat} (h : ∀ i, 97 ≤ l i ∧ l i ≤ 122) : ∀ m, 27 ^ m ≤ nmN l (m + 1) := by
  intro m
  induction m with
  | zero => have := h 0; show 1 ≤ 0 * 27 + (l 0 - 96); omega
  | succ m ih =>
    show 27 ^ (m + 1) ≤ nmN l (m + 1) * 27 + (l (m + 1) - 96)
    rw [Nat.pow_succ]
    omega
theorem nmN_div {l : Nat → Nat} (h : ∀ i, 97 ≤ l i ∧ l i ≤ 122) : ∀ k i, nmN l (i + k) / 27 ^ k = nmN l i := by
  intro k
  induction k with
  | zero => intro i; rw [Nat.pow_zero, Nat.div_one]; rfl
  | succ k ih =>
    intro i
    have e : nmN l (i + (k + 1)) / 27 = nmN l (i + k) := by
      show (nmN l (i + k) * 27 + (l (i + k) - 96)) / 27 = nmN l (i + k)
      have := h (i + k)
      omega
    rw [Nat.pow_succ, Nat.mul_comm, ← Nat.div_div_eq_div_mul, e, ih]
theorem nmN_mod {l : Nat → Nat} (h : ∀ i, 97 ≤ l i ∧ l i ≤ 122) (i : Nat) : nmN l (i + 1) % 27 = l i - 96 := by
  show (nmN l i * 27 + (l i - 96)) % 27 = l i - 96
  have := h i
  omega
theorem nmN_congr {l l' : Nat → Nat} : ∀ {m : Nat}, (∀ i, i < m → l i = l' i) → nmN l m = nmN l' m
  | 0, _ => rfl
  | m + 1, h => by
    show nmN l m * 27 + (l m - 96) = nmN l' m * 27 + (l' m - 96)
    rw [nmN_congr (fun i hi => h i (by omega)), h m (by omega)]
/-- a name's letters, as numbers -/
theorem zNm.let {f : Nat → Int32} (h : zNm f) : ∃ (m : Nat) (l : Nat → Nat), 1 ≤ m ∧ m ≤ 6 ∧ (∀ i, 97 ≤ l i ∧ l i ≤ 122) ∧ (∀ i, i < m → f i = nI (l i)) ∧ ∀ i, m ≤ i → i < 6 → f i = 0 := by
  obtain ⟨m, h1, h2, h3, h4⟩ := h
  refine ⟨m, fun i => if i < m then (f i).toNatClampNeg else 97, h1, h2, fun i => ?_, fun i hi => ?_, h4⟩
  · by_cases hi : i < m
    · obtain ⟨l, a, b, c⟩ := h3 i hi
      simp only [if_pos hi]
      rw [c, nI_clamp (by omega)]; exact ⟨a, b⟩
    · simp only [if_neg hi]; exact ⟨by decide, by decide⟩
  · obtain ⟨l, a, b, c⟩ := h3 i hi
    simp only [if_pos hi]
    rw [c, nI_clamp (by omega)]
theorem q_nmst {u l : Nat} (h : 97 ≤ l) : nI u * 27 + nI l - 97 + 1 = nI (u * 27 + (l - 96)) := by
  rw [nl_27, nl_97, nl_1, pk_mul, nI_add, pk_sub (by omega), nI_add]
  congr 1; omega
theorem znm_nmN {f : Nat → Int32} {m : Nat} {l : Nat → Nat} (h2 : m ≤ 6) (hl : ∀ i, 97 ≤ l i ∧ l i ≤ 122) (h3 : ∀ i, i < m → f i = nI (l i)) (h4 : ∀ i, m ≤ i → i < 6 → f i = 0) : znm f = nI (nmN l m) := by
  have key : ∀ k, k ≤ 6 → zfo (fun i u => if f i = 0 then u else u * 27 + f i - 97 + 1) 0 k 0 = nI (nmN l (if k ≤ m then k else m)) := by
    intro k
    induction k with
    | zero => intro _; rw [if_pos (Nat.zero_le _)]; rfl
    | succ k ih =>
      intro hk
      rw [zfo_succ, ih (by omega), Nat.zero_add]
      by_cases hm : k < m
      · have := hl k
        rw [if_pos (show k ≤ m by omega), if_pos (show k + 1 ≤ m by omega), h3 k hm, if_neg (nI_ne0 (by omega) (by omega)), q_nmst this.1]; rfl
      · rw [if_neg (show ¬ k + 1 ≤ m by omega), h4 k (by omega) (by omega), if_pos rfl]
        by_cases e : k = m
        · subst e; rw [if_pos (Nat.le_refl _)]
        · rw [if_neg (by omega)]
  unfold znm
  rw [key 6 (Nat.le_refl _)]
  by_cases e : 6 ≤ m
  · rw [if_pos e, show m = 6 by omega]
  · rw [if_neg e]
theorem nmN_31 {l : Nat → Nat} (hl : ∀ i, 97 ≤ l i ∧ l i ≤ 122) {m : Nat} (h : m ≤ 6) : nmN l m < 2 ^ 31 := by
  have h1 := nmN_lt hl m
  have h2 : 27 ^ m ≤ 27 ^ 6 := Nat.pow_le_pow_right (by decide) h
  have h3 : 27 ^ 6 < 2 ^ 31 := by decide
  omega
/-- equal numbers, equal names -/
theorem znm_inj {f g : Nat → Int32} (hf : zNm f) (hg : zNm g) : (znm f = znm g) ↔ ∀ i, i < 6 → f i = g i := by
  constructor
  · intro e
    obtain ⟨m, l, a1, a2, a3, a4, a5⟩ := hf.let
    obtain ⟨m', l', b1, b2, b3, b4, b5⟩ := hg.let
    rw [znm_nmN a2 a3 a4 a5, znm_nmN b2 b3 b4 b5] at e
    have e := q_inj e (nmN_31 a3 a2) (nmN_31 b3 b2)
    have hm : m = m' := by
      obtain ⟨p, rfl⟩ : ∃ p, m = p + 1 := ⟨m - 1, by omega⟩
      obtain ⟨p', rfl⟩ : ∃ p, m' = p + 1 := ⟨m' - 1, by omega⟩
      have c1 := nmN_ge a3 p
      have c2 := nmN_lt a3 (p + 1)
      have c3 := nmN_ge b3 p'
      have c4 := nmN_lt b3 (p' + 1)
      rcases Nat.lt_trichotomy p p' with h | h | h
      · have : 27 ^ (p + 1) ≤ 27 ^ p' := Nat.pow_le_pow_right (by decide) h
        omega
      · rw [h]
      · have : 27 ^ (p' + 1) ≤ 27 ^ p := Nat.pow_le_pow_right (by decide) h
        omega
    subst hm
    intro i hi
    by_cases hi' : i < m
    · have d1 := nmN_mod a3 i
      have d2 := nmN_mod b3 i
      have d3 := nmN_div a3 (m - (i + 1)) (i + 1)
      have d4 := nmN_div b3 (m - (i + 1)) (i + 1)
      rw [show i + 1 + (m - (i + 1)) = m by omega] at d3 d4
      rw [e, d4] at d3
      rw [a4 i hi', b4 i hi']
      have := a3 i
      have := b3 i
      congr 1
      omega
    · rw [a5 i (by omega) hi, b5 i (by omega) hi]
  · intro h; exact znm_congr h
