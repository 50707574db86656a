/-! DERIVED ROWS over the typed heap -/
theorem zP.one {w : Nat} {D : va_G} {Y : Nat → ClassId} {G : Nat → Nat → Nat} {T : zT} {H : Heap} (h : zP w D Y G T H) {κ ι : Nat} (hV : zV w κ ι) {e : va_E} (he : zcell w Y G T κ ι = e) : va_P D vwCl [(G κ ι, e)] H := by
  intro k q hk
  match k, hk with
  | 0, hk => cases hk; rw [← he]; exact h κ ι hV
  | k + 1, hk => simp at hk
/-- the ids of a world, in a list -/
def zids (w : Nat) : List (Nat × Nat) := (List.range 8).map (fun ι => (0, ι)) ++ (List.range 11).flatMap (fun j => (List.range 15).map (fun ρ => (j + 1, ρ))) ++ (if w = 0 then [] else [(0, 8)])
theorem zids_mem {w κ ι : Nat} : (κ, ι) ∈ zids w ↔ zV w κ ι := by
  have h8 : (κ, ι) ∈ (if w = 0 then [] else [(0, 8)] : List (Nat × Nat)) ↔ (κ = 0 ∧ ι = 8) ∧ w ≠ 0 := by
    by_cases hw : w = 0
    · rw [if_pos hw]; exact ⟨fun h => by simp at h, fun h => absurd hw h.2⟩
    · rw [if_neg hw]; simp [hw]
  unfold zids zV
  rw [List.mem_append, h8]
  simp only [List.mem_append, List.mem_map, List.mem_range, List.mem_flatMap, Prod.mk.injEq]
  constructor
  · rintro ((⟨a, h1, h2, h3⟩ | ⟨j, h1, ρ, h2, h3, h4⟩) | ⟨⟨h1, h2⟩, h3⟩)
    · exact Or.inl ⟨h2.symm, Or.inl (by omega)⟩
    · exact Or.inr ⟨by omega, by omega, by omega⟩
    · exact Or.inl ⟨h1, Or.inr ⟨h2, h3⟩⟩
  · rintro (⟨h1, h2 | ⟨h2, h3⟩⟩ | ⟨h1, h2, h3⟩)
    · exact Or.inl (Or.inl ⟨ι, h2, h1.symm, rfl⟩)
    · exact Or.inr ⟨⟨h1, h2⟩, h3⟩
    · exact Or.inl (Or.inr ⟨κ - 1, by omega, ι, h3, by omega, rfl⟩)
theorem zids_nodup (w : Nat) : (zids w).Nodup := by
  unfold zids
  by_cases hw : w = 0
  · rw [if_pos hw]; decide +kernel
  · rw [if_neg hw]; decide +kernel
def zL (w : Nat) (Y : Nat → ClassId) (G : Nat → Nat → Nat) (T : zT) : va_W := (zids w).map (fun q => (G q.1 q.2, zcell w Y G T q.1 q.2))
theorem zL_at {w : Nat} {Y : Nat → ClassId} {G : Nat → Nat → Nat} {T : zT} {k : Nat} {q : Nat × va_E} (h : (zL w Y G T)[k]? = some q) : ∃ κ ι, (zids w)[k]? = some (κ, ι) ∧ zV w κ ι ∧ q = (G κ ι, zcell w Y G T κ ι) := by
  rw [zL, List.getElem?_map] at h
  cases hz : (zids w)[k]? with
  | none => rw [hz] at h; cases h
  | some z =>
    rw [hz] at h
    obtain ⟨κ, ι⟩ := z
    exact ⟨κ, ι, rfl, zids_mem.mp (List.mem_of_getElem? hz), (Option.some.inj h).symm⟩
theorem zL_id {w : Nat} {Y : Nat → ClassId} {G : Nat → Nat → Nat} {T : zT} {κ ι : Nat} (hV : zV w κ ι) : ∃ k : Nat, (zids w)[k]? = some (κ, ι) ∧ (zL w Y G T)[k]? = some (G κ ι, zcell w Y G T κ ι) := by
  obtain ⟨k, hk⟩ := List.getElem?_of_mem (zids_mem.mpr hV)
  exact ⟨k, hk, by rw [zL, List.getElem?_map, hk]; rfl⟩
theorem zP.list {w : Nat} {D : va_G} {Y : Nat → ClassId} {G : Nat → Nat → Nat} {T : zT} {H : Heap} (h : zP w D Y G T H) : va_P D vwCl (zL w Y G T) H := by
  intro k q hk
  obtain ⟨κ, ι, -, hV, rfl⟩ := zL_at hk
  exact h κ ι hV
theorem zG.list {w : Nat} {Y : Nat → ClassId} {G : Nat → Nat → Nat} {T : zT} {A : Nat → Prop} (h : zG w G A) : va_D A (zL w Y G T) := by
  refine ⟨fun i j p q hi hj e => ?_, fun k q hk => ?_⟩
  · obtain ⟨κ, ι, h1, hV, rfl⟩ := zL_at hi
    obtain ⟨κ', ι', h2, hV', rfl⟩ := zL_at hj
    obtain ⟨e1, e2⟩ := h.1 κ ι κ' ι' hV hV' e
    subst e1; subst e2
    exact (List.getElem?_inj (List.getElem?_eq_some_iff.mp h1).1 (zids_nodup w)).mp (h1.trans h2.symm)
  · obtain ⟨κ, ι, -, hV, rfl⟩ := zL_at hk
    exact h.2 κ ι hV
theorem zP_after {w : Nat} {D : va_G} {Y : Nat → ClassId} {G : Nat → Nat → Nat} {T T' : zT} {H1 : Heap} {κ ι k : Nat} (hk : (zids w)[k]? = some (κ, ι)) {e : va_E} (hP : va_P D vwCl ((zL w Y G T).set k (G κ ι, e)) H1) (he : e = zcell w Y G T' κ ι) (ho : ∀ κ' ι', ¬ (κ' = κ ∧ ι' = ι) → zcell w Y G T' κ' ι' = zcell w Y G T κ' ι') : zP w D Y G T' H1 := by
  subst he
  intro κ' ι' hV
  obtain ⟨k', h1, h2⟩ := zL_id (Y := Y) (G := G) (T := T) hV
  by_cases hkk : k' = k
  · subst hkk
    obtain ⟨rfl, rfl⟩ : κ' = κ ∧ ι' = ι := by
      have := h1.symm.trans hk
      simpa using this
    exact hP k' _ (by rw [List.getElem?_set_self (List.getElem?_eq_some_iff.mp h2).1])
  · have h3 := hP k' (G κ' ι', zcell w Y G T κ' ι') (by rw [List.getElem?_set_ne (Ne.symm hkk)]; exact h2)
    rw [ho κ' ι' (fun z => hkk ((List.getElem?_inj (List.getElem?_eq_some_iff.mp h1).1 (zids_nodup w)).mp (by rw [h1, hk, z.1, z.2])))]
    exact h3
/-- a cell says only what its own fields and contents say -/
theorem zcell_congr {w : Nat} {Y : Nat → ClassId} {G : Nat → Nat → Nat} {T T' : zT} {κ ι : Nat} (hi : ∀ k, T'.1 κ ι k = T.1 κ ι k) (ha : T'.2 κ ι = T.2 κ ι) : zcell w Y G T' κ ι = zcell w Y G T κ ι := by
  unfold zcell zf0 zf1 zf2 zf3
  by_cases h0 : κ = 0
  · subst h0
    simp only [if_true]
    by_cases h1 : ι = 0
    · subst h1; simp only [if_true, hi]
    by_cases h2 : ι = 1
    · subst h2; simp only [if_true, if_neg h1, hi]
    by_cases h3 : ι = 2
    · subst h3; simp only [if_true, if_neg h1, if_neg h2, hi]
    by_cases h4 : ι = 5
    · subst h4; simp [ha]
    by_cases h8 : ι = 8
    · subst h8; simp [ha]
    simp only [if_neg h1, if_neg h2, if_neg h3, if_neg h4, if_neg h8, ha]
  · by_cases h1 : κ = 1
    · subst h1; simp only [hi, if_true, if_neg h0]
    · simp only [if_neg h0, if_neg h1, ha]
theorem wI_o {T : zT} {κ ι k : Nat} {v : Int32} {κ' ι' : Nat} (h : ¬ (κ' = κ ∧ ι' = ι)) (k' : Nat) : (wI T κ ι k v).1 κ' ι' k' = T.1 κ' ι' k' := if_neg (fun z => h ⟨z.1, z.2.1⟩)
theorem wA_o {T : zT} {κ ι : Nat} {f : Nat → Int32} {κ' ι' : Nat} (h : ¬ (κ' = κ ∧ ι' = ι)) : (wA T κ ι f).2 κ' ι' = T.2 κ' ι' := if_neg h
theorem wA_s {T : zT} {κ ι : Nat} {f : Nat → Int32} : (wA T κ ι f).2 κ ι = f := if_pos ⟨rfl, rfl⟩
theorem zP_wI {w : Nat} {D : va_G} {Y : Nat → ClassId} {G : Nat → Nat → Nat} {T : zT} {H1 : Heap} {κ ι k : Nat} {v : Int32} {p : Nat} (hp : (zids w)[p]? = some (κ, ι)) {e : va_E} (hP : va_P D vwCl ((zL w Y G T).set p (G κ ι, e)) H1) (he : e = zcell w Y G (wI T κ ι k v) κ ι) : zP w D Y G (wI T κ ι k v) H1 := by
  intro κ' ι' hV
  by_cases h : κ' = κ ∧ ι' = ι
  · obtain ⟨rfl, rfl⟩ := h
    have hl : p < (zL w Y G T).length := by rw [zL, List.length_map]; exact (List.getElem?_eq_some_iff.mp hp).1
    rw [← he]
    exact hP p _ (by rw [List.getElem?_set_self hl])
  · obtain ⟨p', h1, h2⟩ := zL_id (Y := Y) (G := G) (T := T) hV
    have hpp : p' ≠ p := fun z => h (by have := h1.symm.trans (z ▸ hp); simpa using this)
    rw [zcell_congr (fun k' => wI_o h k') rfl]
    exact hP p' _ (by rw [List.getElem?_set_ne (Ne.symm hpp)]; exact h2)
theorem zP_wA {w : Nat} {D : va_G} {Y : Nat → ClassId} {G : Nat → Nat → Nat} {T : zT} {H1 : Heap} {κ ι : Nat} {f : Nat → Int32} {p : Nat} (hp : (zids w)[p]? = some (κ, ι)) {e : va_E} (hP : va_P D vwCl ((zL w Y G T).set p (G κ ι, e)) H1) (he : e = zcell w Y G (wA T κ ι f) κ ι) : zP w D Y G (wA T κ ι f) H1 := by
  intro κ' ι' hV
  by_cases h : κ' = κ ∧ ι' = ι
  · obtain ⟨rfl, rfl⟩ := h
    have hl : p < (zL w Y G T).length := by rw [zL, List.length_map]; exact (List.getElem?_eq_some_iff.mp hp).1
    rw [← he]
    exact hP p _ (by rw [List.getElem?_set_self hl])
  · obtain ⟨p', h1, h2⟩ := zL_id (Y := Y) (G := G) (T := T) hV
    have hpp : p' ≠ p := fun z => h (by have := h1.symm.trans (z ▸ hp); simpa using this)
    rw [zcell_congr (T := T) (T' := wA T κ ι f) (fun _ => rfl) (wA_o h)]
    exact hP p' _ (by rw [List.getElem?_set_ne (Ne.symm hpp)]; exact h2)
/-- the int arrays of a world -/
def zIA (w κ ι : Nat) : Prop := (2 ≤ κ ∧ κ ≤ 11 ∧ ι < 15) ∨ (κ = 0 ∧ ι = 8 ∧ w ≠ 0)
theorem zIA_r {w κ ι : Nat} (h1 : 2 ≤ κ) (h2 : κ ≤ 11) (h : ι < 15) : zIA w κ ι := Or.inl ⟨h1, h2, h⟩
theorem zIA_8 {w : Nat} (h : w ≠ 0) : zIA w 0 8 := Or.inr ⟨rfl, rfl, h⟩
theorem zIA.V {w κ ι : Nat} (h : zIA w κ ι) : zV w κ ι := by
  rcases h with ⟨h1, h2, h3⟩ | ⟨rfl, rfl, h3⟩
  · exact Or.inr ⟨by omega, h2, h3⟩
  · exact zV_8 h3
theorem zIA.cell {w κ ι : Nat} (h : zIA w κ ι) (Y : Nat → ClassId) (G : Nat → Nat → Nat) (T : zT) : zcell w Y G T κ ι = .inl (Y 0, zlen w κ ι, .inl (T.2 κ ι)) := by
  rcases h with ⟨h1, h2, h3⟩ | ⟨rfl, rfl, h3⟩
  · unfold zcell zlen
    simp only [if_neg (by omega : ¬ κ = 0), if_neg (by omega : ¬ κ = 1)]
  · rfl
/-- naming -/
def zl {α β : Type} (a : α) (k : α → β) : β := k a
theorem zl_i {α β : Type} {a : α} {k : α → β} {z : β} (h : zl a k = z) : ∃ x, x = a ∧ k x = z := ⟨a, rfl, h⟩
/-- what a call gave -/
def zb {α β : Type} (o : Option (α × zT)) (k : α → zT → Option β) : Option β := match o with
  | none => none
  | some q => k q.1 q.2
theorem zb_i {α β : Type} {o : Option (α × zT)} {k : α → zT → Option β} {z : β} (h : zb o k = some z) : ∃ a T, o = some (a, T) ∧ k a T = some z := by
  unfold zb at h
  cases o with
  | none => cases h
  | some q => exact ⟨q.1, q.2, rfl, h⟩
/-- what a call that may throw gave: the exception goes on -/
def zx {α β : Type} (o : Option ((α ⊕ Nat) × zT)) (k : α → zT → Option ((β ⊕ Nat) × zT)) : Option ((β ⊕ Nat) × zT) := match o with
  | none => none
  | some (.inl a, T) => k a T
  | some (.inr x, T) => some (.inr x, T)
theorem zx_i {α β : Type} {o : Option ((α ⊕ Nat) × zT)} {k : α → zT → Option ((β ⊕ Nat) × zT)} {z : (β ⊕ Nat) × zT} (h : zx o k = some z) : (∃ a T, o = some (.inl a, T) ∧ k a T = some z) ∨ (∃ x T, o = some (.inr x, T) ∧ z = (.inr x, T)) := by
  unfold zx at h
  match o, h with
  | some (.inl a, T), h => exact Or.inl ⟨a, T, rfl, h⟩
  | some (.inr x, T), h => exact Or.inr ⟨x, T, rfl, (Option.some.inj h).symm⟩
/-- a loop that may return from inside -/
def zw {α β γ : Type} (o : Option ((α ⊕ β) × zT)) (k : β → zT → Option γ) (kr : α → zT → Option γ) : Option γ := match o with
  | none => none
  | some (.inl a, T) => kr a T
  | some (.inr b, T) => k b T
theorem zif_p {α : Type} {c : Prop} [Decidable c] {a b z : α} (h : (if c then a else b) = z) (hc : c) : a = z := by rw [if_pos hc] at h; exact h
theorem zif_n {α : Type} {c : Prop} [Decidable c] {a b z : α} (h : (if c then a else b) = z) (hc : ¬ c) : b = z := by rw [if_neg hc] at h; exact h
/-- a check that the machine leaves no choice about -/
theorem zif_c {α : Type} {c : Prop} [Decidable c] {a : Option α} {z : α} (h : (if c then a else none) = some z) : c ∧ a = some z := by
  by_cases hc : c
  · rw [if_pos hc] at h; exact ⟨hc, h⟩
  · rw [if_neg hc] at h; cases h
