/-! PURE TOOLS -/
theorem nl_0 : (0 : Int32) = nI 0 := rfl
theorem nl_1 : (1 : Int32) = nI 1 := rfl
theorem nl_2 : (2 : Int32) = nI 2 := rfl
theorem nl_3 : (3 : Int32) = nI 3 := rfl
theorem nl_4 : (4 : Int32) = nI 4 := rfl
theorem nl_5 : (5 : Int32) = nI 5 := rfl
theorem nl_6 : (6 : Int32) = nI 6 := rfl
theorem nl_7 : (7 : Int32) = nI 7 := rfl
theorem nl_8 : (8 : Int32) = nI 8 := rfl
theorem nl_9 : (9 : Int32) = nI 9 := rfl
theorem nl_10 : (10 : Int32) = nI 10 := rfl
theorem nl_11 : (11 : Int32) = nI 11 := rfl
theorem nl_12 : (12 : Int32) = nI 12 := rfl
theorem nl_13 : (13 : Int32) = nI 13 := rfl
theorem nl_14 : (14 : Int32) = nI 14 := rfl
theorem nl_15 : (15 : Int32) = nI 15 := rfl
theorem nl_16 : (16 : Int32) = nI 16 := rfl
theorem nl_17 : (17 : Int32) = nI 17 := rfl
theorem nl_18 : (18 : Int32) = nI 18 := rfl
theorem nl_19 : (19 : Int32) = nI 19 := rfl
theorem nl_20 : (20 : Int32) = nI 20 := rfl
theorem nl_21 : (21 : Int32) = nI 21 := rfl
theorem nl_23 : (23 : Int32) = nI 23 := rfl
theorem nl_24 : (24 : Int32) = nI 24 := rfl
theorem nl_26 : (26 : Int32) = nI 26 := rfl
theorem nl_27 : (27 : Int32) = nI 27 := rfl
theorem nl_30 : (30 : Int32) = nI 30 := rfl
theorem nl_31 : (31 : Int32) = nI 31 := rfl
theorem nl_32 : (32 : Int32) = nI 32 := rfl
theorem nl_40 : (40 : Int32) = nI 40 := rfl
theorem nl_46 : (46 : Int32) = nI 46 := rfl
theorem nl_47 : (47 : Int32) = nI 47 := rfl
theorem nl_48 : (48 : Int32) = nI 48 := rfl
theorem nl_57 : (57 : Int32) = nI 57 := rfl
theorem nl_58 : (58 : Int32) = nI 58 := rfl
theorem nl_59 : (59 : Int32) = nI 59 := rfl
theorem nl_80 : (80 : Int32) = nI 80 := rfl
theorem nl_96 : (96 : Int32) = nI 96 := rfl
theorem nl_97 : (97 : Int32) = nI 97 := rfl
theorem nl_99 : (99 : Int32) = nI 99 := rfl
theorem nl_100 : (100 : Int32) = nI 100 := rfl
theorem nl_122 : (122 : Int32) = nI 122 := rfl
theorem nl_151 : (151 : Int32) = nI 151 := rfl
theorem nl_211 : (211 : Int32) = nI 211 := rfl
theorem nl_302 : (302 : Int32) = nI 302 := rfl
theorem nl_360 : (360 : Int32) = nI 360 := rfl
theorem nl_361 : (361 : Int32) = nI 361 := rfl
theorem nl_580 : (580 : Int32) = nI 580 := rfl
theorem nl_600 : (600 : Int32) = nI 600 := rfl
theorem nl_720 : (720 : Int32) = nI 720 := rfl
theorem nl_999 : (999 : Int32) = nI 999 := rfl
theorem nl_1510 : (1510 : Int32) = nI 1510 := rfl
theorem nl_9972 : (9972 : Int32) = nI 9972 := rfl
theorem nl_9973 : (9973 : Int32) = nI 9973 := rfl
theorem nl_9999 : (9999 : Int32) = nI 9999 := rfl
theorem nl_36000 : (36000 : Int32) = nI 36000 := rfl
theorem nl_14348907 : (14348907 : Int32) = nI 14348907 := rfl
theorem nl_1000000000 : (1000000000 : Int32) = nI 1000000000 := rfl
theorem q_zin {j L : Nat} (h : j < 2 ^ 31) : (zin (nI j) L = true) = (j < L) := by
  unfold zin
  rw [nI_clamp h]
  have h0 : ¬ nI j < 0 := nI_pos h
  simp only [decide_eq_true_eq, h0, false_or, Nat.not_le]
theorem q_clamp {n : Nat} (h : n < 2 ^ 31) : (nI n).toNatClampNeg = n := nI_clamp h
theorem q_le {a b : Nat} (ha : a < 2 ^ 31) (hb : b < 2 ^ 31) : (nI a ≤ nI b) = (a ≤ b) := propext (nI_leI ha hb)
theorem q_lt {a b : Nat} (ha : a < 2 ^ 31) (hb : b < 2 ^ 31) : (nI a < nI b) = (a < b) := propext (nI_ltI ha hb)
theorem q_eq {a b : Nat} (ha : a < 2 ^ 31) (hb : b < 2 ^ 31) : (nI a = nI b) = (a = b) := propext (nI_eq ha hb)
theorem q_inj {a b : Nat} (h : nI a = nI b) (ha : a < 2 ^ 31) (hb : b < 2 ^ 31) : a = b := (nI_eq ha hb).mp h
theorem q_m1ne {n : Nat} (h : n < 2 ^ 31) : (nI n = -1) = False := by
  refine propext ⟨fun e => ?_, fun e => e.elim⟩
  have h1 := nI_toInt h
  rw [e] at h1
  have h2 : (-1 : Int32).toInt = -1 := by decide
  omega
theorem q_m1 : ((-1 : Int32) < nI 0) := by decide
/-- folds: a for loop over [j, j + k) -/
def zfo {α : Type} (st : Nat → α → α) : Nat → Nat → α → α
  | _, 0, a => a
  | j, k + 1, a => zfo st (j + 1) k (st j a)
theorem zfo_congr {α : Type} {st st' : Nat → α → α} : ∀ {k j : Nat} {a : α}, (∀ i, j ≤ i → i < j + k → ∀ a, st i a = st' i a) → zfo st j k a = zfo st' j k a
  | 0, j, a, _ => rfl
  | k + 1, j, a, h => by
    show zfo st (j + 1) k (st j a) = zfo st' (j + 1) k (st' j a)
    rw [h j (Nat.le_refl _) (by omega)]
    exact zfo_congr (fun i h1 h2 a => h i (by omega) (by omega) a)
theorem zfo_succ {α : Type} {st : Nat → α → α} : ∀ {k j : Nat} {a : α}, zfo st j (k + 1) a = st (j + k) (zfo st j k a)
  | 0, j, a => rfl
  | k + 1, j, a => by
    show zfo st (j + 1) (k + 1) (st j a) = _
    rw [zfo_succ]
    show st (j + 1 + k) (zfo st (j + 1) k (st j a)) = st (j + (k + 1)) (zfo st (j + 1) k (st j a))
    rw [show j + 1 + k = j + (k + 1) by omega]
theorem zfo_inv {α : Type} {st : Nat → α → α} {P : α → Prop} : ∀ {k j : Nat} {a : α}, P a → (∀ i a, j ≤ i → i < j + k → P a → P (st i a)) → P (zfo st j k a)
  | 0, _, _, h, _ => h
  | k + 1, j, a, h, hs => zfo_inv (k := k) (j := j + 1) (a := st j a) (hs j a (Nat.le_refl _) (by omega) h) (fun i a h1 h2 => hs i a (by omega) (by omega))
/-- the first place of [j, j + k) that a test takes -/
def zfn (p : Nat → Bool) : Nat → Nat → Option Nat
  | _, 0 => none
  | j, k + 1 => if p j = true then some j else zfn p (j + 1) k
theorem zfn_congr {p p' : Nat → Bool} : ∀ {k j : Nat}, (∀ i, j ≤ i → i < j + k → p i = p' i) → zfn p j k = zfn p' j k
  | 0, _, _ => rfl
  | k + 1, j, h => by
    show (if p j = true then some j else zfn p (j + 1) k) = (if p' j = true then some j else zfn p' (j + 1) k)
    rw [h j (Nat.le_refl _) (by omega), zfn_congr (fun i h1 h2 => h i (by omega) (by omega))]
theorem zfn_some {p : Nat → Bool} : ∀ {k j i : Nat}, zfn p j k = some i → j ≤ i ∧ i < j + k ∧ p i = true
  | 0, _, _, h => by cases h
  | k + 1, j, i, h => by
    unfold zfn at h
    by_cases hp : p j = true
    · rw [if_pos hp] at h
      cases h
      exact ⟨Nat.le_refl _, by omega, hp⟩
    · rw [if_neg hp] at h
      obtain ⟨h1, h2, h3⟩ := zfn_some h
      exact ⟨by omega, by omega, h3⟩
theorem zfn_none {p : Nat → Bool} : ∀ {k j : Nat}, zfn p j k = none → ∀ i, j ≤ i → i < j + k → p i = false
  | 0, _, _, i, h1, h2 => by omega
  | k + 1, j, h, i, h1, h2 => by
    unfold zfn at h
    by_cases hp : p j = true
    · rw [if_pos hp] at h; cases h
    · rw [if_neg hp] at h
      by_cases e : i = j
      · subst e; simpa using hp
      · exact zfn_none h i (by omega) (by omega)
/-- writes, read again -/
theorem q_wIs {T : zT} {κ ι k : Nat} {v : Int32} : (wI T κ ι k v).1 κ ι k = v := if_pos ⟨rfl, rfl, rfl⟩
theorem q_wIk {T : zT} {κ ι k κ' ι' k' : Nat} {v : Int32} (h : ¬ (κ' = κ ∧ ι' = ι ∧ k' = k)) : (wI T κ ι k v).1 κ' ι' k' = T.1 κ' ι' k' := if_neg h
theorem q_wI2 {T : zT} {κ ι k : Nat} {v : Int32} : (wI T κ ι k v).2 = T.2 := rfl
theorem q_wA1 {T : zT} {κ ι : Nat} {f : Nat → Int32} : (wA T κ ι f).1 = T.1 := rfl
theorem q_wAs {T : zT} {κ ι : Nat} {f : Nat → Int32} : (wA T κ ι f).2 κ ι = f := if_pos ⟨rfl, rfl⟩
theorem q_wAo {T : zT} {κ ι κ' ι' : Nat} {f : Nat → Int32} (h : ¬ (κ' = κ ∧ ι' = ι)) : (wA T κ ι f).2 κ' ι' = T.2 κ' ι' := if_neg h
theorem q_wAA {T : zT} {κ ι : Nat} {f g : Nat → Int32} : wA (wA T κ ι f) κ ι g = wA T κ ι g := by
  unfold wA
  refine Prod.ext rfl (funext fun a => funext fun b => ?_)
  show (if a = κ ∧ b = ι then g else if a = κ ∧ b = ι then f else T.2 a b) = _
  by_cases h : a = κ ∧ b = ι
  · simp only [if_pos h]
  · simp only [if_neg h]
theorem q_wII {T : zT} {κ ι k : Nat} {u v : Int32} : wI (wI T κ ι k u) κ ι k v = wI T κ ι k v := by
  unfold wI
  refine Prod.ext (funext fun a => funext fun b => funext fun c => ?_) rfl
  show (if a = κ ∧ b = ι ∧ c = k then v else if a = κ ∧ b = ι ∧ c = k then u else T.1 a b c) = _
  by_cases h : a = κ ∧ b = ι ∧ c = k
  · simp only [if_pos h]
  · simp only [if_neg h]
theorem q_wAI {T : zT} {κ ι κ' ι' k : Nat} {f : Nat → Int32} {v : Int32} : wA (wI T κ' ι' k v) κ ι f = wI (wA T κ ι f) κ' ι' k v := rfl
theorem q_wAself {T : zT} {κ ι : Nat} : wA T κ ι (T.2 κ ι) = T := by
  unfold wA
  refine Prod.ext rfl (funext fun a => funext fun b => ?_)
  show (if a = κ ∧ b = ι then T.2 κ ι else T.2 a b) = T.2 a b
  by_cases h : a = κ ∧ b = ι
  · obtain ⟨rfl, rfl⟩ := h; rw [if_pos ⟨rfl, rfl⟩]
  · rw [if_neg h]
theorem q_uu {f : Nat → Int32} {k : Nat} {x y : Int32} : upd (upd f k x) k y = upd f k y := by
  funext j
  unfold upd
  by_cases h : j = k
  · rw [if_pos h, if_pos h]
  · rw [if_neg h, if_neg h, if_neg h]
/-- the same but for the places P -/
def zfr (P : Nat → Nat → Prop) (T T' : zT) : Prop := ∀ κ ι, ¬ P κ ι → (∀ k, T'.1 κ ι k = T.1 κ ι k) ∧ T'.2 κ ι = T.2 κ ι
theorem zfr_refl {P : Nat → Nat → Prop} {T : zT} : zfr P T T := fun _ _ _ => ⟨fun _ => rfl, rfl⟩
theorem zfr_trans {P : Nat → Nat → Prop} {T T1 T2 : zT} (h : zfr P T T1) (h' : zfr P T1 T2) : zfr P T T2 := fun κ ι hp => ⟨fun k => ((h' κ ι hp).1 k).trans ((h κ ι hp).1 k), (h' κ ι hp).2.trans (h κ ι hp).2⟩
theorem zfr_wI {P : Nat → Nat → Prop} {T : zT} {κ ι k : Nat} {v : Int32} (hp : P κ ι) : zfr P T (wI T κ ι k v) := fun κ' ι' h' => ⟨fun k' => q_wIk (fun e => h' (by rw [e.1, e.2.1]; exact hp)), rfl⟩
theorem zfr_wA {P : Nat → Nat → Prop} {T : zT} {κ ι : Nat} {f : Nat → Int32} (hp : P κ ι) : zfr P T (wA T κ ι f) := fun κ' ι' h' => ⟨fun _ => rfl, q_wAo (fun e => h' (by rw [e.1, e.2]; exact hp))⟩
theorem zfr_mono {P Q : Nat → Nat → Prop} {T T' : zT} (h : zfr P T T') (hPQ : ∀ κ ι, P κ ι → Q κ ι) : zfr Q T T' := fun κ ι hq => h κ ι (fun hp => hq (hPQ κ ι hp))
theorem zfr_1 {P : Nat → Nat → Prop} {T T' : zT} (h : zfr P T T') {κ ι : Nat} (hp : ¬ P κ ι) (k : Nat) : T'.1 κ ι k = T.1 κ ι k := (h κ ι hp).1 k
theorem zfr_2 {P : Nat → Nat → Prop} {T T' : zT} (h : zfr P T T') {κ ι : Nat} (hp : ¬ P κ ι) : T'.2 κ ι = T.2 κ ι := (h κ ι hp).2
/-- the registry ρ's places -/
def zPr (ρ : Nat) (κ ι : Nat) : Prop := 1 ≤ κ ∧ κ ≤ 11 ∧ ι = ρ
theorem zb_s {α β : Type} {a : α} {T : zT} {k : α → zT → Option β} : zb (some (a, T)) k = k a T := rfl
theorem zl_s {α β : Type} {a : α} {k : α → β} : zl a k = k a := rfl
theorem zx_l {α β : Type} {a : α} {T : zT} {k : α → zT → Option ((β ⊕ Nat) × zT)} : zx (some (.inl a, T)) k = k a T := rfl
theorem zx_r {α β : Type} {x : Nat} {T : zT} {k : α → zT → Option ((β ⊕ Nat) × zT)} : zx (some (.inr x, T)) k = some (.inr x, T) := rfl
theorem q_if {α : Type} {c : Prop} [Decidable c] {a b : α} (h : c) : (if c then a else b) = a := if_pos h
theorem q_zt {j L : Nat} (h : j < L) (hL : L < 2 ^ 31) : (zin (nI j) L = true) = True := by
  rw [q_zin (by omega)]; exact eq_true h
theorem q_ad0 (a : Nat) : nI a + 0 = nI (a + 0) := nI_add a 0
theorem q_ad1 (a : Nat) : nI a + 1 = nI (a + 1) := nI_add a 1
theorem q_ad2 (a : Nat) : nI a + 2 = nI (a + 2) := nI_add a 2
theorem q_ad3 (a : Nat) : nI a + 3 = nI (a + 3) := nI_add a 3
theorem q_ad4 (a : Nat) : nI a + 4 = nI (a + 4) := nI_add a 4
theorem q_ad5 (a : Nat) : nI a + 5 = nI (a + 5) := nI_add a 5
theorem q_ad6 (a : Nat) : nI a + 6 = nI (a + 6) := nI_add a 6
theorem q_ad7 (a : Nat) : nI a + 7 = nI (a + 7) := nI_add a 7
theorem q_la11 (a : Nat) : 11 + nI a = nI (11 + a) := nI_add 11 a
theorem q_la17 (a : Nat) : 17 + nI a = nI (17 + a) := nI_add 17 a
theorem q_la21 (a : Nat) : 21 + nI a = nI (21 + a) := nI_add 21 a
