/-! THE LAW'S sum, AND THE DRAWS -/
def S_ck (σ : zRow) : Nat → Int64 → Int64 := fun k u => 31 * u + (σ (11 + k)).toInt64
def S_ch (σ : zRow) : Nat → Int64 → Int64 := fun c u => 31 * (31 * (31 * (31 * (31 * u + (σ (21 + 13 * c + 2)).toInt64) + (σ (21 + 13 * c + 3)).toInt64) + (σ (21 + 13 * c + 4)).toInt64) + (σ (21 + 13 * c + 5)).toInt64) + (σ (21 + 13 * c + 6)).toInt64
def S_0 (σ : zRow) : Int64 := 31 * (31 * (31 * (31 * (σ 0).toInt64 + (σ 1 / 30 + 1).toInt64) + (σ 1 - σ 1 / 30 * 30 + 1).toInt64) + (σ 2).toInt64) + (σ 3).toInt64
def S_sum (σ : zRow) : Int64 := 31 * (31 * zfo (S_ch σ) 0 (zn σ) (zfo (S_ck σ) 0 6 (S_0 σ)) + (zsm σ 5 (zn σ)).toInt64) + (σ 10).toInt64
section SUM
variable {T : zT} {σ : zRow} {hs : List zRow} {S : Option (Nat × zRow)}
theorem l_ck (h : zWs T σ hs S) : ∀ k j fuel u, j + k = 6 → k < fuel → lp_L_sum_48 fuel u (nI j) T = some ((zfo (S_ck σ) j k u, nI 6), T) := by
  intro k
  induction k with
  | zero =>
    intro j fuel u hj hk
    obtain ⟨f, rfl⟩ : ∃ f, fuel = f + 1 := ⟨fuel - 1, by omega⟩
    obtain rfl : j = 6 := by omega
    rw [lp_L_sum_48, if_pos (by decide)]; rfl
  | succ k ih =>
    intro j fuel u hj hk
    obtain ⟨f, rfl⟩ : ∃ f, fuel = f + 1 := ⟨fuel - 1, by omega⟩
    rw [lp_L_sum_48, if_neg (show ¬ (6 : Int32) ≤ nI j from nI_ge (b := 6) (by omega) (by decide)), g_cakes h (by omega), zbi_s, zl_s, zl_s, nI_1, ih (j + 1) f _ (by omega) (by omega)]
    rfl
theorem l_ch (h : zWs T σ hs S) : ∀ k j fuel u, j + k = zn σ → k < fuel → lp_L_sum_75 fuel u (nI j) T = some ((zfo (S_ch σ) j k u, nI (zn σ)), T) := by
  have n10 := h.I.n10
  intro k
  induction k with
  | zero =>
    intro j fuel u hj hk
    obtain ⟨f, rfl⟩ : ∃ f, fuel = f + 1 := ⟨fuel - 1, by omega⟩
    obtain rfl : j = zn σ := by omega
    rw [lp_L_sum_75, g_childCount h, zb_s, if_pos (Int32.le_refl _)]; rfl
  | succ k ih =>
    intro j fuel u hj hk
    obtain ⟨f, rfl⟩ : ∃ f, fuel = f + 1 := ⟨fuel - 1, by omega⟩
    have hj : j < zn σ := by omega
    rw [lp_L_sum_75, g_childCount h, zb_s, if_neg (nI_ge (by omega) (by omega)), g_ageOf h hj, zbi_s, g_gardenOf h hj, zbi_s, g_birthdayOf h hj, zbi_s, g_partiesOf h hj, zbi_s, zl_s, g_wishesOf h hj, zbi_s, zl_s, zl_s, nI_1, ih (j + 1) f _ (by omega) (by omega)]
    rfl
theorem g_sum (h : zWs T σ hs S) : f_L_sum T = some (S_sum σ, T) := by
  have n10 := h.I.n10
  unfold f_L_sum
  have e1 := l_ck h 6 0 16 (S_0 σ) (by omega) (by omega)
  have e2 := l_ch h (zn σ) 0 16 (zfo (S_ck σ) 0 6 (S_0 σ)) (by omega) (by omega)
  rw [← nl_0] at e1 e2
  rw [g_year h, zb_s, g_month h, zb_s, g_dayOfMonth h, zb_s, g_seed h, zb_s, g_candles h, zb_s, zl_s]
  unfold S_0 at e1 e2
  rw [e1, zb_s, e2, zb_s, g_heldParties h, zb_s, g_failedParties h, zb_s]
  rfl
/-- a draw of the law's -/
theorem g_next (h : zWs T σ hs S) : ∃ n T', n < 8388608 ∧ f_L_next T = some (nI n, T') ∧ zWs T' σ hs S := by
  unfold f_L_next
  simp only [zl_s]
  generalize eT : wA (wA T 0 8 _) 0 8 _ = T'
  have hT : zWs T' σ hs S := by rw [← eT]; exact h.r.r
  generalize T'.2 0 8 0 = x
  refine ⟨(x.toUInt32 >>> ((9 : Int32).toUInt32 &&& Int32.toUInt32 31)).toNat, T', ?_, ?_, hT⟩
  · have e : ((9 : Int32).toUInt32 &&& Int32.toUInt32 31) = 9 := by decide
    rw [e, UInt32.toNat_shiftRight]
    have := x.toUInt32.toNat_lt
    rw [show (9 : UInt32).toNat % 32 = 9 by decide, Nat.shiftRight_eq_div_pow]
    omega
  · have hu : ∀ u : UInt32, u.toInt32 = nI u.toNat := fun u => by
      show u.toInt32 = Int32.ofNat u.toNat
      apply Int32.toBitVec_inj.mp
      show u.toBitVec = BitVec.ofNat 32 u.toNat
      exact (BitVec.ofNat_toNat _ _).symm ▸ (by simp)
    rw [hu]
end SUM
/-- candles bought change the sum -/
theorem zfo_inj {st : Nat → Int64 → Int64} (hst : ∀ i a b, st i a = st i b → a = b) : ∀ {k j : Nat} {a b : Int64}, zfo st j k a = zfo st j k b → a = b
  | 0, _, _, _, h => h
  | k + 1, j, a, b, h => hst _ _ _ (zfo_inj (k := k) (j := j + 1) hst h)
theorem S_bought {σ : zRow} {x y : Int32} (hx : x.toInt64 ≠ (σ 3).toInt64) : S_sum (upd (upd σ 3 x) 7 y) ≠ S_sum σ := by
  intro h
  have hn : zn (upd (upd σ 3 x) 7 y) = zn σ := by rw [zn_upd (by decide), zn_upd (by decide)]
  have o : ∀ j, j ≠ 3 → j ≠ 7 → upd (upd σ 3 x) 7 y j = σ j := fun j h1 h2 => by rw [pk_un h2, pk_un h1]
  have hck : ∀ k u, S_ck (upd (upd σ 3 x) 7 y) k u = S_ck σ k u := fun k u => by unfold S_ck; rw [o _ (by omega) (by omega)]
  have hch : ∀ c u, S_ch (upd (upd σ 3 x) 7 y) c u = S_ch σ c u := fun c u => by unfold S_ch; rw [o _ (by omega) (by omega), o _ (by omega) (by omega), o _ (by omega) (by omega), o _ (by omega) (by omega), o _ (by omega) (by omega)]
  have hsm : zsm (upd (upd σ 3 x) 7 y) 5 (zn σ) = zsm σ 5 (zn σ) := by rw [zsm_upd (fun i _ => by omega), zsm_upd (fun i _ => by omega)]
  have e3 : upd (upd σ 3 x) 7 y 3 = x := by rw [pk_un (by decide), pk_us]
  unfold S_sum at h
  rw [hn, hsm, o 10 (by decide) (by decide), zfo_congr (st' := S_ch σ) (fun c _ _ u => hch c u), zfo_congr (st' := S_ck σ) (fun c _ _ u => hck c u)] at h
  have h1 : zfo (S_ch σ) 0 (zn σ) (zfo (S_ck σ) 0 6 (S_0 (upd (upd σ 3 x) 7 y))) = zfo (S_ch σ) 0 (zn σ) (zfo (S_ck σ) 0 6 (S_0 σ)) := by grind
  have h2 := zfo_inj (fun i a b e => by unfold S_ch at e; grind) h1
  have h3 := zfo_inj (fun i a b e => by unfold S_ck at e; grind) h2
  unfold S_0 at h3
  rw [o 0 (by decide) (by decide), o 1 (by decide) (by decide), o 2 (by decide) (by decide), e3] at h3
  exact hx (by grind)
