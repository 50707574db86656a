/-! THE LAW'S children -/
theorem zdc {z : UInt64} (h : FP.Core.val64 z ≠ .nan) : Op.cmpValue (FP.dcmp z z) .l = 0 := by
  show Op.cmpValue (FP.Core.dcmp z z) .l = 0
  rw [FP.Core.dcmp_self h]; rfl
theorem zfc {z : UInt32} (h : FP.Core.val32 z ≠ .nan) : Op.cmpValue (FP.fcmp z z) .l = 0 := by
  show Op.cmpValue (FP.Core.fcmp z z) .l = 0
  rw [FP.Core.fcmp_self h]; rfl
/-- no two children with one garden and one birthday -/
def zNC (σ : zRow) : Prop := ∀ c c', c < zn σ → c' < zn σ → c ≠ c' → σ (21 + 13 * c + 4) ≠ -1 → σ (21 + 13 * c + 4) = σ (21 + 13 * c' + 4) → σ (21 + 13 * c + 3) ≠ σ (21 + 13 * c' + 3)
def zPW (σ : zRow) : Prop := ∀ c, c < zn σ → ∃ p w, σ (21 + 13 * c + 5) = nI p ∧ p < 2 ^ 30 ∧ σ (21 + 13 * c + 6) = nI w ∧ w ≤ p
def zNx (σ : zRow) (j : Nat) : Int32 := (zfo (s_nxc σ) 0 j (-1, 361)).1
section CHI
variable {T : zT} {σ : zRow} {hs : List zRow} {S : Option (Nat × zRow)}
theorem c_clash (I : zIv σ) (hc : zNC σ) : zfo (fun i u => zfo (s_cl σ i) 0 i u) 0 (zn σ) (0 : Int32) = 0 := by
  refine zfo_inv (P := fun u => u = 0) rfl (fun i a _ hi ha => ?_)
  refine zfo_inv (P := fun u => u = 0) ha (fun j b _ hj hb => ?_)
  subst hb
  unfold s_cl
  by_cases h0 : σ (21 + 13 * i + 4) = -1
  · rw [if_pos h0]
  · rw [if_neg h0]
    by_cases h1 : σ (21 + 13 * i + 4) = σ (21 + 13 * j + 4)
    · rw [if_pos h1, if_neg (hc i j (by omega) (by omega) (by omega) h0 h1)]
    · rw [if_neg h1]
theorem c_party (hc : zNC σ) {c : Nat} (h : c < zn σ) (hb : σ (21 + 13 * c + 4) ≠ -1) : zfn (s_hmp σ (σ (21 + 13 * c + 3)) (σ (21 + 13 * c + 4))) 0 (zn σ) = some c := by
  cases e : zfn (s_hmp σ (σ (21 + 13 * c + 3)) (σ (21 + 13 * c + 4))) 0 (zn σ) with
  | none =>
    have := zfn_none e c (Nat.zero_le _) (by omega)
    unfold s_hmp at this
    rw [if_pos rfl, if_pos rfl] at this
    cases this
  | some i =>
    obtain ⟨-, h2, h3⟩ := zfn_some e
    by_cases hi : i = c
    · rw [hi]
    · exfalso
      unfold s_hmp at h3
      by_cases h4 : σ (21 + 13 * i + 3) = σ (21 + 13 * c + 3)
      · rw [if_pos h4] at h3
        by_cases h5 : σ (21 + 13 * i + 4) = σ (21 + 13 * c + 4)
        · exact hc c i h (by omega) (Ne.symm hi) hb h5.symm h4.symm
        · rw [if_neg h5] at h3; cases h3
      · rw [if_neg h4] at h3; cases h3
theorem l_same (h : zWs T σ hs S) {c : Nat} (hc : c < zn σ) {w1 w2 w3 w4 w5 w8 w9 : Int32} : ∀ k j fuel u, j + k = zn σ → k < fuel → lp_L_children_111 w1 w2 w3 w4 w5 (nI c) w8 w9 fuel u (nI j) T = some ((zfo (fun i u => if σ (21 + 13 * i + 0) = σ (21 + 13 * c + 0) then u + 1 else u) j k u, nI (zn σ)), T) := by
  have n10 := h.I.n10
  intro k
  induction k with
  | zero =>
    intro j fuel u hj hk
    obtain ⟨f, rfl⟩ : ∃ f, fuel = f + 1 := ⟨fuel - 1, by omega⟩
    obtain rfl : j = zn σ := by omega
    rw [lp_L_children_111, g_childCount h, zb_s, if_pos (Int32.le_refl _)]; rfl
  | succ k ih =>
    intro j fuel u hj hk
    obtain ⟨f, rfl⟩ : ∃ f, fuel = f + 1 := ⟨fuel - 1, by omega⟩
    have hjn : j < zn σ := by omega
    rw [lp_L_children_111, g_childCount h, zb_s, if_neg (nI_ge (by omega) (by omega)), g_cakeOf h hjn, zbi_s, g_cakeOf h hc, zbi_s]
    simp only [zl_s, nI_1, Int32.add_zero]
    show _ = some ((zfo _ (j + 1) k (if σ (21 + 13 * j + 0) = σ (21 + 13 * c + 0) then u + 1 else u), nI (zn σ)), T)
    by_cases h0 : σ (21 + 13 * j + 0) = σ (21 + 13 * c + 0)
    · rw [if_pos h0, if_pos h0, ih (j + 1) f _ (by omega) (by omega)]
    · rw [if_neg h0, if_neg h0, ih (j + 1) f _ (by omega) (by omega)]
theorem zNx_S {j : Nat} : zNx σ (j + 1) = (s_nxc σ j (zfo (s_nxc σ) 0 j (-1, 361))).1 := by
  unfold zNx
  rw [zfo_succ, Nat.zero_add]
/-- the next child so far: none, or one with a birthday and its days -/
theorem zNx_is (I : zIv σ) : ∀ j, j ≤ zn σ → (zfo (s_nxc σ) 0 j (-1, 361)) = (-1, 361) ∨ ∃ i, i < zn σ ∧ σ (21 + 13 * i + 4) ≠ -1 ∧ zfo (s_nxc σ) 0 j (-1, 361) = (nI i, s_unt (σ 1) (σ (21 + 13 * i + 4))) := by
  intro j
  induction j with
  | zero => intro _; exact Or.inl rfl
  | succ j ih =>
    intro hj
    rw [zfo_succ, Nat.zero_add]
    have := ih (by omega)
    generalize zfo (s_nxc σ) 0 j (-1, 361) = p at this
    unfold s_nxc
    by_cases h0 : σ (21 + 13 * j + 4) = -1
    · rw [if_pos h0]; exact this
    · rw [if_neg h0]
      by_cases h1 : p.2 ≤ s_unt (σ 1) (σ (21 + 13 * j + 4))
      · rw [if_pos h1]; exact this
      · rw [if_neg h1]; exact Or.inr ⟨j, by omega, h0, rfl⟩
theorem c_str {c k : Nat} : s_str σ c (σ (21 + 13 * c + 0)) k = σ (21 + 13 * c + 1) + (if σ (17 + k) - 1 < s_cnt σ 0 (σ (21 + 13 * c + 0)) - 1 then σ (17 + k) - 1 else s_cnt σ 0 (σ (21 + 13 * c + 0)) - 1) := by
  unfold s_str
  rw [if_pos rfl]
theorem l_kids (h : zWs T σ hs S) (hNC : zNC σ) (hPW : zPW σ) {t : Nat} (ht : σ 1 = nI t) (ht3 : t < 360) : ∀ k j fuel, j + k = zn σ → k < fuel → lp_L_children_51 (nI t) fuel (zNx σ j) (zsm σ 2 j) (zsm σ 6 j) (zsm σ 5 j) 1 (nI j) T = some ((zNx σ (zn σ), zsm σ 2 (zn σ), zsm σ 6 (zn σ), zsm σ 5 (zn σ), 1, nI (zn σ)), T) := by
  have n10 := h.I.n10
  have g4 := h.I.g4
  intro k
  induction k with
  | zero =>
    intro j fuel hj hk
    obtain ⟨f, rfl⟩ : ∃ f, fuel = f + 1 := ⟨fuel - 1, by omega⟩
    obtain rfl : j = zn σ := by omega
    rw [lp_L_children_51, g_childCount h, zb_s, if_pos (Int32.le_refl _)]
  | succ k ih =>
    intro j fuel hj hk
    obtain ⟨f, rfl⟩ : ∃ f, fuel = f + 1 := ⟨fuel - 1, by omega⟩
    have hjn : j < zn σ := by omega
    have e := ih (j + 1) f (by omega) (by omega)
    obtain ⟨-, ⟨hh, hhg, eh⟩, hbi, -⟩ := h.I.c hjn
    obtain ⟨p, w, ep, hp, ew, hw⟩ := hPW j hjn
    have es : ∀ {w1 w2 w3 w4 w5 w8 w9 : Int32}, lp_L_children_111 w1 w2 w3 w4 w5 (nI j) w8 w9 16 0 0 T = some ((s_cnt σ 0 (σ (21 + 13 * j + 0)), nI (zn σ)), T) := fun {w1 w2 w3 w4 w5 w8 w9} => by
      have := l_same h hjn (w1 := w1) (w2 := w2) (w3 := w3) (w4 := w4) (w5 := w5) (w8 := w8) (w9 := w9) (zn σ) 0 16 0 (by omega) (by omega)
      rw [← nl_0] at this
      exact this
    have hnlt : ¬ nI p < nI w := nI_nlt (by omega) (by omega)
    rw [lp_L_children_51, g_childCount h, zb_s, if_neg (nI_ge (by omega) (by omega)), if_neg (show ¬ (1 : Int32) = 0 by decide), g_birthdayOf h hjn, zbi_s]
    simp only [zl_s]
    rcases hbi with hb | ⟨x, hx, hb⟩
    · have enx : zNx σ (j + 1) = zNx σ j := by
        rw [zNx_S]; unfold s_nxc; rw [if_pos hb]; rfl
      have edu : f_X3_daysUntilBirthday (nI j) T = some (.inl (-1), T) := by rw [g_daysUntil h hjn, if_pos hb]
      rw [hb, if_neg (show ¬ (0 : Int32) ≤ -1 by decide), es, zb_s, if_pos (show (-1 : Int32) ≤ 0 by decide), g_ageOf h hjn, zbi_s, g_wishesOf h hjn, zbi_s, g_partiesOf h hjn, zbi_s, edu, zbi_s, if_pos rfl, g_wishesOf h hjn, zbi_s, g_partiesOf h hjn, zbi_s, ep, ew, if_neg hnlt, g_strengthOf h hjn hhg eh, zbi_s, g_breathOf h hjn, zbi_s, g_gardenOf h hjn, eh, zbi_s, g_seatsOf h hhg, zbi_s, if_pos c_str, if_pos (show (-1 : Int32) < 0 by decide), nI_1]
      rw [enx, zsm_succ, zsm_succ, zsm_succ, ep, ew] at e
      exact e
    · have hbn : σ (21 + 13 * j + 4) ≠ -1 := by rw [hb, Ne, q_m1ne (by omega)]; exact id
      obtain ⟨hz1, z, hz2, hz3, hz4⟩ := q_du hx ht3
      have ez : s_unt (nI t) (nI x) = nI z := by rw [hz1]; exact hz4
      have ezi : (if nI x ≤ nI t then nI x - nI t + 360 else nI x - nI t) = nI z := ez
      have edu : f_X3_daysUntilBirthday (nI j) T = some (.inl (nI z), T) := by rw [g_daysUntil h hjn, if_neg hbn, hb, ht, ez]
      have epi : f_X3_partyIn (nI hh) (nI x / 30 + 1) ((nI x - nI x / 30 * 30) + 1) T = some (.inl (nI j), T) := by
        have e1 : nI x / 30 + 1 = nI (x / 30 + 1) := by rw [show (30 : Int32) = nI 30 from rfl, pk_div (by omega) (by decide) (by decide), nI_1]
        have e2 : (nI x - nI x / 30 * 30) + 1 = nI (x % 30 + 1) := by
          rw [show nI x - nI x / 30 * 30 = nI (x % 30) from pk_rem (by omega) (by decide) (by decide), nI_1]
        rw [e1, e2, g_partyIn h hhg (by omega) (by omega) (by omega) (by omega), show (x / 30 + 1 - 1) * 30 + (x % 30 + 1 - 1) = x by omega, ← eh, ← hb, c_party hNC hjn hbn]
      have hz0 : ¬ nI z ≤ 0 := nI_nle (by omega) (by omega)
      have hx0 : (0 : Int32) ≤ nI x := z0le (by omega)
      rw [hb, if_pos hx0]
      rw [zsm_succ, zsm_succ, zsm_succ, ep, ew] at e
      have enS : zNx σ (j + 1) = (s_nxc σ j (zfo (s_nxc σ) 0 j (-1, 361))).1 := zNx_S
      have hs : s_unt (σ 1) (σ (21 + 13 * j + 4)) = nI z := by rw [hb, ht, ez]
      unfold s_nxc at enS
      rw [if_neg hbn, hs] at enS
      rcases zNx_is h.I j (by omega) with hn | ⟨i, hi, hib, hn⟩
      · have hnx : zNx σ j = -1 := by unfold zNx; rw [hn]
        rw [show zfo (fun i p => if σ (21 + 13 * i + 4) = -1 then p else if p.2 ≤ s_unt (σ 1) (σ (21 + 13 * i + 4)) then p else (nI i, s_unt (σ 1) (σ (21 + 13 * i + 4)))) 0 j (-1, 361) = (-1, 361) from hn, if_neg (show ¬ (361 : Int32) ≤ nI z from nI_ge (b := 361) (by omega) (by decide))] at enS
        have enj : zNx σ (j + 1) = nI j := enS
        rw [enj] at e
        by_cases hle : nI x ≤ nI t
        · rw [if_pos hle] at ezi ⊢
          rw [ezi, es, zb_s, if_neg hz0, hnx, if_pos (show (-1 : Int32) < 0 by decide), g_ageOf h hjn, zbi_s, g_wishesOf h hjn, zbi_s, g_partiesOf h hjn, zbi_s, edu, zbi_s, if_pos rfl, g_wishesOf h hjn, zbi_s, g_partiesOf h hjn, zbi_s, ep, ew, if_neg hnlt, g_strengthOf h hjn hhg eh, zbi_s, g_breathOf h hjn, zbi_s, g_gardenOf h hjn, eh, zbi_s, g_seatsOf h hhg, zbi_s, if_pos c_str, if_neg (show ¬ nI x < 0 from nI_pos (by omega)), g_gardenOf h hjn, eh, zbi_s, epi, zbi_s, if_pos rfl, nI_1]
          exact e
        · rw [if_neg hle] at ezi ⊢
          rw [ezi, es, zb_s, if_neg hz0, hnx, if_pos (show (-1 : Int32) < 0 by decide), g_ageOf h hjn, zbi_s, g_wishesOf h hjn, zbi_s, g_partiesOf h hjn, zbi_s, edu, zbi_s, if_pos rfl, g_wishesOf h hjn, zbi_s, g_partiesOf h hjn, zbi_s, ep, ew, if_neg hnlt, g_strengthOf h hjn hhg eh, zbi_s, g_breathOf h hjn, zbi_s, g_gardenOf h hjn, eh, zbi_s, g_seatsOf h hhg, zbi_s, if_pos c_str, if_neg (show ¬ nI x < 0 from nI_pos (by omega)), g_gardenOf h hjn, eh, zbi_s, epi, zbi_s, if_pos rfl, nI_1]
          exact e
      · have hnx : zNx σ j = nI i := by unfold zNx; rw [hn]
        rw [show zfo (fun i p => if σ (21 + 13 * i + 4) = -1 then p else if p.2 ≤ s_unt (σ 1) (σ (21 + 13 * i + 4)) then p else (nI i, s_unt (σ 1) (σ (21 + 13 * i + 4)))) 0 j (-1, 361) = (nI i, s_unt (σ 1) (σ (21 + 13 * i + 4))) from hn] at enS
        have edi : f_X3_daysUntilBirthday (nI i) T = some (.inl (s_unt (σ 1) (σ (21 + 13 * i + 4))), T) := by rw [g_daysUntil h hi, if_neg hib]
        by_cases hD : s_unt (σ 1) (σ (21 + 13 * i + 4)) ≤ nI z
        · rw [if_pos hD] at enS
          have enj : zNx σ (j + 1) = nI i := enS
          rw [enj] at e
          by_cases hle : nI x ≤ nI t
          · rw [if_pos hle] at ezi ⊢
            rw [ezi, es, zb_s, if_neg hz0, hnx, if_neg (show ¬ nI i < 0 from nI_pos (by omega)), edi, zbi_s, if_pos hD, g_ageOf h hjn, zbi_s, g_wishesOf h hjn, zbi_s, g_partiesOf h hjn, zbi_s, edu, zbi_s, if_pos rfl, g_wishesOf h hjn, zbi_s, g_partiesOf h hjn, zbi_s, ep, ew, if_neg hnlt, g_strengthOf h hjn hhg eh, zbi_s, g_breathOf h hjn, zbi_s, g_gardenOf h hjn, eh, zbi_s, g_seatsOf h hhg, zbi_s, if_pos c_str, if_neg (show ¬ nI x < 0 from nI_pos (by omega)), g_gardenOf h hjn, eh, zbi_s, epi, zbi_s, if_pos rfl, nI_1]
            exact e
          · rw [if_neg hle] at ezi ⊢
            rw [ezi, es, zb_s, if_neg hz0, hnx, if_neg (show ¬ nI i < 0 from nI_pos (by omega)), edi, zbi_s, if_pos hD, g_ageOf h hjn, zbi_s, g_wishesOf h hjn, zbi_s, g_partiesOf h hjn, zbi_s, edu, zbi_s, if_pos rfl, g_wishesOf h hjn, zbi_s, g_partiesOf h hjn, zbi_s, ep, ew, if_neg hnlt, g_strengthOf h hjn hhg eh, zbi_s, g_breathOf h hjn, zbi_s, g_gardenOf h hjn, eh, zbi_s, g_seatsOf h hhg, zbi_s, if_pos c_str, if_neg (show ¬ nI x < 0 from nI_pos (by omega)), g_gardenOf h hjn, eh, zbi_s, epi, zbi_s, if_pos rfl, nI_1]
            exact e
        · rw [if_neg hD] at enS
          have enj : zNx σ (j + 1) = nI j := enS
          rw [enj] at e
          by_cases hle : nI x ≤ nI t
          · rw [if_pos hle] at ezi ⊢
            rw [ezi, es, zb_s, if_neg hz0, hnx, if_neg (show ¬ nI i < 0 from nI_pos (by omega)), edi, zbi_s, if_neg hD, g_ageOf h hjn, zbi_s, g_wishesOf h hjn, zbi_s, g_partiesOf h hjn, zbi_s, edu, zbi_s, if_pos rfl, g_wishesOf h hjn, zbi_s, g_partiesOf h hjn, zbi_s, ep, ew, if_neg hnlt, g_strengthOf h hjn hhg eh, zbi_s, g_breathOf h hjn, zbi_s, g_gardenOf h hjn, eh, zbi_s, g_seatsOf h hhg, zbi_s, if_pos c_str, if_neg (show ¬ nI x < 0 from nI_pos (by omega)), g_gardenOf h hjn, eh, zbi_s, epi, zbi_s, if_pos rfl, nI_1]
            exact e
          · rw [if_neg hle] at ezi ⊢
            rw [ezi, es, zb_s, if_neg hz0, hnx, if_neg (show ¬ nI i < 0 from nI_pos (by omega)), edi, zbi_s, if_neg hD, g_ageOf h hjn, zbi_s, g_wishesOf h hjn, zbi_s, g_partiesOf h hjn, zbi_s, edu, zbi_s, if_pos rfl, g_wishesOf h hjn, zbi_s, g_partiesOf h hjn, zbi_s, ep, ew, if_neg hnlt, g_strengthOf h hjn hhg eh, zbi_s, g_breathOf h hjn, zbi_s, g_gardenOf h hjn, eh, zbi_s, g_seatsOf h hhg, zbi_s, if_pos c_str, if_neg (show ¬ nI x < 0 from nI_pos (by omega)), g_gardenOf h hjn, eh, zbi_s, epi, zbi_s, if_pos rfl, nI_1]
            exact e
/-- children answers 1 -/
theorem g_children (h : zWs T σ hs S) (hNC : zNC σ) (hPW : zPW σ) (hz : σ 3 - σ 6 - σ 7 + σ 8 = 0) : f_L_children T = some (1, T) := by
  have n10 := h.I.n10
  obtain ⟨t, ht3, ht⟩ := h.I.date
  have et : ((σ 1 / 30 + 1 - 1) * 30 + (σ 1 - σ 1 / 30 * 30 + 1)) - 1 = nI t := by
    rw [ht]
    grind
  have e := l_kids h hNC hPW ht ht3 (zn σ) 0 16 (by omega) (by omega)
  have e0 : zNx σ 0 = -1 := rfl
  rw [e0, show zsm σ 2 0 = 0 from rfl, show zsm σ 5 0 = 0 from rfl, show zsm σ 6 0 = 0 from rfl, ← nl_0] at e
  have hcl : f_X3_clashes T = some (0, T) := by rw [g_clashes h, c_clash h.I hNC]
  unfold f_L_children
  rw [g_month h, zb_s, g_dayOfMonth h, zb_s]
  simp only [zl_s]
  rw [et, hcl, zb_s, if_pos rfl, g_candleDifference h hz, zb_s, if_pos rfl, e, zb_s, g_childCount h, zb_s]
  simp only
  rw [if_neg (show ¬ (1 : Int32) = 0 by decide), g_nextChild h, zb_s, if_pos (show (zfo (s_nxc σ) 0 (zn σ) (-1, 361)).1 = zNx σ (zn σ) from rfl), g_heldParties h, zb_s, if_pos rfl, g_meanAge h, zb_s]
  have fin : ∀ v : Option (Int32 × zT), v = (zb (f_X3_wishShare T) fun v131 T132 => (if zsm σ 5 (zn σ) = 0 then (if (Op.cmpValue (FP.fcmp v131 FP.fconst0) .l) = 0 then some (1, T132) else some (0, T132)) else if ¬ zsm σ 5 (zn σ) = 0 then (if (Op.cmpValue (FP.fcmp v131 (FP.fdiv (FP.i2f (zsm σ 6 (zn σ))) (FP.i2f (zsm σ 5 (zn σ))))) .l) = 0 then some (1, T132) else some (0, T132)) else none)) → v = some (1, T) := fun v hv => by
    rw [hv, g_wishShare h, zb_s]
    by_cases h5 : zsm σ 5 (zn σ) = 0
    · rw [if_pos h5, if_pos h5, zfc (by decide), if_pos rfl]
    · rw [if_neg h5, if_neg h5, if_pos h5, zfc (zff_ne h5), if_pos rfl]
  by_cases h0 : zn σ = 0
  · have hn0 : nI (zn σ) = 0 := by rw [h0]; rfl
    rw [if_pos h0, if_pos hn0, zdc (by decide), if_pos rfl]
    exact fin _ rfl
  · have hn0 : ¬ nI (zn σ) = 0 := nI_ne0 (by omega) (by omega)
    rw [if_neg h0, if_neg hn0, if_pos hn0, zdc (zdd_ne hn0), if_pos rfl]
    exact fin _ rfl
end CHI
