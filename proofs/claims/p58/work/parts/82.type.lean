/-! A TEXT, TYPED INTO THE CLASS'S BUFFER -/
def tCh (t : List Nat) (i : Nat) : Nat := if i < t.length then t.getD i 0 else 32
def pk4 (a b c d : Nat) : Nat := 256 * (256 * (256 * a + b) + c) + d
theorem ty_shl (m : Nat) : nI m <<< ((8 : Int32) &&& 31) = nI (256 * m) := by
  apply Int32.toBitVec_inj.1
  apply BitVec.eq_of_toNat_eq
  rw [pk_shl (nI m) _ 8 (by decide)]
  show (BitVec.ofNat 32 m).toNat * 2 ^ 8 % 2 ^ 32 = (BitVec.ofNat 32 (256 * m)).toNat
  rw [BitVec.toNat_ofNat, BitVec.toNat_ofNat]
  omega
theorem ty_or {a : Nat} (b : Nat) (h : a < 256) : nI (256 * b) ||| nI a = nI (256 * b + a) := by
  apply Int32.toBitVec_inj.1
  show BitVec.ofNat 32 (256 * b) ||| BitVec.ofNat 32 a = BitVec.ofNat 32 (256 * b + a)
  rw [show 256 * b + a = 256 * b ||| a from Nat.two_pow_add_eq_or_of_lt (i := 8) h b]
  apply BitVec.eq_of_getLsbD_eq
  intro i hi
  simp [hi]
theorem ty_pack (o : Int32) {a b c d : Nat} (ha : a < 128) (hb : b < 128) (hc : c < 128) (hd : d < 128) : ((((((o <<< ((8 : Int32) &&& 31)) ||| nI a) <<< ((8 : Int32) &&& 31)) ||| nI b) <<< ((8 : Int32) &&& 31) ||| nI c) <<< ((8 : Int32) &&& 31)) ||| nI d = nI (pk4 a b c d) := by
  obtain ⟨m, em⟩ : ∃ m, o = nI m := ⟨o.toBitVec.toNat, by
    apply Int32.toBitVec_inj.1
    show o.toBitVec = BitVec.ofNat 32 o.toBitVec.toNat
    apply BitVec.eq_of_toNat_eq
    rw [BitVec.toNat_ofNat]
    exact (Nat.mod_eq_of_lt o.toBitVec.isLt).symm⟩
  rw [em, ty_shl, ty_or _ (by omega), ty_shl, ty_or _ (by omega), ty_shl, ty_or _ (by omega), ty_shl, ty_or _ (by omega)]
  apply Int32.toBitVec_inj.1
  show BitVec.ofNat 32 _ = BitVec.ofNat 32 _
  apply BitVec.eq_of_toNat_eq
  rw [BitVec.toNat_ofNat, BitVec.toNat_ofNat]
  unfold pk4
  omega
theorem ty_byte {n : Nat} (hn : n < 2 ^ 31) (h : n % 256 < 128) : (nI n).toInt8.toInt32 = nI (n % 256) := by
  apply Int32.toInt_inj.1
  rw [Int8.toInt_toInt32, Int32.toInt_toInt8, nI_toInt hn, nI_toInt (by omega)]
  unfold Int.bmod
  dsimp only
  split <;> omega
theorem ty_two {n : Nat} (hn : n < 2 ^ 31) (h : n % 256 < 128) : ((nI n).toInt8.toInt32).toInt8.toInt32 = nI (n % 256) := by
  rw [ty_byte hn h, ty_byte (by omega) (by omega), Nat.mod_mod]
theorem pk4_lt {a b c d : Nat} (ha : a < 128) (hb : b < 128) (hc : c < 128) (hd : d < 128) : pk4 a b c d < 2 ^ 31 := by unfold pk4; omega
section TY
variable {T : zT} {C : Nat → Nat} {L : Nat}
/-- the buffer holds L bytes of C -/
def zBf (T : zT) (C : Nat → Nat) (L : Nat) : Prop := T.1 0 1 1 = nI L ∧ ∀ i, i < L → T.2 0 4 i = nI (C i)
theorem zBf.fr {T' : zT} (h : zBf T C L) (hf : zfr (fun κ ι => κ = 0 ∧ ι = 8) T T') : zBf T' C L := ⟨by rw [zfr_1 hf (by omega)]; exact h.1, fun i hi => by rw [zfr_2 hf (by omega)]; exact h.2 i hi⟩
theorem ty_b1 {y : Int32} (h : zBf T C L) (hL : L < 600) (hy : (y.toInt8.toInt32).toInt8.toInt32 = nI (C L)) : ∃ T', f_X1_addByte y T = some ((), T') ∧ zBf T' C (L + 1) ∧ zfr (fun κ ι => κ = 0 ∧ (ι = 1 ∨ ι = 4 ∨ ι = 8)) T T' := by
  obtain ⟨h1, h2⟩ := h
  refine ⟨wI (wA T 0 4 (upd (T.2 0 4) L (nI (C L)))) 0 1 1 (nI (L + 1)), ?_, ⟨q_wIs, fun i hi => ?_⟩, zfr_trans (zfr_wA ⟨rfl, Or.inr (Or.inl rfl)⟩) (zfr_wI ⟨rfl, Or.inl rfl⟩)⟩
  · unfold f_X1_addByte
    rw [h1, if_neg (nI_pos (by omega)), if_neg (show ¬ (600 : Int32) ≤ nI L from nI_ge (b := 600) hL (by decide)), if_pos (of_eq_true (q_zt hL (by decide))), nI_clamp (by omega), hy, zl_s, q_wA1, h1, nI_1, zl_s, zl_s]
  · rw [q_wI2, q_wAs]
    by_cases e : i = L
    · subst e; exact pk_us
    · rw [pk_un e]; exact h2 i (by omega)
theorem ty_four (h : zBf T C L) (hL : L + 4 ≤ 600) (hC : ∀ i, C i < 128) : ∃ T', f_X3_appendFour (nI (pk4 (C L) (C (L + 1)) (C (L + 2)) (C (L + 3)))) T = some ((), T') ∧ zBf T' C (L + 4) ∧ zfr (fun κ ι => κ = 0 ∧ (ι = 1 ∨ ι = 4 ∨ ι = 8)) T T' := by
  have c0 := hC L
  have c1 := hC (L + 1)
  have c2 := hC (L + 2)
  have c3 := hC (L + 3)
  obtain ⟨N, eN⟩ : ∃ N, N = pk4 (C L) (C (L + 1)) (C (L + 2)) (C (L + 3)) := ⟨_, rfl⟩
  have hN : N < 2 ^ 31 := by rw [eN]; exact pk4_lt c0 c1 c2 c3
  unfold pk4 at eN
  have s0 : nI N >>> ((24 : Int32) &&& 31) = nI (N / 2 ^ 24) := pk_shrN hN _ 24 (by decide)
  have s1 : nI N >>> ((16 : Int32) &&& 31) = nI (N / 2 ^ 16) := pk_shrN hN _ 16 (by decide)
  have s2 : nI N >>> ((8 : Int32) &&& 31) = nI (N / 2 ^ 8) := pk_shrN hN _ 8 (by decide)
  have s3 : nI N >>> ((0 : Int32) &&& 31) = nI (N / 2 ^ 0) := pk_shrN hN _ 0 (by decide)
  have a0 : N / 2 ^ 24 % 256 = C L := by omega
  have a1 : N / 2 ^ 16 % 256 = C (L + 1) := by omega
  have a2 : N / 2 ^ 8 % 256 = C (L + 2) := by omega
  have a3 : N / 2 ^ 0 % 256 = C (L + 3) := by omega
  obtain ⟨T1, e1, h1, F1⟩ := ty_b1 (y := nI (N / 2 ^ 24)) h (by omega) (by rw [ty_two (by omega) (by omega), a0])
  obtain ⟨T2, e2, h2, F2⟩ := ty_b1 (y := nI (N / 2 ^ 16)) h1 (by omega) (by rw [ty_two (by omega) (by omega), a1])
  obtain ⟨T3, e3, h3, F3⟩ := ty_b1 (y := nI (N / 2 ^ 8)) h2 (by omega) (by rw [ty_two (by omega) (by omega), a2])
  obtain ⟨T4, e4, h4, F4⟩ := ty_b1 (y := nI (N / 2 ^ 0)) h3 (by omega) (by rw [ty_two (by omega) (by omega), a3])
  refine ⟨T4, ?_, h4, zfr_trans F1 (zfr_trans F2 (zfr_trans F3 F4))⟩
  have ep : nI (pk4 (C L) (C (L + 1)) (C (L + 2)) (C (L + 3))) = nI N := by rw [eN]; rfl
  have m1 : (24 : Int32) + (-8) = 16 := by decide
  have m2 : (16 : Int32) + (-8) = 8 := by decide
  have m3 : (8 : Int32) + (-8) = 0 := by decide
  have m4 : (0 : Int32) + (-8) = -8 := by decide
  rw [ep]
  unfold f_X3_appendFour
  rw [lp_X3_appendFour_3, if_neg (show ¬ (24 : Int32) < 0 by decide), s0, e1, zb_s, zl_s, m1]
  rw [lp_X3_appendFour_3, if_neg (show ¬ (16 : Int32) < 0 by decide), s1, e2, zb_s, zl_s, m2]
  rw [lp_X3_appendFour_3, if_neg (show ¬ (8 : Int32) < 0 by decide), s2, e3, zb_s, zl_s, m3]
  rw [lp_X3_appendFour_3, if_neg (show ¬ (0 : Int32) < 0 by decide), s3, e4, zb_s, zl_s, m4]
  rw [lp_X3_appendFour_3, if_pos (show (-8 : Int32) < 0 by decide), zb_s]
def pkC (C : Nat → Nat) (i : Nat) : Int32 := nI (pk4 (C i) (C (i + 1)) (C (i + 2)) (C (i + 3)))
theorem ty_app (h : zBf T C L) (hL : L + 20 ≤ 600) (hC : ∀ i, C i < 128) : ∃ T', f_X3_append (pkC C L) (pkC C (L + 4)) (pkC C (L + 8)) (pkC C (L + 12)) (pkC C (L + 16)) T = some (.inl (nI (L + 20)), T') ∧ zBf T' C (L + 20) ∧ zfr (fun κ ι => κ = 0 ∧ (ι = 1 ∨ ι = 4 ∨ ι = 8)) T T' := by
  obtain ⟨T1, e1, h1, F1⟩ := ty_four h (by omega) hC
  obtain ⟨T2, e2, h2, F2⟩ := ty_four h1 (by omega) hC
  obtain ⟨T3, e3, h3, F3⟩ := ty_four h2 (by omega) hC
  obtain ⟨T4, e4, h4, F4⟩ := ty_four h3 (by omega) hC
  obtain ⟨T5, e5, h5, F5⟩ := ty_four h4 (by omega) hC
  refine ⟨T5, ?_, h5, zfr_trans F1 (zfr_trans F2 (zfr_trans F3 (zfr_trans F4 F5)))⟩
  have e1 : f_X3_appendFour (pkC C L) T = some ((), T1) := e1
  have e2 : f_X3_appendFour (pkC C (L + 4)) T1 = some ((), T2) := e2
  have e3 : f_X3_appendFour (pkC C (L + 8)) T2 = some ((), T3) := e3
  have e4 : f_X3_appendFour (pkC C (L + 12)) T3 = some ((), T4) := e4
  have e5 : f_X3_appendFour (pkC C (L + 16)) T4 = some ((), T5) := e5
  unfold f_X3_append
  rw [h.1, show nI L + 20 = nI (L + 20) from nI_add L 20, if_pos (show nI (L + 20) ≤ (600 : Int32) from nI_le (b := 600) hL (by decide)), e1, zb_s, e2, zb_s, e3, zb_s, e4, zb_s, e5, zb_s, h5.1]
/-- the law's array while twenty letters go in -/
def vst (C : Nat → Nat) (g0 : Nat → Int32) : Nat → Nat → Int32
  | 0 => g0
  | u + 1 => upd (vst C g0 u) (u / 4) ((vst C g0 u (u / 4)) <<< ((8 : Int32) &&& 31) ||| nI (C u))
theorem vst_hi {g0 : Nat → Int32} {j u : Nat} (h : 4 * (j + 1) ≤ u) : ∀ n, vst C g0 (u + n) j = vst C g0 u j
  | 0 => rfl
  | n + 1 => by
    show upd (vst C g0 (u + n)) ((u + n) / 4) _ j = _
    rw [pk_un (by omega)]
    exact vst_hi h n
theorem vst_at {g0 : Nat → Int32} (hC : ∀ i, C i < 128) {j : Nat} (hj : j < 5) : vst C g0 20 j = pkC C (4 * j) := by
  have e1 := vst_hi (C := C) (g0 := g0) (j := j) (Nat.le_refl _) (20 - 4 * (j + 1))
  rw [show 4 * (j + 1) + (20 - 4 * (j + 1)) = 20 by omega] at e1
  rw [e1, show 4 * (j + 1) = 4 * j + 1 + 1 + 1 + 1 by omega]
  have b1 : vst C g0 (4 * j + 1) j = (vst C g0 (4 * j) j) <<< ((8 : Int32) &&& 31) ||| nI (C (4 * j)) := by
    show upd (vst C g0 (4 * j)) (4 * j / 4) _ j = _
    rw [show 4 * j / 4 = j by omega, pk_us]
  have b2 : vst C g0 (4 * j + 1 + 1) j = (vst C g0 (4 * j + 1) j) <<< ((8 : Int32) &&& 31) ||| nI (C (4 * j + 1)) := by
    show upd (vst C g0 (4 * j + 1)) ((4 * j + 1) / 4) _ j = _
    rw [show (4 * j + 1) / 4 = j by omega, pk_us]
  have b3 : vst C g0 (4 * j + 1 + 1 + 1) j = (vst C g0 (4 * j + 1 + 1) j) <<< ((8 : Int32) &&& 31) ||| nI (C (4 * j + 1 + 1)) := by
    show upd (vst C g0 (4 * j + 1 + 1)) ((4 * j + 1 + 1) / 4) _ j = _
    rw [show (4 * j + 1 + 1) / 4 = j by omega, pk_us]
  have b4 : vst C g0 (4 * j + 1 + 1 + 1 + 1) j = (vst C g0 (4 * j + 1 + 1 + 1) j) <<< ((8 : Int32) &&& 31) ||| nI (C (4 * j + 1 + 1 + 1)) := by
    show upd (vst C g0 (4 * j + 1 + 1 + 1)) ((4 * j + 1 + 1 + 1) / 4) _ j = _
    rw [show (4 * j + 1 + 1 + 1) / 4 = j by omega, pk_us]
  rw [b4, b3, b2, b1, ty_pack _ (hC _) (hC _) (hC _) (hC _)]
  rfl
end TY
section TY2
variable {T : zT} {t : List Nat}
theorem l_ty21 {k : Nat} {g0 : Nat → Int32} (hk : k ≤ 600) (ht : t.length ≤ 300) : ∀ n u f, u + n = 20 → n < f → lp_L_type_t_21 t (nI k) f (nI u) (wA T 0 8 (vst (fun i => tCh t (k + i)) g0 u)) = some (nI 20, wA T 0 8 (vst (fun i => tCh t (k + i)) g0 20)) := by
  intro n
  induction n with
  | zero =>
    intro u f hu hf
    obtain ⟨f, rfl⟩ : ∃ q, f = q + 1 := ⟨f - 1, by omega⟩
    obtain rfl : u = 20 := by omega
    rw [lp_L_type_t_21, if_pos (by decide)]
  | succ n ih =>
    intro u f hu hf
    obtain ⟨f, rfl⟩ : ∃ q, f = q + 1 := ⟨f - 1, by omega⟩
    have ed : nI u / 4 = nI (u / 4) := pk_div (d := 4) (by omega) (by decide) (by decide)
    have hz : zin (nI (u / 4)) 5 = true := of_eq_true (q_zt (by omega) (by decide))
    have ih1 := ih (u + 1) f (by omega) (by omega)
    have ev : vst (fun i => tCh t (k + i)) g0 (u + 1) = upd (vst (fun i => tCh t (k + i)) g0 u) (u / 4) ((vst (fun i => tCh t (k + i)) g0 u (u / 4)) <<< ((8 : Int32) &&& 31) ||| nI (tCh t (k + u))) := rfl
    rw [ev] at ih1
    rw [lp_L_type_t_21, if_neg (show ¬ (20 : Int32) ≤ nI u from nI_ge (b := 20) (by omega) (by decide)), zl_s, ed, if_pos hz, zl_s, nI_add, nI_clamp (show u / 4 < 2 ^ 31 by omega)]
    by_cases hl : t.length ≤ k + u
    · have hc : (32 : Int32) = nI (tCh t (k + u)) := by unfold tCh; rw [if_neg (by omega)]; rfl
      rw [if_pos (nI_le hl (by omega))]
      dsimp only
      rw [if_pos hz, nI_clamp (show u / 4 < 2 ^ 31 by omega), zl_s, q_wAs, q_wAA, zl_s, nI_1, hc]
      exact ih1
    · have hc : nI (t.getD (k + u) 0) = nI (tCh t (k + u)) := by unfold tCh; rw [if_pos (by omega)]
      rw [if_neg (nI_ge (by omega) (by omega)), zl_s, if_pos (of_eq_true (q_zt (show k + u < t.length by omega) (by omega))), nI_clamp (show k + u < 2 ^ 31 by omega), hc]
      dsimp only
      rw [if_pos hz, nI_clamp (show u / 4 < 2 ^ 31 by omega), zl_s, q_wAs, q_wAA, zl_s, nI_1]
      exact ih1
theorem l_ty9 (ht : t.length ≤ 300) (hC : ∀ i, tCh t i < 128) : ∀ m k f (T : zT), zBf T (tCh t) k → t.length ≤ k + 20 * m → m < f → k ≤ 600 → ∃ T' L z, lp_L_type_t_9 t f (nI k) T = some (z, T') ∧ zBf T' (tCh t) L ∧ t.length ≤ L ∧ L ≤ 600 ∧ zfr (fun κ ι => κ = 0 ∧ (ι = 1 ∨ ι = 4 ∨ ι = 8)) T T' := by
  intro m
  induction m with
  | zero =>
    intro k f T h h1 hf hk
    obtain ⟨f, rfl⟩ : ∃ q, f = q + 1 := ⟨f - 1, by omega⟩
    rw [lp_L_type_t_9, if_pos (nI_le (by omega) (by omega))]
    exact ⟨T, k, nI k, rfl, h, by omega, hk, zfr_refl⟩
  | succ m ih =>
    intro k f T h h1 hf hk
    obtain ⟨f, rfl⟩ : ∃ q, f = q + 1 := ⟨f - 1, by omega⟩
    by_cases hl : t.length ≤ k
    · rw [lp_L_type_t_9, if_pos (nI_le hl (by omega))]
      exact ⟨T, k, nI k, rfl, h, hl, hk, zfr_refl⟩
    · have e1 := l_ty21 (T := T) (t := t) (k := k) (g0 := T.2 0 8) hk ht 20 0 21 (by decide) (by decide)
      have e0 : wA T 0 8 (vst (fun i => tCh t (k + i)) (T.2 0 8) 0) = T := q_wAself
      rw [e0, ← nl_0] at e1
      obtain ⟨T1, t1⟩ : ∃ z, z = wA T 0 8 (vst (fun i => tCh t (k + i)) (T.2 0 8) 20) := ⟨_, rfl⟩
      have h1' : zBf T1 (tCh t) k := by rw [t1]; exact h.fr zfr_8
      have va : ∀ j, j < 5 → T1.2 0 8 j = pkC (tCh t) (k + 4 * j) := fun j hj => by
        rw [t1, q_wAs, vst_at (fun i => hC _) hj]; rfl
      obtain ⟨T2, e2, h2, F2⟩ := ty_app h1' (by omega) hC
      have v0 : T1.2 0 8 0 = pkC (tCh t) k := va 0 (by decide)
      have v1 : T1.2 0 8 1 = pkC (tCh t) (k + 4) := va 1 (by decide)
      have v2 : T1.2 0 8 2 = pkC (tCh t) (k + 8) := va 2 (by decide)
      have v3 : T1.2 0 8 3 = pkC (tCh t) (k + 12) := va 3 (by decide)
      have v4 : T1.2 0 8 4 = pkC (tCh t) (k + 16) := va 4 (by decide)
      have h3 : zBf (zk T1 T2) (tCh t) (k + 20) := h2.fr zfr_k
      obtain ⟨T', L, z, a1, a2, a3, a4, a5⟩ := ih (k + 20) f (zk T1 T2) h3 (by omega) (by omega) (by omega)
      refine ⟨T', L, z, ?_, a2, a3, a4, zfr_trans ?_ (zfr_trans F2 (zfr_trans (zfr_mono zfr_k (fun _ _ z => ⟨z.1, Or.inr (Or.inr z.2)⟩)) a5))⟩
      · rw [lp_L_type_t_9, if_neg (nI_ge (by omega) (by omega)), e1, zb_s, ← t1, v0, v1, v2, v3, v4, e2, zbi_s, zl_s, zl_s, show nI k + 20 = nI (k + 20) from nI_add k 20]
        exact a1
      · rw [t1]; exact zfr_wA ⟨rfl, Or.inr (Or.inr rfl)⟩
theorem ty_all (ht : t.length ≤ 300) (hc : ∀ x ∈ t, x < 128) (h0 : T.1 0 1 1 = 0) : ∃ T' L, f_L_type t T = some (nI t.length, T') ∧ zAt (T'.2 0 4) 0 t ∧ T'.1 0 1 1 = nI L ∧ t.length ≤ L ∧ L ≤ 600 ∧ zfr (fun κ ι => κ = 0 ∧ (ι = 1 ∨ ι = 4 ∨ ι = 8)) T T' := by
  have hC : ∀ i, tCh t i < 128 := fun i => by
    unfold tCh
    by_cases hi : i < t.length
    · rw [if_pos hi, List.getD_eq_getElem?_getD, List.getElem?_eq_getElem hi]
      exact hc _ (List.getElem_mem hi)
    · rw [if_neg hi]; decide
  have hb : zBf (wA T 0 8 (fun _ => 0)) (tCh t) 0 := ⟨h0, fun i hi => by omega⟩
  obtain ⟨T', L, z, a1, a2, a3, a4, a5⟩ := l_ty9 ht hC 15 0 16 _ hb (by omega) (by decide) (by decide)
  refine ⟨T', L, ?_, fun i x hx => ?_, a2.1, a3, a4, zfr_trans (zfr_wA ⟨rfl, Or.inr (Or.inr rfl)⟩) a5⟩
  · unfold f_L_type rg_L_type_t
    rw [← nl_0] at a1
    rw [zl_s, a1, zb_s, zb_s]
  · have hi := (List.getElem?_eq_some_iff.mp hx).1
    rw [Nat.zero_add, a2.2 i (by omega)]
    unfold tCh
    rw [if_pos hi, List.getD_eq_getElem?_getD, hx]
    rfl
end TY2
