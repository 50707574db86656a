/-! THE LINES OF A DRAWN TEXT -/
def wReg : List Nat := [114, 101, 103, 105, 115, 116, 114, 121]
def wGard : List Nat := [103, 97, 114, 100, 101, 110]
def wChild : List Nat := [99, 104, 105, 108, 100]
def wCakes : List Nat := [99, 97, 107, 101, 115]
/-- a row that a drawn text leads to, m lines of cakes read -/
def zDw (m : Nat) (σ : zRow) : Prop := (zIv σ ∧ σ 0 = 0 ∧ σ 1 = 0 ∧ σ 7 = 0 ∧ σ 8 = 0) ∧ (∃ c0, c0 < 300 ∧ σ 3 = nI c0 ∧ σ 6 = nI c0) ∧ (∀ k, k < 6 → ∃ x, σ (11 + k) = nI x ∧ x ≤ 9 * m) ∧ ∀ c, c < zn σ → znm (zlet σ c) = nI (16 + c) ∧ σ (21 + 13 * c + 4) = -1 ∧ σ (21 + 13 * c + 5) = 0 ∧ σ (21 + 13 * c + 6) = 0 ∧ ∃ a, a ≤ 99 ∧ σ (21 + 13 * c + 2) = nI a
/-- the parser behind a line -/
def zPs (T0 T : zT) (n p : Nat) (l : List Nat) (m : Nat) (σ : zRow) : Prop := (∃ k, zPt T n p k l) ∧ zRR T 2 σ ∧ zDw m σ ∧ zfr (fun κ ι => (κ = 0 ∧ ι = 1) ∨ zPr 2 κ ι) T0 T
section LN
variable {T0 T : zT} {n p k m : Nat} {l : List Nat} {σ : zRow}
theorem zRR.tk {T' : zT} (h : zRR T 2 σ) (hf : zfr (fun κ ι => κ = 0 ∧ ι = 1) T T') : zRR T' 2 σ := h.fr hf (fun κ a b z => by omega)
theorem zRR.ng (h : zRR T 2 σ) (I : zIv σ) : T.1 1 2 8 = nI (zg σ) := h.f8.trans I.g
theorem zfr_l {T T' : zT} (hf : zfr (fun κ ι => κ = 0 ∧ ι = 1) T T') : zfr (fun κ ι => (κ = 0 ∧ ι = 1) ∨ zPr 2 κ ι) T T' := zfr_mono hf (fun _ _ z => Or.inl z)
theorem zfr_r {T T' : zT} (hf : zfr (zPr 2) T T') : zfr (fun κ ι => (κ = 0 ∧ ι = 1) ∨ zPr 2 κ ι) T T' := zfr_mono hf (fun _ _ z => Or.inr z)
/-- a line's first word -/
theorem ln_head {w : List Nat} (h : zPt T n p k (59 :: (w ++ (32 :: l)))) (hw : ∀ x ∈ w, zci (nI x) = 1) (hw0 : w ≠ []) : ∃ T1 T2, f_X1_nextIsLine T = some (1, T1) ∧ f_X1_readToken T1 = some ((), T2) ∧ zPt T2 n (p + 1 + w.length) 1 (32 :: l) ∧ (∀ s0, (zbytes s0).length < 100 → f_X1_tokenIs s0 T2 = some ((if tq s0 w = true then 1 else 0), T2)) ∧ zfr (fun κ ι => κ = 0 ∧ ι = 1) T T2 := by
  obtain ⟨e1, h1⟩ := tk_semi h
  have h1' : zPt (zTw T 3 p (p + 1)) n (p + 1) 3 ([] ++ (w ++ (32 :: l))) := h1
  obtain ⟨e2, h2, h3⟩ := tk_word h1' (fun x hx => by cases hx) hw hw0 (Or.inl rfl) (zStp_32.no (Or.inl rfl)) (Or.inr (by omega))
  have e0 : p + 1 + ([] : List Nat).length = p + 1 := rfl
  rw [e0] at e2 h2 h3
  have hn := h2.2.1
  exact ⟨_, _, e1, e2, h2, fun s0 hs => q_tok zTw_6 zTw_7 zTw_8 h3 (by omega) hs, zfr_trans zTw_fr zTw_fr⟩
/-- a step of the parser's loop -/
theorem ln_step {w : List Nat} {T1 T2 T3 : zT} {f u : Nat} (h : zPt T n p k (59 :: (w ++ (32 :: l)))) (hu : u ≤ p) (e1 : f_X1_nextIsLine T = some (1, T1)) (e2 : f_X1_readToken T1 = some ((), T2))
    (hd : (f_X1_tokenIs 2 T2 = some (1, T2) ∧ f_X1_readGarden T2 = some ((), T3)) ∨ (f_X1_tokenIs 2 T2 = some (0, T2) ∧ f_X1_tokenIs 3 T2 = some (1, T2) ∧ f_X1_readChild T2 = some ((), T3)) ∨ (f_X1_tokenIs 2 T2 = some (0, T2) ∧ f_X1_tokenIs 3 T2 = some (0, T2) ∧ f_X1_tokenIs 4 T2 = some (0, T2) ∧ f_X1_tokenIs 5 T2 = some (0, T2) ∧ f_X1_tokenIs 6 T2 = some (1, T2) ∧ f_X1_readCakes T2 = some ((), T3))) : lp_X1_parse_36 (f + 1) (nI u) T = lp_X1_parse_36 f (nI (u + 1)) T3 := by
  obtain ⟨⟨h2, h5, h6, h8⟩, ⟨hn, hn6, hk⟩, hA⟩ := h
  rw [List.length_cons] at hn
  have one : ¬ (1 : Int32) = 0 := by decide
  rw [lp_X1_parse_36, h5, if_neg (nI_ge (by omega) (by omega)), if_pos h2, e1, zb_s, if_neg one, e2, zb_s]
  rcases hd with ⟨a1, a2⟩ | ⟨a1, a2, a3⟩ | ⟨a1, a2, a3, a4, a5, a6⟩
  · rw [a1, zb_s, if_neg one, a2, zb_s, zl_s, nI_1]
  · rw [a1, zb_s, if_pos rfl, a2, zb_s, if_neg one, a3, zb_s, zl_s, nI_1]
  · rw [a1, zb_s, if_pos rfl, a2, zb_s, if_pos rfl, a3, zb_s, if_pos rfl, a4, zb_s, if_pos rfl, a5, zb_s, if_neg one, a6, zb_s, zl_s, nI_1]
/-- a garden -/
theorem ln_gard {g : Nat} (h : zPs T0 T n p (59 :: (wGard ++ (32 :: (zdig g ++ l)))) m σ) (hg : 1 ≤ g) (hg2 : g ≤ 12) (hs : zStp l) (h4 : zg σ < 4) : ∃ T' σ' p', p < p' ∧ (∀ f u, u ≤ p → lp_X1_parse_36 (f + 1) (nI u) T = lp_X1_parse_36 f (nI (u + 1)) T') ∧ zPs T0 T' n p' l m σ' ∧ zn σ' = zn σ ∧ zg σ' = zg σ + 1 := by
  obtain ⟨⟨k, hP⟩, R, ⟨⟨I, d0, d1, d7, d8⟩, dc, dk, dch⟩, F⟩ := h
  obtain ⟨T1, T2, e1, e2, hP2, htk, F2⟩ := ln_head hP (by decide +kernel) (by decide)
  have R2 := R.tk F2
  obtain ⟨T3, e3, hP3, F3⟩ := tk_num (lo := 1) (hi := 12) hP2 (by omega) hs (nI_nlt (b := 1) hg (by omega)) (nI_le (b := 12) hg2 (by decide))
  have R3 := R2.tk F3
  obtain ⟨T4, σ', e4, R4, I4, F4, s0, sn, sg, lo⟩ := w_gard R3 I h4 (nI g)
  have eg : f_X1_readGarden T2 = some ((), T4) := by
    unfold f_X1_readGarden
    rw [R2.ng I, if_pos (show nI (zg σ) < (4 : Int32) from nI_lt (b := 4) h4 (by decide)), e3, zb_s, if_pos hP3.1.1, e4, zb_s]
  have k2 : f_X1_tokenIs 2 T2 = some (1, T2) := by rw [htk 2 (by decide +kernel), if_pos (by decide +kernel)]
  refine ⟨T4, σ', _, ?_, fun f u hu => ln_step hP hu e1 e2 (Or.inl ⟨k2, eg⟩), ⟨⟨_, hP3.fr F4⟩, R4, ⟨⟨I4, by rw [s0]; exact d0, by rw [lo 1 (by decide) (by omega)]; exact d1, by rw [lo 7 (by decide) (by omega)]; exact d7, by rw [lo 8 (by decide) (by omega)]; exact d8⟩, ?_, fun i hi => ?_, fun c hc => ?_⟩, zfr_trans F (zfr_trans (zfr_l F2) (zfr_trans (zfr_l F3) (zfr_r F4)))⟩, sn, sg⟩
  · omega
  · rw [lo 3 (by decide) (by omega), lo 6 (by decide) (by omega)]; exact dc
  · rw [lo _ (by omega) (by omega)]; exact dk i hi
  · rw [sn] at hc
    rw [lo _ (by omega) (by omega), lo _ (by omega) (by omega), lo _ (by omega) (by omega), lo _ (by omega) (by omega), znm_congr (f := zlet σ' c) (g := zlet σ c) (fun i hi => lo _ (by omega) (by omega))]
    exact dch c hc
def nm1 (x : Nat) : Nat → Int32 := fun i => if i = 0 then nI x else 0
theorem nm1_znm {x : Nat} (h1 : 97 ≤ x) (h2 : x ≤ 122) : znm (nm1 x) = nI (x - 96) := by
  unfold znm
  have e0 : zfo (fun i u => if nm1 x i = 0 then u else u * 27 + nm1 x i - 97 + 1) 0 6 0 = zfo (fun i u => if nm1 x i = 0 then u else u * 27 + nm1 x i - 97 + 1) 1 5 (if nI x = 0 then 0 else 0 * 27 + nI x - 97 + 1) := rfl
  rw [e0, if_neg (nI_ne0 (by omega) (by omega)), show (0 : Int32) * 27 = nI 0 from rfl, nI_add, nl_97, pk_sub (by omega), nI_1, show 0 + x - 97 + 1 = x - 96 by omega]
  exact zfo_inv (P := fun u => u = nI (x - 96)) rfl (fun i a hi _ ha => by
    have hz : nm1 x i = 0 := if_neg (by omega)
    rw [if_pos hz]; exact ha)
theorem nm1_ok {x : Nat} (h1 : 97 ≤ x) (h2 : x ≤ 122) : zNm (nm1 x) := ⟨1, by decide, by decide, fun i hi => ⟨x, h1, h2, if_pos (by omega)⟩, fun i hi _ => if_neg (by omega)⟩
/-- a child -/
theorem ln_child {f b a h' : Nat} (h : zPs T0 T n p (59 :: (wChild ++ (32 :: ((112 + zn σ) :: (32 :: (zdig f ++ (32 :: (zdig b ++ (32 :: (zdig a ++ (32 :: (zdig h' ++ l)))))))))))) m σ) (hf : f < 6) (hb : 1 ≤ b) (hb2 : b ≤ 20) (ha : a ≤ 99) (hh : h' < zg σ) (hs : zStp l) (h10 : zn σ < 10) : ∃ T' σ' p', p < p' ∧ (∀ f u, u ≤ p → lp_X1_parse_36 (f + 1) (nI u) T = lp_X1_parse_36 f (nI (u + 1)) T') ∧ zPs T0 T' n p' l m σ' ∧ zn σ' = zn σ + 1 ∧ zg σ' = zg σ := by
  obtain ⟨⟨k, hP⟩, R, ⟨⟨I, d0, d1, d7, d8⟩, dc, dk, dch⟩, F⟩ := h
  have g4 := I.g4
  obtain ⟨T1, T2, e1, e2, hP2, htk, F2⟩ := ln_head hP (by decide +kernel) (by decide)
  have R2 := R.tk F2
  obtain ⟨T3, e3, hP3, F3⟩ := tk_nam hP2 (by omega) (by omega) zStp_32
  have R3 := R2.tk F3
  obtain ⟨T4, e4, hP4, F4⟩ := tk_num (lo := 0) (hi := 5) hP3 (by omega) zStp_32 (nI_pos (by omega)) (nI_le (b := 5) (by omega) (by decide))
  have R4 := R3.tk F4
  obtain ⟨T5, e5, hP5, F5⟩ := tk_num (lo := 1) (hi := 20) hP4 (by omega) zStp_32 (nI_nlt (b := 1) hb (by omega)) (nI_le (b := 20) hb2 (by decide))
  have R5 := R4.tk F5
  obtain ⟨T6, e6, hP6, F6⟩ := tk_num (lo := 0) (hi := 99) hP5 (by omega) zStp_32 (nI_pos (by omega)) (nI_le (b := 99) ha (by decide))
  have R6 := R5.tk F6
  have eg1 : nI (zg σ) - 1 = nI (zg σ - 1) := pk_sub (b := 1) (by omega)
  obtain ⟨T7, e7, hP7, F7⟩ := tk_num (lo := 0) (hi := nI (zg σ - 1)) hP6 (by omega) hs (nI_pos (by omega)) (nI_le (by omega) (by omega))
  have R7 := R6.tk F7
  have ex : 112 + zn σ - 96 = 16 + zn σ := by omega
  rw [ex] at e3
  have ez : nI (16 + zn σ) = znm (nm1 (112 + zn σ)) := by rw [nm1_znm (by omega) (by omega), ex]
  obtain ⟨T8, σ', e8, R8, I8, F8, s0, sn, sg, lo, s2, s4, s5, s6, sl⟩ := w_kid (ρ := 2) R7 I h10 (nm1_ok (x := 112 + zn σ) (by omega) (by omega)) hf hh (nI b) (nI a)
  rw [← ez] at e8
  have en : f_X2_childNamed 2 (nI (16 + zn σ)) T3 = some (-1, T3) := by
    rw [qx_named R3 I]
    cases e : zfn (fun i => if znm (zlet σ i) = nI (16 + zn σ) then true else false) 0 (zn σ) with
    | none => rfl
    | some i =>
      obtain ⟨-, h2, h3⟩ := zfn_some e
      have hi : i < zn σ := by omega
      have h4 : znm (zlet σ i) = nI (16 + zn σ) := by
        by_cases hc : znm (zlet σ i) = nI (16 + zn σ)
        · exact hc
        · rw [if_neg hc] at h3; cases h3
      rw [(dch i hi).1] at h4
      have := q_inj h4 (by omega) (by omega)
      omega
  have eg : f_X1_readChild T2 = some ((), T8) := by
    unfold f_X1_readChild jn_X1_readChild_17 jn_X1_readChild_39
    rw [show T2.1 1 2 9 = nI (zn σ) from R2.f9.trans I.n, if_pos (show nI (zn σ) < (10 : Int32) from nI_lt (b := 10) h10 (by decide)), e3, zb_s, en, zb_s, if_pos rfl, e4, zb_s, e5, zb_s, e6, zb_s, R6.ng I, eg1, e7, zb_s, if_pos hP7.1.1, e8, zb_s]
  have k2 : f_X1_tokenIs 2 T2 = some (0, T2) := by rw [htk 2 (by decide +kernel), if_neg (by decide +kernel)]
  have k3 : f_X1_tokenIs 3 T2 = some (1, T2) := by rw [htk 3 (by decide +kernel), if_pos (by decide +kernel)]
  refine ⟨T8, σ', _, ?_, fun f u hu => ln_step hP hu e1 e2 (Or.inr (Or.inl ⟨k2, k3, eg⟩)), ⟨⟨_, hP7.fr F8⟩, R8, ⟨⟨I8, by rw [s0]; exact d0, by rw [lo 1 (by decide) (by omega)]; exact d1, by rw [lo 7 (by decide) (by omega)]; exact d7, by rw [lo 8 (by decide) (by omega)]; exact d8⟩, ?_, fun i hi => ?_, fun c hc => ?_⟩, zfr_trans F (zfr_trans (zfr_l F2) (zfr_trans (zfr_l F3) (zfr_trans (zfr_l F4) (zfr_trans (zfr_l F5) (zfr_trans (zfr_l F6) (zfr_trans (zfr_l F7) (zfr_r F8)))))))⟩, sn, sg⟩
  · omega
  · rw [lo 3 (by decide) (by omega), lo 6 (by decide) (by omega)]; exact dc
  · rw [lo _ (by omega) (by omega)]; exact dk i hi
  · rw [sn] at hc
    by_cases e : c = zn σ
    · subst e
      rw [s2, s4, s5, s6, znm_congr sl, ← ez]
      exact ⟨rfl, rfl, rfl, rfl, a, ha, rfl⟩
    · rw [lo _ (by omega) (by omega), lo _ (by omega) (by omega), lo _ (by omega) (by omega), lo _ (by omega) (by omega), znm_congr (f := zlet σ' c) (g := zlet σ c) (fun i hi => lo _ (by omega) (by omega))]
      exact dch c (by omega)
/-- cakes -/
theorem ln_cakes {q x : Nat} (h : zPs T0 T n p (59 :: (wCakes ++ (32 :: (zdig q ++ (32 :: (zdig x ++ l)))))) m σ) (hq : q < 6) (hx1 : 1 ≤ x) (hx : x ≤ 9) (hs : zStp l) (hm : m ≤ 9) : ∃ T' σ' p', p < p' ∧ (∀ f u, u ≤ p → lp_X1_parse_36 (f + 1) (nI u) T = lp_X1_parse_36 f (nI (u + 1)) T') ∧ zPs T0 T' n p' l (m + 1) σ' ∧ zn σ' = zn σ ∧ zg σ' = zg σ := by
  obtain ⟨⟨k, hP⟩, R, ⟨⟨I, d0, d1, d7, d8⟩, dc, dk, dch⟩, F⟩ := h
  obtain ⟨T1, T2, e1, e2, hP2, htk, F2⟩ := ln_head hP (by decide +kernel) (by decide)
  have R2 := R.tk F2
  obtain ⟨T3, e3, hP3, F3⟩ := tk_num (lo := 0) (hi := 5) hP2 (by omega) zStp_32 (nI_pos (by omega)) (nI_le (b := 5) (by omega) (by decide))
  have R3 := R2.tk F3
  obtain ⟨y, ey, hy⟩ := dk q hq
  have e9 : (99 : Int32) - nI y = nI (99 - y) := pk_sub (a := 99) (by omega)
  obtain ⟨T4, e4, hP4, F4⟩ := tk_num (lo := 1) (hi := nI (99 - y)) hP3 (by omega) hs (nI_nlt (b := 1) hx1 (by omega)) (nI_le (by omega) (by omega))
  have R4 := R3.tk F4
  have ec : f_X3_cell 2 2 (nI q) T3 = some (nI y, T3) := by rw [q_cell (by rw [zlen_2]; exact hq) (by rw [zlen_2]; decide), R3.ck hq, ey]
  have ea : f_X3_addToCell 2 2 (nI q) (nI x) T4 = some ((), wA T4 2 2 (upd (T4.2 2 2) q (nI (y + x)))) := by rw [q_addTo (by rw [zlen_2]; exact hq) (by rw [zlen_2]; decide), R4.ck hq, ey, nI_add]
  have R5 := R4.a2 hq (nI (y + x))
  have F5 : zfr (zPr 2) T4 (wA T4 2 2 (upd (T4.2 2 2) q (nI (y + x)))) := zfr_wA ⟨by decide, by decide, rfl⟩
  have eg : f_X1_readCakes T2 = some ((), wA T4 2 2 (upd (T4.2 2 2) q (nI (y + x)))) := by
    unfold f_X1_readCakes
    rw [e3, zb_s, ec, zb_s, e9, e4, zb_s, if_pos hP4.1.1, ea, zb_s]
  have k2 : f_X1_tokenIs 2 T2 = some (0, T2) := by rw [htk 2 (by decide +kernel), if_neg (by decide +kernel)]
  have k3 : f_X1_tokenIs 3 T2 = some (0, T2) := by rw [htk 3 (by decide +kernel), if_neg (by decide +kernel)]
  have k4 : f_X1_tokenIs 4 T2 = some (0, T2) := by rw [htk 4 (by decide +kernel), if_neg (by decide +kernel)]
  have k5 : f_X1_tokenIs 5 T2 = some (0, T2) := by rw [htk 5 (by decide +kernel), if_neg (by decide +kernel)]
  have k6 : f_X1_tokenIs 6 T2 = some (1, T2) := by rw [htk 6 (by decide +kernel), if_pos (by decide +kernel)]
  have hn : zn (upd σ (11 + q) (nI (y + x))) = zn σ := zn_upd (by omega)
  refine ⟨_, upd σ (11 + q) (nI (y + x)), _, ?_, fun f u hu => ln_step hP hu e1 e2 (Or.inr (Or.inr ⟨k2, k3, k4, k5, k6, eg⟩)), ⟨⟨_, hP4.fr F5⟩, R5, ⟨⟨I.up (Or.inr (Or.inr (Or.inr (Or.inr (Or.inl ⟨by omega, by omega⟩))))), by rw [pk_un (by omega)]; exact d0, by rw [pk_un (by omega)]; exact d1, by rw [pk_un (by omega)]; exact d7, by rw [pk_un (by omega)]; exact d8⟩, ?_, fun i hi => ?_, fun c hc => ?_⟩, zfr_trans F (zfr_trans (zfr_l F2) (zfr_trans (zfr_l F3) (zfr_trans (zfr_l F4) (zfr_r F5))))⟩, hn, zg_upd (by omega)⟩
  · omega
  · rw [pk_un (by omega), pk_un (by omega)]; exact dc
  · by_cases e : i = q
    · subst e
      exact ⟨y + x, pk_us, by omega⟩
    · obtain ⟨z, z1, z2⟩ := dk i hi
      exact ⟨z, by rw [pk_un (by omega)]; exact z1, by omega⟩
  · rw [hn] at hc
    rw [pk_un (by omega), pk_un (by omega), pk_un (by omega), pk_un (by omega), znm_congr (f := zlet (upd σ (11 + q) (nI (y + x))) c) (g := zlet σ c) (fun i hi => pk_un (by omega))]
    exact dch c hc
end LN
