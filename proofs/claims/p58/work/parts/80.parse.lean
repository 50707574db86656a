/-! A DRAWN TEXT, READ -/
def rG : List Nat → List Nat → List Nat
  | [], l => l
  | g :: r, l => 59 :: (wGard ++ (32 :: (zdig g ++ rG r l)))
def rK : Nat → List (Nat × Nat × Nat × Nat) → List Nat → List Nat
  | _, [], l => l
  | c, q :: r, l => 59 :: (wChild ++ (32 :: ((112 + c) :: (32 :: (zdig q.1 ++ (32 :: (zdig q.2.1 ++ (32 :: (zdig q.2.2.1 ++ (32 :: (zdig q.2.2.2 ++ rK (c + 1) r l)))))))))))
def rC : List (Nat × Nat) → List Nat → List Nat
  | [], l => l
  | q :: r, l => 59 :: (wCakes ++ (32 :: (zdig q.1 ++ (32 :: (zdig q.2 ++ rC r l)))))
theorem rG_stp {l : List Nat} (h : zStp l) : ∀ gs, zStp (rG gs l)
  | [] => h
  | _ :: _ => zStp_59
theorem rK_stp {l : List Nat} (h : zStp l) : ∀ c ks, zStp (rK c ks l)
  | _, [] => h
  | _, _ :: _ => zStp_59
theorem rC_stp {l : List Nat} (h : zStp l) : ∀ cs, zStp (rC cs l)
  | [] => h
  | _ :: _ => zStp_59
def okG (gs : List Nat) : Prop := ∀ g ∈ gs, 1 ≤ g ∧ g ≤ 12
def okK (ng : Nat) (ks : List (Nat × Nat × Nat × Nat)) : Prop := ∀ q ∈ ks, q.1 < 6 ∧ (1 ≤ q.2.1 ∧ q.2.1 ≤ 20) ∧ q.2.2.1 ≤ 99 ∧ q.2.2.2 < ng
def okC (cs : List (Nat × Nat)) : Prop := ∀ q ∈ cs, q.1 < 6 ∧ 1 ≤ q.2 ∧ q.2 ≤ 9
section PT
variable {T0 : zT} {n m : Nat} {l : List Nat}
theorem ps_G (hs : zStp l) : ∀ (gs : List Nat) (T : zT) (σ : zRow) (p : Nat), okG gs → zg σ + gs.length ≤ 4 → zPs T0 T n p (rG gs l) m σ → ∃ T' σ' p', (∀ f u, u ≤ p → lp_X1_parse_36 (f + gs.length) (nI u) T = lp_X1_parse_36 f (nI (u + gs.length)) T' ∧ u + gs.length ≤ p') ∧ zPs T0 T' n p' l m σ' ∧ zn σ' = zn σ ∧ zg σ' = zg σ + gs.length
  | [], T, σ, p, _, _, h => ⟨T, σ, p, fun f u hu => ⟨rfl, hu⟩, h, rfl, rfl⟩
  | g :: r, T, σ, p, ok, h4, h => by
    rw [List.length_cons] at h4
    obtain ⟨a1, a2⟩ := ok g List.mem_cons_self
    obtain ⟨T1, σ1, p1, hp, st, h1, n1, g1⟩ := ln_gard h a1 a2 (rG_stp hs r) (by omega)
    obtain ⟨T2, σ2, p2, st2, h2, n2, g2⟩ := ps_G hs r T1 σ1 p1 (fun x hx => ok x (List.mem_cons_of_mem _ hx)) (by omega) h1
    refine ⟨T2, σ2, p2, fun f u hu => ?_, h2, n2.trans n1, by rw [g2, g1, List.length_cons]; omega⟩
    obtain ⟨b1, b2⟩ := st2 f (u + 1) (by omega)
    rw [List.length_cons]
    refine ⟨?_, by omega⟩
    rw [show f + (r.length + 1) = (f + r.length) + 1 by omega, st _ u hu, b1, show u + 1 + r.length = u + (r.length + 1) by omega]
theorem ps_K (hs : zStp l) : ∀ (ks : List (Nat × Nat × Nat × Nat)) (T : zT) (σ : zRow) (p : Nat), okK (zg σ) ks → zn σ + ks.length ≤ 10 → zPs T0 T n p (rK (zn σ) ks l) m σ → ∃ T' σ' p', (∀ f u, u ≤ p → lp_X1_parse_36 (f + ks.length) (nI u) T = lp_X1_parse_36 f (nI (u + ks.length)) T' ∧ u + ks.length ≤ p') ∧ zPs T0 T' n p' l m σ' ∧ zn σ' = zn σ + ks.length ∧ zg σ' = zg σ
  | [], T, σ, p, _, _, h => ⟨T, σ, p, fun f u hu => ⟨rfl, hu⟩, h, rfl, rfl⟩
  | q :: r, T, σ, p, ok, h4, h => by
    rw [List.length_cons] at h4
    obtain ⟨a1, ⟨a2, a3⟩, a4, a5⟩ := ok q List.mem_cons_self
    obtain ⟨T1, σ1, p1, hp, st, h1, n1, g1⟩ := ln_child h a1 a2 a3 a4 a5 (rK_stp hs _ r) (by omega)
    rw [← n1] at h1
    obtain ⟨T2, σ2, p2, st2, h2, n2, g2⟩ := ps_K hs r T1 σ1 p1 (fun x hx => by rw [g1]; exact ok x (List.mem_cons_of_mem _ hx)) (by omega) h1
    refine ⟨T2, σ2, p2, fun f u hu => ?_, h2, by rw [n2, n1, List.length_cons]; omega, g2.trans g1⟩
    obtain ⟨b1, b2⟩ := st2 f (u + 1) (by omega)
    rw [List.length_cons]
    refine ⟨?_, by omega⟩
    rw [show f + (r.length + 1) = (f + r.length) + 1 by omega, st _ u hu, b1, show u + 1 + r.length = u + (r.length + 1) by omega]
theorem ps_C (hs : zStp l) : ∀ (cs : List (Nat × Nat)) (T : zT) (σ : zRow) (p m : Nat), okC cs → m + cs.length ≤ 9 → zPs T0 T n p (rC cs l) m σ → ∃ T' σ' p', (∀ f u, u ≤ p → lp_X1_parse_36 (f + cs.length) (nI u) T = lp_X1_parse_36 f (nI (u + cs.length)) T' ∧ u + cs.length ≤ p') ∧ zPs T0 T' n p' l (m + cs.length) σ' ∧ zn σ' = zn σ ∧ zg σ' = zg σ
  | [], T, σ, p, m, _, _, h => ⟨T, σ, p, fun f u hu => ⟨rfl, hu⟩, h, rfl, rfl⟩
  | q :: r, T, σ, p, m, ok, h4, h => by
    rw [List.length_cons] at h4
    obtain ⟨a1, a2, a3⟩ := ok q List.mem_cons_self
    obtain ⟨T1, σ1, p1, hp, st, h1, n1, g1⟩ := ln_cakes h a1 a2 a3 (rC_stp hs r) (by omega)
    obtain ⟨T2, σ2, p2, st2, h2, n2, g2⟩ := ps_C hs r T1 σ1 p1 (m + 1) (fun x hx => ok x (List.mem_cons_of_mem _ hx)) (by omega) h1
    refine ⟨T2, σ2, p2, fun f u hu => ?_, by rw [List.length_cons, show m + (r.length + 1) = m + 1 + r.length by omega]; exact h2, n2.trans n1, g2.trans g1⟩
    obtain ⟨b1, b2⟩ := st2 f (u + 1) (by omega)
    rw [List.length_cons]
    refine ⟨?_, by omega⟩
    rw [show f + (r.length + 1) = (f + r.length) + 1 by omega, st _ u hu, b1, show u + 1 + r.length = u + (r.length + 1) by omega]
theorem ps_end {T : zT} {σ : zRow} {p f u : Nat} (h : zPs T0 T n p [] m σ) (hu : u ≤ p) : ∃ T', lp_X1_parse_36 (f + 1) (nI u) T = some (nI u, T') ∧ T'.1 0 1 2 = 0 ∧ zRR T' 2 σ ∧ zDw m σ ∧ zfr (fun κ ι => (κ = 0 ∧ ι = 1) ∨ zPr 2 κ ι) T0 T' := by
  obtain ⟨⟨k, hP⟩, R, D, F⟩ := h
  have e1 := tk_end hP
  obtain ⟨⟨h2, h5, h6, h8⟩, ⟨hn, hn6, hk⟩, hA⟩ := hP
  by_cases hh : n ≤ u
  · refine ⟨T, ?_, h2, R, D, F⟩
    rw [lp_X1_parse_36, h5, if_pos (nI_le hh (by omega))]
  · refine ⟨zTw T 4 p p, ?_, by rw [zTw_j (by omega)]; exact h2, R.tk zTw_fr, D, zfr_trans F (zfr_l zTw_fr)⟩
    rw [lp_X1_parse_36, h5, if_neg (nI_ge (by omega) (by omega)), if_pos h2, e1, zb_s, if_pos rfl]
/-- the whole text -/
def rT (s c : Nat) (gs : List Nat) (ks : List (Nat × Nat × Nat × Nat)) (cs : List (Nat × Nat)) : List Nat := wReg ++ (32 :: (zdig s ++ (32 :: (zdig c ++ rG gs (rK 0 ks (rC cs []))))))
theorem ps_T {T : zT} {s c : Nat} {gs : List Nat} {ks : List (Nat × Nat × Nat × Nat)} {cs : List (Nat × Nat)} (hs : s < 9973) (hc : c < 300) (ok1 : okG gs) (ok2 : okK gs.length ks) (ok3 : okC cs) (hg : gs.length ≤ 4) (hk : ks.length ≤ 10) (hcs : cs.length ≤ 4) (hn : (rT s c gs ks cs).length = n) (hn6 : n ≤ 600) (hA : zAt (T.2 0 4) 0 (rT s c gs ks cs)) : ∃ T' σ, f_X1_parse (nI n) T = some ((), T') ∧ T'.1 0 1 2 = 0 ∧ zRR T' 2 σ ∧ zDw cs.length σ ∧ zn σ = ks.length ∧ zg σ = gs.length ∧ zfr (fun κ ι => (κ = 0 ∧ ι = 1) ∨ zPr 2 κ ι) T T' := by
  obtain ⟨T6, t6⟩ : ∃ z, z = wI (wI (wI (wI (wI (wI T 0 1 5 (nI n)) 0 1 2 0) 0 1 3 (-1)) 0 1 6 0) 0 1 7 0) 0 1 8 0 := ⟨_, rfl⟩
  have F6 : zfr (fun κ ι => κ = 0 ∧ ι = 1) T T6 := by
    have w : ∀ (U : zT) k v, zfr (fun κ ι => κ = 0 ∧ ι = 1) U (wI U 0 1 k v) := fun U k v => zfr_wI ⟨rfl, rfl⟩
    rw [t6]
    exact zfr_trans (w _ _ _) (zfr_trans (w _ _ _) (zfr_trans (w _ _ _) (zfr_trans (w _ _ _) (zfr_trans (w _ _ _) (w _ _ _)))))
  have h6 : zPt T6 n 0 0 ([] ++ rT s c gs ks cs) := by
    refine ⟨⟨by rw [t6]; rfl, by rw [t6]; rfl, by rw [t6]; rfl, by rw [t6]; rfl⟩, ⟨?_, hn6, by decide⟩, by rw [t6]; exact hA⟩
    rw [Nat.zero_add]; exact hn
  unfold rT at h6
  obtain ⟨e7, h7, w7⟩ := tk_word h6 (fun x hx => by cases hx) (show ∀ x ∈ wReg, zci (nI x) = 1 by decide +kernel) (by decide) (Or.inl rfl) (zStp_32.no (Or.inl rfl)) (Or.inr (by decide))
  have hn7 := h7.2.1
  have k1 : f_X1_tokenIs 1 (zTw T6 1 (0 + ([] : List Nat).length) (0 + ([] : List Nat).length + wReg.length)) = some (1, zTw T6 1 (0 + ([] : List Nat).length) (0 + ([] : List Nat).length + wReg.length)) := by
    rw [q_tok (s0 := 1) zTw_6 zTw_7 zTw_8 w7 (by omega) (by decide +kernel), if_pos (by decide +kernel)]
  generalize eT7 : zTw T6 1 (0 + ([] : List Nat).length) (0 + ([] : List Nat).length + wReg.length) = T7 at e7 h7 k1
  have F7 : zfr (fun κ ι => κ = 0 ∧ ι = 1) T6 T7 := by rw [← eT7]; exact zTw_fr
  obtain ⟨T8, e8, h8, F8⟩ := tk_num (lo := 0) (hi := 9972) h7 (by omega) zStp_32 (nI_pos (by omega)) (nI_le (b := 9972) (by omega) (by decide))
  obtain ⟨T9, e9, h9, F9⟩ := tk_num (lo := 0) (hi := 9999) h8 (by omega) (rG_stp (rK_stp (rC_stp zStp_nil cs) 0 ks) gs) (nI_pos (by omega)) (nI_le (b := 9999) (by omega) (by decide))
  obtain ⟨T10, e10, F10, hR⟩ := w_begin (T := T9) (nI s) (nI c)
  obtain ⟨σ0, eσ⟩ : ∃ σ0 : zRow, σ0 = fun j => if j = 2 then nI s else if j = 3 then nI c else if j = 6 then nI c else 0 := ⟨_, rfl⟩
  have z0 : ∀ j, j ≠ 2 → j ≠ 3 → j ≠ 6 → σ0 j = 0 := fun j a b d => by rw [eσ]; show (if j = 2 then _ else _) = _; rw [if_neg a, if_neg b, if_neg d]
  have z2 : σ0 2 = nI s := by rw [eσ]; rfl
  have z3 : σ0 3 = nI c := by rw [eσ]; rfl
  have z6 : σ0 6 = nI c := by rw [eσ]; rfl
  have hn0 : zn σ0 = 0 := by unfold zn; rw [z0 5 (by decide) (by decide) (by decide)]; rfl
  have hg0 : zg σ0 = 0 := by unfold zg; rw [z0 4 (by decide) (by decide) (by decide)]; rfl
  have I0 : zIv σ0 := by
    refine ⟨⟨?_, by omega⟩, ⟨?_, by omega⟩, ⟨0, by decide, ?_⟩, ⟨s, hs, z2⟩, ?_, fun i hi => by omega⟩
    · rw [hn0, z0 5 (by decide) (by decide) (by decide)]; rfl
    · rw [hg0, z0 4 (by decide) (by decide) (by decide)]; rfl
    · rw [z0 1 (by decide) (by decide) (by decide)]; rfl
    · rw [hn0, z0 9 (by decide) (by decide) (by decide)]; rfl
  have D0 : zDw 0 σ0 := ⟨⟨I0, z0 0 (by decide) (by decide) (by decide), z0 1 (by decide) (by decide) (by decide), z0 7 (by decide) (by decide) (by decide), z0 8 (by decide) (by decide) (by decide)⟩, ⟨c, hc, z3, z6⟩, fun i hi => ⟨0, by rw [z0 _ (by omega) (by omega) (by omega)]; rfl, Nat.zero_le _⟩, fun i hi => by omega⟩
  have P0 : zPs T T10 n _ _ 0 σ0 := ⟨⟨_, h9.fr F10⟩, hR σ0 (fun j _ a b d => z0 j a b d) z2 z3 z6, D0, zfr_trans (zfr_l F6) (zfr_trans (zfr_l F7) (zfr_trans (zfr_l F8) (zfr_trans (zfr_l F9) (zfr_r F10))))⟩
  obtain ⟨T11, σ1, p1, s1, P1, n1, g1⟩ := ps_G (rK_stp (rC_stp zStp_nil cs) 0 ks) gs T10 σ0 _ ok1 (by omega) P0
  rw [hn0] at n1
  rw [hg0, Nat.zero_add] at g1
  have P1' : zPs T T11 n p1 (rK (zn σ1) ks (rC cs [])) 0 σ1 := by rw [n1]; exact P1
  obtain ⟨T12, σ2, p2, s2, P2, n2, g2⟩ := ps_K (rC_stp zStp_nil cs) ks T11 σ1 p1 (by rw [g1]; exact ok2) (by omega) P1'
  obtain ⟨T13, σ3, p3, s3, P3, n3, g3⟩ := ps_C zStp_nil cs T12 σ2 p2 0 ok3 (by omega) P2
  rw [Nat.zero_add] at P3
  obtain ⟨a1, b1⟩ := s1 (2000 - gs.length) 0 (Nat.zero_le _)
  obtain ⟨a2, b2⟩ := s2 (2000 - gs.length - ks.length) (0 + gs.length) b1
  obtain ⟨a3, b3⟩ := s3 (2000 - gs.length - ks.length - cs.length) (0 + gs.length + ks.length) b2
  obtain ⟨T14, a4, c1, c2, c3, c4⟩ := ps_end (f := 2000 - gs.length - ks.length - cs.length - 1) P3 b3
  rw [show 2000 - gs.length + gs.length = 2000 by omega] at a1
  rw [show 2000 - gs.length - ks.length + ks.length = 2000 - gs.length by omega] at a2
  rw [show 2000 - gs.length - ks.length - cs.length + cs.length = 2000 - gs.length - ks.length by omega] at a3
  rw [show 2000 - gs.length - ks.length - cs.length - 1 + 1 = 2000 - gs.length - ks.length - cs.length by omega] at a4
  refine ⟨T14, σ3, ?_, c1, c2, c3, by rw [n3, n2, n1, Nat.zero_add], by rw [g3, g2, g1], c4⟩
  unfold f_X1_parse f_X1_readHead jn_X1_readHead_18
  simp only [zl_s]
  rw [← t6, e7, zb_s, k1, zb_s, if_neg (show ¬ (1 : Int32) = 0 by decide), e8, zb_s, e9, zb_s, e10, zb_s, zb_s, show (0 : Int32) = nI 0 from rfl, a1, a2, a3, a4, zb_s]
end PT
