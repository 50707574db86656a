/-! METHODS of the registry and the history, by program -/
def f_X0_forgetAll  (T : zT) : Option (Unit × zT) := zl (wI T 0 2 1 0) fun T1 => zl (wI T1 0 2 2 0) fun T2 => some ((), T2)
set_option maxHeartbeats 4000000 in
set_option maxRecDepth 100000 in
theorem c_X0_forgetAll  (T T' : zT) (v : Unit) (hf : f_X0_forgetAll  T = some (v, T')) : zC 0 yX0_forgetAll cX0_forgetAll 1 none 0  0 0  (fun G _ => [.ref (G 0 2)]) T (fun _ => .inl none) T' := by
  intro l D Y S V G A hl9 hG
  refine vx_ofW (cc := cX0_forgetAll) (maxL := 1) (ret := none) (by decide) rfl ?_
  intro p e s m args below meth c s₁ B hml hex hv
  obtain ⟨rfl, hK, hP, hA⟩ := hv
  have hx := B.exec
  have hb := B.bytes
  have hr := B.returns
  have hlocks := B.notSynchronized
  have hown : s.vm.findClass RX0 = some m.cls := findClass_of_methodNamed B.named
  have hts := atoms_spec (ws := Cond.code yX0_forgetAll cX0_forgetAll 1 none :: zWS) B.pre
  have F : zF 0 0  0 0  p l s m _ c cX0_forgetAll 1 RX0 (Cond.code yX0_forgetAll cX0_forgetAll 1 none) D Y S V G A := ⟨hx, hb, hml, hown, hts, hl9, hG, hK, hA⟩
  have hS : va_S A s.heap s.heap [] := va_S.rf
  have hl := lv_entry ([.ref (G 0 2)]) (n := 1) (Nat.le_of_ble_eq_true rfl)
  rw [lg_entry_eq]
  generalize (lg_sl ([.ref (G 0 2)]) ++ List.replicate (1 - (lg_sl ([.ref (G 0 2)])).length) Slot.unset).toArray = ls at hl ⊢
  have hl : lv_has ls 1 [(0, .ref (G 0 2))] := hl
  unfold f_X0_forgetAll at hf
  refine lv_aload_n hx hb dX0_forgetAll_0 rfl (lv_at hl 0 rfl) ?_
  refine lv_iconst (v := 0) hx hb dX0_forgetAll_1 (by decide) ?_
  obtain ⟨T1, eT1, hf⟩ := zl_i hf
  refine z_put hx hb hts (fun w h => List.mem_cons_of_mem _ (ziX0 w h)) tyX0 tyX0_ok nmX0 hown hK hP hG hS (zV_0 (by decide)) rfl rfl 1 (by decide) (List.mem_cons_of_mem _ m_204) rfl rfl (by decide +kernel) (Nat.le_of_ble_eq_true rfl) rfl dX0_forgetAll_2 (fun H locs hP hS => ?_)
  rw [← eT1] at hP
  refine lv_aload_n hx hb dX0_forgetAll_5 rfl (lv_at hl 0 rfl) ?_
  refine lv_iconst (v := 0) hx hb dX0_forgetAll_6 (by decide) ?_
  obtain ⟨T2, eT2, hf⟩ := zl_i hf
  refine z_put hx hb hts (fun w h => List.mem_cons_of_mem _ (ziX0 w h)) tyX0 tyX0_ok nmX0 hown hK hP hG hS (zV_0 (by decide)) rfl rfl 2 (by decide) (List.mem_cons_of_mem _ m_205) rfl rfl (by decide +kernel) (Nat.le_of_ble_eq_true rfl) rfl dX0_forgetAll_7 (fun H locs hP hS => ?_)
  rw [← eT2] at hP
  obtain ⟨q1, q2⟩ := zs_i hf
  subst q1; subst q2
  exact z_vret hx hb hr rfl hP hS hlocks (Nat.le_of_ble_eq_true rfl) (Nat.le_of_ble_eq_true rfl) dX0_forgetAll_10

def f_X0_stateAt (p0 : Int32) (T : zT) : Option (Option Nat × zT) := (if p0 < 0 then some (none, T) else (if 10 ≤ p0 then some (none, T) else if zin p0 10 = true then some (some (3 + p0.toNatClampNeg), T) else none))
set_option maxHeartbeats 4000000 in
set_option maxRecDepth 100000 in
theorem c_X0_stateAt (p0 : Int32) (T T' : zT) (v : Option Nat) (hf : f_X0_stateAt p0 T = some (v, T')) : zC 0 yX0_stateAt cX0_stateAt 2 (some (.object "InventedBirthdays$Registry")) 0  0 0  (fun G _ => [.ref (G 0 2), .int p0]) T (fun G => .inl (some (zro G v))) T' := by
  intro l D Y S V G A hl9 hG
  refine vx_ofW (cc := cX0_stateAt) (maxL := 2) (ret := (some (.object "InventedBirthdays$Registry"))) (by decide) rfl ?_
  intro p e s m args below meth c s₁ B hml hex hv
  obtain ⟨rfl, hK, hP, hA⟩ := hv
  have hx := B.exec
  have hb := B.bytes
  have hr := B.returns
  have hlocks := B.notSynchronized
  have hown : s.vm.findClass RX0 = some m.cls := findClass_of_methodNamed B.named
  have hts := atoms_spec (ws := Cond.code yX0_stateAt cX0_stateAt 2 (some (.object "InventedBirthdays$Registry")) :: zWS) B.pre
  have F : zF 0 0  0 0  p l s m _ c cX0_stateAt 2 RX0 (Cond.code yX0_stateAt cX0_stateAt 2 (some (.object "InventedBirthdays$Registry"))) D Y S V G A := ⟨hx, hb, hml, hown, hts, hl9, hG, hK, hA⟩
  have hS : va_S A s.heap s.heap [] := va_S.rf
  have hl := lv_entry ([.ref (G 0 2), .int p0]) (n := 2) (Nat.le_of_ble_eq_true rfl)
  rw [lg_entry_eq]
  generalize (lg_sl ([.ref (G 0 2), .int p0]) ++ List.replicate (2 - (lg_sl ([.ref (G 0 2), .int p0])).length) Slot.unset).toArray = ls at hl ⊢
  have hl : lv_has ls 2 [(0, .ref (G 0 2)), (1, .int p0)] := hl
  unfold f_X0_stateAt at hf
  refine lv_iload_n hx hb dX0_stateAt_0 rfl (lv_at hl 1 rfl) ?_
  refine lv_if_lt (tgt := 22) hx hb dX0_stateAt_1 (by decide) (fun hc => ?_) (fun hc => ?_)
  · have hf := zif_p hf hc
    refine lv_null hx hb dX0_stateAt_22 ?_
    obtain ⟨q1, q2⟩ := zs_i hf
    subst q1; subst q2
    exact z_aret hx hb hr (Or.inl rfl) rfl hP hS hlocks (Nat.le_of_ble_eq_true rfl) (Nat.le_of_ble_eq_true rfl) dX0_stateAt_23
  · have hf := zif_n hf hc
    refine lv_iload_n hx hb dX0_stateAt_4 rfl (lv_at hl 1 rfl) ?_
    refine lv_aload_n hx hb dX0_stateAt_5 rfl (lv_at hl 0 rfl) ?_
    refine z_get hx hb hts (fun w h => List.mem_cons_of_mem _ (ziX0 w h)) hown hK hP (zV_0 (by decide)) rfl rfl 0 (by decide) (List.mem_cons_of_mem _ m_203) rfl rfl dX0_stateAt_6 ?_
    refine z_alen (v := 10) hx hb hK hP (zV_0 (by decide)) 3 rfl rfl rfl dX0_stateAt_9 ?_
    refine lv_icmp_ge (tgt := 22) hx hb dX0_stateAt_10 (by decide) (fun hc => ?_) (fun hc => ?_)
    · have hf := zif_p hf hc
      refine lv_null hx hb dX0_stateAt_22 ?_
      obtain ⟨q1, q2⟩ := zs_i hf
      subst q1; subst q2
      exact z_aret hx hb hr (Or.inl rfl) rfl hP hS hlocks (Nat.le_of_ble_eq_true rfl) (Nat.le_of_ble_eq_true rfl) dX0_stateAt_23
    · have hf := zif_n hf hc
      refine lv_aload_n hx hb dX0_stateAt_13 rfl (lv_at hl 0 rfl) ?_
      refine z_get hx hb hts (fun w h => List.mem_cons_of_mem _ (ziX0 w h)) hown hK hP (zV_0 (by decide)) rfl rfl 0 (by decide) (List.mem_cons_of_mem _ m_203) rfl rfl dX0_stateAt_14 ?_
      refine lv_iload_n hx hb dX0_stateAt_17 rfl (lv_at hl 1 rfl) ?_
      obtain ⟨h1, hf⟩ := zif_c hf
      refine z_aald hx hb hK hP (zV_0 (by decide)) rfl (zin_i h1) dX0_stateAt_18 ?_
      refine lv_goto (tgt := 23) hx hb dX0_stateAt_19 (by decide) ?_
      obtain ⟨q1, q2⟩ := zs_i hf
      subst q1; subst q2
      exact z_aret hx hb hr (Or.inr ⟨_, rfl⟩) rfl hP hS hlocks (Nat.le_of_ble_eq_true rfl) (Nat.le_of_ble_eq_true rfl) dX0_stateAt_23

def f_X3_copyRow (k0 i0 : Nat) (k1 i1 : Nat) (T : zT) : Option (Unit × zT) := zl (if (nI (zlen 0 k1 i1)) < (nI (zlen 0 k0 i0)) then (nI (zlen 0 k1 i1)) else (nI (zlen 0 k0 i0))) fun x1 => if ¬ x1 < 0 ∧ x1.toNatClampNeg ≤ zlen 0 k0 i0 ∧ x1.toNatClampNeg ≤ zlen 0 k1 i1 then zl (wA T k1 i1 (va_cpy (T.2 k0 i0) (T.2 k1 i1) 0 0 x1.toNatClampNeg)) fun T3 => some ((), T3) else none
set_option maxHeartbeats 4000000 in
set_option maxRecDepth 100000 in
theorem c_X3_copyRow (k0 i0 : Nat) (hI0 : zIA 0 k0 i0) (k1 i1 : Nat) (hI1 : zIA 0 k1 i1) (T T' : zT) (v : Unit) (hf : f_X3_copyRow k0 i0 k1 i1 T = some (v, T')) : zC 0 yX3_copyRow cX3_copyRow 2 none 2  0 0  (fun G _ => [.ref (G k0 i0), .ref (G k1 i1)]) T (fun _ => .inl none) T' := by
  intro l D Y S V G A hl9 hG
  refine vx_ofW (cc := cX3_copyRow) (maxL := 2) (ret := none) (by decide) rfl ?_
  intro p e s m args below meth c s₁ B hml hex hv
  obtain ⟨rfl, hK, hP, hA⟩ := hv
  have hx := B.exec
  have hb := B.bytes
  have hr := B.returns
  have hlocks := B.notSynchronized
  have hown : s.vm.findClass RX3 = some m.cls := findClass_of_methodNamed B.named
  have hts := atoms_spec (ws := Cond.code yX3_copyRow cX3_copyRow 2 none :: zWS) B.pre
  have F : zF 0 2  0 0  p l s m _ c cX3_copyRow 2 RX3 (Cond.code yX3_copyRow cX3_copyRow 2 none) D Y S V G A := ⟨hx, hb, hml, hown, hts, hl9, hG, hK, hA⟩
  have hS : va_S A s.heap s.heap [] := va_S.rf
  have hl := lv_entry ([.ref (G k0 i0), .ref (G k1 i1)]) (n := 2) (Nat.le_of_ble_eq_true rfl)
  rw [lg_entry_eq]
  generalize (lg_sl ([.ref (G k0 i0), .ref (G k1 i1)]) ++ List.replicate (2 - (lg_sl ([.ref (G k0 i0), .ref (G k1 i1)])).length) Slot.unset).toArray = ls at hl ⊢
  have hl : lv_has ls 2 [(0, .ref (G k0 i0)), (1, .ref (G k1 i1))] := hl
  unfold f_X3_copyRow at hf
  refine lv_aload_n hx hb dX3_copyRow_0 rfl (lv_at hl 0 rfl) ?_
  refine lv_iconst (v := 0) hx hb dX3_copyRow_1 (by decide) ?_
  refine lv_aload_n hx hb dX3_copyRow_2 rfl (lv_at hl 1 rfl) ?_
  refine lv_iconst (v := 0) hx hb dX3_copyRow_3 (by decide) ?_
  refine lv_aload_n hx hb dX3_copyRow_4 rfl (lv_at hl 0 rfl) ?_
  refine z_alen (v := (nI (zlen 0 k0 i0))) hx hb hK hP hI0.V 0 (hI0.cell Y G _) rfl rfl dX3_copyRow_5 ?_
  refine lv_aload_n hx hb dX3_copyRow_6 rfl (lv_at hl 1 rfl) ?_
  refine z_alen (v := (nI (zlen 0 k1 i1))) hx hb hK hP hI1.V 0 (hI1.cell Y G _) rfl rfl dX3_copyRow_7 ?_
  refine z_mmin F m_443 m_408 m_40 m_409 hl.1 (Nat.le_of_ble_eq_true rfl) (Nat.le_of_ble_eq_true rfl) ⟨Nat.le_of_ble_eq_true rfl, Nat.le_of_ble_eq_true rfl⟩ dX3_copyRow_8 ?_
  obtain ⟨x1, ex1, hf⟩ := zl_i hf
  refine z_topi ex1 ?_
  obtain ⟨h2, hf⟩ := zif_c hf
  obtain ⟨T3, eT3, hf⟩ := zl_i hf
  refine z_acopy F m_444 m_446 m_445 m_41 hP hS hl.1 (Nat.le_of_ble_eq_true rfl) (Nat.le_of_ble_eq_true rfl) hI0 hI1 h2.1 h2.2.1 h2.2.2 dX3_copyRow_11 (fun H locs hP hS => ?_)
  rw [← eT3] at hP
  obtain ⟨q1, q2⟩ := zs_i hf
  subst q1; subst q2
  exact z_vret hx hb hr rfl hP hS hlocks (Nat.le_of_ble_eq_true rfl) (Nat.le_of_ble_eq_true rfl) dX3_copyRow_14

def f_X2_copyFrom (r : Nat) (q0 : Nat) (T : zT) : Option (Unit × zT) := zl (T.1 1 q0 0) fun x1 => zl (wI T 1 r 0 x1) fun T2 => zl (T2.1 1 q0 1) fun x3 => zl (wI T2 1 r 1 x3) fun T4 => zl (T4.1 1 q0 2) fun x5 => zl (wI T4 1 r 2 x5) fun T6 => zl (T6.1 1 q0 3) fun x7 => zl (wI T6 1 r 3 x7) fun T8 => zl (T8.1 1 q0 4) fun x9 => zl (wI T8 1 r 4 x9) fun T10 => zl (T10.1 1 q0 5) fun x11 => zl (wI T10 1 r 5 x11) fun T12 => zl (T12.1 1 q0 6) fun x13 => zl (wI T12 1 r 6 x13) fun T14 => zl (T14.1 1 q0 7) fun x15 => zl (wI T14 1 r 7 x15) fun T16 => zl (T16.1 1 q0 8) fun x17 => zl (wI T16 1 r 8 x17) fun T18 => zl (T18.1 1 q0 9) fun x19 => zl (wI T18 1 r 9 x19) fun T20 => zb (f_X3_copyRow 2 q0 2 r T20) fun _v22 T21 => zb (f_X3_copyRow 3 q0 3 r T21) fun _v25 T24 => zb (f_X3_copyRow 4 q0 4 r T24) fun _v28 T27 => zb (f_X3_copyRow 5 q0 5 r T27) fun _v31 T30 => zb (f_X3_copyRow 6 q0 6 r T30) fun _v34 T33 => zb (f_X3_copyRow 7 q0 7 r T33) fun _v37 T36 => zb (f_X3_copyRow 8 q0 8 r T36) fun _v40 T39 => zb (f_X3_copyRow 9 q0 9 r T39) fun _v43 T42 => zb (f_X3_copyRow 10 q0 10 r T42) fun _v46 T45 => zb (f_X3_copyRow 11 q0 11 r T45) fun _v49 T48 => some ((), T48)
set_option maxHeartbeats 4000000 in
set_option maxRecDepth 100000 in
theorem c_X2_copyFrom (r : Nat) (hr0 : r < 15) (q0 : Nat) (hq0 : q0 < 15) (T T' : zT) (v : Unit) (hf : f_X2_copyFrom r q0 T = some (v, T')) : zC 0 yX2_copyFrom cX2_copyFrom 2 none 3  0 0  (fun G _ => [.ref (G 1 r), .ref (G 1 q0)]) T (fun _ => .inl none) T' := by
  intro l D Y S V G A hl9 hG
  refine vx_ofW (cc := cX2_copyFrom) (maxL := 2) (ret := none) (by decide) rfl ?_
  intro p e s m args below meth c s₁ B hml hex hv
  obtain ⟨rfl, hK, hP, hA⟩ := hv
  have hx := B.exec
  have hb := B.bytes
  have hr := B.returns
  have hlocks := B.notSynchronized
  have hown : s.vm.findClass RX2 = some m.cls := findClass_of_methodNamed B.named
  have hts := atoms_spec (ws := Cond.code yX2_copyFrom cX2_copyFrom 2 none :: zWS) B.pre
  have F : zF 0 3  0 0  p l s m _ c cX2_copyFrom 2 RX2 (Cond.code yX2_copyFrom cX2_copyFrom 2 none) D Y S V G A := ⟨hx, hb, hml, hown, hts, hl9, hG, hK, hA⟩
  have hS : va_S A s.heap s.heap [] := va_S.rf
  have hl := lv_entry ([.ref (G 1 r), .ref (G 1 q0)]) (n := 2) (Nat.le_of_ble_eq_true rfl)
  rw [lg_entry_eq]
  generalize (lg_sl ([.ref (G 1 r), .ref (G 1 q0)]) ++ List.replicate (2 - (lg_sl ([.ref (G 1 r), .ref (G 1 q0)])).length) Slot.unset).toArray = ls at hl ⊢
  have hl : lv_has ls 2 [(0, .ref (G 1 r)), (1, .ref (G 1 q0))] := hl
  unfold f_X2_copyFrom at hf
  refine lv_aload_n hx hb dX2_copyFrom_0 rfl (lv_at hl 0 rfl) ?_
  refine lv_aload_n hx hb dX2_copyFrom_1 rfl (lv_at hl 1 rfl) ?_
  refine z_get hx hb hts (fun w h => List.mem_cons_of_mem _ (ziX2 w h)) hown hK hP (zV_r (by decide) (by decide) hq0) rfl rfl 0 (by decide) (List.mem_cons_of_mem _ m_67) rfl rfl dX2_copyFrom_2 ?_
  obtain ⟨x1, ex1, hf⟩ := zl_i hf
  refine z_topi ex1 ?_
  obtain ⟨T2, eT2, hf⟩ := zl_i hf
  refine z_put hx hb hts (fun w h => List.mem_cons_of_mem _ (ziX2 w h)) tyX2 tyX2_ok nmX2 hown hK hP hG hS (zV_r (by decide) (by decide) hr0) rfl rfl 0 (by decide) (List.mem_cons_of_mem _ m_67) rfl rfl (by decide +kernel) (Nat.le_of_ble_eq_true rfl) (znew2 (by decide)) dX2_copyFrom_5 (fun H locs hP hS => ?_)
  rw [← eT2] at hP
  refine lv_aload_n hx hb dX2_copyFrom_8 rfl (lv_at hl 0 rfl) ?_
  refine lv_aload_n hx hb dX2_copyFrom_9 rfl (lv_at hl 1 rfl) ?_
  refine z_get hx hb hts (fun w h => List.mem_cons_of_mem _ (ziX2 w h)) hown hK hP (zV_r (by decide) (by decide) hq0) rfl rfl 1 (by decide) (List.mem_cons_of_mem _ m_69) rfl rfl dX2_copyFrom_10 ?_
  obtain ⟨x3, ex3, hf⟩ := zl_i hf
  refine z_topi ex3 ?_
  obtain ⟨T4, eT4, hf⟩ := zl_i hf
  refine z_put hx hb hts (fun w h => List.mem_cons_of_mem _ (ziX2 w h)) tyX2 tyX2_ok nmX2 hown hK hP hG hS (zV_r (by decide) (by decide) hr0) rfl rfl 1 (by decide) (List.mem_cons_of_mem _ m_69) rfl rfl (by decide +kernel) (Nat.le_of_ble_eq_true rfl) (znew2 (by decide)) dX2_copyFrom_13 (fun H locs hP hS => ?_)
  rw [← eT4] at hP
  refine lv_aload_n hx hb dX2_copyFrom_16 rfl (lv_at hl 0 rfl) ?_
  refine lv_aload_n hx hb dX2_copyFrom_17 rfl (lv_at hl 1 rfl) ?_
  refine z_get hx hb hts (fun w h => List.mem_cons_of_mem _ (ziX2 w h)) hown hK hP (zV_r (by decide) (by decide) hq0) rfl rfl 2 (by decide) (List.mem_cons_of_mem _ m_71) rfl rfl dX2_copyFrom_18 ?_
  obtain ⟨x5, ex5, hf⟩ := zl_i hf
  refine z_topi ex5 ?_
  obtain ⟨T6, eT6, hf⟩ := zl_i hf
  refine z_put hx hb hts (fun w h => List.mem_cons_of_mem _ (ziX2 w h)) tyX2 tyX2_ok nmX2 hown hK hP hG hS (zV_r (by decide) (by decide) hr0) rfl rfl 2 (by decide) (List.mem_cons_of_mem _ m_71) rfl rfl (by decide +kernel) (Nat.le_of_ble_eq_true rfl) (znew2 (by decide)) dX2_copyFrom_21 (fun H locs hP hS => ?_)
  rw [← eT6] at hP
  refine lv_aload_n hx hb dX2_copyFrom_24 rfl (lv_at hl 0 rfl) ?_
  refine lv_aload_n hx hb dX2_copyFrom_25 rfl (lv_at hl 1 rfl) ?_
  refine z_get hx hb hts (fun w h => List.mem_cons_of_mem _ (ziX2 w h)) hown hK hP (zV_r (by decide) (by decide) hq0) rfl rfl 3 (by decide) (List.mem_cons_of_mem _ m_73) rfl rfl dX2_copyFrom_26 ?_
  obtain ⟨x7, ex7, hf⟩ := zl_i hf
  refine z_topi ex7 ?_
  obtain ⟨T8, eT8, hf⟩ := zl_i hf
  refine z_put hx hb hts (fun w h => List.mem_cons_of_mem _ (ziX2 w h)) tyX2 tyX2_ok nmX2 hown hK hP hG hS (zV_r (by decide) (by decide) hr0) rfl rfl 3 (by decide) (List.mem_cons_of_mem _ m_73) rfl rfl (by decide +kernel) (Nat.le_of_ble_eq_true rfl) (znew2 (by decide)) dX2_copyFrom_29 (fun H locs hP hS => ?_)
  rw [← eT8] at hP
  refine lv_aload_n hx hb dX2_copyFrom_32 rfl (lv_at hl 0 rfl) ?_
  refine lv_aload_n hx hb dX2_copyFrom_33 rfl (lv_at hl 1 rfl) ?_
  refine z_get hx hb hts (fun w h => List.mem_cons_of_mem _ (ziX2 w h)) hown hK hP (zV_r (by decide) (by decide) hq0) rfl rfl 4 (by decide) (List.mem_cons_of_mem _ m_75) rfl rfl dX2_copyFrom_34 ?_
  obtain ⟨x9, ex9, hf⟩ := zl_i hf
  refine z_topi ex9 ?_
  obtain ⟨T10, eT10, hf⟩ := zl_i hf
  refine z_put hx hb hts (fun w h => List.mem_cons_of_mem _ (ziX2 w h)) tyX2 tyX2_ok nmX2 hown hK hP hG hS (zV_r (by decide) (by decide) hr0) rfl rfl 4 (by decide) (List.mem_cons_of_mem _ m_75) rfl rfl (by decide +kernel) (Nat.le_of_ble_eq_true rfl) (znew2 (by decide)) dX2_copyFrom_37 (fun H locs hP hS => ?_)
  rw [← eT10] at hP
  refine lv_aload_n hx hb dX2_copyFrom_40 rfl (lv_at hl 0 rfl) ?_
  refine lv_aload_n hx hb dX2_copyFrom_41 rfl (lv_at hl 1 rfl) ?_
  refine z_get hx hb hts (fun w h => List.mem_cons_of_mem _ (ziX2 w h)) hown hK hP (zV_r (by decide) (by decide) hq0) rfl rfl 5 (by decide) (List.mem_cons_of_mem _ m_77) rfl rfl dX2_copyFrom_42 ?_
  obtain ⟨x11, ex11, hf⟩ := zl_i hf
  refine z_topi ex11 ?_
  obtain ⟨T12, eT12, hf⟩ := zl_i hf
  refine z_put hx hb hts (fun w h => List.mem_cons_of_mem _ (ziX2 w h)) tyX2 tyX2_ok nmX2 hown hK hP hG hS (zV_r (by decide) (by decide) hr0) rfl rfl 5 (by decide) (List.mem_cons_of_mem _ m_77) rfl rfl (by decide +kernel) (Nat.le_of_ble_eq_true rfl) (znew2 (by decide)) dX2_copyFrom_45 (fun H locs hP hS => ?_)
  rw [← eT12] at hP
  refine lv_aload_n hx hb dX2_copyFrom_48 rfl (lv_at hl 0 rfl) ?_
  refine lv_aload_n hx hb dX2_copyFrom_49 rfl (lv_at hl 1 rfl) ?_
  refine z_get hx hb hts (fun w h => List.mem_cons_of_mem _ (ziX2 w h)) hown hK hP (zV_r (by decide) (by decide) hq0) rfl rfl 6 (by decide) (List.mem_cons_of_mem _ m_79) rfl rfl dX2_copyFrom_50 ?_
  obtain ⟨x13, ex13, hf⟩ := zl_i hf
  refine z_topi ex13 ?_
  obtain ⟨T14, eT14, hf⟩ := zl_i hf
  refine z_put hx hb hts (fun w h => List.mem_cons_of_mem _ (ziX2 w h)) tyX2 tyX2_ok nmX2 hown hK hP hG hS (zV_r (by decide) (by decide) hr0) rfl rfl 6 (by decide) (List.mem_cons_of_mem _ m_79) rfl rfl (by decide +kernel) (Nat.le_of_ble_eq_true rfl) (znew2 (by decide)) dX2_copyFrom_53 (fun H locs hP hS => ?_)
  rw [← eT14] at hP
  refine lv_aload_n hx hb dX2_copyFrom_56 rfl (lv_at hl 0 rfl) ?_
  refine lv_aload_n hx hb dX2_copyFrom_57 rfl (lv_at hl 1 rfl) ?_
  refine z_get hx hb hts (fun w h => List.mem_cons_of_mem _ (ziX2 w h)) hown hK hP (zV_r (by decide) (by decide) hq0) rfl rfl 7 (by decide) (List.mem_cons_of_mem _ m_81) rfl rfl dX2_copyFrom_58 ?_
  obtain ⟨x15, ex15, hf⟩ := zl_i hf
  refine z_topi ex15 ?_
  obtain ⟨T16, eT16, hf⟩ := zl_i hf
  refine z_put hx hb hts (fun w h => List.mem_cons_of_mem _ (ziX2 w h)) tyX2 tyX2_ok nmX2 hown hK hP hG hS (zV_r (by decide) (by decide) hr0) rfl rfl 7 (by decide) (List.mem_cons_of_mem _ m_81) rfl rfl (by decide +kernel) (Nat.le_of_ble_eq_true rfl) (znew2 (by decide)) dX2_copyFrom_61 (fun H locs hP hS => ?_)
  rw [← eT16] at hP
  refine lv_aload_n hx hb dX2_copyFrom_64 rfl (lv_at hl 0 rfl) ?_
  refine lv_aload_n hx hb dX2_copyFrom_65 rfl (lv_at hl 1 rfl) ?_
  refine z_get hx hb hts (fun w h => List.mem_cons_of_mem _ (ziX2 w h)) hown hK hP (zV_r (by decide) (by decide) hq0) rfl rfl 8 (by decide) (List.mem_cons_of_mem _ m_83) rfl rfl dX2_copyFrom_66 ?_
  obtain ⟨x17, ex17, hf⟩ := zl_i hf
  refine z_topi ex17 ?_
  obtain ⟨T18, eT18, hf⟩ := zl_i hf
  refine z_put hx hb hts (fun w h => List.mem_cons_of_mem _ (ziX2 w h)) tyX2 tyX2_ok nmX2 hown hK hP hG hS (zV_r (by decide) (by decide) hr0) rfl rfl 8 (by decide) (List.mem_cons_of_mem _ m_83) rfl rfl (by decide +kernel) (Nat.le_of_ble_eq_true rfl) (znew2 (by decide)) dX2_copyFrom_69 (fun H locs hP hS => ?_)
  rw [← eT18] at hP
  refine lv_aload_n hx hb dX2_copyFrom_72 rfl (lv_at hl 0 rfl) ?_
  refine lv_aload_n hx hb dX2_copyFrom_73 rfl (lv_at hl 1 rfl) ?_
  refine z_get hx hb hts (fun w h => List.mem_cons_of_mem _ (ziX2 w h)) hown hK hP (zV_r (by decide) (by decide) hq0) rfl rfl 9 (by decide) (List.mem_cons_of_mem _ m_86) rfl rfl dX2_copyFrom_74 ?_
  obtain ⟨x19, ex19, hf⟩ := zl_i hf
  refine z_topi ex19 ?_
  obtain ⟨T20, eT20, hf⟩ := zl_i hf
  refine z_put hx hb hts (fun w h => List.mem_cons_of_mem _ (ziX2 w h)) tyX2 tyX2_ok nmX2 hown hK hP hG hS (zV_r (by decide) (by decide) hr0) rfl rfl 9 (by decide) (List.mem_cons_of_mem _ m_86) rfl rfl (by decide +kernel) (Nat.le_of_ble_eq_true rfl) (znew2 (by decide)) dX2_copyFrom_77 (fun H locs hP hS => ?_)
  rw [← eT20] at hP
  refine lv_aload_n hx hb dX2_copyFrom_80 rfl (lv_at hl 1 rfl) ?_
  refine z_get hx hb hts (fun w h => List.mem_cons_of_mem _ (ziX2 w h)) hown hK hP (zV_r (by decide) (by decide) hq0) rfl rfl 10 (by decide) (List.mem_cons_of_mem _ m_89) rfl rfl dX2_copyFrom_81 ?_
  refine lv_aload_n hx hb dX2_copyFrom_84 rfl (lv_at hl 0 rfl) ?_
  refine z_get hx hb hts (fun w h => List.mem_cons_of_mem _ (ziX2 w h)) hown hK hP (zV_r (by decide) (by decide) hr0) rfl rfl 10 (by decide) (List.mem_cons_of_mem _ m_89) rfl rfl dX2_copyFrom_85 ?_
  obtain ⟨v22, T21, h23, hf⟩ := zb_i hf
  refine z_ok (z_runSN (As := [.ref (G 2 q0), .ref (G 2 r)]) (rest := []) F k_X3_copyRow (by decide +kernel) (c_X3_copyRow 2 q0 (zIA_r (by decide) (by decide) hq0) 2 r (zIA_r (by decide) (by decide) hr0) T20 T21 _ h23) hP hS rfl rfl hl.1 (Nat.le_of_ble_eq_true rfl) dX2_copyFrom_88 (Nat.le_of_ble_eq_true rfl) ⟨Nat.le_of_ble_eq_true rfl, Nat.le_of_ble_eq_true rfl⟩ rfl) hS (fun H locs hP hS => ?_)
  refine lv_aload_n hx hb dX2_copyFrom_91 rfl (lv_at hl 1 rfl) ?_
  refine z_get hx hb hts (fun w h => List.mem_cons_of_mem _ (ziX2 w h)) hown hK hP (zV_r (by decide) (by decide) hq0) rfl rfl 11 (by decide) (List.mem_cons_of_mem _ m_92) rfl rfl dX2_copyFrom_92 ?_
  refine lv_aload_n hx hb dX2_copyFrom_95 rfl (lv_at hl 0 rfl) ?_
  refine z_get hx hb hts (fun w h => List.mem_cons_of_mem _ (ziX2 w h)) hown hK hP (zV_r (by decide) (by decide) hr0) rfl rfl 11 (by decide) (List.mem_cons_of_mem _ m_92) rfl rfl dX2_copyFrom_96 ?_
  obtain ⟨v25, T24, h26, hf⟩ := zb_i hf
  refine z_ok (z_runSN (As := [.ref (G 3 q0), .ref (G 3 r)]) (rest := []) F k_X3_copyRow (by decide +kernel) (c_X3_copyRow 3 q0 (zIA_r (by decide) (by decide) hq0) 3 r (zIA_r (by decide) (by decide) hr0) T21 T24 _ h26) hP hS rfl rfl hl.1 (Nat.le_of_ble_eq_true rfl) dX2_copyFrom_99 (Nat.le_of_ble_eq_true rfl) ⟨Nat.le_of_ble_eq_true rfl, Nat.le_of_ble_eq_true rfl⟩ rfl) hS (fun H locs hP hS => ?_)
  refine lv_aload_n hx hb dX2_copyFrom_102 rfl (lv_at hl 1 rfl) ?_
  refine z_get hx hb hts (fun w h => List.mem_cons_of_mem _ (ziX2 w h)) hown hK hP (zV_r (by decide) (by decide) hq0) rfl rfl 12 (by decide) (List.mem_cons_of_mem _ m_94) rfl rfl dX2_copyFrom_103 ?_
  refine lv_aload_n hx hb dX2_copyFrom_106 rfl (lv_at hl 0 rfl) ?_
  refine z_get hx hb hts (fun w h => List.mem_cons_of_mem _ (ziX2 w h)) hown hK hP (zV_r (by decide) (by decide) hr0) rfl rfl 12 (by decide) (List.mem_cons_of_mem _ m_94) rfl rfl dX2_copyFrom_107 ?_
  obtain ⟨v28, T27, h29, hf⟩ := zb_i hf
  refine z_ok (z_runSN (As := [.ref (G 4 q0), .ref (G 4 r)]) (rest := []) F k_X3_copyRow (by decide +kernel) (c_X3_copyRow 4 q0 (zIA_r (by decide) (by decide) hq0) 4 r (zIA_r (by decide) (by decide) hr0) T24 T27 _ h29) hP hS rfl rfl hl.1 (Nat.le_of_ble_eq_true rfl) dX2_copyFrom_110 (Nat.le_of_ble_eq_true rfl) ⟨Nat.le_of_ble_eq_true rfl, Nat.le_of_ble_eq_true rfl⟩ rfl) hS (fun H locs hP hS => ?_)
  refine lv_aload_n hx hb dX2_copyFrom_113 rfl (lv_at hl 1 rfl) ?_
  refine z_get hx hb hts (fun w h => List.mem_cons_of_mem _ (ziX2 w h)) hown hK hP (zV_r (by decide) (by decide) hq0) rfl rfl 13 (by decide) (List.mem_cons_of_mem _ m_95) rfl rfl dX2_copyFrom_114 ?_
  refine lv_aload_n hx hb dX2_copyFrom_117 rfl (lv_at hl 0 rfl) ?_
  refine z_get hx hb hts (fun w h => List.mem_cons_of_mem _ (ziX2 w h)) hown hK hP (zV_r (by decide) (by decide) hr0) rfl rfl 13 (by decide) (List.mem_cons_of_mem _ m_95) rfl rfl dX2_copyFrom_118 ?_
  obtain ⟨v31, T30, h32, hf⟩ := zb_i hf
  refine z_ok (z_runSN (As := [.ref (G 5 q0), .ref (G 5 r)]) (rest := []) F k_X3_copyRow (by decide +kernel) (c_X3_copyRow 5 q0 (zIA_r (by decide) (by decide) hq0) 5 r (zIA_r (by decide) (by decide) hr0) T27 T30 _ h32) hP hS rfl rfl hl.1 (Nat.le_of_ble_eq_true rfl) dX2_copyFrom_121 (Nat.le_of_ble_eq_true rfl) ⟨Nat.le_of_ble_eq_true rfl, Nat.le_of_ble_eq_true rfl⟩ rfl) hS (fun H locs hP hS => ?_)
  refine lv_aload_n hx hb dX2_copyFrom_124 rfl (lv_at hl 1 rfl) ?_
  refine z_get hx hb hts (fun w h => List.mem_cons_of_mem _ (ziX2 w h)) hown hK hP (zV_r (by decide) (by decide) hq0) rfl rfl 14 (by decide) (List.mem_cons_of_mem _ m_97) rfl rfl dX2_copyFrom_125 ?_
  refine lv_aload_n hx hb dX2_copyFrom_128 rfl (lv_at hl 0 rfl) ?_
  refine z_get hx hb hts (fun w h => List.mem_cons_of_mem _ (ziX2 w h)) hown hK hP (zV_r (by decide) (by decide) hr0) rfl rfl 14 (by decide) (List.mem_cons_of_mem _ m_97) rfl rfl dX2_copyFrom_129 ?_
  obtain ⟨v34, T33, h35, hf⟩ := zb_i hf
  refine z_ok (z_runSN (As := [.ref (G 6 q0), .ref (G 6 r)]) (rest := []) F k_X3_copyRow (by decide +kernel) (c_X3_copyRow 6 q0 (zIA_r (by decide) (by decide) hq0) 6 r (zIA_r (by decide) (by decide) hr0) T30 T33 _ h35) hP hS rfl rfl hl.1 (Nat.le_of_ble_eq_true rfl) dX2_copyFrom_132 (Nat.le_of_ble_eq_true rfl) ⟨Nat.le_of_ble_eq_true rfl, Nat.le_of_ble_eq_true rfl⟩ rfl) hS (fun H locs hP hS => ?_)
  refine lv_aload_n hx hb dX2_copyFrom_135 rfl (lv_at hl 1 rfl) ?_
  refine z_get hx hb hts (fun w h => List.mem_cons_of_mem _ (ziX2 w h)) hown hK hP (zV_r (by decide) (by decide) hq0) rfl rfl 15 (by decide) (List.mem_cons_of_mem _ m_99) rfl rfl dX2_copyFrom_136 ?_
  refine lv_aload_n hx hb dX2_copyFrom_139 rfl (lv_at hl 0 rfl) ?_
  refine z_get hx hb hts (fun w h => List.mem_cons_of_mem _ (ziX2 w h)) hown hK hP (zV_r (by decide) (by decide) hr0) rfl rfl 15 (by decide) (List.mem_cons_of_mem _ m_99) rfl rfl dX2_copyFrom_140 ?_
  obtain ⟨v37, T36, h38, hf⟩ := zb_i hf
  refine z_ok (z_runSN (As := [.ref (G 7 q0), .ref (G 7 r)]) (rest := []) F k_X3_copyRow (by decide +kernel) (c_X3_copyRow 7 q0 (zIA_r (by decide) (by decide) hq0) 7 r (zIA_r (by decide) (by decide) hr0) T33 T36 _ h38) hP hS rfl rfl hl.1 (Nat.le_of_ble_eq_true rfl) dX2_copyFrom_143 (Nat.le_of_ble_eq_true rfl) ⟨Nat.le_of_ble_eq_true rfl, Nat.le_of_ble_eq_true rfl⟩ rfl) hS (fun H locs hP hS => ?_)
  refine lv_aload_n hx hb dX2_copyFrom_146 rfl (lv_at hl 1 rfl) ?_
  refine z_get hx hb hts (fun w h => List.mem_cons_of_mem _ (ziX2 w h)) hown hK hP (zV_r (by decide) (by decide) hq0) rfl rfl 16 (by decide) (List.mem_cons_of_mem _ m_101) rfl rfl dX2_copyFrom_147 ?_
  refine lv_aload_n hx hb dX2_copyFrom_150 rfl (lv_at hl 0 rfl) ?_
  refine z_get hx hb hts (fun w h => List.mem_cons_of_mem _ (ziX2 w h)) hown hK hP (zV_r (by decide) (by decide) hr0) rfl rfl 16 (by decide) (List.mem_cons_of_mem _ m_101) rfl rfl dX2_copyFrom_151 ?_
  obtain ⟨v40, T39, h41, hf⟩ := zb_i hf
  refine z_ok (z_runSN (As := [.ref (G 8 q0), .ref (G 8 r)]) (rest := []) F k_X3_copyRow (by decide +kernel) (c_X3_copyRow 8 q0 (zIA_r (by decide) (by decide) hq0) 8 r (zIA_r (by decide) (by decide) hr0) T36 T39 _ h41) hP hS rfl rfl hl.1 (Nat.le_of_ble_eq_true rfl) dX2_copyFrom_154 (Nat.le_of_ble_eq_true rfl) ⟨Nat.le_of_ble_eq_true rfl, Nat.le_of_ble_eq_true rfl⟩ rfl) hS (fun H locs hP hS => ?_)
  refine lv_aload_n hx hb dX2_copyFrom_157 rfl (lv_at hl 1 rfl) ?_
  refine z_get hx hb hts (fun w h => List.mem_cons_of_mem _ (ziX2 w h)) hown hK hP (zV_r (by decide) (by decide) hq0) rfl rfl 17 (by decide) (List.mem_cons_of_mem _ m_104) rfl rfl dX2_copyFrom_158 ?_
  refine lv_aload_n hx hb dX2_copyFrom_161 rfl (lv_at hl 0 rfl) ?_
  refine z_get hx hb hts (fun w h => List.mem_cons_of_mem _ (ziX2 w h)) hown hK hP (zV_r (by decide) (by decide) hr0) rfl rfl 17 (by decide) (List.mem_cons_of_mem _ m_104) rfl rfl dX2_copyFrom_162 ?_
  obtain ⟨v43, T42, h44, hf⟩ := zb_i hf
  refine z_ok (z_runSN (As := [.ref (G 9 q0), .ref (G 9 r)]) (rest := []) F k_X3_copyRow (by decide +kernel) (c_X3_copyRow 9 q0 (zIA_r (by decide) (by decide) hq0) 9 r (zIA_r (by decide) (by decide) hr0) T39 T42 _ h44) hP hS rfl rfl hl.1 (Nat.le_of_ble_eq_true rfl) dX2_copyFrom_165 (Nat.le_of_ble_eq_true rfl) ⟨Nat.le_of_ble_eq_true rfl, Nat.le_of_ble_eq_true rfl⟩ rfl) hS (fun H locs hP hS => ?_)
  refine lv_aload_n hx hb dX2_copyFrom_168 rfl (lv_at hl 1 rfl) ?_
  refine z_get hx hb hts (fun w h => List.mem_cons_of_mem _ (ziX2 w h)) hown hK hP (zV_r (by decide) (by decide) hq0) rfl rfl 18 (by decide) (List.mem_cons_of_mem _ m_107) rfl rfl dX2_copyFrom_169 ?_
  refine lv_aload_n hx hb dX2_copyFrom_172 rfl (lv_at hl 0 rfl) ?_
  refine z_get hx hb hts (fun w h => List.mem_cons_of_mem _ (ziX2 w h)) hown hK hP (zV_r (by decide) (by decide) hr0) rfl rfl 18 (by decide) (List.mem_cons_of_mem _ m_107) rfl rfl dX2_copyFrom_173 ?_
  obtain ⟨v46, T45, h47, hf⟩ := zb_i hf
  refine z_ok (z_runSN (As := [.ref (G 10 q0), .ref (G 10 r)]) (rest := []) F k_X3_copyRow (by decide +kernel) (c_X3_copyRow 10 q0 (zIA_r (by decide) (by decide) hq0) 10 r (zIA_r (by decide) (by decide) hr0) T42 T45 _ h47) hP hS rfl rfl hl.1 (Nat.le_of_ble_eq_true rfl) dX2_copyFrom_176 (Nat.le_of_ble_eq_true rfl) ⟨Nat.le_of_ble_eq_true rfl, Nat.le_of_ble_eq_true rfl⟩ rfl) hS (fun H locs hP hS => ?_)
  refine lv_aload_n hx hb dX2_copyFrom_179 rfl (lv_at hl 1 rfl) ?_
  refine z_get hx hb hts (fun w h => List.mem_cons_of_mem _ (ziX2 w h)) hown hK hP (zV_r (by decide) (by decide) hq0) rfl rfl 19 (by decide) (List.mem_cons_of_mem _ m_109) rfl rfl dX2_copyFrom_180 ?_
  refine lv_aload_n hx hb dX2_copyFrom_183 rfl (lv_at hl 0 rfl) ?_
  refine z_get hx hb hts (fun w h => List.mem_cons_of_mem _ (ziX2 w h)) hown hK hP (zV_r (by decide) (by decide) hr0) rfl rfl 19 (by decide) (List.mem_cons_of_mem _ m_109) rfl rfl dX2_copyFrom_184 ?_
  obtain ⟨v49, T48, h50, hf⟩ := zb_i hf
  refine z_ok (z_runSN (As := [.ref (G 11 q0), .ref (G 11 r)]) (rest := []) F k_X3_copyRow (by decide +kernel) (c_X3_copyRow 11 q0 (zIA_r (by decide) (by decide) hq0) 11 r (zIA_r (by decide) (by decide) hr0) T45 T48 _ h50) hP hS rfl rfl hl.1 (Nat.le_of_ble_eq_true rfl) dX2_copyFrom_187 (Nat.le_of_ble_eq_true rfl) ⟨Nat.le_of_ble_eq_true rfl, Nat.le_of_ble_eq_true rfl⟩ rfl) hS (fun H locs hP hS => ?_)
  obtain ⟨q1, q2⟩ := zs_i hf
  subst q1; subst q2
  exact z_vret hx hb hr rfl hP hS hlocks (Nat.le_of_ble_eq_true rfl) (Nat.le_of_ble_eq_true rfl) dX2_copyFrom_190

def jn_X0_record_18 (q0 : Nat) (T : zT) : Option (Unit × zT) := zl ((T.1 0 2 1) + 1) fun x6 => zl (x6 - x6 / 10 * 10) fun x7 => zl (wI T 0 2 1 x7) fun T8 => zl (if 10 < ((T8.1 0 2 2) + 1) then 10 else ((T8.1 0 2 2) + 1)) fun x9 => zl (wI T8 0 2 2 x9) fun T10 => some ((), T10)
def f_X0_record (q0 : Nat) (T : zT) : Option (Unit × zT) := zb (f_X0_stateAt (T.1 0 2 1) T) fun v2 T1 => (match v2 with | none => jn_X0_record_18 q0 T1 | some q4 => if q4 < 15 then zb (f_X2_copyFrom q4 q0 T1) fun _v12 T11 => jn_X0_record_18 q0 T11 else none)
set_option maxHeartbeats 4000000 in
set_option maxRecDepth 100000 in
theorem j_X0_record_18 {p : Program} {l : Launch} {e : Env} {s : State} {m : MethodId} {args : Array Value} {below : List Frame} {meth : Method} {c : Code} {D : va_G} {Y : Nat → ClassId} {S V : Nat → Nat} {G : Nat → Nat → Nat} {A : Nat → Prop} {c0 : Cond} {q0 : Nat} (F : zF 0 4  0 0  p l s m args c cX0_record 3 RX0 c0 D Y S V G A) (hr : meth.sig.returnType = none) (hlocks : meth.locks = false) (hex : ∀ x ∈ c.exceptionTable.toList, False) (hq0 : q0 < 15) (T : zT) {T' : zT} {v : Unit} {H : Heap} {locs : List Loc} {ls : Array Slot} (hf : jn_X0_record_18 q0 T = some (v, T')) (hP : zP 0 D Y G T H) (hS : va_S A s.heap H locs) (hl : lv_has ls 3 [(0, .ref (G 0 2))]) :
    W p l e (zR 4  0 0 ) s m args below meth c H locs 0 0 (vx_MQ below (zQ 0 D Y G A (.inl none) T') (zX 0 D Y G A (.inl none) T') args s  0 0  A) (F0 m 18 ls []) := by
  obtain ⟨hx, hb, hml, hown, hts, hl9, hG, hK, hA⟩ := id F
  unfold jn_X0_record_18 at hf
  refine lv_aload_n hx hb dX0_record_18 rfl (lv_at hl 0 rfl) ?_
  refine lv_aload_n hx hb dX0_record_19 rfl (lv_at hl 0 rfl) ?_
  refine z_get hx hb hts (fun w h => List.mem_cons_of_mem _ (ziX0 w h)) hown hK hP (zV_0 (by decide)) rfl rfl 1 (by decide) (List.mem_cons_of_mem _ m_204) rfl rfl dX0_record_20 ?_
  refine lv_iconst (v := 1) hx hb dX0_record_23 (by decide) ?_
  refine lv_iadd hx hb dX0_record_24 ?_
  refine lv_bipush (v := 10) hx hb dX0_record_25 (by decide) ?_
  obtain ⟨x6, ex6, hf⟩ := zl_i hf
  rw [← ex6]
  refine lv_irem hx hb dX0_record_27 (by decide) ?_
  obtain ⟨x7, ex7, hf⟩ := zl_i hf
  refine z_topi ex7 ?_
  obtain ⟨T8, eT8, hf⟩ := zl_i hf
  refine z_put hx hb hts (fun w h => List.mem_cons_of_mem _ (ziX0 w h)) tyX0 tyX0_ok nmX0 hown hK hP hG hS (zV_0 (by decide)) rfl rfl 1 (by decide) (List.mem_cons_of_mem _ m_204) rfl rfl (by decide +kernel) (Nat.le_of_ble_eq_true rfl) rfl dX0_record_28 (fun H locs hP hS => ?_)
  rw [← eT8] at hP
  refine lv_aload_n hx hb dX0_record_31 rfl (lv_at hl 0 rfl) ?_
  refine lv_aload_n hx hb dX0_record_32 rfl (lv_at hl 0 rfl) ?_
  refine z_get hx hb hts (fun w h => List.mem_cons_of_mem _ (ziX0 w h)) hown hK hP (zV_0 (by decide)) rfl rfl 2 (by decide) (List.mem_cons_of_mem _ m_205) rfl rfl dX0_record_33 ?_
  refine lv_iconst (v := 1) hx hb dX0_record_36 (by decide) ?_
  refine lv_iadd hx hb dX0_record_37 ?_
  refine lv_bipush (v := 10) hx hb dX0_record_38 (by decide) ?_
  refine z_mmin F m_585 m_408 m_40 m_409 hl.1 (Nat.le_of_ble_eq_true rfl) (Nat.le_of_ble_eq_true rfl) ⟨Nat.le_of_ble_eq_true rfl, Nat.le_of_ble_eq_true rfl⟩ dX0_record_40 ?_
  obtain ⟨x9, ex9, hf⟩ := zl_i hf
  refine z_topi ex9 ?_
  obtain ⟨T10, eT10, hf⟩ := zl_i hf
  refine z_put hx hb hts (fun w h => List.mem_cons_of_mem _ (ziX0 w h)) tyX0 tyX0_ok nmX0 hown hK hP hG hS (zV_0 (by decide)) rfl rfl 2 (by decide) (List.mem_cons_of_mem _ m_205) rfl rfl (by decide +kernel) (Nat.le_of_ble_eq_true rfl) rfl dX0_record_43 (fun H locs hP hS => ?_)
  rw [← eT10] at hP
  obtain ⟨q1, q2⟩ := zs_i hf
  subst q1; subst q2
  exact z_vret hx hb hr rfl hP hS hlocks (Nat.le_of_ble_eq_true rfl) (Nat.le_of_ble_eq_true rfl) dX0_record_46
set_option maxHeartbeats 4000000 in
set_option maxRecDepth 100000 in
theorem c_X0_record (q0 : Nat) (hq0 : q0 < 15) (T T' : zT) (v : Unit) (hf : f_X0_record q0 T = some (v, T')) : zC 0 yX0_record cX0_record 3 none 4  0 0  (fun G _ => [.ref (G 0 2), .ref (G 1 q0)]) T (fun _ => .inl none) T' := by
  intro l D Y S V G A hl9 hG
  refine vx_ofW (cc := cX0_record) (maxL := 3) (ret := none) (by decide) rfl ?_
  intro p e s m args below meth c s₁ B hml hex hv
  obtain ⟨rfl, hK, hP, hA⟩ := hv
  have hx := B.exec
  have hb := B.bytes
  have hr := B.returns
  have hlocks := B.notSynchronized
  have hown : s.vm.findClass RX0 = some m.cls := findClass_of_methodNamed B.named
  have hts := atoms_spec (ws := Cond.code yX0_record cX0_record 3 none :: zWS) B.pre
  have F : zF 0 4  0 0  p l s m _ c cX0_record 3 RX0 (Cond.code yX0_record cX0_record 3 none) D Y S V G A := ⟨hx, hb, hml, hown, hts, hl9, hG, hK, hA⟩
  have hS : va_S A s.heap s.heap [] := va_S.rf
  have hl := lv_entry ([.ref (G 0 2), .ref (G 1 q0)]) (n := 3) (Nat.le_of_ble_eq_true rfl)
  rw [lg_entry_eq]
  generalize (lg_sl ([.ref (G 0 2), .ref (G 1 q0)]) ++ List.replicate (3 - (lg_sl ([.ref (G 0 2), .ref (G 1 q0)])).length) Slot.unset).toArray = ls at hl ⊢
  have hl : lv_has ls 3 [(0, .ref (G 0 2)), (1, .ref (G 1 q0))] := hl
  unfold f_X0_record at hf
  refine lv_aload_n hx hb dX0_record_0 rfl (lv_at hl 0 rfl) ?_
  refine lv_aload_n hx hb dX0_record_1 rfl (lv_at hl 0 rfl) ?_
  refine z_get hx hb hts (fun w h => List.mem_cons_of_mem _ (ziX0 w h)) hown hK hP (zV_0 (by decide)) rfl rfl 1 (by decide) (List.mem_cons_of_mem _ m_204) rfl rfl dX0_record_2 ?_
  obtain ⟨v2, T1, h3, hf⟩ := zb_i hf
  rcases v2 with _ | q4
  · dsimp only at hf
    refine z_ok (z_runV (As := [.int (T.1 0 2 1)]) (rest := []) F k_X0_stateAt m_580 (c_X0_stateAt (T.1 0 2 1) T T1 _ h3) hP hS (zV_0 (by decide)) rfl rfl rfl rfl hl.1 (Nat.le_of_ble_eq_true rfl) dX0_record_5 (Nat.le_of_ble_eq_true rfl) ⟨Nat.le_of_ble_eq_true rfl, Nat.le_of_ble_eq_true rfl⟩ rfl) hS (fun H locs hP hS => ?_)
    refine lv_astore_nN (lv' := [(2, .null), (0, .ref (G 0 2)), (1, .ref (G 1 q0))]) hx hb dX0_record_8 rfl hl (by decide) rfl (fun ls hl => ?_)
    refine lv_aload_nN hx hb dX0_record_9 rfl (lv_at hl 0 rfl) ?_
    refine lv_ifnullN hx hb (tgt := 18) dX0_record_10 (by decide) ?_
    exact j_X0_record_18 F hr hlocks hex hq0 T1 hf hP hS (lv_sub hl [1] rfl)
  · dsimp only at hf
    obtain ⟨h5, hf⟩ := zif_c hf
    refine z_ok (z_runV (As := [.int (T.1 0 2 1)]) (rest := []) F k_X0_stateAt m_580 (c_X0_stateAt (T.1 0 2 1) T T1 _ h3) hP hS (zV_0 (by decide)) rfl rfl rfl rfl hl.1 (Nat.le_of_ble_eq_true rfl) dX0_record_5 (Nat.le_of_ble_eq_true rfl) ⟨Nat.le_of_ble_eq_true rfl, Nat.le_of_ble_eq_true rfl⟩ rfl) hS (fun H locs hP hS => ?_)
    refine lv_astore_n (lv' := [(2, .ref (G 1 q4)), (0, .ref (G 0 2)), (1, .ref (G 1 q0))]) hx hb dX0_record_8 rfl hl (by decide) rfl (fun ls hl => ?_)
    refine lv_aload_n hx hb dX0_record_9 rfl (lv_at hl 0 rfl) ?_
    refine lv_ifnull hx hb dX0_record_10 ?_
    refine lv_aload_n hx hb dX0_record_13 rfl (lv_at hl 0 rfl) ?_
    refine lv_aload_n hx hb dX0_record_14 rfl (lv_at hl 2 rfl) ?_
    obtain ⟨v12, T11, h13, hf⟩ := zb_i hf
    refine z_ok (z_runV (As := [.ref (G 1 q0)]) (rest := []) F k_X2_copyFrom m_584 (c_X2_copyFrom q4 h5 q0 hq0 T1 T11 _ h13) hP hS (zV_r (by decide) (by decide) h5) rfl rfl rfl rfl hl.1 (Nat.le_of_ble_eq_true rfl) dX0_record_15 (Nat.le_of_ble_eq_true rfl) ⟨Nat.le_of_ble_eq_true rfl, Nat.le_of_ble_eq_true rfl⟩ rfl) hS (fun H locs hP hS => ?_)
    exact j_X0_record_18 F hr hlocks hex hq0 T11 hf hP hS (lv_sub hl [1] rfl)

def f_X0_takeBack (q0 : Nat) (T : zT) : Option (Unit × zT) := zl (((T.1 0 2 1) + 10) - 1) fun x1 => zl (x1 - x1 / 10 * 10) fun x2 => zl (wI T 0 2 1 x2) fun T3 => zl (if ((T3.1 0 2 2) - 1) < 0 then 0 else ((T3.1 0 2 2) - 1)) fun x4 => zl (wI T3 0 2 2 x4) fun T5 => zb (f_X0_stateAt (T5.1 0 2 1) T5) fun v7 T6 => (match v7 with | none => some ((), T6) | some q9 => if q9 < 15 then zb (f_X2_copyFrom q0 q9 T6) fun _v12 T11 => some ((), T11) else none)
set_option maxHeartbeats 4000000 in
set_option maxRecDepth 100000 in
theorem c_X0_takeBack (q0 : Nat) (hq0 : q0 < 15) (T T' : zT) (v : Unit) (hf : f_X0_takeBack q0 T = some (v, T')) : zC 0 yX0_takeBack cX0_takeBack 3 none 4  0 0  (fun G _ => [.ref (G 0 2), .ref (G 1 q0)]) T (fun _ => .inl none) T' := by
  intro l D Y S V G A hl9 hG
  refine vx_ofW (cc := cX0_takeBack) (maxL := 3) (ret := none) (by decide) rfl ?_
  intro p e s m args below meth c s₁ B hml hex hv
  obtain ⟨rfl, hK, hP, hA⟩ := hv
  have hx := B.exec
  have hb := B.bytes
  have hr := B.returns
  have hlocks := B.notSynchronized
  have hown : s.vm.findClass RX0 = some m.cls := findClass_of_methodNamed B.named
  have hts := atoms_spec (ws := Cond.code yX0_takeBack cX0_takeBack 3 none :: zWS) B.pre
  have F : zF 0 4  0 0  p l s m _ c cX0_takeBack 3 RX0 (Cond.code yX0_takeBack cX0_takeBack 3 none) D Y S V G A := ⟨hx, hb, hml, hown, hts, hl9, hG, hK, hA⟩
  have hS : va_S A s.heap s.heap [] := va_S.rf
  have hl := lv_entry ([.ref (G 0 2), .ref (G 1 q0)]) (n := 3) (Nat.le_of_ble_eq_true rfl)
  rw [lg_entry_eq]
  generalize (lg_sl ([.ref (G 0 2), .ref (G 1 q0)]) ++ List.replicate (3 - (lg_sl ([.ref (G 0 2), .ref (G 1 q0)])).length) Slot.unset).toArray = ls at hl ⊢
  have hl : lv_has ls 3 [(0, .ref (G 0 2)), (1, .ref (G 1 q0))] := hl
  unfold f_X0_takeBack at hf
  refine lv_aload_n hx hb dX0_takeBack_0 rfl (lv_at hl 0 rfl) ?_
  refine lv_aload_n hx hb dX0_takeBack_1 rfl (lv_at hl 0 rfl) ?_
  refine z_get hx hb hts (fun w h => List.mem_cons_of_mem _ (ziX0 w h)) hown hK hP (zV_0 (by decide)) rfl rfl 1 (by decide) (List.mem_cons_of_mem _ m_204) rfl rfl dX0_takeBack_2 ?_
  refine lv_bipush (v := 10) hx hb dX0_takeBack_5 (by decide) ?_
  refine lv_iadd hx hb dX0_takeBack_7 ?_
  refine lv_iconst (v := 1) hx hb dX0_takeBack_8 (by decide) ?_
  refine lv_isub hx hb dX0_takeBack_9 ?_
  refine lv_bipush (v := 10) hx hb dX0_takeBack_10 (by decide) ?_
  obtain ⟨x1, ex1, hf⟩ := zl_i hf
  rw [← ex1]
  refine lv_irem hx hb dX0_takeBack_12 (by decide) ?_
  obtain ⟨x2, ex2, hf⟩ := zl_i hf
  refine z_topi ex2 ?_
  obtain ⟨T3, eT3, hf⟩ := zl_i hf
  refine z_put hx hb hts (fun w h => List.mem_cons_of_mem _ (ziX0 w h)) tyX0 tyX0_ok nmX0 hown hK hP hG hS (zV_0 (by decide)) rfl rfl 1 (by decide) (List.mem_cons_of_mem _ m_204) rfl rfl (by decide +kernel) (Nat.le_of_ble_eq_true rfl) rfl dX0_takeBack_13 (fun H locs hP hS => ?_)
  rw [← eT3] at hP
  refine lv_aload_n hx hb dX0_takeBack_16 rfl (lv_at hl 0 rfl) ?_
  refine lv_aload_n hx hb dX0_takeBack_17 rfl (lv_at hl 0 rfl) ?_
  refine z_get hx hb hts (fun w h => List.mem_cons_of_mem _ (ziX0 w h)) hown hK hP (zV_0 (by decide)) rfl rfl 2 (by decide) (List.mem_cons_of_mem _ m_205) rfl rfl dX0_takeBack_18 ?_
  refine lv_iconst (v := 1) hx hb dX0_takeBack_21 (by decide) ?_
  refine lv_isub hx hb dX0_takeBack_22 ?_
  refine lv_iconst (v := 0) hx hb dX0_takeBack_23 (by decide) ?_
  refine z_mmax F m_651 m_652 m_40 m_653 hl.1 (Nat.le_of_ble_eq_true rfl) (Nat.le_of_ble_eq_true rfl) ⟨Nat.le_of_ble_eq_true rfl, Nat.le_of_ble_eq_true rfl⟩ dX0_takeBack_24 ?_
  obtain ⟨x4, ex4, hf⟩ := zl_i hf
  refine z_topi ex4 ?_
  obtain ⟨T5, eT5, hf⟩ := zl_i hf
  refine z_put hx hb hts (fun w h => List.mem_cons_of_mem _ (ziX0 w h)) tyX0 tyX0_ok nmX0 hown hK hP hG hS (zV_0 (by decide)) rfl rfl 2 (by decide) (List.mem_cons_of_mem _ m_205) rfl rfl (by decide +kernel) (Nat.le_of_ble_eq_true rfl) rfl dX0_takeBack_27 (fun H locs hP hS => ?_)
  rw [← eT5] at hP
  refine lv_aload_n hx hb dX0_takeBack_30 rfl (lv_at hl 0 rfl) ?_
  refine lv_aload_n hx hb dX0_takeBack_31 rfl (lv_at hl 0 rfl) ?_
  refine z_get hx hb hts (fun w h => List.mem_cons_of_mem _ (ziX0 w h)) hown hK hP (zV_0 (by decide)) rfl rfl 1 (by decide) (List.mem_cons_of_mem _ m_204) rfl rfl dX0_takeBack_32 ?_
  obtain ⟨v7, T6, h8, hf⟩ := zb_i hf
  rcases v7 with _ | q9
  · dsimp only at hf
    refine z_ok (z_runV (As := [.int (T5.1 0 2 1)]) (rest := []) F k_X0_stateAt m_580 (c_X0_stateAt (T5.1 0 2 1) T5 T6 _ h8) hP hS (zV_0 (by decide)) rfl rfl rfl rfl hl.1 (Nat.le_of_ble_eq_true rfl) dX0_takeBack_35 (Nat.le_of_ble_eq_true rfl) ⟨Nat.le_of_ble_eq_true rfl, Nat.le_of_ble_eq_true rfl⟩ rfl) hS (fun H locs hP hS => ?_)
    refine lv_astore_nN (lv' := [(2, .null), (0, .ref (G 0 2)), (1, .ref (G 1 q0))]) hx hb dX0_takeBack_38 rfl hl (by decide) rfl (fun ls hl => ?_)
    refine lv_aload_nN hx hb dX0_takeBack_39 rfl (lv_at hl 0 rfl) ?_
    refine lv_ifnullN hx hb (tgt := 48) dX0_takeBack_40 (by decide) ?_
    obtain ⟨q1, q2⟩ := zs_i hf
    subst q1; subst q2
    exact z_vret hx hb hr rfl hP hS hlocks (Nat.le_of_ble_eq_true rfl) (Nat.le_of_ble_eq_true rfl) dX0_takeBack_48
  · dsimp only at hf
    obtain ⟨h10, hf⟩ := zif_c hf
    refine z_ok (z_runV (As := [.int (T5.1 0 2 1)]) (rest := []) F k_X0_stateAt m_580 (c_X0_stateAt (T5.1 0 2 1) T5 T6 _ h8) hP hS (zV_0 (by decide)) rfl rfl rfl rfl hl.1 (Nat.le_of_ble_eq_true rfl) dX0_takeBack_35 (Nat.le_of_ble_eq_true rfl) ⟨Nat.le_of_ble_eq_true rfl, Nat.le_of_ble_eq_true rfl⟩ rfl) hS (fun H locs hP hS => ?_)
    refine lv_astore_n (lv' := [(2, .ref (G 1 q9)), (0, .ref (G 0 2)), (1, .ref (G 1 q0))]) hx hb dX0_takeBack_38 rfl hl (by decide) rfl (fun ls hl => ?_)
    refine lv_aload_n hx hb dX0_takeBack_39 rfl (lv_at hl 0 rfl) ?_
    refine lv_ifnull hx hb dX0_takeBack_40 ?_
    refine lv_aload_n hx hb dX0_takeBack_43 rfl (lv_at hl 2 rfl) ?_
    refine lv_aload_n hx hb dX0_takeBack_44 rfl (lv_at hl 0 rfl) ?_
    obtain ⟨v12, T11, h13, hf⟩ := zb_i hf
    refine z_ok (z_runV (As := [.ref (G 1 q9)]) (rest := []) F k_X2_copyFrom m_584 (c_X2_copyFrom q0 hq0 q9 h10 T6 T11 _ h13) hP hS (zV_r (by decide) (by decide) hq0) rfl rfl rfl rfl hl.1 (Nat.le_of_ble_eq_true rfl) dX0_takeBack_45 (Nat.le_of_ble_eq_true rfl) ⟨Nat.le_of_ble_eq_true rfl, Nat.le_of_ble_eq_true rfl⟩ rfl) hS (fun H locs hP hS => ?_)
    obtain ⟨q1, q2⟩ := zs_i hf
    subst q1; subst q2
    exact z_vret hx hb hr rfl hP hS hlocks (Nat.le_of_ble_eq_true rfl) (Nat.le_of_ble_eq_true rfl) dX0_takeBack_48

def lp_J7_fill_53178_5 (k0 i0 : Nat) (w1 : Int32) (w3 : Int32) : Nat → Int32 → zT → Option ((Int32) × zT)
  | 0, _, _ => none
  | n + 1, u2, T => (if w3 ≤ u2 then some (u2, T) else if zin u2 (zlen 0 k0 i0) = true then zl (wA T k0 i0 (upd (T.2 k0 i0) u2.toNatClampNeg w1)) fun T3 => zl (u2 + 1) fun x4 => lp_J7_fill_53178_5 k0 i0 w1 w3 n x4 T3 else none)
def f_J7_fill_53178 (k0 i0 : Nat) (p1 : Int32) (T : zT) : Option (Unit × zT) := zl (nI (zlen 0 k0 i0)) fun x1 => zb (lp_J7_fill_53178_5 k0 i0 p1 x1 2000 0 T) fun v6 T5 => some ((), T5)
set_option maxHeartbeats 4000000 in
set_option maxRecDepth 100000 in
theorem l_J7_fill_53178_5 {p : Program} {l : Launch} {e : Env} {s : State} {m : MethodId} {args : Array Value} {below : List Frame} {meth : Method} {c : Code} {Q : State → Prop} {D : va_G} {Y : Nat → ClassId} {S V : Nat → Nat} {G : Nat → Nat → Nat} {A : Nat → Prop} {c0 : Cond} {mc ms cells slots : Nat} {k0 : Nat} {i0 : Nat} (F : zF 0 0 mc ms p l s m args c cJ7_fill_53178 4 RJ7 c0 D Y S V G A) (hI0 : zIA 0 k0 i0) (hcs : cells ≤ mc ∧ slots ≤ ms) (w1 : Int32) (w3 : Int32) :
    ∀ (n : Nat) (u2 : Int32) (T : zT) (o : (Int32) × zT) (H : Heap) (locs : List Loc) (ls : Array Slot), lp_J7_fill_53178_5 k0 i0 w1 w3 n u2 T = some o → zP 0 D Y G T H → va_S A s.heap H locs → lv_has ls 4 [(0, .ref (G k0 i0)), (1, .int w1), (2, .int u2), (3, .int w3)] → (∀ (H : Heap) (locs : List Loc) (ls : Array Slot), zP 0 D Y G o.2 H → va_S A s.heap H locs → lv_has ls 4 [(0, .ref (G k0 i0)), (1, .int w1), (2, .int o.1), (3, .int w3)] → W p l e (zR 0 mc ms) s m args below meth c H locs cells slots Q (F0 m 20 ls [])) → W p l e (zR 0 mc ms) s m args below meth c H locs cells slots Q (F0 m 5 ls []) := by
  obtain ⟨hx, hb, hml, hown, hts, hl9, hG, hK, hA⟩ := id F
  intro n
  induction n with
  | zero =>
    intro u2 T o H locs ls hf
    rw [lp_J7_fill_53178_5] at hf
    cases hf
  | succ n ih =>
    intro u2 T o H locs ls hf hP hS hl k0_
    rw [lp_J7_fill_53178_5] at hf
    refine lv_iload_n hx hb dJ7_fill_53178_5 rfl (lv_at hl 2 rfl) ?_
    refine lv_iload_n hx hb dJ7_fill_53178_6 rfl (lv_at hl 3 rfl) ?_
    refine lv_icmp_ge (tgt := 20) hx hb dJ7_fill_53178_7 (by decide) (fun hc => ?_) (fun hc => ?_)
    · have hf := zif_p hf hc
      cases hf
      exact k0_ _ _ _ hP hS (lv_sub hl [0, 1, 2, 3] rfl)
    · have hf := zif_n hf hc
      refine lv_aload_n hx hb dJ7_fill_53178_10 rfl (lv_at hl 0 rfl) ?_
      refine lv_iload_n hx hb dJ7_fill_53178_11 rfl (lv_at hl 2 rfl) ?_
      refine lv_iload_n hx hb dJ7_fill_53178_12 rfl (lv_at hl 1 rfl) ?_
      obtain ⟨h2, hf⟩ := zif_c hf
      obtain ⟨T3, eT3, hf⟩ := zl_i hf
      refine z_iast hx hb hK hP hG hS hI0 (zin_i h2) dJ7_fill_53178_13 (fun H locs hP hS => ?_)
      rw [← eT3] at hP
      obtain ⟨x4, ex4, hf⟩ := zl_i hf
      refine lv_iinc (v := x4) (lv' := [(2, .int x4), (0, .ref (G k0 i0)), (1, .int w1), (3, .int w3)]) hx hb dJ7_fill_53178_14 hl (k := 2) rfl (by rw [ex4]; rfl) (by decide) rfl (fun ls hl => ?_)
      refine lv_goto (tgt := 5) hx hb dJ7_fill_53178_17 (by decide) ?_
      exact ih x4 _ _ _ _ _ hf hP hS (lv_sub hl [1, 2, 0, 3] rfl) k0_
set_option maxHeartbeats 4000000 in
set_option maxRecDepth 100000 in
theorem c_J7_fill_53178 (k0 i0 : Nat) (hI0 : zIA 0 k0 i0) (p1 : Int32) (T T' : zT) (v : Unit) (hf : f_J7_fill_53178 k0 i0 p1 T = some (v, T')) : zC 0 yJ7_fill_53178 cJ7_fill_53178 4 none 0  0 0  (fun G _ => [.ref (G k0 i0), .int p1]) T (fun _ => .inl none) T' := by
  intro l D Y S V G A hl9 hG
  refine vx_ofW (cc := cJ7_fill_53178) (maxL := 4) (ret := none) (by decide) rfl ?_
  intro p e s m args below meth c s₁ B hml hex hv
  obtain ⟨rfl, hK, hP, hA⟩ := hv
  have hx := B.exec
  have hb := B.bytes
  have hr := B.returns
  have hlocks := B.notSynchronized
  have hown : s.vm.findClass RJ7 = some m.cls := findClass_of_methodNamed B.named
  have hts := atoms_spec (ws := Cond.code yJ7_fill_53178 cJ7_fill_53178 4 none :: zWS) B.pre
  have F : zF 0 0  0 0  p l s m _ c cJ7_fill_53178 4 RJ7 (Cond.code yJ7_fill_53178 cJ7_fill_53178 4 none) D Y S V G A := ⟨hx, hb, hml, hown, hts, hl9, hG, hK, hA⟩
  have hS : va_S A s.heap s.heap [] := va_S.rf
  have hl := lv_entry ([.ref (G k0 i0), .int p1]) (n := 4) (Nat.le_of_ble_eq_true rfl)
  rw [lg_entry_eq]
  generalize (lg_sl ([.ref (G k0 i0), .int p1]) ++ List.replicate (4 - (lg_sl ([.ref (G k0 i0), .int p1])).length) Slot.unset).toArray = ls at hl ⊢
  have hl : lv_has ls 4 [(0, .ref (G k0 i0)), (1, .int p1)] := hl
  unfold f_J7_fill_53178 at hf
  refine lv_iconst (v := 0) hx hb dJ7_fill_53178_0 (by decide) ?_
  refine lv_istore_n (lv' := [(2, .int 0), (0, .ref (G k0 i0)), (1, .int p1)]) hx hb dJ7_fill_53178_1 rfl hl (by decide) rfl (fun ls hl => ?_)
  refine lv_aload_n hx hb dJ7_fill_53178_2 rfl (lv_at hl 1 rfl) ?_
  refine z_alen (v := (nI (zlen 0 k0 i0))) hx hb hK hP hI0.V 0 (hI0.cell Y G _) rfl rfl dJ7_fill_53178_3 ?_
  obtain ⟨x1, ex1, hf⟩ := zl_i hf
  refine z_topi ex1 ?_
  refine lv_istore_n (lv' := [(3, .int x1), (2, .int 0), (0, .ref (G k0 i0)), (1, .int p1)]) hx hb dJ7_fill_53178_4 rfl hl (by decide) rfl (fun ls hl => ?_)
  obtain ⟨v6, T5, h7, hf⟩ := zb_i hf
  refine l_J7_fill_53178_5 F hI0 ⟨Nat.le_of_ble_eq_true rfl, Nat.le_of_ble_eq_true rfl⟩ p1 x1 2000 0 _ _ _ _ _ h7 hP hS (lv_sub hl [2, 3, 1, 0] rfl) (fun H locs ls hP hS hl => ?_)
  obtain ⟨q1, q2⟩ := zs_i hf
  subst q1; subst q2
  exact z_vret hx hb hr rfl hP hS hlocks (Nat.le_of_ble_eq_true rfl) (Nat.le_of_ble_eq_true rfl) dJ7_fill_53178_20

def f_X2_begin (r : Nat) (p0 : Int32) (p1 : Int32) (T : zT) : Option (Unit × zT) := zl (wI T 1 r 0 0) fun T1 => zl (wI T1 1 r 1 0) fun T2 => zl (wI T2 1 r 2 p0) fun T3 => zl (wI T3 1 r 3 p1) fun T4 => zl (wI T4 1 r 4 p1) fun T5 => zl (wI T5 1 r 5 0) fun T6 => zl (wI T6 1 r 6 0) fun T7 => zl (wI T7 1 r 7 0) fun T8 => zl (wI T8 1 r 8 0) fun T9 => zl (wI T9 1 r 9 0) fun T10 => zb (f_J7_fill_53178 2 r 0 T10) fun _v12 T11 => some ((), T11)
set_option maxHeartbeats 4000000 in
set_option maxRecDepth 100000 in
theorem c_X2_begin (r : Nat) (hr0 : r < 15) (p0 : Int32) (p1 : Int32) (T T' : zT) (v : Unit) (hf : f_X2_begin r p0 p1 T = some (v, T')) : zC 0 yX2_begin cX2_begin 3 none 1  0 0  (fun G _ => [.ref (G 1 r), .int p0, .int p1]) T (fun _ => .inl none) T' := by
  intro l D Y S V G A hl9 hG
  refine vx_ofW (cc := cX2_begin) (maxL := 3) (ret := none) (by decide) rfl ?_
  intro p e s m args below meth c s₁ B hml hex hv
  obtain ⟨rfl, hK, hP, hA⟩ := hv
  have hx := B.exec
  have hb := B.bytes
  have hr := B.returns
  have hlocks := B.notSynchronized
  have hown : s.vm.findClass RX2 = some m.cls := findClass_of_methodNamed B.named
  have hts := atoms_spec (ws := Cond.code yX2_begin cX2_begin 3 none :: zWS) B.pre
  have F : zF 0 1  0 0  p l s m _ c cX2_begin 3 RX2 (Cond.code yX2_begin cX2_begin 3 none) D Y S V G A := ⟨hx, hb, hml, hown, hts, hl9, hG, hK, hA⟩
  have hS : va_S A s.heap s.heap [] := va_S.rf
  have hl := lv_entry ([.ref (G 1 r), .int p0, .int p1]) (n := 3) (Nat.le_of_ble_eq_true rfl)
  rw [lg_entry_eq]
  generalize (lg_sl ([.ref (G 1 r), .int p0, .int p1]) ++ List.replicate (3 - (lg_sl ([.ref (G 1 r), .int p0, .int p1])).length) Slot.unset).toArray = ls at hl ⊢
  have hl : lv_has ls 3 [(0, .ref (G 1 r)), (1, .int p0), (2, .int p1)] := hl
  unfold f_X2_begin at hf
  refine lv_aload_n hx hb dX2_begin_0 rfl (lv_at hl 0 rfl) ?_
  refine lv_iconst (v := 0) hx hb dX2_begin_1 (by decide) ?_
  obtain ⟨T1, eT1, hf⟩ := zl_i hf
  refine z_put hx hb hts (fun w h => List.mem_cons_of_mem _ (ziX2 w h)) tyX2 tyX2_ok nmX2 hown hK hP hG hS (zV_r (by decide) (by decide) hr0) rfl rfl 0 (by decide) (List.mem_cons_of_mem _ m_67) rfl rfl (by decide +kernel) (Nat.le_of_ble_eq_true rfl) (znew2 (by decide)) dX2_begin_2 (fun H locs hP hS => ?_)
  rw [← eT1] at hP
  refine lv_aload_n hx hb dX2_begin_5 rfl (lv_at hl 0 rfl) ?_
  refine lv_iconst (v := 0) hx hb dX2_begin_6 (by decide) ?_
  obtain ⟨T2, eT2, hf⟩ := zl_i hf
  refine z_put hx hb hts (fun w h => List.mem_cons_of_mem _ (ziX2 w h)) tyX2 tyX2_ok nmX2 hown hK hP hG hS (zV_r (by decide) (by decide) hr0) rfl rfl 1 (by decide) (List.mem_cons_of_mem _ m_69) rfl rfl (by decide +kernel) (Nat.le_of_ble_eq_true rfl) (znew2 (by decide)) dX2_begin_7 (fun H locs hP hS => ?_)
  rw [← eT2] at hP
  refine lv_aload_n hx hb dX2_begin_10 rfl (lv_at hl 0 rfl) ?_
  refine lv_iload_n hx hb dX2_begin_11 rfl (lv_at hl 1 rfl) ?_
  obtain ⟨T3, eT3, hf⟩ := zl_i hf
  refine z_put hx hb hts (fun w h => List.mem_cons_of_mem _ (ziX2 w h)) tyX2 tyX2_ok nmX2 hown hK hP hG hS (zV_r (by decide) (by decide) hr0) rfl rfl 2 (by decide) (List.mem_cons_of_mem _ m_71) rfl rfl (by decide +kernel) (Nat.le_of_ble_eq_true rfl) (znew2 (by decide)) dX2_begin_12 (fun H locs hP hS => ?_)
  rw [← eT3] at hP
  refine lv_aload_n hx hb dX2_begin_15 rfl (lv_at hl 0 rfl) ?_
  refine lv_iload_n hx hb dX2_begin_16 rfl (lv_at hl 2 rfl) ?_
  obtain ⟨T4, eT4, hf⟩ := zl_i hf
  refine z_put hx hb hts (fun w h => List.mem_cons_of_mem _ (ziX2 w h)) tyX2 tyX2_ok nmX2 hown hK hP hG hS (zV_r (by decide) (by decide) hr0) rfl rfl 3 (by decide) (List.mem_cons_of_mem _ m_73) rfl rfl (by decide +kernel) (Nat.le_of_ble_eq_true rfl) (znew2 (by decide)) dX2_begin_17 (fun H locs hP hS => ?_)
  rw [← eT4] at hP
  refine lv_aload_n hx hb dX2_begin_20 rfl (lv_at hl 0 rfl) ?_
  refine lv_iload_n hx hb dX2_begin_21 rfl (lv_at hl 2 rfl) ?_
  obtain ⟨T5, eT5, hf⟩ := zl_i hf
  refine z_put hx hb hts (fun w h => List.mem_cons_of_mem _ (ziX2 w h)) tyX2 tyX2_ok nmX2 hown hK hP hG hS (zV_r (by decide) (by decide) hr0) rfl rfl 4 (by decide) (List.mem_cons_of_mem _ m_75) rfl rfl (by decide +kernel) (Nat.le_of_ble_eq_true rfl) (znew2 (by decide)) dX2_begin_22 (fun H locs hP hS => ?_)
  rw [← eT5] at hP
  refine lv_aload_n hx hb dX2_begin_25 rfl (lv_at hl 0 rfl) ?_
  refine lv_iconst (v := 0) hx hb dX2_begin_26 (by decide) ?_
  obtain ⟨T6, eT6, hf⟩ := zl_i hf
  refine z_put hx hb hts (fun w h => List.mem_cons_of_mem _ (ziX2 w h)) tyX2 tyX2_ok nmX2 hown hK hP hG hS (zV_r (by decide) (by decide) hr0) rfl rfl 5 (by decide) (List.mem_cons_of_mem _ m_77) rfl rfl (by decide +kernel) (Nat.le_of_ble_eq_true rfl) (znew2 (by decide)) dX2_begin_27 (fun H locs hP hS => ?_)
  rw [← eT6] at hP
  refine lv_aload_n hx hb dX2_begin_30 rfl (lv_at hl 0 rfl) ?_
  refine lv_iconst (v := 0) hx hb dX2_begin_31 (by decide) ?_
  obtain ⟨T7, eT7, hf⟩ := zl_i hf
  refine z_put hx hb hts (fun w h => List.mem_cons_of_mem _ (ziX2 w h)) tyX2 tyX2_ok nmX2 hown hK hP hG hS (zV_r (by decide) (by decide) hr0) rfl rfl 6 (by decide) (List.mem_cons_of_mem _ m_79) rfl rfl (by decide +kernel) (Nat.le_of_ble_eq_true rfl) (znew2 (by decide)) dX2_begin_32 (fun H locs hP hS => ?_)
  rw [← eT7] at hP
  refine lv_aload_n hx hb dX2_begin_35 rfl (lv_at hl 0 rfl) ?_
  refine lv_iconst (v := 0) hx hb dX2_begin_36 (by decide) ?_
  obtain ⟨T8, eT8, hf⟩ := zl_i hf
  refine z_put hx hb hts (fun w h => List.mem_cons_of_mem _ (ziX2 w h)) tyX2 tyX2_ok nmX2 hown hK hP hG hS (zV_r (by decide) (by decide) hr0) rfl rfl 7 (by decide) (List.mem_cons_of_mem _ m_81) rfl rfl (by decide +kernel) (Nat.le_of_ble_eq_true rfl) (znew2 (by decide)) dX2_begin_37 (fun H locs hP hS => ?_)
  rw [← eT8] at hP
  refine lv_aload_n hx hb dX2_begin_40 rfl (lv_at hl 0 rfl) ?_
  refine lv_iconst (v := 0) hx hb dX2_begin_41 (by decide) ?_
  obtain ⟨T9, eT9, hf⟩ := zl_i hf
  refine z_put hx hb hts (fun w h => List.mem_cons_of_mem _ (ziX2 w h)) tyX2 tyX2_ok nmX2 hown hK hP hG hS (zV_r (by decide) (by decide) hr0) rfl rfl 8 (by decide) (List.mem_cons_of_mem _ m_83) rfl rfl (by decide +kernel) (Nat.le_of_ble_eq_true rfl) (znew2 (by decide)) dX2_begin_42 (fun H locs hP hS => ?_)
  rw [← eT9] at hP
  refine lv_aload_n hx hb dX2_begin_45 rfl (lv_at hl 0 rfl) ?_
  refine lv_iconst (v := 0) hx hb dX2_begin_46 (by decide) ?_
  obtain ⟨T10, eT10, hf⟩ := zl_i hf
  refine z_put hx hb hts (fun w h => List.mem_cons_of_mem _ (ziX2 w h)) tyX2 tyX2_ok nmX2 hown hK hP hG hS (zV_r (by decide) (by decide) hr0) rfl rfl 9 (by decide) (List.mem_cons_of_mem _ m_86) rfl rfl (by decide +kernel) (Nat.le_of_ble_eq_true rfl) (znew2 (by decide)) dX2_begin_47 (fun H locs hP hS => ?_)
  rw [← eT10] at hP
  refine lv_aload_n hx hb dX2_begin_50 rfl (lv_at hl 0 rfl) ?_
  refine z_get hx hb hts (fun w h => List.mem_cons_of_mem _ (ziX2 w h)) hown hK hP (zV_r (by decide) (by decide) hr0) rfl rfl 10 (by decide) (List.mem_cons_of_mem _ m_89) rfl rfl dX2_begin_51 ?_
  refine lv_iconst (v := 0) hx hb dX2_begin_54 (by decide) ?_
  obtain ⟨v12, T11, h13, hf⟩ := zb_i hf
  refine z_ok (z_runS (As := [.ref (G 2 r), .int 0]) (rest := []) F k_J7_fill_53178 m_309 (c_J7_fill_53178 2 r (zIA_r (by decide) (by decide) hr0) 0 T10 T11 _ h13) hP hS rfl rfl hl.1 (Nat.le_of_ble_eq_true rfl) dX2_begin_55 (Nat.le_of_ble_eq_true rfl) ⟨Nat.le_of_ble_eq_true rfl, Nat.le_of_ble_eq_true rfl⟩ rfl) hS (fun H locs hP hS => ?_)
  obtain ⟨q1, q2⟩ := zs_i hf
  subst q1; subst q2
  exact z_vret hx hb hr rfl hP hS hlocks (Nat.le_of_ble_eq_true rfl) (Nat.le_of_ble_eq_true rfl) dX2_begin_58

def f_X3_setCell (k0 i0 : Nat) (p1 : Int32) (p2 : Int32) (T : zT) : Option (Unit × zT) := (if p1 < 0 then some ((), T) else (if (nI (zlen 0 k0 i0)) ≤ p1 then some ((), T) else if zin p1 (zlen 0 k0 i0) = true then zl (wA T k0 i0 (upd (T.2 k0 i0) p1.toNatClampNeg p2)) fun T2 => some ((), T2) else none))
set_option maxHeartbeats 4000000 in
set_option maxRecDepth 100000 in
theorem c_X3_setCell (k0 i0 : Nat) (hI0 : zIA 0 k0 i0) (p1 : Int32) (p2 : Int32) (T T' : zT) (v : Unit) (hf : f_X3_setCell k0 i0 p1 p2 T = some (v, T')) : zC 0 yX3_setCell cX3_setCell 3 none 0  0 0  (fun G _ => [.ref (G k0 i0), .int p1, .int p2]) T (fun _ => .inl none) T' := by
  intro l D Y S V G A hl9 hG
  refine vx_ofW (cc := cX3_setCell) (maxL := 3) (ret := none) (by decide) rfl ?_
  intro p e s m args below meth c s₁ B hml hex hv
  obtain ⟨rfl, hK, hP, hA⟩ := hv
  have hx := B.exec
  have hb := B.bytes
  have hr := B.returns
  have hlocks := B.notSynchronized
  have hown : s.vm.findClass RX3 = some m.cls := findClass_of_methodNamed B.named
  have hts := atoms_spec (ws := Cond.code yX3_setCell cX3_setCell 3 none :: zWS) B.pre
  have F : zF 0 0  0 0  p l s m _ c cX3_setCell 3 RX3 (Cond.code yX3_setCell cX3_setCell 3 none) D Y S V G A := ⟨hx, hb, hml, hown, hts, hl9, hG, hK, hA⟩
  have hS : va_S A s.heap s.heap [] := va_S.rf
  have hl := lv_entry ([.ref (G k0 i0), .int p1, .int p2]) (n := 3) (Nat.le_of_ble_eq_true rfl)
  rw [lg_entry_eq]
  generalize (lg_sl ([.ref (G k0 i0), .int p1, .int p2]) ++ List.replicate (3 - (lg_sl ([.ref (G k0 i0), .int p1, .int p2])).length) Slot.unset).toArray = ls at hl ⊢
  have hl : lv_has ls 3 [(0, .ref (G k0 i0)), (1, .int p1), (2, .int p2)] := hl
  unfold f_X3_setCell at hf
  refine lv_iload_n hx hb dX3_setCell_0 rfl (lv_at hl 1 rfl) ?_
  refine lv_if_lt (tgt := 14) hx hb dX3_setCell_1 (by decide) (fun hc => ?_) (fun hc => ?_)
  · have hf := zif_p hf hc
    obtain ⟨q1, q2⟩ := zs_i hf
    subst q1; subst q2
    exact z_vret hx hb hr rfl hP hS hlocks (Nat.le_of_ble_eq_true rfl) (Nat.le_of_ble_eq_true rfl) dX3_setCell_14
  · have hf := zif_n hf hc
    refine lv_iload_n hx hb dX3_setCell_4 rfl (lv_at hl 1 rfl) ?_
    refine lv_aload_n hx hb dX3_setCell_5 rfl (lv_at hl 0 rfl) ?_
    refine z_alen (v := (nI (zlen 0 k0 i0))) hx hb hK hP hI0.V 0 (hI0.cell Y G _) rfl rfl dX3_setCell_6 ?_
    refine lv_icmp_ge (tgt := 14) hx hb dX3_setCell_7 (by decide) (fun hc => ?_) (fun hc => ?_)
    · have hf := zif_p hf hc
      obtain ⟨q1, q2⟩ := zs_i hf
      subst q1; subst q2
      exact z_vret hx hb hr rfl hP hS hlocks (Nat.le_of_ble_eq_true rfl) (Nat.le_of_ble_eq_true rfl) dX3_setCell_14
    · have hf := zif_n hf hc
      refine lv_aload_n hx hb dX3_setCell_10 rfl (lv_at hl 0 rfl) ?_
      refine lv_iload_n hx hb dX3_setCell_11 rfl (lv_at hl 1 rfl) ?_
      refine lv_iload_n hx hb dX3_setCell_12 rfl (lv_at hl 2 rfl) ?_
      obtain ⟨h1, hf⟩ := zif_c hf
      obtain ⟨T2, eT2, hf⟩ := zl_i hf
      refine z_iast hx hb hK hP hG hS hI0 (zin_i h1) dX3_setCell_13 (fun H locs hP hS => ?_)
      rw [← eT2] at hP
      obtain ⟨q1, q2⟩ := zs_i hf
      subst q1; subst q2
      exact z_vret hx hb hr rfl hP hS hlocks (Nat.le_of_ble_eq_true rfl) (Nat.le_of_ble_eq_true rfl) dX3_setCell_14

def f_X2_addGarden (r : Nat) (p0 : Int32) (T : zT) : Option (Unit × zT) := (if 4 ≤ (T.1 1 r 8) then some ((), T) else zb (f_X3_setCell 3 r (T.1 1 r 8) p0 T) fun _v2 T1 => zl ((T1.1 1 r 8) + 1) fun x4 => zl (wI T1 1 r 8 x4) fun T5 => some ((), T5))
set_option maxHeartbeats 4000000 in
set_option maxRecDepth 100000 in
theorem c_X2_addGarden (r : Nat) (hr0 : r < 15) (p0 : Int32) (T T' : zT) (v : Unit) (hf : f_X2_addGarden r p0 T = some (v, T')) : zC 0 yX2_addGarden cX2_addGarden 2 none 1  0 0  (fun G _ => [.ref (G 1 r), .int p0]) T (fun _ => .inl none) T' := by
  intro l D Y S V G A hl9 hG
  refine vx_ofW (cc := cX2_addGarden) (maxL := 2) (ret := none) (by decide) rfl ?_
  intro p e s m args below meth c s₁ B hml hex hv
  obtain ⟨rfl, hK, hP, hA⟩ := hv
  have hx := B.exec
  have hb := B.bytes
  have hr := B.returns
  have hlocks := B.notSynchronized
  have hown : s.vm.findClass RX2 = some m.cls := findClass_of_methodNamed B.named
  have hts := atoms_spec (ws := Cond.code yX2_addGarden cX2_addGarden 2 none :: zWS) B.pre
  have F : zF 0 1  0 0  p l s m _ c cX2_addGarden 2 RX2 (Cond.code yX2_addGarden cX2_addGarden 2 none) D Y S V G A := ⟨hx, hb, hml, hown, hts, hl9, hG, hK, hA⟩
  have hS : va_S A s.heap s.heap [] := va_S.rf
  have hl := lv_entry ([.ref (G 1 r), .int p0]) (n := 2) (Nat.le_of_ble_eq_true rfl)
  rw [lg_entry_eq]
  generalize (lg_sl ([.ref (G 1 r), .int p0]) ++ List.replicate (2 - (lg_sl ([.ref (G 1 r), .int p0])).length) Slot.unset).toArray = ls at hl ⊢
  have hl : lv_has ls 2 [(0, .ref (G 1 r)), (1, .int p0)] := hl
  unfold f_X2_addGarden at hf
  refine lv_aload_n hx hb dX2_addGarden_0 rfl (lv_at hl 0 rfl) ?_
  refine z_get hx hb hts (fun w h => List.mem_cons_of_mem _ (ziX2 w h)) hown hK hP (zV_r (by decide) (by decide) hr0) rfl rfl 8 (by decide) (List.mem_cons_of_mem _ m_83) rfl rfl dX2_addGarden_1 ?_
  refine lv_iconst (v := 4) hx hb dX2_addGarden_4 (by decide) ?_
  refine lv_icmp_ge (tgt := 30) hx hb dX2_addGarden_5 (by decide) (fun hc => ?_) (fun hc => ?_)
  · have hf := zif_p hf hc
    obtain ⟨q1, q2⟩ := zs_i hf
    subst q1; subst q2
    exact z_vret hx hb hr rfl hP hS hlocks (Nat.le_of_ble_eq_true rfl) (Nat.le_of_ble_eq_true rfl) dX2_addGarden_30
  · have hf := zif_n hf hc
    refine lv_aload_n hx hb dX2_addGarden_8 rfl (lv_at hl 0 rfl) ?_
    refine z_get hx hb hts (fun w h => List.mem_cons_of_mem _ (ziX2 w h)) hown hK hP (zV_r (by decide) (by decide) hr0) rfl rfl 11 (by decide) (List.mem_cons_of_mem _ m_92) rfl rfl dX2_addGarden_9 ?_
    refine lv_aload_n hx hb dX2_addGarden_12 rfl (lv_at hl 0 rfl) ?_
    refine z_get hx hb hts (fun w h => List.mem_cons_of_mem _ (ziX2 w h)) hown hK hP (zV_r (by decide) (by decide) hr0) rfl rfl 8 (by decide) (List.mem_cons_of_mem _ m_83) rfl rfl dX2_addGarden_13 ?_
    refine lv_iload_n hx hb dX2_addGarden_16 rfl (lv_at hl 1 rfl) ?_
    obtain ⟨v2, T1, h3, hf⟩ := zb_i hf
    refine z_ok (z_runSN (As := [.ref (G 3 r), .int (T.1 1 r 8), .int p0]) (rest := []) F k_X3_setCell (by decide +kernel) (c_X3_setCell 3 r (zIA_r (by decide) (by decide) hr0) (T.1 1 r 8) p0 T T1 _ h3) hP hS rfl rfl hl.1 (Nat.le_of_ble_eq_true rfl) dX2_addGarden_17 (Nat.le_of_ble_eq_true rfl) ⟨Nat.le_of_ble_eq_true rfl, Nat.le_of_ble_eq_true rfl⟩ rfl) hS (fun H locs hP hS => ?_)
    refine lv_aload_n hx hb dX2_addGarden_20 rfl (lv_at hl 0 rfl) ?_
    refine lv_dup hx hb dX2_addGarden_21 rfl ?_
    refine z_get hx hb hts (fun w h => List.mem_cons_of_mem _ (ziX2 w h)) hown hK hP (zV_r (by decide) (by decide) hr0) rfl rfl 8 (by decide) (List.mem_cons_of_mem _ m_83) rfl rfl dX2_addGarden_22 ?_
    refine lv_iconst (v := 1) hx hb dX2_addGarden_25 (by decide) ?_
    refine lv_iadd hx hb dX2_addGarden_26 ?_
    obtain ⟨x4, ex4, hf⟩ := zl_i hf
    refine z_topi ex4 ?_
    obtain ⟨T5, eT5, hf⟩ := zl_i hf
    refine z_put hx hb hts (fun w h => List.mem_cons_of_mem _ (ziX2 w h)) tyX2 tyX2_ok nmX2 hown hK hP hG hS (zV_r (by decide) (by decide) hr0) rfl rfl 8 (by decide) (List.mem_cons_of_mem _ m_83) rfl rfl (by decide +kernel) (Nat.le_of_ble_eq_true rfl) (znew2 (by decide)) dX2_addGarden_27 (fun H locs hP hS => ?_)
    rw [← eT5] at hP
    obtain ⟨q1, q2⟩ := zs_i hf
    subst q1; subst q2
    exact z_vret hx hb hr rfl hP hS hlocks (Nat.le_of_ble_eq_true rfl) (Nat.le_of_ble_eq_true rfl) dX2_addGarden_30

def f_X3_cell (k0 i0 : Nat) (p1 : Int32) (T : zT) : Option (Int32 × zT) := (if p1 < 0 then some (0, T) else (if (nI (zlen 0 k0 i0)) ≤ p1 then some (0, T) else if zin p1 (zlen 0 k0 i0) = true then some ((T.2 k0 i0 p1.toNatClampNeg), T) else none))
set_option maxHeartbeats 4000000 in
set_option maxRecDepth 100000 in
theorem c_X3_cell (k0 i0 : Nat) (hI0 : zIA 0 k0 i0) (p1 : Int32) (T T' : zT) (v : Int32) (hf : f_X3_cell k0 i0 p1 T = some (v, T')) : zC 0 yX3_cell cX3_cell 2 (some .int) 0  0 0  (fun G _ => [.ref (G k0 i0), .int p1]) T (fun _ => .inl (some (.int v))) T' := by
  intro l D Y S V G A hl9 hG
  refine vx_ofW (cc := cX3_cell) (maxL := 2) (ret := (some .int)) (by decide) rfl ?_
  intro p e s m args below meth c s₁ B hml hex hv
  obtain ⟨rfl, hK, hP, hA⟩ := hv
  have hx := B.exec
  have hb := B.bytes
  have hr := B.returns
  have hlocks := B.notSynchronized
  have hown : s.vm.findClass RX3 = some m.cls := findClass_of_methodNamed B.named
  have hts := atoms_spec (ws := Cond.code yX3_cell cX3_cell 2 (some .int) :: zWS) B.pre
  have F : zF 0 0  0 0  p l s m _ c cX3_cell 2 RX3 (Cond.code yX3_cell cX3_cell 2 (some .int)) D Y S V G A := ⟨hx, hb, hml, hown, hts, hl9, hG, hK, hA⟩
  have hS : va_S A s.heap s.heap [] := va_S.rf
  have hl := lv_entry ([.ref (G k0 i0), .int p1]) (n := 2) (Nat.le_of_ble_eq_true rfl)
  rw [lg_entry_eq]
  generalize (lg_sl ([.ref (G k0 i0), .int p1]) ++ List.replicate (2 - (lg_sl ([.ref (G k0 i0), .int p1])).length) Slot.unset).toArray = ls at hl ⊢
  have hl : lv_has ls 2 [(0, .ref (G k0 i0)), (1, .int p1)] := hl
  unfold f_X3_cell at hf
  refine lv_iload_n hx hb dX3_cell_0 rfl (lv_at hl 1 rfl) ?_
  refine lv_if_lt (tgt := 16) hx hb dX3_cell_1 (by decide) (fun hc => ?_) (fun hc => ?_)
  · have hf := zif_p hf hc
    refine lv_iconst (v := 0) hx hb dX3_cell_16 (by decide) ?_
    obtain ⟨q1, q2⟩ := zs_i hf
    subst q1; subst q2
    exact z_iret hx hb hr rfl hP hS hlocks (Nat.le_of_ble_eq_true rfl) (Nat.le_of_ble_eq_true rfl) dX3_cell_17
  · have hf := zif_n hf hc
    refine lv_iload_n hx hb dX3_cell_4 rfl (lv_at hl 1 rfl) ?_
    refine lv_aload_n hx hb dX3_cell_5 rfl (lv_at hl 0 rfl) ?_
    refine z_alen (v := (nI (zlen 0 k0 i0))) hx hb hK hP hI0.V 0 (hI0.cell Y G _) rfl rfl dX3_cell_6 ?_
    refine lv_icmp_ge (tgt := 16) hx hb dX3_cell_7 (by decide) (fun hc => ?_) (fun hc => ?_)
    · have hf := zif_p hf hc
      refine lv_iconst (v := 0) hx hb dX3_cell_16 (by decide) ?_
      obtain ⟨q1, q2⟩ := zs_i hf
      subst q1; subst q2
      exact z_iret hx hb hr rfl hP hS hlocks (Nat.le_of_ble_eq_true rfl) (Nat.le_of_ble_eq_true rfl) dX3_cell_17
    · have hf := zif_n hf hc
      refine lv_aload_n hx hb dX3_cell_10 rfl (lv_at hl 0 rfl) ?_
      refine lv_iload_n hx hb dX3_cell_11 rfl (lv_at hl 1 rfl) ?_
      obtain ⟨h1, hf⟩ := zif_c hf
      refine z_iald hx hb hK hP hI0 (zin_i h1) dX3_cell_12 ?_
      refine lv_goto (tgt := 17) hx hb dX3_cell_13 (by decide) ?_
      obtain ⟨q1, q2⟩ := zs_i hf
      subst q1; subst q2
      exact z_iret hx hb hr rfl hP hS hlocks (Nat.le_of_ble_eq_true rfl) (Nat.le_of_ble_eq_true rfl) dX3_cell_17

def lp_X2_childNamed_2 (r : Nat) (w1 : Int32) : Nat → Int32 → zT → Option ((Nat × Int32) × zT)
  | 0, _, _ => none
  | n + 1, u2, T => (if (T.1 1 r 9) ≤ u2 then some ((1, u2), T) else zb (f_X3_cell 4 r u2 T) fun v2 T1 => (if v2 = w1 then some ((0, u2), T1) else zl (u2 + 1) fun x4 => lp_X2_childNamed_2 r w1 n x4 T1))
def f_X2_childNamed (r : Nat) (p0 : Int32) (T : zT) : Option (Int32 × zT) := zb (lp_X2_childNamed_2 r p0 2000 0 T) fun v6 T5 => if v6.1 = 0 then some (v6.2, T5) else if v6.1 = 1 then some ((-1), T5) else none
set_option maxHeartbeats 4000000 in
set_option maxRecDepth 100000 in
theorem l_X2_childNamed_2 {p : Program} {l : Launch} {e : Env} {s : State} {m : MethodId} {args : Array Value} {below : List Frame} {meth : Method} {c : Code} {Q : State → Prop} {D : va_G} {Y : Nat → ClassId} {S V : Nat → Nat} {G : Nat → Nat → Nat} {A : Nat → Prop} {c0 : Cond} {mc ms cells slots : Nat} {r : Nat} (F : zF 0 1 mc ms p l s m args c cX2_childNamed 3 RX2 c0 D Y S V G A) (hr0 : r < 15) (hcs : cells ≤ mc ∧ slots ≤ ms) (w1 : Int32) :
    ∀ (n : Nat) (u2 : Int32) (T : zT) (o : (Nat × Int32) × zT) (H : Heap) (locs : List Loc) (ls : Array Slot), lp_X2_childNamed_2 r w1 n u2 T = some o → zP 0 D Y G T H → va_S A s.heap H locs → lv_has ls 3 [(0, .ref (G 1 r)), (1, .int w1), (2, .int u2)] → (o.1.1 = 0 → ∀ (H : Heap) (locs : List Loc) (ls : Array Slot), zP 0 D Y G o.2 H → va_S A s.heap H locs → lv_has ls 3 [(0, .ref (G 1 r)), (1, .int w1), (2, .int o.1.2)] → W p l e (zR 1 mc ms) s m args below meth c H locs cells slots Q (F0 m 22 ls [])) → (o.1.1 = 1 → ∀ (H : Heap) (locs : List Loc) (ls : Array Slot), zP 0 D Y G o.2 H → va_S A s.heap H locs → lv_has ls 3 [(0, .ref (G 1 r)), (1, .int w1), (2, .int o.1.2)] → W p l e (zR 1 mc ms) s m args below meth c H locs cells slots Q (F0 m 30 ls [])) → W p l e (zR 1 mc ms) s m args below meth c H locs cells slots Q (F0 m 2 ls []) := by
  obtain ⟨hx, hb, hml, hown, hts, hl9, hG, hK, hA⟩ := id F
  intro n
  induction n with
  | zero =>
    intro u2 T o H locs ls hf
    rw [lp_X2_childNamed_2] at hf
    cases hf
  | succ n ih =>
    intro u2 T o H locs ls hf hP hS hl k0_ k1_
    rw [lp_X2_childNamed_2] at hf
    refine lv_iload_n hx hb dX2_childNamed_2 rfl (lv_at hl 2 rfl) ?_
    refine lv_aload_n hx hb dX2_childNamed_3 rfl (lv_at hl 0 rfl) ?_
    refine z_get hx hb hts (fun w h => List.mem_cons_of_mem _ (ziX2 w h)) hown hK hP (zV_r (by decide) (by decide) hr0) rfl rfl 9 (by decide) (List.mem_cons_of_mem _ m_86) rfl rfl dX2_childNamed_4 ?_
    refine lv_icmp_ge (tgt := 30) hx hb dX2_childNamed_7 (by decide) (fun hc => ?_) (fun hc => ?_)
    · have hf := zif_p hf hc
      cases hf
      exact k1_ rfl _ _ _ hP hS (lv_sub hl [0, 1, 2] rfl)
    · have hf := zif_n hf hc
      refine lv_aload_n hx hb dX2_childNamed_10 rfl (lv_at hl 0 rfl) ?_
      refine z_get hx hb hts (fun w h => List.mem_cons_of_mem _ (ziX2 w h)) hown hK hP (zV_r (by decide) (by decide) hr0) rfl rfl 12 (by decide) (List.mem_cons_of_mem _ m_94) rfl rfl dX2_childNamed_11 ?_
      refine lv_iload_n hx hb dX2_childNamed_14 rfl (lv_at hl 2 rfl) ?_
      obtain ⟨v2, T1, h3, hf⟩ := zb_i hf
      refine z_ok (z_runSN (As := [.ref (G 4 r), .int u2]) (rest := []) F k_X3_cell (by decide +kernel) (c_X3_cell 4 r (zIA_r (by decide) (by decide) hr0) u2 T T1 _ h3) hP hS rfl rfl hl.1 (Nat.le_of_ble_eq_true rfl) dX2_childNamed_15 (Nat.le_of_ble_eq_true rfl) ⟨hcs.1, hcs.2⟩ rfl) hS (fun H locs hP hS => ?_)
      refine lv_iload_n hx hb dX2_childNamed_18 rfl (lv_at hl 1 rfl) ?_
      refine lv_icmp_ne (tgt := 24) hx hb dX2_childNamed_19 (by decide) (fun hc => ?_) (fun hc => ?_)
      · have hf := zif_n hf hc
        obtain ⟨x4, ex4, hf⟩ := zl_i hf
        refine lv_iinc (v := x4) (lv' := [(2, .int x4), (0, .ref (G 1 r)), (1, .int w1)]) hx hb dX2_childNamed_24 hl (k := 2) rfl (by rw [ex4]; rfl) (by decide) rfl (fun ls hl => ?_)
        refine lv_goto (tgt := 2) hx hb dX2_childNamed_27 (by decide) ?_
        exact ih x4 _ _ _ _ _ hf hP hS (lv_sub hl [1, 2, 0] rfl) k0_ k1_
      · have hf := zif_p hf hc
        cases hf
        exact k0_ rfl _ _ _ hP hS (lv_sub hl [0, 1, 2] rfl)
set_option maxHeartbeats 4000000 in
set_option maxRecDepth 100000 in
theorem c_X2_childNamed (r : Nat) (hr0 : r < 15) (p0 : Int32) (T T' : zT) (v : Int32) (hf : f_X2_childNamed r p0 T = some (v, T')) : zC 0 yX2_childNamed cX2_childNamed 3 (some .int) 1  0 0  (fun G _ => [.ref (G 1 r), .int p0]) T (fun _ => .inl (some (.int v))) T' := by
  intro l D Y S V G A hl9 hG
  refine vx_ofW (cc := cX2_childNamed) (maxL := 3) (ret := (some .int)) (by decide) rfl ?_
  intro p e s m args below meth c s₁ B hml hex hv
  obtain ⟨rfl, hK, hP, hA⟩ := hv
  have hx := B.exec
  have hb := B.bytes
  have hr := B.returns
  have hlocks := B.notSynchronized
  have hown : s.vm.findClass RX2 = some m.cls := findClass_of_methodNamed B.named
  have hts := atoms_spec (ws := Cond.code yX2_childNamed cX2_childNamed 3 (some .int) :: zWS) B.pre
  have F : zF 0 1  0 0  p l s m _ c cX2_childNamed 3 RX2 (Cond.code yX2_childNamed cX2_childNamed 3 (some .int)) D Y S V G A := ⟨hx, hb, hml, hown, hts, hl9, hG, hK, hA⟩
  have hS : va_S A s.heap s.heap [] := va_S.rf
  have hl := lv_entry ([.ref (G 1 r), .int p0]) (n := 3) (Nat.le_of_ble_eq_true rfl)
  rw [lg_entry_eq]
  generalize (lg_sl ([.ref (G 1 r), .int p0]) ++ List.replicate (3 - (lg_sl ([.ref (G 1 r), .int p0])).length) Slot.unset).toArray = ls at hl ⊢
  have hl : lv_has ls 3 [(0, .ref (G 1 r)), (1, .int p0)] := hl
  unfold f_X2_childNamed at hf
  refine lv_iconst (v := 0) hx hb dX2_childNamed_0 (by decide) ?_
  refine lv_istore_n (lv' := [(2, .int 0), (0, .ref (G 1 r)), (1, .int p0)]) hx hb dX2_childNamed_1 rfl hl (by decide) rfl (fun ls hl => ?_)
  obtain ⟨v6, T5, h7, hf⟩ := zb_i hf
  refine l_X2_childNamed_2 F hr0 ⟨Nat.le_of_ble_eq_true rfl, Nat.le_of_ble_eq_true rfl⟩ p0 2000 0 _ _ _ _ _ h7 hP hS (lv_sub hl [1, 2, 0] rfl) (fun hc H locs ls hP hS hl => ?_) (fun hc H locs ls hP hS hl => ?_)
  · have hf := zif_p hf hc
    refine lv_iload_n hx hb dX2_childNamed_22 rfl (lv_at hl 2 rfl) ?_
    obtain ⟨q1, q2⟩ := zs_i hf
    subst q1; subst q2
    exact z_iret hx hb hr rfl hP hS hlocks (Nat.le_of_ble_eq_true rfl) (Nat.le_of_ble_eq_true rfl) dX2_childNamed_23
  · have hf := zif_n hf (by rw [hc]; decide)
    have hf := zif_p hf hc
    refine lv_iconst (v := (-1)) hx hb dX2_childNamed_30 (by decide) ?_
    obtain ⟨q1, q2⟩ := zs_i hf
    subst q1; subst q2
    exact z_iret hx hb hr rfl hP hS hlocks (Nat.le_of_ble_eq_true rfl) (Nat.le_of_ble_eq_true rfl) dX2_childNamed_31

def f_X2_addChild (r : Nat) (p0 : Int32) (p1 : Int32) (p2 : Int32) (p3 : Int32) (p4 : Int32) (T : zT) : Option (Unit × zT) := (if 10 ≤ (T.1 1 r 9) then some ((), T) else zb (f_X3_setCell 4 r (T.1 1 r 9) p0 T) fun _v2 T1 => zb (f_X3_setCell 5 r (T1.1 1 r 9) p1 T1) fun _v5 T4 => zb (f_X3_setCell 6 r (T4.1 1 r 9) p2 T4) fun _v8 T7 => zb (f_X3_setCell 7 r (T7.1 1 r 9) p3 T7) fun _v11 T10 => zb (f_X3_setCell 8 r (T10.1 1 r 9) p4 T10) fun _v14 T13 => zb (f_X3_setCell 9 r (T13.1 1 r 9) (-1) T13) fun _v17 T16 => zb (f_X3_setCell 10 r (T16.1 1 r 9) 0 T16) fun _v20 T19 => zb (f_X3_setCell 11 r (T19.1 1 r 9) 0 T19) fun _v23 T22 => zl ((T22.1 1 r 9) + 1) fun x25 => zl (wI T22 1 r 9 x25) fun T26 => some ((), T26))
set_option maxHeartbeats 4000000 in
set_option maxRecDepth 100000 in
theorem c_X2_addChild (r : Nat) (hr0 : r < 15) (p0 : Int32) (p1 : Int32) (p2 : Int32) (p3 : Int32) (p4 : Int32) (T T' : zT) (v : Unit) (hf : f_X2_addChild r p0 p1 p2 p3 p4 T = some (v, T')) : zC 0 yX2_addChild cX2_addChild 6 none 1  0 0  (fun G _ => [.ref (G 1 r), .int p0, .int p1, .int p2, .int p3, .int p4]) T (fun _ => .inl none) T' := by
  intro l D Y S V G A hl9 hG
  refine vx_ofW (cc := cX2_addChild) (maxL := 6) (ret := none) (by decide) rfl ?_
  intro p e s m args below meth c s₁ B hml hex hv
  obtain ⟨rfl, hK, hP, hA⟩ := hv
  have hx := B.exec
  have hb := B.bytes
  have hr := B.returns
  have hlocks := B.notSynchronized
  have hown : s.vm.findClass RX2 = some m.cls := findClass_of_methodNamed B.named
  have hts := atoms_spec (ws := Cond.code yX2_addChild cX2_addChild 6 none :: zWS) B.pre
  have F : zF 0 1  0 0  p l s m _ c cX2_addChild 6 RX2 (Cond.code yX2_addChild cX2_addChild 6 none) D Y S V G A := ⟨hx, hb, hml, hown, hts, hl9, hG, hK, hA⟩
  have hS : va_S A s.heap s.heap [] := va_S.rf
  have hl := lv_entry ([.ref (G 1 r), .int p0, .int p1, .int p2, .int p3, .int p4]) (n := 6) (Nat.le_of_ble_eq_true rfl)
  rw [lg_entry_eq]
  generalize (lg_sl ([.ref (G 1 r), .int p0, .int p1, .int p2, .int p3, .int p4]) ++ List.replicate (6 - (lg_sl ([.ref (G 1 r), .int p0, .int p1, .int p2, .int p3, .int p4])).length) Slot.unset).toArray = ls at hl ⊢
  have hl : lv_has ls 6 [(0, .ref (G 1 r)), (1, .int p0), (2, .int p1), (3, .int p2), (4, .int p3), (5, .int p4)] := hl
  unfold f_X2_addChild at hf
  refine lv_aload_n hx hb dX2_addChild_0 rfl (lv_at hl 0 rfl) ?_
  refine z_get hx hb hts (fun w h => List.mem_cons_of_mem _ (ziX2 w h)) hown hK hP (zV_r (by decide) (by decide) hr0) rfl rfl 9 (by decide) (List.mem_cons_of_mem _ m_86) rfl rfl dX2_addChild_1 ?_
  refine lv_bipush (v := 10) hx hb dX2_addChild_4 (by decide) ?_
  refine lv_icmp_ge (tgt := 117) hx hb dX2_addChild_6 (by decide) (fun hc => ?_) (fun hc => ?_)
  · have hf := zif_p hf hc
    obtain ⟨q1, q2⟩ := zs_i hf
    subst q1; subst q2
    exact z_vret hx hb hr rfl hP hS hlocks (Nat.le_of_ble_eq_true rfl) (Nat.le_of_ble_eq_true rfl) dX2_addChild_117
  · have hf := zif_n hf hc
    refine lv_aload_n hx hb dX2_addChild_9 rfl (lv_at hl 0 rfl) ?_
    refine z_get hx hb hts (fun w h => List.mem_cons_of_mem _ (ziX2 w h)) hown hK hP (zV_r (by decide) (by decide) hr0) rfl rfl 12 (by decide) (List.mem_cons_of_mem _ m_94) rfl rfl dX2_addChild_10 ?_
    refine lv_aload_n hx hb dX2_addChild_13 rfl (lv_at hl 0 rfl) ?_
    refine z_get hx hb hts (fun w h => List.mem_cons_of_mem _ (ziX2 w h)) hown hK hP (zV_r (by decide) (by decide) hr0) rfl rfl 9 (by decide) (List.mem_cons_of_mem _ m_86) rfl rfl dX2_addChild_14 ?_
    refine lv_iload_n hx hb dX2_addChild_17 rfl (lv_at hl 1 rfl) ?_
    obtain ⟨v2, T1, h3, hf⟩ := zb_i hf
    refine z_ok (z_runSN (As := [.ref (G 4 r), .int (T.1 1 r 9), .int p0]) (rest := []) F k_X3_setCell (by decide +kernel) (c_X3_setCell 4 r (zIA_r (by decide) (by decide) hr0) (T.1 1 r 9) p0 T T1 _ h3) hP hS rfl rfl hl.1 (Nat.le_of_ble_eq_true rfl) dX2_addChild_18 (Nat.le_of_ble_eq_true rfl) ⟨Nat.le_of_ble_eq_true rfl, Nat.le_of_ble_eq_true rfl⟩ rfl) hS (fun H locs hP hS => ?_)
    refine lv_aload_n hx hb dX2_addChild_21 rfl (lv_at hl 0 rfl) ?_
    refine z_get hx hb hts (fun w h => List.mem_cons_of_mem _ (ziX2 w h)) hown hK hP (zV_r (by decide) (by decide) hr0) rfl rfl 13 (by decide) (List.mem_cons_of_mem _ m_95) rfl rfl dX2_addChild_22 ?_
    refine lv_aload_n hx hb dX2_addChild_25 rfl (lv_at hl 0 rfl) ?_
    refine z_get hx hb hts (fun w h => List.mem_cons_of_mem _ (ziX2 w h)) hown hK hP (zV_r (by decide) (by decide) hr0) rfl rfl 9 (by decide) (List.mem_cons_of_mem _ m_86) rfl rfl dX2_addChild_26 ?_
    refine lv_iload_n hx hb dX2_addChild_29 rfl (lv_at hl 2 rfl) ?_
    obtain ⟨v5, T4, h6, hf⟩ := zb_i hf
    refine z_ok (z_runSN (As := [.ref (G 5 r), .int (T1.1 1 r 9), .int p1]) (rest := []) F k_X3_setCell (by decide +kernel) (c_X3_setCell 5 r (zIA_r (by decide) (by decide) hr0) (T1.1 1 r 9) p1 T1 T4 _ h6) hP hS rfl rfl hl.1 (Nat.le_of_ble_eq_true rfl) dX2_addChild_30 (Nat.le_of_ble_eq_true rfl) ⟨Nat.le_of_ble_eq_true rfl, Nat.le_of_ble_eq_true rfl⟩ rfl) hS (fun H locs hP hS => ?_)
    refine lv_aload_n hx hb dX2_addChild_33 rfl (lv_at hl 0 rfl) ?_
    refine z_get hx hb hts (fun w h => List.mem_cons_of_mem _ (ziX2 w h)) hown hK hP (zV_r (by decide) (by decide) hr0) rfl rfl 14 (by decide) (List.mem_cons_of_mem _ m_97) rfl rfl dX2_addChild_34 ?_
    refine lv_aload_n hx hb dX2_addChild_37 rfl (lv_at hl 0 rfl) ?_
    refine z_get hx hb hts (fun w h => List.mem_cons_of_mem _ (ziX2 w h)) hown hK hP (zV_r (by decide) (by decide) hr0) rfl rfl 9 (by decide) (List.mem_cons_of_mem _ m_86) rfl rfl dX2_addChild_38 ?_
    refine lv_iload_n hx hb dX2_addChild_41 rfl (lv_at hl 3 rfl) ?_
    obtain ⟨v8, T7, h9, hf⟩ := zb_i hf
    refine z_ok (z_runSN (As := [.ref (G 6 r), .int (T4.1 1 r 9), .int p2]) (rest := []) F k_X3_setCell (by decide +kernel) (c_X3_setCell 6 r (zIA_r (by decide) (by decide) hr0) (T4.1 1 r 9) p2 T4 T7 _ h9) hP hS rfl rfl hl.1 (Nat.le_of_ble_eq_true rfl) dX2_addChild_42 (Nat.le_of_ble_eq_true rfl) ⟨Nat.le_of_ble_eq_true rfl, Nat.le_of_ble_eq_true rfl⟩ rfl) hS (fun H locs hP hS => ?_)
    refine lv_aload_n hx hb dX2_addChild_45 rfl (lv_at hl 0 rfl) ?_
    refine z_get hx hb hts (fun w h => List.mem_cons_of_mem _ (ziX2 w h)) hown hK hP (zV_r (by decide) (by decide) hr0) rfl rfl 15 (by decide) (List.mem_cons_of_mem _ m_99) rfl rfl dX2_addChild_46 ?_
    refine lv_aload_n hx hb dX2_addChild_49 rfl (lv_at hl 0 rfl) ?_
    refine z_get hx hb hts (fun w h => List.mem_cons_of_mem _ (ziX2 w h)) hown hK hP (zV_r (by decide) (by decide) hr0) rfl rfl 9 (by decide) (List.mem_cons_of_mem _ m_86) rfl rfl dX2_addChild_50 ?_
    refine lv_iload hx hb dX2_addChild_53 (lv_at hl 4 rfl) ?_
    obtain ⟨v11, T10, h12, hf⟩ := zb_i hf
    refine z_ok (z_runSN (As := [.ref (G 7 r), .int (T7.1 1 r 9), .int p3]) (rest := []) F k_X3_setCell (by decide +kernel) (c_X3_setCell 7 r (zIA_r (by decide) (by decide) hr0) (T7.1 1 r 9) p3 T7 T10 _ h12) hP hS rfl rfl hl.1 (Nat.le_of_ble_eq_true rfl) dX2_addChild_55 (Nat.le_of_ble_eq_true rfl) ⟨Nat.le_of_ble_eq_true rfl, Nat.le_of_ble_eq_true rfl⟩ rfl) hS (fun H locs hP hS => ?_)
    refine lv_aload_n hx hb dX2_addChild_58 rfl (lv_at hl 0 rfl) ?_
    refine z_get hx hb hts (fun w h => List.mem_cons_of_mem _ (ziX2 w h)) hown hK hP (zV_r (by decide) (by decide) hr0) rfl rfl 16 (by decide) (List.mem_cons_of_mem _ m_101) rfl rfl dX2_addChild_59 ?_
    refine lv_aload_n hx hb dX2_addChild_62 rfl (lv_at hl 0 rfl) ?_
    refine z_get hx hb hts (fun w h => List.mem_cons_of_mem _ (ziX2 w h)) hown hK hP (zV_r (by decide) (by decide) hr0) rfl rfl 9 (by decide) (List.mem_cons_of_mem _ m_86) rfl rfl dX2_addChild_63 ?_
    refine lv_iload hx hb dX2_addChild_66 (lv_at hl 5 rfl) ?_
    obtain ⟨v14, T13, h15, hf⟩ := zb_i hf
    refine z_ok (z_runSN (As := [.ref (G 8 r), .int (T10.1 1 r 9), .int p4]) (rest := []) F k_X3_setCell (by decide +kernel) (c_X3_setCell 8 r (zIA_r (by decide) (by decide) hr0) (T10.1 1 r 9) p4 T10 T13 _ h15) hP hS rfl rfl hl.1 (Nat.le_of_ble_eq_true rfl) dX2_addChild_68 (Nat.le_of_ble_eq_true rfl) ⟨Nat.le_of_ble_eq_true rfl, Nat.le_of_ble_eq_true rfl⟩ rfl) hS (fun H locs hP hS => ?_)
    refine lv_aload_n hx hb dX2_addChild_71 rfl (lv_at hl 0 rfl) ?_
    refine z_get hx hb hts (fun w h => List.mem_cons_of_mem _ (ziX2 w h)) hown hK hP (zV_r (by decide) (by decide) hr0) rfl rfl 17 (by decide) (List.mem_cons_of_mem _ m_104) rfl rfl dX2_addChild_72 ?_
    refine lv_aload_n hx hb dX2_addChild_75 rfl (lv_at hl 0 rfl) ?_
    refine z_get hx hb hts (fun w h => List.mem_cons_of_mem _ (ziX2 w h)) hown hK hP (zV_r (by decide) (by decide) hr0) rfl rfl 9 (by decide) (List.mem_cons_of_mem _ m_86) rfl rfl dX2_addChild_76 ?_
    refine lv_iconst (v := (-1)) hx hb dX2_addChild_79 (by decide) ?_
    obtain ⟨v17, T16, h18, hf⟩ := zb_i hf
    refine z_ok (z_runSN (As := [.ref (G 9 r), .int (T13.1 1 r 9), .int (-1)]) (rest := []) F k_X3_setCell (by decide +kernel) (c_X3_setCell 9 r (zIA_r (by decide) (by decide) hr0) (T13.1 1 r 9) (-1) T13 T16 _ h18) hP hS rfl rfl hl.1 (Nat.le_of_ble_eq_true rfl) dX2_addChild_80 (Nat.le_of_ble_eq_true rfl) ⟨Nat.le_of_ble_eq_true rfl, Nat.le_of_ble_eq_true rfl⟩ rfl) hS (fun H locs hP hS => ?_)
    refine lv_aload_n hx hb dX2_addChild_83 rfl (lv_at hl 0 rfl) ?_
    refine z_get hx hb hts (fun w h => List.mem_cons_of_mem _ (ziX2 w h)) hown hK hP (zV_r (by decide) (by decide) hr0) rfl rfl 18 (by decide) (List.mem_cons_of_mem _ m_107) rfl rfl dX2_addChild_84 ?_
    refine lv_aload_n hx hb dX2_addChild_87 rfl (lv_at hl 0 rfl) ?_
    refine z_get hx hb hts (fun w h => List.mem_cons_of_mem _ (ziX2 w h)) hown hK hP (zV_r (by decide) (by decide) hr0) rfl rfl 9 (by decide) (List.mem_cons_of_mem _ m_86) rfl rfl dX2_addChild_88 ?_
    refine lv_iconst (v := 0) hx hb dX2_addChild_91 (by decide) ?_
    obtain ⟨v20, T19, h21, hf⟩ := zb_i hf
    refine z_ok (z_runSN (As := [.ref (G 10 r), .int (T16.1 1 r 9), .int 0]) (rest := []) F k_X3_setCell (by decide +kernel) (c_X3_setCell 10 r (zIA_r (by decide) (by decide) hr0) (T16.1 1 r 9) 0 T16 T19 _ h21) hP hS rfl rfl hl.1 (Nat.le_of_ble_eq_true rfl) dX2_addChild_92 (Nat.le_of_ble_eq_true rfl) ⟨Nat.le_of_ble_eq_true rfl, Nat.le_of_ble_eq_true rfl⟩ rfl) hS (fun H locs hP hS => ?_)
    refine lv_aload_n hx hb dX2_addChild_95 rfl (lv_at hl 0 rfl) ?_
    refine z_get hx hb hts (fun w h => List.mem_cons_of_mem _ (ziX2 w h)) hown hK hP (zV_r (by decide) (by decide) hr0) rfl rfl 19 (by decide) (List.mem_cons_of_mem _ m_109) rfl rfl dX2_addChild_96 ?_
    refine lv_aload_n hx hb dX2_addChild_99 rfl (lv_at hl 0 rfl) ?_
    refine z_get hx hb hts (fun w h => List.mem_cons_of_mem _ (ziX2 w h)) hown hK hP (zV_r (by decide) (by decide) hr0) rfl rfl 9 (by decide) (List.mem_cons_of_mem _ m_86) rfl rfl dX2_addChild_100 ?_
    refine lv_iconst (v := 0) hx hb dX2_addChild_103 (by decide) ?_
    obtain ⟨v23, T22, h24, hf⟩ := zb_i hf
    refine z_ok (z_runSN (As := [.ref (G 11 r), .int (T19.1 1 r 9), .int 0]) (rest := []) F k_X3_setCell (by decide +kernel) (c_X3_setCell 11 r (zIA_r (by decide) (by decide) hr0) (T19.1 1 r 9) 0 T19 T22 _ h24) hP hS rfl rfl hl.1 (Nat.le_of_ble_eq_true rfl) dX2_addChild_104 (Nat.le_of_ble_eq_true rfl) ⟨Nat.le_of_ble_eq_true rfl, Nat.le_of_ble_eq_true rfl⟩ rfl) hS (fun H locs hP hS => ?_)
    refine lv_aload_n hx hb dX2_addChild_107 rfl (lv_at hl 0 rfl) ?_
    refine lv_dup hx hb dX2_addChild_108 rfl ?_
    refine z_get hx hb hts (fun w h => List.mem_cons_of_mem _ (ziX2 w h)) hown hK hP (zV_r (by decide) (by decide) hr0) rfl rfl 9 (by decide) (List.mem_cons_of_mem _ m_86) rfl rfl dX2_addChild_109 ?_
    refine lv_iconst (v := 1) hx hb dX2_addChild_112 (by decide) ?_
    refine lv_iadd hx hb dX2_addChild_113 ?_
    obtain ⟨x25, ex25, hf⟩ := zl_i hf
    refine z_topi ex25 ?_
    obtain ⟨T26, eT26, hf⟩ := zl_i hf
    refine z_put hx hb hts (fun w h => List.mem_cons_of_mem _ (ziX2 w h)) tyX2 tyX2_ok nmX2 hown hK hP hG hS (zV_r (by decide) (by decide) hr0) rfl rfl 9 (by decide) (List.mem_cons_of_mem _ m_86) rfl rfl (by decide +kernel) (Nat.le_of_ble_eq_true rfl) (znew2 (by decide)) dX2_addChild_114 (fun H locs hP hS => ?_)
    rw [← eT26] at hP
    obtain ⟨q1, q2⟩ := zs_i hf
    subst q1; subst q2
    exact z_vret hx hb hr rfl hP hS hlocks (Nat.le_of_ble_eq_true rfl) (Nat.le_of_ble_eq_true rfl) dX2_addChild_117

def f_X3_dateOf (p0 : Int32) (p1 : Int32) (T : zT) : Option (Int32 × zT) := some (((((p0 - 1) * 30) + p1) - 1), T)
set_option maxHeartbeats 4000000 in
set_option maxRecDepth 100000 in
theorem c_X3_dateOf (p0 : Int32) (p1 : Int32) (T T' : zT) (v : Int32) (hf : f_X3_dateOf p0 p1 T = some (v, T')) : zC 0 yX3_dateOf cX3_dateOf 2 (some .int) 0  0 0  (fun _ _ => [.int p0, .int p1]) T (fun _ => .inl (some (.int v))) T' := by
  intro l D Y S V G A hl9 hG
  refine vx_ofW (cc := cX3_dateOf) (maxL := 2) (ret := (some .int)) (by decide) rfl ?_
  intro p e s m args below meth c s₁ B hml hex hv
  obtain ⟨rfl, hK, hP, hA⟩ := hv
  have hx := B.exec
  have hb := B.bytes
  have hr := B.returns
  have hlocks := B.notSynchronized
  have hown : s.vm.findClass RX3 = some m.cls := findClass_of_methodNamed B.named
  have hts := atoms_spec (ws := Cond.code yX3_dateOf cX3_dateOf 2 (some .int) :: zWS) B.pre
  have F : zF 0 0  0 0  p l s m _ c cX3_dateOf 2 RX3 (Cond.code yX3_dateOf cX3_dateOf 2 (some .int)) D Y S V G A := ⟨hx, hb, hml, hown, hts, hl9, hG, hK, hA⟩
  have hS : va_S A s.heap s.heap [] := va_S.rf
  have hl := lv_entry ([.int p0, .int p1]) (n := 2) (Nat.le_of_ble_eq_true rfl)
  rw [lg_entry_eq]
  generalize (lg_sl ([.int p0, .int p1]) ++ List.replicate (2 - (lg_sl ([.int p0, .int p1])).length) Slot.unset).toArray = ls at hl ⊢
  have hl : lv_has ls 2 [(0, .int p0), (1, .int p1)] := hl
  unfold f_X3_dateOf at hf
  refine lv_iload_n hx hb dX3_dateOf_0 rfl (lv_at hl 0 rfl) ?_
  refine lv_iconst (v := 1) hx hb dX3_dateOf_1 (by decide) ?_
  refine lv_isub hx hb dX3_dateOf_2 ?_
  refine lv_bipush (v := 30) hx hb dX3_dateOf_3 (by decide) ?_
  refine lv_imul hx hb dX3_dateOf_5 ?_
  refine lv_iload_n hx hb dX3_dateOf_6 rfl (lv_at hl 1 rfl) ?_
  refine lv_iadd hx hb dX3_dateOf_7 ?_
  refine lv_iconst (v := 1) hx hb dX3_dateOf_8 (by decide) ?_
  refine lv_isub hx hb dX3_dateOf_9 ?_
  obtain ⟨q1, q2⟩ := zs_i hf
  subst q1; subst q2
  exact z_iret hx hb hr rfl hP hS hlocks (Nat.le_of_ble_eq_true rfl) (Nat.le_of_ble_eq_true rfl) dX3_dateOf_10

def lp_X3_countOf_5 (k1 i1 : Nat) (w0 : Int32) (w2 : Int32) : Nat → Int32 → Int32 → zT → Option ((Int32 × Int32) × zT)
  | 0, _, _, _ => none
  | n + 1, u3, u4, T => (if w2 ≤ u4 then some ((u3, u4), T) else (if (nI (zlen 0 k1 i1)) ≤ u4 then some ((u3, u4), T) else if zin u4 (zlen 0 k1 i1) = true then (if (T.2 k1 i1 u4.toNatClampNeg) = w0 then zl (u3 + 1) fun x3 => zl (u4 + 1) fun x4 => lp_X3_countOf_5 k1 i1 w0 w2 n x3 x4 T else zl (u4 + 1) fun x2 => lp_X3_countOf_5 k1 i1 w0 w2 n u3 x2 T) else none))
def f_X3_countOf (p0 : Int32) (k1 i1 : Nat) (p2 : Int32) (T : zT) : Option (Int32 × zT) := zb (lp_X3_countOf_5 k1 i1 p0 p2 2000 0 0 T) fun v6 T5 => some (v6.1, T5)
set_option maxHeartbeats 4000000 in
set_option maxRecDepth 100000 in
theorem l_X3_countOf_5 {p : Program} {l : Launch} {e : Env} {s : State} {m : MethodId} {args : Array Value} {below : List Frame} {meth : Method} {c : Code} {Q : State → Prop} {D : va_G} {Y : Nat → ClassId} {S V : Nat → Nat} {G : Nat → Nat → Nat} {A : Nat → Prop} {c0 : Cond} {mc ms cells slots : Nat} {k1 : Nat} {i1 : Nat} (F : zF 0 0 mc ms p l s m args c cX3_countOf 5 RX3 c0 D Y S V G A) (hI1 : zIA 0 k1 i1) (hcs : cells ≤ mc ∧ slots ≤ ms) (w0 : Int32) (w2 : Int32) :
    ∀ (n : Nat) (u3 : Int32) (u4 : Int32) (T : zT) (o : (Int32 × Int32) × zT) (H : Heap) (locs : List Loc) (ls : Array Slot), lp_X3_countOf_5 k1 i1 w0 w2 n u3 u4 T = some o → zP 0 D Y G T H → va_S A s.heap H locs → lv_has ls 5 [(0, .int w0), (1, .ref (G k1 i1)), (2, .int w2), (3, .int u3), (4, .int u4)] → (∀ (H : Heap) (locs : List Loc) (ls : Array Slot), zP 0 D Y G o.2 H → va_S A s.heap H locs → lv_has ls 5 [(0, .int w0), (1, .ref (G k1 i1)), (2, .int w2), (3, .int o.1.1), (4, .int o.1.2)] → W p l e (zR 0 mc ms) s m args below meth c H locs cells slots Q (F0 m 35 ls [])) → W p l e (zR 0 mc ms) s m args below meth c H locs cells slots Q (F0 m 5 ls []) := by
  obtain ⟨hx, hb, hml, hown, hts, hl9, hG, hK, hA⟩ := id F
  intro n
  induction n with
  | zero =>
    intro u3 u4 T o H locs ls hf
    rw [lp_X3_countOf_5] at hf
    cases hf
  | succ n ih =>
    intro u3 u4 T o H locs ls hf hP hS hl k0_
    rw [lp_X3_countOf_5] at hf
    refine lv_iload hx hb dX3_countOf_5 (lv_at hl 4 rfl) ?_
    refine lv_iload_n hx hb dX3_countOf_7 rfl (lv_at hl 2 rfl) ?_
    refine lv_icmp_ge (tgt := 35) hx hb dX3_countOf_8 (by decide) (fun hc => ?_) (fun hc => ?_)
    · have hf := zif_p hf hc
      cases hf
      exact k0_ _ _ _ hP hS (lv_sub hl [0, 1, 2, 3, 4] rfl)
    · have hf := zif_n hf hc
      refine lv_iload hx hb dX3_countOf_11 (lv_at hl 4 rfl) ?_
      refine lv_aload_n hx hb dX3_countOf_13 rfl (lv_at hl 1 rfl) ?_
      refine z_alen (v := (nI (zlen 0 k1 i1))) hx hb hK hP hI1.V 0 (hI1.cell Y G _) rfl rfl dX3_countOf_14 ?_
      refine lv_icmp_ge (tgt := 35) hx hb dX3_countOf_15 (by decide) (fun hc => ?_) (fun hc => ?_)
      · have hf := zif_p hf hc
        cases hf
        exact k0_ _ _ _ hP hS (lv_sub hl [0, 1, 2, 3, 4] rfl)
      · have hf := zif_n hf hc
        refine lv_aload_n hx hb dX3_countOf_18 rfl (lv_at hl 1 rfl) ?_
        refine lv_iload hx hb dX3_countOf_19 (lv_at hl 4 rfl) ?_
        obtain ⟨h1, hf⟩ := zif_c hf
        refine z_iald hx hb hK hP hI1 (zin_i h1) dX3_countOf_21 ?_
        refine lv_iload_n hx hb dX3_countOf_22 rfl (lv_at hl 0 rfl) ?_
        refine lv_icmp_ne (tgt := 29) hx hb dX3_countOf_23 (by decide) (fun hc => ?_) (fun hc => ?_)
        · have hf := zif_n hf hc
          obtain ⟨x2, ex2, hf⟩ := zl_i hf
          refine lv_iinc (v := x2) (lv' := [(4, .int x2), (0, .int w0), (1, .ref (G k1 i1)), (2, .int w2), (3, .int u3)]) hx hb dX3_countOf_29 hl (k := 4) rfl (by rw [ex2]; rfl) (by decide) rfl (fun ls hl => ?_)
          refine lv_goto (tgt := 5) hx hb dX3_countOf_32 (by decide) ?_
          exact ih u3 x2 _ _ _ _ _ hf hP hS (lv_sub hl [1, 2, 3, 4, 0] rfl) k0_
        · have hf := zif_p hf hc
          obtain ⟨x3, ex3, hf⟩ := zl_i hf
          refine lv_iinc (v := x3) (lv' := [(3, .int x3), (0, .int w0), (1, .ref (G k1 i1)), (2, .int w2), (4, .int u4)]) hx hb dX3_countOf_26 hl (k := 3) rfl (by rw [ex3]; rfl) (by decide) rfl (fun ls hl => ?_)
          obtain ⟨x4, ex4, hf⟩ := zl_i hf
          refine lv_iinc (v := x4) (lv' := [(4, .int x4), (3, .int x3), (0, .int w0), (1, .ref (G k1 i1)), (2, .int w2)]) hx hb dX3_countOf_29 hl (k := 4) rfl (by rw [ex4]; rfl) (by decide) rfl (fun ls hl => ?_)
          refine lv_goto (tgt := 5) hx hb dX3_countOf_32 (by decide) ?_
          exact ih x3 x4 _ _ _ _ _ hf hP hS (lv_sub hl [2, 3, 4, 1, 0] rfl) k0_
set_option maxHeartbeats 4000000 in
set_option maxRecDepth 100000 in
theorem c_X3_countOf (p0 : Int32) (k1 i1 : Nat) (hI1 : zIA 0 k1 i1) (p2 : Int32) (T T' : zT) (v : Int32) (hf : f_X3_countOf p0 k1 i1 p2 T = some (v, T')) : zC 0 yX3_countOf cX3_countOf 5 (some .int) 0  0 0  (fun G _ => [.int p0, .ref (G k1 i1), .int p2]) T (fun _ => .inl (some (.int v))) T' := by
  intro l D Y S V G A hl9 hG
  refine vx_ofW (cc := cX3_countOf) (maxL := 5) (ret := (some .int)) (by decide) rfl ?_
  intro p e s m args below meth c s₁ B hml hex hv
  obtain ⟨rfl, hK, hP, hA⟩ := hv
  have hx := B.exec
  have hb := B.bytes
  have hr := B.returns
  have hlocks := B.notSynchronized
  have hown : s.vm.findClass RX3 = some m.cls := findClass_of_methodNamed B.named
  have hts := atoms_spec (ws := Cond.code yX3_countOf cX3_countOf 5 (some .int) :: zWS) B.pre
  have F : zF 0 0  0 0  p l s m _ c cX3_countOf 5 RX3 (Cond.code yX3_countOf cX3_countOf 5 (some .int)) D Y S V G A := ⟨hx, hb, hml, hown, hts, hl9, hG, hK, hA⟩
  have hS : va_S A s.heap s.heap [] := va_S.rf
  have hl := lv_entry ([.int p0, .ref (G k1 i1), .int p2]) (n := 5) (Nat.le_of_ble_eq_true rfl)
  rw [lg_entry_eq]
  generalize (lg_sl ([.int p0, .ref (G k1 i1), .int p2]) ++ List.replicate (5 - (lg_sl ([.int p0, .ref (G k1 i1), .int p2])).length) Slot.unset).toArray = ls at hl ⊢
  have hl : lv_has ls 5 [(0, .int p0), (1, .ref (G k1 i1)), (2, .int p2)] := hl
  unfold f_X3_countOf at hf
  refine lv_iconst (v := 0) hx hb dX3_countOf_0 (by decide) ?_
  refine lv_istore_n (lv' := [(3, .int 0), (0, .int p0), (1, .ref (G k1 i1)), (2, .int p2)]) hx hb dX3_countOf_1 rfl hl (by decide) rfl (fun ls hl => ?_)
  refine lv_iconst (v := 0) hx hb dX3_countOf_2 (by decide) ?_
  refine lv_istore (lv' := [(4, .int 0), (3, .int 0), (0, .int p0), (1, .ref (G k1 i1)), (2, .int p2)]) hx hb dX3_countOf_3 hl (by decide) rfl (fun ls hl => ?_)
  obtain ⟨v6, T5, h7, hf⟩ := zb_i hf
  refine l_X3_countOf_5 F hI1 ⟨Nat.le_of_ble_eq_true rfl, Nat.le_of_ble_eq_true rfl⟩ p0 p2 2000 0 0 _ _ _ _ _ h7 hP hS (lv_sub hl [2, 3, 4, 1, 0] rfl) (fun H locs ls hP hS hl => ?_)
  refine lv_iload_n hx hb dX3_countOf_35 rfl (lv_at hl 3 rfl) ?_
  obtain ⟨q1, q2⟩ := zs_i hf
  subst q1; subst q2
  exact z_iret hx hb hr rfl hP hS hlocks (Nat.le_of_ble_eq_true rfl) (Nat.le_of_ble_eq_true rfl) dX3_countOf_36

def f_X2_countFans (r : Nat) (p0 : Int32) (T : zT) : Option (Int32 × zT) := zb (f_X3_countOf p0 5 r (T.1 1 r 9) T) fun v2 T1 => some (v2, T1)
set_option maxHeartbeats 4000000 in
set_option maxRecDepth 100000 in
theorem c_X2_countFans (r : Nat) (hr0 : r < 15) (p0 : Int32) (T T' : zT) (v : Int32) (hf : f_X2_countFans r p0 T = some (v, T')) : zC 0 yX2_countFans cX2_countFans 2 (some .int) 1  0 0  (fun G _ => [.ref (G 1 r), .int p0]) T (fun _ => .inl (some (.int v))) T' := by
  intro l D Y S V G A hl9 hG
  refine vx_ofW (cc := cX2_countFans) (maxL := 2) (ret := (some .int)) (by decide) rfl ?_
  intro p e s m args below meth c s₁ B hml hex hv
  obtain ⟨rfl, hK, hP, hA⟩ := hv
  have hx := B.exec
  have hb := B.bytes
  have hr := B.returns
  have hlocks := B.notSynchronized
  have hown : s.vm.findClass RX2 = some m.cls := findClass_of_methodNamed B.named
  have hts := atoms_spec (ws := Cond.code yX2_countFans cX2_countFans 2 (some .int) :: zWS) B.pre
  have F : zF 0 1  0 0  p l s m _ c cX2_countFans 2 RX2 (Cond.code yX2_countFans cX2_countFans 2 (some .int)) D Y S V G A := ⟨hx, hb, hml, hown, hts, hl9, hG, hK, hA⟩
  have hS : va_S A s.heap s.heap [] := va_S.rf
  have hl := lv_entry ([.ref (G 1 r), .int p0]) (n := 2) (Nat.le_of_ble_eq_true rfl)
  rw [lg_entry_eq]
  generalize (lg_sl ([.ref (G 1 r), .int p0]) ++ List.replicate (2 - (lg_sl ([.ref (G 1 r), .int p0])).length) Slot.unset).toArray = ls at hl ⊢
  have hl : lv_has ls 2 [(0, .ref (G 1 r)), (1, .int p0)] := hl
  unfold f_X2_countFans at hf
  refine lv_iload_n hx hb dX2_countFans_0 rfl (lv_at hl 1 rfl) ?_
  refine lv_aload_n hx hb dX2_countFans_1 rfl (lv_at hl 0 rfl) ?_
  refine z_get hx hb hts (fun w h => List.mem_cons_of_mem _ (ziX2 w h)) hown hK hP (zV_r (by decide) (by decide) hr0) rfl rfl 13 (by decide) (List.mem_cons_of_mem _ m_95) rfl rfl dX2_countFans_2 ?_
  refine lv_aload_n hx hb dX2_countFans_5 rfl (lv_at hl 0 rfl) ?_
  refine z_get hx hb hts (fun w h => List.mem_cons_of_mem _ (ziX2 w h)) hown hK hP (zV_r (by decide) (by decide) hr0) rfl rfl 9 (by decide) (List.mem_cons_of_mem _ m_86) rfl rfl dX2_countFans_6 ?_
  obtain ⟨v2, T1, h3, hf⟩ := zb_i hf
  refine z_ok (z_runSN (As := [.int p0, .ref (G 5 r), .int (T.1 1 r 9)]) (rest := []) F k_X3_countOf (by decide +kernel) (c_X3_countOf p0 5 r (zIA_r (by decide) (by decide) hr0) (T.1 1 r 9) T T1 _ h3) hP hS rfl rfl hl.1 (Nat.le_of_ble_eq_true rfl) dX2_countFans_9 (Nat.le_of_ble_eq_true rfl) ⟨Nat.le_of_ble_eq_true rfl, Nat.le_of_ble_eq_true rfl⟩ rfl) hS (fun H locs hP hS => ?_)
  obtain ⟨q1, q2⟩ := zs_i hf
  subst q1; subst q2
  exact z_iret hx hb hr rfl hP hS hlocks (Nat.le_of_ble_eq_true rfl) (Nat.le_of_ble_eq_true rfl) dX2_countFans_12

def lp_X2_reasonAgainst_3 (r : Nat) (w1 : Int32) (w2 : Int32) (w3 : Int32) : Nat → Int32 → zT → Option ((Nat × Int32) × zT)
  | 0, _, _ => none
  | n + 1, u4, T => (if (T.1 1 r 9) ≤ u4 then some ((1, u4), T) else (if u4 = w1 then zl (u4 + 1) fun x1 => lp_X2_reasonAgainst_3 r w1 w2 w3 n x1 T else zb (f_X3_cell 8 r u4 T) fun v3 T2 => (if v3 = w2 then zb (f_X3_cell 9 r u4 T2) fun v7 T6 => (if v7 = w3 then some ((0, u4), T6) else zl (u4 + 1) fun x9 => lp_X2_reasonAgainst_3 r w1 w2 w3 n x9 T6) else zl (u4 + 1) fun x5 => lp_X2_reasonAgainst_3 r w1 w2 w3 n x5 T2)))
def f_X2_reasonAgainst (r : Nat) (p0 : Int32) (p1 : Int32) (p2 : Int32) (T : zT) : Option (Int32 × zT) := zb (lp_X2_reasonAgainst_3 r p0 p1 p2 2000 0 T) fun v11 T10 => if v11.1 = 0 then some (1, T10) else if v11.1 = 1 then zb (f_X3_cell 3 r p1 T10) fun v14 T13 => zb (f_X3_cell 5 r p0 T13) fun v17 T16 => zb (f_X2_countFans r v17 T16) fun v20 T19 => (if v20 ≤ v14 then some (0, T19) else some (2, T19)) else none
set_option maxHeartbeats 4000000 in
set_option maxRecDepth 100000 in
theorem l_X2_reasonAgainst_3 {p : Program} {l : Launch} {e : Env} {s : State} {m : MethodId} {args : Array Value} {below : List Frame} {meth : Method} {c : Code} {Q : State → Prop} {D : va_G} {Y : Nat → ClassId} {S V : Nat → Nat} {G : Nat → Nat → Nat} {A : Nat → Prop} {c0 : Cond} {mc ms cells slots : Nat} {r : Nat} (F : zF 0 2 mc ms p l s m args c cX2_reasonAgainst 5 RX2 c0 D Y S V G A) (hr0 : r < 15) (hcs : cells ≤ mc ∧ slots ≤ ms) (w1 : Int32) (w2 : Int32) (w3 : Int32) :
    ∀ (n : Nat) (u4 : Int32) (T : zT) (o : (Nat × Int32) × zT) (H : Heap) (locs : List Loc) (ls : Array Slot), lp_X2_reasonAgainst_3 r w1 w2 w3 n u4 T = some o → zP 0 D Y G T H → va_S A s.heap H locs → lv_has ls 5 [(0, .ref (G 1 r)), (1, .int w1), (2, .int w2), (3, .int w3), (4, .int u4)] → (o.1.1 = 0 → ∀ (H : Heap) (locs : List Loc) (ls : Array Slot), zP 0 D Y G o.2 H → va_S A s.heap H locs → lv_has ls 5 [(0, .ref (G 1 r)), (1, .int w1), (2, .int w2), (3, .int w3), (4, .int o.1.2)] → W p l e (zR 2 mc ms) s m args below meth c H locs cells slots Q (F0 m 44 ls [])) → (o.1.1 = 1 → ∀ (H : Heap) (locs : List Loc) (ls : Array Slot), zP 0 D Y G o.2 H → va_S A s.heap H locs → lv_has ls 5 [(0, .ref (G 1 r)), (1, .int w1), (2, .int w2), (3, .int w3), (4, .int o.1.2)] → W p l e (zR 2 mc ms) s m args below meth c H locs cells slots Q (F0 m 52 ls [])) → W p l e (zR 2 mc ms) s m args below meth c H locs cells slots Q (F0 m 3 ls []) := by
  obtain ⟨hx, hb, hml, hown, hts, hl9, hG, hK, hA⟩ := id F
  intro n
  induction n with
  | zero =>
    intro u4 T o H locs ls hf
    rw [lp_X2_reasonAgainst_3] at hf
    cases hf
  | succ n ih =>
    intro u4 T o H locs ls hf hP hS hl k0_ k1_
    rw [lp_X2_reasonAgainst_3] at hf
    refine lv_iload hx hb dX2_reasonAgainst_3 (lv_at hl 4 rfl) ?_
    refine lv_aload_n hx hb dX2_reasonAgainst_5 rfl (lv_at hl 0 rfl) ?_
    refine z_get hx hb hts (fun w h => List.mem_cons_of_mem _ (ziX2 w h)) hown hK hP (zV_r (by decide) (by decide) hr0) rfl rfl 9 (by decide) (List.mem_cons_of_mem _ m_86) rfl rfl dX2_reasonAgainst_6 ?_
    refine lv_icmp_ge (tgt := 52) hx hb dX2_reasonAgainst_9 (by decide) (fun hc => ?_) (fun hc => ?_)
    · have hf := zif_p hf hc
      cases hf
      exact k1_ rfl _ _ _ hP hS (lv_sub hl [0, 1, 2, 3, 4] rfl)
    · have hf := zif_n hf hc
      refine lv_iload hx hb dX2_reasonAgainst_12 (lv_at hl 4 rfl) ?_
      refine lv_iload_n hx hb dX2_reasonAgainst_14 rfl (lv_at hl 1 rfl) ?_
      refine lv_icmp_eq (tgt := 46) hx hb dX2_reasonAgainst_15 (by decide) (fun hc => ?_) (fun hc => ?_)
      · have hf := zif_p hf hc
        obtain ⟨x1, ex1, hf⟩ := zl_i hf
        refine lv_iinc (v := x1) (lv' := [(4, .int x1), (0, .ref (G 1 r)), (1, .int w1), (2, .int w2), (3, .int w3)]) hx hb dX2_reasonAgainst_46 hl (k := 4) rfl (by rw [ex1]; rfl) (by decide) rfl (fun ls hl => ?_)
        refine lv_goto (tgt := 3) hx hb dX2_reasonAgainst_49 (by decide) ?_
        exact ih x1 _ _ _ _ _ hf hP hS (lv_sub hl [1, 2, 3, 4, 0] rfl) k0_ k1_
      · have hf := zif_n hf hc
        refine lv_aload_n hx hb dX2_reasonAgainst_18 rfl (lv_at hl 0 rfl) ?_
        refine z_get hx hb hts (fun w h => List.mem_cons_of_mem _ (ziX2 w h)) hown hK hP (zV_r (by decide) (by decide) hr0) rfl rfl 16 (by decide) (List.mem_cons_of_mem _ m_101) rfl rfl dX2_reasonAgainst_19 ?_
        refine lv_iload hx hb dX2_reasonAgainst_22 (lv_at hl 4 rfl) ?_
        obtain ⟨v3, T2, h4, hf⟩ := zb_i hf
        refine z_ok (z_runSN (As := [.ref (G 8 r), .int u4]) (rest := []) F k_X3_cell (by decide +kernel) (c_X3_cell 8 r (zIA_r (by decide) (by decide) hr0) u4 T T2 _ h4) hP hS rfl rfl hl.1 (Nat.le_of_ble_eq_true rfl) dX2_reasonAgainst_24 (Nat.le_of_ble_eq_true rfl) ⟨hcs.1, hcs.2⟩ rfl) hS (fun H locs hP hS => ?_)
        refine lv_iload_n hx hb dX2_reasonAgainst_27 rfl (lv_at hl 2 rfl) ?_
        refine lv_icmp_ne (tgt := 46) hx hb dX2_reasonAgainst_28 (by decide) (fun hc => ?_) (fun hc => ?_)
        · have hf := zif_n hf hc
          obtain ⟨x5, ex5, hf⟩ := zl_i hf
          refine lv_iinc (v := x5) (lv' := [(4, .int x5), (0, .ref (G 1 r)), (1, .int w1), (2, .int w2), (3, .int w3)]) hx hb dX2_reasonAgainst_46 hl (k := 4) rfl (by rw [ex5]; rfl) (by decide) rfl (fun ls hl => ?_)
          refine lv_goto (tgt := 3) hx hb dX2_reasonAgainst_49 (by decide) ?_
          exact ih x5 _ _ _ _ _ hf hP hS (lv_sub hl [1, 2, 3, 4, 0] rfl) k0_ k1_
        · have hf := zif_p hf hc
          refine lv_aload_n hx hb dX2_reasonAgainst_31 rfl (lv_at hl 0 rfl) ?_
          refine z_get hx hb hts (fun w h => List.mem_cons_of_mem _ (ziX2 w h)) hown hK hP (zV_r (by decide) (by decide) hr0) rfl rfl 17 (by decide) (List.mem_cons_of_mem _ m_104) rfl rfl dX2_reasonAgainst_32 ?_
          refine lv_iload hx hb dX2_reasonAgainst_35 (lv_at hl 4 rfl) ?_
          obtain ⟨v7, T6, h8, hf⟩ := zb_i hf
          refine z_ok (z_runSN (As := [.ref (G 9 r), .int u4]) (rest := []) F k_X3_cell (by decide +kernel) (c_X3_cell 9 r (zIA_r (by decide) (by decide) hr0) u4 T2 T6 _ h8) hP hS rfl rfl hl.1 (Nat.le_of_ble_eq_true rfl) dX2_reasonAgainst_37 (Nat.le_of_ble_eq_true rfl) ⟨hcs.1, hcs.2⟩ rfl) hS (fun H locs hP hS => ?_)
          refine lv_iload_n hx hb dX2_reasonAgainst_40 rfl (lv_at hl 3 rfl) ?_
          refine lv_icmp_ne (tgt := 46) hx hb dX2_reasonAgainst_41 (by decide) (fun hc => ?_) (fun hc => ?_)
          · have hf := zif_n hf hc
            obtain ⟨x9, ex9, hf⟩ := zl_i hf
            refine lv_iinc (v := x9) (lv' := [(4, .int x9), (0, .ref (G 1 r)), (1, .int w1), (2, .int w2), (3, .int w3)]) hx hb dX2_reasonAgainst_46 hl (k := 4) rfl (by rw [ex9]; rfl) (by decide) rfl (fun ls hl => ?_)
            refine lv_goto (tgt := 3) hx hb dX2_reasonAgainst_49 (by decide) ?_
            exact ih x9 _ _ _ _ _ hf hP hS (lv_sub hl [1, 2, 3, 4, 0] rfl) k0_ k1_
          · have hf := zif_p hf hc
            cases hf
            exact k0_ rfl _ _ _ hP hS (lv_sub hl [0, 1, 2, 3, 4] rfl)
set_option maxHeartbeats 4000000 in
set_option maxRecDepth 100000 in
theorem c_X2_reasonAgainst (r : Nat) (hr0 : r < 15) (p0 : Int32) (p1 : Int32) (p2 : Int32) (T T' : zT) (v : Int32) (hf : f_X2_reasonAgainst r p0 p1 p2 T = some (v, T')) : zC 0 yX2_reasonAgainst cX2_reasonAgainst 5 (some .int) 2  0 0  (fun G _ => [.ref (G 1 r), .int p0, .int p1, .int p2]) T (fun _ => .inl (some (.int v))) T' := by
  intro l D Y S V G A hl9 hG
  refine vx_ofW (cc := cX2_reasonAgainst) (maxL := 5) (ret := (some .int)) (by decide) rfl ?_
  intro p e s m args below meth c s₁ B hml hex hv
  obtain ⟨rfl, hK, hP, hA⟩ := hv
  have hx := B.exec
  have hb := B.bytes
  have hr := B.returns
  have hlocks := B.notSynchronized
  have hown : s.vm.findClass RX2 = some m.cls := findClass_of_methodNamed B.named
  have hts := atoms_spec (ws := Cond.code yX2_reasonAgainst cX2_reasonAgainst 5 (some .int) :: zWS) B.pre
  have F : zF 0 2  0 0  p l s m _ c cX2_reasonAgainst 5 RX2 (Cond.code yX2_reasonAgainst cX2_reasonAgainst 5 (some .int)) D Y S V G A := ⟨hx, hb, hml, hown, hts, hl9, hG, hK, hA⟩
  have hS : va_S A s.heap s.heap [] := va_S.rf
  have hl := lv_entry ([.ref (G 1 r), .int p0, .int p1, .int p2]) (n := 5) (Nat.le_of_ble_eq_true rfl)
  rw [lg_entry_eq]
  generalize (lg_sl ([.ref (G 1 r), .int p0, .int p1, .int p2]) ++ List.replicate (5 - (lg_sl ([.ref (G 1 r), .int p0, .int p1, .int p2])).length) Slot.unset).toArray = ls at hl ⊢
  have hl : lv_has ls 5 [(0, .ref (G 1 r)), (1, .int p0), (2, .int p1), (3, .int p2)] := hl
  unfold f_X2_reasonAgainst at hf
  refine lv_iconst (v := 0) hx hb dX2_reasonAgainst_0 (by decide) ?_
  refine lv_istore (lv' := [(4, .int 0), (0, .ref (G 1 r)), (1, .int p0), (2, .int p1), (3, .int p2)]) hx hb dX2_reasonAgainst_1 hl (by decide) rfl (fun ls hl => ?_)
  obtain ⟨v11, T10, h12, hf⟩ := zb_i hf
  refine l_X2_reasonAgainst_3 F hr0 ⟨Nat.le_of_ble_eq_true rfl, Nat.le_of_ble_eq_true rfl⟩ p0 p1 p2 2000 0 _ _ _ _ _ h12 hP hS (lv_sub hl [1, 2, 3, 4, 0] rfl) (fun hc H locs ls hP hS hl => ?_) (fun hc H locs ls hP hS hl => ?_)
  · have hf := zif_p hf hc
    refine lv_iconst (v := 1) hx hb dX2_reasonAgainst_44 (by decide) ?_
    obtain ⟨q1, q2⟩ := zs_i hf
    subst q1; subst q2
    exact z_iret hx hb hr rfl hP hS hlocks (Nat.le_of_ble_eq_true rfl) (Nat.le_of_ble_eq_true rfl) dX2_reasonAgainst_45
  · have hf := zif_n hf (by rw [hc]; decide)
    have hf := zif_p hf hc
    refine lv_aload_n hx hb dX2_reasonAgainst_52 rfl (lv_at hl 0 rfl) ?_
    refine z_get hx hb hts (fun w h => List.mem_cons_of_mem _ (ziX2 w h)) hown hK hP (zV_r (by decide) (by decide) hr0) rfl rfl 11 (by decide) (List.mem_cons_of_mem _ m_92) rfl rfl dX2_reasonAgainst_53 ?_
    refine lv_iload_n hx hb dX2_reasonAgainst_56 rfl (lv_at hl 2 rfl) ?_
    obtain ⟨v14, T13, h15, hf⟩ := zb_i hf
    refine z_ok (z_runSN (As := [.ref (G 3 r), .int p1]) (rest := []) F k_X3_cell (by decide +kernel) (c_X3_cell 3 r (zIA_r (by decide) (by decide) hr0) p1 T10 T13 _ h15) hP hS rfl rfl hl.1 (Nat.le_of_ble_eq_true rfl) dX2_reasonAgainst_57 (Nat.le_of_ble_eq_true rfl) ⟨Nat.le_of_ble_eq_true rfl, Nat.le_of_ble_eq_true rfl⟩ rfl) hS (fun H locs hP hS => ?_)
    refine lv_aload_n hx hb dX2_reasonAgainst_60 rfl (lv_at hl 0 rfl) ?_
    refine lv_aload_n hx hb dX2_reasonAgainst_61 rfl (lv_at hl 0 rfl) ?_
    refine z_get hx hb hts (fun w h => List.mem_cons_of_mem _ (ziX2 w h)) hown hK hP (zV_r (by decide) (by decide) hr0) rfl rfl 13 (by decide) (List.mem_cons_of_mem _ m_95) rfl rfl dX2_reasonAgainst_62 ?_
    refine lv_iload_n hx hb dX2_reasonAgainst_65 rfl (lv_at hl 1 rfl) ?_
    obtain ⟨v17, T16, h18, hf⟩ := zb_i hf
    refine z_ok (z_runSN (As := [.ref (G 5 r), .int p0]) (rest := [.ref (G 1 r), .int v14]) F k_X3_cell (by decide +kernel) (c_X3_cell 5 r (zIA_r (by decide) (by decide) hr0) p0 T13 T16 _ h18) hP hS rfl rfl hl.1 (Nat.le_of_ble_eq_true rfl) dX2_reasonAgainst_66 (Nat.le_of_ble_eq_true rfl) ⟨Nat.le_of_ble_eq_true rfl, Nat.le_of_ble_eq_true rfl⟩ rfl) hS (fun H locs hP hS => ?_)
    obtain ⟨v20, T19, h21, hf⟩ := zb_i hf
    refine z_ok (z_runV (As := [.int v17]) (rest := [.int v14]) F k_X2_countFans m_365 (c_X2_countFans r hr0 v17 T16 T19 _ h21) hP hS (zV_r (by decide) (by decide) hr0) rfl rfl rfl rfl hl.1 (Nat.le_of_ble_eq_true rfl) dX2_reasonAgainst_69 (Nat.le_of_ble_eq_true rfl) ⟨Nat.le_of_ble_eq_true rfl, Nat.le_of_ble_eq_true rfl⟩ rfl) hS (fun H locs hP hS => ?_)
    refine lv_icmp_ge (tgt := 79) hx hb dX2_reasonAgainst_72 (by decide) (fun hc => ?_) (fun hc => ?_)
    · have hf := zif_p hf hc
      refine lv_iconst (v := 0) hx hb dX2_reasonAgainst_79 (by decide) ?_
      obtain ⟨q1, q2⟩ := zs_i hf
      subst q1; subst q2
      exact z_iret hx hb hr rfl hP hS hlocks (Nat.le_of_ble_eq_true rfl) (Nat.le_of_ble_eq_true rfl) dX2_reasonAgainst_80
    · have hf := zif_n hf hc
      refine lv_iconst (v := 2) hx hb dX2_reasonAgainst_75 (by decide) ?_
      refine lv_goto (tgt := 80) hx hb dX2_reasonAgainst_76 (by decide) ?_
      obtain ⟨q1, q2⟩ := zs_i hf
      subst q1; subst q2
      exact z_iret hx hb hr rfl hP hS hlocks (Nat.le_of_ble_eq_true rfl) (Nat.le_of_ble_eq_true rfl) dX2_reasonAgainst_80

def f_X3_seedAfter (p0 : Int32) (T : zT) : Option (Int32 × zT) := zl ((p0 * 211) + 97) fun x1 => some ((x1 - x1 / 9973 * 9973), T)
set_option maxHeartbeats 4000000 in
set_option maxRecDepth 100000 in
theorem c_X3_seedAfter (p0 : Int32) (T T' : zT) (v : Int32) (hf : f_X3_seedAfter p0 T = some (v, T')) : zC 0 yX3_seedAfter cX3_seedAfter 1 (some .int) 0  0 0  (fun _ _ => [.int p0]) T (fun _ => .inl (some (.int v))) T' := by
  intro l D Y S V G A hl9 hG
  refine vx_ofW (cc := cX3_seedAfter) (maxL := 1) (ret := (some .int)) (by decide) rfl ?_
  intro p e s m args below meth c s₁ B hml hex hv
  obtain ⟨rfl, hK, hP, hA⟩ := hv
  have hx := B.exec
  have hb := B.bytes
  have hr := B.returns
  have hlocks := B.notSynchronized
  have hown : s.vm.findClass RX3 = some m.cls := findClass_of_methodNamed B.named
  have hts := atoms_spec (ws := Cond.code yX3_seedAfter cX3_seedAfter 1 (some .int) :: zWS) B.pre
  have F : zF 0 0  0 0  p l s m _ c cX3_seedAfter 1 RX3 (Cond.code yX3_seedAfter cX3_seedAfter 1 (some .int)) D Y S V G A := ⟨hx, hb, hml, hown, hts, hl9, hG, hK, hA⟩
  have hS : va_S A s.heap s.heap [] := va_S.rf
  have hl := lv_entry ([.int p0]) (n := 1) (Nat.le_of_ble_eq_true rfl)
  rw [lg_entry_eq]
  generalize (lg_sl ([.int p0]) ++ List.replicate (1 - (lg_sl ([.int p0])).length) Slot.unset).toArray = ls at hl ⊢
  have hl : lv_has ls 1 [(0, .int p0)] := hl
  unfold f_X3_seedAfter at hf
  refine lv_iload_n hx hb dX3_seedAfter_0 rfl (lv_at hl 0 rfl) ?_
  refine lv_sipush (v := 211) hx hb dX3_seedAfter_1 (by decide) ?_
  refine lv_imul hx hb dX3_seedAfter_4 ?_
  refine lv_bipush (v := 97) hx hb dX3_seedAfter_5 (by decide) ?_
  refine lv_iadd hx hb dX3_seedAfter_7 ?_
  refine lv_sipush (v := 9973) hx hb dX3_seedAfter_8 (by decide) ?_
  obtain ⟨x1, ex1, hf⟩ := zl_i hf
  rw [← ex1]
  refine lv_irem hx hb dX3_seedAfter_11 (by decide) ?_
  obtain ⟨q1, q2⟩ := zs_i hf
  subst q1; subst q2
  exact z_iret hx hb hr rfl hP hS hlocks (Nat.le_of_ble_eq_true rfl) (Nat.le_of_ble_eq_true rfl) dX3_seedAfter_12

def lp_X2_countDraws_17 (r : Nat) (w1 : Int32) (w2 : Int32) : Nat → Int32 → Int32 → zT → Option ((Nat × Int32 × Int32) × zT)
  | 0, _, _, _ => none
  | n + 1, u3, u4, T => (if 20 < u4 then some ((1, (u3, u4)), T) else zb (f_X3_seedAfter u3 T) fun v6 T5 => zb (f_X2_reasonAgainst r w1 w2 (v6 - v6 / 360 * 360) T5) fun v9 T8 => (if v9 = 0 then some ((0, (v6, u4)), T8) else zl (u4 + 1) fun x11 => lp_X2_countDraws_17 r w1 w2 n v6 x11 T8))
def f_X2_countDraws (r : Nat) (p0 : Int32) (T : zT) : Option (Int32 × zT) := zb (f_X3_cell 8 r p0 T) fun v2 T1 => zl (T1.1 1 r 2) fun x4 => zb (lp_X2_countDraws_17 r p0 v2 2000 x4 1 T1) fun v13 T12 => if v13.1 = 0 then some (v13.2.2, T12) else if v13.1 = 1 then some ((-1), T12) else none
set_option maxHeartbeats 4000000 in
set_option maxRecDepth 100000 in
theorem l_X2_countDraws_17 {p : Program} {l : Launch} {e : Env} {s : State} {m : MethodId} {args : Array Value} {below : List Frame} {meth : Method} {c : Code} {Q : State → Prop} {D : va_G} {Y : Nat → ClassId} {S V : Nat → Nat} {G : Nat → Nat → Nat} {A : Nat → Prop} {c0 : Cond} {mc ms cells slots : Nat} {r : Nat} (F : zF 0 3 mc ms p l s m args c cX2_countDraws 5 RX2 c0 D Y S V G A) (hr0 : r < 15) (hcs : cells ≤ mc ∧ slots ≤ ms) (w1 : Int32) (w2 : Int32) :
    ∀ (n : Nat) (u3 : Int32) (u4 : Int32) (T : zT) (o : (Nat × Int32 × Int32) × zT) (H : Heap) (locs : List Loc) (ls : Array Slot), lp_X2_countDraws_17 r w1 w2 n u3 u4 T = some o → zP 0 D Y G T H → va_S A s.heap H locs → lv_has ls 5 [(0, .ref (G 1 r)), (1, .int w1), (2, .int w2), (3, .int u3), (4, .int u4)] → (o.1.1 = 0 → ∀ (H : Heap) (locs : List Loc) (ls : Array Slot), zP 0 D Y G o.2 H → va_S A s.heap H locs → lv_has ls 5 [(0, .ref (G 1 r)), (1, .int w1), (2, .int w2), (3, .int o.1.2.1), (4, .int o.1.2.2)] → W p l e (zR 3 mc ms) s m args below meth c H locs cells slots Q (F0 m 43 ls [])) → (o.1.1 = 1 → ∀ (H : Heap) (locs : List Loc) (ls : Array Slot), zP 0 D Y G o.2 H → va_S A s.heap H locs → lv_has ls 5 [(0, .ref (G 1 r)), (1, .int w1), (2, .int w2), (3, .int o.1.2.1), (4, .int o.1.2.2)] → W p l e (zR 3 mc ms) s m args below meth c H locs cells slots Q (F0 m 52 ls [])) → W p l e (zR 3 mc ms) s m args below meth c H locs cells slots Q (F0 m 17 ls []) := by
  obtain ⟨hx, hb, hml, hown, hts, hl9, hG, hK, hA⟩ := id F
  intro n
  induction n with
  | zero =>
    intro u3 u4 T o H locs ls hf
    rw [lp_X2_countDraws_17] at hf
    cases hf
  | succ n ih =>
    intro u3 u4 T o H locs ls hf hP hS hl k0_ k1_
    rw [lp_X2_countDraws_17] at hf
    refine lv_iload hx hb dX2_countDraws_17 (lv_at hl 4 rfl) ?_
    refine lv_bipush (v := 20) hx hb dX2_countDraws_19 (by decide) ?_
    refine lv_icmp_gt (tgt := 52) hx hb dX2_countDraws_21 (by decide) (fun hc => ?_) (fun hc => ?_)
    · have hf := zif_p hf hc
      cases hf
      exact k1_ rfl _ _ _ hP hS (lv_sub hl [0, 1, 2, 3, 4] rfl)
    · have hf := zif_n hf hc
      refine lv_iload_n hx hb dX2_countDraws_24 rfl (lv_at hl 3 rfl) ?_
      obtain ⟨v6, T5, h7, hf⟩ := zb_i hf
      refine z_ok (z_runSN (As := [.int u3]) (rest := []) F k_X3_seedAfter (by decide +kernel) (c_X3_seedAfter u3 T T5 _ h7) hP hS rfl rfl hl.1 (Nat.le_of_ble_eq_true rfl) dX2_countDraws_25 (Nat.le_of_ble_eq_true rfl) ⟨hcs.1, hcs.2⟩ rfl) hS (fun H locs hP hS => ?_)
      refine lv_istore_n (lv' := [(3, .int v6), (0, .ref (G 1 r)), (1, .int w1), (2, .int w2), (4, .int u4)]) hx hb dX2_countDraws_28 rfl hl (by decide) rfl (fun ls hl => ?_)
      refine lv_aload_n hx hb dX2_countDraws_29 rfl (lv_at hl 1 rfl) ?_
      refine lv_iload_n hx hb dX2_countDraws_30 rfl (lv_at hl 2 rfl) ?_
      refine lv_iload_n hx hb dX2_countDraws_31 rfl (lv_at hl 3 rfl) ?_
      refine lv_iload_n hx hb dX2_countDraws_32 rfl (lv_at hl 0 rfl) ?_
      refine lv_sipush (v := 360) hx hb dX2_countDraws_33 (by decide) ?_
      refine lv_irem hx hb dX2_countDraws_36 (by decide) ?_
      obtain ⟨v9, T8, h10, hf⟩ := zb_i hf
      refine z_ok (z_runV (As := [.int w1, .int w2, .int (v6 - v6 / 360 * 360)]) (rest := []) F k_X2_reasonAgainst m_385 (c_X2_reasonAgainst r hr0 w1 w2 (v6 - v6 / 360 * 360) T5 T8 _ h10) hP hS (zV_r (by decide) (by decide) hr0) rfl rfl rfl rfl hl.1 (Nat.le_of_ble_eq_true rfl) dX2_countDraws_37 (Nat.le_of_ble_eq_true rfl) ⟨hcs.1, hcs.2⟩ rfl) hS (fun H locs hP hS => ?_)
      refine lv_if_ne (tgt := 46) hx hb dX2_countDraws_40 (by decide) (fun hc => ?_) (fun hc => ?_)
      · have hf := zif_n hf hc
        obtain ⟨x11, ex11, hf⟩ := zl_i hf
        refine lv_iinc (v := x11) (lv' := [(4, .int x11), (3, .int v6), (0, .ref (G 1 r)), (1, .int w1), (2, .int w2)]) hx hb dX2_countDraws_46 hl (k := 4) rfl (by rw [ex11]; rfl) (by decide) rfl (fun ls hl => ?_)
        refine lv_goto (tgt := 17) hx hb dX2_countDraws_49 (by decide) ?_
        exact ih v6 x11 _ _ _ _ _ hf hP hS (lv_sub hl [2, 3, 4, 1, 0] rfl) k0_ k1_
      · have hf := zif_p hf hc
        cases hf
        exact k0_ rfl _ _ _ hP hS (lv_sub hl [1, 2, 3, 0, 4] rfl)
set_option maxHeartbeats 4000000 in
set_option maxRecDepth 100000 in
theorem c_X2_countDraws (r : Nat) (hr0 : r < 15) (p0 : Int32) (T T' : zT) (v : Int32) (hf : f_X2_countDraws r p0 T = some (v, T')) : zC 0 yX2_countDraws cX2_countDraws 5 (some .int) 3  0 0  (fun G _ => [.ref (G 1 r), .int p0]) T (fun _ => .inl (some (.int v))) T' := by
  intro l D Y S V G A hl9 hG
  refine vx_ofW (cc := cX2_countDraws) (maxL := 5) (ret := (some .int)) (by decide) rfl ?_
  intro p e s m args below meth c s₁ B hml hex hv
  obtain ⟨rfl, hK, hP, hA⟩ := hv
  have hx := B.exec
  have hb := B.bytes
  have hr := B.returns
  have hlocks := B.notSynchronized
  have hown : s.vm.findClass RX2 = some m.cls := findClass_of_methodNamed B.named
  have hts := atoms_spec (ws := Cond.code yX2_countDraws cX2_countDraws 5 (some .int) :: zWS) B.pre
  have F : zF 0 3  0 0  p l s m _ c cX2_countDraws 5 RX2 (Cond.code yX2_countDraws cX2_countDraws 5 (some .int)) D Y S V G A := ⟨hx, hb, hml, hown, hts, hl9, hG, hK, hA⟩
  have hS : va_S A s.heap s.heap [] := va_S.rf
  have hl := lv_entry ([.ref (G 1 r), .int p0]) (n := 5) (Nat.le_of_ble_eq_true rfl)
  rw [lg_entry_eq]
  generalize (lg_sl ([.ref (G 1 r), .int p0]) ++ List.replicate (5 - (lg_sl ([.ref (G 1 r), .int p0])).length) Slot.unset).toArray = ls at hl ⊢
  have hl : lv_has ls 5 [(0, .ref (G 1 r)), (1, .int p0)] := hl
  unfold f_X2_countDraws at hf
  refine lv_aload_n hx hb dX2_countDraws_0 rfl (lv_at hl 0 rfl) ?_
  refine z_get hx hb hts (fun w h => List.mem_cons_of_mem _ (ziX2 w h)) hown hK hP (zV_r (by decide) (by decide) hr0) rfl rfl 16 (by decide) (List.mem_cons_of_mem _ m_101) rfl rfl dX2_countDraws_1 ?_
  refine lv_iload_n hx hb dX2_countDraws_4 rfl (lv_at hl 1 rfl) ?_
  obtain ⟨v2, T1, h3, hf⟩ := zb_i hf
  refine z_ok (z_runSN (As := [.ref (G 8 r), .int p0]) (rest := []) F k_X3_cell (by decide +kernel) (c_X3_cell 8 r (zIA_r (by decide) (by decide) hr0) p0 T T1 _ h3) hP hS rfl rfl hl.1 (Nat.le_of_ble_eq_true rfl) dX2_countDraws_5 (Nat.le_of_ble_eq_true rfl) ⟨Nat.le_of_ble_eq_true rfl, Nat.le_of_ble_eq_true rfl⟩ rfl) hS (fun H locs hP hS => ?_)
  refine lv_istore_n (lv' := [(2, .int v2), (0, .ref (G 1 r)), (1, .int p0)]) hx hb dX2_countDraws_8 rfl hl (by decide) rfl (fun ls hl => ?_)
  refine lv_aload_n hx hb dX2_countDraws_9 rfl (lv_at hl 1 rfl) ?_
  refine z_get hx hb hts (fun w h => List.mem_cons_of_mem _ (ziX2 w h)) hown hK hP (zV_r (by decide) (by decide) hr0) rfl rfl 2 (by decide) (List.mem_cons_of_mem _ m_71) rfl rfl dX2_countDraws_10 ?_
  obtain ⟨x4, ex4, hf⟩ := zl_i hf
  refine z_topi ex4 ?_
  refine lv_istore_n (lv' := [(3, .int x4), (2, .int v2), (0, .ref (G 1 r)), (1, .int p0)]) hx hb dX2_countDraws_13 rfl hl (by decide) rfl (fun ls hl => ?_)
  refine lv_iconst (v := 1) hx hb dX2_countDraws_14 (by decide) ?_
  refine lv_istore (lv' := [(4, .int 1), (3, .int x4), (2, .int v2), (0, .ref (G 1 r)), (1, .int p0)]) hx hb dX2_countDraws_15 hl (by decide) rfl (fun ls hl => ?_)
  obtain ⟨v13, T12, h14, hf⟩ := zb_i hf
  refine l_X2_countDraws_17 F hr0 ⟨Nat.le_of_ble_eq_true rfl, Nat.le_of_ble_eq_true rfl⟩ p0 v2 2000 x4 1 _ _ _ _ _ h14 hP hS (lv_sub hl [3, 4, 2, 1, 0] rfl) (fun hc H locs ls hP hS hl => ?_) (fun hc H locs ls hP hS hl => ?_)
  · have hf := zif_p hf hc
    refine lv_iload hx hb dX2_countDraws_43 (lv_at hl 4 rfl) ?_
    obtain ⟨q1, q2⟩ := zs_i hf
    subst q1; subst q2
    exact z_iret hx hb hr rfl hP hS hlocks (Nat.le_of_ble_eq_true rfl) (Nat.le_of_ble_eq_true rfl) dX2_countDraws_45
  · have hf := zif_n hf (by rw [hc]; decide)
    have hf := zif_p hf hc
    refine lv_iconst (v := (-1)) hx hb dX2_countDraws_52 (by decide) ?_
    obtain ⟨q1, q2⟩ := zs_i hf
    subst q1; subst q2
    exact z_iret hx hb hr rfl hP hS hlocks (Nat.le_of_ble_eq_true rfl) (Nat.le_of_ble_eq_true rfl) dX2_countDraws_53

def lp_X2_drawBirthday_2 (r : Nat) (w1 : Int32) (w2 : Int32) : Nat → Int32 → zT → Option ((Int32) × zT)
  | 0, _, _ => none
  | n + 1, u3, T => (if w2 ≤ u3 then some (u3, T) else zb (f_X3_seedAfter (T.1 1 r 2) T) fun v2 T1 => zl (wI T1 1 r 2 v2) fun T4 => zl (u3 + 1) fun x5 => lp_X2_drawBirthday_2 r w1 w2 n x5 T4)
def f_X2_drawBirthday (r : Nat) (p0 : Int32) (p1 : Int32) (T : zT) : Option (Unit × zT) := zb (lp_X2_drawBirthday_2 r p0 p1 2000 0 T) fun v7 T6 => zl (T6.1 1 r 2) fun x9 => zb (f_X3_setCell 9 r p0 (x9 - x9 / 360 * 360) T6) fun _v11 T10 => some ((), T10)
set_option maxHeartbeats 4000000 in
set_option maxRecDepth 100000 in
theorem l_X2_drawBirthday_2 {p : Program} {l : Launch} {e : Env} {s : State} {m : MethodId} {args : Array Value} {below : List Frame} {meth : Method} {c : Code} {Q : State → Prop} {D : va_G} {Y : Nat → ClassId} {S V : Nat → Nat} {G : Nat → Nat → Nat} {A : Nat → Prop} {c0 : Cond} {mc ms cells slots : Nat} {r : Nat} (F : zF 0 1 mc ms p l s m args c cX2_drawBirthday 4 RX2 c0 D Y S V G A) (hr0 : r < 15) (hcs : cells ≤ mc ∧ slots ≤ ms) (w1 : Int32) (w2 : Int32) :
    ∀ (n : Nat) (u3 : Int32) (T : zT) (o : (Int32) × zT) (H : Heap) (locs : List Loc) (ls : Array Slot), lp_X2_drawBirthday_2 r w1 w2 n u3 T = some o → zP 0 D Y G T H → va_S A s.heap H locs → lv_has ls 4 [(0, .ref (G 1 r)), (1, .int w1), (2, .int w2), (3, .int u3)] → (∀ (H : Heap) (locs : List Loc) (ls : Array Slot), zP 0 D Y G o.2 H → va_S A s.heap H locs → lv_has ls 4 [(0, .ref (G 1 r)), (1, .int w1), (2, .int w2), (3, .int o.1)] → W p l e (zR 1 mc ms) s m args below meth c H locs cells slots Q (F0 m 24 ls [])) → W p l e (zR 1 mc ms) s m args below meth c H locs cells slots Q (F0 m 2 ls []) := by
  obtain ⟨hx, hb, hml, hown, hts, hl9, hG, hK, hA⟩ := id F
  intro n
  induction n with
  | zero =>
    intro u3 T o H locs ls hf
    rw [lp_X2_drawBirthday_2] at hf
    cases hf
  | succ n ih =>
    intro u3 T o H locs ls hf hP hS hl k0_
    rw [lp_X2_drawBirthday_2] at hf
    refine lv_iload_n hx hb dX2_drawBirthday_2 rfl (lv_at hl 3 rfl) ?_
    refine lv_iload_n hx hb dX2_drawBirthday_3 rfl (lv_at hl 2 rfl) ?_
    refine lv_icmp_ge (tgt := 24) hx hb dX2_drawBirthday_4 (by decide) (fun hc => ?_) (fun hc => ?_)
    · have hf := zif_p hf hc
      cases hf
      exact k0_ _ _ _ hP hS (lv_sub hl [0, 1, 2, 3] rfl)
    · have hf := zif_n hf hc
      refine lv_aload_n hx hb dX2_drawBirthday_7 rfl (lv_at hl 0 rfl) ?_
      refine lv_aload_n hx hb dX2_drawBirthday_8 rfl (lv_at hl 0 rfl) ?_
      refine z_get hx hb hts (fun w h => List.mem_cons_of_mem _ (ziX2 w h)) hown hK hP (zV_r (by decide) (by decide) hr0) rfl rfl 2 (by decide) (List.mem_cons_of_mem _ m_71) rfl rfl dX2_drawBirthday_9 ?_
      obtain ⟨v2, T1, h3, hf⟩ := zb_i hf
      refine z_ok (z_runSN (As := [.int (T.1 1 r 2)]) (rest := [.ref (G 1 r)]) F k_X3_seedAfter (by decide +kernel) (c_X3_seedAfter (T.1 1 r 2) T T1 _ h3) hP hS rfl rfl hl.1 (Nat.le_of_ble_eq_true rfl) dX2_drawBirthday_12 (Nat.le_of_ble_eq_true rfl) ⟨hcs.1, hcs.2⟩ rfl) hS (fun H locs hP hS => ?_)
      obtain ⟨T4, eT4, hf⟩ := zl_i hf
      refine z_put hx hb hts (fun w h => List.mem_cons_of_mem _ (ziX2 w h)) tyX2 tyX2_ok nmX2 hown hK hP hG hS (zV_r (by decide) (by decide) hr0) rfl rfl 2 (by decide) (List.mem_cons_of_mem _ m_71) rfl rfl (by decide +kernel) (Nat.le_of_ble_eq_true rfl) (znew2 (by decide)) dX2_drawBirthday_15 (fun H locs hP hS => ?_)
      rw [← eT4] at hP
      obtain ⟨x5, ex5, hf⟩ := zl_i hf
      refine lv_iinc (v := x5) (lv' := [(3, .int x5), (0, .ref (G 1 r)), (1, .int w1), (2, .int w2)]) hx hb dX2_drawBirthday_18 hl (k := 3) rfl (by rw [ex5]; rfl) (by decide) rfl (fun ls hl => ?_)
      refine lv_goto (tgt := 2) hx hb dX2_drawBirthday_21 (by decide) ?_
      exact ih x5 _ _ _ _ _ hf hP hS (lv_sub hl [1, 2, 3, 0] rfl) k0_
set_option maxHeartbeats 4000000 in
set_option maxRecDepth 100000 in
theorem c_X2_drawBirthday (r : Nat) (hr0 : r < 15) (p0 : Int32) (p1 : Int32) (T T' : zT) (v : Unit) (hf : f_X2_drawBirthday r p0 p1 T = some (v, T')) : zC 0 yX2_drawBirthday cX2_drawBirthday 4 none 1  0 0  (fun G _ => [.ref (G 1 r), .int p0, .int p1]) T (fun _ => .inl none) T' := by
  intro l D Y S V G A hl9 hG
  refine vx_ofW (cc := cX2_drawBirthday) (maxL := 4) (ret := none) (by decide) rfl ?_
  intro p e s m args below meth c s₁ B hml hex hv
  obtain ⟨rfl, hK, hP, hA⟩ := hv
  have hx := B.exec
  have hb := B.bytes
  have hr := B.returns
  have hlocks := B.notSynchronized
  have hown : s.vm.findClass RX2 = some m.cls := findClass_of_methodNamed B.named
  have hts := atoms_spec (ws := Cond.code yX2_drawBirthday cX2_drawBirthday 4 none :: zWS) B.pre
  have F : zF 0 1  0 0  p l s m _ c cX2_drawBirthday 4 RX2 (Cond.code yX2_drawBirthday cX2_drawBirthday 4 none) D Y S V G A := ⟨hx, hb, hml, hown, hts, hl9, hG, hK, hA⟩
  have hS : va_S A s.heap s.heap [] := va_S.rf
  have hl := lv_entry ([.ref (G 1 r), .int p0, .int p1]) (n := 4) (Nat.le_of_ble_eq_true rfl)
  rw [lg_entry_eq]
  generalize (lg_sl ([.ref (G 1 r), .int p0, .int p1]) ++ List.replicate (4 - (lg_sl ([.ref (G 1 r), .int p0, .int p1])).length) Slot.unset).toArray = ls at hl ⊢
  have hl : lv_has ls 4 [(0, .ref (G 1 r)), (1, .int p0), (2, .int p1)] := hl
  unfold f_X2_drawBirthday at hf
  refine lv_iconst (v := 0) hx hb dX2_drawBirthday_0 (by decide) ?_
  refine lv_istore_n (lv' := [(3, .int 0), (0, .ref (G 1 r)), (1, .int p0), (2, .int p1)]) hx hb dX2_drawBirthday_1 rfl hl (by decide) rfl (fun ls hl => ?_)
  obtain ⟨v7, T6, h8, hf⟩ := zb_i hf
  refine l_X2_drawBirthday_2 F hr0 ⟨Nat.le_of_ble_eq_true rfl, Nat.le_of_ble_eq_true rfl⟩ p0 p1 2000 0 _ _ _ _ _ h8 hP hS (lv_sub hl [1, 2, 3, 0] rfl) (fun H locs ls hP hS hl => ?_)
  refine lv_aload_n hx hb dX2_drawBirthday_24 rfl (lv_at hl 0 rfl) ?_
  refine z_get hx hb hts (fun w h => List.mem_cons_of_mem _ (ziX2 w h)) hown hK hP (zV_r (by decide) (by decide) hr0) rfl rfl 17 (by decide) (List.mem_cons_of_mem _ m_104) rfl rfl dX2_drawBirthday_25 ?_
  refine lv_iload_n hx hb dX2_drawBirthday_28 rfl (lv_at hl 1 rfl) ?_
  refine lv_aload_n hx hb dX2_drawBirthday_29 rfl (lv_at hl 0 rfl) ?_
  refine z_get hx hb hts (fun w h => List.mem_cons_of_mem _ (ziX2 w h)) hown hK hP (zV_r (by decide) (by decide) hr0) rfl rfl 2 (by decide) (List.mem_cons_of_mem _ m_71) rfl rfl dX2_drawBirthday_30 ?_
  refine lv_sipush (v := 360) hx hb dX2_drawBirthday_33 (by decide) ?_
  obtain ⟨x9, ex9, hf⟩ := zl_i hf
  rw [← ex9]
  refine lv_irem hx hb dX2_drawBirthday_36 (by decide) ?_
  obtain ⟨v11, T10, h12, hf⟩ := zb_i hf
  refine z_ok (z_runSN (As := [.ref (G 9 r), .int p0, .int (x9 - x9 / 360 * 360)]) (rest := []) F k_X3_setCell (by decide +kernel) (c_X3_setCell 9 r (zIA_r (by decide) (by decide) hr0) p0 (x9 - x9 / 360 * 360) T6 T10 _ h12) hP hS rfl rfl hl.1 (Nat.le_of_ble_eq_true rfl) dX2_drawBirthday_37 (Nat.le_of_ble_eq_true rfl) ⟨Nat.le_of_ble_eq_true rfl, Nat.le_of_ble_eq_true rfl⟩ rfl) hS (fun H locs hP hS => ?_)
  obtain ⟨q1, q2⟩ := zs_i hf
  subst q1; subst q2
  exact z_vret hx hb hr rfl hP hS hlocks (Nat.le_of_ble_eq_true rfl) (Nat.le_of_ble_eq_true rfl) dX2_drawBirthday_40

def f_X3_addToCell (k0 i0 : Nat) (p1 : Int32) (p2 : Int32) (T : zT) : Option (Unit × zT) := (if p1 < 0 then some ((), T) else (if (nI (zlen 0 k0 i0)) ≤ p1 then some ((), T) else if zin p1 (zlen 0 k0 i0) = true then if zin p1 (zlen 0 k0 i0) = true then zl (wA T k0 i0 (upd (T.2 k0 i0) p1.toNatClampNeg ((T.2 k0 i0 p1.toNatClampNeg) + p2))) fun T3 => some ((), T3) else none else none))
set_option maxHeartbeats 4000000 in
set_option maxRecDepth 100000 in
theorem c_X3_addToCell (k0 i0 : Nat) (hI0 : zIA 0 k0 i0) (p1 : Int32) (p2 : Int32) (T T' : zT) (v : Unit) (hf : f_X3_addToCell k0 i0 p1 p2 T = some (v, T')) : zC 0 yX3_addToCell cX3_addToCell 3 none 0  0 0  (fun G _ => [.ref (G k0 i0), .int p1, .int p2]) T (fun _ => .inl none) T' := by
  intro l D Y S V G A hl9 hG
  refine vx_ofW (cc := cX3_addToCell) (maxL := 3) (ret := none) (by decide) rfl ?_
  intro p e s m args below meth c s₁ B hml hex hv
  obtain ⟨rfl, hK, hP, hA⟩ := hv
  have hx := B.exec
  have hb := B.bytes
  have hr := B.returns
  have hlocks := B.notSynchronized
  have hown : s.vm.findClass RX3 = some m.cls := findClass_of_methodNamed B.named
  have hts := atoms_spec (ws := Cond.code yX3_addToCell cX3_addToCell 3 none :: zWS) B.pre
  have F : zF 0 0  0 0  p l s m _ c cX3_addToCell 3 RX3 (Cond.code yX3_addToCell cX3_addToCell 3 none) D Y S V G A := ⟨hx, hb, hml, hown, hts, hl9, hG, hK, hA⟩
  have hS : va_S A s.heap s.heap [] := va_S.rf
  have hl := lv_entry ([.ref (G k0 i0), .int p1, .int p2]) (n := 3) (Nat.le_of_ble_eq_true rfl)
  rw [lg_entry_eq]
  generalize (lg_sl ([.ref (G k0 i0), .int p1, .int p2]) ++ List.replicate (3 - (lg_sl ([.ref (G k0 i0), .int p1, .int p2])).length) Slot.unset).toArray = ls at hl ⊢
  have hl : lv_has ls 3 [(0, .ref (G k0 i0)), (1, .int p1), (2, .int p2)] := hl
  unfold f_X3_addToCell at hf
  refine lv_iload_n hx hb dX3_addToCell_0 rfl (lv_at hl 1 rfl) ?_
  refine lv_if_lt (tgt := 17) hx hb dX3_addToCell_1 (by decide) (fun hc => ?_) (fun hc => ?_)
  · have hf := zif_p hf hc
    obtain ⟨q1, q2⟩ := zs_i hf
    subst q1; subst q2
    exact z_vret hx hb hr rfl hP hS hlocks (Nat.le_of_ble_eq_true rfl) (Nat.le_of_ble_eq_true rfl) dX3_addToCell_17
  · have hf := zif_n hf hc
    refine lv_iload_n hx hb dX3_addToCell_4 rfl (lv_at hl 1 rfl) ?_
    refine lv_aload_n hx hb dX3_addToCell_5 rfl (lv_at hl 0 rfl) ?_
    refine z_alen (v := (nI (zlen 0 k0 i0))) hx hb hK hP hI0.V 0 (hI0.cell Y G _) rfl rfl dX3_addToCell_6 ?_
    refine lv_icmp_ge (tgt := 17) hx hb dX3_addToCell_7 (by decide) (fun hc => ?_) (fun hc => ?_)
    · have hf := zif_p hf hc
      obtain ⟨q1, q2⟩ := zs_i hf
      subst q1; subst q2
      exact z_vret hx hb hr rfl hP hS hlocks (Nat.le_of_ble_eq_true rfl) (Nat.le_of_ble_eq_true rfl) dX3_addToCell_17
    · have hf := zif_n hf hc
      refine lv_aload_n hx hb dX3_addToCell_10 rfl (lv_at hl 0 rfl) ?_
      refine lv_iload_n hx hb dX3_addToCell_11 rfl (lv_at hl 1 rfl) ?_
      refine lv_dup2_11 hx hb dX3_addToCell_12 rfl rfl ?_
      obtain ⟨h1, hf⟩ := zif_c hf
      refine z_iald hx hb hK hP hI0 (zin_i h1) dX3_addToCell_13 ?_
      refine lv_iload_n hx hb dX3_addToCell_14 rfl (lv_at hl 2 rfl) ?_
      refine lv_iadd hx hb dX3_addToCell_15 ?_
      obtain ⟨h2, hf⟩ := zif_c hf
      obtain ⟨T3, eT3, hf⟩ := zl_i hf
      refine z_iast hx hb hK hP hG hS hI0 (zin_i h2) dX3_addToCell_16 (fun H locs hP hS => ?_)
      rw [← eT3] at hP
      obtain ⟨q1, q2⟩ := zs_i hf
      subst q1; subst q2
      exact z_vret hx hb hr rfl hP hS hlocks (Nat.le_of_ble_eq_true rfl) (Nat.le_of_ble_eq_true rfl) dX3_addToCell_17

def f_X2_daysLeft (r : Nat) (T : zT) : Option (Int32 × zT) := some ((((((99 - (T.1 1 r 0)) * 360) + 360) - 1) - (T.1 1 r 1)), T)
set_option maxHeartbeats 4000000 in
set_option maxRecDepth 100000 in
theorem c_X2_daysLeft (r : Nat) (hr0 : r < 15) (T T' : zT) (v : Int32) (hf : f_X2_daysLeft r T = some (v, T')) : zC 0 yX2_daysLeft cX2_daysLeft 1 (some .int) 0  0 0  (fun G _ => [.ref (G 1 r)]) T (fun _ => .inl (some (.int v))) T' := by
  intro l D Y S V G A hl9 hG
  refine vx_ofW (cc := cX2_daysLeft) (maxL := 1) (ret := (some .int)) (by decide) rfl ?_
  intro p e s m args below meth c s₁ B hml hex hv
  obtain ⟨rfl, hK, hP, hA⟩ := hv
  have hx := B.exec
  have hb := B.bytes
  have hr := B.returns
  have hlocks := B.notSynchronized
  have hown : s.vm.findClass RX2 = some m.cls := findClass_of_methodNamed B.named
  have hts := atoms_spec (ws := Cond.code yX2_daysLeft cX2_daysLeft 1 (some .int) :: zWS) B.pre
  have F : zF 0 0  0 0  p l s m _ c cX2_daysLeft 1 RX2 (Cond.code yX2_daysLeft cX2_daysLeft 1 (some .int)) D Y S V G A := ⟨hx, hb, hml, hown, hts, hl9, hG, hK, hA⟩
  have hS : va_S A s.heap s.heap [] := va_S.rf
  have hl := lv_entry ([.ref (G 1 r)]) (n := 1) (Nat.le_of_ble_eq_true rfl)
  rw [lg_entry_eq]
  generalize (lg_sl ([.ref (G 1 r)]) ++ List.replicate (1 - (lg_sl ([.ref (G 1 r)])).length) Slot.unset).toArray = ls at hl ⊢
  have hl : lv_has ls 1 [(0, .ref (G 1 r))] := hl
  unfold f_X2_daysLeft at hf
  refine lv_bipush (v := 99) hx hb dX2_daysLeft_0 (by decide) ?_
  refine lv_aload_n hx hb dX2_daysLeft_2 rfl (lv_at hl 0 rfl) ?_
  refine z_get hx hb hts (fun w h => List.mem_cons_of_mem _ (ziX2 w h)) hown hK hP (zV_r (by decide) (by decide) hr0) rfl rfl 0 (by decide) (List.mem_cons_of_mem _ m_67) rfl rfl dX2_daysLeft_3 ?_
  refine lv_isub hx hb dX2_daysLeft_6 ?_
  refine lv_sipush (v := 360) hx hb dX2_daysLeft_7 (by decide) ?_
  refine lv_imul hx hb dX2_daysLeft_10 ?_
  refine lv_sipush (v := 360) hx hb dX2_daysLeft_11 (by decide) ?_
  refine lv_iadd hx hb dX2_daysLeft_14 ?_
  refine lv_iconst (v := 1) hx hb dX2_daysLeft_15 (by decide) ?_
  refine lv_isub hx hb dX2_daysLeft_16 ?_
  refine lv_aload_n hx hb dX2_daysLeft_17 rfl (lv_at hl 0 rfl) ?_
  refine z_get hx hb hts (fun w h => List.mem_cons_of_mem _ (ziX2 w h)) hown hK hP (zV_r (by decide) (by decide) hr0) rfl rfl 1 (by decide) (List.mem_cons_of_mem _ m_69) rfl rfl dX2_daysLeft_18 ?_
  refine lv_isub hx hb dX2_daysLeft_21 ?_
  obtain ⟨q1, q2⟩ := zs_i hf
  subst q1; subst q2
  exact z_iret hx hb hr rfl hP hS hlocks (Nat.le_of_ble_eq_true rfl) (Nat.le_of_ble_eq_true rfl) dX2_daysLeft_22

def f_X2_beginNextDate (r : Nat) (T : zT) : Option (Unit × zT) := zl ((T.1 1 r 1) + 1) fun x1 => zl (wI T 1 r 1 x1) fun T2 => (if (T2.1 1 r 1) = 360 then zl (wI T2 1 r 1 0) fun T3 => zl ((T3.1 1 r 0) + 1) fun x4 => zl (wI T3 1 r 0 x4) fun T5 => some ((), T5) else some ((), T2))
set_option maxHeartbeats 4000000 in
set_option maxRecDepth 100000 in
theorem c_X2_beginNextDate (r : Nat) (hr0 : r < 15) (T T' : zT) (v : Unit) (hf : f_X2_beginNextDate r T = some (v, T')) : zC 0 yX2_beginNextDate cX2_beginNextDate 1 none 0  0 0  (fun G _ => [.ref (G 1 r)]) T (fun _ => .inl none) T' := by
  intro l D Y S V G A hl9 hG
  refine vx_ofW (cc := cX2_beginNextDate) (maxL := 1) (ret := none) (by decide) rfl ?_
  intro p e s m args below meth c s₁ B hml hex hv
  obtain ⟨rfl, hK, hP, hA⟩ := hv
  have hx := B.exec
  have hb := B.bytes
  have hr := B.returns
  have hlocks := B.notSynchronized
  have hown : s.vm.findClass RX2 = some m.cls := findClass_of_methodNamed B.named
  have hts := atoms_spec (ws := Cond.code yX2_beginNextDate cX2_beginNextDate 1 none :: zWS) B.pre
  have F : zF 0 0  0 0  p l s m _ c cX2_beginNextDate 1 RX2 (Cond.code yX2_beginNextDate cX2_beginNextDate 1 none) D Y S V G A := ⟨hx, hb, hml, hown, hts, hl9, hG, hK, hA⟩
  have hS : va_S A s.heap s.heap [] := va_S.rf
  have hl := lv_entry ([.ref (G 1 r)]) (n := 1) (Nat.le_of_ble_eq_true rfl)
  rw [lg_entry_eq]
  generalize (lg_sl ([.ref (G 1 r)]) ++ List.replicate (1 - (lg_sl ([.ref (G 1 r)])).length) Slot.unset).toArray = ls at hl ⊢
  have hl : lv_has ls 1 [(0, .ref (G 1 r))] := hl
  unfold f_X2_beginNextDate at hf
  refine lv_aload_n hx hb dX2_beginNextDate_0 rfl (lv_at hl 0 rfl) ?_
  refine lv_dup hx hb dX2_beginNextDate_1 rfl ?_
  refine z_get hx hb hts (fun w h => List.mem_cons_of_mem _ (ziX2 w h)) hown hK hP (zV_r (by decide) (by decide) hr0) rfl rfl 1 (by decide) (List.mem_cons_of_mem _ m_69) rfl rfl dX2_beginNextDate_2 ?_
  refine lv_iconst (v := 1) hx hb dX2_beginNextDate_5 (by decide) ?_
  refine lv_iadd hx hb dX2_beginNextDate_6 ?_
  obtain ⟨x1, ex1, hf⟩ := zl_i hf
  refine z_topi ex1 ?_
  obtain ⟨T2, eT2, hf⟩ := zl_i hf
  refine z_put hx hb hts (fun w h => List.mem_cons_of_mem _ (ziX2 w h)) tyX2 tyX2_ok nmX2 hown hK hP hG hS (zV_r (by decide) (by decide) hr0) rfl rfl 1 (by decide) (List.mem_cons_of_mem _ m_69) rfl rfl (by decide +kernel) (Nat.le_of_ble_eq_true rfl) (znew2 (by decide)) dX2_beginNextDate_7 (fun H locs hP hS => ?_)
  rw [← eT2] at hP
  refine lv_aload_n hx hb dX2_beginNextDate_10 rfl (lv_at hl 0 rfl) ?_
  refine z_get hx hb hts (fun w h => List.mem_cons_of_mem _ (ziX2 w h)) hown hK hP (zV_r (by decide) (by decide) hr0) rfl rfl 1 (by decide) (List.mem_cons_of_mem _ m_69) rfl rfl dX2_beginNextDate_11 ?_
  refine lv_sipush (v := 360) hx hb dX2_beginNextDate_14 (by decide) ?_
  refine lv_icmp_ne (tgt := 35) hx hb dX2_beginNextDate_17 (by decide) (fun hc => ?_) (fun hc => ?_)
  · have hf := zif_n hf hc
    obtain ⟨q1, q2⟩ := zs_i hf
    subst q1; subst q2
    exact z_vret hx hb hr rfl hP hS hlocks (Nat.le_of_ble_eq_true rfl) (Nat.le_of_ble_eq_true rfl) dX2_beginNextDate_35
  · have hf := zif_p hf hc
    refine lv_aload_n hx hb dX2_beginNextDate_20 rfl (lv_at hl 0 rfl) ?_
    refine lv_iconst (v := 0) hx hb dX2_beginNextDate_21 (by decide) ?_
    obtain ⟨T3, eT3, hf⟩ := zl_i hf
    refine z_put hx hb hts (fun w h => List.mem_cons_of_mem _ (ziX2 w h)) tyX2 tyX2_ok nmX2 hown hK hP hG hS (zV_r (by decide) (by decide) hr0) rfl rfl 1 (by decide) (List.mem_cons_of_mem _ m_69) rfl rfl (by decide +kernel) (Nat.le_of_ble_eq_true rfl) (znew2 (by decide)) dX2_beginNextDate_22 (fun H locs hP hS => ?_)
    rw [← eT3] at hP
    refine lv_aload_n hx hb dX2_beginNextDate_25 rfl (lv_at hl 0 rfl) ?_
    refine lv_dup hx hb dX2_beginNextDate_26 rfl ?_
    refine z_get hx hb hts (fun w h => List.mem_cons_of_mem _ (ziX2 w h)) hown hK hP (zV_r (by decide) (by decide) hr0) rfl rfl 0 (by decide) (List.mem_cons_of_mem _ m_67) rfl rfl dX2_beginNextDate_27 ?_
    refine lv_iconst (v := 1) hx hb dX2_beginNextDate_30 (by decide) ?_
    refine lv_iadd hx hb dX2_beginNextDate_31 ?_
    obtain ⟨x4, ex4, hf⟩ := zl_i hf
    refine z_topi ex4 ?_
    obtain ⟨T5, eT5, hf⟩ := zl_i hf
    refine z_put hx hb hts (fun w h => List.mem_cons_of_mem _ (ziX2 w h)) tyX2 tyX2_ok nmX2 hown hK hP hG hS (zV_r (by decide) (by decide) hr0) rfl rfl 0 (by decide) (List.mem_cons_of_mem _ m_67) rfl rfl (by decide +kernel) (Nat.le_of_ble_eq_true rfl) (znew2 (by decide)) dX2_beginNextDate_32 (fun H locs hP hS => ?_)
    rw [← eT5] at hP
    obtain ⟨q1, q2⟩ := zs_i hf
    subst q1; subst q2
    exact z_vret hx hb hr rfl hP hS hlocks (Nat.le_of_ble_eq_true rfl) (Nat.le_of_ble_eq_true rfl) dX2_beginNextDate_35

def lp_X2_cakeFor_2 (r : Nat) (w1 : Int32) : Nat → Int32 → zT → Option ((Nat × Int32 × Int32) × zT)
  | 0, _, _ => none
  | n + 1, u2, T => (if 6 ≤ u2 then some ((1, (u2, 0)), T) else zl (w1 + u2) fun x1 => zl (x1 - x1 / 6 * 6) fun x2 => zb (f_X3_cell 2 r x2 T) fun v4 T3 => (if v4 ≤ 0 then zl (u2 + 1) fun x6 => lp_X2_cakeFor_2 r w1 n x6 T3 else some ((0, (u2, x2)), T3)))
def f_X2_cakeFor (r : Nat) (p0 : Int32) (T : zT) : Option (Int32 × zT) := zb (lp_X2_cakeFor_2 r p0 2000 0 T) fun v8 T7 => if v8.1 = 0 then some (v8.2.2, T7) else if v8.1 = 1 then some ((-1), T7) else none
set_option maxHeartbeats 4000000 in
set_option maxRecDepth 100000 in
theorem l_X2_cakeFor_2 {p : Program} {l : Launch} {e : Env} {s : State} {m : MethodId} {args : Array Value} {below : List Frame} {meth : Method} {c : Code} {Q : State → Prop} {D : va_G} {Y : Nat → ClassId} {S V : Nat → Nat} {G : Nat → Nat → Nat} {A : Nat → Prop} {c0 : Cond} {mc ms cells slots : Nat} {r : Nat} (F : zF 0 1 mc ms p l s m args c cX2_cakeFor 4 RX2 c0 D Y S V G A) (hr0 : r < 15) (hcs : cells ≤ mc ∧ slots ≤ ms) (w1 : Int32) :
    ∀ (n : Nat) (u2 : Int32) (T : zT) (o : (Nat × Int32 × Int32) × zT) (H : Heap) (locs : List Loc) (ls : Array Slot), lp_X2_cakeFor_2 r w1 n u2 T = some o → zP 0 D Y G T H → va_S A s.heap H locs → lv_has ls 4 [(0, .ref (G 1 r)), (1, .int w1), (2, .int u2)] → (o.1.1 = 0 → ∀ (H : Heap) (locs : List Loc) (ls : Array Slot), zP 0 D Y G o.2 H → va_S A s.heap H locs → lv_has ls 4 [(0, .ref (G 1 r)), (1, .int w1), (2, .int o.1.2.1), (3, .int o.1.2.2)] → W p l e (zR 1 mc ms) s m args below meth c H locs cells slots Q (F0 m 26 ls [])) → (o.1.1 = 1 → ∀ (H : Heap) (locs : List Loc) (ls : Array Slot), zP 0 D Y G o.2 H → va_S A s.heap H locs → lv_has ls 4 [(0, .ref (G 1 r)), (1, .int w1), (2, .int o.1.2.1)] → W p l e (zR 1 mc ms) s m args below meth c H locs cells slots Q (F0 m 34 ls [])) → W p l e (zR 1 mc ms) s m args below meth c H locs cells slots Q (F0 m 2 ls []) := by
  obtain ⟨hx, hb, hml, hown, hts, hl9, hG, hK, hA⟩ := id F
  intro n
  induction n with
  | zero =>
    intro u2 T o H locs ls hf
    rw [lp_X2_cakeFor_2] at hf
    cases hf
  | succ n ih =>
    intro u2 T o H locs ls hf hP hS hl k0_ k1_
    rw [lp_X2_cakeFor_2] at hf
    refine lv_iload_n hx hb dX2_cakeFor_2 rfl (lv_at hl 2 rfl) ?_
    refine lv_bipush (v := 6) hx hb dX2_cakeFor_3 (by decide) ?_
    refine lv_icmp_ge (tgt := 34) hx hb dX2_cakeFor_5 (by decide) (fun hc => ?_) (fun hc => ?_)
    · have hf := zif_p hf hc
      cases hf
      exact k1_ rfl _ _ _ hP hS (lv_sub hl [0, 1, 2] rfl)
    · have hf := zif_n hf hc
      refine lv_iload_n hx hb dX2_cakeFor_8 rfl (lv_at hl 1 rfl) ?_
      refine lv_iload_n hx hb dX2_cakeFor_9 rfl (lv_at hl 2 rfl) ?_
      refine lv_iadd hx hb dX2_cakeFor_10 ?_
      refine lv_bipush (v := 6) hx hb dX2_cakeFor_11 (by decide) ?_
      obtain ⟨x1, ex1, hf⟩ := zl_i hf
      rw [← ex1]
      refine lv_irem hx hb dX2_cakeFor_13 (by decide) ?_
      obtain ⟨x2, ex2, hf⟩ := zl_i hf
      refine z_topi ex2 ?_
      refine lv_istore_n (lv' := [(3, .int x2), (0, .ref (G 1 r)), (1, .int w1), (2, .int u2)]) hx hb dX2_cakeFor_14 rfl hl (by decide) rfl (fun ls hl => ?_)
      refine lv_aload_n hx hb dX2_cakeFor_15 rfl (lv_at hl 1 rfl) ?_
      refine z_get hx hb hts (fun w h => List.mem_cons_of_mem _ (ziX2 w h)) hown hK hP (zV_r (by decide) (by decide) hr0) rfl rfl 10 (by decide) (List.mem_cons_of_mem _ m_89) rfl rfl dX2_cakeFor_16 ?_
      refine lv_iload_n hx hb dX2_cakeFor_19 rfl (lv_at hl 0 rfl) ?_
      obtain ⟨v4, T3, h5, hf⟩ := zb_i hf
      refine z_ok (z_runSN (As := [.ref (G 2 r), .int x2]) (rest := []) F k_X3_cell (by decide +kernel) (c_X3_cell 2 r (zIA_r (by decide) (by decide) hr0) x2 T T3 _ h5) hP hS rfl rfl hl.1 (Nat.le_of_ble_eq_true rfl) dX2_cakeFor_20 (Nat.le_of_ble_eq_true rfl) ⟨hcs.1, hcs.2⟩ rfl) hS (fun H locs hP hS => ?_)
      refine lv_if_le (tgt := 28) hx hb dX2_cakeFor_23 (by decide) (fun hc => ?_) (fun hc => ?_)
      · have hf := zif_p hf hc
        obtain ⟨x6, ex6, hf⟩ := zl_i hf
        refine lv_iinc (v := x6) (lv' := [(2, .int x6), (3, .int x2), (0, .ref (G 1 r)), (1, .int w1)]) hx hb dX2_cakeFor_28 hl (k := 3) rfl (by rw [ex6]; rfl) (by decide) rfl (fun ls hl => ?_)
        refine lv_goto (tgt := 2) hx hb dX2_cakeFor_31 (by decide) ?_
        exact ih x6 _ _ _ _ _ hf hP hS (lv_sub hl [2, 3, 0] rfl) k0_ k1_
      · have hf := zif_n hf hc
        cases hf
        exact k0_ rfl _ _ _ hP hS (lv_sub hl [1, 2, 3, 0] rfl)
set_option maxHeartbeats 4000000 in
set_option maxRecDepth 100000 in
theorem c_X2_cakeFor (r : Nat) (hr0 : r < 15) (p0 : Int32) (T T' : zT) (v : Int32) (hf : f_X2_cakeFor r p0 T = some (v, T')) : zC 0 yX2_cakeFor cX2_cakeFor 4 (some .int) 1  0 0  (fun G _ => [.ref (G 1 r), .int p0]) T (fun _ => .inl (some (.int v))) T' := by
  intro l D Y S V G A hl9 hG
  refine vx_ofW (cc := cX2_cakeFor) (maxL := 4) (ret := (some .int)) (by decide) rfl ?_
  intro p e s m args below meth c s₁ B hml hex hv
  obtain ⟨rfl, hK, hP, hA⟩ := hv
  have hx := B.exec
  have hb := B.bytes
  have hr := B.returns
  have hlocks := B.notSynchronized
  have hown : s.vm.findClass RX2 = some m.cls := findClass_of_methodNamed B.named
  have hts := atoms_spec (ws := Cond.code yX2_cakeFor cX2_cakeFor 4 (some .int) :: zWS) B.pre
  have F : zF 0 1  0 0  p l s m _ c cX2_cakeFor 4 RX2 (Cond.code yX2_cakeFor cX2_cakeFor 4 (some .int)) D Y S V G A := ⟨hx, hb, hml, hown, hts, hl9, hG, hK, hA⟩
  have hS : va_S A s.heap s.heap [] := va_S.rf
  have hl := lv_entry ([.ref (G 1 r), .int p0]) (n := 4) (Nat.le_of_ble_eq_true rfl)
  rw [lg_entry_eq]
  generalize (lg_sl ([.ref (G 1 r), .int p0]) ++ List.replicate (4 - (lg_sl ([.ref (G 1 r), .int p0])).length) Slot.unset).toArray = ls at hl ⊢
  have hl : lv_has ls 4 [(0, .ref (G 1 r)), (1, .int p0)] := hl
  unfold f_X2_cakeFor at hf
  refine lv_iconst (v := 0) hx hb dX2_cakeFor_0 (by decide) ?_
  refine lv_istore_n (lv' := [(2, .int 0), (0, .ref (G 1 r)), (1, .int p0)]) hx hb dX2_cakeFor_1 rfl hl (by decide) rfl (fun ls hl => ?_)
  obtain ⟨v8, T7, h9, hf⟩ := zb_i hf
  refine l_X2_cakeFor_2 F hr0 ⟨Nat.le_of_ble_eq_true rfl, Nat.le_of_ble_eq_true rfl⟩ p0 2000 0 _ _ _ _ _ h9 hP hS (lv_sub hl [1, 2, 0] rfl) (fun hc H locs ls hP hS hl => ?_) (fun hc H locs ls hP hS hl => ?_)
  · have hf := zif_p hf hc
    refine lv_iload_n hx hb dX2_cakeFor_26 rfl (lv_at hl 3 rfl) ?_
    obtain ⟨q1, q2⟩ := zs_i hf
    subst q1; subst q2
    exact z_iret hx hb hr rfl hP hS hlocks (Nat.le_of_ble_eq_true rfl) (Nat.le_of_ble_eq_true rfl) dX2_cakeFor_27
  · have hf := zif_n hf (by rw [hc]; decide)
    have hf := zif_p hf hc
    refine lv_iconst (v := (-1)) hx hb dX2_cakeFor_34 (by decide) ?_
    obtain ⟨q1, q2⟩ := zs_i hf
    subst q1; subst q2
    exact z_iret hx hb hr rfl hP hS hlocks (Nat.le_of_ble_eq_true rfl) (Nat.le_of_ble_eq_true rfl) dX2_cakeFor_35

def jn_X2_partyStrength_28 (r : Nat) (w1 : Int32) (w3 : Int32) (T : zT) : Option (Int32 × zT) := zb (f_X3_cell 8 r w1 T) fun v8 T7 => zb (f_X3_cell 3 r v8 T7) fun v11 T10 => zl (if (v11 - 1) < w3 then (v11 - 1) else w3) fun x13 => zb (f_X3_cell 6 r w1 T10) fun v15 T14 => some ((v15 + x13), T14)
def f_X2_partyStrength (r : Nat) (p0 : Int32) (p1 : Int32) (T : zT) : Option (Int32 × zT) := zb (f_X3_countOf p1 5 r (T.1 1 r 9) T) fun v2 T1 => zb (f_X3_cell 5 r p0 T1) fun v5 T4 => (if v5 = p1 then zl (v2 + (-1)) fun x17 => jn_X2_partyStrength_28 r p0 x17 T4 else jn_X2_partyStrength_28 r p0 v2 T4)
set_option maxHeartbeats 4000000 in
set_option maxRecDepth 100000 in
theorem j_X2_partyStrength_28 {p : Program} {l : Launch} {e : Env} {s : State} {m : MethodId} {args : Array Value} {below : List Frame} {meth : Method} {c : Code} {D : va_G} {Y : Nat → ClassId} {S V : Nat → Nat} {G : Nat → Nat → Nat} {A : Nat → Prop} {c0 : Cond} {r : Nat} (F : zF 0 1  0 0  p l s m args c cX2_partyStrength 5 RX2 c0 D Y S V G A) (hr : meth.sig.returnType = (some .int)) (hlocks : meth.locks = false) (hex : ∀ x ∈ c.exceptionTable.toList, False) (hr0 : r < 15) (w1 : Int32) (w3 : Int32) (T : zT) {T' : zT} {v : Int32} {H : Heap} {locs : List Loc} {ls : Array Slot} (hf : jn_X2_partyStrength_28 r w1 w3 T = some (v, T')) (hP : zP 0 D Y G T H) (hS : va_S A s.heap H locs) (hl : lv_has ls 5 [(0, .ref (G 1 r)), (1, .int w1), (3, .int w3)]) :
    W p l e (zR 1  0 0 ) s m args below meth c H locs 0 0 (vx_MQ below (zQ 0 D Y G A (.inl (some (.int v))) T') (zX 0 D Y G A (.inl (some (.int v))) T') args s  0 0  A) (F0 m 28 ls []) := by
  obtain ⟨hx, hb, hml, hown, hts, hl9, hG, hK, hA⟩ := id F
  unfold jn_X2_partyStrength_28 at hf
  refine lv_iload_n hx hb dX2_partyStrength_28 rfl (lv_at hl 2 rfl) ?_
  refine lv_aload_n hx hb dX2_partyStrength_29 rfl (lv_at hl 0 rfl) ?_
  refine z_get hx hb hts (fun w h => List.mem_cons_of_mem _ (ziX2 w h)) hown hK hP (zV_r (by decide) (by decide) hr0) rfl rfl 11 (by decide) (List.mem_cons_of_mem _ m_92) rfl rfl dX2_partyStrength_30 ?_
  refine lv_aload_n hx hb dX2_partyStrength_33 rfl (lv_at hl 0 rfl) ?_
  refine z_get hx hb hts (fun w h => List.mem_cons_of_mem _ (ziX2 w h)) hown hK hP (zV_r (by decide) (by decide) hr0) rfl rfl 16 (by decide) (List.mem_cons_of_mem _ m_101) rfl rfl dX2_partyStrength_34 ?_
  refine lv_iload_n hx hb dX2_partyStrength_37 rfl (lv_at hl 1 rfl) ?_
  obtain ⟨v8, T7, h9, hf⟩ := zb_i hf
  refine z_ok (z_runSN (As := [.ref (G 8 r), .int w1]) (rest := [.ref (G 3 r), .int w3]) F k_X3_cell (by decide +kernel) (c_X3_cell 8 r (zIA_r (by decide) (by decide) hr0) w1 T T7 _ h9) hP hS rfl rfl hl.1 (Nat.le_of_ble_eq_true rfl) dX2_partyStrength_38 (Nat.le_of_ble_eq_true rfl) ⟨Nat.le_of_ble_eq_true rfl, Nat.le_of_ble_eq_true rfl⟩ rfl) hS (fun H locs hP hS => ?_)
  obtain ⟨v11, T10, h12, hf⟩ := zb_i hf
  refine z_ok (z_runSN (As := [.ref (G 3 r), .int v8]) (rest := [.int w3]) F k_X3_cell (by decide +kernel) (c_X3_cell 3 r (zIA_r (by decide) (by decide) hr0) v8 T7 T10 _ h12) hP hS rfl rfl hl.1 (Nat.le_of_ble_eq_true rfl) dX2_partyStrength_41 (Nat.le_of_ble_eq_true rfl) ⟨Nat.le_of_ble_eq_true rfl, Nat.le_of_ble_eq_true rfl⟩ rfl) hS (fun H locs hP hS => ?_)
  refine lv_iconst (v := 1) hx hb dX2_partyStrength_44 (by decide) ?_
  refine lv_isub hx hb dX2_partyStrength_45 ?_
  refine z_mmin F m_427 m_408 m_40 m_409 hl.1 (Nat.le_of_ble_eq_true rfl) (Nat.le_of_ble_eq_true rfl) ⟨Nat.le_of_ble_eq_true rfl, Nat.le_of_ble_eq_true rfl⟩ dX2_partyStrength_46 ?_
  obtain ⟨x13, ex13, hf⟩ := zl_i hf
  refine z_topi ex13 ?_
  refine lv_istore (lv' := [(4, .int x13), (0, .ref (G 1 r)), (1, .int w1), (3, .int w3)]) hx hb dX2_partyStrength_49 hl (by decide) rfl (fun ls hl => ?_)
  refine lv_aload_n hx hb dX2_partyStrength_51 rfl (lv_at hl 1 rfl) ?_
  refine z_get hx hb hts (fun w h => List.mem_cons_of_mem _ (ziX2 w h)) hown hK hP (zV_r (by decide) (by decide) hr0) rfl rfl 14 (by decide) (List.mem_cons_of_mem _ m_97) rfl rfl dX2_partyStrength_52 ?_
  refine lv_iload_n hx hb dX2_partyStrength_55 rfl (lv_at hl 2 rfl) ?_
  obtain ⟨v15, T14, h16, hf⟩ := zb_i hf
  refine z_ok (z_runSN (As := [.ref (G 6 r), .int w1]) (rest := []) F k_X3_cell (by decide +kernel) (c_X3_cell 6 r (zIA_r (by decide) (by decide) hr0) w1 T10 T14 _ h16) hP hS rfl rfl hl.1 (Nat.le_of_ble_eq_true rfl) dX2_partyStrength_56 (Nat.le_of_ble_eq_true rfl) ⟨Nat.le_of_ble_eq_true rfl, Nat.le_of_ble_eq_true rfl⟩ rfl) hS (fun H locs hP hS => ?_)
  refine lv_iload hx hb dX2_partyStrength_59 (lv_at hl 0 rfl) ?_
  refine lv_iadd hx hb dX2_partyStrength_61 ?_
  obtain ⟨q1, q2⟩ := zs_i hf
  subst q1; subst q2
  exact z_iret hx hb hr rfl hP hS hlocks (Nat.le_of_ble_eq_true rfl) (Nat.le_of_ble_eq_true rfl) dX2_partyStrength_62
set_option maxHeartbeats 4000000 in
set_option maxRecDepth 100000 in
theorem c_X2_partyStrength (r : Nat) (hr0 : r < 15) (p0 : Int32) (p1 : Int32) (T T' : zT) (v : Int32) (hf : f_X2_partyStrength r p0 p1 T = some (v, T')) : zC 0 yX2_partyStrength cX2_partyStrength 5 (some .int) 1  0 0  (fun G _ => [.ref (G 1 r), .int p0, .int p1]) T (fun _ => .inl (some (.int v))) T' := by
  intro l D Y S V G A hl9 hG
  refine vx_ofW (cc := cX2_partyStrength) (maxL := 5) (ret := (some .int)) (by decide) rfl ?_
  intro p e s m args below meth c s₁ B hml hex hv
  obtain ⟨rfl, hK, hP, hA⟩ := hv
  have hx := B.exec
  have hb := B.bytes
  have hr := B.returns
  have hlocks := B.notSynchronized
  have hown : s.vm.findClass RX2 = some m.cls := findClass_of_methodNamed B.named
  have hts := atoms_spec (ws := Cond.code yX2_partyStrength cX2_partyStrength 5 (some .int) :: zWS) B.pre
  have F : zF 0 1  0 0  p l s m _ c cX2_partyStrength 5 RX2 (Cond.code yX2_partyStrength cX2_partyStrength 5 (some .int)) D Y S V G A := ⟨hx, hb, hml, hown, hts, hl9, hG, hK, hA⟩
  have hS : va_S A s.heap s.heap [] := va_S.rf
  have hl := lv_entry ([.ref (G 1 r), .int p0, .int p1]) (n := 5) (Nat.le_of_ble_eq_true rfl)
  rw [lg_entry_eq]
  generalize (lg_sl ([.ref (G 1 r), .int p0, .int p1]) ++ List.replicate (5 - (lg_sl ([.ref (G 1 r), .int p0, .int p1])).length) Slot.unset).toArray = ls at hl ⊢
  have hl : lv_has ls 5 [(0, .ref (G 1 r)), (1, .int p0), (2, .int p1)] := hl
  unfold f_X2_partyStrength at hf
  refine lv_iload_n hx hb dX2_partyStrength_0 rfl (lv_at hl 2 rfl) ?_
  refine lv_aload_n hx hb dX2_partyStrength_1 rfl (lv_at hl 0 rfl) ?_
  refine z_get hx hb hts (fun w h => List.mem_cons_of_mem _ (ziX2 w h)) hown hK hP (zV_r (by decide) (by decide) hr0) rfl rfl 13 (by decide) (List.mem_cons_of_mem _ m_95) rfl rfl dX2_partyStrength_2 ?_
  refine lv_aload_n hx hb dX2_partyStrength_5 rfl (lv_at hl 0 rfl) ?_
  refine z_get hx hb hts (fun w h => List.mem_cons_of_mem _ (ziX2 w h)) hown hK hP (zV_r (by decide) (by decide) hr0) rfl rfl 9 (by decide) (List.mem_cons_of_mem _ m_86) rfl rfl dX2_partyStrength_6 ?_
  obtain ⟨v2, T1, h3, hf⟩ := zb_i hf
  refine z_ok (z_runSN (As := [.int p1, .ref (G 5 r), .int (T.1 1 r 9)]) (rest := []) F k_X3_countOf (by decide +kernel) (c_X3_countOf p1 5 r (zIA_r (by decide) (by decide) hr0) (T.1 1 r 9) T T1 _ h3) hP hS rfl rfl hl.1 (Nat.le_of_ble_eq_true rfl) dX2_partyStrength_9 (Nat.le_of_ble_eq_true rfl) ⟨Nat.le_of_ble_eq_true rfl, Nat.le_of_ble_eq_true rfl⟩ rfl) hS (fun H locs hP hS => ?_)
  refine lv_istore_n (lv' := [(3, .int v2), (0, .ref (G 1 r)), (1, .int p0), (2, .int p1)]) hx hb dX2_partyStrength_12 rfl hl (by decide) rfl (fun ls hl => ?_)
  refine lv_aload_n hx hb dX2_partyStrength_13 rfl (lv_at hl 1 rfl) ?_
  refine z_get hx hb hts (fun w h => List.mem_cons_of_mem _ (ziX2 w h)) hown hK hP (zV_r (by decide) (by decide) hr0) rfl rfl 13 (by decide) (List.mem_cons_of_mem _ m_95) rfl rfl dX2_partyStrength_14 ?_
  refine lv_iload_n hx hb dX2_partyStrength_17 rfl (lv_at hl 2 rfl) ?_
  obtain ⟨v5, T4, h6, hf⟩ := zb_i hf
  refine z_ok (z_runSN (As := [.ref (G 5 r), .int p0]) (rest := []) F k_X3_cell (by decide +kernel) (c_X3_cell 5 r (zIA_r (by decide) (by decide) hr0) p0 T1 T4 _ h6) hP hS rfl rfl hl.1 (Nat.le_of_ble_eq_true rfl) dX2_partyStrength_18 (Nat.le_of_ble_eq_true rfl) ⟨Nat.le_of_ble_eq_true rfl, Nat.le_of_ble_eq_true rfl⟩ rfl) hS (fun H locs hP hS => ?_)
  refine lv_iload_n hx hb dX2_partyStrength_21 rfl (lv_at hl 3 rfl) ?_
  refine lv_icmp_ne (tgt := 28) hx hb dX2_partyStrength_22 (by decide) (fun hc => ?_) (fun hc => ?_)
  · have hf := zif_n hf hc
    exact j_X2_partyStrength_28 F hr hlocks hex hr0 p0 v2 T4 hf hP hS (lv_sub hl [1, 2, 0] rfl)
  · have hf := zif_p hf hc
    obtain ⟨x17, ex17, hf⟩ := zl_i hf
    refine lv_iinc (v := x17) (lv' := [(3, .int x17), (0, .ref (G 1 r)), (1, .int p0), (2, .int p1)]) hx hb dX2_partyStrength_25 hl (k := 0) rfl (by rw [ex17]; rfl) (by decide) rfl (fun ls hl => ?_)
    exact j_X2_partyStrength_28 F hr hlocks hex hr0 p0 x17 T4 hf hP hS (lv_sub hl [1, 2, 0] rfl)

def f_X2_celebrate (r : Nat) (p0 : Int32) (T : zT) : Option (Int32 × zT) := zb (f_X3_addToCell 7 r p0 1 T) fun _v2 T1 => zb (f_X3_cell 5 r p0 T1) fun v5 T4 => zb (f_X2_cakeFor r v5 T4) fun v8 T7 => (if v8 = (-1) then zl ((T7.1 1 r 7) + 1) fun x30 => zl (wI T7 1 r 7 x30) fun T31 => some (0, T31) else zb (f_X3_cell 7 r p0 T7) fun v11 T10 => zl (if (T10.1 1 r 3) < v11 then (T10.1 1 r 3) else v11) fun x13 => zb (f_X3_addToCell 2 r v8 (-1) T10) fun _v15 T14 => zl ((T14.1 1 r 3) - x13) fun x17 => zl (wI T14 1 r 3 x17) fun T18 => zl ((T18.1 1 r 6) + x13) fun x19 => zl (wI T18 1 r 6 x19) fun T20 => zb (f_X3_addToCell 10 r p0 1 T20) fun _v22 T21 => (if x13 = v11 then zb (f_X2_partyStrength r p0 v8 T21) fun v25 T24 => (if v25 < x13 then some (1, T24) else zb (f_X3_addToCell 11 r p0 1 T24) fun _v28 T27 => some (1, T27)) else some (1, T21)))
set_option maxHeartbeats 4000000 in
set_option maxRecDepth 100000 in
theorem c_X2_celebrate (r : Nat) (hr0 : r < 15) (p0 : Int32) (T T' : zT) (v : Int32) (hf : f_X2_celebrate r p0 T = some (v, T')) : zC 0 yX2_celebrate cX2_celebrate 5 (some .boolean) 2  0 0  (fun G _ => [.ref (G 1 r), .int p0]) T (fun _ => .inl (some (.int v))) T' := by
  intro l D Y S V G A hl9 hG
  refine vx_ofW (cc := cX2_celebrate) (maxL := 5) (ret := (some .boolean)) (by decide) rfl ?_
  intro p e s m args below meth c s₁ B hml hex hv
  obtain ⟨rfl, hK, hP, hA⟩ := hv
  have hx := B.exec
  have hb := B.bytes
  have hr := B.returns
  have hlocks := B.notSynchronized
  have hown : s.vm.findClass RX2 = some m.cls := findClass_of_methodNamed B.named
  have hts := atoms_spec (ws := Cond.code yX2_celebrate cX2_celebrate 5 (some .boolean) :: zWS) B.pre
  have F : zF 0 2  0 0  p l s m _ c cX2_celebrate 5 RX2 (Cond.code yX2_celebrate cX2_celebrate 5 (some .boolean)) D Y S V G A := ⟨hx, hb, hml, hown, hts, hl9, hG, hK, hA⟩
  have hS : va_S A s.heap s.heap [] := va_S.rf
  have hl := lv_entry ([.ref (G 1 r), .int p0]) (n := 5) (Nat.le_of_ble_eq_true rfl)
  rw [lg_entry_eq]
  generalize (lg_sl ([.ref (G 1 r), .int p0]) ++ List.replicate (5 - (lg_sl ([.ref (G 1 r), .int p0])).length) Slot.unset).toArray = ls at hl ⊢
  have hl : lv_has ls 5 [(0, .ref (G 1 r)), (1, .int p0)] := hl
  unfold f_X2_celebrate at hf
  refine lv_aload_n hx hb dX2_celebrate_0 rfl (lv_at hl 0 rfl) ?_
  refine z_get hx hb hts (fun w h => List.mem_cons_of_mem _ (ziX2 w h)) hown hK hP (zV_r (by decide) (by decide) hr0) rfl rfl 15 (by decide) (List.mem_cons_of_mem _ m_99) rfl rfl dX2_celebrate_1 ?_
  refine lv_iload_n hx hb dX2_celebrate_4 rfl (lv_at hl 1 rfl) ?_
  refine lv_iconst (v := 1) hx hb dX2_celebrate_5 (by decide) ?_
  obtain ⟨v2, T1, h3, hf⟩ := zb_i hf
  refine z_ok (z_runSN (As := [.ref (G 7 r), .int p0, .int 1]) (rest := []) F k_X3_addToCell (by decide +kernel) (c_X3_addToCell 7 r (zIA_r (by decide) (by decide) hr0) p0 1 T T1 _ h3) hP hS rfl rfl hl.1 (Nat.le_of_ble_eq_true rfl) dX2_celebrate_6 (Nat.le_of_ble_eq_true rfl) ⟨Nat.le_of_ble_eq_true rfl, Nat.le_of_ble_eq_true rfl⟩ rfl) hS (fun H locs hP hS => ?_)
  refine lv_aload_n hx hb dX2_celebrate_9 rfl (lv_at hl 0 rfl) ?_
  refine lv_aload_n hx hb dX2_celebrate_10 rfl (lv_at hl 0 rfl) ?_
  refine z_get hx hb hts (fun w h => List.mem_cons_of_mem _ (ziX2 w h)) hown hK hP (zV_r (by decide) (by decide) hr0) rfl rfl 13 (by decide) (List.mem_cons_of_mem _ m_95) rfl rfl dX2_celebrate_11 ?_
  refine lv_iload_n hx hb dX2_celebrate_14 rfl (lv_at hl 1 rfl) ?_
  obtain ⟨v5, T4, h6, hf⟩ := zb_i hf
  refine z_ok (z_runSN (As := [.ref (G 5 r), .int p0]) (rest := [.ref (G 1 r)]) F k_X3_cell (by decide +kernel) (c_X3_cell 5 r (zIA_r (by decide) (by decide) hr0) p0 T1 T4 _ h6) hP hS rfl rfl hl.1 (Nat.le_of_ble_eq_true rfl) dX2_celebrate_15 (Nat.le_of_ble_eq_true rfl) ⟨Nat.le_of_ble_eq_true rfl, Nat.le_of_ble_eq_true rfl⟩ rfl) hS (fun H locs hP hS => ?_)
  obtain ⟨v8, T7, h9, hf⟩ := zb_i hf
  refine z_ok (z_runV (As := [.int v5]) (rest := []) F k_X2_cakeFor m_423 (c_X2_cakeFor r hr0 v5 T4 T7 _ h9) hP hS (zV_r (by decide) (by decide) hr0) rfl rfl rfl rfl hl.1 (Nat.le_of_ble_eq_true rfl) dX2_celebrate_18 (Nat.le_of_ble_eq_true rfl) ⟨Nat.le_of_ble_eq_true rfl, Nat.le_of_ble_eq_true rfl⟩ rfl) hS (fun H locs hP hS => ?_)
  refine lv_istore_n (lv' := [(2, .int v8), (0, .ref (G 1 r)), (1, .int p0)]) hx hb dX2_celebrate_21 rfl hl (by decide) rfl (fun ls hl => ?_)
  refine lv_iload_n hx hb dX2_celebrate_22 rfl (lv_at hl 0 rfl) ?_
  refine lv_iconst (v := (-1)) hx hb dX2_celebrate_23 (by decide) ?_
  refine lv_icmp_ne (tgt := 39) hx hb dX2_celebrate_24 (by decide) (fun hc => ?_) (fun hc => ?_)
  · have hf := zif_n hf hc
    refine lv_aload_n hx hb dX2_celebrate_39 rfl (lv_at hl 1 rfl) ?_
    refine z_get hx hb hts (fun w h => List.mem_cons_of_mem _ (ziX2 w h)) hown hK hP (zV_r (by decide) (by decide) hr0) rfl rfl 15 (by decide) (List.mem_cons_of_mem _ m_99) rfl rfl dX2_celebrate_40 ?_
    refine lv_iload_n hx hb dX2_celebrate_43 rfl (lv_at hl 2 rfl) ?_
    obtain ⟨v11, T10, h12, hf⟩ := zb_i hf
    refine z_ok (z_runSN (As := [.ref (G 7 r), .int p0]) (rest := []) F k_X3_cell (by decide +kernel) (c_X3_cell 7 r (zIA_r (by decide) (by decide) hr0) p0 T7 T10 _ h12) hP hS rfl rfl hl.1 (Nat.le_of_ble_eq_true rfl) dX2_celebrate_44 (Nat.le_of_ble_eq_true rfl) ⟨Nat.le_of_ble_eq_true rfl, Nat.le_of_ble_eq_true rfl⟩ rfl) hS (fun H locs hP hS => ?_)
    refine lv_istore_n (lv' := [(3, .int v11), (2, .int v8), (0, .ref (G 1 r)), (1, .int p0)]) hx hb dX2_celebrate_47 rfl hl (by decide) rfl (fun ls hl => ?_)
    refine lv_iload_n hx hb dX2_celebrate_48 rfl (lv_at hl 0 rfl) ?_
    refine lv_aload_n hx hb dX2_celebrate_49 rfl (lv_at hl 2 rfl) ?_
    refine z_get hx hb hts (fun w h => List.mem_cons_of_mem _ (ziX2 w h)) hown hK hP (zV_r (by decide) (by decide) hr0) rfl rfl 3 (by decide) (List.mem_cons_of_mem _ m_73) rfl rfl dX2_celebrate_50 ?_
    refine z_mmin F m_427 m_408 m_40 m_409 hl.1 (Nat.le_of_ble_eq_true rfl) (Nat.le_of_ble_eq_true rfl) ⟨Nat.le_of_ble_eq_true rfl, Nat.le_of_ble_eq_true rfl⟩ dX2_celebrate_53 ?_
    obtain ⟨x13, ex13, hf⟩ := zl_i hf
    refine z_topi ex13 ?_
    refine lv_istore (lv' := [(4, .int x13), (3, .int v11), (2, .int v8), (0, .ref (G 1 r)), (1, .int p0)]) hx hb dX2_celebrate_56 hl (by decide) rfl (fun ls hl => ?_)
    refine lv_aload_n hx hb dX2_celebrate_58 rfl (lv_at hl 3 rfl) ?_
    refine z_get hx hb hts (fun w h => List.mem_cons_of_mem _ (ziX2 w h)) hown hK hP (zV_r (by decide) (by decide) hr0) rfl rfl 10 (by decide) (List.mem_cons_of_mem _ m_89) rfl rfl dX2_celebrate_59 ?_
    refine lv_iload_n hx hb dX2_celebrate_62 rfl (lv_at hl 2 rfl) ?_
    refine lv_iconst (v := (-1)) hx hb dX2_celebrate_63 (by decide) ?_
    obtain ⟨v15, T14, h16, hf⟩ := zb_i hf
    refine z_ok (z_runSN (As := [.ref (G 2 r), .int v8, .int (-1)]) (rest := []) F k_X3_addToCell (by decide +kernel) (c_X3_addToCell 2 r (zIA_r (by decide) (by decide) hr0) v8 (-1) T10 T14 _ h16) hP hS rfl rfl hl.1 (Nat.le_of_ble_eq_true rfl) dX2_celebrate_64 (Nat.le_of_ble_eq_true rfl) ⟨Nat.le_of_ble_eq_true rfl, Nat.le_of_ble_eq_true rfl⟩ rfl) hS (fun H locs hP hS => ?_)
    refine lv_aload_n hx hb dX2_celebrate_67 rfl (lv_at hl 3 rfl) ?_
    refine lv_dup hx hb dX2_celebrate_68 rfl ?_
    refine z_get hx hb hts (fun w h => List.mem_cons_of_mem _ (ziX2 w h)) hown hK hP (zV_r (by decide) (by decide) hr0) rfl rfl 3 (by decide) (List.mem_cons_of_mem _ m_73) rfl rfl dX2_celebrate_69 ?_
    refine lv_iload hx hb dX2_celebrate_72 (lv_at hl 0 rfl) ?_
    refine lv_isub hx hb dX2_celebrate_74 ?_
    obtain ⟨x17, ex17, hf⟩ := zl_i hf
    refine z_topi ex17 ?_
    obtain ⟨T18, eT18, hf⟩ := zl_i hf
    refine z_put hx hb hts (fun w h => List.mem_cons_of_mem _ (ziX2 w h)) tyX2 tyX2_ok nmX2 hown hK hP hG hS (zV_r (by decide) (by decide) hr0) rfl rfl 3 (by decide) (List.mem_cons_of_mem _ m_73) rfl rfl (by decide +kernel) (Nat.le_of_ble_eq_true rfl) (znew2 (by decide)) dX2_celebrate_75 (fun H locs hP hS => ?_)
    rw [← eT18] at hP
    refine lv_aload_n hx hb dX2_celebrate_78 rfl (lv_at hl 3 rfl) ?_
    refine lv_dup hx hb dX2_celebrate_79 rfl ?_
    refine z_get hx hb hts (fun w h => List.mem_cons_of_mem _ (ziX2 w h)) hown hK hP (zV_r (by decide) (by decide) hr0) rfl rfl 6 (by decide) (List.mem_cons_of_mem _ m_79) rfl rfl dX2_celebrate_80 ?_
    refine lv_iload hx hb dX2_celebrate_83 (lv_at hl 0 rfl) ?_
    refine lv_iadd hx hb dX2_celebrate_85 ?_
    obtain ⟨x19, ex19, hf⟩ := zl_i hf
    refine z_topi ex19 ?_
    obtain ⟨T20, eT20, hf⟩ := zl_i hf
    refine z_put hx hb hts (fun w h => List.mem_cons_of_mem _ (ziX2 w h)) tyX2 tyX2_ok nmX2 hown hK hP hG hS (zV_r (by decide) (by decide) hr0) rfl rfl 6 (by decide) (List.mem_cons_of_mem _ m_79) rfl rfl (by decide +kernel) (Nat.le_of_ble_eq_true rfl) (znew2 (by decide)) dX2_celebrate_86 (fun H locs hP hS => ?_)
    rw [← eT20] at hP
    refine lv_aload_n hx hb dX2_celebrate_89 rfl (lv_at hl 3 rfl) ?_
    refine z_get hx hb hts (fun w h => List.mem_cons_of_mem _ (ziX2 w h)) hown hK hP (zV_r (by decide) (by decide) hr0) rfl rfl 18 (by decide) (List.mem_cons_of_mem _ m_107) rfl rfl dX2_celebrate_90 ?_
    refine lv_iload_n hx hb dX2_celebrate_93 rfl (lv_at hl 4 rfl) ?_
    refine lv_iconst (v := 1) hx hb dX2_celebrate_94 (by decide) ?_
    obtain ⟨v22, T21, h23, hf⟩ := zb_i hf
    refine z_ok (z_runSN (As := [.ref (G 10 r), .int p0, .int 1]) (rest := []) F k_X3_addToCell (by decide +kernel) (c_X3_addToCell 10 r (zIA_r (by decide) (by decide) hr0) p0 1 T20 T21 _ h23) hP hS rfl rfl hl.1 (Nat.le_of_ble_eq_true rfl) dX2_celebrate_95 (Nat.le_of_ble_eq_true rfl) ⟨Nat.le_of_ble_eq_true rfl, Nat.le_of_ble_eq_true rfl⟩ rfl) hS (fun H locs hP hS => ?_)
    refine lv_iload hx hb dX2_celebrate_98 (lv_at hl 0 rfl) ?_
    refine lv_iload_n hx hb dX2_celebrate_100 rfl (lv_at hl 1 rfl) ?_
    refine lv_icmp_ne (tgt := 124) hx hb dX2_celebrate_101 (by decide) (fun hc => ?_) (fun hc => ?_)
    · have hf := zif_n hf hc
      refine lv_iconst (v := 1) hx hb dX2_celebrate_124 (by decide) ?_
      obtain ⟨q1, q2⟩ := zs_i hf
      subst q1; subst q2
      exact z_zret hx hb hr (Or.inr rfl) rfl hP hS hlocks (Nat.le_of_ble_eq_true rfl) (Nat.le_of_ble_eq_true rfl) dX2_celebrate_125
    · have hf := zif_p hf hc
      refine lv_aload_n hx hb dX2_celebrate_104 rfl (lv_at hl 3 rfl) ?_
      refine lv_iload_n hx hb dX2_celebrate_105 rfl (lv_at hl 4 rfl) ?_
      refine lv_iload_n hx hb dX2_celebrate_106 rfl (lv_at hl 2 rfl) ?_
      obtain ⟨v25, T24, h26, hf⟩ := zb_i hf
      refine z_ok (z_runV (As := [.int p0, .int v8]) (rest := []) F k_X2_partyStrength m_428 (c_X2_partyStrength r hr0 p0 v8 T21 T24 _ h26) hP hS (zV_r (by decide) (by decide) hr0) rfl rfl rfl rfl hl.1 (Nat.le_of_ble_eq_true rfl) dX2_celebrate_107 (Nat.le_of_ble_eq_true rfl) ⟨Nat.le_of_ble_eq_true rfl, Nat.le_of_ble_eq_true rfl⟩ rfl) hS (fun H locs hP hS => ?_)
      refine lv_iload hx hb dX2_celebrate_110 (lv_at hl 0 rfl) ?_
      refine lv_icmp_lt (tgt := 124) hx hb dX2_celebrate_112 (by decide) (fun hc => ?_) (fun hc => ?_)
      · have hf := zif_p hf hc
        refine lv_iconst (v := 1) hx hb dX2_celebrate_124 (by decide) ?_
        obtain ⟨q1, q2⟩ := zs_i hf
        subst q1; subst q2
        exact z_zret hx hb hr (Or.inr rfl) rfl hP hS hlocks (Nat.le_of_ble_eq_true rfl) (Nat.le_of_ble_eq_true rfl) dX2_celebrate_125
      · have hf := zif_n hf hc
        refine lv_aload_n hx hb dX2_celebrate_115 rfl (lv_at hl 3 rfl) ?_
        refine z_get hx hb hts (fun w h => List.mem_cons_of_mem _ (ziX2 w h)) hown hK hP (zV_r (by decide) (by decide) hr0) rfl rfl 19 (by decide) (List.mem_cons_of_mem _ m_109) rfl rfl dX2_celebrate_116 ?_
        refine lv_iload_n hx hb dX2_celebrate_119 rfl (lv_at hl 4 rfl) ?_
        refine lv_iconst (v := 1) hx hb dX2_celebrate_120 (by decide) ?_
        obtain ⟨v28, T27, h29, hf⟩ := zb_i hf
        refine z_ok (z_runSN (As := [.ref (G 11 r), .int p0, .int 1]) (rest := []) F k_X3_addToCell (by decide +kernel) (c_X3_addToCell 11 r (zIA_r (by decide) (by decide) hr0) p0 1 T24 T27 _ h29) hP hS rfl rfl hl.1 (Nat.le_of_ble_eq_true rfl) dX2_celebrate_121 (Nat.le_of_ble_eq_true rfl) ⟨Nat.le_of_ble_eq_true rfl, Nat.le_of_ble_eq_true rfl⟩ rfl) hS (fun H locs hP hS => ?_)
        refine lv_iconst (v := 1) hx hb dX2_celebrate_124 (by decide) ?_
        obtain ⟨q1, q2⟩ := zs_i hf
        subst q1; subst q2
        exact z_zret hx hb hr (Or.inr rfl) rfl hP hS hlocks (Nat.le_of_ble_eq_true rfl) (Nat.le_of_ble_eq_true rfl) dX2_celebrate_125
  · have hf := zif_p hf hc
    refine lv_aload_n hx hb dX2_celebrate_27 rfl (lv_at hl 1 rfl) ?_
    refine lv_dup hx hb dX2_celebrate_28 rfl ?_
    refine z_get hx hb hts (fun w h => List.mem_cons_of_mem _ (ziX2 w h)) hown hK hP (zV_r (by decide) (by decide) hr0) rfl rfl 7 (by decide) (List.mem_cons_of_mem _ m_81) rfl rfl dX2_celebrate_29 ?_
    refine lv_iconst (v := 1) hx hb dX2_celebrate_32 (by decide) ?_
    refine lv_iadd hx hb dX2_celebrate_33 ?_
    obtain ⟨x30, ex30, hf⟩ := zl_i hf
    refine z_topi ex30 ?_
    obtain ⟨T31, eT31, hf⟩ := zl_i hf
    refine z_put hx hb hts (fun w h => List.mem_cons_of_mem _ (ziX2 w h)) tyX2 tyX2_ok nmX2 hown hK hP hG hS (zV_r (by decide) (by decide) hr0) rfl rfl 7 (by decide) (List.mem_cons_of_mem _ m_81) rfl rfl (by decide +kernel) (Nat.le_of_ble_eq_true rfl) (znew2 (by decide)) dX2_celebrate_34 (fun H locs hP hS => ?_)
    rw [← eT31] at hP
    refine lv_iconst (v := 0) hx hb dX2_celebrate_37 (by decide) ?_
    obtain ⟨q1, q2⟩ := zs_i hf
    subst q1; subst q2
    exact z_zret hx hb hr (Or.inl rfl) rfl hP hS hlocks (Nat.le_of_ble_eq_true rfl) (Nat.le_of_ble_eq_true rfl) dX2_celebrate_38

def lp_X2_pass_16 (r : Nat) (w1 : Int32) (w3 : Int32) : Nat → Int32 → Int32 → zT → Option ((Int32 × Int32) × zT)
  | 0, _, _, _ => none
  | n + 1, u2, u4, T => (if (T.1 1 r 9) ≤ u4 then some ((u2, u4), T) else zb (f_X3_cell 9 r u4 T) fun v5 T4 => (if v5 = (T4.1 1 r 1) then zb (f_X2_celebrate r u4 T4) fun v9 T8 => (if v9 = 0 then zl (u4 + 1) fun x11 => lp_X2_pass_16 r w1 w3 n u2 x11 T8 else zl (u2 + 1) fun x12 => zl (u4 + 1) fun x13 => lp_X2_pass_16 r w1 w3 n x12 x13 T8) else zl (u4 + 1) fun x7 => lp_X2_pass_16 r w1 w3 n u2 x7 T4))
def lp_X2_pass_4 (r : Nat) (w1 : Int32) : Nat → Int32 → Int32 → zT → Option ((Int32 × Int32) × zT)
  | 0, _, _, _ => none
  | n + 1, u2, u3, T => (if w1 ≤ u3 then some ((u2, u3), T) else zb (f_X2_beginNextDate r T) fun _v2 T1 => zb (lp_X2_pass_16 r w1 u3 2000 u2 0 T1) fun v15 T14 => zl (u3 + 1) fun x17 => lp_X2_pass_4 r w1 n v15.1 x17 T14)
def f_X2_pass (r : Nat) (p0 : Int32) (T : zT) : Option (Int32 × zT) := zb (lp_X2_pass_4 r p0 2000 0 0 T) fun v19 T18 => some (v19.1, T18)
set_option maxHeartbeats 4000000 in
set_option maxRecDepth 100000 in
theorem l_X2_pass_16 {p : Program} {l : Launch} {e : Env} {s : State} {m : MethodId} {args : Array Value} {below : List Frame} {meth : Method} {c : Code} {Q : State → Prop} {D : va_G} {Y : Nat → ClassId} {S V : Nat → Nat} {G : Nat → Nat → Nat} {A : Nat → Prop} {c0 : Cond} {mc ms cells slots : Nat} {r : Nat} (F : zF 0 3 mc ms p l s m args c cX2_pass 5 RX2 c0 D Y S V G A) (hr0 : r < 15) (hcs : cells ≤ mc ∧ slots ≤ ms) (w1 : Int32) (w3 : Int32) :
    ∀ (n : Nat) (u2 : Int32) (u4 : Int32) (T : zT) (o : (Int32 × Int32) × zT) (H : Heap) (locs : List Loc) (ls : Array Slot), lp_X2_pass_16 r w1 w3 n u2 u4 T = some o → zP 0 D Y G T H → va_S A s.heap H locs → lv_has ls 5 [(0, .ref (G 1 r)), (1, .int w1), (2, .int u2), (3, .int w3), (4, .int u4)] → (∀ (H : Heap) (locs : List Loc) (ls : Array Slot), zP 0 D Y G o.2 H → va_S A s.heap H locs → lv_has ls 5 [(0, .ref (G 1 r)), (1, .int w1), (2, .int o.1.1), (3, .int w3), (4, .int o.1.2)] → W p l e (zR 3 mc ms) s m args below meth c H locs cells slots Q (F0 m 59 ls [])) → W p l e (zR 3 mc ms) s m args below meth c H locs cells slots Q (F0 m 16 ls []) := by
  obtain ⟨hx, hb, hml, hown, hts, hl9, hG, hK, hA⟩ := id F
  intro n
  induction n with
  | zero =>
    intro u2 u4 T o H locs ls hf
    rw [lp_X2_pass_16] at hf
    cases hf
  | succ n ih =>
    intro u2 u4 T o H locs ls hf hP hS hl k0_
    rw [lp_X2_pass_16] at hf
    refine lv_iload hx hb dX2_pass_16 (lv_at hl 4 rfl) ?_
    refine lv_aload_n hx hb dX2_pass_18 rfl (lv_at hl 0 rfl) ?_
    refine z_get hx hb hts (fun w h => List.mem_cons_of_mem _ (ziX2 w h)) hown hK hP (zV_r (by decide) (by decide) hr0) rfl rfl 9 (by decide) (List.mem_cons_of_mem _ m_86) rfl rfl dX2_pass_19 ?_
    refine lv_icmp_ge (tgt := 59) hx hb dX2_pass_22 (by decide) (fun hc => ?_) (fun hc => ?_)
    · have hf := zif_p hf hc
      cases hf
      exact k0_ _ _ _ hP hS (lv_sub hl [0, 1, 2, 3, 4] rfl)
    · have hf := zif_n hf hc
      refine lv_aload_n hx hb dX2_pass_25 rfl (lv_at hl 0 rfl) ?_
      refine z_get hx hb hts (fun w h => List.mem_cons_of_mem _ (ziX2 w h)) hown hK hP (zV_r (by decide) (by decide) hr0) rfl rfl 17 (by decide) (List.mem_cons_of_mem _ m_104) rfl rfl dX2_pass_26 ?_
      refine lv_iload hx hb dX2_pass_29 (lv_at hl 4 rfl) ?_
      obtain ⟨v5, T4, h6, hf⟩ := zb_i hf
      refine z_ok (z_runSN (As := [.ref (G 9 r), .int u4]) (rest := []) F k_X3_cell (by decide +kernel) (c_X3_cell 9 r (zIA_r (by decide) (by decide) hr0) u4 T T4 _ h6) hP hS rfl rfl hl.1 (Nat.le_of_ble_eq_true rfl) dX2_pass_31 (Nat.le_of_ble_eq_true rfl) ⟨hcs.1, hcs.2⟩ rfl) hS (fun H locs hP hS => ?_)
      refine lv_aload_n hx hb dX2_pass_34 rfl (lv_at hl 0 rfl) ?_
      refine z_get hx hb hts (fun w h => List.mem_cons_of_mem _ (ziX2 w h)) hown hK hP (zV_r (by decide) (by decide) hr0) rfl rfl 1 (by decide) (List.mem_cons_of_mem _ m_69) rfl rfl dX2_pass_35 ?_
      refine lv_icmp_ne (tgt := 53) hx hb dX2_pass_38 (by decide) (fun hc => ?_) (fun hc => ?_)
      · have hf := zif_n hf hc
        obtain ⟨x7, ex7, hf⟩ := zl_i hf
        refine lv_iinc (v := x7) (lv' := [(4, .int x7), (0, .ref (G 1 r)), (1, .int w1), (2, .int u2), (3, .int w3)]) hx hb dX2_pass_53 hl (k := 4) rfl (by rw [ex7]; rfl) (by decide) rfl (fun ls hl => ?_)
        refine lv_goto (tgt := 16) hx hb dX2_pass_56 (by decide) ?_
        exact ih u2 x7 _ _ _ _ _ hf hP hS (lv_sub hl [1, 2, 3, 4, 0] rfl) k0_
      · have hf := zif_p hf hc
        refine lv_aload_n hx hb dX2_pass_41 rfl (lv_at hl 0 rfl) ?_
        refine lv_iload hx hb dX2_pass_42 (lv_at hl 4 rfl) ?_
        obtain ⟨v9, T8, h10, hf⟩ := zb_i hf
        refine z_ok (z_runV (As := [.int u4]) (rest := []) F k_X2_celebrate m_418 (c_X2_celebrate r hr0 u4 T4 T8 _ h10) hP hS (zV_r (by decide) (by decide) hr0) rfl rfl rfl rfl hl.1 (Nat.le_of_ble_eq_true rfl) dX2_pass_44 (Nat.le_of_ble_eq_true rfl) ⟨hcs.1, hcs.2⟩ rfl) hS (fun H locs hP hS => ?_)
        refine lv_if_eq (tgt := 53) hx hb dX2_pass_47 (by decide) (fun hc => ?_) (fun hc => ?_)
        · have hf := zif_p hf hc
          obtain ⟨x11, ex11, hf⟩ := zl_i hf
          refine lv_iinc (v := x11) (lv' := [(4, .int x11), (0, .ref (G 1 r)), (1, .int w1), (2, .int u2), (3, .int w3)]) hx hb dX2_pass_53 hl (k := 4) rfl (by rw [ex11]; rfl) (by decide) rfl (fun ls hl => ?_)
          refine lv_goto (tgt := 16) hx hb dX2_pass_56 (by decide) ?_
          exact ih u2 x11 _ _ _ _ _ hf hP hS (lv_sub hl [1, 2, 3, 4, 0] rfl) k0_
        · have hf := zif_n hf hc
          obtain ⟨x12, ex12, hf⟩ := zl_i hf
          refine lv_iinc (v := x12) (lv' := [(2, .int x12), (0, .ref (G 1 r)), (1, .int w1), (3, .int w3), (4, .int u4)]) hx hb dX2_pass_50 hl (k := 2) rfl (by rw [ex12]; rfl) (by decide) rfl (fun ls hl => ?_)
          obtain ⟨x13, ex13, hf⟩ := zl_i hf
          refine lv_iinc (v := x13) (lv' := [(4, .int x13), (2, .int x12), (0, .ref (G 1 r)), (1, .int w1), (3, .int w3)]) hx hb dX2_pass_53 hl (k := 4) rfl (by rw [ex13]; rfl) (by decide) rfl (fun ls hl => ?_)
          refine lv_goto (tgt := 16) hx hb dX2_pass_56 (by decide) ?_
          exact ih x12 x13 _ _ _ _ _ hf hP hS (lv_sub hl [2, 3, 1, 4, 0] rfl) k0_
set_option maxHeartbeats 4000000 in
set_option maxRecDepth 100000 in
theorem l_X2_pass_4 {p : Program} {l : Launch} {e : Env} {s : State} {m : MethodId} {args : Array Value} {below : List Frame} {meth : Method} {c : Code} {Q : State → Prop} {D : va_G} {Y : Nat → ClassId} {S V : Nat → Nat} {G : Nat → Nat → Nat} {A : Nat → Prop} {c0 : Cond} {mc ms cells slots : Nat} {r : Nat} (F : zF 0 3 mc ms p l s m args c cX2_pass 5 RX2 c0 D Y S V G A) (hr0 : r < 15) (hcs : cells ≤ mc ∧ slots ≤ ms) (w1 : Int32) :
    ∀ (n : Nat) (u2 : Int32) (u3 : Int32) (T : zT) (o : (Int32 × Int32) × zT) (H : Heap) (locs : List Loc) (ls : Array Slot), lp_X2_pass_4 r w1 n u2 u3 T = some o → zP 0 D Y G T H → va_S A s.heap H locs → lv_has ls 5 [(0, .ref (G 1 r)), (1, .int w1), (2, .int u2), (3, .int u3)] → (∀ (H : Heap) (locs : List Loc) (ls : Array Slot), zP 0 D Y G o.2 H → va_S A s.heap H locs → lv_has ls 5 [(0, .ref (G 1 r)), (1, .int w1), (2, .int o.1.1), (3, .int o.1.2)] → W p l e (zR 3 mc ms) s m args below meth c H locs cells slots Q (F0 m 65 ls [])) → W p l e (zR 3 mc ms) s m args below meth c H locs cells slots Q (F0 m 4 ls []) := by
  obtain ⟨hx, hb, hml, hown, hts, hl9, hG, hK, hA⟩ := id F
  intro n
  induction n with
  | zero =>
    intro u2 u3 T o H locs ls hf
    rw [lp_X2_pass_4] at hf
    cases hf
  | succ n ih =>
    intro u2 u3 T o H locs ls hf hP hS hl k0_
    rw [lp_X2_pass_4] at hf
    refine lv_iload_n hx hb dX2_pass_4 rfl (lv_at hl 3 rfl) ?_
    refine lv_iload_n hx hb dX2_pass_5 rfl (lv_at hl 1 rfl) ?_
    refine lv_icmp_ge (tgt := 65) hx hb dX2_pass_6 (by decide) (fun hc => ?_) (fun hc => ?_)
    · have hf := zif_p hf hc
      cases hf
      exact k0_ _ _ _ hP hS (lv_sub hl [0, 1, 2, 3] rfl)
    · have hf := zif_n hf hc
      refine lv_aload_n hx hb dX2_pass_9 rfl (lv_at hl 0 rfl) ?_
      obtain ⟨v2, T1, h3, hf⟩ := zb_i hf
      refine z_ok (z_runV (As := []) (rest := []) F k_X2_beginNextDate m_414 (c_X2_beginNextDate r hr0 T T1 _ h3) hP hS (zV_r (by decide) (by decide) hr0) rfl rfl rfl rfl hl.1 (Nat.le_of_ble_eq_true rfl) dX2_pass_10 (Nat.le_of_ble_eq_true rfl) ⟨hcs.1, hcs.2⟩ rfl) hS (fun H locs hP hS => ?_)
      refine lv_iconst (v := 0) hx hb dX2_pass_13 (by decide) ?_
      refine lv_istore (lv' := [(4, .int 0), (0, .ref (G 1 r)), (1, .int w1), (2, .int u2), (3, .int u3)]) hx hb dX2_pass_14 hl (by decide) rfl (fun ls hl => ?_)
      obtain ⟨v15, T14, h16, hf⟩ := zb_i hf
      refine l_X2_pass_16 F hr0 hcs w1 u3 2000 u2 0 _ _ _ _ _ h16 hP hS (lv_sub hl [1, 2, 3, 4, 0] rfl) (fun H locs ls hP hS hl => ?_)
      obtain ⟨x17, ex17, hf⟩ := zl_i hf
      refine lv_iinc (v := x17) (lv' := [(3, .int x17), (0, .ref (G 1 r)), (1, .int w1), (2, .int v15.1), (4, .int v15.2)]) hx hb dX2_pass_59 hl (k := 3) rfl (by rw [ex17]; rfl) (by decide) rfl (fun ls hl => ?_)
      refine lv_goto (tgt := 4) hx hb dX2_pass_62 (by decide) ?_
      exact ih v15.1 x17 _ _ _ _ _ hf hP hS (lv_sub hl [1, 2, 3, 0] rfl) k0_
set_option maxHeartbeats 4000000 in
set_option maxRecDepth 100000 in
theorem c_X2_pass (r : Nat) (hr0 : r < 15) (p0 : Int32) (T T' : zT) (v : Int32) (hf : f_X2_pass r p0 T = some (v, T')) : zC 0 yX2_pass cX2_pass 5 (some .int) 3  0 0  (fun G _ => [.ref (G 1 r), .int p0]) T (fun _ => .inl (some (.int v))) T' := by
  intro l D Y S V G A hl9 hG
  refine vx_ofW (cc := cX2_pass) (maxL := 5) (ret := (some .int)) (by decide) rfl ?_
  intro p e s m args below meth c s₁ B hml hex hv
  obtain ⟨rfl, hK, hP, hA⟩ := hv
  have hx := B.exec
  have hb := B.bytes
  have hr := B.returns
  have hlocks := B.notSynchronized
  have hown : s.vm.findClass RX2 = some m.cls := findClass_of_methodNamed B.named
  have hts := atoms_spec (ws := Cond.code yX2_pass cX2_pass 5 (some .int) :: zWS) B.pre
  have F : zF 0 3  0 0  p l s m _ c cX2_pass 5 RX2 (Cond.code yX2_pass cX2_pass 5 (some .int)) D Y S V G A := ⟨hx, hb, hml, hown, hts, hl9, hG, hK, hA⟩
  have hS : va_S A s.heap s.heap [] := va_S.rf
  have hl := lv_entry ([.ref (G 1 r), .int p0]) (n := 5) (Nat.le_of_ble_eq_true rfl)
  rw [lg_entry_eq]
  generalize (lg_sl ([.ref (G 1 r), .int p0]) ++ List.replicate (5 - (lg_sl ([.ref (G 1 r), .int p0])).length) Slot.unset).toArray = ls at hl ⊢
  have hl : lv_has ls 5 [(0, .ref (G 1 r)), (1, .int p0)] := hl
  unfold f_X2_pass at hf
  refine lv_iconst (v := 0) hx hb dX2_pass_0 (by decide) ?_
  refine lv_istore_n (lv' := [(2, .int 0), (0, .ref (G 1 r)), (1, .int p0)]) hx hb dX2_pass_1 rfl hl (by decide) rfl (fun ls hl => ?_)
  refine lv_iconst (v := 0) hx hb dX2_pass_2 (by decide) ?_
  refine lv_istore_n (lv' := [(3, .int 0), (2, .int 0), (0, .ref (G 1 r)), (1, .int p0)]) hx hb dX2_pass_3 rfl hl (by decide) rfl (fun ls hl => ?_)
  obtain ⟨v19, T18, h20, hf⟩ := zb_i hf
  refine l_X2_pass_4 F hr0 ⟨Nat.le_of_ble_eq_true rfl, Nat.le_of_ble_eq_true rfl⟩ p0 2000 0 0 _ _ _ _ _ h20 hP hS (lv_sub hl [2, 3, 1, 0] rfl) (fun H locs ls hP hS hl => ?_)
  refine lv_iload_n hx hb dX2_pass_65 rfl (lv_at hl 2 rfl) ?_
  obtain ⟨q1, q2⟩ := zs_i hf
  subst q1; subst q2
  exact z_iret hx hb hr rfl hP hS hlocks (Nat.le_of_ble_eq_true rfl) (Nat.le_of_ble_eq_true rfl) dX2_pass_66

def f_X2_daysUntil (r : Nat) (p0 : Int32) (T : zT) : Option (Int32 × zT) := (if p0 ≤ (T.1 1 r 1) then some (((p0 - (T.1 1 r 1)) + 360), T) else some ((p0 - (T.1 1 r 1)), T))
set_option maxHeartbeats 4000000 in
set_option maxRecDepth 100000 in
theorem c_X2_daysUntil (r : Nat) (hr0 : r < 15) (p0 : Int32) (T T' : zT) (v : Int32) (hf : f_X2_daysUntil r p0 T = some (v, T')) : zC 0 yX2_daysUntil cX2_daysUntil 2 (some .int) 0  0 0  (fun G _ => [.ref (G 1 r), .int p0]) T (fun _ => .inl (some (.int v))) T' := by
  intro l D Y S V G A hl9 hG
  refine vx_ofW (cc := cX2_daysUntil) (maxL := 2) (ret := (some .int)) (by decide) rfl ?_
  intro p e s m args below meth c s₁ B hml hex hv
  obtain ⟨rfl, hK, hP, hA⟩ := hv
  have hx := B.exec
  have hb := B.bytes
  have hr := B.returns
  have hlocks := B.notSynchronized
  have hown : s.vm.findClass RX2 = some m.cls := findClass_of_methodNamed B.named
  have hts := atoms_spec (ws := Cond.code yX2_daysUntil cX2_daysUntil 2 (some .int) :: zWS) B.pre
  have F : zF 0 0  0 0  p l s m _ c cX2_daysUntil 2 RX2 (Cond.code yX2_daysUntil cX2_daysUntil 2 (some .int)) D Y S V G A := ⟨hx, hb, hml, hown, hts, hl9, hG, hK, hA⟩
  have hS : va_S A s.heap s.heap [] := va_S.rf
  have hl := lv_entry ([.ref (G 1 r), .int p0]) (n := 2) (Nat.le_of_ble_eq_true rfl)
  rw [lg_entry_eq]
  generalize (lg_sl ([.ref (G 1 r), .int p0]) ++ List.replicate (2 - (lg_sl ([.ref (G 1 r), .int p0])).length) Slot.unset).toArray = ls at hl ⊢
  have hl : lv_has ls 2 [(0, .ref (G 1 r)), (1, .int p0)] := hl
  unfold f_X2_daysUntil at hf
  refine lv_iload_n hx hb dX2_daysUntil_0 rfl (lv_at hl 1 rfl) ?_
  refine lv_aload_n hx hb dX2_daysUntil_1 rfl (lv_at hl 0 rfl) ?_
  refine z_get hx hb hts (fun w h => List.mem_cons_of_mem _ (ziX2 w h)) hown hK hP (zV_r (by decide) (by decide) hr0) rfl rfl 1 (by decide) (List.mem_cons_of_mem _ m_69) rfl rfl dX2_daysUntil_2 ?_
  refine lv_icmp_le (tgt := 17) hx hb dX2_daysUntil_5 (by decide) (fun hc => ?_) (fun hc => ?_)
  · have hf := zif_p hf hc
    refine lv_iload_n hx hb dX2_daysUntil_17 rfl (lv_at hl 1 rfl) ?_
    refine lv_aload_n hx hb dX2_daysUntil_18 rfl (lv_at hl 0 rfl) ?_
    refine z_get hx hb hts (fun w h => List.mem_cons_of_mem _ (ziX2 w h)) hown hK hP (zV_r (by decide) (by decide) hr0) rfl rfl 1 (by decide) (List.mem_cons_of_mem _ m_69) rfl rfl dX2_daysUntil_19 ?_
    refine lv_isub hx hb dX2_daysUntil_22 ?_
    refine lv_sipush (v := 360) hx hb dX2_daysUntil_23 (by decide) ?_
    refine lv_iadd hx hb dX2_daysUntil_26 ?_
    obtain ⟨q1, q2⟩ := zs_i hf
    subst q1; subst q2
    exact z_iret hx hb hr rfl hP hS hlocks (Nat.le_of_ble_eq_true rfl) (Nat.le_of_ble_eq_true rfl) dX2_daysUntil_27
  · have hf := zif_n hf hc
    refine lv_iload_n hx hb dX2_daysUntil_8 rfl (lv_at hl 1 rfl) ?_
    refine lv_aload_n hx hb dX2_daysUntil_9 rfl (lv_at hl 0 rfl) ?_
    refine z_get hx hb hts (fun w h => List.mem_cons_of_mem _ (ziX2 w h)) hown hK hP (zV_r (by decide) (by decide) hr0) rfl rfl 1 (by decide) (List.mem_cons_of_mem _ m_69) rfl rfl dX2_daysUntil_10 ?_
    refine lv_isub hx hb dX2_daysUntil_13 ?_
    refine lv_goto (tgt := 27) hx hb dX2_daysUntil_14 (by decide) ?_
    obtain ⟨q1, q2⟩ := zs_i hf
    subst q1; subst q2
    exact z_iret hx hb hr rfl hP hS hlocks (Nat.le_of_ble_eq_true rfl) (Nat.le_of_ble_eq_true rfl) dX2_daysUntil_27

def f_X3_monthAt (p0 : Int32) (T : zT) : Option (Int32 × zT) := some (((p0 / 30) + 1), T)
set_option maxHeartbeats 4000000 in
set_option maxRecDepth 100000 in
theorem c_X3_monthAt (p0 : Int32) (T T' : zT) (v : Int32) (hf : f_X3_monthAt p0 T = some (v, T')) : zC 0 yX3_monthAt cX3_monthAt 1 (some .int) 0  0 0  (fun _ _ => [.int p0]) T (fun _ => .inl (some (.int v))) T' := by
  intro l D Y S V G A hl9 hG
  refine vx_ofW (cc := cX3_monthAt) (maxL := 1) (ret := (some .int)) (by decide) rfl ?_
  intro p e s m args below meth c s₁ B hml hex hv
  obtain ⟨rfl, hK, hP, hA⟩ := hv
  have hx := B.exec
  have hb := B.bytes
  have hr := B.returns
  have hlocks := B.notSynchronized
  have hown : s.vm.findClass RX3 = some m.cls := findClass_of_methodNamed B.named
  have hts := atoms_spec (ws := Cond.code yX3_monthAt cX3_monthAt 1 (some .int) :: zWS) B.pre
  have F : zF 0 0  0 0  p l s m _ c cX3_monthAt 1 RX3 (Cond.code yX3_monthAt cX3_monthAt 1 (some .int)) D Y S V G A := ⟨hx, hb, hml, hown, hts, hl9, hG, hK, hA⟩
  have hS : va_S A s.heap s.heap [] := va_S.rf
  have hl := lv_entry ([.int p0]) (n := 1) (Nat.le_of_ble_eq_true rfl)
  rw [lg_entry_eq]
  generalize (lg_sl ([.int p0]) ++ List.replicate (1 - (lg_sl ([.int p0])).length) Slot.unset).toArray = ls at hl ⊢
  have hl : lv_has ls 1 [(0, .int p0)] := hl
  unfold f_X3_monthAt at hf
  refine lv_iload_n hx hb dX3_monthAt_0 rfl (lv_at hl 0 rfl) ?_
  refine lv_bipush (v := 30) hx hb dX3_monthAt_1 (by decide) ?_
  refine lv_idiv hx hb dX3_monthAt_3 (by decide) ?_
  refine lv_iconst (v := 1) hx hb dX3_monthAt_4 (by decide) ?_
  refine lv_iadd hx hb dX3_monthAt_5 ?_
  obtain ⟨q1, q2⟩ := zs_i hf
  subst q1; subst q2
  exact z_iret hx hb hr rfl hP hS hlocks (Nat.le_of_ble_eq_true rfl) (Nat.le_of_ble_eq_true rfl) dX3_monthAt_6

def f_X3_dayAt (p0 : Int32) (T : zT) : Option (Int32 × zT) := some (((p0 - p0 / 30 * 30) + 1), T)
set_option maxHeartbeats 4000000 in
set_option maxRecDepth 100000 in
theorem c_X3_dayAt (p0 : Int32) (T T' : zT) (v : Int32) (hf : f_X3_dayAt p0 T = some (v, T')) : zC 0 yX3_dayAt cX3_dayAt 1 (some .int) 0  0 0  (fun _ _ => [.int p0]) T (fun _ => .inl (some (.int v))) T' := by
  intro l D Y S V G A hl9 hG
  refine vx_ofW (cc := cX3_dayAt) (maxL := 1) (ret := (some .int)) (by decide) rfl ?_
  intro p e s m args below meth c s₁ B hml hex hv
  obtain ⟨rfl, hK, hP, hA⟩ := hv
  have hx := B.exec
  have hb := B.bytes
  have hr := B.returns
  have hlocks := B.notSynchronized
  have hown : s.vm.findClass RX3 = some m.cls := findClass_of_methodNamed B.named
  have hts := atoms_spec (ws := Cond.code yX3_dayAt cX3_dayAt 1 (some .int) :: zWS) B.pre
  have F : zF 0 0  0 0  p l s m _ c cX3_dayAt 1 RX3 (Cond.code yX3_dayAt cX3_dayAt 1 (some .int)) D Y S V G A := ⟨hx, hb, hml, hown, hts, hl9, hG, hK, hA⟩
  have hS : va_S A s.heap s.heap [] := va_S.rf
  have hl := lv_entry ([.int p0]) (n := 1) (Nat.le_of_ble_eq_true rfl)
  rw [lg_entry_eq]
  generalize (lg_sl ([.int p0]) ++ List.replicate (1 - (lg_sl ([.int p0])).length) Slot.unset).toArray = ls at hl ⊢
  have hl : lv_has ls 1 [(0, .int p0)] := hl
  unfold f_X3_dayAt at hf
  refine lv_iload_n hx hb dX3_dayAt_0 rfl (lv_at hl 0 rfl) ?_
  refine lv_bipush (v := 30) hx hb dX3_dayAt_1 (by decide) ?_
  refine lv_irem hx hb dX3_dayAt_3 (by decide) ?_
  refine lv_iconst (v := 1) hx hb dX3_dayAt_4 (by decide) ?_
  refine lv_iadd hx hb dX3_dayAt_5 ?_
  obtain ⟨q1, q2⟩ := zs_i hf
  subst q1; subst q2
  exact z_iret hx hb hr rfl hP hS hlocks (Nat.le_of_ble_eq_true rfl) (Nat.le_of_ble_eq_true rfl) dX3_dayAt_6

def lp_X3_sum_4 (k0 i0 : Nat) (w1 : Int32) : Nat → Int32 → Int32 → zT → Option ((Int32 × Int32) × zT)
  | 0, _, _, _ => none
  | n + 1, u2, u3, T => (if w1 ≤ u3 then some ((u2, u3), T) else (if (nI (zlen 0 k0 i0)) ≤ u3 then some ((u2, u3), T) else if zin u3 (zlen 0 k0 i0) = true then zl (u2 + (T.2 k0 i0 u3.toNatClampNeg)) fun x2 => zl (u3 + 1) fun x3 => lp_X3_sum_4 k0 i0 w1 n x2 x3 T else none))
def f_X3_sum (k0 i0 : Nat) (p1 : Int32) (T : zT) : Option (Int32 × zT) := zb (lp_X3_sum_4 k0 i0 p1 2000 0 0 T) fun v5 T4 => some (v5.1, T4)
set_option maxHeartbeats 4000000 in
set_option maxRecDepth 100000 in
theorem l_X3_sum_4 {p : Program} {l : Launch} {e : Env} {s : State} {m : MethodId} {args : Array Value} {below : List Frame} {meth : Method} {c : Code} {Q : State → Prop} {D : va_G} {Y : Nat → ClassId} {S V : Nat → Nat} {G : Nat → Nat → Nat} {A : Nat → Prop} {c0 : Cond} {mc ms cells slots : Nat} {k0 : Nat} {i0 : Nat} (F : zF 0 0 mc ms p l s m args c cX3_sum 4 RX3 c0 D Y S V G A) (hI0 : zIA 0 k0 i0) (hcs : cells ≤ mc ∧ slots ≤ ms) (w1 : Int32) :
    ∀ (n : Nat) (u2 : Int32) (u3 : Int32) (T : zT) (o : (Int32 × Int32) × zT) (H : Heap) (locs : List Loc) (ls : Array Slot), lp_X3_sum_4 k0 i0 w1 n u2 u3 T = some o → zP 0 D Y G T H → va_S A s.heap H locs → lv_has ls 4 [(0, .ref (G k0 i0)), (1, .int w1), (2, .int u2), (3, .int u3)] → (∀ (H : Heap) (locs : List Loc) (ls : Array Slot), zP 0 D Y G o.2 H → va_S A s.heap H locs → lv_has ls 4 [(0, .ref (G k0 i0)), (1, .int w1), (2, .int o.1.1), (3, .int o.1.2)] → W p l e (zR 0 mc ms) s m args below meth c H locs cells slots Q (F0 m 27 ls [])) → W p l e (zR 0 mc ms) s m args below meth c H locs cells slots Q (F0 m 4 ls []) := by
  obtain ⟨hx, hb, hml, hown, hts, hl9, hG, hK, hA⟩ := id F
  intro n
  induction n with
  | zero =>
    intro u2 u3 T o H locs ls hf
    rw [lp_X3_sum_4] at hf
    cases hf
  | succ n ih =>
    intro u2 u3 T o H locs ls hf hP hS hl k0_
    rw [lp_X3_sum_4] at hf
    refine lv_iload_n hx hb dX3_sum_4 rfl (lv_at hl 3 rfl) ?_
    refine lv_iload_n hx hb dX3_sum_5 rfl (lv_at hl 1 rfl) ?_
    refine lv_icmp_ge (tgt := 27) hx hb dX3_sum_6 (by decide) (fun hc => ?_) (fun hc => ?_)
    · have hf := zif_p hf hc
      cases hf
      exact k0_ _ _ _ hP hS (lv_sub hl [0, 1, 2, 3] rfl)
    · have hf := zif_n hf hc
      refine lv_iload_n hx hb dX3_sum_9 rfl (lv_at hl 3 rfl) ?_
      refine lv_aload_n hx hb dX3_sum_10 rfl (lv_at hl 0 rfl) ?_
      refine z_alen (v := (nI (zlen 0 k0 i0))) hx hb hK hP hI0.V 0 (hI0.cell Y G _) rfl rfl dX3_sum_11 ?_
      refine lv_icmp_ge (tgt := 27) hx hb dX3_sum_12 (by decide) (fun hc => ?_) (fun hc => ?_)
      · have hf := zif_p hf hc
        cases hf
        exact k0_ _ _ _ hP hS (lv_sub hl [0, 1, 2, 3] rfl)
      · have hf := zif_n hf hc
        refine lv_iload_n hx hb dX3_sum_15 rfl (lv_at hl 2 rfl) ?_
        refine lv_aload_n hx hb dX3_sum_16 rfl (lv_at hl 0 rfl) ?_
        refine lv_iload_n hx hb dX3_sum_17 rfl (lv_at hl 3 rfl) ?_
        obtain ⟨h1, hf⟩ := zif_c hf
        refine z_iald hx hb hK hP hI0 (zin_i h1) dX3_sum_18 ?_
        refine lv_iadd hx hb dX3_sum_19 ?_
        obtain ⟨x2, ex2, hf⟩ := zl_i hf
        refine z_topi ex2 ?_
        refine lv_istore_n (lv' := [(2, .int x2), (0, .ref (G k0 i0)), (1, .int w1), (3, .int u3)]) hx hb dX3_sum_20 rfl hl (by decide) rfl (fun ls hl => ?_)
        obtain ⟨x3, ex3, hf⟩ := zl_i hf
        refine lv_iinc (v := x3) (lv' := [(3, .int x3), (2, .int x2), (0, .ref (G k0 i0)), (1, .int w1)]) hx hb dX3_sum_21 hl (k := 3) rfl (by rw [ex3]; rfl) (by decide) rfl (fun ls hl => ?_)
        refine lv_goto (tgt := 4) hx hb dX3_sum_24 (by decide) ?_
        exact ih x2 x3 _ _ _ _ _ hf hP hS (lv_sub hl [2, 3, 1, 0] rfl) k0_
set_option maxHeartbeats 4000000 in
set_option maxRecDepth 100000 in
theorem c_X3_sum (k0 i0 : Nat) (hI0 : zIA 0 k0 i0) (p1 : Int32) (T T' : zT) (v : Int32) (hf : f_X3_sum k0 i0 p1 T = some (v, T')) : zC 0 yX3_sum cX3_sum 4 (some .int) 0  0 0  (fun G _ => [.ref (G k0 i0), .int p1]) T (fun _ => .inl (some (.int v))) T' := by
  intro l D Y S V G A hl9 hG
  refine vx_ofW (cc := cX3_sum) (maxL := 4) (ret := (some .int)) (by decide) rfl ?_
  intro p e s m args below meth c s₁ B hml hex hv
  obtain ⟨rfl, hK, hP, hA⟩ := hv
  have hx := B.exec
  have hb := B.bytes
  have hr := B.returns
  have hlocks := B.notSynchronized
  have hown : s.vm.findClass RX3 = some m.cls := findClass_of_methodNamed B.named
  have hts := atoms_spec (ws := Cond.code yX3_sum cX3_sum 4 (some .int) :: zWS) B.pre
  have F : zF 0 0  0 0  p l s m _ c cX3_sum 4 RX3 (Cond.code yX3_sum cX3_sum 4 (some .int)) D Y S V G A := ⟨hx, hb, hml, hown, hts, hl9, hG, hK, hA⟩
  have hS : va_S A s.heap s.heap [] := va_S.rf
  have hl := lv_entry ([.ref (G k0 i0), .int p1]) (n := 4) (Nat.le_of_ble_eq_true rfl)
  rw [lg_entry_eq]
  generalize (lg_sl ([.ref (G k0 i0), .int p1]) ++ List.replicate (4 - (lg_sl ([.ref (G k0 i0), .int p1])).length) Slot.unset).toArray = ls at hl ⊢
  have hl : lv_has ls 4 [(0, .ref (G k0 i0)), (1, .int p1)] := hl
  unfold f_X3_sum at hf
  refine lv_iconst (v := 0) hx hb dX3_sum_0 (by decide) ?_
  refine lv_istore_n (lv' := [(2, .int 0), (0, .ref (G k0 i0)), (1, .int p1)]) hx hb dX3_sum_1 rfl hl (by decide) rfl (fun ls hl => ?_)
  refine lv_iconst (v := 0) hx hb dX3_sum_2 (by decide) ?_
  refine lv_istore_n (lv' := [(3, .int 0), (2, .int 0), (0, .ref (G k0 i0)), (1, .int p1)]) hx hb dX3_sum_3 rfl hl (by decide) rfl (fun ls hl => ?_)
  obtain ⟨v5, T4, h6, hf⟩ := zb_i hf
  refine l_X3_sum_4 F hI0 ⟨Nat.le_of_ble_eq_true rfl, Nat.le_of_ble_eq_true rfl⟩ p1 2000 0 0 _ _ _ _ _ h6 hP hS (lv_sub hl [2, 3, 1, 0] rfl) (fun H locs ls hP hS hl => ?_)
  refine lv_iload_n hx hb dX3_sum_27 rfl (lv_at hl 2 rfl) ?_
  obtain ⟨q1, q2⟩ := zs_i hf
  subst q1; subst q2
  exact z_iret hx hb hr rfl hP hS hlocks (Nat.le_of_ble_eq_true rfl) (Nat.le_of_ble_eq_true rfl) dX3_sum_28
