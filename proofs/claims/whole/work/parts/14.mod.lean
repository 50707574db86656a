/-! METHODS of the model, by program -/
def f_X4_month  (T : zT) : Option (Int32 × zT) := zl (T.2 2 0 1) fun x2 => zb (f_X4_told ((x2 / 30) + 1) T) fun v4 T3 => some (v4, T3)
set_option maxHeartbeats 4000000 in
set_option maxRecDepth 100000 in
theorem c_X4_month  (T T' : zT) (v : Int32) (hf : f_X4_month  T = some (v, T')) : zC 1 yX4_month cX4_month 1 (some .int) 1  0 0  (fun G _ => [.ref (G 0 0)]) T (fun _ => .inl (some (.int v))) T' := by
  intro l D Y S V G A hl9 hG
  refine vx_ofW (cc := cX4_month) (maxL := 1) (ret := (some .int)) (by decide) rfl ?_
  intro p e s m args below meth c s₁ B hml hex hv
  obtain ⟨rfl, hK, hP, hA⟩ := hv
  have hx := B.exec
  have hb := B.bytes
  have hr := B.returns
  have hlocks := B.notSynchronized
  have hown : s.vm.findClass RX4 = some m.cls := findClass_of_methodNamed B.named
  have hts := atoms_spec (ws := Cond.code yX4_month cX4_month 1 (some .int) :: zWS) B.pre
  have F : zF 1 1  0 0  p l s m _ c cX4_month 1 RX4 (Cond.code yX4_month cX4_month 1 (some .int)) D Y S V G A := ⟨hx, hb, hml, hown, hts, hl9, hG, hK, hA⟩
  have hS : va_S A s.heap s.heap [] := va_S.rf
  have hl := lv_entry ([.ref (G 0 0)]) (n := 1) (Nat.le_of_ble_eq_true rfl)
  rw [lg_entry_eq]
  generalize (lg_sl ([.ref (G 0 0)]) ++ List.replicate (1 - (lg_sl ([.ref (G 0 0)])).length) Slot.unset).toArray = ls at hl ⊢
  have hl : lv_has ls 1 [(0, .ref (G 0 0))] := hl
  unfold f_X4_month at hf
  refine lv_aload_n hx hb dX4_month_0 rfl (lv_at hl 0 rfl) ?_
  refine lv_aload_n hx hb dX4_month_1 rfl (lv_at hl 0 rfl) ?_
  refine z_get hx hb hts (fun w h => List.mem_cons_of_mem _ (ziX4 w h)) hown hK hP (zV_m (by decide)) rfl rfl 2 (by decide) (List.mem_cons_of_mem _ m_1143) rfl rfl dX4_month_2 ?_
  refine lv_iconst (v := 1) hx hb dX4_month_5 (by decide) ?_
  refine z_iald_ (j := 1) hx hb hK hP (zIA_m (by decide) (by decide)) (by decide) (by decide) dX4_month_6 ?_
  refine lv_bipush (v := 30) hx hb dX4_month_7 (by decide) ?_
  obtain ⟨x2, ex2, hf⟩ := zl_i hf
  rw [← ex2]
  refine lv_idiv hx hb dX4_month_9 (by decide) ?_
  refine lv_iconst (v := 1) hx hb dX4_month_10 (by decide) ?_
  refine lv_iadd hx hb dX4_month_11 ?_
  obtain ⟨v4, T3, h5, hf⟩ := zb_i hf
  refine z_ok (z_runV (As := [.int ((x2 / 30) + 1)]) (rest := []) F k_X4_told m_1230 (c_X4_told ((x2 / 30) + 1) T T3 _ h5) hP hS (zV_m (by decide)) rfl rfl rfl rfl hl.1 (Nat.le_of_ble_eq_true rfl) dX4_month_12 (Nat.le_of_ble_eq_true rfl) ⟨Nat.le_of_ble_eq_true rfl, Nat.le_of_ble_eq_true rfl⟩ rfl) hS (fun H locs hP hS => ?_)
  obtain ⟨q1, q2⟩ := zs_i hf
  subst q1; subst q2
  exact z_iret hx hb hr rfl hP hS hlocks (Nat.le_of_ble_eq_true rfl) (Nat.le_of_ble_eq_true rfl) dX4_month_15

def f_X4_dayOfMonth  (T : zT) : Option (Int32 × zT) := zl (T.2 2 0 1) fun x2 => zb (f_X4_told ((x2 - x2 / 30 * 30) + 1) T) fun v4 T3 => some (v4, T3)
set_option maxHeartbeats 4000000 in
set_option maxRecDepth 100000 in
theorem c_X4_dayOfMonth  (T T' : zT) (v : Int32) (hf : f_X4_dayOfMonth  T = some (v, T')) : zC 1 yX4_dayOfMonth cX4_dayOfMonth 1 (some .int) 1  0 0  (fun G _ => [.ref (G 0 0)]) T (fun _ => .inl (some (.int v))) T' := by
  intro l D Y S V G A hl9 hG
  refine vx_ofW (cc := cX4_dayOfMonth) (maxL := 1) (ret := (some .int)) (by decide) rfl ?_
  intro p e s m args below meth c s₁ B hml hex hv
  obtain ⟨rfl, hK, hP, hA⟩ := hv
  have hx := B.exec
  have hb := B.bytes
  have hr := B.returns
  have hlocks := B.notSynchronized
  have hown : s.vm.findClass RX4 = some m.cls := findClass_of_methodNamed B.named
  have hts := atoms_spec (ws := Cond.code yX4_dayOfMonth cX4_dayOfMonth 1 (some .int) :: zWS) B.pre
  have F : zF 1 1  0 0  p l s m _ c cX4_dayOfMonth 1 RX4 (Cond.code yX4_dayOfMonth cX4_dayOfMonth 1 (some .int)) D Y S V G A := ⟨hx, hb, hml, hown, hts, hl9, hG, hK, hA⟩
  have hS : va_S A s.heap s.heap [] := va_S.rf
  have hl := lv_entry ([.ref (G 0 0)]) (n := 1) (Nat.le_of_ble_eq_true rfl)
  rw [lg_entry_eq]
  generalize (lg_sl ([.ref (G 0 0)]) ++ List.replicate (1 - (lg_sl ([.ref (G 0 0)])).length) Slot.unset).toArray = ls at hl ⊢
  have hl : lv_has ls 1 [(0, .ref (G 0 0))] := hl
  unfold f_X4_dayOfMonth at hf
  refine lv_aload_n hx hb dX4_dayOfMonth_0 rfl (lv_at hl 0 rfl) ?_
  refine lv_aload_n hx hb dX4_dayOfMonth_1 rfl (lv_at hl 0 rfl) ?_
  refine z_get hx hb hts (fun w h => List.mem_cons_of_mem _ (ziX4 w h)) hown hK hP (zV_m (by decide)) rfl rfl 2 (by decide) (List.mem_cons_of_mem _ m_1143) rfl rfl dX4_dayOfMonth_2 ?_
  refine lv_iconst (v := 1) hx hb dX4_dayOfMonth_5 (by decide) ?_
  refine z_iald_ (j := 1) hx hb hK hP (zIA_m (by decide) (by decide)) (by decide) (by decide) dX4_dayOfMonth_6 ?_
  refine lv_bipush (v := 30) hx hb dX4_dayOfMonth_7 (by decide) ?_
  obtain ⟨x2, ex2, hf⟩ := zl_i hf
  rw [← ex2]
  refine lv_irem hx hb dX4_dayOfMonth_9 (by decide) ?_
  refine lv_iconst (v := 1) hx hb dX4_dayOfMonth_10 (by decide) ?_
  refine lv_iadd hx hb dX4_dayOfMonth_11 ?_
  obtain ⟨v4, T3, h5, hf⟩ := zb_i hf
  refine z_ok (z_runV (As := [.int ((x2 - x2 / 30 * 30) + 1)]) (rest := []) F k_X4_told m_1230 (c_X4_told ((x2 - x2 / 30 * 30) + 1) T T3 _ h5) hP hS (zV_m (by decide)) rfl rfl rfl rfl hl.1 (Nat.le_of_ble_eq_true rfl) dX4_dayOfMonth_12 (Nat.le_of_ble_eq_true rfl) ⟨Nat.le_of_ble_eq_true rfl, Nat.le_of_ble_eq_true rfl⟩ rfl) hS (fun H locs hP hS => ?_)
  obtain ⟨q1, q2⟩ := zs_i hf
  subst q1; subst q2
  exact z_iret hx hb hr rfl hP hS hlocks (Nat.le_of_ble_eq_true rfl) (Nat.le_of_ble_eq_true rfl) dX4_dayOfMonth_15

def f_X4_seed  (T : zT) : Option (Int32 × zT) := zb (f_X4_told (T.2 2 0 2) T) fun v3 T2 => some (v3, T2)
set_option maxHeartbeats 4000000 in
set_option maxRecDepth 100000 in
theorem c_X4_seed  (T T' : zT) (v : Int32) (hf : f_X4_seed  T = some (v, T')) : zC 1 yX4_seed cX4_seed 1 (some .int) 1  0 0  (fun G _ => [.ref (G 0 0)]) T (fun _ => .inl (some (.int v))) T' := by
  intro l D Y S V G A hl9 hG
  refine vx_ofW (cc := cX4_seed) (maxL := 1) (ret := (some .int)) (by decide) rfl ?_
  intro p e s m args below meth c s₁ B hml hex hv
  obtain ⟨rfl, hK, hP, hA⟩ := hv
  have hx := B.exec
  have hb := B.bytes
  have hr := B.returns
  have hlocks := B.notSynchronized
  have hown : s.vm.findClass RX4 = some m.cls := findClass_of_methodNamed B.named
  have hts := atoms_spec (ws := Cond.code yX4_seed cX4_seed 1 (some .int) :: zWS) B.pre
  have F : zF 1 1  0 0  p l s m _ c cX4_seed 1 RX4 (Cond.code yX4_seed cX4_seed 1 (some .int)) D Y S V G A := ⟨hx, hb, hml, hown, hts, hl9, hG, hK, hA⟩
  have hS : va_S A s.heap s.heap [] := va_S.rf
  have hl := lv_entry ([.ref (G 0 0)]) (n := 1) (Nat.le_of_ble_eq_true rfl)
  rw [lg_entry_eq]
  generalize (lg_sl ([.ref (G 0 0)]) ++ List.replicate (1 - (lg_sl ([.ref (G 0 0)])).length) Slot.unset).toArray = ls at hl ⊢
  have hl : lv_has ls 1 [(0, .ref (G 0 0))] := hl
  unfold f_X4_seed at hf
  refine lv_aload_n hx hb dX4_seed_0 rfl (lv_at hl 0 rfl) ?_
  refine lv_aload_n hx hb dX4_seed_1 rfl (lv_at hl 0 rfl) ?_
  refine z_get hx hb hts (fun w h => List.mem_cons_of_mem _ (ziX4 w h)) hown hK hP (zV_m (by decide)) rfl rfl 2 (by decide) (List.mem_cons_of_mem _ m_1143) rfl rfl dX4_seed_2 ?_
  refine lv_iconst (v := 2) hx hb dX4_seed_5 (by decide) ?_
  refine z_iald_ (j := 2) hx hb hK hP (zIA_m (by decide) (by decide)) (by decide) (by decide) dX4_seed_6 ?_
  obtain ⟨v3, T2, h4, hf⟩ := zb_i hf
  refine z_ok (z_runV (As := [.int (T.2 2 0 2)]) (rest := []) F k_X4_told m_1230 (c_X4_told (T.2 2 0 2) T T2 _ h4) hP hS (zV_m (by decide)) rfl rfl rfl rfl hl.1 (Nat.le_of_ble_eq_true rfl) dX4_seed_7 (Nat.le_of_ble_eq_true rfl) ⟨Nat.le_of_ble_eq_true rfl, Nat.le_of_ble_eq_true rfl⟩ rfl) hS (fun H locs hP hS => ?_)
  obtain ⟨q1, q2⟩ := zs_i hf
  subst q1; subst q2
  exact z_iret hx hb hr rfl hP hS hlocks (Nat.le_of_ble_eq_true rfl) (Nat.le_of_ble_eq_true rfl) dX4_seed_10

def f_X4_nextDraw  (T : zT) : Option (Int32 × zT) := zb (f_X4_seedBehind (T.2 2 0 2) T) fun v3 T2 => zb (f_X4_told (v3 - v3 / 360 * 360) T2) fun v6 T5 => some (v6, T5)
set_option maxHeartbeats 4000000 in
set_option maxRecDepth 100000 in
theorem c_X4_nextDraw  (T T' : zT) (v : Int32) (hf : f_X4_nextDraw  T = some (v, T')) : zC 1 yX4_nextDraw cX4_nextDraw 1 (some .int) 1  0 0  (fun G _ => [.ref (G 0 0)]) T (fun _ => .inl (some (.int v))) T' := by
  intro l D Y S V G A hl9 hG
  refine vx_ofW (cc := cX4_nextDraw) (maxL := 1) (ret := (some .int)) (by decide) rfl ?_
  intro p e s m args below meth c s₁ B hml hex hv
  obtain ⟨rfl, hK, hP, hA⟩ := hv
  have hx := B.exec
  have hb := B.bytes
  have hr := B.returns
  have hlocks := B.notSynchronized
  have hown : s.vm.findClass RX4 = some m.cls := findClass_of_methodNamed B.named
  have hts := atoms_spec (ws := Cond.code yX4_nextDraw cX4_nextDraw 1 (some .int) :: zWS) B.pre
  have F : zF 1 1  0 0  p l s m _ c cX4_nextDraw 1 RX4 (Cond.code yX4_nextDraw cX4_nextDraw 1 (some .int)) D Y S V G A := ⟨hx, hb, hml, hown, hts, hl9, hG, hK, hA⟩
  have hS : va_S A s.heap s.heap [] := va_S.rf
  have hl := lv_entry ([.ref (G 0 0)]) (n := 1) (Nat.le_of_ble_eq_true rfl)
  rw [lg_entry_eq]
  generalize (lg_sl ([.ref (G 0 0)]) ++ List.replicate (1 - (lg_sl ([.ref (G 0 0)])).length) Slot.unset).toArray = ls at hl ⊢
  have hl : lv_has ls 1 [(0, .ref (G 0 0))] := hl
  unfold f_X4_nextDraw at hf
  refine lv_aload_n hx hb dX4_nextDraw_0 rfl (lv_at hl 0 rfl) ?_
  refine lv_aload_n hx hb dX4_nextDraw_1 rfl (lv_at hl 0 rfl) ?_
  refine z_get hx hb hts (fun w h => List.mem_cons_of_mem _ (ziX4 w h)) hown hK hP (zV_m (by decide)) rfl rfl 2 (by decide) (List.mem_cons_of_mem _ m_1143) rfl rfl dX4_nextDraw_2 ?_
  refine lv_iconst (v := 2) hx hb dX4_nextDraw_5 (by decide) ?_
  refine z_iald_ (j := 2) hx hb hK hP (zIA_m (by decide) (by decide)) (by decide) (by decide) dX4_nextDraw_6 ?_
  obtain ⟨v3, T2, h4, hf⟩ := zb_i hf
  refine z_ok (z_runS (As := [.int (T.2 2 0 2)]) (rest := [.ref (G 0 0)]) F k_X4_seedBehind m_1102 (c_X4_seedBehind (T.2 2 0 2) T T2 _ h4) hP hS rfl rfl hl.1 (Nat.le_of_ble_eq_true rfl) dX4_nextDraw_7 (Nat.le_of_ble_eq_true rfl) ⟨Nat.le_of_ble_eq_true rfl, Nat.le_of_ble_eq_true rfl⟩ rfl) hS (fun H locs hP hS => ?_)
  refine lv_sipush (v := 360) hx hb dX4_nextDraw_10 (by decide) ?_
  refine lv_irem hx hb dX4_nextDraw_13 (by decide) ?_
  obtain ⟨v6, T5, h7, hf⟩ := zb_i hf
  refine z_ok (z_runV (As := [.int (v3 - v3 / 360 * 360)]) (rest := []) F k_X4_told m_1230 (c_X4_told (v3 - v3 / 360 * 360) T2 T5 _ h7) hP hS (zV_m (by decide)) rfl rfl rfl rfl hl.1 (Nat.le_of_ble_eq_true rfl) dX4_nextDraw_14 (Nat.le_of_ble_eq_true rfl) ⟨Nat.le_of_ble_eq_true rfl, Nat.le_of_ble_eq_true rfl⟩ rfl) hS (fun H locs hP hS => ?_)
  obtain ⟨q1, q2⟩ := zs_i hf
  subst q1; subst q2
  exact z_iret hx hb hr rfl hP hS hlocks (Nat.le_of_ble_eq_true rfl) (Nat.le_of_ble_eq_true rfl) dX4_nextDraw_17

def f_X4_candles  (T : zT) : Option (Int32 × zT) := zb (f_X4_told (T.2 2 0 3) T) fun v3 T2 => some (v3, T2)
set_option maxHeartbeats 4000000 in
set_option maxRecDepth 100000 in
theorem c_X4_candles  (T T' : zT) (v : Int32) (hf : f_X4_candles  T = some (v, T')) : zC 1 yX4_candles cX4_candles 1 (some .int) 1  0 0  (fun G _ => [.ref (G 0 0)]) T (fun _ => .inl (some (.int v))) T' := by
  intro l D Y S V G A hl9 hG
  refine vx_ofW (cc := cX4_candles) (maxL := 1) (ret := (some .int)) (by decide) rfl ?_
  intro p e s m args below meth c s₁ B hml hex hv
  obtain ⟨rfl, hK, hP, hA⟩ := hv
  have hx := B.exec
  have hb := B.bytes
  have hr := B.returns
  have hlocks := B.notSynchronized
  have hown : s.vm.findClass RX4 = some m.cls := findClass_of_methodNamed B.named
  have hts := atoms_spec (ws := Cond.code yX4_candles cX4_candles 1 (some .int) :: zWS) B.pre
  have F : zF 1 1  0 0  p l s m _ c cX4_candles 1 RX4 (Cond.code yX4_candles cX4_candles 1 (some .int)) D Y S V G A := ⟨hx, hb, hml, hown, hts, hl9, hG, hK, hA⟩
  have hS : va_S A s.heap s.heap [] := va_S.rf
  have hl := lv_entry ([.ref (G 0 0)]) (n := 1) (Nat.le_of_ble_eq_true rfl)
  rw [lg_entry_eq]
  generalize (lg_sl ([.ref (G 0 0)]) ++ List.replicate (1 - (lg_sl ([.ref (G 0 0)])).length) Slot.unset).toArray = ls at hl ⊢
  have hl : lv_has ls 1 [(0, .ref (G 0 0))] := hl
  unfold f_X4_candles at hf
  refine lv_aload_n hx hb dX4_candles_0 rfl (lv_at hl 0 rfl) ?_
  refine lv_aload_n hx hb dX4_candles_1 rfl (lv_at hl 0 rfl) ?_
  refine z_get hx hb hts (fun w h => List.mem_cons_of_mem _ (ziX4 w h)) hown hK hP (zV_m (by decide)) rfl rfl 2 (by decide) (List.mem_cons_of_mem _ m_1143) rfl rfl dX4_candles_2 ?_
  refine lv_iconst (v := 3) hx hb dX4_candles_5 (by decide) ?_
  refine z_iald_ (j := 3) hx hb hK hP (zIA_m (by decide) (by decide)) (by decide) (by decide) dX4_candles_6 ?_
  obtain ⟨v3, T2, h4, hf⟩ := zb_i hf
  refine z_ok (z_runV (As := [.int (T.2 2 0 3)]) (rest := []) F k_X4_told m_1230 (c_X4_told (T.2 2 0 3) T T2 _ h4) hP hS (zV_m (by decide)) rfl rfl rfl rfl hl.1 (Nat.le_of_ble_eq_true rfl) dX4_candles_7 (Nat.le_of_ble_eq_true rfl) ⟨Nat.le_of_ble_eq_true rfl, Nat.le_of_ble_eq_true rfl⟩ rfl) hS (fun H locs hP hS => ?_)
  obtain ⟨q1, q2⟩ := zs_i hf
  subst q1; subst q2
  exact z_iret hx hb hr rfl hP hS hlocks (Nat.le_of_ble_eq_true rfl) (Nat.le_of_ble_eq_true rfl) dX4_candles_10

def f_X4_cakes (p0 : Int32) (T : zT) : Option (Int32 × zT) := zb (f_X4_in p0 0 5 T) fun v2 T1 => (if v2 = 0 then zb (f_X4_refuse 1 T1) fun v5 T4 => some (v5, T4) else zl (11 + p0) fun x8 => if zin x8 151 = true then zb (f_X4_told (T1.2 2 0 x8.toNatClampNeg) T1) fun v10 T9 => some (v10, T9) else none)
set_option maxHeartbeats 4000000 in
set_option maxRecDepth 100000 in
theorem c_X4_cakes (p0 : Int32) (T T' : zT) (v : Int32) (hf : f_X4_cakes p0 T = some (v, T')) : zC 1 yX4_cakes cX4_cakes 2 (some .int) 1  0 0  (fun G _ => [.ref (G 0 0), .int p0]) T (fun _ => .inl (some (.int v))) T' := by
  intro l D Y S V G A hl9 hG
  refine vx_ofW (cc := cX4_cakes) (maxL := 2) (ret := (some .int)) (by decide) rfl ?_
  intro p e s m args below meth c s₁ B hml hex hv
  obtain ⟨rfl, hK, hP, hA⟩ := hv
  have hx := B.exec
  have hb := B.bytes
  have hr := B.returns
  have hlocks := B.notSynchronized
  have hown : s.vm.findClass RX4 = some m.cls := findClass_of_methodNamed B.named
  have hts := atoms_spec (ws := Cond.code yX4_cakes cX4_cakes 2 (some .int) :: zWS) B.pre
  have F : zF 1 1  0 0  p l s m _ c cX4_cakes 2 RX4 (Cond.code yX4_cakes cX4_cakes 2 (some .int)) D Y S V G A := ⟨hx, hb, hml, hown, hts, hl9, hG, hK, hA⟩
  have hS : va_S A s.heap s.heap [] := va_S.rf
  have hl := lv_entry ([.ref (G 0 0), .int p0]) (n := 2) (Nat.le_of_ble_eq_true rfl)
  rw [lg_entry_eq]
  generalize (lg_sl ([.ref (G 0 0), .int p0]) ++ List.replicate (2 - (lg_sl ([.ref (G 0 0), .int p0])).length) Slot.unset).toArray = ls at hl ⊢
  have hl : lv_has ls 2 [(0, .ref (G 0 0)), (1, .int p0)] := hl
  unfold f_X4_cakes at hf
  refine lv_iload_n hx hb dX4_cakes_0 rfl (lv_at hl 1 rfl) ?_
  refine lv_iconst (v := 0) hx hb dX4_cakes_1 (by decide) ?_
  refine lv_iconst (v := 5) hx hb dX4_cakes_2 (by decide) ?_
  obtain ⟨v2, T1, h3, hf⟩ := zb_i hf
  refine z_ok (z_runS (As := [.int p0, .int 0, .int 5]) (rest := []) F k_X4_in m_1238 (c_X4_in p0 0 5 T T1 _ h3) hP hS rfl rfl hl.1 (Nat.le_of_ble_eq_true rfl) dX4_cakes_3 (Nat.le_of_ble_eq_true rfl) ⟨Nat.le_of_ble_eq_true rfl, Nat.le_of_ble_eq_true rfl⟩ rfl) hS (fun H locs hP hS => ?_)
  refine lv_if_eq (tgt := 25) hx hb dX4_cakes_6 (by decide) (fun hc => ?_) (fun hc => ?_)
  · have hf := zif_p hf hc
    refine lv_aload_n hx hb dX4_cakes_25 rfl (lv_at hl 0 rfl) ?_
    refine lv_iconst (v := 1) hx hb dX4_cakes_26 (by decide) ?_
    obtain ⟨v5, T4, h6, hf⟩ := zb_i hf
    refine z_ok (z_runV (As := [.int 1]) (rest := []) F k_X4_refuse m_1222 (c_X4_refuse 1 T1 T4 _ h6) hP hS (zV_m (by decide)) rfl rfl rfl rfl hl.1 (Nat.le_of_ble_eq_true rfl) dX4_cakes_27 (Nat.le_of_ble_eq_true rfl) ⟨Nat.le_of_ble_eq_true rfl, Nat.le_of_ble_eq_true rfl⟩ rfl) hS (fun H locs hP hS => ?_)
    obtain ⟨q1, q2⟩ := zs_i hf
    subst q1; subst q2
    exact z_iret hx hb hr rfl hP hS hlocks (Nat.le_of_ble_eq_true rfl) (Nat.le_of_ble_eq_true rfl) dX4_cakes_30
  · have hf := zif_n hf hc
    refine lv_aload_n hx hb dX4_cakes_9 rfl (lv_at hl 0 rfl) ?_
    refine lv_aload_n hx hb dX4_cakes_10 rfl (lv_at hl 0 rfl) ?_
    refine z_get hx hb hts (fun w h => List.mem_cons_of_mem _ (ziX4 w h)) hown hK hP (zV_m (by decide)) rfl rfl 2 (by decide) (List.mem_cons_of_mem _ m_1143) rfl rfl dX4_cakes_11 ?_
    refine lv_bipush (v := 11) hx hb dX4_cakes_14 (by decide) ?_
    refine lv_iload_n hx hb dX4_cakes_16 rfl (lv_at hl 1 rfl) ?_
    refine lv_iadd hx hb dX4_cakes_17 ?_
    obtain ⟨x8, ex8, hf⟩ := zl_i hf
    refine z_topi ex8 ?_
    obtain ⟨h7, hf⟩ := zif_c hf
    refine z_iald hx hb hK hP (zIA_m (by decide) (by decide)) (zin_i h7) dX4_cakes_18 ?_
    obtain ⟨v10, T9, h11, hf⟩ := zb_i hf
    refine z_ok (z_runV (As := [.int (T1.2 2 0 x8.toNatClampNeg)]) (rest := []) F k_X4_told m_1230 (c_X4_told (T1.2 2 0 x8.toNatClampNeg) T1 T9 _ h11) hP hS (zV_m (by decide)) rfl rfl rfl rfl hl.1 (Nat.le_of_ble_eq_true rfl) dX4_cakes_19 (Nat.le_of_ble_eq_true rfl) ⟨Nat.le_of_ble_eq_true rfl, Nat.le_of_ble_eq_true rfl⟩ rfl) hS (fun H locs hP hS => ?_)
    refine lv_goto (tgt := 30) hx hb dX4_cakes_22 (by decide) ?_
    obtain ⟨q1, q2⟩ := zs_i hf
    subst q1; subst q2
    exact z_iret hx hb hr rfl hP hS hlocks (Nat.le_of_ble_eq_true rfl) (Nat.le_of_ble_eq_true rfl) dX4_cakes_30

def lp_X4_mostWantedCake_4  : Nat → Int32 → Int32 → zT → Option ((Int32 × Int32) × zT)
  | 0, _, _, _ => none
  | n + 1, u1, u2, T => (if 6 ≤ u2 then some ((u1, u2), T) else zb (f_X4_liking u2 T) fun v2 T1 => zb (f_X4_liking u1 T1) fun v5 T4 => (if v2 ≤ v5 then zl (u2 + 1) fun x7 => lp_X4_mostWantedCake_4 n u1 x7 T4 else zl (u2 + 1) fun x8 => lp_X4_mostWantedCake_4 n u2 x8 T4))
def f_X4_mostWantedCake  (T : zT) : Option (Int32 × zT) := zb (lp_X4_mostWantedCake_4 2000 0 1 T) fun v10 T9 => zb (f_X4_told v10.1 T9) fun v13 T12 => some (v13, T12)
set_option maxHeartbeats 4000000 in
set_option maxRecDepth 100000 in
theorem l_X4_mostWantedCake_4 {p : Program} {l : Launch} {e : Env} {s : State} {m : MethodId} {args : Array Value} {below : List Frame} {meth : Method} {c : Code} {Q : State → Prop} {D : va_G} {Y : Nat → ClassId} {S V : Nat → Nat} {G : Nat → Nat → Nat} {A : Nat → Prop} {c0 : Cond} {mc ms cells slots : Nat} (F : zF 1 2 mc ms p l s m args c cX4_mostWantedCake 3 RX4 c0 D Y S V G A) (hcs : cells ≤ mc ∧ slots ≤ ms) :
    ∀ (n : Nat) (u1 : Int32) (u2 : Int32) (T : zT) (o : (Int32 × Int32) × zT) (H : Heap) (locs : List Loc) (ls : Array Slot), lp_X4_mostWantedCake_4 n u1 u2 T = some o → zP 1 D Y G T H → va_S A s.heap H locs → lv_has ls 3 [(0, .ref (G 0 0)), (1, .int u1), (2, .int u2)] → (∀ (H : Heap) (locs : List Loc) (ls : Array Slot), zP 1 D Y G o.2 H → va_S A s.heap H locs → lv_has ls 3 [(0, .ref (G 0 0)), (1, .int o.1.1), (2, .int o.1.2)] → W p l e (zR 2 mc ms) s m args below meth c H locs cells slots Q (F0 m 35 ls [])) → W p l e (zR 2 mc ms) s m args below meth c H locs cells slots Q (F0 m 4 ls []) := by
  obtain ⟨hx, hb, hml, hown, hts, hl9, hG, hK, hA⟩ := id F
  intro n
  induction n with
  | zero =>
    intro u1 u2 T o H locs ls hf
    rw [lp_X4_mostWantedCake_4] at hf
    cases hf
  | succ n ih =>
    intro u1 u2 T o H locs ls hf hP hS hl k0_
    rw [lp_X4_mostWantedCake_4] at hf
    refine lv_iload_n hx hb dX4_mostWantedCake_4 rfl (lv_at hl 2 rfl) ?_
    refine lv_bipush (v := 6) hx hb dX4_mostWantedCake_5 (by decide) ?_
    refine lv_icmp_ge (tgt := 35) hx hb dX4_mostWantedCake_7 (by decide) (fun hc => ?_) (fun hc => ?_)
    · have hf := zif_p hf hc
      cases hf
      exact k0_ _ _ _ hP hS (lv_sub hl [0, 1, 2] rfl)
    · have hf := zif_n hf hc
      refine lv_aload_n hx hb dX4_mostWantedCake_10 rfl (lv_at hl 0 rfl) ?_
      refine lv_iload_n hx hb dX4_mostWantedCake_11 rfl (lv_at hl 2 rfl) ?_
      obtain ⟨v2, T1, h3, hf⟩ := zb_i hf
      refine z_ok (z_runV (As := [.int u2]) (rest := []) F k_X4_liking m_1113 (c_X4_liking u2 T T1 _ h3) hP hS (zV_m (by decide)) rfl rfl rfl rfl hl.1 (Nat.le_of_ble_eq_true rfl) dX4_mostWantedCake_12 (Nat.le_of_ble_eq_true rfl) ⟨hcs.1, hcs.2⟩ rfl) hS (fun H locs hP hS => ?_)
      refine lv_aload_n hx hb dX4_mostWantedCake_15 rfl (lv_at hl 0 rfl) ?_
      refine lv_iload_n hx hb dX4_mostWantedCake_16 rfl (lv_at hl 1 rfl) ?_
      obtain ⟨v5, T4, h6, hf⟩ := zb_i hf
      refine z_ok (z_runV (As := [.int u1]) (rest := [.int v2]) F k_X4_liking m_1113 (c_X4_liking u1 T1 T4 _ h6) hP hS (zV_m (by decide)) rfl rfl rfl rfl hl.1 (Nat.le_of_ble_eq_true rfl) dX4_mostWantedCake_17 (Nat.le_of_ble_eq_true rfl) ⟨hcs.1, hcs.2⟩ rfl) hS (fun H locs hP hS => ?_)
      refine lv_icmp_le (tgt := 27) hx hb dX4_mostWantedCake_20 (by decide) (fun hc => ?_) (fun hc => ?_)
      · have hf := zif_p hf hc
        refine lv_iload_n hx hb dX4_mostWantedCake_27 rfl (lv_at hl 1 rfl) ?_
        refine lv_istore_n (lv' := [(1, .int u1), (0, .ref (G 0 0)), (2, .int u2)]) hx hb dX4_mostWantedCake_28 rfl hl (by decide) rfl (fun ls hl => ?_)
        obtain ⟨x7, ex7, hf⟩ := zl_i hf
        refine lv_iinc (v := x7) (lv' := [(2, .int x7), (1, .int u1), (0, .ref (G 0 0))]) hx hb dX4_mostWantedCake_29 hl (k := 2) rfl (by rw [ex7]; rfl) (by decide) rfl (fun ls hl => ?_)
        refine lv_goto (tgt := 4) hx hb dX4_mostWantedCake_32 (by decide) ?_
        exact ih u1 x7 _ _ _ _ _ hf hP hS (lv_sub hl [2, 1, 0] rfl) k0_
      · have hf := zif_n hf hc
        refine lv_iload_n hx hb dX4_mostWantedCake_23 rfl (lv_at hl 2 rfl) ?_
        refine lv_goto (tgt := 28) hx hb dX4_mostWantedCake_24 (by decide) ?_
        refine lv_istore_n (lv' := [(1, .int u2), (0, .ref (G 0 0)), (2, .int u2)]) hx hb dX4_mostWantedCake_28 rfl hl (by decide) rfl (fun ls hl => ?_)
        obtain ⟨x8, ex8, hf⟩ := zl_i hf
        refine lv_iinc (v := x8) (lv' := [(2, .int x8), (1, .int u2), (0, .ref (G 0 0))]) hx hb dX4_mostWantedCake_29 hl (k := 2) rfl (by rw [ex8]; rfl) (by decide) rfl (fun ls hl => ?_)
        refine lv_goto (tgt := 4) hx hb dX4_mostWantedCake_32 (by decide) ?_
        exact ih u2 x8 _ _ _ _ _ hf hP hS (lv_sub hl [2, 1, 0] rfl) k0_
set_option maxHeartbeats 4000000 in
set_option maxRecDepth 100000 in
theorem c_X4_mostWantedCake  (T T' : zT) (v : Int32) (hf : f_X4_mostWantedCake  T = some (v, T')) : zC 1 yX4_mostWantedCake cX4_mostWantedCake 3 (some .int) 2  0 0  (fun G _ => [.ref (G 0 0)]) T (fun _ => .inl (some (.int v))) T' := by
  intro l D Y S V G A hl9 hG
  refine vx_ofW (cc := cX4_mostWantedCake) (maxL := 3) (ret := (some .int)) (by decide) rfl ?_
  intro p e s m args below meth c s₁ B hml hex hv
  obtain ⟨rfl, hK, hP, hA⟩ := hv
  have hx := B.exec
  have hb := B.bytes
  have hr := B.returns
  have hlocks := B.notSynchronized
  have hown : s.vm.findClass RX4 = some m.cls := findClass_of_methodNamed B.named
  have hts := atoms_spec (ws := Cond.code yX4_mostWantedCake cX4_mostWantedCake 3 (some .int) :: zWS) B.pre
  have F : zF 1 2  0 0  p l s m _ c cX4_mostWantedCake 3 RX4 (Cond.code yX4_mostWantedCake cX4_mostWantedCake 3 (some .int)) D Y S V G A := ⟨hx, hb, hml, hown, hts, hl9, hG, hK, hA⟩
  have hS : va_S A s.heap s.heap [] := va_S.rf
  have hl := lv_entry ([.ref (G 0 0)]) (n := 3) (Nat.le_of_ble_eq_true rfl)
  rw [lg_entry_eq]
  generalize (lg_sl ([.ref (G 0 0)]) ++ List.replicate (3 - (lg_sl ([.ref (G 0 0)])).length) Slot.unset).toArray = ls at hl ⊢
  have hl : lv_has ls 3 [(0, .ref (G 0 0))] := hl
  unfold f_X4_mostWantedCake at hf
  refine lv_iconst (v := 0) hx hb dX4_mostWantedCake_0 (by decide) ?_
  refine lv_istore_n (lv' := [(1, .int 0), (0, .ref (G 0 0))]) hx hb dX4_mostWantedCake_1 rfl hl (by decide) rfl (fun ls hl => ?_)
  refine lv_iconst (v := 1) hx hb dX4_mostWantedCake_2 (by decide) ?_
  refine lv_istore_n (lv' := [(2, .int 1), (1, .int 0), (0, .ref (G 0 0))]) hx hb dX4_mostWantedCake_3 rfl hl (by decide) rfl (fun ls hl => ?_)
  obtain ⟨v10, T9, h11, hf⟩ := zb_i hf
  refine l_X4_mostWantedCake_4 F ⟨Nat.le_of_ble_eq_true rfl, Nat.le_of_ble_eq_true rfl⟩  2000 0 1 _ _ _ _ _ h11 hP hS (lv_sub hl [2, 1, 0] rfl) (fun H locs ls hP hS hl => ?_)
  refine lv_aload_n hx hb dX4_mostWantedCake_35 rfl (lv_at hl 0 rfl) ?_
  refine lv_iload_n hx hb dX4_mostWantedCake_36 rfl (lv_at hl 1 rfl) ?_
  obtain ⟨v13, T12, h14, hf⟩ := zb_i hf
  refine z_ok (z_runV (As := [.int v10.1]) (rest := []) F k_X4_told m_1230 (c_X4_told v10.1 T9 T12 _ h14) hP hS (zV_m (by decide)) rfl rfl rfl rfl hl.1 (Nat.le_of_ble_eq_true rfl) dX4_mostWantedCake_37 (Nat.le_of_ble_eq_true rfl) ⟨Nat.le_of_ble_eq_true rfl, Nat.le_of_ble_eq_true rfl⟩ rfl) hS (fun H locs hP hS => ?_)
  obtain ⟨q1, q2⟩ := zs_i hf
  subst q1; subst q2
  exact z_iret hx hb hr rfl hP hS hlocks (Nat.le_of_ble_eq_true rfl) (Nat.le_of_ble_eq_true rfl) dX4_mostWantedCake_40

def f_X4_gardenCount  (T : zT) : Option (Int32 × zT) := zb (f_X4_told (T.2 2 0 4) T) fun v3 T2 => some (v3, T2)
set_option maxHeartbeats 4000000 in
set_option maxRecDepth 100000 in
theorem c_X4_gardenCount  (T T' : zT) (v : Int32) (hf : f_X4_gardenCount  T = some (v, T')) : zC 1 yX4_gardenCount cX4_gardenCount 1 (some .int) 1  0 0  (fun G _ => [.ref (G 0 0)]) T (fun _ => .inl (some (.int v))) T' := by
  intro l D Y S V G A hl9 hG
  refine vx_ofW (cc := cX4_gardenCount) (maxL := 1) (ret := (some .int)) (by decide) rfl ?_
  intro p e s m args below meth c s₁ B hml hex hv
  obtain ⟨rfl, hK, hP, hA⟩ := hv
  have hx := B.exec
  have hb := B.bytes
  have hr := B.returns
  have hlocks := B.notSynchronized
  have hown : s.vm.findClass RX4 = some m.cls := findClass_of_methodNamed B.named
  have hts := atoms_spec (ws := Cond.code yX4_gardenCount cX4_gardenCount 1 (some .int) :: zWS) B.pre
  have F : zF 1 1  0 0  p l s m _ c cX4_gardenCount 1 RX4 (Cond.code yX4_gardenCount cX4_gardenCount 1 (some .int)) D Y S V G A := ⟨hx, hb, hml, hown, hts, hl9, hG, hK, hA⟩
  have hS : va_S A s.heap s.heap [] := va_S.rf
  have hl := lv_entry ([.ref (G 0 0)]) (n := 1) (Nat.le_of_ble_eq_true rfl)
  rw [lg_entry_eq]
  generalize (lg_sl ([.ref (G 0 0)]) ++ List.replicate (1 - (lg_sl ([.ref (G 0 0)])).length) Slot.unset).toArray = ls at hl ⊢
  have hl : lv_has ls 1 [(0, .ref (G 0 0))] := hl
  unfold f_X4_gardenCount at hf
  refine lv_aload_n hx hb dX4_gardenCount_0 rfl (lv_at hl 0 rfl) ?_
  refine lv_aload_n hx hb dX4_gardenCount_1 rfl (lv_at hl 0 rfl) ?_
  refine z_get hx hb hts (fun w h => List.mem_cons_of_mem _ (ziX4 w h)) hown hK hP (zV_m (by decide)) rfl rfl 2 (by decide) (List.mem_cons_of_mem _ m_1143) rfl rfl dX4_gardenCount_2 ?_
  refine lv_iconst (v := 4) hx hb dX4_gardenCount_5 (by decide) ?_
  refine z_iald_ (j := 4) hx hb hK hP (zIA_m (by decide) (by decide)) (by decide) (by decide) dX4_gardenCount_6 ?_
  obtain ⟨v3, T2, h4, hf⟩ := zb_i hf
  refine z_ok (z_runV (As := [.int (T.2 2 0 4)]) (rest := []) F k_X4_told m_1230 (c_X4_told (T.2 2 0 4) T T2 _ h4) hP hS (zV_m (by decide)) rfl rfl rfl rfl hl.1 (Nat.le_of_ble_eq_true rfl) dX4_gardenCount_7 (Nat.le_of_ble_eq_true rfl) ⟨Nat.le_of_ble_eq_true rfl, Nat.le_of_ble_eq_true rfl⟩ rfl) hS (fun H locs hP hS => ?_)
  obtain ⟨q1, q2⟩ := zs_i hf
  subst q1; subst q2
  exact z_iret hx hb hr rfl hP hS hlocks (Nat.le_of_ble_eq_true rfl) (Nat.le_of_ble_eq_true rfl) dX4_gardenCount_10

def f_X4_seatsOf (p0 : Int32) (T : zT) : Option (Int32 × zT) := zb (f_X4_isGarden p0 T) fun v2 T1 => (if v2 = 0 then zb (f_X4_refuse 1 T1) fun v5 T4 => some (v5, T4) else zl (17 + p0) fun x8 => if zin x8 151 = true then zb (f_X4_told (T1.2 2 0 x8.toNatClampNeg) T1) fun v10 T9 => some (v10, T9) else none)
set_option maxHeartbeats 4000000 in
set_option maxRecDepth 100000 in
theorem c_X4_seatsOf (p0 : Int32) (T T' : zT) (v : Int32) (hf : f_X4_seatsOf p0 T = some (v, T')) : zC 1 yX4_seatsOf cX4_seatsOf 2 (some .int) 2  0 0  (fun G _ => [.ref (G 0 0), .int p0]) T (fun _ => .inl (some (.int v))) T' := by
  intro l D Y S V G A hl9 hG
  refine vx_ofW (cc := cX4_seatsOf) (maxL := 2) (ret := (some .int)) (by decide) rfl ?_
  intro p e s m args below meth c s₁ B hml hex hv
  obtain ⟨rfl, hK, hP, hA⟩ := hv
  have hx := B.exec
  have hb := B.bytes
  have hr := B.returns
  have hlocks := B.notSynchronized
  have hown : s.vm.findClass RX4 = some m.cls := findClass_of_methodNamed B.named
  have hts := atoms_spec (ws := Cond.code yX4_seatsOf cX4_seatsOf 2 (some .int) :: zWS) B.pre
  have F : zF 1 2  0 0  p l s m _ c cX4_seatsOf 2 RX4 (Cond.code yX4_seatsOf cX4_seatsOf 2 (some .int)) D Y S V G A := ⟨hx, hb, hml, hown, hts, hl9, hG, hK, hA⟩
  have hS : va_S A s.heap s.heap [] := va_S.rf
  have hl := lv_entry ([.ref (G 0 0), .int p0]) (n := 2) (Nat.le_of_ble_eq_true rfl)
  rw [lg_entry_eq]
  generalize (lg_sl ([.ref (G 0 0), .int p0]) ++ List.replicate (2 - (lg_sl ([.ref (G 0 0), .int p0])).length) Slot.unset).toArray = ls at hl ⊢
  have hl : lv_has ls 2 [(0, .ref (G 0 0)), (1, .int p0)] := hl
  unfold f_X4_seatsOf at hf
  refine lv_aload_n hx hb dX4_seatsOf_0 rfl (lv_at hl 0 rfl) ?_
  refine lv_iload_n hx hb dX4_seatsOf_1 rfl (lv_at hl 1 rfl) ?_
  obtain ⟨v2, T1, h3, hf⟩ := zb_i hf
  refine z_ok (z_runV (As := [.int p0]) (rest := []) F k_X4_isGarden m_1379 (c_X4_isGarden p0 T T1 _ h3) hP hS (zV_m (by decide)) rfl rfl rfl rfl hl.1 (Nat.le_of_ble_eq_true rfl) dX4_seatsOf_2 (Nat.le_of_ble_eq_true rfl) ⟨Nat.le_of_ble_eq_true rfl, Nat.le_of_ble_eq_true rfl⟩ rfl) hS (fun H locs hP hS => ?_)
  refine lv_if_eq (tgt := 24) hx hb dX4_seatsOf_5 (by decide) (fun hc => ?_) (fun hc => ?_)
  · have hf := zif_p hf hc
    refine lv_aload_n hx hb dX4_seatsOf_24 rfl (lv_at hl 0 rfl) ?_
    refine lv_iconst (v := 1) hx hb dX4_seatsOf_25 (by decide) ?_
    obtain ⟨v5, T4, h6, hf⟩ := zb_i hf
    refine z_ok (z_runV (As := [.int 1]) (rest := []) F k_X4_refuse m_1222 (c_X4_refuse 1 T1 T4 _ h6) hP hS (zV_m (by decide)) rfl rfl rfl rfl hl.1 (Nat.le_of_ble_eq_true rfl) dX4_seatsOf_26 (Nat.le_of_ble_eq_true rfl) ⟨Nat.le_of_ble_eq_true rfl, Nat.le_of_ble_eq_true rfl⟩ rfl) hS (fun H locs hP hS => ?_)
    obtain ⟨q1, q2⟩ := zs_i hf
    subst q1; subst q2
    exact z_iret hx hb hr rfl hP hS hlocks (Nat.le_of_ble_eq_true rfl) (Nat.le_of_ble_eq_true rfl) dX4_seatsOf_29
  · have hf := zif_n hf hc
    refine lv_aload_n hx hb dX4_seatsOf_8 rfl (lv_at hl 0 rfl) ?_
    refine lv_aload_n hx hb dX4_seatsOf_9 rfl (lv_at hl 0 rfl) ?_
    refine z_get hx hb hts (fun w h => List.mem_cons_of_mem _ (ziX4 w h)) hown hK hP (zV_m (by decide)) rfl rfl 2 (by decide) (List.mem_cons_of_mem _ m_1143) rfl rfl dX4_seatsOf_10 ?_
    refine lv_bipush (v := 17) hx hb dX4_seatsOf_13 (by decide) ?_
    refine lv_iload_n hx hb dX4_seatsOf_15 rfl (lv_at hl 1 rfl) ?_
    refine lv_iadd hx hb dX4_seatsOf_16 ?_
    obtain ⟨x8, ex8, hf⟩ := zl_i hf
    refine z_topi ex8 ?_
    obtain ⟨h7, hf⟩ := zif_c hf
    refine z_iald hx hb hK hP (zIA_m (by decide) (by decide)) (zin_i h7) dX4_seatsOf_17 ?_
    obtain ⟨v10, T9, h11, hf⟩ := zb_i hf
    refine z_ok (z_runV (As := [.int (T1.2 2 0 x8.toNatClampNeg)]) (rest := []) F k_X4_told m_1230 (c_X4_told (T1.2 2 0 x8.toNatClampNeg) T1 T9 _ h11) hP hS (zV_m (by decide)) rfl rfl rfl rfl hl.1 (Nat.le_of_ble_eq_true rfl) dX4_seatsOf_18 (Nat.le_of_ble_eq_true rfl) ⟨Nat.le_of_ble_eq_true rfl, Nat.le_of_ble_eq_true rfl⟩ rfl) hS (fun H locs hP hS => ?_)
    refine lv_goto (tgt := 29) hx hb dX4_seatsOf_21 (by decide) ?_
    obtain ⟨q1, q2⟩ := zs_i hf
    subst q1; subst q2
    exact z_iret hx hb hr rfl hP hS hlocks (Nat.le_of_ble_eq_true rfl) (Nat.le_of_ble_eq_true rfl) dX4_seatsOf_29

def lp_X4_childrenOf_18 (w1 : Int32) : Nat → Int32 → Int32 → zT → Option ((Int32 × Int32) × zT)
  | 0, _, _, _ => none
  | n + 1, u2, u3, T => (if (T.2 2 0 5) ≤ u3 then some ((u2, u3), T) else zb (f_X4_c u3 T) fun v6 T5 => zl (v6 + 3) fun x9 => if zin x9 151 = true then (if (T5.2 2 0 x9.toNatClampNeg) = w1 then zl (u2 + 1) fun x12 => zl (u3 + 1) fun x13 => lp_X4_childrenOf_18 w1 n x12 x13 T5 else zl (u2 + 0) fun x10 => zl (u3 + 1) fun x11 => lp_X4_childrenOf_18 w1 n x10 x11 T5) else none)
def f_X4_childrenOf (p0 : Int32) (T : zT) : Option (Int32 × zT) := zb (f_X4_isGarden p0 T) fun v2 T1 => (if v2 = 0 then zb (f_X4_refuse 1 T1) fun v21 T20 => some (v21, T20) else zb (lp_X4_childrenOf_18 p0 2000 0 0 T1) fun v15 T14 => zb (f_X4_told v15.1 T14) fun v18 T17 => some (v18, T17))
set_option maxHeartbeats 4000000 in
set_option maxRecDepth 100000 in
theorem l_X4_childrenOf_18 {p : Program} {l : Launch} {e : Env} {s : State} {m : MethodId} {args : Array Value} {below : List Frame} {meth : Method} {c : Code} {Q : State → Prop} {D : va_G} {Y : Nat → ClassId} {S V : Nat → Nat} {G : Nat → Nat → Nat} {A : Nat → Prop} {c0 : Cond} {mc ms cells slots : Nat} (F : zF 1 2 mc ms p l s m args c cX4_childrenOf 4 RX4 c0 D Y S V G A) (hcs : cells ≤ mc ∧ slots ≤ ms) (w1 : Int32) :
    ∀ (n : Nat) (u2 : Int32) (u3 : Int32) (T : zT) (o : (Int32 × Int32) × zT) (H : Heap) (locs : List Loc) (ls : Array Slot), lp_X4_childrenOf_18 w1 n u2 u3 T = some o → zP 1 D Y G T H → va_S A s.heap H locs → lv_has ls 4 [(0, .ref (G 0 0)), (1, .int w1), (2, .int u2), (3, .int u3)] → (∀ (H : Heap) (locs : List Loc) (ls : Array Slot), zP 1 D Y G o.2 H → va_S A s.heap H locs → lv_has ls 4 [(0, .ref (G 0 0)), (1, .int w1), (2, .int o.1.1), (3, .int o.1.2)] → W p l e (zR 2 mc ms) s m args below meth c H locs cells slots Q (F0 m 57 ls [])) → W p l e (zR 2 mc ms) s m args below meth c H locs cells slots Q (F0 m 18 ls []) := by
  obtain ⟨hx, hb, hml, hown, hts, hl9, hG, hK, hA⟩ := id F
  intro n
  induction n with
  | zero =>
    intro u2 u3 T o H locs ls hf
    rw [lp_X4_childrenOf_18] at hf
    cases hf
  | succ n ih =>
    intro u2 u3 T o H locs ls hf hP hS hl k0_
    rw [lp_X4_childrenOf_18] at hf
    refine lv_iload_n hx hb dX4_childrenOf_18 rfl (lv_at hl 3 rfl) ?_
    refine lv_aload_n hx hb dX4_childrenOf_19 rfl (lv_at hl 0 rfl) ?_
    refine z_get hx hb hts (fun w h => List.mem_cons_of_mem _ (ziX4 w h)) hown hK hP (zV_m (by decide)) rfl rfl 2 (by decide) (List.mem_cons_of_mem _ m_1143) rfl rfl dX4_childrenOf_20 ?_
    refine lv_iconst (v := 5) hx hb dX4_childrenOf_23 (by decide) ?_
    refine z_iald_ (j := 5) hx hb hK hP (zIA_m (by decide) (by decide)) (by decide) (by decide) dX4_childrenOf_24 ?_
    refine lv_icmp_ge (tgt := 57) hx hb dX4_childrenOf_25 (by decide) (fun hc => ?_) (fun hc => ?_)
    · have hf := zif_p hf hc
      cases hf
      exact k0_ _ _ _ hP hS (lv_sub hl [0, 1, 2, 3] rfl)
    · have hf := zif_n hf hc
      refine lv_iload_n hx hb dX4_childrenOf_28 rfl (lv_at hl 2 rfl) ?_
      refine lv_aload_n hx hb dX4_childrenOf_29 rfl (lv_at hl 0 rfl) ?_
      refine z_get hx hb hts (fun w h => List.mem_cons_of_mem _ (ziX4 w h)) hown hK hP (zV_m (by decide)) rfl rfl 2 (by decide) (List.mem_cons_of_mem _ m_1143) rfl rfl dX4_childrenOf_30 ?_
      refine lv_iload_n hx hb dX4_childrenOf_33 rfl (lv_at hl 3 rfl) ?_
      obtain ⟨v6, T5, h7, hf⟩ := zb_i hf
      refine z_ok (z_runS (As := [.int u3]) (rest := [.ref (G 2 0), .int u2]) F k_X4_c m_1095 (c_X4_c u3 T T5 _ h7) hP hS rfl rfl hl.1 (Nat.le_of_ble_eq_true rfl) dX4_childrenOf_34 (Nat.le_of_ble_eq_true rfl) ⟨hcs.1, hcs.2⟩ rfl) hS (fun H locs hP hS => ?_)
      refine lv_iconst (v := 3) hx hb dX4_childrenOf_37 (by decide) ?_
      refine lv_iadd hx hb dX4_childrenOf_38 ?_
      obtain ⟨x9, ex9, hf⟩ := zl_i hf
      refine z_topi ex9 ?_
      obtain ⟨h8, hf⟩ := zif_c hf
      refine z_iald hx hb hK hP (zIA_m (by decide) (by decide)) (zin_i h8) dX4_childrenOf_39 ?_
      refine lv_iload_n hx hb dX4_childrenOf_40 rfl (lv_at hl 1 rfl) ?_
      refine lv_icmp_ne (tgt := 48) hx hb dX4_childrenOf_41 (by decide) (fun hc => ?_) (fun hc => ?_)
      · have hf := zif_n hf hc
        refine lv_iconst (v := 0) hx hb dX4_childrenOf_48 (by decide) ?_
        refine lv_iadd hx hb dX4_childrenOf_49 ?_
        obtain ⟨x10, ex10, hf⟩ := zl_i hf
        refine z_topi ex10 ?_
        refine lv_istore_n (lv' := [(2, .int x10), (0, .ref (G 0 0)), (1, .int w1), (3, .int u3)]) hx hb dX4_childrenOf_50 rfl hl (by decide) rfl (fun ls hl => ?_)
        obtain ⟨x11, ex11, hf⟩ := zl_i hf
        refine lv_iinc (v := x11) (lv' := [(3, .int x11), (2, .int x10), (0, .ref (G 0 0)), (1, .int w1)]) hx hb dX4_childrenOf_51 hl (k := 3) rfl (by rw [ex11]; rfl) (by decide) rfl (fun ls hl => ?_)
        refine lv_goto (tgt := 18) hx hb dX4_childrenOf_54 (by decide) ?_
        exact ih x10 x11 _ _ _ _ _ hf hP hS (lv_sub hl [2, 3, 1, 0] rfl) k0_
      · have hf := zif_p hf hc
        refine lv_iconst (v := 1) hx hb dX4_childrenOf_44 (by decide) ?_
        refine lv_goto (tgt := 49) hx hb dX4_childrenOf_45 (by decide) ?_
        refine lv_iadd hx hb dX4_childrenOf_49 ?_
        obtain ⟨x12, ex12, hf⟩ := zl_i hf
        refine z_topi ex12 ?_
        refine lv_istore_n (lv' := [(2, .int x12), (0, .ref (G 0 0)), (1, .int w1), (3, .int u3)]) hx hb dX4_childrenOf_50 rfl hl (by decide) rfl (fun ls hl => ?_)
        obtain ⟨x13, ex13, hf⟩ := zl_i hf
        refine lv_iinc (v := x13) (lv' := [(3, .int x13), (2, .int x12), (0, .ref (G 0 0)), (1, .int w1)]) hx hb dX4_childrenOf_51 hl (k := 3) rfl (by rw [ex13]; rfl) (by decide) rfl (fun ls hl => ?_)
        refine lv_goto (tgt := 18) hx hb dX4_childrenOf_54 (by decide) ?_
        exact ih x12 x13 _ _ _ _ _ hf hP hS (lv_sub hl [2, 3, 1, 0] rfl) k0_
set_option maxHeartbeats 4000000 in
set_option maxRecDepth 100000 in
theorem c_X4_childrenOf (p0 : Int32) (T T' : zT) (v : Int32) (hf : f_X4_childrenOf p0 T = some (v, T')) : zC 1 yX4_childrenOf cX4_childrenOf 4 (some .int) 2  0 0  (fun G _ => [.ref (G 0 0), .int p0]) T (fun _ => .inl (some (.int v))) T' := by
  intro l D Y S V G A hl9 hG
  refine vx_ofW (cc := cX4_childrenOf) (maxL := 4) (ret := (some .int)) (by decide) rfl ?_
  intro p e s m args below meth c s₁ B hml hex hv
  obtain ⟨rfl, hK, hP, hA⟩ := hv
  have hx := B.exec
  have hb := B.bytes
  have hr := B.returns
  have hlocks := B.notSynchronized
  have hown : s.vm.findClass RX4 = some m.cls := findClass_of_methodNamed B.named
  have hts := atoms_spec (ws := Cond.code yX4_childrenOf cX4_childrenOf 4 (some .int) :: zWS) B.pre
  have F : zF 1 2  0 0  p l s m _ c cX4_childrenOf 4 RX4 (Cond.code yX4_childrenOf cX4_childrenOf 4 (some .int)) D Y S V G A := ⟨hx, hb, hml, hown, hts, hl9, hG, hK, hA⟩
  have hS : va_S A s.heap s.heap [] := va_S.rf
  have hl := lv_entry ([.ref (G 0 0), .int p0]) (n := 4) (Nat.le_of_ble_eq_true rfl)
  rw [lg_entry_eq]
  generalize (lg_sl ([.ref (G 0 0), .int p0]) ++ List.replicate (4 - (lg_sl ([.ref (G 0 0), .int p0])).length) Slot.unset).toArray = ls at hl ⊢
  have hl : lv_has ls 4 [(0, .ref (G 0 0)), (1, .int p0)] := hl
  unfold f_X4_childrenOf at hf
  refine lv_aload_n hx hb dX4_childrenOf_0 rfl (lv_at hl 0 rfl) ?_
  refine lv_iload_n hx hb dX4_childrenOf_1 rfl (lv_at hl 1 rfl) ?_
  obtain ⟨v2, T1, h3, hf⟩ := zb_i hf
  refine z_ok (z_runV (As := [.int p0]) (rest := []) F k_X4_isGarden m_1379 (c_X4_isGarden p0 T T1 _ h3) hP hS (zV_m (by decide)) rfl rfl rfl rfl hl.1 (Nat.le_of_ble_eq_true rfl) dX4_childrenOf_2 (Nat.le_of_ble_eq_true rfl) ⟨Nat.le_of_ble_eq_true rfl, Nat.le_of_ble_eq_true rfl⟩ rfl) hS (fun H locs hP hS => ?_)
  refine lv_if_ne (tgt := 14) hx hb dX4_childrenOf_5 (by decide) (fun hc => ?_) (fun hc => ?_)
  · have hf := zif_n hf hc
    refine lv_iconst (v := 0) hx hb dX4_childrenOf_14 (by decide) ?_
    refine lv_istore_n (lv' := [(2, .int 0), (0, .ref (G 0 0)), (1, .int p0)]) hx hb dX4_childrenOf_15 rfl hl (by decide) rfl (fun ls hl => ?_)
    refine lv_iconst (v := 0) hx hb dX4_childrenOf_16 (by decide) ?_
    refine lv_istore_n (lv' := [(3, .int 0), (2, .int 0), (0, .ref (G 0 0)), (1, .int p0)]) hx hb dX4_childrenOf_17 rfl hl (by decide) rfl (fun ls hl => ?_)
    obtain ⟨v15, T14, h16, hf⟩ := zb_i hf
    refine l_X4_childrenOf_18 F ⟨Nat.le_of_ble_eq_true rfl, Nat.le_of_ble_eq_true rfl⟩ p0 2000 0 0 _ _ _ _ _ h16 hP hS (lv_sub hl [2, 3, 1, 0] rfl) (fun H locs ls hP hS hl => ?_)
    refine lv_aload_n hx hb dX4_childrenOf_57 rfl (lv_at hl 0 rfl) ?_
    refine lv_iload_n hx hb dX4_childrenOf_58 rfl (lv_at hl 2 rfl) ?_
    obtain ⟨v18, T17, h19, hf⟩ := zb_i hf
    refine z_ok (z_runV (As := [.int v15.1]) (rest := []) F k_X4_told m_1230 (c_X4_told v15.1 T14 T17 _ h19) hP hS (zV_m (by decide)) rfl rfl rfl rfl hl.1 (Nat.le_of_ble_eq_true rfl) dX4_childrenOf_59 (Nat.le_of_ble_eq_true rfl) ⟨Nat.le_of_ble_eq_true rfl, Nat.le_of_ble_eq_true rfl⟩ rfl) hS (fun H locs hP hS => ?_)
    obtain ⟨q1, q2⟩ := zs_i hf
    subst q1; subst q2
    exact z_iret hx hb hr rfl hP hS hlocks (Nat.le_of_ble_eq_true rfl) (Nat.le_of_ble_eq_true rfl) dX4_childrenOf_62
  · have hf := zif_p hf hc
    refine lv_aload_n hx hb dX4_childrenOf_8 rfl (lv_at hl 0 rfl) ?_
    refine lv_iconst (v := 1) hx hb dX4_childrenOf_9 (by decide) ?_
    obtain ⟨v21, T20, h22, hf⟩ := zb_i hf
    refine z_ok (z_runV (As := [.int 1]) (rest := []) F k_X4_refuse m_1222 (c_X4_refuse 1 T1 T20 _ h22) hP hS (zV_m (by decide)) rfl rfl rfl rfl hl.1 (Nat.le_of_ble_eq_true rfl) dX4_childrenOf_10 (Nat.le_of_ble_eq_true rfl) ⟨Nat.le_of_ble_eq_true rfl, Nat.le_of_ble_eq_true rfl⟩ rfl) hS (fun H locs hP hS => ?_)
    obtain ⟨q1, q2⟩ := zs_i hf
    subst q1; subst q2
    exact z_iret hx hb hr rfl hP hS hlocks (Nat.le_of_ble_eq_true rfl) (Nat.le_of_ble_eq_true rfl) dX4_childrenOf_13

def f_X4_partyIn (p0 : Int32) (p1 : Int32) (p2 : Int32) (T : zT) : Option (Int32 × zT) := zb (f_X4_isGarden p0 T) fun v2 T1 => (if v2 = 0 then zb (f_X4_refuse 1 T1) fun v20 T19 => some (v20, T19) else zb (f_X4_isDate p1 p2 T1) fun v5 T4 => (if v5 = 0 then zb (f_X4_refuse 2 T4) fun v8 T7 => some (v8, T7) else zb (f_X4_position p1 p2 T4) fun v11 T10 => zb (f_X4_partyOn p0 v11 T10) fun v14 T13 => zb (f_X4_told v14 T13) fun v17 T16 => some (v17, T16)))
set_option maxHeartbeats 4000000 in
set_option maxRecDepth 100000 in
theorem c_X4_partyIn (p0 : Int32) (p1 : Int32) (p2 : Int32) (T T' : zT) (v : Int32) (hf : f_X4_partyIn p0 p1 p2 T = some (v, T')) : zC 1 yX4_partyIn cX4_partyIn 4 (some .int) 2  0 0  (fun G _ => [.ref (G 0 0), .int p0, .int p1, .int p2]) T (fun _ => .inl (some (.int v))) T' := by
  intro l D Y S V G A hl9 hG
  refine vx_ofW (cc := cX4_partyIn) (maxL := 4) (ret := (some .int)) (by decide) rfl ?_
  intro p e s m args below meth c s₁ B hml hex hv
  obtain ⟨rfl, hK, hP, hA⟩ := hv
  have hx := B.exec
  have hb := B.bytes
  have hr := B.returns
  have hlocks := B.notSynchronized
  have hown : s.vm.findClass RX4 = some m.cls := findClass_of_methodNamed B.named
  have hts := atoms_spec (ws := Cond.code yX4_partyIn cX4_partyIn 4 (some .int) :: zWS) B.pre
  have F : zF 1 2  0 0  p l s m _ c cX4_partyIn 4 RX4 (Cond.code yX4_partyIn cX4_partyIn 4 (some .int)) D Y S V G A := ⟨hx, hb, hml, hown, hts, hl9, hG, hK, hA⟩
  have hS : va_S A s.heap s.heap [] := va_S.rf
  have hl := lv_entry ([.ref (G 0 0), .int p0, .int p1, .int p2]) (n := 4) (Nat.le_of_ble_eq_true rfl)
  rw [lg_entry_eq]
  generalize (lg_sl ([.ref (G 0 0), .int p0, .int p1, .int p2]) ++ List.replicate (4 - (lg_sl ([.ref (G 0 0), .int p0, .int p1, .int p2])).length) Slot.unset).toArray = ls at hl ⊢
  have hl : lv_has ls 4 [(0, .ref (G 0 0)), (1, .int p0), (2, .int p1), (3, .int p2)] := hl
  unfold f_X4_partyIn at hf
  refine lv_aload_n hx hb dX4_partyIn_0 rfl (lv_at hl 0 rfl) ?_
  refine lv_iload_n hx hb dX4_partyIn_1 rfl (lv_at hl 1 rfl) ?_
  obtain ⟨v2, T1, h3, hf⟩ := zb_i hf
  refine z_ok (z_runV (As := [.int p0]) (rest := []) F k_X4_isGarden m_1379 (c_X4_isGarden p0 T T1 _ h3) hP hS (zV_m (by decide)) rfl rfl rfl rfl hl.1 (Nat.le_of_ble_eq_true rfl) dX4_partyIn_2 (Nat.le_of_ble_eq_true rfl) ⟨Nat.le_of_ble_eq_true rfl, Nat.le_of_ble_eq_true rfl⟩ rfl) hS (fun H locs hP hS => ?_)
  refine lv_if_ne (tgt := 14) hx hb dX4_partyIn_5 (by decide) (fun hc => ?_) (fun hc => ?_)
  · have hf := zif_n hf hc
    refine lv_iload_n hx hb dX4_partyIn_14 rfl (lv_at hl 2 rfl) ?_
    refine lv_iload_n hx hb dX4_partyIn_15 rfl (lv_at hl 3 rfl) ?_
    obtain ⟨v5, T4, h6, hf⟩ := zb_i hf
    refine z_ok (z_runS (As := [.int p1, .int p2]) (rest := []) F k_X4_isDate m_1391 (c_X4_isDate p1 p2 T1 T4 _ h6) hP hS rfl rfl hl.1 (Nat.le_of_ble_eq_true rfl) dX4_partyIn_16 (Nat.le_of_ble_eq_true rfl) ⟨Nat.le_of_ble_eq_true rfl, Nat.le_of_ble_eq_true rfl⟩ rfl) hS (fun H locs hP hS => ?_)
    refine lv_if_eq (tgt := 39) hx hb dX4_partyIn_19 (by decide) (fun hc => ?_) (fun hc => ?_)
    · have hf := zif_p hf hc
      refine lv_aload_n hx hb dX4_partyIn_39 rfl (lv_at hl 0 rfl) ?_
      refine lv_iconst (v := 2) hx hb dX4_partyIn_40 (by decide) ?_
      obtain ⟨v8, T7, h9, hf⟩ := zb_i hf
      refine z_ok (z_runV (As := [.int 2]) (rest := []) F k_X4_refuse m_1222 (c_X4_refuse 2 T4 T7 _ h9) hP hS (zV_m (by decide)) rfl rfl rfl rfl hl.1 (Nat.le_of_ble_eq_true rfl) dX4_partyIn_41 (Nat.le_of_ble_eq_true rfl) ⟨Nat.le_of_ble_eq_true rfl, Nat.le_of_ble_eq_true rfl⟩ rfl) hS (fun H locs hP hS => ?_)
      obtain ⟨q1, q2⟩ := zs_i hf
      subst q1; subst q2
      exact z_iret hx hb hr rfl hP hS hlocks (Nat.le_of_ble_eq_true rfl) (Nat.le_of_ble_eq_true rfl) dX4_partyIn_44
    · have hf := zif_n hf hc
      refine lv_aload_n hx hb dX4_partyIn_22 rfl (lv_at hl 0 rfl) ?_
      refine lv_aload_n hx hb dX4_partyIn_23 rfl (lv_at hl 0 rfl) ?_
      refine lv_iload_n hx hb dX4_partyIn_24 rfl (lv_at hl 1 rfl) ?_
      refine lv_iload_n hx hb dX4_partyIn_25 rfl (lv_at hl 2 rfl) ?_
      refine lv_iload_n hx hb dX4_partyIn_26 rfl (lv_at hl 3 rfl) ?_
      obtain ⟨v11, T10, h12, hf⟩ := zb_i hf
      refine z_ok (z_runS (As := [.int p1, .int p2]) (rest := [.int p0, .ref (G 0 0), .ref (G 0 0)]) F k_X4_position m_1307 (c_X4_position p1 p2 T4 T10 _ h12) hP hS rfl rfl hl.1 (Nat.le_of_ble_eq_true rfl) dX4_partyIn_27 (Nat.le_of_ble_eq_true rfl) ⟨Nat.le_of_ble_eq_true rfl, Nat.le_of_ble_eq_true rfl⟩ rfl) hS (fun H locs hP hS => ?_)
      obtain ⟨v14, T13, h15, hf⟩ := zb_i hf
      refine z_ok (z_runV (As := [.int p0, .int v11]) (rest := [.ref (G 0 0)]) F k_X4_partyOn m_1394 (c_X4_partyOn p0 v11 T10 T13 _ h15) hP hS (zV_m (by decide)) rfl rfl rfl rfl hl.1 (Nat.le_of_ble_eq_true rfl) dX4_partyIn_30 (Nat.le_of_ble_eq_true rfl) ⟨Nat.le_of_ble_eq_true rfl, Nat.le_of_ble_eq_true rfl⟩ rfl) hS (fun H locs hP hS => ?_)
      obtain ⟨v17, T16, h18, hf⟩ := zb_i hf
      refine z_ok (z_runV (As := [.int v14]) (rest := []) F k_X4_told m_1230 (c_X4_told v14 T13 T16 _ h18) hP hS (zV_m (by decide)) rfl rfl rfl rfl hl.1 (Nat.le_of_ble_eq_true rfl) dX4_partyIn_33 (Nat.le_of_ble_eq_true rfl) ⟨Nat.le_of_ble_eq_true rfl, Nat.le_of_ble_eq_true rfl⟩ rfl) hS (fun H locs hP hS => ?_)
      refine lv_goto (tgt := 44) hx hb dX4_partyIn_36 (by decide) ?_
      obtain ⟨q1, q2⟩ := zs_i hf
      subst q1; subst q2
      exact z_iret hx hb hr rfl hP hS hlocks (Nat.le_of_ble_eq_true rfl) (Nat.le_of_ble_eq_true rfl) dX4_partyIn_44
  · have hf := zif_p hf hc
    refine lv_aload_n hx hb dX4_partyIn_8 rfl (lv_at hl 0 rfl) ?_
    refine lv_iconst (v := 1) hx hb dX4_partyIn_9 (by decide) ?_
    obtain ⟨v20, T19, h21, hf⟩ := zb_i hf
    refine z_ok (z_runV (As := [.int 1]) (rest := []) F k_X4_refuse m_1222 (c_X4_refuse 1 T1 T19 _ h21) hP hS (zV_m (by decide)) rfl rfl rfl rfl hl.1 (Nat.le_of_ble_eq_true rfl) dX4_partyIn_10 (Nat.le_of_ble_eq_true rfl) ⟨Nat.le_of_ble_eq_true rfl, Nat.le_of_ble_eq_true rfl⟩ rfl) hS (fun H locs hP hS => ?_)
    obtain ⟨q1, q2⟩ := zs_i hf
    subst q1; subst q2
    exact z_iret hx hb hr rfl hP hS hlocks (Nat.le_of_ble_eq_true rfl) (Nat.le_of_ble_eq_true rfl) dX4_partyIn_13

def f_X4_childCount  (T : zT) : Option (Int32 × zT) := zb (f_X4_told (T.2 2 0 5) T) fun v3 T2 => some (v3, T2)
set_option maxHeartbeats 4000000 in
set_option maxRecDepth 100000 in
theorem c_X4_childCount  (T T' : zT) (v : Int32) (hf : f_X4_childCount  T = some (v, T')) : zC 1 yX4_childCount cX4_childCount 1 (some .int) 1  0 0  (fun G _ => [.ref (G 0 0)]) T (fun _ => .inl (some (.int v))) T' := by
  intro l D Y S V G A hl9 hG
  refine vx_ofW (cc := cX4_childCount) (maxL := 1) (ret := (some .int)) (by decide) rfl ?_
  intro p e s m args below meth c s₁ B hml hex hv
  obtain ⟨rfl, hK, hP, hA⟩ := hv
  have hx := B.exec
  have hb := B.bytes
  have hr := B.returns
  have hlocks := B.notSynchronized
  have hown : s.vm.findClass RX4 = some m.cls := findClass_of_methodNamed B.named
  have hts := atoms_spec (ws := Cond.code yX4_childCount cX4_childCount 1 (some .int) :: zWS) B.pre
  have F : zF 1 1  0 0  p l s m _ c cX4_childCount 1 RX4 (Cond.code yX4_childCount cX4_childCount 1 (some .int)) D Y S V G A := ⟨hx, hb, hml, hown, hts, hl9, hG, hK, hA⟩
  have hS : va_S A s.heap s.heap [] := va_S.rf
  have hl := lv_entry ([.ref (G 0 0)]) (n := 1) (Nat.le_of_ble_eq_true rfl)
  rw [lg_entry_eq]
  generalize (lg_sl ([.ref (G 0 0)]) ++ List.replicate (1 - (lg_sl ([.ref (G 0 0)])).length) Slot.unset).toArray = ls at hl ⊢
  have hl : lv_has ls 1 [(0, .ref (G 0 0))] := hl
  unfold f_X4_childCount at hf
  refine lv_aload_n hx hb dX4_childCount_0 rfl (lv_at hl 0 rfl) ?_
  refine lv_aload_n hx hb dX4_childCount_1 rfl (lv_at hl 0 rfl) ?_
  refine z_get hx hb hts (fun w h => List.mem_cons_of_mem _ (ziX4 w h)) hown hK hP (zV_m (by decide)) rfl rfl 2 (by decide) (List.mem_cons_of_mem _ m_1143) rfl rfl dX4_childCount_2 ?_
  refine lv_iconst (v := 5) hx hb dX4_childCount_5 (by decide) ?_
  refine z_iald_ (j := 5) hx hb hK hP (zIA_m (by decide) (by decide)) (by decide) (by decide) dX4_childCount_6 ?_
  obtain ⟨v3, T2, h4, hf⟩ := zb_i hf
  refine z_ok (z_runV (As := [.int (T.2 2 0 5)]) (rest := []) F k_X4_told m_1230 (c_X4_told (T.2 2 0 5) T T2 _ h4) hP hS (zV_m (by decide)) rfl rfl rfl rfl hl.1 (Nat.le_of_ble_eq_true rfl) dX4_childCount_7 (Nat.le_of_ble_eq_true rfl) ⟨Nat.le_of_ble_eq_true rfl, Nat.le_of_ble_eq_true rfl⟩ rfl) hS (fun H locs hP hS => ?_)
  obtain ⟨q1, q2⟩ := zs_i hf
  subst q1; subst q2
  exact z_iret hx hb hr rfl hP hS hlocks (Nat.le_of_ble_eq_true rfl) (Nat.le_of_ble_eq_true rfl) dX4_childCount_10

def f_X4_ofChild (p0 : Int32) (p1 : Int32) (T : zT) : Option (Int32 × zT) := zb (f_X4_isChild p0 T) fun v2 T1 => (if v2 = 0 then zb (f_X4_refuse 1 T1) fun v5 T4 => some (v5, T4) else zb (f_X4_c p0 T1) fun v8 T7 => zl (v8 + p1) fun x11 => if zin x11 151 = true then zb (f_X4_told (T7.2 2 0 x11.toNatClampNeg) T7) fun v13 T12 => some (v13, T12) else none)
set_option maxHeartbeats 4000000 in
set_option maxRecDepth 100000 in
theorem c_X4_ofChild (p0 : Int32) (p1 : Int32) (T T' : zT) (v : Int32) (hf : f_X4_ofChild p0 p1 T = some (v, T')) : zC 1 yX4_ofChild cX4_ofChild 3 (some .int) 2  0 0  (fun G _ => [.ref (G 0 0), .int p0, .int p1]) T (fun _ => .inl (some (.int v))) T' := by
  intro l D Y S V G A hl9 hG
  refine vx_ofW (cc := cX4_ofChild) (maxL := 3) (ret := (some .int)) (by decide) rfl ?_
  intro p e s m args below meth c s₁ B hml hex hv
  obtain ⟨rfl, hK, hP, hA⟩ := hv
  have hx := B.exec
  have hb := B.bytes
  have hr := B.returns
  have hlocks := B.notSynchronized
  have hown : s.vm.findClass RX4 = some m.cls := findClass_of_methodNamed B.named
  have hts := atoms_spec (ws := Cond.code yX4_ofChild cX4_ofChild 3 (some .int) :: zWS) B.pre
  have F : zF 1 2  0 0  p l s m _ c cX4_ofChild 3 RX4 (Cond.code yX4_ofChild cX4_ofChild 3 (some .int)) D Y S V G A := ⟨hx, hb, hml, hown, hts, hl9, hG, hK, hA⟩
  have hS : va_S A s.heap s.heap [] := va_S.rf
  have hl := lv_entry ([.ref (G 0 0), .int p0, .int p1]) (n := 3) (Nat.le_of_ble_eq_true rfl)
  rw [lg_entry_eq]
  generalize (lg_sl ([.ref (G 0 0), .int p0, .int p1]) ++ List.replicate (3 - (lg_sl ([.ref (G 0 0), .int p0, .int p1])).length) Slot.unset).toArray = ls at hl ⊢
  have hl : lv_has ls 3 [(0, .ref (G 0 0)), (1, .int p0), (2, .int p1)] := hl
  unfold f_X4_ofChild at hf
  refine lv_aload_n hx hb dX4_ofChild_0 rfl (lv_at hl 0 rfl) ?_
  refine lv_iload_n hx hb dX4_ofChild_1 rfl (lv_at hl 1 rfl) ?_
  obtain ⟨v2, T1, h3, hf⟩ := zb_i hf
  refine z_ok (z_runV (As := [.int p0]) (rest := []) F k_X4_isChild m_1410 (c_X4_isChild p0 T T1 _ h3) hP hS (zV_m (by decide)) rfl rfl rfl rfl hl.1 (Nat.le_of_ble_eq_true rfl) dX4_ofChild_2 (Nat.le_of_ble_eq_true rfl) ⟨Nat.le_of_ble_eq_true rfl, Nat.le_of_ble_eq_true rfl⟩ rfl) hS (fun H locs hP hS => ?_)
  refine lv_if_eq (tgt := 26) hx hb dX4_ofChild_5 (by decide) (fun hc => ?_) (fun hc => ?_)
  · have hf := zif_p hf hc
    refine lv_aload_n hx hb dX4_ofChild_26 rfl (lv_at hl 0 rfl) ?_
    refine lv_iconst (v := 1) hx hb dX4_ofChild_27 (by decide) ?_
    obtain ⟨v5, T4, h6, hf⟩ := zb_i hf
    refine z_ok (z_runV (As := [.int 1]) (rest := []) F k_X4_refuse m_1222 (c_X4_refuse 1 T1 T4 _ h6) hP hS (zV_m (by decide)) rfl rfl rfl rfl hl.1 (Nat.le_of_ble_eq_true rfl) dX4_ofChild_28 (Nat.le_of_ble_eq_true rfl) ⟨Nat.le_of_ble_eq_true rfl, Nat.le_of_ble_eq_true rfl⟩ rfl) hS (fun H locs hP hS => ?_)
    obtain ⟨q1, q2⟩ := zs_i hf
    subst q1; subst q2
    exact z_iret hx hb hr rfl hP hS hlocks (Nat.le_of_ble_eq_true rfl) (Nat.le_of_ble_eq_true rfl) dX4_ofChild_31
  · have hf := zif_n hf hc
    refine lv_aload_n hx hb dX4_ofChild_8 rfl (lv_at hl 0 rfl) ?_
    refine lv_aload_n hx hb dX4_ofChild_9 rfl (lv_at hl 0 rfl) ?_
    refine z_get hx hb hts (fun w h => List.mem_cons_of_mem _ (ziX4 w h)) hown hK hP (zV_m (by decide)) rfl rfl 2 (by decide) (List.mem_cons_of_mem _ m_1143) rfl rfl dX4_ofChild_10 ?_
    refine lv_iload_n hx hb dX4_ofChild_13 rfl (lv_at hl 1 rfl) ?_
    obtain ⟨v8, T7, h9, hf⟩ := zb_i hf
    refine z_ok (z_runS (As := [.int p0]) (rest := [.ref (G 2 0), .ref (G 0 0)]) F k_X4_c m_1095 (c_X4_c p0 T1 T7 _ h9) hP hS rfl rfl hl.1 (Nat.le_of_ble_eq_true rfl) dX4_ofChild_14 (Nat.le_of_ble_eq_true rfl) ⟨Nat.le_of_ble_eq_true rfl, Nat.le_of_ble_eq_true rfl⟩ rfl) hS (fun H locs hP hS => ?_)
    refine lv_iload_n hx hb dX4_ofChild_17 rfl (lv_at hl 2 rfl) ?_
    refine lv_iadd hx hb dX4_ofChild_18 ?_
    obtain ⟨x11, ex11, hf⟩ := zl_i hf
    refine z_topi ex11 ?_
    obtain ⟨h10, hf⟩ := zif_c hf
    refine z_iald hx hb hK hP (zIA_m (by decide) (by decide)) (zin_i h10) dX4_ofChild_19 ?_
    obtain ⟨v13, T12, h14, hf⟩ := zb_i hf
    refine z_ok (z_runV (As := [.int (T7.2 2 0 x11.toNatClampNeg)]) (rest := []) F k_X4_told m_1230 (c_X4_told (T7.2 2 0 x11.toNatClampNeg) T7 T12 _ h14) hP hS (zV_m (by decide)) rfl rfl rfl rfl hl.1 (Nat.le_of_ble_eq_true rfl) dX4_ofChild_20 (Nat.le_of_ble_eq_true rfl) ⟨Nat.le_of_ble_eq_true rfl, Nat.le_of_ble_eq_true rfl⟩ rfl) hS (fun H locs hP hS => ?_)
    refine lv_goto (tgt := 31) hx hb dX4_ofChild_23 (by decide) ?_
    obtain ⟨q1, q2⟩ := zs_i hf
    subst q1; subst q2
    exact z_iret hx hb hr rfl hP hS hlocks (Nat.le_of_ble_eq_true rfl) (Nat.le_of_ble_eq_true rfl) dX4_ofChild_31

def f_X4_cakeOf (p0 : Int32) (T : zT) : Option (Int32 × zT) := zb (f_X4_ofChild p0 0 T) fun v2 T1 => some (v2, T1)
set_option maxHeartbeats 4000000 in
set_option maxRecDepth 100000 in
theorem c_X4_cakeOf (p0 : Int32) (T T' : zT) (v : Int32) (hf : f_X4_cakeOf p0 T = some (v, T')) : zC 1 yX4_cakeOf cX4_cakeOf 2 (some .int) 3  0 0  (fun G _ => [.ref (G 0 0), .int p0]) T (fun _ => .inl (some (.int v))) T' := by
  intro l D Y S V G A hl9 hG
  refine vx_ofW (cc := cX4_cakeOf) (maxL := 2) (ret := (some .int)) (by decide) rfl ?_
  intro p e s m args below meth c s₁ B hml hex hv
  obtain ⟨rfl, hK, hP, hA⟩ := hv
  have hx := B.exec
  have hb := B.bytes
  have hr := B.returns
  have hlocks := B.notSynchronized
  have hown : s.vm.findClass RX4 = some m.cls := findClass_of_methodNamed B.named
  have hts := atoms_spec (ws := Cond.code yX4_cakeOf cX4_cakeOf 2 (some .int) :: zWS) B.pre
  have F : zF 1 3  0 0  p l s m _ c cX4_cakeOf 2 RX4 (Cond.code yX4_cakeOf cX4_cakeOf 2 (some .int)) D Y S V G A := ⟨hx, hb, hml, hown, hts, hl9, hG, hK, hA⟩
  have hS : va_S A s.heap s.heap [] := va_S.rf
  have hl := lv_entry ([.ref (G 0 0), .int p0]) (n := 2) (Nat.le_of_ble_eq_true rfl)
  rw [lg_entry_eq]
  generalize (lg_sl ([.ref (G 0 0), .int p0]) ++ List.replicate (2 - (lg_sl ([.ref (G 0 0), .int p0])).length) Slot.unset).toArray = ls at hl ⊢
  have hl : lv_has ls 2 [(0, .ref (G 0 0)), (1, .int p0)] := hl
  unfold f_X4_cakeOf at hf
  refine lv_aload_n hx hb dX4_cakeOf_0 rfl (lv_at hl 0 rfl) ?_
  refine lv_iload_n hx hb dX4_cakeOf_1 rfl (lv_at hl 1 rfl) ?_
  refine lv_iconst (v := 0) hx hb dX4_cakeOf_2 (by decide) ?_
  obtain ⟨v2, T1, h3, hf⟩ := zb_i hf
  refine z_ok (z_runV (As := [.int p0, .int 0]) (rest := []) F k_X4_ofChild m_1406 (c_X4_ofChild p0 0 T T1 _ h3) hP hS (zV_m (by decide)) rfl rfl rfl rfl hl.1 (Nat.le_of_ble_eq_true rfl) dX4_cakeOf_3 (Nat.le_of_ble_eq_true rfl) ⟨Nat.le_of_ble_eq_true rfl, Nat.le_of_ble_eq_true rfl⟩ rfl) hS (fun H locs hP hS => ?_)
  obtain ⟨q1, q2⟩ := zs_i hf
  subst q1; subst q2
  exact z_iret hx hb hr rfl hP hS hlocks (Nat.le_of_ble_eq_true rfl) (Nat.le_of_ble_eq_true rfl) dX4_cakeOf_6

def f_X4_breathOf (p0 : Int32) (T : zT) : Option (Int32 × zT) := zb (f_X4_ofChild p0 1 T) fun v2 T1 => some (v2, T1)
set_option maxHeartbeats 4000000 in
set_option maxRecDepth 100000 in
theorem c_X4_breathOf (p0 : Int32) (T T' : zT) (v : Int32) (hf : f_X4_breathOf p0 T = some (v, T')) : zC 1 yX4_breathOf cX4_breathOf 2 (some .int) 3  0 0  (fun G _ => [.ref (G 0 0), .int p0]) T (fun _ => .inl (some (.int v))) T' := by
  intro l D Y S V G A hl9 hG
  refine vx_ofW (cc := cX4_breathOf) (maxL := 2) (ret := (some .int)) (by decide) rfl ?_
  intro p e s m args below meth c s₁ B hml hex hv
  obtain ⟨rfl, hK, hP, hA⟩ := hv
  have hx := B.exec
  have hb := B.bytes
  have hr := B.returns
  have hlocks := B.notSynchronized
  have hown : s.vm.findClass RX4 = some m.cls := findClass_of_methodNamed B.named
  have hts := atoms_spec (ws := Cond.code yX4_breathOf cX4_breathOf 2 (some .int) :: zWS) B.pre
  have F : zF 1 3  0 0  p l s m _ c cX4_breathOf 2 RX4 (Cond.code yX4_breathOf cX4_breathOf 2 (some .int)) D Y S V G A := ⟨hx, hb, hml, hown, hts, hl9, hG, hK, hA⟩
  have hS : va_S A s.heap s.heap [] := va_S.rf
  have hl := lv_entry ([.ref (G 0 0), .int p0]) (n := 2) (Nat.le_of_ble_eq_true rfl)
  rw [lg_entry_eq]
  generalize (lg_sl ([.ref (G 0 0), .int p0]) ++ List.replicate (2 - (lg_sl ([.ref (G 0 0), .int p0])).length) Slot.unset).toArray = ls at hl ⊢
  have hl : lv_has ls 2 [(0, .ref (G 0 0)), (1, .int p0)] := hl
  unfold f_X4_breathOf at hf
  refine lv_aload_n hx hb dX4_breathOf_0 rfl (lv_at hl 0 rfl) ?_
  refine lv_iload_n hx hb dX4_breathOf_1 rfl (lv_at hl 1 rfl) ?_
  refine lv_iconst (v := 1) hx hb dX4_breathOf_2 (by decide) ?_
  obtain ⟨v2, T1, h3, hf⟩ := zb_i hf
  refine z_ok (z_runV (As := [.int p0, .int 1]) (rest := []) F k_X4_ofChild m_1406 (c_X4_ofChild p0 1 T T1 _ h3) hP hS (zV_m (by decide)) rfl rfl rfl rfl hl.1 (Nat.le_of_ble_eq_true rfl) dX4_breathOf_3 (Nat.le_of_ble_eq_true rfl) ⟨Nat.le_of_ble_eq_true rfl, Nat.le_of_ble_eq_true rfl⟩ rfl) hS (fun H locs hP hS => ?_)
  obtain ⟨q1, q2⟩ := zs_i hf
  subst q1; subst q2
  exact z_iret hx hb hr rfl hP hS hlocks (Nat.le_of_ble_eq_true rfl) (Nat.le_of_ble_eq_true rfl) dX4_breathOf_6

def f_X4_ageOf (p0 : Int32) (T : zT) : Option (Int32 × zT) := zb (f_X4_ofChild p0 2 T) fun v2 T1 => some (v2, T1)
set_option maxHeartbeats 4000000 in
set_option maxRecDepth 100000 in
theorem c_X4_ageOf (p0 : Int32) (T T' : zT) (v : Int32) (hf : f_X4_ageOf p0 T = some (v, T')) : zC 1 yX4_ageOf cX4_ageOf 2 (some .int) 3  0 0  (fun G _ => [.ref (G 0 0), .int p0]) T (fun _ => .inl (some (.int v))) T' := by
  intro l D Y S V G A hl9 hG
  refine vx_ofW (cc := cX4_ageOf) (maxL := 2) (ret := (some .int)) (by decide) rfl ?_
  intro p e s m args below meth c s₁ B hml hex hv
  obtain ⟨rfl, hK, hP, hA⟩ := hv
  have hx := B.exec
  have hb := B.bytes
  have hr := B.returns
  have hlocks := B.notSynchronized
  have hown : s.vm.findClass RX4 = some m.cls := findClass_of_methodNamed B.named
  have hts := atoms_spec (ws := Cond.code yX4_ageOf cX4_ageOf 2 (some .int) :: zWS) B.pre
  have F : zF 1 3  0 0  p l s m _ c cX4_ageOf 2 RX4 (Cond.code yX4_ageOf cX4_ageOf 2 (some .int)) D Y S V G A := ⟨hx, hb, hml, hown, hts, hl9, hG, hK, hA⟩
  have hS : va_S A s.heap s.heap [] := va_S.rf
  have hl := lv_entry ([.ref (G 0 0), .int p0]) (n := 2) (Nat.le_of_ble_eq_true rfl)
  rw [lg_entry_eq]
  generalize (lg_sl ([.ref (G 0 0), .int p0]) ++ List.replicate (2 - (lg_sl ([.ref (G 0 0), .int p0])).length) Slot.unset).toArray = ls at hl ⊢
  have hl : lv_has ls 2 [(0, .ref (G 0 0)), (1, .int p0)] := hl
  unfold f_X4_ageOf at hf
  refine lv_aload_n hx hb dX4_ageOf_0 rfl (lv_at hl 0 rfl) ?_
  refine lv_iload_n hx hb dX4_ageOf_1 rfl (lv_at hl 1 rfl) ?_
  refine lv_iconst (v := 2) hx hb dX4_ageOf_2 (by decide) ?_
  obtain ⟨v2, T1, h3, hf⟩ := zb_i hf
  refine z_ok (z_runV (As := [.int p0, .int 2]) (rest := []) F k_X4_ofChild m_1406 (c_X4_ofChild p0 2 T T1 _ h3) hP hS (zV_m (by decide)) rfl rfl rfl rfl hl.1 (Nat.le_of_ble_eq_true rfl) dX4_ageOf_3 (Nat.le_of_ble_eq_true rfl) ⟨Nat.le_of_ble_eq_true rfl, Nat.le_of_ble_eq_true rfl⟩ rfl) hS (fun H locs hP hS => ?_)
  obtain ⟨q1, q2⟩ := zs_i hf
  subst q1; subst q2
  exact z_iret hx hb hr rfl hP hS hlocks (Nat.le_of_ble_eq_true rfl) (Nat.le_of_ble_eq_true rfl) dX4_ageOf_6

def f_X4_gardenOf (p0 : Int32) (T : zT) : Option (Int32 × zT) := zb (f_X4_ofChild p0 3 T) fun v2 T1 => some (v2, T1)
set_option maxHeartbeats 4000000 in
set_option maxRecDepth 100000 in
theorem c_X4_gardenOf (p0 : Int32) (T T' : zT) (v : Int32) (hf : f_X4_gardenOf p0 T = some (v, T')) : zC 1 yX4_gardenOf cX4_gardenOf 2 (some .int) 3  0 0  (fun G _ => [.ref (G 0 0), .int p0]) T (fun _ => .inl (some (.int v))) T' := by
  intro l D Y S V G A hl9 hG
  refine vx_ofW (cc := cX4_gardenOf) (maxL := 2) (ret := (some .int)) (by decide) rfl ?_
  intro p e s m args below meth c s₁ B hml hex hv
  obtain ⟨rfl, hK, hP, hA⟩ := hv
  have hx := B.exec
  have hb := B.bytes
  have hr := B.returns
  have hlocks := B.notSynchronized
  have hown : s.vm.findClass RX4 = some m.cls := findClass_of_methodNamed B.named
  have hts := atoms_spec (ws := Cond.code yX4_gardenOf cX4_gardenOf 2 (some .int) :: zWS) B.pre
  have F : zF 1 3  0 0  p l s m _ c cX4_gardenOf 2 RX4 (Cond.code yX4_gardenOf cX4_gardenOf 2 (some .int)) D Y S V G A := ⟨hx, hb, hml, hown, hts, hl9, hG, hK, hA⟩
  have hS : va_S A s.heap s.heap [] := va_S.rf
  have hl := lv_entry ([.ref (G 0 0), .int p0]) (n := 2) (Nat.le_of_ble_eq_true rfl)
  rw [lg_entry_eq]
  generalize (lg_sl ([.ref (G 0 0), .int p0]) ++ List.replicate (2 - (lg_sl ([.ref (G 0 0), .int p0])).length) Slot.unset).toArray = ls at hl ⊢
  have hl : lv_has ls 2 [(0, .ref (G 0 0)), (1, .int p0)] := hl
  unfold f_X4_gardenOf at hf
  refine lv_aload_n hx hb dX4_gardenOf_0 rfl (lv_at hl 0 rfl) ?_
  refine lv_iload_n hx hb dX4_gardenOf_1 rfl (lv_at hl 1 rfl) ?_
  refine lv_iconst (v := 3) hx hb dX4_gardenOf_2 (by decide) ?_
  obtain ⟨v2, T1, h3, hf⟩ := zb_i hf
  refine z_ok (z_runV (As := [.int p0, .int 3]) (rest := []) F k_X4_ofChild m_1406 (c_X4_ofChild p0 3 T T1 _ h3) hP hS (zV_m (by decide)) rfl rfl rfl rfl hl.1 (Nat.le_of_ble_eq_true rfl) dX4_gardenOf_3 (Nat.le_of_ble_eq_true rfl) ⟨Nat.le_of_ble_eq_true rfl, Nat.le_of_ble_eq_true rfl⟩ rfl) hS (fun H locs hP hS => ?_)
  obtain ⟨q1, q2⟩ := zs_i hf
  subst q1; subst q2
  exact z_iret hx hb hr rfl hP hS hlocks (Nat.le_of_ble_eq_true rfl) (Nat.le_of_ble_eq_true rfl) dX4_gardenOf_6

def f_X4_birthdayOf (p0 : Int32) (T : zT) : Option (Int32 × zT) := zb (f_X4_ofChild p0 4 T) fun v2 T1 => some (v2, T1)
set_option maxHeartbeats 4000000 in
set_option maxRecDepth 100000 in
theorem c_X4_birthdayOf (p0 : Int32) (T T' : zT) (v : Int32) (hf : f_X4_birthdayOf p0 T = some (v, T')) : zC 1 yX4_birthdayOf cX4_birthdayOf 2 (some .int) 3  0 0  (fun G _ => [.ref (G 0 0), .int p0]) T (fun _ => .inl (some (.int v))) T' := by
  intro l D Y S V G A hl9 hG
  refine vx_ofW (cc := cX4_birthdayOf) (maxL := 2) (ret := (some .int)) (by decide) rfl ?_
  intro p e s m args below meth c s₁ B hml hex hv
  obtain ⟨rfl, hK, hP, hA⟩ := hv
  have hx := B.exec
  have hb := B.bytes
  have hr := B.returns
  have hlocks := B.notSynchronized
  have hown : s.vm.findClass RX4 = some m.cls := findClass_of_methodNamed B.named
  have hts := atoms_spec (ws := Cond.code yX4_birthdayOf cX4_birthdayOf 2 (some .int) :: zWS) B.pre
  have F : zF 1 3  0 0  p l s m _ c cX4_birthdayOf 2 RX4 (Cond.code yX4_birthdayOf cX4_birthdayOf 2 (some .int)) D Y S V G A := ⟨hx, hb, hml, hown, hts, hl9, hG, hK, hA⟩
  have hS : va_S A s.heap s.heap [] := va_S.rf
  have hl := lv_entry ([.ref (G 0 0), .int p0]) (n := 2) (Nat.le_of_ble_eq_true rfl)
  rw [lg_entry_eq]
  generalize (lg_sl ([.ref (G 0 0), .int p0]) ++ List.replicate (2 - (lg_sl ([.ref (G 0 0), .int p0])).length) Slot.unset).toArray = ls at hl ⊢
  have hl : lv_has ls 2 [(0, .ref (G 0 0)), (1, .int p0)] := hl
  unfold f_X4_birthdayOf at hf
  refine lv_aload_n hx hb dX4_birthdayOf_0 rfl (lv_at hl 0 rfl) ?_
  refine lv_iload_n hx hb dX4_birthdayOf_1 rfl (lv_at hl 1 rfl) ?_
  refine lv_iconst (v := 4) hx hb dX4_birthdayOf_2 (by decide) ?_
  obtain ⟨v2, T1, h3, hf⟩ := zb_i hf
  refine z_ok (z_runV (As := [.int p0, .int 4]) (rest := []) F k_X4_ofChild m_1406 (c_X4_ofChild p0 4 T T1 _ h3) hP hS (zV_m (by decide)) rfl rfl rfl rfl hl.1 (Nat.le_of_ble_eq_true rfl) dX4_birthdayOf_3 (Nat.le_of_ble_eq_true rfl) ⟨Nat.le_of_ble_eq_true rfl, Nat.le_of_ble_eq_true rfl⟩ rfl) hS (fun H locs hP hS => ?_)
  obtain ⟨q1, q2⟩ := zs_i hf
  subst q1; subst q2
  exact z_iret hx hb hr rfl hP hS hlocks (Nat.le_of_ble_eq_true rfl) (Nat.le_of_ble_eq_true rfl) dX4_birthdayOf_6

def f_X4_hasBirthday (p0 : Int32) (T : zT) : Option (Int32 × zT) := zb (f_X4_c p0 T) fun v2 T1 => zl (v2 + 4) fun x5 => if zin x5 151 = true then (if (T1.2 2 0 x5.toNatClampNeg) = (-1) then some (0, T1) else some (1, T1)) else none
set_option maxHeartbeats 4000000 in
set_option maxRecDepth 100000 in
theorem c_X4_hasBirthday (p0 : Int32) (T T' : zT) (v : Int32) (hf : f_X4_hasBirthday p0 T = some (v, T')) : zC 1 yX4_hasBirthday cX4_hasBirthday 2 (some .boolean) 1  0 0  (fun G _ => [.ref (G 0 0), .int p0]) T (fun _ => .inl (some (.int v))) T' := by
  intro l D Y S V G A hl9 hG
  refine vx_ofW (cc := cX4_hasBirthday) (maxL := 2) (ret := (some .boolean)) (by decide) rfl ?_
  intro p e s m args below meth c s₁ B hml hex hv
  obtain ⟨rfl, hK, hP, hA⟩ := hv
  have hx := B.exec
  have hb := B.bytes
  have hr := B.returns
  have hlocks := B.notSynchronized
  have hown : s.vm.findClass RX4 = some m.cls := findClass_of_methodNamed B.named
  have hts := atoms_spec (ws := Cond.code yX4_hasBirthday cX4_hasBirthday 2 (some .boolean) :: zWS) B.pre
  have F : zF 1 1  0 0  p l s m _ c cX4_hasBirthday 2 RX4 (Cond.code yX4_hasBirthday cX4_hasBirthday 2 (some .boolean)) D Y S V G A := ⟨hx, hb, hml, hown, hts, hl9, hG, hK, hA⟩
  have hS : va_S A s.heap s.heap [] := va_S.rf
  have hl := lv_entry ([.ref (G 0 0), .int p0]) (n := 2) (Nat.le_of_ble_eq_true rfl)
  rw [lg_entry_eq]
  generalize (lg_sl ([.ref (G 0 0), .int p0]) ++ List.replicate (2 - (lg_sl ([.ref (G 0 0), .int p0])).length) Slot.unset).toArray = ls at hl ⊢
  have hl : lv_has ls 2 [(0, .ref (G 0 0)), (1, .int p0)] := hl
  unfold f_X4_hasBirthday at hf
  refine lv_aload_n hx hb dX4_hasBirthday_0 rfl (lv_at hl 0 rfl) ?_
  refine z_get hx hb hts (fun w h => List.mem_cons_of_mem _ (ziX4 w h)) hown hK hP (zV_m (by decide)) rfl rfl 2 (by decide) (List.mem_cons_of_mem _ m_1143) rfl rfl dX4_hasBirthday_1 ?_
  refine lv_iload_n hx hb dX4_hasBirthday_4 rfl (lv_at hl 1 rfl) ?_
  obtain ⟨v2, T1, h3, hf⟩ := zb_i hf
  refine z_ok (z_runS (As := [.int p0]) (rest := [.ref (G 2 0)]) F k_X4_c m_1095 (c_X4_c p0 T T1 _ h3) hP hS rfl rfl hl.1 (Nat.le_of_ble_eq_true rfl) dX4_hasBirthday_5 (Nat.le_of_ble_eq_true rfl) ⟨Nat.le_of_ble_eq_true rfl, Nat.le_of_ble_eq_true rfl⟩ rfl) hS (fun H locs hP hS => ?_)
  refine lv_iconst (v := 4) hx hb dX4_hasBirthday_8 (by decide) ?_
  refine lv_iadd hx hb dX4_hasBirthday_9 ?_
  obtain ⟨x5, ex5, hf⟩ := zl_i hf
  refine z_topi ex5 ?_
  obtain ⟨h4, hf⟩ := zif_c hf
  refine z_iald hx hb hK hP (zIA_m (by decide) (by decide)) (zin_i h4) dX4_hasBirthday_10 ?_
  refine lv_iconst (v := (-1)) hx hb dX4_hasBirthday_11 (by decide) ?_
  refine lv_icmp_eq (tgt := 19) hx hb dX4_hasBirthday_12 (by decide) (fun hc => ?_) (fun hc => ?_)
  · have hf := zif_p hf hc
    refine lv_iconst (v := 0) hx hb dX4_hasBirthday_19 (by decide) ?_
    obtain ⟨q1, q2⟩ := zs_i hf
    subst q1; subst q2
    exact z_zret hx hb hr (Or.inl rfl) rfl hP hS hlocks (Nat.le_of_ble_eq_true rfl) (Nat.le_of_ble_eq_true rfl) dX4_hasBirthday_20
  · have hf := zif_n hf hc
    refine lv_iconst (v := 1) hx hb dX4_hasBirthday_15 (by decide) ?_
    refine lv_goto (tgt := 20) hx hb dX4_hasBirthday_16 (by decide) ?_
    obtain ⟨q1, q2⟩ := zs_i hf
    subst q1; subst q2
    exact z_zret hx hb hr (Or.inr rfl) rfl hP hS hlocks (Nat.le_of_ble_eq_true rfl) (Nat.le_of_ble_eq_true rfl) dX4_hasBirthday_20

def f_X4_daysUntilBirthday (p0 : Int32) (T : zT) : Option (Int32 × zT) := zb (f_X4_isChild p0 T) fun v2 T1 => (if v2 = 0 then zb (f_X4_refuse 1 T1) fun v22 T21 => some (v22, T21) else zb (f_X4_hasBirthday p0 T1) fun v5 T4 => (if v5 = 0 then zb (f_X4_told (-1) T4) fun v8 T7 => some (v8, T7) else zb (f_X4_c p0 T4) fun v11 T10 => zl (v11 + 4) fun x14 => if zin x14 151 = true then zb (f_X4_daysTo (T10.2 2 0 x14.toNatClampNeg) T10) fun v16 T15 => zb (f_X4_told v16 T15) fun v19 T18 => some (v19, T18) else none))
set_option maxHeartbeats 4000000 in
set_option maxRecDepth 100000 in
theorem c_X4_daysUntilBirthday (p0 : Int32) (T T' : zT) (v : Int32) (hf : f_X4_daysUntilBirthday p0 T = some (v, T')) : zC 1 yX4_daysUntilBirthday cX4_daysUntilBirthday 2 (some .int) 2  0 0  (fun G _ => [.ref (G 0 0), .int p0]) T (fun _ => .inl (some (.int v))) T' := by
  intro l D Y S V G A hl9 hG
  refine vx_ofW (cc := cX4_daysUntilBirthday) (maxL := 2) (ret := (some .int)) (by decide) rfl ?_
  intro p e s m args below meth c s₁ B hml hex hv
  obtain ⟨rfl, hK, hP, hA⟩ := hv
  have hx := B.exec
  have hb := B.bytes
  have hr := B.returns
  have hlocks := B.notSynchronized
  have hown : s.vm.findClass RX4 = some m.cls := findClass_of_methodNamed B.named
  have hts := atoms_spec (ws := Cond.code yX4_daysUntilBirthday cX4_daysUntilBirthday 2 (some .int) :: zWS) B.pre
  have F : zF 1 2  0 0  p l s m _ c cX4_daysUntilBirthday 2 RX4 (Cond.code yX4_daysUntilBirthday cX4_daysUntilBirthday 2 (some .int)) D Y S V G A := ⟨hx, hb, hml, hown, hts, hl9, hG, hK, hA⟩
  have hS : va_S A s.heap s.heap [] := va_S.rf
  have hl := lv_entry ([.ref (G 0 0), .int p0]) (n := 2) (Nat.le_of_ble_eq_true rfl)
  rw [lg_entry_eq]
  generalize (lg_sl ([.ref (G 0 0), .int p0]) ++ List.replicate (2 - (lg_sl ([.ref (G 0 0), .int p0])).length) Slot.unset).toArray = ls at hl ⊢
  have hl : lv_has ls 2 [(0, .ref (G 0 0)), (1, .int p0)] := hl
  unfold f_X4_daysUntilBirthday at hf
  refine lv_aload_n hx hb dX4_daysUntilBirthday_0 rfl (lv_at hl 0 rfl) ?_
  refine lv_iload_n hx hb dX4_daysUntilBirthday_1 rfl (lv_at hl 1 rfl) ?_
  obtain ⟨v2, T1, h3, hf⟩ := zb_i hf
  refine z_ok (z_runV (As := [.int p0]) (rest := []) F k_X4_isChild m_1410 (c_X4_isChild p0 T T1 _ h3) hP hS (zV_m (by decide)) rfl rfl rfl rfl hl.1 (Nat.le_of_ble_eq_true rfl) dX4_daysUntilBirthday_2 (Nat.le_of_ble_eq_true rfl) ⟨Nat.le_of_ble_eq_true rfl, Nat.le_of_ble_eq_true rfl⟩ rfl) hS (fun H locs hP hS => ?_)
  refine lv_if_ne (tgt := 14) hx hb dX4_daysUntilBirthday_5 (by decide) (fun hc => ?_) (fun hc => ?_)
  · have hf := zif_n hf hc
    refine lv_aload_n hx hb dX4_daysUntilBirthday_14 rfl (lv_at hl 0 rfl) ?_
    refine lv_aload_n hx hb dX4_daysUntilBirthday_15 rfl (lv_at hl 0 rfl) ?_
    refine lv_iload_n hx hb dX4_daysUntilBirthday_16 rfl (lv_at hl 1 rfl) ?_
    obtain ⟨v5, T4, h6, hf⟩ := zb_i hf
    refine z_ok (z_runV (As := [.int p0]) (rest := [.ref (G 0 0)]) F k_X4_hasBirthday m_1434 (c_X4_hasBirthday p0 T1 T4 _ h6) hP hS (zV_m (by decide)) rfl rfl rfl rfl hl.1 (Nat.le_of_ble_eq_true rfl) dX4_daysUntilBirthday_17 (Nat.le_of_ble_eq_true rfl) ⟨Nat.le_of_ble_eq_true rfl, Nat.le_of_ble_eq_true rfl⟩ rfl) hS (fun H locs hP hS => ?_)
    refine lv_if_eq (tgt := 41) hx hb dX4_daysUntilBirthday_20 (by decide) (fun hc => ?_) (fun hc => ?_)
    · have hf := zif_p hf hc
      refine lv_iconst (v := (-1)) hx hb dX4_daysUntilBirthday_41 (by decide) ?_
      obtain ⟨v8, T7, h9, hf⟩ := zb_i hf
      refine z_ok (z_runV (As := [.int (-1)]) (rest := []) F k_X4_told m_1230 (c_X4_told (-1) T4 T7 _ h9) hP hS (zV_m (by decide)) rfl rfl rfl rfl hl.1 (Nat.le_of_ble_eq_true rfl) dX4_daysUntilBirthday_42 (Nat.le_of_ble_eq_true rfl) ⟨Nat.le_of_ble_eq_true rfl, Nat.le_of_ble_eq_true rfl⟩ rfl) hS (fun H locs hP hS => ?_)
      obtain ⟨q1, q2⟩ := zs_i hf
      subst q1; subst q2
      exact z_iret hx hb hr rfl hP hS hlocks (Nat.le_of_ble_eq_true rfl) (Nat.le_of_ble_eq_true rfl) dX4_daysUntilBirthday_45
    · have hf := zif_n hf hc
      refine lv_aload_n hx hb dX4_daysUntilBirthday_23 rfl (lv_at hl 0 rfl) ?_
      refine lv_aload_n hx hb dX4_daysUntilBirthday_24 rfl (lv_at hl 0 rfl) ?_
      refine z_get hx hb hts (fun w h => List.mem_cons_of_mem _ (ziX4 w h)) hown hK hP (zV_m (by decide)) rfl rfl 2 (by decide) (List.mem_cons_of_mem _ m_1143) rfl rfl dX4_daysUntilBirthday_25 ?_
      refine lv_iload_n hx hb dX4_daysUntilBirthday_28 rfl (lv_at hl 1 rfl) ?_
      obtain ⟨v11, T10, h12, hf⟩ := zb_i hf
      refine z_ok (z_runS (As := [.int p0]) (rest := [.ref (G 2 0), .ref (G 0 0), .ref (G 0 0)]) F k_X4_c m_1095 (c_X4_c p0 T4 T10 _ h12) hP hS rfl rfl hl.1 (Nat.le_of_ble_eq_true rfl) dX4_daysUntilBirthday_29 (Nat.le_of_ble_eq_true rfl) ⟨Nat.le_of_ble_eq_true rfl, Nat.le_of_ble_eq_true rfl⟩ rfl) hS (fun H locs hP hS => ?_)
      refine lv_iconst (v := 4) hx hb dX4_daysUntilBirthday_32 (by decide) ?_
      refine lv_iadd hx hb dX4_daysUntilBirthday_33 ?_
      obtain ⟨x14, ex14, hf⟩ := zl_i hf
      refine z_topi ex14 ?_
      obtain ⟨h13, hf⟩ := zif_c hf
      refine z_iald hx hb hK hP (zIA_m (by decide) (by decide)) (zin_i h13) dX4_daysUntilBirthday_34 ?_
      obtain ⟨v16, T15, h17, hf⟩ := zb_i hf
      refine z_ok (z_runV (As := [.int (T10.2 2 0 x14.toNatClampNeg)]) (rest := [.ref (G 0 0)]) F k_X4_daysTo m_1438 (c_X4_daysTo (T10.2 2 0 x14.toNatClampNeg) T10 T15 _ h17) hP hS (zV_m (by decide)) rfl rfl rfl rfl hl.1 (Nat.le_of_ble_eq_true rfl) dX4_daysUntilBirthday_35 (Nat.le_of_ble_eq_true rfl) ⟨Nat.le_of_ble_eq_true rfl, Nat.le_of_ble_eq_true rfl⟩ rfl) hS (fun H locs hP hS => ?_)
      refine lv_goto (tgt := 42) hx hb dX4_daysUntilBirthday_38 (by decide) ?_
      obtain ⟨v19, T18, h20, hf⟩ := zb_i hf
      refine z_ok (z_runV (As := [.int v16]) (rest := []) F k_X4_told m_1230 (c_X4_told v16 T15 T18 _ h20) hP hS (zV_m (by decide)) rfl rfl rfl rfl hl.1 (Nat.le_of_ble_eq_true rfl) dX4_daysUntilBirthday_42 (Nat.le_of_ble_eq_true rfl) ⟨Nat.le_of_ble_eq_true rfl, Nat.le_of_ble_eq_true rfl⟩ rfl) hS (fun H locs hP hS => ?_)
      obtain ⟨q1, q2⟩ := zs_i hf
      subst q1; subst q2
      exact z_iret hx hb hr rfl hP hS hlocks (Nat.le_of_ble_eq_true rfl) (Nat.le_of_ble_eq_true rfl) dX4_daysUntilBirthday_45
  · have hf := zif_p hf hc
    refine lv_aload_n hx hb dX4_daysUntilBirthday_8 rfl (lv_at hl 0 rfl) ?_
    refine lv_iconst (v := 1) hx hb dX4_daysUntilBirthday_9 (by decide) ?_
    obtain ⟨v22, T21, h23, hf⟩ := zb_i hf
    refine z_ok (z_runV (As := [.int 1]) (rest := []) F k_X4_refuse m_1222 (c_X4_refuse 1 T1 T21 _ h23) hP hS (zV_m (by decide)) rfl rfl rfl rfl hl.1 (Nat.le_of_ble_eq_true rfl) dX4_daysUntilBirthday_10 (Nat.le_of_ble_eq_true rfl) ⟨Nat.le_of_ble_eq_true rfl, Nat.le_of_ble_eq_true rfl⟩ rfl) hS (fun H locs hP hS => ?_)
    obtain ⟨q1, q2⟩ := zs_i hf
    subst q1; subst q2
    exact z_iret hx hb hr rfl hP hS hlocks (Nat.le_of_ble_eq_true rfl) (Nat.le_of_ble_eq_true rfl) dX4_daysUntilBirthday_13

def f_X4_partiesOf (p0 : Int32) (T : zT) : Option (Int32 × zT) := zb (f_X4_ofChild p0 5 T) fun v2 T1 => some (v2, T1)
set_option maxHeartbeats 4000000 in
set_option maxRecDepth 100000 in
theorem c_X4_partiesOf (p0 : Int32) (T T' : zT) (v : Int32) (hf : f_X4_partiesOf p0 T = some (v, T')) : zC 1 yX4_partiesOf cX4_partiesOf 2 (some .int) 3  0 0  (fun G _ => [.ref (G 0 0), .int p0]) T (fun _ => .inl (some (.int v))) T' := by
  intro l D Y S V G A hl9 hG
  refine vx_ofW (cc := cX4_partiesOf) (maxL := 2) (ret := (some .int)) (by decide) rfl ?_
  intro p e s m args below meth c s₁ B hml hex hv
  obtain ⟨rfl, hK, hP, hA⟩ := hv
  have hx := B.exec
  have hb := B.bytes
  have hr := B.returns
  have hlocks := B.notSynchronized
  have hown : s.vm.findClass RX4 = some m.cls := findClass_of_methodNamed B.named
  have hts := atoms_spec (ws := Cond.code yX4_partiesOf cX4_partiesOf 2 (some .int) :: zWS) B.pre
  have F : zF 1 3  0 0  p l s m _ c cX4_partiesOf 2 RX4 (Cond.code yX4_partiesOf cX4_partiesOf 2 (some .int)) D Y S V G A := ⟨hx, hb, hml, hown, hts, hl9, hG, hK, hA⟩
  have hS : va_S A s.heap s.heap [] := va_S.rf
  have hl := lv_entry ([.ref (G 0 0), .int p0]) (n := 2) (Nat.le_of_ble_eq_true rfl)
  rw [lg_entry_eq]
  generalize (lg_sl ([.ref (G 0 0), .int p0]) ++ List.replicate (2 - (lg_sl ([.ref (G 0 0), .int p0])).length) Slot.unset).toArray = ls at hl ⊢
  have hl : lv_has ls 2 [(0, .ref (G 0 0)), (1, .int p0)] := hl
  unfold f_X4_partiesOf at hf
  refine lv_aload_n hx hb dX4_partiesOf_0 rfl (lv_at hl 0 rfl) ?_
  refine lv_iload_n hx hb dX4_partiesOf_1 rfl (lv_at hl 1 rfl) ?_
  refine lv_iconst (v := 5) hx hb dX4_partiesOf_2 (by decide) ?_
  obtain ⟨v2, T1, h3, hf⟩ := zb_i hf
  refine z_ok (z_runV (As := [.int p0, .int 5]) (rest := []) F k_X4_ofChild m_1406 (c_X4_ofChild p0 5 T T1 _ h3) hP hS (zV_m (by decide)) rfl rfl rfl rfl hl.1 (Nat.le_of_ble_eq_true rfl) dX4_partiesOf_3 (Nat.le_of_ble_eq_true rfl) ⟨Nat.le_of_ble_eq_true rfl, Nat.le_of_ble_eq_true rfl⟩ rfl) hS (fun H locs hP hS => ?_)
  obtain ⟨q1, q2⟩ := zs_i hf
  subst q1; subst q2
  exact z_iret hx hb hr rfl hP hS hlocks (Nat.le_of_ble_eq_true rfl) (Nat.le_of_ble_eq_true rfl) dX4_partiesOf_6

def f_X4_wishesOf (p0 : Int32) (T : zT) : Option (Int32 × zT) := zb (f_X4_ofChild p0 6 T) fun v2 T1 => some (v2, T1)
set_option maxHeartbeats 4000000 in
set_option maxRecDepth 100000 in
theorem c_X4_wishesOf (p0 : Int32) (T T' : zT) (v : Int32) (hf : f_X4_wishesOf p0 T = some (v, T')) : zC 1 yX4_wishesOf cX4_wishesOf 2 (some .int) 3  0 0  (fun G _ => [.ref (G 0 0), .int p0]) T (fun _ => .inl (some (.int v))) T' := by
  intro l D Y S V G A hl9 hG
  refine vx_ofW (cc := cX4_wishesOf) (maxL := 2) (ret := (some .int)) (by decide) rfl ?_
  intro p e s m args below meth c s₁ B hml hex hv
  obtain ⟨rfl, hK, hP, hA⟩ := hv
  have hx := B.exec
  have hb := B.bytes
  have hr := B.returns
  have hlocks := B.notSynchronized
  have hown : s.vm.findClass RX4 = some m.cls := findClass_of_methodNamed B.named
  have hts := atoms_spec (ws := Cond.code yX4_wishesOf cX4_wishesOf 2 (some .int) :: zWS) B.pre
  have F : zF 1 3  0 0  p l s m _ c cX4_wishesOf 2 RX4 (Cond.code yX4_wishesOf cX4_wishesOf 2 (some .int)) D Y S V G A := ⟨hx, hb, hml, hown, hts, hl9, hG, hK, hA⟩
  have hS : va_S A s.heap s.heap [] := va_S.rf
  have hl := lv_entry ([.ref (G 0 0), .int p0]) (n := 2) (Nat.le_of_ble_eq_true rfl)
  rw [lg_entry_eq]
  generalize (lg_sl ([.ref (G 0 0), .int p0]) ++ List.replicate (2 - (lg_sl ([.ref (G 0 0), .int p0])).length) Slot.unset).toArray = ls at hl ⊢
  have hl : lv_has ls 2 [(0, .ref (G 0 0)), (1, .int p0)] := hl
  unfold f_X4_wishesOf at hf
  refine lv_aload_n hx hb dX4_wishesOf_0 rfl (lv_at hl 0 rfl) ?_
  refine lv_iload_n hx hb dX4_wishesOf_1 rfl (lv_at hl 1 rfl) ?_
  refine lv_bipush (v := 6) hx hb dX4_wishesOf_2 (by decide) ?_
  obtain ⟨v2, T1, h3, hf⟩ := zb_i hf
  refine z_ok (z_runV (As := [.int p0, .int 6]) (rest := []) F k_X4_ofChild m_1406 (c_X4_ofChild p0 6 T T1 _ h3) hP hS (zV_m (by decide)) rfl rfl rfl rfl hl.1 (Nat.le_of_ble_eq_true rfl) dX4_wishesOf_4 (Nat.le_of_ble_eq_true rfl) ⟨Nat.le_of_ble_eq_true rfl, Nat.le_of_ble_eq_true rfl⟩ rfl) hS (fun H locs hP hS => ?_)
  obtain ⟨q1, q2⟩ := zs_i hf
  subst q1; subst q2
  exact z_iret hx hb hr rfl hP hS hlocks (Nat.le_of_ble_eq_true rfl) (Nat.le_of_ble_eq_true rfl) dX4_wishesOf_7

def f_X4_strengthOf (p0 : Int32) (T : zT) : Option (Int32 × zT) := zb (f_X4_isChild p0 T) fun v2 T1 => (if v2 = 0 then zb (f_X4_refuse 1 T1) fun v5 T4 => some (v5, T4) else zb (f_X4_c p0 T1) fun v8 T7 => zl (v8 + 0) fun x11 => if zin x11 151 = true then zb (f_X4_strength p0 (T7.2 2 0 x11.toNatClampNeg) T7) fun v13 T12 => zb (f_X4_told v13 T12) fun v16 T15 => some (v16, T15) else none)
set_option maxHeartbeats 4000000 in
set_option maxRecDepth 100000 in
theorem c_X4_strengthOf (p0 : Int32) (T T' : zT) (v : Int32) (hf : f_X4_strengthOf p0 T = some (v, T')) : zC 1 yX4_strengthOf cX4_strengthOf 2 (some .int) 3  0 0  (fun G _ => [.ref (G 0 0), .int p0]) T (fun _ => .inl (some (.int v))) T' := by
  intro l D Y S V G A hl9 hG
  refine vx_ofW (cc := cX4_strengthOf) (maxL := 2) (ret := (some .int)) (by decide) rfl ?_
  intro p e s m args below meth c s₁ B hml hex hv
  obtain ⟨rfl, hK, hP, hA⟩ := hv
  have hx := B.exec
  have hb := B.bytes
  have hr := B.returns
  have hlocks := B.notSynchronized
  have hown : s.vm.findClass RX4 = some m.cls := findClass_of_methodNamed B.named
  have hts := atoms_spec (ws := Cond.code yX4_strengthOf cX4_strengthOf 2 (some .int) :: zWS) B.pre
  have F : zF 1 3  0 0  p l s m _ c cX4_strengthOf 2 RX4 (Cond.code yX4_strengthOf cX4_strengthOf 2 (some .int)) D Y S V G A := ⟨hx, hb, hml, hown, hts, hl9, hG, hK, hA⟩
  have hS : va_S A s.heap s.heap [] := va_S.rf
  have hl := lv_entry ([.ref (G 0 0), .int p0]) (n := 2) (Nat.le_of_ble_eq_true rfl)
  rw [lg_entry_eq]
  generalize (lg_sl ([.ref (G 0 0), .int p0]) ++ List.replicate (2 - (lg_sl ([.ref (G 0 0), .int p0])).length) Slot.unset).toArray = ls at hl ⊢
  have hl : lv_has ls 2 [(0, .ref (G 0 0)), (1, .int p0)] := hl
  unfold f_X4_strengthOf at hf
  refine lv_aload_n hx hb dX4_strengthOf_0 rfl (lv_at hl 0 rfl) ?_
  refine lv_iload_n hx hb dX4_strengthOf_1 rfl (lv_at hl 1 rfl) ?_
  obtain ⟨v2, T1, h3, hf⟩ := zb_i hf
  refine z_ok (z_runV (As := [.int p0]) (rest := []) F k_X4_isChild m_1410 (c_X4_isChild p0 T T1 _ h3) hP hS (zV_m (by decide)) rfl rfl rfl rfl hl.1 (Nat.le_of_ble_eq_true rfl) dX4_strengthOf_2 (Nat.le_of_ble_eq_true rfl) ⟨Nat.le_of_ble_eq_true rfl, Nat.le_of_ble_eq_true rfl⟩ rfl) hS (fun H locs hP hS => ?_)
  refine lv_if_eq (tgt := 31) hx hb dX4_strengthOf_5 (by decide) (fun hc => ?_) (fun hc => ?_)
  · have hf := zif_p hf hc
    refine lv_aload_n hx hb dX4_strengthOf_31 rfl (lv_at hl 0 rfl) ?_
    refine lv_iconst (v := 1) hx hb dX4_strengthOf_32 (by decide) ?_
    obtain ⟨v5, T4, h6, hf⟩ := zb_i hf
    refine z_ok (z_runV (As := [.int 1]) (rest := []) F k_X4_refuse m_1222 (c_X4_refuse 1 T1 T4 _ h6) hP hS (zV_m (by decide)) rfl rfl rfl rfl hl.1 (Nat.le_of_ble_eq_true rfl) dX4_strengthOf_33 (Nat.le_of_ble_eq_true rfl) ⟨Nat.le_of_ble_eq_true rfl, Nat.le_of_ble_eq_true rfl⟩ rfl) hS (fun H locs hP hS => ?_)
    obtain ⟨q1, q2⟩ := zs_i hf
    subst q1; subst q2
    exact z_iret hx hb hr rfl hP hS hlocks (Nat.le_of_ble_eq_true rfl) (Nat.le_of_ble_eq_true rfl) dX4_strengthOf_36
  · have hf := zif_n hf hc
    refine lv_aload_n hx hb dX4_strengthOf_8 rfl (lv_at hl 0 rfl) ?_
    refine lv_aload_n hx hb dX4_strengthOf_9 rfl (lv_at hl 0 rfl) ?_
    refine lv_iload_n hx hb dX4_strengthOf_10 rfl (lv_at hl 1 rfl) ?_
    refine lv_aload_n hx hb dX4_strengthOf_11 rfl (lv_at hl 0 rfl) ?_
    refine z_get hx hb hts (fun w h => List.mem_cons_of_mem _ (ziX4 w h)) hown hK hP (zV_m (by decide)) rfl rfl 2 (by decide) (List.mem_cons_of_mem _ m_1143) rfl rfl dX4_strengthOf_12 ?_
    refine lv_iload_n hx hb dX4_strengthOf_15 rfl (lv_at hl 1 rfl) ?_
    obtain ⟨v8, T7, h9, hf⟩ := zb_i hf
    refine z_ok (z_runS (As := [.int p0]) (rest := [.ref (G 2 0), .int p0, .ref (G 0 0), .ref (G 0 0)]) F k_X4_c m_1095 (c_X4_c p0 T1 T7 _ h9) hP hS rfl rfl hl.1 (Nat.le_of_ble_eq_true rfl) dX4_strengthOf_16 (Nat.le_of_ble_eq_true rfl) ⟨Nat.le_of_ble_eq_true rfl, Nat.le_of_ble_eq_true rfl⟩ rfl) hS (fun H locs hP hS => ?_)
    refine lv_iconst (v := 0) hx hb dX4_strengthOf_19 (by decide) ?_
    refine lv_iadd hx hb dX4_strengthOf_20 ?_
    obtain ⟨x11, ex11, hf⟩ := zl_i hf
    refine z_topi ex11 ?_
    obtain ⟨h10, hf⟩ := zif_c hf
    refine z_iald hx hb hK hP (zIA_m (by decide) (by decide)) (zin_i h10) dX4_strengthOf_21 ?_
    obtain ⟨v13, T12, h14, hf⟩ := zb_i hf
    refine z_ok (z_runV (As := [.int p0, .int (T7.2 2 0 x11.toNatClampNeg)]) (rest := [.ref (G 0 0)]) F k_X4_strength m_1137 (c_X4_strength p0 (T7.2 2 0 x11.toNatClampNeg) T7 T12 _ h14) hP hS (zV_m (by decide)) rfl rfl rfl rfl hl.1 (Nat.le_of_ble_eq_true rfl) dX4_strengthOf_22 (Nat.le_of_ble_eq_true rfl) ⟨Nat.le_of_ble_eq_true rfl, Nat.le_of_ble_eq_true rfl⟩ rfl) hS (fun H locs hP hS => ?_)
    obtain ⟨v16, T15, h17, hf⟩ := zb_i hf
    refine z_ok (z_runV (As := [.int v13]) (rest := []) F k_X4_told m_1230 (c_X4_told v13 T12 T15 _ h17) hP hS (zV_m (by decide)) rfl rfl rfl rfl hl.1 (Nat.le_of_ble_eq_true rfl) dX4_strengthOf_25 (Nat.le_of_ble_eq_true rfl) ⟨Nat.le_of_ble_eq_true rfl, Nat.le_of_ble_eq_true rfl⟩ rfl) hS (fun H locs hP hS => ?_)
    refine lv_goto (tgt := 36) hx hb dX4_strengthOf_28 (by decide) ?_
    obtain ⟨q1, q2⟩ := zs_i hf
    subst q1; subst q2
    exact z_iret hx hb hr rfl hP hS hlocks (Nat.le_of_ble_eq_true rfl) (Nat.le_of_ble_eq_true rfl) dX4_strengthOf_36

def lp_X4_nextChild_6  : Nat → Int32 → Int32 → Int32 → zT → Option ((Int32 × Int32 × Int32) × zT)
  | 0, _, _, _, _ => none
  | n + 1, u1, u2, u3, T => (if (T.2 2 0 5) ≤ u3 then some ((u1, u2, u3), T) else zb (f_X4_c u3 T) fun v3 T2 => zl (v3 + 4) fun x6 => if zin x6 151 = true then zb (f_X4_daysTo (T2.2 2 0 x6.toNatClampNeg) T2) fun v8 T7 => zb (f_X4_hasBirthday u3 T7) fun v11 T10 => (if v11 = 0 then zl (u3 + 1) fun x13 => lp_X4_nextChild_6 n u1 u2 x13 T10 else (if u1 = (-1) then zl (u3 + 1) fun x14 => lp_X4_nextChild_6 n u3 v8 x14 T10 else (if u2 ≤ v8 then zl (u3 + 1) fun x15 => lp_X4_nextChild_6 n u1 u2 x15 T10 else zl (u3 + 1) fun x16 => lp_X4_nextChild_6 n u3 v8 x16 T10))) else none)
def f_X4_nextChild  (T : zT) : Option (Int32 × zT) := zb (lp_X4_nextChild_6 2000 (-1) 0 0 T) fun v18 T17 => zb (f_X4_told v18.1 T17) fun v21 T20 => some (v21, T20)
set_option maxHeartbeats 4000000 in
set_option maxRecDepth 100000 in
theorem l_X4_nextChild_6 {p : Program} {l : Launch} {e : Env} {s : State} {m : MethodId} {args : Array Value} {below : List Frame} {meth : Method} {c : Code} {Q : State → Prop} {D : va_G} {Y : Nat → ClassId} {S V : Nat → Nat} {G : Nat → Nat → Nat} {A : Nat → Prop} {c0 : Cond} {mc ms cells slots : Nat} (F : zF 1 2 mc ms p l s m args c cX4_nextChild 5 RX4 c0 D Y S V G A) (hcs : cells ≤ mc ∧ slots ≤ ms) :
    ∀ (n : Nat) (u1 : Int32) (u2 : Int32) (u3 : Int32) (T : zT) (o : (Int32 × Int32 × Int32) × zT) (H : Heap) (locs : List Loc) (ls : Array Slot), lp_X4_nextChild_6 n u1 u2 u3 T = some o → zP 1 D Y G T H → va_S A s.heap H locs → lv_has ls 5 [(0, .ref (G 0 0)), (1, .int u1), (2, .int u2), (3, .int u3)] → (∀ (H : Heap) (locs : List Loc) (ls : Array Slot), zP 1 D Y G o.2 H → va_S A s.heap H locs → lv_has ls 5 [(0, .ref (G 0 0)), (1, .int o.1.1), (2, .int o.1.2.1), (3, .int o.1.2.2)] → W p l e (zR 2 mc ms) s m args below meth c H locs cells slots Q (F0 m 63 ls [])) → W p l e (zR 2 mc ms) s m args below meth c H locs cells slots Q (F0 m 6 ls []) := by
  obtain ⟨hx, hb, hml, hown, hts, hl9, hG, hK, hA⟩ := id F
  intro n
  induction n with
  | zero =>
    intro u1 u2 u3 T o H locs ls hf
    rw [lp_X4_nextChild_6] at hf
    cases hf
  | succ n ih =>
    intro u1 u2 u3 T o H locs ls hf hP hS hl k0_
    rw [lp_X4_nextChild_6] at hf
    refine lv_iload_n hx hb dX4_nextChild_6 rfl (lv_at hl 3 rfl) ?_
    refine lv_aload_n hx hb dX4_nextChild_7 rfl (lv_at hl 0 rfl) ?_
    refine z_get hx hb hts (fun w h => List.mem_cons_of_mem _ (ziX4 w h)) hown hK hP (zV_m (by decide)) rfl rfl 2 (by decide) (List.mem_cons_of_mem _ m_1143) rfl rfl dX4_nextChild_8 ?_
    refine lv_iconst (v := 5) hx hb dX4_nextChild_11 (by decide) ?_
    refine z_iald_ (j := 5) hx hb hK hP (zIA_m (by decide) (by decide)) (by decide) (by decide) dX4_nextChild_12 ?_
    refine lv_icmp_ge (tgt := 63) hx hb dX4_nextChild_13 (by decide) (fun hc => ?_) (fun hc => ?_)
    · have hf := zif_p hf hc
      cases hf
      exact k0_ _ _ _ hP hS (lv_sub hl [0, 1, 2, 3] rfl)
    · have hf := zif_n hf hc
      refine lv_aload_n hx hb dX4_nextChild_16 rfl (lv_at hl 0 rfl) ?_
      refine lv_aload_n hx hb dX4_nextChild_17 rfl (lv_at hl 0 rfl) ?_
      refine z_get hx hb hts (fun w h => List.mem_cons_of_mem _ (ziX4 w h)) hown hK hP (zV_m (by decide)) rfl rfl 2 (by decide) (List.mem_cons_of_mem _ m_1143) rfl rfl dX4_nextChild_18 ?_
      refine lv_iload_n hx hb dX4_nextChild_21 rfl (lv_at hl 3 rfl) ?_
      obtain ⟨v3, T2, h4, hf⟩ := zb_i hf
      refine z_ok (z_runS (As := [.int u3]) (rest := [.ref (G 2 0), .ref (G 0 0)]) F k_X4_c m_1095 (c_X4_c u3 T T2 _ h4) hP hS rfl rfl hl.1 (Nat.le_of_ble_eq_true rfl) dX4_nextChild_22 (Nat.le_of_ble_eq_true rfl) ⟨hcs.1, hcs.2⟩ rfl) hS (fun H locs hP hS => ?_)
      refine lv_iconst (v := 4) hx hb dX4_nextChild_25 (by decide) ?_
      refine lv_iadd hx hb dX4_nextChild_26 ?_
      obtain ⟨x6, ex6, hf⟩ := zl_i hf
      refine z_topi ex6 ?_
      obtain ⟨h5, hf⟩ := zif_c hf
      refine z_iald hx hb hK hP (zIA_m (by decide) (by decide)) (zin_i h5) dX4_nextChild_27 ?_
      obtain ⟨v8, T7, h9, hf⟩ := zb_i hf
      refine z_ok (z_runV (As := [.int (T2.2 2 0 x6.toNatClampNeg)]) (rest := []) F k_X4_daysTo m_1438 (c_X4_daysTo (T2.2 2 0 x6.toNatClampNeg) T2 T7 _ h9) hP hS (zV_m (by decide)) rfl rfl rfl rfl hl.1 (Nat.le_of_ble_eq_true rfl) dX4_nextChild_28 (Nat.le_of_ble_eq_true rfl) ⟨hcs.1, hcs.2⟩ rfl) hS (fun H locs hP hS => ?_)
      refine lv_istore (lv' := [(4, .int v8), (0, .ref (G 0 0)), (1, .int u1), (2, .int u2), (3, .int u3)]) hx hb dX4_nextChild_31 hl (by decide) rfl (fun ls hl => ?_)
      refine lv_aload_n hx hb dX4_nextChild_33 rfl (lv_at hl 1 rfl) ?_
      refine lv_iload_n hx hb dX4_nextChild_34 rfl (lv_at hl 4 rfl) ?_
      obtain ⟨v11, T10, h12, hf⟩ := zb_i hf
      refine z_ok (z_runV (As := [.int u3]) (rest := []) F k_X4_hasBirthday m_1434 (c_X4_hasBirthday u3 T7 T10 _ h12) hP hS (zV_m (by decide)) rfl rfl rfl rfl hl.1 (Nat.le_of_ble_eq_true rfl) dX4_nextChild_35 (Nat.le_of_ble_eq_true rfl) ⟨hcs.1, hcs.2⟩ rfl) hS (fun H locs hP hS => ?_)
      refine lv_if_eq (tgt := 57) hx hb dX4_nextChild_38 (by decide) (fun hc => ?_) (fun hc => ?_)
      · have hf := zif_p hf hc
        obtain ⟨x13, ex13, hf⟩ := zl_i hf
        refine lv_iinc (v := x13) (lv' := [(3, .int x13), (4, .int v8), (0, .ref (G 0 0)), (1, .int u1), (2, .int u2)]) hx hb dX4_nextChild_57 hl (k := 4) rfl (by rw [ex13]; rfl) (by decide) rfl (fun ls hl => ?_)
        refine lv_goto (tgt := 6) hx hb dX4_nextChild_60 (by decide) ?_
        exact ih u1 u2 x13 _ _ _ _ _ hf hP hS (lv_sub hl [2, 3, 4, 0] rfl) k0_
      · have hf := zif_n hf hc
        refine lv_iload_n hx hb dX4_nextChild_41 rfl (lv_at hl 2 rfl) ?_
        refine lv_iconst (v := (-1)) hx hb dX4_nextChild_42 (by decide) ?_
        refine lv_icmp_eq (tgt := 52) hx hb dX4_nextChild_43 (by decide) (fun hc => ?_) (fun hc => ?_)
        · have hf := zif_p hf hc
          refine lv_iload_n hx hb dX4_nextChild_52 rfl (lv_at hl 4 rfl) ?_
          refine lv_istore_n (lv' := [(1, .int u3), (4, .int v8), (0, .ref (G 0 0)), (2, .int u2), (3, .int u3)]) hx hb dX4_nextChild_53 rfl hl (by decide) rfl (fun ls hl => ?_)
          refine lv_iload hx hb dX4_nextChild_54 (lv_at hl 1 rfl) ?_
          refine lv_istore_n (lv' := [(2, .int v8), (1, .int u3), (4, .int v8), (0, .ref (G 0 0)), (3, .int u3)]) hx hb dX4_nextChild_56 rfl hl (by decide) rfl (fun ls hl => ?_)
          obtain ⟨x14, ex14, hf⟩ := zl_i hf
          refine lv_iinc (v := x14) (lv' := [(3, .int x14), (2, .int v8), (1, .int u3), (4, .int v8), (0, .ref (G 0 0))]) hx hb dX4_nextChild_57 hl (k := 4) rfl (by rw [ex14]; rfl) (by decide) rfl (fun ls hl => ?_)
          refine lv_goto (tgt := 6) hx hb dX4_nextChild_60 (by decide) ?_
          exact ih u3 v8 x14 _ _ _ _ _ hf hP hS (lv_sub hl [4, 2, 1, 0] rfl) k0_
        · have hf := zif_n hf hc
          refine lv_iload hx hb dX4_nextChild_46 (lv_at hl 0 rfl) ?_
          refine lv_iload_n hx hb dX4_nextChild_48 rfl (lv_at hl 3 rfl) ?_
          refine lv_icmp_ge (tgt := 57) hx hb dX4_nextChild_49 (by decide) (fun hc => ?_) (fun hc => ?_)
          · have hf := zif_p hf hc
            obtain ⟨x15, ex15, hf⟩ := zl_i hf
            refine lv_iinc (v := x15) (lv' := [(3, .int x15), (4, .int v8), (0, .ref (G 0 0)), (1, .int u1), (2, .int u2)]) hx hb dX4_nextChild_57 hl (k := 4) rfl (by rw [ex15]; rfl) (by decide) rfl (fun ls hl => ?_)
            refine lv_goto (tgt := 6) hx hb dX4_nextChild_60 (by decide) ?_
            exact ih u1 u2 x15 _ _ _ _ _ hf hP hS (lv_sub hl [2, 3, 4, 0] rfl) k0_
          · have hf := zif_n hf hc
            refine lv_iload_n hx hb dX4_nextChild_52 rfl (lv_at hl 4 rfl) ?_
            refine lv_istore_n (lv' := [(1, .int u3), (4, .int v8), (0, .ref (G 0 0)), (2, .int u2), (3, .int u3)]) hx hb dX4_nextChild_53 rfl hl (by decide) rfl (fun ls hl => ?_)
            refine lv_iload hx hb dX4_nextChild_54 (lv_at hl 1 rfl) ?_
            refine lv_istore_n (lv' := [(2, .int v8), (1, .int u3), (4, .int v8), (0, .ref (G 0 0)), (3, .int u3)]) hx hb dX4_nextChild_56 rfl hl (by decide) rfl (fun ls hl => ?_)
            obtain ⟨x16, ex16, hf⟩ := zl_i hf
            refine lv_iinc (v := x16) (lv' := [(3, .int x16), (2, .int v8), (1, .int u3), (4, .int v8), (0, .ref (G 0 0))]) hx hb dX4_nextChild_57 hl (k := 4) rfl (by rw [ex16]; rfl) (by decide) rfl (fun ls hl => ?_)
            refine lv_goto (tgt := 6) hx hb dX4_nextChild_60 (by decide) ?_
            exact ih u3 v8 x16 _ _ _ _ _ hf hP hS (lv_sub hl [4, 2, 1, 0] rfl) k0_
set_option maxHeartbeats 4000000 in
set_option maxRecDepth 100000 in
theorem c_X4_nextChild  (T T' : zT) (v : Int32) (hf : f_X4_nextChild  T = some (v, T')) : zC 1 yX4_nextChild cX4_nextChild 5 (some .int) 2  0 0  (fun G _ => [.ref (G 0 0)]) T (fun _ => .inl (some (.int v))) T' := by
  intro l D Y S V G A hl9 hG
  refine vx_ofW (cc := cX4_nextChild) (maxL := 5) (ret := (some .int)) (by decide) rfl ?_
  intro p e s m args below meth c s₁ B hml hex hv
  obtain ⟨rfl, hK, hP, hA⟩ := hv
  have hx := B.exec
  have hb := B.bytes
  have hr := B.returns
  have hlocks := B.notSynchronized
  have hown : s.vm.findClass RX4 = some m.cls := findClass_of_methodNamed B.named
  have hts := atoms_spec (ws := Cond.code yX4_nextChild cX4_nextChild 5 (some .int) :: zWS) B.pre
  have F : zF 1 2  0 0  p l s m _ c cX4_nextChild 5 RX4 (Cond.code yX4_nextChild cX4_nextChild 5 (some .int)) D Y S V G A := ⟨hx, hb, hml, hown, hts, hl9, hG, hK, hA⟩
  have hS : va_S A s.heap s.heap [] := va_S.rf
  have hl := lv_entry ([.ref (G 0 0)]) (n := 5) (Nat.le_of_ble_eq_true rfl)
  rw [lg_entry_eq]
  generalize (lg_sl ([.ref (G 0 0)]) ++ List.replicate (5 - (lg_sl ([.ref (G 0 0)])).length) Slot.unset).toArray = ls at hl ⊢
  have hl : lv_has ls 5 [(0, .ref (G 0 0))] := hl
  unfold f_X4_nextChild at hf
  refine lv_iconst (v := (-1)) hx hb dX4_nextChild_0 (by decide) ?_
  refine lv_istore_n (lv' := [(1, .int (-1)), (0, .ref (G 0 0))]) hx hb dX4_nextChild_1 rfl hl (by decide) rfl (fun ls hl => ?_)
  refine lv_iconst (v := 0) hx hb dX4_nextChild_2 (by decide) ?_
  refine lv_istore_n (lv' := [(2, .int 0), (1, .int (-1)), (0, .ref (G 0 0))]) hx hb dX4_nextChild_3 rfl hl (by decide) rfl (fun ls hl => ?_)
  refine lv_iconst (v := 0) hx hb dX4_nextChild_4 (by decide) ?_
  refine lv_istore_n (lv' := [(3, .int 0), (2, .int 0), (1, .int (-1)), (0, .ref (G 0 0))]) hx hb dX4_nextChild_5 rfl hl (by decide) rfl (fun ls hl => ?_)
  obtain ⟨v18, T17, h19, hf⟩ := zb_i hf
  refine l_X4_nextChild_6 F ⟨Nat.le_of_ble_eq_true rfl, Nat.le_of_ble_eq_true rfl⟩  2000 (-1) 0 0 _ _ _ _ _ h19 hP hS (lv_sub hl [3, 2, 1, 0] rfl) (fun H locs ls hP hS hl => ?_)
  refine lv_aload_n hx hb dX4_nextChild_63 rfl (lv_at hl 0 rfl) ?_
  refine lv_iload_n hx hb dX4_nextChild_64 rfl (lv_at hl 1 rfl) ?_
  obtain ⟨v21, T20, h22, hf⟩ := zb_i hf
  refine z_ok (z_runV (As := [.int v18.1]) (rest := []) F k_X4_told m_1230 (c_X4_told v18.1 T17 T20 _ h22) hP hS (zV_m (by decide)) rfl rfl rfl rfl hl.1 (Nat.le_of_ble_eq_true rfl) dX4_nextChild_65 (Nat.le_of_ble_eq_true rfl) ⟨Nat.le_of_ble_eq_true rfl, Nat.le_of_ble_eq_true rfl⟩ rfl) hS (fun H locs hP hS => ?_)
  obtain ⟨q1, q2⟩ := zs_i hf
  subst q1; subst q2
  exact z_iret hx hb hr rfl hP hS hlocks (Nat.le_of_ble_eq_true rfl) (Nat.le_of_ble_eq_true rfl) dX4_nextChild_68

def lp_X4_sharing_4 (w1 : Int32) : Nat → Int32 → Int32 → zT → Option ((Int32 × Int32) × zT)
  | 0, _, _, _ => none
  | n + 1, u2, u3, T => (if (T.2 2 0 5) ≤ u3 then some ((u2, u3), T) else zb (f_X4_c u3 T) fun v3 T2 => zl (v3 + 4) fun x6 => if zin x6 151 = true then (if (T2.2 2 0 x6.toNatClampNeg) = w1 then zl (u2 + 1) fun x9 => zl (u3 + 1) fun x10 => lp_X4_sharing_4 w1 n x9 x10 T2 else zl (u2 + 0) fun x7 => zl (u3 + 1) fun x8 => lp_X4_sharing_4 w1 n x7 x8 T2) else none)
def f_X4_sharing (p0 : Int32) (T : zT) : Option (Int32 × zT) := zb (lp_X4_sharing_4 p0 2000 0 0 T) fun v12 T11 => some (v12.1, T11)
set_option maxHeartbeats 4000000 in
set_option maxRecDepth 100000 in
theorem l_X4_sharing_4 {p : Program} {l : Launch} {e : Env} {s : State} {m : MethodId} {args : Array Value} {below : List Frame} {meth : Method} {c : Code} {Q : State → Prop} {D : va_G} {Y : Nat → ClassId} {S V : Nat → Nat} {G : Nat → Nat → Nat} {A : Nat → Prop} {c0 : Cond} {mc ms cells slots : Nat} (F : zF 1 1 mc ms p l s m args c cX4_sharing 4 RX4 c0 D Y S V G A) (hcs : cells ≤ mc ∧ slots ≤ ms) (w1 : Int32) :
    ∀ (n : Nat) (u2 : Int32) (u3 : Int32) (T : zT) (o : (Int32 × Int32) × zT) (H : Heap) (locs : List Loc) (ls : Array Slot), lp_X4_sharing_4 w1 n u2 u3 T = some o → zP 1 D Y G T H → va_S A s.heap H locs → lv_has ls 4 [(0, .ref (G 0 0)), (1, .int w1), (2, .int u2), (3, .int u3)] → (∀ (H : Heap) (locs : List Loc) (ls : Array Slot), zP 1 D Y G o.2 H → va_S A s.heap H locs → lv_has ls 4 [(0, .ref (G 0 0)), (1, .int w1), (2, .int o.1.1), (3, .int o.1.2)] → W p l e (zR 1 mc ms) s m args below meth c H locs cells slots Q (F0 m 43 ls [])) → W p l e (zR 1 mc ms) s m args below meth c H locs cells slots Q (F0 m 4 ls []) := by
  obtain ⟨hx, hb, hml, hown, hts, hl9, hG, hK, hA⟩ := id F
  intro n
  induction n with
  | zero =>
    intro u2 u3 T o H locs ls hf
    rw [lp_X4_sharing_4] at hf
    cases hf
  | succ n ih =>
    intro u2 u3 T o H locs ls hf hP hS hl k0_
    rw [lp_X4_sharing_4] at hf
    refine lv_iload_n hx hb dX4_sharing_4 rfl (lv_at hl 3 rfl) ?_
    refine lv_aload_n hx hb dX4_sharing_5 rfl (lv_at hl 0 rfl) ?_
    refine z_get hx hb hts (fun w h => List.mem_cons_of_mem _ (ziX4 w h)) hown hK hP (zV_m (by decide)) rfl rfl 2 (by decide) (List.mem_cons_of_mem _ m_1143) rfl rfl dX4_sharing_6 ?_
    refine lv_iconst (v := 5) hx hb dX4_sharing_9 (by decide) ?_
    refine z_iald_ (j := 5) hx hb hK hP (zIA_m (by decide) (by decide)) (by decide) (by decide) dX4_sharing_10 ?_
    refine lv_icmp_ge (tgt := 43) hx hb dX4_sharing_11 (by decide) (fun hc => ?_) (fun hc => ?_)
    · have hf := zif_p hf hc
      cases hf
      exact k0_ _ _ _ hP hS (lv_sub hl [0, 1, 2, 3] rfl)
    · have hf := zif_n hf hc
      refine lv_iload_n hx hb dX4_sharing_14 rfl (lv_at hl 2 rfl) ?_
      refine lv_aload_n hx hb dX4_sharing_15 rfl (lv_at hl 0 rfl) ?_
      refine z_get hx hb hts (fun w h => List.mem_cons_of_mem _ (ziX4 w h)) hown hK hP (zV_m (by decide)) rfl rfl 2 (by decide) (List.mem_cons_of_mem _ m_1143) rfl rfl dX4_sharing_16 ?_
      refine lv_iload_n hx hb dX4_sharing_19 rfl (lv_at hl 3 rfl) ?_
      obtain ⟨v3, T2, h4, hf⟩ := zb_i hf
      refine z_ok (z_runS (As := [.int u3]) (rest := [.ref (G 2 0), .int u2]) F k_X4_c m_1095 (c_X4_c u3 T T2 _ h4) hP hS rfl rfl hl.1 (Nat.le_of_ble_eq_true rfl) dX4_sharing_20 (Nat.le_of_ble_eq_true rfl) ⟨hcs.1, hcs.2⟩ rfl) hS (fun H locs hP hS => ?_)
      refine lv_iconst (v := 4) hx hb dX4_sharing_23 (by decide) ?_
      refine lv_iadd hx hb dX4_sharing_24 ?_
      obtain ⟨x6, ex6, hf⟩ := zl_i hf
      refine z_topi ex6 ?_
      obtain ⟨h5, hf⟩ := zif_c hf
      refine z_iald hx hb hK hP (zIA_m (by decide) (by decide)) (zin_i h5) dX4_sharing_25 ?_
      refine lv_iload_n hx hb dX4_sharing_26 rfl (lv_at hl 1 rfl) ?_
      refine lv_icmp_ne (tgt := 34) hx hb dX4_sharing_27 (by decide) (fun hc => ?_) (fun hc => ?_)
      · have hf := zif_n hf hc
        refine lv_iconst (v := 0) hx hb dX4_sharing_34 (by decide) ?_
        refine lv_iadd hx hb dX4_sharing_35 ?_
        obtain ⟨x7, ex7, hf⟩ := zl_i hf
        refine z_topi ex7 ?_
        refine lv_istore_n (lv' := [(2, .int x7), (0, .ref (G 0 0)), (1, .int w1), (3, .int u3)]) hx hb dX4_sharing_36 rfl hl (by decide) rfl (fun ls hl => ?_)
        obtain ⟨x8, ex8, hf⟩ := zl_i hf
        refine lv_iinc (v := x8) (lv' := [(3, .int x8), (2, .int x7), (0, .ref (G 0 0)), (1, .int w1)]) hx hb dX4_sharing_37 hl (k := 3) rfl (by rw [ex8]; rfl) (by decide) rfl (fun ls hl => ?_)
        refine lv_goto (tgt := 4) hx hb dX4_sharing_40 (by decide) ?_
        exact ih x7 x8 _ _ _ _ _ hf hP hS (lv_sub hl [2, 3, 1, 0] rfl) k0_
      · have hf := zif_p hf hc
        refine lv_iconst (v := 1) hx hb dX4_sharing_30 (by decide) ?_
        refine lv_goto (tgt := 35) hx hb dX4_sharing_31 (by decide) ?_
        refine lv_iadd hx hb dX4_sharing_35 ?_
        obtain ⟨x9, ex9, hf⟩ := zl_i hf
        refine z_topi ex9 ?_
        refine lv_istore_n (lv' := [(2, .int x9), (0, .ref (G 0 0)), (1, .int w1), (3, .int u3)]) hx hb dX4_sharing_36 rfl hl (by decide) rfl (fun ls hl => ?_)
        obtain ⟨x10, ex10, hf⟩ := zl_i hf
        refine lv_iinc (v := x10) (lv' := [(3, .int x10), (2, .int x9), (0, .ref (G 0 0)), (1, .int w1)]) hx hb dX4_sharing_37 hl (k := 3) rfl (by rw [ex10]; rfl) (by decide) rfl (fun ls hl => ?_)
        refine lv_goto (tgt := 4) hx hb dX4_sharing_40 (by decide) ?_
        exact ih x9 x10 _ _ _ _ _ hf hP hS (lv_sub hl [2, 3, 1, 0] rfl) k0_
set_option maxHeartbeats 4000000 in
set_option maxRecDepth 100000 in
theorem c_X4_sharing (p0 : Int32) (T T' : zT) (v : Int32) (hf : f_X4_sharing p0 T = some (v, T')) : zC 1 yX4_sharing cX4_sharing 4 (some .int) 1  0 0  (fun G _ => [.ref (G 0 0), .int p0]) T (fun _ => .inl (some (.int v))) T' := by
  intro l D Y S V G A hl9 hG
  refine vx_ofW (cc := cX4_sharing) (maxL := 4) (ret := (some .int)) (by decide) rfl ?_
  intro p e s m args below meth c s₁ B hml hex hv
  obtain ⟨rfl, hK, hP, hA⟩ := hv
  have hx := B.exec
  have hb := B.bytes
  have hr := B.returns
  have hlocks := B.notSynchronized
  have hown : s.vm.findClass RX4 = some m.cls := findClass_of_methodNamed B.named
  have hts := atoms_spec (ws := Cond.code yX4_sharing cX4_sharing 4 (some .int) :: zWS) B.pre
  have F : zF 1 1  0 0  p l s m _ c cX4_sharing 4 RX4 (Cond.code yX4_sharing cX4_sharing 4 (some .int)) D Y S V G A := ⟨hx, hb, hml, hown, hts, hl9, hG, hK, hA⟩
  have hS : va_S A s.heap s.heap [] := va_S.rf
  have hl := lv_entry ([.ref (G 0 0), .int p0]) (n := 4) (Nat.le_of_ble_eq_true rfl)
  rw [lg_entry_eq]
  generalize (lg_sl ([.ref (G 0 0), .int p0]) ++ List.replicate (4 - (lg_sl ([.ref (G 0 0), .int p0])).length) Slot.unset).toArray = ls at hl ⊢
  have hl : lv_has ls 4 [(0, .ref (G 0 0)), (1, .int p0)] := hl
  unfold f_X4_sharing at hf
  refine lv_iconst (v := 0) hx hb dX4_sharing_0 (by decide) ?_
  refine lv_istore_n (lv' := [(2, .int 0), (0, .ref (G 0 0)), (1, .int p0)]) hx hb dX4_sharing_1 rfl hl (by decide) rfl (fun ls hl => ?_)
  refine lv_iconst (v := 0) hx hb dX4_sharing_2 (by decide) ?_
  refine lv_istore_n (lv' := [(3, .int 0), (2, .int 0), (0, .ref (G 0 0)), (1, .int p0)]) hx hb dX4_sharing_3 rfl hl (by decide) rfl (fun ls hl => ?_)
  obtain ⟨v12, T11, h13, hf⟩ := zb_i hf
  refine l_X4_sharing_4 F ⟨Nat.le_of_ble_eq_true rfl, Nat.le_of_ble_eq_true rfl⟩ p0 2000 0 0 _ _ _ _ _ h13 hP hS (lv_sub hl [2, 3, 1, 0] rfl) (fun H locs ls hP hS hl => ?_)
  refine lv_iload_n hx hb dX4_sharing_43 rfl (lv_at hl 2 rfl) ?_
  obtain ⟨q1, q2⟩ := zs_i hf
  subst q1; subst q2
  exact z_iret hx hb hr rfl hP hS hlocks (Nat.le_of_ble_eq_true rfl) (Nat.le_of_ble_eq_true rfl) dX4_sharing_44

def f_X4_childrenOn (p0 : Int32) (p1 : Int32) (T : zT) : Option (Int32 × zT) := zb (f_X4_isDate p0 p1 T) fun v2 T1 => (if v2 = 0 then zb (f_X4_refuse 1 T1) fun v5 T4 => some (v5, T4) else zb (f_X4_position p0 p1 T1) fun v8 T7 => zb (f_X4_sharing v8 T7) fun v11 T10 => zb (f_X4_told v11 T10) fun v14 T13 => some (v14, T13))
set_option maxHeartbeats 4000000 in
set_option maxRecDepth 100000 in
theorem c_X4_childrenOn (p0 : Int32) (p1 : Int32) (T T' : zT) (v : Int32) (hf : f_X4_childrenOn p0 p1 T = some (v, T')) : zC 1 yX4_childrenOn cX4_childrenOn 3 (some .int) 2  0 0  (fun G _ => [.ref (G 0 0), .int p0, .int p1]) T (fun _ => .inl (some (.int v))) T' := by
  intro l D Y S V G A hl9 hG
  refine vx_ofW (cc := cX4_childrenOn) (maxL := 3) (ret := (some .int)) (by decide) rfl ?_
  intro p e s m args below meth c s₁ B hml hex hv
  obtain ⟨rfl, hK, hP, hA⟩ := hv
  have hx := B.exec
  have hb := B.bytes
  have hr := B.returns
  have hlocks := B.notSynchronized
  have hown : s.vm.findClass RX4 = some m.cls := findClass_of_methodNamed B.named
  have hts := atoms_spec (ws := Cond.code yX4_childrenOn cX4_childrenOn 3 (some .int) :: zWS) B.pre
  have F : zF 1 2  0 0  p l s m _ c cX4_childrenOn 3 RX4 (Cond.code yX4_childrenOn cX4_childrenOn 3 (some .int)) D Y S V G A := ⟨hx, hb, hml, hown, hts, hl9, hG, hK, hA⟩
  have hS : va_S A s.heap s.heap [] := va_S.rf
  have hl := lv_entry ([.ref (G 0 0), .int p0, .int p1]) (n := 3) (Nat.le_of_ble_eq_true rfl)
  rw [lg_entry_eq]
  generalize (lg_sl ([.ref (G 0 0), .int p0, .int p1]) ++ List.replicate (3 - (lg_sl ([.ref (G 0 0), .int p0, .int p1])).length) Slot.unset).toArray = ls at hl ⊢
  have hl : lv_has ls 3 [(0, .ref (G 0 0)), (1, .int p0), (2, .int p1)] := hl
  unfold f_X4_childrenOn at hf
  refine lv_iload_n hx hb dX4_childrenOn_0 rfl (lv_at hl 1 rfl) ?_
  refine lv_iload_n hx hb dX4_childrenOn_1 rfl (lv_at hl 2 rfl) ?_
  obtain ⟨v2, T1, h3, hf⟩ := zb_i hf
  refine z_ok (z_runS (As := [.int p0, .int p1]) (rest := []) F k_X4_isDate m_1391 (c_X4_isDate p0 p1 T T1 _ h3) hP hS rfl rfl hl.1 (Nat.le_of_ble_eq_true rfl) dX4_childrenOn_2 (Nat.le_of_ble_eq_true rfl) ⟨Nat.le_of_ble_eq_true rfl, Nat.le_of_ble_eq_true rfl⟩ rfl) hS (fun H locs hP hS => ?_)
  refine lv_if_eq (tgt := 24) hx hb dX4_childrenOn_5 (by decide) (fun hc => ?_) (fun hc => ?_)
  · have hf := zif_p hf hc
    refine lv_aload_n hx hb dX4_childrenOn_24 rfl (lv_at hl 0 rfl) ?_
    refine lv_iconst (v := 1) hx hb dX4_childrenOn_25 (by decide) ?_
    obtain ⟨v5, T4, h6, hf⟩ := zb_i hf
    refine z_ok (z_runV (As := [.int 1]) (rest := []) F k_X4_refuse m_1222 (c_X4_refuse 1 T1 T4 _ h6) hP hS (zV_m (by decide)) rfl rfl rfl rfl hl.1 (Nat.le_of_ble_eq_true rfl) dX4_childrenOn_26 (Nat.le_of_ble_eq_true rfl) ⟨Nat.le_of_ble_eq_true rfl, Nat.le_of_ble_eq_true rfl⟩ rfl) hS (fun H locs hP hS => ?_)
    obtain ⟨q1, q2⟩ := zs_i hf
    subst q1; subst q2
    exact z_iret hx hb hr rfl hP hS hlocks (Nat.le_of_ble_eq_true rfl) (Nat.le_of_ble_eq_true rfl) dX4_childrenOn_29
  · have hf := zif_n hf hc
    refine lv_aload_n hx hb dX4_childrenOn_8 rfl (lv_at hl 0 rfl) ?_
    refine lv_aload_n hx hb dX4_childrenOn_9 rfl (lv_at hl 0 rfl) ?_
    refine lv_iload_n hx hb dX4_childrenOn_10 rfl (lv_at hl 1 rfl) ?_
    refine lv_iload_n hx hb dX4_childrenOn_11 rfl (lv_at hl 2 rfl) ?_
    obtain ⟨v8, T7, h9, hf⟩ := zb_i hf
    refine z_ok (z_runS (As := [.int p0, .int p1]) (rest := [.ref (G 0 0), .ref (G 0 0)]) F k_X4_position m_1307 (c_X4_position p0 p1 T1 T7 _ h9) hP hS rfl rfl hl.1 (Nat.le_of_ble_eq_true rfl) dX4_childrenOn_12 (Nat.le_of_ble_eq_true rfl) ⟨Nat.le_of_ble_eq_true rfl, Nat.le_of_ble_eq_true rfl⟩ rfl) hS (fun H locs hP hS => ?_)
    obtain ⟨v11, T10, h12, hf⟩ := zb_i hf
    refine z_ok (z_runV (As := [.int v8]) (rest := [.ref (G 0 0)]) F k_X4_sharing m_1462 (c_X4_sharing v8 T7 T10 _ h12) hP hS (zV_m (by decide)) rfl rfl rfl rfl hl.1 (Nat.le_of_ble_eq_true rfl) dX4_childrenOn_15 (Nat.le_of_ble_eq_true rfl) ⟨Nat.le_of_ble_eq_true rfl, Nat.le_of_ble_eq_true rfl⟩ rfl) hS (fun H locs hP hS => ?_)
    obtain ⟨v14, T13, h15, hf⟩ := zb_i hf
    refine z_ok (z_runV (As := [.int v11]) (rest := []) F k_X4_told m_1230 (c_X4_told v11 T10 T13 _ h15) hP hS (zV_m (by decide)) rfl rfl rfl rfl hl.1 (Nat.le_of_ble_eq_true rfl) dX4_childrenOn_18 (Nat.le_of_ble_eq_true rfl) ⟨Nat.le_of_ble_eq_true rfl, Nat.le_of_ble_eq_true rfl⟩ rfl) hS (fun H locs hP hS => ?_)
    refine lv_goto (tgt := 29) hx hb dX4_childrenOn_21 (by decide) ?_
    obtain ⟨q1, q2⟩ := zs_i hf
    subst q1; subst q2
    exact z_iret hx hb hr rfl hP hS hlocks (Nat.le_of_ble_eq_true rfl) (Nat.le_of_ble_eq_true rfl) dX4_childrenOn_29

def lp_X4_isFirst_2 (w1 : Int32) : Nat → Int32 → zT → Option ((Nat × Int32) × zT)
  | 0, _, _ => none
  | n + 1, u2, T => (if w1 ≤ u2 then some ((1, u2), T) else zb (f_X4_c u2 T) fun v2 T1 => zl (v2 + 4) fun x5 => if zin x5 151 = true then zb (f_X4_c w1 T1) fun v7 T6 => zl (v7 + 4) fun x10 => if zin x10 151 = true then (if (T1.2 2 0 x5.toNatClampNeg) = (T6.2 2 0 x10.toNatClampNeg) then some ((0, u2), T6) else zl (u2 + 1) fun x11 => lp_X4_isFirst_2 w1 n x11 T6) else none else none)
def f_X4_isFirst (p0 : Int32) (T : zT) : Option (Int32 × zT) := zb (lp_X4_isFirst_2 p0 2000 0 T) fun v13 T12 => if v13.1 = 0 then some (0, T12) else if v13.1 = 1 then zb (f_X4_hasBirthday p0 T12) fun v16 T15 => if v16 = 0 ∨ v16 = 1 then some (v16, T15) else none else none
set_option maxHeartbeats 4000000 in
set_option maxRecDepth 100000 in
theorem l_X4_isFirst_2 {p : Program} {l : Launch} {e : Env} {s : State} {m : MethodId} {args : Array Value} {below : List Frame} {meth : Method} {c : Code} {Q : State → Prop} {D : va_G} {Y : Nat → ClassId} {S V : Nat → Nat} {G : Nat → Nat → Nat} {A : Nat → Prop} {c0 : Cond} {mc ms cells slots : Nat} (F : zF 1 2 mc ms p l s m args c cX4_isFirst 3 RX4 c0 D Y S V G A) (hcs : cells ≤ mc ∧ slots ≤ ms) (w1 : Int32) :
    ∀ (n : Nat) (u2 : Int32) (T : zT) (o : (Nat × Int32) × zT) (H : Heap) (locs : List Loc) (ls : Array Slot), lp_X4_isFirst_2 w1 n u2 T = some o → zP 1 D Y G T H → va_S A s.heap H locs → lv_has ls 3 [(0, .ref (G 0 0)), (1, .int w1), (2, .int u2)] → (o.1.1 = 0 → ∀ (H : Heap) (locs : List Loc) (ls : Array Slot), zP 1 D Y G o.2 H → va_S A s.heap H locs → lv_has ls 3 [(0, .ref (G 0 0)), (1, .int w1), (2, .int o.1.2)] → W p l e (zR 2 mc ms) s m args below meth c H locs cells slots Q (F0 m 32 ls [])) → (o.1.1 = 1 → ∀ (H : Heap) (locs : List Loc) (ls : Array Slot), zP 1 D Y G o.2 H → va_S A s.heap H locs → lv_has ls 3 [(0, .ref (G 0 0)), (1, .int w1), (2, .int o.1.2)] → W p l e (zR 2 mc ms) s m args below meth c H locs cells slots Q (F0 m 40 ls [])) → W p l e (zR 2 mc ms) s m args below meth c H locs cells slots Q (F0 m 2 ls []) := by
  obtain ⟨hx, hb, hml, hown, hts, hl9, hG, hK, hA⟩ := id F
  intro n
  induction n with
  | zero =>
    intro u2 T o H locs ls hf
    rw [lp_X4_isFirst_2] at hf
    cases hf
  | succ n ih =>
    intro u2 T o H locs ls hf hP hS hl k0_ k1_
    rw [lp_X4_isFirst_2] at hf
    refine lv_iload_n hx hb dX4_isFirst_2 rfl (lv_at hl 2 rfl) ?_
    refine lv_iload_n hx hb dX4_isFirst_3 rfl (lv_at hl 1 rfl) ?_
    refine lv_icmp_ge (tgt := 40) hx hb dX4_isFirst_4 (by decide) (fun hc => ?_) (fun hc => ?_)
    · have hf := zif_p hf hc
      cases hf
      exact k1_ rfl _ _ _ hP hS (lv_sub hl [0, 1, 2] rfl)
    · have hf := zif_n hf hc
      refine lv_aload_n hx hb dX4_isFirst_7 rfl (lv_at hl 0 rfl) ?_
      refine z_get hx hb hts (fun w h => List.mem_cons_of_mem _ (ziX4 w h)) hown hK hP (zV_m (by decide)) rfl rfl 2 (by decide) (List.mem_cons_of_mem _ m_1143) rfl rfl dX4_isFirst_8 ?_
      refine lv_iload_n hx hb dX4_isFirst_11 rfl (lv_at hl 2 rfl) ?_
      obtain ⟨v2, T1, h3, hf⟩ := zb_i hf
      refine z_ok (z_runS (As := [.int u2]) (rest := [.ref (G 2 0)]) F k_X4_c m_1095 (c_X4_c u2 T T1 _ h3) hP hS rfl rfl hl.1 (Nat.le_of_ble_eq_true rfl) dX4_isFirst_12 (Nat.le_of_ble_eq_true rfl) ⟨hcs.1, hcs.2⟩ rfl) hS (fun H locs hP hS => ?_)
      refine lv_iconst (v := 4) hx hb dX4_isFirst_15 (by decide) ?_
      refine lv_iadd hx hb dX4_isFirst_16 ?_
      obtain ⟨x5, ex5, hf⟩ := zl_i hf
      refine z_topi ex5 ?_
      obtain ⟨h4, hf⟩ := zif_c hf
      refine z_iald hx hb hK hP (zIA_m (by decide) (by decide)) (zin_i h4) dX4_isFirst_17 ?_
      refine lv_aload_n hx hb dX4_isFirst_18 rfl (lv_at hl 0 rfl) ?_
      refine z_get hx hb hts (fun w h => List.mem_cons_of_mem _ (ziX4 w h)) hown hK hP (zV_m (by decide)) rfl rfl 2 (by decide) (List.mem_cons_of_mem _ m_1143) rfl rfl dX4_isFirst_19 ?_
      refine lv_iload_n hx hb dX4_isFirst_22 rfl (lv_at hl 1 rfl) ?_
      obtain ⟨v7, T6, h8, hf⟩ := zb_i hf
      refine z_ok (z_runS (As := [.int w1]) (rest := [.ref (G 2 0), .int (T1.2 2 0 x5.toNatClampNeg)]) F k_X4_c m_1095 (c_X4_c w1 T1 T6 _ h8) hP hS rfl rfl hl.1 (Nat.le_of_ble_eq_true rfl) dX4_isFirst_23 (Nat.le_of_ble_eq_true rfl) ⟨hcs.1, hcs.2⟩ rfl) hS (fun H locs hP hS => ?_)
      refine lv_iconst (v := 4) hx hb dX4_isFirst_26 (by decide) ?_
      refine lv_iadd hx hb dX4_isFirst_27 ?_
      obtain ⟨x10, ex10, hf⟩ := zl_i hf
      refine z_topi ex10 ?_
      obtain ⟨h9, hf⟩ := zif_c hf
      refine z_iald hx hb hK hP (zIA_m (by decide) (by decide)) (zin_i h9) dX4_isFirst_28 ?_
      refine lv_icmp_ne (tgt := 34) hx hb dX4_isFirst_29 (by decide) (fun hc => ?_) (fun hc => ?_)
      · have hf := zif_n hf hc
        obtain ⟨x11, ex11, hf⟩ := zl_i hf
        refine lv_iinc (v := x11) (lv' := [(2, .int x11), (0, .ref (G 0 0)), (1, .int w1)]) hx hb dX4_isFirst_34 hl (k := 2) rfl (by rw [ex11]; rfl) (by decide) rfl (fun ls hl => ?_)
        refine lv_goto (tgt := 2) hx hb dX4_isFirst_37 (by decide) ?_
        exact ih x11 _ _ _ _ _ hf hP hS (lv_sub hl [1, 2, 0] rfl) k0_ k1_
      · have hf := zif_p hf hc
        cases hf
        exact k0_ rfl _ _ _ hP hS (lv_sub hl [0, 1, 2] rfl)
set_option maxHeartbeats 4000000 in
set_option maxRecDepth 100000 in
theorem c_X4_isFirst (p0 : Int32) (T T' : zT) (v : Int32) (hf : f_X4_isFirst p0 T = some (v, T')) : zC 1 yX4_isFirst cX4_isFirst 3 (some .boolean) 2  0 0  (fun G _ => [.ref (G 0 0), .int p0]) T (fun _ => .inl (some (.int v))) T' := by
  intro l D Y S V G A hl9 hG
  refine vx_ofW (cc := cX4_isFirst) (maxL := 3) (ret := (some .boolean)) (by decide) rfl ?_
  intro p e s m args below meth c s₁ B hml hex hv
  obtain ⟨rfl, hK, hP, hA⟩ := hv
  have hx := B.exec
  have hb := B.bytes
  have hr := B.returns
  have hlocks := B.notSynchronized
  have hown : s.vm.findClass RX4 = some m.cls := findClass_of_methodNamed B.named
  have hts := atoms_spec (ws := Cond.code yX4_isFirst cX4_isFirst 3 (some .boolean) :: zWS) B.pre
  have F : zF 1 2  0 0  p l s m _ c cX4_isFirst 3 RX4 (Cond.code yX4_isFirst cX4_isFirst 3 (some .boolean)) D Y S V G A := ⟨hx, hb, hml, hown, hts, hl9, hG, hK, hA⟩
  have hS : va_S A s.heap s.heap [] := va_S.rf
  have hl := lv_entry ([.ref (G 0 0), .int p0]) (n := 3) (Nat.le_of_ble_eq_true rfl)
  rw [lg_entry_eq]
  generalize (lg_sl ([.ref (G 0 0), .int p0]) ++ List.replicate (3 - (lg_sl ([.ref (G 0 0), .int p0])).length) Slot.unset).toArray = ls at hl ⊢
  have hl : lv_has ls 3 [(0, .ref (G 0 0)), (1, .int p0)] := hl
  unfold f_X4_isFirst at hf
  refine lv_iconst (v := 0) hx hb dX4_isFirst_0 (by decide) ?_
  refine lv_istore_n (lv' := [(2, .int 0), (0, .ref (G 0 0)), (1, .int p0)]) hx hb dX4_isFirst_1 rfl hl (by decide) rfl (fun ls hl => ?_)
  obtain ⟨v13, T12, h14, hf⟩ := zb_i hf
  refine l_X4_isFirst_2 F ⟨Nat.le_of_ble_eq_true rfl, Nat.le_of_ble_eq_true rfl⟩ p0 2000 0 _ _ _ _ _ h14 hP hS (lv_sub hl [1, 2, 0] rfl) (fun hc H locs ls hP hS hl => ?_) (fun hc H locs ls hP hS hl => ?_)
  · have hf := zif_p hf hc
    refine lv_iconst (v := 0) hx hb dX4_isFirst_32 (by decide) ?_
    obtain ⟨q1, q2⟩ := zs_i hf
    subst q1; subst q2
    exact z_zret hx hb hr (Or.inl rfl) rfl hP hS hlocks (Nat.le_of_ble_eq_true rfl) (Nat.le_of_ble_eq_true rfl) dX4_isFirst_33
  · have hf := zif_n hf (by rw [hc]; decide)
    have hf := zif_p hf hc
    refine lv_aload_n hx hb dX4_isFirst_40 rfl (lv_at hl 0 rfl) ?_
    refine lv_iload_n hx hb dX4_isFirst_41 rfl (lv_at hl 1 rfl) ?_
    obtain ⟨v16, T15, h17, hf⟩ := zb_i hf
    refine z_ok (z_runV (As := [.int p0]) (rest := []) F k_X4_hasBirthday m_1434 (c_X4_hasBirthday p0 T12 T15 _ h17) hP hS (zV_m (by decide)) rfl rfl rfl rfl hl.1 (Nat.le_of_ble_eq_true rfl) dX4_isFirst_42 (Nat.le_of_ble_eq_true rfl) ⟨Nat.le_of_ble_eq_true rfl, Nat.le_of_ble_eq_true rfl⟩ rfl) hS (fun H locs hP hS => ?_)
    obtain ⟨h18, hf⟩ := zif_c hf
    obtain ⟨q1, q2⟩ := zs_i hf
    subst q1; subst q2
    exact z_zret hx hb hr h18 rfl hP hS hlocks (Nat.le_of_ble_eq_true rfl) (Nat.le_of_ble_eq_true rfl) dX4_isFirst_45

def lp_X4_differentDates_4  : Nat → Int32 → Int32 → zT → Option ((Int32 × Int32) × zT)
  | 0, _, _, _ => none
  | n + 1, u1, u2, T => (if (T.2 2 0 5) ≤ u2 then some ((u1, u2), T) else zb (f_X4_isFirst u2 T) fun v3 T2 => (if v3 = 0 then zl (u1 + 0) fun x5 => zl (u2 + 1) fun x6 => lp_X4_differentDates_4 n x5 x6 T2 else zl (u1 + 1) fun x7 => zl (u2 + 1) fun x8 => lp_X4_differentDates_4 n x7 x8 T2))
def f_X4_differentDates  (T : zT) : Option (Int32 × zT) := zb (lp_X4_differentDates_4 2000 0 0 T) fun v10 T9 => zb (f_X4_told v10.1 T9) fun v13 T12 => some (v13, T12)
set_option maxHeartbeats 4000000 in
set_option maxRecDepth 100000 in
theorem l_X4_differentDates_4 {p : Program} {l : Launch} {e : Env} {s : State} {m : MethodId} {args : Array Value} {below : List Frame} {meth : Method} {c : Code} {Q : State → Prop} {D : va_G} {Y : Nat → ClassId} {S V : Nat → Nat} {G : Nat → Nat → Nat} {A : Nat → Prop} {c0 : Cond} {mc ms cells slots : Nat} (F : zF 1 3 mc ms p l s m args c cX4_differentDates 3 RX4 c0 D Y S V G A) (hcs : cells ≤ mc ∧ slots ≤ ms) :
    ∀ (n : Nat) (u1 : Int32) (u2 : Int32) (T : zT) (o : (Int32 × Int32) × zT) (H : Heap) (locs : List Loc) (ls : Array Slot), lp_X4_differentDates_4 n u1 u2 T = some o → zP 1 D Y G T H → va_S A s.heap H locs → lv_has ls 3 [(0, .ref (G 0 0)), (1, .int u1), (2, .int u2)] → (∀ (H : Heap) (locs : List Loc) (ls : Array Slot), zP 1 D Y G o.2 H → va_S A s.heap H locs → lv_has ls 3 [(0, .ref (G 0 0)), (1, .int o.1.1), (2, .int o.1.2)] → W p l e (zR 3 mc ms) s m args below meth c H locs cells slots Q (F0 m 36 ls [])) → W p l e (zR 3 mc ms) s m args below meth c H locs cells slots Q (F0 m 4 ls []) := by
  obtain ⟨hx, hb, hml, hown, hts, hl9, hG, hK, hA⟩ := id F
  intro n
  induction n with
  | zero =>
    intro u1 u2 T o H locs ls hf
    rw [lp_X4_differentDates_4] at hf
    cases hf
  | succ n ih =>
    intro u1 u2 T o H locs ls hf hP hS hl k0_
    rw [lp_X4_differentDates_4] at hf
    refine lv_iload_n hx hb dX4_differentDates_4 rfl (lv_at hl 2 rfl) ?_
    refine lv_aload_n hx hb dX4_differentDates_5 rfl (lv_at hl 0 rfl) ?_
    refine z_get hx hb hts (fun w h => List.mem_cons_of_mem _ (ziX4 w h)) hown hK hP (zV_m (by decide)) rfl rfl 2 (by decide) (List.mem_cons_of_mem _ m_1143) rfl rfl dX4_differentDates_6 ?_
    refine lv_iconst (v := 5) hx hb dX4_differentDates_9 (by decide) ?_
    refine z_iald_ (j := 5) hx hb hK hP (zIA_m (by decide) (by decide)) (by decide) (by decide) dX4_differentDates_10 ?_
    refine lv_icmp_ge (tgt := 36) hx hb dX4_differentDates_11 (by decide) (fun hc => ?_) (fun hc => ?_)
    · have hf := zif_p hf hc
      cases hf
      exact k0_ _ _ _ hP hS (lv_sub hl [0, 1, 2] rfl)
    · have hf := zif_n hf hc
      refine lv_iload_n hx hb dX4_differentDates_14 rfl (lv_at hl 1 rfl) ?_
      refine lv_aload_n hx hb dX4_differentDates_15 rfl (lv_at hl 0 rfl) ?_
      refine lv_iload_n hx hb dX4_differentDates_16 rfl (lv_at hl 2 rfl) ?_
      obtain ⟨v3, T2, h4, hf⟩ := zb_i hf
      refine z_ok (z_runV (As := [.int u2]) (rest := [.int u1]) F k_X4_isFirst m_1470 (c_X4_isFirst u2 T T2 _ h4) hP hS (zV_m (by decide)) rfl rfl rfl rfl hl.1 (Nat.le_of_ble_eq_true rfl) dX4_differentDates_17 (Nat.le_of_ble_eq_true rfl) ⟨hcs.1, hcs.2⟩ rfl) hS (fun H locs hP hS => ?_)
      refine lv_if_eq (tgt := 27) hx hb dX4_differentDates_20 (by decide) (fun hc => ?_) (fun hc => ?_)
      · have hf := zif_p hf hc
        refine lv_iconst (v := 0) hx hb dX4_differentDates_27 (by decide) ?_
        refine lv_iadd hx hb dX4_differentDates_28 ?_
        obtain ⟨x5, ex5, hf⟩ := zl_i hf
        refine z_topi ex5 ?_
        refine lv_istore_n (lv' := [(1, .int x5), (0, .ref (G 0 0)), (2, .int u2)]) hx hb dX4_differentDates_29 rfl hl (by decide) rfl (fun ls hl => ?_)
        obtain ⟨x6, ex6, hf⟩ := zl_i hf
        refine lv_iinc (v := x6) (lv' := [(2, .int x6), (1, .int x5), (0, .ref (G 0 0))]) hx hb dX4_differentDates_30 hl (k := 2) rfl (by rw [ex6]; rfl) (by decide) rfl (fun ls hl => ?_)
        refine lv_goto (tgt := 4) hx hb dX4_differentDates_33 (by decide) ?_
        exact ih x5 x6 _ _ _ _ _ hf hP hS (lv_sub hl [2, 1, 0] rfl) k0_
      · have hf := zif_n hf hc
        refine lv_iconst (v := 1) hx hb dX4_differentDates_23 (by decide) ?_
        refine lv_goto (tgt := 28) hx hb dX4_differentDates_24 (by decide) ?_
        refine lv_iadd hx hb dX4_differentDates_28 ?_
        obtain ⟨x7, ex7, hf⟩ := zl_i hf
        refine z_topi ex7 ?_
        refine lv_istore_n (lv' := [(1, .int x7), (0, .ref (G 0 0)), (2, .int u2)]) hx hb dX4_differentDates_29 rfl hl (by decide) rfl (fun ls hl => ?_)
        obtain ⟨x8, ex8, hf⟩ := zl_i hf
        refine lv_iinc (v := x8) (lv' := [(2, .int x8), (1, .int x7), (0, .ref (G 0 0))]) hx hb dX4_differentDates_30 hl (k := 2) rfl (by rw [ex8]; rfl) (by decide) rfl (fun ls hl => ?_)
        refine lv_goto (tgt := 4) hx hb dX4_differentDates_33 (by decide) ?_
        exact ih x7 x8 _ _ _ _ _ hf hP hS (lv_sub hl [2, 1, 0] rfl) k0_
set_option maxHeartbeats 4000000 in
set_option maxRecDepth 100000 in
theorem c_X4_differentDates  (T T' : zT) (v : Int32) (hf : f_X4_differentDates  T = some (v, T')) : zC 1 yX4_differentDates cX4_differentDates 3 (some .int) 3  0 0  (fun G _ => [.ref (G 0 0)]) T (fun _ => .inl (some (.int v))) T' := by
  intro l D Y S V G A hl9 hG
  refine vx_ofW (cc := cX4_differentDates) (maxL := 3) (ret := (some .int)) (by decide) rfl ?_
  intro p e s m args below meth c s₁ B hml hex hv
  obtain ⟨rfl, hK, hP, hA⟩ := hv
  have hx := B.exec
  have hb := B.bytes
  have hr := B.returns
  have hlocks := B.notSynchronized
  have hown : s.vm.findClass RX4 = some m.cls := findClass_of_methodNamed B.named
  have hts := atoms_spec (ws := Cond.code yX4_differentDates cX4_differentDates 3 (some .int) :: zWS) B.pre
  have F : zF 1 3  0 0  p l s m _ c cX4_differentDates 3 RX4 (Cond.code yX4_differentDates cX4_differentDates 3 (some .int)) D Y S V G A := ⟨hx, hb, hml, hown, hts, hl9, hG, hK, hA⟩
  have hS : va_S A s.heap s.heap [] := va_S.rf
  have hl := lv_entry ([.ref (G 0 0)]) (n := 3) (Nat.le_of_ble_eq_true rfl)
  rw [lg_entry_eq]
  generalize (lg_sl ([.ref (G 0 0)]) ++ List.replicate (3 - (lg_sl ([.ref (G 0 0)])).length) Slot.unset).toArray = ls at hl ⊢
  have hl : lv_has ls 3 [(0, .ref (G 0 0))] := hl
  unfold f_X4_differentDates at hf
  refine lv_iconst (v := 0) hx hb dX4_differentDates_0 (by decide) ?_
  refine lv_istore_n (lv' := [(1, .int 0), (0, .ref (G 0 0))]) hx hb dX4_differentDates_1 rfl hl (by decide) rfl (fun ls hl => ?_)
  refine lv_iconst (v := 0) hx hb dX4_differentDates_2 (by decide) ?_
  refine lv_istore_n (lv' := [(2, .int 0), (1, .int 0), (0, .ref (G 0 0))]) hx hb dX4_differentDates_3 rfl hl (by decide) rfl (fun ls hl => ?_)
  obtain ⟨v10, T9, h11, hf⟩ := zb_i hf
  refine l_X4_differentDates_4 F ⟨Nat.le_of_ble_eq_true rfl, Nat.le_of_ble_eq_true rfl⟩  2000 0 0 _ _ _ _ _ h11 hP hS (lv_sub hl [2, 1, 0] rfl) (fun H locs ls hP hS hl => ?_)
  refine lv_aload_n hx hb dX4_differentDates_36 rfl (lv_at hl 0 rfl) ?_
  refine lv_iload_n hx hb dX4_differentDates_37 rfl (lv_at hl 1 rfl) ?_
  obtain ⟨v13, T12, h14, hf⟩ := zb_i hf
  refine z_ok (z_runV (As := [.int v10.1]) (rest := []) F k_X4_told m_1230 (c_X4_told v10.1 T9 T12 _ h14) hP hS (zV_m (by decide)) rfl rfl rfl rfl hl.1 (Nat.le_of_ble_eq_true rfl) dX4_differentDates_38 (Nat.le_of_ble_eq_true rfl) ⟨Nat.le_of_ble_eq_true rfl, Nat.le_of_ble_eq_true rfl⟩ rfl) hS (fun H locs hP hS => ?_)
  obtain ⟨q1, q2⟩ := zs_i hf
  subst q1; subst q2
  exact z_iret hx hb hr rfl hP hS hlocks (Nat.le_of_ble_eq_true rfl) (Nat.le_of_ble_eq_true rfl) dX4_differentDates_41

def lp_X4_dateAt_4 (w1 : Int32) : Nat → Int32 → Int32 → zT → Option ((Nat × Int32 × Int32) × zT)
  | 0, _, _, _ => none
  | n + 1, u2, u3, T => (if (T.2 2 0 5) ≤ u3 then some ((1, (u2, u3)), T) else zb (f_X4_isFirst u3 T) fun v3 T2 => (if v3 = 0 then zl (u3 + 1) fun x5 => lp_X4_dateAt_4 w1 n u2 x5 T2 else (if u2 = w1 then some ((0, (u2, u3)), T2) else zl (u2 + 1) fun x6 => zl (u3 + 1) fun x7 => lp_X4_dateAt_4 w1 n x6 x7 T2)))
def f_X4_dateAt (p0 : Int32) (T : zT) : Option (Int32 × zT) := zb (lp_X4_dateAt_4 p0 2000 0 0 T) fun v9 T8 => if v9.1 = 0 then zb (f_X4_c v9.2.2 T8) fun v12 T11 => zl (v12 + 4) fun x15 => if zin x15 151 = true then zb (f_X4_told (T11.2 2 0 x15.toNatClampNeg) T11) fun v17 T16 => some (v17, T16) else none else if v9.1 = 1 then zb (f_X4_refuse 1 T8) fun v20 T19 => some (v20, T19) else none
set_option maxHeartbeats 4000000 in
set_option maxRecDepth 100000 in
theorem l_X4_dateAt_4 {p : Program} {l : Launch} {e : Env} {s : State} {m : MethodId} {args : Array Value} {below : List Frame} {meth : Method} {c : Code} {Q : State → Prop} {D : va_G} {Y : Nat → ClassId} {S V : Nat → Nat} {G : Nat → Nat → Nat} {A : Nat → Prop} {c0 : Cond} {mc ms cells slots : Nat} (F : zF 1 3 mc ms p l s m args c cX4_dateAt 4 RX4 c0 D Y S V G A) (hcs : cells ≤ mc ∧ slots ≤ ms) (w1 : Int32) :
    ∀ (n : Nat) (u2 : Int32) (u3 : Int32) (T : zT) (o : (Nat × Int32 × Int32) × zT) (H : Heap) (locs : List Loc) (ls : Array Slot), lp_X4_dateAt_4 w1 n u2 u3 T = some o → zP 1 D Y G T H → va_S A s.heap H locs → lv_has ls 4 [(0, .ref (G 0 0)), (1, .int w1), (2, .int u2), (3, .int u3)] → (o.1.1 = 0 → ∀ (H : Heap) (locs : List Loc) (ls : Array Slot), zP 1 D Y G o.2 H → va_S A s.heap H locs → lv_has ls 4 [(0, .ref (G 0 0)), (1, .int w1), (2, .int o.1.2.1), (3, .int o.1.2.2)] → W p l e (zR 3 mc ms) s m args below meth c H locs cells slots Q (F0 m 27 ls [])) → (o.1.1 = 1 → ∀ (H : Heap) (locs : List Loc) (ls : Array Slot), zP 1 D Y G o.2 H → va_S A s.heap H locs → lv_has ls 4 [(0, .ref (G 0 0)), (1, .int w1), (2, .int o.1.2.1), (3, .int o.1.2.2)] → W p l e (zR 3 mc ms) s m args below meth c H locs cells slots Q (F0 m 52 ls [])) → W p l e (zR 3 mc ms) s m args below meth c H locs cells slots Q (F0 m 4 ls []) := by
  obtain ⟨hx, hb, hml, hown, hts, hl9, hG, hK, hA⟩ := id F
  intro n
  induction n with
  | zero =>
    intro u2 u3 T o H locs ls hf
    rw [lp_X4_dateAt_4] at hf
    cases hf
  | succ n ih =>
    intro u2 u3 T o H locs ls hf hP hS hl k0_ k1_
    rw [lp_X4_dateAt_4] at hf
    refine lv_iload_n hx hb dX4_dateAt_4 rfl (lv_at hl 3 rfl) ?_
    refine lv_aload_n hx hb dX4_dateAt_5 rfl (lv_at hl 0 rfl) ?_
    refine z_get hx hb hts (fun w h => List.mem_cons_of_mem _ (ziX4 w h)) hown hK hP (zV_m (by decide)) rfl rfl 2 (by decide) (List.mem_cons_of_mem _ m_1143) rfl rfl dX4_dateAt_6 ?_
    refine lv_iconst (v := 5) hx hb dX4_dateAt_9 (by decide) ?_
    refine z_iald_ (j := 5) hx hb hK hP (zIA_m (by decide) (by decide)) (by decide) (by decide) dX4_dateAt_10 ?_
    refine lv_icmp_ge (tgt := 52) hx hb dX4_dateAt_11 (by decide) (fun hc => ?_) (fun hc => ?_)
    · have hf := zif_p hf hc
      cases hf
      exact k1_ rfl _ _ _ hP hS (lv_sub hl [0, 1, 2, 3] rfl)
    · have hf := zif_n hf hc
      refine lv_aload_n hx hb dX4_dateAt_14 rfl (lv_at hl 0 rfl) ?_
      refine lv_iload_n hx hb dX4_dateAt_15 rfl (lv_at hl 3 rfl) ?_
      obtain ⟨v3, T2, h4, hf⟩ := zb_i hf
      refine z_ok (z_runV (As := [.int u3]) (rest := []) F k_X4_isFirst m_1470 (c_X4_isFirst u3 T T2 _ h4) hP hS (zV_m (by decide)) rfl rfl rfl rfl hl.1 (Nat.le_of_ble_eq_true rfl) dX4_dateAt_16 (Nat.le_of_ble_eq_true rfl) ⟨hcs.1, hcs.2⟩ rfl) hS (fun H locs hP hS => ?_)
      refine lv_if_eq (tgt := 46) hx hb dX4_dateAt_19 (by decide) (fun hc => ?_) (fun hc => ?_)
      · have hf := zif_p hf hc
        obtain ⟨x5, ex5, hf⟩ := zl_i hf
        refine lv_iinc (v := x5) (lv' := [(3, .int x5), (0, .ref (G 0 0)), (1, .int w1), (2, .int u2)]) hx hb dX4_dateAt_46 hl (k := 3) rfl (by rw [ex5]; rfl) (by decide) rfl (fun ls hl => ?_)
        refine lv_goto (tgt := 4) hx hb dX4_dateAt_49 (by decide) ?_
        exact ih u2 x5 _ _ _ _ _ hf hP hS (lv_sub hl [1, 2, 3, 0] rfl) k0_ k1_
      · have hf := zif_n hf hc
        refine lv_iload_n hx hb dX4_dateAt_22 rfl (lv_at hl 2 rfl) ?_
        refine lv_iload_n hx hb dX4_dateAt_23 rfl (lv_at hl 1 rfl) ?_
        refine lv_icmp_ne (tgt := 43) hx hb dX4_dateAt_24 (by decide) (fun hc => ?_) (fun hc => ?_)
        · have hf := zif_n hf hc
          obtain ⟨x6, ex6, hf⟩ := zl_i hf
          refine lv_iinc (v := x6) (lv' := [(2, .int x6), (0, .ref (G 0 0)), (1, .int w1), (3, .int u3)]) hx hb dX4_dateAt_43 hl (k := 2) rfl (by rw [ex6]; rfl) (by decide) rfl (fun ls hl => ?_)
          obtain ⟨x7, ex7, hf⟩ := zl_i hf
          refine lv_iinc (v := x7) (lv' := [(3, .int x7), (2, .int x6), (0, .ref (G 0 0)), (1, .int w1)]) hx hb dX4_dateAt_46 hl (k := 3) rfl (by rw [ex7]; rfl) (by decide) rfl (fun ls hl => ?_)
          refine lv_goto (tgt := 4) hx hb dX4_dateAt_49 (by decide) ?_
          exact ih x6 x7 _ _ _ _ _ hf hP hS (lv_sub hl [2, 3, 1, 0] rfl) k0_ k1_
        · have hf := zif_p hf hc
          cases hf
          exact k0_ rfl _ _ _ hP hS (lv_sub hl [0, 1, 2, 3] rfl)
set_option maxHeartbeats 4000000 in
set_option maxRecDepth 100000 in
theorem c_X4_dateAt (p0 : Int32) (T T' : zT) (v : Int32) (hf : f_X4_dateAt p0 T = some (v, T')) : zC 1 yX4_dateAt cX4_dateAt 4 (some .int) 3  0 0  (fun G _ => [.ref (G 0 0), .int p0]) T (fun _ => .inl (some (.int v))) T' := by
  intro l D Y S V G A hl9 hG
  refine vx_ofW (cc := cX4_dateAt) (maxL := 4) (ret := (some .int)) (by decide) rfl ?_
  intro p e s m args below meth c s₁ B hml hex hv
  obtain ⟨rfl, hK, hP, hA⟩ := hv
  have hx := B.exec
  have hb := B.bytes
  have hr := B.returns
  have hlocks := B.notSynchronized
  have hown : s.vm.findClass RX4 = some m.cls := findClass_of_methodNamed B.named
  have hts := atoms_spec (ws := Cond.code yX4_dateAt cX4_dateAt 4 (some .int) :: zWS) B.pre
  have F : zF 1 3  0 0  p l s m _ c cX4_dateAt 4 RX4 (Cond.code yX4_dateAt cX4_dateAt 4 (some .int)) D Y S V G A := ⟨hx, hb, hml, hown, hts, hl9, hG, hK, hA⟩
  have hS : va_S A s.heap s.heap [] := va_S.rf
  have hl := lv_entry ([.ref (G 0 0), .int p0]) (n := 4) (Nat.le_of_ble_eq_true rfl)
  rw [lg_entry_eq]
  generalize (lg_sl ([.ref (G 0 0), .int p0]) ++ List.replicate (4 - (lg_sl ([.ref (G 0 0), .int p0])).length) Slot.unset).toArray = ls at hl ⊢
  have hl : lv_has ls 4 [(0, .ref (G 0 0)), (1, .int p0)] := hl
  unfold f_X4_dateAt at hf
  refine lv_iconst (v := 0) hx hb dX4_dateAt_0 (by decide) ?_
  refine lv_istore_n (lv' := [(2, .int 0), (0, .ref (G 0 0)), (1, .int p0)]) hx hb dX4_dateAt_1 rfl hl (by decide) rfl (fun ls hl => ?_)
  refine lv_iconst (v := 0) hx hb dX4_dateAt_2 (by decide) ?_
  refine lv_istore_n (lv' := [(3, .int 0), (2, .int 0), (0, .ref (G 0 0)), (1, .int p0)]) hx hb dX4_dateAt_3 rfl hl (by decide) rfl (fun ls hl => ?_)
  obtain ⟨v9, T8, h10, hf⟩ := zb_i hf
  refine l_X4_dateAt_4 F ⟨Nat.le_of_ble_eq_true rfl, Nat.le_of_ble_eq_true rfl⟩ p0 2000 0 0 _ _ _ _ _ h10 hP hS (lv_sub hl [2, 3, 1, 0] rfl) (fun hc H locs ls hP hS hl => ?_) (fun hc H locs ls hP hS hl => ?_)
  · have hf := zif_p hf hc
    refine lv_aload_n hx hb dX4_dateAt_27 rfl (lv_at hl 0 rfl) ?_
    refine lv_aload_n hx hb dX4_dateAt_28 rfl (lv_at hl 0 rfl) ?_
    refine z_get hx hb hts (fun w h => List.mem_cons_of_mem _ (ziX4 w h)) hown hK hP (zV_m (by decide)) rfl rfl 2 (by decide) (List.mem_cons_of_mem _ m_1143) rfl rfl dX4_dateAt_29 ?_
    refine lv_iload_n hx hb dX4_dateAt_32 rfl (lv_at hl 3 rfl) ?_
    obtain ⟨v12, T11, h13, hf⟩ := zb_i hf
    refine z_ok (z_runS (As := [.int v9.2.2]) (rest := [.ref (G 2 0), .ref (G 0 0)]) F k_X4_c m_1095 (c_X4_c v9.2.2 T8 T11 _ h13) hP hS rfl rfl hl.1 (Nat.le_of_ble_eq_true rfl) dX4_dateAt_33 (Nat.le_of_ble_eq_true rfl) ⟨Nat.le_of_ble_eq_true rfl, Nat.le_of_ble_eq_true rfl⟩ rfl) hS (fun H locs hP hS => ?_)
    refine lv_iconst (v := 4) hx hb dX4_dateAt_36 (by decide) ?_
    refine lv_iadd hx hb dX4_dateAt_37 ?_
    obtain ⟨x15, ex15, hf⟩ := zl_i hf
    refine z_topi ex15 ?_
    obtain ⟨h14, hf⟩ := zif_c hf
    refine z_iald hx hb hK hP (zIA_m (by decide) (by decide)) (zin_i h14) dX4_dateAt_38 ?_
    obtain ⟨v17, T16, h18, hf⟩ := zb_i hf
    refine z_ok (z_runV (As := [.int (T11.2 2 0 x15.toNatClampNeg)]) (rest := []) F k_X4_told m_1230 (c_X4_told (T11.2 2 0 x15.toNatClampNeg) T11 T16 _ h18) hP hS (zV_m (by decide)) rfl rfl rfl rfl hl.1 (Nat.le_of_ble_eq_true rfl) dX4_dateAt_39 (Nat.le_of_ble_eq_true rfl) ⟨Nat.le_of_ble_eq_true rfl, Nat.le_of_ble_eq_true rfl⟩ rfl) hS (fun H locs hP hS => ?_)
    obtain ⟨q1, q2⟩ := zs_i hf
    subst q1; subst q2
    exact z_iret hx hb hr rfl hP hS hlocks (Nat.le_of_ble_eq_true rfl) (Nat.le_of_ble_eq_true rfl) dX4_dateAt_42
  · have hf := zif_n hf (by rw [hc]; decide)
    have hf := zif_p hf hc
    refine lv_aload_n hx hb dX4_dateAt_52 rfl (lv_at hl 0 rfl) ?_
    refine lv_iconst (v := 1) hx hb dX4_dateAt_53 (by decide) ?_
    obtain ⟨v20, T19, h21, hf⟩ := zb_i hf
    refine z_ok (z_runV (As := [.int 1]) (rest := []) F k_X4_refuse m_1222 (c_X4_refuse 1 T8 T19 _ h21) hP hS (zV_m (by decide)) rfl rfl rfl rfl hl.1 (Nat.le_of_ble_eq_true rfl) dX4_dateAt_54 (Nat.le_of_ble_eq_true rfl) ⟨Nat.le_of_ble_eq_true rfl, Nat.le_of_ble_eq_true rfl⟩ rfl) hS (fun H locs hP hS => ?_)
    obtain ⟨q1, q2⟩ := zs_i hf
    subst q1; subst q2
    exact z_iret hx hb hr rfl hP hS hlocks (Nat.le_of_ble_eq_true rfl) (Nat.le_of_ble_eq_true rfl) dX4_dateAt_57

def lp_X4_inMonth_4 (w1 : Int32) : Nat → Int32 → Int32 → zT → Option ((Int32 × Int32) × zT)
  | 0, _, _, _ => none
  | n + 1, u2, u3, T => (if (T.2 2 0 5) ≤ u3 then some ((u2, u3), T) else zb (f_X4_hasBirthday u3 T) fun v3 T2 => (if v3 = 0 then zl (u2 + 0) fun x5 => zl (u3 + 1) fun x6 => lp_X4_inMonth_4 w1 n x5 x6 T2 else zb (f_X4_c u3 T2) fun v8 T7 => zl (v8 + 4) fun x11 => if zin x11 151 = true then zl (T7.2 2 0 x11.toNatClampNeg) fun x12 => (if ((x12 / 30) + 1) = w1 then zl (u2 + 1) fun x15 => zl (u3 + 1) fun x16 => lp_X4_inMonth_4 w1 n x15 x16 T7 else zl (u2 + 0) fun x13 => zl (u3 + 1) fun x14 => lp_X4_inMonth_4 w1 n x13 x14 T7) else none))
def f_X4_inMonth (p0 : Int32) (T : zT) : Option (Int32 × zT) := zb (lp_X4_inMonth_4 p0 2000 0 0 T) fun v18 T17 => some (v18.1, T17)
set_option maxHeartbeats 4000000 in
set_option maxRecDepth 100000 in
theorem l_X4_inMonth_4 {p : Program} {l : Launch} {e : Env} {s : State} {m : MethodId} {args : Array Value} {below : List Frame} {meth : Method} {c : Code} {Q : State → Prop} {D : va_G} {Y : Nat → ClassId} {S V : Nat → Nat} {G : Nat → Nat → Nat} {A : Nat → Prop} {c0 : Cond} {mc ms cells slots : Nat} (F : zF 1 2 mc ms p l s m args c cX4_inMonth 4 RX4 c0 D Y S V G A) (hcs : cells ≤ mc ∧ slots ≤ ms) (w1 : Int32) :
    ∀ (n : Nat) (u2 : Int32) (u3 : Int32) (T : zT) (o : (Int32 × Int32) × zT) (H : Heap) (locs : List Loc) (ls : Array Slot), lp_X4_inMonth_4 w1 n u2 u3 T = some o → zP 1 D Y G T H → va_S A s.heap H locs → lv_has ls 4 [(0, .ref (G 0 0)), (1, .int w1), (2, .int u2), (3, .int u3)] → (∀ (H : Heap) (locs : List Loc) (ls : Array Slot), zP 1 D Y G o.2 H → va_S A s.heap H locs → lv_has ls 4 [(0, .ref (G 0 0)), (1, .int w1), (2, .int o.1.1), (3, .int o.1.2)] → W p l e (zR 2 mc ms) s m args below meth c H locs cells slots Q (F0 m 56 ls [])) → W p l e (zR 2 mc ms) s m args below meth c H locs cells slots Q (F0 m 4 ls []) := by
  obtain ⟨hx, hb, hml, hown, hts, hl9, hG, hK, hA⟩ := id F
  intro n
  induction n with
  | zero =>
    intro u2 u3 T o H locs ls hf
    rw [lp_X4_inMonth_4] at hf
    cases hf
  | succ n ih =>
    intro u2 u3 T o H locs ls hf hP hS hl k0_
    rw [lp_X4_inMonth_4] at hf
    refine lv_iload_n hx hb dX4_inMonth_4 rfl (lv_at hl 3 rfl) ?_
    refine lv_aload_n hx hb dX4_inMonth_5 rfl (lv_at hl 0 rfl) ?_
    refine z_get hx hb hts (fun w h => List.mem_cons_of_mem _ (ziX4 w h)) hown hK hP (zV_m (by decide)) rfl rfl 2 (by decide) (List.mem_cons_of_mem _ m_1143) rfl rfl dX4_inMonth_6 ?_
    refine lv_iconst (v := 5) hx hb dX4_inMonth_9 (by decide) ?_
    refine z_iald_ (j := 5) hx hb hK hP (zIA_m (by decide) (by decide)) (by decide) (by decide) dX4_inMonth_10 ?_
    refine lv_icmp_ge (tgt := 56) hx hb dX4_inMonth_11 (by decide) (fun hc => ?_) (fun hc => ?_)
    · have hf := zif_p hf hc
      cases hf
      exact k0_ _ _ _ hP hS (lv_sub hl [0, 1, 2, 3] rfl)
    · have hf := zif_n hf hc
      refine lv_iload_n hx hb dX4_inMonth_14 rfl (lv_at hl 2 rfl) ?_
      refine lv_aload_n hx hb dX4_inMonth_15 rfl (lv_at hl 0 rfl) ?_
      refine lv_iload_n hx hb dX4_inMonth_16 rfl (lv_at hl 3 rfl) ?_
      obtain ⟨v3, T2, h4, hf⟩ := zb_i hf
      refine z_ok (z_runV (As := [.int u3]) (rest := [.int u2]) F k_X4_hasBirthday m_1434 (c_X4_hasBirthday u3 T T2 _ h4) hP hS (zV_m (by decide)) rfl rfl rfl rfl hl.1 (Nat.le_of_ble_eq_true rfl) dX4_inMonth_17 (Nat.le_of_ble_eq_true rfl) ⟨hcs.1, hcs.2⟩ rfl) hS (fun H locs hP hS => ?_)
      refine lv_if_eq (tgt := 47) hx hb dX4_inMonth_20 (by decide) (fun hc => ?_) (fun hc => ?_)
      · have hf := zif_p hf hc
        refine lv_iconst (v := 0) hx hb dX4_inMonth_47 (by decide) ?_
        refine lv_iadd hx hb dX4_inMonth_48 ?_
        obtain ⟨x5, ex5, hf⟩ := zl_i hf
        refine z_topi ex5 ?_
        refine lv_istore_n (lv' := [(2, .int x5), (0, .ref (G 0 0)), (1, .int w1), (3, .int u3)]) hx hb dX4_inMonth_49 rfl hl (by decide) rfl (fun ls hl => ?_)
        obtain ⟨x6, ex6, hf⟩ := zl_i hf
        refine lv_iinc (v := x6) (lv' := [(3, .int x6), (2, .int x5), (0, .ref (G 0 0)), (1, .int w1)]) hx hb dX4_inMonth_50 hl (k := 3) rfl (by rw [ex6]; rfl) (by decide) rfl (fun ls hl => ?_)
        refine lv_goto (tgt := 4) hx hb dX4_inMonth_53 (by decide) ?_
        exact ih x5 x6 _ _ _ _ _ hf hP hS (lv_sub hl [2, 3, 1, 0] rfl) k0_
      · have hf := zif_n hf hc
        refine lv_aload_n hx hb dX4_inMonth_23 rfl (lv_at hl 0 rfl) ?_
        refine z_get hx hb hts (fun w h => List.mem_cons_of_mem _ (ziX4 w h)) hown hK hP (zV_m (by decide)) rfl rfl 2 (by decide) (List.mem_cons_of_mem _ m_1143) rfl rfl dX4_inMonth_24 ?_
        refine lv_iload_n hx hb dX4_inMonth_27 rfl (lv_at hl 3 rfl) ?_
        obtain ⟨v8, T7, h9, hf⟩ := zb_i hf
        refine z_ok (z_runS (As := [.int u3]) (rest := [.ref (G 2 0), .int u2]) F k_X4_c m_1095 (c_X4_c u3 T2 T7 _ h9) hP hS rfl rfl hl.1 (Nat.le_of_ble_eq_true rfl) dX4_inMonth_28 (Nat.le_of_ble_eq_true rfl) ⟨hcs.1, hcs.2⟩ rfl) hS (fun H locs hP hS => ?_)
        refine lv_iconst (v := 4) hx hb dX4_inMonth_31 (by decide) ?_
        refine lv_iadd hx hb dX4_inMonth_32 ?_
        obtain ⟨x11, ex11, hf⟩ := zl_i hf
        refine z_topi ex11 ?_
        obtain ⟨h10, hf⟩ := zif_c hf
        refine z_iald hx hb hK hP (zIA_m (by decide) (by decide)) (zin_i h10) dX4_inMonth_33 ?_
        refine lv_bipush (v := 30) hx hb dX4_inMonth_34 (by decide) ?_
        obtain ⟨x12, ex12, hf⟩ := zl_i hf
        rw [← ex12]
        refine lv_idiv hx hb dX4_inMonth_36 (by decide) ?_
        refine lv_iconst (v := 1) hx hb dX4_inMonth_37 (by decide) ?_
        refine lv_iadd hx hb dX4_inMonth_38 ?_
        refine lv_iload_n hx hb dX4_inMonth_39 rfl (lv_at hl 1 rfl) ?_
        refine lv_icmp_ne (tgt := 47) hx hb dX4_inMonth_40 (by decide) (fun hc => ?_) (fun hc => ?_)
        · have hf := zif_n hf hc
          refine lv_iconst (v := 0) hx hb dX4_inMonth_47 (by decide) ?_
          refine lv_iadd hx hb dX4_inMonth_48 ?_
          obtain ⟨x13, ex13, hf⟩ := zl_i hf
          refine z_topi ex13 ?_
          refine lv_istore_n (lv' := [(2, .int x13), (0, .ref (G 0 0)), (1, .int w1), (3, .int u3)]) hx hb dX4_inMonth_49 rfl hl (by decide) rfl (fun ls hl => ?_)
          obtain ⟨x14, ex14, hf⟩ := zl_i hf
          refine lv_iinc (v := x14) (lv' := [(3, .int x14), (2, .int x13), (0, .ref (G 0 0)), (1, .int w1)]) hx hb dX4_inMonth_50 hl (k := 3) rfl (by rw [ex14]; rfl) (by decide) rfl (fun ls hl => ?_)
          refine lv_goto (tgt := 4) hx hb dX4_inMonth_53 (by decide) ?_
          exact ih x13 x14 _ _ _ _ _ hf hP hS (lv_sub hl [2, 3, 1, 0] rfl) k0_
        · have hf := zif_p hf hc
          refine lv_iconst (v := 1) hx hb dX4_inMonth_43 (by decide) ?_
          refine lv_goto (tgt := 48) hx hb dX4_inMonth_44 (by decide) ?_
          refine lv_iadd hx hb dX4_inMonth_48 ?_
          obtain ⟨x15, ex15, hf⟩ := zl_i hf
          refine z_topi ex15 ?_
          refine lv_istore_n (lv' := [(2, .int x15), (0, .ref (G 0 0)), (1, .int w1), (3, .int u3)]) hx hb dX4_inMonth_49 rfl hl (by decide) rfl (fun ls hl => ?_)
          obtain ⟨x16, ex16, hf⟩ := zl_i hf
          refine lv_iinc (v := x16) (lv' := [(3, .int x16), (2, .int x15), (0, .ref (G 0 0)), (1, .int w1)]) hx hb dX4_inMonth_50 hl (k := 3) rfl (by rw [ex16]; rfl) (by decide) rfl (fun ls hl => ?_)
          refine lv_goto (tgt := 4) hx hb dX4_inMonth_53 (by decide) ?_
          exact ih x15 x16 _ _ _ _ _ hf hP hS (lv_sub hl [2, 3, 1, 0] rfl) k0_
set_option maxHeartbeats 4000000 in
set_option maxRecDepth 100000 in
theorem c_X4_inMonth (p0 : Int32) (T T' : zT) (v : Int32) (hf : f_X4_inMonth p0 T = some (v, T')) : zC 1 yX4_inMonth cX4_inMonth 4 (some .int) 2  0 0  (fun G _ => [.ref (G 0 0), .int p0]) T (fun _ => .inl (some (.int v))) T' := by
  intro l D Y S V G A hl9 hG
  refine vx_ofW (cc := cX4_inMonth) (maxL := 4) (ret := (some .int)) (by decide) rfl ?_
  intro p e s m args below meth c s₁ B hml hex hv
  obtain ⟨rfl, hK, hP, hA⟩ := hv
  have hx := B.exec
  have hb := B.bytes
  have hr := B.returns
  have hlocks := B.notSynchronized
  have hown : s.vm.findClass RX4 = some m.cls := findClass_of_methodNamed B.named
  have hts := atoms_spec (ws := Cond.code yX4_inMonth cX4_inMonth 4 (some .int) :: zWS) B.pre
  have F : zF 1 2  0 0  p l s m _ c cX4_inMonth 4 RX4 (Cond.code yX4_inMonth cX4_inMonth 4 (some .int)) D Y S V G A := ⟨hx, hb, hml, hown, hts, hl9, hG, hK, hA⟩
  have hS : va_S A s.heap s.heap [] := va_S.rf
  have hl := lv_entry ([.ref (G 0 0), .int p0]) (n := 4) (Nat.le_of_ble_eq_true rfl)
  rw [lg_entry_eq]
  generalize (lg_sl ([.ref (G 0 0), .int p0]) ++ List.replicate (4 - (lg_sl ([.ref (G 0 0), .int p0])).length) Slot.unset).toArray = ls at hl ⊢
  have hl : lv_has ls 4 [(0, .ref (G 0 0)), (1, .int p0)] := hl
  unfold f_X4_inMonth at hf
  refine lv_iconst (v := 0) hx hb dX4_inMonth_0 (by decide) ?_
  refine lv_istore_n (lv' := [(2, .int 0), (0, .ref (G 0 0)), (1, .int p0)]) hx hb dX4_inMonth_1 rfl hl (by decide) rfl (fun ls hl => ?_)
  refine lv_iconst (v := 0) hx hb dX4_inMonth_2 (by decide) ?_
  refine lv_istore_n (lv' := [(3, .int 0), (2, .int 0), (0, .ref (G 0 0)), (1, .int p0)]) hx hb dX4_inMonth_3 rfl hl (by decide) rfl (fun ls hl => ?_)
  obtain ⟨v18, T17, h19, hf⟩ := zb_i hf
  refine l_X4_inMonth_4 F ⟨Nat.le_of_ble_eq_true rfl, Nat.le_of_ble_eq_true rfl⟩ p0 2000 0 0 _ _ _ _ _ h19 hP hS (lv_sub hl [2, 3, 1, 0] rfl) (fun H locs ls hP hS hl => ?_)
  refine lv_iload_n hx hb dX4_inMonth_56 rfl (lv_at hl 2 rfl) ?_
  obtain ⟨q1, q2⟩ := zs_i hf
  subst q1; subst q2
  exact z_iret hx hb hr rfl hP hS hlocks (Nat.le_of_ble_eq_true rfl) (Nat.le_of_ble_eq_true rfl) dX4_inMonth_57

def lp_X4_busiestMonth_6  : Nat → Int32 → Int32 → Int32 → zT → Option ((Int32 × Int32 × Int32) × zT)
  | 0, _, _, _, _ => none
  | n + 1, u1, u2, u3, T => (if 12 < u3 then some ((u1, u2, u3), T) else zb (f_X4_inMonth u3 T) fun v2 T1 => (if v2 ≤ u2 then zl (u3 + 1) fun x4 => lp_X4_busiestMonth_6 n u1 u2 x4 T1 else zb (f_X4_inMonth u3 T1) fun v6 T5 => zl (u3 + 1) fun x8 => lp_X4_busiestMonth_6 n u3 v6 x8 T5))
def f_X4_busiestMonth  (T : zT) : Option (Int32 × zT) := zb (lp_X4_busiestMonth_6 2000 (-1) 0 1 T) fun v10 T9 => zb (f_X4_told v10.1 T9) fun v13 T12 => some (v13, T12)
set_option maxHeartbeats 4000000 in
set_option maxRecDepth 100000 in
theorem l_X4_busiestMonth_6 {p : Program} {l : Launch} {e : Env} {s : State} {m : MethodId} {args : Array Value} {below : List Frame} {meth : Method} {c : Code} {Q : State → Prop} {D : va_G} {Y : Nat → ClassId} {S V : Nat → Nat} {G : Nat → Nat → Nat} {A : Nat → Prop} {c0 : Cond} {mc ms cells slots : Nat} (F : zF 1 3 mc ms p l s m args c cX4_busiestMonth 4 RX4 c0 D Y S V G A) (hcs : cells ≤ mc ∧ slots ≤ ms) :
    ∀ (n : Nat) (u1 : Int32) (u2 : Int32) (u3 : Int32) (T : zT) (o : (Int32 × Int32 × Int32) × zT) (H : Heap) (locs : List Loc) (ls : Array Slot), lp_X4_busiestMonth_6 n u1 u2 u3 T = some o → zP 1 D Y G T H → va_S A s.heap H locs → lv_has ls 4 [(0, .ref (G 0 0)), (1, .int u1), (2, .int u2), (3, .int u3)] → (∀ (H : Heap) (locs : List Loc) (ls : Array Slot), zP 1 D Y G o.2 H → va_S A s.heap H locs → lv_has ls 4 [(0, .ref (G 0 0)), (1, .int o.1.1), (2, .int o.1.2.1), (3, .int o.1.2.2)] → W p l e (zR 3 mc ms) s m args below meth c H locs cells slots Q (F0 m 35 ls [])) → W p l e (zR 3 mc ms) s m args below meth c H locs cells slots Q (F0 m 6 ls []) := by
  obtain ⟨hx, hb, hml, hown, hts, hl9, hG, hK, hA⟩ := id F
  intro n
  induction n with
  | zero =>
    intro u1 u2 u3 T o H locs ls hf
    rw [lp_X4_busiestMonth_6] at hf
    cases hf
  | succ n ih =>
    intro u1 u2 u3 T o H locs ls hf hP hS hl k0_
    rw [lp_X4_busiestMonth_6] at hf
    refine lv_iload_n hx hb dX4_busiestMonth_6 rfl (lv_at hl 3 rfl) ?_
    refine lv_bipush (v := 12) hx hb dX4_busiestMonth_7 (by decide) ?_
    refine lv_icmp_gt (tgt := 35) hx hb dX4_busiestMonth_9 (by decide) (fun hc => ?_) (fun hc => ?_)
    · have hf := zif_p hf hc
      cases hf
      exact k0_ _ _ _ hP hS (lv_sub hl [0, 1, 2, 3] rfl)
    · have hf := zif_n hf hc
      refine lv_aload_n hx hb dX4_busiestMonth_12 rfl (lv_at hl 0 rfl) ?_
      refine lv_iload_n hx hb dX4_busiestMonth_13 rfl (lv_at hl 3 rfl) ?_
      obtain ⟨v2, T1, h3, hf⟩ := zb_i hf
      refine z_ok (z_runV (As := [.int u3]) (rest := []) F k_X4_inMonth m_1482 (c_X4_inMonth u3 T T1 _ h3) hP hS (zV_m (by decide)) rfl rfl rfl rfl hl.1 (Nat.le_of_ble_eq_true rfl) dX4_busiestMonth_14 (Nat.le_of_ble_eq_true rfl) ⟨hcs.1, hcs.2⟩ rfl) hS (fun H locs hP hS => ?_)
      refine lv_iload_n hx hb dX4_busiestMonth_17 rfl (lv_at hl 2 rfl) ?_
      refine lv_icmp_le (tgt := 29) hx hb dX4_busiestMonth_18 (by decide) (fun hc => ?_) (fun hc => ?_)
      · have hf := zif_p hf hc
        obtain ⟨x4, ex4, hf⟩ := zl_i hf
        refine lv_iinc (v := x4) (lv' := [(3, .int x4), (0, .ref (G 0 0)), (1, .int u1), (2, .int u2)]) hx hb dX4_busiestMonth_29 hl (k := 3) rfl (by rw [ex4]; rfl) (by decide) rfl (fun ls hl => ?_)
        refine lv_goto (tgt := 6) hx hb dX4_busiestMonth_32 (by decide) ?_
        exact ih u1 u2 x4 _ _ _ _ _ hf hP hS (lv_sub hl [1, 2, 3, 0] rfl) k0_
      · have hf := zif_n hf hc
        refine lv_iload_n hx hb dX4_busiestMonth_21 rfl (lv_at hl 3 rfl) ?_
        refine lv_istore_n (lv' := [(1, .int u3), (0, .ref (G 0 0)), (2, .int u2), (3, .int u3)]) hx hb dX4_busiestMonth_22 rfl hl (by decide) rfl (fun ls hl => ?_)
        refine lv_aload_n hx hb dX4_busiestMonth_23 rfl (lv_at hl 1 rfl) ?_
        refine lv_iload_n hx hb dX4_busiestMonth_24 rfl (lv_at hl 3 rfl) ?_
        obtain ⟨v6, T5, h7, hf⟩ := zb_i hf
        refine z_ok (z_runV (As := [.int u3]) (rest := []) F k_X4_inMonth m_1482 (c_X4_inMonth u3 T1 T5 _ h7) hP hS (zV_m (by decide)) rfl rfl rfl rfl hl.1 (Nat.le_of_ble_eq_true rfl) dX4_busiestMonth_25 (Nat.le_of_ble_eq_true rfl) ⟨hcs.1, hcs.2⟩ rfl) hS (fun H locs hP hS => ?_)
        refine lv_istore_n (lv' := [(2, .int v6), (1, .int u3), (0, .ref (G 0 0)), (3, .int u3)]) hx hb dX4_busiestMonth_28 rfl hl (by decide) rfl (fun ls hl => ?_)
        obtain ⟨x8, ex8, hf⟩ := zl_i hf
        refine lv_iinc (v := x8) (lv' := [(3, .int x8), (2, .int v6), (1, .int u3), (0, .ref (G 0 0))]) hx hb dX4_busiestMonth_29 hl (k := 3) rfl (by rw [ex8]; rfl) (by decide) rfl (fun ls hl => ?_)
        refine lv_goto (tgt := 6) hx hb dX4_busiestMonth_32 (by decide) ?_
        exact ih u3 v6 x8 _ _ _ _ _ hf hP hS (lv_sub hl [3, 2, 1, 0] rfl) k0_
set_option maxHeartbeats 4000000 in
set_option maxRecDepth 100000 in
theorem c_X4_busiestMonth  (T T' : zT) (v : Int32) (hf : f_X4_busiestMonth  T = some (v, T')) : zC 1 yX4_busiestMonth cX4_busiestMonth 4 (some .int) 3  0 0  (fun G _ => [.ref (G 0 0)]) T (fun _ => .inl (some (.int v))) T' := by
  intro l D Y S V G A hl9 hG
  refine vx_ofW (cc := cX4_busiestMonth) (maxL := 4) (ret := (some .int)) (by decide) rfl ?_
  intro p e s m args below meth c s₁ B hml hex hv
  obtain ⟨rfl, hK, hP, hA⟩ := hv
  have hx := B.exec
  have hb := B.bytes
  have hr := B.returns
  have hlocks := B.notSynchronized
  have hown : s.vm.findClass RX4 = some m.cls := findClass_of_methodNamed B.named
  have hts := atoms_spec (ws := Cond.code yX4_busiestMonth cX4_busiestMonth 4 (some .int) :: zWS) B.pre
  have F : zF 1 3  0 0  p l s m _ c cX4_busiestMonth 4 RX4 (Cond.code yX4_busiestMonth cX4_busiestMonth 4 (some .int)) D Y S V G A := ⟨hx, hb, hml, hown, hts, hl9, hG, hK, hA⟩
  have hS : va_S A s.heap s.heap [] := va_S.rf
  have hl := lv_entry ([.ref (G 0 0)]) (n := 4) (Nat.le_of_ble_eq_true rfl)
  rw [lg_entry_eq]
  generalize (lg_sl ([.ref (G 0 0)]) ++ List.replicate (4 - (lg_sl ([.ref (G 0 0)])).length) Slot.unset).toArray = ls at hl ⊢
  have hl : lv_has ls 4 [(0, .ref (G 0 0))] := hl
  unfold f_X4_busiestMonth at hf
  refine lv_iconst (v := (-1)) hx hb dX4_busiestMonth_0 (by decide) ?_
  refine lv_istore_n (lv' := [(1, .int (-1)), (0, .ref (G 0 0))]) hx hb dX4_busiestMonth_1 rfl hl (by decide) rfl (fun ls hl => ?_)
  refine lv_iconst (v := 0) hx hb dX4_busiestMonth_2 (by decide) ?_
  refine lv_istore_n (lv' := [(2, .int 0), (1, .int (-1)), (0, .ref (G 0 0))]) hx hb dX4_busiestMonth_3 rfl hl (by decide) rfl (fun ls hl => ?_)
  refine lv_iconst (v := 1) hx hb dX4_busiestMonth_4 (by decide) ?_
  refine lv_istore_n (lv' := [(3, .int 1), (2, .int 0), (1, .int (-1)), (0, .ref (G 0 0))]) hx hb dX4_busiestMonth_5 rfl hl (by decide) rfl (fun ls hl => ?_)
  obtain ⟨v10, T9, h11, hf⟩ := zb_i hf
  refine l_X4_busiestMonth_6 F ⟨Nat.le_of_ble_eq_true rfl, Nat.le_of_ble_eq_true rfl⟩  2000 (-1) 0 1 _ _ _ _ _ h11 hP hS (lv_sub hl [3, 2, 1, 0] rfl) (fun H locs ls hP hS hl => ?_)
  refine lv_aload_n hx hb dX4_busiestMonth_35 rfl (lv_at hl 0 rfl) ?_
  refine lv_iload_n hx hb dX4_busiestMonth_36 rfl (lv_at hl 1 rfl) ?_
  obtain ⟨v13, T12, h14, hf⟩ := zb_i hf
  refine z_ok (z_runV (As := [.int v10.1]) (rest := []) F k_X4_told m_1230 (c_X4_told v10.1 T9 T12 _ h14) hP hS (zV_m (by decide)) rfl rfl rfl rfl hl.1 (Nat.le_of_ble_eq_true rfl) dX4_busiestMonth_37 (Nat.le_of_ble_eq_true rfl) ⟨Nat.le_of_ble_eq_true rfl, Nat.le_of_ble_eq_true rfl⟩ rfl) hS (fun H locs hP hS => ?_)
  obtain ⟨q1, q2⟩ := zs_i hf
  subst q1; subst q2
  exact z_iret hx hb hr rfl hP hS hlocks (Nat.le_of_ble_eq_true rfl) (Nat.le_of_ble_eq_true rfl) dX4_busiestMonth_40

def f_X4_obstacle (p0 : Int32) (p1 : Int32) (p2 : Int32) (p3 : Int32) (T : zT) : Option (Int32 × zT) := zb (f_X4_isChild p0 T) fun v2 T1 => (if v2 = 0 then zb (f_X4_refuse 1 T1) fun v5 T4 => some (v5, T4) else zb (f_X4_isGarden p1 T1) fun v8 T7 => (if v8 = 0 then zb (f_X4_refuse 1 T7) fun v26 T25 => some (v26, T25) else zb (f_X4_isDate p2 p3 T7) fun v11 T10 => (if v11 = 0 then zb (f_X4_refuse 2 T10) fun v14 T13 => some (v14, T13) else zb (f_X4_position p2 p3 T10) fun v17 T16 => zb (f_X4_reason p0 p1 v17 T16) fun v20 T19 => zb (f_X4_told v20 T19) fun v23 T22 => some (v23, T22))))
set_option maxHeartbeats 4000000 in
set_option maxRecDepth 100000 in
theorem c_X4_obstacle (p0 : Int32) (p1 : Int32) (p2 : Int32) (p3 : Int32) (T T' : zT) (v : Int32) (hf : f_X4_obstacle p0 p1 p2 p3 T = some (v, T')) : zC 1 yX4_obstacle cX4_obstacle 5 (some .int) 3  0 0  (fun G _ => [.ref (G 0 0), .int p0, .int p1, .int p2, .int p3]) T (fun _ => .inl (some (.int v))) T' := by
  intro l D Y S V G A hl9 hG
  refine vx_ofW (cc := cX4_obstacle) (maxL := 5) (ret := (some .int)) (by decide) rfl ?_
  intro p e s m args below meth c s₁ B hml hex hv
  obtain ⟨rfl, hK, hP, hA⟩ := hv
  have hx := B.exec
  have hb := B.bytes
  have hr := B.returns
  have hlocks := B.notSynchronized
  have hown : s.vm.findClass RX4 = some m.cls := findClass_of_methodNamed B.named
  have hts := atoms_spec (ws := Cond.code yX4_obstacle cX4_obstacle 5 (some .int) :: zWS) B.pre
  have F : zF 1 3  0 0  p l s m _ c cX4_obstacle 5 RX4 (Cond.code yX4_obstacle cX4_obstacle 5 (some .int)) D Y S V G A := ⟨hx, hb, hml, hown, hts, hl9, hG, hK, hA⟩
  have hS : va_S A s.heap s.heap [] := va_S.rf
  have hl := lv_entry ([.ref (G 0 0), .int p0, .int p1, .int p2, .int p3]) (n := 5) (Nat.le_of_ble_eq_true rfl)
  rw [lg_entry_eq]
  generalize (lg_sl ([.ref (G 0 0), .int p0, .int p1, .int p2, .int p3]) ++ List.replicate (5 - (lg_sl ([.ref (G 0 0), .int p0, .int p1, .int p2, .int p3])).length) Slot.unset).toArray = ls at hl ⊢
  have hl : lv_has ls 5 [(0, .ref (G 0 0)), (1, .int p0), (2, .int p1), (3, .int p2), (4, .int p3)] := hl
  unfold f_X4_obstacle at hf
  refine lv_aload_n hx hb dX4_obstacle_0 rfl (lv_at hl 0 rfl) ?_
  refine lv_iload_n hx hb dX4_obstacle_1 rfl (lv_at hl 1 rfl) ?_
  obtain ⟨v2, T1, h3, hf⟩ := zb_i hf
  refine z_ok (z_runV (As := [.int p0]) (rest := []) F k_X4_isChild m_1410 (c_X4_isChild p0 T T1 _ h3) hP hS (zV_m (by decide)) rfl rfl rfl rfl hl.1 (Nat.le_of_ble_eq_true rfl) dX4_obstacle_2 (Nat.le_of_ble_eq_true rfl) ⟨Nat.le_of_ble_eq_true rfl, Nat.le_of_ble_eq_true rfl⟩ rfl) hS (fun H locs hP hS => ?_)
  refine lv_if_eq (tgt := 16) hx hb dX4_obstacle_5 (by decide) (fun hc => ?_) (fun hc => ?_)
  · have hf := zif_p hf hc
    refine lv_aload_n hx hb dX4_obstacle_16 rfl (lv_at hl 0 rfl) ?_
    refine lv_iconst (v := 1) hx hb dX4_obstacle_17 (by decide) ?_
    obtain ⟨v5, T4, h6, hf⟩ := zb_i hf
    refine z_ok (z_runV (As := [.int 1]) (rest := []) F k_X4_refuse m_1222 (c_X4_refuse 1 T1 T4 _ h6) hP hS (zV_m (by decide)) rfl rfl rfl rfl hl.1 (Nat.le_of_ble_eq_true rfl) dX4_obstacle_18 (Nat.le_of_ble_eq_true rfl) ⟨Nat.le_of_ble_eq_true rfl, Nat.le_of_ble_eq_true rfl⟩ rfl) hS (fun H locs hP hS => ?_)
    obtain ⟨q1, q2⟩ := zs_i hf
    subst q1; subst q2
    exact z_iret hx hb hr rfl hP hS hlocks (Nat.le_of_ble_eq_true rfl) (Nat.le_of_ble_eq_true rfl) dX4_obstacle_21
  · have hf := zif_n hf hc
    refine lv_aload_n hx hb dX4_obstacle_8 rfl (lv_at hl 0 rfl) ?_
    refine lv_iload_n hx hb dX4_obstacle_9 rfl (lv_at hl 2 rfl) ?_
    obtain ⟨v8, T7, h9, hf⟩ := zb_i hf
    refine z_ok (z_runV (As := [.int p1]) (rest := []) F k_X4_isGarden m_1379 (c_X4_isGarden p1 T1 T7 _ h9) hP hS (zV_m (by decide)) rfl rfl rfl rfl hl.1 (Nat.le_of_ble_eq_true rfl) dX4_obstacle_10 (Nat.le_of_ble_eq_true rfl) ⟨Nat.le_of_ble_eq_true rfl, Nat.le_of_ble_eq_true rfl⟩ rfl) hS (fun H locs hP hS => ?_)
    refine lv_if_ne (tgt := 22) hx hb dX4_obstacle_13 (by decide) (fun hc => ?_) (fun hc => ?_)
    · have hf := zif_n hf hc
      refine lv_iload_n hx hb dX4_obstacle_22 rfl (lv_at hl 3 rfl) ?_
      refine lv_iload hx hb dX4_obstacle_23 (lv_at hl 4 rfl) ?_
      obtain ⟨v11, T10, h12, hf⟩ := zb_i hf
      refine z_ok (z_runS (As := [.int p2, .int p3]) (rest := []) F k_X4_isDate m_1391 (c_X4_isDate p2 p3 T7 T10 _ h12) hP hS rfl rfl hl.1 (Nat.le_of_ble_eq_true rfl) dX4_obstacle_25 (Nat.le_of_ble_eq_true rfl) ⟨Nat.le_of_ble_eq_true rfl, Nat.le_of_ble_eq_true rfl⟩ rfl) hS (fun H locs hP hS => ?_)
      refine lv_if_eq (tgt := 50) hx hb dX4_obstacle_28 (by decide) (fun hc => ?_) (fun hc => ?_)
      · have hf := zif_p hf hc
        refine lv_aload_n hx hb dX4_obstacle_50 rfl (lv_at hl 0 rfl) ?_
        refine lv_iconst (v := 2) hx hb dX4_obstacle_51 (by decide) ?_
        obtain ⟨v14, T13, h15, hf⟩ := zb_i hf
        refine z_ok (z_runV (As := [.int 2]) (rest := []) F k_X4_refuse m_1222 (c_X4_refuse 2 T10 T13 _ h15) hP hS (zV_m (by decide)) rfl rfl rfl rfl hl.1 (Nat.le_of_ble_eq_true rfl) dX4_obstacle_52 (Nat.le_of_ble_eq_true rfl) ⟨Nat.le_of_ble_eq_true rfl, Nat.le_of_ble_eq_true rfl⟩ rfl) hS (fun H locs hP hS => ?_)
        obtain ⟨q1, q2⟩ := zs_i hf
        subst q1; subst q2
        exact z_iret hx hb hr rfl hP hS hlocks (Nat.le_of_ble_eq_true rfl) (Nat.le_of_ble_eq_true rfl) dX4_obstacle_55
      · have hf := zif_n hf hc
        refine lv_aload_n hx hb dX4_obstacle_31 rfl (lv_at hl 0 rfl) ?_
        refine lv_aload_n hx hb dX4_obstacle_32 rfl (lv_at hl 0 rfl) ?_
        refine lv_iload_n hx hb dX4_obstacle_33 rfl (lv_at hl 1 rfl) ?_
        refine lv_iload_n hx hb dX4_obstacle_34 rfl (lv_at hl 2 rfl) ?_
        refine lv_iload_n hx hb dX4_obstacle_35 rfl (lv_at hl 3 rfl) ?_
        refine lv_iload hx hb dX4_obstacle_36 (lv_at hl 4 rfl) ?_
        obtain ⟨v17, T16, h18, hf⟩ := zb_i hf
        refine z_ok (z_runS (As := [.int p2, .int p3]) (rest := [.int p1, .int p0, .ref (G 0 0), .ref (G 0 0)]) F k_X4_position m_1307 (c_X4_position p2 p3 T10 T16 _ h18) hP hS rfl rfl hl.1 (Nat.le_of_ble_eq_true rfl) dX4_obstacle_38 (Nat.le_of_ble_eq_true rfl) ⟨Nat.le_of_ble_eq_true rfl, Nat.le_of_ble_eq_true rfl⟩ rfl) hS (fun H locs hP hS => ?_)
        obtain ⟨v20, T19, h21, hf⟩ := zb_i hf
        refine z_ok (z_runV (As := [.int p0, .int p1, .int v17]) (rest := [.ref (G 0 0)]) F k_X4_reason m_1105 (c_X4_reason p0 p1 v17 T16 T19 _ h21) hP hS (zV_m (by decide)) rfl rfl rfl rfl hl.1 (Nat.le_of_ble_eq_true rfl) dX4_obstacle_41 (Nat.le_of_ble_eq_true rfl) ⟨Nat.le_of_ble_eq_true rfl, Nat.le_of_ble_eq_true rfl⟩ rfl) hS (fun H locs hP hS => ?_)
        obtain ⟨v23, T22, h24, hf⟩ := zb_i hf
        refine z_ok (z_runV (As := [.int v20]) (rest := []) F k_X4_told m_1230 (c_X4_told v20 T19 T22 _ h24) hP hS (zV_m (by decide)) rfl rfl rfl rfl hl.1 (Nat.le_of_ble_eq_true rfl) dX4_obstacle_44 (Nat.le_of_ble_eq_true rfl) ⟨Nat.le_of_ble_eq_true rfl, Nat.le_of_ble_eq_true rfl⟩ rfl) hS (fun H locs hP hS => ?_)
        refine lv_goto (tgt := 55) hx hb dX4_obstacle_47 (by decide) ?_
        obtain ⟨q1, q2⟩ := zs_i hf
        subst q1; subst q2
        exact z_iret hx hb hr rfl hP hS hlocks (Nat.le_of_ble_eq_true rfl) (Nat.le_of_ble_eq_true rfl) dX4_obstacle_55
    · have hf := zif_p hf hc
      refine lv_aload_n hx hb dX4_obstacle_16 rfl (lv_at hl 0 rfl) ?_
      refine lv_iconst (v := 1) hx hb dX4_obstacle_17 (by decide) ?_
      obtain ⟨v26, T25, h27, hf⟩ := zb_i hf
      refine z_ok (z_runV (As := [.int 1]) (rest := []) F k_X4_refuse m_1222 (c_X4_refuse 1 T7 T25 _ h27) hP hS (zV_m (by decide)) rfl rfl rfl rfl hl.1 (Nat.le_of_ble_eq_true rfl) dX4_obstacle_18 (Nat.le_of_ble_eq_true rfl) ⟨Nat.le_of_ble_eq_true rfl, Nat.le_of_ble_eq_true rfl⟩ rfl) hS (fun H locs hP hS => ?_)
      obtain ⟨q1, q2⟩ := zs_i hf
      subst q1; subst q2
      exact z_iret hx hb hr rfl hP hS hlocks (Nat.le_of_ble_eq_true rfl) (Nat.le_of_ble_eq_true rfl) dX4_obstacle_21

def lp_X4_freeGarden_31 (w1 : Int32) (w2 : Int32) (w3 : Int32) : Nat → Int32 → zT → Option ((Int32) × zT)
  | 0, _, _ => none
  | n + 1, u4, T => (if (T.2 2 0 4) ≤ u4 then some (u4, T) else zb (f_X4_position w2 w3 T) fun v9 T8 => zb (f_X4_reason w1 u4 v9 T8) fun v12 T11 => (if v12 = 0 then some (u4, T11) else zl (u4 + 1) fun x14 => lp_X4_freeGarden_31 w1 w2 w3 n x14 T11))
def f_X4_freeGarden (p0 : Int32) (p1 : Int32) (p2 : Int32) (T : zT) : Option (Int32 × zT) := zb (f_X4_isChild p0 T) fun v2 T1 => (if v2 = 0 then zb (f_X4_refuse 1 T1) fun v29 T28 => some (v29, T28) else zb (f_X4_isDate p1 p2 T1) fun v5 T4 => (if v5 = 0 then zb (f_X4_refuse 2 T4) fun v26 T25 => some (v26, T25) else zb (lp_X4_freeGarden_31 p0 p1 p2 2000 0 T4) fun v16 T15 => (if (T15.2 2 0 4) ≤ v16 then zb (f_X4_told (-1) T15) fun v20 T19 => some (v20, T19) else zb (f_X4_told v16 T15) fun v23 T22 => some (v23, T22))))
set_option maxHeartbeats 4000000 in
set_option maxRecDepth 100000 in
theorem l_X4_freeGarden_31 {p : Program} {l : Launch} {e : Env} {s : State} {m : MethodId} {args : Array Value} {below : List Frame} {meth : Method} {c : Code} {Q : State → Prop} {D : va_G} {Y : Nat → ClassId} {S V : Nat → Nat} {G : Nat → Nat → Nat} {A : Nat → Prop} {c0 : Cond} {mc ms cells slots : Nat} (F : zF 1 3 mc ms p l s m args c cX4_freeGarden 5 RX4 c0 D Y S V G A) (hcs : cells ≤ mc ∧ slots ≤ ms) (w1 : Int32) (w2 : Int32) (w3 : Int32) :
    ∀ (n : Nat) (u4 : Int32) (T : zT) (o : (Int32) × zT) (H : Heap) (locs : List Loc) (ls : Array Slot), lp_X4_freeGarden_31 w1 w2 w3 n u4 T = some o → zP 1 D Y G T H → va_S A s.heap H locs → lv_has ls 5 [(0, .ref (G 0 0)), (1, .int w1), (2, .int w2), (3, .int w3), (4, .int u4)] → (∀ (H : Heap) (locs : List Loc) (ls : Array Slot), zP 1 D Y G o.2 H → va_S A s.heap H locs → lv_has ls 5 [(0, .ref (G 0 0)), (1, .int w1), (2, .int w2), (3, .int w3), (4, .int o.1)] → W p l e (zR 3 mc ms) s m args below meth c H locs cells slots Q (F0 m 63 ls [])) → W p l e (zR 3 mc ms) s m args below meth c H locs cells slots Q (F0 m 31 ls []) := by
  obtain ⟨hx, hb, hml, hown, hts, hl9, hG, hK, hA⟩ := id F
  intro n
  induction n with
  | zero =>
    intro u4 T o H locs ls hf
    rw [lp_X4_freeGarden_31] at hf
    cases hf
  | succ n ih =>
    intro u4 T o H locs ls hf hP hS hl k0_
    rw [lp_X4_freeGarden_31] at hf
    refine lv_iload hx hb dX4_freeGarden_31 (lv_at hl 4 rfl) ?_
    refine lv_aload_n hx hb dX4_freeGarden_33 rfl (lv_at hl 0 rfl) ?_
    refine z_get hx hb hts (fun w h => List.mem_cons_of_mem _ (ziX4 w h)) hown hK hP (zV_m (by decide)) rfl rfl 2 (by decide) (List.mem_cons_of_mem _ m_1143) rfl rfl dX4_freeGarden_34 ?_
    refine lv_iconst (v := 4) hx hb dX4_freeGarden_37 (by decide) ?_
    refine z_iald_ (j := 4) hx hb hK hP (zIA_m (by decide) (by decide)) (by decide) (by decide) dX4_freeGarden_38 ?_
    refine lv_icmp_ge (tgt := 63) hx hb dX4_freeGarden_39 (by decide) (fun hc => ?_) (fun hc => ?_)
    · have hf := zif_p hf hc
      cases hf
      exact k0_ _ _ _ hP hS (lv_sub hl [0, 1, 2, 3, 4] rfl)
    · have hf := zif_n hf hc
      refine lv_aload_n hx hb dX4_freeGarden_42 rfl (lv_at hl 0 rfl) ?_
      refine lv_iload_n hx hb dX4_freeGarden_43 rfl (lv_at hl 1 rfl) ?_
      refine lv_iload hx hb dX4_freeGarden_44 (lv_at hl 4 rfl) ?_
      refine lv_iload_n hx hb dX4_freeGarden_46 rfl (lv_at hl 2 rfl) ?_
      refine lv_iload_n hx hb dX4_freeGarden_47 rfl (lv_at hl 3 rfl) ?_
      obtain ⟨v9, T8, h10, hf⟩ := zb_i hf
      refine z_ok (z_runS (As := [.int w2, .int w3]) (rest := [.int u4, .int w1, .ref (G 0 0)]) F k_X4_position m_1307 (c_X4_position w2 w3 T T8 _ h10) hP hS rfl rfl hl.1 (Nat.le_of_ble_eq_true rfl) dX4_freeGarden_48 (Nat.le_of_ble_eq_true rfl) ⟨hcs.1, hcs.2⟩ rfl) hS (fun H locs hP hS => ?_)
      obtain ⟨v12, T11, h13, hf⟩ := zb_i hf
      refine z_ok (z_runV (As := [.int w1, .int u4, .int v9]) (rest := []) F k_X4_reason m_1105 (c_X4_reason w1 u4 v9 T8 T11 _ h13) hP hS (zV_m (by decide)) rfl rfl rfl rfl hl.1 (Nat.le_of_ble_eq_true rfl) dX4_freeGarden_51 (Nat.le_of_ble_eq_true rfl) ⟨hcs.1, hcs.2⟩ rfl) hS (fun H locs hP hS => ?_)
      refine lv_if_eq (tgt := 63) hx hb dX4_freeGarden_54 (by decide) (fun hc => ?_) (fun hc => ?_)
      · have hf := zif_p hf hc
        cases hf
        exact k0_ _ _ _ hP hS (lv_sub hl [0, 1, 2, 3, 4] rfl)
      · have hf := zif_n hf hc
        obtain ⟨x14, ex14, hf⟩ := zl_i hf
        refine lv_iinc (v := x14) (lv' := [(4, .int x14), (0, .ref (G 0 0)), (1, .int w1), (2, .int w2), (3, .int w3)]) hx hb dX4_freeGarden_57 hl (k := 4) rfl (by rw [ex14]; rfl) (by decide) rfl (fun ls hl => ?_)
        refine lv_goto (tgt := 31) hx hb dX4_freeGarden_60 (by decide) ?_
        exact ih x14 _ _ _ _ _ hf hP hS (lv_sub hl [1, 2, 3, 4, 0] rfl) k0_
set_option maxHeartbeats 4000000 in
set_option maxRecDepth 100000 in
theorem c_X4_freeGarden (p0 : Int32) (p1 : Int32) (p2 : Int32) (T T' : zT) (v : Int32) (hf : f_X4_freeGarden p0 p1 p2 T = some (v, T')) : zC 1 yX4_freeGarden cX4_freeGarden 5 (some .int) 3  0 0  (fun G _ => [.ref (G 0 0), .int p0, .int p1, .int p2]) T (fun _ => .inl (some (.int v))) T' := by
  intro l D Y S V G A hl9 hG
  refine vx_ofW (cc := cX4_freeGarden) (maxL := 5) (ret := (some .int)) (by decide) rfl ?_
  intro p e s m args below meth c s₁ B hml hex hv
  obtain ⟨rfl, hK, hP, hA⟩ := hv
  have hx := B.exec
  have hb := B.bytes
  have hr := B.returns
  have hlocks := B.notSynchronized
  have hown : s.vm.findClass RX4 = some m.cls := findClass_of_methodNamed B.named
  have hts := atoms_spec (ws := Cond.code yX4_freeGarden cX4_freeGarden 5 (some .int) :: zWS) B.pre
  have F : zF 1 3  0 0  p l s m _ c cX4_freeGarden 5 RX4 (Cond.code yX4_freeGarden cX4_freeGarden 5 (some .int)) D Y S V G A := ⟨hx, hb, hml, hown, hts, hl9, hG, hK, hA⟩
  have hS : va_S A s.heap s.heap [] := va_S.rf
  have hl := lv_entry ([.ref (G 0 0), .int p0, .int p1, .int p2]) (n := 5) (Nat.le_of_ble_eq_true rfl)
  rw [lg_entry_eq]
  generalize (lg_sl ([.ref (G 0 0), .int p0, .int p1, .int p2]) ++ List.replicate (5 - (lg_sl ([.ref (G 0 0), .int p0, .int p1, .int p2])).length) Slot.unset).toArray = ls at hl ⊢
  have hl : lv_has ls 5 [(0, .ref (G 0 0)), (1, .int p0), (2, .int p1), (3, .int p2)] := hl
  unfold f_X4_freeGarden at hf
  refine lv_aload_n hx hb dX4_freeGarden_0 rfl (lv_at hl 0 rfl) ?_
  refine lv_iload_n hx hb dX4_freeGarden_1 rfl (lv_at hl 1 rfl) ?_
  obtain ⟨v2, T1, h3, hf⟩ := zb_i hf
  refine z_ok (z_runV (As := [.int p0]) (rest := []) F k_X4_isChild m_1410 (c_X4_isChild p0 T T1 _ h3) hP hS (zV_m (by decide)) rfl rfl rfl rfl hl.1 (Nat.le_of_ble_eq_true rfl) dX4_freeGarden_2 (Nat.le_of_ble_eq_true rfl) ⟨Nat.le_of_ble_eq_true rfl, Nat.le_of_ble_eq_true rfl⟩ rfl) hS (fun H locs hP hS => ?_)
  refine lv_if_ne (tgt := 14) hx hb dX4_freeGarden_5 (by decide) (fun hc => ?_) (fun hc => ?_)
  · have hf := zif_n hf hc
    refine lv_iload_n hx hb dX4_freeGarden_14 rfl (lv_at hl 2 rfl) ?_
    refine lv_iload_n hx hb dX4_freeGarden_15 rfl (lv_at hl 3 rfl) ?_
    obtain ⟨v5, T4, h6, hf⟩ := zb_i hf
    refine z_ok (z_runS (As := [.int p1, .int p2]) (rest := []) F k_X4_isDate m_1391 (c_X4_isDate p1 p2 T1 T4 _ h6) hP hS rfl rfl hl.1 (Nat.le_of_ble_eq_true rfl) dX4_freeGarden_16 (Nat.le_of_ble_eq_true rfl) ⟨Nat.le_of_ble_eq_true rfl, Nat.le_of_ble_eq_true rfl⟩ rfl) hS (fun H locs hP hS => ?_)
    refine lv_if_ne (tgt := 28) hx hb dX4_freeGarden_19 (by decide) (fun hc => ?_) (fun hc => ?_)
    · have hf := zif_n hf hc
      refine lv_iconst (v := 0) hx hb dX4_freeGarden_28 (by decide) ?_
      refine lv_istore (lv' := [(4, .int 0), (0, .ref (G 0 0)), (1, .int p0), (2, .int p1), (3, .int p2)]) hx hb dX4_freeGarden_29 hl (by decide) rfl (fun ls hl => ?_)
      obtain ⟨v16, T15, h17, hf⟩ := zb_i hf
      refine l_X4_freeGarden_31 F ⟨Nat.le_of_ble_eq_true rfl, Nat.le_of_ble_eq_true rfl⟩ p0 p1 p2 2000 0 _ _ _ _ _ h17 hP hS (lv_sub hl [1, 2, 3, 4, 0] rfl) (fun H locs ls hP hS hl => ?_)
      refine lv_aload_n hx hb dX4_freeGarden_63 rfl (lv_at hl 0 rfl) ?_
      refine lv_iload hx hb dX4_freeGarden_64 (lv_at hl 4 rfl) ?_
      refine lv_aload_n hx hb dX4_freeGarden_66 rfl (lv_at hl 0 rfl) ?_
      refine z_get hx hb hts (fun w h => List.mem_cons_of_mem _ (ziX4 w h)) hown hK hP (zV_m (by decide)) rfl rfl 2 (by decide) (List.mem_cons_of_mem _ m_1143) rfl rfl dX4_freeGarden_67 ?_
      refine lv_iconst (v := 4) hx hb dX4_freeGarden_70 (by decide) ?_
      refine z_iald_ (j := 4) hx hb hK hP (zIA_m (by decide) (by decide)) (by decide) (by decide) dX4_freeGarden_71 ?_
      refine lv_icmp_ge (tgt := 80) hx hb dX4_freeGarden_72 (by decide) (fun hc => ?_) (fun hc => ?_)
      · have hf := zif_p hf hc
        refine lv_iconst (v := (-1)) hx hb dX4_freeGarden_80 (by decide) ?_
        obtain ⟨v20, T19, h21, hf⟩ := zb_i hf
        refine z_ok (z_runV (As := [.int (-1)]) (rest := []) F k_X4_told m_1230 (c_X4_told (-1) T15 T19 _ h21) hP hS (zV_m (by decide)) rfl rfl rfl rfl hl.1 (Nat.le_of_ble_eq_true rfl) dX4_freeGarden_81 (Nat.le_of_ble_eq_true rfl) ⟨Nat.le_of_ble_eq_true rfl, Nat.le_of_ble_eq_true rfl⟩ rfl) hS (fun H locs hP hS => ?_)
        obtain ⟨q1, q2⟩ := zs_i hf
        subst q1; subst q2
        exact z_iret hx hb hr rfl hP hS hlocks (Nat.le_of_ble_eq_true rfl) (Nat.le_of_ble_eq_true rfl) dX4_freeGarden_84
      · have hf := zif_n hf hc
        refine lv_iload hx hb dX4_freeGarden_75 (lv_at hl 4 rfl) ?_
        refine lv_goto (tgt := 81) hx hb dX4_freeGarden_77 (by decide) ?_
        obtain ⟨v23, T22, h24, hf⟩ := zb_i hf
        refine z_ok (z_runV (As := [.int v16]) (rest := []) F k_X4_told m_1230 (c_X4_told v16 T15 T22 _ h24) hP hS (zV_m (by decide)) rfl rfl rfl rfl hl.1 (Nat.le_of_ble_eq_true rfl) dX4_freeGarden_81 (Nat.le_of_ble_eq_true rfl) ⟨Nat.le_of_ble_eq_true rfl, Nat.le_of_ble_eq_true rfl⟩ rfl) hS (fun H locs hP hS => ?_)
        obtain ⟨q1, q2⟩ := zs_i hf
        subst q1; subst q2
        exact z_iret hx hb hr rfl hP hS hlocks (Nat.le_of_ble_eq_true rfl) (Nat.le_of_ble_eq_true rfl) dX4_freeGarden_84
    · have hf := zif_p hf hc
      refine lv_aload_n hx hb dX4_freeGarden_22 rfl (lv_at hl 0 rfl) ?_
      refine lv_iconst (v := 2) hx hb dX4_freeGarden_23 (by decide) ?_
      obtain ⟨v26, T25, h27, hf⟩ := zb_i hf
      refine z_ok (z_runV (As := [.int 2]) (rest := []) F k_X4_refuse m_1222 (c_X4_refuse 2 T4 T25 _ h27) hP hS (zV_m (by decide)) rfl rfl rfl rfl hl.1 (Nat.le_of_ble_eq_true rfl) dX4_freeGarden_24 (Nat.le_of_ble_eq_true rfl) ⟨Nat.le_of_ble_eq_true rfl, Nat.le_of_ble_eq_true rfl⟩ rfl) hS (fun H locs hP hS => ?_)
      obtain ⟨q1, q2⟩ := zs_i hf
      subst q1; subst q2
      exact z_iret hx hb hr rfl hP hS hlocks (Nat.le_of_ble_eq_true rfl) (Nat.le_of_ble_eq_true rfl) dX4_freeGarden_27
  · have hf := zif_p hf hc
    refine lv_aload_n hx hb dX4_freeGarden_8 rfl (lv_at hl 0 rfl) ?_
    refine lv_iconst (v := 1) hx hb dX4_freeGarden_9 (by decide) ?_
    obtain ⟨v29, T28, h30, hf⟩ := zb_i hf
    refine z_ok (z_runV (As := [.int 1]) (rest := []) F k_X4_refuse m_1222 (c_X4_refuse 1 T1 T28 _ h30) hP hS (zV_m (by decide)) rfl rfl rfl rfl hl.1 (Nat.le_of_ble_eq_true rfl) dX4_freeGarden_10 (Nat.le_of_ble_eq_true rfl) ⟨Nat.le_of_ble_eq_true rfl, Nat.le_of_ble_eq_true rfl⟩ rfl) hS (fun H locs hP hS => ?_)
    obtain ⟨q1, q2⟩ := zs_i hf
    subst q1; subst q2
    exact z_iret hx hb hr rfl hP hS hlocks (Nat.le_of_ble_eq_true rfl) (Nat.le_of_ble_eq_true rfl) dX4_freeGarden_13

def f_X4_drawsNeeded (p0 : Int32) (T : zT) : Option (Int32 × zT) := zb (f_X4_isChild p0 T) fun v2 T1 => (if v2 = 0 then zb (f_X4_refuse 1 T1) fun v5 T4 => some (v5, T4) else zb (f_X4_tries p0 T1) fun v8 T7 => zb (f_X4_told v8 T7) fun v11 T10 => some (v11, T10))
set_option maxHeartbeats 4000000 in
set_option maxRecDepth 100000 in
theorem c_X4_drawsNeeded (p0 : Int32) (T T' : zT) (v : Int32) (hf : f_X4_drawsNeeded p0 T = some (v, T')) : zC 1 yX4_drawsNeeded cX4_drawsNeeded 2 (some .int) 4  0 0  (fun G _ => [.ref (G 0 0), .int p0]) T (fun _ => .inl (some (.int v))) T' := by
  intro l D Y S V G A hl9 hG
  refine vx_ofW (cc := cX4_drawsNeeded) (maxL := 2) (ret := (some .int)) (by decide) rfl ?_
  intro p e s m args below meth c s₁ B hml hex hv
  obtain ⟨rfl, hK, hP, hA⟩ := hv
  have hx := B.exec
  have hb := B.bytes
  have hr := B.returns
  have hlocks := B.notSynchronized
  have hown : s.vm.findClass RX4 = some m.cls := findClass_of_methodNamed B.named
  have hts := atoms_spec (ws := Cond.code yX4_drawsNeeded cX4_drawsNeeded 2 (some .int) :: zWS) B.pre
  have F : zF 1 4  0 0  p l s m _ c cX4_drawsNeeded 2 RX4 (Cond.code yX4_drawsNeeded cX4_drawsNeeded 2 (some .int)) D Y S V G A := ⟨hx, hb, hml, hown, hts, hl9, hG, hK, hA⟩
  have hS : va_S A s.heap s.heap [] := va_S.rf
  have hl := lv_entry ([.ref (G 0 0), .int p0]) (n := 2) (Nat.le_of_ble_eq_true rfl)
  rw [lg_entry_eq]
  generalize (lg_sl ([.ref (G 0 0), .int p0]) ++ List.replicate (2 - (lg_sl ([.ref (G 0 0), .int p0])).length) Slot.unset).toArray = ls at hl ⊢
  have hl : lv_has ls 2 [(0, .ref (G 0 0)), (1, .int p0)] := hl
  unfold f_X4_drawsNeeded at hf
  refine lv_aload_n hx hb dX4_drawsNeeded_0 rfl (lv_at hl 0 rfl) ?_
  refine lv_iload_n hx hb dX4_drawsNeeded_1 rfl (lv_at hl 1 rfl) ?_
  obtain ⟨v2, T1, h3, hf⟩ := zb_i hf
  refine z_ok (z_runV (As := [.int p0]) (rest := []) F k_X4_isChild m_1410 (c_X4_isChild p0 T T1 _ h3) hP hS (zV_m (by decide)) rfl rfl rfl rfl hl.1 (Nat.le_of_ble_eq_true rfl) dX4_drawsNeeded_2 (Nat.le_of_ble_eq_true rfl) ⟨Nat.le_of_ble_eq_true rfl, Nat.le_of_ble_eq_true rfl⟩ rfl) hS (fun H locs hP hS => ?_)
  refine lv_if_eq (tgt := 20) hx hb dX4_drawsNeeded_5 (by decide) (fun hc => ?_) (fun hc => ?_)
  · have hf := zif_p hf hc
    refine lv_aload_n hx hb dX4_drawsNeeded_20 rfl (lv_at hl 0 rfl) ?_
    refine lv_iconst (v := 1) hx hb dX4_drawsNeeded_21 (by decide) ?_
    obtain ⟨v5, T4, h6, hf⟩ := zb_i hf
    refine z_ok (z_runV (As := [.int 1]) (rest := []) F k_X4_refuse m_1222 (c_X4_refuse 1 T1 T4 _ h6) hP hS (zV_m (by decide)) rfl rfl rfl rfl hl.1 (Nat.le_of_ble_eq_true rfl) dX4_drawsNeeded_22 (Nat.le_of_ble_eq_true rfl) ⟨Nat.le_of_ble_eq_true rfl, Nat.le_of_ble_eq_true rfl⟩ rfl) hS (fun H locs hP hS => ?_)
    obtain ⟨q1, q2⟩ := zs_i hf
    subst q1; subst q2
    exact z_iret hx hb hr rfl hP hS hlocks (Nat.le_of_ble_eq_true rfl) (Nat.le_of_ble_eq_true rfl) dX4_drawsNeeded_25
  · have hf := zif_n hf hc
    refine lv_aload_n hx hb dX4_drawsNeeded_8 rfl (lv_at hl 0 rfl) ?_
    refine lv_aload_n hx hb dX4_drawsNeeded_9 rfl (lv_at hl 0 rfl) ?_
    refine lv_iload_n hx hb dX4_drawsNeeded_10 rfl (lv_at hl 1 rfl) ?_
    obtain ⟨v8, T7, h9, hf⟩ := zb_i hf
    refine z_ok (z_runV (As := [.int p0]) (rest := [.ref (G 0 0)]) F k_X4_tries m_1098 (c_X4_tries p0 T1 T7 _ h9) hP hS (zV_m (by decide)) rfl rfl rfl rfl hl.1 (Nat.le_of_ble_eq_true rfl) dX4_drawsNeeded_11 (Nat.le_of_ble_eq_true rfl) ⟨Nat.le_of_ble_eq_true rfl, Nat.le_of_ble_eq_true rfl⟩ rfl) hS (fun H locs hP hS => ?_)
    obtain ⟨v11, T10, h12, hf⟩ := zb_i hf
    refine z_ok (z_runV (As := [.int v8]) (rest := []) F k_X4_told m_1230 (c_X4_told v8 T7 T10 _ h12) hP hS (zV_m (by decide)) rfl rfl rfl rfl hl.1 (Nat.le_of_ble_eq_true rfl) dX4_drawsNeeded_14 (Nat.le_of_ble_eq_true rfl) ⟨Nat.le_of_ble_eq_true rfl, Nat.le_of_ble_eq_true rfl⟩ rfl) hS (fun H locs hP hS => ?_)
    refine lv_goto (tgt := 25) hx hb dX4_drawsNeeded_17 (by decide) ?_
    obtain ⟨q1, q2⟩ := zs_i hf
    subst q1; subst q2
    exact z_iret hx hb hr rfl hP hS hlocks (Nat.le_of_ble_eq_true rfl) (Nat.le_of_ble_eq_true rfl) dX4_drawsNeeded_25

def f_X4_candlesAfter (p0 : Int32) (T : zT) : Option (Int32 × zT) := zb (f_X4_in p0 0 720 T) fun v2 T1 => (if v2 = 0 then zb (f_X4_refuse 1 T1) fun v19 T18 => some (v19, T18) else zb (f_X4_putsAside T1) fun _v5 T4 => zb (f_X4_passes p0 T4) fun v8 T7 => zl (T7.2 2 0 3) fun x11 => zb (f_X4_putsBack T7) fun _v13 T12 => zb (f_X4_told x11 T12) fun v16 T15 => some (v16, T15))
set_option maxHeartbeats 4000000 in
set_option maxRecDepth 100000 in
theorem c_X4_candlesAfter (p0 : Int32) (T T' : zT) (v : Int32) (hf : f_X4_candlesAfter p0 T = some (v, T')) : zC 1 yX4_candlesAfter cX4_candlesAfter 4 (some .int) 6  0 0  (fun G _ => [.ref (G 0 0), .int p0]) T (fun _ => .inl (some (.int v))) T' := by
  intro l D Y S V G A hl9 hG
  refine vx_ofW (cc := cX4_candlesAfter) (maxL := 4) (ret := (some .int)) (by decide) rfl ?_
  intro p e s m args below meth c s₁ B hml hex hv
  obtain ⟨rfl, hK, hP, hA⟩ := hv
  have hx := B.exec
  have hb := B.bytes
  have hr := B.returns
  have hlocks := B.notSynchronized
  have hown : s.vm.findClass RX4 = some m.cls := findClass_of_methodNamed B.named
  have hts := atoms_spec (ws := Cond.code yX4_candlesAfter cX4_candlesAfter 4 (some .int) :: zWS) B.pre
  have F : zF 1 6  0 0  p l s m _ c cX4_candlesAfter 4 RX4 (Cond.code yX4_candlesAfter cX4_candlesAfter 4 (some .int)) D Y S V G A := ⟨hx, hb, hml, hown, hts, hl9, hG, hK, hA⟩
  have hS : va_S A s.heap s.heap [] := va_S.rf
  have hl := lv_entry ([.ref (G 0 0), .int p0]) (n := 4) (Nat.le_of_ble_eq_true rfl)
  rw [lg_entry_eq]
  generalize (lg_sl ([.ref (G 0 0), .int p0]) ++ List.replicate (4 - (lg_sl ([.ref (G 0 0), .int p0])).length) Slot.unset).toArray = ls at hl ⊢
  have hl : lv_has ls 4 [(0, .ref (G 0 0)), (1, .int p0)] := hl
  unfold f_X4_candlesAfter at hf
  refine lv_iload_n hx hb dX4_candlesAfter_0 rfl (lv_at hl 1 rfl) ?_
  refine lv_iconst (v := 0) hx hb dX4_candlesAfter_1 (by decide) ?_
  refine lv_sipush (v := 720) hx hb dX4_candlesAfter_2 (by decide) ?_
  obtain ⟨v2, T1, h3, hf⟩ := zb_i hf
  refine z_ok (z_runS (As := [.int p0, .int 0, .int 720]) (rest := []) F k_X4_in m_1238 (c_X4_in p0 0 720 T T1 _ h3) hP hS rfl rfl hl.1 (Nat.le_of_ble_eq_true rfl) dX4_candlesAfter_5 (Nat.le_of_ble_eq_true rfl) ⟨Nat.le_of_ble_eq_true rfl, Nat.le_of_ble_eq_true rfl⟩ rfl) hS (fun H locs hP hS => ?_)
  refine lv_if_ne (tgt := 17) hx hb dX4_candlesAfter_8 (by decide) (fun hc => ?_) (fun hc => ?_)
  · have hf := zif_n hf hc
    refine lv_aload_n hx hb dX4_candlesAfter_17 rfl (lv_at hl 0 rfl) ?_
    obtain ⟨v5, T4, h6, hf⟩ := zb_i hf
    refine z_ok (z_runV (As := []) (rest := []) F k_X4_putsAside m_1241 (c_X4_putsAside T1 T4 _ h6) hP hS (zV_m (by decide)) rfl rfl rfl rfl hl.1 (Nat.le_of_ble_eq_true rfl) dX4_candlesAfter_18 (Nat.le_of_ble_eq_true rfl) ⟨Nat.le_of_ble_eq_true rfl, Nat.le_of_ble_eq_true rfl⟩ rfl) hS (fun H locs hP hS => ?_)
    refine lv_aload_n hx hb dX4_candlesAfter_21 rfl (lv_at hl 0 rfl) ?_
    refine lv_iload_n hx hb dX4_candlesAfter_22 rfl (lv_at hl 1 rfl) ?_
    obtain ⟨v8, T7, h9, hf⟩ := zb_i hf
    refine z_ok (z_runV (As := [.int p0]) (rest := []) F k_X4_passes m_1121 (c_X4_passes p0 T4 T7 _ h9) hP hS (zV_m (by decide)) rfl rfl rfl rfl hl.1 (Nat.le_of_ble_eq_true rfl) dX4_candlesAfter_23 (Nat.le_of_ble_eq_true rfl) ⟨Nat.le_of_ble_eq_true rfl, Nat.le_of_ble_eq_true rfl⟩ rfl) hS (fun H locs hP hS => ?_)
    refine lv_istore_n (lv' := [(2, .int v8), (0, .ref (G 0 0)), (1, .int p0)]) hx hb dX4_candlesAfter_26 rfl hl (by decide) rfl (fun ls hl => ?_)
    refine lv_aload_n hx hb dX4_candlesAfter_27 rfl (lv_at hl 1 rfl) ?_
    refine z_get hx hb hts (fun w h => List.mem_cons_of_mem _ (ziX4 w h)) hown hK hP (zV_m (by decide)) rfl rfl 2 (by decide) (List.mem_cons_of_mem _ m_1143) rfl rfl dX4_candlesAfter_28 ?_
    refine lv_iconst (v := 3) hx hb dX4_candlesAfter_31 (by decide) ?_
    refine z_iald_ (j := 3) hx hb hK hP (zIA_m (by decide) (by decide)) (by decide) (by decide) dX4_candlesAfter_32 ?_
    obtain ⟨x11, ex11, hf⟩ := zl_i hf
    refine z_topi ex11 ?_
    refine lv_istore_n (lv' := [(3, .int x11), (2, .int v8), (0, .ref (G 0 0)), (1, .int p0)]) hx hb dX4_candlesAfter_33 rfl hl (by decide) rfl (fun ls hl => ?_)
    refine lv_aload_n hx hb dX4_candlesAfter_34 rfl (lv_at hl 2 rfl) ?_
    obtain ⟨v13, T12, h14, hf⟩ := zb_i hf
    refine z_ok (z_runV (As := []) (rest := []) F k_X4_putsBack m_1327 (c_X4_putsBack T7 T12 _ h14) hP hS (zV_m (by decide)) rfl rfl rfl rfl hl.1 (Nat.le_of_ble_eq_true rfl) dX4_candlesAfter_35 (Nat.le_of_ble_eq_true rfl) ⟨Nat.le_of_ble_eq_true rfl, Nat.le_of_ble_eq_true rfl⟩ rfl) hS (fun H locs hP hS => ?_)
    refine lv_aload_n hx hb dX4_candlesAfter_38 rfl (lv_at hl 2 rfl) ?_
    refine lv_iload_n hx hb dX4_candlesAfter_39 rfl (lv_at hl 0 rfl) ?_
    obtain ⟨v16, T15, h17, hf⟩ := zb_i hf
    refine z_ok (z_runV (As := [.int x11]) (rest := []) F k_X4_told m_1230 (c_X4_told x11 T12 T15 _ h17) hP hS (zV_m (by decide)) rfl rfl rfl rfl hl.1 (Nat.le_of_ble_eq_true rfl) dX4_candlesAfter_40 (Nat.le_of_ble_eq_true rfl) ⟨Nat.le_of_ble_eq_true rfl, Nat.le_of_ble_eq_true rfl⟩ rfl) hS (fun H locs hP hS => ?_)
    obtain ⟨q1, q2⟩ := zs_i hf
    subst q1; subst q2
    exact z_iret hx hb hr rfl hP hS hlocks (Nat.le_of_ble_eq_true rfl) (Nat.le_of_ble_eq_true rfl) dX4_candlesAfter_43
  · have hf := zif_p hf hc
    refine lv_aload_n hx hb dX4_candlesAfter_11 rfl (lv_at hl 0 rfl) ?_
    refine lv_iconst (v := 1) hx hb dX4_candlesAfter_12 (by decide) ?_
    obtain ⟨v19, T18, h20, hf⟩ := zb_i hf
    refine z_ok (z_runV (As := [.int 1]) (rest := []) F k_X4_refuse m_1222 (c_X4_refuse 1 T1 T18 _ h20) hP hS (zV_m (by decide)) rfl rfl rfl rfl hl.1 (Nat.le_of_ble_eq_true rfl) dX4_candlesAfter_13 (Nat.le_of_ble_eq_true rfl) ⟨Nat.le_of_ble_eq_true rfl, Nat.le_of_ble_eq_true rfl⟩ rfl) hS (fun H locs hP hS => ?_)
    obtain ⟨q1, q2⟩ := zs_i hf
    subst q1; subst q2
    exact z_iret hx hb hr rfl hP hS hlocks (Nat.le_of_ble_eq_true rfl) (Nat.le_of_ble_eq_true rfl) dX4_candlesAfter_16

def f_X4_wishesAfter (p0 : Int32) (p1 : Int32) (T : zT) : Option (Int32 × zT) := zb (f_X4_isChild p0 T) fun v2 T1 => (if v2 = 0 then zb (f_X4_refuse 1 T1) fun v29 T28 => some (v29, T28) else zb (f_X4_in p1 0 720 T1) fun v5 T4 => (if v5 = 0 then zb (f_X4_refuse 2 T4) fun v26 T25 => some (v26, T25) else zb (f_X4_putsAside T4) fun _v8 T7 => zb (f_X4_passes p1 T7) fun v11 T10 => zb (f_X4_c p0 T10) fun v14 T13 => zl (v14 + 6) fun x17 => if zin x17 151 = true then zl (T13.2 2 0 x17.toNatClampNeg) fun x18 => zb (f_X4_putsBack T13) fun _v20 T19 => zb (f_X4_told x18 T19) fun v23 T22 => some (v23, T22) else none))
set_option maxHeartbeats 4000000 in
set_option maxRecDepth 100000 in
theorem c_X4_wishesAfter (p0 : Int32) (p1 : Int32) (T T' : zT) (v : Int32) (hf : f_X4_wishesAfter p0 p1 T = some (v, T')) : zC 1 yX4_wishesAfter cX4_wishesAfter 5 (some .int) 6  0 0  (fun G _ => [.ref (G 0 0), .int p0, .int p1]) T (fun _ => .inl (some (.int v))) T' := by
  intro l D Y S V G A hl9 hG
  refine vx_ofW (cc := cX4_wishesAfter) (maxL := 5) (ret := (some .int)) (by decide) rfl ?_
  intro p e s m args below meth c s₁ B hml hex hv
  obtain ⟨rfl, hK, hP, hA⟩ := hv
  have hx := B.exec
  have hb := B.bytes
  have hr := B.returns
  have hlocks := B.notSynchronized
  have hown : s.vm.findClass RX4 = some m.cls := findClass_of_methodNamed B.named
  have hts := atoms_spec (ws := Cond.code yX4_wishesAfter cX4_wishesAfter 5 (some .int) :: zWS) B.pre
  have F : zF 1 6  0 0  p l s m _ c cX4_wishesAfter 5 RX4 (Cond.code yX4_wishesAfter cX4_wishesAfter 5 (some .int)) D Y S V G A := ⟨hx, hb, hml, hown, hts, hl9, hG, hK, hA⟩
  have hS : va_S A s.heap s.heap [] := va_S.rf
  have hl := lv_entry ([.ref (G 0 0), .int p0, .int p1]) (n := 5) (Nat.le_of_ble_eq_true rfl)
  rw [lg_entry_eq]
  generalize (lg_sl ([.ref (G 0 0), .int p0, .int p1]) ++ List.replicate (5 - (lg_sl ([.ref (G 0 0), .int p0, .int p1])).length) Slot.unset).toArray = ls at hl ⊢
  have hl : lv_has ls 5 [(0, .ref (G 0 0)), (1, .int p0), (2, .int p1)] := hl
  unfold f_X4_wishesAfter at hf
  refine lv_aload_n hx hb dX4_wishesAfter_0 rfl (lv_at hl 0 rfl) ?_
  refine lv_iload_n hx hb dX4_wishesAfter_1 rfl (lv_at hl 1 rfl) ?_
  obtain ⟨v2, T1, h3, hf⟩ := zb_i hf
  refine z_ok (z_runV (As := [.int p0]) (rest := []) F k_X4_isChild m_1410 (c_X4_isChild p0 T T1 _ h3) hP hS (zV_m (by decide)) rfl rfl rfl rfl hl.1 (Nat.le_of_ble_eq_true rfl) dX4_wishesAfter_2 (Nat.le_of_ble_eq_true rfl) ⟨Nat.le_of_ble_eq_true rfl, Nat.le_of_ble_eq_true rfl⟩ rfl) hS (fun H locs hP hS => ?_)
  refine lv_if_ne (tgt := 14) hx hb dX4_wishesAfter_5 (by decide) (fun hc => ?_) (fun hc => ?_)
  · have hf := zif_n hf hc
    refine lv_iload_n hx hb dX4_wishesAfter_14 rfl (lv_at hl 2 rfl) ?_
    refine lv_iconst (v := 0) hx hb dX4_wishesAfter_15 (by decide) ?_
    refine lv_sipush (v := 720) hx hb dX4_wishesAfter_16 (by decide) ?_
    obtain ⟨v5, T4, h6, hf⟩ := zb_i hf
    refine z_ok (z_runS (As := [.int p1, .int 0, .int 720]) (rest := []) F k_X4_in m_1238 (c_X4_in p1 0 720 T1 T4 _ h6) hP hS rfl rfl hl.1 (Nat.le_of_ble_eq_true rfl) dX4_wishesAfter_19 (Nat.le_of_ble_eq_true rfl) ⟨Nat.le_of_ble_eq_true rfl, Nat.le_of_ble_eq_true rfl⟩ rfl) hS (fun H locs hP hS => ?_)
    refine lv_if_ne (tgt := 31) hx hb dX4_wishesAfter_22 (by decide) (fun hc => ?_) (fun hc => ?_)
    · have hf := zif_n hf hc
      refine lv_aload_n hx hb dX4_wishesAfter_31 rfl (lv_at hl 0 rfl) ?_
      obtain ⟨v8, T7, h9, hf⟩ := zb_i hf
      refine z_ok (z_runV (As := []) (rest := []) F k_X4_putsAside m_1241 (c_X4_putsAside T4 T7 _ h9) hP hS (zV_m (by decide)) rfl rfl rfl rfl hl.1 (Nat.le_of_ble_eq_true rfl) dX4_wishesAfter_32 (Nat.le_of_ble_eq_true rfl) ⟨Nat.le_of_ble_eq_true rfl, Nat.le_of_ble_eq_true rfl⟩ rfl) hS (fun H locs hP hS => ?_)
      refine lv_aload_n hx hb dX4_wishesAfter_35 rfl (lv_at hl 0 rfl) ?_
      refine lv_iload_n hx hb dX4_wishesAfter_36 rfl (lv_at hl 2 rfl) ?_
      obtain ⟨v11, T10, h12, hf⟩ := zb_i hf
      refine z_ok (z_runV (As := [.int p1]) (rest := []) F k_X4_passes m_1121 (c_X4_passes p1 T7 T10 _ h12) hP hS (zV_m (by decide)) rfl rfl rfl rfl hl.1 (Nat.le_of_ble_eq_true rfl) dX4_wishesAfter_37 (Nat.le_of_ble_eq_true rfl) ⟨Nat.le_of_ble_eq_true rfl, Nat.le_of_ble_eq_true rfl⟩ rfl) hS (fun H locs hP hS => ?_)
      refine lv_istore_n (lv' := [(3, .int v11), (0, .ref (G 0 0)), (1, .int p0), (2, .int p1)]) hx hb dX4_wishesAfter_40 rfl hl (by decide) rfl (fun ls hl => ?_)
      refine lv_aload_n hx hb dX4_wishesAfter_41 rfl (lv_at hl 1 rfl) ?_
      refine z_get hx hb hts (fun w h => List.mem_cons_of_mem _ (ziX4 w h)) hown hK hP (zV_m (by decide)) rfl rfl 2 (by decide) (List.mem_cons_of_mem _ m_1143) rfl rfl dX4_wishesAfter_42 ?_
      refine lv_iload_n hx hb dX4_wishesAfter_45 rfl (lv_at hl 2 rfl) ?_
      obtain ⟨v14, T13, h15, hf⟩ := zb_i hf
      refine z_ok (z_runS (As := [.int p0]) (rest := [.ref (G 2 0)]) F k_X4_c m_1095 (c_X4_c p0 T10 T13 _ h15) hP hS rfl rfl hl.1 (Nat.le_of_ble_eq_true rfl) dX4_wishesAfter_46 (Nat.le_of_ble_eq_true rfl) ⟨Nat.le_of_ble_eq_true rfl, Nat.le_of_ble_eq_true rfl⟩ rfl) hS (fun H locs hP hS => ?_)
      refine lv_bipush (v := 6) hx hb dX4_wishesAfter_49 (by decide) ?_
      refine lv_iadd hx hb dX4_wishesAfter_51 ?_
      obtain ⟨x17, ex17, hf⟩ := zl_i hf
      refine z_topi ex17 ?_
      obtain ⟨h16, hf⟩ := zif_c hf
      refine z_iald hx hb hK hP (zIA_m (by decide) (by decide)) (zin_i h16) dX4_wishesAfter_52 ?_
      obtain ⟨x18, ex18, hf⟩ := zl_i hf
      refine z_topi ex18 ?_
      refine lv_istore (lv' := [(4, .int x18), (3, .int v11), (0, .ref (G 0 0)), (1, .int p0), (2, .int p1)]) hx hb dX4_wishesAfter_53 hl (by decide) rfl (fun ls hl => ?_)
      refine lv_aload_n hx hb dX4_wishesAfter_55 rfl (lv_at hl 2 rfl) ?_
      obtain ⟨v20, T19, h21, hf⟩ := zb_i hf
      refine z_ok (z_runV (As := []) (rest := []) F k_X4_putsBack m_1327 (c_X4_putsBack T13 T19 _ h21) hP hS (zV_m (by decide)) rfl rfl rfl rfl hl.1 (Nat.le_of_ble_eq_true rfl) dX4_wishesAfter_56 (Nat.le_of_ble_eq_true rfl) ⟨Nat.le_of_ble_eq_true rfl, Nat.le_of_ble_eq_true rfl⟩ rfl) hS (fun H locs hP hS => ?_)
      refine lv_aload_n hx hb dX4_wishesAfter_59 rfl (lv_at hl 2 rfl) ?_
      refine lv_iload hx hb dX4_wishesAfter_60 (lv_at hl 0 rfl) ?_
      obtain ⟨v23, T22, h24, hf⟩ := zb_i hf
      refine z_ok (z_runV (As := [.int x18]) (rest := []) F k_X4_told m_1230 (c_X4_told x18 T19 T22 _ h24) hP hS (zV_m (by decide)) rfl rfl rfl rfl hl.1 (Nat.le_of_ble_eq_true rfl) dX4_wishesAfter_62 (Nat.le_of_ble_eq_true rfl) ⟨Nat.le_of_ble_eq_true rfl, Nat.le_of_ble_eq_true rfl⟩ rfl) hS (fun H locs hP hS => ?_)
      obtain ⟨q1, q2⟩ := zs_i hf
      subst q1; subst q2
      exact z_iret hx hb hr rfl hP hS hlocks (Nat.le_of_ble_eq_true rfl) (Nat.le_of_ble_eq_true rfl) dX4_wishesAfter_65
    · have hf := zif_p hf hc
      refine lv_aload_n hx hb dX4_wishesAfter_25 rfl (lv_at hl 0 rfl) ?_
      refine lv_iconst (v := 2) hx hb dX4_wishesAfter_26 (by decide) ?_
      obtain ⟨v26, T25, h27, hf⟩ := zb_i hf
      refine z_ok (z_runV (As := [.int 2]) (rest := []) F k_X4_refuse m_1222 (c_X4_refuse 2 T4 T25 _ h27) hP hS (zV_m (by decide)) rfl rfl rfl rfl hl.1 (Nat.le_of_ble_eq_true rfl) dX4_wishesAfter_27 (Nat.le_of_ble_eq_true rfl) ⟨Nat.le_of_ble_eq_true rfl, Nat.le_of_ble_eq_true rfl⟩ rfl) hS (fun H locs hP hS => ?_)
      obtain ⟨q1, q2⟩ := zs_i hf
      subst q1; subst q2
      exact z_iret hx hb hr rfl hP hS hlocks (Nat.le_of_ble_eq_true rfl) (Nat.le_of_ble_eq_true rfl) dX4_wishesAfter_30
  · have hf := zif_p hf hc
    refine lv_aload_n hx hb dX4_wishesAfter_8 rfl (lv_at hl 0 rfl) ?_
    refine lv_iconst (v := 1) hx hb dX4_wishesAfter_9 (by decide) ?_
    obtain ⟨v29, T28, h30, hf⟩ := zb_i hf
    refine z_ok (z_runV (As := [.int 1]) (rest := []) F k_X4_refuse m_1222 (c_X4_refuse 1 T1 T28 _ h30) hP hS (zV_m (by decide)) rfl rfl rfl rfl hl.1 (Nat.le_of_ble_eq_true rfl) dX4_wishesAfter_10 (Nat.le_of_ble_eq_true rfl) ⟨Nat.le_of_ble_eq_true rfl, Nat.le_of_ble_eq_true rfl⟩ rfl) hS (fun H locs hP hS => ?_)
    obtain ⟨q1, q2⟩ := zs_i hf
    subst q1; subst q2
    exact z_iret hx hb hr rfl hP hS hlocks (Nat.le_of_ble_eq_true rfl) (Nat.le_of_ble_eq_true rfl) dX4_wishesAfter_13

def f_X4_heldParties  (T : zT) : Option (Int32 × zT) := zb (f_X4_told (T.2 2 0 9) T) fun v3 T2 => some (v3, T2)
set_option maxHeartbeats 4000000 in
set_option maxRecDepth 100000 in
theorem c_X4_heldParties  (T T' : zT) (v : Int32) (hf : f_X4_heldParties  T = some (v, T')) : zC 1 yX4_heldParties cX4_heldParties 1 (some .int) 1  0 0  (fun G _ => [.ref (G 0 0)]) T (fun _ => .inl (some (.int v))) T' := by
  intro l D Y S V G A hl9 hG
  refine vx_ofW (cc := cX4_heldParties) (maxL := 1) (ret := (some .int)) (by decide) rfl ?_
  intro p e s m args below meth c s₁ B hml hex hv
  obtain ⟨rfl, hK, hP, hA⟩ := hv
  have hx := B.exec
  have hb := B.bytes
  have hr := B.returns
  have hlocks := B.notSynchronized
  have hown : s.vm.findClass RX4 = some m.cls := findClass_of_methodNamed B.named
  have hts := atoms_spec (ws := Cond.code yX4_heldParties cX4_heldParties 1 (some .int) :: zWS) B.pre
  have F : zF 1 1  0 0  p l s m _ c cX4_heldParties 1 RX4 (Cond.code yX4_heldParties cX4_heldParties 1 (some .int)) D Y S V G A := ⟨hx, hb, hml, hown, hts, hl9, hG, hK, hA⟩
  have hS : va_S A s.heap s.heap [] := va_S.rf
  have hl := lv_entry ([.ref (G 0 0)]) (n := 1) (Nat.le_of_ble_eq_true rfl)
  rw [lg_entry_eq]
  generalize (lg_sl ([.ref (G 0 0)]) ++ List.replicate (1 - (lg_sl ([.ref (G 0 0)])).length) Slot.unset).toArray = ls at hl ⊢
  have hl : lv_has ls 1 [(0, .ref (G 0 0))] := hl
  unfold f_X4_heldParties at hf
  refine lv_aload_n hx hb dX4_heldParties_0 rfl (lv_at hl 0 rfl) ?_
  refine lv_aload_n hx hb dX4_heldParties_1 rfl (lv_at hl 0 rfl) ?_
  refine z_get hx hb hts (fun w h => List.mem_cons_of_mem _ (ziX4 w h)) hown hK hP (zV_m (by decide)) rfl rfl 2 (by decide) (List.mem_cons_of_mem _ m_1143) rfl rfl dX4_heldParties_2 ?_
  refine lv_bipush (v := 9) hx hb dX4_heldParties_5 (by decide) ?_
  refine z_iald_ (j := 9) hx hb hK hP (zIA_m (by decide) (by decide)) (by decide) (by decide) dX4_heldParties_7 ?_
  obtain ⟨v3, T2, h4, hf⟩ := zb_i hf
  refine z_ok (z_runV (As := [.int (T.2 2 0 9)]) (rest := []) F k_X4_told m_1230 (c_X4_told (T.2 2 0 9) T T2 _ h4) hP hS (zV_m (by decide)) rfl rfl rfl rfl hl.1 (Nat.le_of_ble_eq_true rfl) dX4_heldParties_8 (Nat.le_of_ble_eq_true rfl) ⟨Nat.le_of_ble_eq_true rfl, Nat.le_of_ble_eq_true rfl⟩ rfl) hS (fun H locs hP hS => ?_)
  obtain ⟨q1, q2⟩ := zs_i hf
  subst q1; subst q2
  exact z_iret hx hb hr rfl hP hS hlocks (Nat.le_of_ble_eq_true rfl) (Nat.le_of_ble_eq_true rfl) dX4_heldParties_11

def f_X4_failedParties  (T : zT) : Option (Int32 × zT) := zb (f_X4_told (T.2 2 0 10) T) fun v3 T2 => some (v3, T2)
set_option maxHeartbeats 4000000 in
set_option maxRecDepth 100000 in
theorem c_X4_failedParties  (T T' : zT) (v : Int32) (hf : f_X4_failedParties  T = some (v, T')) : zC 1 yX4_failedParties cX4_failedParties 1 (some .int) 1  0 0  (fun G _ => [.ref (G 0 0)]) T (fun _ => .inl (some (.int v))) T' := by
  intro l D Y S V G A hl9 hG
  refine vx_ofW (cc := cX4_failedParties) (maxL := 1) (ret := (some .int)) (by decide) rfl ?_
  intro p e s m args below meth c s₁ B hml hex hv
  obtain ⟨rfl, hK, hP, hA⟩ := hv
  have hx := B.exec
  have hb := B.bytes
  have hr := B.returns
  have hlocks := B.notSynchronized
  have hown : s.vm.findClass RX4 = some m.cls := findClass_of_methodNamed B.named
  have hts := atoms_spec (ws := Cond.code yX4_failedParties cX4_failedParties 1 (some .int) :: zWS) B.pre
  have F : zF 1 1  0 0  p l s m _ c cX4_failedParties 1 RX4 (Cond.code yX4_failedParties cX4_failedParties 1 (some .int)) D Y S V G A := ⟨hx, hb, hml, hown, hts, hl9, hG, hK, hA⟩
  have hS : va_S A s.heap s.heap [] := va_S.rf
  have hl := lv_entry ([.ref (G 0 0)]) (n := 1) (Nat.le_of_ble_eq_true rfl)
  rw [lg_entry_eq]
  generalize (lg_sl ([.ref (G 0 0)]) ++ List.replicate (1 - (lg_sl ([.ref (G 0 0)])).length) Slot.unset).toArray = ls at hl ⊢
  have hl : lv_has ls 1 [(0, .ref (G 0 0))] := hl
  unfold f_X4_failedParties at hf
  refine lv_aload_n hx hb dX4_failedParties_0 rfl (lv_at hl 0 rfl) ?_
  refine lv_aload_n hx hb dX4_failedParties_1 rfl (lv_at hl 0 rfl) ?_
  refine z_get hx hb hts (fun w h => List.mem_cons_of_mem _ (ziX4 w h)) hown hK hP (zV_m (by decide)) rfl rfl 2 (by decide) (List.mem_cons_of_mem _ m_1143) rfl rfl dX4_failedParties_2 ?_
  refine lv_bipush (v := 10) hx hb dX4_failedParties_5 (by decide) ?_
  refine z_iald_ (j := 10) hx hb hK hP (zIA_m (by decide) (by decide)) (by decide) (by decide) dX4_failedParties_7 ?_
  obtain ⟨v3, T2, h4, hf⟩ := zb_i hf
  refine z_ok (z_runV (As := [.int (T.2 2 0 10)]) (rest := []) F k_X4_told m_1230 (c_X4_told (T.2 2 0 10) T T2 _ h4) hP hS (zV_m (by decide)) rfl rfl rfl rfl hl.1 (Nat.le_of_ble_eq_true rfl) dX4_failedParties_8 (Nat.le_of_ble_eq_true rfl) ⟨Nat.le_of_ble_eq_true rfl, Nat.le_of_ble_eq_true rfl⟩ rfl) hS (fun H locs hP hS => ?_)
  obtain ⟨q1, q2⟩ := zs_i hf
  subst q1; subst q2
  exact z_iret hx hb hr rfl hP hS hlocks (Nat.le_of_ble_eq_true rfl) (Nat.le_of_ble_eq_true rfl) dX4_failedParties_11

def lp_X4_clashes_16 (w2 : Int32) : Nat → Int32 → Int32 → zT → Option ((Int32 × Int32) × zT)
  | 0, _, _, _ => none
  | n + 1, u1, u3, T => (if w2 ≤ u3 then some ((u1, u3), T) else zb (f_X4_c w2 T) fun v3 T2 => zl (v3 + 4) fun x6 => if zin x6 151 = true then zb (f_X4_c u3 T2) fun v8 T7 => zl (v8 + 4) fun x11 => if zin x11 151 = true then (if (T2.2 2 0 x6.toNatClampNeg) = (T7.2 2 0 x11.toNatClampNeg) then zb (f_X4_c w2 T7) fun v22 T21 => zl (v22 + 3) fun x25 => if zin x25 151 = true then zb (f_X4_c u3 T21) fun v27 T26 => zl (v27 + 3) fun x30 => if zin x30 151 = true then (if (T21.2 2 0 x25.toNatClampNeg) = (T26.2 2 0 x30.toNatClampNeg) then zb (f_X4_hasBirthday w2 T26) fun v41 T40 => (if v41 = 0 then zl (u1 + 0) fun x43 => zl (u3 + 1) fun x44 => lp_X4_clashes_16 w2 n x43 x44 T40 else (if (1 : Int32) = 0 then zl (u1 + 0) fun x45 => zl (u3 + 1) fun x46 => lp_X4_clashes_16 w2 n x45 x46 T40 else zl (u1 + 1) fun x47 => zl (u3 + 1) fun x48 => lp_X4_clashes_16 w2 n x47 x48 T40)) else zb (f_X4_hasBirthday w2 T26) fun v32 T31 => (if v32 = 0 then zl (u1 + 0) fun x34 => zl (u3 + 1) fun x35 => lp_X4_clashes_16 w2 n x34 x35 T31 else (if (0 : Int32) = 0 then zl (u1 + 0) fun x36 => zl (u3 + 1) fun x37 => lp_X4_clashes_16 w2 n x36 x37 T31 else zl (u1 + 1) fun x38 => zl (u3 + 1) fun x39 => lp_X4_clashes_16 w2 n x38 x39 T31))) else none else none else zb (f_X4_hasBirthday w2 T7) fun v13 T12 => (if v13 = 0 then zl (u1 + 0) fun x15 => zl (u3 + 1) fun x16 => lp_X4_clashes_16 w2 n x15 x16 T12 else (if (0 : Int32) = 0 then zl (u1 + 0) fun x17 => zl (u3 + 1) fun x18 => lp_X4_clashes_16 w2 n x17 x18 T12 else zl (u1 + 1) fun x19 => zl (u3 + 1) fun x20 => lp_X4_clashes_16 w2 n x19 x20 T12))) else none else none)
def lp_X4_clashes_4  : Nat → Int32 → Int32 → zT → Option ((Int32 × Int32) × zT)
  | 0, _, _, _ => none
  | n + 1, u1, u2, T => (if (T.2 2 0 5) ≤ u2 then some ((u1, u2), T) else zb (lp_X4_clashes_16 u2 2000 u1 0 T) fun v50 T49 => zl (u2 + 1) fun x52 => lp_X4_clashes_4 n v50.1 x52 T49)
def f_X4_clashes  (T : zT) : Option (Int32 × zT) := zb (lp_X4_clashes_4 2000 0 0 T) fun v54 T53 => zb (f_X4_told v54.1 T53) fun v57 T56 => some (v57, T56)
set_option maxHeartbeats 4000000 in
set_option maxRecDepth 100000 in
theorem l_X4_clashes_16 {p : Program} {l : Launch} {e : Env} {s : State} {m : MethodId} {args : Array Value} {below : List Frame} {meth : Method} {c : Code} {Q : State → Prop} {D : va_G} {Y : Nat → ClassId} {S V : Nat → Nat} {G : Nat → Nat → Nat} {A : Nat → Prop} {c0 : Cond} {mc ms cells slots : Nat} (F : zF 1 2 mc ms p l s m args c cX4_clashes 5 RX4 c0 D Y S V G A) (hcs : cells ≤ mc ∧ slots ≤ ms) (w2 : Int32) :
    ∀ (n : Nat) (u1 : Int32) (u3 : Int32) (T : zT) (o : (Int32 × Int32) × zT) (H : Heap) (locs : List Loc) (ls : Array Slot), lp_X4_clashes_16 w2 n u1 u3 T = some o → zP 1 D Y G T H → va_S A s.heap H locs → lv_has ls 5 [(0, .ref (G 0 0)), (1, .int u1), (2, .int w2), (3, .int u3)] → (∀ (H : Heap) (locs : List Loc) (ls : Array Slot), zP 1 D Y G o.2 H → va_S A s.heap H locs → lv_has ls 5 [(0, .ref (G 0 0)), (1, .int o.1.1), (2, .int w2), (3, .int o.1.2)] → W p l e (zR 2 mc ms) s m args below meth c H locs cells slots Q (F0 m 105 ls [])) → W p l e (zR 2 mc ms) s m args below meth c H locs cells slots Q (F0 m 16 ls []) := by
  obtain ⟨hx, hb, hml, hown, hts, hl9, hG, hK, hA⟩ := id F
  intro n
  induction n with
  | zero =>
    intro u1 u3 T o H locs ls hf
    rw [lp_X4_clashes_16] at hf
    cases hf
  | succ n ih =>
    intro u1 u3 T o H locs ls hf hP hS hl k0_
    rw [lp_X4_clashes_16] at hf
    refine lv_iload_n hx hb dX4_clashes_16 rfl (lv_at hl 3 rfl) ?_
    refine lv_iload_n hx hb dX4_clashes_17 rfl (lv_at hl 2 rfl) ?_
    refine lv_icmp_ge (tgt := 105) hx hb dX4_clashes_18 (by decide) (fun hc => ?_) (fun hc => ?_)
    · have hf := zif_p hf hc
      cases hf
      exact k0_ _ _ _ hP hS (lv_sub hl [0, 1, 2, 3] rfl)
    · have hf := zif_n hf hc
      refine lv_aload_n hx hb dX4_clashes_21 rfl (lv_at hl 0 rfl) ?_
      refine z_get hx hb hts (fun w h => List.mem_cons_of_mem _ (ziX4 w h)) hown hK hP (zV_m (by decide)) rfl rfl 2 (by decide) (List.mem_cons_of_mem _ m_1143) rfl rfl dX4_clashes_22 ?_
      refine lv_iload_n hx hb dX4_clashes_25 rfl (lv_at hl 2 rfl) ?_
      obtain ⟨v3, T2, h4, hf⟩ := zb_i hf
      refine z_ok (z_runS (As := [.int w2]) (rest := [.ref (G 2 0)]) F k_X4_c m_1095 (c_X4_c w2 T T2 _ h4) hP hS rfl rfl hl.1 (Nat.le_of_ble_eq_true rfl) dX4_clashes_26 (Nat.le_of_ble_eq_true rfl) ⟨hcs.1, hcs.2⟩ rfl) hS (fun H locs hP hS => ?_)
      refine lv_iconst (v := 4) hx hb dX4_clashes_29 (by decide) ?_
      refine lv_iadd hx hb dX4_clashes_30 ?_
      obtain ⟨x6, ex6, hf⟩ := zl_i hf
      refine z_topi ex6 ?_
      obtain ⟨h5, hf⟩ := zif_c hf
      refine z_iald hx hb hK hP (zIA_m (by decide) (by decide)) (zin_i h5) dX4_clashes_31 ?_
      refine lv_aload_n hx hb dX4_clashes_32 rfl (lv_at hl 0 rfl) ?_
      refine z_get hx hb hts (fun w h => List.mem_cons_of_mem _ (ziX4 w h)) hown hK hP (zV_m (by decide)) rfl rfl 2 (by decide) (List.mem_cons_of_mem _ m_1143) rfl rfl dX4_clashes_33 ?_
      refine lv_iload_n hx hb dX4_clashes_36 rfl (lv_at hl 3 rfl) ?_
      obtain ⟨v8, T7, h9, hf⟩ := zb_i hf
      refine z_ok (z_runS (As := [.int u3]) (rest := [.ref (G 2 0), .int (T2.2 2 0 x6.toNatClampNeg)]) F k_X4_c m_1095 (c_X4_c u3 T2 T7 _ h9) hP hS rfl rfl hl.1 (Nat.le_of_ble_eq_true rfl) dX4_clashes_37 (Nat.le_of_ble_eq_true rfl) ⟨hcs.1, hcs.2⟩ rfl) hS (fun H locs hP hS => ?_)
      refine lv_iconst (v := 4) hx hb dX4_clashes_40 (by decide) ?_
      refine lv_iadd hx hb dX4_clashes_41 ?_
      obtain ⟨x11, ex11, hf⟩ := zl_i hf
      refine z_topi ex11 ?_
      obtain ⟨h10, hf⟩ := zif_c hf
      refine z_iald hx hb hK hP (zIA_m (by decide) (by decide)) (zin_i h10) dX4_clashes_42 ?_
      refine lv_icmp_ne (tgt := 75) hx hb dX4_clashes_43 (by decide) (fun hc => ?_) (fun hc => ?_)
      · have hf := zif_n hf hc
        refine lv_iconst (v := 0) hx hb dX4_clashes_75 (by decide) ?_
        refine lv_istore (lv' := [(4, .int 0), (0, .ref (G 0 0)), (1, .int u1), (2, .int w2), (3, .int u3)]) hx hb dX4_clashes_76 hl (by decide) rfl (fun ls hl => ?_)
        refine lv_iload_n hx hb dX4_clashes_78 rfl (lv_at hl 2 rfl) ?_
        refine lv_aload_n hx hb dX4_clashes_79 rfl (lv_at hl 1 rfl) ?_
        refine lv_iload_n hx hb dX4_clashes_80 rfl (lv_at hl 3 rfl) ?_
        obtain ⟨v13, T12, h14, hf⟩ := zb_i hf
        refine z_ok (z_runV (As := [.int w2]) (rest := [.int u1]) F k_X4_hasBirthday m_1434 (c_X4_hasBirthday w2 T7 T12 _ h14) hP hS (zV_m (by decide)) rfl rfl rfl rfl hl.1 (Nat.le_of_ble_eq_true rfl) dX4_clashes_81 (Nat.le_of_ble_eq_true rfl) ⟨hcs.1, hcs.2⟩ rfl) hS (fun H locs hP hS => ?_)
        refine lv_if_eq (tgt := 96) hx hb dX4_clashes_84 (by decide) (fun hc => ?_) (fun hc => ?_)
        · have hf := zif_p hf hc
          refine lv_iconst (v := 0) hx hb dX4_clashes_96 (by decide) ?_
          refine lv_iadd hx hb dX4_clashes_97 ?_
          obtain ⟨x15, ex15, hf⟩ := zl_i hf
          refine z_topi ex15 ?_
          refine lv_istore_n (lv' := [(1, .int x15), (4, .int 0), (0, .ref (G 0 0)), (2, .int w2), (3, .int u3)]) hx hb dX4_clashes_98 rfl hl (by decide) rfl (fun ls hl => ?_)
          obtain ⟨x16, ex16, hf⟩ := zl_i hf
          refine lv_iinc (v := x16) (lv' := [(3, .int x16), (1, .int x15), (4, .int 0), (0, .ref (G 0 0)), (2, .int w2)]) hx hb dX4_clashes_99 hl (k := 4) rfl (by rw [ex16]; rfl) (by decide) rfl (fun ls hl => ?_)
          refine lv_goto (tgt := 16) hx hb dX4_clashes_102 (by decide) ?_
          exact ih x15 x16 _ _ _ _ _ hf hP hS (lv_sub hl [3, 1, 4, 0] rfl) k0_
        · have hf := zif_n hf hc
          refine lv_iload hx hb dX4_clashes_87 (lv_at hl 0 rfl) ?_
          refine lv_if_eq (tgt := 96) hx hb dX4_clashes_89 (by decide) (fun hc => ?_) (fun hc => ?_)
          · have hf := zif_p hf hc
            refine lv_iconst (v := 0) hx hb dX4_clashes_96 (by decide) ?_
            refine lv_iadd hx hb dX4_clashes_97 ?_
            obtain ⟨x17, ex17, hf⟩ := zl_i hf
            refine z_topi ex17 ?_
            refine lv_istore_n (lv' := [(1, .int x17), (4, .int 0), (0, .ref (G 0 0)), (2, .int w2), (3, .int u3)]) hx hb dX4_clashes_98 rfl hl (by decide) rfl (fun ls hl => ?_)
            obtain ⟨x18, ex18, hf⟩ := zl_i hf
            refine lv_iinc (v := x18) (lv' := [(3, .int x18), (1, .int x17), (4, .int 0), (0, .ref (G 0 0)), (2, .int w2)]) hx hb dX4_clashes_99 hl (k := 4) rfl (by rw [ex18]; rfl) (by decide) rfl (fun ls hl => ?_)
            refine lv_goto (tgt := 16) hx hb dX4_clashes_102 (by decide) ?_
            exact ih x17 x18 _ _ _ _ _ hf hP hS (lv_sub hl [3, 1, 4, 0] rfl) k0_
          · have hf := zif_n hf hc
            refine lv_iconst (v := 1) hx hb dX4_clashes_92 (by decide) ?_
            refine lv_goto (tgt := 97) hx hb dX4_clashes_93 (by decide) ?_
            refine lv_iadd hx hb dX4_clashes_97 ?_
            obtain ⟨x19, ex19, hf⟩ := zl_i hf
            refine z_topi ex19 ?_
            refine lv_istore_n (lv' := [(1, .int x19), (4, .int 0), (0, .ref (G 0 0)), (2, .int w2), (3, .int u3)]) hx hb dX4_clashes_98 rfl hl (by decide) rfl (fun ls hl => ?_)
            obtain ⟨x20, ex20, hf⟩ := zl_i hf
            refine lv_iinc (v := x20) (lv' := [(3, .int x20), (1, .int x19), (4, .int 0), (0, .ref (G 0 0)), (2, .int w2)]) hx hb dX4_clashes_99 hl (k := 4) rfl (by rw [ex20]; rfl) (by decide) rfl (fun ls hl => ?_)
            refine lv_goto (tgt := 16) hx hb dX4_clashes_102 (by decide) ?_
            exact ih x19 x20 _ _ _ _ _ hf hP hS (lv_sub hl [3, 1, 4, 0] rfl) k0_
      · have hf := zif_p hf hc
        refine lv_aload_n hx hb dX4_clashes_46 rfl (lv_at hl 0 rfl) ?_
        refine z_get hx hb hts (fun w h => List.mem_cons_of_mem _ (ziX4 w h)) hown hK hP (zV_m (by decide)) rfl rfl 2 (by decide) (List.mem_cons_of_mem _ m_1143) rfl rfl dX4_clashes_47 ?_
        refine lv_iload_n hx hb dX4_clashes_50 rfl (lv_at hl 2 rfl) ?_
        obtain ⟨v22, T21, h23, hf⟩ := zb_i hf
        refine z_ok (z_runS (As := [.int w2]) (rest := [.ref (G 2 0)]) F k_X4_c m_1095 (c_X4_c w2 T7 T21 _ h23) hP hS rfl rfl hl.1 (Nat.le_of_ble_eq_true rfl) dX4_clashes_51 (Nat.le_of_ble_eq_true rfl) ⟨hcs.1, hcs.2⟩ rfl) hS (fun H locs hP hS => ?_)
        refine lv_iconst (v := 3) hx hb dX4_clashes_54 (by decide) ?_
        refine lv_iadd hx hb dX4_clashes_55 ?_
        obtain ⟨x25, ex25, hf⟩ := zl_i hf
        refine z_topi ex25 ?_
        obtain ⟨h24, hf⟩ := zif_c hf
        refine z_iald hx hb hK hP (zIA_m (by decide) (by decide)) (zin_i h24) dX4_clashes_56 ?_
        refine lv_aload_n hx hb dX4_clashes_57 rfl (lv_at hl 0 rfl) ?_
        refine z_get hx hb hts (fun w h => List.mem_cons_of_mem _ (ziX4 w h)) hown hK hP (zV_m (by decide)) rfl rfl 2 (by decide) (List.mem_cons_of_mem _ m_1143) rfl rfl dX4_clashes_58 ?_
        refine lv_iload_n hx hb dX4_clashes_61 rfl (lv_at hl 3 rfl) ?_
        obtain ⟨v27, T26, h28, hf⟩ := zb_i hf
        refine z_ok (z_runS (As := [.int u3]) (rest := [.ref (G 2 0), .int (T21.2 2 0 x25.toNatClampNeg)]) F k_X4_c m_1095 (c_X4_c u3 T21 T26 _ h28) hP hS rfl rfl hl.1 (Nat.le_of_ble_eq_true rfl) dX4_clashes_62 (Nat.le_of_ble_eq_true rfl) ⟨hcs.1, hcs.2⟩ rfl) hS (fun H locs hP hS => ?_)
        refine lv_iconst (v := 3) hx hb dX4_clashes_65 (by decide) ?_
        refine lv_iadd hx hb dX4_clashes_66 ?_
        obtain ⟨x30, ex30, hf⟩ := zl_i hf
        refine z_topi ex30 ?_
        obtain ⟨h29, hf⟩ := zif_c hf
        refine z_iald hx hb hK hP (zIA_m (by decide) (by decide)) (zin_i h29) dX4_clashes_67 ?_
        refine lv_icmp_ne (tgt := 75) hx hb dX4_clashes_68 (by decide) (fun hc => ?_) (fun hc => ?_)
        · have hf := zif_n hf hc
          refine lv_iconst (v := 0) hx hb dX4_clashes_75 (by decide) ?_
          refine lv_istore (lv' := [(4, .int 0), (0, .ref (G 0 0)), (1, .int u1), (2, .int w2), (3, .int u3)]) hx hb dX4_clashes_76 hl (by decide) rfl (fun ls hl => ?_)
          refine lv_iload_n hx hb dX4_clashes_78 rfl (lv_at hl 2 rfl) ?_
          refine lv_aload_n hx hb dX4_clashes_79 rfl (lv_at hl 1 rfl) ?_
          refine lv_iload_n hx hb dX4_clashes_80 rfl (lv_at hl 3 rfl) ?_
          obtain ⟨v32, T31, h33, hf⟩ := zb_i hf
          refine z_ok (z_runV (As := [.int w2]) (rest := [.int u1]) F k_X4_hasBirthday m_1434 (c_X4_hasBirthday w2 T26 T31 _ h33) hP hS (zV_m (by decide)) rfl rfl rfl rfl hl.1 (Nat.le_of_ble_eq_true rfl) dX4_clashes_81 (Nat.le_of_ble_eq_true rfl) ⟨hcs.1, hcs.2⟩ rfl) hS (fun H locs hP hS => ?_)
          refine lv_if_eq (tgt := 96) hx hb dX4_clashes_84 (by decide) (fun hc => ?_) (fun hc => ?_)
          · have hf := zif_p hf hc
            refine lv_iconst (v := 0) hx hb dX4_clashes_96 (by decide) ?_
            refine lv_iadd hx hb dX4_clashes_97 ?_
            obtain ⟨x34, ex34, hf⟩ := zl_i hf
            refine z_topi ex34 ?_
            refine lv_istore_n (lv' := [(1, .int x34), (4, .int 0), (0, .ref (G 0 0)), (2, .int w2), (3, .int u3)]) hx hb dX4_clashes_98 rfl hl (by decide) rfl (fun ls hl => ?_)
            obtain ⟨x35, ex35, hf⟩ := zl_i hf
            refine lv_iinc (v := x35) (lv' := [(3, .int x35), (1, .int x34), (4, .int 0), (0, .ref (G 0 0)), (2, .int w2)]) hx hb dX4_clashes_99 hl (k := 4) rfl (by rw [ex35]; rfl) (by decide) rfl (fun ls hl => ?_)
            refine lv_goto (tgt := 16) hx hb dX4_clashes_102 (by decide) ?_
            exact ih x34 x35 _ _ _ _ _ hf hP hS (lv_sub hl [3, 1, 4, 0] rfl) k0_
          · have hf := zif_n hf hc
            refine lv_iload hx hb dX4_clashes_87 (lv_at hl 0 rfl) ?_
            refine lv_if_eq (tgt := 96) hx hb dX4_clashes_89 (by decide) (fun hc => ?_) (fun hc => ?_)
            · have hf := zif_p hf hc
              refine lv_iconst (v := 0) hx hb dX4_clashes_96 (by decide) ?_
              refine lv_iadd hx hb dX4_clashes_97 ?_
              obtain ⟨x36, ex36, hf⟩ := zl_i hf
              refine z_topi ex36 ?_
              refine lv_istore_n (lv' := [(1, .int x36), (4, .int 0), (0, .ref (G 0 0)), (2, .int w2), (3, .int u3)]) hx hb dX4_clashes_98 rfl hl (by decide) rfl (fun ls hl => ?_)
              obtain ⟨x37, ex37, hf⟩ := zl_i hf
              refine lv_iinc (v := x37) (lv' := [(3, .int x37), (1, .int x36), (4, .int 0), (0, .ref (G 0 0)), (2, .int w2)]) hx hb dX4_clashes_99 hl (k := 4) rfl (by rw [ex37]; rfl) (by decide) rfl (fun ls hl => ?_)
              refine lv_goto (tgt := 16) hx hb dX4_clashes_102 (by decide) ?_
              exact ih x36 x37 _ _ _ _ _ hf hP hS (lv_sub hl [3, 1, 4, 0] rfl) k0_
            · have hf := zif_n hf hc
              refine lv_iconst (v := 1) hx hb dX4_clashes_92 (by decide) ?_
              refine lv_goto (tgt := 97) hx hb dX4_clashes_93 (by decide) ?_
              refine lv_iadd hx hb dX4_clashes_97 ?_
              obtain ⟨x38, ex38, hf⟩ := zl_i hf
              refine z_topi ex38 ?_
              refine lv_istore_n (lv' := [(1, .int x38), (4, .int 0), (0, .ref (G 0 0)), (2, .int w2), (3, .int u3)]) hx hb dX4_clashes_98 rfl hl (by decide) rfl (fun ls hl => ?_)
              obtain ⟨x39, ex39, hf⟩ := zl_i hf
              refine lv_iinc (v := x39) (lv' := [(3, .int x39), (1, .int x38), (4, .int 0), (0, .ref (G 0 0)), (2, .int w2)]) hx hb dX4_clashes_99 hl (k := 4) rfl (by rw [ex39]; rfl) (by decide) rfl (fun ls hl => ?_)
              refine lv_goto (tgt := 16) hx hb dX4_clashes_102 (by decide) ?_
              exact ih x38 x39 _ _ _ _ _ hf hP hS (lv_sub hl [3, 1, 4, 0] rfl) k0_
        · have hf := zif_p hf hc
          refine lv_iconst (v := 1) hx hb dX4_clashes_71 (by decide) ?_
          refine lv_goto (tgt := 76) hx hb dX4_clashes_72 (by decide) ?_
          refine lv_istore (lv' := [(4, .int 1), (0, .ref (G 0 0)), (1, .int u1), (2, .int w2), (3, .int u3)]) hx hb dX4_clashes_76 hl (by decide) rfl (fun ls hl => ?_)
          refine lv_iload_n hx hb dX4_clashes_78 rfl (lv_at hl 2 rfl) ?_
          refine lv_aload_n hx hb dX4_clashes_79 rfl (lv_at hl 1 rfl) ?_
          refine lv_iload_n hx hb dX4_clashes_80 rfl (lv_at hl 3 rfl) ?_
          obtain ⟨v41, T40, h42, hf⟩ := zb_i hf
          refine z_ok (z_runV (As := [.int w2]) (rest := [.int u1]) F k_X4_hasBirthday m_1434 (c_X4_hasBirthday w2 T26 T40 _ h42) hP hS (zV_m (by decide)) rfl rfl rfl rfl hl.1 (Nat.le_of_ble_eq_true rfl) dX4_clashes_81 (Nat.le_of_ble_eq_true rfl) ⟨hcs.1, hcs.2⟩ rfl) hS (fun H locs hP hS => ?_)
          refine lv_if_eq (tgt := 96) hx hb dX4_clashes_84 (by decide) (fun hc => ?_) (fun hc => ?_)
          · have hf := zif_p hf hc
            refine lv_iconst (v := 0) hx hb dX4_clashes_96 (by decide) ?_
            refine lv_iadd hx hb dX4_clashes_97 ?_
            obtain ⟨x43, ex43, hf⟩ := zl_i hf
            refine z_topi ex43 ?_
            refine lv_istore_n (lv' := [(1, .int x43), (4, .int 1), (0, .ref (G 0 0)), (2, .int w2), (3, .int u3)]) hx hb dX4_clashes_98 rfl hl (by decide) rfl (fun ls hl => ?_)
            obtain ⟨x44, ex44, hf⟩ := zl_i hf
            refine lv_iinc (v := x44) (lv' := [(3, .int x44), (1, .int x43), (4, .int 1), (0, .ref (G 0 0)), (2, .int w2)]) hx hb dX4_clashes_99 hl (k := 4) rfl (by rw [ex44]; rfl) (by decide) rfl (fun ls hl => ?_)
            refine lv_goto (tgt := 16) hx hb dX4_clashes_102 (by decide) ?_
            exact ih x43 x44 _ _ _ _ _ hf hP hS (lv_sub hl [3, 1, 4, 0] rfl) k0_
          · have hf := zif_n hf hc
            refine lv_iload hx hb dX4_clashes_87 (lv_at hl 0 rfl) ?_
            refine lv_if_eq (tgt := 96) hx hb dX4_clashes_89 (by decide) (fun hc => ?_) (fun hc => ?_)
            · have hf := zif_p hf hc
              refine lv_iconst (v := 0) hx hb dX4_clashes_96 (by decide) ?_
              refine lv_iadd hx hb dX4_clashes_97 ?_
              obtain ⟨x45, ex45, hf⟩ := zl_i hf
              refine z_topi ex45 ?_
              refine lv_istore_n (lv' := [(1, .int x45), (4, .int 1), (0, .ref (G 0 0)), (2, .int w2), (3, .int u3)]) hx hb dX4_clashes_98 rfl hl (by decide) rfl (fun ls hl => ?_)
              obtain ⟨x46, ex46, hf⟩ := zl_i hf
              refine lv_iinc (v := x46) (lv' := [(3, .int x46), (1, .int x45), (4, .int 1), (0, .ref (G 0 0)), (2, .int w2)]) hx hb dX4_clashes_99 hl (k := 4) rfl (by rw [ex46]; rfl) (by decide) rfl (fun ls hl => ?_)
              refine lv_goto (tgt := 16) hx hb dX4_clashes_102 (by decide) ?_
              exact ih x45 x46 _ _ _ _ _ hf hP hS (lv_sub hl [3, 1, 4, 0] rfl) k0_
            · have hf := zif_n hf hc
              refine lv_iconst (v := 1) hx hb dX4_clashes_92 (by decide) ?_
              refine lv_goto (tgt := 97) hx hb dX4_clashes_93 (by decide) ?_
              refine lv_iadd hx hb dX4_clashes_97 ?_
              obtain ⟨x47, ex47, hf⟩ := zl_i hf
              refine z_topi ex47 ?_
              refine lv_istore_n (lv' := [(1, .int x47), (4, .int 1), (0, .ref (G 0 0)), (2, .int w2), (3, .int u3)]) hx hb dX4_clashes_98 rfl hl (by decide) rfl (fun ls hl => ?_)
              obtain ⟨x48, ex48, hf⟩ := zl_i hf
              refine lv_iinc (v := x48) (lv' := [(3, .int x48), (1, .int x47), (4, .int 1), (0, .ref (G 0 0)), (2, .int w2)]) hx hb dX4_clashes_99 hl (k := 4) rfl (by rw [ex48]; rfl) (by decide) rfl (fun ls hl => ?_)
              refine lv_goto (tgt := 16) hx hb dX4_clashes_102 (by decide) ?_
              exact ih x47 x48 _ _ _ _ _ hf hP hS (lv_sub hl [3, 1, 4, 0] rfl) k0_
set_option maxHeartbeats 4000000 in
set_option maxRecDepth 100000 in
theorem l_X4_clashes_4 {p : Program} {l : Launch} {e : Env} {s : State} {m : MethodId} {args : Array Value} {below : List Frame} {meth : Method} {c : Code} {Q : State → Prop} {D : va_G} {Y : Nat → ClassId} {S V : Nat → Nat} {G : Nat → Nat → Nat} {A : Nat → Prop} {c0 : Cond} {mc ms cells slots : Nat} (F : zF 1 2 mc ms p l s m args c cX4_clashes 5 RX4 c0 D Y S V G A) (hcs : cells ≤ mc ∧ slots ≤ ms) :
    ∀ (n : Nat) (u1 : Int32) (u2 : Int32) (T : zT) (o : (Int32 × Int32) × zT) (H : Heap) (locs : List Loc) (ls : Array Slot), lp_X4_clashes_4 n u1 u2 T = some o → zP 1 D Y G T H → va_S A s.heap H locs → lv_has ls 5 [(0, .ref (G 0 0)), (1, .int u1), (2, .int u2)] → (∀ (H : Heap) (locs : List Loc) (ls : Array Slot), zP 1 D Y G o.2 H → va_S A s.heap H locs → lv_has ls 5 [(0, .ref (G 0 0)), (1, .int o.1.1), (2, .int o.1.2)] → W p l e (zR 2 mc ms) s m args below meth c H locs cells slots Q (F0 m 111 ls [])) → W p l e (zR 2 mc ms) s m args below meth c H locs cells slots Q (F0 m 4 ls []) := by
  obtain ⟨hx, hb, hml, hown, hts, hl9, hG, hK, hA⟩ := id F
  intro n
  induction n with
  | zero =>
    intro u1 u2 T o H locs ls hf
    rw [lp_X4_clashes_4] at hf
    cases hf
  | succ n ih =>
    intro u1 u2 T o H locs ls hf hP hS hl k0_
    rw [lp_X4_clashes_4] at hf
    refine lv_iload_n hx hb dX4_clashes_4 rfl (lv_at hl 2 rfl) ?_
    refine lv_aload_n hx hb dX4_clashes_5 rfl (lv_at hl 0 rfl) ?_
    refine z_get hx hb hts (fun w h => List.mem_cons_of_mem _ (ziX4 w h)) hown hK hP (zV_m (by decide)) rfl rfl 2 (by decide) (List.mem_cons_of_mem _ m_1143) rfl rfl dX4_clashes_6 ?_
    refine lv_iconst (v := 5) hx hb dX4_clashes_9 (by decide) ?_
    refine z_iald_ (j := 5) hx hb hK hP (zIA_m (by decide) (by decide)) (by decide) (by decide) dX4_clashes_10 ?_
    refine lv_icmp_ge (tgt := 111) hx hb dX4_clashes_11 (by decide) (fun hc => ?_) (fun hc => ?_)
    · have hf := zif_p hf hc
      cases hf
      exact k0_ _ _ _ hP hS (lv_sub hl [0, 1, 2] rfl)
    · have hf := zif_n hf hc
      refine lv_iconst (v := 0) hx hb dX4_clashes_14 (by decide) ?_
      refine lv_istore_n (lv' := [(3, .int 0), (0, .ref (G 0 0)), (1, .int u1), (2, .int u2)]) hx hb dX4_clashes_15 rfl hl (by decide) rfl (fun ls hl => ?_)
      obtain ⟨v50, T49, h51, hf⟩ := zb_i hf
      refine l_X4_clashes_16 F hcs u2 2000 u1 0 _ _ _ _ _ h51 hP hS (lv_sub hl [1, 2, 3, 0] rfl) (fun H locs ls hP hS hl => ?_)
      obtain ⟨x52, ex52, hf⟩ := zl_i hf
      refine lv_iinc (v := x52) (lv' := [(2, .int x52), (0, .ref (G 0 0)), (1, .int v50.1), (3, .int v50.2)]) hx hb dX4_clashes_105 hl (k := 2) rfl (by rw [ex52]; rfl) (by decide) rfl (fun ls hl => ?_)
      refine lv_goto (tgt := 4) hx hb dX4_clashes_108 (by decide) ?_
      exact ih v50.1 x52 _ _ _ _ _ hf hP hS (lv_sub hl [1, 2, 0] rfl) k0_
set_option maxHeartbeats 4000000 in
set_option maxRecDepth 100000 in
theorem c_X4_clashes  (T T' : zT) (v : Int32) (hf : f_X4_clashes  T = some (v, T')) : zC 1 yX4_clashes cX4_clashes 5 (some .int) 2  0 0  (fun G _ => [.ref (G 0 0)]) T (fun _ => .inl (some (.int v))) T' := by
  intro l D Y S V G A hl9 hG
  refine vx_ofW (cc := cX4_clashes) (maxL := 5) (ret := (some .int)) (by decide) rfl ?_
  intro p e s m args below meth c s₁ B hml hex hv
  obtain ⟨rfl, hK, hP, hA⟩ := hv
  have hx := B.exec
  have hb := B.bytes
  have hr := B.returns
  have hlocks := B.notSynchronized
  have hown : s.vm.findClass RX4 = some m.cls := findClass_of_methodNamed B.named
  have hts := atoms_spec (ws := Cond.code yX4_clashes cX4_clashes 5 (some .int) :: zWS) B.pre
  have F : zF 1 2  0 0  p l s m _ c cX4_clashes 5 RX4 (Cond.code yX4_clashes cX4_clashes 5 (some .int)) D Y S V G A := ⟨hx, hb, hml, hown, hts, hl9, hG, hK, hA⟩
  have hS : va_S A s.heap s.heap [] := va_S.rf
  have hl := lv_entry ([.ref (G 0 0)]) (n := 5) (Nat.le_of_ble_eq_true rfl)
  rw [lg_entry_eq]
  generalize (lg_sl ([.ref (G 0 0)]) ++ List.replicate (5 - (lg_sl ([.ref (G 0 0)])).length) Slot.unset).toArray = ls at hl ⊢
  have hl : lv_has ls 5 [(0, .ref (G 0 0))] := hl
  unfold f_X4_clashes at hf
  refine lv_iconst (v := 0) hx hb dX4_clashes_0 (by decide) ?_
  refine lv_istore_n (lv' := [(1, .int 0), (0, .ref (G 0 0))]) hx hb dX4_clashes_1 rfl hl (by decide) rfl (fun ls hl => ?_)
  refine lv_iconst (v := 0) hx hb dX4_clashes_2 (by decide) ?_
  refine lv_istore_n (lv' := [(2, .int 0), (1, .int 0), (0, .ref (G 0 0))]) hx hb dX4_clashes_3 rfl hl (by decide) rfl (fun ls hl => ?_)
  obtain ⟨v54, T53, h55, hf⟩ := zb_i hf
  refine l_X4_clashes_4 F ⟨Nat.le_of_ble_eq_true rfl, Nat.le_of_ble_eq_true rfl⟩  2000 0 0 _ _ _ _ _ h55 hP hS (lv_sub hl [2, 1, 0] rfl) (fun H locs ls hP hS hl => ?_)
  refine lv_aload_n hx hb dX4_clashes_111 rfl (lv_at hl 0 rfl) ?_
  refine lv_iload_n hx hb dX4_clashes_112 rfl (lv_at hl 1 rfl) ?_
  obtain ⟨v57, T56, h58, hf⟩ := zb_i hf
  refine z_ok (z_runV (As := [.int v54.1]) (rest := []) F k_X4_told m_1230 (c_X4_told v54.1 T53 T56 _ h58) hP hS (zV_m (by decide)) rfl rfl rfl rfl hl.1 (Nat.le_of_ble_eq_true rfl) dX4_clashes_113 (Nat.le_of_ble_eq_true rfl) ⟨Nat.le_of_ble_eq_true rfl, Nat.le_of_ble_eq_true rfl⟩ rfl) hS (fun H locs hP hS => ?_)
  obtain ⟨q1, q2⟩ := zs_i hf
  subst q1; subst q2
  exact z_iret hx hb hr rfl hP hS hlocks (Nat.le_of_ble_eq_true rfl) (Nat.le_of_ble_eq_true rfl) dX4_clashes_116

def f_X4_candleDifference  (T : zT) : Option (Int32 × zT) := zb (f_X4_without ((((T.2 2 0 3) - (T.2 2 0 6)) - (T.2 2 0 7)) + (T.2 2 0 8)) T) fun v6 T5 => zb (f_X4_told v6 T5) fun v9 T8 => some (v9, T8)
set_option maxHeartbeats 4000000 in
set_option maxRecDepth 100000 in
theorem c_X4_candleDifference  (T T' : zT) (v : Int32) (hf : f_X4_candleDifference  T = some (v, T')) : zC 1 yX4_candleDifference cX4_candleDifference 1 (some .int) 1  0 0  (fun G _ => [.ref (G 0 0)]) T (fun _ => .inl (some (.int v))) T' := by
  intro l D Y S V G A hl9 hG
  refine vx_ofW (cc := cX4_candleDifference) (maxL := 1) (ret := (some .int)) (by decide) rfl ?_
  intro p e s m args below meth c s₁ B hml hex hv
  obtain ⟨rfl, hK, hP, hA⟩ := hv
  have hx := B.exec
  have hb := B.bytes
  have hr := B.returns
  have hlocks := B.notSynchronized
  have hown : s.vm.findClass RX4 = some m.cls := findClass_of_methodNamed B.named
  have hts := atoms_spec (ws := Cond.code yX4_candleDifference cX4_candleDifference 1 (some .int) :: zWS) B.pre
  have F : zF 1 1  0 0  p l s m _ c cX4_candleDifference 1 RX4 (Cond.code yX4_candleDifference cX4_candleDifference 1 (some .int)) D Y S V G A := ⟨hx, hb, hml, hown, hts, hl9, hG, hK, hA⟩
  have hS : va_S A s.heap s.heap [] := va_S.rf
  have hl := lv_entry ([.ref (G 0 0)]) (n := 1) (Nat.le_of_ble_eq_true rfl)
  rw [lg_entry_eq]
  generalize (lg_sl ([.ref (G 0 0)]) ++ List.replicate (1 - (lg_sl ([.ref (G 0 0)])).length) Slot.unset).toArray = ls at hl ⊢
  have hl : lv_has ls 1 [(0, .ref (G 0 0))] := hl
  unfold f_X4_candleDifference at hf
  refine lv_aload_n hx hb dX4_candleDifference_0 rfl (lv_at hl 0 rfl) ?_
  refine lv_aload_n hx hb dX4_candleDifference_1 rfl (lv_at hl 0 rfl) ?_
  refine z_get hx hb hts (fun w h => List.mem_cons_of_mem _ (ziX4 w h)) hown hK hP (zV_m (by decide)) rfl rfl 2 (by decide) (List.mem_cons_of_mem _ m_1143) rfl rfl dX4_candleDifference_2 ?_
  refine lv_iconst (v := 3) hx hb dX4_candleDifference_5 (by decide) ?_
  refine z_iald_ (j := 3) hx hb hK hP (zIA_m (by decide) (by decide)) (by decide) (by decide) dX4_candleDifference_6 ?_
  refine lv_aload_n hx hb dX4_candleDifference_7 rfl (lv_at hl 0 rfl) ?_
  refine z_get hx hb hts (fun w h => List.mem_cons_of_mem _ (ziX4 w h)) hown hK hP (zV_m (by decide)) rfl rfl 2 (by decide) (List.mem_cons_of_mem _ m_1143) rfl rfl dX4_candleDifference_8 ?_
  refine lv_bipush (v := 6) hx hb dX4_candleDifference_11 (by decide) ?_
  refine z_iald_ (j := 6) hx hb hK hP (zIA_m (by decide) (by decide)) (by decide) (by decide) dX4_candleDifference_13 ?_
  refine lv_isub hx hb dX4_candleDifference_14 ?_
  refine lv_aload_n hx hb dX4_candleDifference_15 rfl (lv_at hl 0 rfl) ?_
  refine z_get hx hb hts (fun w h => List.mem_cons_of_mem _ (ziX4 w h)) hown hK hP (zV_m (by decide)) rfl rfl 2 (by decide) (List.mem_cons_of_mem _ m_1143) rfl rfl dX4_candleDifference_16 ?_
  refine lv_bipush (v := 7) hx hb dX4_candleDifference_19 (by decide) ?_
  refine z_iald_ (j := 7) hx hb hK hP (zIA_m (by decide) (by decide)) (by decide) (by decide) dX4_candleDifference_21 ?_
  refine lv_isub hx hb dX4_candleDifference_22 ?_
  refine lv_aload_n hx hb dX4_candleDifference_23 rfl (lv_at hl 0 rfl) ?_
  refine z_get hx hb hts (fun w h => List.mem_cons_of_mem _ (ziX4 w h)) hown hK hP (zV_m (by decide)) rfl rfl 2 (by decide) (List.mem_cons_of_mem _ m_1143) rfl rfl dX4_candleDifference_24 ?_
  refine lv_bipush (v := 8) hx hb dX4_candleDifference_27 (by decide) ?_
  refine z_iald_ (j := 8) hx hb hK hP (zIA_m (by decide) (by decide)) (by decide) (by decide) dX4_candleDifference_29 ?_
  refine lv_iadd hx hb dX4_candleDifference_30 ?_
  obtain ⟨v6, T5, h7, hf⟩ := zb_i hf
  refine z_ok (z_runS (As := [.int ((((T.2 2 0 3) - (T.2 2 0 6)) - (T.2 2 0 7)) + (T.2 2 0 8))]) (rest := [.ref (G 0 0)]) F k_X4_without m_1522 (c_X4_without ((((T.2 2 0 3) - (T.2 2 0 6)) - (T.2 2 0 7)) + (T.2 2 0 8)) T T5 _ h7) hP hS rfl rfl hl.1 (Nat.le_of_ble_eq_true rfl) dX4_candleDifference_31 (Nat.le_of_ble_eq_true rfl) ⟨Nat.le_of_ble_eq_true rfl, Nat.le_of_ble_eq_true rfl⟩ rfl) hS (fun H locs hP hS => ?_)
  obtain ⟨v9, T8, h10, hf⟩ := zb_i hf
  refine z_ok (z_runV (As := [.int v6]) (rest := []) F k_X4_told m_1230 (c_X4_told v6 T5 T8 _ h10) hP hS (zV_m (by decide)) rfl rfl rfl rfl hl.1 (Nat.le_of_ble_eq_true rfl) dX4_candleDifference_34 (Nat.le_of_ble_eq_true rfl) ⟨Nat.le_of_ble_eq_true rfl, Nat.le_of_ble_eq_true rfl⟩ rfl) hS (fun H locs hP hS => ?_)
  obtain ⟨q1, q2⟩ := zs_i hf
  subst q1; subst q2
  exact z_iret hx hb hr rfl hP hS hlocks (Nat.le_of_ble_eq_true rfl) (Nat.le_of_ble_eq_true rfl) dX4_candleDifference_37

def lp_X4_sumOf_4 (w1 : Int32) : Nat → Int32 → Int32 → zT → Option ((Int32 × Int32) × zT)
  | 0, _, _, _ => none
  | n + 1, u2, u3, T => (if (T.2 2 0 5) ≤ u3 then some ((u2, u3), T) else zb (f_X4_c u3 T) fun v3 T2 => zl (v3 + w1) fun x6 => if zin x6 151 = true then zl (u2 + (T2.2 2 0 x6.toNatClampNeg)) fun x7 => zl (u3 + 1) fun x8 => lp_X4_sumOf_4 w1 n x7 x8 T2 else none)
def f_X4_sumOf (p0 : Int32) (T : zT) : Option (Int32 × zT) := zb (lp_X4_sumOf_4 p0 2000 0 0 T) fun v10 T9 => some (v10.1, T9)
set_option maxHeartbeats 4000000 in
set_option maxRecDepth 100000 in
theorem l_X4_sumOf_4 {p : Program} {l : Launch} {e : Env} {s : State} {m : MethodId} {args : Array Value} {below : List Frame} {meth : Method} {c : Code} {Q : State → Prop} {D : va_G} {Y : Nat → ClassId} {S V : Nat → Nat} {G : Nat → Nat → Nat} {A : Nat → Prop} {c0 : Cond} {mc ms cells slots : Nat} (F : zF 1 1 mc ms p l s m args c cX4_sumOf 4 RX4 c0 D Y S V G A) (hcs : cells ≤ mc ∧ slots ≤ ms) (w1 : Int32) :
    ∀ (n : Nat) (u2 : Int32) (u3 : Int32) (T : zT) (o : (Int32 × Int32) × zT) (H : Heap) (locs : List Loc) (ls : Array Slot), lp_X4_sumOf_4 w1 n u2 u3 T = some o → zP 1 D Y G T H → va_S A s.heap H locs → lv_has ls 4 [(0, .ref (G 0 0)), (1, .int w1), (2, .int u2), (3, .int u3)] → (∀ (H : Heap) (locs : List Loc) (ls : Array Slot), zP 1 D Y G o.2 H → va_S A s.heap H locs → lv_has ls 4 [(0, .ref (G 0 0)), (1, .int w1), (2, .int o.1.1), (3, .int o.1.2)] → W p l e (zR 1 mc ms) s m args below meth c H locs cells slots Q (F0 m 34 ls [])) → W p l e (zR 1 mc ms) s m args below meth c H locs cells slots Q (F0 m 4 ls []) := by
  obtain ⟨hx, hb, hml, hown, hts, hl9, hG, hK, hA⟩ := id F
  intro n
  induction n with
  | zero =>
    intro u2 u3 T o H locs ls hf
    rw [lp_X4_sumOf_4] at hf
    cases hf
  | succ n ih =>
    intro u2 u3 T o H locs ls hf hP hS hl k0_
    rw [lp_X4_sumOf_4] at hf
    refine lv_iload_n hx hb dX4_sumOf_4 rfl (lv_at hl 3 rfl) ?_
    refine lv_aload_n hx hb dX4_sumOf_5 rfl (lv_at hl 0 rfl) ?_
    refine z_get hx hb hts (fun w h => List.mem_cons_of_mem _ (ziX4 w h)) hown hK hP (zV_m (by decide)) rfl rfl 2 (by decide) (List.mem_cons_of_mem _ m_1143) rfl rfl dX4_sumOf_6 ?_
    refine lv_iconst (v := 5) hx hb dX4_sumOf_9 (by decide) ?_
    refine z_iald_ (j := 5) hx hb hK hP (zIA_m (by decide) (by decide)) (by decide) (by decide) dX4_sumOf_10 ?_
    refine lv_icmp_ge (tgt := 34) hx hb dX4_sumOf_11 (by decide) (fun hc => ?_) (fun hc => ?_)
    · have hf := zif_p hf hc
      cases hf
      exact k0_ _ _ _ hP hS (lv_sub hl [0, 1, 2, 3] rfl)
    · have hf := zif_n hf hc
      refine lv_iload_n hx hb dX4_sumOf_14 rfl (lv_at hl 2 rfl) ?_
      refine lv_aload_n hx hb dX4_sumOf_15 rfl (lv_at hl 0 rfl) ?_
      refine z_get hx hb hts (fun w h => List.mem_cons_of_mem _ (ziX4 w h)) hown hK hP (zV_m (by decide)) rfl rfl 2 (by decide) (List.mem_cons_of_mem _ m_1143) rfl rfl dX4_sumOf_16 ?_
      refine lv_iload_n hx hb dX4_sumOf_19 rfl (lv_at hl 3 rfl) ?_
      obtain ⟨v3, T2, h4, hf⟩ := zb_i hf
      refine z_ok (z_runS (As := [.int u3]) (rest := [.ref (G 2 0), .int u2]) F k_X4_c m_1095 (c_X4_c u3 T T2 _ h4) hP hS rfl rfl hl.1 (Nat.le_of_ble_eq_true rfl) dX4_sumOf_20 (Nat.le_of_ble_eq_true rfl) ⟨hcs.1, hcs.2⟩ rfl) hS (fun H locs hP hS => ?_)
      refine lv_iload_n hx hb dX4_sumOf_23 rfl (lv_at hl 1 rfl) ?_
      refine lv_iadd hx hb dX4_sumOf_24 ?_
      obtain ⟨x6, ex6, hf⟩ := zl_i hf
      refine z_topi ex6 ?_
      obtain ⟨h5, hf⟩ := zif_c hf
      refine z_iald hx hb hK hP (zIA_m (by decide) (by decide)) (zin_i h5) dX4_sumOf_25 ?_
      refine lv_iadd hx hb dX4_sumOf_26 ?_
      obtain ⟨x7, ex7, hf⟩ := zl_i hf
      refine z_topi ex7 ?_
      refine lv_istore_n (lv' := [(2, .int x7), (0, .ref (G 0 0)), (1, .int w1), (3, .int u3)]) hx hb dX4_sumOf_27 rfl hl (by decide) rfl (fun ls hl => ?_)
      obtain ⟨x8, ex8, hf⟩ := zl_i hf
      refine lv_iinc (v := x8) (lv' := [(3, .int x8), (2, .int x7), (0, .ref (G 0 0)), (1, .int w1)]) hx hb dX4_sumOf_28 hl (k := 3) rfl (by rw [ex8]; rfl) (by decide) rfl (fun ls hl => ?_)
      refine lv_goto (tgt := 4) hx hb dX4_sumOf_31 (by decide) ?_
      exact ih x7 x8 _ _ _ _ _ hf hP hS (lv_sub hl [2, 3, 1, 0] rfl) k0_
set_option maxHeartbeats 4000000 in
set_option maxRecDepth 100000 in
theorem c_X4_sumOf (p0 : Int32) (T T' : zT) (v : Int32) (hf : f_X4_sumOf p0 T = some (v, T')) : zC 1 yX4_sumOf cX4_sumOf 4 (some .int) 1  0 0  (fun G _ => [.ref (G 0 0), .int p0]) T (fun _ => .inl (some (.int v))) T' := by
  intro l D Y S V G A hl9 hG
  refine vx_ofW (cc := cX4_sumOf) (maxL := 4) (ret := (some .int)) (by decide) rfl ?_
  intro p e s m args below meth c s₁ B hml hex hv
  obtain ⟨rfl, hK, hP, hA⟩ := hv
  have hx := B.exec
  have hb := B.bytes
  have hr := B.returns
  have hlocks := B.notSynchronized
  have hown : s.vm.findClass RX4 = some m.cls := findClass_of_methodNamed B.named
  have hts := atoms_spec (ws := Cond.code yX4_sumOf cX4_sumOf 4 (some .int) :: zWS) B.pre
  have F : zF 1 1  0 0  p l s m _ c cX4_sumOf 4 RX4 (Cond.code yX4_sumOf cX4_sumOf 4 (some .int)) D Y S V G A := ⟨hx, hb, hml, hown, hts, hl9, hG, hK, hA⟩
  have hS : va_S A s.heap s.heap [] := va_S.rf
  have hl := lv_entry ([.ref (G 0 0), .int p0]) (n := 4) (Nat.le_of_ble_eq_true rfl)
  rw [lg_entry_eq]
  generalize (lg_sl ([.ref (G 0 0), .int p0]) ++ List.replicate (4 - (lg_sl ([.ref (G 0 0), .int p0])).length) Slot.unset).toArray = ls at hl ⊢
  have hl : lv_has ls 4 [(0, .ref (G 0 0)), (1, .int p0)] := hl
  unfold f_X4_sumOf at hf
  refine lv_iconst (v := 0) hx hb dX4_sumOf_0 (by decide) ?_
  refine lv_istore_n (lv' := [(2, .int 0), (0, .ref (G 0 0)), (1, .int p0)]) hx hb dX4_sumOf_1 rfl hl (by decide) rfl (fun ls hl => ?_)
  refine lv_iconst (v := 0) hx hb dX4_sumOf_2 (by decide) ?_
  refine lv_istore_n (lv' := [(3, .int 0), (2, .int 0), (0, .ref (G 0 0)), (1, .int p0)]) hx hb dX4_sumOf_3 rfl hl (by decide) rfl (fun ls hl => ?_)
  obtain ⟨v10, T9, h11, hf⟩ := zb_i hf
  refine l_X4_sumOf_4 F ⟨Nat.le_of_ble_eq_true rfl, Nat.le_of_ble_eq_true rfl⟩ p0 2000 0 0 _ _ _ _ _ h11 hP hS (lv_sub hl [2, 3, 1, 0] rfl) (fun H locs ls hP hS hl => ?_)
  refine lv_iload_n hx hb dX4_sumOf_34 rfl (lv_at hl 2 rfl) ?_
  obtain ⟨q1, q2⟩ := zs_i hf
  subst q1; subst q2
  exact z_iret hx hb hr rfl hP hS hlocks (Nat.le_of_ble_eq_true rfl) (Nat.le_of_ble_eq_true rfl) dX4_sumOf_35

def f_X4_advance (p0 : Int32) (T : zT) : Option (Int32 × zT) := zb (f_X4_in p0 1 720 T) fun v2 T1 => (if v2 = 0 then zb (f_X4_refuse 1 T1) fun v20 T19 => some (v20, T19) else zb (f_X4_isTooLate p0 T1) fun v5 T4 => (if v5 = 0 then zb (f_X4_remembers T4) fun _v8 T7 => zb (f_X4_passes p0 T7) fun v11 T10 => zb (f_X4_told v11 T10) fun v14 T13 => some (v14, T13) else zb (f_X4_refuse 2 T4) fun v17 T16 => some (v17, T16)))
set_option maxHeartbeats 4000000 in
set_option maxRecDepth 100000 in
theorem c_X4_advance (p0 : Int32) (T T' : zT) (v : Int32) (hf : f_X4_advance p0 T = some (v, T')) : zC 1 yX4_advance cX4_advance 2 (some .int) 6  0 0  (fun G _ => [.ref (G 0 0), .int p0]) T (fun _ => .inl (some (.int v))) T' := by
  intro l D Y S V G A hl9 hG
  refine vx_ofW (cc := cX4_advance) (maxL := 2) (ret := (some .int)) (by decide) rfl ?_
  intro p e s m args below meth c s₁ B hml hex hv
  obtain ⟨rfl, hK, hP, hA⟩ := hv
  have hx := B.exec
  have hb := B.bytes
  have hr := B.returns
  have hlocks := B.notSynchronized
  have hown : s.vm.findClass RX4 = some m.cls := findClass_of_methodNamed B.named
  have hts := atoms_spec (ws := Cond.code yX4_advance cX4_advance 2 (some .int) :: zWS) B.pre
  have F : zF 1 6  0 0  p l s m _ c cX4_advance 2 RX4 (Cond.code yX4_advance cX4_advance 2 (some .int)) D Y S V G A := ⟨hx, hb, hml, hown, hts, hl9, hG, hK, hA⟩
  have hS : va_S A s.heap s.heap [] := va_S.rf
  have hl := lv_entry ([.ref (G 0 0), .int p0]) (n := 2) (Nat.le_of_ble_eq_true rfl)
  rw [lg_entry_eq]
  generalize (lg_sl ([.ref (G 0 0), .int p0]) ++ List.replicate (2 - (lg_sl ([.ref (G 0 0), .int p0])).length) Slot.unset).toArray = ls at hl ⊢
  have hl : lv_has ls 2 [(0, .ref (G 0 0)), (1, .int p0)] := hl
  unfold f_X4_advance at hf
  refine lv_iload_n hx hb dX4_advance_0 rfl (lv_at hl 1 rfl) ?_
  refine lv_iconst (v := 1) hx hb dX4_advance_1 (by decide) ?_
  refine lv_sipush (v := 720) hx hb dX4_advance_2 (by decide) ?_
  obtain ⟨v2, T1, h3, hf⟩ := zb_i hf
  refine z_ok (z_runS (As := [.int p0, .int 1, .int 720]) (rest := []) F k_X4_in m_1238 (c_X4_in p0 1 720 T T1 _ h3) hP hS rfl rfl hl.1 (Nat.le_of_ble_eq_true rfl) dX4_advance_5 (Nat.le_of_ble_eq_true rfl) ⟨Nat.le_of_ble_eq_true rfl, Nat.le_of_ble_eq_true rfl⟩ rfl) hS (fun H locs hP hS => ?_)
  refine lv_if_ne (tgt := 17) hx hb dX4_advance_8 (by decide) (fun hc => ?_) (fun hc => ?_)
  · have hf := zif_n hf hc
    refine lv_aload_n hx hb dX4_advance_17 rfl (lv_at hl 0 rfl) ?_
    refine lv_iload_n hx hb dX4_advance_18 rfl (lv_at hl 1 rfl) ?_
    obtain ⟨v5, T4, h6, hf⟩ := zb_i hf
    refine z_ok (z_runV (As := [.int p0]) (rest := []) F k_X4_isTooLate m_1322 (c_X4_isTooLate p0 T1 T4 _ h6) hP hS (zV_m (by decide)) rfl rfl rfl rfl hl.1 (Nat.le_of_ble_eq_true rfl) dX4_advance_19 (Nat.le_of_ble_eq_true rfl) ⟨Nat.le_of_ble_eq_true rfl, Nat.le_of_ble_eq_true rfl⟩ rfl) hS (fun H locs hP hS => ?_)
    refine lv_if_eq (tgt := 31) hx hb dX4_advance_22 (by decide) (fun hc => ?_) (fun hc => ?_)
    · have hf := zif_p hf hc
      refine lv_aload_n hx hb dX4_advance_31 rfl (lv_at hl 0 rfl) ?_
      obtain ⟨v8, T7, h9, hf⟩ := zb_i hf
      refine z_ok (z_runV (As := []) (rest := []) F k_X4_remembers m_1541 (c_X4_remembers T4 T7 _ h9) hP hS (zV_m (by decide)) rfl rfl rfl rfl hl.1 (Nat.le_of_ble_eq_true rfl) dX4_advance_32 (Nat.le_of_ble_eq_true rfl) ⟨Nat.le_of_ble_eq_true rfl, Nat.le_of_ble_eq_true rfl⟩ rfl) hS (fun H locs hP hS => ?_)
      refine lv_aload_n hx hb dX4_advance_35 rfl (lv_at hl 0 rfl) ?_
      refine lv_aload_n hx hb dX4_advance_36 rfl (lv_at hl 0 rfl) ?_
      refine lv_iload_n hx hb dX4_advance_37 rfl (lv_at hl 1 rfl) ?_
      obtain ⟨v11, T10, h12, hf⟩ := zb_i hf
      refine z_ok (z_runV (As := [.int p0]) (rest := [.ref (G 0 0)]) F k_X4_passes m_1121 (c_X4_passes p0 T7 T10 _ h12) hP hS (zV_m (by decide)) rfl rfl rfl rfl hl.1 (Nat.le_of_ble_eq_true rfl) dX4_advance_38 (Nat.le_of_ble_eq_true rfl) ⟨Nat.le_of_ble_eq_true rfl, Nat.le_of_ble_eq_true rfl⟩ rfl) hS (fun H locs hP hS => ?_)
      obtain ⟨v14, T13, h15, hf⟩ := zb_i hf
      refine z_ok (z_runV (As := [.int v11]) (rest := []) F k_X4_told m_1230 (c_X4_told v11 T10 T13 _ h15) hP hS (zV_m (by decide)) rfl rfl rfl rfl hl.1 (Nat.le_of_ble_eq_true rfl) dX4_advance_41 (Nat.le_of_ble_eq_true rfl) ⟨Nat.le_of_ble_eq_true rfl, Nat.le_of_ble_eq_true rfl⟩ rfl) hS (fun H locs hP hS => ?_)
      obtain ⟨q1, q2⟩ := zs_i hf
      subst q1; subst q2
      exact z_iret hx hb hr rfl hP hS hlocks (Nat.le_of_ble_eq_true rfl) (Nat.le_of_ble_eq_true rfl) dX4_advance_44
    · have hf := zif_n hf hc
      refine lv_aload_n hx hb dX4_advance_25 rfl (lv_at hl 0 rfl) ?_
      refine lv_iconst (v := 2) hx hb dX4_advance_26 (by decide) ?_
      obtain ⟨v17, T16, h18, hf⟩ := zb_i hf
      refine z_ok (z_runV (As := [.int 2]) (rest := []) F k_X4_refuse m_1222 (c_X4_refuse 2 T4 T16 _ h18) hP hS (zV_m (by decide)) rfl rfl rfl rfl hl.1 (Nat.le_of_ble_eq_true rfl) dX4_advance_27 (Nat.le_of_ble_eq_true rfl) ⟨Nat.le_of_ble_eq_true rfl, Nat.le_of_ble_eq_true rfl⟩ rfl) hS (fun H locs hP hS => ?_)
      obtain ⟨q1, q2⟩ := zs_i hf
      subst q1; subst q2
      exact z_iret hx hb hr rfl hP hS hlocks (Nat.le_of_ble_eq_true rfl) (Nat.le_of_ble_eq_true rfl) dX4_advance_30
  · have hf := zif_p hf hc
    refine lv_aload_n hx hb dX4_advance_11 rfl (lv_at hl 0 rfl) ?_
    refine lv_iconst (v := 1) hx hb dX4_advance_12 (by decide) ?_
    obtain ⟨v20, T19, h21, hf⟩ := zb_i hf
    refine z_ok (z_runV (As := [.int 1]) (rest := []) F k_X4_refuse m_1222 (c_X4_refuse 1 T1 T19 _ h21) hP hS (zV_m (by decide)) rfl rfl rfl rfl hl.1 (Nat.le_of_ble_eq_true rfl) dX4_advance_13 (Nat.le_of_ble_eq_true rfl) ⟨Nat.le_of_ble_eq_true rfl, Nat.le_of_ble_eq_true rfl⟩ rfl) hS (fun H locs hP hS => ?_)
    obtain ⟨q1, q2⟩ := zs_i hf
    subst q1; subst q2
    exact z_iret hx hb hr rfl hP hS hlocks (Nat.le_of_ble_eq_true rfl) (Nat.le_of_ble_eq_true rfl) dX4_advance_16

def f_X4_draw (p0 : Int32) (T : zT) : Option (Int32 × zT) := zb (f_X4_isChild p0 T) fun v2 T1 => (if v2 = 0 then zb (f_X4_refuse 1 T1) fun v20 T19 => some (v20, T19) else zb (f_X4_tries p0 T1) fun v5 T4 => (if v5 = (-1) then zb (f_X4_refuse 2 T4) fun v17 T16 => some (v17, T16) else zb (f_X4_remembers T4) fun _v8 T7 => zb (f_X4_takesDraw p0 v5 T7) fun _v11 T10 => zb (f_X4_told v5 T10) fun v14 T13 => some (v14, T13)))
set_option maxHeartbeats 4000000 in
set_option maxRecDepth 100000 in
theorem c_X4_draw (p0 : Int32) (T T' : zT) (v : Int32) (hf : f_X4_draw p0 T = some (v, T')) : zC 1 yX4_draw cX4_draw 3 (some .int) 4  0 0  (fun G _ => [.ref (G 0 0), .int p0]) T (fun _ => .inl (some (.int v))) T' := by
  intro l D Y S V G A hl9 hG
  refine vx_ofW (cc := cX4_draw) (maxL := 3) (ret := (some .int)) (by decide) rfl ?_
  intro p e s m args below meth c s₁ B hml hex hv
  obtain ⟨rfl, hK, hP, hA⟩ := hv
  have hx := B.exec
  have hb := B.bytes
  have hr := B.returns
  have hlocks := B.notSynchronized
  have hown : s.vm.findClass RX4 = some m.cls := findClass_of_methodNamed B.named
  have hts := atoms_spec (ws := Cond.code yX4_draw cX4_draw 3 (some .int) :: zWS) B.pre
  have F : zF 1 4  0 0  p l s m _ c cX4_draw 3 RX4 (Cond.code yX4_draw cX4_draw 3 (some .int)) D Y S V G A := ⟨hx, hb, hml, hown, hts, hl9, hG, hK, hA⟩
  have hS : va_S A s.heap s.heap [] := va_S.rf
  have hl := lv_entry ([.ref (G 0 0), .int p0]) (n := 3) (Nat.le_of_ble_eq_true rfl)
  rw [lg_entry_eq]
  generalize (lg_sl ([.ref (G 0 0), .int p0]) ++ List.replicate (3 - (lg_sl ([.ref (G 0 0), .int p0])).length) Slot.unset).toArray = ls at hl ⊢
  have hl : lv_has ls 3 [(0, .ref (G 0 0)), (1, .int p0)] := hl
  unfold f_X4_draw at hf
  refine lv_aload_n hx hb dX4_draw_0 rfl (lv_at hl 0 rfl) ?_
  refine lv_iload_n hx hb dX4_draw_1 rfl (lv_at hl 1 rfl) ?_
  obtain ⟨v2, T1, h3, hf⟩ := zb_i hf
  refine z_ok (z_runV (As := [.int p0]) (rest := []) F k_X4_isChild m_1410 (c_X4_isChild p0 T T1 _ h3) hP hS (zV_m (by decide)) rfl rfl rfl rfl hl.1 (Nat.le_of_ble_eq_true rfl) dX4_draw_2 (Nat.le_of_ble_eq_true rfl) ⟨Nat.le_of_ble_eq_true rfl, Nat.le_of_ble_eq_true rfl⟩ rfl) hS (fun H locs hP hS => ?_)
  refine lv_if_ne (tgt := 14) hx hb dX4_draw_5 (by decide) (fun hc => ?_) (fun hc => ?_)
  · have hf := zif_n hf hc
    refine lv_aload_n hx hb dX4_draw_14 rfl (lv_at hl 0 rfl) ?_
    refine lv_iload_n hx hb dX4_draw_15 rfl (lv_at hl 1 rfl) ?_
    obtain ⟨v5, T4, h6, hf⟩ := zb_i hf
    refine z_ok (z_runV (As := [.int p0]) (rest := []) F k_X4_tries m_1098 (c_X4_tries p0 T1 T4 _ h6) hP hS (zV_m (by decide)) rfl rfl rfl rfl hl.1 (Nat.le_of_ble_eq_true rfl) dX4_draw_16 (Nat.le_of_ble_eq_true rfl) ⟨Nat.le_of_ble_eq_true rfl, Nat.le_of_ble_eq_true rfl⟩ rfl) hS (fun H locs hP hS => ?_)
    refine lv_istore_n (lv' := [(2, .int v5), (0, .ref (G 0 0)), (1, .int p0)]) hx hb dX4_draw_19 rfl hl (by decide) rfl (fun ls hl => ?_)
    refine lv_iload_n hx hb dX4_draw_20 rfl (lv_at hl 0 rfl) ?_
    refine lv_iconst (v := (-1)) hx hb dX4_draw_21 (by decide) ?_
    refine lv_icmp_ne (tgt := 31) hx hb dX4_draw_22 (by decide) (fun hc => ?_) (fun hc => ?_)
    · have hf := zif_n hf hc
      refine lv_aload_n hx hb dX4_draw_31 rfl (lv_at hl 1 rfl) ?_
      obtain ⟨v8, T7, h9, hf⟩ := zb_i hf
      refine z_ok (z_runV (As := []) (rest := []) F k_X4_remembers m_1541 (c_X4_remembers T4 T7 _ h9) hP hS (zV_m (by decide)) rfl rfl rfl rfl hl.1 (Nat.le_of_ble_eq_true rfl) dX4_draw_32 (Nat.le_of_ble_eq_true rfl) ⟨Nat.le_of_ble_eq_true rfl, Nat.le_of_ble_eq_true rfl⟩ rfl) hS (fun H locs hP hS => ?_)
      refine lv_aload_n hx hb dX4_draw_35 rfl (lv_at hl 1 rfl) ?_
      refine lv_iload_n hx hb dX4_draw_36 rfl (lv_at hl 2 rfl) ?_
      refine lv_iload_n hx hb dX4_draw_37 rfl (lv_at hl 0 rfl) ?_
      obtain ⟨v11, T10, h12, hf⟩ := zb_i hf
      refine z_ok (z_runV (As := [.int p0, .int v5]) (rest := []) F k_X4_takesDraw m_1117 (c_X4_takesDraw p0 v5 T7 T10 _ h12) hP hS (zV_m (by decide)) rfl rfl rfl rfl hl.1 (Nat.le_of_ble_eq_true rfl) dX4_draw_38 (Nat.le_of_ble_eq_true rfl) ⟨Nat.le_of_ble_eq_true rfl, Nat.le_of_ble_eq_true rfl⟩ rfl) hS (fun H locs hP hS => ?_)
      refine lv_aload_n hx hb dX4_draw_41 rfl (lv_at hl 1 rfl) ?_
      refine lv_iload_n hx hb dX4_draw_42 rfl (lv_at hl 0 rfl) ?_
      obtain ⟨v14, T13, h15, hf⟩ := zb_i hf
      refine z_ok (z_runV (As := [.int v5]) (rest := []) F k_X4_told m_1230 (c_X4_told v5 T10 T13 _ h15) hP hS (zV_m (by decide)) rfl rfl rfl rfl hl.1 (Nat.le_of_ble_eq_true rfl) dX4_draw_43 (Nat.le_of_ble_eq_true rfl) ⟨Nat.le_of_ble_eq_true rfl, Nat.le_of_ble_eq_true rfl⟩ rfl) hS (fun H locs hP hS => ?_)
      obtain ⟨q1, q2⟩ := zs_i hf
      subst q1; subst q2
      exact z_iret hx hb hr rfl hP hS hlocks (Nat.le_of_ble_eq_true rfl) (Nat.le_of_ble_eq_true rfl) dX4_draw_46
    · have hf := zif_p hf hc
      refine lv_aload_n hx hb dX4_draw_25 rfl (lv_at hl 1 rfl) ?_
      refine lv_iconst (v := 2) hx hb dX4_draw_26 (by decide) ?_
      obtain ⟨v17, T16, h18, hf⟩ := zb_i hf
      refine z_ok (z_runV (As := [.int 2]) (rest := []) F k_X4_refuse m_1222 (c_X4_refuse 2 T4 T16 _ h18) hP hS (zV_m (by decide)) rfl rfl rfl rfl hl.1 (Nat.le_of_ble_eq_true rfl) dX4_draw_27 (Nat.le_of_ble_eq_true rfl) ⟨Nat.le_of_ble_eq_true rfl, Nat.le_of_ble_eq_true rfl⟩ rfl) hS (fun H locs hP hS => ?_)
      obtain ⟨q1, q2⟩ := zs_i hf
      subst q1; subst q2
      exact z_iret hx hb hr rfl hP hS hlocks (Nat.le_of_ble_eq_true rfl) (Nat.le_of_ble_eq_true rfl) dX4_draw_30
  · have hf := zif_p hf hc
    refine lv_aload_n hx hb dX4_draw_8 rfl (lv_at hl 0 rfl) ?_
    refine lv_iconst (v := 1) hx hb dX4_draw_9 (by decide) ?_
    obtain ⟨v20, T19, h21, hf⟩ := zb_i hf
    refine z_ok (z_runV (As := [.int 1]) (rest := []) F k_X4_refuse m_1222 (c_X4_refuse 1 T1 T19 _ h21) hP hS (zV_m (by decide)) rfl rfl rfl rfl hl.1 (Nat.le_of_ble_eq_true rfl) dX4_draw_10 (Nat.le_of_ble_eq_true rfl) ⟨Nat.le_of_ble_eq_true rfl, Nat.le_of_ble_eq_true rfl⟩ rfl) hS (fun H locs hP hS => ?_)
    obtain ⟨q1, q2⟩ := zs_i hf
    subst q1; subst q2
    exact z_iret hx hb hr rfl hP hS hlocks (Nat.le_of_ble_eq_true rfl) (Nat.le_of_ble_eq_true rfl) dX4_draw_13

def f_X4_setBirthday (p0 : Int32) (p1 : Int32) (p2 : Int32) (T : zT) : Option (Int32 × zT) := zb (f_X4_isChild p0 T) fun v2 T1 => (if v2 = 0 then zb (f_X4_refuse 1 T1) fun v45 T44 => some (v45, T44) else zb (f_X4_isDate p1 p2 T1) fun v5 T4 => (if v5 = 0 then zb (f_X4_refuse 2 T4) fun v42 T41 => some (v42, T41) else zb (f_X4_c p0 T4) fun v8 T7 => zl (v8 + 3) fun x11 => if zin x11 151 = true then zb (f_X4_position p1 p2 T7) fun v13 T12 => zb (f_X4_reason p0 (T7.2 2 0 x11.toNatClampNeg) v13 T12) fun v16 T15 => (if v16 = 0 then zb (f_X4_remembers T15) fun _v19 T18 => zb (f_X4_c p0 T18) fun v22 T21 => zb (f_X4_position p1 p2 T21) fun v25 T24 => if zin (v22 + 4) 151 = true then zl (wA T24 2 0 (upd (T24.2 2 0) (v22 + 4).toNatClampNeg v25)) fun T28 => zb (f_X4_position p1 p2 T28) fun v30 T29 => zb (f_X4_daysTo v30 T29) fun v33 T32 => zb (f_X4_told v33 T32) fun v36 T35 => some (v36, T35) else none else zb (f_X4_refuse 3 T15) fun v39 T38 => some (v39, T38)) else none))
set_option maxHeartbeats 4000000 in
set_option maxRecDepth 100000 in
theorem c_X4_setBirthday (p0 : Int32) (p1 : Int32) (p2 : Int32) (T T' : zT) (v : Int32) (hf : f_X4_setBirthday p0 p1 p2 T = some (v, T')) : zC 1 yX4_setBirthday cX4_setBirthday 4 (some .int) 3  0 0  (fun G _ => [.ref (G 0 0), .int p0, .int p1, .int p2]) T (fun _ => .inl (some (.int v))) T' := by
  intro l D Y S V G A hl9 hG
  refine vx_ofW (cc := cX4_setBirthday) (maxL := 4) (ret := (some .int)) (by decide) rfl ?_
  intro p e s m args below meth c s₁ B hml hex hv
  obtain ⟨rfl, hK, hP, hA⟩ := hv
  have hx := B.exec
  have hb := B.bytes
  have hr := B.returns
  have hlocks := B.notSynchronized
  have hown : s.vm.findClass RX4 = some m.cls := findClass_of_methodNamed B.named
  have hts := atoms_spec (ws := Cond.code yX4_setBirthday cX4_setBirthday 4 (some .int) :: zWS) B.pre
  have F : zF 1 3  0 0  p l s m _ c cX4_setBirthday 4 RX4 (Cond.code yX4_setBirthday cX4_setBirthday 4 (some .int)) D Y S V G A := ⟨hx, hb, hml, hown, hts, hl9, hG, hK, hA⟩
  have hS : va_S A s.heap s.heap [] := va_S.rf
  have hl := lv_entry ([.ref (G 0 0), .int p0, .int p1, .int p2]) (n := 4) (Nat.le_of_ble_eq_true rfl)
  rw [lg_entry_eq]
  generalize (lg_sl ([.ref (G 0 0), .int p0, .int p1, .int p2]) ++ List.replicate (4 - (lg_sl ([.ref (G 0 0), .int p0, .int p1, .int p2])).length) Slot.unset).toArray = ls at hl ⊢
  have hl : lv_has ls 4 [(0, .ref (G 0 0)), (1, .int p0), (2, .int p1), (3, .int p2)] := hl
  unfold f_X4_setBirthday at hf
  refine lv_aload_n hx hb dX4_setBirthday_0 rfl (lv_at hl 0 rfl) ?_
  refine lv_iload_n hx hb dX4_setBirthday_1 rfl (lv_at hl 1 rfl) ?_
  obtain ⟨v2, T1, h3, hf⟩ := zb_i hf
  refine z_ok (z_runV (As := [.int p0]) (rest := []) F k_X4_isChild m_1410 (c_X4_isChild p0 T T1 _ h3) hP hS (zV_m (by decide)) rfl rfl rfl rfl hl.1 (Nat.le_of_ble_eq_true rfl) dX4_setBirthday_2 (Nat.le_of_ble_eq_true rfl) ⟨Nat.le_of_ble_eq_true rfl, Nat.le_of_ble_eq_true rfl⟩ rfl) hS (fun H locs hP hS => ?_)
  refine lv_if_ne (tgt := 14) hx hb dX4_setBirthday_5 (by decide) (fun hc => ?_) (fun hc => ?_)
  · have hf := zif_n hf hc
    refine lv_iload_n hx hb dX4_setBirthday_14 rfl (lv_at hl 2 rfl) ?_
    refine lv_iload_n hx hb dX4_setBirthday_15 rfl (lv_at hl 3 rfl) ?_
    obtain ⟨v5, T4, h6, hf⟩ := zb_i hf
    refine z_ok (z_runS (As := [.int p1, .int p2]) (rest := []) F k_X4_isDate m_1391 (c_X4_isDate p1 p2 T1 T4 _ h6) hP hS rfl rfl hl.1 (Nat.le_of_ble_eq_true rfl) dX4_setBirthday_16 (Nat.le_of_ble_eq_true rfl) ⟨Nat.le_of_ble_eq_true rfl, Nat.le_of_ble_eq_true rfl⟩ rfl) hS (fun H locs hP hS => ?_)
    refine lv_if_ne (tgt := 28) hx hb dX4_setBirthday_19 (by decide) (fun hc => ?_) (fun hc => ?_)
    · have hf := zif_n hf hc
      refine lv_aload_n hx hb dX4_setBirthday_28 rfl (lv_at hl 0 rfl) ?_
      refine lv_iload_n hx hb dX4_setBirthday_29 rfl (lv_at hl 1 rfl) ?_
      refine lv_aload_n hx hb dX4_setBirthday_30 rfl (lv_at hl 0 rfl) ?_
      refine z_get hx hb hts (fun w h => List.mem_cons_of_mem _ (ziX4 w h)) hown hK hP (zV_m (by decide)) rfl rfl 2 (by decide) (List.mem_cons_of_mem _ m_1143) rfl rfl dX4_setBirthday_31 ?_
      refine lv_iload_n hx hb dX4_setBirthday_34 rfl (lv_at hl 1 rfl) ?_
      obtain ⟨v8, T7, h9, hf⟩ := zb_i hf
      refine z_ok (z_runS (As := [.int p0]) (rest := [.ref (G 2 0), .int p0, .ref (G 0 0)]) F k_X4_c m_1095 (c_X4_c p0 T4 T7 _ h9) hP hS rfl rfl hl.1 (Nat.le_of_ble_eq_true rfl) dX4_setBirthday_35 (Nat.le_of_ble_eq_true rfl) ⟨Nat.le_of_ble_eq_true rfl, Nat.le_of_ble_eq_true rfl⟩ rfl) hS (fun H locs hP hS => ?_)
      refine lv_iconst (v := 3) hx hb dX4_setBirthday_38 (by decide) ?_
      refine lv_iadd hx hb dX4_setBirthday_39 ?_
      obtain ⟨x11, ex11, hf⟩ := zl_i hf
      refine z_topi ex11 ?_
      obtain ⟨h10, hf⟩ := zif_c hf
      refine z_iald hx hb hK hP (zIA_m (by decide) (by decide)) (zin_i h10) dX4_setBirthday_40 ?_
      refine lv_iload_n hx hb dX4_setBirthday_41 rfl (lv_at hl 2 rfl) ?_
      refine lv_iload_n hx hb dX4_setBirthday_42 rfl (lv_at hl 3 rfl) ?_
      obtain ⟨v13, T12, h14, hf⟩ := zb_i hf
      refine z_ok (z_runS (As := [.int p1, .int p2]) (rest := [.int (T7.2 2 0 x11.toNatClampNeg), .int p0, .ref (G 0 0)]) F k_X4_position m_1307 (c_X4_position p1 p2 T7 T12 _ h14) hP hS rfl rfl hl.1 (Nat.le_of_ble_eq_true rfl) dX4_setBirthday_43 (Nat.le_of_ble_eq_true rfl) ⟨Nat.le_of_ble_eq_true rfl, Nat.le_of_ble_eq_true rfl⟩ rfl) hS (fun H locs hP hS => ?_)
      obtain ⟨v16, T15, h17, hf⟩ := zb_i hf
      refine z_ok (z_runV (As := [.int p0, .int (T7.2 2 0 x11.toNatClampNeg), .int v13]) (rest := []) F k_X4_reason m_1105 (c_X4_reason p0 (T7.2 2 0 x11.toNatClampNeg) v13 T12 T15 _ h17) hP hS (zV_m (by decide)) rfl rfl rfl rfl hl.1 (Nat.le_of_ble_eq_true rfl) dX4_setBirthday_46 (Nat.le_of_ble_eq_true rfl) ⟨Nat.le_of_ble_eq_true rfl, Nat.le_of_ble_eq_true rfl⟩ rfl) hS (fun H locs hP hS => ?_)
      refine lv_if_eq (tgt := 58) hx hb dX4_setBirthday_49 (by decide) (fun hc => ?_) (fun hc => ?_)
      · have hf := zif_p hf hc
        refine lv_aload_n hx hb dX4_setBirthday_58 rfl (lv_at hl 0 rfl) ?_
        obtain ⟨v19, T18, h20, hf⟩ := zb_i hf
        refine z_ok (z_runV (As := []) (rest := []) F k_X4_remembers m_1541 (c_X4_remembers T15 T18 _ h20) hP hS (zV_m (by decide)) rfl rfl rfl rfl hl.1 (Nat.le_of_ble_eq_true rfl) dX4_setBirthday_59 (Nat.le_of_ble_eq_true rfl) ⟨Nat.le_of_ble_eq_true rfl, Nat.le_of_ble_eq_true rfl⟩ rfl) hS (fun H locs hP hS => ?_)
        refine lv_aload_n hx hb dX4_setBirthday_62 rfl (lv_at hl 0 rfl) ?_
        refine z_get hx hb hts (fun w h => List.mem_cons_of_mem _ (ziX4 w h)) hown hK hP (zV_m (by decide)) rfl rfl 2 (by decide) (List.mem_cons_of_mem _ m_1143) rfl rfl dX4_setBirthday_63 ?_
        refine lv_iload_n hx hb dX4_setBirthday_66 rfl (lv_at hl 1 rfl) ?_
        obtain ⟨v22, T21, h23, hf⟩ := zb_i hf
        refine z_ok (z_runS (As := [.int p0]) (rest := [.ref (G 2 0)]) F k_X4_c m_1095 (c_X4_c p0 T18 T21 _ h23) hP hS rfl rfl hl.1 (Nat.le_of_ble_eq_true rfl) dX4_setBirthday_67 (Nat.le_of_ble_eq_true rfl) ⟨Nat.le_of_ble_eq_true rfl, Nat.le_of_ble_eq_true rfl⟩ rfl) hS (fun H locs hP hS => ?_)
        refine lv_iconst (v := 4) hx hb dX4_setBirthday_70 (by decide) ?_
        refine lv_iadd hx hb dX4_setBirthday_71 ?_
        refine lv_iload_n hx hb dX4_setBirthday_72 rfl (lv_at hl 2 rfl) ?_
        refine lv_iload_n hx hb dX4_setBirthday_73 rfl (lv_at hl 3 rfl) ?_
        obtain ⟨v25, T24, h26, hf⟩ := zb_i hf
        refine z_ok (z_runS (As := [.int p1, .int p2]) (rest := [.int (v22 + 4), .ref (G 2 0)]) F k_X4_position m_1307 (c_X4_position p1 p2 T21 T24 _ h26) hP hS rfl rfl hl.1 (Nat.le_of_ble_eq_true rfl) dX4_setBirthday_74 (Nat.le_of_ble_eq_true rfl) ⟨Nat.le_of_ble_eq_true rfl, Nat.le_of_ble_eq_true rfl⟩ rfl) hS (fun H locs hP hS => ?_)
        obtain ⟨h27, hf⟩ := zif_c hf
        obtain ⟨T28, eT28, hf⟩ := zl_i hf
        refine z_iast hx hb hK hP hG hS (zIA_m (by decide) (by decide)) (zin_i h27) dX4_setBirthday_77 (fun H locs hP hS => ?_)
        rw [← eT28] at hP
        refine lv_aload_n hx hb dX4_setBirthday_78 rfl (lv_at hl 0 rfl) ?_
        refine lv_aload_n hx hb dX4_setBirthday_79 rfl (lv_at hl 0 rfl) ?_
        refine lv_iload_n hx hb dX4_setBirthday_80 rfl (lv_at hl 2 rfl) ?_
        refine lv_iload_n hx hb dX4_setBirthday_81 rfl (lv_at hl 3 rfl) ?_
        obtain ⟨v30, T29, h31, hf⟩ := zb_i hf
        refine z_ok (z_runS (As := [.int p1, .int p2]) (rest := [.ref (G 0 0), .ref (G 0 0)]) F k_X4_position m_1307 (c_X4_position p1 p2 T28 T29 _ h31) hP hS rfl rfl hl.1 (Nat.le_of_ble_eq_true rfl) dX4_setBirthday_82 (Nat.le_of_ble_eq_true rfl) ⟨Nat.le_of_ble_eq_true rfl, Nat.le_of_ble_eq_true rfl⟩ rfl) hS (fun H locs hP hS => ?_)
        obtain ⟨v33, T32, h34, hf⟩ := zb_i hf
        refine z_ok (z_runV (As := [.int v30]) (rest := [.ref (G 0 0)]) F k_X4_daysTo m_1438 (c_X4_daysTo v30 T29 T32 _ h34) hP hS (zV_m (by decide)) rfl rfl rfl rfl hl.1 (Nat.le_of_ble_eq_true rfl) dX4_setBirthday_85 (Nat.le_of_ble_eq_true rfl) ⟨Nat.le_of_ble_eq_true rfl, Nat.le_of_ble_eq_true rfl⟩ rfl) hS (fun H locs hP hS => ?_)
        obtain ⟨v36, T35, h37, hf⟩ := zb_i hf
        refine z_ok (z_runV (As := [.int v33]) (rest := []) F k_X4_told m_1230 (c_X4_told v33 T32 T35 _ h37) hP hS (zV_m (by decide)) rfl rfl rfl rfl hl.1 (Nat.le_of_ble_eq_true rfl) dX4_setBirthday_88 (Nat.le_of_ble_eq_true rfl) ⟨Nat.le_of_ble_eq_true rfl, Nat.le_of_ble_eq_true rfl⟩ rfl) hS (fun H locs hP hS => ?_)
        obtain ⟨q1, q2⟩ := zs_i hf
        subst q1; subst q2
        exact z_iret hx hb hr rfl hP hS hlocks (Nat.le_of_ble_eq_true rfl) (Nat.le_of_ble_eq_true rfl) dX4_setBirthday_91
      · have hf := zif_n hf hc
        refine lv_aload_n hx hb dX4_setBirthday_52 rfl (lv_at hl 0 rfl) ?_
        refine lv_iconst (v := 3) hx hb dX4_setBirthday_53 (by decide) ?_
        obtain ⟨v39, T38, h40, hf⟩ := zb_i hf
        refine z_ok (z_runV (As := [.int 3]) (rest := []) F k_X4_refuse m_1222 (c_X4_refuse 3 T15 T38 _ h40) hP hS (zV_m (by decide)) rfl rfl rfl rfl hl.1 (Nat.le_of_ble_eq_true rfl) dX4_setBirthday_54 (Nat.le_of_ble_eq_true rfl) ⟨Nat.le_of_ble_eq_true rfl, Nat.le_of_ble_eq_true rfl⟩ rfl) hS (fun H locs hP hS => ?_)
        obtain ⟨q1, q2⟩ := zs_i hf
        subst q1; subst q2
        exact z_iret hx hb hr rfl hP hS hlocks (Nat.le_of_ble_eq_true rfl) (Nat.le_of_ble_eq_true rfl) dX4_setBirthday_57
    · have hf := zif_p hf hc
      refine lv_aload_n hx hb dX4_setBirthday_22 rfl (lv_at hl 0 rfl) ?_
      refine lv_iconst (v := 2) hx hb dX4_setBirthday_23 (by decide) ?_
      obtain ⟨v42, T41, h43, hf⟩ := zb_i hf
      refine z_ok (z_runV (As := [.int 2]) (rest := []) F k_X4_refuse m_1222 (c_X4_refuse 2 T4 T41 _ h43) hP hS (zV_m (by decide)) rfl rfl rfl rfl hl.1 (Nat.le_of_ble_eq_true rfl) dX4_setBirthday_24 (Nat.le_of_ble_eq_true rfl) ⟨Nat.le_of_ble_eq_true rfl, Nat.le_of_ble_eq_true rfl⟩ rfl) hS (fun H locs hP hS => ?_)
      obtain ⟨q1, q2⟩ := zs_i hf
      subst q1; subst q2
      exact z_iret hx hb hr rfl hP hS hlocks (Nat.le_of_ble_eq_true rfl) (Nat.le_of_ble_eq_true rfl) dX4_setBirthday_27
  · have hf := zif_p hf hc
    refine lv_aload_n hx hb dX4_setBirthday_8 rfl (lv_at hl 0 rfl) ?_
    refine lv_iconst (v := 1) hx hb dX4_setBirthday_9 (by decide) ?_
    obtain ⟨v45, T44, h46, hf⟩ := zb_i hf
    refine z_ok (z_runV (As := [.int 1]) (rest := []) F k_X4_refuse m_1222 (c_X4_refuse 1 T1 T44 _ h46) hP hS (zV_m (by decide)) rfl rfl rfl rfl hl.1 (Nat.le_of_ble_eq_true rfl) dX4_setBirthday_10 (Nat.le_of_ble_eq_true rfl) ⟨Nat.le_of_ble_eq_true rfl, Nat.le_of_ble_eq_true rfl⟩ rfl) hS (fun H locs hP hS => ?_)
    obtain ⟨q1, q2⟩ := zs_i hf
    subst q1; subst q2
    exact z_iret hx hb hr rfl hP hS hlocks (Nat.le_of_ble_eq_true rfl) (Nat.le_of_ble_eq_true rfl) dX4_setBirthday_13

def f_X4_forgetBirthday (p0 : Int32) (T : zT) : Option (Int32 × zT) := zb (f_X4_isChild p0 T) fun v2 T1 => (if v2 = 0 then zb (f_X4_refuse 1 T1) fun v22 T21 => some (v22, T21) else zb (f_X4_remembers T1) fun _v5 T4 => zb (f_X4_c p0 T4) fun v8 T7 => zl (v8 + 4) fun x11 => if zin x11 151 = true then zl (T7.2 2 0 x11.toNatClampNeg) fun x12 => zb (f_X4_c p0 T7) fun v14 T13 => if zin (v14 + 4) 151 = true then zl (wA T13 2 0 (upd (T13.2 2 0) (v14 + 4).toNatClampNeg (-1))) fun T17 => zb (f_X4_told x12 T17) fun v19 T18 => some (v19, T18) else none else none)
set_option maxHeartbeats 4000000 in
set_option maxRecDepth 100000 in
theorem c_X4_forgetBirthday (p0 : Int32) (T T' : zT) (v : Int32) (hf : f_X4_forgetBirthday p0 T = some (v, T')) : zC 1 yX4_forgetBirthday cX4_forgetBirthday 3 (some .int) 2  0 0  (fun G _ => [.ref (G 0 0), .int p0]) T (fun _ => .inl (some (.int v))) T' := by
  intro l D Y S V G A hl9 hG
  refine vx_ofW (cc := cX4_forgetBirthday) (maxL := 3) (ret := (some .int)) (by decide) rfl ?_
  intro p e s m args below meth c s₁ B hml hex hv
  obtain ⟨rfl, hK, hP, hA⟩ := hv
  have hx := B.exec
  have hb := B.bytes
  have hr := B.returns
  have hlocks := B.notSynchronized
  have hown : s.vm.findClass RX4 = some m.cls := findClass_of_methodNamed B.named
  have hts := atoms_spec (ws := Cond.code yX4_forgetBirthday cX4_forgetBirthday 3 (some .int) :: zWS) B.pre
  have F : zF 1 2  0 0  p l s m _ c cX4_forgetBirthday 3 RX4 (Cond.code yX4_forgetBirthday cX4_forgetBirthday 3 (some .int)) D Y S V G A := ⟨hx, hb, hml, hown, hts, hl9, hG, hK, hA⟩
  have hS : va_S A s.heap s.heap [] := va_S.rf
  have hl := lv_entry ([.ref (G 0 0), .int p0]) (n := 3) (Nat.le_of_ble_eq_true rfl)
  rw [lg_entry_eq]
  generalize (lg_sl ([.ref (G 0 0), .int p0]) ++ List.replicate (3 - (lg_sl ([.ref (G 0 0), .int p0])).length) Slot.unset).toArray = ls at hl ⊢
  have hl : lv_has ls 3 [(0, .ref (G 0 0)), (1, .int p0)] := hl
  unfold f_X4_forgetBirthday at hf
  refine lv_aload_n hx hb dX4_forgetBirthday_0 rfl (lv_at hl 0 rfl) ?_
  refine lv_iload_n hx hb dX4_forgetBirthday_1 rfl (lv_at hl 1 rfl) ?_
  obtain ⟨v2, T1, h3, hf⟩ := zb_i hf
  refine z_ok (z_runV (As := [.int p0]) (rest := []) F k_X4_isChild m_1410 (c_X4_isChild p0 T T1 _ h3) hP hS (zV_m (by decide)) rfl rfl rfl rfl hl.1 (Nat.le_of_ble_eq_true rfl) dX4_forgetBirthday_2 (Nat.le_of_ble_eq_true rfl) ⟨Nat.le_of_ble_eq_true rfl, Nat.le_of_ble_eq_true rfl⟩ rfl) hS (fun H locs hP hS => ?_)
  refine lv_if_ne (tgt := 14) hx hb dX4_forgetBirthday_5 (by decide) (fun hc => ?_) (fun hc => ?_)
  · have hf := zif_n hf hc
    refine lv_aload_n hx hb dX4_forgetBirthday_14 rfl (lv_at hl 0 rfl) ?_
    obtain ⟨v5, T4, h6, hf⟩ := zb_i hf
    refine z_ok (z_runV (As := []) (rest := []) F k_X4_remembers m_1541 (c_X4_remembers T1 T4 _ h6) hP hS (zV_m (by decide)) rfl rfl rfl rfl hl.1 (Nat.le_of_ble_eq_true rfl) dX4_forgetBirthday_15 (Nat.le_of_ble_eq_true rfl) ⟨Nat.le_of_ble_eq_true rfl, Nat.le_of_ble_eq_true rfl⟩ rfl) hS (fun H locs hP hS => ?_)
    refine lv_aload_n hx hb dX4_forgetBirthday_18 rfl (lv_at hl 0 rfl) ?_
    refine z_get hx hb hts (fun w h => List.mem_cons_of_mem _ (ziX4 w h)) hown hK hP (zV_m (by decide)) rfl rfl 2 (by decide) (List.mem_cons_of_mem _ m_1143) rfl rfl dX4_forgetBirthday_19 ?_
    refine lv_iload_n hx hb dX4_forgetBirthday_22 rfl (lv_at hl 1 rfl) ?_
    obtain ⟨v8, T7, h9, hf⟩ := zb_i hf
    refine z_ok (z_runS (As := [.int p0]) (rest := [.ref (G 2 0)]) F k_X4_c m_1095 (c_X4_c p0 T4 T7 _ h9) hP hS rfl rfl hl.1 (Nat.le_of_ble_eq_true rfl) dX4_forgetBirthday_23 (Nat.le_of_ble_eq_true rfl) ⟨Nat.le_of_ble_eq_true rfl, Nat.le_of_ble_eq_true rfl⟩ rfl) hS (fun H locs hP hS => ?_)
    refine lv_iconst (v := 4) hx hb dX4_forgetBirthday_26 (by decide) ?_
    refine lv_iadd hx hb dX4_forgetBirthday_27 ?_
    obtain ⟨x11, ex11, hf⟩ := zl_i hf
    refine z_topi ex11 ?_
    obtain ⟨h10, hf⟩ := zif_c hf
    refine z_iald hx hb hK hP (zIA_m (by decide) (by decide)) (zin_i h10) dX4_forgetBirthday_28 ?_
    obtain ⟨x12, ex12, hf⟩ := zl_i hf
    refine z_topi ex12 ?_
    refine lv_istore_n (lv' := [(2, .int x12), (0, .ref (G 0 0)), (1, .int p0)]) hx hb dX4_forgetBirthday_29 rfl hl (by decide) rfl (fun ls hl => ?_)
    refine lv_aload_n hx hb dX4_forgetBirthday_30 rfl (lv_at hl 1 rfl) ?_
    refine z_get hx hb hts (fun w h => List.mem_cons_of_mem _ (ziX4 w h)) hown hK hP (zV_m (by decide)) rfl rfl 2 (by decide) (List.mem_cons_of_mem _ m_1143) rfl rfl dX4_forgetBirthday_31 ?_
    refine lv_iload_n hx hb dX4_forgetBirthday_34 rfl (lv_at hl 2 rfl) ?_
    obtain ⟨v14, T13, h15, hf⟩ := zb_i hf
    refine z_ok (z_runS (As := [.int p0]) (rest := [.ref (G 2 0)]) F k_X4_c m_1095 (c_X4_c p0 T7 T13 _ h15) hP hS rfl rfl hl.1 (Nat.le_of_ble_eq_true rfl) dX4_forgetBirthday_35 (Nat.le_of_ble_eq_true rfl) ⟨Nat.le_of_ble_eq_true rfl, Nat.le_of_ble_eq_true rfl⟩ rfl) hS (fun H locs hP hS => ?_)
    refine lv_iconst (v := 4) hx hb dX4_forgetBirthday_38 (by decide) ?_
    refine lv_iadd hx hb dX4_forgetBirthday_39 ?_
    refine lv_iconst (v := (-1)) hx hb dX4_forgetBirthday_40 (by decide) ?_
    obtain ⟨h16, hf⟩ := zif_c hf
    obtain ⟨T17, eT17, hf⟩ := zl_i hf
    refine z_iast hx hb hK hP hG hS (zIA_m (by decide) (by decide)) (zin_i h16) dX4_forgetBirthday_41 (fun H locs hP hS => ?_)
    rw [← eT17] at hP
    refine lv_aload_n hx hb dX4_forgetBirthday_42 rfl (lv_at hl 1 rfl) ?_
    refine lv_iload_n hx hb dX4_forgetBirthday_43 rfl (lv_at hl 0 rfl) ?_
    obtain ⟨v19, T18, h20, hf⟩ := zb_i hf
    refine z_ok (z_runV (As := [.int x12]) (rest := []) F k_X4_told m_1230 (c_X4_told x12 T17 T18 _ h20) hP hS (zV_m (by decide)) rfl rfl rfl rfl hl.1 (Nat.le_of_ble_eq_true rfl) dX4_forgetBirthday_44 (Nat.le_of_ble_eq_true rfl) ⟨Nat.le_of_ble_eq_true rfl, Nat.le_of_ble_eq_true rfl⟩ rfl) hS (fun H locs hP hS => ?_)
    obtain ⟨q1, q2⟩ := zs_i hf
    subst q1; subst q2
    exact z_iret hx hb hr rfl hP hS hlocks (Nat.le_of_ble_eq_true rfl) (Nat.le_of_ble_eq_true rfl) dX4_forgetBirthday_47
  · have hf := zif_p hf hc
    refine lv_aload_n hx hb dX4_forgetBirthday_8 rfl (lv_at hl 0 rfl) ?_
    refine lv_iconst (v := 1) hx hb dX4_forgetBirthday_9 (by decide) ?_
    obtain ⟨v22, T21, h23, hf⟩ := zb_i hf
    refine z_ok (z_runV (As := [.int 1]) (rest := []) F k_X4_refuse m_1222 (c_X4_refuse 1 T1 T21 _ h23) hP hS (zV_m (by decide)) rfl rfl rfl rfl hl.1 (Nat.le_of_ble_eq_true rfl) dX4_forgetBirthday_10 (Nat.le_of_ble_eq_true rfl) ⟨Nat.le_of_ble_eq_true rfl, Nat.le_of_ble_eq_true rfl⟩ rfl) hS (fun H locs hP hS => ?_)
    obtain ⟨q1, q2⟩ := zs_i hf
    subst q1; subst q2
    exact z_iret hx hb hr rfl hP hS hlocks (Nat.le_of_ble_eq_true rfl) (Nat.le_of_ble_eq_true rfl) dX4_forgetBirthday_13

def jn_X4_moveTo_56 (w1 : Int32) (w2 : Int32) (T : zT) : Option (Int32 × zT) := zb (f_X4_remembers T) fun _v14 T13 => zb (f_X4_c w1 T13) fun v17 T16 => zl (v17 + 3) fun x20 => if zin x20 151 = true then zl (T16.2 2 0 x20.toNatClampNeg) fun x21 => zb (f_X4_c w1 T16) fun v23 T22 => if zin (v23 + 3) 151 = true then zl (wA T22 2 0 (upd (T22.2 2 0) (v23 + 3).toNatClampNeg w2)) fun T26 => zb (f_X4_told x21 T26) fun v28 T27 => some (v28, T27) else none else none
def f_X4_moveTo (p0 : Int32) (p1 : Int32) (T : zT) : Option (Int32 × zT) := zb (f_X4_isChild p0 T) fun v2 T1 => (if v2 = 0 then zb (f_X4_refuse 1 T1) fun v5 T4 => some (v5, T4) else zb (f_X4_isGarden p1 T1) fun v8 T7 => (if v8 = 0 then zb (f_X4_refuse 1 T7) fun v42 T41 => some (v42, T41) else zb (f_X4_hasBirthday p0 T7) fun v11 T10 => (if v11 = 0 then jn_X4_moveTo_56 p0 p1 T10 else zb (f_X4_c p0 T10) fun v31 T30 => zl (v31 + 4) fun x34 => if zin x34 151 = true then zb (f_X4_reason p0 p1 (T30.2 2 0 x34.toNatClampNeg) T30) fun v36 T35 => (if v36 = 0 then jn_X4_moveTo_56 p0 p1 T35 else zb (f_X4_refuse 2 T35) fun v39 T38 => some (v39, T38)) else none)))
set_option maxHeartbeats 4000000 in
set_option maxRecDepth 100000 in
theorem j_X4_moveTo_56 {p : Program} {l : Launch} {e : Env} {s : State} {m : MethodId} {args : Array Value} {below : List Frame} {meth : Method} {c : Code} {D : va_G} {Y : Nat → ClassId} {S V : Nat → Nat} {G : Nat → Nat → Nat} {A : Nat → Prop} {c0 : Cond} (F : zF 1 3  0 0  p l s m args c cX4_moveTo 4 RX4 c0 D Y S V G A) (hr : meth.sig.returnType = (some .int)) (hlocks : meth.locks = false) (hex : ∀ x ∈ c.exceptionTable.toList, False) (w1 : Int32) (w2 : Int32) (T : zT) {T' : zT} {v : Int32} {H : Heap} {locs : List Loc} {ls : Array Slot} (hf : jn_X4_moveTo_56 w1 w2 T = some (v, T')) (hP : zP 1 D Y G T H) (hS : va_S A s.heap H locs) (hl : lv_has ls 4 [(0, .ref (G 0 0)), (1, .int w1), (2, .int w2)]) :
    W p l e (zR 3  0 0 ) s m args below meth c H locs 0 0 (vx_MQ below (zQ 1 D Y G A (.inl (some (.int v))) T') (zX 1 D Y G A (.inl (some (.int v))) T') args s  0 0  A) (F0 m 56 ls []) := by
  obtain ⟨hx, hb, hml, hown, hts, hl9, hG, hK, hA⟩ := id F
  unfold jn_X4_moveTo_56 at hf
  refine lv_aload_n hx hb dX4_moveTo_56 rfl (lv_at hl 0 rfl) ?_
  obtain ⟨v14, T13, h15, hf⟩ := zb_i hf
  refine z_ok (z_runV (As := []) (rest := []) F k_X4_remembers m_1541 (c_X4_remembers T T13 _ h15) hP hS (zV_m (by decide)) rfl rfl rfl rfl hl.1 (Nat.le_of_ble_eq_true rfl) dX4_moveTo_57 (Nat.le_of_ble_eq_true rfl) ⟨Nat.le_of_ble_eq_true rfl, Nat.le_of_ble_eq_true rfl⟩ rfl) hS (fun H locs hP hS => ?_)
  refine lv_aload_n hx hb dX4_moveTo_60 rfl (lv_at hl 0 rfl) ?_
  refine z_get hx hb hts (fun w h => List.mem_cons_of_mem _ (ziX4 w h)) hown hK hP (zV_m (by decide)) rfl rfl 2 (by decide) (List.mem_cons_of_mem _ m_1143) rfl rfl dX4_moveTo_61 ?_
  refine lv_iload_n hx hb dX4_moveTo_64 rfl (lv_at hl 1 rfl) ?_
  obtain ⟨v17, T16, h18, hf⟩ := zb_i hf
  refine z_ok (z_runS (As := [.int w1]) (rest := [.ref (G 2 0)]) F k_X4_c m_1095 (c_X4_c w1 T13 T16 _ h18) hP hS rfl rfl hl.1 (Nat.le_of_ble_eq_true rfl) dX4_moveTo_65 (Nat.le_of_ble_eq_true rfl) ⟨Nat.le_of_ble_eq_true rfl, Nat.le_of_ble_eq_true rfl⟩ rfl) hS (fun H locs hP hS => ?_)
  refine lv_iconst (v := 3) hx hb dX4_moveTo_68 (by decide) ?_
  refine lv_iadd hx hb dX4_moveTo_69 ?_
  obtain ⟨x20, ex20, hf⟩ := zl_i hf
  refine z_topi ex20 ?_
  obtain ⟨h19, hf⟩ := zif_c hf
  refine z_iald hx hb hK hP (zIA_m (by decide) (by decide)) (zin_i h19) dX4_moveTo_70 ?_
  obtain ⟨x21, ex21, hf⟩ := zl_i hf
  refine z_topi ex21 ?_
  refine lv_istore_n (lv' := [(3, .int x21), (0, .ref (G 0 0)), (1, .int w1), (2, .int w2)]) hx hb dX4_moveTo_71 rfl hl (by decide) rfl (fun ls hl => ?_)
  refine lv_aload_n hx hb dX4_moveTo_72 rfl (lv_at hl 1 rfl) ?_
  refine z_get hx hb hts (fun w h => List.mem_cons_of_mem _ (ziX4 w h)) hown hK hP (zV_m (by decide)) rfl rfl 2 (by decide) (List.mem_cons_of_mem _ m_1143) rfl rfl dX4_moveTo_73 ?_
  refine lv_iload_n hx hb dX4_moveTo_76 rfl (lv_at hl 2 rfl) ?_
  obtain ⟨v23, T22, h24, hf⟩ := zb_i hf
  refine z_ok (z_runS (As := [.int w1]) (rest := [.ref (G 2 0)]) F k_X4_c m_1095 (c_X4_c w1 T16 T22 _ h24) hP hS rfl rfl hl.1 (Nat.le_of_ble_eq_true rfl) dX4_moveTo_77 (Nat.le_of_ble_eq_true rfl) ⟨Nat.le_of_ble_eq_true rfl, Nat.le_of_ble_eq_true rfl⟩ rfl) hS (fun H locs hP hS => ?_)
  refine lv_iconst (v := 3) hx hb dX4_moveTo_80 (by decide) ?_
  refine lv_iadd hx hb dX4_moveTo_81 ?_
  refine lv_iload_n hx hb dX4_moveTo_82 rfl (lv_at hl 3 rfl) ?_
  obtain ⟨h25, hf⟩ := zif_c hf
  obtain ⟨T26, eT26, hf⟩ := zl_i hf
  refine z_iast hx hb hK hP hG hS (zIA_m (by decide) (by decide)) (zin_i h25) dX4_moveTo_83 (fun H locs hP hS => ?_)
  rw [← eT26] at hP
  refine lv_aload_n hx hb dX4_moveTo_84 rfl (lv_at hl 1 rfl) ?_
  refine lv_iload_n hx hb dX4_moveTo_85 rfl (lv_at hl 0 rfl) ?_
  obtain ⟨v28, T27, h29, hf⟩ := zb_i hf
  refine z_ok (z_runV (As := [.int x21]) (rest := []) F k_X4_told m_1230 (c_X4_told x21 T26 T27 _ h29) hP hS (zV_m (by decide)) rfl rfl rfl rfl hl.1 (Nat.le_of_ble_eq_true rfl) dX4_moveTo_86 (Nat.le_of_ble_eq_true rfl) ⟨Nat.le_of_ble_eq_true rfl, Nat.le_of_ble_eq_true rfl⟩ rfl) hS (fun H locs hP hS => ?_)
  obtain ⟨q1, q2⟩ := zs_i hf
  subst q1; subst q2
  exact z_iret hx hb hr rfl hP hS hlocks (Nat.le_of_ble_eq_true rfl) (Nat.le_of_ble_eq_true rfl) dX4_moveTo_89
set_option maxHeartbeats 4000000 in
set_option maxRecDepth 100000 in
theorem c_X4_moveTo (p0 : Int32) (p1 : Int32) (T T' : zT) (v : Int32) (hf : f_X4_moveTo p0 p1 T = some (v, T')) : zC 1 yX4_moveTo cX4_moveTo 4 (some .int) 3  0 0  (fun G _ => [.ref (G 0 0), .int p0, .int p1]) T (fun _ => .inl (some (.int v))) T' := by
  intro l D Y S V G A hl9 hG
  refine vx_ofW (cc := cX4_moveTo) (maxL := 4) (ret := (some .int)) (by decide) rfl ?_
  intro p e s m args below meth c s₁ B hml hex hv
  obtain ⟨rfl, hK, hP, hA⟩ := hv
  have hx := B.exec
  have hb := B.bytes
  have hr := B.returns
  have hlocks := B.notSynchronized
  have hown : s.vm.findClass RX4 = some m.cls := findClass_of_methodNamed B.named
  have hts := atoms_spec (ws := Cond.code yX4_moveTo cX4_moveTo 4 (some .int) :: zWS) B.pre
  have F : zF 1 3  0 0  p l s m _ c cX4_moveTo 4 RX4 (Cond.code yX4_moveTo cX4_moveTo 4 (some .int)) D Y S V G A := ⟨hx, hb, hml, hown, hts, hl9, hG, hK, hA⟩
  have hS : va_S A s.heap s.heap [] := va_S.rf
  have hl := lv_entry ([.ref (G 0 0), .int p0, .int p1]) (n := 4) (Nat.le_of_ble_eq_true rfl)
  rw [lg_entry_eq]
  generalize (lg_sl ([.ref (G 0 0), .int p0, .int p1]) ++ List.replicate (4 - (lg_sl ([.ref (G 0 0), .int p0, .int p1])).length) Slot.unset).toArray = ls at hl ⊢
  have hl : lv_has ls 4 [(0, .ref (G 0 0)), (1, .int p0), (2, .int p1)] := hl
  unfold f_X4_moveTo at hf
  refine lv_aload_n hx hb dX4_moveTo_0 rfl (lv_at hl 0 rfl) ?_
  refine lv_iload_n hx hb dX4_moveTo_1 rfl (lv_at hl 1 rfl) ?_
  obtain ⟨v2, T1, h3, hf⟩ := zb_i hf
  refine z_ok (z_runV (As := [.int p0]) (rest := []) F k_X4_isChild m_1410 (c_X4_isChild p0 T T1 _ h3) hP hS (zV_m (by decide)) rfl rfl rfl rfl hl.1 (Nat.le_of_ble_eq_true rfl) dX4_moveTo_2 (Nat.le_of_ble_eq_true rfl) ⟨Nat.le_of_ble_eq_true rfl, Nat.le_of_ble_eq_true rfl⟩ rfl) hS (fun H locs hP hS => ?_)
  refine lv_if_eq (tgt := 16) hx hb dX4_moveTo_5 (by decide) (fun hc => ?_) (fun hc => ?_)
  · have hf := zif_p hf hc
    refine lv_aload_n hx hb dX4_moveTo_16 rfl (lv_at hl 0 rfl) ?_
    refine lv_iconst (v := 1) hx hb dX4_moveTo_17 (by decide) ?_
    obtain ⟨v5, T4, h6, hf⟩ := zb_i hf
    refine z_ok (z_runV (As := [.int 1]) (rest := []) F k_X4_refuse m_1222 (c_X4_refuse 1 T1 T4 _ h6) hP hS (zV_m (by decide)) rfl rfl rfl rfl hl.1 (Nat.le_of_ble_eq_true rfl) dX4_moveTo_18 (Nat.le_of_ble_eq_true rfl) ⟨Nat.le_of_ble_eq_true rfl, Nat.le_of_ble_eq_true rfl⟩ rfl) hS (fun H locs hP hS => ?_)
    obtain ⟨q1, q2⟩ := zs_i hf
    subst q1; subst q2
    exact z_iret hx hb hr rfl hP hS hlocks (Nat.le_of_ble_eq_true rfl) (Nat.le_of_ble_eq_true rfl) dX4_moveTo_21
  · have hf := zif_n hf hc
    refine lv_aload_n hx hb dX4_moveTo_8 rfl (lv_at hl 0 rfl) ?_
    refine lv_iload_n hx hb dX4_moveTo_9 rfl (lv_at hl 2 rfl) ?_
    obtain ⟨v8, T7, h9, hf⟩ := zb_i hf
    refine z_ok (z_runV (As := [.int p1]) (rest := []) F k_X4_isGarden m_1379 (c_X4_isGarden p1 T1 T7 _ h9) hP hS (zV_m (by decide)) rfl rfl rfl rfl hl.1 (Nat.le_of_ble_eq_true rfl) dX4_moveTo_10 (Nat.le_of_ble_eq_true rfl) ⟨Nat.le_of_ble_eq_true rfl, Nat.le_of_ble_eq_true rfl⟩ rfl) hS (fun H locs hP hS => ?_)
    refine lv_if_ne (tgt := 22) hx hb dX4_moveTo_13 (by decide) (fun hc => ?_) (fun hc => ?_)
    · have hf := zif_n hf hc
      refine lv_aload_n hx hb dX4_moveTo_22 rfl (lv_at hl 0 rfl) ?_
      refine lv_iload_n hx hb dX4_moveTo_23 rfl (lv_at hl 1 rfl) ?_
      obtain ⟨v11, T10, h12, hf⟩ := zb_i hf
      refine z_ok (z_runV (As := [.int p0]) (rest := []) F k_X4_hasBirthday m_1434 (c_X4_hasBirthday p0 T7 T10 _ h12) hP hS (zV_m (by decide)) rfl rfl rfl rfl hl.1 (Nat.le_of_ble_eq_true rfl) dX4_moveTo_24 (Nat.le_of_ble_eq_true rfl) ⟨Nat.le_of_ble_eq_true rfl, Nat.le_of_ble_eq_true rfl⟩ rfl) hS (fun H locs hP hS => ?_)
      refine lv_if_eq (tgt := 56) hx hb dX4_moveTo_27 (by decide) (fun hc => ?_) (fun hc => ?_)
      · have hf := zif_p hf hc
        exact j_X4_moveTo_56 F hr hlocks hex p0 p1 T10 hf hP hS (lv_sub hl [0, 1, 2] rfl)
      · have hf := zif_n hf hc
        refine lv_aload_n hx hb dX4_moveTo_30 rfl (lv_at hl 0 rfl) ?_
        refine lv_iload_n hx hb dX4_moveTo_31 rfl (lv_at hl 1 rfl) ?_
        refine lv_iload_n hx hb dX4_moveTo_32 rfl (lv_at hl 2 rfl) ?_
        refine lv_aload_n hx hb dX4_moveTo_33 rfl (lv_at hl 0 rfl) ?_
        refine z_get hx hb hts (fun w h => List.mem_cons_of_mem _ (ziX4 w h)) hown hK hP (zV_m (by decide)) rfl rfl 2 (by decide) (List.mem_cons_of_mem _ m_1143) rfl rfl dX4_moveTo_34 ?_
        refine lv_iload_n hx hb dX4_moveTo_37 rfl (lv_at hl 1 rfl) ?_
        obtain ⟨v31, T30, h32, hf⟩ := zb_i hf
        refine z_ok (z_runS (As := [.int p0]) (rest := [.ref (G 2 0), .int p1, .int p0, .ref (G 0 0)]) F k_X4_c m_1095 (c_X4_c p0 T10 T30 _ h32) hP hS rfl rfl hl.1 (Nat.le_of_ble_eq_true rfl) dX4_moveTo_38 (Nat.le_of_ble_eq_true rfl) ⟨Nat.le_of_ble_eq_true rfl, Nat.le_of_ble_eq_true rfl⟩ rfl) hS (fun H locs hP hS => ?_)
        refine lv_iconst (v := 4) hx hb dX4_moveTo_41 (by decide) ?_
        refine lv_iadd hx hb dX4_moveTo_42 ?_
        obtain ⟨x34, ex34, hf⟩ := zl_i hf
        refine z_topi ex34 ?_
        obtain ⟨h33, hf⟩ := zif_c hf
        refine z_iald hx hb hK hP (zIA_m (by decide) (by decide)) (zin_i h33) dX4_moveTo_43 ?_
        obtain ⟨v36, T35, h37, hf⟩ := zb_i hf
        refine z_ok (z_runV (As := [.int p0, .int p1, .int (T30.2 2 0 x34.toNatClampNeg)]) (rest := []) F k_X4_reason m_1105 (c_X4_reason p0 p1 (T30.2 2 0 x34.toNatClampNeg) T30 T35 _ h37) hP hS (zV_m (by decide)) rfl rfl rfl rfl hl.1 (Nat.le_of_ble_eq_true rfl) dX4_moveTo_44 (Nat.le_of_ble_eq_true rfl) ⟨Nat.le_of_ble_eq_true rfl, Nat.le_of_ble_eq_true rfl⟩ rfl) hS (fun H locs hP hS => ?_)
        refine lv_if_eq (tgt := 56) hx hb dX4_moveTo_47 (by decide) (fun hc => ?_) (fun hc => ?_)
        · have hf := zif_p hf hc
          exact j_X4_moveTo_56 F hr hlocks hex p0 p1 T35 hf hP hS (lv_sub hl [0, 1, 2] rfl)
        · have hf := zif_n hf hc
          refine lv_aload_n hx hb dX4_moveTo_50 rfl (lv_at hl 0 rfl) ?_
          refine lv_iconst (v := 2) hx hb dX4_moveTo_51 (by decide) ?_
          obtain ⟨v39, T38, h40, hf⟩ := zb_i hf
          refine z_ok (z_runV (As := [.int 2]) (rest := []) F k_X4_refuse m_1222 (c_X4_refuse 2 T35 T38 _ h40) hP hS (zV_m (by decide)) rfl rfl rfl rfl hl.1 (Nat.le_of_ble_eq_true rfl) dX4_moveTo_52 (Nat.le_of_ble_eq_true rfl) ⟨Nat.le_of_ble_eq_true rfl, Nat.le_of_ble_eq_true rfl⟩ rfl) hS (fun H locs hP hS => ?_)
          obtain ⟨q1, q2⟩ := zs_i hf
          subst q1; subst q2
          exact z_iret hx hb hr rfl hP hS hlocks (Nat.le_of_ble_eq_true rfl) (Nat.le_of_ble_eq_true rfl) dX4_moveTo_55
    · have hf := zif_p hf hc
      refine lv_aload_n hx hb dX4_moveTo_16 rfl (lv_at hl 0 rfl) ?_
      refine lv_iconst (v := 1) hx hb dX4_moveTo_17 (by decide) ?_
      obtain ⟨v42, T41, h43, hf⟩ := zb_i hf
      refine z_ok (z_runV (As := [.int 1]) (rest := []) F k_X4_refuse m_1222 (c_X4_refuse 1 T7 T41 _ h43) hP hS (zV_m (by decide)) rfl rfl rfl rfl hl.1 (Nat.le_of_ble_eq_true rfl) dX4_moveTo_18 (Nat.le_of_ble_eq_true rfl) ⟨Nat.le_of_ble_eq_true rfl, Nat.le_of_ble_eq_true rfl⟩ rfl) hS (fun H locs hP hS => ?_)
      obtain ⟨q1, q2⟩ := zs_i hf
      subst q1; subst q2
      exact z_iret hx hb hr rfl hP hS hlocks (Nat.le_of_ble_eq_true rfl) (Nat.le_of_ble_eq_true rfl) dX4_moveTo_21

def f_X4_buyCandles (p0 : Int32) (T : zT) : Option (Int32 × zT) := zb (f_X4_in p0 1 999 T) fun v2 T1 => (if v2 = 0 then zb (f_X4_refuse 1 T1) fun v22 T21 => some (v22, T21) else (if ((T1.2 2 0 3) + p0) ≤ 9999 then zb (f_X4_remembers T1) fun _v6 T5 => zl (wA T5 2 0 (upd (T5.2 2 0) 3 ((T5.2 2 0 3) + p0))) fun T10 => zl (wA T10 2 0 (upd (T10.2 2 0) 7 ((T10.2 2 0 7) + p0))) fun T13 => zb (f_X4_told (T13.2 2 0 3) T13) fun v16 T15 => some (v16, T15) else zb (f_X4_refuse 2 T1) fun v19 T18 => some (v19, T18)))
set_option maxHeartbeats 4000000 in
set_option maxRecDepth 100000 in
theorem c_X4_buyCandles (p0 : Int32) (T T' : zT) (v : Int32) (hf : f_X4_buyCandles p0 T = some (v, T')) : zC 1 yX4_buyCandles cX4_buyCandles 2 (some .int) 1  0 0  (fun G _ => [.ref (G 0 0), .int p0]) T (fun _ => .inl (some (.int v))) T' := by
  intro l D Y S V G A hl9 hG
  refine vx_ofW (cc := cX4_buyCandles) (maxL := 2) (ret := (some .int)) (by decide) rfl ?_
  intro p e s m args below meth c s₁ B hml hex hv
  obtain ⟨rfl, hK, hP, hA⟩ := hv
  have hx := B.exec
  have hb := B.bytes
  have hr := B.returns
  have hlocks := B.notSynchronized
  have hown : s.vm.findClass RX4 = some m.cls := findClass_of_methodNamed B.named
  have hts := atoms_spec (ws := Cond.code yX4_buyCandles cX4_buyCandles 2 (some .int) :: zWS) B.pre
  have F : zF 1 1  0 0  p l s m _ c cX4_buyCandles 2 RX4 (Cond.code yX4_buyCandles cX4_buyCandles 2 (some .int)) D Y S V G A := ⟨hx, hb, hml, hown, hts, hl9, hG, hK, hA⟩
  have hS : va_S A s.heap s.heap [] := va_S.rf
  have hl := lv_entry ([.ref (G 0 0), .int p0]) (n := 2) (Nat.le_of_ble_eq_true rfl)
  rw [lg_entry_eq]
  generalize (lg_sl ([.ref (G 0 0), .int p0]) ++ List.replicate (2 - (lg_sl ([.ref (G 0 0), .int p0])).length) Slot.unset).toArray = ls at hl ⊢
  have hl : lv_has ls 2 [(0, .ref (G 0 0)), (1, .int p0)] := hl
  unfold f_X4_buyCandles at hf
  refine lv_iload_n hx hb dX4_buyCandles_0 rfl (lv_at hl 1 rfl) ?_
  refine lv_iconst (v := 1) hx hb dX4_buyCandles_1 (by decide) ?_
  refine lv_sipush (v := 999) hx hb dX4_buyCandles_2 (by decide) ?_
  obtain ⟨v2, T1, h3, hf⟩ := zb_i hf
  refine z_ok (z_runS (As := [.int p0, .int 1, .int 999]) (rest := []) F k_X4_in m_1238 (c_X4_in p0 1 999 T T1 _ h3) hP hS rfl rfl hl.1 (Nat.le_of_ble_eq_true rfl) dX4_buyCandles_5 (Nat.le_of_ble_eq_true rfl) ⟨Nat.le_of_ble_eq_true rfl, Nat.le_of_ble_eq_true rfl⟩ rfl) hS (fun H locs hP hS => ?_)
  refine lv_if_ne (tgt := 17) hx hb dX4_buyCandles_8 (by decide) (fun hc => ?_) (fun hc => ?_)
  · have hf := zif_n hf hc
    refine lv_aload_n hx hb dX4_buyCandles_17 rfl (lv_at hl 0 rfl) ?_
    refine z_get hx hb hts (fun w h => List.mem_cons_of_mem _ (ziX4 w h)) hown hK hP (zV_m (by decide)) rfl rfl 2 (by decide) (List.mem_cons_of_mem _ m_1143) rfl rfl dX4_buyCandles_18 ?_
    refine lv_iconst (v := 3) hx hb dX4_buyCandles_21 (by decide) ?_
    refine z_iald_ (j := 3) hx hb hK hP (zIA_m (by decide) (by decide)) (by decide) (by decide) dX4_buyCandles_22 ?_
    refine lv_iload_n hx hb dX4_buyCandles_23 rfl (lv_at hl 1 rfl) ?_
    refine lv_iadd hx hb dX4_buyCandles_24 ?_
    refine lv_sipush (v := 9999) hx hb dX4_buyCandles_25 (by decide) ?_
    refine lv_icmp_le (tgt := 37) hx hb dX4_buyCandles_28 (by decide) (fun hc => ?_) (fun hc => ?_)
    · have hf := zif_p hf hc
      refine lv_aload_n hx hb dX4_buyCandles_37 rfl (lv_at hl 0 rfl) ?_
      obtain ⟨v6, T5, h7, hf⟩ := zb_i hf
      refine z_ok (z_runV (As := []) (rest := []) F k_X4_remembers m_1541 (c_X4_remembers T1 T5 _ h7) hP hS (zV_m (by decide)) rfl rfl rfl rfl hl.1 (Nat.le_of_ble_eq_true rfl) dX4_buyCandles_38 (Nat.le_of_ble_eq_true rfl) ⟨Nat.le_of_ble_eq_true rfl, Nat.le_of_ble_eq_true rfl⟩ rfl) hS (fun H locs hP hS => ?_)
      refine lv_aload_n hx hb dX4_buyCandles_41 rfl (lv_at hl 0 rfl) ?_
      refine z_get hx hb hts (fun w h => List.mem_cons_of_mem _ (ziX4 w h)) hown hK hP (zV_m (by decide)) rfl rfl 2 (by decide) (List.mem_cons_of_mem _ m_1143) rfl rfl dX4_buyCandles_42 ?_
      refine lv_iconst (v := 3) hx hb dX4_buyCandles_45 (by decide) ?_
      refine lv_dup2_11 hx hb dX4_buyCandles_46 rfl rfl ?_
      refine z_iald_ (j := 3) hx hb hK hP (zIA_m (by decide) (by decide)) (by decide) (by decide) dX4_buyCandles_47 ?_
      refine lv_iload_n hx hb dX4_buyCandles_48 rfl (lv_at hl 1 rfl) ?_
      refine lv_iadd hx hb dX4_buyCandles_49 ?_
      obtain ⟨T10, eT10, hf⟩ := zl_i hf
      refine z_iast_ (j := 3) hx hb hK hP hG hS (zIA_m (by decide) (by decide)) (by decide) (by decide) dX4_buyCandles_50 (fun H locs hP hS => ?_)
      rw [← eT10] at hP
      refine lv_aload_n hx hb dX4_buyCandles_51 rfl (lv_at hl 0 rfl) ?_
      refine z_get hx hb hts (fun w h => List.mem_cons_of_mem _ (ziX4 w h)) hown hK hP (zV_m (by decide)) rfl rfl 2 (by decide) (List.mem_cons_of_mem _ m_1143) rfl rfl dX4_buyCandles_52 ?_
      refine lv_bipush (v := 7) hx hb dX4_buyCandles_55 (by decide) ?_
      refine lv_dup2_11 hx hb dX4_buyCandles_57 rfl rfl ?_
      refine z_iald_ (j := 7) hx hb hK hP (zIA_m (by decide) (by decide)) (by decide) (by decide) dX4_buyCandles_58 ?_
      refine lv_iload_n hx hb dX4_buyCandles_59 rfl (lv_at hl 1 rfl) ?_
      refine lv_iadd hx hb dX4_buyCandles_60 ?_
      obtain ⟨T13, eT13, hf⟩ := zl_i hf
      refine z_iast_ (j := 7) hx hb hK hP hG hS (zIA_m (by decide) (by decide)) (by decide) (by decide) dX4_buyCandles_61 (fun H locs hP hS => ?_)
      rw [← eT13] at hP
      refine lv_aload_n hx hb dX4_buyCandles_62 rfl (lv_at hl 0 rfl) ?_
      refine lv_aload_n hx hb dX4_buyCandles_63 rfl (lv_at hl 0 rfl) ?_
      refine z_get hx hb hts (fun w h => List.mem_cons_of_mem _ (ziX4 w h)) hown hK hP (zV_m (by decide)) rfl rfl 2 (by decide) (List.mem_cons_of_mem _ m_1143) rfl rfl dX4_buyCandles_64 ?_
      refine lv_iconst (v := 3) hx hb dX4_buyCandles_67 (by decide) ?_
      refine z_iald_ (j := 3) hx hb hK hP (zIA_m (by decide) (by decide)) (by decide) (by decide) dX4_buyCandles_68 ?_
      obtain ⟨v16, T15, h17, hf⟩ := zb_i hf
      refine z_ok (z_runV (As := [.int (T13.2 2 0 3)]) (rest := []) F k_X4_told m_1230 (c_X4_told (T13.2 2 0 3) T13 T15 _ h17) hP hS (zV_m (by decide)) rfl rfl rfl rfl hl.1 (Nat.le_of_ble_eq_true rfl) dX4_buyCandles_69 (Nat.le_of_ble_eq_true rfl) ⟨Nat.le_of_ble_eq_true rfl, Nat.le_of_ble_eq_true rfl⟩ rfl) hS (fun H locs hP hS => ?_)
      obtain ⟨q1, q2⟩ := zs_i hf
      subst q1; subst q2
      exact z_iret hx hb hr rfl hP hS hlocks (Nat.le_of_ble_eq_true rfl) (Nat.le_of_ble_eq_true rfl) dX4_buyCandles_72
    · have hf := zif_n hf hc
      refine lv_aload_n hx hb dX4_buyCandles_31 rfl (lv_at hl 0 rfl) ?_
      refine lv_iconst (v := 2) hx hb dX4_buyCandles_32 (by decide) ?_
      obtain ⟨v19, T18, h20, hf⟩ := zb_i hf
      refine z_ok (z_runV (As := [.int 2]) (rest := []) F k_X4_refuse m_1222 (c_X4_refuse 2 T1 T18 _ h20) hP hS (zV_m (by decide)) rfl rfl rfl rfl hl.1 (Nat.le_of_ble_eq_true rfl) dX4_buyCandles_33 (Nat.le_of_ble_eq_true rfl) ⟨Nat.le_of_ble_eq_true rfl, Nat.le_of_ble_eq_true rfl⟩ rfl) hS (fun H locs hP hS => ?_)
      obtain ⟨q1, q2⟩ := zs_i hf
      subst q1; subst q2
      exact z_iret hx hb hr rfl hP hS hlocks (Nat.le_of_ble_eq_true rfl) (Nat.le_of_ble_eq_true rfl) dX4_buyCandles_36
  · have hf := zif_p hf hc
    refine lv_aload_n hx hb dX4_buyCandles_11 rfl (lv_at hl 0 rfl) ?_
    refine lv_iconst (v := 1) hx hb dX4_buyCandles_12 (by decide) ?_
    obtain ⟨v22, T21, h23, hf⟩ := zb_i hf
    refine z_ok (z_runV (As := [.int 1]) (rest := []) F k_X4_refuse m_1222 (c_X4_refuse 1 T1 T21 _ h23) hP hS (zV_m (by decide)) rfl rfl rfl rfl hl.1 (Nat.le_of_ble_eq_true rfl) dX4_buyCandles_13 (Nat.le_of_ble_eq_true rfl) ⟨Nat.le_of_ble_eq_true rfl, Nat.le_of_ble_eq_true rfl⟩ rfl) hS (fun H locs hP hS => ?_)
    obtain ⟨q1, q2⟩ := zs_i hf
    subst q1; subst q2
    exact z_iret hx hb hr rfl hP hS hlocks (Nat.le_of_ble_eq_true rfl) (Nat.le_of_ble_eq_true rfl) dX4_buyCandles_16

def f_X4_bakeCakes (p0 : Int32) (p1 : Int32) (T : zT) : Option (Int32 × zT) := zb (f_X4_in p0 0 5 T) fun v2 T1 => (if v2 = 0 then zb (f_X4_refuse 1 T1) fun v5 T4 => some (v5, T4) else zb (f_X4_in p1 1 99 T1) fun v8 T7 => (if v8 = 0 then zb (f_X4_refuse 1 T7) fun v28 T27 => some (v28, T27) else zl (11 + p0) fun x11 => if zin x11 151 = true then (if ((T7.2 2 0 x11.toNatClampNeg) + p1) ≤ 99 then zb (f_X4_remembers T7) fun _v13 T12 => zl (11 + p0) fun x16 => if zin x16 151 = true then if zin (11 + p0) 151 = true then zl (wA T12 2 0 (upd (T12.2 2 0) (11 + p0).toNatClampNeg ((T12.2 2 0 x16.toNatClampNeg) + p1))) fun T18 => zl (11 + p0) fun x20 => if zin x20 151 = true then zb (f_X4_told (T18.2 2 0 x20.toNatClampNeg) T18) fun v22 T21 => some (v22, T21) else none else none else none else zb (f_X4_refuse 2 T7) fun v25 T24 => some (v25, T24)) else none))
set_option maxHeartbeats 4000000 in
set_option maxRecDepth 100000 in
theorem c_X4_bakeCakes (p0 : Int32) (p1 : Int32) (T T' : zT) (v : Int32) (hf : f_X4_bakeCakes p0 p1 T = some (v, T')) : zC 1 yX4_bakeCakes cX4_bakeCakes 3 (some .int) 1  0 0  (fun G _ => [.ref (G 0 0), .int p0, .int p1]) T (fun _ => .inl (some (.int v))) T' := by
  intro l D Y S V G A hl9 hG
  refine vx_ofW (cc := cX4_bakeCakes) (maxL := 3) (ret := (some .int)) (by decide) rfl ?_
  intro p e s m args below meth c s₁ B hml hex hv
  obtain ⟨rfl, hK, hP, hA⟩ := hv
  have hx := B.exec
  have hb := B.bytes
  have hr := B.returns
  have hlocks := B.notSynchronized
  have hown : s.vm.findClass RX4 = some m.cls := findClass_of_methodNamed B.named
  have hts := atoms_spec (ws := Cond.code yX4_bakeCakes cX4_bakeCakes 3 (some .int) :: zWS) B.pre
  have F : zF 1 1  0 0  p l s m _ c cX4_bakeCakes 3 RX4 (Cond.code yX4_bakeCakes cX4_bakeCakes 3 (some .int)) D Y S V G A := ⟨hx, hb, hml, hown, hts, hl9, hG, hK, hA⟩
  have hS : va_S A s.heap s.heap [] := va_S.rf
  have hl := lv_entry ([.ref (G 0 0), .int p0, .int p1]) (n := 3) (Nat.le_of_ble_eq_true rfl)
  rw [lg_entry_eq]
  generalize (lg_sl ([.ref (G 0 0), .int p0, .int p1]) ++ List.replicate (3 - (lg_sl ([.ref (G 0 0), .int p0, .int p1])).length) Slot.unset).toArray = ls at hl ⊢
  have hl : lv_has ls 3 [(0, .ref (G 0 0)), (1, .int p0), (2, .int p1)] := hl
  unfold f_X4_bakeCakes at hf
  refine lv_iload_n hx hb dX4_bakeCakes_0 rfl (lv_at hl 1 rfl) ?_
  refine lv_iconst (v := 0) hx hb dX4_bakeCakes_1 (by decide) ?_
  refine lv_iconst (v := 5) hx hb dX4_bakeCakes_2 (by decide) ?_
  obtain ⟨v2, T1, h3, hf⟩ := zb_i hf
  refine z_ok (z_runS (As := [.int p0, .int 0, .int 5]) (rest := []) F k_X4_in m_1238 (c_X4_in p0 0 5 T T1 _ h3) hP hS rfl rfl hl.1 (Nat.le_of_ble_eq_true rfl) dX4_bakeCakes_3 (Nat.le_of_ble_eq_true rfl) ⟨Nat.le_of_ble_eq_true rfl, Nat.le_of_ble_eq_true rfl⟩ rfl) hS (fun H locs hP hS => ?_)
  refine lv_if_eq (tgt := 19) hx hb dX4_bakeCakes_6 (by decide) (fun hc => ?_) (fun hc => ?_)
  · have hf := zif_p hf hc
    refine lv_aload_n hx hb dX4_bakeCakes_19 rfl (lv_at hl 0 rfl) ?_
    refine lv_iconst (v := 1) hx hb dX4_bakeCakes_20 (by decide) ?_
    obtain ⟨v5, T4, h6, hf⟩ := zb_i hf
    refine z_ok (z_runV (As := [.int 1]) (rest := []) F k_X4_refuse m_1222 (c_X4_refuse 1 T1 T4 _ h6) hP hS (zV_m (by decide)) rfl rfl rfl rfl hl.1 (Nat.le_of_ble_eq_true rfl) dX4_bakeCakes_21 (Nat.le_of_ble_eq_true rfl) ⟨Nat.le_of_ble_eq_true rfl, Nat.le_of_ble_eq_true rfl⟩ rfl) hS (fun H locs hP hS => ?_)
    obtain ⟨q1, q2⟩ := zs_i hf
    subst q1; subst q2
    exact z_iret hx hb hr rfl hP hS hlocks (Nat.le_of_ble_eq_true rfl) (Nat.le_of_ble_eq_true rfl) dX4_bakeCakes_24
  · have hf := zif_n hf hc
    refine lv_iload_n hx hb dX4_bakeCakes_9 rfl (lv_at hl 2 rfl) ?_
    refine lv_iconst (v := 1) hx hb dX4_bakeCakes_10 (by decide) ?_
    refine lv_bipush (v := 99) hx hb dX4_bakeCakes_11 (by decide) ?_
    obtain ⟨v8, T7, h9, hf⟩ := zb_i hf
    refine z_ok (z_runS (As := [.int p1, .int 1, .int 99]) (rest := []) F k_X4_in m_1238 (c_X4_in p1 1 99 T1 T7 _ h9) hP hS rfl rfl hl.1 (Nat.le_of_ble_eq_true rfl) dX4_bakeCakes_13 (Nat.le_of_ble_eq_true rfl) ⟨Nat.le_of_ble_eq_true rfl, Nat.le_of_ble_eq_true rfl⟩ rfl) hS (fun H locs hP hS => ?_)
    refine lv_if_ne (tgt := 25) hx hb dX4_bakeCakes_16 (by decide) (fun hc => ?_) (fun hc => ?_)
    · have hf := zif_n hf hc
      refine lv_aload_n hx hb dX4_bakeCakes_25 rfl (lv_at hl 0 rfl) ?_
      refine z_get hx hb hts (fun w h => List.mem_cons_of_mem _ (ziX4 w h)) hown hK hP (zV_m (by decide)) rfl rfl 2 (by decide) (List.mem_cons_of_mem _ m_1143) rfl rfl dX4_bakeCakes_26 ?_
      refine lv_bipush (v := 11) hx hb dX4_bakeCakes_29 (by decide) ?_
      refine lv_iload_n hx hb dX4_bakeCakes_31 rfl (lv_at hl 1 rfl) ?_
      refine lv_iadd hx hb dX4_bakeCakes_32 ?_
      obtain ⟨x11, ex11, hf⟩ := zl_i hf
      refine z_topi ex11 ?_
      obtain ⟨h10, hf⟩ := zif_c hf
      refine z_iald hx hb hK hP (zIA_m (by decide) (by decide)) (zin_i h10) dX4_bakeCakes_33 ?_
      refine lv_iload_n hx hb dX4_bakeCakes_34 rfl (lv_at hl 2 rfl) ?_
      refine lv_iadd hx hb dX4_bakeCakes_35 ?_
      refine lv_bipush (v := 99) hx hb dX4_bakeCakes_36 (by decide) ?_
      refine lv_icmp_le (tgt := 47) hx hb dX4_bakeCakes_38 (by decide) (fun hc => ?_) (fun hc => ?_)
      · have hf := zif_p hf hc
        refine lv_aload_n hx hb dX4_bakeCakes_47 rfl (lv_at hl 0 rfl) ?_
        obtain ⟨v13, T12, h14, hf⟩ := zb_i hf
        refine z_ok (z_runV (As := []) (rest := []) F k_X4_remembers m_1541 (c_X4_remembers T7 T12 _ h14) hP hS (zV_m (by decide)) rfl rfl rfl rfl hl.1 (Nat.le_of_ble_eq_true rfl) dX4_bakeCakes_48 (Nat.le_of_ble_eq_true rfl) ⟨Nat.le_of_ble_eq_true rfl, Nat.le_of_ble_eq_true rfl⟩ rfl) hS (fun H locs hP hS => ?_)
        refine lv_aload_n hx hb dX4_bakeCakes_51 rfl (lv_at hl 0 rfl) ?_
        refine z_get hx hb hts (fun w h => List.mem_cons_of_mem _ (ziX4 w h)) hown hK hP (zV_m (by decide)) rfl rfl 2 (by decide) (List.mem_cons_of_mem _ m_1143) rfl rfl dX4_bakeCakes_52 ?_
        refine lv_bipush (v := 11) hx hb dX4_bakeCakes_55 (by decide) ?_
        refine lv_iload_n hx hb dX4_bakeCakes_57 rfl (lv_at hl 1 rfl) ?_
        refine lv_iadd hx hb dX4_bakeCakes_58 ?_
        refine lv_dup2_11 hx hb dX4_bakeCakes_59 rfl rfl ?_
        obtain ⟨x16, ex16, hf⟩ := zl_i hf
        refine z_topi ex16 ?_
        obtain ⟨h15, hf⟩ := zif_c hf
        refine z_iald hx hb hK hP (zIA_m (by decide) (by decide)) (zin_i h15) dX4_bakeCakes_60 ?_
        refine lv_iload_n hx hb dX4_bakeCakes_61 rfl (lv_at hl 2 rfl) ?_
        refine lv_iadd hx hb dX4_bakeCakes_62 ?_
        obtain ⟨h17, hf⟩ := zif_c hf
        obtain ⟨T18, eT18, hf⟩ := zl_i hf
        refine z_iast hx hb hK hP hG hS (zIA_m (by decide) (by decide)) (zin_i h17) dX4_bakeCakes_63 (fun H locs hP hS => ?_)
        rw [← eT18] at hP
        refine lv_aload_n hx hb dX4_bakeCakes_64 rfl (lv_at hl 0 rfl) ?_
        refine lv_aload_n hx hb dX4_bakeCakes_65 rfl (lv_at hl 0 rfl) ?_
        refine z_get hx hb hts (fun w h => List.mem_cons_of_mem _ (ziX4 w h)) hown hK hP (zV_m (by decide)) rfl rfl 2 (by decide) (List.mem_cons_of_mem _ m_1143) rfl rfl dX4_bakeCakes_66 ?_
        refine lv_bipush (v := 11) hx hb dX4_bakeCakes_69 (by decide) ?_
        refine lv_iload_n hx hb dX4_bakeCakes_71 rfl (lv_at hl 1 rfl) ?_
        refine lv_iadd hx hb dX4_bakeCakes_72 ?_
        obtain ⟨x20, ex20, hf⟩ := zl_i hf
        refine z_topi ex20 ?_
        obtain ⟨h19, hf⟩ := zif_c hf
        refine z_iald hx hb hK hP (zIA_m (by decide) (by decide)) (zin_i h19) dX4_bakeCakes_73 ?_
        obtain ⟨v22, T21, h23, hf⟩ := zb_i hf
        refine z_ok (z_runV (As := [.int (T18.2 2 0 x20.toNatClampNeg)]) (rest := []) F k_X4_told m_1230 (c_X4_told (T18.2 2 0 x20.toNatClampNeg) T18 T21 _ h23) hP hS (zV_m (by decide)) rfl rfl rfl rfl hl.1 (Nat.le_of_ble_eq_true rfl) dX4_bakeCakes_74 (Nat.le_of_ble_eq_true rfl) ⟨Nat.le_of_ble_eq_true rfl, Nat.le_of_ble_eq_true rfl⟩ rfl) hS (fun H locs hP hS => ?_)
        obtain ⟨q1, q2⟩ := zs_i hf
        subst q1; subst q2
        exact z_iret hx hb hr rfl hP hS hlocks (Nat.le_of_ble_eq_true rfl) (Nat.le_of_ble_eq_true rfl) dX4_bakeCakes_77
      · have hf := zif_n hf hc
        refine lv_aload_n hx hb dX4_bakeCakes_41 rfl (lv_at hl 0 rfl) ?_
        refine lv_iconst (v := 2) hx hb dX4_bakeCakes_42 (by decide) ?_
        obtain ⟨v25, T24, h26, hf⟩ := zb_i hf
        refine z_ok (z_runV (As := [.int 2]) (rest := []) F k_X4_refuse m_1222 (c_X4_refuse 2 T7 T24 _ h26) hP hS (zV_m (by decide)) rfl rfl rfl rfl hl.1 (Nat.le_of_ble_eq_true rfl) dX4_bakeCakes_43 (Nat.le_of_ble_eq_true rfl) ⟨Nat.le_of_ble_eq_true rfl, Nat.le_of_ble_eq_true rfl⟩ rfl) hS (fun H locs hP hS => ?_)
        obtain ⟨q1, q2⟩ := zs_i hf
        subst q1; subst q2
        exact z_iret hx hb hr rfl hP hS hlocks (Nat.le_of_ble_eq_true rfl) (Nat.le_of_ble_eq_true rfl) dX4_bakeCakes_46
    · have hf := zif_p hf hc
      refine lv_aload_n hx hb dX4_bakeCakes_19 rfl (lv_at hl 0 rfl) ?_
      refine lv_iconst (v := 1) hx hb dX4_bakeCakes_20 (by decide) ?_
      obtain ⟨v28, T27, h29, hf⟩ := zb_i hf
      refine z_ok (z_runV (As := [.int 1]) (rest := []) F k_X4_refuse m_1222 (c_X4_refuse 1 T7 T27 _ h29) hP hS (zV_m (by decide)) rfl rfl rfl rfl hl.1 (Nat.le_of_ble_eq_true rfl) dX4_bakeCakes_21 (Nat.le_of_ble_eq_true rfl) ⟨Nat.le_of_ble_eq_true rfl, Nat.le_of_ble_eq_true rfl⟩ rfl) hS (fun H locs hP hS => ?_)
      obtain ⟨q1, q2⟩ := zs_i hf
      subst q1; subst q2
      exact z_iret hx hb hr rfl hP hS hlocks (Nat.le_of_ble_eq_true rfl) (Nat.le_of_ble_eq_true rfl) dX4_bakeCakes_24

def lp_X4_restore_38 (w1 : Int32) : Nat → Int32 → zT → Option ((Int32) × zT)
  | 0, _, _ => none
  | n + 1, u2, T => (if 151 ≤ u2 then some (u2, T) else zl ((w1 * 151) + u2) fun x8 => if zin x8 302 = true then if zin u2 151 = true then zl (wA T 2 0 (upd (T.2 2 0) u2.toNatClampNeg (T.2 5 0 x8.toNatClampNeg))) fun T10 => zl (u2 + 1) fun x11 => lp_X4_restore_38 w1 n x11 T10 else none else none)
def f_X4_restore (p0 : Int32) (T : zT) : Option (Int32 × zT) := zb (f_X4_in p0 0 1 T) fun v2 T1 => (if v2 = 0 then zb (f_X4_refuse 1 T1) fun v23 T22 => some (v23, T22) else (if (((T1.1 0 0 7) >>> (p0 &&& 31)) &&& 1) = 0 then zb (f_X4_refuse 2 T1) fun v20 T19 => some (v20, T19) else zb (f_X4_remembers T1) fun _v5 T4 => zb (lp_X4_restore_38 p0 2000 0 T4) fun v13 T12 => zb (f_X4_told (T12.2 2 0 0) T12) fun v17 T16 => some (v17, T16)))
set_option maxHeartbeats 4000000 in
set_option maxRecDepth 100000 in
theorem l_X4_restore_38 {p : Program} {l : Launch} {e : Env} {s : State} {m : MethodId} {args : Array Value} {below : List Frame} {meth : Method} {c : Code} {Q : State → Prop} {D : va_G} {Y : Nat → ClassId} {S V : Nat → Nat} {G : Nat → Nat → Nat} {A : Nat → Prop} {c0 : Cond} {mc ms cells slots : Nat} (F : zF 1 1 mc ms p l s m args c cX4_restore 3 RX4 c0 D Y S V G A) (hcs : cells ≤ mc ∧ slots ≤ ms) (w1 : Int32) :
    ∀ (n : Nat) (u2 : Int32) (T : zT) (o : (Int32) × zT) (H : Heap) (locs : List Loc) (ls : Array Slot), lp_X4_restore_38 w1 n u2 T = some o → zP 1 D Y G T H → va_S A s.heap H locs → lv_has ls 3 [(0, .ref (G 0 0)), (1, .int w1), (2, .int u2)] → (∀ (H : Heap) (locs : List Loc) (ls : Array Slot), zP 1 D Y G o.2 H → va_S A s.heap H locs → lv_has ls 3 [(0, .ref (G 0 0)), (1, .int w1), (2, .int o.1)] → W p l e (zR 1 mc ms) s m args below meth c H locs cells slots Q (F0 m 69 ls [])) → W p l e (zR 1 mc ms) s m args below meth c H locs cells slots Q (F0 m 38 ls []) := by
  obtain ⟨hx, hb, hml, hown, hts, hl9, hG, hK, hA⟩ := id F
  intro n
  induction n with
  | zero =>
    intro u2 T o H locs ls hf
    rw [lp_X4_restore_38] at hf
    cases hf
  | succ n ih =>
    intro u2 T o H locs ls hf hP hS hl k0_
    rw [lp_X4_restore_38] at hf
    refine lv_iload_n hx hb dX4_restore_38 rfl (lv_at hl 2 rfl) ?_
    refine lv_sipush (v := 151) hx hb dX4_restore_39 (by decide) ?_
    refine lv_icmp_ge (tgt := 69) hx hb dX4_restore_42 (by decide) (fun hc => ?_) (fun hc => ?_)
    · have hf := zif_p hf hc
      cases hf
      exact k0_ _ _ _ hP hS (lv_sub hl [0, 1, 2] rfl)
    · have hf := zif_n hf hc
      refine lv_aload_n hx hb dX4_restore_45 rfl (lv_at hl 0 rfl) ?_
      refine z_get hx hb hts (fun w h => List.mem_cons_of_mem _ (ziX4 w h)) hown hK hP (zV_m (by decide)) rfl rfl 2 (by decide) (List.mem_cons_of_mem _ m_1143) rfl rfl dX4_restore_46 ?_
      refine lv_iload_n hx hb dX4_restore_49 rfl (lv_at hl 2 rfl) ?_
      refine lv_aload_n hx hb dX4_restore_50 rfl (lv_at hl 0 rfl) ?_
      refine z_get hx hb hts (fun w h => List.mem_cons_of_mem _ (ziX4 w h)) hown hK hP (zV_m (by decide)) rfl rfl 6 (by decide) (List.mem_cons_of_mem _ m_1147) rfl rfl dX4_restore_51 ?_
      refine lv_iload_n hx hb dX4_restore_54 rfl (lv_at hl 1 rfl) ?_
      refine lv_sipush (v := 151) hx hb dX4_restore_55 (by decide) ?_
      refine lv_imul hx hb dX4_restore_58 ?_
      refine lv_iload_n hx hb dX4_restore_59 rfl (lv_at hl 2 rfl) ?_
      refine lv_iadd hx hb dX4_restore_60 ?_
      obtain ⟨x8, ex8, hf⟩ := zl_i hf
      refine z_topi ex8 ?_
      obtain ⟨h7, hf⟩ := zif_c hf
      refine z_iald hx hb hK hP (zIA_m (by decide) (by decide)) (zin_i h7) dX4_restore_61 ?_
      obtain ⟨h9, hf⟩ := zif_c hf
      obtain ⟨T10, eT10, hf⟩ := zl_i hf
      refine z_iast hx hb hK hP hG hS (zIA_m (by decide) (by decide)) (zin_i h9) dX4_restore_62 (fun H locs hP hS => ?_)
      rw [← eT10] at hP
      obtain ⟨x11, ex11, hf⟩ := zl_i hf
      refine lv_iinc (v := x11) (lv' := [(2, .int x11), (0, .ref (G 0 0)), (1, .int w1)]) hx hb dX4_restore_63 hl (k := 2) rfl (by rw [ex11]; rfl) (by decide) rfl (fun ls hl => ?_)
      refine lv_goto (tgt := 38) hx hb dX4_restore_66 (by decide) ?_
      exact ih x11 _ _ _ _ _ hf hP hS (lv_sub hl [1, 2, 0] rfl) k0_
set_option maxHeartbeats 4000000 in
set_option maxRecDepth 100000 in
theorem c_X4_restore (p0 : Int32) (T T' : zT) (v : Int32) (hf : f_X4_restore p0 T = some (v, T')) : zC 1 yX4_restore cX4_restore 3 (some .int) 1  0 0  (fun G _ => [.ref (G 0 0), .int p0]) T (fun _ => .inl (some (.int v))) T' := by
  intro l D Y S V G A hl9 hG
  refine vx_ofW (cc := cX4_restore) (maxL := 3) (ret := (some .int)) (by decide) rfl ?_
  intro p e s m args below meth c s₁ B hml hex hv
  obtain ⟨rfl, hK, hP, hA⟩ := hv
  have hx := B.exec
  have hb := B.bytes
  have hr := B.returns
  have hlocks := B.notSynchronized
  have hown : s.vm.findClass RX4 = some m.cls := findClass_of_methodNamed B.named
  have hts := atoms_spec (ws := Cond.code yX4_restore cX4_restore 3 (some .int) :: zWS) B.pre
  have F : zF 1 1  0 0  p l s m _ c cX4_restore 3 RX4 (Cond.code yX4_restore cX4_restore 3 (some .int)) D Y S V G A := ⟨hx, hb, hml, hown, hts, hl9, hG, hK, hA⟩
  have hS : va_S A s.heap s.heap [] := va_S.rf
  have hl := lv_entry ([.ref (G 0 0), .int p0]) (n := 3) (Nat.le_of_ble_eq_true rfl)
  rw [lg_entry_eq]
  generalize (lg_sl ([.ref (G 0 0), .int p0]) ++ List.replicate (3 - (lg_sl ([.ref (G 0 0), .int p0])).length) Slot.unset).toArray = ls at hl ⊢
  have hl : lv_has ls 3 [(0, .ref (G 0 0)), (1, .int p0)] := hl
  unfold f_X4_restore at hf
  refine lv_iload_n hx hb dX4_restore_0 rfl (lv_at hl 1 rfl) ?_
  refine lv_iconst (v := 0) hx hb dX4_restore_1 (by decide) ?_
  refine lv_iconst (v := 1) hx hb dX4_restore_2 (by decide) ?_
  obtain ⟨v2, T1, h3, hf⟩ := zb_i hf
  refine z_ok (z_runS (As := [.int p0, .int 0, .int 1]) (rest := []) F k_X4_in m_1238 (c_X4_in p0 0 1 T T1 _ h3) hP hS rfl rfl hl.1 (Nat.le_of_ble_eq_true rfl) dX4_restore_3 (Nat.le_of_ble_eq_true rfl) ⟨Nat.le_of_ble_eq_true rfl, Nat.le_of_ble_eq_true rfl⟩ rfl) hS (fun H locs hP hS => ?_)
  refine lv_if_ne (tgt := 15) hx hb dX4_restore_6 (by decide) (fun hc => ?_) (fun hc => ?_)
  · have hf := zif_n hf hc
    refine lv_aload_n hx hb dX4_restore_15 rfl (lv_at hl 0 rfl) ?_
    refine z_get hx hb hts (fun w h => List.mem_cons_of_mem _ (ziX4 w h)) hown hK hP (zV_m (by decide)) rfl rfl 7 (by decide) (List.mem_cons_of_mem _ m_1148) rfl rfl dX4_restore_16 ?_
    refine lv_iload_n hx hb dX4_restore_19 rfl (lv_at hl 1 rfl) ?_
    refine lv_ishr hx hb dX4_restore_20 ?_
    refine lv_iconst (v := 1) hx hb dX4_restore_21 (by decide) ?_
    refine lv_iand hx hb dX4_restore_22 ?_
    refine lv_if_ne (tgt := 32) hx hb dX4_restore_23 (by decide) (fun hc => ?_) (fun hc => ?_)
    · have hf := zif_n hf hc
      refine lv_aload_n hx hb dX4_restore_32 rfl (lv_at hl 0 rfl) ?_
      obtain ⟨v5, T4, h6, hf⟩ := zb_i hf
      refine z_ok (z_runV (As := []) (rest := []) F k_X4_remembers m_1541 (c_X4_remembers T1 T4 _ h6) hP hS (zV_m (by decide)) rfl rfl rfl rfl hl.1 (Nat.le_of_ble_eq_true rfl) dX4_restore_33 (Nat.le_of_ble_eq_true rfl) ⟨Nat.le_of_ble_eq_true rfl, Nat.le_of_ble_eq_true rfl⟩ rfl) hS (fun H locs hP hS => ?_)
      refine lv_iconst (v := 0) hx hb dX4_restore_36 (by decide) ?_
      refine lv_istore_n (lv' := [(2, .int 0), (0, .ref (G 0 0)), (1, .int p0)]) hx hb dX4_restore_37 rfl hl (by decide) rfl (fun ls hl => ?_)
      obtain ⟨v13, T12, h14, hf⟩ := zb_i hf
      refine l_X4_restore_38 F ⟨Nat.le_of_ble_eq_true rfl, Nat.le_of_ble_eq_true rfl⟩ p0 2000 0 _ _ _ _ _ h14 hP hS (lv_sub hl [1, 2, 0] rfl) (fun H locs ls hP hS hl => ?_)
      refine lv_aload_n hx hb dX4_restore_69 rfl (lv_at hl 0 rfl) ?_
      refine lv_aload_n hx hb dX4_restore_70 rfl (lv_at hl 0 rfl) ?_
      refine z_get hx hb hts (fun w h => List.mem_cons_of_mem _ (ziX4 w h)) hown hK hP (zV_m (by decide)) rfl rfl 2 (by decide) (List.mem_cons_of_mem _ m_1143) rfl rfl dX4_restore_71 ?_
      refine lv_iconst (v := 0) hx hb dX4_restore_74 (by decide) ?_
      refine z_iald_ (j := 0) hx hb hK hP (zIA_m (by decide) (by decide)) (by decide) (by decide) dX4_restore_75 ?_
      obtain ⟨v17, T16, h18, hf⟩ := zb_i hf
      refine z_ok (z_runV (As := [.int (T12.2 2 0 0)]) (rest := []) F k_X4_told m_1230 (c_X4_told (T12.2 2 0 0) T12 T16 _ h18) hP hS (zV_m (by decide)) rfl rfl rfl rfl hl.1 (Nat.le_of_ble_eq_true rfl) dX4_restore_76 (Nat.le_of_ble_eq_true rfl) ⟨Nat.le_of_ble_eq_true rfl, Nat.le_of_ble_eq_true rfl⟩ rfl) hS (fun H locs hP hS => ?_)
      obtain ⟨q1, q2⟩ := zs_i hf
      subst q1; subst q2
      exact z_iret hx hb hr rfl hP hS hlocks (Nat.le_of_ble_eq_true rfl) (Nat.le_of_ble_eq_true rfl) dX4_restore_79
    · have hf := zif_p hf hc
      refine lv_aload_n hx hb dX4_restore_26 rfl (lv_at hl 0 rfl) ?_
      refine lv_iconst (v := 2) hx hb dX4_restore_27 (by decide) ?_
      obtain ⟨v20, T19, h21, hf⟩ := zb_i hf
      refine z_ok (z_runV (As := [.int 2]) (rest := []) F k_X4_refuse m_1222 (c_X4_refuse 2 T1 T19 _ h21) hP hS (zV_m (by decide)) rfl rfl rfl rfl hl.1 (Nat.le_of_ble_eq_true rfl) dX4_restore_28 (Nat.le_of_ble_eq_true rfl) ⟨Nat.le_of_ble_eq_true rfl, Nat.le_of_ble_eq_true rfl⟩ rfl) hS (fun H locs hP hS => ?_)
      obtain ⟨q1, q2⟩ := zs_i hf
      subst q1; subst q2
      exact z_iret hx hb hr rfl hP hS hlocks (Nat.le_of_ble_eq_true rfl) (Nat.le_of_ble_eq_true rfl) dX4_restore_31
  · have hf := zif_p hf hc
    refine lv_aload_n hx hb dX4_restore_9 rfl (lv_at hl 0 rfl) ?_
    refine lv_iconst (v := 1) hx hb dX4_restore_10 (by decide) ?_
    obtain ⟨v23, T22, h24, hf⟩ := zb_i hf
    refine z_ok (z_runV (As := [.int 1]) (rest := []) F k_X4_refuse m_1222 (c_X4_refuse 1 T1 T22 _ h24) hP hS (zV_m (by decide)) rfl rfl rfl rfl hl.1 (Nat.le_of_ble_eq_true rfl) dX4_restore_11 (Nat.le_of_ble_eq_true rfl) ⟨Nat.le_of_ble_eq_true rfl, Nat.le_of_ble_eq_true rfl⟩ rfl) hS (fun H locs hP hS => ?_)
    obtain ⟨q1, q2⟩ := zs_i hf
    subst q1; subst q2
    exact z_iret hx hb hr rfl hP hS hlocks (Nat.le_of_ble_eq_true rfl) (Nat.le_of_ble_eq_true rfl) dX4_restore_14

def lp_X4_undo_25  : Nat → Int32 → zT → Option ((Int32) × zT)
  | 0, _, _ => none
  | n + 1, u1, T => (if 151 ≤ u1 then some (u1, T) else zl (((T.1 0 0 5) * 151) + u1) fun x4 => if zin x4 1510 = true then if zin u1 151 = true then zl (wA T 2 0 (upd (T.2 2 0) u1.toNatClampNeg (T.2 4 0 x4.toNatClampNeg))) fun T6 => zl (u1 + 1) fun x7 => lp_X4_undo_25 n x7 T6 else none else none)
def f_X4_undo  (T : zT) : Option (Int32 × zT) := (if (T.1 0 0 5) = 0 then zb (f_X4_refuse 1 T) fun v15 T14 => some (v15, T14) else zl ((T.1 0 0 5) - 1) fun x1 => zl (wI T 0 0 5 x1) fun T2 => zb (lp_X4_undo_25 2000 0 T2) fun v9 T8 => zb (f_X4_told (T8.1 0 0 5) T8) fun v12 T11 => some (v12, T11))
set_option maxHeartbeats 4000000 in
set_option maxRecDepth 100000 in
theorem l_X4_undo_25 {p : Program} {l : Launch} {e : Env} {s : State} {m : MethodId} {args : Array Value} {below : List Frame} {meth : Method} {c : Code} {Q : State → Prop} {D : va_G} {Y : Nat → ClassId} {S V : Nat → Nat} {G : Nat → Nat → Nat} {A : Nat → Prop} {c0 : Cond} {mc ms cells slots : Nat} (F : zF 1 1 mc ms p l s m args c cX4_undo 2 RX4 c0 D Y S V G A) (hcs : cells ≤ mc ∧ slots ≤ ms) :
    ∀ (n : Nat) (u1 : Int32) (T : zT) (o : (Int32) × zT) (H : Heap) (locs : List Loc) (ls : Array Slot), lp_X4_undo_25 n u1 T = some o → zP 1 D Y G T H → va_S A s.heap H locs → lv_has ls 2 [(0, .ref (G 0 0)), (1, .int u1)] → (∀ (H : Heap) (locs : List Loc) (ls : Array Slot), zP 1 D Y G o.2 H → va_S A s.heap H locs → lv_has ls 2 [(0, .ref (G 0 0)), (1, .int o.1)] → W p l e (zR 1 mc ms) s m args below meth c H locs cells slots Q (F0 m 59 ls [])) → W p l e (zR 1 mc ms) s m args below meth c H locs cells slots Q (F0 m 25 ls []) := by
  obtain ⟨hx, hb, hml, hown, hts, hl9, hG, hK, hA⟩ := id F
  intro n
  induction n with
  | zero =>
    intro u1 T o H locs ls hf
    rw [lp_X4_undo_25] at hf
    cases hf
  | succ n ih =>
    intro u1 T o H locs ls hf hP hS hl k0_
    rw [lp_X4_undo_25] at hf
    refine lv_iload_n hx hb dX4_undo_25 rfl (lv_at hl 1 rfl) ?_
    refine lv_sipush (v := 151) hx hb dX4_undo_26 (by decide) ?_
    refine lv_icmp_ge (tgt := 59) hx hb dX4_undo_29 (by decide) (fun hc => ?_) (fun hc => ?_)
    · have hf := zif_p hf hc
      cases hf
      exact k0_ _ _ _ hP hS (lv_sub hl [0, 1] rfl)
    · have hf := zif_n hf hc
      refine lv_aload_n hx hb dX4_undo_32 rfl (lv_at hl 0 rfl) ?_
      refine z_get hx hb hts (fun w h => List.mem_cons_of_mem _ (ziX4 w h)) hown hK hP (zV_m (by decide)) rfl rfl 2 (by decide) (List.mem_cons_of_mem _ m_1143) rfl rfl dX4_undo_33 ?_
      refine lv_iload_n hx hb dX4_undo_36 rfl (lv_at hl 1 rfl) ?_
      refine lv_aload_n hx hb dX4_undo_37 rfl (lv_at hl 0 rfl) ?_
      refine z_get hx hb hts (fun w h => List.mem_cons_of_mem _ (ziX4 w h)) hown hK hP (zV_m (by decide)) rfl rfl 4 (by decide) (List.mem_cons_of_mem _ m_1145) rfl rfl dX4_undo_38 ?_
      refine lv_aload_n hx hb dX4_undo_41 rfl (lv_at hl 0 rfl) ?_
      refine z_get hx hb hts (fun w h => List.mem_cons_of_mem _ (ziX4 w h)) hown hK hP (zV_m (by decide)) rfl rfl 5 (by decide) (List.mem_cons_of_mem _ m_1146) rfl rfl dX4_undo_42 ?_
      refine lv_sipush (v := 151) hx hb dX4_undo_45 (by decide) ?_
      refine lv_imul hx hb dX4_undo_48 ?_
      refine lv_iload_n hx hb dX4_undo_49 rfl (lv_at hl 1 rfl) ?_
      refine lv_iadd hx hb dX4_undo_50 ?_
      obtain ⟨x4, ex4, hf⟩ := zl_i hf
      refine z_topi ex4 ?_
      obtain ⟨h3, hf⟩ := zif_c hf
      refine z_iald hx hb hK hP (zIA_m (by decide) (by decide)) (zin_i h3) dX4_undo_51 ?_
      obtain ⟨h5, hf⟩ := zif_c hf
      obtain ⟨T6, eT6, hf⟩ := zl_i hf
      refine z_iast hx hb hK hP hG hS (zIA_m (by decide) (by decide)) (zin_i h5) dX4_undo_52 (fun H locs hP hS => ?_)
      rw [← eT6] at hP
      obtain ⟨x7, ex7, hf⟩ := zl_i hf
      refine lv_iinc (v := x7) (lv' := [(1, .int x7), (0, .ref (G 0 0))]) hx hb dX4_undo_53 hl (k := 1) rfl (by rw [ex7]; rfl) (by decide) rfl (fun ls hl => ?_)
      refine lv_goto (tgt := 25) hx hb dX4_undo_56 (by decide) ?_
      exact ih x7 _ _ _ _ _ hf hP hS (lv_sub hl [1, 0] rfl) k0_
set_option maxHeartbeats 4000000 in
set_option maxRecDepth 100000 in
theorem c_X4_undo  (T T' : zT) (v : Int32) (hf : f_X4_undo  T = some (v, T')) : zC 1 yX4_undo cX4_undo 2 (some .int) 1  0 0  (fun G _ => [.ref (G 0 0)]) T (fun _ => .inl (some (.int v))) T' := by
  intro l D Y S V G A hl9 hG
  refine vx_ofW (cc := cX4_undo) (maxL := 2) (ret := (some .int)) (by decide) rfl ?_
  intro p e s m args below meth c s₁ B hml hex hv
  obtain ⟨rfl, hK, hP, hA⟩ := hv
  have hx := B.exec
  have hb := B.bytes
  have hr := B.returns
  have hlocks := B.notSynchronized
  have hown : s.vm.findClass RX4 = some m.cls := findClass_of_methodNamed B.named
  have hts := atoms_spec (ws := Cond.code yX4_undo cX4_undo 2 (some .int) :: zWS) B.pre
  have F : zF 1 1  0 0  p l s m _ c cX4_undo 2 RX4 (Cond.code yX4_undo cX4_undo 2 (some .int)) D Y S V G A := ⟨hx, hb, hml, hown, hts, hl9, hG, hK, hA⟩
  have hS : va_S A s.heap s.heap [] := va_S.rf
  have hl := lv_entry ([.ref (G 0 0)]) (n := 2) (Nat.le_of_ble_eq_true rfl)
  rw [lg_entry_eq]
  generalize (lg_sl ([.ref (G 0 0)]) ++ List.replicate (2 - (lg_sl ([.ref (G 0 0)])).length) Slot.unset).toArray = ls at hl ⊢
  have hl : lv_has ls 2 [(0, .ref (G 0 0))] := hl
  unfold f_X4_undo at hf
  refine lv_aload_n hx hb dX4_undo_0 rfl (lv_at hl 0 rfl) ?_
  refine z_get hx hb hts (fun w h => List.mem_cons_of_mem _ (ziX4 w h)) hown hK hP (zV_m (by decide)) rfl rfl 5 (by decide) (List.mem_cons_of_mem _ m_1146) rfl rfl dX4_undo_1 ?_
  refine lv_if_ne (tgt := 13) hx hb dX4_undo_4 (by decide) (fun hc => ?_) (fun hc => ?_)
  · have hf := zif_n hf hc
    refine lv_aload_n hx hb dX4_undo_13 rfl (lv_at hl 0 rfl) ?_
    refine lv_dup hx hb dX4_undo_14 rfl ?_
    refine z_get hx hb hts (fun w h => List.mem_cons_of_mem _ (ziX4 w h)) hown hK hP (zV_m (by decide)) rfl rfl 5 (by decide) (List.mem_cons_of_mem _ m_1146) rfl rfl dX4_undo_15 ?_
    refine lv_iconst (v := 1) hx hb dX4_undo_18 (by decide) ?_
    refine lv_isub hx hb dX4_undo_19 ?_
    obtain ⟨x1, ex1, hf⟩ := zl_i hf
    refine z_topi ex1 ?_
    obtain ⟨T2, eT2, hf⟩ := zl_i hf
    refine z_put hx hb hts (fun w h => List.mem_cons_of_mem _ (ziX4 w h)) tyX4 tyX4_ok nmX4 hown hK hP hG hS (zV_m (by decide)) rfl rfl 5 (by decide) (List.mem_cons_of_mem _ m_1146) rfl rfl (by decide +kernel) (Nat.le_of_ble_eq_true rfl) rfl dX4_undo_20 (fun H locs hP hS => ?_)
    rw [← eT2] at hP
    refine lv_iconst (v := 0) hx hb dX4_undo_23 (by decide) ?_
    refine lv_istore_n (lv' := [(1, .int 0), (0, .ref (G 0 0))]) hx hb dX4_undo_24 rfl hl (by decide) rfl (fun ls hl => ?_)
    obtain ⟨v9, T8, h10, hf⟩ := zb_i hf
    refine l_X4_undo_25 F ⟨Nat.le_of_ble_eq_true rfl, Nat.le_of_ble_eq_true rfl⟩  2000 0 _ _ _ _ _ h10 hP hS (lv_sub hl [1, 0] rfl) (fun H locs ls hP hS hl => ?_)
    refine lv_aload_n hx hb dX4_undo_59 rfl (lv_at hl 0 rfl) ?_
    refine lv_aload_n hx hb dX4_undo_60 rfl (lv_at hl 0 rfl) ?_
    refine z_get hx hb hts (fun w h => List.mem_cons_of_mem _ (ziX4 w h)) hown hK hP (zV_m (by decide)) rfl rfl 5 (by decide) (List.mem_cons_of_mem _ m_1146) rfl rfl dX4_undo_61 ?_
    obtain ⟨v12, T11, h13, hf⟩ := zb_i hf
    refine z_ok (z_runV (As := [.int (T8.1 0 0 5)]) (rest := []) F k_X4_told m_1230 (c_X4_told (T8.1 0 0 5) T8 T11 _ h13) hP hS (zV_m (by decide)) rfl rfl rfl rfl hl.1 (Nat.le_of_ble_eq_true rfl) dX4_undo_64 (Nat.le_of_ble_eq_true rfl) ⟨Nat.le_of_ble_eq_true rfl, Nat.le_of_ble_eq_true rfl⟩ rfl) hS (fun H locs hP hS => ?_)
    obtain ⟨q1, q2⟩ := zs_i hf
    subst q1; subst q2
    exact z_iret hx hb hr rfl hP hS hlocks (Nat.le_of_ble_eq_true rfl) (Nat.le_of_ble_eq_true rfl) dX4_undo_67
  · have hf := zif_p hf hc
    refine lv_aload_n hx hb dX4_undo_7 rfl (lv_at hl 0 rfl) ?_
    refine lv_iconst (v := 1) hx hb dX4_undo_8 (by decide) ?_
    obtain ⟨v15, T14, h16, hf⟩ := zb_i hf
    refine z_ok (z_runV (As := [.int 1]) (rest := []) F k_X4_refuse m_1222 (c_X4_refuse 1 T T14 _ h16) hP hS (zV_m (by decide)) rfl rfl rfl rfl hl.1 (Nat.le_of_ble_eq_true rfl) dX4_undo_9 (Nat.le_of_ble_eq_true rfl) ⟨Nat.le_of_ble_eq_true rfl, Nat.le_of_ble_eq_true rfl⟩ rfl) hS (fun H locs hP hS => ?_)
    obtain ⟨q1, q2⟩ := zs_i hf
    subst q1; subst q2
    exact z_iret hx hb hr rfl hP hS hlocks (Nat.le_of_ble_eq_true rfl) (Nat.le_of_ble_eq_true rfl) dX4_undo_12

def lp_X4_save_17 (w1 : Int32) : Nat → Int32 → zT → Option ((Int32) × zT)
  | 0, _, _ => none
  | n + 1, u2, T => (if 151 ≤ u2 then some (u2, T) else if zin u2 151 = true then if zin ((w1 * 151) + u2) 302 = true then zl (wA T 5 0 (upd (T.2 5 0) ((w1 * 151) + u2).toNatClampNeg (T.2 2 0 u2.toNatClampNeg))) fun T6 => zl (u2 + 1) fun x7 => lp_X4_save_17 w1 n x7 T6 else none else none)
def f_X4_save (p0 : Int32) (T : zT) : Option (Int32 × zT) := zb (f_X4_in p0 0 1 T) fun v2 T1 => (if v2 = 0 then zb (f_X4_refuse 1 T1) fun v18 T17 => some (v18, T17) else zb (lp_X4_save_17 p0 2000 0 T1) fun v9 T8 => zl ((T8.1 0 0 7) ||| (1 <<< (p0 &&& 31))) fun x11 => zl (wI T8 0 0 7 x11) fun T12 => zb (f_X4_told (T12.2 2 0 0) T12) fun v15 T14 => some (v15, T14))
set_option maxHeartbeats 4000000 in
set_option maxRecDepth 100000 in
theorem l_X4_save_17 {p : Program} {l : Launch} {e : Env} {s : State} {m : MethodId} {args : Array Value} {below : List Frame} {meth : Method} {c : Code} {Q : State → Prop} {D : va_G} {Y : Nat → ClassId} {S V : Nat → Nat} {G : Nat → Nat → Nat} {A : Nat → Prop} {c0 : Cond} {mc ms cells slots : Nat} (F : zF 1 1 mc ms p l s m args c cX4_save 3 RX4 c0 D Y S V G A) (hcs : cells ≤ mc ∧ slots ≤ ms) (w1 : Int32) :
    ∀ (n : Nat) (u2 : Int32) (T : zT) (o : (Int32) × zT) (H : Heap) (locs : List Loc) (ls : Array Slot), lp_X4_save_17 w1 n u2 T = some o → zP 1 D Y G T H → va_S A s.heap H locs → lv_has ls 3 [(0, .ref (G 0 0)), (1, .int w1), (2, .int u2)] → (∀ (H : Heap) (locs : List Loc) (ls : Array Slot), zP 1 D Y G o.2 H → va_S A s.heap H locs → lv_has ls 3 [(0, .ref (G 0 0)), (1, .int w1), (2, .int o.1)] → W p l e (zR 1 mc ms) s m args below meth c H locs cells slots Q (F0 m 48 ls [])) → W p l e (zR 1 mc ms) s m args below meth c H locs cells slots Q (F0 m 17 ls []) := by
  obtain ⟨hx, hb, hml, hown, hts, hl9, hG, hK, hA⟩ := id F
  intro n
  induction n with
  | zero =>
    intro u2 T o H locs ls hf
    rw [lp_X4_save_17] at hf
    cases hf
  | succ n ih =>
    intro u2 T o H locs ls hf hP hS hl k0_
    rw [lp_X4_save_17] at hf
    refine lv_iload_n hx hb dX4_save_17 rfl (lv_at hl 2 rfl) ?_
    refine lv_sipush (v := 151) hx hb dX4_save_18 (by decide) ?_
    refine lv_icmp_ge (tgt := 48) hx hb dX4_save_21 (by decide) (fun hc => ?_) (fun hc => ?_)
    · have hf := zif_p hf hc
      cases hf
      exact k0_ _ _ _ hP hS (lv_sub hl [0, 1, 2] rfl)
    · have hf := zif_n hf hc
      refine lv_aload_n hx hb dX4_save_24 rfl (lv_at hl 0 rfl) ?_
      refine z_get hx hb hts (fun w h => List.mem_cons_of_mem _ (ziX4 w h)) hown hK hP (zV_m (by decide)) rfl rfl 6 (by decide) (List.mem_cons_of_mem _ m_1147) rfl rfl dX4_save_25 ?_
      refine lv_iload_n hx hb dX4_save_28 rfl (lv_at hl 1 rfl) ?_
      refine lv_sipush (v := 151) hx hb dX4_save_29 (by decide) ?_
      refine lv_imul hx hb dX4_save_32 ?_
      refine lv_iload_n hx hb dX4_save_33 rfl (lv_at hl 2 rfl) ?_
      refine lv_iadd hx hb dX4_save_34 ?_
      refine lv_aload_n hx hb dX4_save_35 rfl (lv_at hl 0 rfl) ?_
      refine z_get hx hb hts (fun w h => List.mem_cons_of_mem _ (ziX4 w h)) hown hK hP (zV_m (by decide)) rfl rfl 2 (by decide) (List.mem_cons_of_mem _ m_1143) rfl rfl dX4_save_36 ?_
      refine lv_iload_n hx hb dX4_save_39 rfl (lv_at hl 2 rfl) ?_
      obtain ⟨h4, hf⟩ := zif_c hf
      refine z_iald hx hb hK hP (zIA_m (by decide) (by decide)) (zin_i h4) dX4_save_40 ?_
      obtain ⟨h5, hf⟩ := zif_c hf
      obtain ⟨T6, eT6, hf⟩ := zl_i hf
      refine z_iast hx hb hK hP hG hS (zIA_m (by decide) (by decide)) (zin_i h5) dX4_save_41 (fun H locs hP hS => ?_)
      rw [← eT6] at hP
      obtain ⟨x7, ex7, hf⟩ := zl_i hf
      refine lv_iinc (v := x7) (lv' := [(2, .int x7), (0, .ref (G 0 0)), (1, .int w1)]) hx hb dX4_save_42 hl (k := 2) rfl (by rw [ex7]; rfl) (by decide) rfl (fun ls hl => ?_)
      refine lv_goto (tgt := 17) hx hb dX4_save_45 (by decide) ?_
      exact ih x7 _ _ _ _ _ hf hP hS (lv_sub hl [1, 2, 0] rfl) k0_
set_option maxHeartbeats 4000000 in
set_option maxRecDepth 100000 in
theorem c_X4_save (p0 : Int32) (T T' : zT) (v : Int32) (hf : f_X4_save p0 T = some (v, T')) : zC 1 yX4_save cX4_save 3 (some .int) 1  0 0  (fun G _ => [.ref (G 0 0), .int p0]) T (fun _ => .inl (some (.int v))) T' := by
  intro l D Y S V G A hl9 hG
  refine vx_ofW (cc := cX4_save) (maxL := 3) (ret := (some .int)) (by decide) rfl ?_
  intro p e s m args below meth c s₁ B hml hex hv
  obtain ⟨rfl, hK, hP, hA⟩ := hv
  have hx := B.exec
  have hb := B.bytes
  have hr := B.returns
  have hlocks := B.notSynchronized
  have hown : s.vm.findClass RX4 = some m.cls := findClass_of_methodNamed B.named
  have hts := atoms_spec (ws := Cond.code yX4_save cX4_save 3 (some .int) :: zWS) B.pre
  have F : zF 1 1  0 0  p l s m _ c cX4_save 3 RX4 (Cond.code yX4_save cX4_save 3 (some .int)) D Y S V G A := ⟨hx, hb, hml, hown, hts, hl9, hG, hK, hA⟩
  have hS : va_S A s.heap s.heap [] := va_S.rf
  have hl := lv_entry ([.ref (G 0 0), .int p0]) (n := 3) (Nat.le_of_ble_eq_true rfl)
  rw [lg_entry_eq]
  generalize (lg_sl ([.ref (G 0 0), .int p0]) ++ List.replicate (3 - (lg_sl ([.ref (G 0 0), .int p0])).length) Slot.unset).toArray = ls at hl ⊢
  have hl : lv_has ls 3 [(0, .ref (G 0 0)), (1, .int p0)] := hl
  unfold f_X4_save at hf
  refine lv_iload_n hx hb dX4_save_0 rfl (lv_at hl 1 rfl) ?_
  refine lv_iconst (v := 0) hx hb dX4_save_1 (by decide) ?_
  refine lv_iconst (v := 1) hx hb dX4_save_2 (by decide) ?_
  obtain ⟨v2, T1, h3, hf⟩ := zb_i hf
  refine z_ok (z_runS (As := [.int p0, .int 0, .int 1]) (rest := []) F k_X4_in m_1238 (c_X4_in p0 0 1 T T1 _ h3) hP hS rfl rfl hl.1 (Nat.le_of_ble_eq_true rfl) dX4_save_3 (Nat.le_of_ble_eq_true rfl) ⟨Nat.le_of_ble_eq_true rfl, Nat.le_of_ble_eq_true rfl⟩ rfl) hS (fun H locs hP hS => ?_)
  refine lv_if_ne (tgt := 15) hx hb dX4_save_6 (by decide) (fun hc => ?_) (fun hc => ?_)
  · have hf := zif_n hf hc
    refine lv_iconst (v := 0) hx hb dX4_save_15 (by decide) ?_
    refine lv_istore_n (lv' := [(2, .int 0), (0, .ref (G 0 0)), (1, .int p0)]) hx hb dX4_save_16 rfl hl (by decide) rfl (fun ls hl => ?_)
    obtain ⟨v9, T8, h10, hf⟩ := zb_i hf
    refine l_X4_save_17 F ⟨Nat.le_of_ble_eq_true rfl, Nat.le_of_ble_eq_true rfl⟩ p0 2000 0 _ _ _ _ _ h10 hP hS (lv_sub hl [1, 2, 0] rfl) (fun H locs ls hP hS hl => ?_)
    refine lv_aload_n hx hb dX4_save_48 rfl (lv_at hl 0 rfl) ?_
    refine lv_dup hx hb dX4_save_49 rfl ?_
    refine z_get hx hb hts (fun w h => List.mem_cons_of_mem _ (ziX4 w h)) hown hK hP (zV_m (by decide)) rfl rfl 7 (by decide) (List.mem_cons_of_mem _ m_1148) rfl rfl dX4_save_50 ?_
    refine lv_iconst (v := 1) hx hb dX4_save_53 (by decide) ?_
    refine lv_iload_n hx hb dX4_save_54 rfl (lv_at hl 1 rfl) ?_
    refine lv_ishl hx hb dX4_save_55 ?_
    refine lv_ior hx hb dX4_save_56 ?_
    obtain ⟨x11, ex11, hf⟩ := zl_i hf
    refine z_topi ex11 ?_
    obtain ⟨T12, eT12, hf⟩ := zl_i hf
    refine z_put hx hb hts (fun w h => List.mem_cons_of_mem _ (ziX4 w h)) tyX4 tyX4_ok nmX4 hown hK hP hG hS (zV_m (by decide)) rfl rfl 7 (by decide) (List.mem_cons_of_mem _ m_1148) rfl rfl (by decide +kernel) (Nat.le_of_ble_eq_true rfl) rfl dX4_save_57 (fun H locs hP hS => ?_)
    rw [← eT12] at hP
    refine lv_aload_n hx hb dX4_save_60 rfl (lv_at hl 0 rfl) ?_
    refine lv_aload_n hx hb dX4_save_61 rfl (lv_at hl 0 rfl) ?_
    refine z_get hx hb hts (fun w h => List.mem_cons_of_mem _ (ziX4 w h)) hown hK hP (zV_m (by decide)) rfl rfl 2 (by decide) (List.mem_cons_of_mem _ m_1143) rfl rfl dX4_save_62 ?_
    refine lv_iconst (v := 0) hx hb dX4_save_65 (by decide) ?_
    refine z_iald_ (j := 0) hx hb hK hP (zIA_m (by decide) (by decide)) (by decide) (by decide) dX4_save_66 ?_
    obtain ⟨v15, T14, h16, hf⟩ := zb_i hf
    refine z_ok (z_runV (As := [.int (T12.2 2 0 0)]) (rest := []) F k_X4_told m_1230 (c_X4_told (T12.2 2 0 0) T12 T14 _ h16) hP hS (zV_m (by decide)) rfl rfl rfl rfl hl.1 (Nat.le_of_ble_eq_true rfl) dX4_save_67 (Nat.le_of_ble_eq_true rfl) ⟨Nat.le_of_ble_eq_true rfl, Nat.le_of_ble_eq_true rfl⟩ rfl) hS (fun H locs hP hS => ?_)
    obtain ⟨q1, q2⟩ := zs_i hf
    subst q1; subst q2
    exact z_iret hx hb hr rfl hP hS hlocks (Nat.le_of_ble_eq_true rfl) (Nat.le_of_ble_eq_true rfl) dX4_save_70
  · have hf := zif_p hf hc
    refine lv_aload_n hx hb dX4_save_9 rfl (lv_at hl 0 rfl) ?_
    refine lv_iconst (v := 1) hx hb dX4_save_10 (by decide) ?_
    obtain ⟨v18, T17, h19, hf⟩ := zb_i hf
    refine z_ok (z_runV (As := [.int 1]) (rest := []) F k_X4_refuse m_1222 (c_X4_refuse 1 T1 T17 _ h19) hP hS (zV_m (by decide)) rfl rfl rfl rfl hl.1 (Nat.le_of_ble_eq_true rfl) dX4_save_11 (Nat.le_of_ble_eq_true rfl) ⟨Nat.le_of_ble_eq_true rfl, Nat.le_of_ble_eq_true rfl⟩ rfl) hS (fun H locs hP hS => ?_)
    obtain ⟨q1, q2⟩ := zs_i hf
    subst q1; subst q2
    exact z_iret hx hb hr rfl hP hS hlocks (Nat.le_of_ble_eq_true rfl) (Nat.le_of_ble_eq_true rfl) dX4_save_14

def f_X4_writes (p0 : Int32) (T : zT) : Option (Unit × zT) := if zin (T.1 0 0 12) 40 = true then zl (wA T 8 0 (upd (T.2 8 0) (T.1 0 0 12).toNatClampNeg ((p0.toInt8.toInt32).toInt8.toInt32))) fun T2 => zl ((T2.1 0 0 12) + 1) fun x3 => zl (wI T2 0 0 12 x3) fun T4 => some ((), T4) else none
set_option maxHeartbeats 4000000 in
set_option maxRecDepth 100000 in
theorem c_X4_writes (p0 : Int32) (T T' : zT) (v : Unit) (hf : f_X4_writes p0 T = some (v, T')) : zC 1 yX4_writes cX4_writes 2 none 0  0 0  (fun G _ => [.ref (G 0 0), .int p0]) T (fun _ => .inl none) T' := by
  intro l D Y S V G A hl9 hG
  refine vx_ofW (cc := cX4_writes) (maxL := 2) (ret := none) (by decide) rfl ?_
  intro p e s m args below meth c s₁ B hml hex hv
  obtain ⟨rfl, hK, hP, hA⟩ := hv
  have hx := B.exec
  have hb := B.bytes
  have hr := B.returns
  have hlocks := B.notSynchronized
  have hown : s.vm.findClass RX4 = some m.cls := findClass_of_methodNamed B.named
  have hts := atoms_spec (ws := Cond.code yX4_writes cX4_writes 2 none :: zWS) B.pre
  have F : zF 1 0  0 0  p l s m _ c cX4_writes 2 RX4 (Cond.code yX4_writes cX4_writes 2 none) D Y S V G A := ⟨hx, hb, hml, hown, hts, hl9, hG, hK, hA⟩
  have hS : va_S A s.heap s.heap [] := va_S.rf
  have hl := lv_entry ([.ref (G 0 0), .int p0]) (n := 2) (Nat.le_of_ble_eq_true rfl)
  rw [lg_entry_eq]
  generalize (lg_sl ([.ref (G 0 0), .int p0]) ++ List.replicate (2 - (lg_sl ([.ref (G 0 0), .int p0])).length) Slot.unset).toArray = ls at hl ⊢
  have hl : lv_has ls 2 [(0, .ref (G 0 0)), (1, .int p0)] := hl
  unfold f_X4_writes at hf
  refine lv_aload_n hx hb dX4_writes_0 rfl (lv_at hl 0 rfl) ?_
  refine z_get hx hb hts (fun w h => List.mem_cons_of_mem _ (ziX4 w h)) hown hK hP (zV_m (by decide)) rfl rfl 11 (by decide) (List.mem_cons_of_mem _ m_1152) rfl rfl dX4_writes_1 ?_
  refine lv_aload_n hx hb dX4_writes_4 rfl (lv_at hl 0 rfl) ?_
  refine z_get hx hb hts (fun w h => List.mem_cons_of_mem _ (ziX4 w h)) hown hK hP (zV_m (by decide)) rfl rfl 12 (by decide) (List.mem_cons_of_mem _ m_1153) rfl rfl dX4_writes_5 ?_
  refine lv_iload_n hx hb dX4_writes_8 rfl (lv_at hl 1 rfl) ?_
  refine lv_i2b hx hb dX4_writes_9 rfl ?_
  obtain ⟨h1, hf⟩ := zif_c hf
  obtain ⟨T2, eT2, hf⟩ := zl_i hf
  refine z_bast hx hb hK hP hG hS (zV_m (by decide)) rfl (zin_i h1) rfl dX4_writes_10 (fun H locs hP hS => ?_)
  rw [← eT2] at hP
  refine lv_aload_n hx hb dX4_writes_11 rfl (lv_at hl 0 rfl) ?_
  refine lv_dup hx hb dX4_writes_12 rfl ?_
  refine z_get hx hb hts (fun w h => List.mem_cons_of_mem _ (ziX4 w h)) hown hK hP (zV_m (by decide)) rfl rfl 12 (by decide) (List.mem_cons_of_mem _ m_1153) rfl rfl dX4_writes_13 ?_
  refine lv_iconst (v := 1) hx hb dX4_writes_16 (by decide) ?_
  refine lv_iadd hx hb dX4_writes_17 ?_
  obtain ⟨x3, ex3, hf⟩ := zl_i hf
  refine z_topi ex3 ?_
  obtain ⟨T4, eT4, hf⟩ := zl_i hf
  refine z_put hx hb hts (fun w h => List.mem_cons_of_mem _ (ziX4 w h)) tyX4 tyX4_ok nmX4 hown hK hP hG hS (zV_m (by decide)) rfl rfl 12 (by decide) (List.mem_cons_of_mem _ m_1153) rfl rfl (by decide +kernel) (Nat.le_of_ble_eq_true rfl) rfl dX4_writes_18 (fun H locs hP hS => ?_)
  rw [← eT4] at hP
  obtain ⟨q1, q2⟩ := zs_i hf
  subst q1; subst q2
  exact z_vret hx hb hr rfl hP hS hlocks (Nat.le_of_ble_eq_true rfl) (Nat.le_of_ble_eq_true rfl) dX4_writes_21

def lp_X4_writesNumber_2 (w1 : Int32) : Nat → Int32 → zT → Option ((Int32) × zT)
  | 0, _, _ => none
  | n + 1, u2, T => if ¬ u2 = 0 then (if (w1 / u2) ≤ 9 then some (u2, T) else zl (u2 * 10) fun x2 => lp_X4_writesNumber_2 w1 n x2 T) else none
def lp_X4_writesNumber_18 (w1 : Int32) : Nat → Int32 → zT → Option ((Int32) × zT)
  | 0, _, _ => none
  | n + 1, u2, T => (if u2 ≤ 0 then some (u2, T) else if ¬ u2 = 0 then zl (w1 / u2) fun x7 => zb (f_X4_writes (48 + (x7 - x7 / 10 * 10)) T) fun _v9 T8 => zl (u2 / 10) fun x11 => lp_X4_writesNumber_18 w1 n x11 T8 else none)
def f_X4_writesNumber (p0 : Int32) (T : zT) : Option (Unit × zT) := zb (lp_X4_writesNumber_2 p0 2000 1 T) fun v4 T3 => zb (lp_X4_writesNumber_18 p0 2000 v4 T3) fun v13 T12 => some ((), T12)
set_option maxHeartbeats 4000000 in
set_option maxRecDepth 100000 in
theorem l_X4_writesNumber_2 {p : Program} {l : Launch} {e : Env} {s : State} {m : MethodId} {args : Array Value} {below : List Frame} {meth : Method} {c : Code} {Q : State → Prop} {D : va_G} {Y : Nat → ClassId} {S V : Nat → Nat} {G : Nat → Nat → Nat} {A : Nat → Prop} {c0 : Cond} {mc ms cells slots : Nat} (F : zF 1 1 mc ms p l s m args c cX4_writesNumber 3 RX4 c0 D Y S V G A) (hcs : cells ≤ mc ∧ slots ≤ ms) (w1 : Int32) :
    ∀ (n : Nat) (u2 : Int32) (T : zT) (o : (Int32) × zT) (H : Heap) (locs : List Loc) (ls : Array Slot), lp_X4_writesNumber_2 w1 n u2 T = some o → zP 1 D Y G T H → va_S A s.heap H locs → lv_has ls 3 [(0, .ref (G 0 0)), (1, .int w1), (2, .int u2)] → (∀ (H : Heap) (locs : List Loc) (ls : Array Slot), zP 1 D Y G o.2 H → va_S A s.heap H locs → lv_has ls 3 [(0, .ref (G 0 0)), (1, .int w1), (2, .int o.1)] → W p l e (zR 1 mc ms) s m args below meth c H locs cells slots Q (F0 m 18 ls [])) → W p l e (zR 1 mc ms) s m args below meth c H locs cells slots Q (F0 m 2 ls []) := by
  obtain ⟨hx, hb, hml, hown, hts, hl9, hG, hK, hA⟩ := id F
  intro n
  induction n with
  | zero =>
    intro u2 T o H locs ls hf
    rw [lp_X4_writesNumber_2] at hf
    cases hf
  | succ n ih =>
    intro u2 T o H locs ls hf hP hS hl k0_
    rw [lp_X4_writesNumber_2] at hf
    refine lv_iload_n hx hb dX4_writesNumber_2 rfl (lv_at hl 1 rfl) ?_
    refine lv_iload_n hx hb dX4_writesNumber_3 rfl (lv_at hl 2 rfl) ?_
    obtain ⟨h1, hf⟩ := zif_c hf
    refine lv_idiv hx hb dX4_writesNumber_4 h1 ?_
    refine lv_bipush (v := 9) hx hb dX4_writesNumber_5 (by decide) ?_
    refine lv_icmp_le (tgt := 18) hx hb dX4_writesNumber_7 (by decide) (fun hc => ?_) (fun hc => ?_)
    · have hf := zif_p hf hc
      cases hf
      exact k0_ _ _ _ hP hS (lv_sub hl [0, 1, 2] rfl)
    · have hf := zif_n hf hc
      refine lv_iload_n hx hb dX4_writesNumber_10 rfl (lv_at hl 2 rfl) ?_
      refine lv_bipush (v := 10) hx hb dX4_writesNumber_11 (by decide) ?_
      refine lv_imul hx hb dX4_writesNumber_13 ?_
      obtain ⟨x2, ex2, hf⟩ := zl_i hf
      refine z_topi ex2 ?_
      refine lv_istore_n (lv' := [(2, .int x2), (0, .ref (G 0 0)), (1, .int w1)]) hx hb dX4_writesNumber_14 rfl hl (by decide) rfl (fun ls hl => ?_)
      refine lv_goto (tgt := 2) hx hb dX4_writesNumber_15 (by decide) ?_
      exact ih x2 _ _ _ _ _ hf hP hS (lv_sub hl [1, 2, 0] rfl) k0_
set_option maxHeartbeats 4000000 in
set_option maxRecDepth 100000 in
theorem l_X4_writesNumber_18 {p : Program} {l : Launch} {e : Env} {s : State} {m : MethodId} {args : Array Value} {below : List Frame} {meth : Method} {c : Code} {Q : State → Prop} {D : va_G} {Y : Nat → ClassId} {S V : Nat → Nat} {G : Nat → Nat → Nat} {A : Nat → Prop} {c0 : Cond} {mc ms cells slots : Nat} (F : zF 1 1 mc ms p l s m args c cX4_writesNumber 3 RX4 c0 D Y S V G A) (hcs : cells ≤ mc ∧ slots ≤ ms) (w1 : Int32) :
    ∀ (n : Nat) (u2 : Int32) (T : zT) (o : (Int32) × zT) (H : Heap) (locs : List Loc) (ls : Array Slot), lp_X4_writesNumber_18 w1 n u2 T = some o → zP 1 D Y G T H → va_S A s.heap H locs → lv_has ls 3 [(0, .ref (G 0 0)), (1, .int w1), (2, .int u2)] → (∀ (H : Heap) (locs : List Loc) (ls : Array Slot), zP 1 D Y G o.2 H → va_S A s.heap H locs → lv_has ls 3 [(0, .ref (G 0 0)), (1, .int w1), (2, .int o.1)] → W p l e (zR 1 mc ms) s m args below meth c H locs cells slots Q (F0 m 43 ls [])) → W p l e (zR 1 mc ms) s m args below meth c H locs cells slots Q (F0 m 18 ls []) := by
  obtain ⟨hx, hb, hml, hown, hts, hl9, hG, hK, hA⟩ := id F
  intro n
  induction n with
  | zero =>
    intro u2 T o H locs ls hf
    rw [lp_X4_writesNumber_18] at hf
    cases hf
  | succ n ih =>
    intro u2 T o H locs ls hf hP hS hl k0_
    rw [lp_X4_writesNumber_18] at hf
    refine lv_iload_n hx hb dX4_writesNumber_18 rfl (lv_at hl 2 rfl) ?_
    refine lv_if_le (tgt := 43) hx hb dX4_writesNumber_19 (by decide) (fun hc => ?_) (fun hc => ?_)
    · have hf := zif_p hf hc
      cases hf
      exact k0_ _ _ _ hP hS (lv_sub hl [0, 1, 2] rfl)
    · have hf := zif_n hf hc
      refine lv_aload_n hx hb dX4_writesNumber_22 rfl (lv_at hl 0 rfl) ?_
      refine lv_bipush (v := 48) hx hb dX4_writesNumber_23 (by decide) ?_
      refine lv_iload_n hx hb dX4_writesNumber_25 rfl (lv_at hl 1 rfl) ?_
      refine lv_iload_n hx hb dX4_writesNumber_26 rfl (lv_at hl 2 rfl) ?_
      obtain ⟨h6, hf⟩ := zif_c hf
      refine lv_idiv hx hb dX4_writesNumber_27 h6 ?_
      refine lv_bipush (v := 10) hx hb dX4_writesNumber_28 (by decide) ?_
      obtain ⟨x7, ex7, hf⟩ := zl_i hf
      rw [← ex7]
      refine lv_irem hx hb dX4_writesNumber_30 (by decide) ?_
      refine lv_iadd hx hb dX4_writesNumber_31 ?_
      obtain ⟨v9, T8, h10, hf⟩ := zb_i hf
      refine z_ok (z_runV (As := [.int (48 + (x7 - x7 / 10 * 10))]) (rest := []) F k_X4_writes m_1585 (c_X4_writes (48 + (x7 - x7 / 10 * 10)) T T8 _ h10) hP hS (zV_m (by decide)) rfl rfl rfl rfl hl.1 (Nat.le_of_ble_eq_true rfl) dX4_writesNumber_32 (Nat.le_of_ble_eq_true rfl) ⟨hcs.1, hcs.2⟩ rfl) hS (fun H locs hP hS => ?_)
      refine lv_iload_n hx hb dX4_writesNumber_35 rfl (lv_at hl 2 rfl) ?_
      refine lv_bipush (v := 10) hx hb dX4_writesNumber_36 (by decide) ?_
      refine lv_idiv hx hb dX4_writesNumber_38 (by decide) ?_
      obtain ⟨x11, ex11, hf⟩ := zl_i hf
      refine z_topi ex11 ?_
      refine lv_istore_n (lv' := [(2, .int x11), (0, .ref (G 0 0)), (1, .int w1)]) hx hb dX4_writesNumber_39 rfl hl (by decide) rfl (fun ls hl => ?_)
      refine lv_goto (tgt := 18) hx hb dX4_writesNumber_40 (by decide) ?_
      exact ih x11 _ _ _ _ _ hf hP hS (lv_sub hl [1, 2, 0] rfl) k0_
set_option maxHeartbeats 4000000 in
set_option maxRecDepth 100000 in
theorem c_X4_writesNumber (p0 : Int32) (T T' : zT) (v : Unit) (hf : f_X4_writesNumber p0 T = some (v, T')) : zC 1 yX4_writesNumber cX4_writesNumber 3 none 1  0 0  (fun G _ => [.ref (G 0 0), .int p0]) T (fun _ => .inl none) T' := by
  intro l D Y S V G A hl9 hG
  refine vx_ofW (cc := cX4_writesNumber) (maxL := 3) (ret := none) (by decide) rfl ?_
  intro p e s m args below meth c s₁ B hml hex hv
  obtain ⟨rfl, hK, hP, hA⟩ := hv
  have hx := B.exec
  have hb := B.bytes
  have hr := B.returns
  have hlocks := B.notSynchronized
  have hown : s.vm.findClass RX4 = some m.cls := findClass_of_methodNamed B.named
  have hts := atoms_spec (ws := Cond.code yX4_writesNumber cX4_writesNumber 3 none :: zWS) B.pre
  have F : zF 1 1  0 0  p l s m _ c cX4_writesNumber 3 RX4 (Cond.code yX4_writesNumber cX4_writesNumber 3 none) D Y S V G A := ⟨hx, hb, hml, hown, hts, hl9, hG, hK, hA⟩
  have hS : va_S A s.heap s.heap [] := va_S.rf
  have hl := lv_entry ([.ref (G 0 0), .int p0]) (n := 3) (Nat.le_of_ble_eq_true rfl)
  rw [lg_entry_eq]
  generalize (lg_sl ([.ref (G 0 0), .int p0]) ++ List.replicate (3 - (lg_sl ([.ref (G 0 0), .int p0])).length) Slot.unset).toArray = ls at hl ⊢
  have hl : lv_has ls 3 [(0, .ref (G 0 0)), (1, .int p0)] := hl
  unfold f_X4_writesNumber at hf
  refine lv_iconst (v := 1) hx hb dX4_writesNumber_0 (by decide) ?_
  refine lv_istore_n (lv' := [(2, .int 1), (0, .ref (G 0 0)), (1, .int p0)]) hx hb dX4_writesNumber_1 rfl hl (by decide) rfl (fun ls hl => ?_)
  obtain ⟨v4, T3, h5, hf⟩ := zb_i hf
  refine l_X4_writesNumber_2 F ⟨Nat.le_of_ble_eq_true rfl, Nat.le_of_ble_eq_true rfl⟩ p0 2000 1 _ _ _ _ _ h5 hP hS (lv_sub hl [1, 2, 0] rfl) (fun H locs ls hP hS hl => ?_)
  obtain ⟨v13, T12, h14, hf⟩ := zb_i hf
  refine l_X4_writesNumber_18 F ⟨Nat.le_of_ble_eq_true rfl, Nat.le_of_ble_eq_true rfl⟩ p0 2000 v4 _ _ _ _ _ h14 hP hS (lv_sub hl [0, 1, 2] rfl) (fun H locs ls hP hS hl => ?_)
  obtain ⟨q1, q2⟩ := zs_i hf
  subst q1; subst q2
  exact z_vret hx hb hr rfl hP hS hlocks (Nat.le_of_ble_eq_true rfl) (Nat.le_of_ble_eq_true rfl) dX4_writesNumber_43

def lp_X4_writeChild_26 (w1 : Int32) (w2 : Int32) : Nat → Int32 → zT → Option ((Int32) × zT)
  | 0, _, _ => none
  | n + 1, u3, T => (if 6 ≤ u3 then some (u3, T) else zl ((w2 + 7) + u3) fun x9 => if zin x9 151 = true then (if (T.2 2 0 x9.toNatClampNeg) = 0 then some (u3, T) else zl ((w2 + 7) + u3) fun x11 => if zin x11 151 = true then zb (f_X4_writes (T.2 2 0 x11.toNatClampNeg) T) fun _v13 T12 => zl (u3 + 1) fun x15 => lp_X4_writeChild_26 w1 w2 n x15 T12 else none) else none)
def jn_X4_writeChild_67 (w1 : Int32) (w2 : Int32) (T : zT) : Option (Int32 × zT) := zb (f_X4_writes 32 T) fun _v20 T19 => zl (w2 + 2) fun x23 => if zin x23 151 = true then zb (f_X4_writesNumber (T19.2 2 0 x23.toNatClampNeg) T19) fun _v25 T24 => zb (f_X4_hasBirthday w1 T24) fun v28 T27 => (if v28 = 0 then zb (f_X4_told (T27.1 0 0 12) T27) fun v31 T30 => some (v31, T30) else zb (f_X4_writes 32 T27) fun _v34 T33 => zl (w2 + 4) fun x37 => if zin x37 151 = true then zl (T33.2 2 0 x37.toNatClampNeg) fun x38 => zb (f_X4_writesNumber ((x38 / 30) + 1) T33) fun _v40 T39 => zb (f_X4_writes 47 T39) fun _v43 T42 => zl (w2 + 4) fun x46 => if zin x46 151 = true then zl (T42.2 2 0 x46.toNatClampNeg) fun x47 => zb (f_X4_writesNumber ((x47 - x47 / 30 * 30) + 1) T42) fun _v49 T48 => zb (f_X4_told (T48.1 0 0 12) T48) fun v52 T51 => some (v52, T51) else none else none) else none
def f_X4_writeChild (p0 : Int32) (T : zT) : Option (Int32 × zT) := zb (f_X4_isChild p0 T) fun v2 T1 => (if v2 = 0 then zb (f_X4_refuse 1 T1) fun v55 T54 => some (v55, T54) else zb (f_X4_c p0 T1) fun v5 T4 => zl (wI T4 0 0 12 0) fun T7 => zb (lp_X4_writeChild_26 p0 v5 2000 0 T7) fun v17 T16 => jn_X4_writeChild_67 p0 v5 T16)
set_option maxHeartbeats 4000000 in
set_option maxRecDepth 100000 in
theorem l_X4_writeChild_26 {p : Program} {l : Launch} {e : Env} {s : State} {m : MethodId} {args : Array Value} {below : List Frame} {meth : Method} {c : Code} {Q : State → Prop} {D : va_G} {Y : Nat → ClassId} {S V : Nat → Nat} {G : Nat → Nat → Nat} {A : Nat → Prop} {c0 : Cond} {mc ms cells slots : Nat} (F : zF 1 2 mc ms p l s m args c cX4_writeChild 4 RX4 c0 D Y S V G A) (hcs : cells ≤ mc ∧ slots ≤ ms) (w1 : Int32) (w2 : Int32) :
    ∀ (n : Nat) (u3 : Int32) (T : zT) (o : (Int32) × zT) (H : Heap) (locs : List Loc) (ls : Array Slot), lp_X4_writeChild_26 w1 w2 n u3 T = some o → zP 1 D Y G T H → va_S A s.heap H locs → lv_has ls 4 [(0, .ref (G 0 0)), (1, .int w1), (2, .int w2), (3, .int u3)] → (∀ (H : Heap) (locs : List Loc) (ls : Array Slot), zP 1 D Y G o.2 H → va_S A s.heap H locs → lv_has ls 4 [(0, .ref (G 0 0)), (1, .int w1), (2, .int w2), (3, .int o.1)] → W p l e (zR 2 mc ms) s m args below meth c H locs cells slots Q (F0 m 67 ls [])) → W p l e (zR 2 mc ms) s m args below meth c H locs cells slots Q (F0 m 26 ls []) := by
  obtain ⟨hx, hb, hml, hown, hts, hl9, hG, hK, hA⟩ := id F
  intro n
  induction n with
  | zero =>
    intro u3 T o H locs ls hf
    rw [lp_X4_writeChild_26] at hf
    cases hf
  | succ n ih =>
    intro u3 T o H locs ls hf hP hS hl k0_
    rw [lp_X4_writeChild_26] at hf
    refine lv_iload_n hx hb dX4_writeChild_26 rfl (lv_at hl 3 rfl) ?_
    refine lv_bipush (v := 6) hx hb dX4_writeChild_27 (by decide) ?_
    refine lv_icmp_ge (tgt := 67) hx hb dX4_writeChild_29 (by decide) (fun hc => ?_) (fun hc => ?_)
    · have hf := zif_p hf hc
      cases hf
      exact k0_ _ _ _ hP hS (lv_sub hl [0, 1, 2, 3] rfl)
    · have hf := zif_n hf hc
      refine lv_aload_n hx hb dX4_writeChild_32 rfl (lv_at hl 0 rfl) ?_
      refine z_get hx hb hts (fun w h => List.mem_cons_of_mem _ (ziX4 w h)) hown hK hP (zV_m (by decide)) rfl rfl 2 (by decide) (List.mem_cons_of_mem _ m_1143) rfl rfl dX4_writeChild_33 ?_
      refine lv_iload_n hx hb dX4_writeChild_36 rfl (lv_at hl 2 rfl) ?_
      refine lv_bipush (v := 7) hx hb dX4_writeChild_37 (by decide) ?_
      refine lv_iadd hx hb dX4_writeChild_39 ?_
      refine lv_iload_n hx hb dX4_writeChild_40 rfl (lv_at hl 3 rfl) ?_
      refine lv_iadd hx hb dX4_writeChild_41 ?_
      obtain ⟨x9, ex9, hf⟩ := zl_i hf
      refine z_topi ex9 ?_
      obtain ⟨h8, hf⟩ := zif_c hf
      refine z_iald hx hb hK hP (zIA_m (by decide) (by decide)) (zin_i h8) dX4_writeChild_42 ?_
      refine lv_if_eq (tgt := 67) hx hb dX4_writeChild_43 (by decide) (fun hc => ?_) (fun hc => ?_)
      · have hf := zif_p hf hc
        cases hf
        exact k0_ _ _ _ hP hS (lv_sub hl [0, 1, 2, 3] rfl)
      · have hf := zif_n hf hc
        refine lv_aload_n hx hb dX4_writeChild_46 rfl (lv_at hl 0 rfl) ?_
        refine lv_aload_n hx hb dX4_writeChild_47 rfl (lv_at hl 0 rfl) ?_
        refine z_get hx hb hts (fun w h => List.mem_cons_of_mem _ (ziX4 w h)) hown hK hP (zV_m (by decide)) rfl rfl 2 (by decide) (List.mem_cons_of_mem _ m_1143) rfl rfl dX4_writeChild_48 ?_
        refine lv_iload_n hx hb dX4_writeChild_51 rfl (lv_at hl 2 rfl) ?_
        refine lv_bipush (v := 7) hx hb dX4_writeChild_52 (by decide) ?_
        refine lv_iadd hx hb dX4_writeChild_54 ?_
        refine lv_iload_n hx hb dX4_writeChild_55 rfl (lv_at hl 3 rfl) ?_
        refine lv_iadd hx hb dX4_writeChild_56 ?_
        obtain ⟨x11, ex11, hf⟩ := zl_i hf
        refine z_topi ex11 ?_
        obtain ⟨h10, hf⟩ := zif_c hf
        refine z_iald hx hb hK hP (zIA_m (by decide) (by decide)) (zin_i h10) dX4_writeChild_57 ?_
        obtain ⟨v13, T12, h14, hf⟩ := zb_i hf
        refine z_ok (z_runV (As := [.int (T.2 2 0 x11.toNatClampNeg)]) (rest := []) F k_X4_writes m_1585 (c_X4_writes (T.2 2 0 x11.toNatClampNeg) T T12 _ h14) hP hS (zV_m (by decide)) rfl rfl rfl rfl hl.1 (Nat.le_of_ble_eq_true rfl) dX4_writeChild_58 (Nat.le_of_ble_eq_true rfl) ⟨hcs.1, hcs.2⟩ rfl) hS (fun H locs hP hS => ?_)
        obtain ⟨x15, ex15, hf⟩ := zl_i hf
        refine lv_iinc (v := x15) (lv' := [(3, .int x15), (0, .ref (G 0 0)), (1, .int w1), (2, .int w2)]) hx hb dX4_writeChild_61 hl (k := 3) rfl (by rw [ex15]; rfl) (by decide) rfl (fun ls hl => ?_)
        refine lv_goto (tgt := 26) hx hb dX4_writeChild_64 (by decide) ?_
        exact ih x15 _ _ _ _ _ hf hP hS (lv_sub hl [1, 2, 3, 0] rfl) k0_
set_option maxHeartbeats 4000000 in
set_option maxRecDepth 100000 in
theorem j_X4_writeChild_67 {p : Program} {l : Launch} {e : Env} {s : State} {m : MethodId} {args : Array Value} {below : List Frame} {meth : Method} {c : Code} {D : va_G} {Y : Nat → ClassId} {S V : Nat → Nat} {G : Nat → Nat → Nat} {A : Nat → Prop} {c0 : Cond} (F : zF 1 2  0 0  p l s m args c cX4_writeChild 4 RX4 c0 D Y S V G A) (hr : meth.sig.returnType = (some .int)) (hlocks : meth.locks = false) (hex : ∀ x ∈ c.exceptionTable.toList, False) (w1 : Int32) (w2 : Int32) (T : zT) {T' : zT} {v : Int32} {H : Heap} {locs : List Loc} {ls : Array Slot} (hf : jn_X4_writeChild_67 w1 w2 T = some (v, T')) (hP : zP 1 D Y G T H) (hS : va_S A s.heap H locs) (hl : lv_has ls 4 [(0, .ref (G 0 0)), (1, .int w1), (2, .int w2)]) :
    W p l e (zR 2  0 0 ) s m args below meth c H locs 0 0 (vx_MQ below (zQ 1 D Y G A (.inl (some (.int v))) T') (zX 1 D Y G A (.inl (some (.int v))) T') args s  0 0  A) (F0 m 67 ls []) := by
  obtain ⟨hx, hb, hml, hown, hts, hl9, hG, hK, hA⟩ := id F
  unfold jn_X4_writeChild_67 at hf
  refine lv_aload_n hx hb dX4_writeChild_67 rfl (lv_at hl 0 rfl) ?_
  refine lv_bipush (v := 32) hx hb dX4_writeChild_68 (by decide) ?_
  obtain ⟨v20, T19, h21, hf⟩ := zb_i hf
  refine z_ok (z_runV (As := [.int 32]) (rest := []) F k_X4_writes m_1585 (c_X4_writes 32 T T19 _ h21) hP hS (zV_m (by decide)) rfl rfl rfl rfl hl.1 (Nat.le_of_ble_eq_true rfl) dX4_writeChild_70 (Nat.le_of_ble_eq_true rfl) ⟨Nat.le_of_ble_eq_true rfl, Nat.le_of_ble_eq_true rfl⟩ rfl) hS (fun H locs hP hS => ?_)
  refine lv_aload_n hx hb dX4_writeChild_73 rfl (lv_at hl 0 rfl) ?_
  refine lv_aload_n hx hb dX4_writeChild_74 rfl (lv_at hl 0 rfl) ?_
  refine z_get hx hb hts (fun w h => List.mem_cons_of_mem _ (ziX4 w h)) hown hK hP (zV_m (by decide)) rfl rfl 2 (by decide) (List.mem_cons_of_mem _ m_1143) rfl rfl dX4_writeChild_75 ?_
  refine lv_iload_n hx hb dX4_writeChild_78 rfl (lv_at hl 2 rfl) ?_
  refine lv_iconst (v := 2) hx hb dX4_writeChild_79 (by decide) ?_
  refine lv_iadd hx hb dX4_writeChild_80 ?_
  obtain ⟨x23, ex23, hf⟩ := zl_i hf
  refine z_topi ex23 ?_
  obtain ⟨h22, hf⟩ := zif_c hf
  refine z_iald hx hb hK hP (zIA_m (by decide) (by decide)) (zin_i h22) dX4_writeChild_81 ?_
  obtain ⟨v25, T24, h26, hf⟩ := zb_i hf
  refine z_ok (z_runV (As := [.int (T19.2 2 0 x23.toNatClampNeg)]) (rest := []) F k_X4_writesNumber m_1589 (c_X4_writesNumber (T19.2 2 0 x23.toNatClampNeg) T19 T24 _ h26) hP hS (zV_m (by decide)) rfl rfl rfl rfl hl.1 (Nat.le_of_ble_eq_true rfl) dX4_writeChild_82 (Nat.le_of_ble_eq_true rfl) ⟨Nat.le_of_ble_eq_true rfl, Nat.le_of_ble_eq_true rfl⟩ rfl) hS (fun H locs hP hS => ?_)
  refine lv_aload_n hx hb dX4_writeChild_85 rfl (lv_at hl 0 rfl) ?_
  refine lv_iload_n hx hb dX4_writeChild_86 rfl (lv_at hl 1 rfl) ?_
  obtain ⟨v28, T27, h29, hf⟩ := zb_i hf
  refine z_ok (z_runV (As := [.int w1]) (rest := []) F k_X4_hasBirthday m_1434 (c_X4_hasBirthday w1 T24 T27 _ h29) hP hS (zV_m (by decide)) rfl rfl rfl rfl hl.1 (Nat.le_of_ble_eq_true rfl) dX4_writeChild_87 (Nat.le_of_ble_eq_true rfl) ⟨Nat.le_of_ble_eq_true rfl, Nat.le_of_ble_eq_true rfl⟩ rfl) hS (fun H locs hP hS => ?_)
  refine lv_if_eq (tgt := 139) hx hb dX4_writeChild_90 (by decide) (fun hc => ?_) (fun hc => ?_)
  · have hf := zif_p hf hc
    refine lv_aload_n hx hb dX4_writeChild_139 rfl (lv_at hl 0 rfl) ?_
    refine lv_aload_n hx hb dX4_writeChild_140 rfl (lv_at hl 0 rfl) ?_
    refine z_get hx hb hts (fun w h => List.mem_cons_of_mem _ (ziX4 w h)) hown hK hP (zV_m (by decide)) rfl rfl 12 (by decide) (List.mem_cons_of_mem _ m_1153) rfl rfl dX4_writeChild_141 ?_
    obtain ⟨v31, T30, h32, hf⟩ := zb_i hf
    refine z_ok (z_runV (As := [.int (T27.1 0 0 12)]) (rest := []) F k_X4_told m_1230 (c_X4_told (T27.1 0 0 12) T27 T30 _ h32) hP hS (zV_m (by decide)) rfl rfl rfl rfl hl.1 (Nat.le_of_ble_eq_true rfl) dX4_writeChild_144 (Nat.le_of_ble_eq_true rfl) ⟨Nat.le_of_ble_eq_true rfl, Nat.le_of_ble_eq_true rfl⟩ rfl) hS (fun H locs hP hS => ?_)
    obtain ⟨q1, q2⟩ := zs_i hf
    subst q1; subst q2
    exact z_iret hx hb hr rfl hP hS hlocks (Nat.le_of_ble_eq_true rfl) (Nat.le_of_ble_eq_true rfl) dX4_writeChild_147
  · have hf := zif_n hf hc
    refine lv_aload_n hx hb dX4_writeChild_93 rfl (lv_at hl 0 rfl) ?_
    refine lv_bipush (v := 32) hx hb dX4_writeChild_94 (by decide) ?_
    obtain ⟨v34, T33, h35, hf⟩ := zb_i hf
    refine z_ok (z_runV (As := [.int 32]) (rest := []) F k_X4_writes m_1585 (c_X4_writes 32 T27 T33 _ h35) hP hS (zV_m (by decide)) rfl rfl rfl rfl hl.1 (Nat.le_of_ble_eq_true rfl) dX4_writeChild_96 (Nat.le_of_ble_eq_true rfl) ⟨Nat.le_of_ble_eq_true rfl, Nat.le_of_ble_eq_true rfl⟩ rfl) hS (fun H locs hP hS => ?_)
    refine lv_aload_n hx hb dX4_writeChild_99 rfl (lv_at hl 0 rfl) ?_
    refine lv_aload_n hx hb dX4_writeChild_100 rfl (lv_at hl 0 rfl) ?_
    refine z_get hx hb hts (fun w h => List.mem_cons_of_mem _ (ziX4 w h)) hown hK hP (zV_m (by decide)) rfl rfl 2 (by decide) (List.mem_cons_of_mem _ m_1143) rfl rfl dX4_writeChild_101 ?_
    refine lv_iload_n hx hb dX4_writeChild_104 rfl (lv_at hl 2 rfl) ?_
    refine lv_iconst (v := 4) hx hb dX4_writeChild_105 (by decide) ?_
    refine lv_iadd hx hb dX4_writeChild_106 ?_
    obtain ⟨x37, ex37, hf⟩ := zl_i hf
    refine z_topi ex37 ?_
    obtain ⟨h36, hf⟩ := zif_c hf
    refine z_iald hx hb hK hP (zIA_m (by decide) (by decide)) (zin_i h36) dX4_writeChild_107 ?_
    refine lv_bipush (v := 30) hx hb dX4_writeChild_108 (by decide) ?_
    obtain ⟨x38, ex38, hf⟩ := zl_i hf
    rw [← ex38]
    refine lv_idiv hx hb dX4_writeChild_110 (by decide) ?_
    refine lv_iconst (v := 1) hx hb dX4_writeChild_111 (by decide) ?_
    refine lv_iadd hx hb dX4_writeChild_112 ?_
    obtain ⟨v40, T39, h41, hf⟩ := zb_i hf
    refine z_ok (z_runV (As := [.int ((x38 / 30) + 1)]) (rest := []) F k_X4_writesNumber m_1589 (c_X4_writesNumber ((x38 / 30) + 1) T33 T39 _ h41) hP hS (zV_m (by decide)) rfl rfl rfl rfl hl.1 (Nat.le_of_ble_eq_true rfl) dX4_writeChild_113 (Nat.le_of_ble_eq_true rfl) ⟨Nat.le_of_ble_eq_true rfl, Nat.le_of_ble_eq_true rfl⟩ rfl) hS (fun H locs hP hS => ?_)
    refine lv_aload_n hx hb dX4_writeChild_116 rfl (lv_at hl 0 rfl) ?_
    refine lv_bipush (v := 47) hx hb dX4_writeChild_117 (by decide) ?_
    obtain ⟨v43, T42, h44, hf⟩ := zb_i hf
    refine z_ok (z_runV (As := [.int 47]) (rest := []) F k_X4_writes m_1585 (c_X4_writes 47 T39 T42 _ h44) hP hS (zV_m (by decide)) rfl rfl rfl rfl hl.1 (Nat.le_of_ble_eq_true rfl) dX4_writeChild_119 (Nat.le_of_ble_eq_true rfl) ⟨Nat.le_of_ble_eq_true rfl, Nat.le_of_ble_eq_true rfl⟩ rfl) hS (fun H locs hP hS => ?_)
    refine lv_aload_n hx hb dX4_writeChild_122 rfl (lv_at hl 0 rfl) ?_
    refine lv_aload_n hx hb dX4_writeChild_123 rfl (lv_at hl 0 rfl) ?_
    refine z_get hx hb hts (fun w h => List.mem_cons_of_mem _ (ziX4 w h)) hown hK hP (zV_m (by decide)) rfl rfl 2 (by decide) (List.mem_cons_of_mem _ m_1143) rfl rfl dX4_writeChild_124 ?_
    refine lv_iload_n hx hb dX4_writeChild_127 rfl (lv_at hl 2 rfl) ?_
    refine lv_iconst (v := 4) hx hb dX4_writeChild_128 (by decide) ?_
    refine lv_iadd hx hb dX4_writeChild_129 ?_
    obtain ⟨x46, ex46, hf⟩ := zl_i hf
    refine z_topi ex46 ?_
    obtain ⟨h45, hf⟩ := zif_c hf
    refine z_iald hx hb hK hP (zIA_m (by decide) (by decide)) (zin_i h45) dX4_writeChild_130 ?_
    refine lv_bipush (v := 30) hx hb dX4_writeChild_131 (by decide) ?_
    obtain ⟨x47, ex47, hf⟩ := zl_i hf
    rw [← ex47]
    refine lv_irem hx hb dX4_writeChild_133 (by decide) ?_
    refine lv_iconst (v := 1) hx hb dX4_writeChild_134 (by decide) ?_
    refine lv_iadd hx hb dX4_writeChild_135 ?_
    obtain ⟨v49, T48, h50, hf⟩ := zb_i hf
    refine z_ok (z_runV (As := [.int ((x47 - x47 / 30 * 30) + 1)]) (rest := []) F k_X4_writesNumber m_1589 (c_X4_writesNumber ((x47 - x47 / 30 * 30) + 1) T42 T48 _ h50) hP hS (zV_m (by decide)) rfl rfl rfl rfl hl.1 (Nat.le_of_ble_eq_true rfl) dX4_writeChild_136 (Nat.le_of_ble_eq_true rfl) ⟨Nat.le_of_ble_eq_true rfl, Nat.le_of_ble_eq_true rfl⟩ rfl) hS (fun H locs hP hS => ?_)
    refine lv_aload_n hx hb dX4_writeChild_139 rfl (lv_at hl 0 rfl) ?_
    refine lv_aload_n hx hb dX4_writeChild_140 rfl (lv_at hl 0 rfl) ?_
    refine z_get hx hb hts (fun w h => List.mem_cons_of_mem _ (ziX4 w h)) hown hK hP (zV_m (by decide)) rfl rfl 12 (by decide) (List.mem_cons_of_mem _ m_1153) rfl rfl dX4_writeChild_141 ?_
    obtain ⟨v52, T51, h53, hf⟩ := zb_i hf
    refine z_ok (z_runV (As := [.int (T48.1 0 0 12)]) (rest := []) F k_X4_told m_1230 (c_X4_told (T48.1 0 0 12) T48 T51 _ h53) hP hS (zV_m (by decide)) rfl rfl rfl rfl hl.1 (Nat.le_of_ble_eq_true rfl) dX4_writeChild_144 (Nat.le_of_ble_eq_true rfl) ⟨Nat.le_of_ble_eq_true rfl, Nat.le_of_ble_eq_true rfl⟩ rfl) hS (fun H locs hP hS => ?_)
    obtain ⟨q1, q2⟩ := zs_i hf
    subst q1; subst q2
    exact z_iret hx hb hr rfl hP hS hlocks (Nat.le_of_ble_eq_true rfl) (Nat.le_of_ble_eq_true rfl) dX4_writeChild_147
set_option maxHeartbeats 4000000 in
set_option maxRecDepth 100000 in
theorem c_X4_writeChild (p0 : Int32) (T T' : zT) (v : Int32) (hf : f_X4_writeChild p0 T = some (v, T')) : zC 1 yX4_writeChild cX4_writeChild 4 (some .int) 2  0 0  (fun G _ => [.ref (G 0 0), .int p0]) T (fun _ => .inl (some (.int v))) T' := by
  intro l D Y S V G A hl9 hG
  refine vx_ofW (cc := cX4_writeChild) (maxL := 4) (ret := (some .int)) (by decide) rfl ?_
  intro p e s m args below meth c s₁ B hml hex hv
  obtain ⟨rfl, hK, hP, hA⟩ := hv
  have hx := B.exec
  have hb := B.bytes
  have hr := B.returns
  have hlocks := B.notSynchronized
  have hown : s.vm.findClass RX4 = some m.cls := findClass_of_methodNamed B.named
  have hts := atoms_spec (ws := Cond.code yX4_writeChild cX4_writeChild 4 (some .int) :: zWS) B.pre
  have F : zF 1 2  0 0  p l s m _ c cX4_writeChild 4 RX4 (Cond.code yX4_writeChild cX4_writeChild 4 (some .int)) D Y S V G A := ⟨hx, hb, hml, hown, hts, hl9, hG, hK, hA⟩
  have hS : va_S A s.heap s.heap [] := va_S.rf
  have hl := lv_entry ([.ref (G 0 0), .int p0]) (n := 4) (Nat.le_of_ble_eq_true rfl)
  rw [lg_entry_eq]
  generalize (lg_sl ([.ref (G 0 0), .int p0]) ++ List.replicate (4 - (lg_sl ([.ref (G 0 0), .int p0])).length) Slot.unset).toArray = ls at hl ⊢
  have hl : lv_has ls 4 [(0, .ref (G 0 0)), (1, .int p0)] := hl
  unfold f_X4_writeChild at hf
  refine lv_aload_n hx hb dX4_writeChild_0 rfl (lv_at hl 0 rfl) ?_
  refine lv_iload_n hx hb dX4_writeChild_1 rfl (lv_at hl 1 rfl) ?_
  obtain ⟨v2, T1, h3, hf⟩ := zb_i hf
  refine z_ok (z_runV (As := [.int p0]) (rest := []) F k_X4_isChild m_1410 (c_X4_isChild p0 T T1 _ h3) hP hS (zV_m (by decide)) rfl rfl rfl rfl hl.1 (Nat.le_of_ble_eq_true rfl) dX4_writeChild_2 (Nat.le_of_ble_eq_true rfl) ⟨Nat.le_of_ble_eq_true rfl, Nat.le_of_ble_eq_true rfl⟩ rfl) hS (fun H locs hP hS => ?_)
  refine lv_if_ne (tgt := 14) hx hb dX4_writeChild_5 (by decide) (fun hc => ?_) (fun hc => ?_)
  · have hf := zif_n hf hc
    refine lv_iload_n hx hb dX4_writeChild_14 rfl (lv_at hl 1 rfl) ?_
    obtain ⟨v5, T4, h6, hf⟩ := zb_i hf
    refine z_ok (z_runS (As := [.int p0]) (rest := []) F k_X4_c m_1095 (c_X4_c p0 T1 T4 _ h6) hP hS rfl rfl hl.1 (Nat.le_of_ble_eq_true rfl) dX4_writeChild_15 (Nat.le_of_ble_eq_true rfl) ⟨Nat.le_of_ble_eq_true rfl, Nat.le_of_ble_eq_true rfl⟩ rfl) hS (fun H locs hP hS => ?_)
    refine lv_istore_n (lv' := [(2, .int v5), (0, .ref (G 0 0)), (1, .int p0)]) hx hb dX4_writeChild_18 rfl hl (by decide) rfl (fun ls hl => ?_)
    refine lv_aload_n hx hb dX4_writeChild_19 rfl (lv_at hl 1 rfl) ?_
    refine lv_iconst (v := 0) hx hb dX4_writeChild_20 (by decide) ?_
    obtain ⟨T7, eT7, hf⟩ := zl_i hf
    refine z_put hx hb hts (fun w h => List.mem_cons_of_mem _ (ziX4 w h)) tyX4 tyX4_ok nmX4 hown hK hP hG hS (zV_m (by decide)) rfl rfl 12 (by decide) (List.mem_cons_of_mem _ m_1153) rfl rfl (by decide +kernel) (Nat.le_of_ble_eq_true rfl) rfl dX4_writeChild_21 (fun H locs hP hS => ?_)
    rw [← eT7] at hP
    refine lv_iconst (v := 0) hx hb dX4_writeChild_24 (by decide) ?_
    refine lv_istore_n (lv' := [(3, .int 0), (2, .int v5), (0, .ref (G 0 0)), (1, .int p0)]) hx hb dX4_writeChild_25 rfl hl (by decide) rfl (fun ls hl => ?_)
    obtain ⟨v17, T16, h18, hf⟩ := zb_i hf
    refine l_X4_writeChild_26 F ⟨Nat.le_of_ble_eq_true rfl, Nat.le_of_ble_eq_true rfl⟩ p0 v5 2000 0 _ _ _ _ _ h18 hP hS (lv_sub hl [2, 3, 1, 0] rfl) (fun H locs ls hP hS hl => ?_)
    exact j_X4_writeChild_67 F hr hlocks hex p0 v5 T16 hf hP hS (lv_sub hl [0, 1, 2] rfl)
  · have hf := zif_p hf hc
    refine lv_aload_n hx hb dX4_writeChild_8 rfl (lv_at hl 0 rfl) ?_
    refine lv_iconst (v := 1) hx hb dX4_writeChild_9 (by decide) ?_
    obtain ⟨v55, T54, h56, hf⟩ := zb_i hf
    refine z_ok (z_runV (As := [.int 1]) (rest := []) F k_X4_refuse m_1222 (c_X4_refuse 1 T1 T54 _ h56) hP hS (zV_m (by decide)) rfl rfl rfl rfl hl.1 (Nat.le_of_ble_eq_true rfl) dX4_writeChild_10 (Nat.le_of_ble_eq_true rfl) ⟨Nat.le_of_ble_eq_true rfl, Nat.le_of_ble_eq_true rfl⟩ rfl) hS (fun H locs hP hS => ?_)
    obtain ⟨q1, q2⟩ := zs_i hf
    subst q1; subst q2
    exact z_iret hx hb hr rfl hP hS hlocks (Nat.le_of_ble_eq_true rfl) (Nat.le_of_ble_eq_true rfl) dX4_writeChild_13

def f_X4_writeDate  (T : zT) : Option (Int32 × zT) := zl (wI T 0 0 12 0) fun T1 => zl (T1.2 2 0 1) fun x3 => zb (f_X4_writesNumber ((x3 - x3 / 30 * 30) + 1) T1) fun _v5 T4 => zb (f_X4_writes 46 T4) fun _v8 T7 => zl (T7.2 2 0 1) fun x11 => zb (f_X4_writesNumber ((x11 / 30) + 1) T7) fun _v13 T12 => zb (f_X4_writes 46 T12) fun _v16 T15 => zb (f_X4_writesNumber (T15.2 2 0 0) T15) fun _v20 T19 => zb (f_X4_told (T19.1 0 0 12) T19) fun v23 T22 => some (v23, T22)
set_option maxHeartbeats 4000000 in
set_option maxRecDepth 100000 in
theorem c_X4_writeDate  (T T' : zT) (v : Int32) (hf : f_X4_writeDate  T = some (v, T')) : zC 1 yX4_writeDate cX4_writeDate 1 (some .int) 2  0 0  (fun G _ => [.ref (G 0 0)]) T (fun _ => .inl (some (.int v))) T' := by
  intro l D Y S V G A hl9 hG
  refine vx_ofW (cc := cX4_writeDate) (maxL := 1) (ret := (some .int)) (by decide) rfl ?_
  intro p e s m args below meth c s₁ B hml hex hv
  obtain ⟨rfl, hK, hP, hA⟩ := hv
  have hx := B.exec
  have hb := B.bytes
  have hr := B.returns
  have hlocks := B.notSynchronized
  have hown : s.vm.findClass RX4 = some m.cls := findClass_of_methodNamed B.named
  have hts := atoms_spec (ws := Cond.code yX4_writeDate cX4_writeDate 1 (some .int) :: zWS) B.pre
  have F : zF 1 2  0 0  p l s m _ c cX4_writeDate 1 RX4 (Cond.code yX4_writeDate cX4_writeDate 1 (some .int)) D Y S V G A := ⟨hx, hb, hml, hown, hts, hl9, hG, hK, hA⟩
  have hS : va_S A s.heap s.heap [] := va_S.rf
  have hl := lv_entry ([.ref (G 0 0)]) (n := 1) (Nat.le_of_ble_eq_true rfl)
  rw [lg_entry_eq]
  generalize (lg_sl ([.ref (G 0 0)]) ++ List.replicate (1 - (lg_sl ([.ref (G 0 0)])).length) Slot.unset).toArray = ls at hl ⊢
  have hl : lv_has ls 1 [(0, .ref (G 0 0))] := hl
  unfold f_X4_writeDate at hf
  refine lv_aload_n hx hb dX4_writeDate_0 rfl (lv_at hl 0 rfl) ?_
  refine lv_iconst (v := 0) hx hb dX4_writeDate_1 (by decide) ?_
  obtain ⟨T1, eT1, hf⟩ := zl_i hf
  refine z_put hx hb hts (fun w h => List.mem_cons_of_mem _ (ziX4 w h)) tyX4 tyX4_ok nmX4 hown hK hP hG hS (zV_m (by decide)) rfl rfl 12 (by decide) (List.mem_cons_of_mem _ m_1153) rfl rfl (by decide +kernel) (Nat.le_of_ble_eq_true rfl) rfl dX4_writeDate_2 (fun H locs hP hS => ?_)
  rw [← eT1] at hP
  refine lv_aload_n hx hb dX4_writeDate_5 rfl (lv_at hl 0 rfl) ?_
  refine lv_aload_n hx hb dX4_writeDate_6 rfl (lv_at hl 0 rfl) ?_
  refine z_get hx hb hts (fun w h => List.mem_cons_of_mem _ (ziX4 w h)) hown hK hP (zV_m (by decide)) rfl rfl 2 (by decide) (List.mem_cons_of_mem _ m_1143) rfl rfl dX4_writeDate_7 ?_
  refine lv_iconst (v := 1) hx hb dX4_writeDate_10 (by decide) ?_
  refine z_iald_ (j := 1) hx hb hK hP (zIA_m (by decide) (by decide)) (by decide) (by decide) dX4_writeDate_11 ?_
  refine lv_bipush (v := 30) hx hb dX4_writeDate_12 (by decide) ?_
  obtain ⟨x3, ex3, hf⟩ := zl_i hf
  rw [← ex3]
  refine lv_irem hx hb dX4_writeDate_14 (by decide) ?_
  refine lv_iconst (v := 1) hx hb dX4_writeDate_15 (by decide) ?_
  refine lv_iadd hx hb dX4_writeDate_16 ?_
  obtain ⟨v5, T4, h6, hf⟩ := zb_i hf
  refine z_ok (z_runV (As := [.int ((x3 - x3 / 30 * 30) + 1)]) (rest := []) F k_X4_writesNumber m_1589 (c_X4_writesNumber ((x3 - x3 / 30 * 30) + 1) T1 T4 _ h6) hP hS (zV_m (by decide)) rfl rfl rfl rfl hl.1 (Nat.le_of_ble_eq_true rfl) dX4_writeDate_17 (Nat.le_of_ble_eq_true rfl) ⟨Nat.le_of_ble_eq_true rfl, Nat.le_of_ble_eq_true rfl⟩ rfl) hS (fun H locs hP hS => ?_)
  refine lv_aload_n hx hb dX4_writeDate_20 rfl (lv_at hl 0 rfl) ?_
  refine lv_bipush (v := 46) hx hb dX4_writeDate_21 (by decide) ?_
  obtain ⟨v8, T7, h9, hf⟩ := zb_i hf
  refine z_ok (z_runV (As := [.int 46]) (rest := []) F k_X4_writes m_1585 (c_X4_writes 46 T4 T7 _ h9) hP hS (zV_m (by decide)) rfl rfl rfl rfl hl.1 (Nat.le_of_ble_eq_true rfl) dX4_writeDate_23 (Nat.le_of_ble_eq_true rfl) ⟨Nat.le_of_ble_eq_true rfl, Nat.le_of_ble_eq_true rfl⟩ rfl) hS (fun H locs hP hS => ?_)
  refine lv_aload_n hx hb dX4_writeDate_26 rfl (lv_at hl 0 rfl) ?_
  refine lv_aload_n hx hb dX4_writeDate_27 rfl (lv_at hl 0 rfl) ?_
  refine z_get hx hb hts (fun w h => List.mem_cons_of_mem _ (ziX4 w h)) hown hK hP (zV_m (by decide)) rfl rfl 2 (by decide) (List.mem_cons_of_mem _ m_1143) rfl rfl dX4_writeDate_28 ?_
  refine lv_iconst (v := 1) hx hb dX4_writeDate_31 (by decide) ?_
  refine z_iald_ (j := 1) hx hb hK hP (zIA_m (by decide) (by decide)) (by decide) (by decide) dX4_writeDate_32 ?_
  refine lv_bipush (v := 30) hx hb dX4_writeDate_33 (by decide) ?_
  obtain ⟨x11, ex11, hf⟩ := zl_i hf
  rw [← ex11]
  refine lv_idiv hx hb dX4_writeDate_35 (by decide) ?_
  refine lv_iconst (v := 1) hx hb dX4_writeDate_36 (by decide) ?_
  refine lv_iadd hx hb dX4_writeDate_37 ?_
  obtain ⟨v13, T12, h14, hf⟩ := zb_i hf
  refine z_ok (z_runV (As := [.int ((x11 / 30) + 1)]) (rest := []) F k_X4_writesNumber m_1589 (c_X4_writesNumber ((x11 / 30) + 1) T7 T12 _ h14) hP hS (zV_m (by decide)) rfl rfl rfl rfl hl.1 (Nat.le_of_ble_eq_true rfl) dX4_writeDate_38 (Nat.le_of_ble_eq_true rfl) ⟨Nat.le_of_ble_eq_true rfl, Nat.le_of_ble_eq_true rfl⟩ rfl) hS (fun H locs hP hS => ?_)
  refine lv_aload_n hx hb dX4_writeDate_41 rfl (lv_at hl 0 rfl) ?_
  refine lv_bipush (v := 46) hx hb dX4_writeDate_42 (by decide) ?_
  obtain ⟨v16, T15, h17, hf⟩ := zb_i hf
  refine z_ok (z_runV (As := [.int 46]) (rest := []) F k_X4_writes m_1585 (c_X4_writes 46 T12 T15 _ h17) hP hS (zV_m (by decide)) rfl rfl rfl rfl hl.1 (Nat.le_of_ble_eq_true rfl) dX4_writeDate_44 (Nat.le_of_ble_eq_true rfl) ⟨Nat.le_of_ble_eq_true rfl, Nat.le_of_ble_eq_true rfl⟩ rfl) hS (fun H locs hP hS => ?_)
  refine lv_aload_n hx hb dX4_writeDate_47 rfl (lv_at hl 0 rfl) ?_
  refine lv_aload_n hx hb dX4_writeDate_48 rfl (lv_at hl 0 rfl) ?_
  refine z_get hx hb hts (fun w h => List.mem_cons_of_mem _ (ziX4 w h)) hown hK hP (zV_m (by decide)) rfl rfl 2 (by decide) (List.mem_cons_of_mem _ m_1143) rfl rfl dX4_writeDate_49 ?_
  refine lv_iconst (v := 0) hx hb dX4_writeDate_52 (by decide) ?_
  refine z_iald_ (j := 0) hx hb hK hP (zIA_m (by decide) (by decide)) (by decide) (by decide) dX4_writeDate_53 ?_
  obtain ⟨v20, T19, h21, hf⟩ := zb_i hf
  refine z_ok (z_runV (As := [.int (T15.2 2 0 0)]) (rest := []) F k_X4_writesNumber m_1589 (c_X4_writesNumber (T15.2 2 0 0) T15 T19 _ h21) hP hS (zV_m (by decide)) rfl rfl rfl rfl hl.1 (Nat.le_of_ble_eq_true rfl) dX4_writeDate_54 (Nat.le_of_ble_eq_true rfl) ⟨Nat.le_of_ble_eq_true rfl, Nat.le_of_ble_eq_true rfl⟩ rfl) hS (fun H locs hP hS => ?_)
  refine lv_aload_n hx hb dX4_writeDate_57 rfl (lv_at hl 0 rfl) ?_
  refine lv_aload_n hx hb dX4_writeDate_58 rfl (lv_at hl 0 rfl) ?_
  refine z_get hx hb hts (fun w h => List.mem_cons_of_mem _ (ziX4 w h)) hown hK hP (zV_m (by decide)) rfl rfl 12 (by decide) (List.mem_cons_of_mem _ m_1153) rfl rfl dX4_writeDate_59 ?_
  obtain ⟨v23, T22, h24, hf⟩ := zb_i hf
  refine z_ok (z_runV (As := [.int (T19.1 0 0 12)]) (rest := []) F k_X4_told m_1230 (c_X4_told (T19.1 0 0 12) T19 T22 _ h24) hP hS (zV_m (by decide)) rfl rfl rfl rfl hl.1 (Nat.le_of_ble_eq_true rfl) dX4_writeDate_62 (Nat.le_of_ble_eq_true rfl) ⟨Nat.le_of_ble_eq_true rfl, Nat.le_of_ble_eq_true rfl⟩ rfl) hS (fun H locs hP hS => ?_)
  obtain ⟨q1, q2⟩ := zs_i hf
  subst q1; subst q2
  exact z_iret hx hb hr rfl hP hS hlocks (Nat.le_of_ble_eq_true rfl) (Nat.le_of_ble_eq_true rfl) dX4_writeDate_65

def f_X4_outputByte (p0 : Int32) (T : zT) : Option (Int32 × zT) := zb (f_X4_in p0 0 ((T.1 0 0 12) - 1) T) fun v2 T1 => (if v2 = 0 then zb (f_X4_refuse 1 T1) fun v9 T8 => some (v9, T8) else if zin p0 40 = true then zb (f_X4_told (T1.2 8 0 p0.toNatClampNeg) T1) fun v6 T5 => some (v6, T5) else none)
set_option maxHeartbeats 4000000 in
set_option maxRecDepth 100000 in
theorem c_X4_outputByte (p0 : Int32) (T T' : zT) (v : Int32) (hf : f_X4_outputByte p0 T = some (v, T')) : zC 1 yX4_outputByte cX4_outputByte 2 (some .int) 1  0 0  (fun G _ => [.ref (G 0 0), .int p0]) T (fun _ => .inl (some (.int v))) T' := by
  intro l D Y S V G A hl9 hG
  refine vx_ofW (cc := cX4_outputByte) (maxL := 2) (ret := (some .int)) (by decide) rfl ?_
  intro p e s m args below meth c s₁ B hml hex hv
  obtain ⟨rfl, hK, hP, hA⟩ := hv
  have hx := B.exec
  have hb := B.bytes
  have hr := B.returns
  have hlocks := B.notSynchronized
  have hown : s.vm.findClass RX4 = some m.cls := findClass_of_methodNamed B.named
  have hts := atoms_spec (ws := Cond.code yX4_outputByte cX4_outputByte 2 (some .int) :: zWS) B.pre
  have F : zF 1 1  0 0  p l s m _ c cX4_outputByte 2 RX4 (Cond.code yX4_outputByte cX4_outputByte 2 (some .int)) D Y S V G A := ⟨hx, hb, hml, hown, hts, hl9, hG, hK, hA⟩
  have hS : va_S A s.heap s.heap [] := va_S.rf
  have hl := lv_entry ([.ref (G 0 0), .int p0]) (n := 2) (Nat.le_of_ble_eq_true rfl)
  rw [lg_entry_eq]
  generalize (lg_sl ([.ref (G 0 0), .int p0]) ++ List.replicate (2 - (lg_sl ([.ref (G 0 0), .int p0])).length) Slot.unset).toArray = ls at hl ⊢
  have hl : lv_has ls 2 [(0, .ref (G 0 0)), (1, .int p0)] := hl
  unfold f_X4_outputByte at hf
  refine lv_iload_n hx hb dX4_outputByte_0 rfl (lv_at hl 1 rfl) ?_
  refine lv_iconst (v := 0) hx hb dX4_outputByte_1 (by decide) ?_
  refine lv_aload_n hx hb dX4_outputByte_2 rfl (lv_at hl 0 rfl) ?_
  refine z_get hx hb hts (fun w h => List.mem_cons_of_mem _ (ziX4 w h)) hown hK hP (zV_m (by decide)) rfl rfl 12 (by decide) (List.mem_cons_of_mem _ m_1153) rfl rfl dX4_outputByte_3 ?_
  refine lv_iconst (v := 1) hx hb dX4_outputByte_6 (by decide) ?_
  refine lv_isub hx hb dX4_outputByte_7 ?_
  obtain ⟨v2, T1, h3, hf⟩ := zb_i hf
  refine z_ok (z_runS (As := [.int p0, .int 0, .int ((T.1 0 0 12) - 1)]) (rest := []) F k_X4_in m_1238 (c_X4_in p0 0 ((T.1 0 0 12) - 1) T T1 _ h3) hP hS rfl rfl hl.1 (Nat.le_of_ble_eq_true rfl) dX4_outputByte_8 (Nat.le_of_ble_eq_true rfl) ⟨Nat.le_of_ble_eq_true rfl, Nat.le_of_ble_eq_true rfl⟩ rfl) hS (fun H locs hP hS => ?_)
  refine lv_if_ne (tgt := 20) hx hb dX4_outputByte_11 (by decide) (fun hc => ?_) (fun hc => ?_)
  · have hf := zif_n hf hc
    refine lv_aload_n hx hb dX4_outputByte_20 rfl (lv_at hl 0 rfl) ?_
    refine lv_aload_n hx hb dX4_outputByte_21 rfl (lv_at hl 0 rfl) ?_
    refine z_get hx hb hts (fun w h => List.mem_cons_of_mem _ (ziX4 w h)) hown hK hP (zV_m (by decide)) rfl rfl 11 (by decide) (List.mem_cons_of_mem _ m_1152) rfl rfl dX4_outputByte_22 ?_
    refine lv_iload_n hx hb dX4_outputByte_25 rfl (lv_at hl 1 rfl) ?_
    obtain ⟨h4, hf⟩ := zif_c hf
    refine z_bald hx hb hK hP (zV_m (by decide)) rfl (zin_i h4) dX4_outputByte_26 ?_
    obtain ⟨v6, T5, h7, hf⟩ := zb_i hf
    refine z_ok (z_runV (As := [.int (T1.2 8 0 p0.toNatClampNeg)]) (rest := []) F k_X4_told m_1230 (c_X4_told (T1.2 8 0 p0.toNatClampNeg) T1 T5 _ h7) hP hS (zV_m (by decide)) rfl rfl rfl rfl hl.1 (Nat.le_of_ble_eq_true rfl) dX4_outputByte_27 (Nat.le_of_ble_eq_true rfl) ⟨Nat.le_of_ble_eq_true rfl, Nat.le_of_ble_eq_true rfl⟩ rfl) hS (fun H locs hP hS => ?_)
    obtain ⟨q1, q2⟩ := zs_i hf
    subst q1; subst q2
    exact z_iret hx hb hr rfl hP hS hlocks (Nat.le_of_ble_eq_true rfl) (Nat.le_of_ble_eq_true rfl) dX4_outputByte_30
  · have hf := zif_p hf hc
    refine lv_aload_n hx hb dX4_outputByte_14 rfl (lv_at hl 0 rfl) ?_
    refine lv_iconst (v := 1) hx hb dX4_outputByte_15 (by decide) ?_
    obtain ⟨v9, T8, h10, hf⟩ := zb_i hf
    refine z_ok (z_runV (As := [.int 1]) (rest := []) F k_X4_refuse m_1222 (c_X4_refuse 1 T1 T8 _ h10) hP hS (zV_m (by decide)) rfl rfl rfl rfl hl.1 (Nat.le_of_ble_eq_true rfl) dX4_outputByte_16 (Nat.le_of_ble_eq_true rfl) ⟨Nat.le_of_ble_eq_true rfl, Nat.le_of_ble_eq_true rfl⟩ rfl) hS (fun H locs hP hS => ?_)
    obtain ⟨q1, q2⟩ := zs_i hf
    subst q1; subst q2
    exact z_iret hx hb hr rfl hP hS hlocks (Nat.le_of_ble_eq_true rfl) (Nat.le_of_ble_eq_true rfl) dX4_outputByte_19
