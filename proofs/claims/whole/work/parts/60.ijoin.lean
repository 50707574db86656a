/-! THE SECOND HALVES OF THE TWO CONSTRUCTORS, by program -/
theorem m_1087 : Cond.methodLink RX4 43 yX4_spellsKey ∈ zWS := zws_in 1087 (by decide +kernel) (by decide +kernel)
theorem m_264 : Cond.methodLink RX3 51 yJ0_length_8abf5 ∈ zWS := zws_in 264 (by decide +kernel) (by decide +kernel)
theorem m_274 : Cond.methodLink RX3 57 yJ0_charAt_5068e ∈ zWS := zws_in 274 (by decide +kernel) (by decide +kernel)
theorem k_X4_spellsKey : zcal yX4_spellsKey cX4_spellsKey 3 none 1 := ⟨zws_in 1089 (by decide +kernel) (by decide +kernel), zws_in 34 (by decide +kernel) (by decide +kernel), zws_in 94 (by decide +kernel) (by decide +kernel), zws_in 1090 (by decide +kernel) (by decide +kernel), ⟨by decide +kernel, by decide +kernel⟩, by decide +kernel, by decide⟩
def lp_X3_init_108  : Nat → Int32 → zT → Option ((Int32) × zT)
  | 0, _, _ => none
  | n + 1, u1, T => (if (nI (zbytes 0).length) ≤ u1 then some (u1, T) else if zin u1 (zbytes 0).length = true then zb (f_X1_addByte ((zbytes 0).getD u1.toNatClampNeg 0) T) fun _v3 T2 => zl (u1 + 1) fun x5 => lp_X3_init_108 n x5 T2 else none)
def jn_X3_init_106  (T : zT) : Option (Unit × zT) := zb (lp_X3_init_108 2000 0 T) fun v7 T6 => zb (f_X1_parse (T6.1 0 1 1) T6) fun _v10 T9 => zb (f_X1_emptyBuffer T9) fun _v13 T12 => zb (f_X2_copyFrom 0 2 T12) fun _v16 T15 => some ((), T15)
set_option maxHeartbeats 4000000 in
set_option maxRecDepth 100000 in
theorem l_X3_init_108 {p : Program} {l : Launch} {e : Env} {s : State} {m : MethodId} {args : Array Value} {below : List Frame} {meth : Method} {c : Code} {Q : State → Prop} {D : va_G} {Y : Nat → ClassId} {S V : Nat → Nat} {G : Nat → Nat → Nat} {A : Nat → Prop} {c0 : Cond} {mc ms cells slots : Nat} (F : zF 0 8 mc ms p l s m args c cX3_init 2 RX3 c0 D Y S V G A) (hcs : cells ≤ mc ∧ slots ≤ ms) :
    ∀ (n : Nat) (u1 : Int32) (T : zT) (o : (Int32) × zT) (H : Heap) (locs : List Loc) (ls : Array Slot), lp_X3_init_108 n u1 T = some o → zP 0 D Y G T H → va_S A s.heap H locs → lv_has ls 2 [(0, .ref (G 0 0)), (1, .int u1)] → (∀ (H : Heap) (locs : List Loc) (ls : Array Slot), zP 0 D Y G o.2 H → va_S A s.heap H locs → lv_has ls 2 [(0, .ref (G 0 0)), (1, .int o.1)] → W p l e (zR 8 mc ms) s m args below meth c H locs cells slots Q (F0 m 136 ls [])) → W p l e (zR 8 mc ms) s m args below meth c H locs cells slots Q (F0 m 108 ls []) := by
  obtain ⟨hx, hb, hml, hown, hts, hl9, hG, hK, hA⟩ := id F
  intro n
  induction n with
  | zero =>
    intro u1 T o H locs ls hf
    rw [lp_X3_init_108] at hf
    cases hf
  | succ n ih =>
    intro u1 T o H locs ls hf hP hS hl k0_
    rw [lp_X3_init_108] at hf
    refine lv_iload_n hx hb dX3_init_108 rfl (lv_at hl 1 rfl) ?_
    refine va_ldcS hx hb hown (hK.2.2.1 0 _ rfl) dX3_init_109 ?_
    refine z_slen F m_264 hP hS (by decide) hl.1 (Nat.le_of_ble_eq_true rfl) (Nat.le_of_ble_eq_true rfl) ⟨hcs.1, hcs.2⟩ dX3_init_111 (fun H locs hP hS => ?_)
    refine lv_icmp_ge (tgt := 136) hx hb dX3_init_114 (by decide) (fun hc => ?_) (fun hc => ?_)
    · have hf := zif_p hf hc
      cases hf
      exact k0_ _ _ _ hP hS (lv_sub hl [0, 1] rfl)
    · have hf := zif_n hf hc
      refine lv_aload_n hx hb dX3_init_117 rfl (lv_at hl 0 rfl) ?_
      refine z_get hx hb hts (fun w h => List.mem_cons_of_mem _ (ziX3 w h)) hown hK hP (zV_0 (by decide)) rfl rfl 6 (by decide) (List.mem_cons_of_mem _ m_502) rfl rfl dX3_init_118 ?_
      refine va_ldcS hx hb hown (hK.2.2.1 0 _ rfl) dX3_init_121 ?_
      refine lv_iload_n hx hb dX3_init_123 rfl (lv_at hl 1 rfl) ?_
      obtain ⟨h1, hf⟩ := zif_c hf
      refine z_schar F m_274 hP hS (by decide) (zin_i h1) hl.1 (Nat.le_of_ble_eq_true rfl) (Nat.le_of_ble_eq_true rfl) ⟨hcs.1, hcs.2⟩ dX3_init_124 (fun H locs hP hS => ?_)
      obtain ⟨v3, T2, h4, hf⟩ := zb_i hf
      refine z_ok (z_runV (As := [.int ((zbytes 0).getD u1.toNatClampNeg 0)]) (rest := []) F k_X1_addByte m_312 (c_X1_addByte ((zbytes 0).getD u1.toNatClampNeg 0) T T2 _ h4) hP hS (zV_0 (by decide)) rfl rfl rfl rfl hl.1 (Nat.le_of_ble_eq_true rfl) dX3_init_127 (Nat.le_of_ble_eq_true rfl) ⟨hcs.1, hcs.2⟩ rfl) hS (fun H locs hP hS => ?_)
      obtain ⟨x5, ex5, hf⟩ := zl_i hf
      refine lv_iinc (v := x5) (lv' := [(1, .int x5), (0, .ref (G 0 0))]) hx hb dX3_init_130 hl (k := 1) rfl (by rw [ex5]; rfl) (by decide) rfl (fun ls hl => ?_)
      refine lv_goto (tgt := 108) hx hb dX3_init_133 (by decide) ?_
      exact ih x5 _ _ _ _ _ hf hP hS (lv_sub hl [1, 0] rfl) k0_
set_option maxHeartbeats 4000000 in
set_option maxRecDepth 100000 in
theorem j_X3_init_106 {p : Program} {l : Launch} {e : Env} {s : State} {m : MethodId} {args : Array Value} {below : List Frame} {meth : Method} {c : Code} {D : va_G} {Y : Nat → ClassId} {S V : Nat → Nat} {G : Nat → Nat → Nat} {A : Nat → Prop} {c0 : Cond} (F : zF 0 8  172 2308  p l s m args c cX3_init 2 RX3 c0 D Y S V G A) (hr : meth.sig.returnType = none) (hlocks : meth.locks = false) (hex : ∀ x ∈ c.exceptionTable.toList, False) (T : zT) {T' : zT} {v : Unit} {H : Heap} {locs : List Loc} {ls : Array Slot} (hf : jn_X3_init_106 T = some (v, T')) (hP : zP 0 D Y G T H) (hS : va_S A s.heap H locs) (hl : lv_has ls 2 [(0, .ref (G 0 0))]) :
    W p l e (zR 8  172 2308 ) s m args below meth c H locs 172 2308 (vx_MQ below (zQ 0 D Y G A (.inl none) T') (zX 0 D Y G A (.inl none) T') args s  172 2308  A) (F0 m 106 ls []) := by
  obtain ⟨hx, hb, hml, hown, hts, hl9, hG, hK, hA⟩ := id F
  unfold jn_X3_init_106 at hf
  refine lv_iconst (v := 0) hx hb dX3_init_106 (by decide) ?_
  refine lv_istore_n (lv' := [(1, .int 0), (0, .ref (G 0 0))]) hx hb dX3_init_107 rfl hl (by decide) rfl (fun ls hl => ?_)
  obtain ⟨v7, T6, h8, hf⟩ := zb_i hf
  refine l_X3_init_108 F ⟨Nat.le_of_ble_eq_true rfl, Nat.le_of_ble_eq_true rfl⟩  2000 0 _ _ _ _ _ h8 hP hS (lv_sub hl [1, 0] rfl) (fun H locs ls hP hS hl => ?_)
  refine lv_aload_n hx hb dX3_init_136 rfl (lv_at hl 0 rfl) ?_
  refine z_get hx hb hts (fun w h => List.mem_cons_of_mem _ (ziX3 w h)) hown hK hP (zV_0 (by decide)) rfl rfl 6 (by decide) (List.mem_cons_of_mem _ m_502) rfl rfl dX3_init_137 ?_
  refine lv_aload_n hx hb dX3_init_140 rfl (lv_at hl 0 rfl) ?_
  refine z_get hx hb hts (fun w h => List.mem_cons_of_mem _ (ziX3 w h)) hown hK hP (zV_0 (by decide)) rfl rfl 6 (by decide) (List.mem_cons_of_mem _ m_502) rfl rfl dX3_init_141 ?_
  refine z_get hx hb hts (fun w h => List.mem_cons_of_mem _ (ziX1 w h)) hown hK hP (zV_0 (by decide)) rfl rfl 1 (by decide) (List.mem_cons_of_mem _ m_213) rfl rfl dX3_init_144 ?_
  obtain ⟨v10, T9, h11, hf⟩ := zb_i hf
  refine z_ok (z_runV (As := [.int (T6.1 0 1 1)]) (rest := []) F k_X1_parse m_316 (c_X1_parse (T6.1 0 1 1) T6 T9 _ h11) hP hS (zV_0 (by decide)) rfl rfl rfl rfl hl.1 (Nat.le_of_ble_eq_true rfl) dX3_init_147 (Nat.le_of_ble_eq_true rfl) ⟨Nat.le_of_ble_eq_true rfl, Nat.le_of_ble_eq_true rfl⟩ rfl) hS (fun H locs hP hS => ?_)
  refine lv_aload_n hx hb dX3_init_150 rfl (lv_at hl 0 rfl) ?_
  refine z_get hx hb hts (fun w h => List.mem_cons_of_mem _ (ziX3 w h)) hown hK hP (zV_0 (by decide)) rfl rfl 6 (by decide) (List.mem_cons_of_mem _ m_502) rfl rfl dX3_init_151 ?_
  obtain ⟨v13, T12, h14, hf⟩ := zb_i hf
  refine z_ok (z_runV (As := []) (rest := []) F k_X1_emptyBuffer m_481 (c_X1_emptyBuffer T9 T12 _ h14) hP hS (zV_0 (by decide)) rfl rfl rfl rfl hl.1 (Nat.le_of_ble_eq_true rfl) dX3_init_154 (Nat.le_of_ble_eq_true rfl) ⟨Nat.le_of_ble_eq_true rfl, Nat.le_of_ble_eq_true rfl⟩ rfl) hS (fun H locs hP hS => ?_)
  refine lv_aload_n hx hb dX3_init_157 rfl (lv_at hl 0 rfl) ?_
  refine z_get hx hb hts (fun w h => List.mem_cons_of_mem _ (ziX3 w h)) hown hK hP (zV_0 (by decide)) rfl rfl 4 (by decide) (List.mem_cons_of_mem _ m_500) rfl rfl dX3_init_158 ?_
  refine lv_aload_n hx hb dX3_init_161 rfl (lv_at hl 0 rfl) ?_
  refine z_get hx hb hts (fun w h => List.mem_cons_of_mem _ (ziX3 w h)) hown hK hP (zV_0 (by decide)) rfl rfl 6 (by decide) (List.mem_cons_of_mem _ m_502) rfl rfl dX3_init_162 ?_
  refine z_get hx hb hts (fun w h => List.mem_cons_of_mem _ (ziX1 w h)) hown hK hP (zV_0 (by decide)) rfl rfl 0 (by decide) (List.mem_cons_of_mem _ m_212) rfl rfl dX3_init_165 ?_
  obtain ⟨v16, T15, h17, hf⟩ := zb_i hf
  refine z_ok (z_runV (As := [.ref (G 1 2)]) (rest := []) F k_X2_copyFrom m_485 (c_X2_copyFrom 0 (by decide) 2 (by decide) T12 T15 _ h17) hP hS (zV_r (by decide) (by decide) (by decide)) rfl rfl rfl rfl hl.1 (Nat.le_of_ble_eq_true rfl) dX3_init_168 (Nat.le_of_ble_eq_true rfl) ⟨Nat.le_of_ble_eq_true rfl, Nat.le_of_ble_eq_true rfl⟩ rfl) hS (fun H locs hP hS => ?_)
  obtain ⟨q1, q2⟩ := zs_i hf
  subst q1; subst q2
  exact z_vret hx hb hr rfl hP hS hlocks (Nat.le_of_ble_eq_true rfl) (Nat.le_of_ble_eq_true rfl) dX3_init_171

def jn_X4_init_517  (T : zT) : Option (Unit × zT) := zl (wI T 0 0 14 (-1)) fun T1 => zl (wA T1 2 0 (upd (T1.2 2 0) 2 7)) fun T3 => zl (wA T3 2 0 (upd (T3.2 2 0) 3 12)) fun T5 => zl (wA T5 2 0 (upd (T5.2 2 0) 6 12)) fun T7 => zb (f_X4_plants 4 T7) fun _v9 T8 => zb (f_X4_plants 2 T8) fun _v12 T11 => zb (f_X4_spellsKey 7 T11) fun _v15 T14 => zb (f_X4_comes 2 3 4 0 T14) fun _v18 T17 => zb (f_X4_spellsKey 8 T17) fun _v21 T20 => zb (f_X4_comes 2 9 1 0 T20) fun _v24 T23 => zb (f_X4_spellsKey 9 T23) fun _v27 T26 => zb (f_X4_comes 5 2 6 1 T26) fun _v30 T29 => zl (wA T29 2 0 (upd (T29.2 2 0) 13 1)) fun T33 => zl (wA T33 2 0 (upd (T33.2 2 0) 14 2)) fun T35 => zb (f_X4_c 0 T35) fun v37 T36 => if zin (v37 + 4) 151 = true then zl (wA T36 2 0 (upd (T36.2 2 0) (v37 + 4).toNatClampNeg 4)) fun T40 => zb (f_X4_tries 1 T40) fun v42 T41 => zb (f_X4_takesDraw 1 v42 T41) fun _v45 T44 => zb (f_X4_c 2 T44) fun v48 T47 => if zin (v48 + 4) 151 = true then zl (wA T47 2 0 (upd (T47.2 2 0) (v48 + 4).toNatClampNeg 4)) fun T51 => zb (f_X4_passes 4 T51) fun v53 T52 => some ((), T52) else none else none
set_option maxHeartbeats 4000000 in
set_option maxRecDepth 100000 in
theorem j_X4_init_517 {p : Program} {l : Launch} {e : Env} {s : State} {m : MethodId} {args : Array Value} {below : List Frame} {meth : Method} {c : Code} {D : va_G} {Y : Nat → ClassId} {S V : Nat → Nat} {G : Nat → Nat → Nat} {A : Nat → Prop} {c0 : Cond} (F : zF 1 6  8 2840  p l s m args c cX4_init 2 RX4 c0 D Y S V G A) (hr : meth.sig.returnType = none) (hlocks : meth.locks = false) (hex : ∀ x ∈ c.exceptionTable.toList, False) (T : zT) {T' : zT} {v : Unit} {H : Heap} {locs : List Loc} {ls : Array Slot} (hf : jn_X4_init_517 T = some (v, T')) (hP : zP 1 D Y G T H) (hS : va_S A s.heap H locs) (hl : lv_has ls 2 [(0, .ref (G 0 0))]) :
    W p l e (zR 6  8 2840 ) s m args below meth c H locs 8 2840 (vx_MQ below (zQ 1 D Y G A (.inl none) T') (zX 1 D Y G A (.inl none) T') args s  8 2840  A) (F0 m 517 ls []) := by
  obtain ⟨hx, hb, hml, hown, hts, hl9, hG, hK, hA⟩ := id F
  unfold jn_X4_init_517 at hf
  refine lv_aload_n hx hb dX4_init_517 rfl (lv_at hl 0 rfl) ?_
  refine lv_iconst (v := (-1)) hx hb dX4_init_518 (by decide) ?_
  obtain ⟨T1, eT1, hf⟩ := zl_i hf
  refine z_put hx hb hts (fun w h => List.mem_cons_of_mem _ (ziX4 w h)) tyX4 tyX4_ok nmX4 hown hK hP hG hS (zV_m (by decide)) rfl rfl 14 (by decide) (List.mem_cons_of_mem _ m_1155) rfl rfl (by decide +kernel) (Nat.le_of_ble_eq_true rfl) rfl dX4_init_519 (fun H locs hP hS => ?_)
  rw [← eT1] at hP
  refine lv_aload_n hx hb dX4_init_522 rfl (lv_at hl 0 rfl) ?_
  refine z_get hx hb hts (fun w h => List.mem_cons_of_mem _ (ziX4 w h)) hown hK hP (zV_m (by decide)) rfl rfl 2 (by decide) (List.mem_cons_of_mem _ m_1143) rfl rfl dX4_init_523 ?_
  refine lv_iconst (v := 2) hx hb dX4_init_526 (by decide) ?_
  refine lv_bipush (v := 7) hx hb dX4_init_527 (by decide) ?_
  obtain ⟨T3, eT3, hf⟩ := zl_i hf
  refine z_iast_ (j := 2) hx hb hK hP hG hS (zIA_m (by decide) (by decide)) (by decide) (by decide) dX4_init_529 (fun H locs hP hS => ?_)
  rw [← eT3] at hP
  refine lv_aload_n hx hb dX4_init_530 rfl (lv_at hl 0 rfl) ?_
  refine z_get hx hb hts (fun w h => List.mem_cons_of_mem _ (ziX4 w h)) hown hK hP (zV_m (by decide)) rfl rfl 2 (by decide) (List.mem_cons_of_mem _ m_1143) rfl rfl dX4_init_531 ?_
  refine lv_iconst (v := 3) hx hb dX4_init_534 (by decide) ?_
  refine lv_bipush (v := 12) hx hb dX4_init_535 (by decide) ?_
  obtain ⟨T5, eT5, hf⟩ := zl_i hf
  refine z_iast_ (j := 3) hx hb hK hP hG hS (zIA_m (by decide) (by decide)) (by decide) (by decide) dX4_init_537 (fun H locs hP hS => ?_)
  rw [← eT5] at hP
  refine lv_aload_n hx hb dX4_init_538 rfl (lv_at hl 0 rfl) ?_
  refine z_get hx hb hts (fun w h => List.mem_cons_of_mem _ (ziX4 w h)) hown hK hP (zV_m (by decide)) rfl rfl 2 (by decide) (List.mem_cons_of_mem _ m_1143) rfl rfl dX4_init_539 ?_
  refine lv_bipush (v := 6) hx hb dX4_init_542 (by decide) ?_
  refine lv_bipush (v := 12) hx hb dX4_init_544 (by decide) ?_
  obtain ⟨T7, eT7, hf⟩ := zl_i hf
  refine z_iast_ (j := 6) hx hb hK hP hG hS (zIA_m (by decide) (by decide)) (by decide) (by decide) dX4_init_546 (fun H locs hP hS => ?_)
  rw [← eT7] at hP
  refine lv_aload_n hx hb dX4_init_547 rfl (lv_at hl 0 rfl) ?_
  refine lv_iconst (v := 4) hx hb dX4_init_548 (by decide) ?_
  obtain ⟨v9, T8, h10, hf⟩ := zb_i hf
  refine z_ok (z_runV (As := [.int 4]) (rest := []) F k_X4_plants m_1083 (c_X4_plants 4 T7 T8 _ h10) hP hS (zV_m (by decide)) rfl rfl rfl rfl hl.1 (Nat.le_of_ble_eq_true rfl) dX4_init_549 (Nat.le_of_ble_eq_true rfl) ⟨Nat.le_of_ble_eq_true rfl, Nat.le_of_ble_eq_true rfl⟩ rfl) hS (fun H locs hP hS => ?_)
  refine lv_aload_n hx hb dX4_init_552 rfl (lv_at hl 0 rfl) ?_
  refine lv_iconst (v := 2) hx hb dX4_init_553 (by decide) ?_
  obtain ⟨v12, T11, h13, hf⟩ := zb_i hf
  refine z_ok (z_runV (As := [.int 2]) (rest := []) F k_X4_plants m_1083 (c_X4_plants 2 T8 T11 _ h13) hP hS (zV_m (by decide)) rfl rfl rfl rfl hl.1 (Nat.le_of_ble_eq_true rfl) dX4_init_554 (Nat.le_of_ble_eq_true rfl) ⟨Nat.le_of_ble_eq_true rfl, Nat.le_of_ble_eq_true rfl⟩ rfl) hS (fun H locs hP hS => ?_)
  refine lv_aload_n hx hb dX4_init_557 rfl (lv_at hl 0 rfl) ?_
  refine lv_bipush (v := 7) hx hb dX4_init_558 (by decide) ?_
  obtain ⟨v15, T14, h16, hf⟩ := zb_i hf
  refine z_ok (z_runV (As := [.int 7]) (rest := []) F k_X4_spellsKey m_1087 (c_X4_spellsKey 7 T11 T14 _ h16) hP hS (zV_m (by decide)) rfl rfl rfl rfl hl.1 (Nat.le_of_ble_eq_true rfl) dX4_init_560 (Nat.le_of_ble_eq_true rfl) ⟨Nat.le_of_ble_eq_true rfl, Nat.le_of_ble_eq_true rfl⟩ rfl) hS (fun H locs hP hS => ?_)
  refine lv_aload_n hx hb dX4_init_563 rfl (lv_at hl 0 rfl) ?_
  refine lv_iconst (v := 2) hx hb dX4_init_564 (by decide) ?_
  refine lv_iconst (v := 3) hx hb dX4_init_565 (by decide) ?_
  refine lv_iconst (v := 4) hx hb dX4_init_566 (by decide) ?_
  refine lv_iconst (v := 0) hx hb dX4_init_567 (by decide) ?_
  obtain ⟨v18, T17, h19, hf⟩ := zb_i hf
  refine z_ok (z_runV (As := [.int 2, .int 3, .int 4, .int 0]) (rest := []) F k_X4_comes m_1091 (c_X4_comes 2 3 4 0 T14 T17 _ h19) hP hS (zV_m (by decide)) rfl rfl rfl rfl hl.1 (Nat.le_of_ble_eq_true rfl) dX4_init_568 (Nat.le_of_ble_eq_true rfl) ⟨Nat.le_of_ble_eq_true rfl, Nat.le_of_ble_eq_true rfl⟩ rfl) hS (fun H locs hP hS => ?_)
  refine lv_aload_n hx hb dX4_init_571 rfl (lv_at hl 0 rfl) ?_
  refine lv_bipush (v := 8) hx hb dX4_init_572 (by decide) ?_
  obtain ⟨v21, T20, h22, hf⟩ := zb_i hf
  refine z_ok (z_runV (As := [.int 8]) (rest := []) F k_X4_spellsKey m_1087 (c_X4_spellsKey 8 T17 T20 _ h22) hP hS (zV_m (by decide)) rfl rfl rfl rfl hl.1 (Nat.le_of_ble_eq_true rfl) dX4_init_574 (Nat.le_of_ble_eq_true rfl) ⟨Nat.le_of_ble_eq_true rfl, Nat.le_of_ble_eq_true rfl⟩ rfl) hS (fun H locs hP hS => ?_)
  refine lv_aload_n hx hb dX4_init_577 rfl (lv_at hl 0 rfl) ?_
  refine lv_iconst (v := 2) hx hb dX4_init_578 (by decide) ?_
  refine lv_bipush (v := 9) hx hb dX4_init_579 (by decide) ?_
  refine lv_iconst (v := 1) hx hb dX4_init_581 (by decide) ?_
  refine lv_iconst (v := 0) hx hb dX4_init_582 (by decide) ?_
  obtain ⟨v24, T23, h25, hf⟩ := zb_i hf
  refine z_ok (z_runV (As := [.int 2, .int 9, .int 1, .int 0]) (rest := []) F k_X4_comes m_1091 (c_X4_comes 2 9 1 0 T20 T23 _ h25) hP hS (zV_m (by decide)) rfl rfl rfl rfl hl.1 (Nat.le_of_ble_eq_true rfl) dX4_init_583 (Nat.le_of_ble_eq_true rfl) ⟨Nat.le_of_ble_eq_true rfl, Nat.le_of_ble_eq_true rfl⟩ rfl) hS (fun H locs hP hS => ?_)
  refine lv_aload_n hx hb dX4_init_586 rfl (lv_at hl 0 rfl) ?_
  refine lv_bipush (v := 9) hx hb dX4_init_587 (by decide) ?_
  obtain ⟨v27, T26, h28, hf⟩ := zb_i hf
  refine z_ok (z_runV (As := [.int 9]) (rest := []) F k_X4_spellsKey m_1087 (c_X4_spellsKey 9 T23 T26 _ h28) hP hS (zV_m (by decide)) rfl rfl rfl rfl hl.1 (Nat.le_of_ble_eq_true rfl) dX4_init_589 (Nat.le_of_ble_eq_true rfl) ⟨Nat.le_of_ble_eq_true rfl, Nat.le_of_ble_eq_true rfl⟩ rfl) hS (fun H locs hP hS => ?_)
  refine lv_aload_n hx hb dX4_init_592 rfl (lv_at hl 0 rfl) ?_
  refine lv_iconst (v := 5) hx hb dX4_init_593 (by decide) ?_
  refine lv_iconst (v := 2) hx hb dX4_init_594 (by decide) ?_
  refine lv_bipush (v := 6) hx hb dX4_init_595 (by decide) ?_
  refine lv_iconst (v := 1) hx hb dX4_init_597 (by decide) ?_
  obtain ⟨v30, T29, h31, hf⟩ := zb_i hf
  refine z_ok (z_runV (As := [.int 5, .int 2, .int 6, .int 1]) (rest := []) F k_X4_comes m_1091 (c_X4_comes 5 2 6 1 T26 T29 _ h31) hP hS (zV_m (by decide)) rfl rfl rfl rfl hl.1 (Nat.le_of_ble_eq_true rfl) dX4_init_598 (Nat.le_of_ble_eq_true rfl) ⟨Nat.le_of_ble_eq_true rfl, Nat.le_of_ble_eq_true rfl⟩ rfl) hS (fun H locs hP hS => ?_)
  refine lv_aload_n hx hb dX4_init_601 rfl (lv_at hl 0 rfl) ?_
  refine z_get hx hb hts (fun w h => List.mem_cons_of_mem _ (ziX4 w h)) hown hK hP (zV_m (by decide)) rfl rfl 2 (by decide) (List.mem_cons_of_mem _ m_1143) rfl rfl dX4_init_602 ?_
  refine lv_bipush (v := 13) hx hb dX4_init_605 (by decide) ?_
  refine lv_iconst (v := 1) hx hb dX4_init_607 (by decide) ?_
  obtain ⟨T33, eT33, hf⟩ := zl_i hf
  refine z_iast_ (j := 13) hx hb hK hP hG hS (zIA_m (by decide) (by decide)) (by decide) (by decide) dX4_init_608 (fun H locs hP hS => ?_)
  rw [← eT33] at hP
  refine lv_aload_n hx hb dX4_init_609 rfl (lv_at hl 0 rfl) ?_
  refine z_get hx hb hts (fun w h => List.mem_cons_of_mem _ (ziX4 w h)) hown hK hP (zV_m (by decide)) rfl rfl 2 (by decide) (List.mem_cons_of_mem _ m_1143) rfl rfl dX4_init_610 ?_
  refine lv_bipush (v := 14) hx hb dX4_init_613 (by decide) ?_
  refine lv_iconst (v := 2) hx hb dX4_init_615 (by decide) ?_
  obtain ⟨T35, eT35, hf⟩ := zl_i hf
  refine z_iast_ (j := 14) hx hb hK hP hG hS (zIA_m (by decide) (by decide)) (by decide) (by decide) dX4_init_616 (fun H locs hP hS => ?_)
  rw [← eT35] at hP
  refine lv_aload_n hx hb dX4_init_617 rfl (lv_at hl 0 rfl) ?_
  refine z_get hx hb hts (fun w h => List.mem_cons_of_mem _ (ziX4 w h)) hown hK hP (zV_m (by decide)) rfl rfl 2 (by decide) (List.mem_cons_of_mem _ m_1143) rfl rfl dX4_init_618 ?_
  refine lv_iconst (v := 0) hx hb dX4_init_621 (by decide) ?_
  obtain ⟨v37, T36, h38, hf⟩ := zb_i hf
  refine z_ok (z_runS (As := [.int 0]) (rest := [.ref (G 2 0)]) F k_X4_c m_1095 (c_X4_c 0 T35 T36 _ h38) hP hS rfl rfl hl.1 (Nat.le_of_ble_eq_true rfl) dX4_init_622 (Nat.le_of_ble_eq_true rfl) ⟨Nat.le_of_ble_eq_true rfl, Nat.le_of_ble_eq_true rfl⟩ rfl) hS (fun H locs hP hS => ?_)
  refine lv_iconst (v := 4) hx hb dX4_init_625 (by decide) ?_
  refine lv_iadd hx hb dX4_init_626 ?_
  refine lv_iconst (v := 4) hx hb dX4_init_627 (by decide) ?_
  obtain ⟨h39, hf⟩ := zif_c hf
  obtain ⟨T40, eT40, hf⟩ := zl_i hf
  refine z_iast hx hb hK hP hG hS (zIA_m (by decide) (by decide)) (zin_i h39) dX4_init_628 (fun H locs hP hS => ?_)
  rw [← eT40] at hP
  refine lv_aload_n hx hb dX4_init_629 rfl (lv_at hl 0 rfl) ?_
  refine lv_iconst (v := 1) hx hb dX4_init_630 (by decide) ?_
  refine lv_aload_n hx hb dX4_init_631 rfl (lv_at hl 0 rfl) ?_
  refine lv_iconst (v := 1) hx hb dX4_init_632 (by decide) ?_
  obtain ⟨v42, T41, h43, hf⟩ := zb_i hf
  refine z_ok (z_runV (As := [.int 1]) (rest := [.int 1, .ref (G 0 0)]) F k_X4_tries m_1098 (c_X4_tries 1 T40 T41 _ h43) hP hS (zV_m (by decide)) rfl rfl rfl rfl hl.1 (Nat.le_of_ble_eq_true rfl) dX4_init_633 (Nat.le_of_ble_eq_true rfl) ⟨Nat.le_of_ble_eq_true rfl, Nat.le_of_ble_eq_true rfl⟩ rfl) hS (fun H locs hP hS => ?_)
  obtain ⟨v45, T44, h46, hf⟩ := zb_i hf
  refine z_ok (z_runV (As := [.int 1, .int v42]) (rest := []) F k_X4_takesDraw m_1117 (c_X4_takesDraw 1 v42 T41 T44 _ h46) hP hS (zV_m (by decide)) rfl rfl rfl rfl hl.1 (Nat.le_of_ble_eq_true rfl) dX4_init_636 (Nat.le_of_ble_eq_true rfl) ⟨Nat.le_of_ble_eq_true rfl, Nat.le_of_ble_eq_true rfl⟩ rfl) hS (fun H locs hP hS => ?_)
  refine lv_aload_n hx hb dX4_init_639 rfl (lv_at hl 0 rfl) ?_
  refine z_get hx hb hts (fun w h => List.mem_cons_of_mem _ (ziX4 w h)) hown hK hP (zV_m (by decide)) rfl rfl 2 (by decide) (List.mem_cons_of_mem _ m_1143) rfl rfl dX4_init_640 ?_
  refine lv_iconst (v := 2) hx hb dX4_init_643 (by decide) ?_
  obtain ⟨v48, T47, h49, hf⟩ := zb_i hf
  refine z_ok (z_runS (As := [.int 2]) (rest := [.ref (G 2 0)]) F k_X4_c m_1095 (c_X4_c 2 T44 T47 _ h49) hP hS rfl rfl hl.1 (Nat.le_of_ble_eq_true rfl) dX4_init_644 (Nat.le_of_ble_eq_true rfl) ⟨Nat.le_of_ble_eq_true rfl, Nat.le_of_ble_eq_true rfl⟩ rfl) hS (fun H locs hP hS => ?_)
  refine lv_iconst (v := 4) hx hb dX4_init_647 (by decide) ?_
  refine lv_iadd hx hb dX4_init_648 ?_
  refine lv_iconst (v := 4) hx hb dX4_init_649 (by decide) ?_
  obtain ⟨h50, hf⟩ := zif_c hf
  obtain ⟨T51, eT51, hf⟩ := zl_i hf
  refine z_iast hx hb hK hP hG hS (zIA_m (by decide) (by decide)) (zin_i h50) dX4_init_650 (fun H locs hP hS => ?_)
  rw [← eT51] at hP
  refine lv_aload_n hx hb dX4_init_651 rfl (lv_at hl 0 rfl) ?_
  refine lv_iconst (v := 4) hx hb dX4_init_652 (by decide) ?_
  obtain ⟨v53, T52, h54, hf⟩ := zb_i hf
  refine z_ok (z_runV (As := [.int 4]) (rest := []) F k_X4_passes m_1121 (c_X4_passes 4 T51 T52 _ h54) hP hS (zV_m (by decide)) rfl rfl rfl rfl hl.1 (Nat.le_of_ble_eq_true rfl) dX4_init_653 (Nat.le_of_ble_eq_true rfl) ⟨Nat.le_of_ble_eq_true rfl, Nat.le_of_ble_eq_true rfl⟩ rfl) hS (fun H locs hP hS => ?_)
  refine lv_istore_n (lv' := [(1, .int v53), (0, .ref (G 0 0))]) hx hb dX4_init_656 rfl hl (by decide) rfl (fun ls hl => ?_)
  obtain ⟨q1, q2⟩ := zs_i hf
  subst q1; subst q2
  exact z_vret hx hb hr rfl hP hS hlocks (Nat.le_of_ble_eq_true rfl) (Nat.le_of_ble_eq_true rfl) dX4_init_657
