/-! THE SECOND HALF OF THE CONSTRUCTOR, by program -/
theorem m_215 : Cond.methodLink RX3 51 yJ0_length_8abf5 ∈ zWS := zws_in 215 (by decide +kernel) (by decide +kernel)
theorem m_225 : Cond.methodLink RX3 57 yJ0_charAt_5068e ∈ zWS := zws_in 225 (by decide +kernel) (by decide +kernel)
def lp_X3_init_108  : Nat → Int32 → zT → Option ((Int32) × zT)
  | 0, _, _ => none
  | n + 1, u1, T => (if (nI (zbytes 0).length) ≤ u1 then some (u1, T) else if zin u1 (zbytes 0).length = true then zb (f_X1_addByte ((zbytes 0).getD u1.toNatClampNeg 0) T) fun _v3 T2 => zl (u1 + 1) fun x5 => lp_X3_init_108 n x5 T2 else none)
def jn_X3_init_106  (T : zT) : Option (Unit × zT) := zb (lp_X3_init_108 2000 0 T) fun v7 T6 => zb (f_X1_parse (T6.1 0 1 1) T6) fun _v10 T9 => zb (f_X1_emptyBuffer T9) fun _v13 T12 => zb (f_X2_copyFrom 0 2 T12) fun _v16 T15 => some ((), T15)
set_option maxHeartbeats 4000000 in
set_option maxRecDepth 100000 in
theorem l_X3_init_108 {p : Program} {l : Launch} {e : Env} {s : State} {m : MethodId} {args : Array Value} {below : List Frame} {meth : Method} {c : Code} {Q : State → Prop} {D : va_G} {Y : Nat → ClassId} {S V : Nat → Nat} {G : Nat → Nat → Nat} {A : Nat → Prop} {c0 : Cond} {mc ms cells slots : Nat} (F : zF 0 8 mc ms p l s m args c cX3_init 2 RX3 c0 D Y S V G A) (hcs : cells ≤ mc ∧ slots ≤ ms) :
    ∀ (n : Nat) (u1 : Int32) (T : zT) (o : (Int32) × zT) (H : Heap) (locs : List Loc) (ls : Array Slot), lp_X3_init_108 n u1 T = some o → zP 0 D Y G T H → va_S A s.heap H locs → lv_has ls 2 [(0, .ref (G 0 0)), (1, .int u1)] → (∀ (H : Heap) (locs : List Loc) (ls : Array Slot), zP 0 D Y G o.2 H → va_S A s.heap H locs → lv_has ls 2 [(0, .ref (G 0 0)), (1, .int o.1)] → W p l e (zR 8 mc ms) s m args below meth c H locs cells slots Q (F0 m 136 ls [])) → W p l e (zR 8 mc ms) s m args below meth c H locs cells slots Q (F0 m 108 ls []) := by
  obtain ⟨hx, hb, hml, hown, hts, hl9, hG, hK, hA⟩ := id F
  intro n
  induction n with
  | zero =>
    intro u1 T o H locs ls hf
    rw [lp_X3_init_108] at hf
    cases hf
  | succ n ih =>
    intro u1 T o H locs ls hf hP hS hl k0_
    rw [lp_X3_init_108] at hf
    refine lv_iload_n hx hb dX3_init_108 rfl (lv_at hl 1 rfl) ?_
    refine va_ldcS hx hb hown (hK.2.2.1 0 _ rfl) dX3_init_109 ?_
    refine z_slen F m_215 hP hS (by decide) hl.1 (Nat.le_of_ble_eq_true rfl) (Nat.le_of_ble_eq_true rfl) ⟨hcs.1, hcs.2⟩ dX3_init_111 (fun H locs hP hS => ?_)
    refine lv_icmp_ge (tgt := 136) hx hb dX3_init_114 (by decide) (fun hc => ?_) (fun hc => ?_)
    · have hf := zif_p hf hc
      cases hf
      exact k0_ _ _ _ hP hS (lv_sub hl [0, 1] rfl)
    · have hf := zif_n hf hc
      refine lv_aload_n hx hb dX3_init_117 rfl (lv_at hl 0 rfl) ?_
      refine z_get hx hb hts (fun w h => List.mem_cons_of_mem _ (ziX3 w h)) hown hK hP (zV_0 (by decide)) rfl rfl 6 (by decide) (List.mem_cons_of_mem _ m_452) rfl rfl dX3_init_118 ?_
      refine va_ldcS hx hb hown (hK.2.2.1 0 _ rfl) dX3_init_121 ?_
      refine lv_iload_n hx hb dX3_init_123 rfl (lv_at hl 1 rfl) ?_
      obtain ⟨h1, hf⟩ := zif_c hf
      refine z_schar F m_225 hP hS (by decide) (zin_i h1) hl.1 (Nat.le_of_ble_eq_true rfl) (Nat.le_of_ble_eq_true rfl) ⟨hcs.1, hcs.2⟩ dX3_init_124 (fun H locs hP hS => ?_)
      obtain ⟨v3, T2, h4, hf⟩ := zb_i hf
      refine z_ok (z_runV (As := [.int ((zbytes 0).getD u1.toNatClampNeg 0)]) (rest := []) F k_X1_addByte m_263 (c_X1_addByte ((zbytes 0).getD u1.toNatClampNeg 0) T T2 _ h4) hP hS (zV_0 (by decide)) rfl rfl rfl rfl hl.1 (Nat.le_of_ble_eq_true rfl) dX3_init_127 (Nat.le_of_ble_eq_true rfl) ⟨hcs.1, hcs.2⟩ rfl) hS (fun H locs hP hS => ?_)
      obtain ⟨x5, ex5, hf⟩ := zl_i hf
      refine lv_iinc (v := x5) (lv' := [(1, .int x5), (0, .ref (G 0 0))]) hx hb dX3_init_130 hl (k := 1) rfl (by rw [ex5]; rfl) (by decide) rfl (fun ls hl => ?_)
      refine lv_goto (tgt := 108) hx hb dX3_init_133 (by decide) ?_
      exact ih x5 _ _ _ _ _ hf hP hS (lv_sub hl [1, 0] rfl) k0_
set_option maxHeartbeats 4000000 in
set_option maxRecDepth 100000 in
theorem j_X3_init_106 {p : Program} {l : Launch} {e : Env} {s : State} {m : MethodId} {args : Array Value} {below : List Frame} {meth : Method} {c : Code} {D : va_G} {Y : Nat → ClassId} {S V : Nat → Nat} {G : Nat → Nat → Nat} {A : Nat → Prop} {c0 : Cond} (F : zF 0 8  172 2308  p l s m args c cX3_init 2 RX3 c0 D Y S V G A) (hr : meth.sig.returnType = none) (hlocks : meth.locks = false) (hex : ∀ x ∈ c.exceptionTable.toList, False) (T : zT) {T' : zT} {v : Unit} {H : Heap} {locs : List Loc} {ls : Array Slot} (hf : jn_X3_init_106 T = some (v, T')) (hP : zP 0 D Y G T H) (hS : va_S A s.heap H locs) (hl : lv_has ls 2 [(0, .ref (G 0 0))]) :
    W p l e (zR 8  172 2308 ) s m args below meth c H locs 172 2308 (vx_MQ below (zQ 0 D Y G A (.inl none) T') (zX 0 D Y G A (.inl none) T') args s  172 2308  A) (F0 m 106 ls []) := by
  obtain ⟨hx, hb, hml, hown, hts, hl9, hG, hK, hA⟩ := id F
  unfold jn_X3_init_106 at hf
  refine lv_iconst (v := 0) hx hb dX3_init_106 (by decide) ?_
  refine lv_istore_n (lv' := [(1, .int 0), (0, .ref (G 0 0))]) hx hb dX3_init_107 rfl hl (by decide) rfl (fun ls hl => ?_)
  obtain ⟨v7, T6, h8, hf⟩ := zb_i hf
  refine l_X3_init_108 F ⟨Nat.le_of_ble_eq_true rfl, Nat.le_of_ble_eq_true rfl⟩  2000 0 _ _ _ _ _ h8 hP hS (lv_sub hl [1, 0] rfl) (fun H locs ls hP hS hl => ?_)
  refine lv_aload_n hx hb dX3_init_136 rfl (lv_at hl 0 rfl) ?_
  refine z_get hx hb hts (fun w h => List.mem_cons_of_mem _ (ziX3 w h)) hown hK hP (zV_0 (by decide)) rfl rfl 6 (by decide) (List.mem_cons_of_mem _ m_452) rfl rfl dX3_init_137 ?_
  refine lv_aload_n hx hb dX3_init_140 rfl (lv_at hl 0 rfl) ?_
  refine z_get hx hb hts (fun w h => List.mem_cons_of_mem _ (ziX3 w h)) hown hK hP (zV_0 (by decide)) rfl rfl 6 (by decide) (List.mem_cons_of_mem _ m_452) rfl rfl dX3_init_141 ?_
  refine z_get hx hb hts (fun w h => List.mem_cons_of_mem _ (ziX1 w h)) hown hK hP (zV_0 (by decide)) rfl rfl 1 (by decide) (List.mem_cons_of_mem _ m_164) rfl rfl dX3_init_144 ?_
  obtain ⟨v10, T9, h11, hf⟩ := zb_i hf
  refine z_ok (z_runV (As := [.int (T6.1 0 1 1)]) (rest := []) F k_X1_parse m_267 (c_X1_parse (T6.1 0 1 1) T6 T9 _ h11) hP hS (zV_0 (by decide)) rfl rfl rfl rfl hl.1 (Nat.le_of_ble_eq_true rfl) dX3_init_147 (Nat.le_of_ble_eq_true rfl) ⟨Nat.le_of_ble_eq_true rfl, Nat.le_of_ble_eq_true rfl⟩ rfl) hS (fun H locs hP hS => ?_)
  refine lv_aload_n hx hb dX3_init_150 rfl (lv_at hl 0 rfl) ?_
  refine z_get hx hb hts (fun w h => List.mem_cons_of_mem _ (ziX3 w h)) hown hK hP (zV_0 (by decide)) rfl rfl 6 (by decide) (List.mem_cons_of_mem _ m_452) rfl rfl dX3_init_151 ?_
  obtain ⟨v13, T12, h14, hf⟩ := zb_i hf
  refine z_ok (z_runV (As := []) (rest := []) F k_X1_emptyBuffer m_432 (c_X1_emptyBuffer T9 T12 _ h14) hP hS (zV_0 (by decide)) rfl rfl rfl rfl hl.1 (Nat.le_of_ble_eq_true rfl) dX3_init_154 (Nat.le_of_ble_eq_true rfl) ⟨Nat.le_of_ble_eq_true rfl, Nat.le_of_ble_eq_true rfl⟩ rfl) hS (fun H locs hP hS => ?_)
  refine lv_aload_n hx hb dX3_init_157 rfl (lv_at hl 0 rfl) ?_
  refine z_get hx hb hts (fun w h => List.mem_cons_of_mem _ (ziX3 w h)) hown hK hP (zV_0 (by decide)) rfl rfl 4 (by decide) (List.mem_cons_of_mem _ m_450) rfl rfl dX3_init_158 ?_
  refine lv_aload_n hx hb dX3_init_161 rfl (lv_at hl 0 rfl) ?_
  refine z_get hx hb hts (fun w h => List.mem_cons_of_mem _ (ziX3 w h)) hown hK hP (zV_0 (by decide)) rfl rfl 6 (by decide) (List.mem_cons_of_mem _ m_452) rfl rfl dX3_init_162 ?_
  refine z_get hx hb hts (fun w h => List.mem_cons_of_mem _ (ziX1 w h)) hown hK hP (zV_0 (by decide)) rfl rfl 0 (by decide) (List.mem_cons_of_mem _ m_163) rfl rfl dX3_init_165 ?_
  obtain ⟨v16, T15, h17, hf⟩ := zb_i hf
  refine z_ok (z_runV (As := [.ref (G 1 2)]) (rest := []) F k_X2_copyFrom m_436 (c_X2_copyFrom 0 (by decide) 2 (by decide) T12 T15 _ h17) hP hS (zV_r (by decide) (by decide) (by decide)) rfl rfl rfl rfl hl.1 (Nat.le_of_ble_eq_true rfl) dX3_init_168 (Nat.le_of_ble_eq_true rfl) ⟨Nat.le_of_ble_eq_true rfl, Nat.le_of_ble_eq_true rfl⟩ rfl) hS (fun H locs hP hS => ?_)
  obtain ⟨q1, q2⟩ := zs_i hf
  subst q1; subst q2
  exact z_vret hx hb hr rfl hP hS hlocks (Nat.le_of_ble_eq_true rfl) (Nat.le_of_ble_eq_true rfl) dX3_init_171
