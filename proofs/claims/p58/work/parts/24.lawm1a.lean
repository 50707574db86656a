/-! THE LAW'S OWN METHODS, by program -/
def f_L_next (T : zT) : Option (Int32 × zT) := zl (wA T 0 8 (upd (T.2 0 8) 0 (((T.2 0 8 0) * 1103515245) + 12345))) fun T2 => zl (wA T2 0 8 (upd (T2.2 0 8) 0 ((T2.2 0 8 0) ^^^ (((T2.2 0 8 0).toUInt32 >>> ((15 : Int32).toUInt32 &&& Int32.toUInt32 31)).toInt32)))) fun T5 => some ((((T5.2 0 8 0).toUInt32 >>> ((9 : Int32).toUInt32 &&& Int32.toUInt32 31)).toInt32), T5)
set_option maxHeartbeats 8000000 in
set_option maxRecDepth 100000 in
theorem c_L_next (T T' : zT) (v : Int32) (hf : f_L_next T = some (v, T')) : zC 1 yL_next cL_next 1 (some .int) 0 0 0 (fun G _ => [.ref (G 0 8)]) T (fun _ => .inl (some (.int v))) T' := by
  intro l D Y S V G A hl9 hG
  refine vx_ofW (cc := cL_next) (maxL := 1) (ret := (some .int)) (by decide) rfl ?_
  intro p e s m args below meth c s₁ B hml hex hv
  obtain ⟨rfl, hK, hP, hA⟩ := hv
  have hx := B.exec
  have hb := B.bytes
  have hr := B.returns
  have hlocks := B.notSynchronized
  have hown : s.vm.findClass RL = some m.cls := findClass_of_methodNamed B.named
  have hts := atoms_spec (ws := Cond.code yL_next cL_next 1 (some .int) :: zWS) B.pre
  have F : zF 1 0 0 0 p l s m _ c cL_next 1 RL (Cond.code yL_next cL_next 1 (some .int)) D Y S V G A := ⟨hx, hb, hml, hown, hts, hl9, hG, hK, hA⟩
  have hS : va_S A s.heap s.heap [] := va_S.rf
  have hl := lv_entry ([.ref (G 0 8)]) (n := 1) (Nat.le_of_ble_eq_true rfl)
  rw [lg_entry_eq]
  generalize (lg_sl ([.ref (G 0 8)]) ++ List.replicate (1 - (lg_sl ([.ref (G 0 8)])).length) Slot.unset).toArray = ls at hl ⊢
  have hl : lv_has ls 1 [(0, .ref (G 0 8))] := hl
  unfold f_L_next at hf
  refine lv_aload_n hx hb dL_next_0 rfl (lv_at hl 0 rfl) ?_
  refine lv_iconst (v := 0) hx hb dL_next_1 (by decide) ?_
  refine lv_aload_n hx hb dL_next_2 rfl (lv_at hl 0 rfl) ?_
  refine lv_iconst (v := 0) hx hb dL_next_3 (by decide) ?_
  refine z_iald_ (j := 0) hx hb hK hP (zIA_8 (by decide)) (by decide) (by decide) dL_next_4 ?_
  refine lv_ldc hx hb hown (hts _ (List.mem_cons_of_mem _ ml_593)) dL_next_5 ?_
  refine lv_imul hx hb dL_next_7 ?_
  refine lv_sipush (v := 12345) hx hb dL_next_8 (by decide) ?_
  refine lv_iadd hx hb dL_next_11 ?_
  obtain ⟨T2, eT2, hf⟩ := zl_i hf
  refine z_iast_ (j := 0) hx hb hK hP hG hS (zIA_8 (by decide)) (by decide) (by decide) dL_next_12 (fun H locs hP hS => ?_)
  rw [← eT2] at hP
  refine lv_aload_n hx hb dL_next_13 rfl (lv_at hl 0 rfl) ?_
  refine lv_iconst (v := 0) hx hb dL_next_14 (by decide) ?_
  refine lv_dup2_11 hx hb dL_next_15 rfl rfl ?_
  refine z_iald_ (j := 0) hx hb hK hP (zIA_8 (by decide)) (by decide) (by decide) dL_next_16 ?_
  refine lv_aload_n hx hb dL_next_17 rfl (lv_at hl 0 rfl) ?_
  refine lv_iconst (v := 0) hx hb dL_next_18 (by decide) ?_
  refine z_iald_ (j := 0) hx hb hK hP (zIA_8 (by decide)) (by decide) (by decide) dL_next_19 ?_
  refine lv_bipush (v := 15) hx hb dL_next_20 (by decide) ?_
  refine lv_iushr hx hb dL_next_22 rfl ?_
  refine lv_ixor hx hb dL_next_23 ?_
  obtain ⟨T5, eT5, hf⟩ := zl_i hf
  refine z_iast_ (j := 0) hx hb hK hP hG hS (zIA_8 (by decide)) (by decide) (by decide) dL_next_24 (fun H locs hP hS => ?_)
  rw [← eT5] at hP
  refine lv_aload_n hx hb dL_next_25 rfl (lv_at hl 0 rfl) ?_
  refine lv_iconst (v := 0) hx hb dL_next_26 (by decide) ?_
  refine z_iald_ (j := 0) hx hb hK hP (zIA_8 (by decide)) (by decide) (by decide) dL_next_27 ?_
  refine lv_bipush (v := 9) hx hb dL_next_28 (by decide) ?_
  refine lv_iushr hx hb dL_next_30 rfl ?_
  obtain ⟨q1, q2⟩ := zs_i hf
  subst q1; subst q2
  exact z_iret hx hb hr rfl hP hS hlocks (Nat.le_of_ble_eq_true rfl) (Nat.le_of_ble_eq_true rfl) dL_next_31

def lp_L_sum_48 : Nat → Int64 → Int32 → zT → Option ((Int64 × Int32) × zT)
  | 0, _, _, _ => none
  | n + 1, u1, u3, T => (if 6 ≤ u3 then some ((u1, u3), T) else zbi (f_X3_cakes u3 T) fun v17 T18 => zl ((31 * u1) + (v17.toInt64)) fun x20 => zl (u3 + 1) fun x21 => lp_L_sum_48 n x20 x21 T18)
def lp_L_sum_75 : Nat → Int64 → Int32 → zT → Option ((Int64 × Int32) × zT)
  | 0, _, _, _ => none
  | n + 1, u1, u3, T => zb (f_X3_childCount T) fun v25 T26 => (if v25 ≤ u3 then some ((u1, u3), T26) else zbi (f_X3_ageOf u3 T26) fun v28 T29 => zbi (f_X3_gardenOf u3 T29) fun v31 T32 => zbi (f_X3_birthdayOf u3 T32) fun v34 T35 => zbi (f_X3_partiesOf u3 T35) fun v37 T38 => zl ((31 * ((31 * ((31 * ((31 * u1) + (v28.toInt64))) + (v31.toInt64))) + (v34.toInt64))) + (v37.toInt64)) fun x40 => zbi (f_X3_wishesOf u3 T38) fun v41 T42 => zl ((31 * x40) + (v41.toInt64)) fun x44 => zl (u3 + 1) fun x45 => lp_L_sum_75 n x44 x45 T42)
def f_L_sum (T : zT) : Option (Int64 × zT) := zb (f_X3_year T) fun v1 T2 => zb (f_X3_month T2) fun v4 T5 => zb (f_X3_dayOfMonth T5) fun v7 T8 => zb (f_X3_seed T8) fun v10 T11 => zb (f_X3_candles T11) fun v13 T14 => zl ((31 * ((31 * ((31 * ((31 * (v1.toInt64)) + (v4.toInt64))) + (v7.toInt64))) + (v10.toInt64))) + (v13.toInt64)) fun x16 => zb (lp_L_sum_48 16 x16 0 T14) fun v23 T22 => zb (lp_L_sum_75 16 v23.1 0 T22) fun v47 T46 => zb (f_X3_heldParties T46) fun v49 T50 => zb (f_X3_failedParties T50) fun v52 T53 => some (((31 * ((31 * v47.1) + (v49.toInt64))) + (v52.toInt64)), T53)
set_option maxHeartbeats 8000000 in
set_option maxRecDepth 100000 in
theorem l_L_sum_48 {p : Program} {l : Launch} {e : Env} {s : State} {m : MethodId} {args : Array Value} {below : List Frame} {meth : Method} {c : Code} {Q : State → Prop} {D : va_G} {Y : Nat → ClassId} {S V : Nat → Nat} {G : Nat → Nat → Nat} {A : Nat → Prop} {c0 : Cond} {mc ms : Nat} {ce se : Nat} (hcm : ce ≤ mc ∧ se ≤ ms) (F : zF 0 8 mc ms p l s m args c cL_sum 4 RL c0 D Y S V G A) :
    ∀ (n cells slots : Nat) (u1 : Int64) (u3 : Int32) (T : zT) (o : (Int64 × Int32) × zT) (H : Heap) (locs : List Loc) (ls : Array Slot), cells + 1 * n ≤ ce → slots + 6 * n ≤ se → lp_L_sum_48 n u1 u3 T = some o → zP 0 D Y G T H → va_S A s.heap H locs → lv_has ls 4 [(0, .ref (G 0 0)), (1, .long u1), (3, .int u3)] → (∀ (H : Heap) (locs : List Loc) (ls : Array Slot), zP 0 D Y G o.2 H → va_S A s.heap H locs → lv_has ls 4 [(0, .ref (G 0 0)), (1, .long o.1.1), (3, .int o.1.2)] → W p l e (zR 8 mc ms) s m args below meth c H locs ce se Q (F0 m 73 ls [])) → W p l e (zR 8 mc ms) s m args below meth c H locs cells slots Q (F0 m 48 ls []) := by
  obtain ⟨hx, hb, hml, hown, hts, hl9, hG, hK, hA⟩ := id F
  intro n
  induction n with
  | zero =>
    intro cells slots u1 u3 T o H locs ls _ _ hf
    rw [lp_L_sum_48] at hf
    cases hf
  | succ n ih =>
    intro cells slots u1 u3 T o H locs ls hc1 hc2 hf hP hS hl k0_
    rw [lp_L_sum_48] at hf
    refine lv_iload_n hx hb dL_sum_48 rfl (lv_at hl 2 rfl) ?_
    refine lv_bipush (v := 6) hx hb dL_sum_49 (by decide) ?_
    refine lv_icmp_ge (tgt := 73) hx hb dL_sum_51 (by decide) (fun hc => ?_) (fun hc => ?_)
    · have hf := zif_p hf hc
      cases hf
      refine W.widen (k := ce) (n := se) (by omega) (by omega) ?_
      exact k0_ _ _ _ hP hS (lv_sub hl [0, 1, 2] rfl)
    · have hf := zif_n hf hc
      refine lv_ldc2 hx hb hown (hts _ (List.mem_cons_of_mem _ ml_992)) dL_sum_54 ?_
      refine lv_lload_n hx hb dL_sum_57 rfl (lv_at hl 1 rfl) ?_
      refine lv_lmul hx hb dL_sum_58 ?_
      refine lv_aload_n hx hb dL_sum_59 rfl (lv_at hl 0 rfl) ?_
      refine lv_iload_n hx hb dL_sum_60 rfl (lv_at hl 2 rfl) ?_
      obtain ⟨v17, T18, h19, hf⟩ := zbi_i hf
      refine z_ok (z_runV (As := [.int u3]) (rest := [.long (31 * u1)]) F k_X3_cakes ml_1019 (c_X3_cakes u3 T T18 (.inl v17) h19) hP hS (zV_0 (by decide)) rfl rfl rfl rfl hl.1 (Nat.le_of_ble_eq_true rfl) dL_sum_61 (Nat.le_of_ble_eq_true rfl) ⟨by omega, by omega⟩ rfl) hS (fun H locs hP hS => ?_)
      refine lv_i2l hx hb dL_sum_64 rfl ?_
      refine lv_ladd hx hb dL_sum_65 ?_
      obtain ⟨x20, ex20, hf⟩ := zl_i hf
      refine z_topl ex20 ?_
      refine lv_lstore_n (lv' := [(1, .long x20), (0, .ref (G 0 0)), (3, .int u3)]) hx hb dL_sum_66 rfl hl (by decide) rfl (fun ls hl => ?_)
      obtain ⟨x21, ex21, hf⟩ := zl_i hf
      refine lv_iinc (v := x21) (lv' := [(3, .int x21), (1, .long x20), (0, .ref (G 0 0))]) hx hb dL_sum_67 hl (k := 2) rfl (by rw [ex21]; rfl) (by decide) rfl (fun ls hl => ?_)
      refine lv_goto (tgt := 48) hx hb dL_sum_70 (by decide) ?_
      exact ih (cells + 1) (slots + 6) x20 x21 _ _ _ _ _ (by omega) (by omega) hf hP hS (lv_sub hl [2, 1, 0] rfl) k0_
set_option maxHeartbeats 8000000 in
set_option maxRecDepth 100000 in
theorem l_L_sum_75 {p : Program} {l : Launch} {e : Env} {s : State} {m : MethodId} {args : Array Value} {below : List Frame} {meth : Method} {c : Code} {Q : State → Prop} {D : va_G} {Y : Nat → ClassId} {S V : Nat → Nat} {G : Nat → Nat → Nat} {A : Nat → Prop} {c0 : Cond} {mc ms : Nat} {ce se : Nat} (hcm : ce ≤ mc ∧ se ≤ ms) (F : zF 0 8 mc ms p l s m args c cL_sum 4 RL c0 D Y S V G A) :
    ∀ (n cells slots : Nat) (u1 : Int64) (u3 : Int32) (T : zT) (o : (Int64 × Int32) × zT) (H : Heap) (locs : List Loc) (ls : Array Slot), cells + 5 * n ≤ ce → slots + 30 * n ≤ se → lp_L_sum_75 n u1 u3 T = some o → zP 0 D Y G T H → va_S A s.heap H locs → lv_has ls 4 [(0, .ref (G 0 0)), (1, .long u1), (3, .int u3)] → (∀ (H : Heap) (locs : List Loc) (ls : Array Slot), zP 0 D Y G o.2 H → va_S A s.heap H locs → lv_has ls 4 [(0, .ref (G 0 0)), (1, .long o.1.1), (3, .int o.1.2)] → W p l e (zR 8 mc ms) s m args below meth c H locs ce se Q (F0 m 148 ls [])) → W p l e (zR 8 mc ms) s m args below meth c H locs cells slots Q (F0 m 75 ls []) := by
  obtain ⟨hx, hb, hml, hown, hts, hl9, hG, hK, hA⟩ := id F
  intro n
  induction n with
  | zero =>
    intro cells slots u1 u3 T o H locs ls _ _ hf
    rw [lp_L_sum_75] at hf
    cases hf
  | succ n ih =>
    intro cells slots u1 u3 T o H locs ls hc1 hc2 hf hP hS hl k0_
    rw [lp_L_sum_75] at hf
    refine lv_iload_n hx hb dL_sum_75 rfl (lv_at hl 2 rfl) ?_
    refine lv_aload_n hx hb dL_sum_76 rfl (lv_at hl 0 rfl) ?_
    obtain ⟨v25, T26, h27, hf⟩ := zb_i hf
    refine z_ok (z_runV (As := []) (rest := [.int u3]) F k_X3_childCount ml_1023 (c_X3_childCount T T26 v25 h27) hP hS (zV_0 (by decide)) rfl rfl rfl rfl hl.1 (Nat.le_of_ble_eq_true rfl) dL_sum_77 (Nat.le_of_ble_eq_true rfl) ⟨by omega, by omega⟩ rfl) hS (fun H locs hP hS => ?_)
    refine lv_icmp_ge (tgt := 148) hx hb dL_sum_80 (by decide) (fun hc => ?_) (fun hc => ?_)
    · have hf := zif_p hf hc
      cases hf
      refine W.widen (k := ce) (n := se) (by omega) (by omega) ?_
      exact k0_ _ _ _ hP hS (lv_sub hl [0, 1, 2] rfl)
    · have hf := zif_n hf hc
      refine lv_ldc2 hx hb hown (hts _ (List.mem_cons_of_mem _ ml_992)) dL_sum_83 ?_
      refine lv_ldc2 hx hb hown (hts _ (List.mem_cons_of_mem _ ml_992)) dL_sum_86 ?_
      refine lv_ldc2 hx hb hown (hts _ (List.mem_cons_of_mem _ ml_992)) dL_sum_89 ?_
      refine lv_ldc2 hx hb hown (hts _ (List.mem_cons_of_mem _ ml_992)) dL_sum_92 ?_
      refine lv_lload_n hx hb dL_sum_95 rfl (lv_at hl 1 rfl) ?_
      refine lv_lmul hx hb dL_sum_96 ?_
      refine lv_aload_n hx hb dL_sum_97 rfl (lv_at hl 0 rfl) ?_
      refine lv_iload_n hx hb dL_sum_98 rfl (lv_at hl 2 rfl) ?_
      obtain ⟨v28, T29, h30, hf⟩ := zbi_i hf
      refine z_ok (z_runV (As := [.int u3]) (rest := [.long (31 * u1), .long 31, .long 31, .long 31]) F k_X3_ageOf ml_1027 (c_X3_ageOf u3 T26 T29 (.inl v28) h30) hP hS (zV_0 (by decide)) rfl rfl rfl rfl hl.1 (Nat.le_of_ble_eq_true rfl) dL_sum_99 (Nat.le_of_ble_eq_true rfl) ⟨by omega, by omega⟩ rfl) hS (fun H locs hP hS => ?_)
      refine lv_i2l hx hb dL_sum_102 rfl ?_
      refine lv_ladd hx hb dL_sum_103 ?_
      refine lv_lmul hx hb dL_sum_104 ?_
      refine lv_aload_n hx hb dL_sum_105 rfl (lv_at hl 0 rfl) ?_
      refine lv_iload_n hx hb dL_sum_106 rfl (lv_at hl 2 rfl) ?_
      obtain ⟨v31, T32, h33, hf⟩ := zbi_i hf
      refine z_ok (z_runV (As := [.int u3]) (rest := [.long (31 * ((31 * u1) + (v28.toInt64))), .long 31, .long 31]) F k_X3_gardenOf ml_1031 (c_X3_gardenOf u3 T29 T32 (.inl v31) h33) hP hS (zV_0 (by decide)) rfl rfl rfl rfl hl.1 (Nat.le_of_ble_eq_true rfl) dL_sum_107 (Nat.le_of_ble_eq_true rfl) ⟨by omega, by omega⟩ rfl) hS (fun H locs hP hS => ?_)
      refine lv_i2l hx hb dL_sum_110 rfl ?_
      refine lv_ladd hx hb dL_sum_111 ?_
      refine lv_lmul hx hb dL_sum_112 ?_
      refine lv_aload_n hx hb dL_sum_113 rfl (lv_at hl 0 rfl) ?_
      refine lv_iload_n hx hb dL_sum_114 rfl (lv_at hl 2 rfl) ?_
      obtain ⟨v34, T35, h36, hf⟩ := zbi_i hf
      refine z_ok (z_runV (As := [.int u3]) (rest := [.long (31 * ((31 * ((31 * u1) + (v28.toInt64))) + (v31.toInt64))), .long 31]) F k_X3_birthdayOf ml_1035 (c_X3_birthdayOf u3 T32 T35 (.inl v34) h36) hP hS (zV_0 (by decide)) rfl rfl rfl rfl hl.1 (Nat.le_of_ble_eq_true rfl) dL_sum_115 (Nat.le_of_ble_eq_true rfl) ⟨by omega, by omega⟩ rfl) hS (fun H locs hP hS => ?_)
      refine lv_i2l hx hb dL_sum_118 rfl ?_
      refine lv_ladd hx hb dL_sum_119 ?_
      refine lv_lmul hx hb dL_sum_120 ?_
      refine lv_aload_n hx hb dL_sum_121 rfl (lv_at hl 0 rfl) ?_
      refine lv_iload_n hx hb dL_sum_122 rfl (lv_at hl 2 rfl) ?_
      obtain ⟨v37, T38, h39, hf⟩ := zbi_i hf
      refine z_ok (z_runV (As := [.int u3]) (rest := [.long (31 * ((31 * ((31 * ((31 * u1) + (v28.toInt64))) + (v31.toInt64))) + (v34.toInt64)))]) F k_X3_partiesOf ml_1039 (c_X3_partiesOf u3 T35 T38 (.inl v37) h39) hP hS (zV_0 (by decide)) rfl rfl rfl rfl hl.1 (Nat.le_of_ble_eq_true rfl) dL_sum_123 (Nat.le_of_ble_eq_true rfl) ⟨by omega, by omega⟩ rfl) hS (fun H locs hP hS => ?_)
      refine lv_i2l hx hb dL_sum_126 rfl ?_
      refine lv_ladd hx hb dL_sum_127 ?_
      obtain ⟨x40, ex40, hf⟩ := zl_i hf
      refine z_topl ex40 ?_
      refine lv_lstore_n (lv' := [(1, .long x40), (0, .ref (G 0 0)), (3, .int u3)]) hx hb dL_sum_128 rfl hl (by decide) rfl (fun ls hl => ?_)
      refine lv_ldc2 hx hb hown (hts _ (List.mem_cons_of_mem _ ml_992)) dL_sum_129 ?_
      refine lv_lload_n hx hb dL_sum_132 rfl (lv_at hl 0 rfl) ?_
      refine lv_lmul hx hb dL_sum_133 ?_
      refine lv_aload_n hx hb dL_sum_134 rfl (lv_at hl 1 rfl) ?_
      refine lv_iload_n hx hb dL_sum_135 rfl (lv_at hl 2 rfl) ?_
      obtain ⟨v41, T42, h43, hf⟩ := zbi_i hf
      refine z_ok (z_runV (As := [.int u3]) (rest := [.long (31 * x40)]) F k_X3_wishesOf ml_1043 (c_X3_wishesOf u3 T38 T42 (.inl v41) h43) hP hS (zV_0 (by decide)) rfl rfl rfl rfl hl.1 (Nat.le_of_ble_eq_true rfl) dL_sum_136 (Nat.le_of_ble_eq_true rfl) ⟨by omega, by omega⟩ rfl) hS (fun H locs hP hS => ?_)
      refine lv_i2l hx hb dL_sum_139 rfl ?_
      refine lv_ladd hx hb dL_sum_140 ?_
      obtain ⟨x44, ex44, hf⟩ := zl_i hf
      refine z_topl ex44 ?_
      refine lv_lstore_n (lv' := [(1, .long x44), (0, .ref (G 0 0)), (3, .int u3)]) hx hb dL_sum_141 rfl hl (by decide) rfl (fun ls hl => ?_)
      obtain ⟨x45, ex45, hf⟩ := zl_i hf
      refine lv_iinc (v := x45) (lv' := [(3, .int x45), (1, .long x44), (0, .ref (G 0 0))]) hx hb dL_sum_142 hl (k := 2) rfl (by rw [ex45]; rfl) (by decide) rfl (fun ls hl => ?_)
      refine lv_goto (tgt := 75) hx hb dL_sum_145 (by decide) ?_
      exact ih (cells + 5) (slots + 30) x44 x45 _ _ _ _ _ (by omega) (by omega) hf hP hS (lv_sub hl [2, 1, 0] rfl) k0_
set_option maxHeartbeats 8000000 in
set_option maxRecDepth 100000 in
theorem c_L_sum (T T' : zT) (v : Int64) (hf : f_L_sum T = some (v, T')) : zC 0 yL_sum cL_sum 4 (some .long) 8 96 576 (fun G _ => [.ref (G 0 0)]) T (fun _ => .inl (some (.long v))) T' := by
  intro l D Y S V G A hl9 hG
  refine vx_ofW (cc := cL_sum) (maxL := 4) (ret := (some .long)) (by decide) rfl ?_
  intro p e s m args below meth c s₁ B hml hex hv
  obtain ⟨rfl, hK, hP, hA⟩ := hv
  have hx := B.exec
  have hb := B.bytes
  have hr := B.returns
  have hlocks := B.notSynchronized
  have hown : s.vm.findClass RL = some m.cls := findClass_of_methodNamed B.named
  have hts := atoms_spec (ws := Cond.code yL_sum cL_sum 4 (some .long) :: zWS) B.pre
  have F : zF 0 8 96 576 p l s m _ c cL_sum 4 RL (Cond.code yL_sum cL_sum 4 (some .long)) D Y S V G A := ⟨hx, hb, hml, hown, hts, hl9, hG, hK, hA⟩
  have hS : va_S A s.heap s.heap [] := va_S.rf
  have hl := lv_entry ([.ref (G 0 0)]) (n := 4) (Nat.le_of_ble_eq_true rfl)
  rw [lg_entry_eq]
  generalize (lg_sl ([.ref (G 0 0)]) ++ List.replicate (4 - (lg_sl ([.ref (G 0 0)])).length) Slot.unset).toArray = ls at hl ⊢
  have hl : lv_has ls 4 [(0, .ref (G 0 0))] := hl
  unfold f_L_sum at hf
  refine lv_ldc2 hx hb hown (hts _ (List.mem_cons_of_mem _ ml_992)) dL_sum_0 ?_
  refine lv_ldc2 hx hb hown (hts _ (List.mem_cons_of_mem _ ml_992)) dL_sum_3 ?_
  refine lv_ldc2 hx hb hown (hts _ (List.mem_cons_of_mem _ ml_992)) dL_sum_6 ?_
  refine lv_ldc2 hx hb hown (hts _ (List.mem_cons_of_mem _ ml_992)) dL_sum_9 ?_
  refine lv_aload_n hx hb dL_sum_12 rfl (lv_at hl 0 rfl) ?_
  obtain ⟨v1, T2, h3, hf⟩ := zb_i hf
  refine z_ok (z_runV (As := []) (rest := [.long 31, .long 31, .long 31, .long 31]) F k_X3_year ml_993 (c_X3_year T T2 v1 h3) hP hS (zV_0 (by decide)) rfl rfl rfl rfl hl.1 (Nat.le_of_ble_eq_true rfl) dL_sum_13 (Nat.le_of_ble_eq_true rfl) ⟨(Nat.le_of_ble_eq_true rfl), (Nat.le_of_ble_eq_true rfl)⟩ rfl) hS (fun H locs hP hS => ?_)
  refine lv_i2l hx hb dL_sum_16 rfl ?_
  refine lv_lmul hx hb dL_sum_17 ?_
  refine lv_aload_n hx hb dL_sum_18 rfl (lv_at hl 0 rfl) ?_
  obtain ⟨v4, T5, h6, hf⟩ := zb_i hf
  refine z_ok (z_runV (As := []) (rest := [.long (31 * (v1.toInt64)), .long 31, .long 31, .long 31]) F k_X3_month ml_997 (c_X3_month T2 T5 v4 h6) hP hS (zV_0 (by decide)) rfl rfl rfl rfl hl.1 (Nat.le_of_ble_eq_true rfl) dL_sum_19 (Nat.le_of_ble_eq_true rfl) ⟨(Nat.le_of_ble_eq_true rfl), (Nat.le_of_ble_eq_true rfl)⟩ rfl) hS (fun H locs hP hS => ?_)
  refine lv_i2l hx hb dL_sum_22 rfl ?_
  refine lv_ladd hx hb dL_sum_23 ?_
  refine lv_lmul hx hb dL_sum_24 ?_
  refine lv_aload_n hx hb dL_sum_25 rfl (lv_at hl 0 rfl) ?_
  obtain ⟨v7, T8, h9, hf⟩ := zb_i hf
  refine z_ok (z_runV (As := []) (rest := [.long (31 * ((31 * (v1.toInt64)) + (v4.toInt64))), .long 31, .long 31]) F k_X3_dayOfMonth ml_1004 (c_X3_dayOfMonth T5 T8 v7 h9) hP hS (zV_0 (by decide)) rfl rfl rfl rfl hl.1 (Nat.le_of_ble_eq_true rfl) dL_sum_26 (Nat.le_of_ble_eq_true rfl) ⟨(Nat.le_of_ble_eq_true rfl), (Nat.le_of_ble_eq_true rfl)⟩ rfl) hS (fun H locs hP hS => ?_)
  refine lv_i2l hx hb dL_sum_29 rfl ?_
  refine lv_ladd hx hb dL_sum_30 ?_
  refine lv_lmul hx hb dL_sum_31 ?_
  refine lv_aload_n hx hb dL_sum_32 rfl (lv_at hl 0 rfl) ?_
  obtain ⟨v10, T11, h12, hf⟩ := zb_i hf
  refine z_ok (z_runV (As := []) (rest := [.long (31 * ((31 * ((31 * (v1.toInt64)) + (v4.toInt64))) + (v7.toInt64))), .long 31]) F k_X3_seed ml_1011 (c_X3_seed T8 T11 v10 h12) hP hS (zV_0 (by decide)) rfl rfl rfl rfl hl.1 (Nat.le_of_ble_eq_true rfl) dL_sum_33 (Nat.le_of_ble_eq_true rfl) ⟨(Nat.le_of_ble_eq_true rfl), (Nat.le_of_ble_eq_true rfl)⟩ rfl) hS (fun H locs hP hS => ?_)
  refine lv_i2l hx hb dL_sum_36 rfl ?_
  refine lv_ladd hx hb dL_sum_37 ?_
  refine lv_lmul hx hb dL_sum_38 ?_
  refine lv_aload_n hx hb dL_sum_39 rfl (lv_at hl 0 rfl) ?_
  obtain ⟨v13, T14, h15, hf⟩ := zb_i hf
  refine z_ok (z_runV (As := []) (rest := [.long (31 * ((31 * ((31 * ((31 * (v1.toInt64)) + (v4.toInt64))) + (v7.toInt64))) + (v10.toInt64)))]) F k_X3_candles ml_1015 (c_X3_candles T11 T14 v13 h15) hP hS (zV_0 (by decide)) rfl rfl rfl rfl hl.1 (Nat.le_of_ble_eq_true rfl) dL_sum_40 (Nat.le_of_ble_eq_true rfl) ⟨(Nat.le_of_ble_eq_true rfl), (Nat.le_of_ble_eq_true rfl)⟩ rfl) hS (fun H locs hP hS => ?_)
  refine lv_i2l hx hb dL_sum_43 rfl ?_
  refine lv_ladd hx hb dL_sum_44 ?_
  obtain ⟨x16, ex16, hf⟩ := zl_i hf
  refine z_topl ex16 ?_
  refine lv_lstore_n (lv' := [(1, .long x16), (0, .ref (G 0 0))]) hx hb dL_sum_45 rfl hl (by decide) rfl (fun ls hl => ?_)
  refine lv_iconst (v := 0) hx hb dL_sum_46 (by decide) ?_
  refine lv_istore_n (lv' := [(3, .int 0), (1, .long x16), (0, .ref (G 0 0))]) hx hb dL_sum_47 rfl hl (by decide) rfl (fun ls hl => ?_)
  obtain ⟨v23, T22, h24, hf⟩ := zb_i hf
  refine l_L_sum_48 (ce := 16) (se := 96) ⟨(Nat.le_of_ble_eq_true rfl), (Nat.le_of_ble_eq_true rfl)⟩ F  16 (0) (0) x16 0 _ _ _ _ _ (Nat.le_of_ble_eq_true rfl) (Nat.le_of_ble_eq_true rfl) h24 hP hS (lv_sub hl [2, 1, 0] rfl) (fun H locs ls hP hS hl => ?_)
  refine lv_iconst (v := 0) hx hb dL_sum_73 (by decide) ?_
  refine lv_istore_n (lv' := [(3, .int 0), (0, .ref (G 0 0)), (1, .long v23.1)]) hx hb dL_sum_74 rfl hl (by decide) rfl (fun ls hl => ?_)
  obtain ⟨v47, T46, h48, hf⟩ := zb_i hf
  refine l_L_sum_75 (ce := 96) (se := 576) ⟨(Nat.le_of_ble_eq_true rfl), (Nat.le_of_ble_eq_true rfl)⟩ F  16 (16) (96) v23.1 0 _ _ _ _ _ (Nat.le_of_ble_eq_true rfl) (Nat.le_of_ble_eq_true rfl) h48 hP hS (lv_sub hl [1, 2, 0] rfl) (fun H locs ls hP hS hl => ?_)
  refine lv_ldc2 hx hb hown (hts _ (List.mem_cons_of_mem _ ml_992)) dL_sum_148 ?_
  refine lv_ldc2 hx hb hown (hts _ (List.mem_cons_of_mem _ ml_992)) dL_sum_151 ?_
  refine lv_lload_n hx hb dL_sum_154 rfl (lv_at hl 1 rfl) ?_
  refine lv_lmul hx hb dL_sum_155 ?_
  refine lv_aload_n hx hb dL_sum_156 rfl (lv_at hl 0 rfl) ?_
  obtain ⟨v49, T50, h51, hf⟩ := zb_i hf
  refine z_ok (z_runV (As := []) (rest := [.long (31 * v47.1), .long 31]) F k_X3_heldParties ml_1047 (c_X3_heldParties T46 T50 v49 h51) hP hS (zV_0 (by decide)) rfl rfl rfl rfl hl.1 (Nat.le_of_ble_eq_true rfl) dL_sum_157 (Nat.le_of_ble_eq_true rfl) ⟨(Nat.le_of_ble_eq_true rfl), (Nat.le_of_ble_eq_true rfl)⟩ rfl) hS (fun H locs hP hS => ?_)
  refine lv_i2l hx hb dL_sum_160 rfl ?_
  refine lv_ladd hx hb dL_sum_161 ?_
  refine lv_lmul hx hb dL_sum_162 ?_
  refine lv_aload_n hx hb dL_sum_163 rfl (lv_at hl 0 rfl) ?_
  obtain ⟨v52, T53, h54, hf⟩ := zb_i hf
  refine z_ok (z_runV (As := []) (rest := [.long (31 * ((31 * v47.1) + (v49.toInt64)))]) F k_X3_failedParties ml_1054 (c_X3_failedParties T50 T53 v52 h54) hP hS (zV_0 (by decide)) rfl rfl rfl rfl hl.1 (Nat.le_of_ble_eq_true rfl) dL_sum_164 (Nat.le_of_ble_eq_true rfl) ⟨(Nat.le_of_ble_eq_true rfl), (Nat.le_of_ble_eq_true rfl)⟩ rfl) hS (fun H locs hP hS => ?_)
  refine lv_i2l hx hb dL_sum_167 rfl ?_
  refine lv_ladd hx hb dL_sum_168 ?_
  obtain ⟨q1, q2⟩ := zs_i hf
  subst q1; subst q2
  exact z_lret hx hb hr rfl hP hS hlocks (Nat.le_of_ble_eq_true rfl) (Nat.le_of_ble_eq_true rfl) dL_sum_169
