/-! THE LAW'S registry, by program -/
theorem ml_877 : Cond.methodLink RL 80 yJ4_append_bf812 ∈ zWS := zws_in 877 (by decide +kernel) (by decide +kernel)
theorem ml_902 : Cond.methodLink RL 83 yJ4_append_cf468 ∈ zWS := zws_in 902 (by decide +kernel) (by decide +kernel)
theorem ml_916 : Cond.methodLink RL 88 yJ4_append_15ec4 ∈ zWS := zws_in 916 (by decide +kernel) (by decide +kernel)
theorem kl_J4_append_15ec4 : zcal yJ4_append_15ec4 cJ4_append_15ec4 2 (some (.object "java/lang/StringBuilder")) 1 := ⟨zws_in 773 (by decide +kernel) (by decide +kernel), zws_in 774 (by decide +kernel) (by decide +kernel), zws_in 43 (by decide +kernel) (by decide +kernel), zws_in 775 (by decide +kernel) (by decide +kernel), ⟨by decide +kernel, by decide +kernel⟩, by decide +kernel, by decide⟩
theorem kl_J4_append_bf812 : zcal yJ4_append_bf812 cJ4_append_bf812 2 (some (.object "java/lang/StringBuilder")) 1 := ⟨zws_in 878 (by decide +kernel) (by decide +kernel), zws_in 879 (by decide +kernel) (by decide +kernel), zws_in 43 (by decide +kernel) (by decide +kernel), zws_in 880 (by decide +kernel) (by decide +kernel), ⟨by decide +kernel, by decide +kernel⟩, by decide +kernel, by decide⟩
theorem kl_J4_append_cf468 : zcal yJ4_append_cf468 cJ4_append_cf468 2 (some (.object "java/lang/StringBuilder")) 1 := ⟨zws_in 903 (by decide +kernel) (by decide +kernel), zws_in 904 (by decide +kernel) (by decide +kernel), zws_in 43 (by decide +kernel) (by decide +kernel), zws_in 905 (by decide +kernel) (by decide +kernel), ⟨by decide +kernel, by decide +kernel⟩, by decide +kernel, by decide⟩
def lp_L_registry_40 (w0 : Int32) (w1 : Int32) : Nat → Int32 → zTB → Option ((Int32) × zTB)
  | 0, _, _ => none
  | n + 1, u4, T => (if w0 ≤ u4 then some (u4, T) else if T.2.length + 10 ≤ 300 then zl ((T.1, T.2 ++ zltr 9) : zTB) fun T20 => zb (f_L_next T20.1) fun v23 T24 => zl ((T24, T20.2) : zTB) fun T25 => zl (2 + (v23 - v23 / 11 * 11)) fun x30 => if zin x30 10000 = true then if T25.2.length + 10 ≤ 300 then zl ((T25.1, T25.2 ++ zdig x30.toNatClampNeg) : zTB) fun T27 => zl (u4 + 1) fun x31 => lp_L_registry_40 w0 w1 n x31 T27 else none else none else none)
def lp_L_registry_74 (w0 : Int32) (w1 : Int32) : Nat → Int32 → zTB → Option ((Int32) × zTB)
  | 0, _, _ => none
  | n + 1, u4, T => (if w1 ≤ u4 then some (u4, T) else if T.2.length + 10 ≤ 300 then zl ((T.1, T.2 ++ zltr 10) : zTB) fun T35 => zl ((((112 + u4)).toUInt32 % 65536).toInt32) fun x41 => if zin x41 128 = true then if T35.2.length + 10 ≤ 300 then zl ((T35.1, T35.2 ++ [x41.toNatClampNeg]) : zTB) fun T38 => if zin 32 128 = true then if T38.2.length + 10 ≤ 300 then zl ((T38.1, T38.2 ++ [(32 : Int32).toNatClampNeg]) : zTB) fun T42 => zb (f_L_next T42.1) fun v45 T46 => zl ((T46, T42.2) : zTB) fun T47 => zl (v45 - v45 / 6 * 6) fun x52 => if zin x52 10000 = true then if T47.2.length + 10 ≤ 300 then zl ((T47.1, T47.2 ++ zdig x52.toNatClampNeg) : zTB) fun T49 => if zin 32 128 = true then if T49.2.length + 10 ≤ 300 then zl ((T49.1, T49.2 ++ [(32 : Int32).toNatClampNeg]) : zTB) fun T53 => zb (f_L_next T53.1) fun v56 T57 => zl ((T57, T53.2) : zTB) fun T58 => zl (1 + (v56 - v56 / 20 * 20)) fun x63 => if zin x63 10000 = true then if T58.2.length + 10 ≤ 300 then zl ((T58.1, T58.2 ++ zdig x63.toNatClampNeg) : zTB) fun T60 => if zin 32 128 = true then if T60.2.length + 10 ≤ 300 then zl ((T60.1, T60.2 ++ [(32 : Int32).toNatClampNeg]) : zTB) fun T64 => zb (f_L_next T64.1) fun v67 T68 => zl ((T68, T64.2) : zTB) fun T69 => zl (v67 - v67 / 15 * 15) fun x74 => if zin x74 10000 = true then if T69.2.length + 10 ≤ 300 then zl ((T69.1, T69.2 ++ zdig x74.toNatClampNeg) : zTB) fun T71 => if zin 32 128 = true then if T71.2.length + 10 ≤ 300 then zl ((T71.1, T71.2 ++ [(32 : Int32).toNatClampNeg]) : zTB) fun T75 => zb (f_L_next T75.1) fun v78 T79 => zl ((T79, T75.2) : zTB) fun T80 => if ¬ w0 = 0 then zl (v78 - v78 / w0 * w0) fun x86 => if zin x86 10000 = true then if T80.2.length + 10 ≤ 300 then zl ((T80.1, T80.2 ++ zdig x86.toNatClampNeg) : zTB) fun T83 => zl (u4 + 1) fun x87 => lp_L_registry_74 w0 w1 n x87 T83 else none else none else none else none else none else none else none else none else none else none else none else none else none else none else none else none else none else none else none else none)
def lp_L_registry_171 : Nat → Int32 → zTB → Option ((Int32) × zTB)
  | 0, _, _ => none
  | n + 1, u4, T => (if u4 ≤ 0 then some (u4, T) else if T.2.length + 10 ≤ 300 then zl ((T.1, T.2 ++ zltr 11) : zTB) fun T96 => zb (f_L_next T96.1) fun v99 T100 => zl ((T100, T96.2) : zTB) fun T101 => zl (v99 - v99 / 6 * 6) fun x106 => if zin x106 10000 = true then if T101.2.length + 10 ≤ 300 then zl ((T101.1, T101.2 ++ zdig x106.toNatClampNeg) : zTB) fun T103 => if zin 32 128 = true then if T103.2.length + 10 ≤ 300 then zl ((T103.1, T103.2 ++ [(32 : Int32).toNatClampNeg]) : zTB) fun T107 => zb (f_L_next T107.1) fun v110 T111 => zl ((T111, T107.2) : zTB) fun T112 => zl (1 + (v110 - v110 / 9 * 9)) fun x117 => if zin x117 10000 = true then if T112.2.length + 10 ≤ 300 then zl ((T112.1, T112.2 ++ zdig x117.toNatClampNeg) : zTB) fun T114 => zl (u4 + (-1)) fun x118 => lp_L_registry_171 n x118 T114 else none else none else none else none else none else none else none)
def rg_L_registry (p0 : Int32) (p1 : Int32) (T : zTB) : Option (Unit × zTB) := zb (f_L_next T.1) fun v1 T2 => zl ((T2, T.2) : zTB) fun T3 => zl (v1 - v1 / 9973 * 9973) fun x8 => if zin x8 10000 = true then if T3.2.length + 10 ≤ 300 then zl ((T3.1, T3.2 ++ zdig x8.toNatClampNeg) : zTB) fun T5 => if zin 32 128 = true then if T5.2.length + 10 ≤ 300 then zl ((T5.1, T5.2 ++ [(32 : Int32).toNatClampNeg]) : zTB) fun T9 => zb (f_L_next T9.1) fun v12 T13 => zl ((T13, T9.2) : zTB) fun T14 => zl (v12 - v12 / 300 * 300) fun x19 => if zin x19 10000 = true then if T14.2.length + 10 ≤ 300 then zl ((T14.1, T14.2 ++ zdig x19.toNatClampNeg) : zTB) fun T16 => zbR (lp_L_registry_40 p0 p1 6 0 T16) fun v33 T32 => zbR (lp_L_registry_74 p0 p1 10 0 T32) fun v89 T88 => zb (f_L_next T88.1) fun v91 T92 => zl ((T92, T88.2) : zTB) fun T93 => zl (v91 - v91 / 5 * 5) fun x95 => zbR (lp_L_registry_171 6 x95 T93) fun v120 T119 => some ((), T119) else none else none else none else none else none else none
set_option maxHeartbeats 8000000 in
set_option maxRecDepth 100000 in
theorem l_L_registry_40 {p : Program} {l : Launch} {e : Env} {s : State} {m : MethodId} {args : Array Value} {below : List Frame} {meth : Method} {c : Code} {Q : State → Prop} {D : va_G} {Y : Nat → ClassId} {S V : Nat → Nat} {G : Nat → Nat → Nat} {A : Nat → Prop} {b : Nat} {c0 : Cond} {mc ms : Nat} {ce se : Nat} (hcm : ce ≤ mc ∧ se ≤ ms) (F : zF 1 9 mc ms p l s m args c cL_registry 5 RL c0 D Y S V G A) (XR : zXR A G s) (w0 : Int32) (w1 : Int32) :
    ∀ (n cells slots : Nat) (u4 : Int32) (T : zTB) (o : (Int32) × zTB) (H : Heap) (locs : List Loc) (ls : Array Slot), cells + 2 * n ≤ ce → slots + 1200 * n ≤ se → lp_L_registry_40 w0 w1 n u4 T = some o → zPB D Y G b s.heap.size T H → va_S A s.heap H locs → lv_has ls 5 [(0, .int w0), (1, .int w1), (2, .ref (G 0 8)), (3, .ref b), (4, .int u4)] → (∀ (H : Heap) (locs : List Loc) (ls : Array Slot), zPB D Y G b s.heap.size o.2 H → va_S A s.heap H locs → lv_has ls 5 [(0, .int w0), (1, .int w1), (2, .ref (G 0 8)), (3, .ref b), (4, .int o.1)] → W p l e (zR 9 mc ms) s m args below meth c H locs ce se Q (F0 m 71 ls [])) → W p l e (zR 9 mc ms) s m args below meth c H locs cells slots Q (F0 m 40 ls []) := by
  obtain ⟨hx, hb, hml, hown, hts, hl9, hG, hK, hA⟩ := id F
  intro n
  induction n with
  | zero =>
    intro cells slots u4 T o H locs ls _ _ hf
    rw [lp_L_registry_40] at hf
    cases hf
  | succ n ih =>
    intro cells slots u4 T o H locs ls hc1 hc2 hf hP hS hl k0_
    rw [lp_L_registry_40] at hf
    refine lv_iload hx hb dL_registry_40 (lv_at hl 4 rfl) ?_
    refine lv_iload_n hx hb dL_registry_42 rfl (lv_at hl 0 rfl) ?_
    refine lv_icmp_ge (tgt := 71) hx hb dL_registry_43 (by decide) (fun hc => ?_) (fun hc => ?_)
    · have hf := zif_p hf hc
      cases hf
      refine W.widen (k := ce) (n := se) (by omega) (by omega) ?_
      exact k0_ _ _ _ hP hS (lv_sub hl [0, 1, 2, 3, 4] rfl)
    · have hf := zif_n hf hc
      refine lv_aload_n hx hb dL_registry_46 rfl (lv_at hl 3 rfl) ?_
      refine va_ldcS hx hb hown (hK.2.2.1 9 _ rfl) dL_registry_47 ?_
      obtain ⟨h22, hf⟩ := zif_c hf
      obtain ⟨T20, eT20, hf⟩ := zl_i hf
      refine z_bstr (i := 9) F XR kl_J4_append_15ec4 ml_916 (by decide) (by decide) h22 hP hS hl.1 (Nat.le_of_ble_eq_true rfl) dL_registry_49 (Nat.le_of_ble_eq_true rfl) ⟨by omega, by omega⟩ (fun H locs hP hS => ?_)
      rw [← eT20] at hP
      refine lv_iconst (v := 2) hx hb dL_registry_52 (by decide) ?_
      refine lv_aload_n hx hb dL_registry_53 rfl (lv_at hl 2 rfl) ?_
      obtain ⟨v23, T24, h26, hf⟩ := zb_i hf
      obtain ⟨T25, eT25, hf⟩ := zl_i hf
      refine z_bnext F XR kl_next ml_590 h26 hP hS hl.1 (Nat.le_of_ble_eq_true rfl) dL_registry_54 (Nat.le_of_ble_eq_true rfl) ⟨by omega, by omega⟩ (fun H locs hP hS => ?_)
      rw [← eT25] at hP
      refine lv_bipush (v := 11) hx hb dL_registry_57 (by decide) ?_
      refine lv_irem hx hb dL_registry_59 (by decide) ?_
      refine lv_iadd hx hb dL_registry_60 ?_
      obtain ⟨x30, ex30, hf⟩ := zl_i hf
      refine z_topi ex30 ?_
      obtain ⟨h28, hf⟩ := zif_c hf
      obtain ⟨h29, hf⟩ := zif_c hf
      obtain ⟨T27, eT27, hf⟩ := zl_i hf
      refine z_bint F XR kl_J4_append_bf812 ml_877 h28 h29 hP hS hl.1 (Nat.le_of_ble_eq_true rfl) dL_registry_61 (Nat.le_of_ble_eq_true rfl) ⟨by omega, by omega⟩ (fun H locs hP hS => ?_)
      rw [← eT27] at hP
      refine lv_pop hx hb dL_registry_64 rfl ?_
      obtain ⟨x31, ex31, hf⟩ := zl_i hf
      refine lv_iinc (v := x31) (lv' := [(4, .int x31), (0, .int w0), (1, .int w1), (2, .ref (G 0 8)), (3, .ref b)]) hx hb dL_registry_65 hl (k := 4) rfl (by rw [ex31]; rfl) (by decide) rfl (fun ls hl => ?_)
      refine lv_goto (tgt := 40) hx hb dL_registry_68 (by decide) ?_
      exact ih (cells + 2) (slots + 1200) x31 _ _ _ _ _ (by omega) (by omega) hf hP hS (lv_sub hl [1, 2, 3, 4, 0] rfl) k0_
set_option maxHeartbeats 8000000 in
set_option maxRecDepth 100000 in
theorem l_L_registry_74 {p : Program} {l : Launch} {e : Env} {s : State} {m : MethodId} {args : Array Value} {below : List Frame} {meth : Method} {c : Code} {Q : State → Prop} {D : va_G} {Y : Nat → ClassId} {S V : Nat → Nat} {G : Nat → Nat → Nat} {A : Nat → Prop} {b : Nat} {c0 : Cond} {mc ms : Nat} {ce se : Nat} (hcm : ce ≤ mc ∧ se ≤ ms) (F : zF 1 9 mc ms p l s m args c cL_registry 5 RL c0 D Y S V G A) (XR : zXR A G s) (w0 : Int32) (w1 : Int32) :
    ∀ (n cells slots : Nat) (u4 : Int32) (T : zTB) (o : (Int32) × zTB) (H : Heap) (locs : List Loc) (ls : Array Slot), cells + 10 * n ≤ ce → slots + 6000 * n ≤ se → lp_L_registry_74 w0 w1 n u4 T = some o → zPB D Y G b s.heap.size T H → va_S A s.heap H locs → lv_has ls 5 [(0, .int w0), (1, .int w1), (2, .ref (G 0 8)), (3, .ref b), (4, .int u4)] → (∀ (H : Heap) (locs : List Loc) (ls : Array Slot), zPB D Y G b s.heap.size o.2 H → va_S A s.heap H locs → lv_has ls 5 [(0, .int w0), (1, .int w1), (2, .ref (G 0 8)), (3, .ref b), (4, .int o.1)] → W p l e (zR 9 mc ms) s m args below meth c H locs ce se Q (F0 m 163 ls [])) → W p l e (zR 9 mc ms) s m args below meth c H locs cells slots Q (F0 m 74 ls []) := by
  obtain ⟨hx, hb, hml, hown, hts, hl9, hG, hK, hA⟩ := id F
  intro n
  induction n with
  | zero =>
    intro cells slots u4 T o H locs ls _ _ hf
    rw [lp_L_registry_74] at hf
    cases hf
  | succ n ih =>
    intro cells slots u4 T o H locs ls hc1 hc2 hf hP hS hl k0_
    rw [lp_L_registry_74] at hf
    refine lv_iload hx hb dL_registry_74 (lv_at hl 4 rfl) ?_
    refine lv_iload_n hx hb dL_registry_76 rfl (lv_at hl 1 rfl) ?_
    refine lv_icmp_ge (tgt := 163) hx hb dL_registry_77 (by decide) (fun hc => ?_) (fun hc => ?_)
    · have hf := zif_p hf hc
      cases hf
      refine W.widen (k := ce) (n := se) (by omega) (by omega) ?_
      exact k0_ _ _ _ hP hS (lv_sub hl [0, 1, 2, 3, 4] rfl)
    · have hf := zif_n hf hc
      refine lv_aload_n hx hb dL_registry_80 rfl (lv_at hl 3 rfl) ?_
      refine va_ldcS hx hb hown (hK.2.2.1 10 _ rfl) dL_registry_81 ?_
      obtain ⟨h37, hf⟩ := zif_c hf
      obtain ⟨T35, eT35, hf⟩ := zl_i hf
      refine z_bstr (i := 10) F XR kl_J4_append_15ec4 ml_916 (by decide) (by decide) h37 hP hS hl.1 (Nat.le_of_ble_eq_true rfl) dL_registry_83 (Nat.le_of_ble_eq_true rfl) ⟨by omega, by omega⟩ (fun H locs hP hS => ?_)
      rw [← eT35] at hP
      refine lv_bipush (v := 112) hx hb dL_registry_86 (by decide) ?_
      refine lv_iload hx hb dL_registry_88 (lv_at hl 4 rfl) ?_
      refine lv_iadd hx hb dL_registry_90 ?_
      refine lv_i2c hx hb dL_registry_91 rfl ?_
      obtain ⟨x41, ex41, hf⟩ := zl_i hf
      refine z_topi ex41 ?_
      obtain ⟨h39, hf⟩ := zif_c hf
      obtain ⟨h40, hf⟩ := zif_c hf
      obtain ⟨T38, eT38, hf⟩ := zl_i hf
      refine z_bchr F XR kl_J4_append_cf468 ml_902 h39 h40 hP hS hl.1 (Nat.le_of_ble_eq_true rfl) dL_registry_92 (Nat.le_of_ble_eq_true rfl) ⟨by omega, by omega⟩ (fun H locs hP hS => ?_)
      rw [← eT38] at hP
      refine lv_bipush (v := 32) hx hb dL_registry_95 (by decide) ?_
      obtain ⟨h43, hf⟩ := zif_c hf
      obtain ⟨h44, hf⟩ := zif_c hf
      obtain ⟨T42, eT42, hf⟩ := zl_i hf
      refine z_bchr F XR kl_J4_append_cf468 ml_902 h43 h44 hP hS hl.1 (Nat.le_of_ble_eq_true rfl) dL_registry_97 (Nat.le_of_ble_eq_true rfl) ⟨by omega, by omega⟩ (fun H locs hP hS => ?_)
      rw [← eT42] at hP
      refine lv_aload_n hx hb dL_registry_100 rfl (lv_at hl 2 rfl) ?_
      obtain ⟨v45, T46, h48, hf⟩ := zb_i hf
      obtain ⟨T47, eT47, hf⟩ := zl_i hf
      refine z_bnext F XR kl_next ml_590 h48 hP hS hl.1 (Nat.le_of_ble_eq_true rfl) dL_registry_101 (Nat.le_of_ble_eq_true rfl) ⟨by omega, by omega⟩ (fun H locs hP hS => ?_)
      rw [← eT47] at hP
      refine lv_bipush (v := 6) hx hb dL_registry_104 (by decide) ?_
      refine lv_irem hx hb dL_registry_106 (by decide) ?_
      obtain ⟨x52, ex52, hf⟩ := zl_i hf
      refine z_topi ex52 ?_
      obtain ⟨h50, hf⟩ := zif_c hf
      obtain ⟨h51, hf⟩ := zif_c hf
      obtain ⟨T49, eT49, hf⟩ := zl_i hf
      refine z_bint F XR kl_J4_append_bf812 ml_877 h50 h51 hP hS hl.1 (Nat.le_of_ble_eq_true rfl) dL_registry_107 (Nat.le_of_ble_eq_true rfl) ⟨by omega, by omega⟩ (fun H locs hP hS => ?_)
      rw [← eT49] at hP
      refine lv_bipush (v := 32) hx hb dL_registry_110 (by decide) ?_
      obtain ⟨h54, hf⟩ := zif_c hf
      obtain ⟨h55, hf⟩ := zif_c hf
      obtain ⟨T53, eT53, hf⟩ := zl_i hf
      refine z_bchr F XR kl_J4_append_cf468 ml_902 h54 h55 hP hS hl.1 (Nat.le_of_ble_eq_true rfl) dL_registry_112 (Nat.le_of_ble_eq_true rfl) ⟨by omega, by omega⟩ (fun H locs hP hS => ?_)
      rw [← eT53] at hP
      refine lv_iconst (v := 1) hx hb dL_registry_115 (by decide) ?_
      refine lv_aload_n hx hb dL_registry_116 rfl (lv_at hl 2 rfl) ?_
      obtain ⟨v56, T57, h59, hf⟩ := zb_i hf
      obtain ⟨T58, eT58, hf⟩ := zl_i hf
      refine z_bnext F XR kl_next ml_590 h59 hP hS hl.1 (Nat.le_of_ble_eq_true rfl) dL_registry_117 (Nat.le_of_ble_eq_true rfl) ⟨by omega, by omega⟩ (fun H locs hP hS => ?_)
      rw [← eT58] at hP
      refine lv_bipush (v := 20) hx hb dL_registry_120 (by decide) ?_
      refine lv_irem hx hb dL_registry_122 (by decide) ?_
      refine lv_iadd hx hb dL_registry_123 ?_
      obtain ⟨x63, ex63, hf⟩ := zl_i hf
      refine z_topi ex63 ?_
      obtain ⟨h61, hf⟩ := zif_c hf
      obtain ⟨h62, hf⟩ := zif_c hf
      obtain ⟨T60, eT60, hf⟩ := zl_i hf
      refine z_bint F XR kl_J4_append_bf812 ml_877 h61 h62 hP hS hl.1 (Nat.le_of_ble_eq_true rfl) dL_registry_124 (Nat.le_of_ble_eq_true rfl) ⟨by omega, by omega⟩ (fun H locs hP hS => ?_)
      rw [← eT60] at hP
      refine lv_bipush (v := 32) hx hb dL_registry_127 (by decide) ?_
      obtain ⟨h65, hf⟩ := zif_c hf
      obtain ⟨h66, hf⟩ := zif_c hf
      obtain ⟨T64, eT64, hf⟩ := zl_i hf
      refine z_bchr F XR kl_J4_append_cf468 ml_902 h65 h66 hP hS hl.1 (Nat.le_of_ble_eq_true rfl) dL_registry_129 (Nat.le_of_ble_eq_true rfl) ⟨by omega, by omega⟩ (fun H locs hP hS => ?_)
      rw [← eT64] at hP
      refine lv_aload_n hx hb dL_registry_132 rfl (lv_at hl 2 rfl) ?_
      obtain ⟨v67, T68, h70, hf⟩ := zb_i hf
      obtain ⟨T69, eT69, hf⟩ := zl_i hf
      refine z_bnext F XR kl_next ml_590 h70 hP hS hl.1 (Nat.le_of_ble_eq_true rfl) dL_registry_133 (Nat.le_of_ble_eq_true rfl) ⟨by omega, by omega⟩ (fun H locs hP hS => ?_)
      rw [← eT69] at hP
      refine lv_bipush (v := 15) hx hb dL_registry_136 (by decide) ?_
      refine lv_irem hx hb dL_registry_138 (by decide) ?_
      obtain ⟨x74, ex74, hf⟩ := zl_i hf
      refine z_topi ex74 ?_
      obtain ⟨h72, hf⟩ := zif_c hf
      obtain ⟨h73, hf⟩ := zif_c hf
      obtain ⟨T71, eT71, hf⟩ := zl_i hf
      refine z_bint F XR kl_J4_append_bf812 ml_877 h72 h73 hP hS hl.1 (Nat.le_of_ble_eq_true rfl) dL_registry_139 (Nat.le_of_ble_eq_true rfl) ⟨by omega, by omega⟩ (fun H locs hP hS => ?_)
      rw [← eT71] at hP
      refine lv_bipush (v := 32) hx hb dL_registry_142 (by decide) ?_
      obtain ⟨h76, hf⟩ := zif_c hf
      obtain ⟨h77, hf⟩ := zif_c hf
      obtain ⟨T75, eT75, hf⟩ := zl_i hf
      refine z_bchr F XR kl_J4_append_cf468 ml_902 h76 h77 hP hS hl.1 (Nat.le_of_ble_eq_true rfl) dL_registry_144 (Nat.le_of_ble_eq_true rfl) ⟨by omega, by omega⟩ (fun H locs hP hS => ?_)
      rw [← eT75] at hP
      refine lv_aload_n hx hb dL_registry_147 rfl (lv_at hl 2 rfl) ?_
      obtain ⟨v78, T79, h81, hf⟩ := zb_i hf
      obtain ⟨T80, eT80, hf⟩ := zl_i hf
      refine z_bnext F XR kl_next ml_590 h81 hP hS hl.1 (Nat.le_of_ble_eq_true rfl) dL_registry_148 (Nat.le_of_ble_eq_true rfl) ⟨by omega, by omega⟩ (fun H locs hP hS => ?_)
      rw [← eT80] at hP
      refine lv_iload_n hx hb dL_registry_151 rfl (lv_at hl 0 rfl) ?_
      obtain ⟨h82, hf⟩ := zif_c hf
      refine lv_irem hx hb dL_registry_152 h82 ?_
      obtain ⟨x86, ex86, hf⟩ := zl_i hf
      refine z_topi ex86 ?_
      obtain ⟨h84, hf⟩ := zif_c hf
      obtain ⟨h85, hf⟩ := zif_c hf
      obtain ⟨T83, eT83, hf⟩ := zl_i hf
      refine z_bint F XR kl_J4_append_bf812 ml_877 h84 h85 hP hS hl.1 (Nat.le_of_ble_eq_true rfl) dL_registry_153 (Nat.le_of_ble_eq_true rfl) ⟨by omega, by omega⟩ (fun H locs hP hS => ?_)
      rw [← eT83] at hP
      refine lv_pop hx hb dL_registry_156 rfl ?_
      obtain ⟨x87, ex87, hf⟩ := zl_i hf
      refine lv_iinc (v := x87) (lv' := [(4, .int x87), (0, .int w0), (1, .int w1), (2, .ref (G 0 8)), (3, .ref b)]) hx hb dL_registry_157 hl (k := 4) rfl (by rw [ex87]; rfl) (by decide) rfl (fun ls hl => ?_)
      refine lv_goto (tgt := 74) hx hb dL_registry_160 (by decide) ?_
      exact ih (cells + 10) (slots + 6000) x87 _ _ _ _ _ (by omega) (by omega) hf hP hS (lv_sub hl [1, 2, 3, 4, 0] rfl) k0_
set_option maxHeartbeats 8000000 in
set_option maxRecDepth 100000 in
theorem l_L_registry_171 {p : Program} {l : Launch} {e : Env} {s : State} {m : MethodId} {args : Array Value} {below : List Frame} {meth : Method} {c : Code} {Q : State → Prop} {D : va_G} {Y : Nat → ClassId} {S V : Nat → Nat} {G : Nat → Nat → Nat} {A : Nat → Prop} {b : Nat} {c0 : Cond} {mc ms : Nat} {ce se : Nat} (hcm : ce ≤ mc ∧ se ≤ ms) (F : zF 1 9 mc ms p l s m args c cL_registry 5 RL c0 D Y S V G A) (XR : zXR A G s) :
    ∀ (n cells slots : Nat) (u4 : Int32) (T : zTB) (o : (Int32) × zTB) (H : Heap) (locs : List Loc) (ls : Array Slot), cells + 4 * n ≤ ce → slots + 2400 * n ≤ se → lp_L_registry_171 n u4 T = some o → zPB D Y G b s.heap.size T H → va_S A s.heap H locs → lv_has ls 5 [(2, .ref (G 0 8)), (3, .ref b), (4, .int u4)] → (∀ (H : Heap) (locs : List Loc) (ls : Array Slot), zPB D Y G b s.heap.size o.2 H → va_S A s.heap H locs → lv_has ls 5 [(2, .ref (G 0 8)), (3, .ref b), (4, .int o.1)] → W p l e (zR 9 mc ms) s m args below meth c H locs ce se Q (F0 m 216 ls [])) → W p l e (zR 9 mc ms) s m args below meth c H locs cells slots Q (F0 m 171 ls []) := by
  obtain ⟨hx, hb, hml, hown, hts, hl9, hG, hK, hA⟩ := id F
  intro n
  induction n with
  | zero =>
    intro cells slots u4 T o H locs ls _ _ hf
    rw [lp_L_registry_171] at hf
    cases hf
  | succ n ih =>
    intro cells slots u4 T o H locs ls hc1 hc2 hf hP hS hl k0_
    rw [lp_L_registry_171] at hf
    refine lv_iload hx hb dL_registry_171 (lv_at hl 2 rfl) ?_
    refine lv_if_le (tgt := 216) hx hb dL_registry_173 (by decide) (fun hc => ?_) (fun hc => ?_)
    · have hf := zif_p hf hc
      cases hf
      refine W.widen (k := ce) (n := se) (by omega) (by omega) ?_
      exact k0_ _ _ _ hP hS (lv_sub hl [0, 1, 2] rfl)
    · have hf := zif_n hf hc
      refine lv_aload_n hx hb dL_registry_176 rfl (lv_at hl 1 rfl) ?_
      refine va_ldcS hx hb hown (hK.2.2.1 11 _ rfl) dL_registry_177 ?_
      obtain ⟨h98, hf⟩ := zif_c hf
      obtain ⟨T96, eT96, hf⟩ := zl_i hf
      refine z_bstr (i := 11) F XR kl_J4_append_15ec4 ml_916 (by decide) (by decide) h98 hP hS hl.1 (Nat.le_of_ble_eq_true rfl) dL_registry_179 (Nat.le_of_ble_eq_true rfl) ⟨by omega, by omega⟩ (fun H locs hP hS => ?_)
      rw [← eT96] at hP
      refine lv_aload_n hx hb dL_registry_182 rfl (lv_at hl 0 rfl) ?_
      obtain ⟨v99, T100, h102, hf⟩ := zb_i hf
      obtain ⟨T101, eT101, hf⟩ := zl_i hf
      refine z_bnext F XR kl_next ml_590 h102 hP hS hl.1 (Nat.le_of_ble_eq_true rfl) dL_registry_183 (Nat.le_of_ble_eq_true rfl) ⟨by omega, by omega⟩ (fun H locs hP hS => ?_)
      rw [← eT101] at hP
      refine lv_bipush (v := 6) hx hb dL_registry_186 (by decide) ?_
      refine lv_irem hx hb dL_registry_188 (by decide) ?_
      obtain ⟨x106, ex106, hf⟩ := zl_i hf
      refine z_topi ex106 ?_
      obtain ⟨h104, hf⟩ := zif_c hf
      obtain ⟨h105, hf⟩ := zif_c hf
      obtain ⟨T103, eT103, hf⟩ := zl_i hf
      refine z_bint F XR kl_J4_append_bf812 ml_877 h104 h105 hP hS hl.1 (Nat.le_of_ble_eq_true rfl) dL_registry_189 (Nat.le_of_ble_eq_true rfl) ⟨by omega, by omega⟩ (fun H locs hP hS => ?_)
      rw [← eT103] at hP
      refine lv_bipush (v := 32) hx hb dL_registry_192 (by decide) ?_
      obtain ⟨h108, hf⟩ := zif_c hf
      obtain ⟨h109, hf⟩ := zif_c hf
      obtain ⟨T107, eT107, hf⟩ := zl_i hf
      refine z_bchr F XR kl_J4_append_cf468 ml_902 h108 h109 hP hS hl.1 (Nat.le_of_ble_eq_true rfl) dL_registry_194 (Nat.le_of_ble_eq_true rfl) ⟨by omega, by omega⟩ (fun H locs hP hS => ?_)
      rw [← eT107] at hP
      refine lv_iconst (v := 1) hx hb dL_registry_197 (by decide) ?_
      refine lv_aload_n hx hb dL_registry_198 rfl (lv_at hl 0 rfl) ?_
      obtain ⟨v110, T111, h113, hf⟩ := zb_i hf
      obtain ⟨T112, eT112, hf⟩ := zl_i hf
      refine z_bnext F XR kl_next ml_590 h113 hP hS hl.1 (Nat.le_of_ble_eq_true rfl) dL_registry_199 (Nat.le_of_ble_eq_true rfl) ⟨by omega, by omega⟩ (fun H locs hP hS => ?_)
      rw [← eT112] at hP
      refine lv_bipush (v := 9) hx hb dL_registry_202 (by decide) ?_
      refine lv_irem hx hb dL_registry_204 (by decide) ?_
      refine lv_iadd hx hb dL_registry_205 ?_
      obtain ⟨x117, ex117, hf⟩ := zl_i hf
      refine z_topi ex117 ?_
      obtain ⟨h115, hf⟩ := zif_c hf
      obtain ⟨h116, hf⟩ := zif_c hf
      obtain ⟨T114, eT114, hf⟩ := zl_i hf
      refine z_bint F XR kl_J4_append_bf812 ml_877 h115 h116 hP hS hl.1 (Nat.le_of_ble_eq_true rfl) dL_registry_206 (Nat.le_of_ble_eq_true rfl) ⟨by omega, by omega⟩ (fun H locs hP hS => ?_)
      rw [← eT114] at hP
      refine lv_pop hx hb dL_registry_209 rfl ?_
      obtain ⟨x118, ex118, hf⟩ := zl_i hf
      refine lv_iinc (v := x118) (lv' := [(4, .int x118), (2, .ref (G 0 8)), (3, .ref b)]) hx hb dL_registry_210 hl (k := 2) rfl (by rw [ex118]; rfl) (by decide) rfl (fun ls hl => ?_)
      refine lv_goto (tgt := 171) hx hb dL_registry_213 (by decide) ?_
      exact ih (cells + 4) (slots + 2400) x118 _ _ _ _ _ (by omega) (by omega) hf hP hS (lv_sub hl [1, 2, 0] rfl) k0_
set_option maxHeartbeats 8000000 in
set_option maxRecDepth 100000 in
theorem r_L_registry {p : Program} {l : Launch} {e : Env} {s : State} {m : MethodId} {args : Array Value} {below : List Frame} {meth : Method} {c : Code} {Q : State → Prop} {D : va_G} {Y : Nat → ClassId} {S V : Nat → Nat} {G : Nat → Nat → Nat} {A : Nat → Prop} {b : Nat} {c0 : Cond} {mc ms : Nat} {ce se : Nat} (hcm : ce ≤ mc ∧ se ≤ ms) (F : zF 1 9 mc ms p l s m args c cL_registry 5 RL c0 D Y S V G A) (XR : zXR A G s) (p0 : Int32) (p1 : Int32) (cells slots : Nat) (T : zTB) {T' : zTB} {H : Heap} {locs : List Loc} {ls : Array Slot} (hc1 : cells + 139 ≤ ce) (hc2 : slots + 83400 ≤ se) (hf : rg_L_registry p0 p1 T = some ((), T')) (hP : zPB D Y G b s.heap.size T H) (hS : va_S A s.heap H locs) (hl : lv_has ls 5 [(0, .int p0), (1, .int p1), (2, .ref (G 0 8))])
    (k0_ : ∀ (H : Heap) (locs : List Loc) (ls : Array Slot), zPB D Y G b s.heap.size T' H → va_S A s.heap H locs → lv_has ls 5 [(3, .ref b)] → W p l e (zR 9 mc ms) s m args below meth c H locs ce se Q (F0 m 216 ls [])) :
    W p l e (zR 9 mc ms) s m args below meth c H locs cells slots Q (F0 m 9 ls [.ref b]) := by
  obtain ⟨hx, hb, hml, hown, hts, hl9, hG, hK, hA⟩ := id F
  unfold rg_L_registry at hf
  refine lv_aload_n hx hb dL_registry_9 rfl (lv_at hl 2 rfl) ?_
  obtain ⟨v1, T2, h4, hf⟩ := zb_i hf
  obtain ⟨T3, eT3, hf⟩ := zl_i hf
  refine z_bnext F XR kl_next ml_590 h4 hP hS hl.1 (Nat.le_of_ble_eq_true rfl) dL_registry_10 (Nat.le_of_ble_eq_true rfl) ⟨by omega, by omega⟩ (fun H locs hP hS => ?_)
  rw [← eT3] at hP
  refine lv_sipush (v := 9973) hx hb dL_registry_13 (by decide) ?_
  refine lv_irem hx hb dL_registry_16 (by decide) ?_
  obtain ⟨x8, ex8, hf⟩ := zl_i hf
  refine z_topi ex8 ?_
  obtain ⟨h6, hf⟩ := zif_c hf
  obtain ⟨h7, hf⟩ := zif_c hf
  obtain ⟨T5, eT5, hf⟩ := zl_i hf
  refine z_bint F XR kl_J4_append_bf812 ml_877 h6 h7 hP hS hl.1 (Nat.le_of_ble_eq_true rfl) dL_registry_17 (Nat.le_of_ble_eq_true rfl) ⟨by omega, by omega⟩ (fun H locs hP hS => ?_)
  rw [← eT5] at hP
  refine lv_bipush (v := 32) hx hb dL_registry_20 (by decide) ?_
  obtain ⟨h10, hf⟩ := zif_c hf
  obtain ⟨h11, hf⟩ := zif_c hf
  obtain ⟨T9, eT9, hf⟩ := zl_i hf
  refine z_bchr F XR kl_J4_append_cf468 ml_902 h10 h11 hP hS hl.1 (Nat.le_of_ble_eq_true rfl) dL_registry_22 (Nat.le_of_ble_eq_true rfl) ⟨by omega, by omega⟩ (fun H locs hP hS => ?_)
  rw [← eT9] at hP
  refine lv_aload_n hx hb dL_registry_25 rfl (lv_at hl 2 rfl) ?_
  obtain ⟨v12, T13, h15, hf⟩ := zb_i hf
  obtain ⟨T14, eT14, hf⟩ := zl_i hf
  refine z_bnext F XR kl_next ml_590 h15 hP hS hl.1 (Nat.le_of_ble_eq_true rfl) dL_registry_26 (Nat.le_of_ble_eq_true rfl) ⟨by omega, by omega⟩ (fun H locs hP hS => ?_)
  rw [← eT14] at hP
  refine lv_sipush (v := 300) hx hb dL_registry_29 (by decide) ?_
  refine lv_irem hx hb dL_registry_32 (by decide) ?_
  obtain ⟨x19, ex19, hf⟩ := zl_i hf
  refine z_topi ex19 ?_
  obtain ⟨h17, hf⟩ := zif_c hf
  obtain ⟨h18, hf⟩ := zif_c hf
  obtain ⟨T16, eT16, hf⟩ := zl_i hf
  refine z_bint F XR kl_J4_append_bf812 ml_877 h17 h18 hP hS hl.1 (Nat.le_of_ble_eq_true rfl) dL_registry_33 (Nat.le_of_ble_eq_true rfl) ⟨by omega, by omega⟩ (fun H locs hP hS => ?_)
  rw [← eT16] at hP
  refine lv_astore_n (lv' := [(3, .ref b), (0, .int p0), (1, .int p1), (2, .ref (G 0 8))]) hx hb dL_registry_36 rfl hl (by decide) rfl (fun ls hl => ?_)
  refine lv_iconst (v := 0) hx hb dL_registry_37 (by decide) ?_
  refine lv_istore (lv' := [(4, .int 0), (3, .ref b), (0, .int p0), (1, .int p1), (2, .ref (G 0 8))]) hx hb dL_registry_38 hl (by decide) rfl (fun ls hl => ?_)
  obtain ⟨v33, T32, h34, hf⟩ := zbR_i hf
  refine l_L_registry_40 (ce := cells + 15) (se := slots + 9000) ⟨(by omega), (by omega)⟩ F XR p0 p1 6 (cells + 3) (slots + 1800) 0 _ _ _ _ _ (by omega) (by omega) h34 hP hS (lv_sub hl [2, 3, 4, 1, 0] rfl) (fun H locs ls hP hS hl => ?_)
  refine lv_iconst (v := 0) hx hb dL_registry_71 (by decide) ?_
  refine lv_istore (lv' := [(4, .int 0), (0, .int p0), (1, .int p1), (2, .ref (G 0 8)), (3, .ref b)]) hx hb dL_registry_72 hl (by decide) rfl (fun ls hl => ?_)
  obtain ⟨v89, T88, h90, hf⟩ := zbR_i hf
  refine l_L_registry_74 (ce := cells + 115) (se := slots + 69000) ⟨(by omega), (by omega)⟩ F XR p0 p1 10 (cells + 15) (slots + 9000) 0 _ _ _ _ _ (by omega) (by omega) h90 hP hS (lv_sub hl [1, 2, 3, 4, 0] rfl) (fun H locs ls hP hS hl => ?_)
  refine lv_aload_n hx hb dL_registry_163 rfl (lv_at hl 2 rfl) ?_
  obtain ⟨v91, T92, h94, hf⟩ := zb_i hf
  obtain ⟨T93, eT93, hf⟩ := zl_i hf
  refine z_bnext F XR kl_next ml_590 h94 hP hS hl.1 (Nat.le_of_ble_eq_true rfl) dL_registry_164 (Nat.le_of_ble_eq_true rfl) ⟨by omega, by omega⟩ (fun H locs hP hS => ?_)
  rw [← eT93] at hP
  refine lv_iconst (v := 5) hx hb dL_registry_167 (by decide) ?_
  refine lv_irem hx hb dL_registry_168 (by decide) ?_
  obtain ⟨x95, ex95, hf⟩ := zl_i hf
  refine z_topi ex95 ?_
  refine lv_istore (lv' := [(4, .int x95), (0, .int p0), (1, .int p1), (2, .ref (G 0 8)), (3, .ref b)]) hx hb dL_registry_169 hl (by decide) rfl (fun ls hl => ?_)
  obtain ⟨v120, T119, h121, hf⟩ := zbR_i hf
  refine l_L_registry_171 (ce := cells + 139) (se := slots + 83400) ⟨(by omega), (by omega)⟩ F XR  6 (cells + 115) (slots + 69000) x95 _ _ _ _ _ (by omega) (by omega) h121 hP hS (lv_sub hl [3, 4, 0] rfl) (fun H locs ls hP hS hl => ?_)
  cases hf
  refine W.widen (k := ce) (n := se) (by omega) (by omega) ?_
  exact k0_ _ _ _ hP hS (lv_sub hl [1] rfl)
