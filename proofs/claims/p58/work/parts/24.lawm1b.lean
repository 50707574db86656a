/-! THE LAW'S OWN METHODS, by program -/
def lp_L_children_111 (w1 : Int32) (w2 : Int32) (w3 : Int32) (w4 : Int32) (w5 : Int32) (w7 : Int32) (w8 : Int32) (w9 : Int32) : Nat → Int32 → Int32 → zT → Option ((Int32 × Int32) × zT)
  | 0, _, _, _ => none
  | n + 1, u10, u11, T => zb (f_X3_childCount T) fun v31 T32 => (if v31 ≤ u11 then some ((u10, u11), T32) else zbi (f_X3_cakeOf u11 T32) fun v34 T35 => zbi (f_X3_cakeOf w7 T35) fun v37 T38 => zl (fun (z43 : Int32) (z44 : Int32) (T42 : zT) => zl (z43 + z44) fun x45 => zl (u11 + 1) fun x46 => lp_L_children_111 w1 w2 w3 w4 w5 w7 w8 w9 n x45 x46 T42) fun K40 => (if v34 = v37 then K40 u10 1 T38 else K40 u10 0 T38))
def lp_L_children_51 (w1 : Int32) : Nat → Int32 → Int32 → Int32 → Int32 → Int32 → Int32 → zT → Option ((Int32 × Int32 × Int32 × Int32 × Int32 × Int32) × zT)
  | 0, _, _, _, _, _, _, _ => none
  | n + 1, u2, u3, u4, u5, u6, u7, T => zb (f_X3_childCount T) fun v21 T22 => (if v21 ≤ u7 then some ((u2, u3, u4, u5, u6, u7), T22) else (if u6 = 0 then some ((u2, u3, u4, u5, u6, u7), T22) else zbi (f_X3_birthdayOf u7 T22) fun v24 T25 => zl (fun (z30 : Int32) (T29 : zT) => zb (lp_L_children_111 w1 u2 u3 u4 u5 u7 v24 z30 16 0 0 T29) fun v48 T47 => zl (fun (z62 : Int32) (T61 : zT) => zbi (f_X3_ageOf u7 T61) fun v63 T64 => zl (u3 + v63) fun x66 => zbi (f_X3_wishesOf u7 T64) fun v67 T68 => zl (u4 + v67) fun x70 => zbi (f_X3_partiesOf u7 T68) fun v71 T72 => zl (u5 + v71) fun x74 => zbi (f_X3_daysUntilBirthday u7 T72) fun v75 T76 => zl (fun (T108 : zT) => zl (u7 + 1) fun x109 => lp_L_children_51 w1 n z62 x66 x70 x74 0 x109 T108) fun K78 => (if v75 = z30 then zbi (f_X3_wishesOf u7 T76) fun v80 T81 => zbi (f_X3_partiesOf u7 T81) fun v83 T84 => (if v83 < v80 then K78 T84 else zbi (f_X3_strengthOf u7 T84) fun v86 T87 => zbi (f_X3_breathOf u7 T87) fun v89 T90 => zbi (f_X3_gardenOf u7 T90) fun v92 T93 => zbi (f_X3_seatsOf v92 T93) fun v95 T96 => (if v86 = (v89 + (if (v95 - 1) < (v48.1 - 1) then (v95 - 1) else (v48.1 - 1))) then zl (fun (T106 : zT) => zl (u7 + 1) fun x107 => lp_L_children_51 w1 n z62 x66 x70 x74 1 x107 T106) fun K98 => (if v24 < 0 then K98 T96 else zbi (f_X3_gardenOf u7 T96) fun v100 T101 => zbi (f_X3_partyIn v100 ((v24 / 30) + 1) ((v24 - v24 / 30 * 30) + 1) T101) fun v103 T104 => (if v103 = u7 then K98 T104 else K78 T104)) else K78 T96)) else K78 T76)) fun K52 => zl (fun (T60 : zT) => K52 u2 T60) fun K50 => (if z30 ≤ 0 then K50 T47 else zl (fun (T59 : zT) => K52 u7 T59) fun K54 => (if u2 < 0 then K54 T47 else zbi (f_X3_daysUntilBirthday u2 T47) fun v56 T57 => (if v56 ≤ z30 then K50 T57 else K54 T57)))) fun K27 => (if 0 ≤ v24 then (if v24 ≤ w1 then K27 ((v24 - w1) + 360) T25 else K27 (v24 - w1) T25) else K27 (-1) T25)))
def f_L_children (T : zT) : Option (Int32 × zT) := zb (f_X3_month T) fun v1 T2 => zb (f_X3_dayOfMonth T2) fun v4 T5 => zl ((((v1 - 1) * 30) + v4) - 1) fun x7 => zb (f_X3_clashes T5) fun v8 T9 => zl (fun (z20 : Int32) (T19 : zT) => zb (lp_L_children_51 x7 16 (-1) 0 0 0 z20 0 T19) fun v111 T110 => zb (f_X3_childCount T110) fun v113 T114 => (if v111.2.2.2.2.1 = 0 then some (0, T114) else zb (f_X3_nextChild T114) fun v116 T117 => (if v116 = v111.1 then zb (f_X3_heldParties T117) fun v119 T120 => (if v119 = v111.2.2.2.1 then zb (f_X3_meanAge T120) fun v122 T123 => zl (fun (z129 : UInt64) (z130 : UInt64) (T128 : zT) => (if (Op.cmpValue (FP.dcmp z129 z130) .l) = 0 then zb (f_X3_wishShare T128) fun v131 T132 => zl (fun (z138 : UInt32) (z139 : UInt32) (T137 : zT) => (if (Op.cmpValue (FP.fcmp z138 z139) .l) = 0 then some (1, T137) else some (0, T137))) fun K134 => (if v111.2.2.2.1 = 0 then K134 v131 (FP.fconst0) T132 else if ¬ v111.2.2.2.1 = 0 then K134 v131 (FP.fdiv (FP.i2f v111.2.2.1) (FP.i2f v111.2.2.2.1)) T132 else none) else some (0, T128))) fun K125 => (if v113 = 0 then K125 v122 (FP.dconst0) T123 else if ¬ v113 = 0 then K125 v122 (FP.ddiv (FP.i2d v111.2.1) (FP.i2d v113)) T123 else none) else some (0, T120)) else some (0, T117)))) fun K13 => zl (fun (T18 : zT) => K13 0 T18) fun K11 => (if v8 = 0 then zb (f_X3_candleDifference T9) fun v15 T16 => (if v15 = 0 then K13 1 T16 else K11 T16) else K11 T9)
set_option maxHeartbeats 8000000 in
set_option maxRecDepth 100000 in
theorem l_L_children_111 {p : Program} {l : Launch} {e : Env} {s : State} {m : MethodId} {args : Array Value} {below : List Frame} {meth : Method} {c : Code} {Q : State → Prop} {D : va_G} {Y : Nat → ClassId} {S V : Nat → Nat} {G : Nat → Nat → Nat} {A : Nat → Prop} {c0 : Cond} {mc ms : Nat} {ce se : Nat} (hcm : ce ≤ mc ∧ se ≤ ms) (F : zF 0 8 mc ms p l s m args c cL_children 12 RL c0 D Y S V G A) (w1 : Int32) (w2 : Int32) (w3 : Int32) (w4 : Int32) (w5 : Int32) (w7 : Int32) (w8 : Int32) (w9 : Int32) :
    ∀ (n cells slots : Nat) (u10 : Int32) (u11 : Int32) (T : zT) (o : (Int32 × Int32) × zT) (H : Heap) (locs : List Loc) (ls : Array Slot), cells + 2 * n ≤ ce → slots + 12 * n ≤ se → lp_L_children_111 w1 w2 w3 w4 w5 w7 w8 w9 n u10 u11 T = some o → zP 0 D Y G T H → va_S A s.heap H locs → lv_has ls 12 [(0, .ref (G 0 0)), (1, .int w1), (2, .int w2), (3, .int w3), (4, .int w4), (5, .int w5), (7, .int w7), (8, .int w8), (9, .int w9), (10, .int u10), (11, .int u11)] → (∀ (H : Heap) (locs : List Loc) (ls : Array Slot), zP 0 D Y G o.2 H → va_S A s.heap H locs → lv_has ls 12 [(0, .ref (G 0 0)), (1, .int w1), (2, .int w2), (3, .int w3), (4, .int w4), (5, .int w5), (7, .int w7), (8, .int w8), (9, .int w9), (10, .int o.1.1), (11, .int o.1.2)] → W p l e (zR 8 mc ms) s m args below meth c H locs ce se Q (F0 m 151 ls [])) → W p l e (zR 8 mc ms) s m args below meth c H locs cells slots Q (F0 m 111 ls []) := by
  obtain ⟨hx, hb, hml, hown, hts, hl9, hG, hK, hA⟩ := id F
  intro n
  induction n with
  | zero =>
    intro cells slots u10 u11 T o H locs ls _ _ hf
    rw [lp_L_children_111] at hf
    cases hf
  | succ n ih =>
    intro cells slots u10 u11 T o H locs ls hc1 hc2 hf hP hS hl k0_
    rw [lp_L_children_111] at hf
    refine lv_iload hx hb dL_children_111 (lv_at hl 10 rfl) ?_
    refine lv_aload_n hx hb dL_children_113 rfl (lv_at hl 0 rfl) ?_
    obtain ⟨v31, T32, h33, hf⟩ := zb_i hf
    refine z_ok (z_runV (As := []) (rest := [.int u11]) F k_X3_childCount ml_1023 (c_X3_childCount T T32 v31 h33) hP hS (zV_0 (by decide)) rfl rfl rfl rfl hl.1 (Nat.le_of_ble_eq_true rfl) dL_children_114 (Nat.le_of_ble_eq_true rfl) ⟨by omega, by omega⟩ rfl) hS (fun H locs hP hS => ?_)
    refine lv_icmp_ge (tgt := 151) hx hb dL_children_117 (by decide) (fun hc => ?_) (fun hc => ?_)
    · have hf := zif_p hf hc
      cases hf
      refine W.widen (k := ce) (n := se) (by omega) (by omega) ?_
      exact k0_ _ _ _ hP hS (lv_sub hl [0, 1, 2, 3, 4, 5, 6, 7, 8, 9, 10] rfl)
    · have hf := zif_n hf hc
      refine lv_iload hx hb dL_children_120 (lv_at hl 9 rfl) ?_
      refine lv_aload_n hx hb dL_children_122 rfl (lv_at hl 0 rfl) ?_
      refine lv_iload hx hb dL_children_123 (lv_at hl 10 rfl) ?_
      obtain ⟨v34, T35, h36, hf⟩ := zbi_i hf
      refine z_ok (z_runV (As := [.int u11]) (rest := [.int u10]) F k_X3_cakeOf ml_1073 (c_X3_cakeOf u11 T32 T35 (.inl v34) h36) hP hS (zV_0 (by decide)) rfl rfl rfl rfl hl.1 (Nat.le_of_ble_eq_true rfl) dL_children_125 (Nat.le_of_ble_eq_true rfl) ⟨by omega, by omega⟩ rfl) hS (fun H locs hP hS => ?_)
      refine lv_aload_n hx hb dL_children_128 rfl (lv_at hl 0 rfl) ?_
      refine lv_iload hx hb dL_children_129 (lv_at hl 6 rfl) ?_
      obtain ⟨v37, T38, h39, hf⟩ := zbi_i hf
      refine z_ok (z_runV (As := [.int w7]) (rest := [.int v34, .int u10]) F k_X3_cakeOf ml_1073 (c_X3_cakeOf w7 T35 T38 (.inl v37) h39) hP hS (zV_0 (by decide)) rfl rfl rfl rfl hl.1 (Nat.le_of_ble_eq_true rfl) dL_children_131 (Nat.le_of_ble_eq_true rfl) ⟨by omega, by omega⟩ rfl) hS (fun H locs hP hS => ?_)
      obtain ⟨K40, eK40, hf⟩ := zl_i hf
      have J41 : ∀ (z43 : Int32) (z44 : Int32) (T42 : zT) (H : Heap) (locs : List Loc) (ls : Array Slot), K40 z43 z44 T42 = some o → zP 0 D Y G T42 H → va_S A s.heap H locs → lv_has ls 12 [(0, .ref (G 0 0)), (1, .int w1), (2, .int w2), (3, .int w3), (4, .int w4), (5, .int w5), (7, .int w7), (8, .int w8), (9, .int w9), (11, .int u11)] → W p l e (zR 8 mc ms) s m args below meth c H locs (cells + 2) (slots + 12) Q (F0 m 142 ls [.int z44, .int z43]) := by
        intro z43 z44 T42 H locs ls hf hP hS hl
        rw [eK40] at hf
        dsimp only at hf
        refine lv_iadd hx hb dL_children_142 ?_
        obtain ⟨x45, ex45, hf⟩ := zl_i hf
        refine z_topi ex45 ?_
        refine lv_istore (lv' := [(10, .int x45), (0, .ref (G 0 0)), (1, .int w1), (2, .int w2), (3, .int w3), (4, .int w4), (5, .int w5), (7, .int w7), (8, .int w8), (9, .int w9), (11, .int u11)]) hx hb dL_children_143 hl (by decide) rfl (fun ls hl => ?_)
        obtain ⟨x46, ex46, hf⟩ := zl_i hf
        refine lv_iinc (v := x46) (lv' := [(11, .int x46), (10, .int x45), (0, .ref (G 0 0)), (1, .int w1), (2, .int w2), (3, .int w3), (4, .int w4), (5, .int w5), (7, .int w7), (8, .int w8), (9, .int w9)]) hx hb dL_children_145 hl (k := 10) rfl (by rw [ex46]; rfl) (by decide) rfl (fun ls hl => ?_)
        refine lv_goto (tgt := 111) hx hb dL_children_148 (by decide) ?_
        exact ih (cells + 2) (slots + 12) x45 x46 _ _ _ _ _ (by omega) (by omega) hf hP hS (lv_sub hl [2, 3, 4, 5, 6, 7, 8, 9, 10, 1, 0] rfl) k0_
      refine lv_icmp_ne (tgt := 141) hx hb dL_children_134 (by decide) (fun hc => ?_) (fun hc => ?_)
      · have hf := zif_n hf hc
        refine lv_iconst (v := 0) hx hb dL_children_141 (by decide) ?_
        refine W.widen (k := cells + 2) (n := slots + 12) (by omega) (by omega) ?_
        exact J41 u10 0 T38 _ _ _ hf hP hS (lv_sub hl [0, 1, 2, 3, 4, 5, 6, 7, 8, 10] rfl)
      · have hf := zif_p hf hc
        refine lv_iconst (v := 1) hx hb dL_children_137 (by decide) ?_
        refine lv_goto (tgt := 142) hx hb dL_children_138 (by decide) ?_
        refine W.widen (k := cells + 2) (n := slots + 12) (by omega) (by omega) ?_
        exact J41 u10 1 T38 _ _ _ hf hP hS (lv_sub hl [0, 1, 2, 3, 4, 5, 6, 7, 8, 10] rfl)
set_option maxHeartbeats 8000000 in
set_option maxRecDepth 100000 in
theorem l_L_children_51 {p : Program} {l : Launch} {e : Env} {s : State} {m : MethodId} {args : Array Value} {below : List Frame} {meth : Method} {c : Code} {Q : State → Prop} {D : va_G} {Y : Nat → ClassId} {S V : Nat → Nat} {G : Nat → Nat → Nat} {A : Nat → Prop} {c0 : Cond} {mc ms : Nat} {ce se : Nat} (hcm : ce ≤ mc ∧ se ≤ ms) (F : zF 0 8 mc ms p l s m args c cL_children 12 RL c0 D Y S V G A) (w1 : Int32) :
    ∀ (n cells slots : Nat) (u2 : Int32) (u3 : Int32) (u4 : Int32) (u5 : Int32) (u6 : Int32) (u7 : Int32) (T : zT) (o : (Int32 × Int32 × Int32 × Int32 × Int32 × Int32) × zT) (H : Heap) (locs : List Loc) (ls : Array Slot), cells + 47 * n ≤ ce → slots + 282 * n ≤ se → lp_L_children_51 w1 n u2 u3 u4 u5 u6 u7 T = some o → zP 0 D Y G T H → va_S A s.heap H locs → lv_has ls 12 [(0, .ref (G 0 0)), (1, .int w1), (2, .int u2), (3, .int u3), (4, .int u4), (5, .int u5), (6, .int u6), (7, .int u7)] → (∀ (H : Heap) (locs : List Loc) (ls : Array Slot), zP 0 D Y G o.2 H → va_S A s.heap H locs → lv_has ls 12 [(0, .ref (G 0 0)), (1, .int w1), (2, .int o.1.1), (3, .int o.1.2.1), (4, .int o.1.2.2.1), (5, .int o.1.2.2.2.1), (6, .int o.1.2.2.2.2.1), (7, .int o.1.2.2.2.2.2)] → W p l e (zR 8 mc ms) s m args below meth c H locs ce se Q (F0 m 316 ls [])) → W p l e (zR 8 mc ms) s m args below meth c H locs cells slots Q (F0 m 51 ls []) := by
  obtain ⟨hx, hb, hml, hown, hts, hl9, hG, hK, hA⟩ := id F
  intro n
  induction n with
  | zero =>
    intro cells slots u2 u3 u4 u5 u6 u7 T o H locs ls _ _ hf
    rw [lp_L_children_51] at hf
    cases hf
  | succ n ih =>
    intro cells slots u2 u3 u4 u5 u6 u7 T o H locs ls hc1 hc2 hf hP hS hl k0_
    rw [lp_L_children_51] at hf
    refine lv_iload hx hb dL_children_51 (lv_at hl 7 rfl) ?_
    refine lv_aload_n hx hb dL_children_53 rfl (lv_at hl 0 rfl) ?_
    obtain ⟨v21, T22, h23, hf⟩ := zb_i hf
    refine z_ok (z_runV (As := []) (rest := [.int u7]) F k_X3_childCount ml_1023 (c_X3_childCount T T22 v21 h23) hP hS (zV_0 (by decide)) rfl rfl rfl rfl hl.1 (Nat.le_of_ble_eq_true rfl) dL_children_54 (Nat.le_of_ble_eq_true rfl) ⟨by omega, by omega⟩ rfl) hS (fun H locs hP hS => ?_)
    refine lv_icmp_ge (tgt := 316) hx hb dL_children_57 (by decide) (fun hc => ?_) (fun hc => ?_)
    · have hf := zif_p hf hc
      cases hf
      refine W.widen (k := ce) (n := se) (by omega) (by omega) ?_
      exact k0_ _ _ _ hP hS (lv_sub hl [0, 1, 2, 3, 4, 5, 6, 7] rfl)
    · have hf := zif_n hf hc
      refine lv_iload hx hb dL_children_60 (lv_at hl 6 rfl) ?_
      refine lv_if_eq (tgt := 316) hx hb dL_children_62 (by decide) (fun hc => ?_) (fun hc => ?_)
      · have hf := zif_p hf hc
        cases hf
        refine W.widen (k := ce) (n := se) (by omega) (by omega) ?_
        exact k0_ _ _ _ hP hS (lv_sub hl [0, 1, 2, 3, 4, 5, 6, 7] rfl)
      · have hf := zif_n hf hc
        refine lv_aload_n hx hb dL_children_65 rfl (lv_at hl 0 rfl) ?_
        refine lv_iload hx hb dL_children_66 (lv_at hl 7 rfl) ?_
        obtain ⟨v24, T25, h26, hf⟩ := zbi_i hf
        refine z_ok (z_runV (As := [.int u7]) (rest := []) F k_X3_birthdayOf ml_1035 (c_X3_birthdayOf u7 T22 T25 (.inl v24) h26) hP hS (zV_0 (by decide)) rfl rfl rfl rfl hl.1 (Nat.le_of_ble_eq_true rfl) dL_children_68 (Nat.le_of_ble_eq_true rfl) ⟨by omega, by omega⟩ rfl) hS (fun H locs hP hS => ?_)
        refine lv_istore (lv' := [(8, .int v24), (0, .ref (G 0 0)), (1, .int w1), (2, .int u2), (3, .int u3), (4, .int u4), (5, .int u5), (6, .int u6), (7, .int u7)]) hx hb dL_children_71 hl (by decide) rfl (fun ls hl => ?_)
        refine lv_iload hx hb dL_children_73 (lv_at hl 0 rfl) ?_
        obtain ⟨K27, eK27, hf⟩ := zl_i hf
        have J28 : ∀ (z30 : Int32) (T29 : zT) (H : Heap) (locs : List Loc) (ls : Array Slot), K27 z30 T29 = some o → zP 0 D Y G T29 H → va_S A s.heap H locs → lv_has ls 12 [(0, .ref (G 0 0)), (1, .int w1), (2, .int u2), (3, .int u3), (4, .int u4), (5, .int u5), (7, .int u7), (8, .int v24)] → W p l e (zR 8 mc ms) s m args below meth c H locs (cells + 1) (slots + 6) Q (F0 m 103 ls [.int z30]) := by
          intro z30 T29 H locs ls hf hP hS hl
          rw [eK27] at hf
          dsimp only at hf
          refine lv_istore (lv' := [(9, .int z30), (0, .ref (G 0 0)), (1, .int w1), (2, .int u2), (3, .int u3), (4, .int u4), (5, .int u5), (7, .int u7), (8, .int v24)]) hx hb dL_children_103 hl (by decide) rfl (fun ls hl => ?_)
          refine lv_iconst (v := 0) hx hb dL_children_105 (by decide) ?_
          refine lv_istore (lv' := [(10, .int 0), (9, .int z30), (0, .ref (G 0 0)), (1, .int w1), (2, .int u2), (3, .int u3), (4, .int u4), (5, .int u5), (7, .int u7), (8, .int v24)]) hx hb dL_children_106 hl (by decide) rfl (fun ls hl => ?_)
          refine lv_iconst (v := 0) hx hb dL_children_108 (by decide) ?_
          refine lv_istore (lv' := [(11, .int 0), (10, .int 0), (9, .int z30), (0, .ref (G 0 0)), (1, .int w1), (2, .int u2), (3, .int u3), (4, .int u4), (5, .int u5), (7, .int u7), (8, .int v24)]) hx hb dL_children_109 hl (by decide) rfl (fun ls hl => ?_)
          obtain ⟨v48, T47, h49, hf⟩ := zb_i hf
          refine l_L_children_111 (ce := cells + 33) (se := slots + 198) ⟨(by omega), (by omega)⟩ F w1 u2 u3 u4 u5 u7 v24 z30 16 (cells + 1) (slots + 6) 0 0 _ _ _ _ _ (by omega) (by omega) h49 hP hS (lv_sub hl [3, 4, 5, 6, 7, 8, 9, 10, 2, 1, 0] rfl) (fun H locs ls hP hS hl => ?_)
          refine lv_iload hx hb dL_children_151 (lv_at hl 8 rfl) ?_
          obtain ⟨K52, eK52, hf⟩ := zl_i hf
          have J53 : ∀ (z62 : Int32) (T61 : zT) (H : Heap) (locs : List Loc) (ls : Array Slot), K52 z62 T61 = some o → zP 0 D Y G T61 H → va_S A s.heap H locs → lv_has ls 12 [(0, .ref (G 0 0)), (1, .int w1), (3, .int u3), (4, .int u4), (5, .int u5), (7, .int u7), (8, .int v24), (9, .int z30), (10, .int v48.1)] → W p l e (zR 8 mc ms) s m args below meth c H locs (cells + 34) (slots + 204) Q (F0 m 176 ls [.int z62]) := by
            intro z62 T61 H locs ls hf hP hS hl
            rw [eK52] at hf
            dsimp only at hf
            refine lv_istore_n (lv' := [(2, .int z62), (0, .ref (G 0 0)), (1, .int w1), (3, .int u3), (4, .int u4), (5, .int u5), (7, .int u7), (8, .int v24), (9, .int z30), (10, .int v48.1)]) hx hb dL_children_176 rfl hl (by decide) rfl (fun ls hl => ?_)
            refine lv_iload_n hx hb dL_children_177 rfl (lv_at hl 3 rfl) ?_
            refine lv_aload_n hx hb dL_children_178 rfl (lv_at hl 1 rfl) ?_
            refine lv_iload hx hb dL_children_179 (lv_at hl 6 rfl) ?_
            obtain ⟨v63, T64, h65, hf⟩ := zbi_i hf
            refine z_ok (z_runV (As := [.int u7]) (rest := [.int u3]) F k_X3_ageOf ml_1027 (c_X3_ageOf u7 T61 T64 (.inl v63) h65) hP hS (zV_0 (by decide)) rfl rfl rfl rfl hl.1 (Nat.le_of_ble_eq_true rfl) dL_children_181 (Nat.le_of_ble_eq_true rfl) ⟨by omega, by omega⟩ rfl) hS (fun H locs hP hS => ?_)
            refine lv_iadd hx hb dL_children_184 ?_
            obtain ⟨x66, ex66, hf⟩ := zl_i hf
            refine z_topi ex66 ?_
            refine lv_istore_n (lv' := [(3, .int x66), (2, .int z62), (0, .ref (G 0 0)), (1, .int w1), (4, .int u4), (5, .int u5), (7, .int u7), (8, .int v24), (9, .int z30), (10, .int v48.1)]) hx hb dL_children_185 rfl hl (by decide) rfl (fun ls hl => ?_)
            refine lv_iload hx hb dL_children_186 (lv_at hl 4 rfl) ?_
            refine lv_aload_n hx hb dL_children_188 rfl (lv_at hl 2 rfl) ?_
            refine lv_iload hx hb dL_children_189 (lv_at hl 6 rfl) ?_
            obtain ⟨v67, T68, h69, hf⟩ := zbi_i hf
            refine z_ok (z_runV (As := [.int u7]) (rest := [.int u4]) F k_X3_wishesOf ml_1043 (c_X3_wishesOf u7 T64 T68 (.inl v67) h69) hP hS (zV_0 (by decide)) rfl rfl rfl rfl hl.1 (Nat.le_of_ble_eq_true rfl) dL_children_191 (Nat.le_of_ble_eq_true rfl) ⟨by omega, by omega⟩ rfl) hS (fun H locs hP hS => ?_)
            refine lv_iadd hx hb dL_children_194 ?_
            obtain ⟨x70, ex70, hf⟩ := zl_i hf
            refine z_topi ex70 ?_
            refine lv_istore (lv' := [(4, .int x70), (3, .int x66), (2, .int z62), (0, .ref (G 0 0)), (1, .int w1), (5, .int u5), (7, .int u7), (8, .int v24), (9, .int z30), (10, .int v48.1)]) hx hb dL_children_195 hl (by decide) rfl (fun ls hl => ?_)
            refine lv_iload hx hb dL_children_197 (lv_at hl 5 rfl) ?_
            refine lv_aload_n hx hb dL_children_199 rfl (lv_at hl 3 rfl) ?_
            refine lv_iload hx hb dL_children_200 (lv_at hl 6 rfl) ?_
            obtain ⟨v71, T72, h73, hf⟩ := zbi_i hf
            refine z_ok (z_runV (As := [.int u7]) (rest := [.int u5]) F k_X3_partiesOf ml_1039 (c_X3_partiesOf u7 T68 T72 (.inl v71) h73) hP hS (zV_0 (by decide)) rfl rfl rfl rfl hl.1 (Nat.le_of_ble_eq_true rfl) dL_children_202 (Nat.le_of_ble_eq_true rfl) ⟨by omega, by omega⟩ rfl) hS (fun H locs hP hS => ?_)
            refine lv_iadd hx hb dL_children_205 ?_
            obtain ⟨x74, ex74, hf⟩ := zl_i hf
            refine z_topi ex74 ?_
            refine lv_istore (lv' := [(5, .int x74), (4, .int x70), (3, .int x66), (2, .int z62), (0, .ref (G 0 0)), (1, .int w1), (7, .int u7), (8, .int v24), (9, .int z30), (10, .int v48.1)]) hx hb dL_children_206 hl (by decide) rfl (fun ls hl => ?_)
            refine lv_aload_n hx hb dL_children_208 rfl (lv_at hl 4 rfl) ?_
            refine lv_iload hx hb dL_children_209 (lv_at hl 6 rfl) ?_
            obtain ⟨v75, T76, h77, hf⟩ := zbi_i hf
            refine z_ok (z_runV (As := [.int u7]) (rest := []) F k_X3_daysUntilBirthday ml_1077 (c_X3_daysUntilBirthday u7 T72 T76 (.inl v75) h77) hP hS (zV_0 (by decide)) rfl rfl rfl rfl hl.1 (Nat.le_of_ble_eq_true rfl) dL_children_211 (Nat.le_of_ble_eq_true rfl) ⟨by omega, by omega⟩ rfl) hS (fun H locs hP hS => ?_)
            refine lv_iload hx hb dL_children_214 (lv_at hl 8 rfl) ?_
            obtain ⟨K78, eK78, hf⟩ := zl_i hf
            have J79 : ∀ (T108 : zT) (H : Heap) (locs : List Loc) (ls : Array Slot), K78 T108 = some o → zP 0 D Y G T108 H → va_S A s.heap H locs → lv_has ls 12 [(0, .ref (G 0 0)), (1, .int w1), (2, .int z62), (3, .int x66), (4, .int x70), (5, .int x74), (7, .int u7)] → W p l e (zR 8 mc ms) s m args below meth c H locs (cells + 47) (slots + 282) Q (F0 m 307 ls []) := by
              intro T108 H locs ls hf hP hS hl
              rw [eK78] at hf
              dsimp only at hf
              refine lv_iconst (v := 0) hx hb dL_children_307 (by decide) ?_
              refine lv_istore (lv' := [(6, .int 0), (0, .ref (G 0 0)), (1, .int w1), (2, .int z62), (3, .int x66), (4, .int x70), (5, .int x74), (7, .int u7)]) hx hb dL_children_308 hl (by decide) rfl (fun ls hl => ?_)
              obtain ⟨x109, ex109, hf⟩ := zl_i hf
              refine lv_iinc (v := x109) (lv' := [(7, .int x109), (6, .int 0), (0, .ref (G 0 0)), (1, .int w1), (2, .int z62), (3, .int x66), (4, .int x70), (5, .int x74)]) hx hb dL_children_310 hl (k := 7) rfl (by rw [ex109]; rfl) (by decide) rfl (fun ls hl => ?_)
              refine lv_goto (tgt := 51) hx hb dL_children_313 (by decide) ?_
              exact ih (cells + 47) (slots + 282) z62 x66 x70 x74 0 x109 _ _ _ _ _ (by omega) (by omega) hf hP hS (lv_sub hl [2, 3, 4, 5, 6, 7, 1, 0] rfl) k0_
            refine lv_icmp_ne (tgt := 307) hx hb dL_children_216 (by decide) (fun hc => ?_) (fun hc => ?_)
            · have hf := zif_n hf hc
              refine W.widen (k := cells + 47) (n := slots + 282) (by omega) (by omega) ?_
              exact J79 T76 _ _ _ hf hP hS (lv_sub hl [4, 5, 3, 2, 1, 0, 6] rfl)
            · have hf := zif_p hf hc
              refine lv_aload_n hx hb dL_children_219 rfl (lv_at hl 4 rfl) ?_
              refine lv_iload hx hb dL_children_220 (lv_at hl 6 rfl) ?_
              obtain ⟨v80, T81, h82, hf⟩ := zbi_i hf
              refine z_ok (z_runV (As := [.int u7]) (rest := []) F k_X3_wishesOf ml_1043 (c_X3_wishesOf u7 T76 T81 (.inl v80) h82) hP hS (zV_0 (by decide)) rfl rfl rfl rfl hl.1 (Nat.le_of_ble_eq_true rfl) dL_children_222 (Nat.le_of_ble_eq_true rfl) ⟨by omega, by omega⟩ rfl) hS (fun H locs hP hS => ?_)
              refine lv_aload_n hx hb dL_children_225 rfl (lv_at hl 4 rfl) ?_
              refine lv_iload hx hb dL_children_226 (lv_at hl 6 rfl) ?_
              obtain ⟨v83, T84, h85, hf⟩ := zbi_i hf
              refine z_ok (z_runV (As := [.int u7]) (rest := [.int v80]) F k_X3_partiesOf ml_1039 (c_X3_partiesOf u7 T81 T84 (.inl v83) h85) hP hS (zV_0 (by decide)) rfl rfl rfl rfl hl.1 (Nat.le_of_ble_eq_true rfl) dL_children_228 (Nat.le_of_ble_eq_true rfl) ⟨by omega, by omega⟩ rfl) hS (fun H locs hP hS => ?_)
              refine lv_icmp_gt (tgt := 307) hx hb dL_children_231 (by decide) (fun hc => ?_) (fun hc => ?_)
              · have hf := zif_p hf hc
                refine W.widen (k := cells + 47) (n := slots + 282) (by omega) (by omega) ?_
                exact J79 T84 _ _ _ hf hP hS (lv_sub hl [4, 5, 3, 2, 1, 0, 6] rfl)
              · have hf := zif_n hf hc
                refine lv_aload_n hx hb dL_children_234 rfl (lv_at hl 4 rfl) ?_
                refine lv_iload hx hb dL_children_235 (lv_at hl 6 rfl) ?_
                obtain ⟨v86, T87, h88, hf⟩ := zbi_i hf
                refine z_ok (z_runV (As := [.int u7]) (rest := []) F k_X3_strengthOf ml_1081 (c_X3_strengthOf u7 T84 T87 (.inl v86) h88) hP hS (zV_0 (by decide)) rfl rfl rfl rfl hl.1 (Nat.le_of_ble_eq_true rfl) dL_children_237 (Nat.le_of_ble_eq_true rfl) ⟨by omega, by omega⟩ rfl) hS (fun H locs hP hS => ?_)
                refine lv_aload_n hx hb dL_children_240 rfl (lv_at hl 4 rfl) ?_
                refine lv_iload hx hb dL_children_241 (lv_at hl 6 rfl) ?_
                obtain ⟨v89, T90, h91, hf⟩ := zbi_i hf
                refine z_ok (z_runV (As := [.int u7]) (rest := [.int v86]) F k_X3_breathOf ml_1086 (c_X3_breathOf u7 T87 T90 (.inl v89) h91) hP hS (zV_0 (by decide)) rfl rfl rfl rfl hl.1 (Nat.le_of_ble_eq_true rfl) dL_children_243 (Nat.le_of_ble_eq_true rfl) ⟨by omega, by omega⟩ rfl) hS (fun H locs hP hS => ?_)
                refine lv_iload hx hb dL_children_246 (lv_at hl 9 rfl) ?_
                refine lv_iconst (v := 1) hx hb dL_children_248 (by decide) ?_
                refine lv_isub hx hb dL_children_249 ?_
                refine lv_aload_n hx hb dL_children_250 rfl (lv_at hl 4 rfl) ?_
                refine lv_aload_n hx hb dL_children_251 rfl (lv_at hl 4 rfl) ?_
                refine lv_iload hx hb dL_children_252 (lv_at hl 6 rfl) ?_
                obtain ⟨v92, T93, h94, hf⟩ := zbi_i hf
                refine z_ok (z_runV (As := [.int u7]) (rest := [.ref (G 0 0), .int (v48.1 - 1), .int v89, .int v86]) F k_X3_gardenOf ml_1031 (c_X3_gardenOf u7 T90 T93 (.inl v92) h94) hP hS (zV_0 (by decide)) rfl rfl rfl rfl hl.1 (Nat.le_of_ble_eq_true rfl) dL_children_254 (Nat.le_of_ble_eq_true rfl) ⟨by omega, by omega⟩ rfl) hS (fun H locs hP hS => ?_)
                obtain ⟨v95, T96, h97, hf⟩ := zbi_i hf
                refine z_ok (z_runV (As := [.int v92]) (rest := [.int (v48.1 - 1), .int v89, .int v86]) F k_X3_seatsOf ml_1090 (c_X3_seatsOf v92 T93 T96 (.inl v95) h97) hP hS (zV_0 (by decide)) rfl rfl rfl rfl hl.1 (Nat.le_of_ble_eq_true rfl) dL_children_257 (Nat.le_of_ble_eq_true rfl) ⟨by omega, by omega⟩ rfl) hS (fun H locs hP hS => ?_)
                refine lv_iconst (v := 1) hx hb dL_children_260 (by decide) ?_
                refine lv_isub hx hb dL_children_261 ?_
                refine z_mmin F ml_1094 ml_408 ml_40 ml_409 hl.1 (Nat.le_of_ble_eq_true rfl) (Nat.le_of_ble_eq_true rfl) ⟨by omega, by omega⟩ dL_children_262 ?_
                refine lv_iadd hx hb dL_children_265 ?_
                refine lv_icmp_ne (tgt := 307) hx hb dL_children_266 (by decide) (fun hc => ?_) (fun hc => ?_)
                · have hf := zif_n hf hc
                  refine W.widen (k := cells + 47) (n := slots + 282) (by omega) (by omega) ?_
                  exact J79 T96 _ _ _ hf hP hS (lv_sub hl [4, 5, 3, 2, 1, 0, 6] rfl)
                · have hf := zif_p hf hc
                  refine lv_iload hx hb dL_children_269 (lv_at hl 7 rfl) ?_
                  obtain ⟨K98, eK98, hf⟩ := zl_i hf
                  have J99 : ∀ (T106 : zT) (H : Heap) (locs : List Loc) (ls : Array Slot), K98 T106 = some o → zP 0 D Y G T106 H → va_S A s.heap H locs → lv_has ls 12 [(0, .ref (G 0 0)), (1, .int w1), (2, .int z62), (3, .int x66), (4, .int x70), (5, .int x74), (7, .int u7)] → W p l e (zR 8 mc ms) s m args below meth c H locs (cells + 47) (slots + 282) Q (F0 m 303 ls []) := by
                    intro T106 H locs ls hf hP hS hl
                    rw [eK98] at hf
                    dsimp only at hf
                    refine lv_iconst (v := 1) hx hb dL_children_303 (by decide) ?_
                    refine lv_goto (tgt := 308) hx hb dL_children_304 (by decide) ?_
                    refine lv_istore (lv' := [(6, .int 1), (0, .ref (G 0 0)), (1, .int w1), (2, .int z62), (3, .int x66), (4, .int x70), (5, .int x74), (7, .int u7)]) hx hb dL_children_308 hl (by decide) rfl (fun ls hl => ?_)
                    obtain ⟨x107, ex107, hf⟩ := zl_i hf
                    refine lv_iinc (v := x107) (lv' := [(7, .int x107), (6, .int 1), (0, .ref (G 0 0)), (1, .int w1), (2, .int z62), (3, .int x66), (4, .int x70), (5, .int x74)]) hx hb dL_children_310 hl (k := 7) rfl (by rw [ex107]; rfl) (by decide) rfl (fun ls hl => ?_)
                    refine lv_goto (tgt := 51) hx hb dL_children_313 (by decide) ?_
                    exact ih (cells + 47) (slots + 282) z62 x66 x70 x74 1 x107 _ _ _ _ _ (by omega) (by omega) hf hP hS (lv_sub hl [2, 3, 4, 5, 6, 7, 1, 0] rfl) k0_
                  refine lv_if_lt (tgt := 303) hx hb dL_children_271 (by decide) (fun hc => ?_) (fun hc => ?_)
                  · have hf := zif_p hf hc
                    refine W.widen (k := cells + 47) (n := slots + 282) (by omega) (by omega) ?_
                    exact J99 T96 _ _ _ hf hP hS (lv_sub hl [4, 5, 3, 2, 1, 0, 6] rfl)
                  · have hf := zif_n hf hc
                    refine lv_aload_n hx hb dL_children_274 rfl (lv_at hl 4 rfl) ?_
                    refine lv_aload_n hx hb dL_children_275 rfl (lv_at hl 4 rfl) ?_
                    refine lv_iload hx hb dL_children_276 (lv_at hl 6 rfl) ?_
                    obtain ⟨v100, T101, h102, hf⟩ := zbi_i hf
                    refine z_ok (z_runV (As := [.int u7]) (rest := [.ref (G 0 0)]) F k_X3_gardenOf ml_1031 (c_X3_gardenOf u7 T96 T101 (.inl v100) h102) hP hS (zV_0 (by decide)) rfl rfl rfl rfl hl.1 (Nat.le_of_ble_eq_true rfl) dL_children_278 (Nat.le_of_ble_eq_true rfl) ⟨by omega, by omega⟩ rfl) hS (fun H locs hP hS => ?_)
                    refine lv_iload hx hb dL_children_281 (lv_at hl 7 rfl) ?_
                    refine lv_bipush (v := 30) hx hb dL_children_283 (by decide) ?_
                    refine lv_idiv hx hb dL_children_285 (by decide) ?_
                    refine lv_iconst (v := 1) hx hb dL_children_286 (by decide) ?_
                    refine lv_iadd hx hb dL_children_287 ?_
                    refine lv_iload hx hb dL_children_288 (lv_at hl 7 rfl) ?_
                    refine lv_bipush (v := 30) hx hb dL_children_290 (by decide) ?_
                    refine lv_irem hx hb dL_children_292 (by decide) ?_
                    refine lv_iconst (v := 1) hx hb dL_children_293 (by decide) ?_
                    refine lv_iadd hx hb dL_children_294 ?_
                    obtain ⟨v103, T104, h105, hf⟩ := zbi_i hf
                    refine z_ok (z_runV (As := [.int v100, .int ((v24 / 30) + 1), .int ((v24 - v24 / 30 * 30) + 1)]) (rest := []) F k_X3_partyIn ml_1095 (c_X3_partyIn v100 ((v24 / 30) + 1) ((v24 - v24 / 30 * 30) + 1) T101 T104 (.inl v103) h105) hP hS (zV_0 (by decide)) rfl rfl rfl rfl hl.1 (Nat.le_of_ble_eq_true rfl) dL_children_295 (Nat.le_of_ble_eq_true rfl) ⟨by omega, by omega⟩ rfl) hS (fun H locs hP hS => ?_)
                    refine lv_iload hx hb dL_children_298 (lv_at hl 6 rfl) ?_
                    refine lv_icmp_ne (tgt := 307) hx hb dL_children_300 (by decide) (fun hc => ?_) (fun hc => ?_)
                    · have hf := zif_n hf hc
                      refine W.widen (k := cells + 47) (n := slots + 282) (by omega) (by omega) ?_
                      exact J79 T104 _ _ _ hf hP hS (lv_sub hl [4, 5, 3, 2, 1, 0, 6] rfl)
                    · have hf := zif_p hf hc
                      refine W.widen (k := cells + 47) (n := slots + 282) (by omega) (by omega) ?_
                      exact J99 T104 _ _ _ hf hP hS (lv_sub hl [4, 5, 3, 2, 1, 0, 6] rfl)
          obtain ⟨K50, eK50, hf⟩ := zl_i hf
          have J51 : ∀ (T60 : zT) (H : Heap) (locs : List Loc) (ls : Array Slot), K50 T60 = some o → zP 0 D Y G T60 H → va_S A s.heap H locs → lv_has ls 12 [(0, .ref (G 0 0)), (1, .int w1), (2, .int u2), (3, .int u3), (4, .int u4), (5, .int u5), (7, .int u7), (8, .int v24), (9, .int z30), (10, .int v48.1)] → W p l e (zR 8 mc ms) s m args below meth c H locs (cells + 34) (slots + 204) Q (F0 m 175 ls []) := by
            intro T60 H locs ls hf hP hS hl
            rw [eK50] at hf
            dsimp only at hf
            refine lv_iload_n hx hb dL_children_175 rfl (lv_at hl 2 rfl) ?_
            refine W.widen (k := cells + 34) (n := slots + 204) (by omega) (by omega) ?_
            exact J53 u2 T60 _ _ _ hf hP hS (lv_sub hl [0, 1, 3, 4, 5, 6, 7, 8, 9] rfl)
          refine lv_if_le (tgt := 175) hx hb dL_children_153 (by decide) (fun hc => ?_) (fun hc => ?_)
          · have hf := zif_p hf hc
            refine W.widen (k := cells + 34) (n := slots + 204) (by omega) (by omega) ?_
            exact J51 T47 _ _ _ hf hP hS (lv_sub hl [0, 1, 2, 3, 4, 5, 6, 7, 8, 9] rfl)
          · have hf := zif_n hf hc
            refine lv_iload_n hx hb dL_children_156 rfl (lv_at hl 2 rfl) ?_
            obtain ⟨K54, eK54, hf⟩ := zl_i hf
            have J55 : ∀ (T59 : zT) (H : Heap) (locs : List Loc) (ls : Array Slot), K54 T59 = some o → zP 0 D Y G T59 H → va_S A s.heap H locs → lv_has ls 12 [(0, .ref (G 0 0)), (1, .int w1), (3, .int u3), (4, .int u4), (5, .int u5), (7, .int u7), (8, .int v24), (9, .int z30), (10, .int v48.1)] → W p l e (zR 8 mc ms) s m args below meth c H locs (cells + 34) (slots + 204) Q (F0 m 170 ls []) := by
              intro T59 H locs ls hf hP hS hl
              rw [eK54] at hf
              dsimp only at hf
              refine lv_iload hx hb dL_children_170 (lv_at hl 5 rfl) ?_
              refine lv_goto (tgt := 176) hx hb dL_children_172 (by decide) ?_
              refine W.widen (k := cells + 34) (n := slots + 204) (by omega) (by omega) ?_
              exact J53 u7 T59 _ _ _ hf hP hS (lv_sub hl [0, 1, 2, 3, 4, 5, 6, 7, 8] rfl)
            refine lv_if_lt (tgt := 170) hx hb dL_children_157 (by decide) (fun hc => ?_) (fun hc => ?_)
            · have hf := zif_p hf hc
              refine W.widen (k := cells + 34) (n := slots + 204) (by omega) (by omega) ?_
              exact J55 T47 _ _ _ hf hP hS (lv_sub hl [0, 1, 3, 4, 5, 6, 7, 8, 9] rfl)
            · have hf := zif_n hf hc
              refine lv_iload hx hb dL_children_160 (lv_at hl 8 rfl) ?_
              refine lv_aload_n hx hb dL_children_162 rfl (lv_at hl 0 rfl) ?_
              refine lv_iload_n hx hb dL_children_163 rfl (lv_at hl 2 rfl) ?_
              obtain ⟨v56, T57, h58, hf⟩ := zbi_i hf
              refine z_ok (z_runV (As := [.int u2]) (rest := [.int z30]) F k_X3_daysUntilBirthday ml_1077 (c_X3_daysUntilBirthday u2 T47 T57 (.inl v56) h58) hP hS (zV_0 (by decide)) rfl rfl rfl rfl hl.1 (Nat.le_of_ble_eq_true rfl) dL_children_164 (Nat.le_of_ble_eq_true rfl) ⟨by omega, by omega⟩ rfl) hS (fun H locs hP hS => ?_)
              refine lv_icmp_ge (tgt := 175) hx hb dL_children_167 (by decide) (fun hc => ?_) (fun hc => ?_)
              · have hf := zif_p hf hc
                refine W.widen (k := cells + 34) (n := slots + 204) (by omega) (by omega) ?_
                exact J51 T57 _ _ _ hf hP hS (lv_sub hl [0, 1, 2, 3, 4, 5, 6, 7, 8, 9] rfl)
              · have hf := zif_n hf hc
                refine W.widen (k := cells + 34) (n := slots + 204) (by omega) (by omega) ?_
                exact J55 T57 _ _ _ hf hP hS (lv_sub hl [0, 1, 3, 4, 5, 6, 7, 8, 9] rfl)
        refine lv_if_ge (tgt := 82) hx hb dL_children_75 (by decide) (fun hc => ?_) (fun hc => ?_)
        · have hf := zif_p hf hc
          refine lv_iload hx hb dL_children_82 (lv_at hl 0 rfl) ?_
          refine lv_iload_n hx hb dL_children_84 rfl (lv_at hl 2 rfl) ?_
          refine lv_icmp_le (tgt := 95) hx hb dL_children_85 (by decide) (fun hc => ?_) (fun hc => ?_)
          · have hf := zif_p hf hc
            refine lv_iload hx hb dL_children_95 (lv_at hl 0 rfl) ?_
            refine lv_iload_n hx hb dL_children_97 rfl (lv_at hl 2 rfl) ?_
            refine lv_isub hx hb dL_children_98 ?_
            refine lv_sipush (v := 360) hx hb dL_children_99 (by decide) ?_
            refine lv_iadd hx hb dL_children_102 ?_
            refine W.widen (k := cells + 1) (n := slots + 6) (by omega) (by omega) ?_
            exact J28 ((v24 - w1) + 360) T25 _ _ _ hf hP hS (lv_sub hl [1, 2, 3, 4, 5, 6, 8, 0] rfl)
          · have hf := zif_n hf hc
            refine lv_iload hx hb dL_children_88 (lv_at hl 0 rfl) ?_
            refine lv_iload_n hx hb dL_children_90 rfl (lv_at hl 2 rfl) ?_
            refine lv_isub hx hb dL_children_91 ?_
            refine lv_goto (tgt := 103) hx hb dL_children_92 (by decide) ?_
            refine W.widen (k := cells + 1) (n := slots + 6) (by omega) (by omega) ?_
            exact J28 (v24 - w1) T25 _ _ _ hf hP hS (lv_sub hl [1, 2, 3, 4, 5, 6, 8, 0] rfl)
        · have hf := zif_n hf hc
          refine lv_iconst (v := (-1)) hx hb dL_children_78 (by decide) ?_
          refine lv_goto (tgt := 103) hx hb dL_children_79 (by decide) ?_
          refine W.widen (k := cells + 1) (n := slots + 6) (by omega) (by omega) ?_
          exact J28 (-1) T25 _ _ _ hf hP hS (lv_sub hl [1, 2, 3, 4, 5, 6, 8, 0] rfl)
set_option maxHeartbeats 8000000 in
set_option maxRecDepth 100000 in
theorem c_L_children (T T' : zT) (v : Int32) (hf : f_L_children T = some (v, T')) : zC 0 yL_children cL_children 12 (some .boolean) 8 752 4512 (fun G _ => [.ref (G 0 0)]) T (fun _ => .inl (some (.int v))) T' := by
  intro l D Y S V G A hl9 hG
  refine vx_ofW (cc := cL_children) (maxL := 12) (ret := (some .boolean)) (by decide) rfl ?_
  intro p e s m args below meth c s₁ B hml hex hv
  obtain ⟨rfl, hK, hP, hA⟩ := hv
  have hx := B.exec
  have hb := B.bytes
  have hr := B.returns
  have hlocks := B.notSynchronized
  have hown : s.vm.findClass RL = some m.cls := findClass_of_methodNamed B.named
  have hts := atoms_spec (ws := Cond.code yL_children cL_children 12 (some .boolean) :: zWS) B.pre
  have F : zF 0 8 752 4512 p l s m _ c cL_children 12 RL (Cond.code yL_children cL_children 12 (some .boolean)) D Y S V G A := ⟨hx, hb, hml, hown, hts, hl9, hG, hK, hA⟩
  have hS : va_S A s.heap s.heap [] := va_S.rf
  have hl := lv_entry ([.ref (G 0 0)]) (n := 12) (Nat.le_of_ble_eq_true rfl)
  rw [lg_entry_eq]
  generalize (lg_sl ([.ref (G 0 0)]) ++ List.replicate (12 - (lg_sl ([.ref (G 0 0)])).length) Slot.unset).toArray = ls at hl ⊢
  have hl : lv_has ls 12 [(0, .ref (G 0 0))] := hl
  unfold f_L_children at hf
  refine lv_aload_n hx hb dL_children_0 rfl (lv_at hl 0 rfl) ?_
  obtain ⟨v1, T2, h3, hf⟩ := zb_i hf
  refine z_ok (z_runV (As := []) (rest := []) F k_X3_month ml_997 (c_X3_month T T2 v1 h3) hP hS (zV_0 (by decide)) rfl rfl rfl rfl hl.1 (Nat.le_of_ble_eq_true rfl) dL_children_1 (Nat.le_of_ble_eq_true rfl) ⟨(Nat.le_of_ble_eq_true rfl), (Nat.le_of_ble_eq_true rfl)⟩ rfl) hS (fun H locs hP hS => ?_)
  refine lv_iconst (v := 1) hx hb dL_children_4 (by decide) ?_
  refine lv_isub hx hb dL_children_5 ?_
  refine lv_bipush (v := 30) hx hb dL_children_6 (by decide) ?_
  refine lv_imul hx hb dL_children_8 ?_
  refine lv_aload_n hx hb dL_children_9 rfl (lv_at hl 0 rfl) ?_
  obtain ⟨v4, T5, h6, hf⟩ := zb_i hf
  refine z_ok (z_runV (As := []) (rest := [.int ((v1 - 1) * 30)]) F k_X3_dayOfMonth ml_1004 (c_X3_dayOfMonth T2 T5 v4 h6) hP hS (zV_0 (by decide)) rfl rfl rfl rfl hl.1 (Nat.le_of_ble_eq_true rfl) dL_children_10 (Nat.le_of_ble_eq_true rfl) ⟨(Nat.le_of_ble_eq_true rfl), (Nat.le_of_ble_eq_true rfl)⟩ rfl) hS (fun H locs hP hS => ?_)
  refine lv_iadd hx hb dL_children_13 ?_
  refine lv_iconst (v := 1) hx hb dL_children_14 (by decide) ?_
  refine lv_isub hx hb dL_children_15 ?_
  obtain ⟨x7, ex7, hf⟩ := zl_i hf
  refine z_topi ex7 ?_
  refine lv_istore_n (lv' := [(1, .int x7), (0, .ref (G 0 0))]) hx hb dL_children_16 rfl hl (by decide) rfl (fun ls hl => ?_)
  refine lv_iconst (v := (-1)) hx hb dL_children_17 (by decide) ?_
  refine lv_istore_n (lv' := [(2, .int (-1)), (1, .int x7), (0, .ref (G 0 0))]) hx hb dL_children_18 rfl hl (by decide) rfl (fun ls hl => ?_)
  refine lv_iconst (v := 0) hx hb dL_children_19 (by decide) ?_
  refine lv_istore_n (lv' := [(3, .int 0), (2, .int (-1)), (1, .int x7), (0, .ref (G 0 0))]) hx hb dL_children_20 rfl hl (by decide) rfl (fun ls hl => ?_)
  refine lv_iconst (v := 0) hx hb dL_children_21 (by decide) ?_
  refine lv_istore (lv' := [(4, .int 0), (3, .int 0), (2, .int (-1)), (1, .int x7), (0, .ref (G 0 0))]) hx hb dL_children_22 hl (by decide) rfl (fun ls hl => ?_)
  refine lv_iconst (v := 0) hx hb dL_children_24 (by decide) ?_
  refine lv_istore (lv' := [(5, .int 0), (4, .int 0), (3, .int 0), (2, .int (-1)), (1, .int x7), (0, .ref (G 0 0))]) hx hb dL_children_25 hl (by decide) rfl (fun ls hl => ?_)
  refine lv_aload_n hx hb dL_children_27 rfl (lv_at hl 5 rfl) ?_
  obtain ⟨v8, T9, h10, hf⟩ := zb_i hf
  refine z_ok (z_runV (As := []) (rest := []) F k_X3_clashes ml_1061 (c_X3_clashes T5 T9 v8 h10) hP hS (zV_0 (by decide)) rfl rfl rfl rfl hl.1 (Nat.le_of_ble_eq_true rfl) dL_children_28 (Nat.le_of_ble_eq_true rfl) ⟨(Nat.le_of_ble_eq_true rfl), (Nat.le_of_ble_eq_true rfl)⟩ rfl) hS (fun H locs hP hS => ?_)
  obtain ⟨K13, eK13, hf⟩ := zl_i hf
  have J14 : ∀ (z20 : Int32) (T19 : zT) (H : Heap) (locs : List Loc) (ls : Array Slot), K13 z20 T19 = some (v, T') → zP 0 D Y G T19 H → va_S A s.heap H locs → lv_has ls 12 [(0, .ref (G 0 0)), (1, .int x7), (2, .int (-1)), (3, .int 0), (4, .int 0), (5, .int 0)] → W p l e (zR 8 752 4512) s m ([.ref (G 0 0)] : List Value).toArray below meth c H locs (0) (0) (vx_MQ below (zQ 0 D Y G A (.inl (some (.int v))) T') (zX 0 D Y G A (.inl (some (.int v))) T') ([.ref (G 0 0)] : List Value).toArray s 752 4512 A) (F0 m 46 ls [.int z20]) := by
    intro z20 T19 H locs ls hf hP hS hl
    rw [eK13] at hf
    dsimp only at hf
    refine lv_istore (lv' := [(6, .int z20), (0, .ref (G 0 0)), (1, .int x7), (2, .int (-1)), (3, .int 0), (4, .int 0), (5, .int 0)]) hx hb dL_children_46 hl (by decide) rfl (fun ls hl => ?_)
    refine lv_iconst (v := 0) hx hb dL_children_48 (by decide) ?_
    refine lv_istore (lv' := [(7, .int 0), (6, .int z20), (0, .ref (G 0 0)), (1, .int x7), (2, .int (-1)), (3, .int 0), (4, .int 0), (5, .int 0)]) hx hb dL_children_49 hl (by decide) rfl (fun ls hl => ?_)
    obtain ⟨v111, T110, h112, hf⟩ := zb_i hf
    refine l_L_children_51 (ce := 752) (se := 4512) ⟨(Nat.le_of_ble_eq_true rfl), (Nat.le_of_ble_eq_true rfl)⟩ F x7 16 (0) (0) (-1) 0 0 0 z20 0 _ _ _ _ _ (Nat.le_of_ble_eq_true rfl) (Nat.le_of_ble_eq_true rfl) h112 hP hS (lv_sub hl [2, 3, 4, 5, 6, 7, 1, 0] rfl) (fun H locs ls hP hS hl => ?_)
    refine lv_aload_n hx hb dL_children_316 rfl (lv_at hl 0 rfl) ?_
    obtain ⟨v113, T114, h115, hf⟩ := zb_i hf
    refine z_ok (z_runV (As := []) (rest := []) F k_X3_childCount ml_1023 (c_X3_childCount T110 T114 v113 h115) hP hS (zV_0 (by decide)) rfl rfl rfl rfl hl.1 (Nat.le_of_ble_eq_true rfl) dL_children_317 (Nat.le_of_ble_eq_true rfl) ⟨(Nat.le_of_ble_eq_true rfl), (Nat.le_of_ble_eq_true rfl)⟩ rfl) hS (fun H locs hP hS => ?_)
    refine lv_istore (lv' := [(7, .int v113), (0, .ref (G 0 0)), (1, .int x7), (2, .int v111.1), (3, .int v111.2.1), (4, .int v111.2.2.1), (5, .int v111.2.2.2.1), (6, .int v111.2.2.2.2.1)]) hx hb dL_children_320 hl (by decide) rfl (fun ls hl => ?_)
    refine lv_iload hx hb dL_children_322 (lv_at hl 7 rfl) ?_
    refine lv_if_eq (tgt := 395) hx hb dL_children_324 (by decide) (fun hc => ?_) (fun hc => ?_)
    · have hf := zif_p hf hc
      refine lv_iconst (v := 0) hx hb dL_children_395 (by decide) ?_
      obtain ⟨q1, q2⟩ := zs_i hf
      subst q1; subst q2
      exact z_zret hx hb hr (Or.inl rfl) rfl hP hS hlocks (Nat.le_of_ble_eq_true rfl) (Nat.le_of_ble_eq_true rfl) dL_children_396
    · have hf := zif_n hf hc
      refine lv_aload_n hx hb dL_children_327 rfl (lv_at hl 1 rfl) ?_
      obtain ⟨v116, T117, h118, hf⟩ := zb_i hf
      refine z_ok (z_runV (As := []) (rest := []) F k_X3_nextChild ml_1099 (c_X3_nextChild T114 T117 v116 h118) hP hS (zV_0 (by decide)) rfl rfl rfl rfl hl.1 (Nat.le_of_ble_eq_true rfl) dL_children_328 (Nat.le_of_ble_eq_true rfl) ⟨(Nat.le_of_ble_eq_true rfl), (Nat.le_of_ble_eq_true rfl)⟩ rfl) hS (fun H locs hP hS => ?_)
      refine lv_iload_n hx hb dL_children_331 rfl (lv_at hl 3 rfl) ?_
      refine lv_icmp_ne (tgt := 395) hx hb dL_children_332 (by decide) (fun hc => ?_) (fun hc => ?_)
      · have hf := zif_n hf hc
        refine lv_iconst (v := 0) hx hb dL_children_395 (by decide) ?_
        obtain ⟨q1, q2⟩ := zs_i hf
        subst q1; subst q2
        exact z_zret hx hb hr (Or.inl rfl) rfl hP hS hlocks (Nat.le_of_ble_eq_true rfl) (Nat.le_of_ble_eq_true rfl) dL_children_396
      · have hf := zif_p hf hc
        refine lv_aload_n hx hb dL_children_335 rfl (lv_at hl 1 rfl) ?_
        obtain ⟨v119, T120, h121, hf⟩ := zb_i hf
        refine z_ok (z_runV (As := []) (rest := []) F k_X3_heldParties ml_1047 (c_X3_heldParties T117 T120 v119 h121) hP hS (zV_0 (by decide)) rfl rfl rfl rfl hl.1 (Nat.le_of_ble_eq_true rfl) dL_children_336 (Nat.le_of_ble_eq_true rfl) ⟨(Nat.le_of_ble_eq_true rfl), (Nat.le_of_ble_eq_true rfl)⟩ rfl) hS (fun H locs hP hS => ?_)
        refine lv_iload hx hb dL_children_339 (lv_at hl 6 rfl) ?_
        refine lv_icmp_ne (tgt := 395) hx hb dL_children_341 (by decide) (fun hc => ?_) (fun hc => ?_)
        · have hf := zif_n hf hc
          refine lv_iconst (v := 0) hx hb dL_children_395 (by decide) ?_
          obtain ⟨q1, q2⟩ := zs_i hf
          subst q1; subst q2
          exact z_zret hx hb hr (Or.inl rfl) rfl hP hS hlocks (Nat.le_of_ble_eq_true rfl) (Nat.le_of_ble_eq_true rfl) dL_children_396
        · have hf := zif_p hf hc
          refine lv_aload_n hx hb dL_children_344 rfl (lv_at hl 1 rfl) ?_
          obtain ⟨v122, T123, h124, hf⟩ := zb_i hf
          refine z_ok (z_runV (As := []) (rest := []) F k_X3_meanAge ml_1103 (c_X3_meanAge T120 T123 v122 h124) hP hS (zV_0 (by decide)) rfl rfl rfl rfl hl.1 (Nat.le_of_ble_eq_true rfl) dL_children_345 (Nat.le_of_ble_eq_true rfl) ⟨(Nat.le_of_ble_eq_true rfl), (Nat.le_of_ble_eq_true rfl)⟩ rfl) hS (fun H locs hP hS => ?_)
          refine lv_iload hx hb dL_children_348 (lv_at hl 0 rfl) ?_
          obtain ⟨K125, eK125, hf⟩ := zl_i hf
          have J126 : ∀ (z129 : UInt64) (z130 : UInt64) (T128 : zT) (H : Heap) (locs : List Loc) (ls : Array Slot), K125 z129 z130 T128 = some (v, T') → zP 0 D Y G T128 H → va_S A s.heap H locs → lv_has ls 12 [(0, .ref (G 0 0)), (4, .int v111.2.2.1), (5, .int v111.2.2.2.1)] → W p l e (zR 8 752 4512) s m ([.ref (G 0 0)] : List Value).toArray below meth c H locs (752) (4512) (vx_MQ below (zQ 0 D Y G A (.inl (some (.int v))) T') (zX 0 D Y G A (.inl (some (.int v))) T') ([.ref (G 0 0)] : List Value).toArray s 752 4512 A) (F0 m 363 ls [.double z130, .double z129]) := by
            intro z129 z130 T128 H locs ls hf hP hS hl
            rw [eK125] at hf
            dsimp only at hf
            refine lv_dcmp hx hb dL_children_363 ?_
            refine lv_if_ne (tgt := 395) hx hb dL_children_364 (by decide) (fun hc => ?_) (fun hc => ?_)
            · have hf := zif_n hf hc
              refine lv_iconst (v := 0) hx hb dL_children_395 (by decide) ?_
              obtain ⟨q1, q2⟩ := zs_i hf
              subst q1; subst q2
              exact z_zret hx hb hr (Or.inl rfl) rfl hP hS hlocks (Nat.le_of_ble_eq_true rfl) (Nat.le_of_ble_eq_true rfl) dL_children_396
            · have hf := zif_p hf hc
              refine lv_aload_n hx hb dL_children_367 rfl (lv_at hl 0 rfl) ?_
              obtain ⟨v131, T132, h133, hf⟩ := zb_i hf
              refine z_ok (z_runV (As := []) (rest := []) F k_X3_wishShare ml_1107 (c_X3_wishShare T128 T132 v131 h133) hP hS (zV_0 (by decide)) rfl rfl rfl rfl hl.1 (Nat.le_of_ble_eq_true rfl) dL_children_368 (Nat.le_of_ble_eq_true rfl) ⟨(Nat.le_of_ble_eq_true rfl), (Nat.le_of_ble_eq_true rfl)⟩ rfl) hS (fun H locs hP hS => ?_)
              refine lv_iload hx hb dL_children_371 (lv_at hl 2 rfl) ?_
              obtain ⟨K134, eK134, hf⟩ := zl_i hf
              have J135 : ∀ (z138 : UInt32) (z139 : UInt32) (T137 : zT) (H : Heap) (locs : List Loc) (ls : Array Slot), K134 z138 z139 T137 = some (v, T') → zP 0 D Y G T137 H → va_S A s.heap H locs → lv_has ls 12 [] → W p l e (zR 8 752 4512) s m ([.ref (G 0 0)] : List Value).toArray below meth c H locs (752) (4512) (vx_MQ below (zQ 0 D Y G A (.inl (some (.int v))) T') (zX 0 D Y G A (.inl (some (.int v))) T') ([.ref (G 0 0)] : List Value).toArray s 752 4512 A) (F0 m 387 ls [.float z139, .float z138]) := by
                intro z138 z139 T137 H locs ls hf hP hS hl
                rw [eK134] at hf
                dsimp only at hf
                refine lv_fcmp hx hb dL_children_387 ?_
                refine lv_if_ne (tgt := 395) hx hb dL_children_388 (by decide) (fun hc => ?_) (fun hc => ?_)
                · have hf := zif_n hf hc
                  refine lv_iconst (v := 0) hx hb dL_children_395 (by decide) ?_
                  obtain ⟨q1, q2⟩ := zs_i hf
                  subst q1; subst q2
                  exact z_zret hx hb hr (Or.inl rfl) rfl hP hS hlocks (Nat.le_of_ble_eq_true rfl) (Nat.le_of_ble_eq_true rfl) dL_children_396
                · have hf := zif_p hf hc
                  refine lv_iconst (v := 1) hx hb dL_children_391 (by decide) ?_
                  refine lv_goto (tgt := 396) hx hb dL_children_392 (by decide) ?_
                  obtain ⟨q1, q2⟩ := zs_i hf
                  subst q1; subst q2
                  exact z_zret hx hb hr (Or.inr rfl) rfl hP hS hlocks (Nat.le_of_ble_eq_true rfl) (Nat.le_of_ble_eq_true rfl) dL_children_396
              refine lv_if_ne (tgt := 380) hx hb dL_children_373 (by decide) (fun hc => ?_) (fun hc => ?_)
              · have hf := zif_n hf hc
                refine lv_iload hx hb dL_children_380 (lv_at hl 1 rfl) ?_
                refine lv_i2f hx hb dL_children_382 ?_
                refine lv_iload hx hb dL_children_383 (lv_at hl 2 rfl) ?_
                refine lv_i2f hx hb dL_children_385 ?_
                obtain ⟨h136, hf⟩ := zif_c hf
                refine lv_fdiv hx hb dL_children_386 (z_nn32 h136) ?_
                refine W.widen (k := 752) (n := 4512) (Nat.le_of_ble_eq_true rfl) (Nat.le_of_ble_eq_true rfl) ?_
                exact J135 v131 (FP.fdiv (FP.i2f v111.2.2.1) (FP.i2f v111.2.2.2.1)) T132 _ _ _ hf hP hS (lv_sub hl [] rfl)
              · have hf := zif_p hf hc
                refine lv_fconst0 hx hb dL_children_376 ?_
                refine lv_goto (tgt := 387) hx hb dL_children_377 (by decide) ?_
                refine W.widen (k := 752) (n := 4512) (Nat.le_of_ble_eq_true rfl) (Nat.le_of_ble_eq_true rfl) ?_
                exact J135 v131 (FP.fconst0) T132 _ _ _ hf hP hS (lv_sub hl [] rfl)
          refine lv_if_ne (tgt := 357) hx hb dL_children_350 (by decide) (fun hc => ?_) (fun hc => ?_)
          · have hf := zif_n hf hc
            refine lv_iload_n hx hb dL_children_357 rfl (lv_at hl 4 rfl) ?_
            refine lv_i2d hx hb dL_children_358 ?_
            refine lv_iload hx hb dL_children_359 (lv_at hl 0 rfl) ?_
            refine lv_i2d hx hb dL_children_361 ?_
            obtain ⟨h127, hf⟩ := zif_c hf
            refine lv_ddiv hx hb dL_children_362 (z_nn64 h127) ?_
            refine W.widen (k := 752) (n := 4512) (Nat.le_of_ble_eq_true rfl) (Nat.le_of_ble_eq_true rfl) ?_
            exact J126 v122 (FP.ddiv (FP.i2d v111.2.1) (FP.i2d v113)) T123 _ _ _ hf hP hS (lv_sub hl [1, 5, 6] rfl)
          · have hf := zif_p hf hc
            refine lv_dconst0 hx hb dL_children_353 ?_
            refine lv_goto (tgt := 363) hx hb dL_children_354 (by decide) ?_
            refine W.widen (k := 752) (n := 4512) (Nat.le_of_ble_eq_true rfl) (Nat.le_of_ble_eq_true rfl) ?_
            exact J126 v122 (FP.dconst0) T123 _ _ _ hf hP hS (lv_sub hl [1, 5, 6] rfl)
  obtain ⟨K11, eK11, hf⟩ := zl_i hf
  have J12 : ∀ (T18 : zT) (H : Heap) (locs : List Loc) (ls : Array Slot), K11 T18 = some (v, T') → zP 0 D Y G T18 H → va_S A s.heap H locs → lv_has ls 12 [(0, .ref (G 0 0)), (1, .int x7), (2, .int (-1)), (3, .int 0), (4, .int 0), (5, .int 0)] → W p l e (zR 8 752 4512) s m ([.ref (G 0 0)] : List Value).toArray below meth c H locs (0) (0) (vx_MQ below (zQ 0 D Y G A (.inl (some (.int v))) T') (zX 0 D Y G A (.inl (some (.int v))) T') ([.ref (G 0 0)] : List Value).toArray s 752 4512 A) (F0 m 45 ls []) := by
    intro T18 H locs ls hf hP hS hl
    rw [eK11] at hf
    dsimp only at hf
    refine lv_iconst (v := 0) hx hb dL_children_45 (by decide) ?_
    refine W.widen (k := 0) (n := 0) (Nat.le_of_ble_eq_true rfl) (Nat.le_of_ble_eq_true rfl) ?_
    exact J14 0 T18 _ _ _ hf hP hS (lv_sub hl [0, 1, 2, 3, 4, 5] rfl)
  refine lv_if_ne (tgt := 45) hx hb dL_children_31 (by decide) (fun hc => ?_) (fun hc => ?_)
  · have hf := zif_n hf hc
    refine W.widen (k := 0) (n := 0) (Nat.le_of_ble_eq_true rfl) (Nat.le_of_ble_eq_true rfl) ?_
    exact J12 T9 _ _ _ hf hP hS (lv_sub hl [5, 4, 3, 2, 1, 0] rfl)
  · have hf := zif_p hf hc
    refine lv_aload_n hx hb dL_children_34 rfl (lv_at hl 5 rfl) ?_
    obtain ⟨v15, T16, h17, hf⟩ := zb_i hf
    refine z_ok (z_runV (As := []) (rest := []) F k_X3_candleDifference ml_1069 (c_X3_candleDifference T9 T16 v15 h17) hP hS (zV_0 (by decide)) rfl rfl rfl rfl hl.1 (Nat.le_of_ble_eq_true rfl) dL_children_35 (Nat.le_of_ble_eq_true rfl) ⟨(Nat.le_of_ble_eq_true rfl), (Nat.le_of_ble_eq_true rfl)⟩ rfl) hS (fun H locs hP hS => ?_)
    refine lv_if_ne (tgt := 45) hx hb dL_children_38 (by decide) (fun hc => ?_) (fun hc => ?_)
    · have hf := zif_n hf hc
      refine W.widen (k := 0) (n := 0) (Nat.le_of_ble_eq_true rfl) (Nat.le_of_ble_eq_true rfl) ?_
      exact J12 T16 _ _ _ hf hP hS (lv_sub hl [5, 4, 3, 2, 1, 0] rfl)
    · have hf := zif_p hf hc
      refine lv_iconst (v := 1) hx hb dL_children_41 (by decide) ?_
      refine lv_goto (tgt := 46) hx hb dL_children_42 (by decide) ?_
      refine W.widen (k := 0) (n := 0) (Nat.le_of_ble_eq_true rfl) (Nat.le_of_ble_eq_true rfl) ?_
      exact J14 1 T16 _ _ _ hf hP hS (lv_sub hl [5, 4, 3, 2, 1, 0] rfl)
