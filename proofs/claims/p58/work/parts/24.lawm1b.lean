/-! THE LAW'S OWN METHODS, by program -/
def lp_L_children_111 (w1 : Int32) (w2 : Int32) (w3 : Int32) (w4 : Int32) (w5 : Int32) (w7 : Int32) (w8 : Int32) (w9 : Int32) : Nat → Int32 → Int32 → zT → Option ((Int32 × Int32) × zT)
  | 0, _, _, _ => none
  | n + 1, u10, u11, T => zb (f_X3_childCount T) fun v33 T34 => (if v33 ≤ u11 then some ((u10, u11), T34) else zbi (f_X3_cakeOf u11 T34) fun v36 T37 => zbi (f_X3_cakeOf w7 T37) fun v39 T40 => zl (fun (z45 : Int32) (z46 : Int32) (T44 : zT) => zl (z45 + z46) fun x47 => zl (u11 + 1) fun x48 => lp_L_children_111 w1 w2 w3 w4 w5 w7 w8 w9 n x47 x48 T44) fun K42 => (if v36 = v39 then K42 u10 1 T40 else K42 u10 0 T40))
def lp_L_children_51 (w1 : Int32) : Nat → Int32 → Int32 → Int32 → Int32 → Int32 → Int32 → zT → Option ((Int32 × Int32 × Int32 × Int32 × Int32 × Int32) × zT)
  | 0, _, _, _, _, _, _, _ => none
  | n + 1, u2, u3, u4, u5, u6, u7, T => zb (f_X3_childCount T) fun v23 T24 => (if v23 ≤ u7 then some ((u2, u3, u4, u5, u6, u7), T24) else (if u6 = 0 then some ((u2, u3, u4, u5, u6, u7), T24) else zbi (f_X3_birthdayOf u7 T24) fun v26 T27 => zl (fun (z32 : Int32) (T31 : zT) => zb (lp_L_children_111 w1 u2 u3 u4 u5 u7 v26 z32 16 0 0 T31) fun v50 T49 => zl (fun (z64 : Int32) (T63 : zT) => zbi (f_X3_ageOf u7 T63) fun v65 T66 => zl (u3 + v65) fun x68 => zbi (f_X3_wishesOf u7 T66) fun v69 T70 => zl (u4 + v69) fun x72 => zbi (f_X3_partiesOf u7 T70) fun v73 T74 => zl (u5 + v73) fun x76 => zbi (f_X3_daysUntilBirthday u7 T74) fun v77 T78 => zl (fun (T110 : zT) => zl (u7 + 1) fun x111 => lp_L_children_51 w1 n z64 x68 x72 x76 0 x111 T110) fun K80 => (if v77 = z32 then zbi (f_X3_wishesOf u7 T78) fun v82 T83 => zbi (f_X3_partiesOf u7 T83) fun v85 T86 => (if v85 < v82 then K80 T86 else zbi (f_X3_strengthOf u7 T86) fun v88 T89 => zbi (f_X3_breathOf u7 T89) fun v91 T92 => zbi (f_X3_gardenOf u7 T92) fun v94 T95 => zbi (f_X3_seatsOf v94 T95) fun v97 T98 => (if v88 = (v91 + (if (v97 - 1) < (v50.1 - 1) then (v97 - 1) else (v50.1 - 1))) then zl (fun (T108 : zT) => zl (u7 + 1) fun x109 => lp_L_children_51 w1 n z64 x68 x72 x76 1 x109 T108) fun K100 => (if v26 < 0 then K100 T98 else zbi (f_X3_gardenOf u7 T98) fun v102 T103 => zbi (f_X3_partyIn v102 ((v26 / 30) + 1) ((v26 - v26 / 30 * 30) + 1) T103) fun v105 T106 => (if v105 = u7 then K100 T106 else K80 T106)) else K80 T98)) else K80 T78)) fun K54 => zl (fun (T62 : zT) => K54 u2 T62) fun K52 => (if z32 ≤ 0 then K52 T49 else zl (fun (T61 : zT) => K54 u7 T61) fun K56 => (if u2 < 0 then K56 T49 else zbi (f_X3_daysUntilBirthday u2 T49) fun v58 T59 => (if v58 ≤ z32 then K52 T59 else K56 T59)))) fun K29 => (if 0 ≤ v26 then (if v26 ≤ w1 then K29 ((v26 - w1) + 360) T27 else K29 (v26 - w1) T27) else K29 (-1) T27)))
def f_L_children (T : zT) : Option (Int32 × zT) := zb (f_X3_month T) fun v1 T2 => zb (f_X3_dayOfMonth T2) fun v4 T5 => zl ((((v1 - 1) * 30) + v4) - 1) fun x7 => zb (f_X3_clashes T5) fun v8 T9 => zl (fun (w116 : Int32) (w117 : Int32) (w118 : Int32) (w119 : Int32) (w120 : Int32) (T115 : zT) => zb (f_X3_childCount T115) fun v121 T122 => (if w120 = 0 then some (0, T122) else zb (f_X3_nextChild T122) fun v124 T125 => (if v124 = w116 then zb (f_X3_heldParties T125) fun v127 T128 => (if v127 = w119 then zb (f_X3_meanAge T128) fun v130 T131 => zl (fun (z137 : UInt64) (z138 : UInt64) (T136 : zT) => (if (Op.cmpValue (FP.dcmp z137 z138) .l) = 0 then zb (f_X3_wishShare T136) fun v139 T140 => zl (fun (z146 : UInt32) (z147 : UInt32) (T145 : zT) => (if (Op.cmpValue (FP.fcmp z146 z147) .l) = 0 then some (1, T145) else some (0, T145))) fun K142 => (if w119 = 0 then K142 v139 (FP.fconst0) T140 else if ¬ w119 = 0 then K142 v139 (FP.fdiv (FP.i2f w118) (FP.i2f w119)) T140 else none) else some (0, T136))) fun K133 => (if v121 = 0 then K133 v130 (FP.dconst0) T131 else if ¬ v121 = 0 then K133 v130 (FP.ddiv (FP.i2d w117) (FP.i2d v121)) T131 else none) else some (0, T128)) else some (0, T125)))) fun K15 => zl (fun (z22 : Int32) (T21 : zT) => zb (lp_L_children_51 x7 16 (-1) 0 0 0 z22 0 T21) fun v113 T112 => K15 v113.1 v113.2.1 v113.2.2.1 v113.2.2.2.1 v113.2.2.2.2.1 T112) fun K13 => zl (fun (T20 : zT) => K13 0 T20) fun K11 => (if v8 = 0 then zb (f_X3_candleDifference T9) fun v17 T18 => (if v17 = 0 then K13 1 T18 else K11 T18) else K11 T9)
set_option maxHeartbeats 8000000 in
set_option maxRecDepth 100000 in
theorem l_L_children_111 {p : Program} {l : Launch} {e : Env} {s : State} {m : MethodId} {args : Array Value} {below : List Frame} {meth : Method} {c : Code} {Q : State → Prop} {D : va_G} {Y : Nat → ClassId} {S V : Nat → Nat} {G : Nat → Nat → Nat} {A : Nat → Prop} {c0 : Cond} {mc ms : Nat} {ce se : Nat} (hcm : ce ≤ mc ∧ se ≤ ms) (F : zF 0 8 mc ms p l s m args c cL_children 12 RL c0 D Y S V G A) (w1 : Int32) (w2 : Int32) (w3 : Int32) (w4 : Int32) (w5 : Int32) (w7 : Int32) (w8 : Int32) (w9 : Int32) :
    ∀ (n cells slots : Nat) (u10 : Int32) (u11 : Int32) (T : zT) (o : (Int32 × Int32) × zT) (H : Heap) (locs : List Loc) (ls : Array Slot), cells + 2 * n ≤ ce → slots + 12 * n ≤ se → lp_L_children_111 w1 w2 w3 w4 w5 w7 w8 w9 n u10 u11 T = some o → zP 0 D Y G T H → va_S A s.heap H locs → lv_has ls 12 [(0, .ref (G 0 0)), (1, .int w1), (2, .int w2), (3, .int w3), (4, .int w4), (5, .int w5), (7, .int w7), (8, .int w8), (9, .int w9), (10, .int u10), (11, .int u11)] → (∀ (H : Heap) (locs : List Loc) (ls : Array Slot), zP 0 D Y G o.2 H → va_S A s.heap H locs → lv_has ls 12 [(0, .ref (G 0 0)), (1, .int w1), (2, .int w2), (3, .int w3), (4, .int w4), (5, .int w5), (7, .int w7), (8, .int w8), (9, .int w9), (10, .int o.1.1), (11, .int o.1.2)] → W p l e (zR 8 mc ms) s m args below meth c H locs ce se Q (F0 m 151 ls [])) → W p l e (zR 8 mc ms) s m args below meth c H locs cells slots Q (F0 m 111 ls []) := by
  obtain ⟨hx, hb, hml, hown, hts, hl9, hG, hK, hA⟩ := id F
  intro n
  induction n with
  | zero =>
    intro cells slots u10 u11 T o H locs ls _ _ hf
    rw [lp_L_children_111] at hf
    cases hf
  | succ n ih =>
    intro cells slots u10 u11 T o H locs ls hc1 hc2 hf hP hS hl k0_
    rw [lp_L_children_111] at hf
    refine lv_iload hx hb dL_children_111 (lv_at hl 10 rfl) ?_
    refine lv_aload_n hx hb dL_children_113 rfl (lv_at hl 0 rfl) ?_
    obtain ⟨v33, T34, h35, hf⟩ := zb_i hf
    refine z_ok (z_runV (As := []) (rest := [.int u11]) F k_X3_childCount ml_1023 (c_X3_childCount T T34 v33 h35) hP hS (zV_0 (by decide)) rfl rfl rfl rfl hl.1 (Nat.le_of_ble_eq_true rfl) dL_children_114 (Nat.le_of_ble_eq_true rfl) ⟨by omega, by omega⟩ rfl) hS (fun H locs hP hS => ?_)
    refine lv_icmp_ge (tgt := 151) hx hb dL_children_117 (by decide) (fun hc => ?_) (fun hc => ?_)
    · have hf := zif_p hf hc
      cases hf
      refine W.widen (k := ce) (n := se) (by omega) (by omega) ?_
      exact k0_ _ _ _ hP hS (lv_sub hl [0, 1, 2, 3, 4, 5, 6, 7, 8, 9, 10] rfl)
    · have hf := zif_n hf hc
      refine lv_iload hx hb dL_children_120 (lv_at hl 9 rfl) ?_
      refine lv_aload_n hx hb dL_children_122 rfl (lv_at hl 0 rfl) ?_
      refine lv_iload hx hb dL_children_123 (lv_at hl 10 rfl) ?_
      obtain ⟨v36, T37, h38, hf⟩ := zbi_i hf
      refine z_ok (z_runV (As := [.int u11]) (rest := [.int u10]) F k_X3_cakeOf ml_1073 (c_X3_cakeOf u11 T34 T37 (.inl v36) h38) hP hS (zV_0 (by decide)) rfl rfl rfl rfl hl.1 (Nat.le_of_ble_eq_true rfl) dL_children_125 (Nat.le_of_ble_eq_true rfl) ⟨by omega, by omega⟩ rfl) hS (fun H locs hP hS => ?_)
      refine lv_aload_n hx hb dL_children_128 rfl (lv_at hl 0 rfl) ?_
      refine lv_iload hx hb dL_children_129 (lv_at hl 6 rfl) ?_
      obtain ⟨v39, T40, h41, hf⟩ := zbi_i hf
      refine z_ok (z_runV (As := [.int w7]) (rest := [.int v36, .int u10]) F k_X3_cakeOf ml_1073 (c_X3_cakeOf w7 T37 T40 (.inl v39) h41) hP hS (zV_0 (by decide)) rfl rfl rfl rfl hl.1 (Nat.le_of_ble_eq_true rfl) dL_children_131 (Nat.le_of_ble_eq_true rfl) ⟨by omega, by omega⟩ rfl) hS (fun H locs hP hS => ?_)
      obtain ⟨K42, eK42, hf⟩ := zl_i hf
      have J43 : ∀ (z45 : Int32) (z46 : Int32) (T44 : zT) (H : Heap) (locs : List Loc) (ls : Array Slot), K42 z45 z46 T44 = some o → zP 0 D Y G T44 H → va_S A s.heap H locs → lv_has ls 12 [(0, .ref (G 0 0)), (1, .int w1), (2, .int w2), (3, .int w3), (4, .int w4), (5, .int w5), (7, .int w7), (8, .int w8), (9, .int w9), (11, .int u11)] → W p l e (zR 8 mc ms) s m args below meth c H locs (cells + 2) (slots + 12) Q (F0 m 142 ls [.int z46, .int z45]) := by
        intro z45 z46 T44 H locs ls hf hP hS hl
        rw [eK42] at hf
        dsimp only at hf
        refine lv_iadd hx hb dL_children_142 ?_
        obtain ⟨x47, ex47, hf⟩ := zl_i hf
        refine z_topi ex47 ?_
        refine lv_istore (lv' := [(10, .int x47), (0, .ref (G 0 0)), (1, .int w1), (2, .int w2), (3, .int w3), (4, .int w4), (5, .int w5), (7, .int w7), (8, .int w8), (9, .int w9), (11, .int u11)]) hx hb dL_children_143 hl (by decide) rfl (fun ls hl => ?_)
        obtain ⟨x48, ex48, hf⟩ := zl_i hf
        refine lv_iinc (v := x48) (lv' := [(11, .int x48), (10, .int x47), (0, .ref (G 0 0)), (1, .int w1), (2, .int w2), (3, .int w3), (4, .int w4), (5, .int w5), (7, .int w7), (8, .int w8), (9, .int w9)]) hx hb dL_children_145 hl (k := 10) rfl (by rw [ex48]; rfl) (by decide) rfl (fun ls hl => ?_)
        refine lv_goto (tgt := 111) hx hb dL_children_148 (by decide) ?_
        exact ih (cells + 2) (slots + 12) x47 x48 _ _ _ _ _ (by omega) (by omega) hf hP hS (lv_sub hl [2, 3, 4, 5, 6, 7, 8, 9, 10, 1, 0] rfl) k0_
      refine lv_icmp_ne (tgt := 141) hx hb dL_children_134 (by decide) (fun hc => ?_) (fun hc => ?_)
      · have hf := zif_n hf hc
        refine lv_iconst (v := 0) hx hb dL_children_141 (by decide) ?_
        refine W.widen (k := cells + 2) (n := slots + 12) (by omega) (by omega) ?_
        exact J43 u10 0 T40 _ _ _ hf hP hS (lv_sub hl [0, 1, 2, 3, 4, 5, 6, 7, 8, 10] rfl)
      · have hf := zif_p hf hc
        refine lv_iconst (v := 1) hx hb dL_children_137 (by decide) ?_
        refine lv_goto (tgt := 142) hx hb dL_children_138 (by decide) ?_
        refine W.widen (k := cells + 2) (n := slots + 12) (by omega) (by omega) ?_
        exact J43 u10 1 T40 _ _ _ hf hP hS (lv_sub hl [0, 1, 2, 3, 4, 5, 6, 7, 8, 10] rfl)
set_option maxHeartbeats 8000000 in
set_option maxRecDepth 100000 in
theorem l_L_children_51 {p : Program} {l : Launch} {e : Env} {s : State} {m : MethodId} {args : Array Value} {below : List Frame} {meth : Method} {c : Code} {Q : State → Prop} {D : va_G} {Y : Nat → ClassId} {S V : Nat → Nat} {G : Nat → Nat → Nat} {A : Nat → Prop} {c0 : Cond} {mc ms : Nat} {ce se : Nat} (hcm : ce ≤ mc ∧ se ≤ ms) (F : zF 0 8 mc ms p l s m args c cL_children 12 RL c0 D Y S V G A) (w1 : Int32) :
    ∀ (n cells slots : Nat) (u2 : Int32) (u3 : Int32) (u4 : Int32) (u5 : Int32) (u6 : Int32) (u7 : Int32) (T : zT) (o : (Int32 × Int32 × Int32 × Int32 × Int32 × Int32) × zT) (H : Heap) (locs : List Loc) (ls : Array Slot), cells + 47 * n ≤ ce → slots + 282 * n ≤ se → lp_L_children_51 w1 n u2 u3 u4 u5 u6 u7 T = some o → zP 0 D Y G T H → va_S A s.heap H locs → lv_has ls 12 [(0, .ref (G 0 0)), (1, .int w1), (2, .int u2), (3, .int u3), (4, .int u4), (5, .int u5), (6, .int u6), (7, .int u7)] → (∀ (H : Heap) (locs : List Loc) (ls : Array Slot), zP 0 D Y G o.2 H → va_S A s.heap H locs → lv_has ls 12 [(0, .ref (G 0 0)), (1, .int w1), (2, .int o.1.1), (3, .int o.1.2.1), (4, .int o.1.2.2.1), (5, .int o.1.2.2.2.1), (6, .int o.1.2.2.2.2.1), (7, .int o.1.2.2.2.2.2)] → W p l e (zR 8 mc ms) s m args below meth c H locs ce se Q (F0 m 316 ls [])) → W p l e (zR 8 mc ms) s m args below meth c H locs cells slots Q (F0 m 51 ls []) := by
  obtain ⟨hx, hb, hml, hown, hts, hl9, hG, hK, hA⟩ := id F
  intro n
  induction n with
  | zero =>
    intro cells slots u2 u3 u4 u5 u6 u7 T o H locs ls _ _ hf
    rw [lp_L_children_51] at hf
    cases hf
  | succ n ih =>
    intro cells slots u2 u3 u4 u5 u6 u7 T o H locs ls hc1 hc2 hf hP hS hl k0_
    rw [lp_L_children_51] at hf
    refine lv_iload hx hb dL_children_51 (lv_at hl 7 rfl) ?_
    refine lv_aload_n hx hb dL_children_53 rfl (lv_at hl 0 rfl) ?_
    obtain ⟨v23, T24, h25, hf⟩ := zb_i hf
    refine z_ok (z_runV (As := []) (rest := [.int u7]) F k_X3_childCount ml_1023 (c_X3_childCount T T24 v23 h25) hP hS (zV_0 (by decide)) rfl rfl rfl rfl hl.1 (Nat.le_of_ble_eq_true rfl) dL_children_54 (Nat.le_of_ble_eq_true rfl) ⟨by omega, by omega⟩ rfl) hS (fun H locs hP hS => ?_)
    refine lv_icmp_ge (tgt := 316) hx hb dL_children_57 (by decide) (fun hc => ?_) (fun hc => ?_)
    · have hf := zif_p hf hc
      cases hf
      refine W.widen (k := ce) (n := se) (by omega) (by omega) ?_
      exact k0_ _ _ _ hP hS (lv_sub hl [0, 1, 2, 3, 4, 5, 6, 7] rfl)
    · have hf := zif_n hf hc
      refine lv_iload hx hb dL_children_60 (lv_at hl 6 rfl) ?_
      refine lv_if_eq (tgt := 316) hx hb dL_children_62 (by decide) (fun hc => ?_) (fun hc => ?_)
      · have hf := zif_p hf hc
        cases hf
        refine W.widen (k := ce) (n := se) (by omega) (by omega) ?_
        exact k0_ _ _ _ hP hS (lv_sub hl [0, 1, 2, 3, 4, 5, 6, 7] rfl)
      · have hf := zif_n hf hc
        refine lv_aload_n hx hb dL_children_65 rfl (lv_at hl 0 rfl) ?_
        refine lv_iload hx hb dL_children_66 (lv_at hl 7 rfl) ?_
        obtain ⟨v26, T27, h28, hf⟩ := zbi_i hf
        refine z_ok (z_runV (As := [.int u7]) (rest := []) F k_X3_birthdayOf ml_1035 (c_X3_birthdayOf u7 T24 T27 (.inl v26) h28) hP hS (zV_0 (by decide)) rfl rfl rfl rfl hl.1 (Nat.le_of_ble_eq_true rfl) dL_children_68 (Nat.le_of_ble_eq_true rfl) ⟨by omega, by omega⟩ rfl) hS (fun H locs hP hS => ?_)
        refine lv_istore (lv' := [(8, .int v26), (0, .ref (G 0 0)), (1, .int w1), (2, .int u2), (3, .int u3), (4, .int u4), (5, .int u5), (6, .int u6), (7, .int u7)]) hx hb dL_children_71 hl (by decide) rfl (fun ls hl => ?_)
        refine lv_iload hx hb dL_children_73 (lv_at hl 0 rfl) ?_
        obtain ⟨K29, eK29, hf⟩ := zl_i hf
        have J30 : ∀ (z32 : Int32) (T31 : zT) (H : Heap) (locs : List Loc) (ls : Array Slot), K29 z32 T31 = some o → zP 0 D Y G T31 H → va_S A s.heap H locs → lv_has ls 12 [(0, .ref (G 0 0)), (1, .int w1), (2, .int u2), (3, .int u3), (4, .int u4), (5, .int u5), (7, .int u7), (8, .int v26)] → W p l e (zR 8 mc ms) s m args below meth c H locs (cells + 1) (slots + 6) Q (F0 m 103 ls [.int z32]) := by
          intro z32 T31 H locs ls hf hP hS hl
          rw [eK29] at hf
          dsimp only at hf
          refine lv_istore (lv' := [(9, .int z32), (0, .ref (G 0 0)), (1, .int w1), (2, .int u2), (3, .int u3), (4, .int u4), (5, .int u5), (7, .int u7), (8, .int v26)]) hx hb dL_children_103 hl (by decide) rfl (fun ls hl => ?_)
          refine lv_iconst (v := 0) hx hb dL_children_105 (by decide) ?_
          refine lv_istore (lv' := [(10, .int 0), (9, .int z32), (0, .ref (G 0 0)), (1, .int w1), (2, .int u2), (3, .int u3), (4, .int u4), (5, .int u5), (7, .int u7), (8, .int v26)]) hx hb dL_children_106 hl (by decide) rfl (fun ls hl => ?_)
          refine lv_iconst (v := 0) hx hb dL_children_108 (by decide) ?_
          refine lv_istore (lv' := [(11, .int 0), (10, .int 0), (9, .int z32), (0, .ref (G 0 0)), (1, .int w1), (2, .int u2), (3, .int u3), (4, .int u4), (5, .int u5), (7, .int u7), (8, .int v26)]) hx hb dL_children_109 hl (by decide) rfl (fun ls hl => ?_)
          obtain ⟨v50, T49, h51, hf⟩ := zb_i hf
          refine l_L_children_111 (ce := cells + 33) (se := slots + 198) ⟨(by omega), (by omega)⟩ F w1 u2 u3 u4 u5 u7 v26 z32 16 (cells + 1) (slots + 6) 0 0 _ _ _ _ _ (by omega) (by omega) h51 hP hS (lv_sub hl [3, 4, 5, 6, 7, 8, 9, 10, 2, 1, 0] rfl) (fun H locs ls hP hS hl => ?_)
          refine lv_iload hx hb dL_children_151 (lv_at hl 8 rfl) ?_
          obtain ⟨K54, eK54, hf⟩ := zl_i hf
          have J55 : ∀ (z64 : Int32) (T63 : zT) (H : Heap) (locs : List Loc) (ls : Array Slot), K54 z64 T63 = some o → zP 0 D Y G T63 H → va_S A s.heap H locs → lv_has ls 12 [(0, .ref (G 0 0)), (1, .int w1), (3, .int u3), (4, .int u4), (5, .int u5), (7, .int u7), (8, .int v26), (9, .int z32), (10, .int v50.1)] → W p l e (zR 8 mc ms) s m args below meth c H locs (cells + 34) (slots + 204) Q (F0 m 176 ls [.int z64]) := by
            intro z64 T63 H locs ls hf hP hS hl
            rw [eK54] at hf
            dsimp only at hf
            refine lv_istore_n (lv' := [(2, .int z64), (0, .ref (G 0 0)), (1, .int w1), (3, .int u3), (4, .int u4), (5, .int u5), (7, .int u7), (8, .int v26), (9, .int z32), (10, .int v50.1)]) hx hb dL_children_176 rfl hl (by decide) rfl (fun ls hl => ?_)
            refine lv_iload_n hx hb dL_children_177 rfl (lv_at hl 3 rfl) ?_
            refine lv_aload_n hx hb dL_children_178 rfl (lv_at hl 1 rfl) ?_
            refine lv_iload hx hb dL_children_179 (lv_at hl 6 rfl) ?_
            obtain ⟨v65, T66, h67, hf⟩ := zbi_i hf
            refine z_ok (z_runV (As := [.int u7]) (rest := [.int u3]) F k_X3_ageOf ml_1027 (c_X3_ageOf u7 T63 T66 (.inl v65) h67) hP hS (zV_0 (by decide)) rfl rfl rfl rfl hl.1 (Nat.le_of_ble_eq_true rfl) dL_children_181 (Nat.le_of_ble_eq_true rfl) ⟨by omega, by omega⟩ rfl) hS (fun H locs hP hS => ?_)
            refine lv_iadd hx hb dL_children_184 ?_
            obtain ⟨x68, ex68, hf⟩ := zl_i hf
            refine z_topi ex68 ?_
            refine lv_istore_n (lv' := [(3, .int x68), (2, .int z64), (0, .ref (G 0 0)), (1, .int w1), (4, .int u4), (5, .int u5), (7, .int u7), (8, .int v26), (9, .int z32), (10, .int v50.1)]) hx hb dL_children_185 rfl hl (by decide) rfl (fun ls hl => ?_)
            refine lv_iload hx hb dL_children_186 (lv_at hl 4 rfl) ?_
            refine lv_aload_n hx hb dL_children_188 rfl (lv_at hl 2 rfl) ?_
            refine lv_iload hx hb dL_children_189 (lv_at hl 6 rfl) ?_
            obtain ⟨v69, T70, h71, hf⟩ := zbi_i hf
            refine z_ok (z_runV (As := [.int u7]) (rest := [.int u4]) F k_X3_wishesOf ml_1043 (c_X3_wishesOf u7 T66 T70 (.inl v69) h71) hP hS (zV_0 (by decide)) rfl rfl rfl rfl hl.1 (Nat.le_of_ble_eq_true rfl) dL_children_191 (Nat.le_of_ble_eq_true rfl) ⟨by omega, by omega⟩ rfl) hS (fun H locs hP hS => ?_)
            refine lv_iadd hx hb dL_children_194 ?_
            obtain ⟨x72, ex72, hf⟩ := zl_i hf
            refine z_topi ex72 ?_
            refine lv_istore (lv' := [(4, .int x72), (3, .int x68), (2, .int z64), (0, .ref (G 0 0)), (1, .int w1), (5, .int u5), (7, .int u7), (8, .int v26), (9, .int z32), (10, .int v50.1)]) hx hb dL_children_195 hl (by decide) rfl (fun ls hl => ?_)
            refine lv_iload hx hb dL_children_197 (lv_at hl 5 rfl) ?_
            refine lv_aload_n hx hb dL_children_199 rfl (lv_at hl 3 rfl) ?_
            refine lv_iload hx hb dL_children_200 (lv_at hl 6 rfl) ?_
            obtain ⟨v73, T74, h75, hf⟩ := zbi_i hf
            refine z_ok (z_runV (As := [.int u7]) (rest := [.int u5]) F k_X3_partiesOf ml_1039 (c_X3_partiesOf u7 T70 T74 (.inl v73) h75) hP hS (zV_0 (by decide)) rfl rfl rfl rfl hl.1 (Nat.le_of_ble_eq_true rfl) dL_children_202 (Nat.le_of_ble_eq_true rfl) ⟨by omega, by omega⟩ rfl) hS (fun H locs hP hS => ?_)
            refine lv_iadd hx hb dL_children_205 ?_
            obtain ⟨x76, ex76, hf⟩ := zl_i hf
            refine z_topi ex76 ?_
            refine lv_istore (lv' := [(5, .int x76), (4, .int x72), (3, .int x68), (2, .int z64), (0, .ref (G 0 0)), (1, .int w1), (7, .int u7), (8, .int v26), (9, .int z32), (10, .int v50.1)]) hx hb dL_children_206 hl (by decide) rfl (fun ls hl => ?_)
            refine lv_aload_n hx hb dL_children_208 rfl (lv_at hl 4 rfl) ?_
            refine lv_iload hx hb dL_children_209 (lv_at hl 6 rfl) ?_
            obtain ⟨v77, T78, h79, hf⟩ := zbi_i hf
            refine z_ok (z_runV (As := [.int u7]) (rest := []) F k_X3_daysUntilBirthday ml_1077 (c_X3_daysUntilBirthday u7 T74 T78 (.inl v77) h79) hP hS (zV_0 (by decide)) rfl rfl rfl rfl hl.1 (Nat.le_of_ble_eq_true rfl) dL_children_211 (Nat.le_of_ble_eq_true rfl) ⟨by omega, by omega⟩ rfl) hS (fun H locs hP hS => ?_)
            refine lv_iload hx hb dL_children_214 (lv_at hl 8 rfl) ?_
            obtain ⟨K80, eK80, hf⟩ := zl_i hf
            have J81 : ∀ (T110 : zT) (H : Heap) (locs : List Loc) (ls : Array Slot), K80 T110 = some o → zP 0 D Y G T110 H → va_S A s.heap H locs → lv_has ls 12 [(0, .ref (G 0 0)), (1, .int w1), (2, .int z64), (3, .int x68), (4, .int x72), (5, .int x76), (7, .int u7)] → W p l e (zR 8 mc ms) s m args below meth c H locs (cells + 47) (slots + 282) Q (F0 m 307 ls []) := by
              intro T110 H locs ls hf hP hS hl
              rw [eK80] at hf
              dsimp only at hf
              refine lv_iconst (v := 0) hx hb dL_children_307 (by decide) ?_
              refine lv_istore (lv' := [(6, .int 0), (0, .ref (G 0 0)), (1, .int w1), (2, .int z64), (3, .int x68), (4, .int x72), (5, .int x76), (7, .int u7)]) hx hb dL_children_308 hl (by decide) rfl (fun ls hl => ?_)
              obtain ⟨x111, ex111, hf⟩ := zl_i hf
              refine lv_iinc (v := x111) (lv' := [(7, .int x111), (6, .int 0), (0, .ref (G 0 0)), (1, .int w1), (2, .int z64), (3, .int x68), (4, .int x72), (5, .int x76)]) hx hb dL_children_310 hl (k := 7) rfl (by rw [ex111]; rfl) (by decide) rfl (fun ls hl => ?_)
              refine lv_goto (tgt := 51) hx hb dL_children_313 (by decide) ?_
              exact ih (cells + 47) (slots + 282) z64 x68 x72 x76 0 x111 _ _ _ _ _ (by omega) (by omega) hf hP hS (lv_sub hl [2, 3, 4, 5, 6, 7, 1, 0] rfl) k0_
            refine lv_icmp_ne (tgt := 307) hx hb dL_children_216 (by decide) (fun hc => ?_) (fun hc => ?_)
            · have hf := zif_n hf hc
              refine W.widen (k := cells + 47) (n := slots + 282) (by omega) (by omega) ?_
              exact J81 T78 _ _ _ hf hP hS (lv_sub hl [4, 5, 3, 2, 1, 0, 6] rfl)
            · have hf := zif_p hf hc
              refine lv_aload_n hx hb dL_children_219 rfl (lv_at hl 4 rfl) ?_
              refine lv_iload hx hb dL_children_220 (lv_at hl 6 rfl) ?_
              obtain ⟨v82, T83, h84, hf⟩ := zbi_i hf
              refine z_ok (z_runV (As := [.int u7]) (rest := []) F k_X3_wishesOf ml_1043 (c_X3_wishesOf u7 T78 T83 (.inl v82) h84) hP hS (zV_0 (by decide)) rfl rfl rfl rfl hl.1 (Nat.le_of_ble_eq_true rfl) dL_children_222 (Nat.le_of_ble_eq_true rfl) ⟨by omega, by omega⟩ rfl) hS (fun H locs hP hS => ?_)
              refine lv_aload_n hx hb dL_children_225 rfl (lv_at hl 4 rfl) ?_
              refine lv_iload hx hb dL_children_226 (lv_at hl 6 rfl) ?_
              obtain ⟨v85, T86, h87, hf⟩ := zbi_i hf
              refine z_ok (z_runV (As := [.int u7]) (rest := [.int v82]) F k_X3_partiesOf ml_1039 (c_X3_partiesOf u7 T83 T86 (.inl v85) h87) hP hS (zV_0 (by decide)) rfl rfl rfl rfl hl.1 (Nat.le_of_ble_eq_true rfl) dL_children_228 (Nat.le_of_ble_eq_true rfl) ⟨by omega, by omega⟩ rfl) hS (fun H locs hP hS => ?_)
              refine lv_icmp_gt (tgt := 307) hx hb dL_children_231 (by decide) (fun hc => ?_) (fun hc => ?_)
              · have hf := zif_p hf hc
                refine W.widen (k := cells + 47) (n := slots + 282) (by omega) (by omega) ?_
                exact J81 T86 _ _ _ hf hP hS (lv_sub hl [4, 5, 3, 2, 1, 0, 6] rfl)
              · have hf := zif_n hf hc
                refine lv_aload_n hx hb dL_children_234 rfl (lv_at hl 4 rfl) ?_
                refine lv_iload hx hb dL_children_235 (lv_at hl 6 rfl) ?_
                obtain ⟨v88, T89, h90, hf⟩ := zbi_i hf
                refine z_ok (z_runV (As := [.int u7]) (rest := []) F k_X3_strengthOf ml_1081 (c_X3_strengthOf u7 T86 T89 (.inl v88) h90) hP hS (zV_0 (by decide)) rfl rfl rfl rfl hl.1 (Nat.le_of_ble_eq_true rfl) dL_children_237 (Nat.le_of_ble_eq_true rfl) ⟨by omega, by omega⟩ rfl) hS (fun H locs hP hS => ?_)
                refine lv_aload_n hx hb dL_children_240 rfl (lv_at hl 4 rfl) ?_
                refine lv_iload hx hb dL_children_241 (lv_at hl 6 rfl) ?_
                obtain ⟨v91, T92, h93, hf⟩ := zbi_i hf
                refine z_ok (z_runV (As := [.int u7]) (rest := [.int v88]) F k_X3_breathOf ml_1086 (c_X3_breathOf u7 T89 T92 (.inl v91) h93) hP hS (zV_0 (by decide)) rfl rfl rfl rfl hl.1 (Nat.le_of_ble_eq_true rfl) dL_children_243 (Nat.le_of_ble_eq_true rfl) ⟨by omega, by omega⟩ rfl) hS (fun H locs hP hS => ?_)
                refine lv_iload hx hb dL_children_246 (lv_at hl 9 rfl) ?_
                refine lv_iconst (v := 1) hx hb dL_children_248 (by decide) ?_
                refine lv_isub hx hb dL_children_249 ?_
                refine lv_aload_n hx hb dL_children_250 rfl (lv_at hl 4 rfl) ?_
                refine lv_aload_n hx hb dL_children_251 rfl (lv_at hl 4 rfl) ?_
                refine lv_iload hx hb dL_children_252 (lv_at hl 6 rfl) ?_
                obtain ⟨v94, T95, h96, hf⟩ := zbi_i hf
                refine z_ok (z_runV (As := [.int u7]) (rest := [.ref (G 0 0), .int (v50.1 - 1), .int v91, .int v88]) F k_X3_gardenOf ml_1031 (c_X3_gardenOf u7 T92 T95 (.inl v94) h96) hP hS (zV_0 (by decide)) rfl rfl rfl rfl hl.1 (Nat.le_of_ble_eq_true rfl) dL_children_254 (Nat.le_of_ble_eq_true rfl) ⟨by omega, by omega⟩ rfl) hS (fun H locs hP hS => ?_)
                obtain ⟨v97, T98, h99, hf⟩ := zbi_i hf
                refine z_ok (z_runV (As := [.int v94]) (rest := [.int (v50.1 - 1), .int v91, .int v88]) F k_X3_seatsOf ml_1090 (c_X3_seatsOf v94 T95 T98 (.inl v97) h99) hP hS (zV_0 (by decide)) rfl rfl rfl rfl hl.1 (Nat.le_of_ble_eq_true rfl) dL_children_257 (Nat.le_of_ble_eq_true rfl) ⟨by omega, by omega⟩ rfl) hS (fun H locs hP hS => ?_)
                refine lv_iconst (v := 1) hx hb dL_children_260 (by decide) ?_
                refine lv_isub hx hb dL_children_261 ?_
                refine z_mmin F ml_1094 ml_408 ml_40 ml_409 hl.1 (Nat.le_of_ble_eq_true rfl) (Nat.le_of_ble_eq_true rfl) ⟨by omega, by omega⟩ dL_children_262 ?_
                refine lv_iadd hx hb dL_children_265 ?_
                refine lv_icmp_ne (tgt := 307) hx hb dL_children_266 (by decide) (fun hc => ?_) (fun hc => ?_)
                · have hf := zif_n hf hc
                  refine W.widen (k := cells + 47) (n := slots + 282) (by omega) (by omega) ?_
                  exact J81 T98 _ _ _ hf hP hS (lv_sub hl [4, 5, 3, 2, 1, 0, 6] rfl)
                · have hf := zif_p hf hc
                  refine lv_iload hx hb dL_children_269 (lv_at hl 7 rfl) ?_
                  obtain ⟨K100, eK100, hf⟩ := zl_i hf
                  have J101 : ∀ (T108 : zT) (H : Heap) (locs : List Loc) (ls : Array Slot), K100 T108 = some o → zP 0 D Y G T108 H → va_S A s.heap H locs → lv_has ls 12 [(0, .ref (G 0 0)), (1, .int w1), (2, .int z64), (3, .int x68), (4, .int x72), (5, .int x76), (7, .int u7)] → W p l e (zR 8 mc ms) s m args below meth c H locs (cells + 47) (slots + 282) Q (F0 m 303 ls []) := by
                    intro T108 H locs ls hf hP hS hl
                    rw [eK100] at hf
                    dsimp only at hf
                    refine lv_iconst (v := 1) hx hb dL_children_303 (by decide) ?_
                    refine lv_goto (tgt := 308) hx hb dL_children_304 (by decide) ?_
                    refine lv_istore (lv' := [(6, .int 1), (0, .ref (G 0 0)), (1, .int w1), (2, .int z64), (3, .int x68), (4, .int x72), (5, .int x76), (7, .int u7)]) hx hb dL_children_308 hl (by decide) rfl (fun ls hl => ?_)
                    obtain ⟨x109, ex109, hf⟩ := zl_i hf
                    refine lv_iinc (v := x109) (lv' := [(7, .int x109), (6, .int 1), (0, .ref (G 0 0)), (1, .int w1), (2, .int z64), (3, .int x68), (4, .int x72), (5, .int x76)]) hx hb dL_children_310 hl (k := 7) rfl (by rw [ex109]; rfl) (by decide) rfl (fun ls hl => ?_)
                    refine lv_goto (tgt := 51) hx hb dL_children_313 (by decide) ?_
                    exact ih (cells + 47) (slots + 282) z64 x68 x72 x76 1 x109 _ _ _ _ _ (by omega) (by omega) hf hP hS (lv_sub hl [2, 3, 4, 5, 6, 7, 1, 0] rfl) k0_
                  refine lv_if_lt (tgt := 303) hx hb dL_children_271 (by decide) (fun hc => ?_) (fun hc => ?_)
                  · have hf := zif_p hf hc
                    refine W.widen (k := cells + 47) (n := slots + 282) (by omega) (by omega) ?_
                    exact J101 T98 _ _ _ hf hP hS (lv_sub hl [4, 5, 3, 2, 1, 0, 6] rfl)
                  · have hf := zif_n hf hc
                    refine lv_aload_n hx hb dL_children_274 rfl (lv_at hl 4 rfl) ?_
                    refine lv_aload_n hx hb dL_children_275 rfl (lv_at hl 4 rfl) ?_
                    refine lv_iload hx hb dL_children_276 (lv_at hl 6 rfl) ?_
                    obtain ⟨v102, T103, h104, hf⟩ := zbi_i hf
                    refine z_ok (z_runV (As := [.int u7]) (rest := [.ref (G 0 0)]) F k_X3_gardenOf ml_1031 (c_X3_gardenOf u7 T98 T103 (.inl v102) h104) hP hS (zV_0 (by decide)) rfl rfl rfl rfl hl.1 (Nat.le_of_ble_eq_true rfl) dL_children_278 (Nat.le_of_ble_eq_true rfl) ⟨by omega, by omega⟩ rfl) hS (fun H locs hP hS => ?_)
                    refine lv_iload hx hb dL_children_281 (lv_at hl 7 rfl) ?_
                    refine lv_bipush (v := 30) hx hb dL_children_283 (by decide) ?_
                    refine lv_idiv hx hb dL_children_285 (by decide) ?_
                    refine lv_iconst (v := 1) hx hb dL_children_286 (by decide) ?_
                    refine lv_iadd hx hb dL_children_287 ?_
                    refine lv_iload hx hb dL_children_288 (lv_at hl 7 rfl) ?_
                    refine lv_bipush (v := 30) hx hb dL_children_290 (by decide) ?_
                    refine lv_irem hx hb dL_children_292 (by decide) ?_
                    refine lv_iconst (v := 1) hx hb dL_children_293 (by decide) ?_
                    refine lv_iadd hx hb dL_children_294 ?_
                    obtain ⟨v105, T106, h107, hf⟩ := zbi_i hf
                    refine z_ok (z_runV (As := [.int v102, .int ((v26 / 30) + 1), .int ((v26 - v26 / 30 * 30) + 1)]) (rest := []) F k_X3_partyIn ml_1095 (c_X3_partyIn v102 ((v26 / 30) + 1) ((v26 - v26 / 30 * 30) + 1) T103 T106 (.inl v105) h107) hP hS (zV_0 (by decide)) rfl rfl rfl rfl hl.1 (Nat.le_of_ble_eq_true rfl) dL_children_295 (Nat.le_of_ble_eq_true rfl) ⟨by omega, by omega⟩ rfl) hS (fun H locs hP hS => ?_)
                    refine lv_iload hx hb dL_children_298 (lv_at hl 6 rfl) ?_
                    refine lv_icmp_ne (tgt := 307) hx hb dL_children_300 (by decide) (fun hc => ?_) (fun hc => ?_)
                    · have hf := zif_n hf hc
                      refine W.widen (k := cells + 47) (n := slots + 282) (by omega) (by omega) ?_
                      exact J81 T106 _ _ _ hf hP hS (lv_sub hl [4, 5, 3, 2, 1, 0, 6] rfl)
                    · have hf := zif_p hf hc
                      refine W.widen (k := cells + 47) (n := slots + 282) (by omega) (by omega) ?_
                      exact J101 T106 _ _ _ hf hP hS (lv_sub hl [4, 5, 3, 2, 1, 0, 6] rfl)
          obtain ⟨K52, eK52, hf⟩ := zl_i hf
          have J53 : ∀ (T62 : zT) (H : Heap) (locs : List Loc) (ls : Array Slot), K52 T62 = some o → zP 0 D Y G T62 H → va_S A s.heap H locs → lv_has ls 12 [(0, .ref (G 0 0)), (1, .int w1), (2, .int u2), (3, .int u3), (4, .int u4), (5, .int u5), (7, .int u7), (8, .int v26), (9, .int z32), (10, .int v50.1)] → W p l e (zR 8 mc ms) s m args below meth c H locs (cells + 34) (slots + 204) Q (F0 m 175 ls []) := by
            intro T62 H locs ls hf hP hS hl
            rw [eK52] at hf
            dsimp only at hf
            refine lv_iload_n hx hb dL_children_175 rfl (lv_at hl 2 rfl) ?_
            refine W.widen (k := cells + 34) (n := slots + 204) (by omega) (by omega) ?_
            exact J55 u2 T62 _ _ _ hf hP hS (lv_sub hl [0, 1, 3, 4, 5, 6, 7, 8, 9] rfl)
          refine lv_if_le (tgt := 175) hx hb dL_children_153 (by decide) (fun hc => ?_) (fun hc => ?_)
          · have hf := zif_p hf hc
            refine W.widen (k := cells + 34) (n := slots + 204) (by omega) (by omega) ?_
            exact J53 T49 _ _ _ hf hP hS (lv_sub hl [0, 1, 2, 3, 4, 5, 6, 7, 8, 9] rfl)
          · have hf := zif_n hf hc
            refine lv_iload_n hx hb dL_children_156 rfl (lv_at hl 2 rfl) ?_
            obtain ⟨K56, eK56, hf⟩ := zl_i hf
            have J57 : ∀ (T61 : zT) (H : Heap) (locs : List Loc) (ls : Array Slot), K56 T61 = some o → zP 0 D Y G T61 H → va_S A s.heap H locs → lv_has ls 12 [(0, .ref (G 0 0)), (1, .int w1), (3, .int u3), (4, .int u4), (5, .int u5), (7, .int u7), (8, .int v26), (9, .int z32), (10, .int v50.1)] → W p l e (zR 8 mc ms) s m args below meth c H locs (cells + 34) (slots + 204) Q (F0 m 170 ls []) := by
              intro T61 H locs ls hf hP hS hl
              rw [eK56] at hf
              dsimp only at hf
              refine lv_iload hx hb dL_children_170 (lv_at hl 5 rfl) ?_
              refine lv_goto (tgt := 176) hx hb dL_children_172 (by decide) ?_
              refine W.widen (k := cells + 34) (n := slots + 204) (by omega) (by omega) ?_
              exact J55 u7 T61 _ _ _ hf hP hS (lv_sub hl [0, 1, 2, 3, 4, 5, 6, 7, 8] rfl)
            refine lv_if_lt (tgt := 170) hx hb dL_children_157 (by decide) (fun hc => ?_) (fun hc => ?_)
            · have hf := zif_p hf hc
              refine W.widen (k := cells + 34) (n := slots + 204) (by omega) (by omega) ?_
              exact J57 T49 _ _ _ hf hP hS (lv_sub hl [0, 1, 3, 4, 5, 6, 7, 8, 9] rfl)
            · have hf := zif_n hf hc
              refine lv_iload hx hb dL_children_160 (lv_at hl 8 rfl) ?_
              refine lv_aload_n hx hb dL_children_162 rfl (lv_at hl 0 rfl) ?_
              refine lv_iload_n hx hb dL_children_163 rfl (lv_at hl 2 rfl) ?_
              obtain ⟨v58, T59, h60, hf⟩ := zbi_i hf
              refine z_ok (z_runV (As := [.int u2]) (rest := [.int z32]) F k_X3_daysUntilBirthday ml_1077 (c_X3_daysUntilBirthday u2 T49 T59 (.inl v58) h60) hP hS (zV_0 (by decide)) rfl rfl rfl rfl hl.1 (Nat.le_of_ble_eq_true rfl) dL_children_164 (Nat.le_of_ble_eq_true rfl) ⟨by omega, by omega⟩ rfl) hS (fun H locs hP hS => ?_)
              refine lv_icmp_ge (tgt := 175) hx hb dL_children_167 (by decide) (fun hc => ?_) (fun hc => ?_)
              · have hf := zif_p hf hc
                refine W.widen (k := cells + 34) (n := slots + 204) (by omega) (by omega) ?_
                exact J53 T59 _ _ _ hf hP hS (lv_sub hl [0, 1, 2, 3, 4, 5, 6, 7, 8, 9] rfl)
              · have hf := zif_n hf hc
                refine W.widen (k := cells + 34) (n := slots + 204) (by omega) (by omega) ?_
                exact J57 T59 _ _ _ hf hP hS (lv_sub hl [0, 1, 3, 4, 5, 6, 7, 8, 9] rfl)
        refine lv_if_ge (tgt := 82) hx hb dL_children_75 (by decide) (fun hc => ?_) (fun hc => ?_)
        · have hf := zif_p hf hc
          refine lv_iload hx hb dL_children_82 (lv_at hl 0 rfl) ?_
          refine lv_iload_n hx hb dL_children_84 rfl (lv_at hl 2 rfl) ?_
          refine lv_icmp_le (tgt := 95) hx hb dL_children_85 (by decide) (fun hc => ?_) (fun hc => ?_)
          · have hf := zif_p hf hc
            refine lv_iload hx hb dL_children_95 (lv_at hl 0 rfl) ?_
            refine lv_iload_n hx hb dL_children_97 rfl (lv_at hl 2 rfl) ?_
            refine lv_isub hx hb dL_children_98 ?_
            refine lv_sipush (v := 360) hx hb dL_children_99 (by decide) ?_
            refine lv_iadd hx hb dL_children_102 ?_
            refine W.widen (k := cells + 1) (n := slots + 6) (by omega) (by omega) ?_
            exact J30 ((v26 - w1) + 360) T27 _ _ _ hf hP hS (lv_sub hl [1, 2, 3, 4, 5, 6, 8, 0] rfl)
          · have hf := zif_n hf hc
            refine lv_iload hx hb dL_children_88 (lv_at hl 0 rfl) ?_
            refine lv_iload_n hx hb dL_children_90 rfl (lv_at hl 2 rfl) ?_
            refine lv_isub hx hb dL_children_91 ?_
            refine lv_goto (tgt := 103) hx hb dL_children_92 (by decide) ?_
            refine W.widen (k := cells + 1) (n := slots + 6) (by omega) (by omega) ?_
            exact J30 (v26 - w1) T27 _ _ _ hf hP hS (lv_sub hl [1, 2, 3, 4, 5, 6, 8, 0] rfl)
        · have hf := zif_n hf hc
          refine lv_iconst (v := (-1)) hx hb dL_children_78 (by decide) ?_
          refine lv_goto (tgt := 103) hx hb dL_children_79 (by decide) ?_
          refine W.widen (k := cells + 1) (n := slots + 6) (by omega) (by omega) ?_
          exact J30 (-1) T27 _ _ _ hf hP hS (lv_sub hl [1, 2, 3, 4, 5, 6, 8, 0] rfl)
set_option maxHeartbeats 8000000 in
set_option maxRecDepth 100000 in
theorem c_L_children (T T' : zT) (v : Int32) (hf : f_L_children T = some (v, T')) : zC 0 yL_children cL_children 12 (some .boolean) 8 752 4512 (fun G _ => [.ref (G 0 0)]) T (fun _ => .inl (some (.int v))) T' := by
  intro l D Y S V G A hl9 hG
  refine vx_ofW (cc := cL_children) (maxL := 12) (ret := (some .boolean)) (by decide) rfl ?_
  intro p e s m args below meth c s₁ B hml hex hv
  obtain ⟨rfl, hK, hP, hA⟩ := hv
  have hx := B.exec
  have hb := B.bytes
  have hr := B.returns
  have hlocks := B.notSynchronized
  have hown : s.vm.findClass RL = some m.cls := findClass_of_methodNamed B.named
  have hts := atoms_spec (ws := Cond.code yL_children cL_children 12 (some .boolean) :: zWS) B.pre
  have F : zF 0 8 752 4512 p l s m _ c cL_children 12 RL (Cond.code yL_children cL_children 12 (some .boolean)) D Y S V G A := ⟨hx, hb, hml, hown, hts, hl9, hG, hK, hA⟩
  have hS : va_S A s.heap s.heap [] := va_S.rf
  have hl := lv_entry ([.ref (G 0 0)]) (n := 12) (Nat.le_of_ble_eq_true rfl)
  rw [lg_entry_eq]
  generalize (lg_sl ([.ref (G 0 0)]) ++ List.replicate (12 - (lg_sl ([.ref (G 0 0)])).length) Slot.unset).toArray = ls at hl ⊢
  have hl : lv_has ls 12 [(0, .ref (G 0 0))] := hl
  unfold f_L_children at hf
  refine lv_aload_n hx hb dL_children_0 rfl (lv_at hl 0 rfl) ?_
  obtain ⟨v1, T2, h3, hf⟩ := zb_i hf
  refine z_ok (z_runV (As := []) (rest := []) F k_X3_month ml_997 (c_X3_month T T2 v1 h3) hP hS (zV_0 (by decide)) rfl rfl rfl rfl hl.1 (Nat.le_of_ble_eq_true rfl) dL_children_1 (Nat.le_of_ble_eq_true rfl) ⟨(Nat.le_of_ble_eq_true rfl), (Nat.le_of_ble_eq_true rfl)⟩ rfl) hS (fun H locs hP hS => ?_)
  refine lv_iconst (v := 1) hx hb dL_children_4 (by decide) ?_
  refine lv_isub hx hb dL_children_5 ?_
  refine lv_bipush (v := 30) hx hb dL_children_6 (by decide) ?_
  refine lv_imul hx hb dL_children_8 ?_
  refine lv_aload_n hx hb dL_children_9 rfl (lv_at hl 0 rfl) ?_
  obtain ⟨v4, T5, h6, hf⟩ := zb_i hf
  refine z_ok (z_runV (As := []) (rest := [.int ((v1 - 1) * 30)]) F k_X3_dayOfMonth ml_1004 (c_X3_dayOfMonth T2 T5 v4 h6) hP hS (zV_0 (by decide)) rfl rfl rfl rfl hl.1 (Nat.le_of_ble_eq_true rfl) dL_children_10 (Nat.le_of_ble_eq_true rfl) ⟨(Nat.le_of_ble_eq_true rfl), (Nat.le_of_ble_eq_true rfl)⟩ rfl) hS (fun H locs hP hS => ?_)
  refine lv_iadd hx hb dL_children_13 ?_
  refine lv_iconst (v := 1) hx hb dL_children_14 (by decide) ?_
  refine lv_isub hx hb dL_children_15 ?_
  obtain ⟨x7, ex7, hf⟩ := zl_i hf
  refine z_topi ex7 ?_
  refine lv_istore_n (lv' := [(1, .int x7), (0, .ref (G 0 0))]) hx hb dL_children_16 rfl hl (by decide) rfl (fun ls hl => ?_)
  refine lv_iconst (v := (-1)) hx hb dL_children_17 (by decide) ?_
  refine lv_istore_n (lv' := [(2, .int (-1)), (1, .int x7), (0, .ref (G 0 0))]) hx hb dL_children_18 rfl hl (by decide) rfl (fun ls hl => ?_)
  refine lv_iconst (v := 0) hx hb dL_children_19 (by decide) ?_
  refine lv_istore_n (lv' := [(3, .int 0), (2, .int (-1)), (1, .int x7), (0, .ref (G 0 0))]) hx hb dL_children_20 rfl hl (by decide) rfl (fun ls hl => ?_)
  refine lv_iconst (v := 0) hx hb dL_children_21 (by decide) ?_
  refine lv_istore (lv' := [(4, .int 0), (3, .int 0), (2, .int (-1)), (1, .int x7), (0, .ref (G 0 0))]) hx hb dL_children_22 hl (by decide) rfl (fun ls hl => ?_)
  refine lv_iconst (v := 0) hx hb dL_children_24 (by decide) ?_
  refine lv_istore (lv' := [(5, .int 0), (4, .int 0), (3, .int 0), (2, .int (-1)), (1, .int x7), (0, .ref (G 0 0))]) hx hb dL_children_25 hl (by decide) rfl (fun ls hl => ?_)
  refine lv_aload_n hx hb dL_children_27 rfl (lv_at hl 5 rfl) ?_
  obtain ⟨v8, T9, h10, hf⟩ := zb_i hf
  refine z_ok (z_runV (As := []) (rest := []) F k_X3_clashes ml_1061 (c_X3_clashes T5 T9 v8 h10) hP hS (zV_0 (by decide)) rfl rfl rfl rfl hl.1 (Nat.le_of_ble_eq_true rfl) dL_children_28 (Nat.le_of_ble_eq_true rfl) ⟨(Nat.le_of_ble_eq_true rfl), (Nat.le_of_ble_eq_true rfl)⟩ rfl) hS (fun H locs hP hS => ?_)
  obtain ⟨K15, eK15, hf⟩ := zl_i hf
  have J16 : ∀ (w116 : Int32) (w117 : Int32) (w118 : Int32) (w119 : Int32) (w120 : Int32) (T115 : zT) (H : Heap) (locs : List Loc) (ls : Array Slot), K15 w116 w117 w118 w119 w120 T115 = some (v, T') → zP 0 D Y G T115 H → va_S A s.heap H locs → lv_has ls 12 [(0, .ref (G 0 0)), (2, .int w116), (3, .int w117), (4, .int w118), (5, .int w119), (6, .int w120)] → W p l e (zR 8 752 4512) s m ([.ref (G 0 0)] : List Value).toArray below meth c H locs (752) (4512) (vx_MQ below (zQ 0 D Y G A (.inl (some (.int v))) T') (zX 0 D Y G A (.inl (some (.int v))) T') ([.ref (G 0 0)] : List Value).toArray s 752 4512 A) (F0 m 316 ls []) := by
    intro w116 w117 w118 w119 w120 T115 H locs ls hf hP hS hl
    rw [eK15] at hf
    dsimp only at hf
    refine lv_aload_n hx hb dL_children_316 rfl (lv_at hl 0 rfl) ?_
    obtain ⟨v121, T122, h123, hf⟩ := zb_i hf
    refine z_ok (z_runV (As := []) (rest := []) F k_X3_childCount ml_1023 (c_X3_childCount T115 T122 v121 h123) hP hS (zV_0 (by decide)) rfl rfl rfl rfl hl.1 (Nat.le_of_ble_eq_true rfl) dL_children_317 (Nat.le_of_ble_eq_true rfl) ⟨(Nat.le_of_ble_eq_true rfl), (Nat.le_of_ble_eq_true rfl)⟩ rfl) hS (fun H locs hP hS => ?_)
    refine lv_istore (lv' := [(7, .int v121), (0, .ref (G 0 0)), (2, .int w116), (3, .int w117), (4, .int w118), (5, .int w119), (6, .int w120)]) hx hb dL_children_320 hl (by decide) rfl (fun ls hl => ?_)
    refine lv_iload hx hb dL_children_322 (lv_at hl 6 rfl) ?_
    refine lv_if_eq (tgt := 395) hx hb dL_children_324 (by decide) (fun hc => ?_) (fun hc => ?_)
    · have hf := zif_p hf hc
      refine lv_iconst (v := 0) hx hb dL_children_395 (by decide) ?_
      obtain ⟨q1, q2⟩ := zs_i hf
      subst q1; subst q2
      exact z_zret hx hb hr (Or.inl rfl) rfl hP hS hlocks (Nat.le_of_ble_eq_true rfl) (Nat.le_of_ble_eq_true rfl) dL_children_396
    · have hf := zif_n hf hc
      refine lv_aload_n hx hb dL_children_327 rfl (lv_at hl 1 rfl) ?_
      obtain ⟨v124, T125, h126, hf⟩ := zb_i hf
      refine z_ok (z_runV (As := []) (rest := []) F k_X3_nextChild ml_1099 (c_X3_nextChild T122 T125 v124 h126) hP hS (zV_0 (by decide)) rfl rfl rfl rfl hl.1 (Nat.le_of_ble_eq_true rfl) dL_children_328 (Nat.le_of_ble_eq_true rfl) ⟨(Nat.le_of_ble_eq_true rfl), (Nat.le_of_ble_eq_true rfl)⟩ rfl) hS (fun H locs hP hS => ?_)
      refine lv_iload_n hx hb dL_children_331 rfl (lv_at hl 2 rfl) ?_
      refine lv_icmp_ne (tgt := 395) hx hb dL_children_332 (by decide) (fun hc => ?_) (fun hc => ?_)
      · have hf := zif_n hf hc
        refine lv_iconst (v := 0) hx hb dL_children_395 (by decide) ?_
        obtain ⟨q1, q2⟩ := zs_i hf
        subst q1; subst q2
        exact z_zret hx hb hr (Or.inl rfl) rfl hP hS hlocks (Nat.le_of_ble_eq_true rfl) (Nat.le_of_ble_eq_true rfl) dL_children_396
      · have hf := zif_p hf hc
        refine lv_aload_n hx hb dL_children_335 rfl (lv_at hl 1 rfl) ?_
        obtain ⟨v127, T128, h129, hf⟩ := zb_i hf
        refine z_ok (z_runV (As := []) (rest := []) F k_X3_heldParties ml_1047 (c_X3_heldParties T125 T128 v127 h129) hP hS (zV_0 (by decide)) rfl rfl rfl rfl hl.1 (Nat.le_of_ble_eq_true rfl) dL_children_336 (Nat.le_of_ble_eq_true rfl) ⟨(Nat.le_of_ble_eq_true rfl), (Nat.le_of_ble_eq_true rfl)⟩ rfl) hS (fun H locs hP hS => ?_)
        refine lv_iload hx hb dL_children_339 (lv_at hl 5 rfl) ?_
        refine lv_icmp_ne (tgt := 395) hx hb dL_children_341 (by decide) (fun hc => ?_) (fun hc => ?_)
        · have hf := zif_n hf hc
          refine lv_iconst (v := 0) hx hb dL_children_395 (by decide) ?_
          obtain ⟨q1, q2⟩ := zs_i hf
          subst q1; subst q2
          exact z_zret hx hb hr (Or.inl rfl) rfl hP hS hlocks (Nat.le_of_ble_eq_true rfl) (Nat.le_of_ble_eq_true rfl) dL_children_396
        · have hf := zif_p hf hc
          refine lv_aload_n hx hb dL_children_344 rfl (lv_at hl 1 rfl) ?_
          obtain ⟨v130, T131, h132, hf⟩ := zb_i hf
          refine z_ok (z_runV (As := []) (rest := []) F k_X3_meanAge ml_1103 (c_X3_meanAge T128 T131 v130 h132) hP hS (zV_0 (by decide)) rfl rfl rfl rfl hl.1 (Nat.le_of_ble_eq_true rfl) dL_children_345 (Nat.le_of_ble_eq_true rfl) ⟨(Nat.le_of_ble_eq_true rfl), (Nat.le_of_ble_eq_true rfl)⟩ rfl) hS (fun H locs hP hS => ?_)
          refine lv_iload hx hb dL_children_348 (lv_at hl 0 rfl) ?_
          obtain ⟨K133, eK133, hf⟩ := zl_i hf
          have J134 : ∀ (z137 : UInt64) (z138 : UInt64) (T136 : zT) (H : Heap) (locs : List Loc) (ls : Array Slot), K133 z137 z138 T136 = some (v, T') → zP 0 D Y G T136 H → va_S A s.heap H locs → lv_has ls 12 [(0, .ref (G 0 0)), (4, .int w118), (5, .int w119)] → W p l e (zR 8 752 4512) s m ([.ref (G 0 0)] : List Value).toArray below meth c H locs (752) (4512) (vx_MQ below (zQ 0 D Y G A (.inl (some (.int v))) T') (zX 0 D Y G A (.inl (some (.int v))) T') ([.ref (G 0 0)] : List Value).toArray s 752 4512 A) (F0 m 363 ls [.double z138, .double z137]) := by
            intro z137 z138 T136 H locs ls hf hP hS hl
            rw [eK133] at hf
            dsimp only at hf
            refine lv_dcmp hx hb dL_children_363 ?_
            refine lv_if_ne (tgt := 395) hx hb dL_children_364 (by decide) (fun hc => ?_) (fun hc => ?_)
            · have hf := zif_n hf hc
              refine lv_iconst (v := 0) hx hb dL_children_395 (by decide) ?_
              obtain ⟨q1, q2⟩ := zs_i hf
              subst q1; subst q2
              exact z_zret hx hb hr (Or.inl rfl) rfl hP hS hlocks (Nat.le_of_ble_eq_true rfl) (Nat.le_of_ble_eq_true rfl) dL_children_396
            · have hf := zif_p hf hc
              refine lv_aload_n hx hb dL_children_367 rfl (lv_at hl 0 rfl) ?_
              obtain ⟨v139, T140, h141, hf⟩ := zb_i hf
              refine z_ok (z_runV (As := []) (rest := []) F k_X3_wishShare ml_1107 (c_X3_wishShare T136 T140 v139 h141) hP hS (zV_0 (by decide)) rfl rfl rfl rfl hl.1 (Nat.le_of_ble_eq_true rfl) dL_children_368 (Nat.le_of_ble_eq_true rfl) ⟨(Nat.le_of_ble_eq_true rfl), (Nat.le_of_ble_eq_true rfl)⟩ rfl) hS (fun H locs hP hS => ?_)
              refine lv_iload hx hb dL_children_371 (lv_at hl 2 rfl) ?_
              obtain ⟨K142, eK142, hf⟩ := zl_i hf
              have J143 : ∀ (z146 : UInt32) (z147 : UInt32) (T145 : zT) (H : Heap) (locs : List Loc) (ls : Array Slot), K142 z146 z147 T145 = some (v, T') → zP 0 D Y G T145 H → va_S A s.heap H locs → lv_has ls 12 [] → W p l e (zR 8 752 4512) s m ([.ref (G 0 0)] : List Value).toArray below meth c H locs (752) (4512) (vx_MQ below (zQ 0 D Y G A (.inl (some (.int v))) T') (zX 0 D Y G A (.inl (some (.int v))) T') ([.ref (G 0 0)] : List Value).toArray s 752 4512 A) (F0 m 387 ls [.float z147, .float z146]) := by
                intro z146 z147 T145 H locs ls hf hP hS hl
                rw [eK142] at hf
                dsimp only at hf
                refine lv_fcmp hx hb dL_children_387 ?_
                refine lv_if_ne (tgt := 395) hx hb dL_children_388 (by decide) (fun hc => ?_) (fun hc => ?_)
                · have hf := zif_n hf hc
                  refine lv_iconst (v := 0) hx hb dL_children_395 (by decide) ?_
                  obtain ⟨q1, q2⟩ := zs_i hf
                  subst q1; subst q2
                  exact z_zret hx hb hr (Or.inl rfl) rfl hP hS hlocks (Nat.le_of_ble_eq_true rfl) (Nat.le_of_ble_eq_true rfl) dL_children_396
                · have hf := zif_p hf hc
                  refine lv_iconst (v := 1) hx hb dL_children_391 (by decide) ?_
                  refine lv_goto (tgt := 396) hx hb dL_children_392 (by decide) ?_
                  obtain ⟨q1, q2⟩ := zs_i hf
                  subst q1; subst q2
                  exact z_zret hx hb hr (Or.inr rfl) rfl hP hS hlocks (Nat.le_of_ble_eq_true rfl) (Nat.le_of_ble_eq_true rfl) dL_children_396
              refine lv_if_ne (tgt := 380) hx hb dL_children_373 (by decide) (fun hc => ?_) (fun hc => ?_)
              · have hf := zif_n hf hc
                refine lv_iload hx hb dL_children_380 (lv_at hl 1 rfl) ?_
                refine lv_i2f hx hb dL_children_382 ?_
                refine lv_iload hx hb dL_children_383 (lv_at hl 2 rfl) ?_
                refine lv_i2f hx hb dL_children_385 ?_
                obtain ⟨h144, hf⟩ := zif_c hf
                refine lv_fdiv hx hb dL_children_386 (z_nn32 h144) ?_
                refine W.widen (k := 752) (n := 4512) (Nat.le_of_ble_eq_true rfl) (Nat.le_of_ble_eq_true rfl) ?_
                exact J143 v139 (FP.fdiv (FP.i2f w118) (FP.i2f w119)) T140 _ _ _ hf hP hS (lv_sub hl [] rfl)
              · have hf := zif_p hf hc
                refine lv_fconst0 hx hb dL_children_376 ?_
                refine lv_goto (tgt := 387) hx hb dL_children_377 (by decide) ?_
                refine W.widen (k := 752) (n := 4512) (Nat.le_of_ble_eq_true rfl) (Nat.le_of_ble_eq_true rfl) ?_
                exact J143 v139 (FP.fconst0) T140 _ _ _ hf hP hS (lv_sub hl [] rfl)
          refine lv_if_ne (tgt := 357) hx hb dL_children_350 (by decide) (fun hc => ?_) (fun hc => ?_)
          · have hf := zif_n hf hc
            refine lv_iload_n hx hb dL_children_357 rfl (lv_at hl 3 rfl) ?_
            refine lv_i2d hx hb dL_children_358 ?_
            refine lv_iload hx hb dL_children_359 (lv_at hl 0 rfl) ?_
            refine lv_i2d hx hb dL_children_361 ?_
            obtain ⟨h135, hf⟩ := zif_c hf
            refine lv_ddiv hx hb dL_children_362 (z_nn64 h135) ?_
            refine W.widen (k := 752) (n := 4512) (Nat.le_of_ble_eq_true rfl) (Nat.le_of_ble_eq_true rfl) ?_
            exact J134 v130 (FP.ddiv (FP.i2d w117) (FP.i2d v121)) T131 _ _ _ hf hP hS (lv_sub hl [1, 4, 5] rfl)
          · have hf := zif_p hf hc
            refine lv_dconst0 hx hb dL_children_353 ?_
            refine lv_goto (tgt := 363) hx hb dL_children_354 (by decide) ?_
            refine W.widen (k := 752) (n := 4512) (Nat.le_of_ble_eq_true rfl) (Nat.le_of_ble_eq_true rfl) ?_
            exact J134 v130 (FP.dconst0) T131 _ _ _ hf hP hS (lv_sub hl [1, 4, 5] rfl)
  obtain ⟨K13, eK13, hf⟩ := zl_i hf
  have J14 : ∀ (z22 : Int32) (T21 : zT) (H : Heap) (locs : List Loc) (ls : Array Slot), K13 z22 T21 = some (v, T') → zP 0 D Y G T21 H → va_S A s.heap H locs → lv_has ls 12 [(0, .ref (G 0 0)), (1, .int x7), (2, .int (-1)), (3, .int 0), (4, .int 0), (5, .int 0)] → W p l e (zR 8 752 4512) s m ([.ref (G 0 0)] : List Value).toArray below meth c H locs (0) (0) (vx_MQ below (zQ 0 D Y G A (.inl (some (.int v))) T') (zX 0 D Y G A (.inl (some (.int v))) T') ([.ref (G 0 0)] : List Value).toArray s 752 4512 A) (F0 m 46 ls [.int z22]) := by
    intro z22 T21 H locs ls hf hP hS hl
    rw [eK13] at hf
    dsimp only at hf
    refine lv_istore (lv' := [(6, .int z22), (0, .ref (G 0 0)), (1, .int x7), (2, .int (-1)), (3, .int 0), (4, .int 0), (5, .int 0)]) hx hb dL_children_46 hl (by decide) rfl (fun ls hl => ?_)
    refine lv_iconst (v := 0) hx hb dL_children_48 (by decide) ?_
    refine lv_istore (lv' := [(7, .int 0), (6, .int z22), (0, .ref (G 0 0)), (1, .int x7), (2, .int (-1)), (3, .int 0), (4, .int 0), (5, .int 0)]) hx hb dL_children_49 hl (by decide) rfl (fun ls hl => ?_)
    obtain ⟨v113, T112, h114, hf⟩ := zb_i hf
    refine l_L_children_51 (ce := 752) (se := 4512) ⟨(Nat.le_of_ble_eq_true rfl), (Nat.le_of_ble_eq_true rfl)⟩ F x7 16 (0) (0) (-1) 0 0 0 z22 0 _ _ _ _ _ (Nat.le_of_ble_eq_true rfl) (Nat.le_of_ble_eq_true rfl) h114 hP hS (lv_sub hl [2, 3, 4, 5, 6, 7, 1, 0] rfl) (fun H locs ls hP hS hl => ?_)
    refine W.widen (k := 752) (n := 4512) (Nat.le_of_ble_eq_true rfl) (Nat.le_of_ble_eq_true rfl) ?_
    exact J16 v113.1 v113.2.1 v113.2.2.1 v113.2.2.2.1 v113.2.2.2.2.1 T112 _ _ _ hf hP hS (lv_sub hl [0, 2, 3, 4, 5, 6] rfl)
  obtain ⟨K11, eK11, hf⟩ := zl_i hf
  have J12 : ∀ (T20 : zT) (H : Heap) (locs : List Loc) (ls : Array Slot), K11 T20 = some (v, T') → zP 0 D Y G T20 H → va_S A s.heap H locs → lv_has ls 12 [(0, .ref (G 0 0)), (1, .int x7), (2, .int (-1)), (3, .int 0), (4, .int 0), (5, .int 0)] → W p l e (zR 8 752 4512) s m ([.ref (G 0 0)] : List Value).toArray below meth c H locs (0) (0) (vx_MQ below (zQ 0 D Y G A (.inl (some (.int v))) T') (zX 0 D Y G A (.inl (some (.int v))) T') ([.ref (G 0 0)] : List Value).toArray s 752 4512 A) (F0 m 45 ls []) := by
    intro T20 H locs ls hf hP hS hl
    rw [eK11] at hf
    dsimp only at hf
    refine lv_iconst (v := 0) hx hb dL_children_45 (by decide) ?_
    refine W.widen (k := 0) (n := 0) (Nat.le_of_ble_eq_true rfl) (Nat.le_of_ble_eq_true rfl) ?_
    exact J14 0 T20 _ _ _ hf hP hS (lv_sub hl [0, 1, 2, 3, 4, 5] rfl)
  refine lv_if_ne (tgt := 45) hx hb dL_children_31 (by decide) (fun hc => ?_) (fun hc => ?_)
  · have hf := zif_n hf hc
    refine W.widen (k := 0) (n := 0) (Nat.le_of_ble_eq_true rfl) (Nat.le_of_ble_eq_true rfl) ?_
    exact J12 T9 _ _ _ hf hP hS (lv_sub hl [5, 4, 3, 2, 1, 0] rfl)
  · have hf := zif_p hf hc
    refine lv_aload_n hx hb dL_children_34 rfl (lv_at hl 5 rfl) ?_
    obtain ⟨v17, T18, h19, hf⟩ := zb_i hf
    refine z_ok (z_runV (As := []) (rest := []) F k_X3_candleDifference ml_1069 (c_X3_candleDifference T9 T18 v17 h19) hP hS (zV_0 (by decide)) rfl rfl rfl rfl hl.1 (Nat.le_of_ble_eq_true rfl) dL_children_35 (Nat.le_of_ble_eq_true rfl) ⟨(Nat.le_of_ble_eq_true rfl), (Nat.le_of_ble_eq_true rfl)⟩ rfl) hS (fun H locs hP hS => ?_)
    refine lv_if_ne (tgt := 45) hx hb dL_children_38 (by decide) (fun hc => ?_) (fun hc => ?_)
    · have hf := zif_n hf hc
      refine W.widen (k := 0) (n := 0) (Nat.le_of_ble_eq_true rfl) (Nat.le_of_ble_eq_true rfl) ?_
      exact J12 T18 _ _ _ hf hP hS (lv_sub hl [5, 4, 3, 2, 1, 0] rfl)
    · have hf := zif_p hf hc
      refine lv_iconst (v := 1) hx hb dL_children_41 (by decide) ?_
      refine lv_goto (tgt := 46) hx hb dL_children_42 (by decide) ?_
      refine W.widen (k := 0) (n := 0) (Nat.le_of_ble_eq_true rfl) (Nat.le_of_ble_eq_true rfl) ?_
      exact J14 1 T18 _ _ _ hf hP hS (lv_sub hl [5, 4, 3, 2, 1, 0] rfl)
