/-! THE LAW'S OWN METHODS, by program -/
def lp_L_children_111 (w1 : Int32) (w2 : Int32) (w3 : Int32) (w4 : Int32) (w5 : Int32) (w7 : Int32) (w8 : Int32) (w9 : Int32) : Nat → Int32 → Int32 → zT → Option ((Int32 × Int32) × zT)
  | 0, _, _, _ => none
  | n + 1, u10, u11, T => zb (f_X3_childCount T) fun v50 T51 => (if v50 ≤ u11 then some ((u10, u11), T51) else zbi (f_X3_cakeOf u11 T51) fun v53 T54 => zbi (f_X3_cakeOf w7 T54) fun v56 T57 => zl (fun (w62 : Int32) (w63 : Int32) (w64 : Int32) (w65 : Int32) (w66 : Int32) (w67 : Int32) (w68 : Int32) (w69 : Int32) (w70 : Int32) (z71 : Int32) (z72 : Int32) (T61 : zT) => zl (z71 + z72) fun x73 => zl (w70 + 1) fun x74 => lp_L_children_111 w1 w2 w3 w4 w5 w7 w8 w9 n x73 x74 T61) fun K59 => (if v53 = v56 then K59 w1 w2 w3 w4 w5 w7 w8 w9 u11 u10 1 T57 else K59 w1 w2 w3 w4 w5 w7 w8 w9 u11 u10 0 T57))
def lp_L_children_51 (w1 : Int32) : Nat → Int32 → Int32 → Int32 → Int32 → Int32 → Int32 → zT → Option ((Int32 × Int32 × Int32 × Int32 × Int32 × Int32) × zT)
  | 0, _, _, _, _, _, _, _ => none
  | n + 1, u2, u3, u4, u5, u6, u7, T => zb (f_X3_childCount T) fun v33 T34 => (if v33 ≤ u7 then some ((u2, u3, u4, u5, u6, u7), T34) else (if u6 = 0 then some ((u2, u3, u4, u5, u6, u7), T34) else zbi (f_X3_birthdayOf u7 T34) fun v36 T37 => zl (fun (w42 : Int32) (w43 : Int32) (w44 : Int32) (w45 : Int32) (w46 : Int32) (w47 : Int32) (w48 : Int32) (z49 : Int32) (T41 : zT) => zb (lp_L_children_111 w42 w43 w44 w45 w46 w47 w48 z49 16 0 0 T41) fun v76 T75 => zl (fun (w107 : Int32) (w108 : Int32) (w109 : Int32) (w110 : Int32) (w111 : Int32) (w112 : Int32) (w113 : Int32) (w114 : Int32) (z115 : Int32) (T106 : zT) => zbi (f_X3_ageOf w111 T106) fun v116 T117 => zl (w108 + v116) fun x119 => zbi (f_X3_wishesOf w111 T117) fun v120 T121 => zl (w109 + v120) fun x123 => zbi (f_X3_partiesOf w111 T121) fun v124 T125 => zl (w110 + v124) fun x127 => zbi (f_X3_daysUntilBirthday w111 T125) fun v128 T129 => zl (fun (w168 : Int32) (w169 : Int32) (w170 : Int32) (w171 : Int32) (w172 : Int32) (w173 : Int32) (T167 : zT) => zl (w173 + 1) fun x174 => lp_L_children_51 w1 n w169 w170 w171 w172 0 x174 T167) fun K131 => (if v128 = w113 then zbi (f_X3_wishesOf w111 T129) fun v133 T134 => zbi (f_X3_partiesOf w111 T134) fun v136 T137 => (if v136 < v133 then K131 w107 z115 x119 x123 x127 w111 T137 else zbi (f_X3_strengthOf w111 T137) fun v139 T140 => zbi (f_X3_breathOf w111 T140) fun v142 T143 => zbi (f_X3_gardenOf w111 T143) fun v145 T146 => zbi (f_X3_seatsOf v145 T146) fun v148 T149 => (if v139 = (v142 + (if (v148 - 1) < (w114 - 1) then (v148 - 1) else (w114 - 1))) then zl (fun (w160 : Int32) (w161 : Int32) (w162 : Int32) (w163 : Int32) (w164 : Int32) (w165 : Int32) (T159 : zT) => zl (w165 + 1) fun x166 => lp_L_children_51 w1 n w161 w162 w163 w164 1 x166 T159) fun K151 => (if w112 < 0 then K151 w107 z115 x119 x123 x127 w111 T149 else zbi (f_X3_gardenOf w111 T149) fun v153 T154 => zbi (f_X3_partyIn v153 ((w112 / 30) + 1) ((w112 - w112 / 30 * 30) + 1) T154) fun v156 T157 => (if v156 = w111 then K151 w107 z115 x119 x123 x127 w111 T157 else K131 w107 z115 x119 x123 x127 w111 T157)) else K131 w107 z115 x119 x123 x127 w111 T149)) else K131 w107 z115 x119 x123 x127 w111 T129)) fun K80 => zl (fun (w97 : Int32) (w98 : Int32) (w99 : Int32) (w100 : Int32) (w101 : Int32) (w102 : Int32) (w103 : Int32) (w104 : Int32) (w105 : Int32) (T96 : zT) => K80 w97 w99 w100 w101 w102 w103 w104 w105 w98 T96) fun K78 => (if z49 ≤ 0 then K78 w42 w43 w44 w45 w46 w47 w48 z49 v76.1 T75 else zl (fun (w88 : Int32) (w89 : Int32) (w90 : Int32) (w91 : Int32) (w92 : Int32) (w93 : Int32) (w94 : Int32) (w95 : Int32) (T87 : zT) => K80 w88 w89 w90 w91 w92 w93 w94 w95 w92 T87) fun K82 => (if w43 < 0 then K82 w42 w44 w45 w46 w47 w48 z49 v76.1 T75 else zbi (f_X3_daysUntilBirthday w43 T75) fun v84 T85 => (if v84 ≤ z49 then K78 w42 w43 w44 w45 w46 w47 w48 z49 v76.1 T85 else K82 w42 w44 w45 w46 w47 w48 z49 v76.1 T85)))) fun K39 => (if 0 ≤ v36 then (if v36 ≤ w1 then K39 w1 u2 u3 u4 u5 u7 v36 ((v36 - w1) + 360) T37 else K39 w1 u2 u3 u4 u5 u7 v36 (v36 - w1) T37) else K39 w1 u2 u3 u4 u5 u7 v36 (-1) T37)))
def f_L_children (T : zT) : Option (Int32 × zT) := zb (f_X3_month T) fun v1 T2 => zb (f_X3_dayOfMonth T2) fun v4 T5 => zl ((((v1 - 1) * 30) + v4) - 1) fun x7 => zb (f_X3_clashes T5) fun v8 T9 => zl (fun (w179 : Int32) (w180 : Int32) (w181 : Int32) (w182 : Int32) (w183 : Int32) (T178 : zT) => zb (f_X3_childCount T178) fun v184 T185 => (if w183 = 0 then some (0, T185) else zb (f_X3_nextChild T185) fun v187 T188 => (if v187 = w179 then zb (f_X3_heldParties T188) fun v190 T191 => (if v190 = w182 then zb (f_X3_meanAge T191) fun v193 T194 => zl (fun (w200 : Int32) (w201 : Int32) (z202 : UInt64) (z203 : UInt64) (T199 : zT) => (if (Op.cmpValue (FP.dcmp z202 z203) .l) = 0 then zb (f_X3_wishShare T199) fun v204 T205 => zl (fun (z211 : UInt32) (z212 : UInt32) (T210 : zT) => (if (Op.cmpValue (FP.fcmp z211 z212) .l) = 0 then some (1, T210) else some (0, T210))) fun K207 => (if w201 = 0 then K207 v204 (FP.fconst0) T205 else if ¬ w201 = 0 then K207 v204 (FP.fdiv (FP.i2f w200) (FP.i2f w201)) T205 else none) else some (0, T199))) fun K196 => (if v184 = 0 then K196 w181 w182 v193 (FP.dconst0) T194 else if ¬ v184 = 0 then K196 w181 w182 v193 (FP.ddiv (FP.i2d w180) (FP.i2d v184)) T194 else none) else some (0, T191)) else some (0, T188)))) fun K15 => zl (fun (w27 : Int32) (w28 : Int32) (w29 : Int32) (w30 : Int32) (w31 : Int32) (z32 : Int32) (T26 : zT) => zb (lp_L_children_51 w27 16 w28 w29 w30 w31 z32 0 T26) fun v176 T175 => K15 v176.1 v176.2.1 v176.2.2.1 v176.2.2.2.1 v176.2.2.2.2.1 T175) fun K13 => zl (fun (w21 : Int32) (w22 : Int32) (w23 : Int32) (w24 : Int32) (w25 : Int32) (T20 : zT) => K13 w21 w22 w23 w24 w25 0 T20) fun K11 => (if v8 = 0 then zb (f_X3_candleDifference T9) fun v17 T18 => (if v17 = 0 then K13 x7 (-1) 0 0 0 1 T18 else K11 x7 (-1) 0 0 0 T18) else K11 x7 (-1) 0 0 0 T9)
set_option maxHeartbeats 8000000 in
set_option maxRecDepth 100000 in
theorem l_L_children_111 {p : Program} {l : Launch} {e : Env} {s : State} {m : MethodId} {args : Array Value} {below : List Frame} {meth : Method} {c : Code} {Q : State → Prop} {D : va_G} {Y : Nat → ClassId} {S V : Nat → Nat} {G : Nat → Nat → Nat} {A : Nat → Prop} {c0 : Cond} {mc ms : Nat} {ce se : Nat} (hcm : ce ≤ mc ∧ se ≤ ms) (F : zF 0 8 mc ms p l s m args c cL_children 12 RL c0 D Y S V G A) (w1 : Int32) (w2 : Int32) (w3 : Int32) (w4 : Int32) (w5 : Int32) (w7 : Int32) (w8 : Int32) (w9 : Int32) :
    ∀ (n cells slots : Nat) (u10 : Int32) (u11 : Int32) (T : zT) (o : (Int32 × Int32) × zT) (H : Heap) (locs : List Loc) (ls : Array Slot), cells + 2 * n ≤ ce → slots + 12 * n ≤ se → lp_L_children_111 w1 w2 w3 w4 w5 w7 w8 w9 n u10 u11 T = some o → zP 0 D Y G T H → va_S A s.heap H locs → lv_has ls 12 [(0, .ref (G 0 0)), (1, .int w1), (2, .int w2), (3, .int w3), (4, .int w4), (5, .int w5), (7, .int w7), (8, .int w8), (9, .int w9), (10, .int u10), (11, .int u11)] → (∀ (H : Heap) (locs : List Loc) (ls : Array Slot), zP 0 D Y G o.2 H → va_S A s.heap H locs → lv_has ls 12 [(0, .ref (G 0 0)), (1, .int w1), (2, .int w2), (3, .int w3), (4, .int w4), (5, .int w5), (7, .int w7), (8, .int w8), (9, .int w9), (10, .int o.1.1), (11, .int o.1.2)] → W p l e (zR 8 mc ms) s m args below meth c H locs ce se Q (F0 m 151 ls [])) → W p l e (zR 8 mc ms) s m args below meth c H locs cells slots Q (F0 m 111 ls []) := by
  obtain ⟨hx, hb, hml, hown, hts, hl9, hG, hK, hA⟩ := id F
  intro n
  induction n with
  | zero =>
    intro cells slots u10 u11 T o H locs ls _ _ hf
    rw [lp_L_children_111] at hf
    cases hf
  | succ n ih =>
    intro cells slots u10 u11 T o H locs ls hc1 hc2 hf hP hS hl k0_
    rw [lp_L_children_111] at hf
    refine lv_iload hx hb dL_children_111 (lv_at hl 10 rfl) ?_
    refine lv_aload_n hx hb dL_children_113 rfl (lv_at hl 0 rfl) ?_
    obtain ⟨v50, T51, h52, hf⟩ := zb_i hf
    refine z_ok (z_runV (As := []) (rest := [.int u11]) F k_X3_childCount ml_1023 (c_X3_childCount T T51 v50 h52) hP hS (zV_0 (by decide)) rfl rfl rfl rfl hl.1 (Nat.le_of_ble_eq_true rfl) dL_children_114 (Nat.le_of_ble_eq_true rfl) ⟨by omega, by omega⟩ rfl) hS (fun H locs hP hS => ?_)
    refine lv_icmp_ge (tgt := 151) hx hb dL_children_117 (by decide) (fun hc => ?_) (fun hc => ?_)
    · have hf := zif_p hf hc
      cases hf
      refine W.widen (k := ce) (n := se) (by omega) (by omega) ?_
      exact k0_ _ _ _ hP hS (lv_sub hl [0, 1, 2, 3, 4, 5, 6, 7, 8, 9, 10] rfl)
    · have hf := zif_n hf hc
      refine lv_iload hx hb dL_children_120 (lv_at hl 9 rfl) ?_
      refine lv_aload_n hx hb dL_children_122 rfl (lv_at hl 0 rfl) ?_
      refine lv_iload hx hb dL_children_123 (lv_at hl 10 rfl) ?_
      obtain ⟨v53, T54, h55, hf⟩ := zbi_i hf
      refine z_ok (z_runV (As := [.int u11]) (rest := [.int u10]) F k_X3_cakeOf ml_1073 (c_X3_cakeOf u11 T51 T54 (.inl v53) h55) hP hS (zV_0 (by decide)) rfl rfl rfl rfl hl.1 (Nat.le_of_ble_eq_true rfl) dL_children_125 (Nat.le_of_ble_eq_true rfl) ⟨by omega, by omega⟩ rfl) hS (fun H locs hP hS => ?_)
      refine lv_aload_n hx hb dL_children_128 rfl (lv_at hl 0 rfl) ?_
      refine lv_iload hx hb dL_children_129 (lv_at hl 6 rfl) ?_
      obtain ⟨v56, T57, h58, hf⟩ := zbi_i hf
      refine z_ok (z_runV (As := [.int w7]) (rest := [.int v53, .int u10]) F k_X3_cakeOf ml_1073 (c_X3_cakeOf w7 T54 T57 (.inl v56) h58) hP hS (zV_0 (by decide)) rfl rfl rfl rfl hl.1 (Nat.le_of_ble_eq_true rfl) dL_children_131 (Nat.le_of_ble_eq_true rfl) ⟨by omega, by omega⟩ rfl) hS (fun H locs hP hS => ?_)
      obtain ⟨K59, eK59, hf⟩ := zl_i hf
      have J60 : ∀ (w62 : Int32) (w63 : Int32) (w64 : Int32) (w65 : Int32) (w66 : Int32) (w67 : Int32) (w68 : Int32) (w69 : Int32) (w70 : Int32) (z71 : Int32) (z72 : Int32) (T61 : zT) (H : Heap) (locs : List Loc) (ls : Array Slot), K59 w62 w63 w64 w65 w66 w67 w68 w69 w70 z71 z72 T61 = some o → zP 0 D Y G T61 H → va_S A s.heap H locs → lv_has ls 12 [(0, .ref (G 0 0)), (1, .int w62), (2, .int w63), (3, .int w64), (4, .int w65), (5, .int w66), (7, .int w67), (8, .int w68), (9, .int w69), (11, .int w70)] → W p l e (zR 8 mc ms) s m args below meth c H locs (cells + 2) (slots + 12) Q (F0 m 142 ls [.int z72, .int z71]) := by
        intro w62 w63 w64 w65 w66 w67 w68 w69 w70 z71 z72 T61 H locs ls hf hP hS hl
        rw [eK59] at hf
        dsimp only at hf
        refine lv_iadd hx hb dL_children_142 ?_
        obtain ⟨x73, ex73, hf⟩ := zl_i hf
        refine z_topi ex73 ?_
        refine lv_istore (lv' := [(10, .int x73), (0, .ref (G 0 0)), (1, .int w62), (2, .int w63), (3, .int w64), (4, .int w65), (5, .int w66), (7, .int w67), (8, .int w68), (9, .int w69), (11, .int w70)]) hx hb dL_children_143 hl (by decide) rfl (fun ls hl => ?_)
        obtain ⟨x74, ex74, hf⟩ := zl_i hf
        refine lv_iinc (v := x74) (lv' := [(11, .int x74), (10, .int x73), (0, .ref (G 0 0)), (1, .int w62), (2, .int w63), (3, .int w64), (4, .int w65), (5, .int w66), (7, .int w67), (8, .int w68), (9, .int w69)]) hx hb dL_children_145 hl (k := 10) rfl (by rw [ex74]; rfl) (by decide) rfl (fun ls hl => ?_)
        refine lv_goto (tgt := 111) hx hb dL_children_148 (by decide) ?_
        exact ih (cells + 2) (slots + 12) x73 x74 _ _ _ _ _ (by omega) (by omega) hf hP hS (lv_sub hl [2, 3, 4, 5, 6, 7, 8, 9, 10, 1, 0] rfl) k0_
      refine lv_icmp_ne (tgt := 141) hx hb dL_children_134 (by decide) (fun hc => ?_) (fun hc => ?_)
      · have hf := zif_n hf hc
        refine lv_iconst (v := 0) hx hb dL_children_141 (by decide) ?_
        refine W.widen (k := cells + 2) (n := slots + 12) (by omega) (by omega) ?_
        exact J60 w1 w2 w3 w4 w5 w7 w8 w9 u11 u10 0 T57 _ _ _ hf hP hS (lv_sub hl [0, 1, 2, 3, 4, 5, 6, 7, 8, 10] rfl)
      · have hf := zif_p hf hc
        refine lv_iconst (v := 1) hx hb dL_children_137 (by decide) ?_
        refine lv_goto (tgt := 142) hx hb dL_children_138 (by decide) ?_
        refine W.widen (k := cells + 2) (n := slots + 12) (by omega) (by omega) ?_
        exact J60 w1 w2 w3 w4 w5 w7 w8 w9 u11 u10 1 T57 _ _ _ hf hP hS (lv_sub hl [0, 1, 2, 3, 4, 5, 6, 7, 8, 10] rfl)
set_option maxHeartbeats 8000000 in
set_option maxRecDepth 100000 in
theorem l_L_children_51 {p : Program} {l : Launch} {e : Env} {s : State} {m : MethodId} {args : Array Value} {below : List Frame} {meth : Method} {c : Code} {Q : State → Prop} {D : va_G} {Y : Nat → ClassId} {S V : Nat → Nat} {G : Nat → Nat → Nat} {A : Nat → Prop} {c0 : Cond} {mc ms : Nat} {ce se : Nat} (hcm : ce ≤ mc ∧ se ≤ ms) (F : zF 0 8 mc ms p l s m args c cL_children 12 RL c0 D Y S V G A) (w1 : Int32) :
    ∀ (n cells slots : Nat) (u2 : Int32) (u3 : Int32) (u4 : Int32) (u5 : Int32) (u6 : Int32) (u7 : Int32) (T : zT) (o : (Int32 × Int32 × Int32 × Int32 × Int32 × Int32) × zT) (H : Heap) (locs : List Loc) (ls : Array Slot), cells + 47 * n ≤ ce → slots + 282 * n ≤ se → lp_L_children_51 w1 n u2 u3 u4 u5 u6 u7 T = some o → zP 0 D Y G T H → va_S A s.heap H locs → lv_has ls 12 [(0, .ref (G 0 0)), (1, .int w1), (2, .int u2), (3, .int u3), (4, .int u4), (5, .int u5), (6, .int u6), (7, .int u7)] → (∀ (H : Heap) (locs : List Loc) (ls : Array Slot), zP 0 D Y G o.2 H → va_S A s.heap H locs → lv_has ls 12 [(0, .ref (G 0 0)), (1, .int w1), (2, .int o.1.1), (3, .int o.1.2.1), (4, .int o.1.2.2.1), (5, .int o.1.2.2.2.1), (6, .int o.1.2.2.2.2.1), (7, .int o.1.2.2.2.2.2)] → W p l e (zR 8 mc ms) s m args below meth c H locs ce se Q (F0 m 316 ls [])) → W p l e (zR 8 mc ms) s m args below meth c H locs cells slots Q (F0 m 51 ls []) := by
  obtain ⟨hx, hb, hml, hown, hts, hl9, hG, hK, hA⟩ := id F
  intro n
  induction n with
  | zero =>
    intro cells slots u2 u3 u4 u5 u6 u7 T o H locs ls _ _ hf
    rw [lp_L_children_51] at hf
    cases hf
  | succ n ih =>
    intro cells slots u2 u3 u4 u5 u6 u7 T o H locs ls hc1 hc2 hf hP hS hl k0_
    rw [lp_L_children_51] at hf
    refine lv_iload hx hb dL_children_51 (lv_at hl 7 rfl) ?_
    refine lv_aload_n hx hb dL_children_53 rfl (lv_at hl 0 rfl) ?_
    obtain ⟨v33, T34, h35, hf⟩ := zb_i hf
    refine z_ok (z_runV (As := []) (rest := [.int u7]) F k_X3_childCount ml_1023 (c_X3_childCount T T34 v33 h35) hP hS (zV_0 (by decide)) rfl rfl rfl rfl hl.1 (Nat.le_of_ble_eq_true rfl) dL_children_54 (Nat.le_of_ble_eq_true rfl) ⟨by omega, by omega⟩ rfl) hS (fun H locs hP hS => ?_)
    refine lv_icmp_ge (tgt := 316) hx hb dL_children_57 (by decide) (fun hc => ?_) (fun hc => ?_)
    · have hf := zif_p hf hc
      cases hf
      refine W.widen (k := ce) (n := se) (by omega) (by omega) ?_
      exact k0_ _ _ _ hP hS (lv_sub hl [0, 1, 2, 3, 4, 5, 6, 7] rfl)
    · have hf := zif_n hf hc
      refine lv_iload hx hb dL_children_60 (lv_at hl 6 rfl) ?_
      refine lv_if_eq (tgt := 316) hx hb dL_children_62 (by decide) (fun hc => ?_) (fun hc => ?_)
      · have hf := zif_p hf hc
        cases hf
        refine W.widen (k := ce) (n := se) (by omega) (by omega) ?_
        exact k0_ _ _ _ hP hS (lv_sub hl [0, 1, 2, 3, 4, 5, 6, 7] rfl)
      · have hf := zif_n hf hc
        refine lv_aload_n hx hb dL_children_65 rfl (lv_at hl 0 rfl) ?_
        refine lv_iload hx hb dL_children_66 (lv_at hl 7 rfl) ?_
        obtain ⟨v36, T37, h38, hf⟩ := zbi_i hf
        refine z_ok (z_runV (As := [.int u7]) (rest := []) F k_X3_birthdayOf ml_1035 (c_X3_birthdayOf u7 T34 T37 (.inl v36) h38) hP hS (zV_0 (by decide)) rfl rfl rfl rfl hl.1 (Nat.le_of_ble_eq_true rfl) dL_children_68 (Nat.le_of_ble_eq_true rfl) ⟨by omega, by omega⟩ rfl) hS (fun H locs hP hS => ?_)
        refine lv_istore (lv' := [(8, .int v36), (0, .ref (G 0 0)), (1, .int w1), (2, .int u2), (3, .int u3), (4, .int u4), (5, .int u5), (6, .int u6), (7, .int u7)]) hx hb dL_children_71 hl (by decide) rfl (fun ls hl => ?_)
        refine lv_iload hx hb dL_children_73 (lv_at hl 0 rfl) ?_
        obtain ⟨K39, eK39, hf⟩ := zl_i hf
        have J40 : ∀ (w42 : Int32) (w43 : Int32) (w44 : Int32) (w45 : Int32) (w46 : Int32) (w47 : Int32) (w48 : Int32) (z49 : Int32) (T41 : zT) (H : Heap) (locs : List Loc) (ls : Array Slot), K39 w42 w43 w44 w45 w46 w47 w48 z49 T41 = some o → zP 0 D Y G T41 H → va_S A s.heap H locs → lv_has ls 12 [(0, .ref (G 0 0)), (1, .int w42), (2, .int w43), (3, .int w44), (4, .int w45), (5, .int w46), (7, .int w47), (8, .int w48)] → W p l e (zR 8 mc ms) s m args below meth c H locs (cells + 1) (slots + 6) Q (F0 m 103 ls [.int z49]) := by
          intro w42 w43 w44 w45 w46 w47 w48 z49 T41 H locs ls hf hP hS hl
          rw [eK39] at hf
          dsimp only at hf
          refine lv_istore (lv' := [(9, .int z49), (0, .ref (G 0 0)), (1, .int w42), (2, .int w43), (3, .int w44), (4, .int w45), (5, .int w46), (7, .int w47), (8, .int w48)]) hx hb dL_children_103 hl (by decide) rfl (fun ls hl => ?_)
          refine lv_iconst (v := 0) hx hb dL_children_105 (by decide) ?_
          refine lv_istore (lv' := [(10, .int 0), (9, .int z49), (0, .ref (G 0 0)), (1, .int w42), (2, .int w43), (3, .int w44), (4, .int w45), (5, .int w46), (7, .int w47), (8, .int w48)]) hx hb dL_children_106 hl (by decide) rfl (fun ls hl => ?_)
          refine lv_iconst (v := 0) hx hb dL_children_108 (by decide) ?_
          refine lv_istore (lv' := [(11, .int 0), (10, .int 0), (9, .int z49), (0, .ref (G 0 0)), (1, .int w42), (2, .int w43), (3, .int w44), (4, .int w45), (5, .int w46), (7, .int w47), (8, .int w48)]) hx hb dL_children_109 hl (by decide) rfl (fun ls hl => ?_)
          obtain ⟨v76, T75, h77, hf⟩ := zb_i hf
          refine l_L_children_111 (ce := cells + 33) (se := slots + 198) ⟨(by omega), (by omega)⟩ F w42 w43 w44 w45 w46 w47 w48 z49 16 (cells + 1) (slots + 6) 0 0 _ _ _ _ _ (by omega) (by omega) h77 hP hS (lv_sub hl [3, 4, 5, 6, 7, 8, 9, 10, 2, 1, 0] rfl) (fun H locs ls hP hS hl => ?_)
          refine lv_iload hx hb dL_children_151 (lv_at hl 8 rfl) ?_
          obtain ⟨K80, eK80, hf⟩ := zl_i hf
          have J81 : ∀ (w107 : Int32) (w108 : Int32) (w109 : Int32) (w110 : Int32) (w111 : Int32) (w112 : Int32) (w113 : Int32) (w114 : Int32) (z115 : Int32) (T106 : zT) (H : Heap) (locs : List Loc) (ls : Array Slot), K80 w107 w108 w109 w110 w111 w112 w113 w114 z115 T106 = some o → zP 0 D Y G T106 H → va_S A s.heap H locs → lv_has ls 12 [(0, .ref (G 0 0)), (1, .int w107), (3, .int w108), (4, .int w109), (5, .int w110), (7, .int w111), (8, .int w112), (9, .int w113), (10, .int w114)] → W p l e (zR 8 mc ms) s m args below meth c H locs (cells + 34) (slots + 204) Q (F0 m 176 ls [.int z115]) := by
            intro w107 w108 w109 w110 w111 w112 w113 w114 z115 T106 H locs ls hf hP hS hl
            rw [eK80] at hf
            dsimp only at hf
            refine lv_istore_n (lv' := [(2, .int z115), (0, .ref (G 0 0)), (1, .int w107), (3, .int w108), (4, .int w109), (5, .int w110), (7, .int w111), (8, .int w112), (9, .int w113), (10, .int w114)]) hx hb dL_children_176 rfl hl (by decide) rfl (fun ls hl => ?_)
            refine lv_iload_n hx hb dL_children_177 rfl (lv_at hl 3 rfl) ?_
            refine lv_aload_n hx hb dL_children_178 rfl (lv_at hl 1 rfl) ?_
            refine lv_iload hx hb dL_children_179 (lv_at hl 6 rfl) ?_
            obtain ⟨v116, T117, h118, hf⟩ := zbi_i hf
            refine z_ok (z_runV (As := [.int w111]) (rest := [.int w108]) F k_X3_ageOf ml_1027 (c_X3_ageOf w111 T106 T117 (.inl v116) h118) hP hS (zV_0 (by decide)) rfl rfl rfl rfl hl.1 (Nat.le_of_ble_eq_true rfl) dL_children_181 (Nat.le_of_ble_eq_true rfl) ⟨by omega, by omega⟩ rfl) hS (fun H locs hP hS => ?_)
            refine lv_iadd hx hb dL_children_184 ?_
            obtain ⟨x119, ex119, hf⟩ := zl_i hf
            refine z_topi ex119 ?_
            refine lv_istore_n (lv' := [(3, .int x119), (2, .int z115), (0, .ref (G 0 0)), (1, .int w107), (4, .int w109), (5, .int w110), (7, .int w111), (8, .int w112), (9, .int w113), (10, .int w114)]) hx hb dL_children_185 rfl hl (by decide) rfl (fun ls hl => ?_)
            refine lv_iload hx hb dL_children_186 (lv_at hl 4 rfl) ?_
            refine lv_aload_n hx hb dL_children_188 rfl (lv_at hl 2 rfl) ?_
            refine lv_iload hx hb dL_children_189 (lv_at hl 6 rfl) ?_
            obtain ⟨v120, T121, h122, hf⟩ := zbi_i hf
            refine z_ok (z_runV (As := [.int w111]) (rest := [.int w109]) F k_X3_wishesOf ml_1043 (c_X3_wishesOf w111 T117 T121 (.inl v120) h122) hP hS (zV_0 (by decide)) rfl rfl rfl rfl hl.1 (Nat.le_of_ble_eq_true rfl) dL_children_191 (Nat.le_of_ble_eq_true rfl) ⟨by omega, by omega⟩ rfl) hS (fun H locs hP hS => ?_)
            refine lv_iadd hx hb dL_children_194 ?_
            obtain ⟨x123, ex123, hf⟩ := zl_i hf
            refine z_topi ex123 ?_
            refine lv_istore (lv' := [(4, .int x123), (3, .int x119), (2, .int z115), (0, .ref (G 0 0)), (1, .int w107), (5, .int w110), (7, .int w111), (8, .int w112), (9, .int w113), (10, .int w114)]) hx hb dL_children_195 hl (by decide) rfl (fun ls hl => ?_)
            refine lv_iload hx hb dL_children_197 (lv_at hl 5 rfl) ?_
            refine lv_aload_n hx hb dL_children_199 rfl (lv_at hl 3 rfl) ?_
            refine lv_iload hx hb dL_children_200 (lv_at hl 6 rfl) ?_
            obtain ⟨v124, T125, h126, hf⟩ := zbi_i hf
            refine z_ok (z_runV (As := [.int w111]) (rest := [.int w110]) F k_X3_partiesOf ml_1039 (c_X3_partiesOf w111 T121 T125 (.inl v124) h126) hP hS (zV_0 (by decide)) rfl rfl rfl rfl hl.1 (Nat.le_of_ble_eq_true rfl) dL_children_202 (Nat.le_of_ble_eq_true rfl) ⟨by omega, by omega⟩ rfl) hS (fun H locs hP hS => ?_)
            refine lv_iadd hx hb dL_children_205 ?_
            obtain ⟨x127, ex127, hf⟩ := zl_i hf
            refine z_topi ex127 ?_
            refine lv_istore (lv' := [(5, .int x127), (4, .int x123), (3, .int x119), (2, .int z115), (0, .ref (G 0 0)), (1, .int w107), (7, .int w111), (8, .int w112), (9, .int w113), (10, .int w114)]) hx hb dL_children_206 hl (by decide) rfl (fun ls hl => ?_)
            refine lv_aload_n hx hb dL_children_208 rfl (lv_at hl 4 rfl) ?_
            refine lv_iload hx hb dL_children_209 (lv_at hl 6 rfl) ?_
            obtain ⟨v128, T129, h130, hf⟩ := zbi_i hf
            refine z_ok (z_runV (As := [.int w111]) (rest := []) F k_X3_daysUntilBirthday ml_1077 (c_X3_daysUntilBirthday w111 T125 T129 (.inl v128) h130) hP hS (zV_0 (by decide)) rfl rfl rfl rfl hl.1 (Nat.le_of_ble_eq_true rfl) dL_children_211 (Nat.le_of_ble_eq_true rfl) ⟨by omega, by omega⟩ rfl) hS (fun H locs hP hS => ?_)
            refine lv_iload hx hb dL_children_214 (lv_at hl 8 rfl) ?_
            obtain ⟨K131, eK131, hf⟩ := zl_i hf
            have J132 : ∀ (w168 : Int32) (w169 : Int32) (w170 : Int32) (w171 : Int32) (w172 : Int32) (w173 : Int32) (T167 : zT) (H : Heap) (locs : List Loc) (ls : Array Slot), K131 w168 w169 w170 w171 w172 w173 T167 = some o → zP 0 D Y G T167 H → va_S A s.heap H locs → lv_has ls 12 [(0, .ref (G 0 0)), (1, .int w168), (2, .int w169), (3, .int w170), (4, .int w171), (5, .int w172), (7, .int w173)] → W p l e (zR 8 mc ms) s m args below meth c H locs (cells + 47) (slots + 282) Q (F0 m 307 ls []) := by
              intro w168 w169 w170 w171 w172 w173 T167 H locs ls hf hP hS hl
              rw [eK131] at hf
              dsimp only at hf
              refine lv_iconst (v := 0) hx hb dL_children_307 (by decide) ?_
              refine lv_istore (lv' := [(6, .int 0), (0, .ref (G 0 0)), (1, .int w168), (2, .int w169), (3, .int w170), (4, .int w171), (5, .int w172), (7, .int w173)]) hx hb dL_children_308 hl (by decide) rfl (fun ls hl => ?_)
              obtain ⟨x174, ex174, hf⟩ := zl_i hf
              refine lv_iinc (v := x174) (lv' := [(7, .int x174), (6, .int 0), (0, .ref (G 0 0)), (1, .int w168), (2, .int w169), (3, .int w170), (4, .int w171), (5, .int w172)]) hx hb dL_children_310 hl (k := 7) rfl (by rw [ex174]; rfl) (by decide) rfl (fun ls hl => ?_)
              refine lv_goto (tgt := 51) hx hb dL_children_313 (by decide) ?_
              exact ih (cells + 47) (slots + 282) w169 w170 w171 w172 0 x174 _ _ _ _ _ (by omega) (by omega) hf hP hS (lv_sub hl [2, 3, 4, 5, 6, 7, 1, 0] rfl) k0_
            refine lv_icmp_ne (tgt := 307) hx hb dL_children_216 (by decide) (fun hc => ?_) (fun hc => ?_)
            · have hf := zif_n hf hc
              refine W.widen (k := cells + 47) (n := slots + 282) (by omega) (by omega) ?_
              exact J132 w107 z115 x119 x123 x127 w111 T129 _ _ _ hf hP hS (lv_sub hl [4, 5, 3, 2, 1, 0, 6] rfl)
            · have hf := zif_p hf hc
              refine lv_aload_n hx hb dL_children_219 rfl (lv_at hl 4 rfl) ?_
              refine lv_iload hx hb dL_children_220 (lv_at hl 6 rfl) ?_
              obtain ⟨v133, T134, h135, hf⟩ := zbi_i hf
              refine z_ok (z_runV (As := [.int w111]) (rest := []) F k_X3_wishesOf ml_1043 (c_X3_wishesOf w111 T129 T134 (.inl v133) h135) hP hS (zV_0 (by decide)) rfl rfl rfl rfl hl.1 (Nat.le_of_ble_eq_true rfl) dL_children_222 (Nat.le_of_ble_eq_true rfl) ⟨by omega, by omega⟩ rfl) hS (fun H locs hP hS => ?_)
              refine lv_aload_n hx hb dL_children_225 rfl (lv_at hl 4 rfl) ?_
              refine lv_iload hx hb dL_children_226 (lv_at hl 6 rfl) ?_
              obtain ⟨v136, T137, h138, hf⟩ := zbi_i hf
              refine z_ok (z_runV (As := [.int w111]) (rest := [.int v133]) F k_X3_partiesOf ml_1039 (c_X3_partiesOf w111 T134 T137 (.inl v136) h138) hP hS (zV_0 (by decide)) rfl rfl rfl rfl hl.1 (Nat.le_of_ble_eq_true rfl) dL_children_228 (Nat.le_of_ble_eq_true rfl) ⟨by omega, by omega⟩ rfl) hS (fun H locs hP hS => ?_)
              refine lv_icmp_gt (tgt := 307) hx hb dL_children_231 (by decide) (fun hc => ?_) (fun hc => ?_)
              · have hf := zif_p hf hc
                refine W.widen (k := cells + 47) (n := slots + 282) (by omega) (by omega) ?_
                exact J132 w107 z115 x119 x123 x127 w111 T137 _ _ _ hf hP hS (lv_sub hl [4, 5, 3, 2, 1, 0, 6] rfl)
              · have hf := zif_n hf hc
                refine lv_aload_n hx hb dL_children_234 rfl (lv_at hl 4 rfl) ?_
                refine lv_iload hx hb dL_children_235 (lv_at hl 6 rfl) ?_
                obtain ⟨v139, T140, h141, hf⟩ := zbi_i hf
                refine z_ok (z_runV (As := [.int w111]) (rest := []) F k_X3_strengthOf ml_1081 (c_X3_strengthOf w111 T137 T140 (.inl v139) h141) hP hS (zV_0 (by decide)) rfl rfl rfl rfl hl.1 (Nat.le_of_ble_eq_true rfl) dL_children_237 (Nat.le_of_ble_eq_true rfl) ⟨by omega, by omega⟩ rfl) hS (fun H locs hP hS => ?_)
                refine lv_aload_n hx hb dL_children_240 rfl (lv_at hl 4 rfl) ?_
                refine lv_iload hx hb dL_children_241 (lv_at hl 6 rfl) ?_
                obtain ⟨v142, T143, h144, hf⟩ := zbi_i hf
                refine z_ok (z_runV (As := [.int w111]) (rest := [.int v139]) F k_X3_breathOf ml_1086 (c_X3_breathOf w111 T140 T143 (.inl v142) h144) hP hS (zV_0 (by decide)) rfl rfl rfl rfl hl.1 (Nat.le_of_ble_eq_true rfl) dL_children_243 (Nat.le_of_ble_eq_true rfl) ⟨by omega, by omega⟩ rfl) hS (fun H locs hP hS => ?_)
                refine lv_iload hx hb dL_children_246 (lv_at hl 9 rfl) ?_
                refine lv_iconst (v := 1) hx hb dL_children_248 (by decide) ?_
                refine lv_isub hx hb dL_children_249 ?_
                refine lv_aload_n hx hb dL_children_250 rfl (lv_at hl 4 rfl) ?_
                refine lv_aload_n hx hb dL_children_251 rfl (lv_at hl 4 rfl) ?_
                refine lv_iload hx hb dL_children_252 (lv_at hl 6 rfl) ?_
                obtain ⟨v145, T146, h147, hf⟩ := zbi_i hf
                refine z_ok (z_runV (As := [.int w111]) (rest := [.ref (G 0 0), .int (w114 - 1), .int v142, .int v139]) F k_X3_gardenOf ml_1031 (c_X3_gardenOf w111 T143 T146 (.inl v145) h147) hP hS (zV_0 (by decide)) rfl rfl rfl rfl hl.1 (Nat.le_of_ble_eq_true rfl) dL_children_254 (Nat.le_of_ble_eq_true rfl) ⟨by omega, by omega⟩ rfl) hS (fun H locs hP hS => ?_)
                obtain ⟨v148, T149, h150, hf⟩ := zbi_i hf
                refine z_ok (z_runV (As := [.int v145]) (rest := [.int (w114 - 1), .int v142, .int v139]) F k_X3_seatsOf ml_1090 (c_X3_seatsOf v145 T146 T149 (.inl v148) h150) hP hS (zV_0 (by decide)) rfl rfl rfl rfl hl.1 (Nat.le_of_ble_eq_true rfl) dL_children_257 (Nat.le_of_ble_eq_true rfl) ⟨by omega, by omega⟩ rfl) hS (fun H locs hP hS => ?_)
                refine lv_iconst (v := 1) hx hb dL_children_260 (by decide) ?_
                refine lv_isub hx hb dL_children_261 ?_
                refine z_mmin F ml_1094 ml_408 ml_40 ml_409 hl.1 (Nat.le_of_ble_eq_true rfl) (Nat.le_of_ble_eq_true rfl) ⟨by omega, by omega⟩ dL_children_262 ?_
                refine lv_iadd hx hb dL_children_265 ?_
                refine lv_icmp_ne (tgt := 307) hx hb dL_children_266 (by decide) (fun hc => ?_) (fun hc => ?_)
                · have hf := zif_n hf hc
                  refine W.widen (k := cells + 47) (n := slots + 282) (by omega) (by omega) ?_
                  exact J132 w107 z115 x119 x123 x127 w111 T149 _ _ _ hf hP hS (lv_sub hl [4, 5, 3, 2, 1, 0, 6] rfl)
                · have hf := zif_p hf hc
                  refine lv_iload hx hb dL_children_269 (lv_at hl 7 rfl) ?_
                  obtain ⟨K151, eK151, hf⟩ := zl_i hf
                  have J152 : ∀ (w160 : Int32) (w161 : Int32) (w162 : Int32) (w163 : Int32) (w164 : Int32) (w165 : Int32) (T159 : zT) (H : Heap) (locs : List Loc) (ls : Array Slot), K151 w160 w161 w162 w163 w164 w165 T159 = some o → zP 0 D Y G T159 H → va_S A s.heap H locs → lv_has ls 12 [(0, .ref (G 0 0)), (1, .int w160), (2, .int w161), (3, .int w162), (4, .int w163), (5, .int w164), (7, .int w165)] → W p l e (zR 8 mc ms) s m args below meth c H locs (cells + 47) (slots + 282) Q (F0 m 303 ls []) := by
                    intro w160 w161 w162 w163 w164 w165 T159 H locs ls hf hP hS hl
                    rw [eK151] at hf
                    dsimp only at hf
                    refine lv_iconst (v := 1) hx hb dL_children_303 (by decide) ?_
                    refine lv_goto (tgt := 308) hx hb dL_children_304 (by decide) ?_
                    refine lv_istore (lv' := [(6, .int 1), (0, .ref (G 0 0)), (1, .int w160), (2, .int w161), (3, .int w162), (4, .int w163), (5, .int w164), (7, .int w165)]) hx hb dL_children_308 hl (by decide) rfl (fun ls hl => ?_)
                    obtain ⟨x166, ex166, hf⟩ := zl_i hf
                    refine lv_iinc (v := x166) (lv' := [(7, .int x166), (6, .int 1), (0, .ref (G 0 0)), (1, .int w160), (2, .int w161), (3, .int w162), (4, .int w163), (5, .int w164)]) hx hb dL_children_310 hl (k := 7) rfl (by rw [ex166]; rfl) (by decide) rfl (fun ls hl => ?_)
                    refine lv_goto (tgt := 51) hx hb dL_children_313 (by decide) ?_
                    exact ih (cells + 47) (slots + 282) w161 w162 w163 w164 1 x166 _ _ _ _ _ (by omega) (by omega) hf hP hS (lv_sub hl [2, 3, 4, 5, 6, 7, 1, 0] rfl) k0_
                  refine lv_if_lt (tgt := 303) hx hb dL_children_271 (by decide) (fun hc => ?_) (fun hc => ?_)
                  · have hf := zif_p hf hc
                    refine W.widen (k := cells + 47) (n := slots + 282) (by omega) (by omega) ?_
                    exact J152 w107 z115 x119 x123 x127 w111 T149 _ _ _ hf hP hS (lv_sub hl [4, 5, 3, 2, 1, 0, 6] rfl)
                  · have hf := zif_n hf hc
                    refine lv_aload_n hx hb dL_children_274 rfl (lv_at hl 4 rfl) ?_
                    refine lv_aload_n hx hb dL_children_275 rfl (lv_at hl 4 rfl) ?_
                    refine lv_iload hx hb dL_children_276 (lv_at hl 6 rfl) ?_
                    obtain ⟨v153, T154, h155, hf⟩ := zbi_i hf
                    refine z_ok (z_runV (As := [.int w111]) (rest := [.ref (G 0 0)]) F k_X3_gardenOf ml_1031 (c_X3_gardenOf w111 T149 T154 (.inl v153) h155) hP hS (zV_0 (by decide)) rfl rfl rfl rfl hl.1 (Nat.le_of_ble_eq_true rfl) dL_children_278 (Nat.le_of_ble_eq_true rfl) ⟨by omega, by omega⟩ rfl) hS (fun H locs hP hS => ?_)
                    refine lv_iload hx hb dL_children_281 (lv_at hl 7 rfl) ?_
                    refine lv_bipush (v := 30) hx hb dL_children_283 (by decide) ?_
                    refine lv_idiv hx hb dL_children_285 (by decide) ?_
                    refine lv_iconst (v := 1) hx hb dL_children_286 (by decide) ?_
                    refine lv_iadd hx hb dL_children_287 ?_
                    refine lv_iload hx hb dL_children_288 (lv_at hl 7 rfl) ?_
                    refine lv_bipush (v := 30) hx hb dL_children_290 (by decide) ?_
                    refine lv_irem hx hb dL_children_292 (by decide) ?_
                    refine lv_iconst (v := 1) hx hb dL_children_293 (by decide) ?_
                    refine lv_iadd hx hb dL_children_294 ?_
                    obtain ⟨v156, T157, h158, hf⟩ := zbi_i hf
                    refine z_ok (z_runV (As := [.int v153, .int ((w112 / 30) + 1), .int ((w112 - w112 / 30 * 30) + 1)]) (rest := []) F k_X3_partyIn ml_1095 (c_X3_partyIn v153 ((w112 / 30) + 1) ((w112 - w112 / 30 * 30) + 1) T154 T157 (.inl v156) h158) hP hS (zV_0 (by decide)) rfl rfl rfl rfl hl.1 (Nat.le_of_ble_eq_true rfl) dL_children_295 (Nat.le_of_ble_eq_true rfl) ⟨by omega, by omega⟩ rfl) hS (fun H locs hP hS => ?_)
                    refine lv_iload hx hb dL_children_298 (lv_at hl 6 rfl) ?_
                    refine lv_icmp_ne (tgt := 307) hx hb dL_children_300 (by decide) (fun hc => ?_) (fun hc => ?_)
                    · have hf := zif_n hf hc
                      refine W.widen (k := cells + 47) (n := slots + 282) (by omega) (by omega) ?_
                      exact J132 w107 z115 x119 x123 x127 w111 T157 _ _ _ hf hP hS (lv_sub hl [4, 5, 3, 2, 1, 0, 6] rfl)
                    · have hf := zif_p hf hc
                      refine W.widen (k := cells + 47) (n := slots + 282) (by omega) (by omega) ?_
                      exact J152 w107 z115 x119 x123 x127 w111 T157 _ _ _ hf hP hS (lv_sub hl [4, 5, 3, 2, 1, 0, 6] rfl)
          obtain ⟨K78, eK78, hf⟩ := zl_i hf
          have J79 : ∀ (w97 : Int32) (w98 : Int32) (w99 : Int32) (w100 : Int32) (w101 : Int32) (w102 : Int32) (w103 : Int32) (w104 : Int32) (w105 : Int32) (T96 : zT) (H : Heap) (locs : List Loc) (ls : Array Slot), K78 w97 w98 w99 w100 w101 w102 w103 w104 w105 T96 = some o → zP 0 D Y G T96 H → va_S A s.heap H locs → lv_has ls 12 [(0, .ref (G 0 0)), (1, .int w97), (2, .int w98), (3, .int w99), (4, .int w100), (5, .int w101), (7, .int w102), (8, .int w103), (9, .int w104), (10, .int w105)] → W p l e (zR 8 mc ms) s m args below meth c H locs (cells + 34) (slots + 204) Q (F0 m 175 ls []) := by
            intro w97 w98 w99 w100 w101 w102 w103 w104 w105 T96 H locs ls hf hP hS hl
            rw [eK78] at hf
            dsimp only at hf
            refine lv_iload_n hx hb dL_children_175 rfl (lv_at hl 2 rfl) ?_
            refine W.widen (k := cells + 34) (n := slots + 204) (by omega) (by omega) ?_
            exact J81 w97 w99 w100 w101 w102 w103 w104 w105 w98 T96 _ _ _ hf hP hS (lv_sub hl [0, 1, 3, 4, 5, 6, 7, 8, 9] rfl)
          refine lv_if_le (tgt := 175) hx hb dL_children_153 (by decide) (fun hc => ?_) (fun hc => ?_)
          · have hf := zif_p hf hc
            refine W.widen (k := cells + 34) (n := slots + 204) (by omega) (by omega) ?_
            exact J79 w42 w43 w44 w45 w46 w47 w48 z49 v76.1 T75 _ _ _ hf hP hS (lv_sub hl [0, 1, 2, 3, 4, 5, 6, 7, 8, 9] rfl)
          · have hf := zif_n hf hc
            refine lv_iload_n hx hb dL_children_156 rfl (lv_at hl 2 rfl) ?_
            obtain ⟨K82, eK82, hf⟩ := zl_i hf
            have J83 : ∀ (w88 : Int32) (w89 : Int32) (w90 : Int32) (w91 : Int32) (w92 : Int32) (w93 : Int32) (w94 : Int32) (w95 : Int32) (T87 : zT) (H : Heap) (locs : List Loc) (ls : Array Slot), K82 w88 w89 w90 w91 w92 w93 w94 w95 T87 = some o → zP 0 D Y G T87 H → va_S A s.heap H locs → lv_has ls 12 [(0, .ref (G 0 0)), (1, .int w88), (3, .int w89), (4, .int w90), (5, .int w91), (7, .int w92), (8, .int w93), (9, .int w94), (10, .int w95)] → W p l e (zR 8 mc ms) s m args below meth c H locs (cells + 34) (slots + 204) Q (F0 m 170 ls []) := by
              intro w88 w89 w90 w91 w92 w93 w94 w95 T87 H locs ls hf hP hS hl
              rw [eK82] at hf
              dsimp only at hf
              refine lv_iload hx hb dL_children_170 (lv_at hl 5 rfl) ?_
              refine lv_goto (tgt := 176) hx hb dL_children_172 (by decide) ?_
              refine W.widen (k := cells + 34) (n := slots + 204) (by omega) (by omega) ?_
              exact J81 w88 w89 w90 w91 w92 w93 w94 w95 w92 T87 _ _ _ hf hP hS (lv_sub hl [0, 1, 2, 3, 4, 5, 6, 7, 8] rfl)
            refine lv_if_lt (tgt := 170) hx hb dL_children_157 (by decide) (fun hc => ?_) (fun hc => ?_)
            · have hf := zif_p hf hc
              refine W.widen (k := cells + 34) (n := slots + 204) (by omega) (by omega) ?_
              exact J83 w42 w44 w45 w46 w47 w48 z49 v76.1 T75 _ _ _ hf hP hS (lv_sub hl [0, 1, 3, 4, 5, 6, 7, 8, 9] rfl)
            · have hf := zif_n hf hc
              refine lv_iload hx hb dL_children_160 (lv_at hl 8 rfl) ?_
              refine lv_aload_n hx hb dL_children_162 rfl (lv_at hl 0 rfl) ?_
              refine lv_iload_n hx hb dL_children_163 rfl (lv_at hl 2 rfl) ?_
              obtain ⟨v84, T85, h86, hf⟩ := zbi_i hf
              refine z_ok (z_runV (As := [.int w43]) (rest := [.int z49]) F k_X3_daysUntilBirthday ml_1077 (c_X3_daysUntilBirthday w43 T75 T85 (.inl v84) h86) hP hS (zV_0 (by decide)) rfl rfl rfl rfl hl.1 (Nat.le_of_ble_eq_true rfl) dL_children_164 (Nat.le_of_ble_eq_true rfl) ⟨by omega, by omega⟩ rfl) hS (fun H locs hP hS => ?_)
              refine lv_icmp_ge (tgt := 175) hx hb dL_children_167 (by decide) (fun hc => ?_) (fun hc => ?_)
              · have hf := zif_p hf hc
                refine W.widen (k := cells + 34) (n := slots + 204) (by omega) (by omega) ?_
                exact J79 w42 w43 w44 w45 w46 w47 w48 z49 v76.1 T85 _ _ _ hf hP hS (lv_sub hl [0, 1, 2, 3, 4, 5, 6, 7, 8, 9] rfl)
              · have hf := zif_n hf hc
                refine W.widen (k := cells + 34) (n := slots + 204) (by omega) (by omega) ?_
                exact J83 w42 w44 w45 w46 w47 w48 z49 v76.1 T85 _ _ _ hf hP hS (lv_sub hl [0, 1, 3, 4, 5, 6, 7, 8, 9] rfl)
        refine lv_if_ge (tgt := 82) hx hb dL_children_75 (by decide) (fun hc => ?_) (fun hc => ?_)
        · have hf := zif_p hf hc
          refine lv_iload hx hb dL_children_82 (lv_at hl 0 rfl) ?_
          refine lv_iload_n hx hb dL_children_84 rfl (lv_at hl 2 rfl) ?_
          refine lv_icmp_le (tgt := 95) hx hb dL_children_85 (by decide) (fun hc => ?_) (fun hc => ?_)
          · have hf := zif_p hf hc
            refine lv_iload hx hb dL_children_95 (lv_at hl 0 rfl) ?_
            refine lv_iload_n hx hb dL_children_97 rfl (lv_at hl 2 rfl) ?_
            refine lv_isub hx hb dL_children_98 ?_
            refine lv_sipush (v := 360) hx hb dL_children_99 (by decide) ?_
            refine lv_iadd hx hb dL_children_102 ?_
            refine W.widen (k := cells + 1) (n := slots + 6) (by omega) (by omega) ?_
            exact J40 w1 u2 u3 u4 u5 u7 v36 ((v36 - w1) + 360) T37 _ _ _ hf hP hS (lv_sub hl [1, 2, 3, 4, 5, 6, 8, 0] rfl)
          · have hf := zif_n hf hc
            refine lv_iload hx hb dL_children_88 (lv_at hl 0 rfl) ?_
            refine lv_iload_n hx hb dL_children_90 rfl (lv_at hl 2 rfl) ?_
            refine lv_isub hx hb dL_children_91 ?_
            refine lv_goto (tgt := 103) hx hb dL_children_92 (by decide) ?_
            refine W.widen (k := cells + 1) (n := slots + 6) (by omega) (by omega) ?_
            exact J40 w1 u2 u3 u4 u5 u7 v36 (v36 - w1) T37 _ _ _ hf hP hS (lv_sub hl [1, 2, 3, 4, 5, 6, 8, 0] rfl)
        · have hf := zif_n hf hc
          refine lv_iconst (v := (-1)) hx hb dL_children_78 (by decide) ?_
          refine lv_goto (tgt := 103) hx hb dL_children_79 (by decide) ?_
          refine W.widen (k := cells + 1) (n := slots + 6) (by omega) (by omega) ?_
          exact J40 w1 u2 u3 u4 u5 u7 v36 (-1) T37 _ _ _ hf hP hS (lv_sub hl [1, 2, 3, 4, 5, 6, 8, 0] rfl)
set_option maxHeartbeats 8000000 in
set_option maxRecDepth 100000 in
theorem c_L_children (T T' : zT) (v : Int32) (hf : f_L_children T = some (v, T')) : zC 0 yL_children cL_children 12 (some .boolean) 8 752 4512 (fun G _ => [.ref (G 0 0)]) T (fun _ => .inl (some (.int v))) T' := by
  intro l D Y S V G A hl9 hG
  refine vx_ofW (cc := cL_children) (maxL := 12) (ret := (some .boolean)) (by decide) rfl ?_
  intro p e s m args below meth c s₁ B hml hex hv
  obtain ⟨rfl, hK, hP, hA⟩ := hv
  have hx := B.exec
  have hb := B.bytes
  have hr := B.returns
  have hlocks := B.notSynchronized
  have hown : s.vm.findClass RL = some m.cls := findClass_of_methodNamed B.named
  have hts := atoms_spec (ws := Cond.code yL_children cL_children 12 (some .boolean) :: zWS) B.pre
  have F : zF 0 8 752 4512 p l s m _ c cL_children 12 RL (Cond.code yL_children cL_children 12 (some .boolean)) D Y S V G A := ⟨hx, hb, hml, hown, hts, hl9, hG, hK, hA⟩
  have hS : va_S A s.heap s.heap [] := va_S.rf
  have hl := lv_entry ([.ref (G 0 0)]) (n := 12) (Nat.le_of_ble_eq_true rfl)
  rw [lg_entry_eq]
  generalize (lg_sl ([.ref (G 0 0)]) ++ List.replicate (12 - (lg_sl ([.ref (G 0 0)])).length) Slot.unset).toArray = ls at hl ⊢
  have hl : lv_has ls 12 [(0, .ref (G 0 0))] := hl
  unfold f_L_children at hf
  refine lv_aload_n hx hb dL_children_0 rfl (lv_at hl 0 rfl) ?_
  obtain ⟨v1, T2, h3, hf⟩ := zb_i hf
  refine z_ok (z_runV (As := []) (rest := []) F k_X3_month ml_997 (c_X3_month T T2 v1 h3) hP hS (zV_0 (by decide)) rfl rfl rfl rfl hl.1 (Nat.le_of_ble_eq_true rfl) dL_children_1 (Nat.le_of_ble_eq_true rfl) ⟨(Nat.le_of_ble_eq_true rfl), (Nat.le_of_ble_eq_true rfl)⟩ rfl) hS (fun H locs hP hS => ?_)
  refine lv_iconst (v := 1) hx hb dL_children_4 (by decide) ?_
  refine lv_isub hx hb dL_children_5 ?_
  refine lv_bipush (v := 30) hx hb dL_children_6 (by decide) ?_
  refine lv_imul hx hb dL_children_8 ?_
  refine lv_aload_n hx hb dL_children_9 rfl (lv_at hl 0 rfl) ?_
  obtain ⟨v4, T5, h6, hf⟩ := zb_i hf
  refine z_ok (z_runV (As := []) (rest := [.int ((v1 - 1) * 30)]) F k_X3_dayOfMonth ml_1004 (c_X3_dayOfMonth T2 T5 v4 h6) hP hS (zV_0 (by decide)) rfl rfl rfl rfl hl.1 (Nat.le_of_ble_eq_true rfl) dL_children_10 (Nat.le_of_ble_eq_true rfl) ⟨(Nat.le_of_ble_eq_true rfl), (Nat.le_of_ble_eq_true rfl)⟩ rfl) hS (fun H locs hP hS => ?_)
  refine lv_iadd hx hb dL_children_13 ?_
  refine lv_iconst (v := 1) hx hb dL_children_14 (by decide) ?_
  refine lv_isub hx hb dL_children_15 ?_
  obtain ⟨x7, ex7, hf⟩ := zl_i hf
  refine z_topi ex7 ?_
  refine lv_istore_n (lv' := [(1, .int x7), (0, .ref (G 0 0))]) hx hb dL_children_16 rfl hl (by decide) rfl (fun ls hl => ?_)
  refine lv_iconst (v := (-1)) hx hb dL_children_17 (by decide) ?_
  refine lv_istore_n (lv' := [(2, .int (-1)), (1, .int x7), (0, .ref (G 0 0))]) hx hb dL_children_18 rfl hl (by decide) rfl (fun ls hl => ?_)
  refine lv_iconst (v := 0) hx hb dL_children_19 (by decide) ?_
  refine lv_istore_n (lv' := [(3, .int 0), (2, .int (-1)), (1, .int x7), (0, .ref (G 0 0))]) hx hb dL_children_20 rfl hl (by decide) rfl (fun ls hl => ?_)
  refine lv_iconst (v := 0) hx hb dL_children_21 (by decide) ?_
  refine lv_istore (lv' := [(4, .int 0), (3, .int 0), (2, .int (-1)), (1, .int x7), (0, .ref (G 0 0))]) hx hb dL_children_22 hl (by decide) rfl (fun ls hl => ?_)
  refine lv_iconst (v := 0) hx hb dL_children_24 (by decide) ?_
  refine lv_istore (lv' := [(5, .int 0), (4, .int 0), (3, .int 0), (2, .int (-1)), (1, .int x7), (0, .ref (G 0 0))]) hx hb dL_children_25 hl (by decide) rfl (fun ls hl => ?_)
  refine lv_aload_n hx hb dL_children_27 rfl (lv_at hl 5 rfl) ?_
  obtain ⟨v8, T9, h10, hf⟩ := zb_i hf
  refine z_ok (z_runV (As := []) (rest := []) F k_X3_clashes ml_1061 (c_X3_clashes T5 T9 v8 h10) hP hS (zV_0 (by decide)) rfl rfl rfl rfl hl.1 (Nat.le_of_ble_eq_true rfl) dL_children_28 (Nat.le_of_ble_eq_true rfl) ⟨(Nat.le_of_ble_eq_true rfl), (Nat.le_of_ble_eq_true rfl)⟩ rfl) hS (fun H locs hP hS => ?_)
  obtain ⟨K15, eK15, hf⟩ := zl_i hf
  have J16 : ∀ (w179 : Int32) (w180 : Int32) (w181 : Int32) (w182 : Int32) (w183 : Int32) (T178 : zT) (H : Heap) (locs : List Loc) (ls : Array Slot), K15 w179 w180 w181 w182 w183 T178 = some (v, T') → zP 0 D Y G T178 H → va_S A s.heap H locs → lv_has ls 12 [(0, .ref (G 0 0)), (2, .int w179), (3, .int w180), (4, .int w181), (5, .int w182), (6, .int w183)] → W p l e (zR 8 752 4512) s m args below meth c H locs (752) (4512) (vx_MQ below (zQ 0 D Y G A (.inl (some (.int v))) T') (zX 0 D Y G A (.inl (some (.int v))) T') _ s 752 4512 A) (F0 m 316 ls []) := by
    intro w179 w180 w181 w182 w183 T178 H locs ls hf hP hS hl
    rw [eK15] at hf
    dsimp only at hf
    refine lv_aload_n hx hb dL_children_316 rfl (lv_at hl 0 rfl) ?_
    obtain ⟨v184, T185, h186, hf⟩ := zb_i hf
    refine z_ok (z_runV (As := []) (rest := []) F k_X3_childCount ml_1023 (c_X3_childCount T178 T185 v184 h186) hP hS (zV_0 (by decide)) rfl rfl rfl rfl hl.1 (Nat.le_of_ble_eq_true rfl) dL_children_317 (Nat.le_of_ble_eq_true rfl) ⟨(Nat.le_of_ble_eq_true rfl), (Nat.le_of_ble_eq_true rfl)⟩ rfl) hS (fun H locs hP hS => ?_)
    refine lv_istore (lv' := [(7, .int v184), (0, .ref (G 0 0)), (2, .int w179), (3, .int w180), (4, .int w181), (5, .int w182), (6, .int w183)]) hx hb dL_children_320 hl (by decide) rfl (fun ls hl => ?_)
    refine lv_iload hx hb dL_children_322 (lv_at hl 6 rfl) ?_
    refine lv_if_eq (tgt := 395) hx hb dL_children_324 (by decide) (fun hc => ?_) (fun hc => ?_)
    · have hf := zif_p hf hc
      refine lv_iconst (v := 0) hx hb dL_children_395 (by decide) ?_
      obtain ⟨q1, q2⟩ := zs_i hf
      subst q1; subst q2
      exact z_zret hx hb hr (Or.inl rfl) rfl hP hS hlocks (Nat.le_of_ble_eq_true rfl) (Nat.le_of_ble_eq_true rfl) dL_children_396
    · have hf := zif_n hf hc
      refine lv_aload_n hx hb dL_children_327 rfl (lv_at hl 1 rfl) ?_
      obtain ⟨v187, T188, h189, hf⟩ := zb_i hf
      refine z_ok (z_runV (As := []) (rest := []) F k_X3_nextChild ml_1099 (c_X3_nextChild T185 T188 v187 h189) hP hS (zV_0 (by decide)) rfl rfl rfl rfl hl.1 (Nat.le_of_ble_eq_true rfl) dL_children_328 (Nat.le_of_ble_eq_true rfl) ⟨(Nat.le_of_ble_eq_true rfl), (Nat.le_of_ble_eq_true rfl)⟩ rfl) hS (fun H locs hP hS => ?_)
      refine lv_iload_n hx hb dL_children_331 rfl (lv_at hl 2 rfl) ?_
      refine lv_icmp_ne (tgt := 395) hx hb dL_children_332 (by decide) (fun hc => ?_) (fun hc => ?_)
      · have hf := zif_n hf hc
        refine lv_iconst (v := 0) hx hb dL_children_395 (by decide) ?_
        obtain ⟨q1, q2⟩ := zs_i hf
        subst q1; subst q2
        exact z_zret hx hb hr (Or.inl rfl) rfl hP hS hlocks (Nat.le_of_ble_eq_true rfl) (Nat.le_of_ble_eq_true rfl) dL_children_396
      · have hf := zif_p hf hc
        refine lv_aload_n hx hb dL_children_335 rfl (lv_at hl 1 rfl) ?_
        obtain ⟨v190, T191, h192, hf⟩ := zb_i hf
        refine z_ok (z_runV (As := []) (rest := []) F k_X3_heldParties ml_1047 (c_X3_heldParties T188 T191 v190 h192) hP hS (zV_0 (by decide)) rfl rfl rfl rfl hl.1 (Nat.le_of_ble_eq_true rfl) dL_children_336 (Nat.le_of_ble_eq_true rfl) ⟨(Nat.le_of_ble_eq_true rfl), (Nat.le_of_ble_eq_true rfl)⟩ rfl) hS (fun H locs hP hS => ?_)
        refine lv_iload hx hb dL_children_339 (lv_at hl 5 rfl) ?_
        refine lv_icmp_ne (tgt := 395) hx hb dL_children_341 (by decide) (fun hc => ?_) (fun hc => ?_)
        · have hf := zif_n hf hc
          refine lv_iconst (v := 0) hx hb dL_children_395 (by decide) ?_
          obtain ⟨q1, q2⟩ := zs_i hf
          subst q1; subst q2
          exact z_zret hx hb hr (Or.inl rfl) rfl hP hS hlocks (Nat.le_of_ble_eq_true rfl) (Nat.le_of_ble_eq_true rfl) dL_children_396
        · have hf := zif_p hf hc
          refine lv_aload_n hx hb dL_children_344 rfl (lv_at hl 1 rfl) ?_
          obtain ⟨v193, T194, h195, hf⟩ := zb_i hf
          refine z_ok (z_runV (As := []) (rest := []) F k_X3_meanAge ml_1103 (c_X3_meanAge T191 T194 v193 h195) hP hS (zV_0 (by decide)) rfl rfl rfl rfl hl.1 (Nat.le_of_ble_eq_true rfl) dL_children_345 (Nat.le_of_ble_eq_true rfl) ⟨(Nat.le_of_ble_eq_true rfl), (Nat.le_of_ble_eq_true rfl)⟩ rfl) hS (fun H locs hP hS => ?_)
          refine lv_iload hx hb dL_children_348 (lv_at hl 0 rfl) ?_
          obtain ⟨K196, eK196, hf⟩ := zl_i hf
          have J197 : ∀ (w200 : Int32) (w201 : Int32) (z202 : UInt64) (z203 : UInt64) (T199 : zT) (H : Heap) (locs : List Loc) (ls : Array Slot), K196 w200 w201 z202 z203 T199 = some (v, T') → zP 0 D Y G T199 H → va_S A s.heap H locs → lv_has ls 12 [(0, .ref (G 0 0)), (4, .int w200), (5, .int w201)] → W p l e (zR 8 752 4512) s m args below meth c H locs (752) (4512) (vx_MQ below (zQ 0 D Y G A (.inl (some (.int v))) T') (zX 0 D Y G A (.inl (some (.int v))) T') _ s 752 4512 A) (F0 m 363 ls [.double z203, .double z202]) := by
            intro w200 w201 z202 z203 T199 H locs ls hf hP hS hl
            rw [eK196] at hf
            dsimp only at hf
            refine lv_dcmp hx hb dL_children_363 ?_
            refine lv_if_ne (tgt := 395) hx hb dL_children_364 (by decide) (fun hc => ?_) (fun hc => ?_)
            · have hf := zif_n hf hc
              refine lv_iconst (v := 0) hx hb dL_children_395 (by decide) ?_
              obtain ⟨q1, q2⟩ := zs_i hf
              subst q1; subst q2
              exact z_zret hx hb hr (Or.inl rfl) rfl hP hS hlocks (Nat.le_of_ble_eq_true rfl) (Nat.le_of_ble_eq_true rfl) dL_children_396
            · have hf := zif_p hf hc
              refine lv_aload_n hx hb dL_children_367 rfl (lv_at hl 0 rfl) ?_
              obtain ⟨v204, T205, h206, hf⟩ := zb_i hf
              refine z_ok (z_runV (As := []) (rest := []) F k_X3_wishShare ml_1107 (c_X3_wishShare T199 T205 v204 h206) hP hS (zV_0 (by decide)) rfl rfl rfl rfl hl.1 (Nat.le_of_ble_eq_true rfl) dL_children_368 (Nat.le_of_ble_eq_true rfl) ⟨(Nat.le_of_ble_eq_true rfl), (Nat.le_of_ble_eq_true rfl)⟩ rfl) hS (fun H locs hP hS => ?_)
              refine lv_iload hx hb dL_children_371 (lv_at hl 2 rfl) ?_
              obtain ⟨K207, eK207, hf⟩ := zl_i hf
              have J208 : ∀ (z211 : UInt32) (z212 : UInt32) (T210 : zT) (H : Heap) (locs : List Loc) (ls : Array Slot), K207 z211 z212 T210 = some (v, T') → zP 0 D Y G T210 H → va_S A s.heap H locs → lv_has ls 12 [] → W p l e (zR 8 752 4512) s m args below meth c H locs (752) (4512) (vx_MQ below (zQ 0 D Y G A (.inl (some (.int v))) T') (zX 0 D Y G A (.inl (some (.int v))) T') _ s 752 4512 A) (F0 m 387 ls [.float z212, .float z211]) := by
                intro z211 z212 T210 H locs ls hf hP hS hl
                rw [eK207] at hf
                dsimp only at hf
                refine lv_fcmp hx hb dL_children_387 ?_
                refine lv_if_ne (tgt := 395) hx hb dL_children_388 (by decide) (fun hc => ?_) (fun hc => ?_)
                · have hf := zif_n hf hc
                  refine lv_iconst (v := 0) hx hb dL_children_395 (by decide) ?_
                  obtain ⟨q1, q2⟩ := zs_i hf
                  subst q1; subst q2
                  exact z_zret hx hb hr (Or.inl rfl) rfl hP hS hlocks (Nat.le_of_ble_eq_true rfl) (Nat.le_of_ble_eq_true rfl) dL_children_396
                · have hf := zif_p hf hc
                  refine lv_iconst (v := 1) hx hb dL_children_391 (by decide) ?_
                  refine lv_goto (tgt := 396) hx hb dL_children_392 (by decide) ?_
                  obtain ⟨q1, q2⟩ := zs_i hf
                  subst q1; subst q2
                  exact z_zret hx hb hr (Or.inr rfl) rfl hP hS hlocks (Nat.le_of_ble_eq_true rfl) (Nat.le_of_ble_eq_true rfl) dL_children_396
              refine lv_if_ne (tgt := 380) hx hb dL_children_373 (by decide) (fun hc => ?_) (fun hc => ?_)
              · have hf := zif_n hf hc
                refine lv_iload hx hb dL_children_380 (lv_at hl 1 rfl) ?_
                refine lv_i2f hx hb dL_children_382 ?_
                refine lv_iload hx hb dL_children_383 (lv_at hl 2 rfl) ?_
                refine lv_i2f hx hb dL_children_385 ?_
                obtain ⟨h209, hf⟩ := zif_c hf
                refine lv_fdiv hx hb dL_children_386 (z_nn32 h209) ?_
                refine W.widen (k := 752) (n := 4512) (Nat.le_of_ble_eq_true rfl) (Nat.le_of_ble_eq_true rfl) ?_
                exact J208 v204 (FP.fdiv (FP.i2f w200) (FP.i2f w201)) T205 _ _ _ hf hP hS (lv_sub hl [] rfl)
              · have hf := zif_p hf hc
                refine lv_fconst0 hx hb dL_children_376 ?_
                refine lv_goto (tgt := 387) hx hb dL_children_377 (by decide) ?_
                refine W.widen (k := 752) (n := 4512) (Nat.le_of_ble_eq_true rfl) (Nat.le_of_ble_eq_true rfl) ?_
                exact J208 v204 (FP.fconst0) T205 _ _ _ hf hP hS (lv_sub hl [] rfl)
          refine lv_if_ne (tgt := 357) hx hb dL_children_350 (by decide) (fun hc => ?_) (fun hc => ?_)
          · have hf := zif_n hf hc
            refine lv_iload_n hx hb dL_children_357 rfl (lv_at hl 3 rfl) ?_
            refine lv_i2d hx hb dL_children_358 ?_
            refine lv_iload hx hb dL_children_359 (lv_at hl 0 rfl) ?_
            refine lv_i2d hx hb dL_children_361 ?_
            obtain ⟨h198, hf⟩ := zif_c hf
            refine lv_ddiv hx hb dL_children_362 (z_nn64 h198) ?_
            refine W.widen (k := 752) (n := 4512) (Nat.le_of_ble_eq_true rfl) (Nat.le_of_ble_eq_true rfl) ?_
            exact J197 w181 w182 v193 (FP.ddiv (FP.i2d w180) (FP.i2d v184)) T194 _ _ _ hf hP hS (lv_sub hl [1, 4, 5] rfl)
          · have hf := zif_p hf hc
            refine lv_dconst0 hx hb dL_children_353 ?_
            refine lv_goto (tgt := 363) hx hb dL_children_354 (by decide) ?_
            refine W.widen (k := 752) (n := 4512) (Nat.le_of_ble_eq_true rfl) (Nat.le_of_ble_eq_true rfl) ?_
            exact J197 w181 w182 v193 (FP.dconst0) T194 _ _ _ hf hP hS (lv_sub hl [1, 4, 5] rfl)
  obtain ⟨K13, eK13, hf⟩ := zl_i hf
  have J14 : ∀ (w27 : Int32) (w28 : Int32) (w29 : Int32) (w30 : Int32) (w31 : Int32) (z32 : Int32) (T26 : zT) (H : Heap) (locs : List Loc) (ls : Array Slot), K13 w27 w28 w29 w30 w31 z32 T26 = some (v, T') → zP 0 D Y G T26 H → va_S A s.heap H locs → lv_has ls 12 [(0, .ref (G 0 0)), (1, .int w27), (2, .int w28), (3, .int w29), (4, .int w30), (5, .int w31)] → W p l e (zR 8 752 4512) s m args below meth c H locs (0) (0) (vx_MQ below (zQ 0 D Y G A (.inl (some (.int v))) T') (zX 0 D Y G A (.inl (some (.int v))) T') _ s 752 4512 A) (F0 m 46 ls [.int z32]) := by
    intro w27 w28 w29 w30 w31 z32 T26 H locs ls hf hP hS hl
    rw [eK13] at hf
    dsimp only at hf
    refine lv_istore (lv' := [(6, .int z32), (0, .ref (G 0 0)), (1, .int w27), (2, .int w28), (3, .int w29), (4, .int w30), (5, .int w31)]) hx hb dL_children_46 hl (by decide) rfl (fun ls hl => ?_)
    refine lv_iconst (v := 0) hx hb dL_children_48 (by decide) ?_
    refine lv_istore (lv' := [(7, .int 0), (6, .int z32), (0, .ref (G 0 0)), (1, .int w27), (2, .int w28), (3, .int w29), (4, .int w30), (5, .int w31)]) hx hb dL_children_49 hl (by decide) rfl (fun ls hl => ?_)
    obtain ⟨v176, T175, h177, hf⟩ := zb_i hf
    refine l_L_children_51 (ce := 752) (se := 4512) ⟨(Nat.le_of_ble_eq_true rfl), (Nat.le_of_ble_eq_true rfl)⟩ F w27 16 (0) (0) w28 w29 w30 w31 z32 0 _ _ _ _ _ (Nat.le_of_ble_eq_true rfl) (Nat.le_of_ble_eq_true rfl) h177 hP hS (lv_sub hl [2, 3, 4, 5, 6, 7, 1, 0] rfl) (fun H locs ls hP hS hl => ?_)
    refine W.widen (k := 752) (n := 4512) (Nat.le_of_ble_eq_true rfl) (Nat.le_of_ble_eq_true rfl) ?_
    exact J16 v176.1 v176.2.1 v176.2.2.1 v176.2.2.2.1 v176.2.2.2.2.1 T175 _ _ _ hf hP hS (lv_sub hl [0, 2, 3, 4, 5, 6] rfl)
  obtain ⟨K11, eK11, hf⟩ := zl_i hf
  have J12 : ∀ (w21 : Int32) (w22 : Int32) (w23 : Int32) (w24 : Int32) (w25 : Int32) (T20 : zT) (H : Heap) (locs : List Loc) (ls : Array Slot), K11 w21 w22 w23 w24 w25 T20 = some (v, T') → zP 0 D Y G T20 H → va_S A s.heap H locs → lv_has ls 12 [(0, .ref (G 0 0)), (1, .int w21), (2, .int w22), (3, .int w23), (4, .int w24), (5, .int w25)] → W p l e (zR 8 752 4512) s m args below meth c H locs (0) (0) (vx_MQ below (zQ 0 D Y G A (.inl (some (.int v))) T') (zX 0 D Y G A (.inl (some (.int v))) T') _ s 752 4512 A) (F0 m 45 ls []) := by
    intro w21 w22 w23 w24 w25 T20 H locs ls hf hP hS hl
    rw [eK11] at hf
    dsimp only at hf
    refine lv_iconst (v := 0) hx hb dL_children_45 (by decide) ?_
    refine W.widen (k := 0) (n := 0) (Nat.le_of_ble_eq_true rfl) (Nat.le_of_ble_eq_true rfl) ?_
    exact J14 w21 w22 w23 w24 w25 0 T20 _ _ _ hf hP hS (lv_sub hl [0, 1, 2, 3, 4, 5] rfl)
  refine lv_if_ne (tgt := 45) hx hb dL_children_31 (by decide) (fun hc => ?_) (fun hc => ?_)
  · have hf := zif_n hf hc
    refine W.widen (k := 0) (n := 0) (Nat.le_of_ble_eq_true rfl) (Nat.le_of_ble_eq_true rfl) ?_
    exact J12 x7 (-1) 0 0 0 T9 _ _ _ hf hP hS (lv_sub hl [5, 4, 3, 2, 1, 0] rfl)
  · have hf := zif_p hf hc
    refine lv_aload_n hx hb dL_children_34 rfl (lv_at hl 5 rfl) ?_
    obtain ⟨v17, T18, h19, hf⟩ := zb_i hf
    refine z_ok (z_runV (As := []) (rest := []) F k_X3_candleDifference ml_1069 (c_X3_candleDifference T9 T18 v17 h19) hP hS (zV_0 (by decide)) rfl rfl rfl rfl hl.1 (Nat.le_of_ble_eq_true rfl) dL_children_35 (Nat.le_of_ble_eq_true rfl) ⟨(Nat.le_of_ble_eq_true rfl), (Nat.le_of_ble_eq_true rfl)⟩ rfl) hS (fun H locs hP hS => ?_)
    refine lv_if_ne (tgt := 45) hx hb dL_children_38 (by decide) (fun hc => ?_) (fun hc => ?_)
    · have hf := zif_n hf hc
      refine W.widen (k := 0) (n := 0) (Nat.le_of_ble_eq_true rfl) (Nat.le_of_ble_eq_true rfl) ?_
      exact J12 x7 (-1) 0 0 0 T18 _ _ _ hf hP hS (lv_sub hl [5, 4, 3, 2, 1, 0] rfl)
    · have hf := zif_p hf hc
      refine lv_iconst (v := 1) hx hb dL_children_41 (by decide) ?_
      refine lv_goto (tgt := 46) hx hb dL_children_42 (by decide) ?_
      refine W.widen (k := 0) (n := 0) (Nat.le_of_ble_eq_true rfl) (Nat.le_of_ble_eq_true rfl) ?_
      exact J14 x7 (-1) 0 0 0 1 T18 _ _ _ hf hP hS (lv_sub hl [5, 4, 3, 2, 1, 0] rfl)
