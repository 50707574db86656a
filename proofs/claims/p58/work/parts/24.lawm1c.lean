/-! THE LAW'S OWN METHODS, by program -/
def sp_L_act_140 (w2 : Int32) (w3 : Int32) (T : zT) : Option (Int32 × zT) := zb (f_L_next T) fun v43 T44 => zl (1 + (v43 - v43 / 400 * 400)) fun x46 => zbi (f_X3_candlesAfter x46 T44) fun v47 T48 => zl (zk T44 T48) fun T50 => zl (fun (z58 : Int32) (T57 : zT) => zb (f_X3_heldParties T57) fun v59 T60 => zl (zk T57 T60) fun T62 => zb (f_L_advanced x46 T62) fun v63 T64 => zl (zk T62 T64) fun T66 => zb (f_X3_heldParties T66) fun v67 T68 => zl (zk T66 T68) fun T70 => (if v63 = (v67 - v59) then zb (f_X3_candles T70) fun v71 T72 => zl (zk T70 T72) fun T74 => (if v71 = v47 then (if w2 = 0 then some (1, T74) else zbi (f_X3_wishesOf w3 T74) fun v75 T76 => zl (zk T74 T76) fun T78 => (if v75 = z58 then some (1, T78) else some (0, T78))) else some (0, T74)) else some (0, T70))) fun K51 => (if w2 = 0 then K51 0 T50 else zbi (f_X3_wishesAfter w3 x46 T50) fun v53 T54 => zl (zk T50 T54) fun T56 => K51 v53 T56)
def sp_L_act_228 (w2 : Int32) (w3 : Int32) (T : zT) : Option (Int32 × zT) := zl (fun (z86 : Int32) (T85 : zT) => zb (f_X3_nextDraw T85) fun v87 T88 => zl (zk T85 T88) fun T90 => zb (f_L_drawn w3 T90) fun v91 T92 => zl (zk T90 T92) fun T94 => (if 0 ≤ z86 then (if v91 = z86 then zl (fun (T101 : zT) => zb (f_X3_seed T101) fun v102 T103 => zl (zk T101 T103) fun T105 => zbi (f_X3_birthdayOf w3 T105) fun v106 T107 => zl (zk T105 T107) fun T109 => (if (v102 - v102 / 360 * 360) = v106 then some (1, T109) else some (0, T109))) fun K95 => (if 1 < z86 then K95 T94 else zbi (f_X3_birthdayOf w3 T94) fun v97 T98 => zl (zk T94 T98) fun T100 => (if v97 = v87 then K95 T100 else some (0, T100))) else some (0, T94)) else zl (fun (z113 : Int32) (z114 : Int32) (T112 : zT) => (if z113 = z114 then zb (f_L_baked 0 1 T112) fun v115 T116 => zl (zk T112 T116) fun T118 => (if v115 = 0 then some (0, T118) else some (1, T118)) else some (0, T112))) fun K110 => (if w2 = 0 then K110 v91 (-5) T94 else K110 v91 (-3) T94))) fun K79 => (if w2 = 0 then K79 (-5) T else zbi (f_X3_drawsNeeded w3 T) fun v81 T82 => zl (zk T T82) fun T84 => K79 v81 T84)
def sp_L_act_338 (w2 : Int32) (w3 : Int32) (w5 : Int32) (w6 : Int32) (w7 : Int32) (T : zT) : Option (Int32 × zT) := zl (fun (z130 : Int32) (T129 : zT) => zb (f_L_set w3 w5 w6 T129) fun v131 T132 => zl (zk T129 T132) fun T134 => zl (fun (T145 : zT) => zl (fun (z149 : Int32) (z150 : Int32) (T148 : zT) => (if z149 = z150 then zb (f_L_baked 1 1 T148) fun v151 T152 => zl (zk T148 T152) fun T154 => (if v151 = 0 then some (0, T154) else some (1, T154)) else some (0, T148))) fun K146 => (if w2 = 0 then K146 v131 (-5) T145 else K146 v131 (-3) T145)) fun K135 => (if w2 = 0 then K135 T134 else (if z130 = 0 then zbi (f_X3_birthdayOf w3 T134) fun v137 T138 => zl (zk T134 T138) fun T140 => (if v137 = w7 then zbi (f_X3_daysUntilBirthday w3 T140) fun v141 T142 => zl (zk T140 T142) fun T144 => (if v141 = v131 then some (1, T144) else some (0, T144)) else some (0, T140)) else K135 T134))) fun K119 => (if w2 = 0 then K119 0 T else zbi (f_X3_gardenOf w3 T) fun v121 T122 => zl (zk T T122) fun T124 => zbi (f_X3_obstacle w3 v121 w5 w6 T124) fun v125 T126 => zl (zk T124 T126) fun T128 => K119 v125 T128)
def sp_L_act_441 (w2 : Int32) (w3 : Int32) (w8 : Int32) (T : zT) : Option (Int32 × zT) := zb (f_L_forgotten w3 T) fun v155 T156 => zl (zk T T156) fun T158 => zl (fun (z162 : Int32) (z163 : Int32) (T161 : zT) => (if z162 = z163 then (if w2 = 0 then zb (f_L_baked 2 1 T161) fun v168 T169 => zl (zk T161 T169) fun T171 => (if v168 = 0 then some (0, T171) else some (1, T171)) else zbi (f_X3_birthdayOf w3 T161) fun v164 T165 => zl (zk T161 T165) fun T167 => (if v164 = (-1) then some (1, T167) else some (0, T167))) else some (0, T161))) fun K159 => (if w2 = 0 then K159 v155 (-5) T158 else K159 v155 w8 T158)
def sp_L_act_491 (w2 : Int32) (w3 : Int32) (w4 : Int32) (w8 : Int32) (T : zT) : Option (Int32 × zT) := zl (fun (z179 : Int32) (T178 : zT) => zl (fun (z190 : Int32) (T189 : zT) => zb (f_L_moved w3 w4 T189) fun v191 T192 => zl (zk T189 T192) fun T194 => zl (fun (T201 : zT) => zl (fun (z205 : Int32) (z206 : Int32) (T204 : zT) => (if z205 = z206 then zb (f_L_baked 3 1 T204) fun v207 T208 => zl (zk T204 T208) fun T210 => (if v207 = 0 then some (0, T210) else some (1, T210)) else some (0, T204))) fun K202 => (if z190 = 0 then K202 v191 (-5) T201 else K202 v191 (-3) T201)) fun K195 => (if z190 = 0 then (if w2 = 0 then K195 T194 else (if v191 = z179 then zbi (f_X3_gardenOf w3 T194) fun v197 T198 => zl (zk T194 T198) fun T200 => (if v197 = w4 then some (1, T200) else some (0, T200)) else some (0, T194))) else K195 T194)) fun K182 => zl (fun (T188 : zT) => K182 0 T188) fun K180 => (if w2 ≤ 0 then K180 T178 else (if w8 < 0 then K180 T178 else zbi (f_X3_obstacle w3 w4 ((w8 / 30) + 1) ((w8 - w8 / 30 * 30) + 1) T178) fun v184 T185 => zl (zk T178 T185) fun T187 => (if v184 = 0 then K180 T187 else K182 1 T187)))) fun K172 => (if w2 = 0 then K172 (-5) T else zbi (f_X3_gardenOf w3 T) fun v174 T175 => zl (zk T T175) fun T177 => K172 v174 T177)
def sp_L_act_622 (T : zT) : Option (Int32 × zT) := zb (f_X3_candles T) fun v211 T212 => zl (zk T T212) fun T214 => zb (f_L_next T214) fun v215 T216 => zl (1 + (v215 - v215 / 300 * 300)) fun x218 => zb (f_L_bought x218 T216) fun v219 T220 => zl (zk T216 T220) fun T222 => zl (fun (z226 : Int32) (z227 : Int32) (T225 : zT) => (if z226 = z227 then zb (f_X3_candles T225) fun v228 T229 => zl (zk T225 T229) fun T231 => zl (fun (z235 : Int32) (z236 : Int32) (T234 : zT) => (if z235 = z236 then zb (f_L_baked 4 1 T234) fun v237 T238 => zl (zk T234 T238) fun T240 => (if v237 = 0 then some (0, T240) else some (1, T240)) else some (0, T234))) fun K232 => (if (v211 + x218) ≤ 9999 then K232 v228 (v211 + x218) T231 else K232 v228 v211 T231) else some (0, T225))) fun K223 => (if (v211 + x218) ≤ 9999 then K223 v219 (v211 + x218) T222 else K223 v219 (-3) T222)
def sp_L_act_713 (T : zT) : Option (Int32 × zT) := zb (f_L_next T) fun v241 T242 => zl (v241 - v241 / 6 * 6) fun x244 => zbi (f_X3_cakes x244 T242) fun v245 T246 => zl (zk T242 T246) fun T248 => zb (f_L_next T248) fun v249 T250 => zl (1 + (v249 - v249 / 20 * 20)) fun x252 => zl (fun (z256 : Int32) (T255 : zT) => zb (f_L_baked x244 x252 T255) fun v257 T258 => zl (zk T255 T258) fun T260 => zl (fun (z264 : Int32) (z265 : Int32) (T263 : zT) => (if z264 = z265 then zbi (f_X3_cakes x244 T263) fun v266 T267 => zl (zk T263 T267) fun T269 => zl (fun (z273 : Int32) (z274 : Int32) (T272 : zT) => (if z273 = z274 then zb (f_L_bought 1 T272) fun v275 T276 => zl (zk T272 T276) fun T278 => (if v275 = 0 then some (0, T278) else some (1, T278)) else some (0, T272))) fun K270 => (if z256 = 0 then K270 v266 v245 T269 else K270 v266 (v245 + x252) T269) else some (0, T263))) fun K261 => (if z256 = 0 then K261 v257 (-3) T260 else K261 v257 (v245 + x252) T260)) fun K253 => (if 99 < (v245 + x252) then K253 0 T250 else K253 1 T250)
def f_L_act (T : zT) : Option (Int32 × zT) := zb (f_X3_childCount T) fun v1 T2 => zl (zk T T2) fun T4 => zl (fun (z12 : Int32) (T11 : zT) => zb (f_L_next T11) fun v13 T14 => zb (f_X3_gardenCount T14) fun v16 T17 => zl (zk T14 T17) fun T19 => if ¬ v16 = 0 then zl (v13 - v13 / v16 * v16) fun x21 => zb (f_L_next T19) fun v22 T23 => zl (1 + (v22 - v22 / 12 * 12)) fun x25 => zb (f_L_next T23) fun v26 T27 => zl (1 + (v26 - v26 / 30 * 30)) fun x29 => zl ((((x25 - 1) * 30) + x29) - 1) fun x30 => zl (fun (z38 : Int32) (T37 : zT) => zb (f_L_next T37) fun v39 T40 => zl (v39 - v39 / 10 * 10) fun x42 => (if x42 = 0 then sp_L_act_140 v1 z12 T40 else (if x42 = 1 then sp_L_act_140 v1 z12 T40 else (if x42 = 2 then sp_L_act_228 v1 z12 T40 else (if x42 = 3 then sp_L_act_228 v1 z12 T40 else (if x42 = 4 then sp_L_act_338 v1 z12 x25 x29 x30 T40 else (if x42 = 5 then sp_L_act_338 v1 z12 x25 x29 x30 T40 else (if x42 = 6 then sp_L_act_441 v1 z12 z38 T40 else (if x42 = 7 then sp_L_act_491 v1 z12 x21 z38 T40 else (if x42 = 8 then sp_L_act_622 T40 else if ¬ x42 < 9 then sp_L_act_713 T40 else none)))))))))) fun K31 => (if v1 = 0 then K31 (-1) T27 else zbi (f_X3_birthdayOf z12 T27) fun v33 T34 => zl (zk T27 T34) fun T36 => K31 v33 T36) else none) fun K5 => (if v1 = 0 then K5 0 T4 else zb (f_L_next T4) fun v7 T8 => if ¬ v1 = 0 then K5 (v7 - v7 / v1 * v1) T8 else none)
set_option maxHeartbeats 8000000 in
set_option maxRecDepth 100000 in
theorem s_L_act_140 {p : Program} {l : Launch} {e : Env} {s : State} {m : MethodId} {args : Array Value} {below : List Frame} {meth : Method} {c : Code} {D : va_G} {Y : Nat → ClassId} {S V : Nat → Nat} {G : Nat → Nat → Nat} {A : Nat → Prop} {c0 : Cond} (F : zF 1 9 10 60 p l s m args c cL_act 27 RL c0 D Y S V G A) (hr : meth.sig.returnType = (some .boolean)) (hlocks : meth.locks = false) (hex : ∀ x ∈ c.exceptionTable.toList, False) (w2 : Int32) (w3 : Int32) (T : zT) {T' : zT} {v : Int32} {H : Heap} {locs : List Loc} {ls : Array Slot} (hf : sp_L_act_140 w2 w3 T = some (v, T')) (hP : zP 1 D Y G T H) (hS : va_S A s.heap H locs) (hl : lv_has ls 27 [(0, .ref (G 0 0)), (1, .ref (G 0 8)), (2, .int w2), (3, .int w3)]) :
    W p l e (zR 9 10 60) s m args below meth c H locs 1 6 (vx_MQ below (zQ 1 D Y G A (.inl (some (.int v))) T') (zX 1 D Y G A (.inl (some (.int v))) T') args s 10 60 A) (F0 m 140 ls []) := by
  obtain ⟨hx, hb, hml, hown, hts, hl9, hG, hK, hA⟩ := id F
  unfold sp_L_act_140 at hf
  refine lv_iconst (v := 1) hx hb dL_act_140 (by decide) ?_
  refine lv_aload_n hx hb dL_act_141 rfl (lv_at hl 1 rfl) ?_
  obtain ⟨v43, T44, h45, hf⟩ := zb_i hf
  refine z_ok (z_runS (As := [.ref (G 0 8)]) (rest := [.int 1]) F kl_next ml_590 (c_L_next T T44 v43 h45) hP hS rfl rfl hl.1 (Nat.le_of_ble_eq_true rfl) dL_act_142 (Nat.le_of_ble_eq_true rfl) ⟨(Nat.le_of_ble_eq_true rfl), (Nat.le_of_ble_eq_true rfl)⟩ rfl) hS (fun H locs hP hS => ?_)
  refine lv_sipush (v := 400) hx hb dL_act_145 (by decide) ?_
  refine lv_irem hx hb dL_act_148 (by decide) ?_
  refine lv_iadd hx hb dL_act_149 ?_
  obtain ⟨x46, ex46, hf⟩ := zl_i hf
  refine z_topi ex46 ?_
  refine lv_istore (lv' := [(9, .int x46), (0, .ref (G 0 0)), (1, .ref (G 0 8)), (2, .int w2), (3, .int w3)]) hx hb dL_act_150 hl (by decide) rfl (fun ls hl => ?_)
  refine lv_aload_n hx hb dL_act_152 rfl (lv_at hl 1 rfl) ?_
  refine lv_iload hx hb dL_act_153 (lv_at hl 0 rfl) ?_
  obtain ⟨v47, T48, h49, hf⟩ := zbi_i hf
  obtain ⟨T50, eT50, hf⟩ := zl_i hf
  refine z_ok (z_runV (As := [.int x46]) (rest := []) F k_X3_candlesAfter ml_1155 (((c_X3_candlesAfter x46 T44 T48 (.inl v47) h49).lift (by decide))) hP hS (zV_0 (by decide)) rfl rfl rfl rfl hl.1 (Nat.le_of_ble_eq_true rfl) dL_act_155 (Nat.le_of_ble_eq_true rfl) ⟨(Nat.le_of_ble_eq_true rfl), (Nat.le_of_ble_eq_true rfl)⟩ rfl) hS (fun H locs hP hS => ?_)
  rw [← eT50] at hP
  refine lv_istore (lv' := [(10, .int v47), (9, .int x46), (0, .ref (G 0 0)), (1, .ref (G 0 8)), (2, .int w2), (3, .int w3)]) hx hb dL_act_158 hl (by decide) rfl (fun ls hl => ?_)
  refine lv_iload_n hx hb dL_act_160 rfl (lv_at hl 4 rfl) ?_
  obtain ⟨K51, eK51, hf⟩ := zl_i hf
  have J52 : ∀ (z58 : Int32) (T57 : zT) (H : Heap) (locs : List Loc) (ls : Array Slot), K51 z58 T57 = some (v, T') → zP 1 D Y G T57 H → va_S A s.heap H locs → lv_has ls 27 [(0, .ref (G 0 0)), (2, .int w2), (3, .int w3), (9, .int x46), (10, .int v47)] → W p l e (zR 9 10 60) s m args below meth c H locs (4) (24) (vx_MQ below (zQ 1 D Y G A (.inl (some (.int v))) T') (zX 1 D Y G A (.inl (some (.int v))) T') args s 10 60 A) (F0 m 175 ls [.int z58]) := by
    intro z58 T57 H locs ls hf hP hS hl
    rw [eK51] at hf
    dsimp only at hf
    refine lv_istore (lv' := [(11, .int z58), (0, .ref (G 0 0)), (2, .int w2), (3, .int w3), (9, .int x46), (10, .int v47)]) hx hb dL_act_175 hl (by decide) rfl (fun ls hl => ?_)
    refine lv_aload_n hx hb dL_act_177 rfl (lv_at hl 1 rfl) ?_
    obtain ⟨v59, T60, h61, hf⟩ := zb_i hf
    obtain ⟨T62, eT62, hf⟩ := zl_i hf
    refine z_ok (z_runV (As := []) (rest := []) F k_X3_heldParties ml_1047 (((c_X3_heldParties T57 T60 v59 h61).lift (by decide))) hP hS (zV_0 (by decide)) rfl rfl rfl rfl hl.1 (Nat.le_of_ble_eq_true rfl) dL_act_178 (Nat.le_of_ble_eq_true rfl) ⟨(Nat.le_of_ble_eq_true rfl), (Nat.le_of_ble_eq_true rfl)⟩ rfl) hS (fun H locs hP hS => ?_)
    rw [← eT62] at hP
    refine lv_istore (lv' := [(12, .int v59), (11, .int z58), (0, .ref (G 0 0)), (2, .int w2), (3, .int w3), (9, .int x46), (10, .int v47)]) hx hb dL_act_181 hl (by decide) rfl (fun ls hl => ?_)
    refine lv_aload_n hx hb dL_act_183 rfl (lv_at hl 2 rfl) ?_
    refine lv_iload hx hb dL_act_184 (lv_at hl 5 rfl) ?_
    obtain ⟨v63, T64, h65, hf⟩ := zb_i hf
    obtain ⟨T66, eT66, hf⟩ := zl_i hf
    refine z_ok (z_runSW (As := [.ref (G 0 0), .int x46]) (rest := []) F kl_advanced ml_654 ((c_L_advanced x46 T62 T64 v63 h65).lift (by decide)) hP hS rfl rfl hl.1 (Nat.le_of_ble_eq_true rfl) dL_act_186 (Nat.le_of_ble_eq_true rfl) ⟨(Nat.le_of_ble_eq_true rfl), (Nat.le_of_ble_eq_true rfl)⟩ rfl) hS (fun H locs hP hS => ?_)
    rw [← eT66] at hP
    refine lv_aload_n hx hb dL_act_189 rfl (lv_at hl 2 rfl) ?_
    obtain ⟨v67, T68, h69, hf⟩ := zb_i hf
    obtain ⟨T70, eT70, hf⟩ := zl_i hf
    refine z_ok (z_runV (As := []) (rest := [.int v63]) F k_X3_heldParties ml_1047 (((c_X3_heldParties T66 T68 v67 h69).lift (by decide))) hP hS (zV_0 (by decide)) rfl rfl rfl rfl hl.1 (Nat.le_of_ble_eq_true rfl) dL_act_190 (Nat.le_of_ble_eq_true rfl) ⟨(Nat.le_of_ble_eq_true rfl), (Nat.le_of_ble_eq_true rfl)⟩ rfl) hS (fun H locs hP hS => ?_)
    rw [← eT70] at hP
    refine lv_iload hx hb dL_act_193 (lv_at hl 0 rfl) ?_
    refine lv_isub hx hb dL_act_195 ?_
    refine lv_icmp_ne (tgt := 226) hx hb dL_act_196 (by decide) (fun hc => ?_) (fun hc => ?_)
    · have hf := zif_n hf hc
      refine lv_iconst (v := 0) hx hb dL_act_226 (by decide) ?_
      obtain ⟨q1, q2⟩ := zs_i hf
      subst q1; subst q2
      exact z_zret hx hb hr (Or.inl rfl) rfl hP hS hlocks (Nat.le_of_ble_eq_true rfl) (Nat.le_of_ble_eq_true rfl) dL_act_227
    · have hf := zif_p hf hc
      refine lv_aload_n hx hb dL_act_199 rfl (lv_at hl 2 rfl) ?_
      obtain ⟨v71, T72, h73, hf⟩ := zb_i hf
      obtain ⟨T74, eT74, hf⟩ := zl_i hf
      refine z_ok (z_runV (As := []) (rest := []) F k_X3_candles ml_1015 (((c_X3_candles T70 T72 v71 h73).lift (by decide))) hP hS (zV_0 (by decide)) rfl rfl rfl rfl hl.1 (Nat.le_of_ble_eq_true rfl) dL_act_200 (Nat.le_of_ble_eq_true rfl) ⟨(Nat.le_of_ble_eq_true rfl), (Nat.le_of_ble_eq_true rfl)⟩ rfl) hS (fun H locs hP hS => ?_)
      rw [← eT74] at hP
      refine lv_iload hx hb dL_act_203 (lv_at hl 6 rfl) ?_
      refine lv_icmp_ne (tgt := 226) hx hb dL_act_205 (by decide) (fun hc => ?_) (fun hc => ?_)
      · have hf := zif_n hf hc
        refine lv_iconst (v := 0) hx hb dL_act_226 (by decide) ?_
        obtain ⟨q1, q2⟩ := zs_i hf
        subst q1; subst q2
        exact z_zret hx hb hr (Or.inl rfl) rfl hP hS hlocks (Nat.le_of_ble_eq_true rfl) (Nat.le_of_ble_eq_true rfl) dL_act_227
      · have hf := zif_p hf hc
        refine lv_iload_n hx hb dL_act_208 rfl (lv_at hl 3 rfl) ?_
        refine lv_if_eq (tgt := 222) hx hb dL_act_209 (by decide) (fun hc => ?_) (fun hc => ?_)
        · have hf := zif_p hf hc
          refine lv_iconst (v := 1) hx hb dL_act_222 (by decide) ?_
          refine lv_goto (tgt := 227) hx hb dL_act_223 (by decide) ?_
          obtain ⟨q1, q2⟩ := zs_i hf
          subst q1; subst q2
          exact z_zret hx hb hr (Or.inr rfl) rfl hP hS hlocks (Nat.le_of_ble_eq_true rfl) (Nat.le_of_ble_eq_true rfl) dL_act_227
        · have hf := zif_n hf hc
          refine lv_aload_n hx hb dL_act_212 rfl (lv_at hl 2 rfl) ?_
          refine lv_iload_n hx hb dL_act_213 rfl (lv_at hl 4 rfl) ?_
          obtain ⟨v75, T76, h77, hf⟩ := zbi_i hf
          obtain ⟨T78, eT78, hf⟩ := zl_i hf
          refine z_ok (z_runV (As := [.int w3]) (rest := []) F k_X3_wishesOf ml_1043 (((c_X3_wishesOf w3 T74 T76 (.inl v75) h77).lift (by decide))) hP hS (zV_0 (by decide)) rfl rfl rfl rfl hl.1 (Nat.le_of_ble_eq_true rfl) dL_act_214 (Nat.le_of_ble_eq_true rfl) ⟨(Nat.le_of_ble_eq_true rfl), (Nat.le_of_ble_eq_true rfl)⟩ rfl) hS (fun H locs hP hS => ?_)
          rw [← eT78] at hP
          refine lv_iload hx hb dL_act_217 (lv_at hl 1 rfl) ?_
          refine lv_icmp_ne (tgt := 226) hx hb dL_act_219 (by decide) (fun hc => ?_) (fun hc => ?_)
          · have hf := zif_n hf hc
            refine lv_iconst (v := 0) hx hb dL_act_226 (by decide) ?_
            obtain ⟨q1, q2⟩ := zs_i hf
            subst q1; subst q2
            exact z_zret hx hb hr (Or.inl rfl) rfl hP hS hlocks (Nat.le_of_ble_eq_true rfl) (Nat.le_of_ble_eq_true rfl) dL_act_227
          · have hf := zif_p hf hc
            refine lv_iconst (v := 1) hx hb dL_act_222 (by decide) ?_
            refine lv_goto (tgt := 227) hx hb dL_act_223 (by decide) ?_
            obtain ⟨q1, q2⟩ := zs_i hf
            subst q1; subst q2
            exact z_zret hx hb hr (Or.inr rfl) rfl hP hS hlocks (Nat.le_of_ble_eq_true rfl) (Nat.le_of_ble_eq_true rfl) dL_act_227
  refine lv_if_ne (tgt := 168) hx hb dL_act_161 (by decide) (fun hc => ?_) (fun hc => ?_)
  · have hf := zif_n hf hc
    refine lv_aload_n hx hb dL_act_168 rfl (lv_at hl 2 rfl) ?_
    refine lv_iload_n hx hb dL_act_169 rfl (lv_at hl 5 rfl) ?_
    refine lv_iload hx hb dL_act_170 (lv_at hl 1 rfl) ?_
    obtain ⟨v53, T54, h55, hf⟩ := zbi_i hf
    obtain ⟨T56, eT56, hf⟩ := zl_i hf
    refine z_ok (z_runV (As := [.int w3, .int x46]) (rest := []) F k_X3_wishesAfter ml_1166 (((c_X3_wishesAfter w3 x46 T50 T54 (.inl v53) h55).lift (by decide))) hP hS (zV_0 (by decide)) rfl rfl rfl rfl hl.1 (Nat.le_of_ble_eq_true rfl) dL_act_172 (Nat.le_of_ble_eq_true rfl) ⟨(Nat.le_of_ble_eq_true rfl), (Nat.le_of_ble_eq_true rfl)⟩ rfl) hS (fun H locs hP hS => ?_)
    rw [← eT56] at hP
    refine W.widen (k := 4) (n := 24) (Nat.le_of_ble_eq_true rfl) (Nat.le_of_ble_eq_true rfl) ?_
    exact J52 v53 T56 _ _ _ hf hP hS (lv_sub hl [2, 4, 5, 1, 0] rfl)
  · have hf := zif_p hf hc
    refine lv_iconst (v := 0) hx hb dL_act_164 (by decide) ?_
    refine lv_goto (tgt := 175) hx hb dL_act_165 (by decide) ?_
    refine W.widen (k := 4) (n := 24) (Nat.le_of_ble_eq_true rfl) (Nat.le_of_ble_eq_true rfl) ?_
    exact J52 0 T50 _ _ _ hf hP hS (lv_sub hl [2, 4, 5, 1, 0] rfl)
set_option maxHeartbeats 8000000 in
set_option maxRecDepth 100000 in
theorem s_L_act_228 {p : Program} {l : Launch} {e : Env} {s : State} {m : MethodId} {args : Array Value} {below : List Frame} {meth : Method} {c : Code} {D : va_G} {Y : Nat → ClassId} {S V : Nat → Nat} {G : Nat → Nat → Nat} {A : Nat → Prop} {c0 : Cond} (F : zF 1 9 10 60 p l s m args c cL_act 27 RL c0 D Y S V G A) (hr : meth.sig.returnType = (some .boolean)) (hlocks : meth.locks = false) (hex : ∀ x ∈ c.exceptionTable.toList, False) (w2 : Int32) (w3 : Int32) (T : zT) {T' : zT} {v : Int32} {H : Heap} {locs : List Loc} {ls : Array Slot} (hf : sp_L_act_228 w2 w3 T = some (v, T')) (hP : zP 1 D Y G T H) (hS : va_S A s.heap H locs) (hl : lv_has ls 27 [(0, .ref (G 0 0)), (2, .int w2), (3, .int w3)]) :
    W p l e (zR 9 10 60) s m args below meth c H locs 1 6 (vx_MQ below (zQ 1 D Y G A (.inl (some (.int v))) T') (zX 1 D Y G A (.inl (some (.int v))) T') args s 10 60 A) (F0 m 228 ls []) := by
  obtain ⟨hx, hb, hml, hown, hts, hl9, hG, hK, hA⟩ := id F
  unfold sp_L_act_228 at hf
  refine lv_iload_n hx hb dL_act_228 rfl (lv_at hl 1 rfl) ?_
  obtain ⟨K79, eK79, hf⟩ := zl_i hf
  have J80 : ∀ (z86 : Int32) (T85 : zT) (H : Heap) (locs : List Loc) (ls : Array Slot), K79 z86 T85 = some (v, T') → zP 1 D Y G T85 H → va_S A s.heap H locs → lv_has ls 27 [(0, .ref (G 0 0)), (2, .int w2), (3, .int w3)] → W p l e (zR 9 10 60) s m args below meth c H locs (2) (12) (vx_MQ below (zQ 1 D Y G A (.inl (some (.int v))) T') (zX 1 D Y G A (.inl (some (.int v))) T') args s 10 60 A) (F0 m 242 ls [.int z86]) := by
    intro z86 T85 H locs ls hf hP hS hl
    rw [eK79] at hf
    dsimp only at hf
    refine lv_istore (lv' := [(13, .int z86), (0, .ref (G 0 0)), (2, .int w2), (3, .int w3)]) hx hb dL_act_242 hl (by decide) rfl (fun ls hl => ?_)
    refine lv_aload_n hx hb dL_act_244 rfl (lv_at hl 1 rfl) ?_
    obtain ⟨v87, T88, h89, hf⟩ := zb_i hf
    obtain ⟨T90, eT90, hf⟩ := zl_i hf
    refine z_ok (z_runV (As := []) (rest := []) F k_X3_nextDraw ml_1174 (((c_X3_nextDraw T85 T88 v87 h89).lift (by decide))) hP hS (zV_0 (by decide)) rfl rfl rfl rfl hl.1 (Nat.le_of_ble_eq_true rfl) dL_act_245 (Nat.le_of_ble_eq_true rfl) ⟨(Nat.le_of_ble_eq_true rfl), (Nat.le_of_ble_eq_true rfl)⟩ rfl) hS (fun H locs hP hS => ?_)
    rw [← eT90] at hP
    refine lv_istore (lv' := [(14, .int v87), (13, .int z86), (0, .ref (G 0 0)), (2, .int w2), (3, .int w3)]) hx hb dL_act_248 hl (by decide) rfl (fun ls hl => ?_)
    refine lv_aload_n hx hb dL_act_250 rfl (lv_at hl 2 rfl) ?_
    refine lv_iload_n hx hb dL_act_251 rfl (lv_at hl 4 rfl) ?_
    obtain ⟨v91, T92, h93, hf⟩ := zb_i hf
    obtain ⟨T94, eT94, hf⟩ := zl_i hf
    refine z_ok (z_runSW (As := [.ref (G 0 0), .int w3]) (rest := []) F kl_drawn ml_665 ((c_L_drawn w3 T90 T92 v91 h93).lift (by decide)) hP hS rfl rfl hl.1 (Nat.le_of_ble_eq_true rfl) dL_act_252 (Nat.le_of_ble_eq_true rfl) ⟨(Nat.le_of_ble_eq_true rfl), (Nat.le_of_ble_eq_true rfl)⟩ rfl) hS (fun H locs hP hS => ?_)
    rw [← eT94] at hP
    refine lv_istore (lv' := [(15, .int v91), (14, .int v87), (13, .int z86), (0, .ref (G 0 0)), (2, .int w2), (3, .int w3)]) hx hb dL_act_255 hl (by decide) rfl (fun ls hl => ?_)
    refine lv_iload hx hb dL_act_257 (lv_at hl 2 rfl) ?_
    refine lv_if_ge (tgt := 293) hx hb dL_act_259 (by decide) (fun hc => ?_) (fun hc => ?_)
    · have hf := zif_p hf hc
      refine lv_iload hx hb dL_act_293 (lv_at hl 0 rfl) ?_
      refine lv_iload hx hb dL_act_295 (lv_at hl 2 rfl) ?_
      refine lv_icmp_ne (tgt := 336) hx hb dL_act_297 (by decide) (fun hc => ?_) (fun hc => ?_)
      · have hf := zif_n hf hc
        refine lv_iconst (v := 0) hx hb dL_act_336 (by decide) ?_
        obtain ⟨q1, q2⟩ := zs_i hf
        subst q1; subst q2
        exact z_zret hx hb hr (Or.inl rfl) rfl hP hS hlocks (Nat.le_of_ble_eq_true rfl) (Nat.le_of_ble_eq_true rfl) dL_act_337
      · have hf := zif_p hf hc
        refine lv_iload hx hb dL_act_300 (lv_at hl 2 rfl) ?_
        refine lv_iconst (v := 1) hx hb dL_act_302 (by decide) ?_
        obtain ⟨K95, eK95, hf⟩ := zl_i hf
        have J96 : ∀ (T101 : zT) (H : Heap) (locs : List Loc) (ls : Array Slot), K95 T101 = some (v, T') → zP 1 D Y G T101 H → va_S A s.heap H locs → lv_has ls 27 [(0, .ref (G 0 0)), (3, .int w3)] → W p l e (zR 9 10 60) s m args below meth c H locs (5) (30) (vx_MQ below (zQ 1 D Y G A (.inl (some (.int v))) T') (zX 1 D Y G A (.inl (some (.int v))) T') args s 10 60 A) (F0 m 316 ls []) := by
          intro T101 H locs ls hf hP hS hl
          rw [eK95] at hf
          dsimp only at hf
          refine lv_aload_n hx hb dL_act_316 rfl (lv_at hl 0 rfl) ?_
          obtain ⟨v102, T103, h104, hf⟩ := zb_i hf
          obtain ⟨T105, eT105, hf⟩ := zl_i hf
          refine z_ok (z_runV (As := []) (rest := []) F k_X3_seed ml_1011 (((c_X3_seed T101 T103 v102 h104).lift (by decide))) hP hS (zV_0 (by decide)) rfl rfl rfl rfl hl.1 (Nat.le_of_ble_eq_true rfl) dL_act_317 (Nat.le_of_ble_eq_true rfl) ⟨(Nat.le_of_ble_eq_true rfl), (Nat.le_of_ble_eq_true rfl)⟩ rfl) hS (fun H locs hP hS => ?_)
          rw [← eT105] at hP
          refine lv_sipush (v := 360) hx hb dL_act_320 (by decide) ?_
          refine lv_irem hx hb dL_act_323 (by decide) ?_
          refine lv_aload_n hx hb dL_act_324 rfl (lv_at hl 0 rfl) ?_
          refine lv_iload_n hx hb dL_act_325 rfl (lv_at hl 1 rfl) ?_
          obtain ⟨v106, T107, h108, hf⟩ := zbi_i hf
          obtain ⟨T109, eT109, hf⟩ := zl_i hf
          refine z_ok (z_runV (As := [.int w3]) (rest := [.int (v102 - v102 / 360 * 360)]) F k_X3_birthdayOf ml_1035 (((c_X3_birthdayOf w3 T105 T107 (.inl v106) h108).lift (by decide))) hP hS (zV_0 (by decide)) rfl rfl rfl rfl hl.1 (Nat.le_of_ble_eq_true rfl) dL_act_326 (Nat.le_of_ble_eq_true rfl) ⟨(Nat.le_of_ble_eq_true rfl), (Nat.le_of_ble_eq_true rfl)⟩ rfl) hS (fun H locs hP hS => ?_)
          rw [← eT109] at hP
          refine lv_icmp_ne (tgt := 336) hx hb dL_act_329 (by decide) (fun hc => ?_) (fun hc => ?_)
          · have hf := zif_n hf hc
            refine lv_iconst (v := 0) hx hb dL_act_336 (by decide) ?_
            obtain ⟨q1, q2⟩ := zs_i hf
            subst q1; subst q2
            exact z_zret hx hb hr (Or.inl rfl) rfl hP hS hlocks (Nat.le_of_ble_eq_true rfl) (Nat.le_of_ble_eq_true rfl) dL_act_337
          · have hf := zif_p hf hc
            refine lv_iconst (v := 1) hx hb dL_act_332 (by decide) ?_
            refine lv_goto (tgt := 337) hx hb dL_act_333 (by decide) ?_
            obtain ⟨q1, q2⟩ := zs_i hf
            subst q1; subst q2
            exact z_zret hx hb hr (Or.inr rfl) rfl hP hS hlocks (Nat.le_of_ble_eq_true rfl) (Nat.le_of_ble_eq_true rfl) dL_act_337
        refine lv_icmp_gt (tgt := 316) hx hb dL_act_303 (by decide) (fun hc => ?_) (fun hc => ?_)
        · have hf := zif_p hf hc
          refine W.widen (k := 5) (n := 30) (Nat.le_of_ble_eq_true rfl) (Nat.le_of_ble_eq_true rfl) ?_
          exact J96 T94 _ _ _ hf hP hS (lv_sub hl [3, 5] rfl)
        · have hf := zif_n hf hc
          refine lv_aload_n hx hb dL_act_306 rfl (lv_at hl 3 rfl) ?_
          refine lv_iload_n hx hb dL_act_307 rfl (lv_at hl 5 rfl) ?_
          obtain ⟨v97, T98, h99, hf⟩ := zbi_i hf
          obtain ⟨T100, eT100, hf⟩ := zl_i hf
          refine z_ok (z_runV (As := [.int w3]) (rest := []) F k_X3_birthdayOf ml_1035 (((c_X3_birthdayOf w3 T94 T98 (.inl v97) h99).lift (by decide))) hP hS (zV_0 (by decide)) rfl rfl rfl rfl hl.1 (Nat.le_of_ble_eq_true rfl) dL_act_308 (Nat.le_of_ble_eq_true rfl) ⟨(Nat.le_of_ble_eq_true rfl), (Nat.le_of_ble_eq_true rfl)⟩ rfl) hS (fun H locs hP hS => ?_)
          rw [← eT100] at hP
          refine lv_iload hx hb dL_act_311 (lv_at hl 1 rfl) ?_
          refine lv_icmp_ne (tgt := 336) hx hb dL_act_313 (by decide) (fun hc => ?_) (fun hc => ?_)
          · have hf := zif_n hf hc
            refine lv_iconst (v := 0) hx hb dL_act_336 (by decide) ?_
            obtain ⟨q1, q2⟩ := zs_i hf
            subst q1; subst q2
            exact z_zret hx hb hr (Or.inl rfl) rfl hP hS hlocks (Nat.le_of_ble_eq_true rfl) (Nat.le_of_ble_eq_true rfl) dL_act_337
          · have hf := zif_p hf hc
            refine W.widen (k := 5) (n := 30) (Nat.le_of_ble_eq_true rfl) (Nat.le_of_ble_eq_true rfl) ?_
            exact J96 T100 _ _ _ hf hP hS (lv_sub hl [3, 5] rfl)
    · have hf := zif_n hf hc
      refine lv_iload hx hb dL_act_262 (lv_at hl 0 rfl) ?_
      refine lv_iload_n hx hb dL_act_264 rfl (lv_at hl 4 rfl) ?_
      obtain ⟨K110, eK110, hf⟩ := zl_i hf
      have J111 : ∀ (z113 : Int32) (z114 : Int32) (T112 : zT) (H : Heap) (locs : List Loc) (ls : Array Slot), K110 z113 z114 T112 = some (v, T') → zP 1 D Y G T112 H → va_S A s.heap H locs → lv_has ls 27 [(0, .ref (G 0 0))] → W p l e (zR 9 10 60) s m args below meth c H locs (4) (24) (vx_MQ below (zQ 1 D Y G A (.inl (some (.int v))) T') (zX 1 D Y G A (.inl (some (.int v))) T') args s 10 60 A) (F0 m 275 ls [.int z114, .int z113]) := by
        intro z113 z114 T112 H locs ls hf hP hS hl
        rw [eK110] at hf
        dsimp only at hf
        refine lv_icmp_ne (tgt := 291) hx hb dL_act_275 (by decide) (fun hc => ?_) (fun hc => ?_)
        · have hf := zif_n hf hc
          refine lv_iconst (v := 0) hx hb dL_act_291 (by decide) ?_
          obtain ⟨q1, q2⟩ := zs_i hf
          subst q1; subst q2
          exact z_zret hx hb hr (Or.inl rfl) rfl hP hS hlocks (Nat.le_of_ble_eq_true rfl) (Nat.le_of_ble_eq_true rfl) dL_act_292
        · have hf := zif_p hf hc
          refine lv_aload_n hx hb dL_act_278 rfl (lv_at hl 0 rfl) ?_
          refine lv_iconst (v := 0) hx hb dL_act_279 (by decide) ?_
          refine lv_iconst (v := 1) hx hb dL_act_280 (by decide) ?_
          obtain ⟨v115, T116, h117, hf⟩ := zb_i hf
          obtain ⟨T118, eT118, hf⟩ := zl_i hf
          refine z_ok (z_runSW (As := [.ref (G 0 0), .int 0, .int 1]) (rest := []) F kl_baked ml_729 ((c_L_baked 0 1 T112 T116 v115 h117).lift (by decide)) hP hS rfl rfl hl.1 (Nat.le_of_ble_eq_true rfl) dL_act_281 (Nat.le_of_ble_eq_true rfl) ⟨(Nat.le_of_ble_eq_true rfl), (Nat.le_of_ble_eq_true rfl)⟩ rfl) hS (fun H locs hP hS => ?_)
          rw [← eT118] at hP
          refine lv_if_eq (tgt := 291) hx hb dL_act_284 (by decide) (fun hc => ?_) (fun hc => ?_)
          · have hf := zif_p hf hc
            refine lv_iconst (v := 0) hx hb dL_act_291 (by decide) ?_
            obtain ⟨q1, q2⟩ := zs_i hf
            subst q1; subst q2
            exact z_zret hx hb hr (Or.inl rfl) rfl hP hS hlocks (Nat.le_of_ble_eq_true rfl) (Nat.le_of_ble_eq_true rfl) dL_act_292
          · have hf := zif_n hf hc
            refine lv_iconst (v := 1) hx hb dL_act_287 (by decide) ?_
            refine lv_goto (tgt := 292) hx hb dL_act_288 (by decide) ?_
            obtain ⟨q1, q2⟩ := zs_i hf
            subst q1; subst q2
            exact z_zret hx hb hr (Or.inr rfl) rfl hP hS hlocks (Nat.le_of_ble_eq_true rfl) (Nat.le_of_ble_eq_true rfl) dL_act_292
      refine lv_if_ne (tgt := 273) hx hb dL_act_265 (by decide) (fun hc => ?_) (fun hc => ?_)
      · have hf := zif_n hf hc
        refine lv_bipush (v := (-3)) hx hb dL_act_273 (by decide) ?_
        refine W.widen (k := 4) (n := 24) (Nat.le_of_ble_eq_true rfl) (Nat.le_of_ble_eq_true rfl) ?_
        exact J111 v91 (-3) T94 _ _ _ hf hP hS (lv_sub hl [3] rfl)
      · have hf := zif_p hf hc
        refine lv_bipush (v := (-5)) hx hb dL_act_268 (by decide) ?_
        refine lv_goto (tgt := 275) hx hb dL_act_270 (by decide) ?_
        refine W.widen (k := 4) (n := 24) (Nat.le_of_ble_eq_true rfl) (Nat.le_of_ble_eq_true rfl) ?_
        exact J111 v91 (-5) T94 _ _ _ hf hP hS (lv_sub hl [3] rfl)
  refine lv_if_ne (tgt := 237) hx hb dL_act_229 (by decide) (fun hc => ?_) (fun hc => ?_)
  · have hf := zif_n hf hc
    refine lv_aload_n hx hb dL_act_237 rfl (lv_at hl 0 rfl) ?_
    refine lv_iload_n hx hb dL_act_238 rfl (lv_at hl 2 rfl) ?_
    obtain ⟨v81, T82, h83, hf⟩ := zbi_i hf
    obtain ⟨T84, eT84, hf⟩ := zl_i hf
    refine z_ok (z_runV (As := [.int w3]) (rest := []) F k_X3_drawsNeeded ml_1170 (((c_X3_drawsNeeded w3 T T82 (.inl v81) h83).lift (by decide))) hP hS (zV_0 (by decide)) rfl rfl rfl rfl hl.1 (Nat.le_of_ble_eq_true rfl) dL_act_239 (Nat.le_of_ble_eq_true rfl) ⟨(Nat.le_of_ble_eq_true rfl), (Nat.le_of_ble_eq_true rfl)⟩ rfl) hS (fun H locs hP hS => ?_)
    rw [← eT84] at hP
    refine W.widen (k := 2) (n := 12) (Nat.le_of_ble_eq_true rfl) (Nat.le_of_ble_eq_true rfl) ?_
    exact J80 v81 T84 _ _ _ hf hP hS (lv_sub hl [0, 1, 2] rfl)
  · have hf := zif_p hf hc
    refine lv_bipush (v := (-5)) hx hb dL_act_232 (by decide) ?_
    refine lv_goto (tgt := 242) hx hb dL_act_234 (by decide) ?_
    refine W.widen (k := 2) (n := 12) (Nat.le_of_ble_eq_true rfl) (Nat.le_of_ble_eq_true rfl) ?_
    exact J80 (-5) T _ _ _ hf hP hS (lv_sub hl [0, 1, 2] rfl)
set_option maxHeartbeats 8000000 in
set_option maxRecDepth 100000 in
theorem s_L_act_338 {p : Program} {l : Launch} {e : Env} {s : State} {m : MethodId} {args : Array Value} {below : List Frame} {meth : Method} {c : Code} {D : va_G} {Y : Nat → ClassId} {S V : Nat → Nat} {G : Nat → Nat → Nat} {A : Nat → Prop} {c0 : Cond} (F : zF 1 9 10 60 p l s m args c cL_act 27 RL c0 D Y S V G A) (hr : meth.sig.returnType = (some .boolean)) (hlocks : meth.locks = false) (hex : ∀ x ∈ c.exceptionTable.toList, False) (w2 : Int32) (w3 : Int32) (w5 : Int32) (w6 : Int32) (w7 : Int32) (T : zT) {T' : zT} {v : Int32} {H : Heap} {locs : List Loc} {ls : Array Slot} (hf : sp_L_act_338 w2 w3 w5 w6 w7 T = some (v, T')) (hP : zP 1 D Y G T H) (hS : va_S A s.heap H locs) (hl : lv_has ls 27 [(0, .ref (G 0 0)), (2, .int w2), (3, .int w3), (5, .int w5), (6, .int w6), (7, .int w7)]) :
    W p l e (zR 9 10 60) s m args below meth c H locs 1 6 (vx_MQ below (zQ 1 D Y G A (.inl (some (.int v))) T') (zX 1 D Y G A (.inl (some (.int v))) T') args s 10 60 A) (F0 m 338 ls []) := by
  obtain ⟨hx, hb, hml, hown, hts, hl9, hG, hK, hA⟩ := id F
  unfold sp_L_act_338 at hf
  refine lv_iload_n hx hb dL_act_338 rfl (lv_at hl 1 rfl) ?_
  obtain ⟨K119, eK119, hf⟩ := zl_i hf
  have J120 : ∀ (z130 : Int32) (T129 : zT) (H : Heap) (locs : List Loc) (ls : Array Slot), K119 z130 T129 = some (v, T') → zP 1 D Y G T129 H → va_S A s.heap H locs → lv_has ls 27 [(0, .ref (G 0 0)), (2, .int w2), (3, .int w3), (5, .int w5), (6, .int w6), (7, .int w7)] → W p l e (zR 9 10 60) s m args below meth c H locs (5) (30) (vx_MQ below (zQ 1 D Y G A (.inl (some (.int v))) T') (zX 1 D Y G A (.inl (some (.int v))) T') args s 10 60 A) (F0 m 360 ls [.int z130]) := by
    intro z130 T129 H locs ls hf hP hS hl
    rw [eK119] at hf
    dsimp only at hf
    refine lv_istore (lv' := [(16, .int z130), (0, .ref (G 0 0)), (2, .int w2), (3, .int w3), (5, .int w5), (6, .int w6), (7, .int w7)]) hx hb dL_act_360 hl (by decide) rfl (fun ls hl => ?_)
    refine lv_aload_n hx hb dL_act_362 rfl (lv_at hl 1 rfl) ?_
    refine lv_iload_n hx hb dL_act_363 rfl (lv_at hl 3 rfl) ?_
    refine lv_iload hx hb dL_act_364 (lv_at hl 4 rfl) ?_
    refine lv_iload hx hb dL_act_366 (lv_at hl 5 rfl) ?_
    obtain ⟨v131, T132, h133, hf⟩ := zb_i hf
    obtain ⟨T134, eT134, hf⟩ := zl_i hf
    refine z_ok (z_runSW (As := [.ref (G 0 0), .int w3, .int w5, .int w6]) (rest := []) F kl_set ml_680 ((c_L_set w3 w5 w6 T129 T132 v131 h133).lift (by decide)) hP hS rfl rfl hl.1 (Nat.le_of_ble_eq_true rfl) dL_act_368 (Nat.le_of_ble_eq_true rfl) ⟨(Nat.le_of_ble_eq_true rfl), (Nat.le_of_ble_eq_true rfl)⟩ rfl) hS (fun H locs hP hS => ?_)
    rw [← eT134] at hP
    refine lv_istore (lv' := [(17, .int v131), (16, .int z130), (0, .ref (G 0 0)), (2, .int w2), (3, .int w3), (5, .int w5), (6, .int w6), (7, .int w7)]) hx hb dL_act_371 hl (by decide) rfl (fun ls hl => ?_)
    refine lv_iload_n hx hb dL_act_373 rfl (lv_at hl 3 rfl) ?_
    obtain ⟨K135, eK135, hf⟩ := zl_i hf
    have J136 : ∀ (T145 : zT) (H : Heap) (locs : List Loc) (ls : Array Slot), K135 T145 = some (v, T') → zP 1 D Y G T145 H → va_S A s.heap H locs → lv_has ls 27 [(0, .ref (G 0 0)), (2, .int w2), (17, .int v131)] → W p l e (zR 9 10 60) s m args below meth c H locs (8) (48) (vx_MQ below (zQ 1 D Y G A (.inl (some (.int v))) T') (zX 1 D Y G A (.inl (some (.int v))) T') args s 10 60 A) (F0 m 382 ls []) := by
      intro T145 H locs ls hf hP hS hl
      rw [eK135] at hf
      dsimp only at hf
      refine lv_iload hx hb dL_act_382 (lv_at hl 2 rfl) ?_
      refine lv_iload_n hx hb dL_act_384 rfl (lv_at hl 1 rfl) ?_
      obtain ⟨K146, eK146, hf⟩ := zl_i hf
      have J147 : ∀ (z149 : Int32) (z150 : Int32) (T148 : zT) (H : Heap) (locs : List Loc) (ls : Array Slot), K146 z149 z150 T148 = some (v, T') → zP 1 D Y G T148 H → va_S A s.heap H locs → lv_has ls 27 [(0, .ref (G 0 0))] → W p l e (zR 9 10 60) s m args below meth c H locs (8) (48) (vx_MQ below (zQ 1 D Y G A (.inl (some (.int v))) T') (zX 1 D Y G A (.inl (some (.int v))) T') args s 10 60 A) (F0 m 395 ls [.int z150, .int z149]) := by
        intro z149 z150 T148 H locs ls hf hP hS hl
        rw [eK146] at hf
        dsimp only at hf
        refine lv_icmp_ne (tgt := 411) hx hb dL_act_395 (by decide) (fun hc => ?_) (fun hc => ?_)
        · have hf := zif_n hf hc
          refine lv_iconst (v := 0) hx hb dL_act_411 (by decide) ?_
          refine lv_goto (tgt := 440) hx hb dL_act_412 (by decide) ?_
          obtain ⟨q1, q2⟩ := zs_i hf
          subst q1; subst q2
          exact z_zret hx hb hr (Or.inl rfl) rfl hP hS hlocks (Nat.le_of_ble_eq_true rfl) (Nat.le_of_ble_eq_true rfl) dL_act_440
        · have hf := zif_p hf hc
          refine lv_aload_n hx hb dL_act_398 rfl (lv_at hl 0 rfl) ?_
          refine lv_iconst (v := 1) hx hb dL_act_399 (by decide) ?_
          refine lv_iconst (v := 1) hx hb dL_act_400 (by decide) ?_
          obtain ⟨v151, T152, h153, hf⟩ := zb_i hf
          obtain ⟨T154, eT154, hf⟩ := zl_i hf
          refine z_ok (z_runSW (As := [.ref (G 0 0), .int 1, .int 1]) (rest := []) F kl_baked ml_729 ((c_L_baked 1 1 T148 T152 v151 h153).lift (by decide)) hP hS rfl rfl hl.1 (Nat.le_of_ble_eq_true rfl) dL_act_401 (Nat.le_of_ble_eq_true rfl) ⟨(Nat.le_of_ble_eq_true rfl), (Nat.le_of_ble_eq_true rfl)⟩ rfl) hS (fun H locs hP hS => ?_)
          rw [← eT154] at hP
          refine lv_if_eq (tgt := 411) hx hb dL_act_404 (by decide) (fun hc => ?_) (fun hc => ?_)
          · have hf := zif_p hf hc
            refine lv_iconst (v := 0) hx hb dL_act_411 (by decide) ?_
            refine lv_goto (tgt := 440) hx hb dL_act_412 (by decide) ?_
            obtain ⟨q1, q2⟩ := zs_i hf
            subst q1; subst q2
            exact z_zret hx hb hr (Or.inl rfl) rfl hP hS hlocks (Nat.le_of_ble_eq_true rfl) (Nat.le_of_ble_eq_true rfl) dL_act_440
          · have hf := zif_n hf hc
            refine lv_iconst (v := 1) hx hb dL_act_407 (by decide) ?_
            refine lv_goto (tgt := 440) hx hb dL_act_408 (by decide) ?_
            obtain ⟨q1, q2⟩ := zs_i hf
            subst q1; subst q2
            exact z_zret hx hb hr (Or.inr rfl) rfl hP hS hlocks (Nat.le_of_ble_eq_true rfl) (Nat.le_of_ble_eq_true rfl) dL_act_440
      refine lv_if_ne (tgt := 393) hx hb dL_act_385 (by decide) (fun hc => ?_) (fun hc => ?_)
      · have hf := zif_n hf hc
        refine lv_bipush (v := (-3)) hx hb dL_act_393 (by decide) ?_
        refine W.widen (k := 8) (n := 48) (Nat.le_of_ble_eq_true rfl) (Nat.le_of_ble_eq_true rfl) ?_
        exact J147 v131 (-3) T145 _ _ _ hf hP hS (lv_sub hl [0] rfl)
      · have hf := zif_p hf hc
        refine lv_bipush (v := (-5)) hx hb dL_act_388 (by decide) ?_
        refine lv_goto (tgt := 395) hx hb dL_act_390 (by decide) ?_
        refine W.widen (k := 8) (n := 48) (Nat.le_of_ble_eq_true rfl) (Nat.le_of_ble_eq_true rfl) ?_
        exact J147 v131 (-5) T145 _ _ _ hf hP hS (lv_sub hl [0] rfl)
    refine lv_if_eq (tgt := 382) hx hb dL_act_374 (by decide) (fun hc => ?_) (fun hc => ?_)
    · have hf := zif_p hf hc
      refine W.widen (k := 8) (n := 48) (Nat.le_of_ble_eq_true rfl) (Nat.le_of_ble_eq_true rfl) ?_
      exact J136 T134 _ _ _ hf hP hS (lv_sub hl [2, 3, 0] rfl)
    · have hf := zif_n hf hc
      refine lv_iload hx hb dL_act_377 (lv_at hl 1 rfl) ?_
      refine lv_if_eq (tgt := 415) hx hb dL_act_379 (by decide) (fun hc => ?_) (fun hc => ?_)
      · have hf := zif_p hf hc
        refine lv_aload_n hx hb dL_act_415 rfl (lv_at hl 2 rfl) ?_
        refine lv_iload_n hx hb dL_act_416 rfl (lv_at hl 4 rfl) ?_
        obtain ⟨v137, T138, h139, hf⟩ := zbi_i hf
        obtain ⟨T140, eT140, hf⟩ := zl_i hf
        refine z_ok (z_runV (As := [.int w3]) (rest := []) F k_X3_birthdayOf ml_1035 (((c_X3_birthdayOf w3 T134 T138 (.inl v137) h139).lift (by decide))) hP hS (zV_0 (by decide)) rfl rfl rfl rfl hl.1 (Nat.le_of_ble_eq_true rfl) dL_act_417 (Nat.le_of_ble_eq_true rfl) ⟨(Nat.le_of_ble_eq_true rfl), (Nat.le_of_ble_eq_true rfl)⟩ rfl) hS (fun H locs hP hS => ?_)
        rw [← eT140] at hP
        refine lv_iload hx hb dL_act_420 (lv_at hl 7 rfl) ?_
        refine lv_icmp_ne (tgt := 439) hx hb dL_act_422 (by decide) (fun hc => ?_) (fun hc => ?_)
        · have hf := zif_n hf hc
          refine lv_iconst (v := 0) hx hb dL_act_439 (by decide) ?_
          obtain ⟨q1, q2⟩ := zs_i hf
          subst q1; subst q2
          exact z_zret hx hb hr (Or.inl rfl) rfl hP hS hlocks (Nat.le_of_ble_eq_true rfl) (Nat.le_of_ble_eq_true rfl) dL_act_440
        · have hf := zif_p hf hc
          refine lv_aload_n hx hb dL_act_425 rfl (lv_at hl 2 rfl) ?_
          refine lv_iload_n hx hb dL_act_426 rfl (lv_at hl 4 rfl) ?_
          obtain ⟨v141, T142, h143, hf⟩ := zbi_i hf
          obtain ⟨T144, eT144, hf⟩ := zl_i hf
          refine z_ok (z_runV (As := [.int w3]) (rest := []) F k_X3_daysUntilBirthday ml_1077 (((c_X3_daysUntilBirthday w3 T140 T142 (.inl v141) h143).lift (by decide))) hP hS (zV_0 (by decide)) rfl rfl rfl rfl hl.1 (Nat.le_of_ble_eq_true rfl) dL_act_427 (Nat.le_of_ble_eq_true rfl) ⟨(Nat.le_of_ble_eq_true rfl), (Nat.le_of_ble_eq_true rfl)⟩ rfl) hS (fun H locs hP hS => ?_)
          rw [← eT144] at hP
          refine lv_iload hx hb dL_act_430 (lv_at hl 0 rfl) ?_
          refine lv_icmp_ne (tgt := 439) hx hb dL_act_432 (by decide) (fun hc => ?_) (fun hc => ?_)
          · have hf := zif_n hf hc
            refine lv_iconst (v := 0) hx hb dL_act_439 (by decide) ?_
            obtain ⟨q1, q2⟩ := zs_i hf
            subst q1; subst q2
            exact z_zret hx hb hr (Or.inl rfl) rfl hP hS hlocks (Nat.le_of_ble_eq_true rfl) (Nat.le_of_ble_eq_true rfl) dL_act_440
          · have hf := zif_p hf hc
            refine lv_iconst (v := 1) hx hb dL_act_435 (by decide) ?_
            refine lv_goto (tgt := 440) hx hb dL_act_436 (by decide) ?_
            obtain ⟨q1, q2⟩ := zs_i hf
            subst q1; subst q2
            exact z_zret hx hb hr (Or.inr rfl) rfl hP hS hlocks (Nat.le_of_ble_eq_true rfl) (Nat.le_of_ble_eq_true rfl) dL_act_440
      · have hf := zif_n hf hc
        refine W.widen (k := 8) (n := 48) (Nat.le_of_ble_eq_true rfl) (Nat.le_of_ble_eq_true rfl) ?_
        exact J136 T134 _ _ _ hf hP hS (lv_sub hl [2, 3, 0] rfl)
  refine lv_if_ne (tgt := 346) hx hb dL_act_339 (by decide) (fun hc => ?_) (fun hc => ?_)
  · have hf := zif_n hf hc
    refine lv_aload_n hx hb dL_act_346 rfl (lv_at hl 0 rfl) ?_
    refine lv_iload_n hx hb dL_act_347 rfl (lv_at hl 2 rfl) ?_
    refine lv_aload_n hx hb dL_act_348 rfl (lv_at hl 0 rfl) ?_
    refine lv_iload_n hx hb dL_act_349 rfl (lv_at hl 2 rfl) ?_
    obtain ⟨v121, T122, h123, hf⟩ := zbi_i hf
    obtain ⟨T124, eT124, hf⟩ := zl_i hf
    refine z_ok (z_runV (As := [.int w3]) (rest := [.int w3, .ref (G 0 0)]) F k_X3_gardenOf ml_1031 (((c_X3_gardenOf w3 T T122 (.inl v121) h123).lift (by decide))) hP hS (zV_0 (by decide)) rfl rfl rfl rfl hl.1 (Nat.le_of_ble_eq_true rfl) dL_act_350 (Nat.le_of_ble_eq_true rfl) ⟨(Nat.le_of_ble_eq_true rfl), (Nat.le_of_ble_eq_true rfl)⟩ rfl) hS (fun H locs hP hS => ?_)
    rw [← eT124] at hP
    refine lv_iload hx hb dL_act_353 (lv_at hl 3 rfl) ?_
    refine lv_iload hx hb dL_act_355 (lv_at hl 4 rfl) ?_
    obtain ⟨v125, T126, h127, hf⟩ := zbi_i hf
    obtain ⟨T128, eT128, hf⟩ := zl_i hf
    refine z_ok (z_runV (As := [.int w3, .int v121, .int w5, .int w6]) (rest := []) F k_X3_obstacle ml_1179 (((c_X3_obstacle w3 v121 w5 w6 T124 T126 (.inl v125) h127).lift (by decide))) hP hS (zV_0 (by decide)) rfl rfl rfl rfl hl.1 (Nat.le_of_ble_eq_true rfl) dL_act_357 (Nat.le_of_ble_eq_true rfl) ⟨(Nat.le_of_ble_eq_true rfl), (Nat.le_of_ble_eq_true rfl)⟩ rfl) hS (fun H locs hP hS => ?_)
    rw [← eT128] at hP
    refine W.widen (k := 5) (n := 30) (Nat.le_of_ble_eq_true rfl) (Nat.le_of_ble_eq_true rfl) ?_
    exact J120 v125 T128 _ _ _ hf hP hS (lv_sub hl [0, 1, 2, 3, 4, 5] rfl)
  · have hf := zif_p hf hc
    refine lv_iconst (v := 0) hx hb dL_act_342 (by decide) ?_
    refine lv_goto (tgt := 360) hx hb dL_act_343 (by decide) ?_
    refine W.widen (k := 5) (n := 30) (Nat.le_of_ble_eq_true rfl) (Nat.le_of_ble_eq_true rfl) ?_
    exact J120 0 T _ _ _ hf hP hS (lv_sub hl [0, 1, 2, 3, 4, 5] rfl)
set_option maxHeartbeats 8000000 in
set_option maxRecDepth 100000 in
theorem s_L_act_441 {p : Program} {l : Launch} {e : Env} {s : State} {m : MethodId} {args : Array Value} {below : List Frame} {meth : Method} {c : Code} {D : va_G} {Y : Nat → ClassId} {S V : Nat → Nat} {G : Nat → Nat → Nat} {A : Nat → Prop} {c0 : Cond} (F : zF 1 9 10 60 p l s m args c cL_act 27 RL c0 D Y S V G A) (hr : meth.sig.returnType = (some .boolean)) (hlocks : meth.locks = false) (hex : ∀ x ∈ c.exceptionTable.toList, False) (w2 : Int32) (w3 : Int32) (w8 : Int32) (T : zT) {T' : zT} {v : Int32} {H : Heap} {locs : List Loc} {ls : Array Slot} (hf : sp_L_act_441 w2 w3 w8 T = some (v, T')) (hP : zP 1 D Y G T H) (hS : va_S A s.heap H locs) (hl : lv_has ls 27 [(0, .ref (G 0 0)), (2, .int w2), (3, .int w3), (8, .int w8)]) :
    W p l e (zR 9 10 60) s m args below meth c H locs 1 6 (vx_MQ below (zQ 1 D Y G A (.inl (some (.int v))) T') (zX 1 D Y G A (.inl (some (.int v))) T') args s 10 60 A) (F0 m 441 ls []) := by
  obtain ⟨hx, hb, hml, hown, hts, hl9, hG, hK, hA⟩ := id F
  unfold sp_L_act_441 at hf
  refine lv_aload_n hx hb dL_act_441 rfl (lv_at hl 0 rfl) ?_
  refine lv_iload_n hx hb dL_act_442 rfl (lv_at hl 2 rfl) ?_
  obtain ⟨v155, T156, h157, hf⟩ := zb_i hf
  obtain ⟨T158, eT158, hf⟩ := zl_i hf
  refine z_ok (z_runSW (As := [.ref (G 0 0), .int w3]) (rest := []) F kl_forgotten ml_700 ((c_L_forgotten w3 T T156 v155 h157).lift (by decide)) hP hS rfl rfl hl.1 (Nat.le_of_ble_eq_true rfl) dL_act_443 (Nat.le_of_ble_eq_true rfl) ⟨(Nat.le_of_ble_eq_true rfl), (Nat.le_of_ble_eq_true rfl)⟩ rfl) hS (fun H locs hP hS => ?_)
  rw [← eT158] at hP
  refine lv_iload_n hx hb dL_act_446 rfl (lv_at hl 1 rfl) ?_
  obtain ⟨K159, eK159, hf⟩ := zl_i hf
  have J160 : ∀ (z162 : Int32) (z163 : Int32) (T161 : zT) (H : Heap) (locs : List Loc) (ls : Array Slot), K159 z162 z163 T161 = some (v, T') → zP 1 D Y G T161 H → va_S A s.heap H locs → lv_has ls 27 [(0, .ref (G 0 0)), (2, .int w2), (3, .int w3)] → W p l e (zR 9 10 60) s m args below meth c H locs (2) (12) (vx_MQ below (zQ 1 D Y G A (.inl (some (.int v))) T') (zX 1 D Y G A (.inl (some (.int v))) T') args s 10 60 A) (F0 m 457 ls [.int z163, .int z162]) := by
    intro z162 z163 T161 H locs ls hf hP hS hl
    rw [eK159] at hf
    dsimp only at hf
    refine lv_icmp_ne (tgt := 489) hx hb dL_act_457 (by decide) (fun hc => ?_) (fun hc => ?_)
    · have hf := zif_n hf hc
      refine lv_iconst (v := 0) hx hb dL_act_489 (by decide) ?_
      obtain ⟨q1, q2⟩ := zs_i hf
      subst q1; subst q2
      exact z_zret hx hb hr (Or.inl rfl) rfl hP hS hlocks (Nat.le_of_ble_eq_true rfl) (Nat.le_of_ble_eq_true rfl) dL_act_490
    · have hf := zif_p hf hc
      refine lv_iload_n hx hb dL_act_460 rfl (lv_at hl 1 rfl) ?_
      refine lv_if_ne (tgt := 476) hx hb dL_act_461 (by decide) (fun hc => ?_) (fun hc => ?_)
      · have hf := zif_n hf hc
        refine lv_aload_n hx hb dL_act_476 rfl (lv_at hl 0 rfl) ?_
        refine lv_iload_n hx hb dL_act_477 rfl (lv_at hl 2 rfl) ?_
        obtain ⟨v164, T165, h166, hf⟩ := zbi_i hf
        obtain ⟨T167, eT167, hf⟩ := zl_i hf
        refine z_ok (z_runV (As := [.int w3]) (rest := []) F k_X3_birthdayOf ml_1035 (((c_X3_birthdayOf w3 T161 T165 (.inl v164) h166).lift (by decide))) hP hS (zV_0 (by decide)) rfl rfl rfl rfl hl.1 (Nat.le_of_ble_eq_true rfl) dL_act_478 (Nat.le_of_ble_eq_true rfl) ⟨(Nat.le_of_ble_eq_true rfl), (Nat.le_of_ble_eq_true rfl)⟩ rfl) hS (fun H locs hP hS => ?_)
        rw [← eT167] at hP
        refine lv_iconst (v := (-1)) hx hb dL_act_481 (by decide) ?_
        refine lv_icmp_ne (tgt := 489) hx hb dL_act_482 (by decide) (fun hc => ?_) (fun hc => ?_)
        · have hf := zif_n hf hc
          refine lv_iconst (v := 0) hx hb dL_act_489 (by decide) ?_
          obtain ⟨q1, q2⟩ := zs_i hf
          subst q1; subst q2
          exact z_zret hx hb hr (Or.inl rfl) rfl hP hS hlocks (Nat.le_of_ble_eq_true rfl) (Nat.le_of_ble_eq_true rfl) dL_act_490
        · have hf := zif_p hf hc
          refine lv_iconst (v := 1) hx hb dL_act_485 (by decide) ?_
          refine lv_goto (tgt := 490) hx hb dL_act_486 (by decide) ?_
          obtain ⟨q1, q2⟩ := zs_i hf
          subst q1; subst q2
          exact z_zret hx hb hr (Or.inr rfl) rfl hP hS hlocks (Nat.le_of_ble_eq_true rfl) (Nat.le_of_ble_eq_true rfl) dL_act_490
      · have hf := zif_p hf hc
        refine lv_aload_n hx hb dL_act_464 rfl (lv_at hl 0 rfl) ?_
        refine lv_iconst (v := 2) hx hb dL_act_465 (by decide) ?_
        refine lv_iconst (v := 1) hx hb dL_act_466 (by decide) ?_
        obtain ⟨v168, T169, h170, hf⟩ := zb_i hf
        obtain ⟨T171, eT171, hf⟩ := zl_i hf
        refine z_ok (z_runSW (As := [.ref (G 0 0), .int 2, .int 1]) (rest := []) F kl_baked ml_729 ((c_L_baked 2 1 T161 T169 v168 h170).lift (by decide)) hP hS rfl rfl hl.1 (Nat.le_of_ble_eq_true rfl) dL_act_467 (Nat.le_of_ble_eq_true rfl) ⟨(Nat.le_of_ble_eq_true rfl), (Nat.le_of_ble_eq_true rfl)⟩ rfl) hS (fun H locs hP hS => ?_)
        rw [← eT171] at hP
        refine lv_if_eq (tgt := 489) hx hb dL_act_470 (by decide) (fun hc => ?_) (fun hc => ?_)
        · have hf := zif_p hf hc
          refine lv_iconst (v := 0) hx hb dL_act_489 (by decide) ?_
          obtain ⟨q1, q2⟩ := zs_i hf
          subst q1; subst q2
          exact z_zret hx hb hr (Or.inl rfl) rfl hP hS hlocks (Nat.le_of_ble_eq_true rfl) (Nat.le_of_ble_eq_true rfl) dL_act_490
        · have hf := zif_n hf hc
          refine lv_goto (tgt := 485) hx hb dL_act_473 (by decide) ?_
          refine lv_iconst (v := 1) hx hb dL_act_485 (by decide) ?_
          refine lv_goto (tgt := 490) hx hb dL_act_486 (by decide) ?_
          obtain ⟨q1, q2⟩ := zs_i hf
          subst q1; subst q2
          exact z_zret hx hb hr (Or.inr rfl) rfl hP hS hlocks (Nat.le_of_ble_eq_true rfl) (Nat.le_of_ble_eq_true rfl) dL_act_490
  refine lv_if_ne (tgt := 455) hx hb dL_act_447 (by decide) (fun hc => ?_) (fun hc => ?_)
  · have hf := zif_n hf hc
    refine lv_iload hx hb dL_act_455 (lv_at hl 3 rfl) ?_
    refine W.widen (k := 2) (n := 12) (Nat.le_of_ble_eq_true rfl) (Nat.le_of_ble_eq_true rfl) ?_
    exact J160 v155 w8 T158 _ _ _ hf hP hS (lv_sub hl [0, 1, 2] rfl)
  · have hf := zif_p hf hc
    refine lv_bipush (v := (-5)) hx hb dL_act_450 (by decide) ?_
    refine lv_goto (tgt := 457) hx hb dL_act_452 (by decide) ?_
    refine W.widen (k := 2) (n := 12) (Nat.le_of_ble_eq_true rfl) (Nat.le_of_ble_eq_true rfl) ?_
    exact J160 v155 (-5) T158 _ _ _ hf hP hS (lv_sub hl [0, 1, 2] rfl)
set_option maxHeartbeats 8000000 in
set_option maxRecDepth 100000 in
theorem s_L_act_491 {p : Program} {l : Launch} {e : Env} {s : State} {m : MethodId} {args : Array Value} {below : List Frame} {meth : Method} {c : Code} {D : va_G} {Y : Nat → ClassId} {S V : Nat → Nat} {G : Nat → Nat → Nat} {A : Nat → Prop} {c0 : Cond} (F : zF 1 9 10 60 p l s m args c cL_act 27 RL c0 D Y S V G A) (hr : meth.sig.returnType = (some .boolean)) (hlocks : meth.locks = false) (hex : ∀ x ∈ c.exceptionTable.toList, False) (w2 : Int32) (w3 : Int32) (w4 : Int32) (w8 : Int32) (T : zT) {T' : zT} {v : Int32} {H : Heap} {locs : List Loc} {ls : Array Slot} (hf : sp_L_act_491 w2 w3 w4 w8 T = some (v, T')) (hP : zP 1 D Y G T H) (hS : va_S A s.heap H locs) (hl : lv_has ls 27 [(0, .ref (G 0 0)), (2, .int w2), (3, .int w3), (4, .int w4), (8, .int w8)]) :
    W p l e (zR 9 10 60) s m args below meth c H locs 1 6 (vx_MQ below (zQ 1 D Y G A (.inl (some (.int v))) T') (zX 1 D Y G A (.inl (some (.int v))) T') args s 10 60 A) (F0 m 491 ls []) := by
  obtain ⟨hx, hb, hml, hown, hts, hl9, hG, hK, hA⟩ := id F
  unfold sp_L_act_491 at hf
  refine lv_iload_n hx hb dL_act_491 rfl (lv_at hl 1 rfl) ?_
  obtain ⟨K172, eK172, hf⟩ := zl_i hf
  have J173 : ∀ (z179 : Int32) (T178 : zT) (H : Heap) (locs : List Loc) (ls : Array Slot), K172 z179 T178 = some (v, T') → zP 1 D Y G T178 H → va_S A s.heap H locs → lv_has ls 27 [(0, .ref (G 0 0)), (2, .int w2), (3, .int w3), (4, .int w4), (8, .int w8)] → W p l e (zR 9 10 60) s m args below meth c H locs (2) (12) (vx_MQ below (zQ 1 D Y G A (.inl (some (.int v))) T') (zX 1 D Y G A (.inl (some (.int v))) T') args s 10 60 A) (F0 m 505 ls [.int z179]) := by
    intro z179 T178 H locs ls hf hP hS hl
    rw [eK172] at hf
    dsimp only at hf
    refine lv_istore (lv' := [(18, .int z179), (0, .ref (G 0 0)), (2, .int w2), (3, .int w3), (4, .int w4), (8, .int w8)]) hx hb dL_act_505 hl (by decide) rfl (fun ls hl => ?_)
    refine lv_iload_n hx hb dL_act_507 rfl (lv_at hl 2 rfl) ?_
    obtain ⟨K182, eK182, hf⟩ := zl_i hf
    have J183 : ∀ (z190 : Int32) (T189 : zT) (H : Heap) (locs : List Loc) (ls : Array Slot), K182 z190 T189 = some (v, T') → zP 1 D Y G T189 H → va_S A s.heap H locs → lv_has ls 27 [(0, .ref (G 0 0)), (2, .int w2), (3, .int w3), (4, .int w4), (18, .int z179)] → W p l e (zR 9 10 60) s m args below meth c H locs (5) (30) (vx_MQ below (zQ 1 D Y G A (.inl (some (.int v))) T') (zX 1 D Y G A (.inl (some (.int v))) T') args s 10 60 A) (F0 m 545 ls [.int z190]) := by
      intro z190 T189 H locs ls hf hP hS hl
      rw [eK182] at hf
      dsimp only at hf
      refine lv_istore (lv' := [(19, .int z190), (0, .ref (G 0 0)), (2, .int w2), (3, .int w3), (4, .int w4), (18, .int z179)]) hx hb dL_act_545 hl (by decide) rfl (fun ls hl => ?_)
      refine lv_aload_n hx hb dL_act_547 rfl (lv_at hl 1 rfl) ?_
      refine lv_iload_n hx hb dL_act_548 rfl (lv_at hl 3 rfl) ?_
      refine lv_iload hx hb dL_act_549 (lv_at hl 4 rfl) ?_
      obtain ⟨v191, T192, h193, hf⟩ := zb_i hf
      obtain ⟨T194, eT194, hf⟩ := zl_i hf
      refine z_ok (z_runSW (As := [.ref (G 0 0), .int w3, .int w4]) (rest := []) F kl_moved ml_707 ((c_L_moved w3 w4 T189 T192 v191 h193).lift (by decide)) hP hS rfl rfl hl.1 (Nat.le_of_ble_eq_true rfl) dL_act_551 (Nat.le_of_ble_eq_true rfl) ⟨(Nat.le_of_ble_eq_true rfl), (Nat.le_of_ble_eq_true rfl)⟩ rfl) hS (fun H locs hP hS => ?_)
      rw [← eT194] at hP
      refine lv_istore (lv' := [(20, .int v191), (19, .int z190), (0, .ref (G 0 0)), (2, .int w2), (3, .int w3), (4, .int w4), (18, .int z179)]) hx hb dL_act_554 hl (by decide) rfl (fun ls hl => ?_)
      refine lv_iload hx hb dL_act_556 (lv_at hl 1 rfl) ?_
      obtain ⟨K195, eK195, hf⟩ := zl_i hf
      have J196 : ∀ (T201 : zT) (H : Heap) (locs : List Loc) (ls : Array Slot), K195 T201 = some (v, T') → zP 1 D Y G T201 H → va_S A s.heap H locs → lv_has ls 27 [(0, .ref (G 0 0)), (19, .int z190), (20, .int v191)] → W p l e (zR 9 10 60) s m args below meth c H locs (8) (48) (vx_MQ below (zQ 1 D Y G A (.inl (some (.int v))) T') (zX 1 D Y G A (.inl (some (.int v))) T') args s 10 60 A) (F0 m 565 ls []) := by
        intro T201 H locs ls hf hP hS hl
        rw [eK195] at hf
        dsimp only at hf
        refine lv_iload hx hb dL_act_565 (lv_at hl 2 rfl) ?_
        refine lv_iload hx hb dL_act_567 (lv_at hl 1 rfl) ?_
        obtain ⟨K202, eK202, hf⟩ := zl_i hf
        have J203 : ∀ (z205 : Int32) (z206 : Int32) (T204 : zT) (H : Heap) (locs : List Loc) (ls : Array Slot), K202 z205 z206 T204 = some (v, T') → zP 1 D Y G T204 H → va_S A s.heap H locs → lv_has ls 27 [(0, .ref (G 0 0))] → W p l e (zR 9 10 60) s m args below meth c H locs (8) (48) (vx_MQ below (zQ 1 D Y G A (.inl (some (.int v))) T') (zX 1 D Y G A (.inl (some (.int v))) T') args s 10 60 A) (F0 m 579 ls [.int z206, .int z205]) := by
          intro z205 z206 T204 H locs ls hf hP hS hl
          rw [eK202] at hf
          dsimp only at hf
          refine lv_icmp_ne (tgt := 595) hx hb dL_act_579 (by decide) (fun hc => ?_) (fun hc => ?_)
          · have hf := zif_n hf hc
            refine lv_iconst (v := 0) hx hb dL_act_595 (by decide) ?_
            refine lv_goto (tgt := 621) hx hb dL_act_596 (by decide) ?_
            obtain ⟨q1, q2⟩ := zs_i hf
            subst q1; subst q2
            exact z_zret hx hb hr (Or.inl rfl) rfl hP hS hlocks (Nat.le_of_ble_eq_true rfl) (Nat.le_of_ble_eq_true rfl) dL_act_621
          · have hf := zif_p hf hc
            refine lv_aload_n hx hb dL_act_582 rfl (lv_at hl 0 rfl) ?_
            refine lv_iconst (v := 3) hx hb dL_act_583 (by decide) ?_
            refine lv_iconst (v := 1) hx hb dL_act_584 (by decide) ?_
            obtain ⟨v207, T208, h209, hf⟩ := zb_i hf
            obtain ⟨T210, eT210, hf⟩ := zl_i hf
            refine z_ok (z_runSW (As := [.ref (G 0 0), .int 3, .int 1]) (rest := []) F kl_baked ml_729 ((c_L_baked 3 1 T204 T208 v207 h209).lift (by decide)) hP hS rfl rfl hl.1 (Nat.le_of_ble_eq_true rfl) dL_act_585 (Nat.le_of_ble_eq_true rfl) ⟨(Nat.le_of_ble_eq_true rfl), (Nat.le_of_ble_eq_true rfl)⟩ rfl) hS (fun H locs hP hS => ?_)
            rw [← eT210] at hP
            refine lv_if_eq (tgt := 595) hx hb dL_act_588 (by decide) (fun hc => ?_) (fun hc => ?_)
            · have hf := zif_p hf hc
              refine lv_iconst (v := 0) hx hb dL_act_595 (by decide) ?_
              refine lv_goto (tgt := 621) hx hb dL_act_596 (by decide) ?_
              obtain ⟨q1, q2⟩ := zs_i hf
              subst q1; subst q2
              exact z_zret hx hb hr (Or.inl rfl) rfl hP hS hlocks (Nat.le_of_ble_eq_true rfl) (Nat.le_of_ble_eq_true rfl) dL_act_621
            · have hf := zif_n hf hc
              refine lv_iconst (v := 1) hx hb dL_act_591 (by decide) ?_
              refine lv_goto (tgt := 621) hx hb dL_act_592 (by decide) ?_
              obtain ⟨q1, q2⟩ := zs_i hf
              subst q1; subst q2
              exact z_zret hx hb hr (Or.inr rfl) rfl hP hS hlocks (Nat.le_of_ble_eq_true rfl) (Nat.le_of_ble_eq_true rfl) dL_act_621
        refine lv_if_eq (tgt := 577) hx hb dL_act_569 (by decide) (fun hc => ?_) (fun hc => ?_)
        · have hf := zif_p hf hc
          refine lv_bipush (v := (-5)) hx hb dL_act_577 (by decide) ?_
          refine W.widen (k := 8) (n := 48) (Nat.le_of_ble_eq_true rfl) (Nat.le_of_ble_eq_true rfl) ?_
          exact J203 v191 (-5) T201 _ _ _ hf hP hS (lv_sub hl [0] rfl)
        · have hf := zif_n hf hc
          refine lv_bipush (v := (-3)) hx hb dL_act_572 (by decide) ?_
          refine lv_goto (tgt := 579) hx hb dL_act_574 (by decide) ?_
          refine W.widen (k := 8) (n := 48) (Nat.le_of_ble_eq_true rfl) (Nat.le_of_ble_eq_true rfl) ?_
          exact J203 v191 (-3) T201 _ _ _ hf hP hS (lv_sub hl [0] rfl)
      refine lv_if_ne (tgt := 565) hx hb dL_act_558 (by decide) (fun hc => ?_) (fun hc => ?_)
      · have hf := zif_n hf hc
        refine W.widen (k := 8) (n := 48) (Nat.le_of_ble_eq_true rfl) (Nat.le_of_ble_eq_true rfl) ?_
        exact J196 T194 _ _ _ hf hP hS (lv_sub hl [2, 1, 0] rfl)
      · have hf := zif_p hf hc
        refine lv_iload_n hx hb dL_act_561 rfl (lv_at hl 3 rfl) ?_
        refine lv_if_ne (tgt := 599) hx hb dL_act_562 (by decide) (fun hc => ?_) (fun hc => ?_)
        · have hf := zif_n hf hc
          refine lv_iload hx hb dL_act_599 (lv_at hl 0 rfl) ?_
          refine lv_iload hx hb dL_act_601 (lv_at hl 6 rfl) ?_
          refine lv_icmp_ne (tgt := 620) hx hb dL_act_603 (by decide) (fun hc => ?_) (fun hc => ?_)
          · have hf := zif_n hf hc
            refine lv_iconst (v := 0) hx hb dL_act_620 (by decide) ?_
            obtain ⟨q1, q2⟩ := zs_i hf
            subst q1; subst q2
            exact z_zret hx hb hr (Or.inl rfl) rfl hP hS hlocks (Nat.le_of_ble_eq_true rfl) (Nat.le_of_ble_eq_true rfl) dL_act_621
          · have hf := zif_p hf hc
            refine lv_aload_n hx hb dL_act_606 rfl (lv_at hl 2 rfl) ?_
            refine lv_iload_n hx hb dL_act_607 rfl (lv_at hl 4 rfl) ?_
            obtain ⟨v197, T198, h199, hf⟩ := zbi_i hf
            obtain ⟨T200, eT200, hf⟩ := zl_i hf
            refine z_ok (z_runV (As := [.int w3]) (rest := []) F k_X3_gardenOf ml_1031 (((c_X3_gardenOf w3 T194 T198 (.inl v197) h199).lift (by decide))) hP hS (zV_0 (by decide)) rfl rfl rfl rfl hl.1 (Nat.le_of_ble_eq_true rfl) dL_act_608 (Nat.le_of_ble_eq_true rfl) ⟨(Nat.le_of_ble_eq_true rfl), (Nat.le_of_ble_eq_true rfl)⟩ rfl) hS (fun H locs hP hS => ?_)
            rw [← eT200] at hP
            refine lv_iload hx hb dL_act_611 (lv_at hl 5 rfl) ?_
            refine lv_icmp_ne (tgt := 620) hx hb dL_act_613 (by decide) (fun hc => ?_) (fun hc => ?_)
            · have hf := zif_n hf hc
              refine lv_iconst (v := 0) hx hb dL_act_620 (by decide) ?_
              obtain ⟨q1, q2⟩ := zs_i hf
              subst q1; subst q2
              exact z_zret hx hb hr (Or.inl rfl) rfl hP hS hlocks (Nat.le_of_ble_eq_true rfl) (Nat.le_of_ble_eq_true rfl) dL_act_621
            · have hf := zif_p hf hc
              refine lv_iconst (v := 1) hx hb dL_act_616 (by decide) ?_
              refine lv_goto (tgt := 621) hx hb dL_act_617 (by decide) ?_
              obtain ⟨q1, q2⟩ := zs_i hf
              subst q1; subst q2
              exact z_zret hx hb hr (Or.inr rfl) rfl hP hS hlocks (Nat.le_of_ble_eq_true rfl) (Nat.le_of_ble_eq_true rfl) dL_act_621
        · have hf := zif_p hf hc
          refine W.widen (k := 8) (n := 48) (Nat.le_of_ble_eq_true rfl) (Nat.le_of_ble_eq_true rfl) ?_
          exact J196 T194 _ _ _ hf hP hS (lv_sub hl [2, 1, 0] rfl)
    obtain ⟨K180, eK180, hf⟩ := zl_i hf
    have J181 : ∀ (T188 : zT) (H : Heap) (locs : List Loc) (ls : Array Slot), K180 T188 = some (v, T') → zP 1 D Y G T188 H → va_S A s.heap H locs → lv_has ls 27 [(0, .ref (G 0 0)), (2, .int w2), (3, .int w3), (4, .int w4), (18, .int z179)] → W p l e (zR 9 10 60) s m args below meth c H locs (5) (30) (vx_MQ below (zQ 1 D Y G A (.inl (some (.int v))) T') (zX 1 D Y G A (.inl (some (.int v))) T') args s 10 60 A) (F0 m 544 ls []) := by
      intro T188 H locs ls hf hP hS hl
      rw [eK180] at hf
      dsimp only at hf
      refine lv_iconst (v := 0) hx hb dL_act_544 (by decide) ?_
      refine W.widen (k := 5) (n := 30) (Nat.le_of_ble_eq_true rfl) (Nat.le_of_ble_eq_true rfl) ?_
      exact J183 0 T188 _ _ _ hf hP hS (lv_sub hl [0, 1, 2, 3, 4] rfl)
    refine lv_if_le (tgt := 544) hx hb dL_act_508 (by decide) (fun hc => ?_) (fun hc => ?_)
    · have hf := zif_p hf hc
      refine W.widen (k := 5) (n := 30) (Nat.le_of_ble_eq_true rfl) (Nat.le_of_ble_eq_true rfl) ?_
      exact J181 T178 _ _ _ hf hP hS (lv_sub hl [1, 2, 3, 4, 0] rfl)
    · have hf := zif_n hf hc
      refine lv_iload hx hb dL_act_511 (lv_at hl 5 rfl) ?_
      refine lv_if_lt (tgt := 544) hx hb dL_act_513 (by decide) (fun hc => ?_) (fun hc => ?_)
      · have hf := zif_p hf hc
        refine W.widen (k := 5) (n := 30) (Nat.le_of_ble_eq_true rfl) (Nat.le_of_ble_eq_true rfl) ?_
        exact J181 T178 _ _ _ hf hP hS (lv_sub hl [1, 2, 3, 4, 0] rfl)
      · have hf := zif_n hf hc
        refine lv_aload_n hx hb dL_act_516 rfl (lv_at hl 1 rfl) ?_
        refine lv_iload_n hx hb dL_act_517 rfl (lv_at hl 3 rfl) ?_
        refine lv_iload hx hb dL_act_518 (lv_at hl 4 rfl) ?_
        refine lv_iload hx hb dL_act_520 (lv_at hl 5 rfl) ?_
        refine lv_bipush (v := 30) hx hb dL_act_522 (by decide) ?_
        refine lv_idiv hx hb dL_act_524 (by decide) ?_
        refine lv_iconst (v := 1) hx hb dL_act_525 (by decide) ?_
        refine lv_iadd hx hb dL_act_526 ?_
        refine lv_iload hx hb dL_act_527 (lv_at hl 5 rfl) ?_
        refine lv_bipush (v := 30) hx hb dL_act_529 (by decide) ?_
        refine lv_irem hx hb dL_act_531 (by decide) ?_
        refine lv_iconst (v := 1) hx hb dL_act_532 (by decide) ?_
        refine lv_iadd hx hb dL_act_533 ?_
        obtain ⟨v184, T185, h186, hf⟩ := zbi_i hf
        obtain ⟨T187, eT187, hf⟩ := zl_i hf
        refine z_ok (z_runV (As := [.int w3, .int w4, .int ((w8 / 30) + 1), .int ((w8 - w8 / 30 * 30) + 1)]) (rest := []) F k_X3_obstacle ml_1179 (((c_X3_obstacle w3 w4 ((w8 / 30) + 1) ((w8 - w8 / 30 * 30) + 1) T178 T185 (.inl v184) h186).lift (by decide))) hP hS (zV_0 (by decide)) rfl rfl rfl rfl hl.1 (Nat.le_of_ble_eq_true rfl) dL_act_534 (Nat.le_of_ble_eq_true rfl) ⟨(Nat.le_of_ble_eq_true rfl), (Nat.le_of_ble_eq_true rfl)⟩ rfl) hS (fun H locs hP hS => ?_)
        rw [← eT187] at hP
        refine lv_if_eq (tgt := 544) hx hb dL_act_537 (by decide) (fun hc => ?_) (fun hc => ?_)
        · have hf := zif_p hf hc
          refine W.widen (k := 5) (n := 30) (Nat.le_of_ble_eq_true rfl) (Nat.le_of_ble_eq_true rfl) ?_
          exact J181 T187 _ _ _ hf hP hS (lv_sub hl [1, 2, 3, 4, 0] rfl)
        · have hf := zif_n hf hc
          refine lv_iconst (v := 1) hx hb dL_act_540 (by decide) ?_
          refine lv_goto (tgt := 545) hx hb dL_act_541 (by decide) ?_
          refine W.widen (k := 5) (n := 30) (Nat.le_of_ble_eq_true rfl) (Nat.le_of_ble_eq_true rfl) ?_
          exact J183 1 T187 _ _ _ hf hP hS (lv_sub hl [1, 2, 3, 4, 0] rfl)
  refine lv_if_ne (tgt := 500) hx hb dL_act_492 (by decide) (fun hc => ?_) (fun hc => ?_)
  · have hf := zif_n hf hc
    refine lv_aload_n hx hb dL_act_500 rfl (lv_at hl 0 rfl) ?_
    refine lv_iload_n hx hb dL_act_501 rfl (lv_at hl 2 rfl) ?_
    obtain ⟨v174, T175, h176, hf⟩ := zbi_i hf
    obtain ⟨T177, eT177, hf⟩ := zl_i hf
    refine z_ok (z_runV (As := [.int w3]) (rest := []) F k_X3_gardenOf ml_1031 (((c_X3_gardenOf w3 T T175 (.inl v174) h176).lift (by decide))) hP hS (zV_0 (by decide)) rfl rfl rfl rfl hl.1 (Nat.le_of_ble_eq_true rfl) dL_act_502 (Nat.le_of_ble_eq_true rfl) ⟨(Nat.le_of_ble_eq_true rfl), (Nat.le_of_ble_eq_true rfl)⟩ rfl) hS (fun H locs hP hS => ?_)
    rw [← eT177] at hP
    refine W.widen (k := 2) (n := 12) (Nat.le_of_ble_eq_true rfl) (Nat.le_of_ble_eq_true rfl) ?_
    exact J173 v174 T177 _ _ _ hf hP hS (lv_sub hl [0, 1, 2, 3, 4] rfl)
  · have hf := zif_p hf hc
    refine lv_bipush (v := (-5)) hx hb dL_act_495 (by decide) ?_
    refine lv_goto (tgt := 505) hx hb dL_act_497 (by decide) ?_
    refine W.widen (k := 2) (n := 12) (Nat.le_of_ble_eq_true rfl) (Nat.le_of_ble_eq_true rfl) ?_
    exact J173 (-5) T _ _ _ hf hP hS (lv_sub hl [0, 1, 2, 3, 4] rfl)
set_option maxHeartbeats 8000000 in
set_option maxRecDepth 100000 in
theorem s_L_act_622 {p : Program} {l : Launch} {e : Env} {s : State} {m : MethodId} {args : Array Value} {below : List Frame} {meth : Method} {c : Code} {D : va_G} {Y : Nat → ClassId} {S V : Nat → Nat} {G : Nat → Nat → Nat} {A : Nat → Prop} {c0 : Cond} (F : zF 1 9 10 60 p l s m args c cL_act 27 RL c0 D Y S V G A) (hr : meth.sig.returnType = (some .boolean)) (hlocks : meth.locks = false) (hex : ∀ x ∈ c.exceptionTable.toList, False) (T : zT) {T' : zT} {v : Int32} {H : Heap} {locs : List Loc} {ls : Array Slot} (hf : sp_L_act_622 T = some (v, T')) (hP : zP 1 D Y G T H) (hS : va_S A s.heap H locs) (hl : lv_has ls 27 [(0, .ref (G 0 0)), (1, .ref (G 0 8))]) :
    W p l e (zR 9 10 60) s m args below meth c H locs 1 6 (vx_MQ below (zQ 1 D Y G A (.inl (some (.int v))) T') (zX 1 D Y G A (.inl (some (.int v))) T') args s 10 60 A) (F0 m 622 ls []) := by
  obtain ⟨hx, hb, hml, hown, hts, hl9, hG, hK, hA⟩ := id F
  unfold sp_L_act_622 at hf
  refine lv_aload_n hx hb dL_act_622 rfl (lv_at hl 0 rfl) ?_
  obtain ⟨v211, T212, h213, hf⟩ := zb_i hf
  obtain ⟨T214, eT214, hf⟩ := zl_i hf
  refine z_ok (z_runV (As := []) (rest := []) F k_X3_candles ml_1015 (((c_X3_candles T T212 v211 h213).lift (by decide))) hP hS (zV_0 (by decide)) rfl rfl rfl rfl hl.1 (Nat.le_of_ble_eq_true rfl) dL_act_623 (Nat.le_of_ble_eq_true rfl) ⟨(Nat.le_of_ble_eq_true rfl), (Nat.le_of_ble_eq_true rfl)⟩ rfl) hS (fun H locs hP hS => ?_)
  rw [← eT214] at hP
  refine lv_istore (lv' := [(21, .int v211), (0, .ref (G 0 0)), (1, .ref (G 0 8))]) hx hb dL_act_626 hl (by decide) rfl (fun ls hl => ?_)
  refine lv_iconst (v := 1) hx hb dL_act_628 (by decide) ?_
  refine lv_aload_n hx hb dL_act_629 rfl (lv_at hl 2 rfl) ?_
  obtain ⟨v215, T216, h217, hf⟩ := zb_i hf
  refine z_ok (z_runS (As := [.ref (G 0 8)]) (rest := [.int 1]) F kl_next ml_590 (c_L_next T214 T216 v215 h217) hP hS rfl rfl hl.1 (Nat.le_of_ble_eq_true rfl) dL_act_630 (Nat.le_of_ble_eq_true rfl) ⟨(Nat.le_of_ble_eq_true rfl), (Nat.le_of_ble_eq_true rfl)⟩ rfl) hS (fun H locs hP hS => ?_)
  refine lv_sipush (v := 300) hx hb dL_act_633 (by decide) ?_
  refine lv_irem hx hb dL_act_636 (by decide) ?_
  refine lv_iadd hx hb dL_act_637 ?_
  obtain ⟨x218, ex218, hf⟩ := zl_i hf
  refine z_topi ex218 ?_
  refine lv_istore (lv' := [(22, .int x218), (21, .int v211), (0, .ref (G 0 0)), (1, .ref (G 0 8))]) hx hb dL_act_638 hl (by decide) rfl (fun ls hl => ?_)
  refine lv_aload_n hx hb dL_act_640 rfl (lv_at hl 2 rfl) ?_
  refine lv_iload hx hb dL_act_641 (lv_at hl 0 rfl) ?_
  obtain ⟨v219, T220, h221, hf⟩ := zb_i hf
  obtain ⟨T222, eT222, hf⟩ := zl_i hf
  refine z_ok (z_runSW (As := [.ref (G 0 0), .int x218]) (rest := []) F kl_bought ml_720 ((c_L_bought x218 T216 T220 v219 h221).lift (by decide)) hP hS rfl rfl hl.1 (Nat.le_of_ble_eq_true rfl) dL_act_643 (Nat.le_of_ble_eq_true rfl) ⟨(Nat.le_of_ble_eq_true rfl), (Nat.le_of_ble_eq_true rfl)⟩ rfl) hS (fun H locs hP hS => ?_)
  rw [← eT222] at hP
  refine lv_iload hx hb dL_act_646 (lv_at hl 1 rfl) ?_
  refine lv_iload hx hb dL_act_648 (lv_at hl 0 rfl) ?_
  refine lv_iadd hx hb dL_act_650 ?_
  refine lv_sipush (v := 9999) hx hb dL_act_651 (by decide) ?_
  obtain ⟨K223, eK223, hf⟩ := zl_i hf
  have J224 : ∀ (z226 : Int32) (z227 : Int32) (T225 : zT) (H : Heap) (locs : List Loc) (ls : Array Slot), K223 z226 z227 T225 = some (v, T') → zP 1 D Y G T225 H → va_S A s.heap H locs → lv_has ls 27 [(0, .ref (G 0 0)), (21, .int v211), (22, .int x218)] → W p l e (zR 9 10 60) s m args below meth c H locs (2) (12) (vx_MQ below (zQ 1 D Y G A (.inl (some (.int v))) T') (zX 1 D Y G A (.inl (some (.int v))) T') args s 10 60 A) (F0 m 667 ls [.int z227, .int z226]) := by
    intro z226 z227 T225 H locs ls hf hP hS hl
    rw [eK223] at hf
    dsimp only at hf
    refine lv_icmp_ne (tgt := 711) hx hb dL_act_667 (by decide) (fun hc => ?_) (fun hc => ?_)
    · have hf := zif_n hf hc
      refine lv_iconst (v := 0) hx hb dL_act_711 (by decide) ?_
      obtain ⟨q1, q2⟩ := zs_i hf
      subst q1; subst q2
      exact z_zret hx hb hr (Or.inl rfl) rfl hP hS hlocks (Nat.le_of_ble_eq_true rfl) (Nat.le_of_ble_eq_true rfl) dL_act_712
    · have hf := zif_p hf hc
      refine lv_aload_n hx hb dL_act_670 rfl (lv_at hl 0 rfl) ?_
      obtain ⟨v228, T229, h230, hf⟩ := zb_i hf
      obtain ⟨T231, eT231, hf⟩ := zl_i hf
      refine z_ok (z_runV (As := []) (rest := []) F k_X3_candles ml_1015 (((c_X3_candles T225 T229 v228 h230).lift (by decide))) hP hS (zV_0 (by decide)) rfl rfl rfl rfl hl.1 (Nat.le_of_ble_eq_true rfl) dL_act_671 (Nat.le_of_ble_eq_true rfl) ⟨(Nat.le_of_ble_eq_true rfl), (Nat.le_of_ble_eq_true rfl)⟩ rfl) hS (fun H locs hP hS => ?_)
      rw [← eT231] at hP
      refine lv_iload hx hb dL_act_674 (lv_at hl 1 rfl) ?_
      refine lv_iload hx hb dL_act_676 (lv_at hl 2 rfl) ?_
      refine lv_iadd hx hb dL_act_678 ?_
      refine lv_sipush (v := 9999) hx hb dL_act_679 (by decide) ?_
      obtain ⟨K232, eK232, hf⟩ := zl_i hf
      have J233 : ∀ (z235 : Int32) (z236 : Int32) (T234 : zT) (H : Heap) (locs : List Loc) (ls : Array Slot), K232 z235 z236 T234 = some (v, T') → zP 1 D Y G T234 H → va_S A s.heap H locs → lv_has ls 27 [(0, .ref (G 0 0))] → W p l e (zR 9 10 60) s m args below meth c H locs (2) (12) (vx_MQ below (zQ 1 D Y G A (.inl (some (.int v))) T') (zX 1 D Y G A (.inl (some (.int v))) T') args s 10 60 A) (F0 m 695 ls [.int z236, .int z235]) := by
        intro z235 z236 T234 H locs ls hf hP hS hl
        rw [eK232] at hf
        dsimp only at hf
        refine lv_icmp_ne (tgt := 711) hx hb dL_act_695 (by decide) (fun hc => ?_) (fun hc => ?_)
        · have hf := zif_n hf hc
          refine lv_iconst (v := 0) hx hb dL_act_711 (by decide) ?_
          obtain ⟨q1, q2⟩ := zs_i hf
          subst q1; subst q2
          exact z_zret hx hb hr (Or.inl rfl) rfl hP hS hlocks (Nat.le_of_ble_eq_true rfl) (Nat.le_of_ble_eq_true rfl) dL_act_712
        · have hf := zif_p hf hc
          refine lv_aload_n hx hb dL_act_698 rfl (lv_at hl 0 rfl) ?_
          refine lv_iconst (v := 4) hx hb dL_act_699 (by decide) ?_
          refine lv_iconst (v := 1) hx hb dL_act_700 (by decide) ?_
          obtain ⟨v237, T238, h239, hf⟩ := zb_i hf
          obtain ⟨T240, eT240, hf⟩ := zl_i hf
          refine z_ok (z_runSW (As := [.ref (G 0 0), .int 4, .int 1]) (rest := []) F kl_baked ml_729 ((c_L_baked 4 1 T234 T238 v237 h239).lift (by decide)) hP hS rfl rfl hl.1 (Nat.le_of_ble_eq_true rfl) dL_act_701 (Nat.le_of_ble_eq_true rfl) ⟨(Nat.le_of_ble_eq_true rfl), (Nat.le_of_ble_eq_true rfl)⟩ rfl) hS (fun H locs hP hS => ?_)
          rw [← eT240] at hP
          refine lv_if_eq (tgt := 711) hx hb dL_act_704 (by decide) (fun hc => ?_) (fun hc => ?_)
          · have hf := zif_p hf hc
            refine lv_iconst (v := 0) hx hb dL_act_711 (by decide) ?_
            obtain ⟨q1, q2⟩ := zs_i hf
            subst q1; subst q2
            exact z_zret hx hb hr (Or.inl rfl) rfl hP hS hlocks (Nat.le_of_ble_eq_true rfl) (Nat.le_of_ble_eq_true rfl) dL_act_712
          · have hf := zif_n hf hc
            refine lv_iconst (v := 1) hx hb dL_act_707 (by decide) ?_
            refine lv_goto (tgt := 712) hx hb dL_act_708 (by decide) ?_
            obtain ⟨q1, q2⟩ := zs_i hf
            subst q1; subst q2
            exact z_zret hx hb hr (Or.inr rfl) rfl hP hS hlocks (Nat.le_of_ble_eq_true rfl) (Nat.le_of_ble_eq_true rfl) dL_act_712
      refine lv_icmp_le (tgt := 690) hx hb dL_act_682 (by decide) (fun hc => ?_) (fun hc => ?_)
      · have hf := zif_p hf hc
        refine lv_iload hx hb dL_act_690 (lv_at hl 1 rfl) ?_
        refine lv_iload hx hb dL_act_692 (lv_at hl 2 rfl) ?_
        refine lv_iadd hx hb dL_act_694 ?_
        refine W.widen (k := 2) (n := 12) (Nat.le_of_ble_eq_true rfl) (Nat.le_of_ble_eq_true rfl) ?_
        exact J233 v228 (v211 + x218) T231 _ _ _ hf hP hS (lv_sub hl [0] rfl)
      · have hf := zif_n hf hc
        refine lv_iload hx hb dL_act_685 (lv_at hl 1 rfl) ?_
        refine lv_goto (tgt := 695) hx hb dL_act_687 (by decide) ?_
        refine W.widen (k := 2) (n := 12) (Nat.le_of_ble_eq_true rfl) (Nat.le_of_ble_eq_true rfl) ?_
        exact J233 v228 v211 T231 _ _ _ hf hP hS (lv_sub hl [0] rfl)
  refine lv_icmp_le (tgt := 662) hx hb dL_act_654 (by decide) (fun hc => ?_) (fun hc => ?_)
  · have hf := zif_p hf hc
    refine lv_iload hx hb dL_act_662 (lv_at hl 1 rfl) ?_
    refine lv_iload hx hb dL_act_664 (lv_at hl 0 rfl) ?_
    refine lv_iadd hx hb dL_act_666 ?_
    refine W.widen (k := 2) (n := 12) (Nat.le_of_ble_eq_true rfl) (Nat.le_of_ble_eq_true rfl) ?_
    exact J224 v219 (v211 + x218) T222 _ _ _ hf hP hS (lv_sub hl [2, 1, 0] rfl)
  · have hf := zif_n hf hc
    refine lv_bipush (v := (-3)) hx hb dL_act_657 (by decide) ?_
    refine lv_goto (tgt := 667) hx hb dL_act_659 (by decide) ?_
    refine W.widen (k := 2) (n := 12) (Nat.le_of_ble_eq_true rfl) (Nat.le_of_ble_eq_true rfl) ?_
    exact J224 v219 (-3) T222 _ _ _ hf hP hS (lv_sub hl [2, 1, 0] rfl)
set_option maxHeartbeats 8000000 in
set_option maxRecDepth 100000 in
theorem s_L_act_713 {p : Program} {l : Launch} {e : Env} {s : State} {m : MethodId} {args : Array Value} {below : List Frame} {meth : Method} {c : Code} {D : va_G} {Y : Nat → ClassId} {S V : Nat → Nat} {G : Nat → Nat → Nat} {A : Nat → Prop} {c0 : Cond} (F : zF 1 9 10 60 p l s m args c cL_act 27 RL c0 D Y S V G A) (hr : meth.sig.returnType = (some .boolean)) (hlocks : meth.locks = false) (hex : ∀ x ∈ c.exceptionTable.toList, False) (T : zT) {T' : zT} {v : Int32} {H : Heap} {locs : List Loc} {ls : Array Slot} (hf : sp_L_act_713 T = some (v, T')) (hP : zP 1 D Y G T H) (hS : va_S A s.heap H locs) (hl : lv_has ls 27 [(0, .ref (G 0 0)), (1, .ref (G 0 8))]) :
    W p l e (zR 9 10 60) s m args below meth c H locs 1 6 (vx_MQ below (zQ 1 D Y G A (.inl (some (.int v))) T') (zX 1 D Y G A (.inl (some (.int v))) T') args s 10 60 A) (F0 m 713 ls []) := by
  obtain ⟨hx, hb, hml, hown, hts, hl9, hG, hK, hA⟩ := id F
  unfold sp_L_act_713 at hf
  refine lv_aload_n hx hb dL_act_713 rfl (lv_at hl 1 rfl) ?_
  obtain ⟨v241, T242, h243, hf⟩ := zb_i hf
  refine z_ok (z_runS (As := [.ref (G 0 8)]) (rest := []) F kl_next ml_590 (c_L_next T T242 v241 h243) hP hS rfl rfl hl.1 (Nat.le_of_ble_eq_true rfl) dL_act_714 (Nat.le_of_ble_eq_true rfl) ⟨(Nat.le_of_ble_eq_true rfl), (Nat.le_of_ble_eq_true rfl)⟩ rfl) hS (fun H locs hP hS => ?_)
  refine lv_bipush (v := 6) hx hb dL_act_717 (by decide) ?_
  refine lv_irem hx hb dL_act_719 (by decide) ?_
  obtain ⟨x244, ex244, hf⟩ := zl_i hf
  refine z_topi ex244 ?_
  refine lv_istore (lv' := [(23, .int x244), (0, .ref (G 0 0)), (1, .ref (G 0 8))]) hx hb dL_act_720 hl (by decide) rfl (fun ls hl => ?_)
  refine lv_aload_n hx hb dL_act_722 rfl (lv_at hl 1 rfl) ?_
  refine lv_iload hx hb dL_act_723 (lv_at hl 0 rfl) ?_
  obtain ⟨v245, T246, h247, hf⟩ := zbi_i hf
  obtain ⟨T248, eT248, hf⟩ := zl_i hf
  refine z_ok (z_runV (As := [.int x244]) (rest := []) F k_X3_cakes ml_1019 (((c_X3_cakes x244 T242 T246 (.inl v245) h247).lift (by decide))) hP hS (zV_0 (by decide)) rfl rfl rfl rfl hl.1 (Nat.le_of_ble_eq_true rfl) dL_act_725 (Nat.le_of_ble_eq_true rfl) ⟨(Nat.le_of_ble_eq_true rfl), (Nat.le_of_ble_eq_true rfl)⟩ rfl) hS (fun H locs hP hS => ?_)
  rw [← eT248] at hP
  refine lv_istore (lv' := [(24, .int v245), (23, .int x244), (0, .ref (G 0 0)), (1, .ref (G 0 8))]) hx hb dL_act_728 hl (by decide) rfl (fun ls hl => ?_)
  refine lv_iconst (v := 1) hx hb dL_act_730 (by decide) ?_
  refine lv_aload_n hx hb dL_act_731 rfl (lv_at hl 3 rfl) ?_
  obtain ⟨v249, T250, h251, hf⟩ := zb_i hf
  refine z_ok (z_runS (As := [.ref (G 0 8)]) (rest := [.int 1]) F kl_next ml_590 (c_L_next T248 T250 v249 h251) hP hS rfl rfl hl.1 (Nat.le_of_ble_eq_true rfl) dL_act_732 (Nat.le_of_ble_eq_true rfl) ⟨(Nat.le_of_ble_eq_true rfl), (Nat.le_of_ble_eq_true rfl)⟩ rfl) hS (fun H locs hP hS => ?_)
  refine lv_bipush (v := 20) hx hb dL_act_735 (by decide) ?_
  refine lv_irem hx hb dL_act_737 (by decide) ?_
  refine lv_iadd hx hb dL_act_738 ?_
  obtain ⟨x252, ex252, hf⟩ := zl_i hf
  refine z_topi ex252 ?_
  refine lv_istore (lv' := [(25, .int x252), (24, .int v245), (23, .int x244), (0, .ref (G 0 0)), (1, .ref (G 0 8))]) hx hb dL_act_739 hl (by decide) rfl (fun ls hl => ?_)
  refine lv_iload hx hb dL_act_741 (lv_at hl 1 rfl) ?_
  refine lv_iload hx hb dL_act_743 (lv_at hl 0 rfl) ?_
  refine lv_iadd hx hb dL_act_745 ?_
  refine lv_bipush (v := 99) hx hb dL_act_746 (by decide) ?_
  obtain ⟨K253, eK253, hf⟩ := zl_i hf
  have J254 : ∀ (z256 : Int32) (T255 : zT) (H : Heap) (locs : List Loc) (ls : Array Slot), K253 z256 T255 = some (v, T') → zP 1 D Y G T255 H → va_S A s.heap H locs → lv_has ls 27 [(0, .ref (G 0 0)), (23, .int x244), (24, .int v245), (25, .int x252)] → W p l e (zR 9 10 60) s m args below meth c H locs (2) (12) (vx_MQ below (zQ 1 D Y G A (.inl (some (.int v))) T') (zX 1 D Y G A (.inl (some (.int v))) T') args s 10 60 A) (F0 m 756 ls [.int z256]) := by
    intro z256 T255 H locs ls hf hP hS hl
    rw [eK253] at hf
    dsimp only at hf
    refine lv_istore (lv' := [(26, .int z256), (0, .ref (G 0 0)), (23, .int x244), (24, .int v245), (25, .int x252)]) hx hb dL_act_756 hl (by decide) rfl (fun ls hl => ?_)
    refine lv_aload_n hx hb dL_act_758 rfl (lv_at hl 1 rfl) ?_
    refine lv_iload hx hb dL_act_759 (lv_at hl 2 rfl) ?_
    refine lv_iload hx hb dL_act_761 (lv_at hl 4 rfl) ?_
    obtain ⟨v257, T258, h259, hf⟩ := zb_i hf
    obtain ⟨T260, eT260, hf⟩ := zl_i hf
    refine z_ok (z_runSW (As := [.ref (G 0 0), .int x244, .int x252]) (rest := []) F kl_baked ml_729 ((c_L_baked x244 x252 T255 T258 v257 h259).lift (by decide)) hP hS rfl rfl hl.1 (Nat.le_of_ble_eq_true rfl) dL_act_763 (Nat.le_of_ble_eq_true rfl) ⟨(Nat.le_of_ble_eq_true rfl), (Nat.le_of_ble_eq_true rfl)⟩ rfl) hS (fun H locs hP hS => ?_)
    rw [← eT260] at hP
    refine lv_iload hx hb dL_act_766 (lv_at hl 0 rfl) ?_
    obtain ⟨K261, eK261, hf⟩ := zl_i hf
    have J262 : ∀ (z264 : Int32) (z265 : Int32) (T263 : zT) (H : Heap) (locs : List Loc) (ls : Array Slot), K261 z264 z265 T263 = some (v, T') → zP 1 D Y G T263 H → va_S A s.heap H locs → lv_has ls 27 [(0, .ref (G 0 0)), (23, .int x244), (24, .int v245), (25, .int x252), (26, .int z256)] → W p l e (zR 9 10 60) s m args below meth c H locs (4) (24) (vx_MQ below (zQ 1 D Y G A (.inl (some (.int v))) T') (zX 1 D Y G A (.inl (some (.int v))) T') args s 10 60 A) (F0 m 781 ls [.int z265, .int z264]) := by
      intro z264 z265 T263 H locs ls hf hP hS hl
      rw [eK261] at hf
      dsimp only at hf
      refine lv_icmp_ne (tgt := 820) hx hb dL_act_781 (by decide) (fun hc => ?_) (fun hc => ?_)
      · have hf := zif_n hf hc
        refine lv_iconst (v := 0) hx hb dL_act_820 (by decide) ?_
        obtain ⟨q1, q2⟩ := zs_i hf
        subst q1; subst q2
        exact z_zret hx hb hr (Or.inl rfl) rfl hP hS hlocks (Nat.le_of_ble_eq_true rfl) (Nat.le_of_ble_eq_true rfl) dL_act_821
      · have hf := zif_p hf hc
        refine lv_aload_n hx hb dL_act_784 rfl (lv_at hl 0 rfl) ?_
        refine lv_iload hx hb dL_act_785 (lv_at hl 1 rfl) ?_
        obtain ⟨v266, T267, h268, hf⟩ := zbi_i hf
        obtain ⟨T269, eT269, hf⟩ := zl_i hf
        refine z_ok (z_runV (As := [.int x244]) (rest := []) F k_X3_cakes ml_1019 (((c_X3_cakes x244 T263 T267 (.inl v266) h268).lift (by decide))) hP hS (zV_0 (by decide)) rfl rfl rfl rfl hl.1 (Nat.le_of_ble_eq_true rfl) dL_act_787 (Nat.le_of_ble_eq_true rfl) ⟨(Nat.le_of_ble_eq_true rfl), (Nat.le_of_ble_eq_true rfl)⟩ rfl) hS (fun H locs hP hS => ?_)
        rw [← eT269] at hP
        refine lv_iload hx hb dL_act_790 (lv_at hl 4 rfl) ?_
        obtain ⟨K270, eK270, hf⟩ := zl_i hf
        have J271 : ∀ (z273 : Int32) (z274 : Int32) (T272 : zT) (H : Heap) (locs : List Loc) (ls : Array Slot), K270 z273 z274 T272 = some (v, T') → zP 1 D Y G T272 H → va_S A s.heap H locs → lv_has ls 27 [(0, .ref (G 0 0))] → W p l e (zR 9 10 60) s m args below meth c H locs (5) (30) (vx_MQ below (zQ 1 D Y G A (.inl (some (.int v))) T') (zX 1 D Y G A (.inl (some (.int v))) T') args s 10 60 A) (F0 m 805 ls [.int z274, .int z273]) := by
          intro z273 z274 T272 H locs ls hf hP hS hl
          rw [eK270] at hf
          dsimp only at hf
          refine lv_icmp_ne (tgt := 820) hx hb dL_act_805 (by decide) (fun hc => ?_) (fun hc => ?_)
          · have hf := zif_n hf hc
            refine lv_iconst (v := 0) hx hb dL_act_820 (by decide) ?_
            obtain ⟨q1, q2⟩ := zs_i hf
            subst q1; subst q2
            exact z_zret hx hb hr (Or.inl rfl) rfl hP hS hlocks (Nat.le_of_ble_eq_true rfl) (Nat.le_of_ble_eq_true rfl) dL_act_821
          · have hf := zif_p hf hc
            refine lv_aload_n hx hb dL_act_808 rfl (lv_at hl 0 rfl) ?_
            refine lv_iconst (v := 1) hx hb dL_act_809 (by decide) ?_
            obtain ⟨v275, T276, h277, hf⟩ := zb_i hf
            obtain ⟨T278, eT278, hf⟩ := zl_i hf
            refine z_ok (z_runSW (As := [.ref (G 0 0), .int 1]) (rest := []) F kl_bought ml_720 ((c_L_bought 1 T272 T276 v275 h277).lift (by decide)) hP hS rfl rfl hl.1 (Nat.le_of_ble_eq_true rfl) dL_act_810 (Nat.le_of_ble_eq_true rfl) ⟨(Nat.le_of_ble_eq_true rfl), (Nat.le_of_ble_eq_true rfl)⟩ rfl) hS (fun H locs hP hS => ?_)
            rw [← eT278] at hP
            refine lv_if_eq (tgt := 820) hx hb dL_act_813 (by decide) (fun hc => ?_) (fun hc => ?_)
            · have hf := zif_p hf hc
              refine lv_iconst (v := 0) hx hb dL_act_820 (by decide) ?_
              obtain ⟨q1, q2⟩ := zs_i hf
              subst q1; subst q2
              exact z_zret hx hb hr (Or.inl rfl) rfl hP hS hlocks (Nat.le_of_ble_eq_true rfl) (Nat.le_of_ble_eq_true rfl) dL_act_821
            · have hf := zif_n hf hc
              refine lv_iconst (v := 1) hx hb dL_act_816 (by decide) ?_
              refine lv_goto (tgt := 821) hx hb dL_act_817 (by decide) ?_
              obtain ⟨q1, q2⟩ := zs_i hf
              subst q1; subst q2
              exact z_zret hx hb hr (Or.inr rfl) rfl hP hS hlocks (Nat.le_of_ble_eq_true rfl) (Nat.le_of_ble_eq_true rfl) dL_act_821
        refine lv_if_eq (tgt := 803) hx hb dL_act_792 (by decide) (fun hc => ?_) (fun hc => ?_)
        · have hf := zif_p hf hc
          refine lv_iload hx hb dL_act_803 (lv_at hl 2 rfl) ?_
          refine W.widen (k := 5) (n := 30) (Nat.le_of_ble_eq_true rfl) (Nat.le_of_ble_eq_true rfl) ?_
          exact J271 v266 v245 T269 _ _ _ hf hP hS (lv_sub hl [0] rfl)
        · have hf := zif_n hf hc
          refine lv_iload hx hb dL_act_795 (lv_at hl 2 rfl) ?_
          refine lv_iload hx hb dL_act_797 (lv_at hl 3 rfl) ?_
          refine lv_iadd hx hb dL_act_799 ?_
          refine lv_goto (tgt := 805) hx hb dL_act_800 (by decide) ?_
          refine W.widen (k := 5) (n := 30) (Nat.le_of_ble_eq_true rfl) (Nat.le_of_ble_eq_true rfl) ?_
          exact J271 v266 (v245 + x252) T269 _ _ _ hf hP hS (lv_sub hl [0] rfl)
    refine lv_if_eq (tgt := 779) hx hb dL_act_768 (by decide) (fun hc => ?_) (fun hc => ?_)
    · have hf := zif_p hf hc
      refine lv_bipush (v := (-3)) hx hb dL_act_779 (by decide) ?_
      refine W.widen (k := 4) (n := 24) (Nat.le_of_ble_eq_true rfl) (Nat.le_of_ble_eq_true rfl) ?_
      exact J262 v257 (-3) T260 _ _ _ hf hP hS (lv_sub hl [1, 2, 3, 4, 0] rfl)
    · have hf := zif_n hf hc
      refine lv_iload hx hb dL_act_771 (lv_at hl 3 rfl) ?_
      refine lv_iload hx hb dL_act_773 (lv_at hl 4 rfl) ?_
      refine lv_iadd hx hb dL_act_775 ?_
      refine lv_goto (tgt := 781) hx hb dL_act_776 (by decide) ?_
      refine W.widen (k := 4) (n := 24) (Nat.le_of_ble_eq_true rfl) (Nat.le_of_ble_eq_true rfl) ?_
      exact J262 v257 (v245 + x252) T260 _ _ _ hf hP hS (lv_sub hl [1, 2, 3, 4, 0] rfl)
  refine lv_icmp_gt (tgt := 755) hx hb dL_act_748 (by decide) (fun hc => ?_) (fun hc => ?_)
  · have hf := zif_p hf hc
    refine lv_iconst (v := 0) hx hb dL_act_755 (by decide) ?_
    refine W.widen (k := 2) (n := 12) (Nat.le_of_ble_eq_true rfl) (Nat.le_of_ble_eq_true rfl) ?_
    exact J254 0 T250 _ _ _ hf hP hS (lv_sub hl [3, 2, 1, 0] rfl)
  · have hf := zif_n hf hc
    refine lv_iconst (v := 1) hx hb dL_act_751 (by decide) ?_
    refine lv_goto (tgt := 756) hx hb dL_act_752 (by decide) ?_
    refine W.widen (k := 2) (n := 12) (Nat.le_of_ble_eq_true rfl) (Nat.le_of_ble_eq_true rfl) ?_
    exact J254 1 T250 _ _ _ hf hP hS (lv_sub hl [3, 2, 1, 0] rfl)
set_option maxHeartbeats 8000000 in
set_option maxRecDepth 100000 in
theorem c_L_act (T T' : zT) (v : Int32) (hf : f_L_act T = some (v, T')) : zC 1 yL_act cL_act 27 (some .boolean) 9 10 60 (fun G _ => [.ref (G 0 0), .ref (G 0 8)]) T (fun _ => .inl (some (.int v))) T' := by
  intro l D Y S V G A hl9 hG
  refine vx_ofW (cc := cL_act) (maxL := 27) (ret := (some .boolean)) (by decide) rfl ?_
  intro p e s m args below meth c s₁ B hml hex hv
  obtain ⟨rfl, hK, hP, hA⟩ := hv
  have hx := B.exec
  have hb := B.bytes
  have hr := B.returns
  have hlocks := B.notSynchronized
  have hown : s.vm.findClass RL = some m.cls := findClass_of_methodNamed B.named
  have hts := atoms_spec (ws := Cond.code yL_act cL_act 27 (some .boolean) :: zWS) B.pre
  have F : zF 1 9 10 60 p l s m _ c cL_act 27 RL (Cond.code yL_act cL_act 27 (some .boolean)) D Y S V G A := ⟨hx, hb, hml, hown, hts, hl9, hG, hK, hA⟩
  have hS : va_S A s.heap s.heap [] := va_S.rf
  have hl := lv_entry ([.ref (G 0 0), .ref (G 0 8)]) (n := 27) (Nat.le_of_ble_eq_true rfl)
  rw [lg_entry_eq]
  generalize (lg_sl ([.ref (G 0 0), .ref (G 0 8)]) ++ List.replicate (27 - (lg_sl ([.ref (G 0 0), .ref (G 0 8)])).length) Slot.unset).toArray = ls at hl ⊢
  have hl : lv_has ls 27 [(0, .ref (G 0 0)), (1, .ref (G 0 8))] := hl
  unfold f_L_act at hf
  refine lv_aload_n hx hb dL_act_0 rfl (lv_at hl 0 rfl) ?_
  obtain ⟨v1, T2, h3, hf⟩ := zb_i hf
  obtain ⟨T4, eT4, hf⟩ := zl_i hf
  refine z_ok (z_runV (As := []) (rest := []) F k_X3_childCount ml_1023 (((c_X3_childCount T T2 v1 h3).lift (by decide))) hP hS (zV_0 (by decide)) rfl rfl rfl rfl hl.1 (Nat.le_of_ble_eq_true rfl) dL_act_1 (Nat.le_of_ble_eq_true rfl) ⟨(Nat.le_of_ble_eq_true rfl), (Nat.le_of_ble_eq_true rfl)⟩ rfl) hS (fun H locs hP hS => ?_)
  rw [← eT4] at hP
  refine lv_istore_n (lv' := [(2, .int v1), (0, .ref (G 0 0)), (1, .ref (G 0 8))]) hx hb dL_act_4 rfl hl (by decide) rfl (fun ls hl => ?_)
  refine lv_iload_n hx hb dL_act_5 rfl (lv_at hl 0 rfl) ?_
  obtain ⟨K5, eK5, hf⟩ := zl_i hf
  have J6 : ∀ (z12 : Int32) (T11 : zT) (H : Heap) (locs : List Loc) (ls : Array Slot), K5 z12 T11 = some (v, T') → zP 1 D Y G T11 H → va_S A s.heap H locs → lv_has ls 27 [(0, .ref (G 0 0)), (1, .ref (G 0 8)), (2, .int v1)] → W p l e (zR 9 10 60) s m ([.ref (G 0 0), .ref (G 0 8)] : List Value).toArray below meth c H locs (0) (0) (vx_MQ below (zQ 1 D Y G A (.inl (some (.int v))) T') (zX 1 D Y G A (.inl (some (.int v))) T') ([.ref (G 0 0), .ref (G 0 8)] : List Value).toArray s 10 60 A) (F0 m 19 ls [.int z12]) := by
    intro z12 T11 H locs ls hf hP hS hl
    rw [eK5] at hf
    dsimp only at hf
    refine lv_istore_n (lv' := [(3, .int z12), (0, .ref (G 0 0)), (1, .ref (G 0 8)), (2, .int v1)]) hx hb dL_act_19 rfl hl (by decide) rfl (fun ls hl => ?_)
    refine lv_aload_n hx hb dL_act_20 rfl (lv_at hl 2 rfl) ?_
    obtain ⟨v13, T14, h15, hf⟩ := zb_i hf
    refine z_ok (z_runS (As := [.ref (G 0 8)]) (rest := []) F kl_next ml_590 (c_L_next T11 T14 v13 h15) hP hS rfl rfl hl.1 (Nat.le_of_ble_eq_true rfl) dL_act_21 (Nat.le_of_ble_eq_true rfl) ⟨(Nat.le_of_ble_eq_true rfl), (Nat.le_of_ble_eq_true rfl)⟩ rfl) hS (fun H locs hP hS => ?_)
    refine lv_aload_n hx hb dL_act_24 rfl (lv_at hl 1 rfl) ?_
    obtain ⟨v16, T17, h18, hf⟩ := zb_i hf
    obtain ⟨T19, eT19, hf⟩ := zl_i hf
    refine z_ok (z_runV (As := []) (rest := [.int v13]) F k_X3_gardenCount ml_1151 (((c_X3_gardenCount T14 T17 v16 h18).lift (by decide))) hP hS (zV_0 (by decide)) rfl rfl rfl rfl hl.1 (Nat.le_of_ble_eq_true rfl) dL_act_25 (Nat.le_of_ble_eq_true rfl) ⟨(Nat.le_of_ble_eq_true rfl), (Nat.le_of_ble_eq_true rfl)⟩ rfl) hS (fun H locs hP hS => ?_)
    rw [← eT19] at hP
    obtain ⟨h20, hf⟩ := zif_c hf
    refine lv_irem hx hb dL_act_28 h20 ?_
    obtain ⟨x21, ex21, hf⟩ := zl_i hf
    refine z_topi ex21 ?_
    refine lv_istore (lv' := [(4, .int x21), (3, .int z12), (0, .ref (G 0 0)), (1, .ref (G 0 8)), (2, .int v1)]) hx hb dL_act_29 hl (by decide) rfl (fun ls hl => ?_)
    refine lv_iconst (v := 1) hx hb dL_act_31 (by decide) ?_
    refine lv_aload_n hx hb dL_act_32 rfl (lv_at hl 3 rfl) ?_
    obtain ⟨v22, T23, h24, hf⟩ := zb_i hf
    refine z_ok (z_runS (As := [.ref (G 0 8)]) (rest := [.int 1]) F kl_next ml_590 (c_L_next T19 T23 v22 h24) hP hS rfl rfl hl.1 (Nat.le_of_ble_eq_true rfl) dL_act_33 (Nat.le_of_ble_eq_true rfl) ⟨(Nat.le_of_ble_eq_true rfl), (Nat.le_of_ble_eq_true rfl)⟩ rfl) hS (fun H locs hP hS => ?_)
    refine lv_bipush (v := 12) hx hb dL_act_36 (by decide) ?_
    refine lv_irem hx hb dL_act_38 (by decide) ?_
    refine lv_iadd hx hb dL_act_39 ?_
    obtain ⟨x25, ex25, hf⟩ := zl_i hf
    refine z_topi ex25 ?_
    refine lv_istore (lv' := [(5, .int x25), (4, .int x21), (3, .int z12), (0, .ref (G 0 0)), (1, .ref (G 0 8)), (2, .int v1)]) hx hb dL_act_40 hl (by decide) rfl (fun ls hl => ?_)
    refine lv_iconst (v := 1) hx hb dL_act_42 (by decide) ?_
    refine lv_aload_n hx hb dL_act_43 rfl (lv_at hl 4 rfl) ?_
    obtain ⟨v26, T27, h28, hf⟩ := zb_i hf
    refine z_ok (z_runS (As := [.ref (G 0 8)]) (rest := [.int 1]) F kl_next ml_590 (c_L_next T23 T27 v26 h28) hP hS rfl rfl hl.1 (Nat.le_of_ble_eq_true rfl) dL_act_44 (Nat.le_of_ble_eq_true rfl) ⟨(Nat.le_of_ble_eq_true rfl), (Nat.le_of_ble_eq_true rfl)⟩ rfl) hS (fun H locs hP hS => ?_)
    refine lv_bipush (v := 30) hx hb dL_act_47 (by decide) ?_
    refine lv_irem hx hb dL_act_49 (by decide) ?_
    refine lv_iadd hx hb dL_act_50 ?_
    obtain ⟨x29, ex29, hf⟩ := zl_i hf
    refine z_topi ex29 ?_
    refine lv_istore (lv' := [(6, .int x29), (5, .int x25), (4, .int x21), (3, .int z12), (0, .ref (G 0 0)), (1, .ref (G 0 8)), (2, .int v1)]) hx hb dL_act_51 hl (by decide) rfl (fun ls hl => ?_)
    refine lv_iload hx hb dL_act_53 (lv_at hl 1 rfl) ?_
    refine lv_iconst (v := 1) hx hb dL_act_55 (by decide) ?_
    refine lv_isub hx hb dL_act_56 ?_
    refine lv_bipush (v := 30) hx hb dL_act_57 (by decide) ?_
    refine lv_imul hx hb dL_act_59 ?_
    refine lv_iload hx hb dL_act_60 (lv_at hl 0 rfl) ?_
    refine lv_iadd hx hb dL_act_62 ?_
    refine lv_iconst (v := 1) hx hb dL_act_63 (by decide) ?_
    refine lv_isub hx hb dL_act_64 ?_
    obtain ⟨x30, ex30, hf⟩ := zl_i hf
    refine z_topi ex30 ?_
    refine lv_istore (lv' := [(7, .int x30), (6, .int x29), (5, .int x25), (4, .int x21), (3, .int z12), (0, .ref (G 0 0)), (1, .ref (G 0 8)), (2, .int v1)]) hx hb dL_act_65 hl (by decide) rfl (fun ls hl => ?_)
    refine lv_iload_n hx hb dL_act_67 rfl (lv_at hl 7 rfl) ?_
    obtain ⟨K31, eK31, hf⟩ := zl_i hf
    have J32 : ∀ (z38 : Int32) (T37 : zT) (H : Heap) (locs : List Loc) (ls : Array Slot), K31 z38 T37 = some (v, T') → zP 1 D Y G T37 H → va_S A s.heap H locs → lv_has ls 27 [(0, .ref (G 0 0)), (1, .ref (G 0 8)), (2, .int v1), (3, .int z12), (4, .int x21), (5, .int x25), (6, .int x29), (7, .int x30)] → W p l e (zR 9 10 60) s m ([.ref (G 0 0), .ref (G 0 8)] : List Value).toArray below meth c H locs (1) (6) (vx_MQ below (zQ 1 D Y G A (.inl (some (.int v))) T') (zX 1 D Y G A (.inl (some (.int v))) T') ([.ref (G 0 0), .ref (G 0 8)] : List Value).toArray s 10 60 A) (F0 m 80 ls [.int z38]) := by
      intro z38 T37 H locs ls hf hP hS hl
      rw [eK31] at hf
      dsimp only at hf
      refine lv_istore (lv' := [(8, .int z38), (0, .ref (G 0 0)), (1, .ref (G 0 8)), (2, .int v1), (3, .int z12), (4, .int x21), (5, .int x25), (6, .int x29), (7, .int x30)]) hx hb dL_act_80 hl (by decide) rfl (fun ls hl => ?_)
      refine lv_aload_n hx hb dL_act_82 rfl (lv_at hl 2 rfl) ?_
      obtain ⟨v39, T40, h41, hf⟩ := zb_i hf
      refine z_ok (z_runS (As := [.ref (G 0 8)]) (rest := []) F kl_next ml_590 (c_L_next T37 T40 v39 h41) hP hS rfl rfl hl.1 (Nat.le_of_ble_eq_true rfl) dL_act_83 (Nat.le_of_ble_eq_true rfl) ⟨(Nat.le_of_ble_eq_true rfl), (Nat.le_of_ble_eq_true rfl)⟩ rfl) hS (fun H locs hP hS => ?_)
      refine lv_bipush (v := 10) hx hb dL_act_86 (by decide) ?_
      refine lv_irem hx hb dL_act_88 (by decide) ?_
      obtain ⟨x42, ex42, hf⟩ := zl_i hf
      refine z_topi ex42 ?_
      by_cases hq0 : x42 = 0
      · have hf := zif_p hf hq0
        refine lv_tableIn (tgt := 140) hx hb dL_act_89 (by rw [hq0]; decide) (by rw [hq0]; decide) (by rw [hq0]; rfl) (by decide) ?_
        refine W.widen (k := 1) (n := 6) (Nat.le_of_ble_eq_true rfl) (Nat.le_of_ble_eq_true rfl) ?_
        exact s_L_act_140 F hr hlocks hex v1 z12 T40 hf hP hS (lv_sub hl [1, 2, 3, 4] rfl)
      replace hf := zif_n hf hq0
      by_cases hq1 : x42 = 1
      · have hf := zif_p hf hq1
        refine lv_tableIn (tgt := 140) hx hb dL_act_89 (by rw [hq1]; decide) (by rw [hq1]; decide) (by rw [hq1]; rfl) (by decide) ?_
        refine W.widen (k := 1) (n := 6) (Nat.le_of_ble_eq_true rfl) (Nat.le_of_ble_eq_true rfl) ?_
        exact s_L_act_140 F hr hlocks hex v1 z12 T40 hf hP hS (lv_sub hl [1, 2, 3, 4] rfl)
      replace hf := zif_n hf hq1
      by_cases hq2 : x42 = 2
      · have hf := zif_p hf hq2
        refine lv_tableIn (tgt := 228) hx hb dL_act_89 (by rw [hq2]; decide) (by rw [hq2]; decide) (by rw [hq2]; rfl) (by decide) ?_
        refine W.widen (k := 1) (n := 6) (Nat.le_of_ble_eq_true rfl) (Nat.le_of_ble_eq_true rfl) ?_
        exact s_L_act_228 F hr hlocks hex v1 z12 T40 hf hP hS (lv_sub hl [1, 3, 4] rfl)
      replace hf := zif_n hf hq2
      by_cases hq3 : x42 = 3
      · have hf := zif_p hf hq3
        refine lv_tableIn (tgt := 228) hx hb dL_act_89 (by rw [hq3]; decide) (by rw [hq3]; decide) (by rw [hq3]; rfl) (by decide) ?_
        refine W.widen (k := 1) (n := 6) (Nat.le_of_ble_eq_true rfl) (Nat.le_of_ble_eq_true rfl) ?_
        exact s_L_act_228 F hr hlocks hex v1 z12 T40 hf hP hS (lv_sub hl [1, 3, 4] rfl)
      replace hf := zif_n hf hq3
      by_cases hq4 : x42 = 4
      · have hf := zif_p hf hq4
        refine lv_tableIn (tgt := 338) hx hb dL_act_89 (by rw [hq4]; decide) (by rw [hq4]; decide) (by rw [hq4]; rfl) (by decide) ?_
        refine W.widen (k := 1) (n := 6) (Nat.le_of_ble_eq_true rfl) (Nat.le_of_ble_eq_true rfl) ?_
        exact s_L_act_338 F hr hlocks hex v1 z12 x25 x29 x30 T40 hf hP hS (lv_sub hl [1, 3, 4, 6, 7, 8] rfl)
      replace hf := zif_n hf hq4
      by_cases hq5 : x42 = 5
      · have hf := zif_p hf hq5
        refine lv_tableIn (tgt := 338) hx hb dL_act_89 (by rw [hq5]; decide) (by rw [hq5]; decide) (by rw [hq5]; rfl) (by decide) ?_
        refine W.widen (k := 1) (n := 6) (Nat.le_of_ble_eq_true rfl) (Nat.le_of_ble_eq_true rfl) ?_
        exact s_L_act_338 F hr hlocks hex v1 z12 x25 x29 x30 T40 hf hP hS (lv_sub hl [1, 3, 4, 6, 7, 8] rfl)
      replace hf := zif_n hf hq5
      by_cases hq6 : x42 = 6
      · have hf := zif_p hf hq6
        refine lv_tableIn (tgt := 441) hx hb dL_act_89 (by rw [hq6]; decide) (by rw [hq6]; decide) (by rw [hq6]; rfl) (by decide) ?_
        refine W.widen (k := 1) (n := 6) (Nat.le_of_ble_eq_true rfl) (Nat.le_of_ble_eq_true rfl) ?_
        exact s_L_act_441 F hr hlocks hex v1 z12 z38 T40 hf hP hS (lv_sub hl [1, 3, 4, 0] rfl)
      replace hf := zif_n hf hq6
      by_cases hq7 : x42 = 7
      · have hf := zif_p hf hq7
        refine lv_tableIn (tgt := 491) hx hb dL_act_89 (by rw [hq7]; decide) (by rw [hq7]; decide) (by rw [hq7]; rfl) (by decide) ?_
        refine W.widen (k := 1) (n := 6) (Nat.le_of_ble_eq_true rfl) (Nat.le_of_ble_eq_true rfl) ?_
        exact s_L_act_491 F hr hlocks hex v1 z12 x21 z38 T40 hf hP hS (lv_sub hl [1, 3, 4, 5, 0] rfl)
      replace hf := zif_n hf hq7
      by_cases hq8 : x42 = 8
      · have hf := zif_p hf hq8
        refine lv_tableIn (tgt := 622) hx hb dL_act_89 (by rw [hq8]; decide) (by rw [hq8]; decide) (by rw [hq8]; rfl) (by decide) ?_
        refine W.widen (k := 1) (n := 6) (Nat.le_of_ble_eq_true rfl) (Nat.le_of_ble_eq_true rfl) ?_
        exact s_L_act_622 F hr hlocks hex T40 hf hP hS (lv_sub hl [1, 2] rfl)
      replace hf := zif_n hf hq8
      obtain ⟨hq, hf⟩ := zif_c hf
      refine lv_tableOut (tgt := 713) hx hb dL_act_89 (Or.inr (z_tabo hq (by decide))) (by decide) ?_
      refine W.widen (k := 1) (n := 6) (Nat.le_of_ble_eq_true rfl) (Nat.le_of_ble_eq_true rfl) ?_
      exact s_L_act_713 F hr hlocks hex T40 hf hP hS (lv_sub hl [1, 2] rfl)
    refine lv_if_ne (tgt := 75) hx hb dL_act_68 (by decide) (fun hc => ?_) (fun hc => ?_)
    · have hf := zif_n hf hc
      refine lv_aload_n hx hb dL_act_75 rfl (lv_at hl 5 rfl) ?_
      refine lv_iload_n hx hb dL_act_76 rfl (lv_at hl 4 rfl) ?_
      obtain ⟨v33, T34, h35, hf⟩ := zbi_i hf
      obtain ⟨T36, eT36, hf⟩ := zl_i hf
      refine z_ok (z_runV (As := [.int z12]) (rest := []) F k_X3_birthdayOf ml_1035 (((c_X3_birthdayOf z12 T27 T34 (.inl v33) h35).lift (by decide))) hP hS (zV_0 (by decide)) rfl rfl rfl rfl hl.1 (Nat.le_of_ble_eq_true rfl) dL_act_77 (Nat.le_of_ble_eq_true rfl) ⟨(Nat.le_of_ble_eq_true rfl), (Nat.le_of_ble_eq_true rfl)⟩ rfl) hS (fun H locs hP hS => ?_)
      rw [← eT36] at hP
      refine W.widen (k := 1) (n := 6) (Nat.le_of_ble_eq_true rfl) (Nat.le_of_ble_eq_true rfl) ?_
      exact J32 v33 T36 _ _ _ hf hP hS (lv_sub hl [5, 6, 7, 4, 3, 2, 1, 0] rfl)
    · have hf := zif_p hf hc
      refine lv_iconst (v := (-1)) hx hb dL_act_71 (by decide) ?_
      refine lv_goto (tgt := 80) hx hb dL_act_72 (by decide) ?_
      refine W.widen (k := 1) (n := 6) (Nat.le_of_ble_eq_true rfl) (Nat.le_of_ble_eq_true rfl) ?_
      exact J32 (-1) T27 _ _ _ hf hP hS (lv_sub hl [5, 6, 7, 4, 3, 2, 1, 0] rfl)
  refine lv_if_ne (tgt := 13) hx hb dL_act_6 (by decide) (fun hc => ?_) (fun hc => ?_)
  · have hf := zif_n hf hc
    refine lv_aload_n hx hb dL_act_13 rfl (lv_at hl 2 rfl) ?_
    obtain ⟨v7, T8, h9, hf⟩ := zb_i hf
    refine z_ok (z_runS (As := [.ref (G 0 8)]) (rest := []) F kl_next ml_590 (c_L_next T4 T8 v7 h9) hP hS rfl rfl hl.1 (Nat.le_of_ble_eq_true rfl) dL_act_14 (Nat.le_of_ble_eq_true rfl) ⟨(Nat.le_of_ble_eq_true rfl), (Nat.le_of_ble_eq_true rfl)⟩ rfl) hS (fun H locs hP hS => ?_)
    refine lv_iload_n hx hb dL_act_17 rfl (lv_at hl 0 rfl) ?_
    obtain ⟨h10, hf⟩ := zif_c hf
    refine lv_irem hx hb dL_act_18 h10 ?_
    refine W.widen (k := 0) (n := 0) (Nat.le_of_ble_eq_true rfl) (Nat.le_of_ble_eq_true rfl) ?_
    exact J6 (v7 - v7 / v1 * v1) T8 _ _ _ hf hP hS (lv_sub hl [1, 2, 0] rfl)
  · have hf := zif_p hf hc
    refine lv_iconst (v := 0) hx hb dL_act_9 (by decide) ?_
    refine lv_goto (tgt := 19) hx hb dL_act_10 (by decide) ?_
    refine W.widen (k := 0) (n := 0) (Nat.le_of_ble_eq_true rfl) (Nat.le_of_ble_eq_true rfl) ?_
    exact J6 0 T4 _ _ _ hf hP hS (lv_sub hl [1, 2, 0] rfl)
