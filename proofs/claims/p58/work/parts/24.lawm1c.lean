/-! THE LAW'S OWN METHODS, by program -/
def sp_L_act_140 (w2 : Int32) (w3 : Int32) (T : zT) : Option (Int32 × zT) := zb (f_L_next T) fun v50 T51 => zl (1 + (v50 - v50 / 400 * 400)) fun x53 => zbi (f_X3_candlesAfter x53 T51) fun v54 T55 => zl (zk T51 T55) fun T57 => zl (fun (w65 : Int32) (w66 : Int32) (w67 : Int32) (w68 : Int32) (z69 : Int32) (T64 : zT) => zb (f_X3_heldParties T64) fun v70 T71 => zl (zk T64 T71) fun T73 => zb (f_L_advanced w67 T73) fun v74 T75 => zl (zk T73 T75) fun T77 => zb (f_X3_heldParties T77) fun v78 T79 => zl (zk T77 T79) fun T81 => (if v74 = (v78 - v70) then zb (f_X3_candles T81) fun v82 T83 => zl (zk T81 T83) fun T85 => (if v82 = w68 then (if w65 = 0 then some (1, T85) else zbi (f_X3_wishesOf w66 T85) fun v86 T87 => zl (zk T85 T87) fun T89 => (if v86 = z69 then some (1, T89) else some (0, T89))) else some (0, T85)) else some (0, T81))) fun K58 => (if w2 = 0 then K58 w2 w3 x53 v54 0 T57 else zbi (f_X3_wishesAfter w3 x53 T57) fun v60 T61 => zl (zk T57 T61) fun T63 => K58 w2 w3 x53 v54 v60 T63)
def sp_L_act_228 (w2 : Int32) (w3 : Int32) (T : zT) : Option (Int32 × zT) := zl (fun (w97 : Int32) (w98 : Int32) (z99 : Int32) (T96 : zT) => zb (f_X3_nextDraw T96) fun v100 T101 => zl (zk T96 T101) fun T103 => zb (f_L_drawn w98 T103) fun v104 T105 => zl (zk T103 T105) fun T107 => (if 0 ≤ z99 then (if v104 = z99 then zl (fun (w115 : Int32) (T114 : zT) => zb (f_X3_seed T114) fun v116 T117 => zl (zk T114 T117) fun T119 => zbi (f_X3_birthdayOf w115 T119) fun v120 T121 => zl (zk T119 T121) fun T123 => (if (v116 - v116 / 360 * 360) = v120 then some (1, T123) else some (0, T123))) fun K108 => (if 1 < z99 then K108 w98 T107 else zbi (f_X3_birthdayOf w98 T107) fun v110 T111 => zl (zk T107 T111) fun T113 => (if v110 = v100 then K108 w98 T113 else some (0, T113))) else some (0, T107)) else zl (fun (z127 : Int32) (z128 : Int32) (T126 : zT) => (if z127 = z128 then zb (f_L_baked 0 1 T126) fun v129 T130 => zl (zk T126 T130) fun T132 => (if v129 = 0 then some (0, T132) else some (1, T132)) else some (0, T126))) fun K124 => (if w97 = 0 then K124 v104 (-5) T107 else K124 v104 (-3) T107))) fun K90 => (if w2 = 0 then K90 w2 w3 (-5) T else zbi (f_X3_drawsNeeded w3 T) fun v92 T93 => zl (zk T T93) fun T95 => K90 w2 w3 v92 T95)
def sp_L_act_338 (w2 : Int32) (w3 : Int32) (w5 : Int32) (w6 : Int32) (w7 : Int32) (T : zT) : Option (Int32 × zT) := zl (fun (w144 : Int32) (w145 : Int32) (w146 : Int32) (w147 : Int32) (w148 : Int32) (z149 : Int32) (T143 : zT) => zb (f_L_set w145 w146 w147 T143) fun v150 T151 => zl (zk T143 T151) fun T153 => zl (fun (w165 : Int32) (w166 : Int32) (T164 : zT) => zl (fun (z170 : Int32) (z171 : Int32) (T169 : zT) => (if z170 = z171 then zb (f_L_baked 1 1 T169) fun v172 T173 => zl (zk T169 T173) fun T175 => (if v172 = 0 then some (0, T175) else some (1, T175)) else some (0, T169))) fun K167 => (if w165 = 0 then K167 w166 (-5) T164 else K167 w166 (-3) T164)) fun K154 => (if w144 = 0 then K154 w144 v150 T153 else (if z149 = 0 then zbi (f_X3_birthdayOf w145 T153) fun v156 T157 => zl (zk T153 T157) fun T159 => (if v156 = w148 then zbi (f_X3_daysUntilBirthday w145 T159) fun v160 T161 => zl (zk T159 T161) fun T163 => (if v160 = v150 then some (1, T163) else some (0, T163)) else some (0, T159)) else K154 w144 v150 T153))) fun K133 => (if w2 = 0 then K133 w2 w3 w5 w6 w7 0 T else zbi (f_X3_gardenOf w3 T) fun v135 T136 => zl (zk T T136) fun T138 => zbi (f_X3_obstacle w3 v135 w5 w6 T138) fun v139 T140 => zl (zk T138 T140) fun T142 => K133 w2 w3 w5 w6 w7 v139 T142)
def sp_L_act_441 (w2 : Int32) (w3 : Int32) (w8 : Int32) (T : zT) : Option (Int32 × zT) := zb (f_L_forgotten w3 T) fun v176 T177 => zl (zk T T177) fun T179 => zl (fun (w183 : Int32) (w184 : Int32) (z185 : Int32) (z186 : Int32) (T182 : zT) => (if z185 = z186 then (if w183 = 0 then zb (f_L_baked 2 1 T182) fun v191 T192 => zl (zk T182 T192) fun T194 => (if v191 = 0 then some (0, T194) else some (1, T194)) else zbi (f_X3_birthdayOf w184 T182) fun v187 T188 => zl (zk T182 T188) fun T190 => (if v187 = (-1) then some (1, T190) else some (0, T190))) else some (0, T182))) fun K180 => (if w2 = 0 then K180 w2 w3 v176 (-5) T179 else K180 w2 w3 v176 w8 T179)
def sp_L_act_491 (w2 : Int32) (w3 : Int32) (w4 : Int32) (w8 : Int32) (T : zT) : Option (Int32 × zT) := zl (fun (w202 : Int32) (w203 : Int32) (w204 : Int32) (w205 : Int32) (z206 : Int32) (T201 : zT) => zl (fun (w221 : Int32) (w222 : Int32) (w223 : Int32) (w224 : Int32) (z225 : Int32) (T220 : zT) => zb (f_L_moved w222 w223 T220) fun v226 T227 => zl (zk T220 T227) fun T229 => zl (fun (w237 : Int32) (w238 : Int32) (T236 : zT) => zl (fun (z242 : Int32) (z243 : Int32) (T241 : zT) => (if z242 = z243 then zb (f_L_baked 3 1 T241) fun v244 T245 => zl (zk T241 T245) fun T247 => (if v244 = 0 then some (0, T247) else some (1, T247)) else some (0, T241))) fun K239 => (if w237 = 0 then K239 w238 (-5) T236 else K239 w238 (-3) T236)) fun K230 => (if z225 = 0 then (if w221 = 0 then K230 z225 v226 T229 else (if v226 = w224 then zbi (f_X3_gardenOf w222 T229) fun v232 T233 => zl (zk T229 T233) fun T235 => (if v232 = w223 then some (1, T235) else some (0, T235)) else some (0, T229))) else K230 z225 v226 T229)) fun K209 => zl (fun (w216 : Int32) (w217 : Int32) (w218 : Int32) (w219 : Int32) (T215 : zT) => K209 w216 w217 w218 w219 0 T215) fun K207 => (if w202 ≤ 0 then K207 w202 w203 w204 z206 T201 else (if w205 < 0 then K207 w202 w203 w204 z206 T201 else zbi (f_X3_obstacle w203 w204 ((w205 / 30) + 1) ((w205 - w205 / 30 * 30) + 1) T201) fun v211 T212 => zl (zk T201 T212) fun T214 => (if v211 = 0 then K207 w202 w203 w204 z206 T214 else K209 w202 w203 w204 z206 1 T214)))) fun K195 => (if w2 = 0 then K195 w2 w3 w4 w8 (-5) T else zbi (f_X3_gardenOf w3 T) fun v197 T198 => zl (zk T T198) fun T200 => K195 w2 w3 w4 w8 v197 T200)
def sp_L_act_622 (T : zT) : Option (Int32 × zT) := zb (f_X3_candles T) fun v248 T249 => zl (zk T T249) fun T251 => zb (f_L_next T251) fun v252 T253 => zl (1 + (v252 - v252 / 300 * 300)) fun x255 => zb (f_L_bought x255 T253) fun v256 T257 => zl (zk T253 T257) fun T259 => zl (fun (w263 : Int32) (w264 : Int32) (z265 : Int32) (z266 : Int32) (T262 : zT) => (if z265 = z266 then zb (f_X3_candles T262) fun v267 T268 => zl (zk T262 T268) fun T270 => zl (fun (z274 : Int32) (z275 : Int32) (T273 : zT) => (if z274 = z275 then zb (f_L_baked 4 1 T273) fun v276 T277 => zl (zk T273 T277) fun T279 => (if v276 = 0 then some (0, T279) else some (1, T279)) else some (0, T273))) fun K271 => (if (w263 + w264) ≤ 9999 then K271 v267 (w263 + w264) T270 else K271 v267 w263 T270) else some (0, T262))) fun K260 => (if (v248 + x255) ≤ 9999 then K260 v248 x255 v256 (v248 + x255) T259 else K260 v248 x255 v256 (-3) T259)
def sp_L_act_713 (T : zT) : Option (Int32 × zT) := zb (f_L_next T) fun v280 T281 => zl (v280 - v280 / 6 * 6) fun x283 => zbi (f_X3_cakes x283 T281) fun v284 T285 => zl (zk T281 T285) fun T287 => zb (f_L_next T287) fun v288 T289 => zl (1 + (v288 - v288 / 20 * 20)) fun x291 => zl (fun (w295 : Int32) (w296 : Int32) (w297 : Int32) (z298 : Int32) (T294 : zT) => zb (f_L_baked w295 w297 T294) fun v299 T300 => zl (zk T294 T300) fun T302 => zl (fun (w306 : Int32) (w307 : Int32) (w308 : Int32) (w309 : Int32) (z310 : Int32) (z311 : Int32) (T305 : zT) => (if z310 = z311 then zbi (f_X3_cakes w306 T305) fun v312 T313 => zl (zk T305 T313) fun T315 => zl (fun (z319 : Int32) (z320 : Int32) (T318 : zT) => (if z319 = z320 then zb (f_L_bought 1 T318) fun v321 T322 => zl (zk T318 T322) fun T324 => (if v321 = 0 then some (0, T324) else some (1, T324)) else some (0, T318))) fun K316 => (if w309 = 0 then K316 v312 w307 T315 else K316 v312 (w307 + w308) T315) else some (0, T305))) fun K303 => (if z298 = 0 then K303 w295 w296 w297 z298 v299 (-3) T302 else K303 w295 w296 w297 z298 v299 (w296 + w297) T302)) fun K292 => (if 99 < (v284 + x291) then K292 x283 v284 x291 0 T289 else K292 x283 v284 x291 1 T289)
def f_L_act (T : zT) : Option (Int32 × zT) := zb (f_X3_childCount T) fun v1 T2 => zl (zk T T2) fun T4 => zl (fun (w12 : Int32) (z13 : Int32) (T11 : zT) => zb (f_L_next T11) fun v14 T15 => zb (f_X3_gardenCount T15) fun v17 T18 => zl (zk T15 T18) fun T20 => if ¬ v17 = 0 then zl (v14 - v14 / v17 * v17) fun x22 => zb (f_L_next T20) fun v23 T24 => zl (1 + (v23 - v23 / 12 * 12)) fun x26 => zb (f_L_next T24) fun v27 T28 => zl (1 + (v27 - v27 / 30 * 30)) fun x30 => zl ((((x26 - 1) * 30) + x30) - 1) fun x31 => zl (fun (w39 : Int32) (w40 : Int32) (w41 : Int32) (w42 : Int32) (w43 : Int32) (w44 : Int32) (z45 : Int32) (T38 : zT) => zb (f_L_next T38) fun v46 T47 => zl (v46 - v46 / 10 * 10) fun x49 => (if x49 = 0 then sp_L_act_140 w39 w40 T47 else (if x49 = 1 then sp_L_act_140 w39 w40 T47 else (if x49 = 2 then sp_L_act_228 w39 w40 T47 else (if x49 = 3 then sp_L_act_228 w39 w40 T47 else (if x49 = 4 then sp_L_act_338 w39 w40 w42 w43 w44 T47 else (if x49 = 5 then sp_L_act_338 w39 w40 w42 w43 w44 T47 else (if x49 = 6 then sp_L_act_441 w39 w40 z45 T47 else (if x49 = 7 then sp_L_act_491 w39 w40 w41 z45 T47 else (if x49 = 8 then sp_L_act_622 T47 else if ¬ x49 < 9 then sp_L_act_713 T47 else none)))))))))) fun K32 => (if w12 = 0 then K32 w12 z13 x22 x26 x30 x31 (-1) T28 else zbi (f_X3_birthdayOf z13 T28) fun v34 T35 => zl (zk T28 T35) fun T37 => K32 w12 z13 x22 x26 x30 x31 v34 T37) else none) fun K5 => (if v1 = 0 then K5 v1 0 T4 else zb (f_L_next T4) fun v7 T8 => if ¬ v1 = 0 then K5 v1 (v7 - v7 / v1 * v1) T8 else none)
set_option maxHeartbeats 8000000 in
set_option maxRecDepth 100000 in
theorem s_L_act_140 {p : Program} {l : Launch} {e : Env} {s : State} {m : MethodId} {args : Array Value} {below : List Frame} {meth : Method} {c : Code} {D : va_G} {Y : Nat → ClassId} {S V : Nat → Nat} {G : Nat → Nat → Nat} {A : Nat → Prop} {c0 : Cond} (F : zF 1 9 10 60 p l s m args c cL_act 27 RL c0 D Y S V G A) (hr : meth.sig.returnType = (some .boolean)) (hlocks : meth.locks = false) (hex : ∀ x ∈ c.exceptionTable.toList, False) (w2 : Int32) (w3 : Int32) (T : zT) {T' : zT} {v : Int32} {H : Heap} {locs : List Loc} {ls : Array Slot} (hf : sp_L_act_140 w2 w3 T = some (v, T')) (hP : zP 1 D Y G T H) (hS : va_S A s.heap H locs) (hl : lv_has ls 27 [(0, .ref (G 0 0)), (1, .ref (G 0 8)), (2, .int w2), (3, .int w3)]) :
    W p l e (zR 9 10 60) s m args below meth c H locs 1 6 (vx_MQ below (zQ 1 D Y G A (.inl (some (.int v))) T') (zX 1 D Y G A (.inl (some (.int v))) T') args s 10 60 A) (F0 m 140 ls []) := by
  obtain ⟨hx, hb, hml, hown, hts, hl9, hG, hK, hA⟩ := id F
  unfold sp_L_act_140 at hf
  refine lv_iconst (v := 1) hx hb dL_act_140 (by decide) ?_
  refine lv_aload_n hx hb dL_act_141 rfl (lv_at hl 1 rfl) ?_
  obtain ⟨v50, T51, h52, hf⟩ := zb_i hf
  refine z_ok (z_runS (As := [.ref (G 0 8)]) (rest := [.int 1]) F kl_next ml_590 (c_L_next T T51 v50 h52) hP hS rfl rfl hl.1 (Nat.le_of_ble_eq_true rfl) dL_act_142 (Nat.le_of_ble_eq_true rfl) ⟨(Nat.le_of_ble_eq_true rfl), (Nat.le_of_ble_eq_true rfl)⟩ rfl) hS (fun H locs hP hS => ?_)
  refine lv_sipush (v := 400) hx hb dL_act_145 (by decide) ?_
  refine lv_irem hx hb dL_act_148 (by decide) ?_
  refine lv_iadd hx hb dL_act_149 ?_
  obtain ⟨x53, ex53, hf⟩ := zl_i hf
  refine z_topi ex53 ?_
  refine lv_istore (lv' := [(9, .int x53), (0, .ref (G 0 0)), (1, .ref (G 0 8)), (2, .int w2), (3, .int w3)]) hx hb dL_act_150 hl (by decide) rfl (fun ls hl => ?_)
  refine lv_aload_n hx hb dL_act_152 rfl (lv_at hl 1 rfl) ?_
  refine lv_iload hx hb dL_act_153 (lv_at hl 0 rfl) ?_
  obtain ⟨v54, T55, h56, hf⟩ := zbi_i hf
  obtain ⟨T57, eT57, hf⟩ := zl_i hf
  refine z_ok (z_runV (As := [.int x53]) (rest := []) F k_X3_candlesAfter ml_1155 (((c_X3_candlesAfter x53 T51 T55 (.inl v54) h56).lift (by decide))) hP hS (zV_0 (by decide)) rfl rfl rfl rfl hl.1 (Nat.le_of_ble_eq_true rfl) dL_act_155 (Nat.le_of_ble_eq_true rfl) ⟨(Nat.le_of_ble_eq_true rfl), (Nat.le_of_ble_eq_true rfl)⟩ rfl) hS (fun H locs hP hS => ?_)
  rw [← eT57] at hP
  refine lv_istore (lv' := [(10, .int v54), (9, .int x53), (0, .ref (G 0 0)), (1, .ref (G 0 8)), (2, .int w2), (3, .int w3)]) hx hb dL_act_158 hl (by decide) rfl (fun ls hl => ?_)
  refine lv_iload_n hx hb dL_act_160 rfl (lv_at hl 4 rfl) ?_
  obtain ⟨K58, eK58, hf⟩ := zl_i hf
  have J59 : ∀ (w65 : Int32) (w66 : Int32) (w67 : Int32) (w68 : Int32) (z69 : Int32) (T64 : zT) (H : Heap) (locs : List Loc) (ls : Array Slot), K58 w65 w66 w67 w68 z69 T64 = some (v, T') → zP 1 D Y G T64 H → va_S A s.heap H locs → lv_has ls 27 [(0, .ref (G 0 0)), (2, .int w65), (3, .int w66), (9, .int w67), (10, .int w68)] → W p l e (zR 9 10 60) s m args below meth c H locs (4) (24) (vx_MQ below (zQ 1 D Y G A (.inl (some (.int v))) T') (zX 1 D Y G A (.inl (some (.int v))) T') _ s 10 60 A) (F0 m 175 ls [.int z69]) := by
    intro w65 w66 w67 w68 z69 T64 H locs ls hf hP hS hl
    rw [eK58] at hf
    dsimp only at hf
    refine lv_istore (lv' := [(11, .int z69), (0, .ref (G 0 0)), (2, .int w65), (3, .int w66), (9, .int w67), (10, .int w68)]) hx hb dL_act_175 hl (by decide) rfl (fun ls hl => ?_)
    refine lv_aload_n hx hb dL_act_177 rfl (lv_at hl 1 rfl) ?_
    obtain ⟨v70, T71, h72, hf⟩ := zb_i hf
    obtain ⟨T73, eT73, hf⟩ := zl_i hf
    refine z_ok (z_runV (As := []) (rest := []) F k_X3_heldParties ml_1047 (((c_X3_heldParties T64 T71 v70 h72).lift (by decide))) hP hS (zV_0 (by decide)) rfl rfl rfl rfl hl.1 (Nat.le_of_ble_eq_true rfl) dL_act_178 (Nat.le_of_ble_eq_true rfl) ⟨(Nat.le_of_ble_eq_true rfl), (Nat.le_of_ble_eq_true rfl)⟩ rfl) hS (fun H locs hP hS => ?_)
    rw [← eT73] at hP
    refine lv_istore (lv' := [(12, .int v70), (11, .int z69), (0, .ref (G 0 0)), (2, .int w65), (3, .int w66), (9, .int w67), (10, .int w68)]) hx hb dL_act_181 hl (by decide) rfl (fun ls hl => ?_)
    refine lv_aload_n hx hb dL_act_183 rfl (lv_at hl 2 rfl) ?_
    refine lv_iload hx hb dL_act_184 (lv_at hl 5 rfl) ?_
    obtain ⟨v74, T75, h76, hf⟩ := zb_i hf
    obtain ⟨T77, eT77, hf⟩ := zl_i hf
    refine z_ok (z_runSW (As := [.ref (G 0 0), .int w67]) (rest := []) F kl_advanced ml_654 ((c_L_advanced w67 T73 T75 v74 h76).lift (by decide)) hP hS rfl rfl hl.1 (Nat.le_of_ble_eq_true rfl) dL_act_186 (Nat.le_of_ble_eq_true rfl) ⟨(Nat.le_of_ble_eq_true rfl), (Nat.le_of_ble_eq_true rfl)⟩ rfl) hS (fun H locs hP hS => ?_)
    rw [← eT77] at hP
    refine lv_aload_n hx hb dL_act_189 rfl (lv_at hl 2 rfl) ?_
    obtain ⟨v78, T79, h80, hf⟩ := zb_i hf
    obtain ⟨T81, eT81, hf⟩ := zl_i hf
    refine z_ok (z_runV (As := []) (rest := [.int v74]) F k_X3_heldParties ml_1047 (((c_X3_heldParties T77 T79 v78 h80).lift (by decide))) hP hS (zV_0 (by decide)) rfl rfl rfl rfl hl.1 (Nat.le_of_ble_eq_true rfl) dL_act_190 (Nat.le_of_ble_eq_true rfl) ⟨(Nat.le_of_ble_eq_true rfl), (Nat.le_of_ble_eq_true rfl)⟩ rfl) hS (fun H locs hP hS => ?_)
    rw [← eT81] at hP
    refine lv_iload hx hb dL_act_193 (lv_at hl 0 rfl) ?_
    refine lv_isub hx hb dL_act_195 ?_
    refine lv_icmp_ne (tgt := 226) hx hb dL_act_196 (by decide) (fun hc => ?_) (fun hc => ?_)
    · have hf := zif_n hf hc
      refine lv_iconst (v := 0) hx hb dL_act_226 (by decide) ?_
      obtain ⟨q1, q2⟩ := zs_i hf
      subst q1; subst q2
      exact z_zret hx hb hr (Or.inl rfl) rfl hP hS hlocks (Nat.le_of_ble_eq_true rfl) (Nat.le_of_ble_eq_true rfl) dL_act_227
    · have hf := zif_p hf hc
      refine lv_aload_n hx hb dL_act_199 rfl (lv_at hl 2 rfl) ?_
      obtain ⟨v82, T83, h84, hf⟩ := zb_i hf
      obtain ⟨T85, eT85, hf⟩ := zl_i hf
      refine z_ok (z_runV (As := []) (rest := []) F k_X3_candles ml_1015 (((c_X3_candles T81 T83 v82 h84).lift (by decide))) hP hS (zV_0 (by decide)) rfl rfl rfl rfl hl.1 (Nat.le_of_ble_eq_true rfl) dL_act_200 (Nat.le_of_ble_eq_true rfl) ⟨(Nat.le_of_ble_eq_true rfl), (Nat.le_of_ble_eq_true rfl)⟩ rfl) hS (fun H locs hP hS => ?_)
      rw [← eT85] at hP
      refine lv_iload hx hb dL_act_203 (lv_at hl 6 rfl) ?_
      refine lv_icmp_ne (tgt := 226) hx hb dL_act_205 (by decide) (fun hc => ?_) (fun hc => ?_)
      · have hf := zif_n hf hc
        refine lv_iconst (v := 0) hx hb dL_act_226 (by decide) ?_
        obtain ⟨q1, q2⟩ := zs_i hf
        subst q1; subst q2
        exact z_zret hx hb hr (Or.inl rfl) rfl hP hS hlocks (Nat.le_of_ble_eq_true rfl) (Nat.le_of_ble_eq_true rfl) dL_act_227
      · have hf := zif_p hf hc
        refine lv_iload_n hx hb dL_act_208 rfl (lv_at hl 3 rfl) ?_
        refine lv_if_eq (tgt := 222) hx hb dL_act_209 (by decide) (fun hc => ?_) (fun hc => ?_)
        · have hf := zif_p hf hc
          refine lv_iconst (v := 1) hx hb dL_act_222 (by decide) ?_
          refine lv_goto (tgt := 227) hx hb dL_act_223 (by decide) ?_
          obtain ⟨q1, q2⟩ := zs_i hf
          subst q1; subst q2
          exact z_zret hx hb hr (Or.inr rfl) rfl hP hS hlocks (Nat.le_of_ble_eq_true rfl) (Nat.le_of_ble_eq_true rfl) dL_act_227
        · have hf := zif_n hf hc
          refine lv_aload_n hx hb dL_act_212 rfl (lv_at hl 2 rfl) ?_
          refine lv_iload_n hx hb dL_act_213 rfl (lv_at hl 4 rfl) ?_
          obtain ⟨v86, T87, h88, hf⟩ := zbi_i hf
          obtain ⟨T89, eT89, hf⟩ := zl_i hf
          refine z_ok (z_runV (As := [.int w66]) (rest := []) F k_X3_wishesOf ml_1043 (((c_X3_wishesOf w66 T85 T87 (.inl v86) h88).lift (by decide))) hP hS (zV_0 (by decide)) rfl rfl rfl rfl hl.1 (Nat.le_of_ble_eq_true rfl) dL_act_214 (Nat.le_of_ble_eq_true rfl) ⟨(Nat.le_of_ble_eq_true rfl), (Nat.le_of_ble_eq_true rfl)⟩ rfl) hS (fun H locs hP hS => ?_)
          rw [← eT89] at hP
          refine lv_iload hx hb dL_act_217 (lv_at hl 1 rfl) ?_
          refine lv_icmp_ne (tgt := 226) hx hb dL_act_219 (by decide) (fun hc => ?_) (fun hc => ?_)
          · have hf := zif_n hf hc
            refine lv_iconst (v := 0) hx hb dL_act_226 (by decide) ?_
            obtain ⟨q1, q2⟩ := zs_i hf
            subst q1; subst q2
            exact z_zret hx hb hr (Or.inl rfl) rfl hP hS hlocks (Nat.le_of_ble_eq_true rfl) (Nat.le_of_ble_eq_true rfl) dL_act_227
          · have hf := zif_p hf hc
            refine lv_iconst (v := 1) hx hb dL_act_222 (by decide) ?_
            refine lv_goto (tgt := 227) hx hb dL_act_223 (by decide) ?_
            obtain ⟨q1, q2⟩ := zs_i hf
            subst q1; subst q2
            exact z_zret hx hb hr (Or.inr rfl) rfl hP hS hlocks (Nat.le_of_ble_eq_true rfl) (Nat.le_of_ble_eq_true rfl) dL_act_227
  refine lv_if_ne (tgt := 168) hx hb dL_act_161 (by decide) (fun hc => ?_) (fun hc => ?_)
  · have hf := zif_n hf hc
    refine lv_aload_n hx hb dL_act_168 rfl (lv_at hl 2 rfl) ?_
    refine lv_iload_n hx hb dL_act_169 rfl (lv_at hl 5 rfl) ?_
    refine lv_iload hx hb dL_act_170 (lv_at hl 1 rfl) ?_
    obtain ⟨v60, T61, h62, hf⟩ := zbi_i hf
    obtain ⟨T63, eT63, hf⟩ := zl_i hf
    refine z_ok (z_runV (As := [.int w3, .int x53]) (rest := []) F k_X3_wishesAfter ml_1166 (((c_X3_wishesAfter w3 x53 T57 T61 (.inl v60) h62).lift (by decide))) hP hS (zV_0 (by decide)) rfl rfl rfl rfl hl.1 (Nat.le_of_ble_eq_true rfl) dL_act_172 (Nat.le_of_ble_eq_true rfl) ⟨(Nat.le_of_ble_eq_true rfl), (Nat.le_of_ble_eq_true rfl)⟩ rfl) hS (fun H locs hP hS => ?_)
    rw [← eT63] at hP
    refine W.widen (k := 4) (n := 24) (Nat.le_of_ble_eq_true rfl) (Nat.le_of_ble_eq_true rfl) ?_
    exact J59 w2 w3 x53 v54 v60 T63 _ _ _ hf hP hS (lv_sub hl [2, 4, 5, 1, 0] rfl)
  · have hf := zif_p hf hc
    refine lv_iconst (v := 0) hx hb dL_act_164 (by decide) ?_
    refine lv_goto (tgt := 175) hx hb dL_act_165 (by decide) ?_
    refine W.widen (k := 4) (n := 24) (Nat.le_of_ble_eq_true rfl) (Nat.le_of_ble_eq_true rfl) ?_
    exact J59 w2 w3 x53 v54 0 T57 _ _ _ hf hP hS (lv_sub hl [2, 4, 5, 1, 0] rfl)
set_option maxHeartbeats 8000000 in
set_option maxRecDepth 100000 in
theorem s_L_act_228 {p : Program} {l : Launch} {e : Env} {s : State} {m : MethodId} {args : Array Value} {below : List Frame} {meth : Method} {c : Code} {D : va_G} {Y : Nat → ClassId} {S V : Nat → Nat} {G : Nat → Nat → Nat} {A : Nat → Prop} {c0 : Cond} (F : zF 1 9 10 60 p l s m args c cL_act 27 RL c0 D Y S V G A) (hr : meth.sig.returnType = (some .boolean)) (hlocks : meth.locks = false) (hex : ∀ x ∈ c.exceptionTable.toList, False) (w2 : Int32) (w3 : Int32) (T : zT) {T' : zT} {v : Int32} {H : Heap} {locs : List Loc} {ls : Array Slot} (hf : sp_L_act_228 w2 w3 T = some (v, T')) (hP : zP 1 D Y G T H) (hS : va_S A s.heap H locs) (hl : lv_has ls 27 [(0, .ref (G 0 0)), (2, .int w2), (3, .int w3)]) :
    W p l e (zR 9 10 60) s m args below meth c H locs 1 6 (vx_MQ below (zQ 1 D Y G A (.inl (some (.int v))) T') (zX 1 D Y G A (.inl (some (.int v))) T') args s 10 60 A) (F0 m 228 ls []) := by
  obtain ⟨hx, hb, hml, hown, hts, hl9, hG, hK, hA⟩ := id F
  unfold sp_L_act_228 at hf
  refine lv_iload_n hx hb dL_act_228 rfl (lv_at hl 1 rfl) ?_
  obtain ⟨K90, eK90, hf⟩ := zl_i hf
  have J91 : ∀ (w97 : Int32) (w98 : Int32) (z99 : Int32) (T96 : zT) (H : Heap) (locs : List Loc) (ls : Array Slot), K90 w97 w98 z99 T96 = some (v, T') → zP 1 D Y G T96 H → va_S A s.heap H locs → lv_has ls 27 [(0, .ref (G 0 0)), (2, .int w97), (3, .int w98)] → W p l e (zR 9 10 60) s m args below meth c H locs (2) (12) (vx_MQ below (zQ 1 D Y G A (.inl (some (.int v))) T') (zX 1 D Y G A (.inl (some (.int v))) T') _ s 10 60 A) (F0 m 242 ls [.int z99]) := by
    intro w97 w98 z99 T96 H locs ls hf hP hS hl
    rw [eK90] at hf
    dsimp only at hf
    refine lv_istore (lv' := [(13, .int z99), (0, .ref (G 0 0)), (2, .int w97), (3, .int w98)]) hx hb dL_act_242 hl (by decide) rfl (fun ls hl => ?_)
    refine lv_aload_n hx hb dL_act_244 rfl (lv_at hl 1 rfl) ?_
    obtain ⟨v100, T101, h102, hf⟩ := zb_i hf
    obtain ⟨T103, eT103, hf⟩ := zl_i hf
    refine z_ok (z_runV (As := []) (rest := []) F k_X3_nextDraw ml_1174 (((c_X3_nextDraw T96 T101 v100 h102).lift (by decide))) hP hS (zV_0 (by decide)) rfl rfl rfl rfl hl.1 (Nat.le_of_ble_eq_true rfl) dL_act_245 (Nat.le_of_ble_eq_true rfl) ⟨(Nat.le_of_ble_eq_true rfl), (Nat.le_of_ble_eq_true rfl)⟩ rfl) hS (fun H locs hP hS => ?_)
    rw [← eT103] at hP
    refine lv_istore (lv' := [(14, .int v100), (13, .int z99), (0, .ref (G 0 0)), (2, .int w97), (3, .int w98)]) hx hb dL_act_248 hl (by decide) rfl (fun ls hl => ?_)
    refine lv_aload_n hx hb dL_act_250 rfl (lv_at hl 2 rfl) ?_
    refine lv_iload_n hx hb dL_act_251 rfl (lv_at hl 4 rfl) ?_
    obtain ⟨v104, T105, h106, hf⟩ := zb_i hf
    obtain ⟨T107, eT107, hf⟩ := zl_i hf
    refine z_ok (z_runSW (As := [.ref (G 0 0), .int w98]) (rest := []) F kl_drawn ml_665 ((c_L_drawn w98 T103 T105 v104 h106).lift (by decide)) hP hS rfl rfl hl.1 (Nat.le_of_ble_eq_true rfl) dL_act_252 (Nat.le_of_ble_eq_true rfl) ⟨(Nat.le_of_ble_eq_true rfl), (Nat.le_of_ble_eq_true rfl)⟩ rfl) hS (fun H locs hP hS => ?_)
    rw [← eT107] at hP
    refine lv_istore (lv' := [(15, .int v104), (14, .int v100), (13, .int z99), (0, .ref (G 0 0)), (2, .int w97), (3, .int w98)]) hx hb dL_act_255 hl (by decide) rfl (fun ls hl => ?_)
    refine lv_iload hx hb dL_act_257 (lv_at hl 2 rfl) ?_
    refine lv_if_ge (tgt := 293) hx hb dL_act_259 (by decide) (fun hc => ?_) (fun hc => ?_)
    · have hf := zif_p hf hc
      refine lv_iload hx hb dL_act_293 (lv_at hl 0 rfl) ?_
      refine lv_iload hx hb dL_act_295 (lv_at hl 2 rfl) ?_
      refine lv_icmp_ne (tgt := 336) hx hb dL_act_297 (by decide) (fun hc => ?_) (fun hc => ?_)
      · have hf := zif_n hf hc
        refine lv_iconst (v := 0) hx hb dL_act_336 (by decide) ?_
        obtain ⟨q1, q2⟩ := zs_i hf
        subst q1; subst q2
        exact z_zret hx hb hr (Or.inl rfl) rfl hP hS hlocks (Nat.le_of_ble_eq_true rfl) (Nat.le_of_ble_eq_true rfl) dL_act_337
      · have hf := zif_p hf hc
        refine lv_iload hx hb dL_act_300 (lv_at hl 2 rfl) ?_
        refine lv_iconst (v := 1) hx hb dL_act_302 (by decide) ?_
        obtain ⟨K108, eK108, hf⟩ := zl_i hf
        have J109 : ∀ (w115 : Int32) (T114 : zT) (H : Heap) (locs : List Loc) (ls : Array Slot), K108 w115 T114 = some (v, T') → zP 1 D Y G T114 H → va_S A s.heap H locs → lv_has ls 27 [(0, .ref (G 0 0)), (3, .int w115)] → W p l e (zR 9 10 60) s m args below meth c H locs (5) (30) (vx_MQ below (zQ 1 D Y G A (.inl (some (.int v))) T') (zX 1 D Y G A (.inl (some (.int v))) T') _ s 10 60 A) (F0 m 316 ls []) := by
          intro w115 T114 H locs ls hf hP hS hl
          rw [eK108] at hf
          dsimp only at hf
          refine lv_aload_n hx hb dL_act_316 rfl (lv_at hl 0 rfl) ?_
          obtain ⟨v116, T117, h118, hf⟩ := zb_i hf
          obtain ⟨T119, eT119, hf⟩ := zl_i hf
          refine z_ok (z_runV (As := []) (rest := []) F k_X3_seed ml_1011 (((c_X3_seed T114 T117 v116 h118).lift (by decide))) hP hS (zV_0 (by decide)) rfl rfl rfl rfl hl.1 (Nat.le_of_ble_eq_true rfl) dL_act_317 (Nat.le_of_ble_eq_true rfl) ⟨(Nat.le_of_ble_eq_true rfl), (Nat.le_of_ble_eq_true rfl)⟩ rfl) hS (fun H locs hP hS => ?_)
          rw [← eT119] at hP
          refine lv_sipush (v := 360) hx hb dL_act_320 (by decide) ?_
          refine lv_irem hx hb dL_act_323 (by decide) ?_
          refine lv_aload_n hx hb dL_act_324 rfl (lv_at hl 0 rfl) ?_
          refine lv_iload_n hx hb dL_act_325 rfl (lv_at hl 1 rfl) ?_
          obtain ⟨v120, T121, h122, hf⟩ := zbi_i hf
          obtain ⟨T123, eT123, hf⟩ := zl_i hf
          refine z_ok (z_runV (As := [.int w115]) (rest := [.int (v116 - v116 / 360 * 360)]) F k_X3_birthdayOf ml_1035 (((c_X3_birthdayOf w115 T119 T121 (.inl v120) h122).lift (by decide))) hP hS (zV_0 (by decide)) rfl rfl rfl rfl hl.1 (Nat.le_of_ble_eq_true rfl) dL_act_326 (Nat.le_of_ble_eq_true rfl) ⟨(Nat.le_of_ble_eq_true rfl), (Nat.le_of_ble_eq_true rfl)⟩ rfl) hS (fun H locs hP hS => ?_)
          rw [← eT123] at hP
          refine lv_icmp_ne (tgt := 336) hx hb dL_act_329 (by decide) (fun hc => ?_) (fun hc => ?_)
          · have hf := zif_n hf hc
            refine lv_iconst (v := 0) hx hb dL_act_336 (by decide) ?_
            obtain ⟨q1, q2⟩ := zs_i hf
            subst q1; subst q2
            exact z_zret hx hb hr (Or.inl rfl) rfl hP hS hlocks (Nat.le_of_ble_eq_true rfl) (Nat.le_of_ble_eq_true rfl) dL_act_337
          · have hf := zif_p hf hc
            refine lv_iconst (v := 1) hx hb dL_act_332 (by decide) ?_
            refine lv_goto (tgt := 337) hx hb dL_act_333 (by decide) ?_
            obtain ⟨q1, q2⟩ := zs_i hf
            subst q1; subst q2
            exact z_zret hx hb hr (Or.inr rfl) rfl hP hS hlocks (Nat.le_of_ble_eq_true rfl) (Nat.le_of_ble_eq_true rfl) dL_act_337
        refine lv_icmp_gt (tgt := 316) hx hb dL_act_303 (by decide) (fun hc => ?_) (fun hc => ?_)
        · have hf := zif_p hf hc
          refine W.widen (k := 5) (n := 30) (Nat.le_of_ble_eq_true rfl) (Nat.le_of_ble_eq_true rfl) ?_
          exact J109 w98 T107 _ _ _ hf hP hS (lv_sub hl [3, 5] rfl)
        · have hf := zif_n hf hc
          refine lv_aload_n hx hb dL_act_306 rfl (lv_at hl 3 rfl) ?_
          refine lv_iload_n hx hb dL_act_307 rfl (lv_at hl 5 rfl) ?_
          obtain ⟨v110, T111, h112, hf⟩ := zbi_i hf
          obtain ⟨T113, eT113, hf⟩ := zl_i hf
          refine z_ok (z_runV (As := [.int w98]) (rest := []) F k_X3_birthdayOf ml_1035 (((c_X3_birthdayOf w98 T107 T111 (.inl v110) h112).lift (by decide))) hP hS (zV_0 (by decide)) rfl rfl rfl rfl hl.1 (Nat.le_of_ble_eq_true rfl) dL_act_308 (Nat.le_of_ble_eq_true rfl) ⟨(Nat.le_of_ble_eq_true rfl), (Nat.le_of_ble_eq_true rfl)⟩ rfl) hS (fun H locs hP hS => ?_)
          rw [← eT113] at hP
          refine lv_iload hx hb dL_act_311 (lv_at hl 1 rfl) ?_
          refine lv_icmp_ne (tgt := 336) hx hb dL_act_313 (by decide) (fun hc => ?_) (fun hc => ?_)
          · have hf := zif_n hf hc
            refine lv_iconst (v := 0) hx hb dL_act_336 (by decide) ?_
            obtain ⟨q1, q2⟩ := zs_i hf
            subst q1; subst q2
            exact z_zret hx hb hr (Or.inl rfl) rfl hP hS hlocks (Nat.le_of_ble_eq_true rfl) (Nat.le_of_ble_eq_true rfl) dL_act_337
          · have hf := zif_p hf hc
            refine W.widen (k := 5) (n := 30) (Nat.le_of_ble_eq_true rfl) (Nat.le_of_ble_eq_true rfl) ?_
            exact J109 w98 T113 _ _ _ hf hP hS (lv_sub hl [3, 5] rfl)
    · have hf := zif_n hf hc
      refine lv_iload hx hb dL_act_262 (lv_at hl 0 rfl) ?_
      refine lv_iload_n hx hb dL_act_264 rfl (lv_at hl 4 rfl) ?_
      obtain ⟨K124, eK124, hf⟩ := zl_i hf
      have J125 : ∀ (z127 : Int32) (z128 : Int32) (T126 : zT) (H : Heap) (locs : List Loc) (ls : Array Slot), K124 z127 z128 T126 = some (v, T') → zP 1 D Y G T126 H → va_S A s.heap H locs → lv_has ls 27 [(0, .ref (G 0 0))] → W p l e (zR 9 10 60) s m args below meth c H locs (4) (24) (vx_MQ below (zQ 1 D Y G A (.inl (some (.int v))) T') (zX 1 D Y G A (.inl (some (.int v))) T') _ s 10 60 A) (F0 m 275 ls [.int z128, .int z127]) := by
        intro z127 z128 T126 H locs ls hf hP hS hl
        rw [eK124] at hf
        dsimp only at hf
        refine lv_icmp_ne (tgt := 291) hx hb dL_act_275 (by decide) (fun hc => ?_) (fun hc => ?_)
        · have hf := zif_n hf hc
          refine lv_iconst (v := 0) hx hb dL_act_291 (by decide) ?_
          obtain ⟨q1, q2⟩ := zs_i hf
          subst q1; subst q2
          exact z_zret hx hb hr (Or.inl rfl) rfl hP hS hlocks (Nat.le_of_ble_eq_true rfl) (Nat.le_of_ble_eq_true rfl) dL_act_292
        · have hf := zif_p hf hc
          refine lv_aload_n hx hb dL_act_278 rfl (lv_at hl 0 rfl) ?_
          refine lv_iconst (v := 0) hx hb dL_act_279 (by decide) ?_
          refine lv_iconst (v := 1) hx hb dL_act_280 (by decide) ?_
          obtain ⟨v129, T130, h131, hf⟩ := zb_i hf
          obtain ⟨T132, eT132, hf⟩ := zl_i hf
          refine z_ok (z_runSW (As := [.ref (G 0 0), .int 0, .int 1]) (rest := []) F kl_baked ml_729 ((c_L_baked 0 1 T126 T130 v129 h131).lift (by decide)) hP hS rfl rfl hl.1 (Nat.le_of_ble_eq_true rfl) dL_act_281 (Nat.le_of_ble_eq_true rfl) ⟨(Nat.le_of_ble_eq_true rfl), (Nat.le_of_ble_eq_true rfl)⟩ rfl) hS (fun H locs hP hS => ?_)
          rw [← eT132] at hP
          refine lv_if_eq (tgt := 291) hx hb dL_act_284 (by decide) (fun hc => ?_) (fun hc => ?_)
          · have hf := zif_p hf hc
            refine lv_iconst (v := 0) hx hb dL_act_291 (by decide) ?_
            obtain ⟨q1, q2⟩ := zs_i hf
            subst q1; subst q2
            exact z_zret hx hb hr (Or.inl rfl) rfl hP hS hlocks (Nat.le_of_ble_eq_true rfl) (Nat.le_of_ble_eq_true rfl) dL_act_292
          · have hf := zif_n hf hc
            refine lv_iconst (v := 1) hx hb dL_act_287 (by decide) ?_
            refine lv_goto (tgt := 292) hx hb dL_act_288 (by decide) ?_
            obtain ⟨q1, q2⟩ := zs_i hf
            subst q1; subst q2
            exact z_zret hx hb hr (Or.inr rfl) rfl hP hS hlocks (Nat.le_of_ble_eq_true rfl) (Nat.le_of_ble_eq_true rfl) dL_act_292
      refine lv_if_ne (tgt := 273) hx hb dL_act_265 (by decide) (fun hc => ?_) (fun hc => ?_)
      · have hf := zif_n hf hc
        refine lv_bipush (v := (-3)) hx hb dL_act_273 (by decide) ?_
        refine W.widen (k := 4) (n := 24) (Nat.le_of_ble_eq_true rfl) (Nat.le_of_ble_eq_true rfl) ?_
        exact J125 v104 (-3) T107 _ _ _ hf hP hS (lv_sub hl [3] rfl)
      · have hf := zif_p hf hc
        refine lv_bipush (v := (-5)) hx hb dL_act_268 (by decide) ?_
        refine lv_goto (tgt := 275) hx hb dL_act_270 (by decide) ?_
        refine W.widen (k := 4) (n := 24) (Nat.le_of_ble_eq_true rfl) (Nat.le_of_ble_eq_true rfl) ?_
        exact J125 v104 (-5) T107 _ _ _ hf hP hS (lv_sub hl [3] rfl)
  refine lv_if_ne (tgt := 237) hx hb dL_act_229 (by decide) (fun hc => ?_) (fun hc => ?_)
  · have hf := zif_n hf hc
    refine lv_aload_n hx hb dL_act_237 rfl (lv_at hl 0 rfl) ?_
    refine lv_iload_n hx hb dL_act_238 rfl (lv_at hl 2 rfl) ?_
    obtain ⟨v92, T93, h94, hf⟩ := zbi_i hf
    obtain ⟨T95, eT95, hf⟩ := zl_i hf
    refine z_ok (z_runV (As := [.int w3]) (rest := []) F k_X3_drawsNeeded ml_1170 (((c_X3_drawsNeeded w3 T T93 (.inl v92) h94).lift (by decide))) hP hS (zV_0 (by decide)) rfl rfl rfl rfl hl.1 (Nat.le_of_ble_eq_true rfl) dL_act_239 (Nat.le_of_ble_eq_true rfl) ⟨(Nat.le_of_ble_eq_true rfl), (Nat.le_of_ble_eq_true rfl)⟩ rfl) hS (fun H locs hP hS => ?_)
    rw [← eT95] at hP
    refine W.widen (k := 2) (n := 12) (Nat.le_of_ble_eq_true rfl) (Nat.le_of_ble_eq_true rfl) ?_
    exact J91 w2 w3 v92 T95 _ _ _ hf hP hS (lv_sub hl [0, 1, 2] rfl)
  · have hf := zif_p hf hc
    refine lv_bipush (v := (-5)) hx hb dL_act_232 (by decide) ?_
    refine lv_goto (tgt := 242) hx hb dL_act_234 (by decide) ?_
    refine W.widen (k := 2) (n := 12) (Nat.le_of_ble_eq_true rfl) (Nat.le_of_ble_eq_true rfl) ?_
    exact J91 w2 w3 (-5) T _ _ _ hf hP hS (lv_sub hl [0, 1, 2] rfl)
set_option maxHeartbeats 8000000 in
set_option maxRecDepth 100000 in
theorem s_L_act_338 {p : Program} {l : Launch} {e : Env} {s : State} {m : MethodId} {args : Array Value} {below : List Frame} {meth : Method} {c : Code} {D : va_G} {Y : Nat → ClassId} {S V : Nat → Nat} {G : Nat → Nat → Nat} {A : Nat → Prop} {c0 : Cond} (F : zF 1 9 10 60 p l s m args c cL_act 27 RL c0 D Y S V G A) (hr : meth.sig.returnType = (some .boolean)) (hlocks : meth.locks = false) (hex : ∀ x ∈ c.exceptionTable.toList, False) (w2 : Int32) (w3 : Int32) (w5 : Int32) (w6 : Int32) (w7 : Int32) (T : zT) {T' : zT} {v : Int32} {H : Heap} {locs : List Loc} {ls : Array Slot} (hf : sp_L_act_338 w2 w3 w5 w6 w7 T = some (v, T')) (hP : zP 1 D Y G T H) (hS : va_S A s.heap H locs) (hl : lv_has ls 27 [(0, .ref (G 0 0)), (2, .int w2), (3, .int w3), (5, .int w5), (6, .int w6), (7, .int w7)]) :
    W p l e (zR 9 10 60) s m args below meth c H locs 1 6 (vx_MQ below (zQ 1 D Y G A (.inl (some (.int v))) T') (zX 1 D Y G A (.inl (some (.int v))) T') args s 10 60 A) (F0 m 338 ls []) := by
  obtain ⟨hx, hb, hml, hown, hts, hl9, hG, hK, hA⟩ := id F
  unfold sp_L_act_338 at hf
  refine lv_iload_n hx hb dL_act_338 rfl (lv_at hl 1 rfl) ?_
  obtain ⟨K133, eK133, hf⟩ := zl_i hf
  have J134 : ∀ (w144 : Int32) (w145 : Int32) (w146 : Int32) (w147 : Int32) (w148 : Int32) (z149 : Int32) (T143 : zT) (H : Heap) (locs : List Loc) (ls : Array Slot), K133 w144 w145 w146 w147 w148 z149 T143 = some (v, T') → zP 1 D Y G T143 H → va_S A s.heap H locs → lv_has ls 27 [(0, .ref (G 0 0)), (2, .int w144), (3, .int w145), (5, .int w146), (6, .int w147), (7, .int w148)] → W p l e (zR 9 10 60) s m args below meth c H locs (5) (30) (vx_MQ below (zQ 1 D Y G A (.inl (some (.int v))) T') (zX 1 D Y G A (.inl (some (.int v))) T') _ s 10 60 A) (F0 m 360 ls [.int z149]) := by
    intro w144 w145 w146 w147 w148 z149 T143 H locs ls hf hP hS hl
    rw [eK133] at hf
    dsimp only at hf
    refine lv_istore (lv' := [(16, .int z149), (0, .ref (G 0 0)), (2, .int w144), (3, .int w145), (5, .int w146), (6, .int w147), (7, .int w148)]) hx hb dL_act_360 hl (by decide) rfl (fun ls hl => ?_)
    refine lv_aload_n hx hb dL_act_362 rfl (lv_at hl 1 rfl) ?_
    refine lv_iload_n hx hb dL_act_363 rfl (lv_at hl 3 rfl) ?_
    refine lv_iload hx hb dL_act_364 (lv_at hl 4 rfl) ?_
    refine lv_iload hx hb dL_act_366 (lv_at hl 5 rfl) ?_
    obtain ⟨v150, T151, h152, hf⟩ := zb_i hf
    obtain ⟨T153, eT153, hf⟩ := zl_i hf
    refine z_ok (z_runSW (As := [.ref (G 0 0), .int w145, .int w146, .int w147]) (rest := []) F kl_set ml_680 ((c_L_set w145 w146 w147 T143 T151 v150 h152).lift (by decide)) hP hS rfl rfl hl.1 (Nat.le_of_ble_eq_true rfl) dL_act_368 (Nat.le_of_ble_eq_true rfl) ⟨(Nat.le_of_ble_eq_true rfl), (Nat.le_of_ble_eq_true rfl)⟩ rfl) hS (fun H locs hP hS => ?_)
    rw [← eT153] at hP
    refine lv_istore (lv' := [(17, .int v150), (16, .int z149), (0, .ref (G 0 0)), (2, .int w144), (3, .int w145), (5, .int w146), (6, .int w147), (7, .int w148)]) hx hb dL_act_371 hl (by decide) rfl (fun ls hl => ?_)
    refine lv_iload_n hx hb dL_act_373 rfl (lv_at hl 3 rfl) ?_
    obtain ⟨K154, eK154, hf⟩ := zl_i hf
    have J155 : ∀ (w165 : Int32) (w166 : Int32) (T164 : zT) (H : Heap) (locs : List Loc) (ls : Array Slot), K154 w165 w166 T164 = some (v, T') → zP 1 D Y G T164 H → va_S A s.heap H locs → lv_has ls 27 [(0, .ref (G 0 0)), (2, .int w165), (17, .int w166)] → W p l e (zR 9 10 60) s m args below meth c H locs (8) (48) (vx_MQ below (zQ 1 D Y G A (.inl (some (.int v))) T') (zX 1 D Y G A (.inl (some (.int v))) T') _ s 10 60 A) (F0 m 382 ls []) := by
      intro w165 w166 T164 H locs ls hf hP hS hl
      rw [eK154] at hf
      dsimp only at hf
      refine lv_iload hx hb dL_act_382 (lv_at hl 2 rfl) ?_
      refine lv_iload_n hx hb dL_act_384 rfl (lv_at hl 1 rfl) ?_
      obtain ⟨K167, eK167, hf⟩ := zl_i hf
      have J168 : ∀ (z170 : Int32) (z171 : Int32) (T169 : zT) (H : Heap) (locs : List Loc) (ls : Array Slot), K167 z170 z171 T169 = some (v, T') → zP 1 D Y G T169 H → va_S A s.heap H locs → lv_has ls 27 [(0, .ref (G 0 0))] → W p l e (zR 9 10 60) s m args below meth c H locs (8) (48) (vx_MQ below (zQ 1 D Y G A (.inl (some (.int v))) T') (zX 1 D Y G A (.inl (some (.int v))) T') _ s 10 60 A) (F0 m 395 ls [.int z171, .int z170]) := by
        intro z170 z171 T169 H locs ls hf hP hS hl
        rw [eK167] at hf
        dsimp only at hf
        refine lv_icmp_ne (tgt := 411) hx hb dL_act_395 (by decide) (fun hc => ?_) (fun hc => ?_)
        · have hf := zif_n hf hc
          refine lv_iconst (v := 0) hx hb dL_act_411 (by decide) ?_
          refine lv_goto (tgt := 440) hx hb dL_act_412 (by decide) ?_
          obtain ⟨q1, q2⟩ := zs_i hf
          subst q1; subst q2
          exact z_zret hx hb hr (Or.inl rfl) rfl hP hS hlocks (Nat.le_of_ble_eq_true rfl) (Nat.le_of_ble_eq_true rfl) dL_act_440
        · have hf := zif_p hf hc
          refine lv_aload_n hx hb dL_act_398 rfl (lv_at hl 0 rfl) ?_
          refine lv_iconst (v := 1) hx hb dL_act_399 (by decide) ?_
          refine lv_iconst (v := 1) hx hb dL_act_400 (by decide) ?_
          obtain ⟨v172, T173, h174, hf⟩ := zb_i hf
          obtain ⟨T175, eT175, hf⟩ := zl_i hf
          refine z_ok (z_runSW (As := [.ref (G 0 0), .int 1, .int 1]) (rest := []) F kl_baked ml_729 ((c_L_baked 1 1 T169 T173 v172 h174).lift (by decide)) hP hS rfl rfl hl.1 (Nat.le_of_ble_eq_true rfl) dL_act_401 (Nat.le_of_ble_eq_true rfl) ⟨(Nat.le_of_ble_eq_true rfl), (Nat.le_of_ble_eq_true rfl)⟩ rfl) hS (fun H locs hP hS => ?_)
          rw [← eT175] at hP
          refine lv_if_eq (tgt := 411) hx hb dL_act_404 (by decide) (fun hc => ?_) (fun hc => ?_)
          · have hf := zif_p hf hc
            refine lv_iconst (v := 0) hx hb dL_act_411 (by decide) ?_
            refine lv_goto (tgt := 440) hx hb dL_act_412 (by decide) ?_
            obtain ⟨q1, q2⟩ := zs_i hf
            subst q1; subst q2
            exact z_zret hx hb hr (Or.inl rfl) rfl hP hS hlocks (Nat.le_of_ble_eq_true rfl) (Nat.le_of_ble_eq_true rfl) dL_act_440
          · have hf := zif_n hf hc
            refine lv_iconst (v := 1) hx hb dL_act_407 (by decide) ?_
            refine lv_goto (tgt := 440) hx hb dL_act_408 (by decide) ?_
            obtain ⟨q1, q2⟩ := zs_i hf
            subst q1; subst q2
            exact z_zret hx hb hr (Or.inr rfl) rfl hP hS hlocks (Nat.le_of_ble_eq_true rfl) (Nat.le_of_ble_eq_true rfl) dL_act_440
      refine lv_if_ne (tgt := 393) hx hb dL_act_385 (by decide) (fun hc => ?_) (fun hc => ?_)
      · have hf := zif_n hf hc
        refine lv_bipush (v := (-3)) hx hb dL_act_393 (by decide) ?_
        refine W.widen (k := 8) (n := 48) (Nat.le_of_ble_eq_true rfl) (Nat.le_of_ble_eq_true rfl) ?_
        exact J168 w166 (-3) T164 _ _ _ hf hP hS (lv_sub hl [0] rfl)
      · have hf := zif_p hf hc
        refine lv_bipush (v := (-5)) hx hb dL_act_388 (by decide) ?_
        refine lv_goto (tgt := 395) hx hb dL_act_390 (by decide) ?_
        refine W.widen (k := 8) (n := 48) (Nat.le_of_ble_eq_true rfl) (Nat.le_of_ble_eq_true rfl) ?_
        exact J168 w166 (-5) T164 _ _ _ hf hP hS (lv_sub hl [0] rfl)
    refine lv_if_eq (tgt := 382) hx hb dL_act_374 (by decide) (fun hc => ?_) (fun hc => ?_)
    · have hf := zif_p hf hc
      refine W.widen (k := 8) (n := 48) (Nat.le_of_ble_eq_true rfl) (Nat.le_of_ble_eq_true rfl) ?_
      exact J155 w144 v150 T153 _ _ _ hf hP hS (lv_sub hl [2, 3, 0] rfl)
    · have hf := zif_n hf hc
      refine lv_iload hx hb dL_act_377 (lv_at hl 1 rfl) ?_
      refine lv_if_eq (tgt := 415) hx hb dL_act_379 (by decide) (fun hc => ?_) (fun hc => ?_)
      · have hf := zif_p hf hc
        refine lv_aload_n hx hb dL_act_415 rfl (lv_at hl 2 rfl) ?_
        refine lv_iload_n hx hb dL_act_416 rfl (lv_at hl 4 rfl) ?_
        obtain ⟨v156, T157, h158, hf⟩ := zbi_i hf
        obtain ⟨T159, eT159, hf⟩ := zl_i hf
        refine z_ok (z_runV (As := [.int w145]) (rest := []) F k_X3_birthdayOf ml_1035 (((c_X3_birthdayOf w145 T153 T157 (.inl v156) h158).lift (by decide))) hP hS (zV_0 (by decide)) rfl rfl rfl rfl hl.1 (Nat.le_of_ble_eq_true rfl) dL_act_417 (Nat.le_of_ble_eq_true rfl) ⟨(Nat.le_of_ble_eq_true rfl), (Nat.le_of_ble_eq_true rfl)⟩ rfl) hS (fun H locs hP hS => ?_)
        rw [← eT159] at hP
        refine lv_iload hx hb dL_act_420 (lv_at hl 7 rfl) ?_
        refine lv_icmp_ne (tgt := 439) hx hb dL_act_422 (by decide) (fun hc => ?_) (fun hc => ?_)
        · have hf := zif_n hf hc
          refine lv_iconst (v := 0) hx hb dL_act_439 (by decide) ?_
          obtain ⟨q1, q2⟩ := zs_i hf
          subst q1; subst q2
          exact z_zret hx hb hr (Or.inl rfl) rfl hP hS hlocks (Nat.le_of_ble_eq_true rfl) (Nat.le_of_ble_eq_true rfl) dL_act_440
        · have hf := zif_p hf hc
          refine lv_aload_n hx hb dL_act_425 rfl (lv_at hl 2 rfl) ?_
          refine lv_iload_n hx hb dL_act_426 rfl (lv_at hl 4 rfl) ?_
          obtain ⟨v160, T161, h162, hf⟩ := zbi_i hf
          obtain ⟨T163, eT163, hf⟩ := zl_i hf
          refine z_ok (z_runV (As := [.int w145]) (rest := []) F k_X3_daysUntilBirthday ml_1077 (((c_X3_daysUntilBirthday w145 T159 T161 (.inl v160) h162).lift (by decide))) hP hS (zV_0 (by decide)) rfl rfl rfl rfl hl.1 (Nat.le_of_ble_eq_true rfl) dL_act_427 (Nat.le_of_ble_eq_true rfl) ⟨(Nat.le_of_ble_eq_true rfl), (Nat.le_of_ble_eq_true rfl)⟩ rfl) hS (fun H locs hP hS => ?_)
          rw [← eT163] at hP
          refine lv_iload hx hb dL_act_430 (lv_at hl 0 rfl) ?_
          refine lv_icmp_ne (tgt := 439) hx hb dL_act_432 (by decide) (fun hc => ?_) (fun hc => ?_)
          · have hf := zif_n hf hc
            refine lv_iconst (v := 0) hx hb dL_act_439 (by decide) ?_
            obtain ⟨q1, q2⟩ := zs_i hf
            subst q1; subst q2
            exact z_zret hx hb hr (Or.inl rfl) rfl hP hS hlocks (Nat.le_of_ble_eq_true rfl) (Nat.le_of_ble_eq_true rfl) dL_act_440
          · have hf := zif_p hf hc
            refine lv_iconst (v := 1) hx hb dL_act_435 (by decide) ?_
            refine lv_goto (tgt := 440) hx hb dL_act_436 (by decide) ?_
            obtain ⟨q1, q2⟩ := zs_i hf
            subst q1; subst q2
            exact z_zret hx hb hr (Or.inr rfl) rfl hP hS hlocks (Nat.le_of_ble_eq_true rfl) (Nat.le_of_ble_eq_true rfl) dL_act_440
      · have hf := zif_n hf hc
        refine W.widen (k := 8) (n := 48) (Nat.le_of_ble_eq_true rfl) (Nat.le_of_ble_eq_true rfl) ?_
        exact J155 w144 v150 T153 _ _ _ hf hP hS (lv_sub hl [2, 3, 0] rfl)
  refine lv_if_ne (tgt := 346) hx hb dL_act_339 (by decide) (fun hc => ?_) (fun hc => ?_)
  · have hf := zif_n hf hc
    refine lv_aload_n hx hb dL_act_346 rfl (lv_at hl 0 rfl) ?_
    refine lv_iload_n hx hb dL_act_347 rfl (lv_at hl 2 rfl) ?_
    refine lv_aload_n hx hb dL_act_348 rfl (lv_at hl 0 rfl) ?_
    refine lv_iload_n hx hb dL_act_349 rfl (lv_at hl 2 rfl) ?_
    obtain ⟨v135, T136, h137, hf⟩ := zbi_i hf
    obtain ⟨T138, eT138, hf⟩ := zl_i hf
    refine z_ok (z_runV (As := [.int w3]) (rest := [.int w3, .ref (G 0 0)]) F k_X3_gardenOf ml_1031 (((c_X3_gardenOf w3 T T136 (.inl v135) h137).lift (by decide))) hP hS (zV_0 (by decide)) rfl rfl rfl rfl hl.1 (Nat.le_of_ble_eq_true rfl) dL_act_350 (Nat.le_of_ble_eq_true rfl) ⟨(Nat.le_of_ble_eq_true rfl), (Nat.le_of_ble_eq_true rfl)⟩ rfl) hS (fun H locs hP hS => ?_)
    rw [← eT138] at hP
    refine lv_iload hx hb dL_act_353 (lv_at hl 3 rfl) ?_
    refine lv_iload hx hb dL_act_355 (lv_at hl 4 rfl) ?_
    obtain ⟨v139, T140, h141, hf⟩ := zbi_i hf
    obtain ⟨T142, eT142, hf⟩ := zl_i hf
    refine z_ok (z_runV (As := [.int w3, .int v135, .int w5, .int w6]) (rest := []) F k_X3_obstacle ml_1179 (((c_X3_obstacle w3 v135 w5 w6 T138 T140 (.inl v139) h141).lift (by decide))) hP hS (zV_0 (by decide)) rfl rfl rfl rfl hl.1 (Nat.le_of_ble_eq_true rfl) dL_act_357 (Nat.le_of_ble_eq_true rfl) ⟨(Nat.le_of_ble_eq_true rfl), (Nat.le_of_ble_eq_true rfl)⟩ rfl) hS (fun H locs hP hS => ?_)
    rw [← eT142] at hP
    refine W.widen (k := 5) (n := 30) (Nat.le_of_ble_eq_true rfl) (Nat.le_of_ble_eq_true rfl) ?_
    exact J134 w2 w3 w5 w6 w7 v139 T142 _ _ _ hf hP hS (lv_sub hl [0, 1, 2, 3, 4, 5] rfl)
  · have hf := zif_p hf hc
    refine lv_iconst (v := 0) hx hb dL_act_342 (by decide) ?_
    refine lv_goto (tgt := 360) hx hb dL_act_343 (by decide) ?_
    refine W.widen (k := 5) (n := 30) (Nat.le_of_ble_eq_true rfl) (Nat.le_of_ble_eq_true rfl) ?_
    exact J134 w2 w3 w5 w6 w7 0 T _ _ _ hf hP hS (lv_sub hl [0, 1, 2, 3, 4, 5] rfl)
set_option maxHeartbeats 8000000 in
set_option maxRecDepth 100000 in
theorem s_L_act_441 {p : Program} {l : Launch} {e : Env} {s : State} {m : MethodId} {args : Array Value} {below : List Frame} {meth : Method} {c : Code} {D : va_G} {Y : Nat → ClassId} {S V : Nat → Nat} {G : Nat → Nat → Nat} {A : Nat → Prop} {c0 : Cond} (F : zF 1 9 10 60 p l s m args c cL_act 27 RL c0 D Y S V G A) (hr : meth.sig.returnType = (some .boolean)) (hlocks : meth.locks = false) (hex : ∀ x ∈ c.exceptionTable.toList, False) (w2 : Int32) (w3 : Int32) (w8 : Int32) (T : zT) {T' : zT} {v : Int32} {H : Heap} {locs : List Loc} {ls : Array Slot} (hf : sp_L_act_441 w2 w3 w8 T = some (v, T')) (hP : zP 1 D Y G T H) (hS : va_S A s.heap H locs) (hl : lv_has ls 27 [(0, .ref (G 0 0)), (2, .int w2), (3, .int w3), (8, .int w8)]) :
    W p l e (zR 9 10 60) s m args below meth c H locs 1 6 (vx_MQ below (zQ 1 D Y G A (.inl (some (.int v))) T') (zX 1 D Y G A (.inl (some (.int v))) T') args s 10 60 A) (F0 m 441 ls []) := by
  obtain ⟨hx, hb, hml, hown, hts, hl9, hG, hK, hA⟩ := id F
  unfold sp_L_act_441 at hf
  refine lv_aload_n hx hb dL_act_441 rfl (lv_at hl 0 rfl) ?_
  refine lv_iload_n hx hb dL_act_442 rfl (lv_at hl 2 rfl) ?_
  obtain ⟨v176, T177, h178, hf⟩ := zb_i hf
  obtain ⟨T179, eT179, hf⟩ := zl_i hf
  refine z_ok (z_runSW (As := [.ref (G 0 0), .int w3]) (rest := []) F kl_forgotten ml_700 ((c_L_forgotten w3 T T177 v176 h178).lift (by decide)) hP hS rfl rfl hl.1 (Nat.le_of_ble_eq_true rfl) dL_act_443 (Nat.le_of_ble_eq_true rfl) ⟨(Nat.le_of_ble_eq_true rfl), (Nat.le_of_ble_eq_true rfl)⟩ rfl) hS (fun H locs hP hS => ?_)
  rw [← eT179] at hP
  refine lv_iload_n hx hb dL_act_446 rfl (lv_at hl 1 rfl) ?_
  obtain ⟨K180, eK180, hf⟩ := zl_i hf
  have J181 : ∀ (w183 : Int32) (w184 : Int32) (z185 : Int32) (z186 : Int32) (T182 : zT) (H : Heap) (locs : List Loc) (ls : Array Slot), K180 w183 w184 z185 z186 T182 = some (v, T') → zP 1 D Y G T182 H → va_S A s.heap H locs → lv_has ls 27 [(0, .ref (G 0 0)), (2, .int w183), (3, .int w184)] → W p l e (zR 9 10 60) s m args below meth c H locs (2) (12) (vx_MQ below (zQ 1 D Y G A (.inl (some (.int v))) T') (zX 1 D Y G A (.inl (some (.int v))) T') _ s 10 60 A) (F0 m 457 ls [.int z186, .int z185]) := by
    intro w183 w184 z185 z186 T182 H locs ls hf hP hS hl
    rw [eK180] at hf
    dsimp only at hf
    refine lv_icmp_ne (tgt := 489) hx hb dL_act_457 (by decide) (fun hc => ?_) (fun hc => ?_)
    · have hf := zif_n hf hc
      refine lv_iconst (v := 0) hx hb dL_act_489 (by decide) ?_
      obtain ⟨q1, q2⟩ := zs_i hf
      subst q1; subst q2
      exact z_zret hx hb hr (Or.inl rfl) rfl hP hS hlocks (Nat.le_of_ble_eq_true rfl) (Nat.le_of_ble_eq_true rfl) dL_act_490
    · have hf := zif_p hf hc
      refine lv_iload_n hx hb dL_act_460 rfl (lv_at hl 1 rfl) ?_
      refine lv_if_ne (tgt := 476) hx hb dL_act_461 (by decide) (fun hc => ?_) (fun hc => ?_)
      · have hf := zif_n hf hc
        refine lv_aload_n hx hb dL_act_476 rfl (lv_at hl 0 rfl) ?_
        refine lv_iload_n hx hb dL_act_477 rfl (lv_at hl 2 rfl) ?_
        obtain ⟨v187, T188, h189, hf⟩ := zbi_i hf
        obtain ⟨T190, eT190, hf⟩ := zl_i hf
        refine z_ok (z_runV (As := [.int w184]) (rest := []) F k_X3_birthdayOf ml_1035 (((c_X3_birthdayOf w184 T182 T188 (.inl v187) h189).lift (by decide))) hP hS (zV_0 (by decide)) rfl rfl rfl rfl hl.1 (Nat.le_of_ble_eq_true rfl) dL_act_478 (Nat.le_of_ble_eq_true rfl) ⟨(Nat.le_of_ble_eq_true rfl), (Nat.le_of_ble_eq_true rfl)⟩ rfl) hS (fun H locs hP hS => ?_)
        rw [← eT190] at hP
        refine lv_iconst (v := (-1)) hx hb dL_act_481 (by decide) ?_
        refine lv_icmp_ne (tgt := 489) hx hb dL_act_482 (by decide) (fun hc => ?_) (fun hc => ?_)
        · have hf := zif_n hf hc
          refine lv_iconst (v := 0) hx hb dL_act_489 (by decide) ?_
          obtain ⟨q1, q2⟩ := zs_i hf
          subst q1; subst q2
          exact z_zret hx hb hr (Or.inl rfl) rfl hP hS hlocks (Nat.le_of_ble_eq_true rfl) (Nat.le_of_ble_eq_true rfl) dL_act_490
        · have hf := zif_p hf hc
          refine lv_iconst (v := 1) hx hb dL_act_485 (by decide) ?_
          refine lv_goto (tgt := 490) hx hb dL_act_486 (by decide) ?_
          obtain ⟨q1, q2⟩ := zs_i hf
          subst q1; subst q2
          exact z_zret hx hb hr (Or.inr rfl) rfl hP hS hlocks (Nat.le_of_ble_eq_true rfl) (Nat.le_of_ble_eq_true rfl) dL_act_490
      · have hf := zif_p hf hc
        refine lv_aload_n hx hb dL_act_464 rfl (lv_at hl 0 rfl) ?_
        refine lv_iconst (v := 2) hx hb dL_act_465 (by decide) ?_
        refine lv_iconst (v := 1) hx hb dL_act_466 (by decide) ?_
        obtain ⟨v191, T192, h193, hf⟩ := zb_i hf
        obtain ⟨T194, eT194, hf⟩ := zl_i hf
        refine z_ok (z_runSW (As := [.ref (G 0 0), .int 2, .int 1]) (rest := []) F kl_baked ml_729 ((c_L_baked 2 1 T182 T192 v191 h193).lift (by decide)) hP hS rfl rfl hl.1 (Nat.le_of_ble_eq_true rfl) dL_act_467 (Nat.le_of_ble_eq_true rfl) ⟨(Nat.le_of_ble_eq_true rfl), (Nat.le_of_ble_eq_true rfl)⟩ rfl) hS (fun H locs hP hS => ?_)
        rw [← eT194] at hP
        refine lv_if_eq (tgt := 489) hx hb dL_act_470 (by decide) (fun hc => ?_) (fun hc => ?_)
        · have hf := zif_p hf hc
          refine lv_iconst (v := 0) hx hb dL_act_489 (by decide) ?_
          obtain ⟨q1, q2⟩ := zs_i hf
          subst q1; subst q2
          exact z_zret hx hb hr (Or.inl rfl) rfl hP hS hlocks (Nat.le_of_ble_eq_true rfl) (Nat.le_of_ble_eq_true rfl) dL_act_490
        · have hf := zif_n hf hc
          refine lv_goto (tgt := 485) hx hb dL_act_473 (by decide) ?_
          refine lv_iconst (v := 1) hx hb dL_act_485 (by decide) ?_
          refine lv_goto (tgt := 490) hx hb dL_act_486 (by decide) ?_
          obtain ⟨q1, q2⟩ := zs_i hf
          subst q1; subst q2
          exact z_zret hx hb hr (Or.inr rfl) rfl hP hS hlocks (Nat.le_of_ble_eq_true rfl) (Nat.le_of_ble_eq_true rfl) dL_act_490
  refine lv_if_ne (tgt := 455) hx hb dL_act_447 (by decide) (fun hc => ?_) (fun hc => ?_)
  · have hf := zif_n hf hc
    refine lv_iload hx hb dL_act_455 (lv_at hl 3 rfl) ?_
    refine W.widen (k := 2) (n := 12) (Nat.le_of_ble_eq_true rfl) (Nat.le_of_ble_eq_true rfl) ?_
    exact J181 w2 w3 v176 w8 T179 _ _ _ hf hP hS (lv_sub hl [0, 1, 2] rfl)
  · have hf := zif_p hf hc
    refine lv_bipush (v := (-5)) hx hb dL_act_450 (by decide) ?_
    refine lv_goto (tgt := 457) hx hb dL_act_452 (by decide) ?_
    refine W.widen (k := 2) (n := 12) (Nat.le_of_ble_eq_true rfl) (Nat.le_of_ble_eq_true rfl) ?_
    exact J181 w2 w3 v176 (-5) T179 _ _ _ hf hP hS (lv_sub hl [0, 1, 2] rfl)
set_option maxHeartbeats 8000000 in
set_option maxRecDepth 100000 in
theorem s_L_act_491 {p : Program} {l : Launch} {e : Env} {s : State} {m : MethodId} {args : Array Value} {below : List Frame} {meth : Method} {c : Code} {D : va_G} {Y : Nat → ClassId} {S V : Nat → Nat} {G : Nat → Nat → Nat} {A : Nat → Prop} {c0 : Cond} (F : zF 1 9 10 60 p l s m args c cL_act 27 RL c0 D Y S V G A) (hr : meth.sig.returnType = (some .boolean)) (hlocks : meth.locks = false) (hex : ∀ x ∈ c.exceptionTable.toList, False) (w2 : Int32) (w3 : Int32) (w4 : Int32) (w8 : Int32) (T : zT) {T' : zT} {v : Int32} {H : Heap} {locs : List Loc} {ls : Array Slot} (hf : sp_L_act_491 w2 w3 w4 w8 T = some (v, T')) (hP : zP 1 D Y G T H) (hS : va_S A s.heap H locs) (hl : lv_has ls 27 [(0, .ref (G 0 0)), (2, .int w2), (3, .int w3), (4, .int w4), (8, .int w8)]) :
    W p l e (zR 9 10 60) s m args below meth c H locs 1 6 (vx_MQ below (zQ 1 D Y G A (.inl (some (.int v))) T') (zX 1 D Y G A (.inl (some (.int v))) T') args s 10 60 A) (F0 m 491 ls []) := by
  obtain ⟨hx, hb, hml, hown, hts, hl9, hG, hK, hA⟩ := id F
  unfold sp_L_act_491 at hf
  refine lv_iload_n hx hb dL_act_491 rfl (lv_at hl 1 rfl) ?_
  obtain ⟨K195, eK195, hf⟩ := zl_i hf
  have J196 : ∀ (w202 : Int32) (w203 : Int32) (w204 : Int32) (w205 : Int32) (z206 : Int32) (T201 : zT) (H : Heap) (locs : List Loc) (ls : Array Slot), K195 w202 w203 w204 w205 z206 T201 = some (v, T') → zP 1 D Y G T201 H → va_S A s.heap H locs → lv_has ls 27 [(0, .ref (G 0 0)), (2, .int w202), (3, .int w203), (4, .int w204), (8, .int w205)] → W p l e (zR 9 10 60) s m args below meth c H locs (2) (12) (vx_MQ below (zQ 1 D Y G A (.inl (some (.int v))) T') (zX 1 D Y G A (.inl (some (.int v))) T') _ s 10 60 A) (F0 m 505 ls [.int z206]) := by
    intro w202 w203 w204 w205 z206 T201 H locs ls hf hP hS hl
    rw [eK195] at hf
    dsimp only at hf
    refine lv_istore (lv' := [(18, .int z206), (0, .ref (G 0 0)), (2, .int w202), (3, .int w203), (4, .int w204), (8, .int w205)]) hx hb dL_act_505 hl (by decide) rfl (fun ls hl => ?_)
    refine lv_iload_n hx hb dL_act_507 rfl (lv_at hl 2 rfl) ?_
    obtain ⟨K209, eK209, hf⟩ := zl_i hf
    have J210 : ∀ (w221 : Int32) (w222 : Int32) (w223 : Int32) (w224 : Int32) (z225 : Int32) (T220 : zT) (H : Heap) (locs : List Loc) (ls : Array Slot), K209 w221 w222 w223 w224 z225 T220 = some (v, T') → zP 1 D Y G T220 H → va_S A s.heap H locs → lv_has ls 27 [(0, .ref (G 0 0)), (2, .int w221), (3, .int w222), (4, .int w223), (18, .int w224)] → W p l e (zR 9 10 60) s m args below meth c H locs (5) (30) (vx_MQ below (zQ 1 D Y G A (.inl (some (.int v))) T') (zX 1 D Y G A (.inl (some (.int v))) T') _ s 10 60 A) (F0 m 545 ls [.int z225]) := by
      intro w221 w222 w223 w224 z225 T220 H locs ls hf hP hS hl
      rw [eK209] at hf
      dsimp only at hf
      refine lv_istore (lv' := [(19, .int z225), (0, .ref (G 0 0)), (2, .int w221), (3, .int w222), (4, .int w223), (18, .int w224)]) hx hb dL_act_545 hl (by decide) rfl (fun ls hl => ?_)
      refine lv_aload_n hx hb dL_act_547 rfl (lv_at hl 1 rfl) ?_
      refine lv_iload_n hx hb dL_act_548 rfl (lv_at hl 3 rfl) ?_
      refine lv_iload hx hb dL_act_549 (lv_at hl 4 rfl) ?_
      obtain ⟨v226, T227, h228, hf⟩ := zb_i hf
      obtain ⟨T229, eT229, hf⟩ := zl_i hf
      refine z_ok (z_runSW (As := [.ref (G 0 0), .int w222, .int w223]) (rest := []) F kl_moved ml_707 ((c_L_moved w222 w223 T220 T227 v226 h228).lift (by decide)) hP hS rfl rfl hl.1 (Nat.le_of_ble_eq_true rfl) dL_act_551 (Nat.le_of_ble_eq_true rfl) ⟨(Nat.le_of_ble_eq_true rfl), (Nat.le_of_ble_eq_true rfl)⟩ rfl) hS (fun H locs hP hS => ?_)
      rw [← eT229] at hP
      refine lv_istore (lv' := [(20, .int v226), (19, .int z225), (0, .ref (G 0 0)), (2, .int w221), (3, .int w222), (4, .int w223), (18, .int w224)]) hx hb dL_act_554 hl (by decide) rfl (fun ls hl => ?_)
      refine lv_iload hx hb dL_act_556 (lv_at hl 1 rfl) ?_
      obtain ⟨K230, eK230, hf⟩ := zl_i hf
      have J231 : ∀ (w237 : Int32) (w238 : Int32) (T236 : zT) (H : Heap) (locs : List Loc) (ls : Array Slot), K230 w237 w238 T236 = some (v, T') → zP 1 D Y G T236 H → va_S A s.heap H locs → lv_has ls 27 [(0, .ref (G 0 0)), (19, .int w237), (20, .int w238)] → W p l e (zR 9 10 60) s m args below meth c H locs (8) (48) (vx_MQ below (zQ 1 D Y G A (.inl (some (.int v))) T') (zX 1 D Y G A (.inl (some (.int v))) T') _ s 10 60 A) (F0 m 565 ls []) := by
        intro w237 w238 T236 H locs ls hf hP hS hl
        rw [eK230] at hf
        dsimp only at hf
        refine lv_iload hx hb dL_act_565 (lv_at hl 2 rfl) ?_
        refine lv_iload hx hb dL_act_567 (lv_at hl 1 rfl) ?_
        obtain ⟨K239, eK239, hf⟩ := zl_i hf
        have J240 : ∀ (z242 : Int32) (z243 : Int32) (T241 : zT) (H : Heap) (locs : List Loc) (ls : Array Slot), K239 z242 z243 T241 = some (v, T') → zP 1 D Y G T241 H → va_S A s.heap H locs → lv_has ls 27 [(0, .ref (G 0 0))] → W p l e (zR 9 10 60) s m args below meth c H locs (8) (48) (vx_MQ below (zQ 1 D Y G A (.inl (some (.int v))) T') (zX 1 D Y G A (.inl (some (.int v))) T') _ s 10 60 A) (F0 m 579 ls [.int z243, .int z242]) := by
          intro z242 z243 T241 H locs ls hf hP hS hl
          rw [eK239] at hf
          dsimp only at hf
          refine lv_icmp_ne (tgt := 595) hx hb dL_act_579 (by decide) (fun hc => ?_) (fun hc => ?_)
          · have hf := zif_n hf hc
            refine lv_iconst (v := 0) hx hb dL_act_595 (by decide) ?_
            refine lv_goto (tgt := 621) hx hb dL_act_596 (by decide) ?_
            obtain ⟨q1, q2⟩ := zs_i hf
            subst q1; subst q2
            exact z_zret hx hb hr (Or.inl rfl) rfl hP hS hlocks (Nat.le_of_ble_eq_true rfl) (Nat.le_of_ble_eq_true rfl) dL_act_621
          · have hf := zif_p hf hc
            refine lv_aload_n hx hb dL_act_582 rfl (lv_at hl 0 rfl) ?_
            refine lv_iconst (v := 3) hx hb dL_act_583 (by decide) ?_
            refine lv_iconst (v := 1) hx hb dL_act_584 (by decide) ?_
            obtain ⟨v244, T245, h246, hf⟩ := zb_i hf
            obtain ⟨T247, eT247, hf⟩ := zl_i hf
            refine z_ok (z_runSW (As := [.ref (G 0 0), .int 3, .int 1]) (rest := []) F kl_baked ml_729 ((c_L_baked 3 1 T241 T245 v244 h246).lift (by decide)) hP hS rfl rfl hl.1 (Nat.le_of_ble_eq_true rfl) dL_act_585 (Nat.le_of_ble_eq_true rfl) ⟨(Nat.le_of_ble_eq_true rfl), (Nat.le_of_ble_eq_true rfl)⟩ rfl) hS (fun H locs hP hS => ?_)
            rw [← eT247] at hP
            refine lv_if_eq (tgt := 595) hx hb dL_act_588 (by decide) (fun hc => ?_) (fun hc => ?_)
            · have hf := zif_p hf hc
              refine lv_iconst (v := 0) hx hb dL_act_595 (by decide) ?_
              refine lv_goto (tgt := 621) hx hb dL_act_596 (by decide) ?_
              obtain ⟨q1, q2⟩ := zs_i hf
              subst q1; subst q2
              exact z_zret hx hb hr (Or.inl rfl) rfl hP hS hlocks (Nat.le_of_ble_eq_true rfl) (Nat.le_of_ble_eq_true rfl) dL_act_621
            · have hf := zif_n hf hc
              refine lv_iconst (v := 1) hx hb dL_act_591 (by decide) ?_
              refine lv_goto (tgt := 621) hx hb dL_act_592 (by decide) ?_
              obtain ⟨q1, q2⟩ := zs_i hf
              subst q1; subst q2
              exact z_zret hx hb hr (Or.inr rfl) rfl hP hS hlocks (Nat.le_of_ble_eq_true rfl) (Nat.le_of_ble_eq_true rfl) dL_act_621
        refine lv_if_eq (tgt := 577) hx hb dL_act_569 (by decide) (fun hc => ?_) (fun hc => ?_)
        · have hf := zif_p hf hc
          refine lv_bipush (v := (-5)) hx hb dL_act_577 (by decide) ?_
          refine W.widen (k := 8) (n := 48) (Nat.le_of_ble_eq_true rfl) (Nat.le_of_ble_eq_true rfl) ?_
          exact J240 w238 (-5) T236 _ _ _ hf hP hS (lv_sub hl [0] rfl)
        · have hf := zif_n hf hc
          refine lv_bipush (v := (-3)) hx hb dL_act_572 (by decide) ?_
          refine lv_goto (tgt := 579) hx hb dL_act_574 (by decide) ?_
          refine W.widen (k := 8) (n := 48) (Nat.le_of_ble_eq_true rfl) (Nat.le_of_ble_eq_true rfl) ?_
          exact J240 w238 (-3) T236 _ _ _ hf hP hS (lv_sub hl [0] rfl)
      refine lv_if_ne (tgt := 565) hx hb dL_act_558 (by decide) (fun hc => ?_) (fun hc => ?_)
      · have hf := zif_n hf hc
        refine W.widen (k := 8) (n := 48) (Nat.le_of_ble_eq_true rfl) (Nat.le_of_ble_eq_true rfl) ?_
        exact J231 z225 v226 T229 _ _ _ hf hP hS (lv_sub hl [2, 1, 0] rfl)
      · have hf := zif_p hf hc
        refine lv_iload_n hx hb dL_act_561 rfl (lv_at hl 3 rfl) ?_
        refine lv_if_ne (tgt := 599) hx hb dL_act_562 (by decide) (fun hc => ?_) (fun hc => ?_)
        · have hf := zif_n hf hc
          refine lv_iload hx hb dL_act_599 (lv_at hl 0 rfl) ?_
          refine lv_iload hx hb dL_act_601 (lv_at hl 6 rfl) ?_
          refine lv_icmp_ne (tgt := 620) hx hb dL_act_603 (by decide) (fun hc => ?_) (fun hc => ?_)
          · have hf := zif_n hf hc
            refine lv_iconst (v := 0) hx hb dL_act_620 (by decide) ?_
            obtain ⟨q1, q2⟩ := zs_i hf
            subst q1; subst q2
            exact z_zret hx hb hr (Or.inl rfl) rfl hP hS hlocks (Nat.le_of_ble_eq_true rfl) (Nat.le_of_ble_eq_true rfl) dL_act_621
          · have hf := zif_p hf hc
            refine lv_aload_n hx hb dL_act_606 rfl (lv_at hl 2 rfl) ?_
            refine lv_iload_n hx hb dL_act_607 rfl (lv_at hl 4 rfl) ?_
            obtain ⟨v232, T233, h234, hf⟩ := zbi_i hf
            obtain ⟨T235, eT235, hf⟩ := zl_i hf
            refine z_ok (z_runV (As := [.int w222]) (rest := []) F k_X3_gardenOf ml_1031 (((c_X3_gardenOf w222 T229 T233 (.inl v232) h234).lift (by decide))) hP hS (zV_0 (by decide)) rfl rfl rfl rfl hl.1 (Nat.le_of_ble_eq_true rfl) dL_act_608 (Nat.le_of_ble_eq_true rfl) ⟨(Nat.le_of_ble_eq_true rfl), (Nat.le_of_ble_eq_true rfl)⟩ rfl) hS (fun H locs hP hS => ?_)
            rw [← eT235] at hP
            refine lv_iload hx hb dL_act_611 (lv_at hl 5 rfl) ?_
            refine lv_icmp_ne (tgt := 620) hx hb dL_act_613 (by decide) (fun hc => ?_) (fun hc => ?_)
            · have hf := zif_n hf hc
              refine lv_iconst (v := 0) hx hb dL_act_620 (by decide) ?_
              obtain ⟨q1, q2⟩ := zs_i hf
              subst q1; subst q2
              exact z_zret hx hb hr (Or.inl rfl) rfl hP hS hlocks (Nat.le_of_ble_eq_true rfl) (Nat.le_of_ble_eq_true rfl) dL_act_621
            · have hf := zif_p hf hc
              refine lv_iconst (v := 1) hx hb dL_act_616 (by decide) ?_
              refine lv_goto (tgt := 621) hx hb dL_act_617 (by decide) ?_
              obtain ⟨q1, q2⟩ := zs_i hf
              subst q1; subst q2
              exact z_zret hx hb hr (Or.inr rfl) rfl hP hS hlocks (Nat.le_of_ble_eq_true rfl) (Nat.le_of_ble_eq_true rfl) dL_act_621
        · have hf := zif_p hf hc
          refine W.widen (k := 8) (n := 48) (Nat.le_of_ble_eq_true rfl) (Nat.le_of_ble_eq_true rfl) ?_
          exact J231 z225 v226 T229 _ _ _ hf hP hS (lv_sub hl [2, 1, 0] rfl)
    obtain ⟨K207, eK207, hf⟩ := zl_i hf
    have J208 : ∀ (w216 : Int32) (w217 : Int32) (w218 : Int32) (w219 : Int32) (T215 : zT) (H : Heap) (locs : List Loc) (ls : Array Slot), K207 w216 w217 w218 w219 T215 = some (v, T') → zP 1 D Y G T215 H → va_S A s.heap H locs → lv_has ls 27 [(0, .ref (G 0 0)), (2, .int w216), (3, .int w217), (4, .int w218), (18, .int w219)] → W p l e (zR 9 10 60) s m args below meth c H locs (5) (30) (vx_MQ below (zQ 1 D Y G A (.inl (some (.int v))) T') (zX 1 D Y G A (.inl (some (.int v))) T') _ s 10 60 A) (F0 m 544 ls []) := by
      intro w216 w217 w218 w219 T215 H locs ls hf hP hS hl
      rw [eK207] at hf
      dsimp only at hf
      refine lv_iconst (v := 0) hx hb dL_act_544 (by decide) ?_
      refine W.widen (k := 5) (n := 30) (Nat.le_of_ble_eq_true rfl) (Nat.le_of_ble_eq_true rfl) ?_
      exact J210 w216 w217 w218 w219 0 T215 _ _ _ hf hP hS (lv_sub hl [0, 1, 2, 3, 4] rfl)
    refine lv_if_le (tgt := 544) hx hb dL_act_508 (by decide) (fun hc => ?_) (fun hc => ?_)
    · have hf := zif_p hf hc
      refine W.widen (k := 5) (n := 30) (Nat.le_of_ble_eq_true rfl) (Nat.le_of_ble_eq_true rfl) ?_
      exact J208 w202 w203 w204 z206 T201 _ _ _ hf hP hS (lv_sub hl [1, 2, 3, 4, 0] rfl)
    · have hf := zif_n hf hc
      refine lv_iload hx hb dL_act_511 (lv_at hl 5 rfl) ?_
      refine lv_if_lt (tgt := 544) hx hb dL_act_513 (by decide) (fun hc => ?_) (fun hc => ?_)
      · have hf := zif_p hf hc
        refine W.widen (k := 5) (n := 30) (Nat.le_of_ble_eq_true rfl) (Nat.le_of_ble_eq_true rfl) ?_
        exact J208 w202 w203 w204 z206 T201 _ _ _ hf hP hS (lv_sub hl [1, 2, 3, 4, 0] rfl)
      · have hf := zif_n hf hc
        refine lv_aload_n hx hb dL_act_516 rfl (lv_at hl 1 rfl) ?_
        refine lv_iload_n hx hb dL_act_517 rfl (lv_at hl 3 rfl) ?_
        refine lv_iload hx hb dL_act_518 (lv_at hl 4 rfl) ?_
        refine lv_iload hx hb dL_act_520 (lv_at hl 5 rfl) ?_
        refine lv_bipush (v := 30) hx hb dL_act_522 (by decide) ?_
        refine lv_idiv hx hb dL_act_524 (by decide) ?_
        refine lv_iconst (v := 1) hx hb dL_act_525 (by decide) ?_
        refine lv_iadd hx hb dL_act_526 ?_
        refine lv_iload hx hb dL_act_527 (lv_at hl 5 rfl) ?_
        refine lv_bipush (v := 30) hx hb dL_act_529 (by decide) ?_
        refine lv_irem hx hb dL_act_531 (by decide) ?_
        refine lv_iconst (v := 1) hx hb dL_act_532 (by decide) ?_
        refine lv_iadd hx hb dL_act_533 ?_
        obtain ⟨v211, T212, h213, hf⟩ := zbi_i hf
        obtain ⟨T214, eT214, hf⟩ := zl_i hf
        refine z_ok (z_runV (As := [.int w203, .int w204, .int ((w205 / 30) + 1), .int ((w205 - w205 / 30 * 30) + 1)]) (rest := []) F k_X3_obstacle ml_1179 (((c_X3_obstacle w203 w204 ((w205 / 30) + 1) ((w205 - w205 / 30 * 30) + 1) T201 T212 (.inl v211) h213).lift (by decide))) hP hS (zV_0 (by decide)) rfl rfl rfl rfl hl.1 (Nat.le_of_ble_eq_true rfl) dL_act_534 (Nat.le_of_ble_eq_true rfl) ⟨(Nat.le_of_ble_eq_true rfl), (Nat.le_of_ble_eq_true rfl)⟩ rfl) hS (fun H locs hP hS => ?_)
        rw [← eT214] at hP
        refine lv_if_eq (tgt := 544) hx hb dL_act_537 (by decide) (fun hc => ?_) (fun hc => ?_)
        · have hf := zif_p hf hc
          refine W.widen (k := 5) (n := 30) (Nat.le_of_ble_eq_true rfl) (Nat.le_of_ble_eq_true rfl) ?_
          exact J208 w202 w203 w204 z206 T214 _ _ _ hf hP hS (lv_sub hl [1, 2, 3, 4, 0] rfl)
        · have hf := zif_n hf hc
          refine lv_iconst (v := 1) hx hb dL_act_540 (by decide) ?_
          refine lv_goto (tgt := 545) hx hb dL_act_541 (by decide) ?_
          refine W.widen (k := 5) (n := 30) (Nat.le_of_ble_eq_true rfl) (Nat.le_of_ble_eq_true rfl) ?_
          exact J210 w202 w203 w204 z206 1 T214 _ _ _ hf hP hS (lv_sub hl [1, 2, 3, 4, 0] rfl)
  refine lv_if_ne (tgt := 500) hx hb dL_act_492 (by decide) (fun hc => ?_) (fun hc => ?_)
  · have hf := zif_n hf hc
    refine lv_aload_n hx hb dL_act_500 rfl (lv_at hl 0 rfl) ?_
    refine lv_iload_n hx hb dL_act_501 rfl (lv_at hl 2 rfl) ?_
    obtain ⟨v197, T198, h199, hf⟩ := zbi_i hf
    obtain ⟨T200, eT200, hf⟩ := zl_i hf
    refine z_ok (z_runV (As := [.int w3]) (rest := []) F k_X3_gardenOf ml_1031 (((c_X3_gardenOf w3 T T198 (.inl v197) h199).lift (by decide))) hP hS (zV_0 (by decide)) rfl rfl rfl rfl hl.1 (Nat.le_of_ble_eq_true rfl) dL_act_502 (Nat.le_of_ble_eq_true rfl) ⟨(Nat.le_of_ble_eq_true rfl), (Nat.le_of_ble_eq_true rfl)⟩ rfl) hS (fun H locs hP hS => ?_)
    rw [← eT200] at hP
    refine W.widen (k := 2) (n := 12) (Nat.le_of_ble_eq_true rfl) (Nat.le_of_ble_eq_true rfl) ?_
    exact J196 w2 w3 w4 w8 v197 T200 _ _ _ hf hP hS (lv_sub hl [0, 1, 2, 3, 4] rfl)
  · have hf := zif_p hf hc
    refine lv_bipush (v := (-5)) hx hb dL_act_495 (by decide) ?_
    refine lv_goto (tgt := 505) hx hb dL_act_497 (by decide) ?_
    refine W.widen (k := 2) (n := 12) (Nat.le_of_ble_eq_true rfl) (Nat.le_of_ble_eq_true rfl) ?_
    exact J196 w2 w3 w4 w8 (-5) T _ _ _ hf hP hS (lv_sub hl [0, 1, 2, 3, 4] rfl)
set_option maxHeartbeats 8000000 in
set_option maxRecDepth 100000 in
theorem s_L_act_622 {p : Program} {l : Launch} {e : Env} {s : State} {m : MethodId} {args : Array Value} {below : List Frame} {meth : Method} {c : Code} {D : va_G} {Y : Nat → ClassId} {S V : Nat → Nat} {G : Nat → Nat → Nat} {A : Nat → Prop} {c0 : Cond} (F : zF 1 9 10 60 p l s m args c cL_act 27 RL c0 D Y S V G A) (hr : meth.sig.returnType = (some .boolean)) (hlocks : meth.locks = false) (hex : ∀ x ∈ c.exceptionTable.toList, False) (T : zT) {T' : zT} {v : Int32} {H : Heap} {locs : List Loc} {ls : Array Slot} (hf : sp_L_act_622 T = some (v, T')) (hP : zP 1 D Y G T H) (hS : va_S A s.heap H locs) (hl : lv_has ls 27 [(0, .ref (G 0 0)), (1, .ref (G 0 8))]) :
    W p l e (zR 9 10 60) s m args below meth c H locs 1 6 (vx_MQ below (zQ 1 D Y G A (.inl (some (.int v))) T') (zX 1 D Y G A (.inl (some (.int v))) T') args s 10 60 A) (F0 m 622 ls []) := by
  obtain ⟨hx, hb, hml, hown, hts, hl9, hG, hK, hA⟩ := id F
  unfold sp_L_act_622 at hf
  refine lv_aload_n hx hb dL_act_622 rfl (lv_at hl 0 rfl) ?_
  obtain ⟨v248, T249, h250, hf⟩ := zb_i hf
  obtain ⟨T251, eT251, hf⟩ := zl_i hf
  refine z_ok (z_runV (As := []) (rest := []) F k_X3_candles ml_1015 (((c_X3_candles T T249 v248 h250).lift (by decide))) hP hS (zV_0 (by decide)) rfl rfl rfl rfl hl.1 (Nat.le_of_ble_eq_true rfl) dL_act_623 (Nat.le_of_ble_eq_true rfl) ⟨(Nat.le_of_ble_eq_true rfl), (Nat.le_of_ble_eq_true rfl)⟩ rfl) hS (fun H locs hP hS => ?_)
  rw [← eT251] at hP
  refine lv_istore (lv' := [(21, .int v248), (0, .ref (G 0 0)), (1, .ref (G 0 8))]) hx hb dL_act_626 hl (by decide) rfl (fun ls hl => ?_)
  refine lv_iconst (v := 1) hx hb dL_act_628 (by decide) ?_
  refine lv_aload_n hx hb dL_act_629 rfl (lv_at hl 2 rfl) ?_
  obtain ⟨v252, T253, h254, hf⟩ := zb_i hf
  refine z_ok (z_runS (As := [.ref (G 0 8)]) (rest := [.int 1]) F kl_next ml_590 (c_L_next T251 T253 v252 h254) hP hS rfl rfl hl.1 (Nat.le_of_ble_eq_true rfl) dL_act_630 (Nat.le_of_ble_eq_true rfl) ⟨(Nat.le_of_ble_eq_true rfl), (Nat.le_of_ble_eq_true rfl)⟩ rfl) hS (fun H locs hP hS => ?_)
  refine lv_sipush (v := 300) hx hb dL_act_633 (by decide) ?_
  refine lv_irem hx hb dL_act_636 (by decide) ?_
  refine lv_iadd hx hb dL_act_637 ?_
  obtain ⟨x255, ex255, hf⟩ := zl_i hf
  refine z_topi ex255 ?_
  refine lv_istore (lv' := [(22, .int x255), (21, .int v248), (0, .ref (G 0 0)), (1, .ref (G 0 8))]) hx hb dL_act_638 hl (by decide) rfl (fun ls hl => ?_)
  refine lv_aload_n hx hb dL_act_640 rfl (lv_at hl 2 rfl) ?_
  refine lv_iload hx hb dL_act_641 (lv_at hl 0 rfl) ?_
  obtain ⟨v256, T257, h258, hf⟩ := zb_i hf
  obtain ⟨T259, eT259, hf⟩ := zl_i hf
  refine z_ok (z_runSW (As := [.ref (G 0 0), .int x255]) (rest := []) F kl_bought ml_720 ((c_L_bought x255 T253 T257 v256 h258).lift (by decide)) hP hS rfl rfl hl.1 (Nat.le_of_ble_eq_true rfl) dL_act_643 (Nat.le_of_ble_eq_true rfl) ⟨(Nat.le_of_ble_eq_true rfl), (Nat.le_of_ble_eq_true rfl)⟩ rfl) hS (fun H locs hP hS => ?_)
  rw [← eT259] at hP
  refine lv_iload hx hb dL_act_646 (lv_at hl 1 rfl) ?_
  refine lv_iload hx hb dL_act_648 (lv_at hl 0 rfl) ?_
  refine lv_iadd hx hb dL_act_650 ?_
  refine lv_sipush (v := 9999) hx hb dL_act_651 (by decide) ?_
  obtain ⟨K260, eK260, hf⟩ := zl_i hf
  have J261 : ∀ (w263 : Int32) (w264 : Int32) (z265 : Int32) (z266 : Int32) (T262 : zT) (H : Heap) (locs : List Loc) (ls : Array Slot), K260 w263 w264 z265 z266 T262 = some (v, T') → zP 1 D Y G T262 H → va_S A s.heap H locs → lv_has ls 27 [(0, .ref (G 0 0)), (21, .int w263), (22, .int w264)] → W p l e (zR 9 10 60) s m args below meth c H locs (2) (12) (vx_MQ below (zQ 1 D Y G A (.inl (some (.int v))) T') (zX 1 D Y G A (.inl (some (.int v))) T') _ s 10 60 A) (F0 m 667 ls [.int z266, .int z265]) := by
    intro w263 w264 z265 z266 T262 H locs ls hf hP hS hl
    rw [eK260] at hf
    dsimp only at hf
    refine lv_icmp_ne (tgt := 711) hx hb dL_act_667 (by decide) (fun hc => ?_) (fun hc => ?_)
    · have hf := zif_n hf hc
      refine lv_iconst (v := 0) hx hb dL_act_711 (by decide) ?_
      obtain ⟨q1, q2⟩ := zs_i hf
      subst q1; subst q2
      exact z_zret hx hb hr (Or.inl rfl) rfl hP hS hlocks (Nat.le_of_ble_eq_true rfl) (Nat.le_of_ble_eq_true rfl) dL_act_712
    · have hf := zif_p hf hc
      refine lv_aload_n hx hb dL_act_670 rfl (lv_at hl 0 rfl) ?_
      obtain ⟨v267, T268, h269, hf⟩ := zb_i hf
      obtain ⟨T270, eT270, hf⟩ := zl_i hf
      refine z_ok (z_runV (As := []) (rest := []) F k_X3_candles ml_1015 (((c_X3_candles T262 T268 v267 h269).lift (by decide))) hP hS (zV_0 (by decide)) rfl rfl rfl rfl hl.1 (Nat.le_of_ble_eq_true rfl) dL_act_671 (Nat.le_of_ble_eq_true rfl) ⟨(Nat.le_of_ble_eq_true rfl), (Nat.le_of_ble_eq_true rfl)⟩ rfl) hS (fun H locs hP hS => ?_)
      rw [← eT270] at hP
      refine lv_iload hx hb dL_act_674 (lv_at hl 1 rfl) ?_
      refine lv_iload hx hb dL_act_676 (lv_at hl 2 rfl) ?_
      refine lv_iadd hx hb dL_act_678 ?_
      refine lv_sipush (v := 9999) hx hb dL_act_679 (by decide) ?_
      obtain ⟨K271, eK271, hf⟩ := zl_i hf
      have J272 : ∀ (z274 : Int32) (z275 : Int32) (T273 : zT) (H : Heap) (locs : List Loc) (ls : Array Slot), K271 z274 z275 T273 = some (v, T') → zP 1 D Y G T273 H → va_S A s.heap H locs → lv_has ls 27 [(0, .ref (G 0 0))] → W p l e (zR 9 10 60) s m args below meth c H locs (2) (12) (vx_MQ below (zQ 1 D Y G A (.inl (some (.int v))) T') (zX 1 D Y G A (.inl (some (.int v))) T') _ s 10 60 A) (F0 m 695 ls [.int z275, .int z274]) := by
        intro z274 z275 T273 H locs ls hf hP hS hl
        rw [eK271] at hf
        dsimp only at hf
        refine lv_icmp_ne (tgt := 711) hx hb dL_act_695 (by decide) (fun hc => ?_) (fun hc => ?_)
        · have hf := zif_n hf hc
          refine lv_iconst (v := 0) hx hb dL_act_711 (by decide) ?_
          obtain ⟨q1, q2⟩ := zs_i hf
          subst q1; subst q2
          exact z_zret hx hb hr (Or.inl rfl) rfl hP hS hlocks (Nat.le_of_ble_eq_true rfl) (Nat.le_of_ble_eq_true rfl) dL_act_712
        · have hf := zif_p hf hc
          refine lv_aload_n hx hb dL_act_698 rfl (lv_at hl 0 rfl) ?_
          refine lv_iconst (v := 4) hx hb dL_act_699 (by decide) ?_
          refine lv_iconst (v := 1) hx hb dL_act_700 (by decide) ?_
          obtain ⟨v276, T277, h278, hf⟩ := zb_i hf
          obtain ⟨T279, eT279, hf⟩ := zl_i hf
          refine z_ok (z_runSW (As := [.ref (G 0 0), .int 4, .int 1]) (rest := []) F kl_baked ml_729 ((c_L_baked 4 1 T273 T277 v276 h278).lift (by decide)) hP hS rfl rfl hl.1 (Nat.le_of_ble_eq_true rfl) dL_act_701 (Nat.le_of_ble_eq_true rfl) ⟨(Nat.le_of_ble_eq_true rfl), (Nat.le_of_ble_eq_true rfl)⟩ rfl) hS (fun H locs hP hS => ?_)
          rw [← eT279] at hP
          refine lv_if_eq (tgt := 711) hx hb dL_act_704 (by decide) (fun hc => ?_) (fun hc => ?_)
          · have hf := zif_p hf hc
            refine lv_iconst (v := 0) hx hb dL_act_711 (by decide) ?_
            obtain ⟨q1, q2⟩ := zs_i hf
            subst q1; subst q2
            exact z_zret hx hb hr (Or.inl rfl) rfl hP hS hlocks (Nat.le_of_ble_eq_true rfl) (Nat.le_of_ble_eq_true rfl) dL_act_712
          · have hf := zif_n hf hc
            refine lv_iconst (v := 1) hx hb dL_act_707 (by decide) ?_
            refine lv_goto (tgt := 712) hx hb dL_act_708 (by decide) ?_
            obtain ⟨q1, q2⟩ := zs_i hf
            subst q1; subst q2
            exact z_zret hx hb hr (Or.inr rfl) rfl hP hS hlocks (Nat.le_of_ble_eq_true rfl) (Nat.le_of_ble_eq_true rfl) dL_act_712
      refine lv_icmp_le (tgt := 690) hx hb dL_act_682 (by decide) (fun hc => ?_) (fun hc => ?_)
      · have hf := zif_p hf hc
        refine lv_iload hx hb dL_act_690 (lv_at hl 1 rfl) ?_
        refine lv_iload hx hb dL_act_692 (lv_at hl 2 rfl) ?_
        refine lv_iadd hx hb dL_act_694 ?_
        refine W.widen (k := 2) (n := 12) (Nat.le_of_ble_eq_true rfl) (Nat.le_of_ble_eq_true rfl) ?_
        exact J272 v267 (w263 + w264) T270 _ _ _ hf hP hS (lv_sub hl [0] rfl)
      · have hf := zif_n hf hc
        refine lv_iload hx hb dL_act_685 (lv_at hl 1 rfl) ?_
        refine lv_goto (tgt := 695) hx hb dL_act_687 (by decide) ?_
        refine W.widen (k := 2) (n := 12) (Nat.le_of_ble_eq_true rfl) (Nat.le_of_ble_eq_true rfl) ?_
        exact J272 v267 w263 T270 _ _ _ hf hP hS (lv_sub hl [0] rfl)
  refine lv_icmp_le (tgt := 662) hx hb dL_act_654 (by decide) (fun hc => ?_) (fun hc => ?_)
  · have hf := zif_p hf hc
    refine lv_iload hx hb dL_act_662 (lv_at hl 1 rfl) ?_
    refine lv_iload hx hb dL_act_664 (lv_at hl 0 rfl) ?_
    refine lv_iadd hx hb dL_act_666 ?_
    refine W.widen (k := 2) (n := 12) (Nat.le_of_ble_eq_true rfl) (Nat.le_of_ble_eq_true rfl) ?_
    exact J261 v248 x255 v256 (v248 + x255) T259 _ _ _ hf hP hS (lv_sub hl [2, 1, 0] rfl)
  · have hf := zif_n hf hc
    refine lv_bipush (v := (-3)) hx hb dL_act_657 (by decide) ?_
    refine lv_goto (tgt := 667) hx hb dL_act_659 (by decide) ?_
    refine W.widen (k := 2) (n := 12) (Nat.le_of_ble_eq_true rfl) (Nat.le_of_ble_eq_true rfl) ?_
    exact J261 v248 x255 v256 (-3) T259 _ _ _ hf hP hS (lv_sub hl [2, 1, 0] rfl)
set_option maxHeartbeats 8000000 in
set_option maxRecDepth 100000 in
theorem s_L_act_713 {p : Program} {l : Launch} {e : Env} {s : State} {m : MethodId} {args : Array Value} {below : List Frame} {meth : Method} {c : Code} {D : va_G} {Y : Nat → ClassId} {S V : Nat → Nat} {G : Nat → Nat → Nat} {A : Nat → Prop} {c0 : Cond} (F : zF 1 9 10 60 p l s m args c cL_act 27 RL c0 D Y S V G A) (hr : meth.sig.returnType = (some .boolean)) (hlocks : meth.locks = false) (hex : ∀ x ∈ c.exceptionTable.toList, False) (T : zT) {T' : zT} {v : Int32} {H : Heap} {locs : List Loc} {ls : Array Slot} (hf : sp_L_act_713 T = some (v, T')) (hP : zP 1 D Y G T H) (hS : va_S A s.heap H locs) (hl : lv_has ls 27 [(0, .ref (G 0 0)), (1, .ref (G 0 8))]) :
    W p l e (zR 9 10 60) s m args below meth c H locs 1 6 (vx_MQ below (zQ 1 D Y G A (.inl (some (.int v))) T') (zX 1 D Y G A (.inl (some (.int v))) T') args s 10 60 A) (F0 m 713 ls []) := by
  obtain ⟨hx, hb, hml, hown, hts, hl9, hG, hK, hA⟩ := id F
  unfold sp_L_act_713 at hf
  refine lv_aload_n hx hb dL_act_713 rfl (lv_at hl 1 rfl) ?_
  obtain ⟨v280, T281, h282, hf⟩ := zb_i hf
  refine z_ok (z_runS (As := [.ref (G 0 8)]) (rest := []) F kl_next ml_590 (c_L_next T T281 v280 h282) hP hS rfl rfl hl.1 (Nat.le_of_ble_eq_true rfl) dL_act_714 (Nat.le_of_ble_eq_true rfl) ⟨(Nat.le_of_ble_eq_true rfl), (Nat.le_of_ble_eq_true rfl)⟩ rfl) hS (fun H locs hP hS => ?_)
  refine lv_bipush (v := 6) hx hb dL_act_717 (by decide) ?_
  refine lv_irem hx hb dL_act_719 (by decide) ?_
  obtain ⟨x283, ex283, hf⟩ := zl_i hf
  refine z_topi ex283 ?_
  refine lv_istore (lv' := [(23, .int x283), (0, .ref (G 0 0)), (1, .ref (G 0 8))]) hx hb dL_act_720 hl (by decide) rfl (fun ls hl => ?_)
  refine lv_aload_n hx hb dL_act_722 rfl (lv_at hl 1 rfl) ?_
  refine lv_iload hx hb dL_act_723 (lv_at hl 0 rfl) ?_
  obtain ⟨v284, T285, h286, hf⟩ := zbi_i hf
  obtain ⟨T287, eT287, hf⟩ := zl_i hf
  refine z_ok (z_runV (As := [.int x283]) (rest := []) F k_X3_cakes ml_1019 (((c_X3_cakes x283 T281 T285 (.inl v284) h286).lift (by decide))) hP hS (zV_0 (by decide)) rfl rfl rfl rfl hl.1 (Nat.le_of_ble_eq_true rfl) dL_act_725 (Nat.le_of_ble_eq_true rfl) ⟨(Nat.le_of_ble_eq_true rfl), (Nat.le_of_ble_eq_true rfl)⟩ rfl) hS (fun H locs hP hS => ?_)
  rw [← eT287] at hP
  refine lv_istore (lv' := [(24, .int v284), (23, .int x283), (0, .ref (G 0 0)), (1, .ref (G 0 8))]) hx hb dL_act_728 hl (by decide) rfl (fun ls hl => ?_)
  refine lv_iconst (v := 1) hx hb dL_act_730 (by decide) ?_
  refine lv_aload_n hx hb dL_act_731 rfl (lv_at hl 3 rfl) ?_
  obtain ⟨v288, T289, h290, hf⟩ := zb_i hf
  refine z_ok (z_runS (As := [.ref (G 0 8)]) (rest := [.int 1]) F kl_next ml_590 (c_L_next T287 T289 v288 h290) hP hS rfl rfl hl.1 (Nat.le_of_ble_eq_true rfl) dL_act_732 (Nat.le_of_ble_eq_true rfl) ⟨(Nat.le_of_ble_eq_true rfl), (Nat.le_of_ble_eq_true rfl)⟩ rfl) hS (fun H locs hP hS => ?_)
  refine lv_bipush (v := 20) hx hb dL_act_735 (by decide) ?_
  refine lv_irem hx hb dL_act_737 (by decide) ?_
  refine lv_iadd hx hb dL_act_738 ?_
  obtain ⟨x291, ex291, hf⟩ := zl_i hf
  refine z_topi ex291 ?_
  refine lv_istore (lv' := [(25, .int x291), (24, .int v284), (23, .int x283), (0, .ref (G 0 0)), (1, .ref (G 0 8))]) hx hb dL_act_739 hl (by decide) rfl (fun ls hl => ?_)
  refine lv_iload hx hb dL_act_741 (lv_at hl 1 rfl) ?_
  refine lv_iload hx hb dL_act_743 (lv_at hl 0 rfl) ?_
  refine lv_iadd hx hb dL_act_745 ?_
  refine lv_bipush (v := 99) hx hb dL_act_746 (by decide) ?_
  obtain ⟨K292, eK292, hf⟩ := zl_i hf
  have J293 : ∀ (w295 : Int32) (w296 : Int32) (w297 : Int32) (z298 : Int32) (T294 : zT) (H : Heap) (locs : List Loc) (ls : Array Slot), K292 w295 w296 w297 z298 T294 = some (v, T') → zP 1 D Y G T294 H → va_S A s.heap H locs → lv_has ls 27 [(0, .ref (G 0 0)), (23, .int w295), (24, .int w296), (25, .int w297)] → W p l e (zR 9 10 60) s m args below meth c H locs (2) (12) (vx_MQ below (zQ 1 D Y G A (.inl (some (.int v))) T') (zX 1 D Y G A (.inl (some (.int v))) T') _ s 10 60 A) (F0 m 756 ls [.int z298]) := by
    intro w295 w296 w297 z298 T294 H locs ls hf hP hS hl
    rw [eK292] at hf
    dsimp only at hf
    refine lv_istore (lv' := [(26, .int z298), (0, .ref (G 0 0)), (23, .int w295), (24, .int w296), (25, .int w297)]) hx hb dL_act_756 hl (by decide) rfl (fun ls hl => ?_)
    refine lv_aload_n hx hb dL_act_758 rfl (lv_at hl 1 rfl) ?_
    refine lv_iload hx hb dL_act_759 (lv_at hl 2 rfl) ?_
    refine lv_iload hx hb dL_act_761 (lv_at hl 4 rfl) ?_
    obtain ⟨v299, T300, h301, hf⟩ := zb_i hf
    obtain ⟨T302, eT302, hf⟩ := zl_i hf
    refine z_ok (z_runSW (As := [.ref (G 0 0), .int w295, .int w297]) (rest := []) F kl_baked ml_729 ((c_L_baked w295 w297 T294 T300 v299 h301).lift (by decide)) hP hS rfl rfl hl.1 (Nat.le_of_ble_eq_true rfl) dL_act_763 (Nat.le_of_ble_eq_true rfl) ⟨(Nat.le_of_ble_eq_true rfl), (Nat.le_of_ble_eq_true rfl)⟩ rfl) hS (fun H locs hP hS => ?_)
    rw [← eT302] at hP
    refine lv_iload hx hb dL_act_766 (lv_at hl 0 rfl) ?_
    obtain ⟨K303, eK303, hf⟩ := zl_i hf
    have J304 : ∀ (w306 : Int32) (w307 : Int32) (w308 : Int32) (w309 : Int32) (z310 : Int32) (z311 : Int32) (T305 : zT) (H : Heap) (locs : List Loc) (ls : Array Slot), K303 w306 w307 w308 w309 z310 z311 T305 = some (v, T') → zP 1 D Y G T305 H → va_S A s.heap H locs → lv_has ls 27 [(0, .ref (G 0 0)), (23, .int w306), (24, .int w307), (25, .int w308), (26, .int w309)] → W p l e (zR 9 10 60) s m args below meth c H locs (4) (24) (vx_MQ below (zQ 1 D Y G A (.inl (some (.int v))) T') (zX 1 D Y G A (.inl (some (.int v))) T') _ s 10 60 A) (F0 m 781 ls [.int z311, .int z310]) := by
      intro w306 w307 w308 w309 z310 z311 T305 H locs ls hf hP hS hl
      rw [eK303] at hf
      dsimp only at hf
      refine lv_icmp_ne (tgt := 820) hx hb dL_act_781 (by decide) (fun hc => ?_) (fun hc => ?_)
      · have hf := zif_n hf hc
        refine lv_iconst (v := 0) hx hb dL_act_820 (by decide) ?_
        obtain ⟨q1, q2⟩ := zs_i hf
        subst q1; subst q2
        exact z_zret hx hb hr (Or.inl rfl) rfl hP hS hlocks (Nat.le_of_ble_eq_true rfl) (Nat.le_of_ble_eq_true rfl) dL_act_821
      · have hf := zif_p hf hc
        refine lv_aload_n hx hb dL_act_784 rfl (lv_at hl 0 rfl) ?_
        refine lv_iload hx hb dL_act_785 (lv_at hl 1 rfl) ?_
        obtain ⟨v312, T313, h314, hf⟩ := zbi_i hf
        obtain ⟨T315, eT315, hf⟩ := zl_i hf
        refine z_ok (z_runV (As := [.int w306]) (rest := []) F k_X3_cakes ml_1019 (((c_X3_cakes w306 T305 T313 (.inl v312) h314).lift (by decide))) hP hS (zV_0 (by decide)) rfl rfl rfl rfl hl.1 (Nat.le_of_ble_eq_true rfl) dL_act_787 (Nat.le_of_ble_eq_true rfl) ⟨(Nat.le_of_ble_eq_true rfl), (Nat.le_of_ble_eq_true rfl)⟩ rfl) hS (fun H locs hP hS => ?_)
        rw [← eT315] at hP
        refine lv_iload hx hb dL_act_790 (lv_at hl 4 rfl) ?_
        obtain ⟨K316, eK316, hf⟩ := zl_i hf
        have J317 : ∀ (z319 : Int32) (z320 : Int32) (T318 : zT) (H : Heap) (locs : List Loc) (ls : Array Slot), K316 z319 z320 T318 = some (v, T') → zP 1 D Y G T318 H → va_S A s.heap H locs → lv_has ls 27 [(0, .ref (G 0 0))] → W p l e (zR 9 10 60) s m args below meth c H locs (5) (30) (vx_MQ below (zQ 1 D Y G A (.inl (some (.int v))) T') (zX 1 D Y G A (.inl (some (.int v))) T') _ s 10 60 A) (F0 m 805 ls [.int z320, .int z319]) := by
          intro z319 z320 T318 H locs ls hf hP hS hl
          rw [eK316] at hf
          dsimp only at hf
          refine lv_icmp_ne (tgt := 820) hx hb dL_act_805 (by decide) (fun hc => ?_) (fun hc => ?_)
          · have hf := zif_n hf hc
            refine lv_iconst (v := 0) hx hb dL_act_820 (by decide) ?_
            obtain ⟨q1, q2⟩ := zs_i hf
            subst q1; subst q2
            exact z_zret hx hb hr (Or.inl rfl) rfl hP hS hlocks (Nat.le_of_ble_eq_true rfl) (Nat.le_of_ble_eq_true rfl) dL_act_821
          · have hf := zif_p hf hc
            refine lv_aload_n hx hb dL_act_808 rfl (lv_at hl 0 rfl) ?_
            refine lv_iconst (v := 1) hx hb dL_act_809 (by decide) ?_
            obtain ⟨v321, T322, h323, hf⟩ := zb_i hf
            obtain ⟨T324, eT324, hf⟩ := zl_i hf
            refine z_ok (z_runSW (As := [.ref (G 0 0), .int 1]) (rest := []) F kl_bought ml_720 ((c_L_bought 1 T318 T322 v321 h323).lift (by decide)) hP hS rfl rfl hl.1 (Nat.le_of_ble_eq_true rfl) dL_act_810 (Nat.le_of_ble_eq_true rfl) ⟨(Nat.le_of_ble_eq_true rfl), (Nat.le_of_ble_eq_true rfl)⟩ rfl) hS (fun H locs hP hS => ?_)
            rw [← eT324] at hP
            refine lv_if_eq (tgt := 820) hx hb dL_act_813 (by decide) (fun hc => ?_) (fun hc => ?_)
            · have hf := zif_p hf hc
              refine lv_iconst (v := 0) hx hb dL_act_820 (by decide) ?_
              obtain ⟨q1, q2⟩ := zs_i hf
              subst q1; subst q2
              exact z_zret hx hb hr (Or.inl rfl) rfl hP hS hlocks (Nat.le_of_ble_eq_true rfl) (Nat.le_of_ble_eq_true rfl) dL_act_821
            · have hf := zif_n hf hc
              refine lv_iconst (v := 1) hx hb dL_act_816 (by decide) ?_
              refine lv_goto (tgt := 821) hx hb dL_act_817 (by decide) ?_
              obtain ⟨q1, q2⟩ := zs_i hf
              subst q1; subst q2
              exact z_zret hx hb hr (Or.inr rfl) rfl hP hS hlocks (Nat.le_of_ble_eq_true rfl) (Nat.le_of_ble_eq_true rfl) dL_act_821
        refine lv_if_eq (tgt := 803) hx hb dL_act_792 (by decide) (fun hc => ?_) (fun hc => ?_)
        · have hf := zif_p hf hc
          refine lv_iload hx hb dL_act_803 (lv_at hl 2 rfl) ?_
          refine W.widen (k := 5) (n := 30) (Nat.le_of_ble_eq_true rfl) (Nat.le_of_ble_eq_true rfl) ?_
          exact J317 v312 w307 T315 _ _ _ hf hP hS (lv_sub hl [0] rfl)
        · have hf := zif_n hf hc
          refine lv_iload hx hb dL_act_795 (lv_at hl 2 rfl) ?_
          refine lv_iload hx hb dL_act_797 (lv_at hl 3 rfl) ?_
          refine lv_iadd hx hb dL_act_799 ?_
          refine lv_goto (tgt := 805) hx hb dL_act_800 (by decide) ?_
          refine W.widen (k := 5) (n := 30) (Nat.le_of_ble_eq_true rfl) (Nat.le_of_ble_eq_true rfl) ?_
          exact J317 v312 (w307 + w308) T315 _ _ _ hf hP hS (lv_sub hl [0] rfl)
    refine lv_if_eq (tgt := 779) hx hb dL_act_768 (by decide) (fun hc => ?_) (fun hc => ?_)
    · have hf := zif_p hf hc
      refine lv_bipush (v := (-3)) hx hb dL_act_779 (by decide) ?_
      refine W.widen (k := 4) (n := 24) (Nat.le_of_ble_eq_true rfl) (Nat.le_of_ble_eq_true rfl) ?_
      exact J304 w295 w296 w297 z298 v299 (-3) T302 _ _ _ hf hP hS (lv_sub hl [1, 2, 3, 4, 0] rfl)
    · have hf := zif_n hf hc
      refine lv_iload hx hb dL_act_771 (lv_at hl 3 rfl) ?_
      refine lv_iload hx hb dL_act_773 (lv_at hl 4 rfl) ?_
      refine lv_iadd hx hb dL_act_775 ?_
      refine lv_goto (tgt := 781) hx hb dL_act_776 (by decide) ?_
      refine W.widen (k := 4) (n := 24) (Nat.le_of_ble_eq_true rfl) (Nat.le_of_ble_eq_true rfl) ?_
      exact J304 w295 w296 w297 z298 v299 (w296 + w297) T302 _ _ _ hf hP hS (lv_sub hl [1, 2, 3, 4, 0] rfl)
  refine lv_icmp_gt (tgt := 755) hx hb dL_act_748 (by decide) (fun hc => ?_) (fun hc => ?_)
  · have hf := zif_p hf hc
    refine lv_iconst (v := 0) hx hb dL_act_755 (by decide) ?_
    refine W.widen (k := 2) (n := 12) (Nat.le_of_ble_eq_true rfl) (Nat.le_of_ble_eq_true rfl) ?_
    exact J293 x283 v284 x291 0 T289 _ _ _ hf hP hS (lv_sub hl [3, 2, 1, 0] rfl)
  · have hf := zif_n hf hc
    refine lv_iconst (v := 1) hx hb dL_act_751 (by decide) ?_
    refine lv_goto (tgt := 756) hx hb dL_act_752 (by decide) ?_
    refine W.widen (k := 2) (n := 12) (Nat.le_of_ble_eq_true rfl) (Nat.le_of_ble_eq_true rfl) ?_
    exact J293 x283 v284 x291 1 T289 _ _ _ hf hP hS (lv_sub hl [3, 2, 1, 0] rfl)
set_option maxHeartbeats 8000000 in
set_option maxRecDepth 100000 in
theorem c_L_act (T T' : zT) (v : Int32) (hf : f_L_act T = some (v, T')) : zC 1 yL_act cL_act 27 (some .boolean) 9 10 60 (fun G _ => [.ref (G 0 0), .ref (G 0 8)]) T (fun _ => .inl (some (.int v))) T' := by
  intro l D Y S V G A hl9 hG
  refine vx_ofW (cc := cL_act) (maxL := 27) (ret := (some .boolean)) (by decide) rfl ?_
  intro p e s m args below meth c s₁ B hml hex hv
  obtain ⟨rfl, hK, hP, hA⟩ := hv
  have hx := B.exec
  have hb := B.bytes
  have hr := B.returns
  have hlocks := B.notSynchronized
  have hown : s.vm.findClass RL = some m.cls := findClass_of_methodNamed B.named
  have hts := atoms_spec (ws := Cond.code yL_act cL_act 27 (some .boolean) :: zWS) B.pre
  have F : zF 1 9 10 60 p l s m _ c cL_act 27 RL (Cond.code yL_act cL_act 27 (some .boolean)) D Y S V G A := ⟨hx, hb, hml, hown, hts, hl9, hG, hK, hA⟩
  have hS : va_S A s.heap s.heap [] := va_S.rf
  have hl := lv_entry ([.ref (G 0 0), .ref (G 0 8)]) (n := 27) (Nat.le_of_ble_eq_true rfl)
  rw [lg_entry_eq]
  generalize (lg_sl ([.ref (G 0 0), .ref (G 0 8)]) ++ List.replicate (27 - (lg_sl ([.ref (G 0 0), .ref (G 0 8)])).length) Slot.unset).toArray = ls at hl ⊢
  have hl : lv_has ls 27 [(0, .ref (G 0 0)), (1, .ref (G 0 8))] := hl
  unfold f_L_act at hf
  refine lv_aload_n hx hb dL_act_0 rfl (lv_at hl 0 rfl) ?_
  obtain ⟨v1, T2, h3, hf⟩ := zb_i hf
  obtain ⟨T4, eT4, hf⟩ := zl_i hf
  refine z_ok (z_runV (As := []) (rest := []) F k_X3_childCount ml_1023 (((c_X3_childCount T T2 v1 h3).lift (by decide))) hP hS (zV_0 (by decide)) rfl rfl rfl rfl hl.1 (Nat.le_of_ble_eq_true rfl) dL_act_1 (Nat.le_of_ble_eq_true rfl) ⟨(Nat.le_of_ble_eq_true rfl), (Nat.le_of_ble_eq_true rfl)⟩ rfl) hS (fun H locs hP hS => ?_)
  rw [← eT4] at hP
  refine lv_istore_n (lv' := [(2, .int v1), (0, .ref (G 0 0)), (1, .ref (G 0 8))]) hx hb dL_act_4 rfl hl (by decide) rfl (fun ls hl => ?_)
  refine lv_iload_n hx hb dL_act_5 rfl (lv_at hl 0 rfl) ?_
  obtain ⟨K5, eK5, hf⟩ := zl_i hf
  have J6 : ∀ (w12 : Int32) (z13 : Int32) (T11 : zT) (H : Heap) (locs : List Loc) (ls : Array Slot), K5 w12 z13 T11 = some (v, T') → zP 1 D Y G T11 H → va_S A s.heap H locs → lv_has ls 27 [(0, .ref (G 0 0)), (1, .ref (G 0 8)), (2, .int w12)] → W p l e (zR 9 10 60) s m args below meth c H locs (0) (0) (vx_MQ below (zQ 1 D Y G A (.inl (some (.int v))) T') (zX 1 D Y G A (.inl (some (.int v))) T') _ s 10 60 A) (F0 m 19 ls [.int z13]) := by
    intro w12 z13 T11 H locs ls hf hP hS hl
    rw [eK5] at hf
    dsimp only at hf
    refine lv_istore_n (lv' := [(3, .int z13), (0, .ref (G 0 0)), (1, .ref (G 0 8)), (2, .int w12)]) hx hb dL_act_19 rfl hl (by decide) rfl (fun ls hl => ?_)
    refine lv_aload_n hx hb dL_act_20 rfl (lv_at hl 2 rfl) ?_
    obtain ⟨v14, T15, h16, hf⟩ := zb_i hf
    refine z_ok (z_runS (As := [.ref (G 0 8)]) (rest := []) F kl_next ml_590 (c_L_next T11 T15 v14 h16) hP hS rfl rfl hl.1 (Nat.le_of_ble_eq_true rfl) dL_act_21 (Nat.le_of_ble_eq_true rfl) ⟨(Nat.le_of_ble_eq_true rfl), (Nat.le_of_ble_eq_true rfl)⟩ rfl) hS (fun H locs hP hS => ?_)
    refine lv_aload_n hx hb dL_act_24 rfl (lv_at hl 1 rfl) ?_
    obtain ⟨v17, T18, h19, hf⟩ := zb_i hf
    obtain ⟨T20, eT20, hf⟩ := zl_i hf
    refine z_ok (z_runV (As := []) (rest := [.int v14]) F k_X3_gardenCount ml_1151 (((c_X3_gardenCount T15 T18 v17 h19).lift (by decide))) hP hS (zV_0 (by decide)) rfl rfl rfl rfl hl.1 (Nat.le_of_ble_eq_true rfl) dL_act_25 (Nat.le_of_ble_eq_true rfl) ⟨(Nat.le_of_ble_eq_true rfl), (Nat.le_of_ble_eq_true rfl)⟩ rfl) hS (fun H locs hP hS => ?_)
    rw [← eT20] at hP
    obtain ⟨h21, hf⟩ := zif_c hf
    refine lv_irem hx hb dL_act_28 h21 ?_
    obtain ⟨x22, ex22, hf⟩ := zl_i hf
    refine z_topi ex22 ?_
    refine lv_istore (lv' := [(4, .int x22), (3, .int z13), (0, .ref (G 0 0)), (1, .ref (G 0 8)), (2, .int w12)]) hx hb dL_act_29 hl (by decide) rfl (fun ls hl => ?_)
    refine lv_iconst (v := 1) hx hb dL_act_31 (by decide) ?_
    refine lv_aload_n hx hb dL_act_32 rfl (lv_at hl 3 rfl) ?_
    obtain ⟨v23, T24, h25, hf⟩ := zb_i hf
    refine z_ok (z_runS (As := [.ref (G 0 8)]) (rest := [.int 1]) F kl_next ml_590 (c_L_next T20 T24 v23 h25) hP hS rfl rfl hl.1 (Nat.le_of_ble_eq_true rfl) dL_act_33 (Nat.le_of_ble_eq_true rfl) ⟨(Nat.le_of_ble_eq_true rfl), (Nat.le_of_ble_eq_true rfl)⟩ rfl) hS (fun H locs hP hS => ?_)
    refine lv_bipush (v := 12) hx hb dL_act_36 (by decide) ?_
    refine lv_irem hx hb dL_act_38 (by decide) ?_
    refine lv_iadd hx hb dL_act_39 ?_
    obtain ⟨x26, ex26, hf⟩ := zl_i hf
    refine z_topi ex26 ?_
    refine lv_istore (lv' := [(5, .int x26), (4, .int x22), (3, .int z13), (0, .ref (G 0 0)), (1, .ref (G 0 8)), (2, .int w12)]) hx hb dL_act_40 hl (by decide) rfl (fun ls hl => ?_)
    refine lv_iconst (v := 1) hx hb dL_act_42 (by decide) ?_
    refine lv_aload_n hx hb dL_act_43 rfl (lv_at hl 4 rfl) ?_
    obtain ⟨v27, T28, h29, hf⟩ := zb_i hf
    refine z_ok (z_runS (As := [.ref (G 0 8)]) (rest := [.int 1]) F kl_next ml_590 (c_L_next T24 T28 v27 h29) hP hS rfl rfl hl.1 (Nat.le_of_ble_eq_true rfl) dL_act_44 (Nat.le_of_ble_eq_true rfl) ⟨(Nat.le_of_ble_eq_true rfl), (Nat.le_of_ble_eq_true rfl)⟩ rfl) hS (fun H locs hP hS => ?_)
    refine lv_bipush (v := 30) hx hb dL_act_47 (by decide) ?_
    refine lv_irem hx hb dL_act_49 (by decide) ?_
    refine lv_iadd hx hb dL_act_50 ?_
    obtain ⟨x30, ex30, hf⟩ := zl_i hf
    refine z_topi ex30 ?_
    refine lv_istore (lv' := [(6, .int x30), (5, .int x26), (4, .int x22), (3, .int z13), (0, .ref (G 0 0)), (1, .ref (G 0 8)), (2, .int w12)]) hx hb dL_act_51 hl (by decide) rfl (fun ls hl => ?_)
    refine lv_iload hx hb dL_act_53 (lv_at hl 1 rfl) ?_
    refine lv_iconst (v := 1) hx hb dL_act_55 (by decide) ?_
    refine lv_isub hx hb dL_act_56 ?_
    refine lv_bipush (v := 30) hx hb dL_act_57 (by decide) ?_
    refine lv_imul hx hb dL_act_59 ?_
    refine lv_iload hx hb dL_act_60 (lv_at hl 0 rfl) ?_
    refine lv_iadd hx hb dL_act_62 ?_
    refine lv_iconst (v := 1) hx hb dL_act_63 (by decide) ?_
    refine lv_isub hx hb dL_act_64 ?_
    obtain ⟨x31, ex31, hf⟩ := zl_i hf
    refine z_topi ex31 ?_
    refine lv_istore (lv' := [(7, .int x31), (6, .int x30), (5, .int x26), (4, .int x22), (3, .int z13), (0, .ref (G 0 0)), (1, .ref (G 0 8)), (2, .int w12)]) hx hb dL_act_65 hl (by decide) rfl (fun ls hl => ?_)
    refine lv_iload_n hx hb dL_act_67 rfl (lv_at hl 7 rfl) ?_
    obtain ⟨K32, eK32, hf⟩ := zl_i hf
    have J33 : ∀ (w39 : Int32) (w40 : Int32) (w41 : Int32) (w42 : Int32) (w43 : Int32) (w44 : Int32) (z45 : Int32) (T38 : zT) (H : Heap) (locs : List Loc) (ls : Array Slot), K32 w39 w40 w41 w42 w43 w44 z45 T38 = some (v, T') → zP 1 D Y G T38 H → va_S A s.heap H locs → lv_has ls 27 [(0, .ref (G 0 0)), (1, .ref (G 0 8)), (2, .int w39), (3, .int w40), (4, .int w41), (5, .int w42), (6, .int w43), (7, .int w44)] → W p l e (zR 9 10 60) s m args below meth c H locs (1) (6) (vx_MQ below (zQ 1 D Y G A (.inl (some (.int v))) T') (zX 1 D Y G A (.inl (some (.int v))) T') _ s 10 60 A) (F0 m 80 ls [.int z45]) := by
      intro w39 w40 w41 w42 w43 w44 z45 T38 H locs ls hf hP hS hl
      rw [eK32] at hf
      dsimp only at hf
      refine lv_istore (lv' := [(8, .int z45), (0, .ref (G 0 0)), (1, .ref (G 0 8)), (2, .int w39), (3, .int w40), (4, .int w41), (5, .int w42), (6, .int w43), (7, .int w44)]) hx hb dL_act_80 hl (by decide) rfl (fun ls hl => ?_)
      refine lv_aload_n hx hb dL_act_82 rfl (lv_at hl 2 rfl) ?_
      obtain ⟨v46, T47, h48, hf⟩ := zb_i hf
      refine z_ok (z_runS (As := [.ref (G 0 8)]) (rest := []) F kl_next ml_590 (c_L_next T38 T47 v46 h48) hP hS rfl rfl hl.1 (Nat.le_of_ble_eq_true rfl) dL_act_83 (Nat.le_of_ble_eq_true rfl) ⟨(Nat.le_of_ble_eq_true rfl), (Nat.le_of_ble_eq_true rfl)⟩ rfl) hS (fun H locs hP hS => ?_)
      refine lv_bipush (v := 10) hx hb dL_act_86 (by decide) ?_
      refine lv_irem hx hb dL_act_88 (by decide) ?_
      obtain ⟨x49, ex49, hf⟩ := zl_i hf
      refine z_topi ex49 ?_
      by_cases hq0 : x49 = 0
      · have hf := zif_p hf hq0
        refine lv_tableIn (tgt := 140) hx hb dL_act_89 (by rw [hq0]; decide) (by rw [hq0]; decide) (by rw [hq0]; rfl) (by decide) ?_
        refine W.widen (k := 1) (n := 6) (Nat.le_of_ble_eq_true rfl) (Nat.le_of_ble_eq_true rfl) ?_
        exact s_L_act_140 F hr hlocks hex w39 w40 T47 hf hP hS (lv_sub hl [1, 2, 3, 4] rfl)
      replace hf := zif_n hf hq0
      by_cases hq1 : x49 = 1
      · have hf := zif_p hf hq1
        refine lv_tableIn (tgt := 140) hx hb dL_act_89 (by rw [hq1]; decide) (by rw [hq1]; decide) (by rw [hq1]; rfl) (by decide) ?_
        refine W.widen (k := 1) (n := 6) (Nat.le_of_ble_eq_true rfl) (Nat.le_of_ble_eq_true rfl) ?_
        exact s_L_act_140 F hr hlocks hex w39 w40 T47 hf hP hS (lv_sub hl [1, 2, 3, 4] rfl)
      replace hf := zif_n hf hq1
      by_cases hq2 : x49 = 2
      · have hf := zif_p hf hq2
        refine lv_tableIn (tgt := 228) hx hb dL_act_89 (by rw [hq2]; decide) (by rw [hq2]; decide) (by rw [hq2]; rfl) (by decide) ?_
        refine W.widen (k := 1) (n := 6) (Nat.le_of_ble_eq_true rfl) (Nat.le_of_ble_eq_true rfl) ?_
        exact s_L_act_228 F hr hlocks hex w39 w40 T47 hf hP hS (lv_sub hl [1, 3, 4] rfl)
      replace hf := zif_n hf hq2
      by_cases hq3 : x49 = 3
      · have hf := zif_p hf hq3
        refine lv_tableIn (tgt := 228) hx hb dL_act_89 (by rw [hq3]; decide) (by rw [hq3]; decide) (by rw [hq3]; rfl) (by decide) ?_
        refine W.widen (k := 1) (n := 6) (Nat.le_of_ble_eq_true rfl) (Nat.le_of_ble_eq_true rfl) ?_
        exact s_L_act_228 F hr hlocks hex w39 w40 T47 hf hP hS (lv_sub hl [1, 3, 4] rfl)
      replace hf := zif_n hf hq3
      by_cases hq4 : x49 = 4
      · have hf := zif_p hf hq4
        refine lv_tableIn (tgt := 338) hx hb dL_act_89 (by rw [hq4]; decide) (by rw [hq4]; decide) (by rw [hq4]; rfl) (by decide) ?_
        refine W.widen (k := 1) (n := 6) (Nat.le_of_ble_eq_true rfl) (Nat.le_of_ble_eq_true rfl) ?_
        exact s_L_act_338 F hr hlocks hex w39 w40 w42 w43 w44 T47 hf hP hS (lv_sub hl [1, 3, 4, 6, 7, 8] rfl)
      replace hf := zif_n hf hq4
      by_cases hq5 : x49 = 5
      · have hf := zif_p hf hq5
        refine lv_tableIn (tgt := 338) hx hb dL_act_89 (by rw [hq5]; decide) (by rw [hq5]; decide) (by rw [hq5]; rfl) (by decide) ?_
        refine W.widen (k := 1) (n := 6) (Nat.le_of_ble_eq_true rfl) (Nat.le_of_ble_eq_true rfl) ?_
        exact s_L_act_338 F hr hlocks hex w39 w40 w42 w43 w44 T47 hf hP hS (lv_sub hl [1, 3, 4, 6, 7, 8] rfl)
      replace hf := zif_n hf hq5
      by_cases hq6 : x49 = 6
      · have hf := zif_p hf hq6
        refine lv_tableIn (tgt := 441) hx hb dL_act_89 (by rw [hq6]; decide) (by rw [hq6]; decide) (by rw [hq6]; rfl) (by decide) ?_
        refine W.widen (k := 1) (n := 6) (Nat.le_of_ble_eq_true rfl) (Nat.le_of_ble_eq_true rfl) ?_
        exact s_L_act_441 F hr hlocks hex w39 w40 z45 T47 hf hP hS (lv_sub hl [1, 3, 4, 0] rfl)
      replace hf := zif_n hf hq6
      by_cases hq7 : x49 = 7
      · have hf := zif_p hf hq7
        refine lv_tableIn (tgt := 491) hx hb dL_act_89 (by rw [hq7]; decide) (by rw [hq7]; decide) (by rw [hq7]; rfl) (by decide) ?_
        refine W.widen (k := 1) (n := 6) (Nat.le_of_ble_eq_true rfl) (Nat.le_of_ble_eq_true rfl) ?_
        exact s_L_act_491 F hr hlocks hex w39 w40 w41 z45 T47 hf hP hS (lv_sub hl [1, 3, 4, 5, 0] rfl)
      replace hf := zif_n hf hq7
      by_cases hq8 : x49 = 8
      · have hf := zif_p hf hq8
        refine lv_tableIn (tgt := 622) hx hb dL_act_89 (by rw [hq8]; decide) (by rw [hq8]; decide) (by rw [hq8]; rfl) (by decide) ?_
        refine W.widen (k := 1) (n := 6) (Nat.le_of_ble_eq_true rfl) (Nat.le_of_ble_eq_true rfl) ?_
        exact s_L_act_622 F hr hlocks hex T47 hf hP hS (lv_sub hl [1, 2] rfl)
      replace hf := zif_n hf hq8
      obtain ⟨hq, hf⟩ := zif_c hf
      refine lv_tableOut (tgt := 713) hx hb dL_act_89 (Or.inr (z_tabo hq (by decide))) (by decide) ?_
      refine W.widen (k := 1) (n := 6) (Nat.le_of_ble_eq_true rfl) (Nat.le_of_ble_eq_true rfl) ?_
      exact s_L_act_713 F hr hlocks hex T47 hf hP hS (lv_sub hl [1, 2] rfl)
    refine lv_if_ne (tgt := 75) hx hb dL_act_68 (by decide) (fun hc => ?_) (fun hc => ?_)
    · have hf := zif_n hf hc
      refine lv_aload_n hx hb dL_act_75 rfl (lv_at hl 5 rfl) ?_
      refine lv_iload_n hx hb dL_act_76 rfl (lv_at hl 4 rfl) ?_
      obtain ⟨v34, T35, h36, hf⟩ := zbi_i hf
      obtain ⟨T37, eT37, hf⟩ := zl_i hf
      refine z_ok (z_runV (As := [.int z13]) (rest := []) F k_X3_birthdayOf ml_1035 (((c_X3_birthdayOf z13 T28 T35 (.inl v34) h36).lift (by decide))) hP hS (zV_0 (by decide)) rfl rfl rfl rfl hl.1 (Nat.le_of_ble_eq_true rfl) dL_act_77 (Nat.le_of_ble_eq_true rfl) ⟨(Nat.le_of_ble_eq_true rfl), (Nat.le_of_ble_eq_true rfl)⟩ rfl) hS (fun H locs hP hS => ?_)
      rw [← eT37] at hP
      refine W.widen (k := 1) (n := 6) (Nat.le_of_ble_eq_true rfl) (Nat.le_of_ble_eq_true rfl) ?_
      exact J33 w12 z13 x22 x26 x30 x31 v34 T37 _ _ _ hf hP hS (lv_sub hl [5, 6, 7, 4, 3, 2, 1, 0] rfl)
    · have hf := zif_p hf hc
      refine lv_iconst (v := (-1)) hx hb dL_act_71 (by decide) ?_
      refine lv_goto (tgt := 80) hx hb dL_act_72 (by decide) ?_
      refine W.widen (k := 1) (n := 6) (Nat.le_of_ble_eq_true rfl) (Nat.le_of_ble_eq_true rfl) ?_
      exact J33 w12 z13 x22 x26 x30 x31 (-1) T28 _ _ _ hf hP hS (lv_sub hl [5, 6, 7, 4, 3, 2, 1, 0] rfl)
  refine lv_if_ne (tgt := 13) hx hb dL_act_6 (by decide) (fun hc => ?_) (fun hc => ?_)
  · have hf := zif_n hf hc
    refine lv_aload_n hx hb dL_act_13 rfl (lv_at hl 2 rfl) ?_
    obtain ⟨v7, T8, h9, hf⟩ := zb_i hf
    refine z_ok (z_runS (As := [.ref (G 0 8)]) (rest := []) F kl_next ml_590 (c_L_next T4 T8 v7 h9) hP hS rfl rfl hl.1 (Nat.le_of_ble_eq_true rfl) dL_act_14 (Nat.le_of_ble_eq_true rfl) ⟨(Nat.le_of_ble_eq_true rfl), (Nat.le_of_ble_eq_true rfl)⟩ rfl) hS (fun H locs hP hS => ?_)
    refine lv_iload_n hx hb dL_act_17 rfl (lv_at hl 0 rfl) ?_
    obtain ⟨h10, hf⟩ := zif_c hf
    refine lv_irem hx hb dL_act_18 h10 ?_
    refine W.widen (k := 0) (n := 0) (Nat.le_of_ble_eq_true rfl) (Nat.le_of_ble_eq_true rfl) ?_
    exact J6 v1 (v7 - v7 / v1 * v1) T8 _ _ _ hf hP hS (lv_sub hl [1, 2, 0] rfl)
  · have hf := zif_p hf hc
    refine lv_iconst (v := 0) hx hb dL_act_9 (by decide) ?_
    refine lv_goto (tgt := 19) hx hb dL_act_10 (by decide) ?_
    refine W.widen (k := 0) (n := 0) (Nat.le_of_ble_eq_true rfl) (Nat.le_of_ble_eq_true rfl) ?_
    exact J6 v1 0 T4 _ _ _ hf hP hS (lv_sub hl [1, 2, 0] rfl)
