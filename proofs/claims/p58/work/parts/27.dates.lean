/-! THE LAW'S OWN METHODS, by program -/
def lp_L_dates_t_239 (w1 : Int32) (w2 : Int32) (w6 : Int32) : Nat → Int32 → Int32 → zT → Option ((Int32 × Int32) × zT)
  | 0, _, _, _ => none
  | n + 1, u5, u8, T => zb (f_X3_childCount T) fun v1 T2 => zl (zk T T2) fun T4 => (if v1 ≤ u8 then some ((u5, u8), T4) else zbi (f_X3_birthdayOf u8 T4) fun v5 T6 => zl (zk T4 T6) fun T8 => zl (fun (z12 : Int32) (z13 : Int32) (T11 : zT) => zl (z12 - z13) fun x14 => zbi (f_X3_cakeOf u8 T11) fun v15 T16 => zl (zk T11 T16) fun T18 => if zin v15 6 = true then if zin v15 6 = true then zl (wA T18 0 8 (upd (T18.2 0 8) v15.toNatClampNeg ((T18.2 0 8 v15.toNatClampNeg) + 1))) fun T21 => zl (u8 + 1) fun x22 => lp_L_dates_t_239 w1 w2 w6 n x14 x22 T21 else none else none) fun K9 => (if v5 < 0 then K9 u5 0 T8 else K9 u5 1 T8))
def lp_L_dates_t_289 (w1 : Int32) (w5 : Int32) (w6 : Int32) : Nat → Int32 → Int32 → zT → Option ((Int32 × Int32) × zT)
  | 0, _, _, _ => none
  | n + 1, u2, u8, T => (if 6 ≤ u8 then some ((u2, u8), T) else zl (fun (T36 : zT) => zl (u8 + 1) fun x37 => lp_L_dates_t_289 w1 w5 w6 n 0 x37 T36) fun K26 => (if u2 = 0 then K26 T else if zin u8 6 = true then if zin w6 6 = true then zl (fun (T34 : zT) => zl (u8 + 1) fun x35 => lp_L_dates_t_289 w1 w5 w6 n 1 x35 T34) fun K30 => (if (T.2 0 8 u8.toNatClampNeg) < (T.2 0 8 w6.toNatClampNeg) then K30 T else if zin u8 6 = true then if zin w6 6 = true then (if (T.2 0 8 u8.toNatClampNeg) = (T.2 0 8 w6.toNatClampNeg) then (if u8 < w6 then K26 T else K30 T) else K26 T) else none else none) else none else none))
def rg_L_dates_t (w1 : Int32) (w2 : Int32) (w5 : Int32) (w6 : Int32) (T : zT) : Option (Int32 × zT) := zb (lp_L_dates_t_239 w1 w2 w6 16 w5 0 T) fun v24 T23 => zb (lp_L_dates_t_289 w1 v24.1 w6 16 w2 0 T23) fun v39 T38 => (if v39.1 = 0 then some (0, T38) else (if v24.1 = 0 then zb (f_X3_differentDates T38) fun v41 T42 => zl (zk T38 T42) fun T44 => (if v41 = w1 then zb (f_L_dateAt w1 T44) fun v45 T46 => zl (zk T44 T46) fun T48 => (if v45 = (-5) then some (1, T48) else some (0, T48)) else some (0, T44)) else some (0, T38)))
set_option maxHeartbeats 8000000 in
set_option maxRecDepth 100000 in
theorem l_L_dates_t_239 {p : Program} {l : Launch} {e : Env} {s : State} {m : MethodId} {args : Array Value} {below : List Frame} {meth : Method} {c : Code} {Q : State → Prop} {D : va_G} {Y : Nat → ClassId} {S V : Nat → Nat} {G : Nat → Nat → Nat} {A : Nat → Prop} {c0 : Cond} {mc ms : Nat} {ce se : Nat} (hcm : ce ≤ mc ∧ se ≤ ms) (F : zF 6 8 mc ms p l s m args c cL_dates 9 RL c0 D Y S V G A) (w1 : Int32) (w2 : Int32) (w6 : Int32) :
    ∀ (n cells slots : Nat) (u5 : Int32) (u8 : Int32) (T : zT) (o : (Int32 × Int32) × zT) (H : Heap) (locs : List Loc) (ls : Array Slot), cells + 2 * n ≤ ce → slots + 12 * n ≤ se → lp_L_dates_t_239 w1 w2 w6 n u5 u8 T = some o → zP 6 D Y G T H → va_S A s.heap H locs → lv_has ls 9 [(0, .ref (G 0 0)), (1, .int w1), (2, .int w2), (5, .int u5), (6, .int w6), (7, .ref (G 0 8)), (8, .int u8)] → (∀ (H : Heap) (locs : List Loc) (ls : Array Slot), zP 6 D Y G o.2 H → va_S A s.heap H locs → lv_has ls 9 [(0, .ref (G 0 0)), (1, .int w1), (2, .int w2), (5, .int o.1.1), (6, .int w6), (7, .ref (G 0 8)), (8, .int o.1.2)] → W p l e (zR 8 mc ms) s m args below meth c H locs ce se Q (F0 m 286 ls [])) → W p l e (zR 8 mc ms) s m args below meth c H locs cells slots Q (F0 m 239 ls []) := by
  obtain ⟨hx, hb, hml, hown, hts, hl9, hG, hK, hA⟩ := id F
  intro n
  induction n with
  | zero =>
    intro cells slots u5 u8 T o H locs ls _ _ hf
    rw [lp_L_dates_t_239] at hf
    cases hf
  | succ n ih =>
    intro cells slots u5 u8 T o H locs ls hc1 hc2 hf hP hS hl k0_
    rw [lp_L_dates_t_239] at hf
    refine lv_iload hx hb dL_dates_239 (lv_at hl 6 rfl) ?_
    refine lv_aload_n hx hb dL_dates_241 rfl (lv_at hl 0 rfl) ?_
    obtain ⟨v1, T2, h3, hf⟩ := zb_i hf
    obtain ⟨T4, eT4, hf⟩ := zl_i hf
    refine z_ok (z_runV (As := []) (rest := [.int u8]) F k_X3_childCount ml_1023 (((c_X3_childCount T T2 v1 h3).lift (by decide))) hP hS (zV_0 (by decide)) rfl rfl rfl rfl hl.1 (Nat.le_of_ble_eq_true rfl) dL_dates_242 (Nat.le_of_ble_eq_true rfl) ⟨by omega, by omega⟩ rfl) hS (fun H locs hP hS => ?_)
    rw [← eT4] at hP
    refine lv_icmp_ge (tgt := 286) hx hb dL_dates_245 (by decide) (fun hc => ?_) (fun hc => ?_)
    · have hf := zif_p hf hc
      cases hf
      refine W.widen (k := ce) (n := se) (by omega) (by omega) ?_
      exact k0_ _ _ _ hP hS (lv_sub hl [0, 1, 2, 3, 4, 5, 6] rfl)
    · have hf := zif_n hf hc
      refine lv_iload hx hb dL_dates_248 (lv_at hl 3 rfl) ?_
      refine lv_aload_n hx hb dL_dates_250 rfl (lv_at hl 0 rfl) ?_
      refine lv_iload hx hb dL_dates_251 (lv_at hl 6 rfl) ?_
      obtain ⟨v5, T6, h7, hf⟩ := zbi_i hf
      obtain ⟨T8, eT8, hf⟩ := zl_i hf
      refine z_ok (z_runV (As := [.int u8]) (rest := [.int u5]) F k_X3_birthdayOf ml_1035 (((c_X3_birthdayOf u8 T4 T6 (.inl v5) h7).lift (by decide))) hP hS (zV_0 (by decide)) rfl rfl rfl rfl hl.1 (Nat.le_of_ble_eq_true rfl) dL_dates_253 (Nat.le_of_ble_eq_true rfl) ⟨by omega, by omega⟩ rfl) hS (fun H locs hP hS => ?_)
      rw [← eT8] at hP
      obtain ⟨K9, eK9, hf⟩ := zl_i hf
      have J10 : ∀ (z12 : Int32) (z13 : Int32) (T11 : zT) (H : Heap) (locs : List Loc) (ls : Array Slot), K9 z12 z13 T11 = some o → zP 6 D Y G T11 H → va_S A s.heap H locs → lv_has ls 9 [(0, .ref (G 0 0)), (1, .int w1), (2, .int w2), (6, .int w6), (7, .ref (G 0 8)), (8, .int u8)] → W p l e (zR 8 mc ms) s m args below meth c H locs (cells + 1) (slots + 6) Q (F0 m 264 ls [.int z13, .int z12]) := by
        intro z12 z13 T11 H locs ls hf hP hS hl
        rw [eK9] at hf
        dsimp only at hf
        refine lv_isub hx hb dL_dates_264 ?_
        obtain ⟨x14, ex14, hf⟩ := zl_i hf
        refine z_topi ex14 ?_
        refine lv_istore (lv' := [(5, .int x14), (0, .ref (G 0 0)), (1, .int w1), (2, .int w2), (6, .int w6), (7, .ref (G 0 8)), (8, .int u8)]) hx hb dL_dates_265 hl (by decide) rfl (fun ls hl => ?_)
        refine lv_aload hx hb dL_dates_267 (lv_at hl 5 rfl) ?_
        refine lv_aload_n hx hb dL_dates_269 rfl (lv_at hl 1 rfl) ?_
        refine lv_iload hx hb dL_dates_270 (lv_at hl 6 rfl) ?_
        obtain ⟨v15, T16, h17, hf⟩ := zbi_i hf
        obtain ⟨T18, eT18, hf⟩ := zl_i hf
        refine z_ok (z_runV (As := [.int u8]) (rest := [.ref (G 0 8)]) F k_X3_cakeOf ml_1073 (((c_X3_cakeOf u8 T11 T16 (.inl v15) h17).lift (by decide))) hP hS (zV_0 (by decide)) rfl rfl rfl rfl hl.1 (Nat.le_of_ble_eq_true rfl) dL_dates_272 (Nat.le_of_ble_eq_true rfl) ⟨by omega, by omega⟩ rfl) hS (fun H locs hP hS => ?_)
        rw [← eT18] at hP
        refine lv_dup2_11 hx hb dL_dates_275 rfl rfl ?_
        obtain ⟨h19, hf⟩ := zif_c hf
        refine z_iald hx hb hK hP (zIA_8 (by decide)) (zin_i h19) dL_dates_276 ?_
        refine lv_iconst (v := 1) hx hb dL_dates_277 (by decide) ?_
        refine lv_iadd hx hb dL_dates_278 ?_
        obtain ⟨h20, hf⟩ := zif_c hf
        obtain ⟨T21, eT21, hf⟩ := zl_i hf
        refine z_iast hx hb hK hP hG hS (zIA_8 (by decide)) (zin_i h20) dL_dates_279 (fun H locs hP hS => ?_)
        rw [← eT21] at hP
        obtain ⟨x22, ex22, hf⟩ := zl_i hf
        refine lv_iinc (v := x22) (lv' := [(8, .int x22), (5, .int x14), (0, .ref (G 0 0)), (1, .int w1), (2, .int w2), (6, .int w6), (7, .ref (G 0 8))]) hx hb dL_dates_280 hl (k := 6) rfl (by rw [ex22]; rfl) (by decide) rfl (fun ls hl => ?_)
        refine lv_goto (tgt := 239) hx hb dL_dates_283 (by decide) ?_
        exact ih (cells + 2) (slots + 12) x14 x22 _ _ _ _ _ (by omega) (by omega) hf hP hS (lv_sub hl [2, 3, 4, 1, 5, 6, 0] rfl) k0_
      refine lv_if_lt (tgt := 263) hx hb dL_dates_256 (by decide) (fun hc => ?_) (fun hc => ?_)
      · have hf := zif_p hf hc
        refine lv_iconst (v := 0) hx hb dL_dates_263 (by decide) ?_
        refine W.widen (k := cells + 1) (n := slots + 6) (by omega) (by omega) ?_
        exact J10 u5 0 T8 _ _ _ hf hP hS (lv_sub hl [0, 1, 2, 4, 5, 6] rfl)
      · have hf := zif_n hf hc
        refine lv_iconst (v := 1) hx hb dL_dates_259 (by decide) ?_
        refine lv_goto (tgt := 264) hx hb dL_dates_260 (by decide) ?_
        refine W.widen (k := cells + 1) (n := slots + 6) (by omega) (by omega) ?_
        exact J10 u5 1 T8 _ _ _ hf hP hS (lv_sub hl [0, 1, 2, 4, 5, 6] rfl)
set_option maxHeartbeats 8000000 in
set_option maxRecDepth 100000 in
theorem l_L_dates_t_289 {p : Program} {l : Launch} {e : Env} {s : State} {m : MethodId} {args : Array Value} {below : List Frame} {meth : Method} {c : Code} {Q : State → Prop} {D : va_G} {Y : Nat → ClassId} {S V : Nat → Nat} {G : Nat → Nat → Nat} {A : Nat → Prop} {c0 : Cond} {mc ms : Nat} {ce se : Nat} (hcm : ce ≤ mc ∧ se ≤ ms) (F : zF 6 8 mc ms p l s m args c cL_dates 9 RL c0 D Y S V G A) (w1 : Int32) (w5 : Int32) (w6 : Int32) :
    ∀ (n cells slots : Nat) (u2 : Int32) (u8 : Int32) (T : zT) (o : (Int32 × Int32) × zT) (H : Heap) (locs : List Loc) (ls : Array Slot), cells + 0 * n ≤ ce → slots + 0 * n ≤ se → lp_L_dates_t_289 w1 w5 w6 n u2 u8 T = some o → zP 6 D Y G T H → va_S A s.heap H locs → lv_has ls 9 [(0, .ref (G 0 0)), (1, .int w1), (2, .int u2), (5, .int w5), (6, .int w6), (7, .ref (G 0 8)), (8, .int u8)] → (∀ (H : Heap) (locs : List Loc) (ls : Array Slot), zP 6 D Y G o.2 H → va_S A s.heap H locs → lv_has ls 9 [(0, .ref (G 0 0)), (1, .int w1), (2, .int o.1.1), (5, .int w5), (6, .int w6), (7, .ref (G 0 8)), (8, .int o.1.2)] → W p l e (zR 8 mc ms) s m args below meth c H locs ce se Q (F0 m 345 ls [])) → W p l e (zR 8 mc ms) s m args below meth c H locs cells slots Q (F0 m 289 ls []) := by
  obtain ⟨hx, hb, hml, hown, hts, hl9, hG, hK, hA⟩ := id F
  intro n
  induction n with
  | zero =>
    intro cells slots u2 u8 T o H locs ls _ _ hf
    rw [lp_L_dates_t_289] at hf
    cases hf
  | succ n ih =>
    intro cells slots u2 u8 T o H locs ls hc1 hc2 hf hP hS hl k0_
    rw [lp_L_dates_t_289] at hf
    refine lv_iload hx hb dL_dates_289 (lv_at hl 6 rfl) ?_
    refine lv_bipush (v := 6) hx hb dL_dates_291 (by decide) ?_
    refine lv_icmp_ge (tgt := 345) hx hb dL_dates_293 (by decide) (fun hc => ?_) (fun hc => ?_)
    · have hf := zif_p hf hc
      cases hf
      refine W.widen (k := ce) (n := se) (by omega) (by omega) ?_
      exact k0_ _ _ _ hP hS (lv_sub hl [0, 1, 2, 3, 4, 5, 6] rfl)
    · have hf := zif_n hf hc
      refine lv_iload_n hx hb dL_dates_296 rfl (lv_at hl 2 rfl) ?_
      obtain ⟨K26, eK26, hf⟩ := zl_i hf
      have J27 : ∀ (T36 : zT) (H : Heap) (locs : List Loc) (ls : Array Slot), K26 T36 = some o → zP 6 D Y G T36 H → va_S A s.heap H locs → lv_has ls 9 [(0, .ref (G 0 0)), (1, .int w1), (5, .int w5), (6, .int w6), (7, .ref (G 0 8)), (8, .int u8)] → W p l e (zR 8 mc ms) s m args below meth c H locs (cells + 0) (slots + 0) Q (F0 m 337 ls []) := by
        intro T36 H locs ls hf hP hS hl
        rw [eK26] at hf
        dsimp only at hf
        refine lv_iconst (v := 0) hx hb dL_dates_337 (by decide) ?_
        refine lv_istore_n (lv' := [(2, .int 0), (0, .ref (G 0 0)), (1, .int w1), (5, .int w5), (6, .int w6), (7, .ref (G 0 8)), (8, .int u8)]) hx hb dL_dates_338 rfl hl (by decide) rfl (fun ls hl => ?_)
        obtain ⟨x37, ex37, hf⟩ := zl_i hf
        refine lv_iinc (v := x37) (lv' := [(8, .int x37), (2, .int 0), (0, .ref (G 0 0)), (1, .int w1), (5, .int w5), (6, .int w6), (7, .ref (G 0 8))]) hx hb dL_dates_339 hl (k := 6) rfl (by rw [ex37]; rfl) (by decide) rfl (fun ls hl => ?_)
        refine lv_goto (tgt := 289) hx hb dL_dates_342 (by decide) ?_
        exact ih (cells + 0) (slots + 0) 0 x37 _ _ _ _ _ (by omega) (by omega) hf hP hS (lv_sub hl [2, 3, 1, 4, 5, 6, 0] rfl) k0_
      refine lv_if_eq (tgt := 337) hx hb dL_dates_297 (by decide) (fun hc => ?_) (fun hc => ?_)
      · have hf := zif_p hf hc
        refine W.widen (k := cells + 0) (n := slots + 0) (by omega) (by omega) ?_
        exact J27 T _ _ _ hf hP hS (lv_sub hl [0, 1, 3, 4, 5, 6] rfl)
      · have hf := zif_n hf hc
        refine lv_aload hx hb dL_dates_300 (lv_at hl 5 rfl) ?_
        refine lv_iload hx hb dL_dates_302 (lv_at hl 6 rfl) ?_
        obtain ⟨h28, hf⟩ := zif_c hf
        refine z_iald hx hb hK hP (zIA_8 (by decide)) (zin_i h28) dL_dates_304 ?_
        refine lv_aload hx hb dL_dates_305 (lv_at hl 5 rfl) ?_
        refine lv_iload hx hb dL_dates_307 (lv_at hl 4 rfl) ?_
        obtain ⟨h29, hf⟩ := zif_c hf
        refine z_iald hx hb hK hP (zIA_8 (by decide)) (zin_i h29) dL_dates_309 ?_
        obtain ⟨K30, eK30, hf⟩ := zl_i hf
        have J31 : ∀ (T34 : zT) (H : Heap) (locs : List Loc) (ls : Array Slot), K30 T34 = some o → zP 6 D Y G T34 H → va_S A s.heap H locs → lv_has ls 9 [(0, .ref (G 0 0)), (1, .int w1), (5, .int w5), (6, .int w6), (7, .ref (G 0 8)), (8, .int u8)] → W p l e (zR 8 mc ms) s m args below meth c H locs (cells + 0) (slots + 0) Q (F0 m 333 ls []) := by
          intro T34 H locs ls hf hP hS hl
          rw [eK30] at hf
          dsimp only at hf
          refine lv_iconst (v := 1) hx hb dL_dates_333 (by decide) ?_
          refine lv_goto (tgt := 338) hx hb dL_dates_334 (by decide) ?_
          refine lv_istore_n (lv' := [(2, .int 1), (0, .ref (G 0 0)), (1, .int w1), (5, .int w5), (6, .int w6), (7, .ref (G 0 8)), (8, .int u8)]) hx hb dL_dates_338 rfl hl (by decide) rfl (fun ls hl => ?_)
          obtain ⟨x35, ex35, hf⟩ := zl_i hf
          refine lv_iinc (v := x35) (lv' := [(8, .int x35), (2, .int 1), (0, .ref (G 0 0)), (1, .int w1), (5, .int w5), (6, .int w6), (7, .ref (G 0 8))]) hx hb dL_dates_339 hl (k := 6) rfl (by rw [ex35]; rfl) (by decide) rfl (fun ls hl => ?_)
          refine lv_goto (tgt := 289) hx hb dL_dates_342 (by decide) ?_
          exact ih (cells + 0) (slots + 0) 1 x35 _ _ _ _ _ (by omega) (by omega) hf hP hS (lv_sub hl [2, 3, 1, 4, 5, 6, 0] rfl) k0_
        refine lv_icmp_lt (tgt := 333) hx hb dL_dates_310 (by decide) (fun hc => ?_) (fun hc => ?_)
        · have hf := zif_p hf hc
          refine W.widen (k := cells + 0) (n := slots + 0) (by omega) (by omega) ?_
          exact J31 T _ _ _ hf hP hS (lv_sub hl [0, 1, 3, 4, 5, 6] rfl)
        · have hf := zif_n hf hc
          refine lv_aload hx hb dL_dates_313 (lv_at hl 5 rfl) ?_
          refine lv_iload hx hb dL_dates_315 (lv_at hl 6 rfl) ?_
          obtain ⟨h32, hf⟩ := zif_c hf
          refine z_iald hx hb hK hP (zIA_8 (by decide)) (zin_i h32) dL_dates_317 ?_
          refine lv_aload hx hb dL_dates_318 (lv_at hl 5 rfl) ?_
          refine lv_iload hx hb dL_dates_320 (lv_at hl 4 rfl) ?_
          obtain ⟨h33, hf⟩ := zif_c hf
          refine z_iald hx hb hK hP (zIA_8 (by decide)) (zin_i h33) dL_dates_322 ?_
          refine lv_icmp_ne (tgt := 337) hx hb dL_dates_323 (by decide) (fun hc => ?_) (fun hc => ?_)
          · have hf := zif_n hf hc
            refine W.widen (k := cells + 0) (n := slots + 0) (by omega) (by omega) ?_
            exact J27 T _ _ _ hf hP hS (lv_sub hl [0, 1, 3, 4, 5, 6] rfl)
          · have hf := zif_p hf hc
            refine lv_iload hx hb dL_dates_326 (lv_at hl 4 rfl) ?_
            refine lv_iload hx hb dL_dates_328 (lv_at hl 6 rfl) ?_
            refine lv_icmp_gt (tgt := 337) hx hb dL_dates_330 (by decide) (fun hc => ?_) (fun hc => ?_)
            · have hf := zif_p hf hc
              refine W.widen (k := cells + 0) (n := slots + 0) (by omega) (by omega) ?_
              exact J27 T _ _ _ hf hP hS (lv_sub hl [0, 1, 3, 4, 5, 6] rfl)
            · have hf := zif_n hf hc
              refine W.widen (k := cells + 0) (n := slots + 0) (by omega) (by omega) ?_
              exact J31 T _ _ _ hf hP hS (lv_sub hl [0, 1, 3, 4, 5, 6] rfl)
set_option maxHeartbeats 8000000 in
set_option maxRecDepth 100000 in
theorem r_L_dates_t {p : Program} {l : Launch} {e : Env} {s : State} {m : MethodId} {args : Array Value} {below : List Frame} {meth : Method} {c : Code} {Q : State → Prop} {D : va_G} {Y : Nat → ClassId} {S V : Nat → Nat} {G : Nat → Nat → Nat} {A : Nat → Prop} {c0 : Cond} {mc ms : Nat} {ce se : Nat} (hcm : ce ≤ mc ∧ se ≤ ms) (F : zF 6 8 mc ms p l s m args c cL_dates 9 RL c0 D Y S V G A) (w1 : Int32) (w2 : Int32) (w5 : Int32) (w6 : Int32) (cells slots : Nat) (T : zT) {T' : zT} {v : Int32} {H : Heap} {locs : List Loc} {ls : Array Slot} (hc1 : cells + 33 ≤ ce) (hc2 : slots + 198 ≤ se) (hf : rg_L_dates_t w1 w2 w5 w6 T = some (v, T')) (hP : zP 6 D Y G T H) (hS : va_S A s.heap H locs) (hl : lv_has ls 9 [(0, .ref (G 0 0)), (1, .int w1), (2, .int w2), (5, .int w5), (6, .int w6), (7, .ref (G 0 8))])
    (k0_ : ∀ (H : Heap) (locs : List Loc) (ls : Array Slot), zP 6 D Y G T' H → va_S A s.heap H locs → lv_has ls 9 [] → W p l e (zR 8 mc ms) s m args below meth c H locs ce se Q (F0 m 377 ls [.int v])) :
    W p l e (zR 8 mc ms) s m args below meth c H locs cells slots Q (F0 m 236 ls []) := by
  obtain ⟨hx, hb, hml, hown, hts, hl9, hG, hK, hA⟩ := id F
  unfold rg_L_dates_t at hf
  refine lv_iconst (v := 0) hx hb dL_dates_236 (by decide) ?_
  refine lv_istore (lv' := [(8, .int 0), (0, .ref (G 0 0)), (1, .int w1), (2, .int w2), (5, .int w5), (6, .int w6), (7, .ref (G 0 8))]) hx hb dL_dates_237 hl (by decide) rfl (fun ls hl => ?_)
  obtain ⟨v24, T23, h25, hf⟩ := zb_i hf
  refine l_L_dates_t_239 (ce := cells + 32) (se := slots + 192) ⟨(by omega), (by omega)⟩ F w1 w2 w6 16 (cells + 0) (slots + 0) w5 0 _ _ _ _ _ (by omega) (by omega) h25 hP hS (lv_sub hl [1, 2, 3, 4, 5, 6, 0] rfl) (fun H locs ls hP hS hl => ?_)
  refine lv_iconst (v := 0) hx hb dL_dates_286 (by decide) ?_
  refine lv_istore (lv' := [(8, .int 0), (0, .ref (G 0 0)), (1, .int w1), (2, .int w2), (5, .int v24.1), (6, .int w6), (7, .ref (G 0 8))]) hx hb dL_dates_287 hl (by decide) rfl (fun ls hl => ?_)
  obtain ⟨v39, T38, h40, hf⟩ := zb_i hf
  refine l_L_dates_t_289 (ce := cells + 32) (se := slots + 192) ⟨(by omega), (by omega)⟩ F w1 v24.1 w6 16 (cells + 32) (slots + 192) w2 0 _ _ _ _ _ (by omega) (by omega) h40 hP hS (lv_sub hl [1, 2, 3, 4, 5, 6, 0] rfl) (fun H locs ls hP hS hl => ?_)
  refine lv_iload_n hx hb dL_dates_345 rfl (lv_at hl 2 rfl) ?_
  refine lv_if_eq (tgt := 376) hx hb dL_dates_346 (by decide) (fun hc => ?_) (fun hc => ?_)
  · have hf := zif_p hf hc
    refine lv_iconst (v := 0) hx hb dL_dates_376 (by decide) ?_
    obtain ⟨q1, q2⟩ := zs_i hf
    subst q1; subst q2
    refine W.widen (k := ce) (n := se) (by omega) (by omega) ?_
    exact k0_ _ _ _ hP hS (lv_sub hl [] rfl)
  · have hf := zif_n hf hc
    refine lv_iload hx hb dL_dates_349 (lv_at hl 3 rfl) ?_
    refine lv_if_ne (tgt := 376) hx hb dL_dates_351 (by decide) (fun hc => ?_) (fun hc => ?_)
    · have hf := zif_n hf hc
      refine lv_iconst (v := 0) hx hb dL_dates_376 (by decide) ?_
      obtain ⟨q1, q2⟩ := zs_i hf
      subst q1; subst q2
      refine W.widen (k := ce) (n := se) (by omega) (by omega) ?_
      exact k0_ _ _ _ hP hS (lv_sub hl [] rfl)
    · have hf := zif_p hf hc
      refine lv_aload_n hx hb dL_dates_354 rfl (lv_at hl 0 rfl) ?_
      obtain ⟨v41, T42, h43, hf⟩ := zb_i hf
      obtain ⟨T44, eT44, hf⟩ := zl_i hf
      refine z_ok (z_runV (As := []) (rest := []) F k_X3_differentDates ml_1144 (((c_X3_differentDates T38 T42 v41 h43).lift (by decide))) hP hS (zV_0 (by decide)) rfl rfl rfl rfl hl.1 (Nat.le_of_ble_eq_true rfl) dL_dates_355 (Nat.le_of_ble_eq_true rfl) ⟨by omega, by omega⟩ rfl) hS (fun H locs hP hS => ?_)
      rw [← eT44] at hP
      refine lv_iload_n hx hb dL_dates_358 rfl (lv_at hl 1 rfl) ?_
      refine lv_icmp_ne (tgt := 376) hx hb dL_dates_359 (by decide) (fun hc => ?_) (fun hc => ?_)
      · have hf := zif_n hf hc
        refine lv_iconst (v := 0) hx hb dL_dates_376 (by decide) ?_
        obtain ⟨q1, q2⟩ := zs_i hf
        subst q1; subst q2
        refine W.widen (k := ce) (n := se) (by omega) (by omega) ?_
        exact k0_ _ _ _ hP hS (lv_sub hl [] rfl)
      · have hf := zif_p hf hc
        refine lv_aload_n hx hb dL_dates_362 rfl (lv_at hl 0 rfl) ?_
        refine lv_iload_n hx hb dL_dates_363 rfl (lv_at hl 1 rfl) ?_
        obtain ⟨v45, T46, h47, hf⟩ := zb_i hf
        obtain ⟨T48, eT48, hf⟩ := zl_i hf
        refine z_ok (z_runSW (As := [.ref (G 0 0), .int w1]) (rest := []) F kl_dateAt ml_1114 ((c_L_dateAt w1 T44 T46 v45 h47).lift (by decide)) hP hS rfl rfl hl.1 (Nat.le_of_ble_eq_true rfl) dL_dates_364 (Nat.le_of_ble_eq_true rfl) ⟨by omega, by omega⟩ rfl) hS (fun H locs hP hS => ?_)
        rw [← eT48] at hP
        refine lv_bipush (v := (-5)) hx hb dL_dates_367 (by decide) ?_
        refine lv_icmp_ne (tgt := 376) hx hb dL_dates_369 (by decide) (fun hc => ?_) (fun hc => ?_)
        · have hf := zif_n hf hc
          refine lv_iconst (v := 0) hx hb dL_dates_376 (by decide) ?_
          obtain ⟨q1, q2⟩ := zs_i hf
          subst q1; subst q2
          refine W.widen (k := ce) (n := se) (by omega) (by omega) ?_
          exact k0_ _ _ _ hP hS (lv_sub hl [] rfl)
        · have hf := zif_p hf hc
          refine lv_iconst (v := 1) hx hb dL_dates_372 (by decide) ?_
          refine lv_goto (tgt := 377) hx hb dL_dates_373 (by decide) ?_
          obtain ⟨q1, q2⟩ := zs_i hf
          subst q1; subst q2
          refine W.widen (k := ce) (n := se) (by omega) (by omega) ?_
          exact k0_ _ _ _ hP hS (lv_sub hl [] rfl)
def lp_L_dates_36 (w1 : Int32) (w3 : Int32) : Nat → Int32 → Int32 → zT → Option ((Int32 × Int32) × zT)
  | 0, _, _, _ => none
  | n + 1, u4, u5, T => (if w3 ≤ u5 then some ((u4, u5), T) else zl (fun (T20 : zT) => zl (u5 + 1) fun x21 => lp_L_dates_36 w1 w3 n 0 x21 T20) fun K11 => (if u4 = 0 then K11 T else zbi (f_X3_birthdayOf u5 T) fun v13 T14 => zbi (f_X3_birthdayOf w3 T14) fun v16 T17 => (if v13 = v16 then K11 T17 else zl (u5 + 1) fun x19 => lp_L_dates_36 w1 w3 n 1 x19 T17)))
def lp_L_dates_6 : Nat → Int32 → Int32 → Int32 → zT → Option ((Int32 × Int32 × Int32) × zT)
  | 0, _, _, _, _ => none
  | n + 1, u1, u2, u3, T => zb (f_X3_childCount T) fun v1 T2 => (if v1 ≤ u3 then some ((u1, u2, u3), T2) else (if u2 = 0 then some ((u1, u2, u3), T2) else zbi (f_X3_birthdayOf u3 T2) fun v4 T5 => zl (fun (z10 : Int32) (T9 : zT) => zb (lp_L_dates_36 u1 u3 16 z10 0 T9) fun v23 T22 => zl (fun (z37 : Int32) (T36 : zT) => zl (fun (z41 : Int32) (z42 : Int32) (T40 : zT) => zl (z41 + z42) fun x43 => zl (u3 + 1) fun x44 => lp_L_dates_6 n x43 z37 x44 T40) fun K38 => (if v23.1 = 0 then K38 u1 0 T36 else K38 u1 1 T36)) fun K27 => zl (fun (T35 : zT) => K27 1 T35) fun K25 => (if v23.1 = 0 then K25 T22 else zb (f_L_dateAt u1 T22) fun v29 T30 => zbi (f_X3_birthdayOf u3 T30) fun v32 T33 => (if v29 = v32 then K25 T33 else K27 0 T33))) fun K7 => (if v4 < 0 then K7 0 T5 else K7 1 T5)))
def lp_L_dates_144 (w1 : Int32) (w2 : Int32) (w3 : Int32) (w4 : Int32) (w5 : Int32) (w6 : Int32) : Nat → Int32 → Int32 → zT → Option ((Int32 × Int32) × zT)
  | 0, _, _, _ => none
  | n + 1, u7, u8, T => (if 31 ≤ u8 then some ((u7, u8), T) else zbi (f_X3_childrenOn w6 u8 T) fun v51 T52 => zl (u7 + v51) fun x54 => zl (u8 + 1) fun x55 => lp_L_dates_144 w1 w2 w3 w4 w5 w6 n x54 x55 T52)
def lp_L_dates_131 (w1 : Int32) (w3 : Int32) : Nat → Int32 → Int32 → Int32 → Int32 → zT → Option ((Int32 × Int32 × Int32 × Int32) × zT)
  | 0, _, _, _, _, _ => none
  | n + 1, u2, u4, u5, u6, T => (if 13 ≤ u6 then some ((u2, u4, u5, u6), T) else zb (lp_L_dates_144 w1 u2 w3 u4 u5 u6 32 0 1 T) fun v57 T56 => zl (fun (z71 : Int32) (T70 : zT) => zl (u5 + v57.1) fun x72 => zl (if u4 < v57.1 then v57.1 else u4) fun x73 => zl (u6 + 1) fun x74 => lp_L_dates_131 w1 w3 n z71 x73 x72 x74 T70) fun K61 => zl (fun (T69 : zT) => K61 0 T69) fun K59 => (if u2 = 0 then K59 T56 else zl (fun (T65 : zT) => zl (fun (T68 : zT) => K61 1 T68) fun K66 => (if v57.1 ≤ u4 then K66 T65 else (if w3 < u6 then K59 T65 else K66 T65))) fun K63 => (if 0 < w3 then K63 T56 else (if v57.1 = 0 then K63 T56 else K59 T56))))
def f_L_dates (T : zT) : Option (Int32 × zT) := zb (lp_L_dates_6 16 0 1 0 T) fun v46 T45 => zb (f_X3_busiestMonth T45) fun v48 T49 => zb (lp_L_dates_131 v46.1 v48 13 v46.2.1 0 0 1 T49) fun v76 T75 => zb (f_X3_mostWantedCake T75) fun v78 T79 => zl (wA T79 0 8 (fun _ => 0)) fun T81 => zb (rg_L_dates_t v46.1 v76.1 v76.2.2.1 v78 T81) fun v83 T82 => if v83 = 0 ∨ v83 = 1 then some (v83, T82) else none
set_option maxHeartbeats 8000000 in
set_option maxRecDepth 100000 in
theorem l_L_dates_36 {p : Program} {l : Launch} {e : Env} {s : State} {m : MethodId} {args : Array Value} {below : List Frame} {meth : Method} {c : Code} {Q : State → Prop} {D : va_G} {Y : Nat → ClassId} {S V : Nat → Nat} {G : Nat → Nat → Nat} {A : Nat → Prop} {c0 : Cond} {mc ms : Nat} {ce se : Nat} (hcm : ce ≤ mc ∧ se ≤ ms) (F : zF 0 8 mc ms p l s m args c cL_dates 9 RL c0 D Y S V G A) (w1 : Int32) (w3 : Int32) :
    ∀ (n cells slots : Nat) (u4 : Int32) (u5 : Int32) (T : zT) (o : (Int32 × Int32) × zT) (H : Heap) (locs : List Loc) (ls : Array Slot), cells + 2 * n ≤ ce → slots + 12 * n ≤ se → lp_L_dates_36 w1 w3 n u4 u5 T = some o → zP 0 D Y G T H → va_S A s.heap H locs → lv_has ls 9 [(0, .ref (G 0 0)), (1, .int w1), (3, .int w3), (4, .int u4), (5, .int u5)] → (∀ (H : Heap) (locs : List Loc) (ls : Array Slot), zP 0 D Y G o.2 H → va_S A s.heap H locs → lv_has ls 9 [(0, .ref (G 0 0)), (1, .int w1), (3, .int w3), (4, .int o.1.1), (5, .int o.1.2)] → W p l e (zR 8 mc ms) s m args below meth c H locs ce se Q (F0 m 74 ls [])) → W p l e (zR 8 mc ms) s m args below meth c H locs cells slots Q (F0 m 36 ls []) := by
  obtain ⟨hx, hb, hml, hown, hts, hl9, hG, hK, hA⟩ := id F
  intro n
  induction n with
  | zero =>
    intro cells slots u4 u5 T o H locs ls _ _ hf
    rw [lp_L_dates_36] at hf
    cases hf
  | succ n ih =>
    intro cells slots u4 u5 T o H locs ls hc1 hc2 hf hP hS hl k0_
    rw [lp_L_dates_36] at hf
    refine lv_iload hx hb dL_dates_36 (lv_at hl 4 rfl) ?_
    refine lv_iload_n hx hb dL_dates_38 rfl (lv_at hl 2 rfl) ?_
    refine lv_icmp_ge (tgt := 74) hx hb dL_dates_39 (by decide) (fun hc => ?_) (fun hc => ?_)
    · have hf := zif_p hf hc
      cases hf
      refine W.widen (k := ce) (n := se) (by omega) (by omega) ?_
      exact k0_ _ _ _ hP hS (lv_sub hl [0, 1, 2, 3, 4] rfl)
    · have hf := zif_n hf hc
      refine lv_iload hx hb dL_dates_42 (lv_at hl 3 rfl) ?_
      obtain ⟨K11, eK11, hf⟩ := zl_i hf
      have J12 : ∀ (T20 : zT) (H : Heap) (locs : List Loc) (ls : Array Slot), K11 T20 = some o → zP 0 D Y G T20 H → va_S A s.heap H locs → lv_has ls 9 [(0, .ref (G 0 0)), (1, .int w1), (3, .int w3), (5, .int u5)] → W p l e (zR 8 mc ms) s m args below meth c H locs (cells + 2) (slots + 12) Q (F0 m 65 ls []) := by
        intro T20 H locs ls hf hP hS hl
        rw [eK11] at hf
        dsimp only at hf
        refine lv_iconst (v := 0) hx hb dL_dates_65 (by decide) ?_
        refine lv_istore (lv' := [(4, .int 0), (0, .ref (G 0 0)), (1, .int w1), (3, .int w3), (5, .int u5)]) hx hb dL_dates_66 hl (by decide) rfl (fun ls hl => ?_)
        obtain ⟨x21, ex21, hf⟩ := zl_i hf
        refine lv_iinc (v := x21) (lv' := [(5, .int x21), (4, .int 0), (0, .ref (G 0 0)), (1, .int w1), (3, .int w3)]) hx hb dL_dates_68 hl (k := 4) rfl (by rw [ex21]; rfl) (by decide) rfl (fun ls hl => ?_)
        refine lv_goto (tgt := 36) hx hb dL_dates_71 (by decide) ?_
        exact ih (cells + 2) (slots + 12) 0 x21 _ _ _ _ _ (by omega) (by omega) hf hP hS (lv_sub hl [2, 3, 4, 1, 0] rfl) k0_
      refine lv_if_eq (tgt := 65) hx hb dL_dates_44 (by decide) (fun hc => ?_) (fun hc => ?_)
      · have hf := zif_p hf hc
        refine W.widen (k := cells + 2) (n := slots + 12) (by omega) (by omega) ?_
        exact J12 T _ _ _ hf hP hS (lv_sub hl [0, 1, 2, 4] rfl)
      · have hf := zif_n hf hc
        refine lv_aload_n hx hb dL_dates_47 rfl (lv_at hl 0 rfl) ?_
        refine lv_iload hx hb dL_dates_48 (lv_at hl 4 rfl) ?_
        obtain ⟨v13, T14, h15, hf⟩ := zbi_i hf
        refine z_ok (z_runV (As := [.int u5]) (rest := []) F k_X3_birthdayOf ml_1035 (c_X3_birthdayOf u5 T T14 (.inl v13) h15) hP hS (zV_0 (by decide)) rfl rfl rfl rfl hl.1 (Nat.le_of_ble_eq_true rfl) dL_dates_50 (Nat.le_of_ble_eq_true rfl) ⟨by omega, by omega⟩ rfl) hS (fun H locs hP hS => ?_)
        refine lv_aload_n hx hb dL_dates_53 rfl (lv_at hl 0 rfl) ?_
        refine lv_iload_n hx hb dL_dates_54 rfl (lv_at hl 2 rfl) ?_
        obtain ⟨v16, T17, h18, hf⟩ := zbi_i hf
        refine z_ok (z_runV (As := [.int w3]) (rest := [.int v13]) F k_X3_birthdayOf ml_1035 (c_X3_birthdayOf w3 T14 T17 (.inl v16) h18) hP hS (zV_0 (by decide)) rfl rfl rfl rfl hl.1 (Nat.le_of_ble_eq_true rfl) dL_dates_55 (Nat.le_of_ble_eq_true rfl) ⟨by omega, by omega⟩ rfl) hS (fun H locs hP hS => ?_)
        refine lv_icmp_eq (tgt := 65) hx hb dL_dates_58 (by decide) (fun hc => ?_) (fun hc => ?_)
        · have hf := zif_p hf hc
          refine W.widen (k := cells + 2) (n := slots + 12) (by omega) (by omega) ?_
          exact J12 T17 _ _ _ hf hP hS (lv_sub hl [0, 1, 2, 4] rfl)
        · have hf := zif_n hf hc
          refine lv_iconst (v := 1) hx hb dL_dates_61 (by decide) ?_
          refine lv_goto (tgt := 66) hx hb dL_dates_62 (by decide) ?_
          refine lv_istore (lv' := [(4, .int 1), (0, .ref (G 0 0)), (1, .int w1), (3, .int w3), (5, .int u5)]) hx hb dL_dates_66 hl (by decide) rfl (fun ls hl => ?_)
          obtain ⟨x19, ex19, hf⟩ := zl_i hf
          refine lv_iinc (v := x19) (lv' := [(5, .int x19), (4, .int 1), (0, .ref (G 0 0)), (1, .int w1), (3, .int w3)]) hx hb dL_dates_68 hl (k := 4) rfl (by rw [ex19]; rfl) (by decide) rfl (fun ls hl => ?_)
          refine lv_goto (tgt := 36) hx hb dL_dates_71 (by decide) ?_
          exact ih (cells + 2) (slots + 12) 1 x19 _ _ _ _ _ (by omega) (by omega) hf hP hS (lv_sub hl [2, 3, 4, 1, 0] rfl) k0_
set_option maxHeartbeats 8000000 in
set_option maxRecDepth 100000 in
theorem l_L_dates_6 {p : Program} {l : Launch} {e : Env} {s : State} {m : MethodId} {args : Array Value} {below : List Frame} {meth : Method} {c : Code} {Q : State → Prop} {D : va_G} {Y : Nat → ClassId} {S V : Nat → Nat} {G : Nat → Nat → Nat} {A : Nat → Prop} {c0 : Cond} {mc ms : Nat} {ce se : Nat} (hcm : ce ≤ mc ∧ se ≤ ms) (F : zF 0 8 mc ms p l s m args c cL_dates 9 RL c0 D Y S V G A) :
    ∀ (n cells slots : Nat) (u1 : Int32) (u2 : Int32) (u3 : Int32) (T : zT) (o : (Int32 × Int32 × Int32) × zT) (H : Heap) (locs : List Loc) (ls : Array Slot), cells + 35 * n ≤ ce → slots + 210 * n ≤ se → lp_L_dates_6 n u1 u2 u3 T = some o → zP 0 D Y G T H → va_S A s.heap H locs → lv_has ls 9 [(0, .ref (G 0 0)), (1, .int u1), (2, .int u2), (3, .int u3)] → (∀ (H : Heap) (locs : List Loc) (ls : Array Slot), zP 0 D Y G o.2 H → va_S A s.heap H locs → lv_has ls 9 [(0, .ref (G 0 0)), (1, .int o.1.1), (2, .int o.1.2.1), (3, .int o.1.2.2)] → W p l e (zR 8 mc ms) s m args below meth c H locs ce se Q (F0 m 117 ls [])) → W p l e (zR 8 mc ms) s m args below meth c H locs cells slots Q (F0 m 6 ls []) := by
  obtain ⟨hx, hb, hml, hown, hts, hl9, hG, hK, hA⟩ := id F
  intro n
  induction n with
  | zero =>
    intro cells slots u1 u2 u3 T o H locs ls _ _ hf
    rw [lp_L_dates_6] at hf
    cases hf
  | succ n ih =>
    intro cells slots u1 u2 u3 T o H locs ls hc1 hc2 hf hP hS hl k0_
    rw [lp_L_dates_6] at hf
    refine lv_iload_n hx hb dL_dates_6 rfl (lv_at hl 3 rfl) ?_
    refine lv_aload_n hx hb dL_dates_7 rfl (lv_at hl 0 rfl) ?_
    obtain ⟨v1, T2, h3, hf⟩ := zb_i hf
    refine z_ok (z_runV (As := []) (rest := [.int u3]) F k_X3_childCount ml_1023 (c_X3_childCount T T2 v1 h3) hP hS (zV_0 (by decide)) rfl rfl rfl rfl hl.1 (Nat.le_of_ble_eq_true rfl) dL_dates_8 (Nat.le_of_ble_eq_true rfl) ⟨by omega, by omega⟩ rfl) hS (fun H locs hP hS => ?_)
    refine lv_icmp_ge (tgt := 117) hx hb dL_dates_11 (by decide) (fun hc => ?_) (fun hc => ?_)
    · have hf := zif_p hf hc
      cases hf
      refine W.widen (k := ce) (n := se) (by omega) (by omega) ?_
      exact k0_ _ _ _ hP hS (lv_sub hl [0, 1, 2, 3] rfl)
    · have hf := zif_n hf hc
      refine lv_iload_n hx hb dL_dates_14 rfl (lv_at hl 2 rfl) ?_
      refine lv_if_eq (tgt := 117) hx hb dL_dates_15 (by decide) (fun hc => ?_) (fun hc => ?_)
      · have hf := zif_p hf hc
        cases hf
        refine W.widen (k := ce) (n := se) (by omega) (by omega) ?_
        exact k0_ _ _ _ hP hS (lv_sub hl [0, 1, 2, 3] rfl)
      · have hf := zif_n hf hc
        refine lv_aload_n hx hb dL_dates_18 rfl (lv_at hl 0 rfl) ?_
        refine lv_iload_n hx hb dL_dates_19 rfl (lv_at hl 3 rfl) ?_
        obtain ⟨v4, T5, h6, hf⟩ := zbi_i hf
        refine z_ok (z_runV (As := [.int u3]) (rest := []) F k_X3_birthdayOf ml_1035 (c_X3_birthdayOf u3 T2 T5 (.inl v4) h6) hP hS (zV_0 (by decide)) rfl rfl rfl rfl hl.1 (Nat.le_of_ble_eq_true rfl) dL_dates_20 (Nat.le_of_ble_eq_true rfl) ⟨by omega, by omega⟩ rfl) hS (fun H locs hP hS => ?_)
        obtain ⟨K7, eK7, hf⟩ := zl_i hf
        have J8 : ∀ (z10 : Int32) (T9 : zT) (H : Heap) (locs : List Loc) (ls : Array Slot), K7 z10 T9 = some o → zP 0 D Y G T9 H → va_S A s.heap H locs → lv_has ls 9 [(0, .ref (G 0 0)), (1, .int u1), (3, .int u3)] → W p l e (zR 8 mc ms) s m args below meth c H locs (cells + 1) (slots + 6) Q (F0 m 31 ls [.int z10]) := by
          intro z10 T9 H locs ls hf hP hS hl
          rw [eK7] at hf
          dsimp only at hf
          refine lv_istore (lv' := [(4, .int z10), (0, .ref (G 0 0)), (1, .int u1), (3, .int u3)]) hx hb dL_dates_31 hl (by decide) rfl (fun ls hl => ?_)
          refine lv_iconst (v := 0) hx hb dL_dates_33 (by decide) ?_
          refine lv_istore (lv' := [(5, .int 0), (4, .int z10), (0, .ref (G 0 0)), (1, .int u1), (3, .int u3)]) hx hb dL_dates_34 hl (by decide) rfl (fun ls hl => ?_)
          obtain ⟨v23, T22, h24, hf⟩ := zb_i hf
          refine l_L_dates_36 (ce := cells + 33) (se := slots + 198) ⟨(by omega), (by omega)⟩ F u1 u3 16 (cells + 1) (slots + 6) z10 0 _ _ _ _ _ (by omega) (by omega) h24 hP hS (lv_sub hl [2, 3, 4, 1, 0] rfl) (fun H locs ls hP hS hl => ?_)
          refine lv_iload hx hb dL_dates_74 (lv_at hl 3 rfl) ?_
          obtain ⟨K27, eK27, hf⟩ := zl_i hf
          have J28 : ∀ (z37 : Int32) (T36 : zT) (H : Heap) (locs : List Loc) (ls : Array Slot), K27 z37 T36 = some o → zP 0 D Y G T36 H → va_S A s.heap H locs → lv_has ls 9 [(0, .ref (G 0 0)), (1, .int u1), (3, .int u3), (4, .int v23.1)] → W p l e (zR 8 mc ms) s m args below meth c H locs (cells + 35) (slots + 210) Q (F0 m 97 ls [.int z37]) := by
            intro z37 T36 H locs ls hf hP hS hl
            rw [eK27] at hf
            dsimp only at hf
            refine lv_istore_n (lv' := [(2, .int z37), (0, .ref (G 0 0)), (1, .int u1), (3, .int u3), (4, .int v23.1)]) hx hb dL_dates_97 rfl hl (by decide) rfl (fun ls hl => ?_)
            refine lv_iload_n hx hb dL_dates_98 rfl (lv_at hl 2 rfl) ?_
            refine lv_iload hx hb dL_dates_99 (lv_at hl 4 rfl) ?_
            obtain ⟨K38, eK38, hf⟩ := zl_i hf
            have J39 : ∀ (z41 : Int32) (z42 : Int32) (T40 : zT) (H : Heap) (locs : List Loc) (ls : Array Slot), K38 z41 z42 T40 = some o → zP 0 D Y G T40 H → va_S A s.heap H locs → lv_has ls 9 [(0, .ref (G 0 0)), (2, .int z37), (3, .int u3)] → W p l e (zR 8 mc ms) s m args below meth c H locs (cells + 35) (slots + 210) Q (F0 m 109 ls [.int z42, .int z41]) := by
              intro z41 z42 T40 H locs ls hf hP hS hl
              rw [eK38] at hf
              dsimp only at hf
              refine lv_iadd hx hb dL_dates_109 ?_
              obtain ⟨x43, ex43, hf⟩ := zl_i hf
              refine z_topi ex43 ?_
              refine lv_istore_n (lv' := [(1, .int x43), (0, .ref (G 0 0)), (2, .int z37), (3, .int u3)]) hx hb dL_dates_110 rfl hl (by decide) rfl (fun ls hl => ?_)
              obtain ⟨x44, ex44, hf⟩ := zl_i hf
              refine lv_iinc (v := x44) (lv' := [(3, .int x44), (1, .int x43), (0, .ref (G 0 0)), (2, .int z37)]) hx hb dL_dates_111 hl (k := 3) rfl (by rw [ex44]; rfl) (by decide) rfl (fun ls hl => ?_)
              refine lv_goto (tgt := 6) hx hb dL_dates_114 (by decide) ?_
              exact ih (cells + 35) (slots + 210) x43 z37 x44 _ _ _ _ _ (by omega) (by omega) hf hP hS (lv_sub hl [2, 1, 3, 0] rfl) k0_
            refine lv_if_eq (tgt := 108) hx hb dL_dates_101 (by decide) (fun hc => ?_) (fun hc => ?_)
            · have hf := zif_p hf hc
              refine lv_iconst (v := 0) hx hb dL_dates_108 (by decide) ?_
              refine W.widen (k := cells + 35) (n := slots + 210) (by omega) (by omega) ?_
              exact J39 u1 0 T36 _ _ _ hf hP hS (lv_sub hl [1, 0, 3] rfl)
            · have hf := zif_n hf hc
              refine lv_iconst (v := 1) hx hb dL_dates_104 (by decide) ?_
              refine lv_goto (tgt := 109) hx hb dL_dates_105 (by decide) ?_
              refine W.widen (k := cells + 35) (n := slots + 210) (by omega) (by omega) ?_
              exact J39 u1 1 T36 _ _ _ hf hP hS (lv_sub hl [1, 0, 3] rfl)
          obtain ⟨K25, eK25, hf⟩ := zl_i hf
          have J26 : ∀ (T35 : zT) (H : Heap) (locs : List Loc) (ls : Array Slot), K25 T35 = some o → zP 0 D Y G T35 H → va_S A s.heap H locs → lv_has ls 9 [(0, .ref (G 0 0)), (1, .int u1), (3, .int u3), (4, .int v23.1)] → W p l e (zR 8 mc ms) s m args below meth c H locs (cells + 35) (slots + 210) Q (F0 m 92 ls []) := by
            intro T35 H locs ls hf hP hS hl
            rw [eK25] at hf
            dsimp only at hf
            refine lv_iconst (v := 1) hx hb dL_dates_92 (by decide) ?_
            refine lv_goto (tgt := 97) hx hb dL_dates_93 (by decide) ?_
            refine W.widen (k := cells + 35) (n := slots + 210) (by omega) (by omega) ?_
            exact J28 1 T35 _ _ _ hf hP hS (lv_sub hl [0, 1, 2, 3] rfl)
          refine lv_if_eq (tgt := 92) hx hb dL_dates_76 (by decide) (fun hc => ?_) (fun hc => ?_)
          · have hf := zif_p hf hc
            refine W.widen (k := cells + 35) (n := slots + 210) (by omega) (by omega) ?_
            exact J26 T22 _ _ _ hf hP hS (lv_sub hl [0, 1, 2, 3] rfl)
          · have hf := zif_n hf hc
            refine lv_aload_n hx hb dL_dates_79 rfl (lv_at hl 0 rfl) ?_
            refine lv_iload_n hx hb dL_dates_80 rfl (lv_at hl 1 rfl) ?_
            obtain ⟨v29, T30, h31, hf⟩ := zb_i hf
            refine z_ok (z_runSW (As := [.ref (G 0 0), .int u1]) (rest := []) F kl_dateAt ml_1114 (c_L_dateAt u1 T22 T30 v29 h31) hP hS rfl rfl hl.1 (Nat.le_of_ble_eq_true rfl) dL_dates_81 (Nat.le_of_ble_eq_true rfl) ⟨by omega, by omega⟩ rfl) hS (fun H locs hP hS => ?_)
            refine lv_aload_n hx hb dL_dates_84 rfl (lv_at hl 0 rfl) ?_
            refine lv_iload_n hx hb dL_dates_85 rfl (lv_at hl 2 rfl) ?_
            obtain ⟨v32, T33, h34, hf⟩ := zbi_i hf
            refine z_ok (z_runV (As := [.int u3]) (rest := [.int v29]) F k_X3_birthdayOf ml_1035 (c_X3_birthdayOf u3 T30 T33 (.inl v32) h34) hP hS (zV_0 (by decide)) rfl rfl rfl rfl hl.1 (Nat.le_of_ble_eq_true rfl) dL_dates_86 (Nat.le_of_ble_eq_true rfl) ⟨by omega, by omega⟩ rfl) hS (fun H locs hP hS => ?_)
            refine lv_icmp_ne (tgt := 96) hx hb dL_dates_89 (by decide) (fun hc => ?_) (fun hc => ?_)
            · have hf := zif_n hf hc
              refine lv_iconst (v := 0) hx hb dL_dates_96 (by decide) ?_
              refine W.widen (k := cells + 35) (n := slots + 210) (by omega) (by omega) ?_
              exact J28 0 T33 _ _ _ hf hP hS (lv_sub hl [0, 1, 2, 3] rfl)
            · have hf := zif_p hf hc
              refine W.widen (k := cells + 35) (n := slots + 210) (by omega) (by omega) ?_
              exact J26 T33 _ _ _ hf hP hS (lv_sub hl [0, 1, 2, 3] rfl)
        refine lv_if_lt (tgt := 30) hx hb dL_dates_23 (by decide) (fun hc => ?_) (fun hc => ?_)
        · have hf := zif_p hf hc
          refine lv_iconst (v := 0) hx hb dL_dates_30 (by decide) ?_
          refine W.widen (k := cells + 1) (n := slots + 6) (by omega) (by omega) ?_
          exact J8 0 T5 _ _ _ hf hP hS (lv_sub hl [0, 1, 3] rfl)
        · have hf := zif_n hf hc
          refine lv_iconst (v := 1) hx hb dL_dates_26 (by decide) ?_
          refine lv_goto (tgt := 31) hx hb dL_dates_27 (by decide) ?_
          refine W.widen (k := cells + 1) (n := slots + 6) (by omega) (by omega) ?_
          exact J8 1 T5 _ _ _ hf hP hS (lv_sub hl [0, 1, 3] rfl)
set_option maxHeartbeats 8000000 in
set_option maxRecDepth 100000 in
theorem l_L_dates_144 {p : Program} {l : Launch} {e : Env} {s : State} {m : MethodId} {args : Array Value} {below : List Frame} {meth : Method} {c : Code} {Q : State → Prop} {D : va_G} {Y : Nat → ClassId} {S V : Nat → Nat} {G : Nat → Nat → Nat} {A : Nat → Prop} {c0 : Cond} {mc ms : Nat} {ce se : Nat} (hcm : ce ≤ mc ∧ se ≤ ms) (F : zF 0 8 mc ms p l s m args c cL_dates 9 RL c0 D Y S V G A) (w1 : Int32) (w2 : Int32) (w3 : Int32) (w4 : Int32) (w5 : Int32) (w6 : Int32) :
    ∀ (n cells slots : Nat) (u7 : Int32) (u8 : Int32) (T : zT) (o : (Int32 × Int32) × zT) (H : Heap) (locs : List Loc) (ls : Array Slot), cells + 1 * n ≤ ce → slots + 6 * n ≤ se → lp_L_dates_144 w1 w2 w3 w4 w5 w6 n u7 u8 T = some o → zP 0 D Y G T H → va_S A s.heap H locs → lv_has ls 9 [(0, .ref (G 0 0)), (1, .int w1), (2, .int w2), (3, .int w3), (4, .int w4), (5, .int w5), (6, .int w6), (7, .int u7), (8, .int u8)] → (∀ (H : Heap) (locs : List Loc) (ls : Array Slot), zP 0 D Y G o.2 H → va_S A s.heap H locs → lv_has ls 9 [(0, .ref (G 0 0)), (1, .int w1), (2, .int w2), (3, .int w3), (4, .int w4), (5, .int w5), (6, .int w6), (7, .int o.1.1), (8, .int o.1.2)] → W p l e (zR 8 mc ms) s m args below meth c H locs ce se Q (F0 m 170 ls [])) → W p l e (zR 8 mc ms) s m args below meth c H locs cells slots Q (F0 m 144 ls []) := by
  obtain ⟨hx, hb, hml, hown, hts, hl9, hG, hK, hA⟩ := id F
  intro n
  induction n with
  | zero =>
    intro cells slots u7 u8 T o H locs ls _ _ hf
    rw [lp_L_dates_144] at hf
    cases hf
  | succ n ih =>
    intro cells slots u7 u8 T o H locs ls hc1 hc2 hf hP hS hl k0_
    rw [lp_L_dates_144] at hf
    refine lv_iload hx hb dL_dates_144 (lv_at hl 8 rfl) ?_
    refine lv_bipush (v := 31) hx hb dL_dates_146 (by decide) ?_
    refine lv_icmp_ge (tgt := 170) hx hb dL_dates_148 (by decide) (fun hc => ?_) (fun hc => ?_)
    · have hf := zif_p hf hc
      cases hf
      refine W.widen (k := ce) (n := se) (by omega) (by omega) ?_
      exact k0_ _ _ _ hP hS (lv_sub hl [0, 1, 2, 3, 4, 5, 6, 7, 8] rfl)
    · have hf := zif_n hf hc
      refine lv_iload hx hb dL_dates_151 (lv_at hl 7 rfl) ?_
      refine lv_aload_n hx hb dL_dates_153 rfl (lv_at hl 0 rfl) ?_
      refine lv_iload hx hb dL_dates_154 (lv_at hl 6 rfl) ?_
      refine lv_iload hx hb dL_dates_156 (lv_at hl 8 rfl) ?_
      obtain ⟨v51, T52, h53, hf⟩ := zbi_i hf
      refine z_ok (z_runV (As := [.int w6, .int u8]) (rest := [.int u7]) F k_X3_childrenOn ml_1133 (c_X3_childrenOn w6 u8 T T52 (.inl v51) h53) hP hS (zV_0 (by decide)) rfl rfl rfl rfl hl.1 (Nat.le_of_ble_eq_true rfl) dL_dates_158 (Nat.le_of_ble_eq_true rfl) ⟨by omega, by omega⟩ rfl) hS (fun H locs hP hS => ?_)
      refine lv_iadd hx hb dL_dates_161 ?_
      obtain ⟨x54, ex54, hf⟩ := zl_i hf
      refine z_topi ex54 ?_
      refine lv_istore (lv' := [(7, .int x54), (0, .ref (G 0 0)), (1, .int w1), (2, .int w2), (3, .int w3), (4, .int w4), (5, .int w5), (6, .int w6), (8, .int u8)]) hx hb dL_dates_162 hl (by decide) rfl (fun ls hl => ?_)
      obtain ⟨x55, ex55, hf⟩ := zl_i hf
      refine lv_iinc (v := x55) (lv' := [(8, .int x55), (7, .int x54), (0, .ref (G 0 0)), (1, .int w1), (2, .int w2), (3, .int w3), (4, .int w4), (5, .int w5), (6, .int w6)]) hx hb dL_dates_164 hl (k := 8) rfl (by rw [ex55]; rfl) (by decide) rfl (fun ls hl => ?_)
      refine lv_goto (tgt := 144) hx hb dL_dates_167 (by decide) ?_
      exact ih (cells + 1) (slots + 6) x54 x55 _ _ _ _ _ (by omega) (by omega) hf hP hS (lv_sub hl [2, 3, 4, 5, 6, 7, 8, 1, 0] rfl) k0_
set_option maxHeartbeats 8000000 in
set_option maxRecDepth 100000 in
theorem l_L_dates_131 {p : Program} {l : Launch} {e : Env} {s : State} {m : MethodId} {args : Array Value} {below : List Frame} {meth : Method} {c : Code} {Q : State → Prop} {D : va_G} {Y : Nat → ClassId} {S V : Nat → Nat} {G : Nat → Nat → Nat} {A : Nat → Prop} {c0 : Cond} {mc ms : Nat} {ce se : Nat} (hcm : ce ≤ mc ∧ se ≤ ms) (F : zF 0 8 mc ms p l s m args c cL_dates 9 RL c0 D Y S V G A) (w1 : Int32) (w3 : Int32) :
    ∀ (n cells slots : Nat) (u2 : Int32) (u4 : Int32) (u5 : Int32) (u6 : Int32) (T : zT) (o : (Int32 × Int32 × Int32 × Int32) × zT) (H : Heap) (locs : List Loc) (ls : Array Slot), cells + 32 * n ≤ ce → slots + 192 * n ≤ se → lp_L_dates_131 w1 w3 n u2 u4 u5 u6 T = some o → zP 0 D Y G T H → va_S A s.heap H locs → lv_has ls 9 [(0, .ref (G 0 0)), (1, .int w1), (2, .int u2), (3, .int w3), (4, .int u4), (5, .int u5), (6, .int u6)] → (∀ (H : Heap) (locs : List Loc) (ls : Array Slot), zP 0 D Y G o.2 H → va_S A s.heap H locs → lv_has ls 9 [(0, .ref (G 0 0)), (1, .int w1), (2, .int o.1.1), (3, .int w3), (4, .int o.1.2.1), (5, .int o.1.2.2.1), (6, .int o.1.2.2.2)] → W p l e (zR 8 mc ms) s m args below meth c H locs ce se Q (F0 m 224 ls [])) → W p l e (zR 8 mc ms) s m args below meth c H locs cells slots Q (F0 m 131 ls []) := by
  obtain ⟨hx, hb, hml, hown, hts, hl9, hG, hK, hA⟩ := id F
  intro n
  induction n with
  | zero =>
    intro cells slots u2 u4 u5 u6 T o H locs ls _ _ hf
    rw [lp_L_dates_131] at hf
    cases hf
  | succ n ih =>
    intro cells slots u2 u4 u5 u6 T o H locs ls hc1 hc2 hf hP hS hl k0_
    rw [lp_L_dates_131] at hf
    refine lv_iload hx hb dL_dates_131 (lv_at hl 6 rfl) ?_
    refine lv_bipush (v := 13) hx hb dL_dates_133 (by decide) ?_
    refine lv_icmp_ge (tgt := 224) hx hb dL_dates_135 (by decide) (fun hc => ?_) (fun hc => ?_)
    · have hf := zif_p hf hc
      cases hf
      refine W.widen (k := ce) (n := se) (by omega) (by omega) ?_
      exact k0_ _ _ _ hP hS (lv_sub hl [0, 1, 2, 3, 4, 5, 6] rfl)
    · have hf := zif_n hf hc
      refine lv_iconst (v := 0) hx hb dL_dates_138 (by decide) ?_
      refine lv_istore (lv' := [(7, .int 0), (0, .ref (G 0 0)), (1, .int w1), (2, .int u2), (3, .int w3), (4, .int u4), (5, .int u5), (6, .int u6)]) hx hb dL_dates_139 hl (by decide) rfl (fun ls hl => ?_)
      refine lv_iconst (v := 1) hx hb dL_dates_141 (by decide) ?_
      refine lv_istore (lv' := [(8, .int 1), (7, .int 0), (0, .ref (G 0 0)), (1, .int w1), (2, .int u2), (3, .int w3), (4, .int u4), (5, .int u5), (6, .int u6)]) hx hb dL_dates_142 hl (by decide) rfl (fun ls hl => ?_)
      obtain ⟨v57, T56, h58, hf⟩ := zb_i hf
      refine l_L_dates_144 (ce := cells + 32) (se := slots + 192) ⟨(by omega), (by omega)⟩ F w1 u2 w3 u4 u5 u6 32 (cells + 0) (slots + 0) 0 1 _ _ _ _ _ (by omega) (by omega) h58 hP hS (lv_sub hl [2, 3, 4, 5, 6, 7, 8, 1, 0] rfl) (fun H locs ls hP hS hl => ?_)
      refine lv_iload_n hx hb dL_dates_170 rfl (lv_at hl 2 rfl) ?_
      obtain ⟨K61, eK61, hf⟩ := zl_i hf
      have J62 : ∀ (z71 : Int32) (T70 : zT) (H : Heap) (locs : List Loc) (ls : Array Slot), K61 z71 T70 = some o → zP 0 D Y G T70 H → va_S A s.heap H locs → lv_has ls 9 [(0, .ref (G 0 0)), (1, .int w1), (3, .int w3), (4, .int u4), (5, .int u5), (6, .int u6), (7, .int v57.1)] → W p l e (zR 8 mc ms) s m args below meth c H locs (cells + 32) (slots + 192) Q (F0 m 201 ls [.int z71]) := by
        intro z71 T70 H locs ls hf hP hS hl
        rw [eK61] at hf
        dsimp only at hf
        refine lv_istore_n (lv' := [(2, .int z71), (0, .ref (G 0 0)), (1, .int w1), (3, .int w3), (4, .int u4), (5, .int u5), (6, .int u6), (7, .int v57.1)]) hx hb dL_dates_201 rfl hl (by decide) rfl (fun ls hl => ?_)
        refine lv_iload hx hb dL_dates_202 (lv_at hl 5 rfl) ?_
        refine lv_iload hx hb dL_dates_204 (lv_at hl 7 rfl) ?_
        refine lv_iadd hx hb dL_dates_206 ?_
        obtain ⟨x72, ex72, hf⟩ := zl_i hf
        refine z_topi ex72 ?_
        refine lv_istore (lv' := [(5, .int x72), (2, .int z71), (0, .ref (G 0 0)), (1, .int w1), (3, .int w3), (4, .int u4), (6, .int u6), (7, .int v57.1)]) hx hb dL_dates_207 hl (by decide) rfl (fun ls hl => ?_)
        refine lv_iload hx hb dL_dates_209 (lv_at hl 5 rfl) ?_
        refine lv_iload hx hb dL_dates_211 (lv_at hl 7 rfl) ?_
        refine z_mmax F ml_1138 ml_652 ml_40 ml_653 hl.1 (Nat.le_of_ble_eq_true rfl) (Nat.le_of_ble_eq_true rfl) ⟨by omega, by omega⟩ dL_dates_213 ?_
        obtain ⟨x73, ex73, hf⟩ := zl_i hf
        refine z_topi ex73 ?_
        refine lv_istore (lv' := [(4, .int x73), (5, .int x72), (2, .int z71), (0, .ref (G 0 0)), (1, .int w1), (3, .int w3), (6, .int u6), (7, .int v57.1)]) hx hb dL_dates_216 hl (by decide) rfl (fun ls hl => ?_)
        obtain ⟨x74, ex74, hf⟩ := zl_i hf
        refine lv_iinc (v := x74) (lv' := [(6, .int x74), (4, .int x73), (5, .int x72), (2, .int z71), (0, .ref (G 0 0)), (1, .int w1), (3, .int w3), (7, .int v57.1)]) hx hb dL_dates_218 hl (k := 6) rfl (by rw [ex74]; rfl) (by decide) rfl (fun ls hl => ?_)
        refine lv_goto (tgt := 131) hx hb dL_dates_221 (by decide) ?_
        exact ih (cells + 32) (slots + 192) z71 x73 x72 x74 _ _ _ _ _ (by omega) (by omega) hf hP hS (lv_sub hl [4, 5, 3, 6, 1, 2, 0] rfl) k0_
      obtain ⟨K59, eK59, hf⟩ := zl_i hf
      have J60 : ∀ (T69 : zT) (H : Heap) (locs : List Loc) (ls : Array Slot), K59 T69 = some o → zP 0 D Y G T69 H → va_S A s.heap H locs → lv_has ls 9 [(0, .ref (G 0 0)), (1, .int w1), (3, .int w3), (4, .int u4), (5, .int u5), (6, .int u6), (7, .int v57.1)] → W p l e (zR 8 mc ms) s m args below meth c H locs (cells + 32) (slots + 192) Q (F0 m 200 ls []) := by
        intro T69 H locs ls hf hP hS hl
        rw [eK59] at hf
        dsimp only at hf
        refine lv_iconst (v := 0) hx hb dL_dates_200 (by decide) ?_
        refine W.widen (k := cells + 32) (n := slots + 192) (by omega) (by omega) ?_
        exact J62 0 T69 _ _ _ hf hP hS (lv_sub hl [0, 1, 2, 3, 4, 5, 6] rfl)
      refine lv_if_eq (tgt := 200) hx hb dL_dates_171 (by decide) (fun hc => ?_) (fun hc => ?_)
      · have hf := zif_p hf hc
        refine W.widen (k := cells + 32) (n := slots + 192) (by omega) (by omega) ?_
        exact J60 T56 _ _ _ hf hP hS (lv_sub hl [0, 1, 3, 4, 5, 6, 7] rfl)
      · have hf := zif_n hf hc
        refine lv_iload_n hx hb dL_dates_174 rfl (lv_at hl 3 rfl) ?_
        obtain ⟨K63, eK63, hf⟩ := zl_i hf
        have J64 : ∀ (T65 : zT) (H : Heap) (locs : List Loc) (ls : Array Slot), K63 T65 = some o → zP 0 D Y G T65 H → va_S A s.heap H locs → lv_has ls 9 [(0, .ref (G 0 0)), (1, .int w1), (3, .int w3), (4, .int u4), (5, .int u5), (6, .int u6), (7, .int v57.1)] → W p l e (zR 8 mc ms) s m args below meth c H locs (cells + 32) (slots + 192) Q (F0 m 183 ls []) := by
          intro T65 H locs ls hf hP hS hl
          rw [eK63] at hf
          dsimp only at hf
          refine lv_iload hx hb dL_dates_183 (lv_at hl 6 rfl) ?_
          refine lv_iload hx hb dL_dates_185 (lv_at hl 3 rfl) ?_
          obtain ⟨K66, eK66, hf⟩ := zl_i hf
          have J67 : ∀ (T68 : zT) (H : Heap) (locs : List Loc) (ls : Array Slot), K66 T68 = some o → zP 0 D Y G T68 H → va_S A s.heap H locs → lv_has ls 9 [(0, .ref (G 0 0)), (1, .int w1), (3, .int w3), (4, .int u4), (5, .int u5), (6, .int u6), (7, .int v57.1)] → W p l e (zR 8 mc ms) s m args below meth c H locs (cells + 32) (slots + 192) Q (F0 m 196 ls []) := by
            intro T68 H locs ls hf hP hS hl
            rw [eK66] at hf
            dsimp only at hf
            refine lv_iconst (v := 1) hx hb dL_dates_196 (by decide) ?_
            refine lv_goto (tgt := 201) hx hb dL_dates_197 (by decide) ?_
            refine W.widen (k := cells + 32) (n := slots + 192) (by omega) (by omega) ?_
            exact J62 1 T68 _ _ _ hf hP hS (lv_sub hl [0, 1, 2, 3, 4, 5, 6] rfl)
          refine lv_icmp_le (tgt := 196) hx hb dL_dates_187 (by decide) (fun hc => ?_) (fun hc => ?_)
          · have hf := zif_p hf hc
            refine W.widen (k := cells + 32) (n := slots + 192) (by omega) (by omega) ?_
            exact J67 T65 _ _ _ hf hP hS (lv_sub hl [0, 1, 2, 3, 4, 5, 6] rfl)
          · have hf := zif_n hf hc
            refine lv_iload_n hx hb dL_dates_190 rfl (lv_at hl 2 rfl) ?_
            refine lv_iload hx hb dL_dates_191 (lv_at hl 5 rfl) ?_
            refine lv_icmp_lt (tgt := 200) hx hb dL_dates_193 (by decide) (fun hc => ?_) (fun hc => ?_)
            · have hf := zif_p hf hc
              refine W.widen (k := cells + 32) (n := slots + 192) (by omega) (by omega) ?_
              exact J60 T65 _ _ _ hf hP hS (lv_sub hl [0, 1, 2, 3, 4, 5, 6] rfl)
            · have hf := zif_n hf hc
              refine W.widen (k := cells + 32) (n := slots + 192) (by omega) (by omega) ?_
              exact J67 T65 _ _ _ hf hP hS (lv_sub hl [0, 1, 2, 3, 4, 5, 6] rfl)
        refine lv_if_gt (tgt := 183) hx hb dL_dates_175 (by decide) (fun hc => ?_) (fun hc => ?_)
        · have hf := zif_p hf hc
          refine W.widen (k := cells + 32) (n := slots + 192) (by omega) (by omega) ?_
          exact J64 T56 _ _ _ hf hP hS (lv_sub hl [0, 1, 3, 4, 5, 6, 7] rfl)
        · have hf := zif_n hf hc
          refine lv_iload hx hb dL_dates_178 (lv_at hl 7 rfl) ?_
          refine lv_if_ne (tgt := 200) hx hb dL_dates_180 (by decide) (fun hc => ?_) (fun hc => ?_)
          · have hf := zif_n hf hc
            refine W.widen (k := cells + 32) (n := slots + 192) (by omega) (by omega) ?_
            exact J60 T56 _ _ _ hf hP hS (lv_sub hl [0, 1, 3, 4, 5, 6, 7] rfl)
          · have hf := zif_p hf hc
            refine W.widen (k := cells + 32) (n := slots + 192) (by omega) (by omega) ?_
            exact J64 T56 _ _ _ hf hP hS (lv_sub hl [0, 1, 3, 4, 5, 6, 7] rfl)
set_option maxHeartbeats 8000000 in
set_option maxRecDepth 100000 in
theorem c_L_dates (T T' : zT) (v : Int32) (hf : f_L_dates T = some (v, T')) : zC 0 yL_dates cL_dates 9 (some .boolean) 8 1010 6060 (fun G _ => [.ref (G 0 0)]) T (fun _ => .inl (some (.int v))) T' := by
  intro l D Y S V G A hl9 hG
  refine vx_ofW (cc := cL_dates) (maxL := 9) (ret := (some .boolean)) (by decide) rfl ?_
  intro p e s m args below meth c s₁ B hml hex hv
  obtain ⟨rfl, hK, hP, hA⟩ := hv
  have hx := B.exec
  have hb := B.bytes
  have hr := B.returns
  have hlocks := B.notSynchronized
  have hown : s.vm.findClass RL = some m.cls := findClass_of_methodNamed B.named
  have hts := atoms_spec (ws := Cond.code yL_dates cL_dates 9 (some .boolean) :: zWS) B.pre
  have F : zF 0 8 1010 6060 p l s m _ c cL_dates 9 RL (Cond.code yL_dates cL_dates 9 (some .boolean)) D Y S V G A := ⟨hx, hb, hml, hown, hts, hl9, hG, hK, hA⟩
  have hS : va_S A s.heap s.heap [] := va_S.rf
  have hl := lv_entry ([.ref (G 0 0)]) (n := 9) (Nat.le_of_ble_eq_true rfl)
  rw [lg_entry_eq]
  generalize (lg_sl ([.ref (G 0 0)]) ++ List.replicate (9 - (lg_sl ([.ref (G 0 0)])).length) Slot.unset).toArray = ls at hl ⊢
  have hl : lv_has ls 9 [(0, .ref (G 0 0))] := hl
  unfold f_L_dates at hf
  refine lv_iconst (v := 0) hx hb dL_dates_0 (by decide) ?_
  refine lv_istore_n (lv' := [(1, .int 0), (0, .ref (G 0 0))]) hx hb dL_dates_1 rfl hl (by decide) rfl (fun ls hl => ?_)
  refine lv_iconst (v := 1) hx hb dL_dates_2 (by decide) ?_
  refine lv_istore_n (lv' := [(2, .int 1), (1, .int 0), (0, .ref (G 0 0))]) hx hb dL_dates_3 rfl hl (by decide) rfl (fun ls hl => ?_)
  refine lv_iconst (v := 0) hx hb dL_dates_4 (by decide) ?_
  refine lv_istore_n (lv' := [(3, .int 0), (2, .int 1), (1, .int 0), (0, .ref (G 0 0))]) hx hb dL_dates_5 rfl hl (by decide) rfl (fun ls hl => ?_)
  obtain ⟨v46, T45, h47, hf⟩ := zb_i hf
  refine l_L_dates_6 (ce := 560) (se := 3360) ⟨(Nat.le_of_ble_eq_true rfl), (Nat.le_of_ble_eq_true rfl)⟩ F  16 (0) (0) 0 1 0 _ _ _ _ _ (Nat.le_of_ble_eq_true rfl) (Nat.le_of_ble_eq_true rfl) h47 hP hS (lv_sub hl [3, 2, 1, 0] rfl) (fun H locs ls hP hS hl => ?_)
  refine lv_aload_n hx hb dL_dates_117 rfl (lv_at hl 0 rfl) ?_
  obtain ⟨v48, T49, h50, hf⟩ := zb_i hf
  refine z_ok (z_runV (As := []) (rest := []) F k_X3_busiestMonth ml_1125 (c_X3_busiestMonth T45 T49 v48 h50) hP hS (zV_0 (by decide)) rfl rfl rfl rfl hl.1 (Nat.le_of_ble_eq_true rfl) dL_dates_118 (Nat.le_of_ble_eq_true rfl) ⟨(Nat.le_of_ble_eq_true rfl), (Nat.le_of_ble_eq_true rfl)⟩ rfl) hS (fun H locs hP hS => ?_)
  refine lv_istore_n (lv' := [(3, .int v48), (0, .ref (G 0 0)), (1, .int v46.1), (2, .int v46.2.1)]) hx hb dL_dates_121 rfl hl (by decide) rfl (fun ls hl => ?_)
  refine lv_iconst (v := 0) hx hb dL_dates_122 (by decide) ?_
  refine lv_istore (lv' := [(4, .int 0), (3, .int v48), (0, .ref (G 0 0)), (1, .int v46.1), (2, .int v46.2.1)]) hx hb dL_dates_123 hl (by decide) rfl (fun ls hl => ?_)
  refine lv_iconst (v := 0) hx hb dL_dates_125 (by decide) ?_
  refine lv_istore (lv' := [(5, .int 0), (4, .int 0), (3, .int v48), (0, .ref (G 0 0)), (1, .int v46.1), (2, .int v46.2.1)]) hx hb dL_dates_126 hl (by decide) rfl (fun ls hl => ?_)
  refine lv_iconst (v := 1) hx hb dL_dates_128 (by decide) ?_
  refine lv_istore (lv' := [(6, .int 1), (5, .int 0), (4, .int 0), (3, .int v48), (0, .ref (G 0 0)), (1, .int v46.1), (2, .int v46.2.1)]) hx hb dL_dates_129 hl (by decide) rfl (fun ls hl => ?_)
  obtain ⟨v76, T75, h77, hf⟩ := zb_i hf
  refine l_L_dates_131 (ce := 976) (se := 5856) ⟨(Nat.le_of_ble_eq_true rfl), (Nat.le_of_ble_eq_true rfl)⟩ F v46.1 v48 13 (560) (3360) v46.2.1 0 0 1 _ _ _ _ _ (Nat.le_of_ble_eq_true rfl) (Nat.le_of_ble_eq_true rfl) h77 hP hS (lv_sub hl [4, 5, 6, 3, 2, 1, 0] rfl) (fun H locs ls hP hS hl => ?_)
  refine lv_aload_n hx hb dL_dates_224 rfl (lv_at hl 0 rfl) ?_
  obtain ⟨v78, T79, h80, hf⟩ := zb_i hf
  refine z_ok (z_runV (As := []) (rest := []) F k_X3_mostWantedCake ml_1139 (c_X3_mostWantedCake T75 T79 v78 h80) hP hS (zV_0 (by decide)) rfl rfl rfl rfl hl.1 (Nat.le_of_ble_eq_true rfl) dL_dates_225 (Nat.le_of_ble_eq_true rfl) ⟨(Nat.le_of_ble_eq_true rfl), (Nat.le_of_ble_eq_true rfl)⟩ rfl) hS (fun H locs hP hS => ?_)
  refine lv_istore (lv' := [(6, .int v78), (0, .ref (G 0 0)), (1, .int v46.1), (2, .int v76.1), (3, .int v48), (4, .int v76.2.1), (5, .int v76.2.2.1)]) hx hb dL_dates_228 hl (by decide) rfl (fun ls hl => ?_)
  refine lv_bipush (v := 6) hx hb dL_dates_230 (by decide) ?_
  obtain ⟨T81, eT81, hf⟩ := zl_i hf
  obtain ⟨v83, T82, h84, hf⟩ := zb_i hf
  obtain ⟨hv9, hf⟩ := zif_c hf
  obtain ⟨q1, q2⟩ := zs_i hf
  subst q1; subst q2
  refine z_newi F ml_153 6 (by decide) (by decide) hP hS (Nat.le_of_ble_eq_true rfl) (Nat.le_of_ble_eq_true rfl) rfl dL_dates_232 (fun G9 H hG9 hgn hP hS => ?_)
  rw [← eT81] at hP
  have e00 : G9 0 0 = G 0 0 := hgn 0 0 (by decide)
  rw [← e00] at hl
  refine lv_astore (lv' := [(7, .ref (G9 0 8)), (6, .int v78), (0, .ref (G9 0 0)), (1, .int v46.1), (2, .int v76.1), (3, .int v48), (4, .int v76.2.1), (5, .int v76.2.2.1)]) hx hb dL_dates_234 hl (by decide) rfl (fun ls hl => ?_)
  have F9 := zF.world F hG9
  refine r_L_dates_t (ce := 1010) (se := 6060) ⟨(Nat.le_of_ble_eq_true rfl), (Nat.le_of_ble_eq_true rfl)⟩ F9 v46.1 v76.1 v76.2.2.1 v78 977 5862 T81 (Nat.le_of_ble_eq_true rfl) (Nat.le_of_ble_eq_true rfl) h84 hP hS (lv_sub hl [2, 3, 4, 7, 1, 0] rfl) (fun H locs ls hP hS hl => ?_)
  exact z_zret hx hb hr hv9 rfl (hP.down.agree hgn) hS hlocks (Nat.le_of_ble_eq_true rfl) (Nat.le_of_ble_eq_true rfl) dL_dates_377
