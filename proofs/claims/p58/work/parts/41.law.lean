/-! THE LAW'S OWN METHODS, by program -/
def lp_L_law_121 (b L : Nat) (xs : Nat → Int32) (w4 : Int32) (w6 : Int64) : Nat → Int32 → Int32 → zT → Option ((Int32 × Int32) × zT)
  | 0, _, _, _ => none
  | n + 1, u3, u8, T => (if 11 ≤ u8 then some ((u3, u8), T) else (if u3 = 0 then some ((u3, u8), T) else zb (f_L_sum T) fun v37 T38 => zl (zk T T38) fun T40 => zb (f_L_advanced 721 T40) fun v41 T42 => zl (zk T40 T42) fun T44 => zl (fun (z79 : Int32) (T78 : zT) => zl (fun (z97 : Int32) (T96 : zT) => (if z97 = 0 then zl (u8 + 1) fun x98 => lp_L_law_121 b L xs w4 w6 n z97 x98 T96 else zb (f_L_next T96) fun v99 T100 => (if (v99 - v99 / 4 * 4) = 0 then zb (f_L_undone T100) fun v103 T104 => zl (zk T100 T104) fun T106 => (if v103 < 0 then zl (u8 + 1) fun x107 => lp_L_law_121 b L xs w4 w6 n 0 x107 T106 else zl (u8 + 1) fun x108 => lp_L_law_121 b L xs w4 w6 n 1 x108 T106) else zl (u8 + 1) fun x102 => lp_L_law_121 b L xs w4 w6 n z97 x102 T100))) fun K82 => zl (fun (T95 : zT) => K82 0 T95) fun K80 => (if z79 = 0 then K80 T78 else zb (f_L_act T78) fun v84 T85 => (if v84 = 0 then K80 T85 else zb (f_L_children T85) fun v87 T88 => zl (zk T85 T88) fun T90 => (if v87 = 0 then K80 T90 else zb (f_L_dates T90) fun v91 T92 => zl (zk T90 T92) fun T94 => (if v91 = 0 then K80 T94 else K82 1 T94))))) fun K47 => zl (fun (T77 : zT) => K47 0 T77) fun K45 => (if v41 = (-2) then zb (f_L_drawn 10 T44) fun v49 T50 => zl (zk T44 T50) fun T52 => (if v49 = (-5) then zb (f_L_set 10 1 1 T52) fun v53 T54 => zl (zk T52 T54) fun T56 => (if v53 = (-5) then zb (f_L_forgotten (-1) T56) fun v57 T58 => zl (zk T56 T58) fun T60 => (if v57 = (-5) then zb (f_L_moved 0 4 T60) fun v61 T62 => zl (zk T60 T62) fun T64 => (if v61 = (-5) then zb (f_L_bought 0 T64) fun v65 T66 => zl (zk T64 T66) fun T68 => (if v65 = (-2) then zb (f_L_baked 6 1 T68) fun v69 T70 => zl (zk T68 T70) fun T72 => (if v69 = (-2) then zb (f_L_sum T72) fun v73 T74 => zl (zk T72 T74) fun T76 => (if (lg_cmp v73 v37) = 0 then K47 1 T76 else K45 T76) else K45 T72) else K45 T68) else K45 T64) else K45 T60) else K45 T56) else K45 T52) else K45 T44)))
def lp_L_law_34 (b L : Nat) (xs : Nat → Int32) : Nat → Int32 → Int32 → zT → Option ((Int32 × Int32) × zT)
  | 0, _, _, _ => none
  | n + 1, u3, u4, T => (if 2 ≤ u4 then some ((u3, u4), T) else (if u3 = 0 then some ((u3, u4), T) else zl (fun (z6 : Int32) (z7 : Int32) (z8 : Int32) (T5 : zT) => if zin z6 1 = true then zl (wA T5 0 8 (upd (T5.2 0 8) z6.toNatClampNeg (z7 ^^^ z8))) fun T10 => zb (f_L_next T10) fun v11 T12 => zl (v11 - v11 / 9 * 9) fun x14 => zb (f_L_next T12) fun v15 T16 => zl (1 + (v15 - v15 / 4 * 4)) fun x21 => zb (f_L_regload x21 x14 T16) fun v18 T19 => zl (fun (z32 : Int32) (T31 : zT) => zb (f_L_sum T31) fun v33 T34 => zl (zk T31 T34) fun T36 => zb (lp_L_law_121 b L xs u4 v33 12 z32 0 T36) fun v110 T109 => (if v110.1 = 0 then zl (u4 + 1) fun x112 => lp_L_law_34 b L xs n v110.1 x112 T109 else zb (f_L_next T109) fun v113 T114 => (if (v113 - v113 / 2 * 2) = 0 then zbi (f_X3_restore u4 T114) fun v117 T118 => zl (zk T114 T118) fun T120 => zl (fun (z131 : Int32) (T130 : zT) => zb (f_L_sum T130) fun v132 T133 => zl (zk T130 T133) fun T135 => zl (fun (T155 : zT) => zl (u4 + 1) fun x156 => lp_L_law_34 b L xs n 0 x156 T155) fun K136 => (if z131 = 0 then K136 T135 else zb (f_L_bought 1 T135) fun v138 T139 => zl (zk T135 T139) fun T141 => (if v138 ≤ 0 then K136 T141 else zb (f_L_sum T141) fun v142 T143 => zl (zk T141 T143) fun T145 => (if (lg_cmp v142 v132) = 0 then K136 T145 else zb (f_L_undone T145) fun v146 T147 => zl (zk T145 T147) fun T149 => (if v146 < 0 then K136 T149 else zb (f_L_sum T149) fun v150 T151 => zl (zk T149 T151) fun T153 => (if (lg_cmp v150 v132) = 0 then zl (u4 + 1) fun x154 => lp_L_law_34 b L xs n 1 x154 T153 else K136 T153)))))) fun K123 => zl (fun (T129 : zT) => K123 0 T129) fun K121 => (if v117 = 0 then zb (f_L_sum T120) fun v125 T126 => zl (zk T120 T126) fun T128 => (if (lg_cmp v125 v33) = 0 then K123 1 T128 else K121 T128) else K121 T120) else zl (u4 + 1) fun x116 => lp_L_law_34 b L xs n v110.1 x116 T114))) fun K24 => zl (fun (T30 : zT) => K24 0 T30) fun K22 => (if v18 = x14 then zbi (f_X3_save u4 T19) fun v26 T27 => zl (zk T19 T27) fun T29 => (if v26 = 0 then K24 1 T29 else K22 T29) else K22 T19) else none) fun K2 => (if (Int32.ofNat L) ≤ u4 then K2 0 (T.2 0 8 0) 0 T else if zin u4 L = true then K2 0 (T.2 0 8 0) (xs u4.toNatClampNeg) T else none)))
def rg_L_law (b L : Nat) (xs : Nat → Int32) (T : zT) : Option (Int32 × zT) := zb (lp_L_law_34 b L xs 3 1 0 T) fun v158 T157 => some (v158.1, T157)
set_option maxHeartbeats 8000000 in
set_option maxRecDepth 100000 in
theorem l_L_law_121 {p : Program} {l : Launch} {e : Env} {s : State} {m : MethodId} {args : Array Value} {below : List Frame} {meth : Method} {c : Code} {Q : State → Prop} {D : va_G} {Y : Nat → ClassId} {S V : Nat → Nat} {G : Nat → Nat → Nat} {A : Nat → Prop} {c0 : Cond} {mc ms : Nat} {b L : Nat} {xs : Nat → Int32} {ce se : Nat} (hcm : ce ≤ mc ∧ se ≤ ms) (F : zF 1 11 mc ms p l s m args c cL_law 11 RL c0 D Y S V G A) (X : va_X b L xs s s.heap ∧ b < s.heap.size ∧ ¬ A b) (XJ : zJk A s s.heap) (w4 : Int32) (w6 : Int64) :
    ∀ (n cells slots : Nat) (u3 : Int32) (u8 : Int32) (T : zT) (o : (Int32 × Int32) × zT) (H : Heap) (locs : List Loc) (ls : Array Slot), cells + 1978 * n ≤ ce → slots + 11868 * n ≤ se → lp_L_law_121 b L xs w4 w6 n u3 u8 T = some o → zP 1 D Y G T H → va_S A s.heap H locs → lv_has ls 11 [(0, .ref b), (1, .ref (G 0 0)), (2, .ref (G 0 8)), (3, .int u3), (4, .int w4), (6, .long w6), (8, .int u8)] → (∀ (H : Heap) (locs : List Loc) (ls : Array Slot), zP 1 D Y G o.2 H → va_S A s.heap H locs → lv_has ls 11 [(0, .ref b), (1, .ref (G 0 0)), (2, .ref (G 0 8)), (3, .int o.1.1), (4, .int w4), (6, .long w6), (8, .int o.1.2)] → W p l e (zR 11 mc ms) s m args below meth c H locs ce se Q (F0 m 297 ls [])) → W p l e (zR 11 mc ms) s m args below meth c H locs cells slots Q (F0 m 121 ls []) := by
  obtain ⟨hx, hb, hml, hown, hts, hl9, hG, hK, hA⟩ := id F
  intro n
  induction n with
  | zero =>
    intro cells slots u3 u8 T o H locs ls _ _ hf
    rw [lp_L_law_121] at hf
    cases hf
  | succ n ih =>
    intro cells slots u3 u8 T o H locs ls hc1 hc2 hf hP hS hl k0_
    replace hc1 : cells + 1978 * n + 1978 ≤ ce := by rw [Nat.mul_add_one, ← Nat.add_assoc] at hc1; exact hc1
    replace hc2 : slots + 11868 * n + 11868 ≤ se := by rw [Nat.mul_add_one, ← Nat.add_assoc] at hc2; exact hc2
    rw [lp_L_law_121] at hf
    refine lv_iload hx hb dL_law_121 (lv_at hl 6 rfl) ?_
    refine lv_bipush (v := 11) hx hb dL_law_123 (by decide) ?_
    refine lv_icmp_ge (tgt := 297) hx hb dL_law_125 (by decide) (fun hc => ?_) (fun hc => ?_)
    · have hf := zif_p hf hc
      cases hf
      refine W.widen (k := ce) (n := se) (by omega) (by omega) ?_
      exact k0_ _ _ _ hP hS (lv_sub hl [0, 1, 2, 3, 4, 5, 6] rfl)
    · have hf := zif_n hf hc
      refine lv_iload_n hx hb dL_law_128 rfl (lv_at hl 3 rfl) ?_
      refine lv_if_eq (tgt := 297) hx hb dL_law_129 (by decide) (fun hc => ?_) (fun hc => ?_)
      · have hf := zif_p hf hc
        cases hf
        refine W.widen (k := ce) (n := se) (by omega) (by omega) ?_
        exact k0_ _ _ _ hP hS (lv_sub hl [0, 1, 2, 3, 4, 5, 6] rfl)
      · have hf := zif_n hf hc
        refine lv_aload_n hx hb dL_law_132 rfl (lv_at hl 1 rfl) ?_
        obtain ⟨v37, T38, h39, hf⟩ := zb_i hf
        obtain ⟨T40, eT40, hf⟩ := zl_i hf
        refine z_ok (z_runS (As := [.ref (G 0 0)]) (rest := []) F kl_sum ml_989 (((c_L_sum T T38 v37 h39).lift (by decide))) hP hS rfl rfl hl.1 (Nat.le_of_ble_eq_true rfl) dL_law_133 (Nat.le_of_ble_eq_true rfl) ⟨by omega, by omega⟩ rfl) hS (fun H locs hP hS => ?_)
        rw [← eT40] at hP
        refine lv_lstore (lv' := [(9, .long v37), (0, .ref b), (1, .ref (G 0 0)), (2, .ref (G 0 8)), (3, .int u3), (4, .int w4), (6, .long w6), (8, .int u8)]) hx hb dL_law_136 hl (by decide) rfl (fun ls hl => ?_)
        refine lv_aload_n hx hb dL_law_138 rfl (lv_at hl 2 rfl) ?_
        refine lv_sipush (v := 721) hx hb dL_law_139 (by decide) ?_
        obtain ⟨v41, T42, h43, hf⟩ := zb_i hf
        obtain ⟨T44, eT44, hf⟩ := zl_i hf
        refine z_ok (z_runSW (As := [.ref (G 0 0), .int 721]) (rest := []) F kl_advanced ml_654 ((c_L_advanced 721 T40 T42 v41 h43).lift (by decide)) hP hS rfl rfl hl.1 (Nat.le_of_ble_eq_true rfl) dL_law_142 (Nat.le_of_ble_eq_true rfl) ⟨by omega, by omega⟩ rfl) hS (fun H locs hP hS => ?_)
        rw [← eT44] at hP
        refine lv_bipush (v := (-2)) hx hb dL_law_145 (by decide) ?_
        obtain ⟨K47, eK47, hf⟩ := zl_i hf
        have J48 : ∀ (z79 : Int32) (T78 : zT) (H : Heap) (locs : List Loc) (ls : Array Slot), K47 z79 T78 = some o → zP 1 D Y G T78 H → va_S A s.heap H locs → lv_has ls 11 [(0, .ref b), (1, .ref (G 0 0)), (2, .ref (G 0 8)), (4, .int w4), (6, .long w6), (8, .int u8)] → W p l e (zR 11 mc ms) s m args below meth c H locs (cells + 205) (slots + 1230) Q (F0 m 232 ls [.int z79]) := by
          intro z79 T78 H locs ls hf hP hS hl
          rw [eK47] at hf
          dsimp only at hf
          refine lv_istore_n (lv' := [(3, .int z79), (0, .ref b), (1, .ref (G 0 0)), (2, .ref (G 0 8)), (4, .int w4), (6, .long w6), (8, .int u8)]) hx hb dL_law_232 rfl hl (by decide) rfl (fun ls hl => ?_)
          refine lv_iload_n hx hb dL_law_233 rfl (lv_at hl 0 rfl) ?_
          obtain ⟨K82, eK82, hf⟩ := zl_i hf
          have J83 : ∀ (z97 : Int32) (T96 : zT) (H : Heap) (locs : List Loc) (ls : Array Slot), K82 z97 T96 = some o → zP 1 D Y G T96 H → va_S A s.heap H locs → lv_has ls 11 [(0, .ref b), (1, .ref (G 0 0)), (2, .ref (G 0 8)), (4, .int w4), (6, .long w6), (8, .int u8)] → W p l e (zR 11 mc ms) s m args below meth c H locs (cells + 1977) (slots + 11862) Q (F0 m 264 ls [.int z97]) := by
            intro z97 T96 H locs ls hf hP hS hl
            rw [eK82] at hf
            dsimp only at hf
            refine lv_istore_n (lv' := [(3, .int z97), (0, .ref b), (1, .ref (G 0 0)), (2, .ref (G 0 8)), (4, .int w4), (6, .long w6), (8, .int u8)]) hx hb dL_law_264 rfl hl (by decide) rfl (fun ls hl => ?_)
            refine lv_iload_n hx hb dL_law_265 rfl (lv_at hl 0 rfl) ?_
            refine lv_if_eq (tgt := 291) hx hb dL_law_266 (by decide) (fun hc => ?_) (fun hc => ?_)
            · have hf := zif_p hf hc
              obtain ⟨x98, ex98, hf⟩ := zl_i hf
              refine lv_iinc (v := x98) (lv' := [(8, .int x98), (3, .int z97), (0, .ref b), (1, .ref (G 0 0)), (2, .ref (G 0 8)), (4, .int w4), (6, .long w6)]) hx hb dL_law_291 hl (k := 6) rfl (by rw [ex98]; rfl) (by decide) rfl (fun ls hl => ?_)
              refine lv_goto (tgt := 121) hx hb dL_law_294 (by decide) ?_
              exact ih (cells + 1977) (slots + 11862) z97 x98 _ _ _ _ _ (by omega) (by omega) hf hP hS (lv_sub hl [2, 3, 4, 1, 5, 6, 0] rfl) k0_
            · have hf := zif_n hf hc
              refine lv_aload_n hx hb dL_law_269 rfl (lv_at hl 3 rfl) ?_
              obtain ⟨v99, T100, h101, hf⟩ := zb_i hf
              refine z_ok (z_runS (As := [.ref (G 0 8)]) (rest := []) F kl_next ml_590 (c_L_next T96 T100 v99 h101) hP hS rfl rfl hl.1 (Nat.le_of_ble_eq_true rfl) dL_law_270 (Nat.le_of_ble_eq_true rfl) ⟨by omega, by omega⟩ rfl) hS (fun H locs hP hS => ?_)
              refine lv_iconst (v := 4) hx hb dL_law_273 (by decide) ?_
              refine lv_irem hx hb dL_law_274 (by decide) ?_
              refine lv_if_ne (tgt := 291) hx hb dL_law_275 (by decide) (fun hc => ?_) (fun hc => ?_)
              · have hf := zif_n hf hc
                obtain ⟨x102, ex102, hf⟩ := zl_i hf
                refine lv_iinc (v := x102) (lv' := [(8, .int x102), (3, .int z97), (0, .ref b), (1, .ref (G 0 0)), (2, .ref (G 0 8)), (4, .int w4), (6, .long w6)]) hx hb dL_law_291 hl (k := 6) rfl (by rw [ex102]; rfl) (by decide) rfl (fun ls hl => ?_)
                refine lv_goto (tgt := 121) hx hb dL_law_294 (by decide) ?_
                exact ih (cells + 1977) (slots + 11862) z97 x102 _ _ _ _ _ (by omega) (by omega) hf hP hS (lv_sub hl [2, 3, 4, 1, 5, 6, 0] rfl) k0_
              · have hf := zif_p hf hc
                refine lv_aload_n hx hb dL_law_278 rfl (lv_at hl 2 rfl) ?_
                obtain ⟨v103, T104, h105, hf⟩ := zb_i hf
                obtain ⟨T106, eT106, hf⟩ := zl_i hf
                refine z_ok (z_runSW (As := [.ref (G 0 0)]) (rest := []) F kl_undone ml_638 ((c_L_undone T100 T104 v103 h105).lift (by decide)) hP hS rfl rfl hl.1 (Nat.le_of_ble_eq_true rfl) dL_law_279 (Nat.le_of_ble_eq_true rfl) ⟨by omega, by omega⟩ rfl) hS (fun H locs hP hS => ?_)
                rw [← eT106] at hP
                refine lv_if_lt (tgt := 289) hx hb dL_law_282 (by decide) (fun hc => ?_) (fun hc => ?_)
                · have hf := zif_p hf hc
                  refine lv_iconst (v := 0) hx hb dL_law_289 (by decide) ?_
                  refine lv_istore_n (lv' := [(3, .int 0), (0, .ref b), (1, .ref (G 0 0)), (2, .ref (G 0 8)), (4, .int w4), (6, .long w6), (8, .int u8)]) hx hb dL_law_290 rfl hl (by decide) rfl (fun ls hl => ?_)
                  obtain ⟨x107, ex107, hf⟩ := zl_i hf
                  refine lv_iinc (v := x107) (lv' := [(8, .int x107), (3, .int 0), (0, .ref b), (1, .ref (G 0 0)), (2, .ref (G 0 8)), (4, .int w4), (6, .long w6)]) hx hb dL_law_291 hl (k := 6) rfl (by rw [ex107]; rfl) (by decide) rfl (fun ls hl => ?_)
                  refine lv_goto (tgt := 121) hx hb dL_law_294 (by decide) ?_
                  exact ih (cells + 1978) (slots + 11868) 0 x107 _ _ _ _ _ (by omega) (by omega) hf hP hS (lv_sub hl [2, 3, 4, 1, 5, 6, 0] rfl) k0_
                · have hf := zif_n hf hc
                  refine lv_iconst (v := 1) hx hb dL_law_285 (by decide) ?_
                  refine lv_goto (tgt := 290) hx hb dL_law_286 (by decide) ?_
                  refine lv_istore_n (lv' := [(3, .int 1), (0, .ref b), (1, .ref (G 0 0)), (2, .ref (G 0 8)), (4, .int w4), (6, .long w6), (8, .int u8)]) hx hb dL_law_290 rfl hl (by decide) rfl (fun ls hl => ?_)
                  obtain ⟨x108, ex108, hf⟩ := zl_i hf
                  refine lv_iinc (v := x108) (lv' := [(8, .int x108), (3, .int 1), (0, .ref b), (1, .ref (G 0 0)), (2, .ref (G 0 8)), (4, .int w4), (6, .long w6)]) hx hb dL_law_291 hl (k := 6) rfl (by rw [ex108]; rfl) (by decide) rfl (fun ls hl => ?_)
                  refine lv_goto (tgt := 121) hx hb dL_law_294 (by decide) ?_
                  exact ih (cells + 1978) (slots + 11868) 1 x108 _ _ _ _ _ (by omega) (by omega) hf hP hS (lv_sub hl [2, 3, 4, 1, 5, 6, 0] rfl) k0_
          obtain ⟨K80, eK80, hf⟩ := zl_i hf
          have J81 : ∀ (T95 : zT) (H : Heap) (locs : List Loc) (ls : Array Slot), K80 T95 = some o → zP 1 D Y G T95 H → va_S A s.heap H locs → lv_has ls 11 [(0, .ref b), (1, .ref (G 0 0)), (2, .ref (G 0 8)), (4, .int w4), (6, .long w6), (8, .int u8)] → W p l e (zR 11 mc ms) s m args below meth c H locs (cells + 1977) (slots + 11862) Q (F0 m 263 ls []) := by
            intro T95 H locs ls hf hP hS hl
            rw [eK80] at hf
            dsimp only at hf
            refine lv_iconst (v := 0) hx hb dL_law_263 (by decide) ?_
            refine W.widen (k := cells + 1977) (n := slots + 11862) (by omega) (by omega) ?_
            exact J83 0 T95 _ _ _ hf hP hS (lv_sub hl [0, 1, 2, 3, 4, 5] rfl)
          refine lv_if_eq (tgt := 263) hx hb dL_law_234 (by decide) (fun hc => ?_) (fun hc => ?_)
          · have hf := zif_p hf hc
            refine W.widen (k := cells + 1977) (n := slots + 11862) (by omega) (by omega) ?_
            exact J81 T78 _ _ _ hf hP hS (lv_sub hl [1, 2, 3, 4, 5, 6] rfl)
          · have hf := zif_n hf hc
            refine lv_aload_n hx hb dL_law_237 rfl (lv_at hl 2 rfl) ?_
            refine lv_aload_n hx hb dL_law_238 rfl (lv_at hl 3 rfl) ?_
            obtain ⟨v84, T85, h86, hf⟩ := zb_i hf
            refine z_ok (z_runS2 (As := [.ref (G 0 0), .ref (G 0 8)]) (rest := []) F kl_act ml_1148 (c_L_act T78 T85 v84 h86) hP hS rfl rfl hl.1 (Nat.le_of_ble_eq_true rfl) dL_law_239 (Nat.le_of_ble_eq_true rfl) ⟨by omega, by omega⟩ rfl) hS (fun H locs hP hS => ?_)
            refine lv_if_eq (tgt := 263) hx hb dL_law_242 (by decide) (fun hc => ?_) (fun hc => ?_)
            · have hf := zif_p hf hc
              refine W.widen (k := cells + 1977) (n := slots + 11862) (by omega) (by omega) ?_
              exact J81 T85 _ _ _ hf hP hS (lv_sub hl [1, 2, 3, 4, 5, 6] rfl)
            · have hf := zif_n hf hc
              refine lv_aload_n hx hb dL_law_245 rfl (lv_at hl 2 rfl) ?_
              obtain ⟨v87, T88, h89, hf⟩ := zb_i hf
              obtain ⟨T90, eT90, hf⟩ := zl_i hf
              refine z_ok (z_runS (As := [.ref (G 0 0)]) (rest := []) F kl_children ml_1058 (((c_L_children T85 T88 v87 h89).lift (by decide))) hP hS rfl rfl hl.1 (Nat.le_of_ble_eq_true rfl) dL_law_246 (Nat.le_of_ble_eq_true rfl) ⟨by omega, by omega⟩ rfl) hS (fun H locs hP hS => ?_)
              rw [← eT90] at hP
              refine lv_if_eq (tgt := 263) hx hb dL_law_249 (by decide) (fun hc => ?_) (fun hc => ?_)
              · have hf := zif_p hf hc
                refine W.widen (k := cells + 1977) (n := slots + 11862) (by omega) (by omega) ?_
                exact J81 T90 _ _ _ hf hP hS (lv_sub hl [1, 2, 3, 4, 5, 6] rfl)
              · have hf := zif_n hf hc
                refine lv_aload_n hx hb dL_law_252 rfl (lv_at hl 2 rfl) ?_
                obtain ⟨v91, T92, h93, hf⟩ := zb_i hf
                obtain ⟨T94, eT94, hf⟩ := zl_i hf
                refine z_ok (z_runS (As := [.ref (G 0 0)]) (rest := []) F kl_dates ml_1111 (((c_L_dates T90 T92 v91 h93).lift (by decide))) hP hS rfl rfl hl.1 (Nat.le_of_ble_eq_true rfl) dL_law_253 (Nat.le_of_ble_eq_true rfl) ⟨by omega, by omega⟩ rfl) hS (fun H locs hP hS => ?_)
                rw [← eT94] at hP
                refine lv_if_eq (tgt := 263) hx hb dL_law_256 (by decide) (fun hc => ?_) (fun hc => ?_)
                · have hf := zif_p hf hc
                  refine W.widen (k := cells + 1977) (n := slots + 11862) (by omega) (by omega) ?_
                  exact J81 T94 _ _ _ hf hP hS (lv_sub hl [1, 2, 3, 4, 5, 6] rfl)
                · have hf := zif_n hf hc
                  refine lv_iconst (v := 1) hx hb dL_law_259 (by decide) ?_
                  refine lv_goto (tgt := 264) hx hb dL_law_260 (by decide) ?_
                  refine W.widen (k := cells + 1977) (n := slots + 11862) (by omega) (by omega) ?_
                  exact J83 1 T94 _ _ _ hf hP hS (lv_sub hl [1, 2, 3, 4, 5, 6] rfl)
        obtain ⟨K45, eK45, hf⟩ := zl_i hf
        have J46 : ∀ (T77 : zT) (H : Heap) (locs : List Loc) (ls : Array Slot), K45 T77 = some o → zP 1 D Y G T77 H → va_S A s.heap H locs → lv_has ls 11 [(0, .ref b), (1, .ref (G 0 0)), (2, .ref (G 0 8)), (4, .int w4), (6, .long w6), (8, .int u8)] → W p l e (zR 11 mc ms) s m args below meth c H locs (cells + 205) (slots + 1230) Q (F0 m 231 ls []) := by
          intro T77 H locs ls hf hP hS hl
          rw [eK45] at hf
          dsimp only at hf
          refine lv_iconst (v := 0) hx hb dL_law_231 (by decide) ?_
          refine W.widen (k := cells + 205) (n := slots + 1230) (by omega) (by omega) ?_
          exact J48 0 T77 _ _ _ hf hP hS (lv_sub hl [0, 1, 2, 3, 4, 5] rfl)
        refine lv_icmp_ne (tgt := 231) hx hb dL_law_147 (by decide) (fun hc => ?_) (fun hc => ?_)
        · have hf := zif_n hf hc
          refine W.widen (k := cells + 205) (n := slots + 1230) (by omega) (by omega) ?_
          exact J46 T44 _ _ _ hf hP hS (lv_sub hl [1, 2, 3, 5, 6, 7] rfl)
        · have hf := zif_p hf hc
          refine lv_aload_n hx hb dL_law_150 rfl (lv_at hl 2 rfl) ?_
          refine lv_bipush (v := 10) hx hb dL_law_151 (by decide) ?_
          obtain ⟨v49, T50, h51, hf⟩ := zb_i hf
          obtain ⟨T52, eT52, hf⟩ := zl_i hf
          refine z_ok (z_runSW (As := [.ref (G 0 0), .int 10]) (rest := []) F kl_drawn ml_665 ((c_L_drawn 10 T44 T50 v49 h51).lift (by decide)) hP hS rfl rfl hl.1 (Nat.le_of_ble_eq_true rfl) dL_law_153 (Nat.le_of_ble_eq_true rfl) ⟨by omega, by omega⟩ rfl) hS (fun H locs hP hS => ?_)
          rw [← eT52] at hP
          refine lv_bipush (v := (-5)) hx hb dL_law_156 (by decide) ?_
          refine lv_icmp_ne (tgt := 231) hx hb dL_law_158 (by decide) (fun hc => ?_) (fun hc => ?_)
          · have hf := zif_n hf hc
            refine W.widen (k := cells + 205) (n := slots + 1230) (by omega) (by omega) ?_
            exact J46 T52 _ _ _ hf hP hS (lv_sub hl [1, 2, 3, 5, 6, 7] rfl)
          · have hf := zif_p hf hc
            refine lv_aload_n hx hb dL_law_161 rfl (lv_at hl 2 rfl) ?_
            refine lv_bipush (v := 10) hx hb dL_law_162 (by decide) ?_
            refine lv_iconst (v := 1) hx hb dL_law_164 (by decide) ?_
            refine lv_iconst (v := 1) hx hb dL_law_165 (by decide) ?_
            obtain ⟨v53, T54, h55, hf⟩ := zb_i hf
            obtain ⟨T56, eT56, hf⟩ := zl_i hf
            refine z_ok (z_runSW (As := [.ref (G 0 0), .int 10, .int 1, .int 1]) (rest := []) F kl_set ml_680 ((c_L_set 10 1 1 T52 T54 v53 h55).lift (by decide)) hP hS rfl rfl hl.1 (Nat.le_of_ble_eq_true rfl) dL_law_166 (Nat.le_of_ble_eq_true rfl) ⟨by omega, by omega⟩ rfl) hS (fun H locs hP hS => ?_)
            rw [← eT56] at hP
            refine lv_bipush (v := (-5)) hx hb dL_law_169 (by decide) ?_
            refine lv_icmp_ne (tgt := 231) hx hb dL_law_171 (by decide) (fun hc => ?_) (fun hc => ?_)
            · have hf := zif_n hf hc
              refine W.widen (k := cells + 205) (n := slots + 1230) (by omega) (by omega) ?_
              exact J46 T56 _ _ _ hf hP hS (lv_sub hl [1, 2, 3, 5, 6, 7] rfl)
            · have hf := zif_p hf hc
              refine lv_aload_n hx hb dL_law_174 rfl (lv_at hl 2 rfl) ?_
              refine lv_iconst (v := (-1)) hx hb dL_law_175 (by decide) ?_
              obtain ⟨v57, T58, h59, hf⟩ := zb_i hf
              obtain ⟨T60, eT60, hf⟩ := zl_i hf
              refine z_ok (z_runSW (As := [.ref (G 0 0), .int (-1)]) (rest := []) F kl_forgotten ml_700 ((c_L_forgotten (-1) T56 T58 v57 h59).lift (by decide)) hP hS rfl rfl hl.1 (Nat.le_of_ble_eq_true rfl) dL_law_176 (Nat.le_of_ble_eq_true rfl) ⟨by omega, by omega⟩ rfl) hS (fun H locs hP hS => ?_)
              rw [← eT60] at hP
              refine lv_bipush (v := (-5)) hx hb dL_law_179 (by decide) ?_
              refine lv_icmp_ne (tgt := 231) hx hb dL_law_181 (by decide) (fun hc => ?_) (fun hc => ?_)
              · have hf := zif_n hf hc
                refine W.widen (k := cells + 205) (n := slots + 1230) (by omega) (by omega) ?_
                exact J46 T60 _ _ _ hf hP hS (lv_sub hl [1, 2, 3, 5, 6, 7] rfl)
              · have hf := zif_p hf hc
                refine lv_aload_n hx hb dL_law_184 rfl (lv_at hl 2 rfl) ?_
                refine lv_iconst (v := 0) hx hb dL_law_185 (by decide) ?_
                refine lv_iconst (v := 4) hx hb dL_law_186 (by decide) ?_
                obtain ⟨v61, T62, h63, hf⟩ := zb_i hf
                obtain ⟨T64, eT64, hf⟩ := zl_i hf
                refine z_ok (z_runSW (As := [.ref (G 0 0), .int 0, .int 4]) (rest := []) F kl_moved ml_707 ((c_L_moved 0 4 T60 T62 v61 h63).lift (by decide)) hP hS rfl rfl hl.1 (Nat.le_of_ble_eq_true rfl) dL_law_187 (Nat.le_of_ble_eq_true rfl) ⟨by omega, by omega⟩ rfl) hS (fun H locs hP hS => ?_)
                rw [← eT64] at hP
                refine lv_bipush (v := (-5)) hx hb dL_law_190 (by decide) ?_
                refine lv_icmp_ne (tgt := 231) hx hb dL_law_192 (by decide) (fun hc => ?_) (fun hc => ?_)
                · have hf := zif_n hf hc
                  refine W.widen (k := cells + 205) (n := slots + 1230) (by omega) (by omega) ?_
                  exact J46 T64 _ _ _ hf hP hS (lv_sub hl [1, 2, 3, 5, 6, 7] rfl)
                · have hf := zif_p hf hc
                  refine lv_aload_n hx hb dL_law_195 rfl (lv_at hl 2 rfl) ?_
                  refine lv_iconst (v := 0) hx hb dL_law_196 (by decide) ?_
                  obtain ⟨v65, T66, h67, hf⟩ := zb_i hf
                  obtain ⟨T68, eT68, hf⟩ := zl_i hf
                  refine z_ok (z_runSW (As := [.ref (G 0 0), .int 0]) (rest := []) F kl_bought ml_720 ((c_L_bought 0 T64 T66 v65 h67).lift (by decide)) hP hS rfl rfl hl.1 (Nat.le_of_ble_eq_true rfl) dL_law_197 (Nat.le_of_ble_eq_true rfl) ⟨by omega, by omega⟩ rfl) hS (fun H locs hP hS => ?_)
                  rw [← eT68] at hP
                  refine lv_bipush (v := (-2)) hx hb dL_law_200 (by decide) ?_
                  refine lv_icmp_ne (tgt := 231) hx hb dL_law_202 (by decide) (fun hc => ?_) (fun hc => ?_)
                  · have hf := zif_n hf hc
                    refine W.widen (k := cells + 205) (n := slots + 1230) (by omega) (by omega) ?_
                    exact J46 T68 _ _ _ hf hP hS (lv_sub hl [1, 2, 3, 5, 6, 7] rfl)
                  · have hf := zif_p hf hc
                    refine lv_aload_n hx hb dL_law_205 rfl (lv_at hl 2 rfl) ?_
                    refine lv_bipush (v := 6) hx hb dL_law_206 (by decide) ?_
                    refine lv_iconst (v := 1) hx hb dL_law_208 (by decide) ?_
                    obtain ⟨v69, T70, h71, hf⟩ := zb_i hf
                    obtain ⟨T72, eT72, hf⟩ := zl_i hf
                    refine z_ok (z_runSW (As := [.ref (G 0 0), .int 6, .int 1]) (rest := []) F kl_baked ml_729 ((c_L_baked 6 1 T68 T70 v69 h71).lift (by decide)) hP hS rfl rfl hl.1 (Nat.le_of_ble_eq_true rfl) dL_law_209 (Nat.le_of_ble_eq_true rfl) ⟨by omega, by omega⟩ rfl) hS (fun H locs hP hS => ?_)
                    rw [← eT72] at hP
                    refine lv_bipush (v := (-2)) hx hb dL_law_212 (by decide) ?_
                    refine lv_icmp_ne (tgt := 231) hx hb dL_law_214 (by decide) (fun hc => ?_) (fun hc => ?_)
                    · have hf := zif_n hf hc
                      refine W.widen (k := cells + 205) (n := slots + 1230) (by omega) (by omega) ?_
                      exact J46 T72 _ _ _ hf hP hS (lv_sub hl [1, 2, 3, 5, 6, 7] rfl)
                    · have hf := zif_p hf hc
                      refine lv_aload_n hx hb dL_law_217 rfl (lv_at hl 2 rfl) ?_
                      obtain ⟨v73, T74, h75, hf⟩ := zb_i hf
                      obtain ⟨T76, eT76, hf⟩ := zl_i hf
                      refine z_ok (z_runS (As := [.ref (G 0 0)]) (rest := []) F kl_sum ml_989 (((c_L_sum T72 T74 v73 h75).lift (by decide))) hP hS rfl rfl hl.1 (Nat.le_of_ble_eq_true rfl) dL_law_218 (Nat.le_of_ble_eq_true rfl) ⟨by omega, by omega⟩ rfl) hS (fun H locs hP hS => ?_)
                      rw [← eT76] at hP
                      refine lv_lload hx hb dL_law_221 (lv_at hl 0 rfl) ?_
                      refine W.lcmp hx hb dL_law_223 ?_
                      refine lv_if_ne (tgt := 231) hx hb dL_law_224 (by decide) (fun hc => ?_) (fun hc => ?_)
                      · have hf := zif_n hf hc
                        refine W.widen (k := cells + 205) (n := slots + 1230) (by omega) (by omega) ?_
                        exact J46 T76 _ _ _ hf hP hS (lv_sub hl [1, 2, 3, 5, 6, 7] rfl)
                      · have hf := zif_p hf hc
                        refine lv_iconst (v := 1) hx hb dL_law_227 (by decide) ?_
                        refine lv_goto (tgt := 232) hx hb dL_law_228 (by decide) ?_
                        refine W.widen (k := cells + 205) (n := slots + 1230) (by omega) (by omega) ?_
                        exact J48 1 T76 _ _ _ hf hP hS (lv_sub hl [1, 2, 3, 5, 6, 7] rfl)
set_option maxHeartbeats 8000000 in
set_option maxRecDepth 100000 in
theorem l_L_law_34 {p : Program} {l : Launch} {e : Env} {s : State} {m : MethodId} {args : Array Value} {below : List Frame} {meth : Method} {c : Code} {Q : State → Prop} {D : va_G} {Y : Nat → ClassId} {S V : Nat → Nat} {G : Nat → Nat → Nat} {A : Nat → Prop} {c0 : Cond} {mc ms : Nat} {b L : Nat} {xs : Nat → Int32} {ce se : Nat} (hcm : ce ≤ mc ∧ se ≤ ms) (F : zF 1 11 mc ms p l s m args c cL_law 11 RL c0 D Y S V G A) (X : va_X b L xs s s.heap ∧ b < s.heap.size ∧ ¬ A b) (XJ : zJk A s s.heap) :
    ∀ (n cells slots : Nat) (u3 : Int32) (u4 : Int32) (T : zT) (o : (Int32 × Int32) × zT) (H : Heap) (locs : List Loc) (ls : Array Slot), cells + 24383 * n ≤ ce → slots + 230641 * n ≤ se → lp_L_law_34 b L xs n u3 u4 T = some o → zP 1 D Y G T H → va_S A s.heap H locs → lv_has ls 11 [(0, .ref b), (1, .ref (G 0 0)), (2, .ref (G 0 8)), (3, .int u3), (4, .int u4)] → (∀ (H : Heap) (locs : List Loc) (ls : Array Slot), zP 1 D Y G o.2 H → va_S A s.heap H locs → lv_has ls 11 [(0, .ref b), (1, .ref (G 0 0)), (2, .ref (G 0 8)), (3, .int o.1.1), (4, .int o.1.2)] → W p l e (zR 11 mc ms) s m args below meth c H locs ce se Q (F0 m 392 ls [])) → W p l e (zR 11 mc ms) s m args below meth c H locs cells slots Q (F0 m 34 ls []) := by
  obtain ⟨hx, hb, hml, hown, hts, hl9, hG, hK, hA⟩ := id F
  intro n
  induction n with
  | zero =>
    intro cells slots u3 u4 T o H locs ls _ _ hf
    rw [lp_L_law_34] at hf
    cases hf
  | succ n ih =>
    intro cells slots u3 u4 T o H locs ls hc1 hc2 hf hP hS hl k0_
    replace hc1 : cells + 24383 * n + 24383 ≤ ce := by rw [Nat.mul_add_one, ← Nat.add_assoc] at hc1; exact hc1
    replace hc2 : slots + 230641 * n + 230641 ≤ se := by rw [Nat.mul_add_one, ← Nat.add_assoc] at hc2; exact hc2
    rw [lp_L_law_34] at hf
    refine lv_iload hx hb dL_law_34 (lv_at hl 4 rfl) ?_
    refine lv_iconst (v := 2) hx hb dL_law_36 (by decide) ?_
    refine lv_icmp_ge (tgt := 392) hx hb dL_law_37 (by decide) (fun hc => ?_) (fun hc => ?_)
    · have hf := zif_p hf hc
      cases hf
      refine W.widen (k := ce) (n := se) (by omega) (by omega) ?_
      exact k0_ _ _ _ hP hS (lv_sub hl [0, 1, 2, 3, 4] rfl)
    · have hf := zif_n hf hc
      refine lv_iload_n hx hb dL_law_40 rfl (lv_at hl 3 rfl) ?_
      refine lv_if_eq (tgt := 392) hx hb dL_law_41 (by decide) (fun hc => ?_) (fun hc => ?_)
      · have hf := zif_p hf hc
        cases hf
        refine W.widen (k := ce) (n := se) (by omega) (by omega) ?_
        exact k0_ _ _ _ hP hS (lv_sub hl [0, 1, 2, 3, 4] rfl)
      · have hf := zif_n hf hc
        refine lv_aload_n hx hb dL_law_44 rfl (lv_at hl 2 rfl) ?_
        refine lv_iconst (v := 0) hx hb dL_law_45 (by decide) ?_
        refine lv_dup2_11 hx hb dL_law_46 rfl rfl ?_
        refine z_iald_ (j := 0) hx hb hK hP (zIA_8 (by decide)) (by decide) (by decide) dL_law_47 ?_
        refine lv_iload hx hb dL_law_48 (lv_at hl 4 rfl) ?_
        refine lv_aload_n hx hb dL_law_50 rfl (lv_at hl 0 rfl) ?_
        refine va_slen hx hb X.1 X.2.1 X.2.2 hS dL_law_51 ?_
        obtain ⟨K2, eK2, hf⟩ := zl_i hf
        have J3 : ∀ (z6 : Int32) (z7 : Int32) (z8 : Int32) (T5 : zT) (H : Heap) (locs : List Loc) (ls : Array Slot), K2 z6 z7 z8 T5 = some o → zP 1 D Y G T5 H → va_S A s.heap H locs → lv_has ls 11 [(0, .ref b), (1, .ref (G 0 0)), (2, .ref (G 0 8)), (4, .int u4)] → W p l e (zR 11 mc ms) s m args below meth c H locs (cells + 0) (slots + 0) Q (F0 m 63 ls [.int z8, .int z7, .int z6, .ref (G 0 8)]) := by
          intro z6 z7 z8 T5 H locs ls hf hP hS hl
          rw [eK2] at hf
          dsimp only at hf
          refine lv_ixor hx hb dL_law_63 ?_
          obtain ⟨h9, hf⟩ := zif_c hf
          obtain ⟨T10, eT10, hf⟩ := zl_i hf
          refine z_iast hx hb hK hP hG hS (zIA_8 (by decide)) (zin_i h9) dL_law_64 (fun H locs hP hS => ?_)
          rw [← eT10] at hP
          refine lv_aload_n hx hb dL_law_65 rfl (lv_at hl 2 rfl) ?_
          obtain ⟨v11, T12, h13, hf⟩ := zb_i hf
          refine z_ok (z_runS (As := [.ref (G 0 8)]) (rest := []) F kl_next ml_590 (c_L_next T10 T12 v11 h13) hP hS rfl rfl hl.1 (Nat.le_of_ble_eq_true rfl) dL_law_66 (Nat.le_of_ble_eq_true rfl) ⟨by omega, by omega⟩ rfl) hS (fun H locs hP hS => ?_)
          refine lv_bipush (v := 9) hx hb dL_law_69 (by decide) ?_
          refine lv_irem hx hb dL_law_71 (by decide) ?_
          obtain ⟨x14, ex14, hf⟩ := zl_i hf
          refine z_topi ex14 ?_
          refine lv_istore (lv' := [(5, .int x14), (0, .ref b), (1, .ref (G 0 0)), (2, .ref (G 0 8)), (4, .int u4)]) hx hb dL_law_72 hl (by decide) rfl (fun ls hl => ?_)
          refine lv_aload_n hx hb dL_law_74 rfl (lv_at hl 2 rfl) ?_
          refine lv_iconst (v := 1) hx hb dL_law_75 (by decide) ?_
          refine lv_aload_n hx hb dL_law_76 rfl (lv_at hl 3 rfl) ?_
          obtain ⟨v15, T16, h17, hf⟩ := zb_i hf
          refine z_ok (z_runS (As := [.ref (G 0 8)]) (rest := [.int 1, .ref (G 0 0)]) F kl_next ml_590 (c_L_next T12 T16 v15 h17) hP hS rfl rfl hl.1 (Nat.le_of_ble_eq_true rfl) dL_law_77 (Nat.le_of_ble_eq_true rfl) ⟨by omega, by omega⟩ rfl) hS (fun H locs hP hS => ?_)
          refine lv_iconst (v := 4) hx hb dL_law_80 (by decide) ?_
          refine lv_irem hx hb dL_law_81 (by decide) ?_
          refine lv_iadd hx hb dL_law_82 ?_
          refine lv_iload hx hb dL_law_83 (lv_at hl 0 rfl) ?_
          refine lv_aload_n hx hb dL_law_85 rfl (lv_at hl 3 rfl) ?_
          obtain ⟨x21, ex21, hf⟩ := zl_i hf
          rw [← ex21]
          obtain ⟨v18, T19, h20, hf⟩ := zb_i hf
          refine z_regload F XJ h20 hP hS hl.1 (Nat.le_of_ble_eq_true rfl) ⟨by omega, by omega⟩ dL_law_86 dL_law_89 (fun H locs hP hS => ?_)
          refine lv_iload hx hb dL_law_92 (lv_at hl 0 rfl) ?_
          obtain ⟨K24, eK24, hf⟩ := zl_i hf
          have J25 : ∀ (z32 : Int32) (T31 : zT) (H : Heap) (locs : List Loc) (ls : Array Slot), K24 z32 T31 = some o → zP 1 D Y G T31 H → va_S A s.heap H locs → lv_has ls 11 [(0, .ref b), (1, .ref (G 0 0)), (2, .ref (G 0 8)), (4, .int u4)] → W p l e (zR 11 mc ms) s m args below meth c H locs (cells + 163) (slots + 85321) Q (F0 m 111 ls [.int z32]) := by
            intro z32 T31 H locs ls hf hP hS hl
            rw [eK24] at hf
            dsimp only at hf
            refine lv_istore_n (lv' := [(3, .int z32), (0, .ref b), (1, .ref (G 0 0)), (2, .ref (G 0 8)), (4, .int u4)]) hx hb dL_law_111 rfl hl (by decide) rfl (fun ls hl => ?_)
            refine lv_aload_n hx hb dL_law_112 rfl (lv_at hl 2 rfl) ?_
            obtain ⟨v33, T34, h35, hf⟩ := zb_i hf
            obtain ⟨T36, eT36, hf⟩ := zl_i hf
            refine z_ok (z_runS (As := [.ref (G 0 0)]) (rest := []) F kl_sum ml_989 (((c_L_sum T31 T34 v33 h35).lift (by decide))) hP hS rfl rfl hl.1 (Nat.le_of_ble_eq_true rfl) dL_law_113 (Nat.le_of_ble_eq_true rfl) ⟨by omega, by omega⟩ rfl) hS (fun H locs hP hS => ?_)
            rw [← eT36] at hP
            refine lv_lstore (lv' := [(6, .long v33), (3, .int z32), (0, .ref b), (1, .ref (G 0 0)), (2, .ref (G 0 8)), (4, .int u4)]) hx hb dL_law_116 hl (by decide) rfl (fun ls hl => ?_)
            refine lv_iconst (v := 0) hx hb dL_law_118 (by decide) ?_
            refine lv_istore (lv' := [(8, .int 0), (6, .long v33), (3, .int z32), (0, .ref b), (1, .ref (G 0 0)), (2, .ref (G 0 8)), (4, .int u4)]) hx hb dL_law_119 hl (by decide) rfl (fun ls hl => ?_)
            obtain ⟨v110, T109, h111, hf⟩ := zb_i hf
            refine l_L_law_121 (ce := cells + 23995) (se := slots + 228313) ⟨(by omega), (by omega)⟩ F X XJ u4 v33 12 (cells + 259) (slots + 85897) z32 0 _ _ _ _ _ (by omega) (by omega) h111 hP hS (lv_sub hl [3, 4, 5, 2, 6, 1, 0] rfl) (fun H locs ls hP hS hl => ?_)
            refine lv_iload_n hx hb dL_law_297 rfl (lv_at hl 3 rfl) ?_
            refine lv_if_eq (tgt := 386) hx hb dL_law_298 (by decide) (fun hc => ?_) (fun hc => ?_)
            · have hf := zif_p hf hc
              obtain ⟨x112, ex112, hf⟩ := zl_i hf
              refine lv_iinc (v := x112) (lv' := [(4, .int x112), (0, .ref b), (1, .ref (G 0 0)), (2, .ref (G 0 8)), (3, .int v110.1), (6, .long v33), (8, .int v110.2)]) hx hb dL_law_386 hl (k := 4) rfl (by rw [ex112]; rfl) (by decide) rfl (fun ls hl => ?_)
              refine lv_goto (tgt := 34) hx hb dL_law_389 (by decide) ?_
              exact ih (cells + 23995) (slots + 228313) v110.1 x112 _ _ _ _ _ (by omega) (by omega) hf hP hS (lv_sub hl [1, 2, 3, 4, 0] rfl) k0_
            · have hf := zif_n hf hc
              refine lv_aload_n hx hb dL_law_301 rfl (lv_at hl 2 rfl) ?_
              obtain ⟨v113, T114, h115, hf⟩ := zb_i hf
              refine z_ok (z_runS (As := [.ref (G 0 8)]) (rest := []) F kl_next ml_590 (c_L_next T109 T114 v113 h115) hP hS rfl rfl hl.1 (Nat.le_of_ble_eq_true rfl) dL_law_302 (Nat.le_of_ble_eq_true rfl) ⟨by omega, by omega⟩ rfl) hS (fun H locs hP hS => ?_)
              refine lv_iconst (v := 2) hx hb dL_law_305 (by decide) ?_
              refine lv_irem hx hb dL_law_306 (by decide) ?_
              refine lv_if_ne (tgt := 386) hx hb dL_law_307 (by decide) (fun hc => ?_) (fun hc => ?_)
              · have hf := zif_n hf hc
                obtain ⟨x116, ex116, hf⟩ := zl_i hf
                refine lv_iinc (v := x116) (lv' := [(4, .int x116), (0, .ref b), (1, .ref (G 0 0)), (2, .ref (G 0 8)), (3, .int v110.1), (6, .long v33), (8, .int v110.2)]) hx hb dL_law_386 hl (k := 4) rfl (by rw [ex116]; rfl) (by decide) rfl (fun ls hl => ?_)
                refine lv_goto (tgt := 34) hx hb dL_law_389 (by decide) ?_
                exact ih (cells + 23995) (slots + 228313) v110.1 x116 _ _ _ _ _ (by omega) (by omega) hf hP hS (lv_sub hl [1, 2, 3, 4, 0] rfl) k0_
              · have hf := zif_p hf hc
                refine lv_aload_n hx hb dL_law_310 rfl (lv_at hl 1 rfl) ?_
                refine lv_iload hx hb dL_law_311 (lv_at hl 4 rfl) ?_
                obtain ⟨v117, T118, h119, hf⟩ := zbi_i hf
                obtain ⟨T120, eT120, hf⟩ := zl_i hf
                refine z_ok (z_runV (As := [.int u4]) (rest := []) F k_X3_restore ml_478 (((c_X3_restore u4 T114 T118 (.inl v117) h119).lift (by decide))) hP hS (zV_0 (by decide)) rfl rfl rfl rfl hl.1 (Nat.le_of_ble_eq_true rfl) dL_law_313 (Nat.le_of_ble_eq_true rfl) ⟨by omega, by omega⟩ rfl) hS (fun H locs hP hS => ?_)
                rw [← eT120] at hP
                obtain ⟨K123, eK123, hf⟩ := zl_i hf
                have J124 : ∀ (z131 : Int32) (T130 : zT) (H : Heap) (locs : List Loc) (ls : Array Slot), K123 z131 T130 = some o → zP 1 D Y G T130 H → va_S A s.heap H locs → lv_has ls 11 [(0, .ref b), (1, .ref (G 0 0)), (2, .ref (G 0 8)), (4, .int u4)] → W p l e (zR 11 mc ms) s m args below meth c H locs (cells + 24093) (slots + 228901) Q (F0 m 334 ls [.int z131]) := by
                  intro z131 T130 H locs ls hf hP hS hl
                  rw [eK123] at hf
                  dsimp only at hf
                  refine lv_istore_n (lv' := [(3, .int z131), (0, .ref b), (1, .ref (G 0 0)), (2, .ref (G 0 8)), (4, .int u4)]) hx hb dL_law_334 rfl hl (by decide) rfl (fun ls hl => ?_)
                  refine lv_aload_n hx hb dL_law_335 rfl (lv_at hl 2 rfl) ?_
                  obtain ⟨v132, T133, h134, hf⟩ := zb_i hf
                  obtain ⟨T135, eT135, hf⟩ := zl_i hf
                  refine z_ok (z_runS (As := [.ref (G 0 0)]) (rest := []) F kl_sum ml_989 (((c_L_sum T130 T133 v132 h134).lift (by decide))) hP hS rfl rfl hl.1 (Nat.le_of_ble_eq_true rfl) dL_law_336 (Nat.le_of_ble_eq_true rfl) ⟨by omega, by omega⟩ rfl) hS (fun H locs hP hS => ?_)
                  rw [← eT135] at hP
                  refine lv_lstore (lv' := [(8, .long v132), (3, .int z131), (0, .ref b), (1, .ref (G 0 0)), (2, .ref (G 0 8)), (4, .int u4)]) hx hb dL_law_339 hl (by decide) rfl (fun ls hl => ?_)
                  refine lv_iload_n hx hb dL_law_341 rfl (lv_at hl 1 rfl) ?_
                  obtain ⟨K136, eK136, hf⟩ := zl_i hf
                  have J137 : ∀ (T155 : zT) (H : Heap) (locs : List Loc) (ls : Array Slot), K136 T155 = some o → zP 1 D Y G T155 H → va_S A s.heap H locs → lv_has ls 11 [(0, .ref b), (1, .ref (G 0 0)), (2, .ref (G 0 8)), (4, .int u4)] → W p l e (zR 11 mc ms) s m args below meth c H locs (cells + 24383) (slots + 230641) Q (F0 m 384 ls []) := by
                    intro T155 H locs ls hf hP hS hl
                    rw [eK136] at hf
                    dsimp only at hf
                    refine lv_iconst (v := 0) hx hb dL_law_384 (by decide) ?_
                    refine lv_istore_n (lv' := [(3, .int 0), (0, .ref b), (1, .ref (G 0 0)), (2, .ref (G 0 8)), (4, .int u4)]) hx hb dL_law_385 rfl hl (by decide) rfl (fun ls hl => ?_)
                    obtain ⟨x156, ex156, hf⟩ := zl_i hf
                    refine lv_iinc (v := x156) (lv' := [(4, .int x156), (3, .int 0), (0, .ref b), (1, .ref (G 0 0)), (2, .ref (G 0 8))]) hx hb dL_law_386 hl (k := 4) rfl (by rw [ex156]; rfl) (by decide) rfl (fun ls hl => ?_)
                    refine lv_goto (tgt := 34) hx hb dL_law_389 (by decide) ?_
                    exact ih (cells + 24383) (slots + 230641) 0 x156 _ _ _ _ _ (by omega) (by omega) hf hP hS (lv_sub hl [2, 3, 4, 1, 0] rfl) k0_
                  refine lv_if_eq (tgt := 384) hx hb dL_law_342 (by decide) (fun hc => ?_) (fun hc => ?_)
                  · have hf := zif_p hf hc
                    refine W.widen (k := cells + 24383) (n := slots + 230641) (by omega) (by omega) ?_
                    exact J137 T135 _ _ _ hf hP hS (lv_sub hl [2, 3, 4, 5] rfl)
                  · have hf := zif_n hf hc
                    refine lv_aload_n hx hb dL_law_345 rfl (lv_at hl 3 rfl) ?_
                    refine lv_iconst (v := 1) hx hb dL_law_346 (by decide) ?_
                    obtain ⟨v138, T139, h140, hf⟩ := zb_i hf
                    obtain ⟨T141, eT141, hf⟩ := zl_i hf
                    refine z_ok (z_runSW (As := [.ref (G 0 0), .int 1]) (rest := []) F kl_bought ml_720 ((c_L_bought 1 T135 T139 v138 h140).lift (by decide)) hP hS rfl rfl hl.1 (Nat.le_of_ble_eq_true rfl) dL_law_347 (Nat.le_of_ble_eq_true rfl) ⟨by omega, by omega⟩ rfl) hS (fun H locs hP hS => ?_)
                    rw [← eT141] at hP
                    refine lv_if_le (tgt := 384) hx hb dL_law_350 (by decide) (fun hc => ?_) (fun hc => ?_)
                    · have hf := zif_p hf hc
                      refine W.widen (k := cells + 24383) (n := slots + 230641) (by omega) (by omega) ?_
                      exact J137 T141 _ _ _ hf hP hS (lv_sub hl [2, 3, 4, 5] rfl)
                    · have hf := zif_n hf hc
                      refine lv_aload_n hx hb dL_law_353 rfl (lv_at hl 3 rfl) ?_
                      obtain ⟨v142, T143, h144, hf⟩ := zb_i hf
                      obtain ⟨T145, eT145, hf⟩ := zl_i hf
                      refine z_ok (z_runS (As := [.ref (G 0 0)]) (rest := []) F kl_sum ml_989 (((c_L_sum T141 T143 v142 h144).lift (by decide))) hP hS rfl rfl hl.1 (Nat.le_of_ble_eq_true rfl) dL_law_354 (Nat.le_of_ble_eq_true rfl) ⟨by omega, by omega⟩ rfl) hS (fun H locs hP hS => ?_)
                      rw [← eT145] at hP
                      refine lv_lload hx hb dL_law_357 (lv_at hl 0 rfl) ?_
                      refine W.lcmp hx hb dL_law_359 ?_
                      refine lv_if_eq (tgt := 384) hx hb dL_law_360 (by decide) (fun hc => ?_) (fun hc => ?_)
                      · have hf := zif_p hf hc
                        refine W.widen (k := cells + 24383) (n := slots + 230641) (by omega) (by omega) ?_
                        exact J137 T145 _ _ _ hf hP hS (lv_sub hl [2, 3, 4, 5] rfl)
                      · have hf := zif_n hf hc
                        refine lv_aload_n hx hb dL_law_363 rfl (lv_at hl 3 rfl) ?_
                        obtain ⟨v146, T147, h148, hf⟩ := zb_i hf
                        obtain ⟨T149, eT149, hf⟩ := zl_i hf
                        refine z_ok (z_runSW (As := [.ref (G 0 0)]) (rest := []) F kl_undone ml_638 ((c_L_undone T145 T147 v146 h148).lift (by decide)) hP hS rfl rfl hl.1 (Nat.le_of_ble_eq_true rfl) dL_law_364 (Nat.le_of_ble_eq_true rfl) ⟨by omega, by omega⟩ rfl) hS (fun H locs hP hS => ?_)
                        rw [← eT149] at hP
                        refine lv_if_lt (tgt := 384) hx hb dL_law_367 (by decide) (fun hc => ?_) (fun hc => ?_)
                        · have hf := zif_p hf hc
                          refine W.widen (k := cells + 24383) (n := slots + 230641) (by omega) (by omega) ?_
                          exact J137 T149 _ _ _ hf hP hS (lv_sub hl [2, 3, 4, 5] rfl)
                        · have hf := zif_n hf hc
                          refine lv_aload_n hx hb dL_law_370 rfl (lv_at hl 3 rfl) ?_
                          obtain ⟨v150, T151, h152, hf⟩ := zb_i hf
                          obtain ⟨T153, eT153, hf⟩ := zl_i hf
                          refine z_ok (z_runS (As := [.ref (G 0 0)]) (rest := []) F kl_sum ml_989 (((c_L_sum T149 T151 v150 h152).lift (by decide))) hP hS rfl rfl hl.1 (Nat.le_of_ble_eq_true rfl) dL_law_371 (Nat.le_of_ble_eq_true rfl) ⟨by omega, by omega⟩ rfl) hS (fun H locs hP hS => ?_)
                          rw [← eT153] at hP
                          refine lv_lload hx hb dL_law_374 (lv_at hl 0 rfl) ?_
                          refine W.lcmp hx hb dL_law_376 ?_
                          refine lv_if_ne (tgt := 384) hx hb dL_law_377 (by decide) (fun hc => ?_) (fun hc => ?_)
                          · have hf := zif_n hf hc
                            refine W.widen (k := cells + 24383) (n := slots + 230641) (by omega) (by omega) ?_
                            exact J137 T153 _ _ _ hf hP hS (lv_sub hl [2, 3, 4, 5] rfl)
                          · have hf := zif_p hf hc
                            refine lv_iconst (v := 1) hx hb dL_law_380 (by decide) ?_
                            refine lv_goto (tgt := 385) hx hb dL_law_381 (by decide) ?_
                            refine lv_istore_n (lv' := [(3, .int 1), (8, .long v132), (0, .ref b), (1, .ref (G 0 0)), (2, .ref (G 0 8)), (4, .int u4)]) hx hb dL_law_385 rfl hl (by decide) rfl (fun ls hl => ?_)
                            obtain ⟨x154, ex154, hf⟩ := zl_i hf
                            refine lv_iinc (v := x154) (lv' := [(4, .int x154), (3, .int 1), (8, .long v132), (0, .ref b), (1, .ref (G 0 0)), (2, .ref (G 0 8))]) hx hb dL_law_386 hl (k := 5) rfl (by rw [ex154]; rfl) (by decide) rfl (fun ls hl => ?_)
                            refine lv_goto (tgt := 34) hx hb dL_law_389 (by decide) ?_
                            exact ih (cells + 24383) (slots + 230641) 1 x154 _ _ _ _ _ (by omega) (by omega) hf hP hS (lv_sub hl [3, 4, 5, 1, 0] rfl) k0_
                obtain ⟨K121, eK121, hf⟩ := zl_i hf
                have J122 : ∀ (T129 : zT) (H : Heap) (locs : List Loc) (ls : Array Slot), K121 T129 = some o → zP 1 D Y G T129 H → va_S A s.heap H locs → lv_has ls 11 [(0, .ref b), (1, .ref (G 0 0)), (2, .ref (G 0 8)), (4, .int u4)] → W p l e (zR 11 mc ms) s m args below meth c H locs (cells + 24093) (slots + 228901) Q (F0 m 333 ls []) := by
                  intro T129 H locs ls hf hP hS hl
                  rw [eK121] at hf
                  dsimp only at hf
                  refine lv_iconst (v := 0) hx hb dL_law_333 (by decide) ?_
                  refine W.widen (k := cells + 24093) (n := slots + 228901) (by omega) (by omega) ?_
                  exact J124 0 T129 _ _ _ hf hP hS (lv_sub hl [0, 1, 2, 3] rfl)
                refine lv_if_ne (tgt := 333) hx hb dL_law_316 (by decide) (fun hc => ?_) (fun hc => ?_)
                · have hf := zif_n hf hc
                  refine W.widen (k := cells + 24093) (n := slots + 228901) (by omega) (by omega) ?_
                  exact J122 T120 _ _ _ hf hP hS (lv_sub hl [0, 1, 2, 4] rfl)
                · have hf := zif_p hf hc
                  refine lv_aload_n hx hb dL_law_319 rfl (lv_at hl 1 rfl) ?_
                  obtain ⟨v125, T126, h127, hf⟩ := zb_i hf
                  obtain ⟨T128, eT128, hf⟩ := zl_i hf
                  refine z_ok (z_runS (As := [.ref (G 0 0)]) (rest := []) F kl_sum ml_989 (((c_L_sum T120 T126 v125 h127).lift (by decide))) hP hS rfl rfl hl.1 (Nat.le_of_ble_eq_true rfl) dL_law_320 (Nat.le_of_ble_eq_true rfl) ⟨by omega, by omega⟩ rfl) hS (fun H locs hP hS => ?_)
                  rw [← eT128] at hP
                  refine lv_lload hx hb dL_law_323 (lv_at hl 5 rfl) ?_
                  refine W.lcmp hx hb dL_law_325 ?_
                  refine lv_if_ne (tgt := 333) hx hb dL_law_326 (by decide) (fun hc => ?_) (fun hc => ?_)
                  · have hf := zif_n hf hc
                    refine W.widen (k := cells + 24093) (n := slots + 228901) (by omega) (by omega) ?_
                    exact J122 T128 _ _ _ hf hP hS (lv_sub hl [0, 1, 2, 4] rfl)
                  · have hf := zif_p hf hc
                    refine lv_iconst (v := 1) hx hb dL_law_329 (by decide) ?_
                    refine lv_goto (tgt := 334) hx hb dL_law_330 (by decide) ?_
                    refine W.widen (k := cells + 24093) (n := slots + 228901) (by omega) (by omega) ?_
                    exact J124 1 T128 _ _ _ hf hP hS (lv_sub hl [0, 1, 2, 4] rfl)
          obtain ⟨K22, eK22, hf⟩ := zl_i hf
          have J23 : ∀ (T30 : zT) (H : Heap) (locs : List Loc) (ls : Array Slot), K22 T30 = some o → zP 1 D Y G T30 H → va_S A s.heap H locs → lv_has ls 11 [(0, .ref b), (1, .ref (G 0 0)), (2, .ref (G 0 8)), (4, .int u4)] → W p l e (zR 11 mc ms) s m args below meth c H locs (cells + 163) (slots + 85321) Q (F0 m 110 ls []) := by
            intro T30 H locs ls hf hP hS hl
            rw [eK22] at hf
            dsimp only at hf
            refine lv_iconst (v := 0) hx hb dL_law_110 (by decide) ?_
            refine W.widen (k := cells + 163) (n := slots + 85321) (by omega) (by omega) ?_
            exact J25 0 T30 _ _ _ hf hP hS (lv_sub hl [0, 1, 2, 3] rfl)
          refine lv_icmp_ne (tgt := 110) hx hb dL_law_94 (by decide) (fun hc => ?_) (fun hc => ?_)
          · have hf := zif_n hf hc
            refine W.widen (k := cells + 163) (n := slots + 85321) (by omega) (by omega) ?_
            exact J23 T19 _ _ _ hf hP hS (lv_sub hl [1, 2, 3, 4] rfl)
          · have hf := zif_p hf hc
            refine lv_aload_n hx hb dL_law_97 rfl (lv_at hl 2 rfl) ?_
            refine lv_iload hx hb dL_law_98 (lv_at hl 4 rfl) ?_
            obtain ⟨v26, T27, h28, hf⟩ := zbi_i hf
            obtain ⟨T29, eT29, hf⟩ := zl_i hf
            refine z_ok (z_runV (As := [.int u4]) (rest := []) F k_X3_save ml_586 (((c_X3_save u4 T19 T27 (.inl v26) h28).lift (by decide))) hP hS (zV_0 (by decide)) rfl rfl rfl rfl hl.1 (Nat.le_of_ble_eq_true rfl) dL_law_100 (Nat.le_of_ble_eq_true rfl) ⟨by omega, by omega⟩ rfl) hS (fun H locs hP hS => ?_)
            rw [← eT29] at hP
            refine lv_if_ne (tgt := 110) hx hb dL_law_103 (by decide) (fun hc => ?_) (fun hc => ?_)
            · have hf := zif_n hf hc
              refine W.widen (k := cells + 163) (n := slots + 85321) (by omega) (by omega) ?_
              exact J23 T29 _ _ _ hf hP hS (lv_sub hl [1, 2, 3, 4] rfl)
            · have hf := zif_p hf hc
              refine lv_iconst (v := 1) hx hb dL_law_106 (by decide) ?_
              refine lv_goto (tgt := 111) hx hb dL_law_107 (by decide) ?_
              refine W.widen (k := cells + 163) (n := slots + 85321) (by omega) (by omega) ?_
              exact J25 1 T29 _ _ _ hf hP hS (lv_sub hl [1, 2, 3, 4] rfl)
        refine lv_icmp_ge (tgt := 62) hx hb dL_law_52 (by decide) (fun hc => ?_) (fun hc => ?_)
        · have hf := zif_p hf hc
          refine lv_iconst (v := 0) hx hb dL_law_62 (by decide) ?_
          refine W.widen (k := cells + 0) (n := slots + 0) (by omega) (by omega) ?_
          exact J3 0 (T.2 0 8 0) 0 T _ _ _ hf hP hS (lv_sub hl [0, 1, 2, 4] rfl)
        · have hf := zif_n hf hc
          refine lv_aload_n hx hb dL_law_55 rfl (lv_at hl 0 rfl) ?_
          refine lv_iload hx hb dL_law_56 (lv_at hl 4 rfl) ?_
          obtain ⟨h4, hf⟩ := zif_c hf
          refine va_sld hx hb X.1 X.2.1 X.2.2 hS (zin_i h4) dL_law_58 ?_
          refine lv_goto (tgt := 63) hx hb dL_law_59 (by decide) ?_
          refine W.widen (k := cells + 0) (n := slots + 0) (by omega) (by omega) ?_
          exact J3 0 (T.2 0 8 0) (xs u4.toNatClampNeg) T _ _ _ hf hP hS (lv_sub hl [0, 1, 2, 4] rfl)
set_option maxHeartbeats 8000000 in
set_option maxRecDepth 100000 in
theorem r_L_law {p : Program} {l : Launch} {e : Env} {s : State} {m : MethodId} {args : Array Value} {below : List Frame} {meth : Method} {c : Code} {Q : State → Prop} {D : va_G} {Y : Nat → ClassId} {S V : Nat → Nat} {G : Nat → Nat → Nat} {A : Nat → Prop} {c0 : Cond} {mc ms : Nat} {b L : Nat} {xs : Nat → Int32} {ce se : Nat} (hcm : ce ≤ mc ∧ se ≤ ms) (F : zF 1 11 mc ms p l s m args c cL_law 11 RL c0 D Y S V G A) (X : va_X b L xs s s.heap ∧ b < s.heap.size ∧ ¬ A b) (XJ : zJk A s s.heap) (cells slots : Nat) (T : zT) {T' : zT} {v : Int32} {H : Heap} {locs : List Loc} {ls : Array Slot} (hc1 : cells + 73149 ≤ ce) (hc2 : slots + 691923 ≤ se) (hf : rg_L_law b L xs T = some (v, T')) (hP : zP 1 D Y G T H) (hS : va_S A s.heap H locs) (hl : lv_has ls 11 [(0, .ref b), (1, .ref (G 0 0)), (2, .ref (G 0 8))])
    (k0_ : ∀ (H : Heap) (locs : List Loc) (ls : Array Slot), zP 1 D Y G T' H → va_S A s.heap H locs → lv_has ls 11 [] → W p l e (zR 11 mc ms) s m args below meth c H locs ce se Q (F0 m 393 ls [.int v])) :
    W p l e (zR 11 mc ms) s m args below meth c H locs cells slots Q (F0 m 29 ls []) := by
  obtain ⟨hx, hb, hml, hown, hts, hl9, hG, hK, hA⟩ := id F
  unfold rg_L_law at hf
  refine lv_iconst (v := 1) hx hb dL_law_29 (by decide) ?_
  refine lv_istore_n (lv' := [(3, .int 1), (0, .ref b), (1, .ref (G 0 0)), (2, .ref (G 0 8))]) hx hb dL_law_30 rfl hl (by decide) rfl (fun ls hl => ?_)
  refine lv_iconst (v := 0) hx hb dL_law_31 (by decide) ?_
  refine lv_istore (lv' := [(4, .int 0), (3, .int 1), (0, .ref b), (1, .ref (G 0 0)), (2, .ref (G 0 8))]) hx hb dL_law_32 hl (by decide) rfl (fun ls hl => ?_)
  obtain ⟨v158, T157, h159, hf⟩ := zb_i hf
  refine l_L_law_34 (ce := cells + 73149) (se := slots + 691923) ⟨(by omega), (by omega)⟩ F X XJ  3 (cells + 0) (slots + 0) 1 0 _ _ _ _ _ (by omega) (by omega) h159 hP hS (lv_sub hl [2, 3, 4, 1, 0] rfl) (fun H locs ls hP hS hl => ?_)
  refine lv_iload_n hx hb dL_law_392 rfl (lv_at hl 3 rfl) ?_
  obtain ⟨q1, q2⟩ := zs_i hf
  subst q1; subst q2
  refine W.widen (k := ce) (n := se) (by omega) (by omega) ?_
  exact k0_ _ _ _ hP hS (lv_sub hl [] rfl)
