/-! THE JDK'S OWN METHODS over texts, by program: letters read -/
theorem mj_229 : Cond.methodLink RJ0 492 yJ0_isLatin1_aae02 ∈ zWS := zws_in 229 (by decide +kernel) (by decide +kernel)
theorem mj_233 : Cond.methodLink RJ0 495 yJ1_charAt_3b067 ∈ zWS := zws_in 233 (by decide +kernel) (by decide +kernel)
theorem mj_236 : Cond.methodLink RJ1 9 yJ0_checkIndex_df160 ∈ zWS := zws_in 236 (by decide +kernel) (by decide +kernel)
theorem mj_239 : Cond.fieldLink RJ0 1053 "jdk/internal/util/Preconditions" "SIOOBE_FORMATTER" "Ljava/util/function/BiFunction;" ∈ zWS := zws_in 239 (by decide +kernel) (by decide +kernel)
theorem mj_241 : Cond.methodLink RJ0 1059 yJ3_checkIndex_8e157 ∈ zWS := zws_in 241 (by decide +kernel) (by decide +kernel)
theorem kj_J0_checkIndex_df160 : zcas yJ0_checkIndex_df160 cJ0_checkIndex_df160 2 none 2 := ⟨zws_in 237 (by decide +kernel) (by decide +kernel), zws_in 35 (by decide +kernel) (by decide +kernel), zws_in 238 (by decide +kernel) (by decide +kernel), ⟨by decide +kernel, by decide +kernel⟩, by decide +kernel, by decide⟩
theorem kj_J0_isLatin1_aae02 : zcal yJ0_isLatin1_aae02 cJ0_isLatin1_aae02 1 (some .boolean) 0 := ⟨zws_in 230 (by decide +kernel) (by decide +kernel), zws_in 231 (by decide +kernel) (by decide +kernel), zws_in 35 (by decide +kernel) (by decide +kernel), zws_in 232 (by decide +kernel) (by decide +kernel), ⟨by decide +kernel, by decide +kernel⟩, by decide +kernel, by decide⟩
theorem kj_J1_charAt_3b067 : zcas yJ1_charAt_3b067 cJ1_charAt_3b067 2 (some .char) 2 := ⟨zws_in 234 (by decide +kernel) (by decide +kernel), zws_in 36 (by decide +kernel) (by decide +kernel), zws_in 235 (by decide +kernel) (by decide +kernel), ⟨by decide +kernel, by decide +kernel⟩, by decide +kernel, by decide⟩
theorem kj_J3_checkIndex_8e157 : zcas yJ3_checkIndex_8e157 cJ3_checkIndex_8e157 3 (some .int) 3 := ⟨zws_in 242 (by decide +kernel) (by decide +kernel), zws_in 37 (by decide +kernel) (by decide +kernel), zws_in 243 (by decide +kernel) (by decide +kernel), ⟨by decide +kernel, by decide +kernel⟩, by decide +kernel, by decide⟩
theorem zand {x : Nat} (h : x < 128) : nI x &&& 255 = nI x := by
  have := (sb_byte x (by omega)).1
  rwa [show sb_b x = nI x from zsmall h] at this
theorem zi2c {x : Nat} (h : x < 128) : ((nI x).toUInt32 % 65536).toInt32 = nI x := (sb_byte x (by omega)).2.1
theorem znarc {x : Nat} (h : x < 128) : narrow .char (.int (nI x)) = .int (nI x) := by
  have h3 := sc_nar (nI x)
  rwa [zand h] at h3
set_option maxHeartbeats 4000000 in
set_option maxRecDepth 100000 in
theorem cj_J3_checkIndex_8e157_n (l : Launch) (hfl : l.flags = flags0) (D : va_G) (Y : Nat → ClassId) (S V : Nat → Nat) (A : Nat → Prop) (k n : Nat) (h1 : k < n) (h2 : n < 65536) : zMJ l yJ3_checkIndex_8e157 cJ3_checkIndex_8e157 3 (some .int) 0 0 0 D Y S V A [.int (nI k), .int (nI n), .null] (fun _ => True) (fun v _ => v = some (.int (nI k))) := by
  refine zMJ.ofW hfl (by decide) (fun p e s m args below meth c ha F hr hlocks hin hP => ?_)
  subst ha
  obtain ⟨hx, hb, hml, hown, hts, hl9, hJ, hA⟩ := id F
  have ok : ∀ w ∈ zWS, w.before ([.int (nI k), .int (nI n), .null] : List Value).toArray s = true := fun w h => hts w (List.mem_cons_of_mem _ h)
  have hK := hJ.1
  have hS : va_S A s.heap s.heap [] := va_S.rf
  have hl := lv_entry ([.int (nI k), .int (nI n), .null]) (n := 3) (Nat.le_of_ble_eq_true rfl)
  rw [lg_entry_eq]
  generalize (lg_sl ([.int (nI k), .int (nI n), .null]) ++ List.replicate (3 - (lg_sl ([.int (nI k), .int (nI n), .null])).length) Slot.unset).toArray = ls at hl ⊢
  have hl : lv_has ls 3 [(0, .int (nI k)), (1, .int (nI n)), (2, .null)] := hl
  refine lv_iload_n hx hb dJ3_checkIndex_8e157_0 rfl (lv_at hl 0 rfl) ?_
  refine lv_if_lt (tgt := 9) hx hb dJ3_checkIndex_8e157_1 (by decide) (fun hc => absurd hc (nI_pos (by omega))) (fun hc => ?_)
  refine lv_iload_n hx hb dJ3_checkIndex_8e157_4 rfl (lv_at hl 0 rfl) ?_
  refine lv_iload_n hx hb dJ3_checkIndex_8e157_5 rfl (lv_at hl 1 rfl) ?_
  refine lv_icmp_lt (tgt := 16) hx hb dJ3_checkIndex_8e157_6 (by decide) (fun hc => ?_) (fun hc => absurd (nI_lt h1 (by omega)) hc)
  refine lv_iload_n hx hb dJ3_checkIndex_8e157_16 rfl (lv_at hl 0 rfl) ?_
  exact z_jiret hx hb hr rfl hS hlocks (Nat.le_of_ble_eq_true rfl) (Nat.le_of_ble_eq_true rfl) dJ3_checkIndex_8e157_17

set_option maxHeartbeats 4000000 in
set_option maxRecDepth 100000 in
theorem cj_J3_checkIndex_8e157_r (l : Launch) (hfl : l.flags = flags0) (D : va_G) (Y : Nat → ClassId) (S V : Nat → Nat) (A : Nat → Prop) (k n : Nat) (q : Nat) (h1 : k < n) (h2 : n < 65536) : zMJ l yJ3_checkIndex_8e157 cJ3_checkIndex_8e157 3 (some .int) 0 0 0 D Y S V A [.int (nI k), .int (nI n), .ref q] (fun _ => True) (fun v _ => v = some (.int (nI k))) := by
  refine zMJ.ofW hfl (by decide) (fun p e s m args below meth c ha F hr hlocks hin hP => ?_)
  subst ha
  obtain ⟨hx, hb, hml, hown, hts, hl9, hJ, hA⟩ := id F
  have ok : ∀ w ∈ zWS, w.before ([.int (nI k), .int (nI n), .ref q] : List Value).toArray s = true := fun w h => hts w (List.mem_cons_of_mem _ h)
  have hK := hJ.1
  have hS : va_S A s.heap s.heap [] := va_S.rf
  have hl := lv_entry ([.int (nI k), .int (nI n), .ref q]) (n := 3) (Nat.le_of_ble_eq_true rfl)
  rw [lg_entry_eq]
  generalize (lg_sl ([.int (nI k), .int (nI n), .ref q]) ++ List.replicate (3 - (lg_sl ([.int (nI k), .int (nI n), .ref q])).length) Slot.unset).toArray = ls at hl ⊢
  have hl : lv_has ls 3 [(0, .int (nI k)), (1, .int (nI n)), (2, .ref q)] := hl
  refine lv_iload_n hx hb dJ3_checkIndex_8e157_0 rfl (lv_at hl 0 rfl) ?_
  refine lv_if_lt (tgt := 9) hx hb dJ3_checkIndex_8e157_1 (by decide) (fun hc => absurd hc (nI_pos (by omega))) (fun hc => ?_)
  refine lv_iload_n hx hb dJ3_checkIndex_8e157_4 rfl (lv_at hl 0 rfl) ?_
  refine lv_iload_n hx hb dJ3_checkIndex_8e157_5 rfl (lv_at hl 1 rfl) ?_
  refine lv_icmp_lt (tgt := 16) hx hb dJ3_checkIndex_8e157_6 (by decide) (fun hc => ?_) (fun hc => absurd (nI_lt h1 (by omega)) hc)
  refine lv_iload_n hx hb dJ3_checkIndex_8e157_16 rfl (lv_at hl 0 rfl) ?_
  exact z_jiret hx hb hr rfl hS hlocks (Nat.le_of_ble_eq_true rfl) (Nat.le_of_ble_eq_true rfl) dJ3_checkIndex_8e157_17

set_option maxHeartbeats 4000000 in
set_option maxRecDepth 100000 in
theorem cj_J0_checkIndex_df160 (l : Launch) (hfl : l.flags = flags0) (D : va_G) (Y : Nat → ClassId) (S V : Nat → Nat) (A : Nat → Prop) (k n : Nat) (h1 : k < n) (h2 : n < 65536) : zMJ l yJ0_checkIndex_df160 cJ0_checkIndex_df160 2 none 1 0 0 D Y S V A [.int (nI k), .int (nI n)] (fun _ => True) (fun v _ => v = none) := by
  refine zMJ.ofW hfl (by decide) (fun p e s m args below meth c ha F hr hlocks hin hP => ?_)
  subst ha
  obtain ⟨hx, hb, hml, hown, hts, hl9, hJ, hA⟩ := id F
  have ok : ∀ w ∈ zWS, w.before ([.int (nI k), .int (nI n)] : List Value).toArray s = true := fun w h => hts w (List.mem_cons_of_mem _ h)
  have hK := hJ.1
  have hS : va_S A s.heap s.heap [] := va_S.rf
  have hl := lv_entry ([.int (nI k), .int (nI n)]) (n := 2) (Nat.le_of_ble_eq_true rfl)
  rw [lg_entry_eq]
  generalize (lg_sl ([.int (nI k), .int (nI n)]) ++ List.replicate (2 - (lg_sl ([.int (nI k), .int (nI n)])).length) Slot.unset).toArray = ls at hl ⊢
  have hl : lv_has ls 2 [(0, .int (nI k)), (1, .int (nI n))] := hl
  refine lv_iload_n hx hb dJ0_checkIndex_df160_0 rfl (lv_at hl 0 rfl) ?_
  refine lv_iload_n hx hb dJ0_checkIndex_df160_1 rfl (lv_at hl 1 rfl) ?_
  rcases hK.2.2.2.2.2.2.2.1 with hZ | ⟨q, hZ⟩
  · skip
    refine va_gets hx hb hZ hS hown (ok _ mj_239) (fun _ h => h) dJ0_checkIndex_df160_2 ?_
    refine z_jS (As := [.int (nI k), .int (nI n), .null]) (rest := []) F kj_J3_checkIndex_8e157 mj_241 (cj_J3_checkIndex_8e157_n l hfl D Y S V (fun q => _ ≤ q) k n h1 h2) (fun _ _ _ _ h => h) (fun U hU _ => trivial) hS (fun q h => hA q (Nat.le_trans hS.1 h)) (fun _ h => h) rfl rfl hl.1 (Nat.le_of_ble_eq_true rfl) dJ0_checkIndex_df160_5 (Nat.le_of_ble_eq_true rfl) ⟨(Nat.le_of_ble_eq_true rfl), (Nat.le_of_ble_eq_true rfl)⟩ rfl (fun v H1 locs hp hz hk hS => ?_)
    subst hp
    refine lv_pop hx hb dJ0_checkIndex_df160_8 rfl ?_
    exact z_jvret hx hb hr rfl hS hlocks (Nat.le_of_ble_eq_true rfl) (Nat.le_of_ble_eq_true rfl) dJ0_checkIndex_df160_9
  · skip
    refine va_gets hx hb hZ hS hown (ok _ mj_239) (fun _ h => h) dJ0_checkIndex_df160_2 ?_
    refine z_jS (As := [.int (nI k), .int (nI n), .ref q]) (rest := []) F kj_J3_checkIndex_8e157 mj_241 (cj_J3_checkIndex_8e157_r l hfl D Y S V (fun q => _ ≤ q) k n q h1 h2) (fun _ _ _ _ h => h) (fun U hU _ => trivial) hS (fun q h => hA q (Nat.le_trans hS.1 h)) (fun _ h => h) rfl rfl hl.1 (Nat.le_of_ble_eq_true rfl) dJ0_checkIndex_df160_5 (Nat.le_of_ble_eq_true rfl) ⟨(Nat.le_of_ble_eq_true rfl), (Nat.le_of_ble_eq_true rfl)⟩ rfl (fun v H1 locs hp hz hk hS => ?_)
    subst hp
    refine lv_pop hx hb dJ0_checkIndex_df160_8 rfl ?_
    exact z_jvret hx hb hr rfl hS hlocks (Nat.le_of_ble_eq_true rfl) (Nat.le_of_ble_eq_true rfl) dJ0_checkIndex_df160_9

set_option maxHeartbeats 4000000 in
set_option maxRecDepth 100000 in
theorem cj_J1_charAt_3b067 (l : Launch) (hfl : l.flags = flags0) (D : va_G) (Y : Nat → ClassId) (S V : Nat → Nat) (A : Nat → Prop) (qs vs len : Nat) (byt : Nat → Int32) (k x : Nat) (h1 : k < len) (h2 : len ≤ 300) (h3 : byt k = nI x) (h4 : x < 128) : zMJ l yJ1_charAt_3b067 cJ1_charAt_3b067 2 (some .char) 2 0 0 D Y S V A [.ref vs, .int (nI k)] (fun U => True ∧ zS1 (len) (byt) (qs) (vs) A U U.heap) (fun v _ => v = some (.int (nI x))) := by
  refine zMJ.ofW hfl (by decide) (fun p e s m args below meth c ha F hr hlocks hin hP => ?_)
  subst ha
  obtain ⟨hx, hb, hml, hown, hts, hl9, hJ, hA⟩ := id F
  have ok : ∀ w ∈ zWS, w.before ([.ref vs, .int (nI k)] : List Value).toArray s = true := fun w h => hts w (List.mem_cons_of_mem _ h)
  have hK := hJ.1
  have hS : va_S A s.heap s.heap [] := va_S.rf
  have hl := lv_entry ([.ref vs, .int (nI k)]) (n := 2) (Nat.le_of_ble_eq_true rfl)
  rw [lg_entry_eq]
  generalize (lg_sl ([.ref vs, .int (nI k)]) ++ List.replicate (2 - (lg_sl ([.ref vs, .int (nI k)])).length) Slot.unset).toArray = ls at hl ⊢
  have hl : lv_has ls 2 [(0, .ref vs), (1, .int (nI k))] := hl
  obtain ⟨hP, hX⟩ := hP
  refine lv_iload_n hx hb dJ1_charAt_3b067_0 rfl (lv_at hl 1 rfl) ?_
  refine lv_aload_n hx hb dJ1_charAt_3b067_1 rfl (lv_at hl 0 rfl) ?_
  refine va_tlen (v := nI len) hx hb hX.2.2.2 hS rfl dJ1_charAt_3b067_2 ?_
  refine z_jS (As := [.int (nI k), .int (nI len)]) (rest := []) F kj_J0_checkIndex_df160 mj_236 (cj_J0_checkIndex_df160 l hfl D Y S V (fun q => _ ≤ q) k len h1 (by omega)) (fun _ _ _ _ h => h) (fun U hU _ => trivial) hS (fun q h => hA q (Nat.le_trans hS.1 h)) (fun _ h => h) rfl rfl hl.1 (Nat.le_of_ble_eq_true rfl) dJ1_charAt_3b067_3 (Nat.le_of_ble_eq_true rfl) ⟨(Nat.le_of_ble_eq_true rfl), (Nat.le_of_ble_eq_true rfl)⟩ rfl (fun v H1 locs hp hz hk hS => ?_)
  subst hp
  refine lv_aload_n hx hb dJ1_charAt_3b067_6 rfl (lv_at hl 0 rfl) ?_
  refine lv_iload_n hx hb dJ1_charAt_3b067_7 rfl (lv_at hl 1 rfl) ?_
  refine va_tb (v := .int (nI x)) hx hb hX.2.2.2 hS (nI_in h1 (by omega)) ((congrArg (fun z => Value.int (byt z)) (nI_clamp (by omega))).trans (congrArg Value.int h3)) dJ1_charAt_3b067_8 ?_
  refine lv_sipush (v := 255) hx hb dJ1_charAt_3b067_9 (by decide) ?_
  refine lv_iand hx hb dJ1_charAt_3b067_12 ?_
  refine z_topi (x := (nI x)) (zand h4).symm ?_
  refine lv_i2c (v := nI x) hx hb dJ1_charAt_3b067_13 (zi2c h4) ?_
  exact z_jnret hx hb hr (znarc h4) rfl hS hlocks (Nat.le_of_ble_eq_true rfl) (Nat.le_of_ble_eq_true rfl) dJ1_charAt_3b067_14

set_option maxHeartbeats 4000000 in
set_option maxRecDepth 100000 in
theorem cj_J0_charAt_5068e (l : Launch) (hfl : l.flags = flags0) (D : va_G) (Y : Nat → ClassId) (S V : Nat → Nat) (A : Nat → Prop) (qs vs len : Nat) (byt : Nat → Int32) (k x : Nat) (h1 : k < len) (h2 : len ≤ 300) (h3 : byt k = nI x) (h4 : x < 128) : zMJ l yJ0_charAt_5068e cJ0_charAt_5068e 2 (some .char) 3 0 0 D Y S V A [.ref qs, .int (nI k)] (fun U => True ∧ zS1 (len) (byt) (qs) (vs) A U U.heap) (fun v _ => v = some (.int (nI x))) := by
  refine zMJ.ofW hfl (by decide) (fun p e s m args below meth c ha F hr hlocks hin hP => ?_)
  subst ha
  obtain ⟨hx, hb, hml, hown, hts, hl9, hJ, hA⟩ := id F
  have ok : ∀ w ∈ zWS, w.before ([.ref qs, .int (nI k)] : List Value).toArray s = true := fun w h => hts w (List.mem_cons_of_mem _ h)
  have hK := hJ.1
  have hS : va_S A s.heap s.heap [] := va_S.rf
  have hl := lv_entry ([.ref qs, .int (nI k)]) (n := 2) (Nat.le_of_ble_eq_true rfl)
  rw [lg_entry_eq]
  generalize (lg_sl ([.ref qs, .int (nI k)]) ++ List.replicate (2 - (lg_sl ([.ref qs, .int (nI k)])).length) Slot.unset).toArray = ls at hl ⊢
  have hl : lv_has ls 2 [(0, .ref qs), (1, .int (nI k))] := hl
  obtain ⟨hP, hX⟩ := hP
  refine lv_aload_n hx hb dJ0_charAt_5068e_0 rfl (lv_at hl 0 rfl) ?_
  refine z_jV (As := []) (rest := []) F kj_J0_isLatin1_aae02 mj_229 (cj_J0_isLatin1_aae02 l hfl D Y S V (fun q => _ ≤ q) qs vs len byt) (fun _ U _ _ h => ⟨h.1, zS1.go h.2 (Vm.Alike.refl _) (fun _ _ _ => rfl)⟩) (fun U hU hW => ⟨trivial, by rw [hU]; exact (hX.go hW.alike hS.2.1).narrow (fun q h => hA q (Nat.le_trans hS.1 h))⟩) (va_Orecv hX.1 hS) hS (fun q h => hA q (Nat.le_trans hS.1 h)) (fun _ h => h) rfl rfl hl.1 (Nat.le_of_ble_eq_true rfl) dJ0_charAt_5068e_1 (Nat.le_of_ble_eq_true rfl) ⟨(Nat.le_of_ble_eq_true rfl), (Nat.le_of_ble_eq_true rfl)⟩ rfl (fun v H1 locs hp hz hk hS => ?_)
  subst hp
  refine lv_if_eq (tgt := 16) hx hb dJ0_charAt_5068e_4 (by decide) (fun hc => absurd hc (by decide)) (fun hc => ?_)
  refine lv_aload_n hx hb dJ0_charAt_5068e_7 rfl (lv_at hl 0 rfl) ?_
  refine vk_getf hx hb hX.2.2.1 hS hown (ok _ mj_978) (fun _ h => h) dJ0_charAt_5068e_8 ?_
  refine lv_iload_n hx hb dJ0_charAt_5068e_11 rfl (lv_at hl 1 rfl) ?_
  refine z_jS (As := [.ref vs, .int (nI k)]) (rest := []) F kj_J1_charAt_3b067 mj_233 (cj_J1_charAt_3b067 l hfl D Y S V (fun q => _ ≤ q) qs vs len byt k x h1 h2 h3 h4) (fun _ U _ _ h => ⟨h.1, zS1.go h.2 (Vm.Alike.refl _) (fun _ _ _ => rfl)⟩) (fun U hU hW => ⟨trivial, by rw [hU]; exact (hX.go hW.alike hS.2.1).narrow (fun q h => hA q (Nat.le_trans hS.1 h))⟩) hS (fun q h => hA q (Nat.le_trans hS.1 h)) (fun _ h => h) rfl rfl hl.1 (Nat.le_of_ble_eq_true rfl) dJ0_charAt_5068e_12 (Nat.le_of_ble_eq_true rfl) ⟨(Nat.le_of_ble_eq_true rfl), (Nat.le_of_ble_eq_true rfl)⟩ rfl (fun v H1 locs hp hz hk hS => ?_)
  subst hp
  exact z_jnret hx hb hr (znarc h4) rfl hS hlocks (Nat.le_of_ble_eq_true rfl) (Nat.le_of_ble_eq_true rfl) dJ0_charAt_5068e_15
