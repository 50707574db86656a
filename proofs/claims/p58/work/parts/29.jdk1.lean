/-! THE JDK'S OWN METHODS over texts, by program: reading -/
theorem mj_219 : Cond.methodLink RJ0 335 yJ0_coder_7d493 ∈ zWS := zws_in 219 (by decide +kernel) (by decide +kernel)
theorem mj_223 : Cond.fieldLink RJ0 38 "java/lang/String" "COMPACT_STRINGS" "Z" ∈ zWS := zws_in 223 (by decide +kernel) (by decide +kernel)
theorem mj_40 : Cond.initialized "java/lang/Math" ∈ zWS := zws_in 40 (by decide +kernel) (by decide +kernel)
theorem mj_652 : Cond.static Lib.Math.max.name ∈ zWS := zws_in 652 (by decide +kernel) (by decide +kernel)
theorem mj_653 : Cond.code Lib.Math.max.name Lib.Math.max.code 2 (some .int) ∈ zWS := zws_in 653 (by decide +kernel) (by decide +kernel)
theorem mj_757 : Cond.constant RJ5 39 (2147483647) ∈ zWS := zws_in 757 (by decide +kernel) (by decide +kernel)
theorem mj_791 : Cond.methodLink RJ5 114 yJ8_newLength_cabcc ∈ zWS := zws_in 791 (by decide +kernel) (by decide +kernel)
theorem mj_794 : Cond.methodLink RJ8 194 Lib.Math.max.name ∈ zWS := zws_in 794 (by decide +kernel) (by decide +kernel)
theorem mj_795 : Cond.constant RJ8 200 (2147483639) ∈ zWS := zws_in 795 (by decide +kernel) (by decide +kernel)
theorem mj_816 : Cond.fieldLink RJ5 18 "java/lang/String" "COMPACT_STRINGS" "Z" ∈ zWS := zws_in 816 (by decide +kernel) (by decide +kernel)
theorem mj_865 : Cond.fieldLink RJ5 15 "java/lang/AbstractStringBuilder" "value" "[B" ∈ zWS := zws_in 865 (by decide +kernel) (by decide +kernel)
theorem mj_866 : Cond.fieldLink RJ5 22 "java/lang/AbstractStringBuilder" "coder" "B" ∈ zWS := zws_in 866 (by decide +kernel) (by decide +kernel)
theorem mj_868 : Cond.fieldLink RJ5 79 "java/lang/AbstractStringBuilder" "count" "I" ∈ zWS := zws_in 868 (by decide +kernel) (by decide +kernel)
theorem mj_943 : Cond.methodLink RJ4 343 yJ5_length_8abf5 ∈ zWS := zws_in 943 (by decide +kernel) (by decide +kernel)
theorem mj_978 : Cond.fieldLink RJ0 9 "java/lang/String" "value" "[B" ∈ zWS := zws_in 978 (by decide +kernel) (by decide +kernel)
theorem mj_979 : Cond.fieldLink RJ0 15 "java/lang/String" "coder" "B" ∈ zWS := zws_in 979 (by decide +kernel) (by decide +kernel)
theorem kj_J0_coder_7d493 : zcal yJ0_coder_7d493 cJ0_coder_7d493 1 (some .byte) 0 := ⟨zws_in 220 (by decide +kernel) (by decide +kernel), zws_in 221 (by decide +kernel) (by decide +kernel), zws_in 35 (by decide +kernel) (by decide +kernel), zws_in 222 (by decide +kernel) (by decide +kernel), ⟨by decide +kernel, by decide +kernel⟩, by decide +kernel, by decide⟩
theorem kj_J8_newLength_cabcc : zcas yJ8_newLength_cabcc cJ8_newLength_cabcc 4 (some .int) 3 := ⟨zws_in 792 (by decide +kernel) (by decide +kernel), zws_in 44 (by decide +kernel) (by decide +kernel), zws_in 793 (by decide +kernel) (by decide +kernel), ⟨by decide +kernel, by decide +kernel⟩, by decide +kernel, by decide⟩
theorem ks_J5_length_8abf5 : zcasu RJ4 yJ5_length_8abf5 cJ5_length_8abf5 1 (some .int) 0 := ⟨zws_in 939 (by decide +kernel) (by decide +kernel), zws_in 777 (by decide +kernel) (by decide +kernel), zws_in 938 (by decide +kernel) (by decide +kernel), zws_in 42 (by decide +kernel) (by decide +kernel), zws_in 944 (by decide +kernel) (by decide +kernel), by decide +kernel, by decide +kernel, by decide⟩
theorem ziJ4 : ∀ w ∈ u_ws RJ4 TJ4 4, w ∈ zWS := zi_of [869, 871, 873, 875] (by decide +kernel) (by decide +kernel)
theorem ziJ0 : ∀ w ∈ u_ws RJ0 TJ0 4, w ∈ zWS := zi_of [980, 982, 984, 986] (by decide +kernel) (by decide +kernel)
theorem zj_len {x y z : Nat} (h2 : y < 65536) (h3 : z < 65536) : nI (x + (if y < z then z else y)) = nI x + (if nI y < nI z then nI z else nI y) := by
  by_cases h : y < z
  · rw [if_pos h, if_pos (nI_lt h (by omega)), nI_add]
  · rw [if_neg h, if_neg (nI_nlt (by omega) (by omega)), nI_add]
theorem zj_two (x : Nat) : nI (x + 2) = nI x + ((2 : Int32) <<< ((0 : Int32) &&& 31)) := by
  rw [sb_shl0]
  exact (nI_add x 2).symm
set_option maxHeartbeats 4000000 in
set_option maxRecDepth 100000 in
theorem cj_J0_coder_7d493 (l : Launch) (hfl : l.flags = flags0) (D : va_G) (Y : Nat → ClassId) (S V : Nat → Nat) (A : Nat → Prop) (qs vs len : Nat) (byt : Nat → Int32) : zMJ l yJ0_coder_7d493 cJ0_coder_7d493 1 (some .byte) 0 0 0 D Y S V A [.ref qs] (fun U => True ∧ zS1 (len) (byt) (qs) (vs) A U U.heap) (fun v _ => v = some (.int 0)) := by
  refine zMJ.ofW hfl (by decide) (fun p e s m args below meth c ha F hr hlocks hin hP => ?_)
  subst ha
  obtain ⟨hx, hb, hml, hown, hts, hl9, hJ, hA⟩ := id F
  have ok : ∀ w ∈ zWS, w.before ([.ref qs] : List Value).toArray s = true := fun w h => hts w (List.mem_cons_of_mem _ h)
  have hK := hJ.1
  have hS : va_S A s.heap s.heap [] := va_S.rf
  have hl := lv_entry ([.ref qs]) (n := 1) (Nat.le_of_ble_eq_true rfl)
  rw [lg_entry_eq]
  generalize (lg_sl ([.ref qs]) ++ List.replicate (1 - (lg_sl ([.ref qs])).length) Slot.unset).toArray = ls at hl ⊢
  have hl : lv_has ls 1 [(0, .ref qs)] := hl
  obtain ⟨hP, hX⟩ := hP
  refine va_gets hx hb hK.2.2.2.2.2.2.1 hS hown (ok _ mj_223) (fun _ h => h) dJ0_coder_7d493_0 ?_
  refine lv_if_eq (tgt := 13) hx hb dJ0_coder_7d493_3 (by decide) (fun hc => absurd hc (by decide)) (fun hc => ?_)
  refine lv_aload_n hx hb dJ0_coder_7d493_6 rfl (lv_at hl 0 rfl) ?_
  refine vk_getf hx hb hX.2.1 hS hown (ok _ mj_979) (fun _ h => h) dJ0_coder_7d493_7 ?_
  refine lv_goto (tgt := 14) hx hb dJ0_coder_7d493_10 (by decide) ?_
  exact z_jnret hx hb hr rfl rfl hS hlocks (Nat.le_of_ble_eq_true rfl) (Nat.le_of_ble_eq_true rfl) dJ0_coder_7d493_14

set_option maxHeartbeats 4000000 in
set_option maxRecDepth 100000 in
theorem cj_J0_length_8abf5 (l : Launch) (hfl : l.flags = flags0) (D : va_G) (Y : Nat → ClassId) (S V : Nat → Nat) (A : Nat → Prop) (qs vs len : Nat) (byt : Nat → Int32) : zMJ l yJ0_length_8abf5 cJ0_length_8abf5 1 (some .int) 1 0 0 D Y S V A [.ref qs] (fun U => True ∧ zS1 (len) (byt) (qs) (vs) A U U.heap) (fun v _ => v = some (.int (nI len))) := by
  refine zMJ.ofW hfl (by decide) (fun p e s m args below meth c ha F hr hlocks hin hP => ?_)
  subst ha
  obtain ⟨hx, hb, hml, hown, hts, hl9, hJ, hA⟩ := id F
  have ok : ∀ w ∈ zWS, w.before ([.ref qs] : List Value).toArray s = true := fun w h => hts w (List.mem_cons_of_mem _ h)
  have hK := hJ.1
  have hS : va_S A s.heap s.heap [] := va_S.rf
  have hl := lv_entry ([.ref qs]) (n := 1) (Nat.le_of_ble_eq_true rfl)
  rw [lg_entry_eq]
  generalize (lg_sl ([.ref qs]) ++ List.replicate (1 - (lg_sl ([.ref qs])).length) Slot.unset).toArray = ls at hl ⊢
  have hl : lv_has ls 1 [(0, .ref qs)] := hl
  obtain ⟨hP, hX⟩ := hP
  refine lv_aload_n hx hb dJ0_length_8abf5_0 rfl (lv_at hl 0 rfl) ?_
  refine vk_getf hx hb hX.2.2.1 hS hown (ok _ mj_978) (fun _ h => h) dJ0_length_8abf5_1 ?_
  refine va_tlen (v := nI len) hx hb hX.2.2.2 hS rfl dJ0_length_8abf5_4 ?_
  refine lv_aload_n hx hb dJ0_length_8abf5_5 rfl (lv_at hl 0 rfl) ?_
  refine z_jV (As := []) (rest := [.int (nI len)]) F kj_J0_coder_7d493 mj_219 (cj_J0_coder_7d493 l hfl D Y S V (fun q => _ ≤ q) qs vs len byt) (fun _ U _ _ h => ⟨h.1, zS1.go h.2 (Vm.Alike.refl _) (fun _ _ _ => rfl)⟩) (fun U hU hW => ⟨trivial, by rw [hU]; exact (hX.go hW.alike hS.2.1).narrow (fun q h => hA q (Nat.le_trans hS.1 h))⟩) (va_Orecv hX.1 hS) hS (fun q h => hA q (Nat.le_trans hS.1 h)) (fun _ h => h) rfl rfl hl.1 (Nat.le_of_ble_eq_true rfl) dJ0_length_8abf5_6 (Nat.le_of_ble_eq_true rfl) ⟨(Nat.le_of_ble_eq_true rfl), (Nat.le_of_ble_eq_true rfl)⟩ rfl (fun v H1 locs hp hz hk hS => ?_)
  subst hp
  refine lv_ishr hx hb dJ0_length_8abf5_9 ?_
  refine z_topi (x := (nI len)) (sb_shr0 _).symm ?_
  exact z_jiret hx hb hr rfl hS hlocks (Nat.le_of_ble_eq_true rfl) (Nat.le_of_ble_eq_true rfl) dJ0_length_8abf5_10

set_option maxHeartbeats 4000000 in
set_option maxRecDepth 100000 in
theorem cj_J0_isLatin1_aae02 (l : Launch) (hfl : l.flags = flags0) (D : va_G) (Y : Nat → ClassId) (S V : Nat → Nat) (A : Nat → Prop) (qs vs len : Nat) (byt : Nat → Int32) : zMJ l yJ0_isLatin1_aae02 cJ0_isLatin1_aae02 1 (some .boolean) 0 0 0 D Y S V A [.ref qs] (fun U => True ∧ zS1 (len) (byt) (qs) (vs) A U U.heap) (fun v _ => v = some (.int 1)) := by
  refine zMJ.ofW hfl (by decide) (fun p e s m args below meth c ha F hr hlocks hin hP => ?_)
  subst ha
  obtain ⟨hx, hb, hml, hown, hts, hl9, hJ, hA⟩ := id F
  have ok : ∀ w ∈ zWS, w.before ([.ref qs] : List Value).toArray s = true := fun w h => hts w (List.mem_cons_of_mem _ h)
  have hK := hJ.1
  have hS : va_S A s.heap s.heap [] := va_S.rf
  have hl := lv_entry ([.ref qs]) (n := 1) (Nat.le_of_ble_eq_true rfl)
  rw [lg_entry_eq]
  generalize (lg_sl ([.ref qs]) ++ List.replicate (1 - (lg_sl ([.ref qs])).length) Slot.unset).toArray = ls at hl ⊢
  have hl : lv_has ls 1 [(0, .ref qs)] := hl
  obtain ⟨hP, hX⟩ := hP
  refine va_gets hx hb hK.2.2.2.2.2.2.1 hS hown (ok _ mj_223) (fun _ h => h) dJ0_isLatin1_aae02_0 ?_
  refine lv_if_eq (tgt := 17) hx hb dJ0_isLatin1_aae02_3 (by decide) (fun hc => absurd hc (by decide)) (fun hc => ?_)
  refine lv_aload_n hx hb dJ0_isLatin1_aae02_6 rfl (lv_at hl 0 rfl) ?_
  refine vk_getf hx hb hX.2.1 hS hown (ok _ mj_979) (fun _ h => h) dJ0_isLatin1_aae02_7 ?_
  refine lv_if_ne (tgt := 17) hx hb dJ0_isLatin1_aae02_10 (by decide) (fun hc => absurd rfl hc) (fun hc => ?_)
  refine lv_iconst (v := 1) hx hb dJ0_isLatin1_aae02_13 (by decide) ?_
  refine lv_goto (tgt := 18) hx hb dJ0_isLatin1_aae02_14 (by decide) ?_
  exact z_jnret hx hb hr rfl rfl hS hlocks (Nat.le_of_ble_eq_true rfl) (Nat.le_of_ble_eq_true rfl) dJ0_isLatin1_aae02_18

set_option maxHeartbeats 4000000 in
set_option maxRecDepth 100000 in
theorem cj_J5_isLatin1_aae02 (l : Launch) (hfl : l.flags = flags0) (D : va_G) (Y : Nat → ClassId) (S V : Nat → Nat) (A : Nat → Prop) (b q cap : Nat) (mL n : Int32) (a : Nat → Int32) : zMJ l yJ5_isLatin1_aae02 cJ5_isLatin1_aae02 1 (some .boolean) 0 0 0 D Y S V A [.ref b] (fun U => va_P D vwCl [(b, .inr (4, [.ref q, .int 0, .int mL, .int n])), (q, .inl (Y 1, cap, .inl a))] U.heap) (fun v _ => v = some (.int 1)) := by
  refine zMJ.ofW hfl (by decide) (fun p e s m args below meth c ha F hr hlocks hin hP => ?_)
  subst ha
  obtain ⟨hx, hb, hml, hown, hts, hl9, hJ, hA⟩ := id F
  have ok : ∀ w ∈ zWS, w.before ([.ref b] : List Value).toArray s = true := fun w h => hts w (List.mem_cons_of_mem _ h)
  have hK := hJ.1
  have hS : va_S A s.heap s.heap [] := va_S.rf
  have hl := lv_entry ([.ref b]) (n := 1) (Nat.le_of_ble_eq_true rfl)
  rw [lg_entry_eq]
  generalize (lg_sl ([.ref b]) ++ List.replicate (1 - (lg_sl ([.ref b])).length) Slot.unset).toArray = ls at hl ⊢
  have hl : lv_has ls 1 [(0, .ref b)] := hl
  refine va_gets hx hb hK.2.2.2.2.2.2.1 hS hown (ok _ mj_816) (fun _ h => h) dJ5_isLatin1_aae02_0 ?_
  refine lv_if_eq (tgt := 17) hx hb dJ5_isLatin1_aae02_3 (by decide) (fun hc => absurd hc (by decide)) (fun hc => ?_)
  refine lv_aload_n hx hb dJ5_isLatin1_aae02_6 rfl (lv_at hl 0 rfl) ?_
  refine va_get hx hb hts (fun w h => List.mem_cons_of_mem _ (ziJ4 w h)) hown hK.1 hP 0 rfl rfl 1 (by decide) (ok _ mj_866) (fun _ h => h) rfl dJ5_isLatin1_aae02_7 ?_
  refine lv_if_ne (tgt := 17) hx hb dJ5_isLatin1_aae02_10 (by decide) (fun hc => absurd rfl hc) (fun hc => ?_)
  refine lv_iconst (v := 1) hx hb dJ5_isLatin1_aae02_13 (by decide) ?_
  refine lv_goto (tgt := 18) hx hb dJ5_isLatin1_aae02_14 (by decide) ?_
  exact z_jnret hx hb hr rfl rfl hS hlocks (Nat.le_of_ble_eq_true rfl) (Nat.le_of_ble_eq_true rfl) dJ5_isLatin1_aae02_18

set_option maxHeartbeats 4000000 in
set_option maxRecDepth 100000 in
theorem cj_J5_length_8abf5 (l : Launch) (hfl : l.flags = flags0) (D : va_G) (Y : Nat → ClassId) (S V : Nat → Nat) (A : Nat → Prop) (b q cap : Nat) (mL n : Int32) (a : Nat → Int32) : zMJ l yJ5_length_8abf5 cJ5_length_8abf5 1 (some .int) 0 0 0 D Y S V A [.ref b] (fun U => va_P D vwCl [(b, .inr (4, [.ref q, .int 0, .int mL, .int n])), (q, .inl (Y 1, cap, .inl a))] U.heap) (fun v _ => v = some (.int n)) := by
  refine zMJ.ofW hfl (by decide) (fun p e s m args below meth c ha F hr hlocks hin hP => ?_)
  subst ha
  obtain ⟨hx, hb, hml, hown, hts, hl9, hJ, hA⟩ := id F
  have ok : ∀ w ∈ zWS, w.before ([.ref b] : List Value).toArray s = true := fun w h => hts w (List.mem_cons_of_mem _ h)
  have hK := hJ.1
  have hS : va_S A s.heap s.heap [] := va_S.rf
  have hl := lv_entry ([.ref b]) (n := 1) (Nat.le_of_ble_eq_true rfl)
  rw [lg_entry_eq]
  generalize (lg_sl ([.ref b]) ++ List.replicate (1 - (lg_sl ([.ref b])).length) Slot.unset).toArray = ls at hl ⊢
  have hl : lv_has ls 1 [(0, .ref b)] := hl
  refine lv_aload_n hx hb dJ5_length_8abf5_0 rfl (lv_at hl 0 rfl) ?_
  refine va_get hx hb hts (fun w h => List.mem_cons_of_mem _ (ziJ4 w h)) hown hK.1 hP 0 rfl rfl 3 (by decide) (ok _ mj_868) (fun _ h => h) rfl dJ5_length_8abf5_1 ?_
  exact z_jiret hx hb hr rfl hS hlocks (Nat.le_of_ble_eq_true rfl) (Nat.le_of_ble_eq_true rfl) dJ5_length_8abf5_4

set_option maxHeartbeats 4000000 in
set_option maxRecDepth 100000 in
theorem cj_J4_length_8abf5 (l : Launch) (hfl : l.flags = flags0) (D : va_G) (Y : Nat → ClassId) (S V : Nat → Nat) (A : Nat → Prop) (b q cap : Nat) (mL n : Int32) (a : Nat → Int32) : zMJ l yJ4_length_8abf5 cJ4_length_8abf5 1 (some .int) 1 0 0 D Y S V A [.ref b] (fun U => va_P D vwCl [(b, .inr (4, [.ref q, .int 0, .int mL, .int n])), (q, .inl (Y 1, cap, .inl a))] U.heap) (fun v _ => v = some (.int n)) := by
  refine zMJ.ofW hfl (by decide) (fun p e s m args below meth c ha F hr hlocks hin hP => ?_)
  subst ha
  obtain ⟨hx, hb, hml, hown, hts, hl9, hJ, hA⟩ := id F
  have ok : ∀ w ∈ zWS, w.before ([.ref b] : List Value).toArray s = true := fun w h => hts w (List.mem_cons_of_mem _ h)
  have hK := hJ.1
  have hS : va_S A s.heap s.heap [] := va_S.rf
  have hl := lv_entry ([.ref b]) (n := 1) (Nat.le_of_ble_eq_true rfl)
  rw [lg_entry_eq]
  generalize (lg_sl ([.ref b]) ++ List.replicate (1 - (lg_sl ([.ref b])).length) Slot.unset).toArray = ls at hl ⊢
  have hl : lv_has ls 1 [(0, .ref b)] := hl
  refine lv_aload_n hx hb dJ4_length_8abf5_0 rfl (lv_at hl 0 rfl) ?_
  refine z_jSU (As := []) (rest := []) F ks_J5_length_8abf5 mj_943 (cj_J5_length_8abf5 l hfl D Y S V (fun q => _ ≤ q) b q cap mL n a) (fun _ _ _ _ h => h) (fun U hU _ => by rw [hU]; exact hP) (hK.1.1 4 _ rfl).2 (va_recv hK.1 hP rfl (q0 := 0) rfl) hS (fun q h => hA q (Nat.le_trans hS.1 h)) (fun _ h => h) rfl rfl hl.1 (Nat.le_of_ble_eq_true rfl) dJ4_length_8abf5_1 (Nat.le_of_ble_eq_true rfl) ⟨(Nat.le_of_ble_eq_true rfl), (Nat.le_of_ble_eq_true rfl)⟩ rfl (fun v H1 locs hp hz hk hS => ?_)
  subst hp
  have hP := hP.kept (fun k x hx => hk x.1 (hP k x hx).lt (Nat.not_le.mpr (hP k x hx).lt))
  exact z_jiret hx hb hr rfl hS hlocks (Nat.le_of_ble_eq_true rfl) (Nat.le_of_ble_eq_true rfl) dJ4_length_8abf5_4

set_option maxHeartbeats 4000000 in
set_option maxRecDepth 100000 in
theorem cj_J5_getValue_6d5f1 (l : Launch) (hfl : l.flags = flags0) (D : va_G) (Y : Nat → ClassId) (S V : Nat → Nat) (A : Nat → Prop) (b q cap : Nat) (mL n : Int32) (a : Nat → Int32) : zMJ l yJ5_getValue_6d5f1 cJ5_getValue_6d5f1 1 (some (.array .byte)) 0 0 0 D Y S V A [.ref b] (fun U => va_P D vwCl [(b, .inr (4, [.ref q, .int 0, .int mL, .int n])), (q, .inl (Y 1, cap, .inl a))] U.heap) (fun v _ => v = some (.ref q)) := by
  refine zMJ.ofW hfl (by decide) (fun p e s m args below meth c ha F hr hlocks hin hP => ?_)
  subst ha
  obtain ⟨hx, hb, hml, hown, hts, hl9, hJ, hA⟩ := id F
  have ok : ∀ w ∈ zWS, w.before ([.ref b] : List Value).toArray s = true := fun w h => hts w (List.mem_cons_of_mem _ h)
  have hK := hJ.1
  have hS : va_S A s.heap s.heap [] := va_S.rf
  have hl := lv_entry ([.ref b]) (n := 1) (Nat.le_of_ble_eq_true rfl)
  rw [lg_entry_eq]
  generalize (lg_sl ([.ref b]) ++ List.replicate (1 - (lg_sl ([.ref b])).length) Slot.unset).toArray = ls at hl ⊢
  have hl : lv_has ls 1 [(0, .ref b)] := hl
  refine lv_aload_n hx hb dJ5_getValue_6d5f1_0 rfl (lv_at hl 0 rfl) ?_
  refine va_get hx hb hts (fun w h => List.mem_cons_of_mem _ (ziJ4 w h)) hown hK.1 hP 0 rfl rfl 0 (by decide) (ok _ mj_865) (fun _ h => h) rfl dJ5_getValue_6d5f1_1 ?_
  exact z_jaret hx hb hr (Or.inr ⟨_, rfl⟩) rfl hS hlocks (Nat.le_of_ble_eq_true rfl) (Nat.le_of_ble_eq_true rfl) dJ5_getValue_6d5f1_4

set_option maxHeartbeats 4000000 in
set_option maxRecDepth 100000 in
theorem cj_J1_canEncode_fc78d (l : Launch) (hfl : l.flags = flags0) (D : va_G) (Y : Nat → ClassId) (S V : Nat → Nat) (A : Nat → Prop) (x : Nat) (hx9 : x < 256) : zMJ l yJ1_canEncode_fc78d cJ1_canEncode_fc78d 1 (some .boolean) 0 0 0 D Y S V A [.int (nI x)] (fun _ => True) (fun v _ => v = some (.int 1)) := by
  refine zMJ.ofW hfl (by decide) (fun p e s m args below meth c ha F hr hlocks hin hP => ?_)
  subst ha
  obtain ⟨hx, hb, hml, hown, hts, hl9, hJ, hA⟩ := id F
  have ok : ∀ w ∈ zWS, w.before ([.int (nI x)] : List Value).toArray s = true := fun w h => hts w (List.mem_cons_of_mem _ h)
  have hK := hJ.1
  have hS : va_S A s.heap s.heap [] := va_S.rf
  have hl := lv_entry ([.int (nI x)]) (n := 1) (Nat.le_of_ble_eq_true rfl)
  rw [lg_entry_eq]
  generalize (lg_sl ([.int (nI x)]) ++ List.replicate (1 - (lg_sl ([.int (nI x)])).length) Slot.unset).toArray = ls at hl ⊢
  have hl : lv_has ls 1 [(0, .int (nI x))] := hl
  refine lv_iload_n hx hb dJ1_canEncode_fc78d_0 rfl (lv_at hl 0 rfl) ?_
  refine lv_sipush (v := 255) hx hb dJ1_canEncode_fc78d_1 (by decide) ?_
  refine lv_icmp_gt (tgt := 11) hx hb dJ1_canEncode_fc78d_4 (by decide) (fun hc => absurd hc (show ¬ nI 255 < nI x from nI_nlt (by omega) (by decide))) (fun hc => ?_)
  refine lv_iconst (v := 1) hx hb dJ1_canEncode_fc78d_7 (by decide) ?_
  refine lv_goto (tgt := 12) hx hb dJ1_canEncode_fc78d_8 (by decide) ?_
  exact z_jnret hx hb hr rfl rfl hS hlocks (Nat.le_of_ble_eq_true rfl) (Nat.le_of_ble_eq_true rfl) dJ1_canEncode_fc78d_12

set_option maxHeartbeats 4000000 in
set_option maxRecDepth 100000 in
theorem cj_J8_newLength_cabcc (l : Launch) (hfl : l.flags = flags0) (D : va_G) (Y : Nat → ClassId) (S V : Nat → Nat) (A : Nat → Prop) (x y z : Nat) (h1 : x < 65536) (h2 : y < 65536) (h3 : z < 65536) (h4 : 1 ≤ z) : zMJ l yJ8_newLength_cabcc cJ8_newLength_cabcc 4 (some .int) 1 0 0 D Y S V A [.int (nI x), .int (nI y), .int (nI z)] (fun _ => True) (fun v _ => v = some (.int (nI (x + (if y < z then z else y))))) := by
  refine zMJ.ofW hfl (by decide) (fun p e s m args below meth c ha F hr hlocks hin hP => ?_)
  subst ha
  obtain ⟨hx, hb, hml, hown, hts, hl9, hJ, hA⟩ := id F
  have ok : ∀ w ∈ zWS, w.before ([.int (nI x), .int (nI y), .int (nI z)] : List Value).toArray s = true := fun w h => hts w (List.mem_cons_of_mem _ h)
  have hK := hJ.1
  have hS : va_S A s.heap s.heap [] := va_S.rf
  have hl := lv_entry ([.int (nI x), .int (nI y), .int (nI z)]) (n := 4) (Nat.le_of_ble_eq_true rfl)
  rw [lg_entry_eq]
  generalize (lg_sl ([.int (nI x), .int (nI y), .int (nI z)]) ++ List.replicate (4 - (lg_sl ([.int (nI x), .int (nI y), .int (nI z)])).length) Slot.unset).toArray = ls at hl ⊢
  have hl : lv_has ls 4 [(0, .int (nI x)), (1, .int (nI y)), (2, .int (nI z))] := hl
  refine lv_iload_n hx hb dJ8_newLength_cabcc_0 rfl (lv_at hl 0 rfl) ?_
  refine lv_iload_n hx hb dJ8_newLength_cabcc_1 rfl (lv_at hl 1 rfl) ?_
  refine lv_iload_n hx hb dJ8_newLength_cabcc_2 rfl (lv_at hl 2 rfl) ?_
  refine va_mmax hx hb (hml.trans hl.1.symm) hown (ok _ mj_794) (ok _ mj_652) (ok _ mj_40) (ok _ mj_653) (by show 1 ≤ 1; decide) (by show _ + 13 ≤ 37 * 1; exact Nat.le_of_ble_eq_true rfl) (Nat.le_of_ble_eq_true rfl) (Nat.le_of_ble_eq_true rfl) dJ8_newLength_cabcc_3 ?_
  refine lv_iadd hx hb dJ8_newLength_cabcc_6 ?_
  refine z_topi (x := (nI (x + (if y < z then z else y)))) (zj_len h2 h3) ?_
  refine lv_istore_n (lv' := [(3, .int (nI (x + (if y < z then z else y)))), (0, .int (nI x)), (1, .int (nI y)), (2, .int (nI z))]) hx hb dJ8_newLength_cabcc_7 rfl hl (by decide) rfl (fun ls hl => ?_)
  refine lv_iconst (v := 0) hx hb dJ8_newLength_cabcc_8 (by decide) ?_
  refine lv_iload_n hx hb dJ8_newLength_cabcc_9 rfl (lv_at hl 0 rfl) ?_
  refine lv_icmp_ge (tgt := 21) hx hb dJ8_newLength_cabcc_10 (by decide) (fun hc => absurd hc (show ¬ nI (x + (if y < z then z else y)) ≤ nI 0 from nI_nle (by split <;> omega) (by split <;> omega))) (fun hc => ?_)
  refine lv_iload_n hx hb dJ8_newLength_cabcc_13 rfl (lv_at hl 0 rfl) ?_
  refine lv_ldc hx hb hown (ok _ mj_795) dJ8_newLength_cabcc_14 ?_
  refine lv_icmp_gt (tgt := 21) hx hb dJ8_newLength_cabcc_16 (by decide) (fun hc => absurd hc (show ¬ nI 2147483639 < nI (x + (if y < z then z else y)) from nI_nlt (by split <;> omega) (by decide))) (fun hc => ?_)
  refine lv_iload_n hx hb dJ8_newLength_cabcc_19 rfl (lv_at hl 0 rfl) ?_
  exact z_jiret hx hb hr rfl hS hlocks (Nat.le_of_ble_eq_true rfl) (Nat.le_of_ble_eq_true rfl) dJ8_newLength_cabcc_20

set_option maxHeartbeats 4000000 in
set_option maxRecDepth 100000 in
theorem cj_J5_newCapacity_0f7a4 (l : Launch) (hfl : l.flags = flags0) (D : va_G) (Y : Nat → ClassId) (S V : Nat → Nat) (A : Nat → Prop) (b q cap : Nat) (mL n : Int32) (a : Nat → Int32) (k : Nat) (h1 : cap < k) (h2 : k ≤ 300) : zMJ l yJ5_newCapacity_0f7a4 cJ5_newCapacity_0f7a4 6 (some .int) 2 0 0 D Y S V A [.ref b, .int (nI k)] (fun U => va_P D vwCl [(b, .inr (4, [.ref q, .int 0, .int mL, .int n])), (q, .inl (Y 1, cap, .inl a))] U.heap) (fun v _ => v = some (.int (nI (cap + (if k - cap < cap + 2 then cap + 2 else k - cap))))) := by
  refine zMJ.ofW hfl (by decide) (fun p e s m args below meth c ha F hr hlocks hin hP => ?_)
  subst ha
  obtain ⟨hx, hb, hml, hown, hts, hl9, hJ, hA⟩ := id F
  have ok : ∀ w ∈ zWS, w.before ([.ref b, .int (nI k)] : List Value).toArray s = true := fun w h => hts w (List.mem_cons_of_mem _ h)
  have hK := hJ.1
  have hS : va_S A s.heap s.heap [] := va_S.rf
  have hl := lv_entry ([.ref b, .int (nI k)]) (n := 6) (Nat.le_of_ble_eq_true rfl)
  rw [lg_entry_eq]
  generalize (lg_sl ([.ref b, .int (nI k)]) ++ List.replicate (6 - (lg_sl ([.ref b, .int (nI k)])).length) Slot.unset).toArray = ls at hl ⊢
  have hl : lv_has ls 6 [(0, .ref b), (1, .int (nI k))] := hl
  refine lv_aload_n hx hb dJ5_newCapacity_0f7a4_0 rfl (lv_at hl 0 rfl) ?_
  refine va_get hx hb hts (fun w h => List.mem_cons_of_mem _ (ziJ4 w h)) hown hK.1 hP 0 rfl rfl 0 (by decide) (ok _ mj_865) (fun _ h => h) rfl dJ5_newCapacity_0f7a4_1 ?_
  refine va_alen (v := nI cap) hx hb hK.1 hP 1 1 rfl rfl rfl dJ5_newCapacity_0f7a4_4 ?_
  refine lv_istore_n (lv' := [(2, .int (nI cap)), (0, .ref b), (1, .int (nI k))]) hx hb dJ5_newCapacity_0f7a4_5 rfl hl (by decide) rfl (fun ls hl => ?_)
  refine lv_iload_n hx hb dJ5_newCapacity_0f7a4_6 rfl (lv_at hl 2 rfl) ?_
  refine lv_aload_n hx hb dJ5_newCapacity_0f7a4_7 rfl (lv_at hl 1 rfl) ?_
  refine va_get hx hb hts (fun w h => List.mem_cons_of_mem _ (ziJ4 w h)) hown hK.1 hP 0 rfl rfl 1 (by decide) (ok _ mj_866) (fun _ h => h) rfl dJ5_newCapacity_0f7a4_8 ?_
  refine lv_ishl hx hb dJ5_newCapacity_0f7a4_11 ?_
  refine z_topi (x := (nI k)) (sb_shl0 _).symm ?_
  refine lv_istore_n (lv' := [(3, .int (nI k)), (2, .int (nI cap)), (0, .ref b), (1, .int (nI k))]) hx hb dJ5_newCapacity_0f7a4_12 rfl hl (by decide) rfl (fun ls hl => ?_)
  refine lv_iload_n hx hb dJ5_newCapacity_0f7a4_13 rfl (lv_at hl 0 rfl) ?_
  refine lv_iload_n hx hb dJ5_newCapacity_0f7a4_14 rfl (lv_at hl 1 rfl) ?_
  refine lv_isub hx hb dJ5_newCapacity_0f7a4_15 ?_
  refine z_topi (x := (nI (k - cap))) (pk_sub (by omega)).symm ?_
  refine lv_istore (lv' := [(4, .int (nI (k - cap))), (3, .int (nI k)), (2, .int (nI cap)), (0, .ref b), (1, .int (nI k))]) hx hb dJ5_newCapacity_0f7a4_16 hl (by decide) rfl (fun ls hl => ?_)
  refine lv_iload_n hx hb dJ5_newCapacity_0f7a4_18 rfl (lv_at hl 2 rfl) ?_
  refine lv_iload hx hb dJ5_newCapacity_0f7a4_19 (lv_at hl 0 rfl) ?_
  refine lv_iload_n hx hb dJ5_newCapacity_0f7a4_21 rfl (lv_at hl 2 rfl) ?_
  refine lv_iconst (v := 2) hx hb dJ5_newCapacity_0f7a4_22 (by decide) ?_
  refine lv_aload_n hx hb dJ5_newCapacity_0f7a4_23 rfl (lv_at hl 3 rfl) ?_
  refine va_get hx hb hts (fun w h => List.mem_cons_of_mem _ (ziJ4 w h)) hown hK.1 hP 0 rfl rfl 1 (by decide) (ok _ mj_866) (fun _ h => h) rfl dJ5_newCapacity_0f7a4_24 ?_
  refine lv_ishl hx hb dJ5_newCapacity_0f7a4_27 ?_
  refine lv_iadd hx hb dJ5_newCapacity_0f7a4_28 ?_
  refine z_topi (x := (nI (cap + 2))) (zj_two cap) ?_
  refine z_jS (As := [.int (nI cap), .int (nI (k - cap)), .int (nI (cap + 2))]) (rest := []) F kj_J8_newLength_cabcc mj_791 (cj_J8_newLength_cabcc l hfl D Y S V (fun q => _ ≤ q) cap (k - cap) (cap + 2) (by omega) (by omega) (by omega) (by omega)) (fun _ _ _ _ h => h) (fun U hU _ => trivial) hS (fun q h => hA q (Nat.le_trans hS.1 h)) (fun _ h => h) rfl rfl hl.1 (Nat.le_of_ble_eq_true rfl) dJ5_newCapacity_0f7a4_29 (Nat.le_of_ble_eq_true rfl) ⟨(Nat.le_of_ble_eq_true rfl), (Nat.le_of_ble_eq_true rfl)⟩ rfl (fun v H1 locs hp hz hk hS => ?_)
  subst hp
  have hP := hP.kept (fun k x hx => hk x.1 (hP k x hx).lt (Nat.not_le.mpr (hP k x hx).lt))
  refine lv_istore (lv' := [(5, .int (nI (cap + (if k - cap < cap + 2 then cap + 2 else k - cap)))), (4, .int (nI (k - cap))), (3, .int (nI k)), (2, .int (nI cap)), (0, .ref b), (1, .int (nI k))]) hx hb dJ5_newCapacity_0f7a4_32 hl (by decide) rfl (fun ls hl => ?_)
  refine lv_iload hx hb dJ5_newCapacity_0f7a4_34 (lv_at hl 0 rfl) ?_
  refine lv_ldc hx hb hown (ok _ mj_757) dJ5_newCapacity_0f7a4_36 ?_
  refine lv_icmp_ne (tgt := 51) hx hb dJ5_newCapacity_0f7a4_38 (by decide) (fun hc => ?_) (fun hc => absurd hc (show ¬ nI (cap + (if k - cap < cap + 2 then cap + 2 else k - cap)) = nI 2147483647 from fun z => by have := (nI_eq (by split <;> omega) (by decide)).mp z; split at this <;> omega))
  refine lv_iload hx hb dJ5_newCapacity_0f7a4_51 (lv_at hl 0 rfl) ?_
  refine lv_aload_n hx hb dJ5_newCapacity_0f7a4_53 rfl (lv_at hl 4 rfl) ?_
  refine va_get hx hb hts (fun w h => List.mem_cons_of_mem _ (ziJ4 w h)) hown hK.1 hP 0 rfl rfl 1 (by decide) (ok _ mj_866) (fun _ h => h) rfl dJ5_newCapacity_0f7a4_54 ?_
  refine lv_ishr hx hb dJ5_newCapacity_0f7a4_57 ?_
  refine z_topi (x := (nI (cap + (if k - cap < cap + 2 then cap + 2 else k - cap)))) (sb_shr0 _).symm ?_
  exact z_jiret hx hb hr rfl hS hlocks (Nat.le_of_ble_eq_true rfl) (Nat.le_of_ble_eq_true rfl) dJ5_newCapacity_0f7a4_58
