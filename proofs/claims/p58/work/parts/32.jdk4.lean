/-! THE JDK'S OWN METHODS over texts, by program: appending -/
theorem mj_755 : Cond.methodLink RJ5 32 yJ0_length_8abf5 ∈ zWS := zws_in 755 (by decide +kernel) (by decide +kernel)
theorem mj_758 : Cond.methodLink RJ5 40 yJ0_coder_7d493 ∈ zWS := zws_in 758 (by decide +kernel) (by decide +kernel)
theorem mj_772 : Cond.methodLink RJ4 23 yJ4_append_15ec4 ∈ zWS := zws_in 772 (by decide +kernel) (by decide +kernel)
theorem mj_776 : Cond.methodLink RJ4 29 yJ5_append_cf1ce ∈ zWS := zws_in 776 (by decide +kernel) (by decide +kernel)
theorem mj_783 : Cond.methodLink RJ5 100 yJ5_ensureCapacityInternal_d00df ∈ zWS := zws_in 783 (by decide +kernel) (by decide +kernel)
theorem mj_811 : Cond.methodLink RJ5 83 yJ5_isLatin1_aae02 ∈ zWS := zws_in 811 (by decide +kernel) (by decide +kernel)
theorem mj_832 : Cond.methodLink RJ5 208 yJ5_putStringAt_47b60 ∈ zWS := zws_in 832 (by decide +kernel) (by decide +kernel)
theorem mj_836 : Cond.methodLink RJ5 397 yJ5_inflateIfNeededFor_a7421 ∈ zWS := zws_in 836 (by decide +kernel) (by decide +kernel)
theorem mj_859 : Cond.methodLink RJ5 399 yJ0_getBytes_840e7 ∈ zWS := zws_in 859 (by decide +kernel) (by decide +kernel)
theorem mj_863 : Cond.methodLink RJ0 212 arraycopyName ∈ zWS := zws_in 863 (by decide +kernel) (by decide +kernel)
theorem mj_906 : Cond.methodLink RJ4 50 yJ5_append_3fe6f ∈ zWS := zws_in 906 (by decide +kernel) (by decide +kernel)
theorem mj_909 : Cond.methodLink RJ5 191 yJ1_canEncode_fc78d ∈ zWS := zws_in 909 (by decide +kernel) (by decide +kernel)
theorem kj_J0_getBytes_840e7 : zcal yJ0_getBytes_840e7 cJ0_getBytes_840e7 4 none 3 := ⟨zws_in 860 (by decide +kernel) (by decide +kernel), zws_in 861 (by decide +kernel) (by decide +kernel), zws_in 35 (by decide +kernel) (by decide +kernel), zws_in 862 (by decide +kernel) (by decide +kernel), ⟨by decide +kernel, by decide +kernel⟩, by decide +kernel, by decide⟩
theorem kj_J0_length_8abf5 : zcal yJ0_length_8abf5 cJ0_length_8abf5 1 (some .int) 0 := ⟨zws_in 216 (by decide +kernel) (by decide +kernel), zws_in 217 (by decide +kernel) (by decide +kernel), zws_in 35 (by decide +kernel) (by decide +kernel), zws_in 218 (by decide +kernel) (by decide +kernel), ⟨by decide +kernel, by decide +kernel⟩, by decide +kernel, by decide⟩
theorem kj_J1_canEncode_fc78d : zcas yJ1_canEncode_fc78d cJ1_canEncode_fc78d 1 (some .boolean) 1 := ⟨zws_in 910 (by decide +kernel) (by decide +kernel), zws_in 36 (by decide +kernel) (by decide +kernel), zws_in 911 (by decide +kernel) (by decide +kernel), ⟨by decide +kernel, by decide +kernel⟩, by decide +kernel, by decide⟩
theorem kj_J4_append_15ec4 : zcal yJ4_append_15ec4 cJ4_append_15ec4 2 (some (.object "java/lang/StringBuilder")) 1 := ⟨zws_in 773 (by decide +kernel) (by decide +kernel), zws_in 774 (by decide +kernel) (by decide +kernel), zws_in 43 (by decide +kernel) (by decide +kernel), zws_in 775 (by decide +kernel) (by decide +kernel), ⟨by decide +kernel, by decide +kernel⟩, by decide +kernel, by decide⟩
theorem kp_J5_ensureCapacityInternal_d00df : zcaup RJ4 yJ5_ensureCapacityInternal_d00df cJ5_ensureCapacityInternal_d00df 3 none 1 := ⟨zws_in 1185 (by decide +kernel) (by decide +kernel), by decide +kernel, zws_in 785 (by decide +kernel) (by decide +kernel), zws_in 42 (by decide +kernel) (by decide +kernel), zws_in 786 (by decide +kernel) (by decide +kernel), ⟨by decide +kernel, by decide +kernel⟩, by decide +kernel, by decide, rfl⟩
theorem kp_J5_inflateIfNeededFor_a7421 : zcaup RJ4 yJ5_inflateIfNeededFor_a7421 cJ5_inflateIfNeededFor_a7421 2 none 1 := ⟨zws_in 1188 (by decide +kernel) (by decide +kernel), by decide +kernel, zws_in 838 (by decide +kernel) (by decide +kernel), zws_in 42 (by decide +kernel) (by decide +kernel), zws_in 839 (by decide +kernel) (by decide +kernel), ⟨by decide +kernel, by decide +kernel⟩, by decide +kernel, by decide, rfl⟩
theorem kp_J5_putStringAt_47b60 : zcaup RJ4 yJ5_putStringAt_47b60 cJ5_putStringAt_47b60 3 none 2 := ⟨zws_in 1187 (by decide +kernel) (by decide +kernel), by decide +kernel, zws_in 834 (by decide +kernel) (by decide +kernel), zws_in 42 (by decide +kernel) (by decide +kernel), zws_in 835 (by decide +kernel) (by decide +kernel), ⟨by decide +kernel, by decide +kernel⟩, by decide +kernel, by decide, rfl⟩
theorem ks_J5_append_3fe6f : zcasu RJ4 yJ5_append_3fe6f cJ5_append_3fe6f 2 (some (.object "java/lang/AbstractStringBuilder")) 1 := ⟨zws_in 1191 (by decide +kernel) (by decide +kernel), zws_in 777 (by decide +kernel) (by decide +kernel), zws_in 907 (by decide +kernel) (by decide +kernel), zws_in 42 (by decide +kernel) (by decide +kernel), zws_in 908 (by decide +kernel) (by decide +kernel), by decide +kernel, by decide +kernel, by decide⟩
theorem ks_J5_append_cf1ce : zcasu RJ4 yJ5_append_cf1ce cJ5_append_cf1ce 3 (some (.object "java/lang/AbstractStringBuilder")) 1 := ⟨zws_in 768 (by decide +kernel) (by decide +kernel), zws_in 777 (by decide +kernel) (by decide +kernel), zws_in 767 (by decide +kernel) (by decide +kernel), zws_in 42 (by decide +kernel) (by decide +kernel), zws_in 778 (by decide +kernel) (by decide +kernel), by decide +kernel, by decide +kernel, by decide⟩
theorem ku_J5_isLatin1_aae02 : zcau RJ4 "java/lang/AbstractStringBuilder" yJ5_isLatin1_aae02 yJ5_isLatin1_aae02 cJ5_isLatin1_aae02 1 (some .boolean) 0 := ⟨zws_in 813 (by decide +kernel) (by decide +kernel), zws_in 814 (by decide +kernel) (by decide +kernel), zws_in 812 (by decide +kernel) (by decide +kernel), zws_in 42 (by decide +kernel) (by decide +kernel), zws_in 815 (by decide +kernel) (by decide +kernel), ⟨by decide +kernel, by decide +kernel⟩, by decide +kernel, by decide, cJ5_isLatin1_aae02, 1, (some .boolean), zws_in 812 (by decide +kernel) (by decide +kernel), zws_in 815 (by decide +kernel) (by decide +kernel)⟩
theorem znar {x : Nat} (h : x < 128) : vp_nar .byte (nI x) = nI x := zsmall h
theorem zfit {x : Nat} (h : x < 128) : fits .byte (.int (nI x)) = true := by rw [← zsmall h]; exact pk_fb _
set_option maxHeartbeats 4000000 in
set_option maxRecDepth 100000 in
theorem cj_J5_inflateIfNeededFor_a7421 (l : Launch) (hfl : l.flags = flags0) (D : va_G) (Y : Nat → ClassId) (S V : Nat → Nat) (A : Nat → Prop) (b q cap : Nat) (mL n : Int32) (a : Nat → Int32) (qs vs len : Nat) (byt : Nat → Int32) : zMJ l yJ5_inflateIfNeededFor_a7421 cJ5_inflateIfNeededFor_a7421 2 none 1 0 0 D Y S V A [.ref b, .ref qs] (fun U => va_P D vwCl [(b, .inr (4, [.ref q, .int 0, .int mL, .int n])), (q, .inl (Y 1, cap, .inl a))] U.heap ∧ zS1 (len) (byt) (qs) (vs) A U U.heap) (fun v _ => v = none) := by
  refine zMJ.ofW hfl (by decide) (fun p e s m args below meth c ha F hr hlocks hin hP => ?_)
  subst ha
  obtain ⟨hx, hb, hml, hown, hts, hl9, hJ, hA⟩ := id F
  have ok : ∀ w ∈ zWS, w.before ([.ref b, .ref qs] : List Value).toArray s = true := fun w h => hts w (List.mem_cons_of_mem _ h)
  have hK := hJ.1
  have hS : va_S A s.heap s.heap [] := va_S.rf
  have hl := lv_entry ([.ref b, .ref qs]) (n := 2) (Nat.le_of_ble_eq_true rfl)
  rw [lg_entry_eq]
  generalize (lg_sl ([.ref b, .ref qs]) ++ List.replicate (2 - (lg_sl ([.ref b, .ref qs])).length) Slot.unset).toArray = ls at hl ⊢
  have hl : lv_has ls 2 [(0, .ref b), (1, .ref qs)] := hl
  obtain ⟨hP, hX⟩ := hP
  refine va_gets hx hb hK.2.2.2.2.2.2.1 hS hown (ok _ mj_816) (fun _ h => h) dJ5_inflateIfNeededFor_a7421_0 ?_
  refine lv_if_eq (tgt := 21) hx hb dJ5_inflateIfNeededFor_a7421_3 (by decide) (fun hc => absurd hc (by decide)) (fun hc => ?_)
  refine lv_aload_n hx hb dJ5_inflateIfNeededFor_a7421_6 rfl (lv_at hl 0 rfl) ?_
  refine va_get hx hb hts (fun w h => List.mem_cons_of_mem _ (ziJ4 w h)) hown hK.1 hP 0 rfl rfl 1 (by decide) (ok _ mj_866) (fun _ h => h) rfl dJ5_inflateIfNeededFor_a7421_7 ?_
  refine lv_aload_n hx hb dJ5_inflateIfNeededFor_a7421_10 rfl (lv_at hl 1 rfl) ?_
  refine z_jV (As := []) (rest := [.int 0]) F kj_J0_coder_7d493 mj_758 (cj_J0_coder_7d493 l hfl D Y S V (fun q => _ ≤ q) qs vs len byt) (fun _ U _ _ h => ⟨h.1, zS1.go h.2 (Vm.Alike.refl _) (fun _ _ _ => rfl)⟩) (fun U hU hW => ⟨trivial, by rw [hU]; exact (hX.go hW.alike hS.2.1).narrow (fun q h => hA q (Nat.le_trans hS.1 h))⟩) (va_Orecv hX.1 hS) hS (fun q h => hA q (Nat.le_trans hS.1 h)) (fun _ h => h) rfl rfl hl.1 (Nat.le_of_ble_eq_true rfl) dJ5_inflateIfNeededFor_a7421_11 (Nat.le_of_ble_eq_true rfl) ⟨(Nat.le_of_ble_eq_true rfl), (Nat.le_of_ble_eq_true rfl)⟩ rfl (fun v H1 locs hp hz hk hS => ?_)
  subst hp
  have hP := hP.kept (fun k x hx => hk x.1 (hP k x hx).lt (Nat.not_le.mpr (hP k x hx).lt))
  refine lv_icmp_eq (tgt := 21) hx hb dJ5_inflateIfNeededFor_a7421_14 (by decide) (fun hc => ?_) (fun hc => absurd rfl hc)
  exact z_jvret hx hb hr rfl hS hlocks (Nat.le_of_ble_eq_true rfl) (Nat.le_of_ble_eq_true rfl) dJ5_inflateIfNeededFor_a7421_21

set_option maxHeartbeats 4000000 in
set_option maxRecDepth 100000 in
theorem cj_J0_getBytes_840e7 (l : Launch) (hfl : l.flags = flags0) (D : va_G) (Y : Nat → ClassId) (S V : Nat → Nat) (A : Nat → Prop) (b q cap : Nat) (mL n : Int32) (a : Nat → Int32) (qs vs len : Nat) (byt : Nat → Int32) (off : Nat) (hD : va_D A ([(b, .inr (4, [.ref q, .int 0, .int mL, .int n])), (q, .inl (Y 1, cap, .inl a))] : va_W)) (h1 : off + len ≤ cap) (h2 : cap ≤ 600) (hf : sb_Fit byt) : zMJ l yJ0_getBytes_840e7 cJ0_getBytes_840e7 4 none 2 0 0 D Y S V A [.ref qs, .ref q, .int (nI off), .int 0] (fun U => va_P D vwCl [(b, .inr (4, [.ref q, .int 0, .int mL, .int n])), (q, .inl (Y 1, cap, .inl a))] U.heap ∧ zS1 (len) (byt) (qs) (vs) A U U.heap) (fun v H => v = none ∧ va_P D vwCl (zsb Y b q cap mL n (va_cpy byt a 0 off len)) H ∧ va_D A (zsb Y b q cap mL n (va_cpy byt a 0 off len))) := by
  refine zMJ.ofW hfl (by decide) (fun p e s m args below meth c ha F hr hlocks hin hP => ?_)
  subst ha
  obtain ⟨hx, hb, hml, hown, hts, hl9, hJ, hA⟩ := id F
  have ok : ∀ w ∈ zWS, w.before ([.ref qs, .ref q, .int (nI off), .int 0] : List Value).toArray s = true := fun w h => hts w (List.mem_cons_of_mem _ h)
  have hK := hJ.1
  have hS : va_S A s.heap s.heap [] := va_S.rf
  have hl := lv_entry ([.ref qs, .ref q, .int (nI off), .int 0]) (n := 4) (Nat.le_of_ble_eq_true rfl)
  rw [lg_entry_eq]
  generalize (lg_sl ([.ref qs, .ref q, .int (nI off), .int 0]) ++ List.replicate (4 - (lg_sl ([.ref qs, .ref q, .int (nI off), .int 0])).length) Slot.unset).toArray = ls at hl ⊢
  have hl : lv_has ls 4 [(0, .ref qs), (1, .ref q), (2, .int (nI off)), (3, .int 0)] := hl
  obtain ⟨hP, hX⟩ := hP
  refine lv_aload_n hx hb dJ0_getBytes_840e7_0 rfl (lv_at hl 0 rfl) ?_
  refine z_jV (As := []) (rest := []) F kj_J0_coder_7d493 mj_219 (cj_J0_coder_7d493 l hfl D Y S V (fun q => _ ≤ q) qs vs len byt) (fun _ U _ _ h => ⟨h.1, zS1.go h.2 (Vm.Alike.refl _) (fun _ _ _ => rfl)⟩) (fun U hU hW => ⟨trivial, by rw [hU]; exact (hX.go hW.alike hS.2.1).narrow (fun q h => hA q (Nat.le_trans hS.1 h))⟩) (va_Orecv hX.1 hS) hS (fun q h => hA q (Nat.le_trans hS.1 h)) (fun _ h => h) rfl rfl hl.1 (Nat.le_of_ble_eq_true rfl) dJ0_getBytes_840e7_1 (Nat.le_of_ble_eq_true rfl) ⟨(Nat.le_of_ble_eq_true rfl), (Nat.le_of_ble_eq_true rfl)⟩ rfl (fun v H1 locs hp hz hk hS => ?_)
  subst hp
  have hP := hP.kept (fun k x hx => hk x.1 (hP k x hx).lt (Nat.not_le.mpr (hP k x hx).lt))
  refine lv_iload_n hx hb dJ0_getBytes_840e7_4 rfl (lv_at hl 3 rfl) ?_
  refine lv_icmp_ne (tgt := 28) hx hb dJ0_getBytes_840e7_5 (by decide) (fun hc => absurd rfl hc) (fun hc => ?_)
  refine lv_aload_n hx hb dJ0_getBytes_840e7_8 rfl (lv_at hl 0 rfl) ?_
  refine vk_getf hx hb hX.2.2.1 hS hown (ok _ mj_978) (fun _ h => h) dJ0_getBytes_840e7_9 ?_
  refine lv_iconst (v := 0) hx hb dJ0_getBytes_840e7_12 (by decide) ?_
  refine lv_aload_n hx hb dJ0_getBytes_840e7_13 rfl (lv_at hl 1 rfl) ?_
  refine lv_iload_n hx hb dJ0_getBytes_840e7_14 rfl (lv_at hl 2 rfl) ?_
  refine lv_iload_n hx hb dJ0_getBytes_840e7_15 rfl (lv_at hl 3 rfl) ?_
  refine lv_ishl hx hb dJ0_getBytes_840e7_16 ?_
  refine z_topi (x := (nI off)) (sb_shl0 _).symm ?_
  refine lv_aload_n hx hb dJ0_getBytes_840e7_17 rfl (lv_at hl 0 rfl) ?_
  refine vk_getf hx hb hX.2.2.1 hS hown (ok _ mj_978) (fun _ h => h) dJ0_getBytes_840e7_18 ?_
  refine va_tlen (v := nI len) hx hb hX.2.2.2 hS rfl dJ0_getBytes_840e7_21 ?_
  refine z_copyT hx hb (hml.trans hl.1.symm) hown (ok _ mj_863) (ok _ mj_446) (ok _ mj_445) (ok _ mj_41) hK.1 hP hD hS hX.2.2.2 hf 1 1 rfl rfl (by decide) (nI_pos (by omega)) (nI_pos (by omega)) (by rw [sb_cl0, nI_clamp (by omega)]; omega) (by rw [nI_clamp (by omega), nI_clamp (by omega)]; omega) (by show 1 ≤ 2; decide) (by show 0 + (nativeFrameWords "java/lang/System" "arraycopy" 5 + 11) ≤ 37 * 2; have : nativeFrameWords "java/lang/System" "arraycopy" 5 ≤ 50 := (by decide +kernel); (try simp only [List.map_nil, List.sum_nil]); omega) dJ0_getBytes_840e7_22 (fun H locs hP hD hS => ?_)
  rw [sb_cl0, nI_clamp (by omega), nI_clamp (by omega)] at hP hD
  refine lv_goto (tgt := 43) hx hb dJ0_getBytes_840e7_25 (by decide) ?_
  exact z_jvret hx hb hr ⟨rfl, hP, hD⟩ hS hlocks (Nat.le_of_ble_eq_true rfl) (Nat.le_of_ble_eq_true rfl) dJ0_getBytes_840e7_43

set_option maxHeartbeats 4000000 in
set_option maxRecDepth 100000 in
theorem cj_J5_putStringAt_47b60 (l : Launch) (hfl : l.flags = flags0) (D : va_G) (Y : Nat → ClassId) (S V : Nat → Nat) (A : Nat → Prop) (b q cap : Nat) (mL n : Int32) (a : Nat → Int32) (qs vs len : Nat) (byt : Nat → Int32) (off : Nat) (hD : va_D A ([(b, .inr (4, [.ref q, .int 0, .int mL, .int n])), (q, .inl (Y 1, cap, .inl a))] : va_W)) (h1 : off + len ≤ cap) (h2 : cap ≤ 600) (hf : sb_Fit byt) : zMJ l yJ5_putStringAt_47b60 cJ5_putStringAt_47b60 3 none 3 0 0 D Y S V A [.ref b, .int (nI off), .ref qs] (fun U => va_P D vwCl [(b, .inr (4, [.ref q, .int 0, .int mL, .int n])), (q, .inl (Y 1, cap, .inl a))] U.heap ∧ zS1 (len) (byt) (qs) (vs) A U U.heap) (fun v H => v = none ∧ va_P D vwCl (zsb Y b q cap mL n (va_cpy byt a 0 off len)) H ∧ va_D A (zsb Y b q cap mL n (va_cpy byt a 0 off len))) := by
  refine zMJ.ofW hfl (by decide) (fun p e s m args below meth c ha F hr hlocks hin hP => ?_)
  subst ha
  obtain ⟨hx, hb, hml, hown, hts, hl9, hJ, hA⟩ := id F
  have ok : ∀ w ∈ zWS, w.before ([.ref b, .int (nI off), .ref qs] : List Value).toArray s = true := fun w h => hts w (List.mem_cons_of_mem _ h)
  have hK := hJ.1
  have hS : va_S A s.heap s.heap [] := va_S.rf
  have hl := lv_entry ([.ref b, .int (nI off), .ref qs]) (n := 3) (Nat.le_of_ble_eq_true rfl)
  rw [lg_entry_eq]
  generalize (lg_sl ([.ref b, .int (nI off), .ref qs]) ++ List.replicate (3 - (lg_sl ([.ref b, .int (nI off), .ref qs])).length) Slot.unset).toArray = ls at hl ⊢
  have hl : lv_has ls 3 [(0, .ref b), (1, .int (nI off)), (2, .ref qs)] := hl
  obtain ⟨hP, hX⟩ := hP
  refine lv_aload_n hx hb dJ5_putStringAt_47b60_0 rfl (lv_at hl 0 rfl) ?_
  refine lv_aload_n hx hb dJ5_putStringAt_47b60_1 rfl (lv_at hl 2 rfl) ?_
  refine z_jP (As := [.ref qs]) (rest := []) F kp_J5_inflateIfNeededFor_a7421 mj_836 (cj_J5_inflateIfNeededFor_a7421 l hfl D Y S V (fun q => _ ≤ q) b q cap mL n a qs vs len byt) (fun _ U _ _ h => ⟨h.1, zS1.go h.2 (Vm.Alike.refl _) (fun _ _ _ => rfl)⟩) (fun U hU hW => ⟨(by rw [hU]; exact hP), by rw [hU]; exact (hX.go hW.alike hS.2.1).narrow (fun q h => hA q (Nat.le_trans hS.1 h))⟩) (va_recv hK.1 hP rfl (q0 := 0) rfl) hS (fun q h => hA q (Nat.le_trans hS.1 h)) (fun _ h => h) rfl rfl hl.1 (Nat.le_of_ble_eq_true rfl) dJ5_putStringAt_47b60_2 (Nat.le_of_ble_eq_true rfl) ⟨(Nat.le_of_ble_eq_true rfl), (Nat.le_of_ble_eq_true rfl)⟩ rfl (fun v H1 locs hp hz hk hS => ?_)
  subst hp
  have hP := hP.kept (fun k x hx => hk x.1 (hP k x hx).lt (Nat.not_le.mpr (hP k x hx).lt))
  refine lv_aload_n hx hb dJ5_putStringAt_47b60_5 rfl (lv_at hl 2 rfl) ?_
  refine lv_aload_n hx hb dJ5_putStringAt_47b60_6 rfl (lv_at hl 0 rfl) ?_
  refine va_get hx hb hts (fun w h => List.mem_cons_of_mem _ (ziJ4 w h)) hown hK.1 hP 0 rfl rfl 0 (by decide) (ok _ mj_865) (fun _ h => h) rfl dJ5_putStringAt_47b60_7 ?_
  refine lv_iload_n hx hb dJ5_putStringAt_47b60_10 rfl (lv_at hl 1 rfl) ?_
  refine lv_aload_n hx hb dJ5_putStringAt_47b60_11 rfl (lv_at hl 0 rfl) ?_
  refine va_get hx hb hts (fun w h => List.mem_cons_of_mem _ (ziJ4 w h)) hown hK.1 hP 0 rfl rfl 1 (by decide) (ok _ mj_866) (fun _ h => h) rfl dJ5_putStringAt_47b60_12 ?_
  refine z_jV (As := [.ref q, .int (nI off), .int 0]) (rest := []) F kj_J0_getBytes_840e7 mj_859 (cj_J0_getBytes_840e7 l hfl D Y S V A b q cap mL n a qs vs len byt off hD h1 h2 hf) (fun _ U _ _ h => ⟨h.1, zS1.go h.2 (Vm.Alike.refl _) (fun _ _ _ => rfl)⟩) (fun U hU hW => ⟨(by rw [hU]; exact hP), by rw [hU]; exact hX.go hW.alike hS.2.1⟩) (va_Orecv hX.1 hS) hS (fun _ h => h) (fun q h => hA q (Nat.le_trans hS.1 h)) rfl rfl hl.1 (Nat.le_of_ble_eq_true rfl) dJ5_putStringAt_47b60_15 (Nat.le_of_ble_eq_true rfl) ⟨(Nat.le_of_ble_eq_true rfl), (Nat.le_of_ble_eq_true rfl)⟩ rfl (fun v H1 locs hp hz hk hS => ?_)
  obtain ⟨rfl, hP, hD⟩ := hp
  exact z_jvret hx hb hr ⟨rfl, hP, hD⟩ hS hlocks (Nat.le_of_ble_eq_true rfl) (Nat.le_of_ble_eq_true rfl) dJ5_putStringAt_47b60_18

set_option maxHeartbeats 4000000 in
set_option maxRecDepth 100000 in
theorem cj_J5_append_cf1ce (l : Launch) (hfl : l.flags = flags0) (D : va_G) (Y : Nat → ClassId) (S V : Nat → Nat) (A : Nat → Prop) (b : Nat) (mL : Int32) (t : List Nat) (u : List Nat) (qs vs len : Nat) (byt : Nat → Int32) (hu1 : ∀ x ∈ u, x < 128) (hu2 : len = u.length) (hu3 : ∀ j, j < len → byt j = nI (u.getD j 0)) (hu4 : t.length + len ≤ 300) (hu5 : sb_Fit byt) : zMJ l yJ5_append_cf1ce cJ5_append_cf1ce 3 (some (.object "java/lang/AbstractStringBuilder")) 4 1 600 D Y S V A [.ref b, .ref qs] (fun U => zSB D Y A b mL t U.heap ∧ zS1 (len) (byt) (qs) (vs) A U U.heap) (fun v H => v = some (.ref b) ∧ zSB D Y A b mL (t ++ u) H) := by
  refine zMJ.ofW hfl (by decide) (fun p e s m args below meth c ha F hr hlocks hin hP => ?_)
  subst ha
  obtain ⟨hx, hb, hml, hown, hts, hl9, hJ, hA⟩ := id F
  have ok : ∀ w ∈ zWS, w.before ([.ref b, .ref qs] : List Value).toArray s = true := fun w h => hts w (List.mem_cons_of_mem _ h)
  have hK := hJ.1
  have hS : va_S A s.heap s.heap [] := va_S.rf
  have hl := lv_entry ([.ref b, .ref qs]) (n := 3) (Nat.le_of_ble_eq_true rfl)
  rw [lg_entry_eq]
  generalize (lg_sl ([.ref b, .ref qs]) ++ List.replicate (3 - (lg_sl ([.ref b, .ref qs])).length) Slot.unset).toArray = ls at hl ⊢
  have hl : lv_has ls 3 [(0, .ref b), (1, .ref qs)] := hl
  obtain ⟨⟨q, cap, a, hP, hD, g1, g2, g3, g4⟩, hX⟩ := hP
  have hP : va_P D vwCl [(b, .inr (4, [.ref q, .int 0, .int mL, .int (nI t.length)])), (q, .inl (Y 1, cap, .inl a))] _ := hP
  have hD : va_D A ([(b, .inr (4, [.ref q, .int 0, .int mL, .int (nI t.length)])), (q, .inl (Y 1, cap, .inl a))] : va_W) := hD
  refine lv_aload_n hx hb dJ5_append_cf1ce_0 rfl (lv_at hl 1 rfl) ?_
  refine lv_ifnonnull hx hb (tgt := 9) dJ5_append_cf1ce_1 (by decide) ?_
  refine lv_aload_n hx hb dJ5_append_cf1ce_9 rfl (lv_at hl 1 rfl) ?_
  refine z_jV (As := []) (rest := []) F kj_J0_length_8abf5 mj_755 (cj_J0_length_8abf5 l hfl D Y S V (fun q => _ ≤ q) qs vs len byt) (fun _ U _ _ h => ⟨h.1, zS1.go h.2 (Vm.Alike.refl _) (fun _ _ _ => rfl)⟩) (fun U hU hW => ⟨trivial, by rw [hU]; exact (hX.go hW.alike hS.2.1).narrow (fun q h => hA q (Nat.le_trans hS.1 h))⟩) (va_Orecv hX.1 hS) hS (fun q h => hA q (Nat.le_trans hS.1 h)) (fun _ h => h) rfl rfl hl.1 (Nat.le_of_ble_eq_true rfl) dJ5_append_cf1ce_10 (Nat.le_of_ble_eq_true rfl) ⟨(Nat.le_of_ble_eq_true rfl), (Nat.le_of_ble_eq_true rfl)⟩ rfl (fun v H1 locs hp hz hk hS => ?_)
  subst hp
  have hP := hP.kept (fun k x hx => hk x.1 (hP k x hx).lt (Nat.not_le.mpr (hP k x hx).lt))
  refine lv_istore_n (lv' := [(2, .int (nI len)), (0, .ref b), (1, .ref qs)]) hx hb dJ5_append_cf1ce_13 rfl hl (by decide) rfl (fun ls hl => ?_)
  refine lv_aload_n hx hb dJ5_append_cf1ce_14 rfl (lv_at hl 1 rfl) ?_
  refine lv_aload_n hx hb dJ5_append_cf1ce_15 rfl (lv_at hl 1 rfl) ?_
  refine va_get hx hb hts (fun w h => List.mem_cons_of_mem _ (ziJ4 w h)) hown hK.1 hP 0 rfl rfl 3 (by decide) (ok _ mj_868) (fun _ h => h) rfl dJ5_append_cf1ce_16 ?_
  refine lv_iload_n hx hb dJ5_append_cf1ce_19 rfl (lv_at hl 0 rfl) ?_
  refine lv_iadd hx hb dJ5_append_cf1ce_20 ?_
  refine z_topi (x := (nI (t.length + len))) (nI_add _ _).symm ?_
  refine z_jP (As := [.int (nI (t.length + len))]) (rest := []) F kp_J5_ensureCapacityInternal_d00df mj_783 (cj_J5_ensureCapacityInternal_d00df l hfl D Y S V A b q cap mL (nI t.length) a (t.length + len) hD g1 (by omega) g4) (fun _ _ _ _ h => h) (fun U hU hW => (by rw [hU]; exact hP)) (va_recv hK.1 hP rfl (q0 := 0) rfl) hS (fun _ h => h) (fun q h => hA q (Nat.le_trans hS.1 h)) rfl rfl hl.1 (Nat.le_of_ble_eq_true rfl) dJ5_append_cf1ce_21 (Nat.le_of_ble_eq_true rfl) ⟨(Nat.le_of_ble_eq_true rfl), (Nat.le_of_ble_eq_true rfl)⟩ rfl (fun v H1 locs hp hz hk hS => ?_)
  obtain ⟨rfl, q', cap', a', hP, hD, k1, k2, k3, k4, k5⟩ := hp
  have hP : va_P D vwCl [(b, .inr (4, [.ref q', .int 0, .int mL, .int (nI t.length)])), (q', .inl (Y 1, cap', .inl a'))] _ := hP
  have hD : va_D A ([(b, .inr (4, [.ref q', .int 0, .int mL, .int (nI t.length)])), (q', .inl (Y 1, cap', .inl a'))] : va_W) := hD
  refine lv_aload_n hx hb dJ5_append_cf1ce_24 rfl (lv_at hl 1 rfl) ?_
  refine lv_aload_n hx hb dJ5_append_cf1ce_25 rfl (lv_at hl 1 rfl) ?_
  refine va_get hx hb hts (fun w h => List.mem_cons_of_mem _ (ziJ4 w h)) hown hK.1 hP 0 rfl rfl 3 (by decide) (ok _ mj_868) (fun _ h => h) rfl dJ5_append_cf1ce_26 ?_
  refine lv_aload_n hx hb dJ5_append_cf1ce_29 rfl (lv_at hl 2 rfl) ?_
  refine z_jP (As := [.int (nI t.length), .ref qs]) (rest := []) F kp_J5_putStringAt_47b60 mj_832 (cj_J5_putStringAt_47b60 l hfl D Y S V A b q' cap' mL (nI t.length) a' qs vs len byt t.length hD (by omega) k1 hu5) (fun _ U _ _ h => ⟨h.1, zS1.go h.2 (Vm.Alike.refl _) (fun _ _ _ => rfl)⟩) (fun U hU hW => ⟨(by rw [hU]; exact hP), by rw [hU]; exact hX.go hW.alike hS.2.1⟩) (va_recv hK.1 hP rfl (q0 := 0) rfl) hS (fun _ h => h) (fun q h => hA q (Nat.le_trans hS.1 h)) rfl rfl hl.1 (Nat.le_of_ble_eq_true rfl) dJ5_append_cf1ce_30 (Nat.le_of_ble_eq_true rfl) ⟨(Nat.le_of_ble_eq_true rfl), (Nat.le_of_ble_eq_true rfl)⟩ rfl (fun v H1 locs hp hz hk hS => ?_)
  obtain ⟨rfl, hP, hD⟩ := hp
  have hP : va_P D vwCl [(b, .inr (4, [.ref q', .int 0, .int mL, .int (nI t.length)])), (q', .inl (Y 1, cap', .inl (va_cpy byt a' 0 t.length len)))] _ := hP
  have hD : va_D A ([(b, .inr (4, [.ref q', .int 0, .int mL, .int (nI t.length)])), (q', .inl (Y 1, cap', .inl (va_cpy byt a' 0 t.length len)))] : va_W) := hD
  refine lv_aload_n hx hb dJ5_append_cf1ce_33 rfl (lv_at hl 1 rfl) ?_
  refine lv_dup hx hb dJ5_append_cf1ce_34 rfl ?_
  refine va_get hx hb hts (fun w h => List.mem_cons_of_mem _ (ziJ4 w h)) hown hK.1 hP 0 rfl rfl 3 (by decide) (ok _ mj_868) (fun _ h => h) rfl dJ5_append_cf1ce_35 ?_
  refine lv_iload_n hx hb dJ5_append_cf1ce_38 rfl (lv_at hl 0 rfl) ?_
  refine lv_iadd hx hb dJ5_append_cf1ce_39 ?_
  refine z_topi (x := (nI (t ++ u).length)) (by rw [List.length_append, ← hu2, nI_add]) ?_
  refine va_put hx hb hts (fun w h => List.mem_cons_of_mem _ (ziJ4 w h)) tyJ4 tyJ4_ok nmJ4 hown hK.1 hP hD hS 0 rfl rfl 3 (by decide) (ok _ mj_868) (fun _ h => h) rfl (tyJ4_ok 3 (by decide)) rfl rfl (Nat.le_of_ble_eq_true rfl) dJ5_append_cf1ce_40 (fun H locs hP hD hS => ?_)
  have hP : va_P D vwCl [(b, .inr (4, [.ref q', .int 0, .int mL, .int (nI (t ++ u).length)])), (q', .inl (Y 1, cap', .inl (va_cpy byt a' 0 t.length len)))] _ := hP
  have hD : va_D A ([(b, .inr (4, [.ref q', .int 0, .int mL, .int (nI (t ++ u).length)])), (q', .inl (Y 1, cap', .inl (va_cpy byt a' 0 t.length len)))] : va_W) := hD
  refine lv_aload_n hx hb dJ5_append_cf1ce_43 rfl (lv_at hl 1 rfl) ?_
  exact z_jaret hx hb hr (Or.inl ⟨_, rfl⟩) ⟨rfl, q', cap', _, hP, hD, k1, by rw [List.length_append]; omega, zLat.app g3 (fun j hj => (pk_cpy_out (Or.inl hj)).trans (k4 j (by omega))) hu1 (fun i hi => (pk_cpy_in (by omega) (by omega)).trans ((congrArg byt (by omega)).trans (hu3 i (by omega)))), sb_fitC hu5 k5⟩ hS hlocks (Nat.le_of_ble_eq_true rfl) (Nat.le_of_ble_eq_true rfl) dJ5_append_cf1ce_44

set_option maxHeartbeats 4000000 in
set_option maxRecDepth 100000 in
theorem cj_J4_append_15ec4 (l : Launch) (hfl : l.flags = flags0) (D : va_G) (Y : Nat → ClassId) (S V : Nat → Nat) (A : Nat → Prop) (b : Nat) (mL : Int32) (t : List Nat) (u : List Nat) (qs vs len : Nat) (byt : Nat → Int32) (hu1 : ∀ x ∈ u, x < 128) (hu2 : len = u.length) (hu3 : ∀ j, j < len → byt j = nI (u.getD j 0)) (hu4 : t.length + len ≤ 300) (hu5 : sb_Fit byt) : zMJ l yJ4_append_15ec4 cJ4_append_15ec4 2 (some (.object "java/lang/StringBuilder")) 5 1 600 D Y S V A [.ref b, .ref qs] (fun U => zSB D Y A b mL t U.heap ∧ zS1 (len) (byt) (qs) (vs) A U U.heap) (fun v H => v = some (.ref b) ∧ zSB D Y A b mL (t ++ u) H) := by
  refine zMJ.ofW hfl (by decide) (fun p e s m args below meth c ha F hr hlocks hin hP => ?_)
  subst ha
  obtain ⟨hx, hb, hml, hown, hts, hl9, hJ, hA⟩ := id F
  have ok : ∀ w ∈ zWS, w.before ([.ref b, .ref qs] : List Value).toArray s = true := fun w h => hts w (List.mem_cons_of_mem _ h)
  have hK := hJ.1
  have hS : va_S A s.heap s.heap [] := va_S.rf
  have hl := lv_entry ([.ref b, .ref qs]) (n := 2) (Nat.le_of_ble_eq_true rfl)
  rw [lg_entry_eq]
  generalize (lg_sl ([.ref b, .ref qs]) ++ List.replicate (2 - (lg_sl ([.ref b, .ref qs])).length) Slot.unset).toArray = ls at hl ⊢
  have hl : lv_has ls 2 [(0, .ref b), (1, .ref qs)] := hl
  obtain ⟨⟨q, cap, a, hP, hD, g1, g2, g3, g4⟩, hX⟩ := hP
  have hP : va_P D vwCl [(b, .inr (4, [.ref q, .int 0, .int mL, .int (nI t.length)])), (q, .inl (Y 1, cap, .inl a))] _ := hP
  have hD : va_D A ([(b, .inr (4, [.ref q, .int 0, .int mL, .int (nI t.length)])), (q, .inl (Y 1, cap, .inl a))] : va_W) := hD
  refine lv_aload_n hx hb dJ4_append_15ec4_0 rfl (lv_at hl 0 rfl) ?_
  refine lv_aload_n hx hb dJ4_append_15ec4_1 rfl (lv_at hl 1 rfl) ?_
  refine z_jSU (As := [.ref qs]) (rest := []) F ks_J5_append_cf1ce mj_776 (cj_J5_append_cf1ce l hfl D Y S V A b mL t u qs vs len byt hu1 hu2 hu3 hu4 hu5) (fun _ U _ _ h => ⟨h.1, zS1.go h.2 (Vm.Alike.refl _) (fun _ _ _ => rfl)⟩) (fun U hU hW => ⟨(by rw [hU]; exact ⟨q, cap, a, hP, hD, g1, g2, g3, g4⟩), by rw [hU]; exact hX.go hW.alike hS.2.1⟩) (hK.1.1 4 _ rfl).2 (va_recv hK.1 hP rfl (q0 := 0) rfl) hS (fun _ h => h) (fun q h => hA q (Nat.le_trans hS.1 h)) rfl rfl hl.1 (Nat.le_of_ble_eq_true rfl) dJ4_append_15ec4_2 (Nat.le_of_ble_eq_true rfl) ⟨(Nat.le_of_ble_eq_true rfl), (Nat.le_of_ble_eq_true rfl)⟩ rfl (fun v H1 locs hp hz hk hS => ?_)
  obtain ⟨rfl, hp⟩ := hp
  refine lv_pop hx hb dJ4_append_15ec4_5 rfl ?_
  refine lv_aload_n hx hb dJ4_append_15ec4_6 rfl (lv_at hl 0 rfl) ?_
  exact z_jaret hx hb hr (Or.inl ⟨_, rfl⟩) ⟨rfl, hp⟩ hS hlocks (Nat.le_of_ble_eq_true rfl) (Nat.le_of_ble_eq_true rfl) dJ4_append_15ec4_7

set_option maxHeartbeats 4000000 in
set_option maxRecDepth 100000 in
theorem cj_J4_append_cf1ce (l : Launch) (hfl : l.flags = flags0) (D : va_G) (Y : Nat → ClassId) (S V : Nat → Nat) (A : Nat → Prop) (b : Nat) (mL : Int32) (t : List Nat) (u : List Nat) (qs vs len : Nat) (byt : Nat → Int32) (hu1 : ∀ x ∈ u, x < 128) (hu2 : len = u.length) (hu3 : ∀ j, j < len → byt j = nI (u.getD j 0)) (hu4 : t.length + len ≤ 300) (hu5 : sb_Fit byt) : zMJ l yJ4_append_cf1ce cJ4_append_cf1ce 2 (some (.object "java/lang/AbstractStringBuilder")) 6 1 600 D Y S V A [.ref b, .ref qs] (fun U => zSB D Y A b mL t U.heap ∧ zS1 (len) (byt) (qs) (vs) A U U.heap) (fun v H => v = some (.ref b) ∧ zSB D Y A b mL (t ++ u) H) := by
  refine zMJ.ofW hfl (by decide) (fun p e s m args below meth c ha F hr hlocks hin hP => ?_)
  subst ha
  obtain ⟨hx, hb, hml, hown, hts, hl9, hJ, hA⟩ := id F
  have ok : ∀ w ∈ zWS, w.before ([.ref b, .ref qs] : List Value).toArray s = true := fun w h => hts w (List.mem_cons_of_mem _ h)
  have hK := hJ.1
  have hS : va_S A s.heap s.heap [] := va_S.rf
  have hl := lv_entry ([.ref b, .ref qs]) (n := 2) (Nat.le_of_ble_eq_true rfl)
  rw [lg_entry_eq]
  generalize (lg_sl ([.ref b, .ref qs]) ++ List.replicate (2 - (lg_sl ([.ref b, .ref qs])).length) Slot.unset).toArray = ls at hl ⊢
  have hl : lv_has ls 2 [(0, .ref b), (1, .ref qs)] := hl
  obtain ⟨⟨q, cap, a, hP, hD, g1, g2, g3, g4⟩, hX⟩ := hP
  have hP : va_P D vwCl [(b, .inr (4, [.ref q, .int 0, .int mL, .int (nI t.length)])), (q, .inl (Y 1, cap, .inl a))] _ := hP
  have hD : va_D A ([(b, .inr (4, [.ref q, .int 0, .int mL, .int (nI t.length)])), (q, .inl (Y 1, cap, .inl a))] : va_W) := hD
  refine lv_aload_n hx hb dJ4_append_cf1ce_0 rfl (lv_at hl 0 rfl) ?_
  refine lv_aload_n hx hb dJ4_append_cf1ce_1 rfl (lv_at hl 1 rfl) ?_
  refine z_jV (As := [.ref qs]) (rest := []) F kj_J4_append_15ec4 mj_772 (cj_J4_append_15ec4 l hfl D Y S V A b mL t u qs vs len byt hu1 hu2 hu3 hu4 hu5) (fun _ U _ _ h => ⟨h.1, zS1.go h.2 (Vm.Alike.refl _) (fun _ _ _ => rfl)⟩) (fun U hU hW => ⟨(by rw [hU]; exact ⟨q, cap, a, hP, hD, g1, g2, g3, g4⟩), by rw [hU]; exact hX.go hW.alike hS.2.1⟩) (va_recv hK.1 hP rfl (q0 := 0) rfl) hS (fun _ h => h) (fun q h => hA q (Nat.le_trans hS.1 h)) rfl rfl hl.1 (Nat.le_of_ble_eq_true rfl) dJ4_append_cf1ce_2 (Nat.le_of_ble_eq_true rfl) ⟨(Nat.le_of_ble_eq_true rfl), (Nat.le_of_ble_eq_true rfl)⟩ rfl (fun v H1 locs hp hz hk hS => ?_)
  obtain ⟨rfl, hp⟩ := hp
  exact z_jaret hx hb hr (Or.inl ⟨_, rfl⟩) ⟨rfl, hp⟩ hS hlocks (Nat.le_of_ble_eq_true rfl) (Nat.le_of_ble_eq_true rfl) dJ4_append_cf1ce_5

set_option maxHeartbeats 4000000 in
set_option maxRecDepth 100000 in
theorem cj_J5_append_3fe6f (l : Launch) (hfl : l.flags = flags0) (D : va_G) (Y : Nat → ClassId) (S V : Nat → Nat) (A : Nat → Prop) (b : Nat) (mL : Int32) (t : List Nat) (x : Nat) (hu1 : x < 128) (hu4 : t.length + 1 ≤ 300) : zMJ l yJ5_append_3fe6f cJ5_append_3fe6f 2 (some (.object "java/lang/AbstractStringBuilder")) 4 1 600 D Y S V A [.ref b, .int (nI x)] (fun U => zSB D Y A b mL t U.heap) (fun v H => v = some (.ref b) ∧ zSB D Y A b mL (t ++ [x]) H) := by
  refine zMJ.ofW hfl (by decide) (fun p e s m args below meth c ha F hr hlocks hin hP => ?_)
  subst ha
  obtain ⟨hx, hb, hml, hown, hts, hl9, hJ, hA⟩ := id F
  have ok : ∀ w ∈ zWS, w.before ([.ref b, .int (nI x)] : List Value).toArray s = true := fun w h => hts w (List.mem_cons_of_mem _ h)
  have hK := hJ.1
  have hS : va_S A s.heap s.heap [] := va_S.rf
  have hl := lv_entry ([.ref b, .int (nI x)]) (n := 2) (Nat.le_of_ble_eq_true rfl)
  rw [lg_entry_eq]
  generalize (lg_sl ([.ref b, .int (nI x)]) ++ List.replicate (2 - (lg_sl ([.ref b, .int (nI x)])).length) Slot.unset).toArray = ls at hl ⊢
  have hl : lv_has ls 2 [(0, .ref b), (1, .int (nI x))] := hl
  obtain ⟨q, cap, a, hP, hD, g1, g2, g3, g4⟩ := hP
  have hP : va_P D vwCl [(b, .inr (4, [.ref q, .int 0, .int mL, .int (nI t.length)])), (q, .inl (Y 1, cap, .inl a))] _ := hP
  have hD : va_D A ([(b, .inr (4, [.ref q, .int 0, .int mL, .int (nI t.length)])), (q, .inl (Y 1, cap, .inl a))] : va_W) := hD
  refine lv_aload_n hx hb dJ5_append_3fe6f_0 rfl (lv_at hl 0 rfl) ?_
  refine lv_aload_n hx hb dJ5_append_3fe6f_1 rfl (lv_at hl 0 rfl) ?_
  refine va_get hx hb hts (fun w h => List.mem_cons_of_mem _ (ziJ4 w h)) hown hK.1 hP 0 rfl rfl 3 (by decide) (ok _ mj_868) (fun _ h => h) rfl dJ5_append_3fe6f_2 ?_
  refine lv_iconst (v := 1) hx hb dJ5_append_3fe6f_5 (by decide) ?_
  refine lv_iadd hx hb dJ5_append_3fe6f_6 ?_
  refine z_topi (x := (nI (t.length + 1))) (nI_1 _).symm ?_
  refine z_jP (As := [.int (nI (t.length + 1))]) (rest := []) F kp_J5_ensureCapacityInternal_d00df mj_783 (cj_J5_ensureCapacityInternal_d00df l hfl D Y S V A b q cap mL (nI t.length) a (t.length + 1) hD g1 (by omega) g4) (fun _ _ _ _ h => h) (fun U hU hW => (by rw [hU]; exact hP)) (va_recv hK.1 hP rfl (q0 := 0) rfl) hS (fun _ h => h) (fun q h => hA q (Nat.le_trans hS.1 h)) rfl rfl hl.1 (Nat.le_of_ble_eq_true rfl) dJ5_append_3fe6f_7 (Nat.le_of_ble_eq_true rfl) ⟨(Nat.le_of_ble_eq_true rfl), (Nat.le_of_ble_eq_true rfl)⟩ rfl (fun v H1 locs hp hz hk hS => ?_)
  obtain ⟨rfl, q', cap', a', hP, hD, k1, k2, k3, k4, k5⟩ := hp
  have hP : va_P D vwCl [(b, .inr (4, [.ref q', .int 0, .int mL, .int (nI t.length)])), (q', .inl (Y 1, cap', .inl a'))] _ := hP
  have hD : va_D A ([(b, .inr (4, [.ref q', .int 0, .int mL, .int (nI t.length)])), (q', .inl (Y 1, cap', .inl a'))] : va_W) := hD
  refine lv_aload_n hx hb dJ5_append_3fe6f_10 rfl (lv_at hl 0 rfl) ?_
  refine z_jU (As := []) (rest := []) F ku_J5_isLatin1_aae02 mj_811 (cj_J5_isLatin1_aae02 l hfl D Y S V (fun q => _ ≤ q) b q' cap' mL (nI t.length) a') (fun _ _ _ _ h => h) (fun U hU _ => by rw [hU]; exact hP) (va_recv hK.1 hP rfl (q0 := 0) rfl) hS (fun q h => hA q (Nat.le_trans hS.1 h)) (fun _ h => h) rfl rfl hl.1 (Nat.le_of_ble_eq_true rfl) dJ5_append_3fe6f_11 (Nat.le_of_ble_eq_true rfl) ⟨(Nat.le_of_ble_eq_true rfl), (Nat.le_of_ble_eq_true rfl)⟩ rfl (fun v H1 locs hp hz hk hS => ?_)
  subst hp
  have hP := hP.kept (fun k x hx => hk x.1 (hP k x hx).lt (Nat.not_le.mpr (hP k x hx).lt))
  refine lv_if_eq (tgt := 45) hx hb dJ5_append_3fe6f_14 (by decide) (fun hc => absurd hc (by decide)) (fun hc => ?_)
  refine lv_iload_n hx hb dJ5_append_3fe6f_17 rfl (lv_at hl 1 rfl) ?_
  refine z_jS (As := [.int (nI x)]) (rest := []) F kj_J1_canEncode_fc78d mj_909 (cj_J1_canEncode_fc78d l hfl D Y S V (fun q => _ ≤ q) x (by omega)) (fun _ _ _ _ h => h) (fun U hU _ => trivial) hS (fun q h => hA q (Nat.le_trans hS.1 h)) (fun _ h => h) rfl rfl hl.1 (Nat.le_of_ble_eq_true rfl) dJ5_append_3fe6f_18 (Nat.le_of_ble_eq_true rfl) ⟨(Nat.le_of_ble_eq_true rfl), (Nat.le_of_ble_eq_true rfl)⟩ rfl (fun v H1 locs hp hz hk hS => ?_)
  subst hp
  have hP := hP.kept (fun k x hx => hk x.1 (hP k x hx).lt (Nat.not_le.mpr (hP k x hx).lt))
  refine lv_if_eq (tgt := 45) hx hb dJ5_append_3fe6f_21 (by decide) (fun hc => absurd hc (by decide)) (fun hc => ?_)
  refine lv_aload_n hx hb dJ5_append_3fe6f_24 rfl (lv_at hl 0 rfl) ?_
  refine va_get hx hb hts (fun w h => List.mem_cons_of_mem _ (ziJ4 w h)) hown hK.1 hP 0 rfl rfl 0 (by decide) (ok _ mj_865) (fun _ h => h) rfl dJ5_append_3fe6f_25 ?_
  refine lv_aload_n hx hb dJ5_append_3fe6f_28 rfl (lv_at hl 0 rfl) ?_
  refine lv_dup hx hb dJ5_append_3fe6f_29 rfl ?_
  refine va_get hx hb hts (fun w h => List.mem_cons_of_mem _ (ziJ4 w h)) hown hK.1 hP 0 rfl rfl 3 (by decide) (ok _ mj_868) (fun _ h => h) rfl dJ5_append_3fe6f_30 ?_
  refine lv_dup_x1 hx hb dJ5_append_3fe6f_33 rfl rfl ?_
  refine lv_iconst (v := 1) hx hb dJ5_append_3fe6f_34 (by decide) ?_
  refine lv_iadd hx hb dJ5_append_3fe6f_35 ?_
  refine z_topi (x := (nI (t ++ [x]).length)) (by rw [List.length_append]; exact (nI_1 _).symm) ?_
  refine va_put hx hb hts (fun w h => List.mem_cons_of_mem _ (ziJ4 w h)) tyJ4 tyJ4_ok nmJ4 hown hK.1 hP hD hS 0 rfl rfl 3 (by decide) (ok _ mj_868) (fun _ h => h) rfl (tyJ4_ok 3 (by decide)) rfl rfl (Nat.le_of_ble_eq_true rfl) dJ5_append_3fe6f_36 (fun H locs hP hD hS => ?_)
  have hP : va_P D vwCl [(b, .inr (4, [.ref q', .int 0, .int mL, .int (nI (t ++ [x]).length)])), (q', .inl (Y 1, cap', .inl a'))] _ := hP
  have hD : va_D A ([(b, .inr (4, [.ref q', .int 0, .int mL, .int (nI (t ++ [x]).length)])), (q', .inl (Y 1, cap', .inl a'))] : va_W) := hD
  refine lv_iload_n hx hb dJ5_append_3fe6f_39 rfl (lv_at hl 1 rfl) ?_
  refine lv_i2b hx hb dJ5_append_3fe6f_40 rfl ?_
  refine z_topi (x := (nI x)) (zsmall hu1).symm ?_
  refine va_bast hx hb hK.1 hP hD hS 1 1 rfl rfl (nI_in (by omega) (by omega)) dJ5_append_3fe6f_41 (fun H locs hP hD hS => ?_)
  rw [nI_clamp (by omega), znar hu1] at hP hD
  refine lv_goto (tgt := 75) hx hb dJ5_append_3fe6f_42 (by decide) ?_
  refine lv_aload_n hx hb dJ5_append_3fe6f_75 rfl (lv_at hl 0 rfl) ?_
  exact z_jaret hx hb hr (Or.inl ⟨_, rfl⟩) ⟨rfl, q', cap', _, hP, hD, k1, by rw [List.length_append]; exact k2, zLat.app (u := [x]) g3 (fun j hj => (pk_un (by omega)).trans (k4 j (by omega))) (fun y hy => by rw [List.mem_singleton.mp hy]; exact hu1) (fun i hi => by obtain rfl : i = 0 := (by have : i < 1 := hi; omega); exact pk_us), sb_fitU k5 (zfit hu1)⟩ hS hlocks (Nat.le_of_ble_eq_true rfl) (Nat.le_of_ble_eq_true rfl) dJ5_append_3fe6f_76

set_option maxHeartbeats 4000000 in
set_option maxRecDepth 100000 in
theorem cj_J4_append_cf468 (l : Launch) (hfl : l.flags = flags0) (D : va_G) (Y : Nat → ClassId) (S V : Nat → Nat) (A : Nat → Prop) (b : Nat) (mL : Int32) (t : List Nat) (x : Nat) (hu1 : x < 128) (hu4 : t.length + 1 ≤ 300) : zMJ l yJ4_append_cf468 cJ4_append_cf468 2 (some (.object "java/lang/StringBuilder")) 5 1 600 D Y S V A [.ref b, .int (nI x)] (fun U => zSB D Y A b mL t U.heap) (fun v H => v = some (.ref b) ∧ zSB D Y A b mL (t ++ [x]) H) := by
  refine zMJ.ofW hfl (by decide) (fun p e s m args below meth c ha F hr hlocks hin hP => ?_)
  subst ha
  obtain ⟨hx, hb, hml, hown, hts, hl9, hJ, hA⟩ := id F
  have ok : ∀ w ∈ zWS, w.before ([.ref b, .int (nI x)] : List Value).toArray s = true := fun w h => hts w (List.mem_cons_of_mem _ h)
  have hK := hJ.1
  have hS : va_S A s.heap s.heap [] := va_S.rf
  have hl := lv_entry ([.ref b, .int (nI x)]) (n := 2) (Nat.le_of_ble_eq_true rfl)
  rw [lg_entry_eq]
  generalize (lg_sl ([.ref b, .int (nI x)]) ++ List.replicate (2 - (lg_sl ([.ref b, .int (nI x)])).length) Slot.unset).toArray = ls at hl ⊢
  have hl : lv_has ls 2 [(0, .ref b), (1, .int (nI x))] := hl
  obtain ⟨q, cap, a, hP, hD, g1, g2, g3, g4⟩ := hP
  have hP : va_P D vwCl [(b, .inr (4, [.ref q, .int 0, .int mL, .int (nI t.length)])), (q, .inl (Y 1, cap, .inl a))] _ := hP
  have hD : va_D A ([(b, .inr (4, [.ref q, .int 0, .int mL, .int (nI t.length)])), (q, .inl (Y 1, cap, .inl a))] : va_W) := hD
  refine lv_aload_n hx hb dJ4_append_cf468_0 rfl (lv_at hl 0 rfl) ?_
  refine lv_iload_n hx hb dJ4_append_cf468_1 rfl (lv_at hl 1 rfl) ?_
  refine z_jSU (As := [.int (nI x)]) (rest := []) F ks_J5_append_3fe6f mj_906 (cj_J5_append_3fe6f l hfl D Y S V A b mL t x hu1 hu4) (fun _ _ _ _ h => h) (fun U hU hW => (by rw [hU]; exact ⟨q, cap, a, hP, hD, g1, g2, g3, g4⟩)) (hK.1.1 4 _ rfl).2 (va_recv hK.1 hP rfl (q0 := 0) rfl) hS (fun _ h => h) (fun q h => hA q (Nat.le_trans hS.1 h)) rfl rfl hl.1 (Nat.le_of_ble_eq_true rfl) dJ4_append_cf468_2 (Nat.le_of_ble_eq_true rfl) ⟨(Nat.le_of_ble_eq_true rfl), (Nat.le_of_ble_eq_true rfl)⟩ rfl (fun v H1 locs hp hz hk hS => ?_)
  obtain ⟨rfl, hp⟩ := hp
  refine lv_pop hx hb dJ4_append_cf468_5 rfl ?_
  refine lv_aload_n hx hb dJ4_append_cf468_6 rfl (lv_at hl 0 rfl) ?_
  exact z_jaret hx hb hr (Or.inl ⟨_, rfl⟩) ⟨rfl, hp⟩ hS hlocks (Nat.le_of_ble_eq_true rfl) (Nat.le_of_ble_eq_true rfl) dJ4_append_cf468_7
