/-! THE JDK'S OWN METHODS over texts, by program: builders and strings made -/
theorem mj_35 : Cond.initialized RJ0 ∈ zWS := zws_in 35 (by decide +kernel) (by decide +kernel)
theorem mj_59 : Cond.instanceMethod objectInit ∈ zWS := zws_in 59 (by decide +kernel) (by decide +kernel)
theorem mj_60 : Cond.code objectInit ⟨#[0xb1]⟩ 1 none ∈ zWS := zws_in 60 (by decide +kernel) (by decide +kernel)
theorem mj_751 : Cond.methodLink RJ4 7 yJ5_init_a7421 ∈ zWS := zws_in 751 (by decide +kernel) (by decide +kernel)
theorem mj_754 : Cond.methodLink RJ5 3 objectInit ∈ zWS := zws_in 754 (by decide +kernel) (by decide +kernel)
theorem mj_756 : Cond.constant RJ5 38 (2147483631) ∈ zWS := zws_in 756 (by decide +kernel) (by decide +kernel)
theorem mj_766 : Cond.methodLink RJ5 43 yJ5_append_cf1ce ∈ zWS := zws_in 766 (by decide +kernel) (by decide +kernel)
theorem mj_802 : Cond.methodLink RJ7 310 (⟨"[B", "clone", "()Ljava/lang/Object;"⟩ : MethodName) ∈ zWS := zws_in 802 (by decide +kernel) (by decide +kernel)
theorem mj_803 : Cond.sameMethod "[B" "java/lang/Object" "clone" "()Ljava/lang/Object;" ∈ zWS := zws_in 803 (by decide +kernel) (by decide +kernel)
theorem mj_804 : Cond.native (⟨"java/lang/Object", "clone", "()Ljava/lang/Object;"⟩ : MethodName) ∈ zWS := zws_in 804 (by decide +kernel) (by decide +kernel)
theorem mj_805 : Cond.instanceMethod (⟨"java/lang/Object", "clone", "()Ljava/lang/Object;"⟩ : MethodName) ∈ zWS := zws_in 805 (by decide +kernel) (by decide +kernel)
theorem mj_806 : Cond.selects "[B" (⟨"[B", "clone", "()Ljava/lang/Object;"⟩ : MethodName) (⟨"java/lang/Object", "clone", "()Ljava/lang/Object;"⟩ : MethodName) ∈ zWS := zws_in 806 (by decide +kernel) (by decide +kernel)
theorem mj_808 : Cond.classLink RJ7 311 "[B" ∈ zWS := zws_in 808 (by decide +kernel) (by decide +kernel)
theorem mj_923 : Cond.classLink RJ4 18 RJ0 ∈ zWS := zws_in 923 (by decide +kernel) (by decide +kernel)
theorem mj_924 : Cond.instantiable RJ0 4 ∈ zWS := zws_in 924 (by decide +kernel) (by decide +kernel)
theorem mj_925 : Cond.methodLink RJ4 137 yJ0_init_81219 ∈ zWS := zws_in 925 (by decide +kernel) (by decide +kernel)
theorem mj_928 : Cond.methodLink RJ0 489 yJ0_init_db425 ∈ zWS := zws_in 928 (by decide +kernel) (by decide +kernel)
theorem mj_931 : Cond.methodLink RJ0 1 objectInit ∈ zWS := zws_in 931 (by decide +kernel) (by decide +kernel)
theorem mj_932 : Cond.methodLink RJ0 552 yJ5_getValue_6d5f1 ∈ zWS := zws_in 932 (by decide +kernel) (by decide +kernel)
theorem mj_937 : Cond.methodLink RJ0 549 yJ5_length_8abf5 ∈ zWS := zws_in 937 (by decide +kernel) (by decide +kernel)
theorem mj_945 : Cond.methodLink RJ0 1047 yJ5_isLatin1_aae02 ∈ zWS := zws_in 945 (by decide +kernel) (by decide +kernel)
theorem mj_946 : Cond.methodLink RJ0 54 yJ7_copyOfRange_39247 ∈ zWS := zws_in 946 (by decide +kernel) (by decide +kernel)
theorem mj_949 : Cond.methodLink RJ7 339 yJ7_copyOfRangeByte_39247 ∈ zWS := zws_in 949 (by decide +kernel) (by decide +kernel)
theorem mj_952 : Cond.methodLink RJ7 343 yJ7_checkLength_df160 ∈ zWS := zws_in 952 (by decide +kernel) (by decide +kernel)
theorem kj_J7_checkLength_df160 : zcas yJ7_checkLength_df160 cJ7_checkLength_df160 2 none 2 := ⟨zws_in 953 (by decide +kernel) (by decide +kernel), zws_in 39 (by decide +kernel) (by decide +kernel), zws_in 954 (by decide +kernel) (by decide +kernel), ⟨by decide +kernel, by decide +kernel⟩, by decide +kernel, by decide⟩
theorem kj_J7_copyOfRangeByte_39247 : zcas yJ7_copyOfRangeByte_39247 cJ7_copyOfRangeByte_39247 5 (some (.array .byte)) 3 := ⟨zws_in 950 (by decide +kernel) (by decide +kernel), zws_in 39 (by decide +kernel) (by decide +kernel), zws_in 951 (by decide +kernel) (by decide +kernel), ⟨by decide +kernel, by decide +kernel⟩, by decide +kernel, by decide⟩
theorem kj_J7_copyOfRange_39247 : zcas yJ7_copyOfRange_39247 cJ7_copyOfRange_39247 3 (some (.array .byte)) 3 := ⟨zws_in 947 (by decide +kernel) (by decide +kernel), zws_in 39 (by decide +kernel) (by decide +kernel), zws_in 948 (by decide +kernel) (by decide +kernel), ⟨by decide +kernel, by decide +kernel⟩, by decide +kernel, by decide⟩
theorem kn_J0_init_81219 : zcai yJ0_init_81219 cJ0_init_81219 2 1 := ⟨zws_in 926 (by decide +kernel) (by decide +kernel), zws_in 35 (by decide +kernel) (by decide +kernel), zws_in 927 (by decide +kernel) (by decide +kernel), ⟨by decide +kernel, by decide +kernel⟩, by decide +kernel, rfl, by decide⟩
theorem kn_J0_init_db425 : zcai yJ0_init_db425 cJ0_init_db425 5 2 := ⟨zws_in 929 (by decide +kernel) (by decide +kernel), zws_in 35 (by decide +kernel) (by decide +kernel), zws_in 930 (by decide +kernel) (by decide +kernel), ⟨by decide +kernel, by decide +kernel⟩, by decide +kernel, rfl, by decide⟩
theorem kn_J5_init_a7421 : zcai yJ5_init_a7421 cJ5_init_a7421 5 1 := ⟨zws_in 752 (by decide +kernel) (by decide +kernel), zws_in 42 (by decide +kernel) (by decide +kernel), zws_in 753 (by decide +kernel) (by decide +kernel), ⟨by decide +kernel, by decide +kernel⟩, by decide +kernel, rfl, by decide⟩
theorem ku_J4_append_cf1ce : zcau RJ4 "java/lang/AbstractStringBuilder" yJ5_append_cf1ce yJ4_append_cf1ce cJ4_append_cf1ce 2 (some (.object "java/lang/AbstractStringBuilder")) 1 := ⟨zws_in 768 (by decide +kernel) (by decide +kernel), zws_in 769 (by decide +kernel) (by decide +kernel), zws_in 770 (by decide +kernel) (by decide +kernel), zws_in 43 (by decide +kernel) (by decide +kernel), zws_in 771 (by decide +kernel) (by decide +kernel), ⟨by decide +kernel, by decide +kernel⟩, by decide +kernel, by decide, cJ5_append_cf1ce, 3, (some (.object "java/lang/AbstractStringBuilder")), zws_in 767 (by decide +kernel) (by decide +kernel), zws_in 778 (by decide +kernel) (by decide +kernel)⟩
theorem ku_J4_length_8abf5 : zcau RJ4 "java/lang/AbstractStringBuilder" yJ5_length_8abf5 yJ4_length_8abf5 cJ4_length_8abf5 1 (some .int) 0 := ⟨zws_in 939 (by decide +kernel) (by decide +kernel), zws_in 940 (by decide +kernel) (by decide +kernel), zws_in 941 (by decide +kernel) (by decide +kernel), zws_in 43 (by decide +kernel) (by decide +kernel), zws_in 942 (by decide +kernel) (by decide +kernel), ⟨by decide +kernel, by decide +kernel⟩, by decide +kernel, by decide, cJ5_length_8abf5, 1, (some .int), zws_in 938 (by decide +kernel) (by decide +kernel), zws_in 944 (by decide +kernel) (by decide +kernel)⟩
theorem ku_J5_getValue_6d5f1 : zcau RJ4 "java/lang/AbstractStringBuilder" yJ5_getValue_6d5f1 yJ5_getValue_6d5f1 cJ5_getValue_6d5f1 1 (some (.array .byte)) 0 := ⟨zws_in 934 (by decide +kernel) (by decide +kernel), zws_in 935 (by decide +kernel) (by decide +kernel), zws_in 933 (by decide +kernel) (by decide +kernel), zws_in 42 (by decide +kernel) (by decide +kernel), zws_in 936 (by decide +kernel) (by decide +kernel), ⟨by decide +kernel, by decide +kernel⟩, by decide +kernel, by decide, cJ5_getValue_6d5f1, 1, (some (.array .byte)), zws_in 933 (by decide +kernel) (by decide +kernel), zws_in 936 (by decide +kernel) (by decide +kernel)⟩
theorem zLat_nil {a : Nat → Int32} : zLat [] a := ⟨fun _ h => absurd h List.not_mem_nil, fun _ h => absurd h (Nat.not_lt_zero _)⟩
theorem zBnm {D : va_G} {Y : Nat → ClassId} {U : State} (h : va_K D vwCl (ztys Y) U) : U.vm.findClass "[B" = some (Y 1) := by
  have h1 : U.vm.findClass ("[" ++ FieldType.byte.toString) = some (Y 1) := (h.2 1 _ rfl).2
  rwa [show "[" ++ FieldType.byte.toString = "[B" from by decide +kernel] at h1
set_option maxHeartbeats 4000000 in
set_option maxRecDepth 100000 in
theorem cj_J5_init_a7421 (l : Launch) (hfl : l.flags = flags0) (D : va_G) (Y : Nat → ClassId) (S V : Nat → Nat) (A : Nat → Prop) (b : Nat) (u : List Nat) (qs vs len : Nat) (byt : Nat → Int32) (hD : va_D A ([(b, .inr (4, [.null, .int 0, .int 0, .int 0]))] : va_W)) (hu1 : ∀ x ∈ u, x < 128) (hu2 : len = u.length) (hu3 : ∀ j, j < len → byt j = nI (u.getD j 0)) (hu4 : len ≤ 100) (hu5 : sb_Fit byt) : zMJ l yJ5_init_a7421 cJ5_init_a7421 5 none 7 2 1200 D Y S V A [.ref b, .ref qs] (fun U => va_P D vwCl [(b, .inr (4, [.null, .int 0, .int 0, .int 0]))] U.heap ∧ zS1 (len) (byt) (qs) (vs) A U U.heap) (fun r H => r = none ∧ zSB D Y A b 0 u H) := by
  refine zMJ.ofW hfl (by decide) (fun p e s m args below meth c ha F hr hlocks hin hP => ?_)
  subst ha
  obtain ⟨hx, hb, hml, hown, hts, hl9, hJ, hA⟩ := id F
  have ok : ∀ w ∈ zWS, w.before ([.ref b, .ref qs] : List Value).toArray s = true := fun w h => hts w (List.mem_cons_of_mem _ h)
  have hK := hJ.1
  have hS : va_S A s.heap s.heap [] := va_S.rf
  have hl := lv_entry ([.ref b, .ref qs]) (n := 5) (Nat.le_of_ble_eq_true rfl)
  rw [lg_entry_eq]
  generalize (lg_sl ([.ref b, .ref qs]) ++ List.replicate (5 - (lg_sl ([.ref b, .ref qs])).length) Slot.unset).toArray = ls at hl ⊢
  have hl : lv_has ls 5 [(0, .ref b), (1, .ref qs)] := hl
  obtain ⟨hP, hX⟩ := hP
  refine lv_aload_n hx hb dJ5_init_a7421_0 rfl (lv_at hl 0 rfl) ?_
  refine W.objInit hx hb hown (ok _ mj_754) (ok _ mj_59) (ok _ mj_60) rfl (hl.1.trans hml.symm) rfl dJ5_init_a7421_1 (Nat.le_of_ble_eq_true rfl) (Nat.le_of_ble_eq_true rfl) ?_
  refine W.eq (g2 := F0 m 4 ls []) rfl ?_
  refine lv_aload_n hx hb dJ5_init_a7421_4 rfl (lv_at hl 1 rfl) ?_
  refine z_jV (As := []) (rest := []) F kj_J0_length_8abf5 mj_755 (cj_J0_length_8abf5 l hfl D Y S V (fun q => _ ≤ q) qs vs len byt) (fun _ U _ _ h => ⟨h.1, zS1.go h.2 (Vm.Alike.refl _) (fun _ _ _ => rfl)⟩) (fun U hU hW => ⟨trivial, by rw [hU]; exact (hX.go hW.alike hS.2.1).narrow (fun q h => hA q (Nat.le_trans hS.1 h))⟩) (va_Orecv hX.1 hS) hS (fun q h => hA q (Nat.le_trans hS.1 h)) (fun _ h => h) rfl rfl hl.1 (Nat.le_of_ble_eq_true rfl) dJ5_init_a7421_5 (Nat.le_of_ble_eq_true rfl) ⟨(Nat.le_of_ble_eq_true rfl), (Nat.le_of_ble_eq_true rfl)⟩ rfl (fun v H1 locs hp hz hk hS => ?_)
  subst hp
  have hP := hP.kept (fun k x hx => hk x.1 (hP k x hx).lt (Nat.not_le.mpr (hP k x hx).lt))
  refine lv_istore_n (lv' := [(2, .int (nI len)), (0, .ref b), (1, .ref qs)]) hx hb dJ5_init_a7421_8 rfl hl (by decide) rfl (fun ls hl => ?_)
  refine lv_iload_n hx hb dJ5_init_a7421_9 rfl (lv_at hl 0 rfl) ?_
  refine lv_ldc hx hb hown (ok _ mj_756) dJ5_init_a7421_10 ?_
  refine lv_icmp_ge (tgt := 22) hx hb dJ5_init_a7421_12 (by decide) (fun hc => absurd hc (show ¬ nI 2147483631 ≤ nI len from fun z => absurd ((nI_leI (by decide) (by omega)).mp z) (by omega))) (fun hc => ?_)
  refine lv_iload_n hx hb dJ5_init_a7421_15 rfl (lv_at hl 0 rfl) ?_
  refine lv_bipush (v := 16) hx hb dJ5_init_a7421_16 (by decide) ?_
  refine lv_iadd hx hb dJ5_init_a7421_18 ?_
  refine z_topi (x := (nI (len + 16))) (nI_add _ 16).symm ?_
  refine lv_goto (tgt := 24) hx hb dJ5_init_a7421_19 (by decide) ?_
  refine lv_istore_n (lv' := [(3, .int (nI (len + 16))), (2, .int (nI len)), (0, .ref b), (1, .ref qs)]) hx hb dJ5_init_a7421_24 rfl hl (by decide) rfl (fun ls hl => ?_)
  refine lv_aload_n hx hb dJ5_init_a7421_25 rfl (lv_at hl 3 rfl) ?_
  refine z_jV (As := []) (rest := []) F kj_J0_coder_7d493 mj_758 (cj_J0_coder_7d493 l hfl D Y S V (fun q => _ ≤ q) qs vs len byt) (fun _ U _ _ h => ⟨h.1, zS1.go h.2 (Vm.Alike.refl _) (fun _ _ _ => rfl)⟩) (fun U hU hW => ⟨trivial, by rw [hU]; exact (hX.go hW.alike hS.2.1).narrow (fun q h => hA q (Nat.le_trans hS.1 h))⟩) (va_Orecv hX.1 hS) hS (fun q h => hA q (Nat.le_trans hS.1 h)) (fun _ h => h) rfl rfl hl.1 (Nat.le_of_ble_eq_true rfl) dJ5_init_a7421_26 (Nat.le_of_ble_eq_true rfl) ⟨(Nat.le_of_ble_eq_true rfl), (Nat.le_of_ble_eq_true rfl)⟩ rfl (fun v H1 locs hp hz hk hS => ?_)
  subst hp
  have hP := hP.kept (fun k x hx => hk x.1 (hP k x hx).lt (Nat.not_le.mpr (hP k x hx).lt))
  refine lv_istore (lv' := [(4, .int 0), (3, .int (nI (len + 16))), (2, .int (nI len)), (0, .ref b), (1, .ref qs)]) hx hb dJ5_init_a7421_29 hl (by decide) rfl (fun ls hl => ?_)
  refine lv_aload_n hx hb dJ5_init_a7421_31 rfl (lv_at hl 3 rfl) ?_
  refine lv_iload hx hb dJ5_init_a7421_32 (lv_at hl 0 rfl) ?_
  refine va_put hx hb hts (fun w h => List.mem_cons_of_mem _ (ziJ4 w h)) tyJ4 tyJ4_ok nmJ4 hown hK.1 hP hD hS 0 rfl rfl 1 (by decide) (ok _ mj_866) (fun _ h => h) rfl (tyJ4_ok 1 (by decide)) rfl rfl (Nat.le_of_ble_eq_true rfl) dJ5_init_a7421_34 (fun H locs hP hD hS => ?_)
  have hP : va_P D vwCl [(b, .inr (4, [.null, .int 0, .int 0, .int 0]))] _ := hP
  have hD : va_D A ([(b, .inr (4, [.null, .int 0, .int 0, .int 0]))] : va_W) := hD
  refine lv_aload_n hx hb dJ5_init_a7421_37 rfl (lv_at hl 3 rfl) ?_
  refine lv_iload hx hb dJ5_init_a7421_38 (lv_at hl 0 rfl) ?_
  refine lv_if_ne (tgt := 49) hx hb dJ5_init_a7421_40 (by decide) (fun hc => absurd rfl hc) (fun hc => ?_)
  refine lv_iload_n hx hb dJ5_init_a7421_43 rfl (lv_at hl 1 rfl) ?_
  refine va_newa (atype := .byte) (ty := .byte) (a0 := ((len + 16), .inl fun _ => 0)) (N' := (len + 16)) hx hb (ok _ mj_152) rfl hK.1 hP hD hS hA (fun _ => rfl) (nI_pos (by omega)) (nI_clamp (by omega)) (by show (len + 16) * 1 ≤ 536870912; omega) (by show _ ≤ 2; omega) (by show _ ≤ 1200; omega) dJ5_init_a7421_44 (fun q9 cA H hK1 hP hD hS => ?_)
  obtain rfl : cA = Y 1 := (zY_of hK.1).2.1 hK1
  refine W.widen (show _ ≤ 1 from by omega) (show _ ≤ 600 from by omega) ?_
  have hP : va_P D vwCl [(b, .inr (4, [.null, .int 0, .int 0, .int 0])), (q9, .inl (Y 1, (len + 16), .inl fun _ => 0))] _ := hP
  have hD : va_D A ([(b, .inr (4, [.null, .int 0, .int 0, .int 0])), (q9, .inl (Y 1, (len + 16), .inl fun _ => 0))] : va_W) := hD
  refine lv_goto (tgt := 53) hx hb dJ5_init_a7421_46 (by decide) ?_
  refine va_put hx hb hts (fun w h => List.mem_cons_of_mem _ (ziJ4 w h)) tyJ4 tyJ4_ok nmJ4 hown hK.1 hP hD hS 0 rfl rfl 0 (by decide) (ok _ mj_865) (fun _ h => h) rfl (tyJ4_ok 0 (by decide)) rfl rfl (Nat.le_of_ble_eq_true rfl) dJ5_init_a7421_53 (fun H locs hP hD hS => ?_)
  have hP : va_P D vwCl [(b, .inr (4, [.ref q9, .int 0, .int 0, .int 0])), (q9, .inl (Y 1, (len + 16), .inl fun _ => 0))] _ := hP
  have hD : va_D A ([(b, .inr (4, [.ref q9, .int 0, .int 0, .int 0])), (q9, .inl (Y 1, (len + 16), .inl fun _ => 0))] : va_W) := hD
  refine lv_aload_n hx hb dJ5_init_a7421_56 rfl (lv_at hl 3 rfl) ?_
  refine lv_aload_n hx hb dJ5_init_a7421_57 rfl (lv_at hl 4 rfl) ?_
  refine z_jU (As := [.ref qs]) (rest := []) F ku_J4_append_cf1ce mj_766 (cj_J4_append_cf1ce l hfl D Y S V A b 0 [] u qs vs len byt hu1 hu2 hu3 (by show 0 + len ≤ 300; omega) hu5) (fun _ U _ _ h => ⟨h.1, zS1.go h.2 (Vm.Alike.refl _) (fun _ _ _ => rfl)⟩) (fun U hU hW => ⟨(by rw [hU]; exact ⟨q9, len + 16, fun _ => 0, hP, hD, by omega, Nat.zero_le _, zLat_nil, sb_fit0⟩), by rw [hU]; exact hX.go hW.alike hS.2.1⟩) (va_recv hK.1 hP rfl (q0 := 0) rfl) hS (fun _ h => h) (fun q h => hA q (Nat.le_trans hS.1 h)) rfl rfl hl.1 (Nat.le_of_ble_eq_true rfl) dJ5_init_a7421_58 (Nat.le_of_ble_eq_true rfl) ⟨(Nat.le_of_ble_eq_true rfl), (Nat.le_of_ble_eq_true rfl)⟩ rfl (fun v H1 locs hp hz hk hS => ?_)
  obtain ⟨rfl, hp⟩ := hp
  refine lv_pop hx hb dJ5_init_a7421_61 rfl ?_
  exact z_jvret hx hb hr ⟨rfl, hp⟩ hS hlocks (Nat.le_of_ble_eq_true rfl) (Nat.le_of_ble_eq_true rfl) dJ5_init_a7421_62

set_option maxHeartbeats 4000000 in
set_option maxRecDepth 100000 in
theorem cj_J4_init_a7421 (l : Launch) (hfl : l.flags = flags0) (D : va_G) (Y : Nat → ClassId) (S V : Nat → Nat) (A : Nat → Prop) (b : Nat) (u : List Nat) (qs vs len : Nat) (byt : Nat → Int32) (hD : va_D A ([(b, .inr (4, [.null, .int 0, .int 0, .int 0]))] : va_W)) (hu1 : ∀ x ∈ u, x < 128) (hu2 : len = u.length) (hu3 : ∀ j, j < len → byt j = nI (u.getD j 0)) (hu4 : len ≤ 100) (hu5 : sb_Fit byt) : zMJ l yJ4_init_a7421 cJ4_init_a7421 2 none 8 2 1200 D Y S V A [.ref b, .ref qs] (fun U => va_P D vwCl [(b, .inr (4, [.null, .int 0, .int 0, .int 0]))] U.heap ∧ zS1 (len) (byt) (qs) (vs) A U U.heap) (fun r H => r = none ∧ zSB D Y A b 0 u H) := by
  refine zMJ.ofW hfl (by decide) (fun p e s m args below meth c ha F hr hlocks hin hP => ?_)
  subst ha
  obtain ⟨hx, hb, hml, hown, hts, hl9, hJ, hA⟩ := id F
  have ok : ∀ w ∈ zWS, w.before ([.ref b, .ref qs] : List Value).toArray s = true := fun w h => hts w (List.mem_cons_of_mem _ h)
  have hK := hJ.1
  have hS : va_S A s.heap s.heap [] := va_S.rf
  have hl := lv_entry ([.ref b, .ref qs]) (n := 2) (Nat.le_of_ble_eq_true rfl)
  rw [lg_entry_eq]
  generalize (lg_sl ([.ref b, .ref qs]) ++ List.replicate (2 - (lg_sl ([.ref b, .ref qs])).length) Slot.unset).toArray = ls at hl ⊢
  have hl : lv_has ls 2 [(0, .ref b), (1, .ref qs)] := hl
  obtain ⟨hP, hX⟩ := hP
  refine lv_aload_n hx hb dJ4_init_a7421_0 rfl (lv_at hl 0 rfl) ?_
  refine lv_aload_n hx hb dJ4_init_a7421_1 rfl (lv_at hl 1 rfl) ?_
  refine z_jI (As := [.ref qs]) (rest := []) F kn_J5_init_a7421 mj_751 (cj_J5_init_a7421 l hfl D Y S V A b u qs vs len byt hD hu1 hu2 hu3 hu4 hu5) (fun _ U _ _ h => ⟨h.1, zS1.go h.2 (Vm.Alike.refl _) (fun _ _ _ => rfl)⟩) (fun U hU hW => ⟨(by rw [hU]; exact hP), by rw [hU]; exact hX.go hW.alike hS.2.1⟩) hS (fun _ h => h) (fun q h => hA q (Nat.le_trans hS.1 h)) rfl rfl hl.1 (Nat.le_of_ble_eq_true rfl) dJ4_init_a7421_2 (Nat.le_of_ble_eq_true rfl) ⟨(Nat.le_of_ble_eq_true rfl), (Nat.le_of_ble_eq_true rfl)⟩ rfl (fun v H1 locs hp hz hk hS => ?_)
  obtain ⟨rfl, hp⟩ := hp
  exact z_jvret hx hb hr ⟨rfl, hp⟩ hS hlocks (Nat.le_of_ble_eq_true rfl) (Nat.le_of_ble_eq_true rfl) dJ4_init_a7421_5

set_option maxHeartbeats 4000000 in
set_option maxRecDepth 100000 in
theorem cj_J7_checkLength_df160 (l : Launch) (hfl : l.flags = flags0) (D : va_G) (Y : Nat → ClassId) (S V : Nat → Nat) (A : Nat → Prop) (k : Nat) (hk9 : k < 65536) : zMJ l yJ7_checkLength_df160 cJ7_checkLength_df160 2 none 0 0 0 D Y S V A [.int 0, .int (nI k)] (fun _ => True) (fun r _ => r = none) := by
  refine zMJ.ofW hfl (by decide) (fun p e s m args below meth c ha F hr hlocks hin hP => ?_)
  subst ha
  obtain ⟨hx, hb, hml, hown, hts, hl9, hJ, hA⟩ := id F
  have ok : ∀ w ∈ zWS, w.before ([.int 0, .int (nI k)] : List Value).toArray s = true := fun w h => hts w (List.mem_cons_of_mem _ h)
  have hK := hJ.1
  have hS : va_S A s.heap s.heap [] := va_S.rf
  have hl := lv_entry ([.int 0, .int (nI k)]) (n := 2) (Nat.le_of_ble_eq_true rfl)
  rw [lg_entry_eq]
  generalize (lg_sl ([.int 0, .int (nI k)]) ++ List.replicate (2 - (lg_sl ([.int 0, .int (nI k)])).length) Slot.unset).toArray = ls at hl ⊢
  have hl : lv_has ls 2 [(0, .int 0), (1, .int (nI k))] := hl
  refine lv_iload_n hx hb dJ7_checkLength_df160_0 rfl (lv_at hl 1 rfl) ?_
  refine lv_iload_n hx hb dJ7_checkLength_df160_1 rfl (lv_at hl 0 rfl) ?_
  refine lv_icmp_ge (tgt := 37) hx hb dJ7_checkLength_df160_2 (by decide) (fun hc => ?_) (fun hc => absurd (z0le (by omega)) hc)
  exact z_jvret hx hb hr rfl hS hlocks (Nat.le_of_ble_eq_true rfl) (Nat.le_of_ble_eq_true rfl) dJ7_checkLength_df160_37

set_option maxHeartbeats 4000000 in
set_option maxRecDepth 100000 in
theorem cj_J7_copyOfRangeByte_39247 (l : Launch) (hfl : l.flags = flags0) (D : va_G) (Y : Nat → ClassId) (S V : Nat → Nat) (A : Nat → Prop) (q cap k : Nat) (a : Nat → Int32) (hD : va_D A ([(q, .inl (Y 1, cap, .inl a))] : va_W)) (h1 : k < cap) (h2 : cap ≤ 600) (hf : sb_Fit a) : zMJ l yJ7_copyOfRangeByte_39247 cJ7_copyOfRangeByte_39247 5 (some (.array .byte)) 2 1 600 D Y S V A [.ref q, .int 0, .int (nI k)] (fun U => va_P D vwCl [(q, .inl (Y 1, cap, .inl a))] U.heap) (fun r H => ∃ (q' : Nat) (a' : Nat → Int32), r = some (.ref q') ∧ (∀ j, j < k → a' j = a j) ∧ sb_Fit a' ∧ va_P D vwCl [(q, .inl (Y 1, cap, .inl a)), (q', .inl (Y 1, k, .inl a'))] H ∧ va_D A ([(q, .inl (Y 1, cap, .inl a)), (q', .inl (Y 1, k, .inl a'))] : va_W)) := by
  refine zMJ.ofW hfl (by decide) (fun p e s m args below meth c ha F hr hlocks hin hP => ?_)
  subst ha
  obtain ⟨hx, hb, hml, hown, hts, hl9, hJ, hA⟩ := id F
  have ok : ∀ w ∈ zWS, w.before ([.ref q, .int 0, .int (nI k)] : List Value).toArray s = true := fun w h => hts w (List.mem_cons_of_mem _ h)
  have hK := hJ.1
  have hS : va_S A s.heap s.heap [] := va_S.rf
  have hl := lv_entry ([.ref q, .int 0, .int (nI k)]) (n := 5) (Nat.le_of_ble_eq_true rfl)
  rw [lg_entry_eq]
  generalize (lg_sl ([.ref q, .int 0, .int (nI k)]) ++ List.replicate (5 - (lg_sl ([.ref q, .int 0, .int (nI k)])).length) Slot.unset).toArray = ls at hl ⊢
  have hl : lv_has ls 5 [(0, .ref q), (1, .int 0), (2, .int (nI k))] := hl
  refine lv_iload_n hx hb dJ7_copyOfRangeByte_39247_0 rfl (lv_at hl 1 rfl) ?_
  refine lv_iload_n hx hb dJ7_copyOfRangeByte_39247_1 rfl (lv_at hl 2 rfl) ?_
  refine z_jS (As := [.int 0, .int (nI k)]) (rest := []) F kj_J7_checkLength_df160 mj_952 (cj_J7_checkLength_df160 l hfl D Y S V (fun q => _ ≤ q) k (by omega)) (fun _ _ _ _ h => h) (fun U hU _ => trivial) hS (fun q h => hA q (Nat.le_trans hS.1 h)) (fun _ h => h) rfl rfl hl.1 (Nat.le_of_ble_eq_true rfl) dJ7_copyOfRangeByte_39247_2 (Nat.le_of_ble_eq_true rfl) ⟨(Nat.le_of_ble_eq_true rfl), (Nat.le_of_ble_eq_true rfl)⟩ rfl (fun v H1 locs hp hz hk hS => ?_)
  subst hp
  have hP := hP.kept (fun k x hx => hk x.1 (hP k x hx).lt (Nat.not_le.mpr (hP k x hx).lt))
  refine lv_iload_n hx hb dJ7_copyOfRangeByte_39247_5 rfl (lv_at hl 2 rfl) ?_
  refine lv_iload_n hx hb dJ7_copyOfRangeByte_39247_6 rfl (lv_at hl 1 rfl) ?_
  refine lv_isub hx hb dJ7_copyOfRangeByte_39247_7 ?_
  refine z_topi (x := (nI k)) (Int32.sub_zero _).symm ?_
  refine lv_istore_n (lv' := [(3, .int (nI k)), (0, .ref q), (1, .int 0), (2, .int (nI k))]) hx hb dJ7_copyOfRangeByte_39247_8 rfl hl (by decide) rfl (fun ls hl => ?_)
  refine lv_iload_n hx hb dJ7_copyOfRangeByte_39247_9 rfl (lv_at hl 0 rfl) ?_
  refine va_newa (atype := .byte) (ty := .byte) (a0 := (k, .inl fun _ => 0)) (N' := k) hx hb (ok _ mj_152) rfl hK.1 hP hD hS hA (fun _ => rfl) (nI_pos (by omega)) (nI_clamp (by omega)) (by show k * 1 ≤ 536870912; omega) (by show _ ≤ 1; omega) (by show _ ≤ 600; omega) dJ7_copyOfRangeByte_39247_10 (fun q9 cA H hK1 hP hD hS => ?_)
  obtain rfl : cA = Y 1 := (zY_of hK.1).2.1 hK1
  refine W.widen (show _ ≤ 1 from by omega) (show _ ≤ 600 from by omega) ?_
  have hP : va_P D vwCl [(q, .inl (Y 1, cap, .inl a)), (q9, .inl (Y 1, k, .inl fun _ => 0))] _ := hP
  have hD : va_D A ([(q, .inl (Y 1, cap, .inl a)), (q9, .inl (Y 1, k, .inl fun _ => 0))] : va_W) := hD
  refine lv_astore (lv' := [(4, .ref q9), (3, .int (nI k)), (0, .ref q), (1, .int 0), (2, .int (nI k))]) hx hb dJ7_copyOfRangeByte_39247_12 hl (by decide) rfl (fun ls hl => ?_)
  refine lv_aload_n hx hb dJ7_copyOfRangeByte_39247_14 rfl (lv_at hl 2 rfl) ?_
  refine lv_iload_n hx hb dJ7_copyOfRangeByte_39247_15 rfl (lv_at hl 3 rfl) ?_
  refine lv_aload hx hb dJ7_copyOfRangeByte_39247_16 (lv_at hl 0 rfl) ?_
  refine lv_iconst (v := 0) hx hb dJ7_copyOfRangeByte_39247_18 (by decide) ?_
  refine lv_aload_n hx hb dJ7_copyOfRangeByte_39247_19 rfl (lv_at hl 2 rfl) ?_
  refine va_alen (v := nI cap) hx hb hK.1 hP 0 1 rfl rfl rfl dJ7_copyOfRangeByte_39247_20 ?_
  refine lv_iload_n hx hb dJ7_copyOfRangeByte_39247_21 rfl (lv_at hl 3 rfl) ?_
  refine lv_isub hx hb dJ7_copyOfRangeByte_39247_22 ?_
  refine z_topi (x := (nI cap)) (Int32.sub_zero _).symm ?_
  refine lv_iload_n hx hb dJ7_copyOfRangeByte_39247_23 rfl (lv_at hl 1 rfl) ?_
  refine va_mmin hx hb (hml.trans hl.1.symm) hown (ok _ mj_809) (ok _ mj_408) (ok _ mj_40) (ok _ mj_409) (by show 1 ≤ 2; decide) (by show _ + 13 ≤ 37 * 2; exact Nat.le_of_ble_eq_true rfl) (Nat.le_of_ble_eq_true rfl) (Nat.le_of_ble_eq_true rfl) dJ7_copyOfRangeByte_39247_24 ?_
  refine z_topi (x := (nI k)) (if_pos (nI_lt (by omega) (by omega))).symm ?_
  refine va_copyi hx hb (hml.trans hl.1.symm) hown (ok _ mj_810) (ok _ mj_446) (ok _ mj_445) (ok _ mj_41) hK.1 hP hD hS 0 1 1 1 rfl rfl rfl rfl rfl (by decide) (by decide) (nI_pos (by omega)) (by rw [sb_cl0, nI_clamp (by omega)]; omega) (by rw [sb_cl0, nI_clamp (by omega)]; omega) (fun _ _ => hf _) (by show 1 ≤ 2; decide) (by show 0 + (nativeFrameWords "java/lang/System" "arraycopy" 5 + 11) ≤ 37 * 2; have : nativeFrameWords "java/lang/System" "arraycopy" 5 ≤ 50 := (by decide +kernel); (try simp only [List.map_nil, List.sum_nil]); omega) dJ7_copyOfRangeByte_39247_27 (fun H locs hP hD hS => ?_)
  rw [sb_cl0, nI_clamp (by omega)] at hP hD
  refine lv_aload hx hb dJ7_copyOfRangeByte_39247_30 (lv_at hl 0 rfl) ?_
  exact z_jaret hx hb hr (Or.inr ⟨_, rfl⟩) ⟨q9, _, rfl, fun j hj => sb_cpy0 hj, sb_fitC hf sb_fit0, hP, hD⟩ hS hlocks (Nat.le_of_ble_eq_true rfl) (Nat.le_of_ble_eq_true rfl) dJ7_copyOfRangeByte_39247_32

set_option maxHeartbeats 4000000 in
set_option maxRecDepth 100000 in
theorem cj_J7_copyOfRange_39247 (l : Launch) (hfl : l.flags = flags0) (D : va_G) (Y : Nat → ClassId) (S V : Nat → Nat) (A : Nat → Prop) (q cap k : Nat) (a : Nat → Int32) (hD : va_D A ([(q, .inl (Y 1, cap, .inl a))] : va_W)) (h1 : k ≤ cap) (h2 : cap ≤ 600) (hf : sb_Fit a) : zMJ l yJ7_copyOfRange_39247 cJ7_copyOfRange_39247 3 (some (.array .byte)) 3 1 600 D Y S V A [.ref q, .int 0, .int (nI k)] (fun U => va_P D vwCl [(q, .inl (Y 1, cap, .inl a))] U.heap) (fun r H => ∃ (q' : Nat) (a' : Nat → Int32), r = some (.ref q') ∧ (∀ j, j < k → a' j = a j) ∧ sb_Fit a' ∧ va_P D vwCl [(q, .inl (Y 1, cap, .inl a)), (q', .inl (Y 1, k, .inl a'))] H ∧ va_D A ([(q, .inl (Y 1, cap, .inl a)), (q', .inl (Y 1, k, .inl a'))] : va_W)) := by
  refine zMJ.ofW hfl (by decide) (fun p e s m args below meth c ha F hr hlocks hin hP => ?_)
  subst ha
  obtain ⟨hx, hb, hml, hown, hts, hl9, hJ, hA⟩ := id F
  have ok : ∀ w ∈ zWS, w.before ([.ref q, .int 0, .int (nI k)] : List Value).toArray s = true := fun w h => hts w (List.mem_cons_of_mem _ h)
  have hK := hJ.1
  have hS : va_S A s.heap s.heap [] := va_S.rf
  have hl := lv_entry ([.ref q, .int 0, .int (nI k)]) (n := 3) (Nat.le_of_ble_eq_true rfl)
  rw [lg_entry_eq]
  generalize (lg_sl ([.ref q, .int 0, .int (nI k)]) ++ List.replicate (3 - (lg_sl ([.ref q, .int 0, .int (nI k)])).length) Slot.unset).toArray = ls at hl ⊢
  have hl : lv_has ls 3 [(0, .ref q), (1, .int 0), (2, .int (nI k))] := hl
  refine lv_iload_n hx hb dJ7_copyOfRange_39247_0 rfl (lv_at hl 1 rfl) ?_
  refine lv_if_ne (tgt := 10) hx hb dJ7_copyOfRange_39247_1 (by decide) (fun hc => absurd rfl hc) (fun hc => ?_)
  refine lv_iload_n hx hb dJ7_copyOfRange_39247_4 rfl (lv_at hl 2 rfl) ?_
  refine lv_aload_n hx hb dJ7_copyOfRange_39247_5 rfl (lv_at hl 0 rfl) ?_
  refine va_alen (v := nI cap) hx hb hK.1 hP 0 1 rfl rfl rfl dJ7_copyOfRange_39247_6 ?_
  by_cases hk9 : k = cap
  · skip
    refine lv_icmp_eq (tgt := 17) hx hb dJ7_copyOfRange_39247_7 (by decide) (fun hc => ?_) (fun hc => absurd (by rw [hk9]) hc)
    refine lv_aload_n hx hb dJ7_copyOfRange_39247_17 rfl (lv_at hl 0 rfl) ?_
    refine va_clone hx hb (hml.trans hl.1.symm) hown (ok _ mj_802) (ok _ mj_803) (ok _ mj_804) (ok _ mj_805) (ok _ mj_806) hJ.2.1 hK.1 hP hD hS hA 0 1 rfl rfl (zBnm hK.1) (va_fit (fun i _ => hf i)) (by show 1 ≤ 3; decide) (by show 0 + 14 ≤ 37 * 3; decide) (by show 0 + 1 ≤ 1; decide) (by show 0 + cap ≤ 600; omega) dJ7_copyOfRange_39247_18 (fun q9 H hK1 hP hD hS => ?_)
    refine W.widen (show _ ≤ 1 from by omega) (show _ ≤ 600 from by show 0 + cap ≤ 600; omega) ?_
    have hP : va_P D vwCl [(q, .inl (Y 1, cap, .inl a)), (q9, .inl (Y 1, cap, .inl a))] _ := hP
    have hD : va_D A ([(q, .inl (Y 1, cap, .inl a)), (q9, .inl (Y 1, cap, .inl a))] : va_W) := hD
    refine va_castA hx hb hown (ok _ mj_808) hP 1 rfl (zBnm hK.1) dJ7_copyOfRange_39247_21 ?_
    exact z_jaret hx hb hr (Or.inr ⟨_, rfl⟩) ⟨q9, a, rfl, fun _ _ => rfl, hf, by rw [hk9]; exact hP, by rw [hk9]; exact hD⟩ hS hlocks (Nat.le_of_ble_eq_true rfl) (Nat.le_of_ble_eq_true rfl) dJ7_copyOfRange_39247_24
  · skip
    refine lv_icmp_eq (tgt := 17) hx hb dJ7_copyOfRange_39247_7 (by decide) (fun hc => absurd hc (fun z => hk9 ((nI_eq (by omega) (by omega)).mp z))) (fun hc => ?_)
    refine lv_aload_n hx hb dJ7_copyOfRange_39247_10 rfl (lv_at hl 0 rfl) ?_
    refine lv_iload_n hx hb dJ7_copyOfRange_39247_11 rfl (lv_at hl 1 rfl) ?_
    refine lv_iload_n hx hb dJ7_copyOfRange_39247_12 rfl (lv_at hl 2 rfl) ?_
    refine z_jS (As := [.ref q, .int 0, .int (nI k)]) (rest := []) F kj_J7_copyOfRangeByte_39247 mj_949 (cj_J7_copyOfRangeByte_39247 l hfl D Y S V A q cap k a hD (by omega) h2 hf) (fun _ _ _ _ h => h) (fun U hU hW => (by rw [hU]; exact hP)) hS (fun _ h => h) (fun q h => hA q (Nat.le_trans hS.1 h)) rfl rfl hl.1 (Nat.le_of_ble_eq_true rfl) dJ7_copyOfRange_39247_13 (Nat.le_of_ble_eq_true rfl) ⟨(Nat.le_of_ble_eq_true rfl), (Nat.le_of_ble_eq_true rfl)⟩ rfl (fun v H1 locs hp hz hk hS => ?_)
    obtain ⟨q', a', rfl, hp⟩ := hp
    exact z_jaret hx hb hr (Or.inr ⟨_, rfl⟩) ⟨q', a', rfl, hp⟩ hS hlocks (Nat.le_of_ble_eq_true rfl) (Nat.le_of_ble_eq_true rfl) dJ7_copyOfRange_39247_16

set_option maxHeartbeats 4000000 in
set_option maxRecDepth 100000 in
theorem cj_J0_init_db425 (l : Launch) (hfl : l.flags = flags0) (D : va_G) (Y : Nat → ClassId) (S V : Nat → Nat) (A : Nat → Prop) (h0 b q cap k : Nat) (mL : Int32) (a : Nat → Int32) (hD : va_D A ([(h0, .inr (5, [.null, .int 0, .int 0, .int 0])), (b, .inr (4, [.ref q, .int 0, .int mL, .int (nI k)])), (q, .inl (Y 1, cap, .inl a))] : va_W)) (h1 : k ≤ cap) (h2 : cap ≤ 600) (hf : sb_Fit a) : zMJ l yJ0_init_db425 cJ0_init_db425 5 none 4 1 600 D Y S V A [.ref h0, .ref b, .null] (fun U => va_P D vwCl [(h0, .inr (5, [.null, .int 0, .int 0, .int 0])), (b, .inr (4, [.ref q, .int 0, .int mL, .int (nI k)])), (q, .inl (Y 1, cap, .inl a))] U.heap) (fun r H => r = none ∧ ∃ (vs : Nat) (a' : Nat → Int32), (∀ j, j < k → a' j = a j) ∧ sb_Fit a' ∧ va_P D vwCl [(h0, .inr (5, [.ref vs, .int 0, .int 0, .int 0])), (vs, .inl (Y 1, k, .inl a'))] H ∧ va_D A ([(h0, .inr (5, [.ref vs, .int 0, .int 0, .int 0])), (vs, .inl (Y 1, k, .inl a'))] : va_W)) := by
  refine zMJ.ofW hfl (by decide) (fun p e s m args below meth c ha F hr hlocks hin hP => ?_)
  subst ha
  obtain ⟨hx, hb, hml, hown, hts, hl9, hJ, hA⟩ := id F
  have ok : ∀ w ∈ zWS, w.before ([.ref h0, .ref b, .null] : List Value).toArray s = true := fun w h => hts w (List.mem_cons_of_mem _ h)
  have hK := hJ.1
  have hS : va_S A s.heap s.heap [] := va_S.rf
  have hl := lv_entry ([.ref h0, .ref b, .null]) (n := 5) (Nat.le_of_ble_eq_true rfl)
  rw [lg_entry_eq]
  generalize (lg_sl ([.ref h0, .ref b, .null]) ++ List.replicate (5 - (lg_sl ([.ref h0, .ref b, .null])).length) Slot.unset).toArray = ls at hl ⊢
  have hl : lv_has ls 5 [(0, .ref h0), (1, .ref b), (2, .null)] := hl
  refine lv_aload_n hx hb dJ0_init_db425_0 rfl (lv_at hl 0 rfl) ?_
  refine W.objInit hx hb hown (ok _ mj_931) (ok _ mj_59) (ok _ mj_60) rfl (hl.1.trans hml.symm) rfl dJ0_init_db425_1 (Nat.le_of_ble_eq_true rfl) (Nat.le_of_ble_eq_true rfl) ?_
  refine W.eq (g2 := F0 m 4 ls []) rfl ?_
  refine lv_aload_n hx hb dJ0_init_db425_4 rfl (lv_at hl 1 rfl) ?_
  refine z_jU (As := []) (rest := []) F ku_J5_getValue_6d5f1 mj_932 (cj_J5_getValue_6d5f1 l hfl D Y S V (fun q => _ ≤ q) b q cap mL (nI k) a) (fun _ _ _ _ h => h) (fun U hU _ => by rw [hU]; exact hP.sub [1, 2] rfl) (va_recv hK.1 hP rfl (q0 := 1) rfl) hS (fun q h => hA q (Nat.le_trans hS.1 h)) (fun _ h => h) rfl rfl hl.1 (Nat.le_of_ble_eq_true rfl) dJ0_init_db425_5 (Nat.le_of_ble_eq_true rfl) ⟨(Nat.le_of_ble_eq_true rfl), (Nat.le_of_ble_eq_true rfl)⟩ rfl (fun v H1 locs hp hz hk hS => ?_)
  subst hp
  have hP := hP.kept (fun k x hx => hk x.1 (hP k x hx).lt (Nat.not_le.mpr (hP k x hx).lt))
  refine lv_astore_n (lv' := [(3, .ref q), (0, .ref h0), (1, .ref b), (2, .null)]) hx hb dJ0_init_db425_8 rfl hl (by decide) rfl (fun ls hl => ?_)
  refine lv_aload_n hx hb dJ0_init_db425_9 rfl (lv_at hl 2 rfl) ?_
  refine z_jU (As := []) (rest := []) F ku_J4_length_8abf5 mj_937 (cj_J4_length_8abf5 l hfl D Y S V (fun q => _ ≤ q) b q cap mL (nI k) a) (fun _ _ _ _ h => h) (fun U hU _ => by rw [hU]; exact hP.sub [1, 2] rfl) (va_recv hK.1 hP rfl (q0 := 1) rfl) hS (fun q h => hA q (Nat.le_trans hS.1 h)) (fun _ h => h) rfl rfl hl.1 (Nat.le_of_ble_eq_true rfl) dJ0_init_db425_10 (Nat.le_of_ble_eq_true rfl) ⟨(Nat.le_of_ble_eq_true rfl), (Nat.le_of_ble_eq_true rfl)⟩ rfl (fun v H1 locs hp hz hk hS => ?_)
  subst hp
  have hP := hP.kept (fun k x hx => hk x.1 (hP k x hx).lt (Nat.not_le.mpr (hP k x hx).lt))
  refine lv_istore (lv' := [(4, .int (nI k)), (3, .ref q), (0, .ref h0), (1, .ref b), (2, .null)]) hx hb dJ0_init_db425_13 hl (by decide) rfl (fun ls hl => ?_)
  refine lv_aload_n hx hb dJ0_init_db425_15 rfl (lv_at hl 3 rfl) ?_
  refine z_jU (As := []) (rest := []) F ku_J5_isLatin1_aae02 mj_945 (cj_J5_isLatin1_aae02 l hfl D Y S V (fun q => _ ≤ q) b q cap mL (nI k) a) (fun _ _ _ _ h => h) (fun U hU _ => by rw [hU]; exact hP.sub [1, 2] rfl) (va_recv hK.1 hP rfl (q0 := 1) rfl) hS (fun q h => hA q (Nat.le_trans hS.1 h)) (fun _ h => h) rfl rfl hl.1 (Nat.le_of_ble_eq_true rfl) dJ0_init_db425_16 (Nat.le_of_ble_eq_true rfl) ⟨(Nat.le_of_ble_eq_true rfl), (Nat.le_of_ble_eq_true rfl)⟩ rfl (fun v H1 locs hp hz hk hS => ?_)
  subst hp
  have hP := hP.kept (fun k x hx => hk x.1 (hP k x hx).lt (Nat.not_le.mpr (hP k x hx).lt))
  refine lv_if_eq (tgt := 41) hx hb dJ0_init_db425_19 (by decide) (fun hc => absurd hc (by decide)) (fun hc => ?_)
  refine lv_aload_n hx hb dJ0_init_db425_22 rfl (lv_at hl 2 rfl) ?_
  refine lv_iconst (v := 0) hx hb dJ0_init_db425_23 (by decide) ?_
  refine va_putF hx hb hts (fun w h => List.mem_cons_of_mem _ (ziJ0 w h)) tyJ0 tyJ0_ok nmJ0 hown hK.1 hP hD hS 0 rfl rfl 1 (by decide) (ok _ mj_979) (fun _ h => h) rfl hin rfl (tyJ0_ok 1 (by decide)) rfl rfl (Nat.le_of_ble_eq_true rfl) dJ0_init_db425_24 (fun H locs hP hD hS => ?_)
  have hP : va_P D vwCl [(h0, .inr (5, [.null, .int 0, .int 0, .int 0])), (b, .inr (4, [.ref q, .int 0, .int mL, .int (nI k)])), (q, .inl (Y 1, cap, .inl a))] _ := hP
  have hD : va_D A ([(h0, .inr (5, [.null, .int 0, .int 0, .int 0])), (b, .inr (4, [.ref q, .int 0, .int mL, .int (nI k)])), (q, .inl (Y 1, cap, .inl a))] : va_W) := hD
  refine lv_aload_n hx hb dJ0_init_db425_27 rfl (lv_at hl 2 rfl) ?_
  refine lv_aload_n hx hb dJ0_init_db425_28 rfl (lv_at hl 1 rfl) ?_
  refine lv_iconst (v := 0) hx hb dJ0_init_db425_29 (by decide) ?_
  refine lv_iload hx hb dJ0_init_db425_30 (lv_at hl 0 rfl) ?_
  have hP9 : va_P D vwCl ([(h0, .inr (5, [.null, .int 0, .int 0, .int 0])), (b, .inr (4, [.ref q, .int 0, .int mL, .int (nI k)]))] ++ [(q, .inl (Y 1, cap, .inl a))]) _ := hP
  have hD9 : va_D A (([(h0, .inr (5, [.null, .int 0, .int 0, .int 0])), (b, .inr (4, [.ref q, .int 0, .int mL, .int (nI k)]))] : va_W) ++ [(q, .inl (Y 1, cap, .inl a))]) := hD
  have hPq := hP.sub [2] rfl
  have hA9 : ∀ q, _ ≤ q → A q := fun q h => hA q (Nat.le_trans hS.1 h)
  refine z_jS (As := [.ref q, .int 0, .int (nI k)]) (rest := [.ref h0]) F kj_J7_copyOfRange_39247 mj_946 (cj_J7_copyOfRange_39247 l hfl D Y S V _ q cap k a (zA1_D hD9) h1 h2 hf) (fun _ _ _ _ h => h) (fun U hU _ => by rw [hU]; exact hPq) hS (zA1_AB hD9 hA9) (fun _ h => Or.inr h) rfl rfl hl.1 (Nat.le_of_ble_eq_true rfl) dJ0_init_db425_32 (Nat.le_of_ble_eq_true rfl) ⟨(Nat.le_of_ble_eq_true rfl), (Nat.le_of_ble_eq_true rfl)⟩ rfl (fun v H1 locs hp hz hk hS => ?_)
  obtain ⟨q', a', rfl, gk, gf, hP1, hD1⟩ := hp
  obtain ⟨hP, hD⟩ := zjoin hP9 hD9 hA9 hk hP1 hD1
  have hP : va_P D vwCl [(h0, .inr (5, [.null, .int 0, .int 0, .int 0])), (b, .inr (4, [.ref q, .int 0, .int mL, .int (nI k)])), (q, .inl (Y 1, cap, .inl a)), (q', .inl (Y 1, k, .inl a'))] _ := hP
  have hD : va_D A ([(h0, .inr (5, [.null, .int 0, .int 0, .int 0])), (b, .inr (4, [.ref q, .int 0, .int mL, .int (nI k)])), (q, .inl (Y 1, cap, .inl a)), (q', .inl (Y 1, k, .inl a'))] : va_W) := hD
  refine va_putF hx hb hts (fun w h => List.mem_cons_of_mem _ (ziJ0 w h)) tyJ0 tyJ0_ok nmJ0 hown hK.1 hP hD hS 0 rfl rfl 0 (by decide) (ok _ mj_978) (fun _ h => h) rfl hin rfl (tyJ0_ok 0 (by decide)) rfl rfl (Nat.le_of_ble_eq_true rfl) dJ0_init_db425_35 (fun H locs hP hD hS => ?_)
  have hP : va_P D vwCl [(h0, .inr (5, [.ref q', .int 0, .int 0, .int 0])), (b, .inr (4, [.ref q, .int 0, .int mL, .int (nI k)])), (q, .inl (Y 1, cap, .inl a)), (q', .inl (Y 1, k, .inl a'))] _ := hP
  have hD : va_D A ([(h0, .inr (5, [.ref q', .int 0, .int 0, .int 0])), (b, .inr (4, [.ref q, .int 0, .int mL, .int (nI k)])), (q, .inl (Y 1, cap, .inl a)), (q', .inl (Y 1, k, .inl a'))] : va_W) := hD
  refine lv_goto (tgt := 97) hx hb dJ0_init_db425_38 (by decide) ?_
  exact z_jvret hx hb hr ⟨rfl, q', a', gk, gf, hP.sub [0, 3] rfl, hD.sub [0, 3] rfl rfl⟩ hS hlocks (Nat.le_of_ble_eq_true rfl) (Nat.le_of_ble_eq_true rfl) dJ0_init_db425_97

set_option maxHeartbeats 4000000 in
set_option maxRecDepth 100000 in
theorem cj_J0_init_81219 (l : Launch) (hfl : l.flags = flags0) (D : va_G) (Y : Nat → ClassId) (S V : Nat → Nat) (A : Nat → Prop) (h0 b q cap k : Nat) (mL : Int32) (a : Nat → Int32) (hD : va_D A ([(h0, .inr (5, [.null, .int 0, .int 0, .int 0])), (b, .inr (4, [.ref q, .int 0, .int mL, .int (nI k)])), (q, .inl (Y 1, cap, .inl a))] : va_W)) (h1 : k ≤ cap) (h2 : cap ≤ 600) (hf : sb_Fit a) : zMJ l yJ0_init_81219 cJ0_init_81219 2 none 5 1 600 D Y S V A [.ref h0, .ref b] (fun U => va_P D vwCl [(h0, .inr (5, [.null, .int 0, .int 0, .int 0])), (b, .inr (4, [.ref q, .int 0, .int mL, .int (nI k)])), (q, .inl (Y 1, cap, .inl a))] U.heap) (fun r H => r = none ∧ ∃ (vs : Nat) (a' : Nat → Int32), (∀ j, j < k → a' j = a j) ∧ sb_Fit a' ∧ va_P D vwCl [(h0, .inr (5, [.ref vs, .int 0, .int 0, .int 0])), (vs, .inl (Y 1, k, .inl a'))] H ∧ va_D A ([(h0, .inr (5, [.ref vs, .int 0, .int 0, .int 0])), (vs, .inl (Y 1, k, .inl a'))] : va_W)) := by
  refine zMJ.ofW hfl (by decide) (fun p e s m args below meth c ha F hr hlocks hin hP => ?_)
  subst ha
  obtain ⟨hx, hb, hml, hown, hts, hl9, hJ, hA⟩ := id F
  have ok : ∀ w ∈ zWS, w.before ([.ref h0, .ref b] : List Value).toArray s = true := fun w h => hts w (List.mem_cons_of_mem _ h)
  have hK := hJ.1
  have hS : va_S A s.heap s.heap [] := va_S.rf
  have hl := lv_entry ([.ref h0, .ref b]) (n := 2) (Nat.le_of_ble_eq_true rfl)
  rw [lg_entry_eq]
  generalize (lg_sl ([.ref h0, .ref b]) ++ List.replicate (2 - (lg_sl ([.ref h0, .ref b])).length) Slot.unset).toArray = ls at hl ⊢
  have hl : lv_has ls 2 [(0, .ref h0), (1, .ref b)] := hl
  refine lv_aload_n hx hb dJ0_init_81219_0 rfl (lv_at hl 0 rfl) ?_
  refine lv_aload_n hx hb dJ0_init_81219_1 rfl (lv_at hl 1 rfl) ?_
  refine lv_null hx hb dJ0_init_81219_2 ?_
  refine z_jI (As := [.ref b, .null]) (rest := []) F kn_J0_init_db425 mj_928 (cj_J0_init_db425 l hfl D Y S V A h0 b q cap k mL a hD h1 h2 hf) (fun _ _ _ _ h => h) (fun U hU hW => (by rw [hU]; exact hP)) hS (fun _ h => h) (fun q h => hA q (Nat.le_trans hS.1 h)) rfl rfl hl.1 (Nat.le_of_ble_eq_true rfl) dJ0_init_81219_3 (Nat.le_of_ble_eq_true rfl) ⟨(Nat.le_of_ble_eq_true rfl), (Nat.le_of_ble_eq_true rfl)⟩ rfl (fun v H1 locs hp hz hk hS => ?_)
  obtain ⟨rfl, hp⟩ := hp
  exact z_jvret hx hb hr ⟨rfl, hp⟩ hS hlocks (Nat.le_of_ble_eq_true rfl) (Nat.le_of_ble_eq_true rfl) dJ0_init_81219_6

set_option maxHeartbeats 4000000 in
set_option maxRecDepth 100000 in
theorem cj_J4_toString_0e30d (l : Launch) (hfl : l.flags = flags0) (D : va_G) (Y : Nat → ClassId) (S V : Nat → Nat) (A : Nat → Prop) (b : Nat) (mL : Int32) (t : List Nat) : zMJ l yJ4_toString_0e30d cJ4_toString_0e30d 1 (some (.object "java/lang/String")) 6 2 604 D Y S V A [.ref b] (fun U => zSB D Y A b mL t U.heap) (fun r H => ∃ (h0 vs : Nat) (a' : Nat → Int32), r = some (.ref h0) ∧ zLat t a' ∧ sb_Fit a' ∧ va_P D vwCl [(h0, .inr (5, [.ref vs, .int 0, .int 0, .int 0])), (vs, .inl (Y 1, t.length, .inl a'))] H ∧ va_D A ([(h0, .inr (5, [.ref vs, .int 0, .int 0, .int 0])), (vs, .inl (Y 1, t.length, .inl a'))] : va_W)) := by
  refine zMJ.ofW hfl (by decide) (fun p e s m args below meth c ha F hr hlocks hin hP => ?_)
  subst ha
  obtain ⟨hx, hb, hml, hown, hts, hl9, hJ, hA⟩ := id F
  have ok : ∀ w ∈ zWS, w.before ([.ref b] : List Value).toArray s = true := fun w h => hts w (List.mem_cons_of_mem _ h)
  have hK := hJ.1
  have hS : va_S A s.heap s.heap [] := va_S.rf
  have hl := lv_entry ([.ref b]) (n := 1) (Nat.le_of_ble_eq_true rfl)
  rw [lg_entry_eq]
  generalize (lg_sl ([.ref b]) ++ List.replicate (1 - (lg_sl ([.ref b])).length) Slot.unset).toArray = ls at hl ⊢
  have hl : lv_has ls 1 [(0, .ref b)] := hl
  obtain ⟨q, cap, a, hP, hD, g1, g2, g3, g4⟩ := hP
  have hP : va_P D vwCl [(b, .inr (4, [.ref q, .int 0, .int mL, .int (nI t.length)])), (q, .inl (Y 1, cap, .inl a))] _ := hP
  have hD : va_D A ([(b, .inr (4, [.ref q, .int 0, .int mL, .int (nI t.length)])), (q, .inl (Y 1, cap, .inl a))] : va_W) := hD
  refine va_new (ci := 5) (fs := [.null, .int 0, .int 0, .int 0]) (C := RJ0) (T := TJ0) (N := 4) hx hb hts (fun w h => List.mem_cons_of_mem _ (ziJ0 w h)) tyJ0 tyJ0_ok hown (ok _ mj_923) (ok _ mj_924) (ok _ mj_35) hK.1 hP hD hS hA rfl (by intro j hj; match j, hj with | 0, _ => rfl | 1, _ => rfl | 2, _ => rfl | 3, _ => rfl) (by show 0 + 1 ≤ 2; decide) (by show 0 + 4 ≤ 604; decide) dJ4_toString_0e30d_0 (fun h0 H hP hD hS => ?_)
  have hP : va_P D vwCl [(b, .inr (4, [.ref q, .int 0, .int mL, .int (nI t.length)])), (q, .inl (Y 1, cap, .inl a)), (h0, .inr (5, [.null, .int 0, .int 0, .int 0]))] _ := hP
  have hD : va_D A ([(b, .inr (4, [.ref q, .int 0, .int mL, .int (nI t.length)])), (q, .inl (Y 1, cap, .inl a)), (h0, .inr (5, [.null, .int 0, .int 0, .int 0]))] : va_W) := hD
  refine lv_dup hx hb dJ4_toString_0e30d_3 rfl ?_
  refine lv_aload_n hx hb dJ4_toString_0e30d_4 rfl (lv_at hl 0 rfl) ?_
  have hP9 := hP.sub [2, 0, 1] rfl
  have hD9 : va_D A ([(h0, .inr (5, [.null, .int 0, .int 0, .int 0])), (b, .inr (4, [.ref q, .int 0, .int mL, .int (nI t.length)])), (q, .inl (Y 1, cap, .inl a))] : va_W) := hD.sub [2, 0, 1] rfl rfl
  refine z_jI (As := [.ref b]) (rest := [.ref h0]) F kn_J0_init_81219 mj_925 (cj_J0_init_81219 l hfl D Y S V A h0 b q cap t.length mL a hD9 g2 g1 g4) (fun _ _ _ _ h => h) (fun U hU hW => (by rw [hU]; exact hP9)) hS (fun _ h => h) (fun q h => hA q (Nat.le_trans hS.1 h)) rfl rfl hl.1 (Nat.le_of_ble_eq_true rfl) dJ4_toString_0e30d_5 (Nat.le_of_ble_eq_true rfl) ⟨(Nat.le_of_ble_eq_true rfl), (Nat.le_of_ble_eq_true rfl)⟩ rfl (fun v H1 locs hp hz hk hS => ?_)
  obtain ⟨rfl, vs, a', gk, gf, hP, hD⟩ := hp
  exact z_jaret hx hb hr (Or.inl ⟨_, rfl⟩) ⟨h0, vs, a', rfl, g3.keep (fun j hj => gk j hj), gf, hP, hD⟩ hS hlocks (Nat.le_of_ble_eq_true rfl) (Nat.le_of_ble_eq_true rfl) dJ4_toString_0e30d_8
