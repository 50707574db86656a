/-! THE JDK'S OWN METHODS over texts, by program: writing -/
theorem mj_152 : Cond.arrayClass .byte ∈ zWS := zws_in 152 (by decide +kernel) (by decide +kernel)
theorem mj_408 : Cond.static Lib.Math.min.name ∈ zWS := zws_in 408 (by decide +kernel) (by decide +kernel)
theorem mj_409 : Cond.code Lib.Math.min.name Lib.Math.min.code 2 (some .int) ∈ zWS := zws_in 409 (by decide +kernel) (by decide +kernel)
theorem mj_41 : Cond.initialized "java/lang/System" ∈ zWS := zws_in 41 (by decide +kernel) (by decide +kernel)
theorem mj_445 : Cond.static arraycopyName ∈ zWS := zws_in 445 (by decide +kernel) (by decide +kernel)
theorem mj_446 : Cond.native arraycopyName ∈ zWS := zws_in 446 (by decide +kernel) (by decide +kernel)
theorem mj_787 : Cond.methodLink RJ5 104 yJ5_newCapacity_0f7a4 ∈ zWS := zws_in 787 (by decide +kernel) (by decide +kernel)
theorem mj_799 : Cond.methodLink RJ5 108 yJ7_copyOf_9075b ∈ zWS := zws_in 799 (by decide +kernel) (by decide +kernel)
theorem mj_809 : Cond.methodLink RJ7 304 Lib.Math.min.name ∈ zWS := zws_in 809 (by decide +kernel) (by decide +kernel)
theorem mj_810 : Cond.methodLink RJ7 150 arraycopyName ∈ zWS := zws_in 810 (by decide +kernel) (by decide +kernel)
theorem kj_J7_copyOf_9075b : zcas yJ7_copyOf_9075b cJ7_copyOf_9075b 3 (some (.array .byte)) 2 := ⟨zws_in 800 (by decide +kernel) (by decide +kernel), zws_in 39 (by decide +kernel) (by decide +kernel), zws_in 801 (by decide +kernel) (by decide +kernel), ⟨by decide +kernel, by decide +kernel⟩, by decide +kernel, by decide⟩
theorem kp_J5_newCapacity_0f7a4 : zcaup RJ4 yJ5_newCapacity_0f7a4 cJ5_newCapacity_0f7a4 6 (some .int) 1 := ⟨zws_in 1186 (by decide +kernel) (by decide +kernel), by decide +kernel, zws_in 789 (by decide +kernel) (by decide +kernel), zws_in 42 (by decide +kernel) (by decide +kernel), zws_in 790 (by decide +kernel) (by decide +kernel), ⟨by decide +kernel, by decide +kernel⟩, by decide +kernel, by decide, rfl⟩
set_option maxHeartbeats 4000000 in
set_option maxRecDepth 100000 in
theorem cj_J7_copyOf_9075b (l : Launch) (hfl : l.flags = flags0) (D : va_G) (Y : Nat → ClassId) (S V : Nat → Nat) (A : Nat → Prop) (q cap k : Nat) (a : Nat → Int32) (hD : va_D A ([(q, .inl (Y 1, cap, .inl a))] : va_W)) (h1 : cap < k) (h2 : k ≤ 600) (hf : sb_Fit a) : zMJ l yJ7_copyOf_9075b cJ7_copyOf_9075b 3 (some (.array .byte)) 2 1 600 D Y S V A [.ref q, .int (nI k)] (fun U => va_P D vwCl [(q, .inl (Y 1, cap, .inl a))] U.heap) (fun v H => ∃ q', v = some (.ref q') ∧ va_P D vwCl [(q, .inl (Y 1, cap, .inl a)), (q', .inl (Y 1, k, .inl (va_cpy a (fun _ => 0) 0 0 cap)))] H ∧ va_D A ([(q, .inl (Y 1, cap, .inl a)), (q', .inl (Y 1, k, .inl (va_cpy a (fun _ => 0) 0 0 cap)))] : va_W)) := by
  refine zMJ.ofW hfl (by decide) (fun p e s m args below meth c ha F hr hlocks hin hP => ?_)
  subst ha
  obtain ⟨hx, hb, hml, hown, hts, hl9, hJ, hA⟩ := id F
  have ok : ∀ w ∈ zWS, w.before ([.ref q, .int (nI k)] : List Value).toArray s = true := fun w h => hts w (List.mem_cons_of_mem _ h)
  have hK := hJ.1
  have hS : va_S A s.heap s.heap [] := va_S.rf
  have hl := lv_entry ([.ref q, .int (nI k)]) (n := 3) (Nat.le_of_ble_eq_true rfl)
  rw [lg_entry_eq]
  generalize (lg_sl ([.ref q, .int (nI k)]) ++ List.replicate (3 - (lg_sl ([.ref q, .int (nI k)])).length) Slot.unset).toArray = ls at hl ⊢
  have hl : lv_has ls 3 [(0, .ref q), (1, .int (nI k))] := hl
  refine lv_iload_n hx hb dJ7_copyOf_9075b_0 rfl (lv_at hl 1 rfl) ?_
  refine lv_aload_n hx hb dJ7_copyOf_9075b_1 rfl (lv_at hl 0 rfl) ?_
  refine va_alen (v := nI cap) hx hb hK.1 hP 0 1 rfl rfl rfl dJ7_copyOf_9075b_2 ?_
  refine lv_icmp_ne (tgt := 14) hx hb dJ7_copyOf_9075b_3 (by decide) (fun hc => ?_) (fun hc => absurd hc (show ¬ nI k = nI cap from fun z => by have := (nI_eq (by omega) (by omega)).mp z; omega))
  refine lv_iload_n hx hb dJ7_copyOf_9075b_14 rfl (lv_at hl 1 rfl) ?_
  refine va_newa (atype := .byte) (ty := .byte) (a0 := (k, .inl fun _ => 0)) (N' := k) hx hb (ok _ mj_152) rfl hK.1 hP hD hS hA (fun _ => rfl) (nI_pos (by omega)) (nI_clamp (by omega)) (by show k * 1 ≤ 536870912; omega) (by show _ ≤ 1; omega) (by show _ ≤ 600; omega) dJ7_copyOf_9075b_15 (fun q9 cA H hK1 hP hD hS => ?_)
  obtain rfl : cA = Y 1 := (zY_of hK.1).2.1 hK1
  refine W.widen (show _ ≤ 1 from by omega) (show _ ≤ 600 from by omega) ?_
  have hP : va_P D vwCl [(q, .inl (Y 1, cap, .inl a)), (q9, .inl (Y 1, k, .inl fun _ => 0))] _ := hP
  have hD : va_D A ([(q, .inl (Y 1, cap, .inl a)), (q9, .inl (Y 1, k, .inl fun _ => 0))] : va_W) := hD
  refine lv_astore_n (lv' := [(2, .ref q9), (0, .ref q), (1, .int (nI k))]) hx hb dJ7_copyOf_9075b_17 rfl hl (by decide) rfl (fun ls hl => ?_)
  refine lv_aload_n hx hb dJ7_copyOf_9075b_18 rfl (lv_at hl 1 rfl) ?_
  refine lv_iconst (v := 0) hx hb dJ7_copyOf_9075b_19 (by decide) ?_
  refine lv_aload_n hx hb dJ7_copyOf_9075b_20 rfl (lv_at hl 0 rfl) ?_
  refine lv_iconst (v := 0) hx hb dJ7_copyOf_9075b_21 (by decide) ?_
  refine lv_aload_n hx hb dJ7_copyOf_9075b_22 rfl (lv_at hl 1 rfl) ?_
  refine va_alen (v := nI cap) hx hb hK.1 hP 0 1 rfl rfl rfl dJ7_copyOf_9075b_23 ?_
  refine lv_iload_n hx hb dJ7_copyOf_9075b_24 rfl (lv_at hl 2 rfl) ?_
  refine va_mmin hx hb (hml.trans hl.1.symm) hown (ok _ mj_809) (ok _ mj_408) (ok _ mj_40) (ok _ mj_409) (by show 1 ≤ 2; decide) (by show _ + 13 ≤ 37 * 2; exact Nat.le_of_ble_eq_true rfl) (Nat.le_of_ble_eq_true rfl) (Nat.le_of_ble_eq_true rfl) dJ7_copyOf_9075b_25 ?_
  refine z_topi (x := (nI cap)) (if_neg (nI_nlt (by omega) (by omega))).symm ?_
  refine va_copyi hx hb (hml.trans hl.1.symm) hown (ok _ mj_810) (ok _ mj_446) (ok _ mj_445) (ok _ mj_41) hK.1 hP hD hS 0 1 1 1 rfl rfl rfl rfl rfl (by decide) (by decide) (nI_pos (by omega)) (by rw [sb_cl0, nI_clamp (by omega)]; omega) (by rw [sb_cl0, nI_clamp (by omega)]; omega) (fun _ _ => hf _) (by show 1 ≤ 2; decide) (by show 0 + (nativeFrameWords "java/lang/System" "arraycopy" 5 + 11) ≤ 37 * 2; have : nativeFrameWords "java/lang/System" "arraycopy" 5 ≤ 50 := (by decide +kernel); (try simp only [List.map_nil, List.sum_nil]); omega) dJ7_copyOf_9075b_28 (fun H locs hP hD hS => ?_)
  rw [sb_cl0, nI_clamp (by omega)] at hP hD
  refine lv_aload_n hx hb dJ7_copyOf_9075b_31 rfl (lv_at hl 0 rfl) ?_
  exact z_jaret hx hb hr (Or.inr ⟨_, rfl⟩) ⟨q9, rfl, hP, hD⟩ hS hlocks (Nat.le_of_ble_eq_true rfl) (Nat.le_of_ble_eq_true rfl) dJ7_copyOf_9075b_32

set_option maxHeartbeats 4000000 in
set_option maxRecDepth 100000 in
theorem cj_J5_ensureCapacityInternal_d00df (l : Launch) (hfl : l.flags = flags0) (D : va_G) (Y : Nat → ClassId) (S V : Nat → Nat) (A : Nat → Prop) (b q cap : Nat) (mL n : Int32) (a : Nat → Int32) (k : Nat) (hD : va_D A ([(b, .inr (4, [.ref q, .int 0, .int mL, .int n])), (q, .inl (Y 1, cap, .inl a))] : va_W)) (h1 : cap ≤ 600) (h2 : k ≤ 300) (hf : sb_Fit a) : zMJ l yJ5_ensureCapacityInternal_d00df cJ5_ensureCapacityInternal_d00df 3 none 3 1 600 D Y S V A [.ref b, .int (nI k)] (fun U => va_P D vwCl [(b, .inr (4, [.ref q, .int 0, .int mL, .int n])), (q, .inl (Y 1, cap, .inl a))] U.heap) (fun v H => v = none ∧ ∃ (q' cap' : Nat) (a' : Nat → Int32), va_P D vwCl (zsb Y b q' cap' mL n a') H ∧ va_D A (zsb Y b q' cap' mL n a') ∧ cap' ≤ 600 ∧ k ≤ cap' ∧ cap ≤ cap' ∧ (∀ j, j < cap → a' j = a j) ∧ sb_Fit a') := by
  refine zMJ.ofW hfl (by decide) (fun p e s m args below meth c ha F hr hlocks hin hP => ?_)
  subst ha
  obtain ⟨hx, hb, hml, hown, hts, hl9, hJ, hA⟩ := id F
  have ok : ∀ w ∈ zWS, w.before ([.ref b, .int (nI k)] : List Value).toArray s = true := fun w h => hts w (List.mem_cons_of_mem _ h)
  have hK := hJ.1
  have hS : va_S A s.heap s.heap [] := va_S.rf
  have hl := lv_entry ([.ref b, .int (nI k)]) (n := 3) (Nat.le_of_ble_eq_true rfl)
  rw [lg_entry_eq]
  generalize (lg_sl ([.ref b, .int (nI k)]) ++ List.replicate (3 - (lg_sl ([.ref b, .int (nI k)])).length) Slot.unset).toArray = ls at hl ⊢
  have hl : lv_has ls 3 [(0, .ref b), (1, .int (nI k))] := hl
  refine lv_aload_n hx hb dJ5_ensureCapacityInternal_d00df_0 rfl (lv_at hl 0 rfl) ?_
  refine va_get hx hb hts (fun w h => List.mem_cons_of_mem _ (ziJ4 w h)) hown hK.1 hP 0 rfl rfl 0 (by decide) (ok _ mj_865) (fun _ h => h) rfl dJ5_ensureCapacityInternal_d00df_1 ?_
  refine va_alen (v := nI cap) hx hb hK.1 hP 1 1 rfl rfl rfl dJ5_ensureCapacityInternal_d00df_4 ?_
  refine lv_aload_n hx hb dJ5_ensureCapacityInternal_d00df_5 rfl (lv_at hl 0 rfl) ?_
  refine va_get hx hb hts (fun w h => List.mem_cons_of_mem _ (ziJ4 w h)) hown hK.1 hP 0 rfl rfl 1 (by decide) (ok _ mj_866) (fun _ h => h) rfl dJ5_ensureCapacityInternal_d00df_6 ?_
  refine lv_ishr hx hb dJ5_ensureCapacityInternal_d00df_9 ?_
  refine z_topi (x := (nI cap)) (sb_shr0 _).symm ?_
  refine lv_istore_n (lv' := [(2, .int (nI cap)), (0, .ref b), (1, .int (nI k))]) hx hb dJ5_ensureCapacityInternal_d00df_10 rfl hl (by decide) rfl (fun ls hl => ?_)
  refine lv_iload_n hx hb dJ5_ensureCapacityInternal_d00df_11 rfl (lv_at hl 2 rfl) ?_
  refine lv_iload_n hx hb dJ5_ensureCapacityInternal_d00df_12 rfl (lv_at hl 0 rfl) ?_
  refine lv_isub hx hb dJ5_ensureCapacityInternal_d00df_13 ?_
  by_cases hkc : k ≤ cap
  · skip
    refine lv_if_le (tgt := 38) hx hb dJ5_ensureCapacityInternal_d00df_14 (by decide) (fun hc => ?_) (fun hc => absurd (zsubl hkc (by omega)) hc)
    exact z_jvret hx hb hr ⟨rfl, q, cap, a, hP, hD, h1, hkc, Nat.le_refl _, fun _ _ => rfl, hf⟩ hS hlocks (Nat.le_of_ble_eq_true rfl) (Nat.le_of_ble_eq_true rfl) dJ5_ensureCapacityInternal_d00df_38
  · skip
    refine lv_if_le (tgt := 38) hx hb dJ5_ensureCapacityInternal_d00df_14 (by decide) (fun hc => absurd hc (zsubn (Nat.lt_of_not_le hkc) (by omega))) (fun hc => ?_)
    refine lv_aload_n hx hb dJ5_ensureCapacityInternal_d00df_17 rfl (lv_at hl 1 rfl) ?_
    refine lv_aload_n hx hb dJ5_ensureCapacityInternal_d00df_18 rfl (lv_at hl 1 rfl) ?_
    refine va_get hx hb hts (fun w h => List.mem_cons_of_mem _ (ziJ4 w h)) hown hK.1 hP 0 rfl rfl 0 (by decide) (ok _ mj_865) (fun _ h => h) rfl dJ5_ensureCapacityInternal_d00df_19 ?_
    refine lv_aload_n hx hb dJ5_ensureCapacityInternal_d00df_22 rfl (lv_at hl 1 rfl) ?_
    refine lv_iload_n hx hb dJ5_ensureCapacityInternal_d00df_23 rfl (lv_at hl 2 rfl) ?_
    refine z_jP (As := [.int (nI k)]) (rest := [.ref q, .ref b]) F kp_J5_newCapacity_0f7a4 mj_787 (cj_J5_newCapacity_0f7a4 l hfl D Y S V (fun q => _ ≤ q) b q cap mL n a k (by omega) h2) (fun _ _ _ _ h => h) (fun U hU _ => by rw [hU]; exact hP) (va_recv hK.1 hP rfl (q0 := 0) rfl) hS (fun q h => hA q (Nat.le_trans hS.1 h)) (fun _ h => h) rfl rfl hl.1 (Nat.le_of_ble_eq_true rfl) dJ5_ensureCapacityInternal_d00df_24 (Nat.le_of_ble_eq_true rfl) ⟨(Nat.le_of_ble_eq_true rfl), (Nat.le_of_ble_eq_true rfl)⟩ rfl (fun v H1 locs hp hz hk hS => ?_)
    subst hp
    have hP := hP.kept (fun k x hx => hk x.1 (hP k x hx).lt (Nat.not_le.mpr (hP k x hx).lt))
    obtain ⟨c9, ec9⟩ : ∃ c9, c9 = (cap + (if k - cap < cap + 2 then cap + 2 else k - cap)) := ⟨_, rfl⟩
    have hc9 : cap < c9 ∧ c9 ≤ 600 ∧ k ≤ c9 := by rw [ec9]; split <;> omega
    rw [← ec9]
    refine lv_aload_n hx hb dJ5_ensureCapacityInternal_d00df_27 rfl (lv_at hl 1 rfl) ?_
    refine va_get hx hb hts (fun w h => List.mem_cons_of_mem _ (ziJ4 w h)) hown hK.1 hP 0 rfl rfl 1 (by decide) (ok _ mj_866) (fun _ h => h) rfl dJ5_ensureCapacityInternal_d00df_28 ?_
    refine lv_ishl hx hb dJ5_ensureCapacityInternal_d00df_31 ?_
    refine z_topi (x := (nI c9)) (sb_shl0 _).symm ?_
    have hPq : va_P D vwCl [(q, .inl (Y 1, cap, .inl a))] _ := hP.sub [1] rfl
    have hP9 : va_P D vwCl ([(b, .inr (4, [.ref q, .int 0, .int mL, .int n]))] ++ [(q, .inl (Y 1, cap, .inl a))]) _ := hP
    have hD9 : va_D A ([(b, .inr (4, [.ref q, .int 0, .int mL, .int n]))] ++ [(q, .inl (Y 1, cap, .inl a))]) := hD
    have hA9 : ∀ q, _ ≤ q → A q := fun q h => hA q (Nat.le_trans hS.1 h)
    refine z_jS (As := [.ref q, .int (nI c9)]) (rest := [.ref b]) F kj_J7_copyOf_9075b mj_799 (cj_J7_copyOf_9075b l hfl D Y S V _ q cap c9 a (zA1_D hD9) hc9.1 hc9.2.1 hf) (fun _ _ _ _ h => h) (fun U hU _ => by rw [hU]; exact hPq) hS (zA1_AB hD9 hA9) (fun _ h => Or.inr h) rfl rfl hl.1 (Nat.le_of_ble_eq_true rfl) dJ5_ensureCapacityInternal_d00df_32 (Nat.le_of_ble_eq_true rfl) ⟨(Nat.le_of_ble_eq_true rfl), (Nat.le_of_ble_eq_true rfl)⟩ rfl (fun v H1 locs hp hz hk hS => ?_)
    obtain ⟨q', rfl, hP1, hD1⟩ := hp
    obtain ⟨hP, hD⟩ := zjoin hP9 hD9 hA9 hk hP1 hD1
    have hP : va_P D vwCl [(b, .inr (4, [.ref q, .int 0, .int mL, .int n])), (q, .inl (Y 1, cap, .inl a)), (q', .inl (Y 1, c9, .inl (va_cpy a (fun _ => 0) 0 0 cap)))] _ := hP
    have hD : va_D A ([(b, .inr (4, [.ref q, .int 0, .int mL, .int n])), (q, .inl (Y 1, cap, .inl a)), (q', .inl (Y 1, c9, .inl (va_cpy a (fun _ => 0) 0 0 cap)))] : va_W) := hD
    refine va_put hx hb hts (fun w h => List.mem_cons_of_mem _ (ziJ4 w h)) tyJ4 tyJ4_ok nmJ4 hown hK.1 hP hD hS 0 rfl rfl 0 (by decide) (ok _ mj_865) (fun _ h => h) rfl (tyJ4_ok 0 (by decide)) rfl rfl (Nat.le_of_ble_eq_true rfl) dJ5_ensureCapacityInternal_d00df_35 (fun H locs hP hD hS => ?_)
    have hP : va_P D vwCl [(b, .inr (4, [.ref q', .int 0, .int mL, .int n])), (q, .inl (Y 1, cap, .inl a)), (q', .inl (Y 1, c9, .inl (va_cpy a (fun _ => 0) 0 0 cap)))] _ := hP
    have hD : va_D A ([(b, .inr (4, [.ref q', .int 0, .int mL, .int n])), (q, .inl (Y 1, cap, .inl a)), (q', .inl (Y 1, c9, .inl (va_cpy a (fun _ => 0) 0 0 cap)))] : va_W) := hD
    exact z_jvret hx hb hr ⟨rfl, q', c9, _, hP.sub [0, 2] rfl, hD.sub [0, 2] rfl rfl, hc9.2.1, hc9.2.2, Nat.le_of_lt hc9.1, fun j hj => sb_cpy0 hj, sb_fitC hf sb_fit0⟩ hS hlocks (Nat.le_of_ble_eq_true rfl) (Nat.le_of_ble_eq_true rfl) dJ5_ensureCapacityInternal_d00df_38
