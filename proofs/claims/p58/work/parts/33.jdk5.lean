/-! THE JDK'S OWN METHODS over texts, by program: numbers -/
theorem mj_881 : Cond.methodLink RJ4 53 yJ5_append_c97b9 ∈ zWS := zws_in 881 (by decide +kernel) (by decide +kernel)
theorem mj_884 : Cond.methodLink RJ5 245 yJ6_stringSize_0f7a4 ∈ zWS := zws_in 884 (by decide +kernel) (by decide +kernel)
theorem mj_887 : Cond.methodLink RJ5 248 yJ6_getChars_ba4f3 ∈ zWS := zws_in 887 (by decide +kernel) (by decide +kernel)
theorem mj_890 : Cond.fieldLink RJ6 83 "java/lang/Integer" "DigitOnes" "[B" ∈ zWS := zws_in 890 (by decide +kernel) (by decide +kernel)
theorem mj_892 : Cond.fieldLink RJ6 87 "java/lang/Integer" "DigitTens" "[B" ∈ zWS := zws_in 892 (by decide +kernel) (by decide +kernel)
theorem kj_J6_getChars_ba4f3 : zcas yJ6_getChars_ba4f3 cJ6_getChars_ba4f3 7 (some .int) 3 := ⟨zws_in 888 (by decide +kernel) (by decide +kernel), zws_in 46 (by decide +kernel) (by decide +kernel), zws_in 889 (by decide +kernel) (by decide +kernel), ⟨by decide +kernel, by decide +kernel⟩, by decide +kernel, by decide⟩
theorem kj_J6_stringSize_0f7a4 : zcas yJ6_stringSize_0f7a4 cJ6_stringSize_0f7a4 4 (some .int) 1 := ⟨zws_in 885 (by decide +kernel) (by decide +kernel), zws_in 46 (by decide +kernel) (by decide +kernel), zws_in 886 (by decide +kernel) (by decide +kernel), ⟨by decide +kernel, by decide +kernel⟩, by decide +kernel, by decide⟩
theorem ks_J5_append_c97b9 : zcasu RJ4 yJ5_append_c97b9 cJ5_append_c97b9 4 (some (.object "java/lang/AbstractStringBuilder")) 1 := ⟨zws_in 1190 (by decide +kernel) (by decide +kernel), zws_in 777 (by decide +kernel) (by decide +kernel), zws_in 882 (by decide +kernel) (by decide +kernel), zws_in 42 (by decide +kernel) (by decide +kernel), zws_in 883 (by decide +kernel) (by decide +kernel), by decide +kernel, by decide +kernel, by decide⟩
theorem zeqP {D : va_G} {ws ws' : va_W} {H : Heap} (e : ws = ws') (h : va_P D vwCl ws H) : va_P D vwCl ws' H := e ▸ h
theorem zeqD {A : Nat → Prop} {ws ws' : va_W} (e : ws = ws') (h : va_D A ws) : va_D A ws' := e ▸ h
theorem zdec (m : Nat) : nI (m + 1) + Int32.ofInt (-1) = nI m := pk_m1 m
theorem zcon {a b : Nat} (h : a = b) : Value.int (nI a) = .int (nI b) := by rw [h]
theorem z0le {v : Nat} (h : v < 65536) : (0 : Int32) ≤ nI v := by
  rw [Int32.le_iff_toInt_le, nI_toInt (by omega), Int32.toInt_zero]
  omega
theorem zdig_1 {v : Nat} (h : v < 10) : zdig v = [48 + v] := if_pos h
theorem zdig_2 {v : Nat} (h0 : 10 ≤ v) (h : v < 100) : zdig v = [48 + v / 10, 48 + v % 10] := (if_neg (by omega)).trans (if_pos h)
theorem zdig_3 {v : Nat} (h0 : 100 ≤ v) (h : v < 1000) : zdig v = [48 + v / 100, 48 + v / 10 % 10, 48 + v % 10] := (if_neg (by omega)).trans ((if_neg (by omega)).trans (if_pos h))
theorem zdig_4 {v : Nat} (h0 : 1000 ≤ v) : zdig v = [48 + v / 1000, 48 + v / 100 % 10, 48 + v / 10 % 10, 48 + v % 10] := (if_neg (by omega)).trans ((if_neg (by omega)).trans (if_neg (by omega)))
/-- the letters ds, written from place n on -/
def zput (a : Nat → Int32) (n : Nat) (ds : List Nat) : Nat → Int32 := fun j => if n ≤ j ∧ j < n + ds.length then nI (ds.getD (j - n) 0) else a j
theorem zput_nil {a : Nat → Int32} {n : Nat} : zput a n [] = a := funext fun j => if_neg (by rw [List.length_nil]; omega)
theorem zput_cons {a : Nat → Int32} {n x : Nat} {ds : List Nat} : upd (zput a (n + 1) ds) n (nI x) = zput a n (x :: ds) := by
  funext j
  have e : (x :: ds).length = ds.length + 1 := rfl
  unfold zput
  rw [e]
  by_cases h : j = n
  · subst h
    rw [pk_us, if_pos ⟨Nat.le_refl _, by omega⟩, Nat.sub_self]
    rfl
  · rw [pk_un h]
    by_cases h2 : n + 1 ≤ j ∧ j < n + 1 + ds.length
    · rw [if_pos h2, if_pos ⟨by omega, by omega⟩, show j - n = (j - (n + 1)) + 1 by omega]
      rfl
    · rw [if_neg h2, if_neg (by omega)]
theorem zput_app {t : List Nat} {a a' : Nat → Int32} {ds : List Nat} (h : zLat t a) (hk : ∀ j, j < t.length → a' j = a j) (hd : ∀ x ∈ ds, x < 128) : zLat (t ++ ds) (zput a' t.length ds) := by
  refine zLat.app h (fun j hj => (if_neg (by omega)).trans (hk j hj)) hd (fun i hi => ?_)
  show (if _ then _ else _) = _
  rw [if_pos ⟨by omega, by omega⟩, Nat.add_sub_cancel_left]
theorem zput_fit {a : Nat → Int32} {n : Nat} {ds : List Nat} (h : sb_Fit a) (hd : ∀ x ∈ ds, x < 128) : sb_Fit (zput a n ds) := fun j => by
  by_cases e : n ≤ j ∧ j < n + ds.length
  · rw [show zput a n ds j = nI (ds.getD (j - n) 0) from if_pos e]
    refine zfit ?_
    rw [List.getD_eq_getElem?_getD, List.getElem?_eq_getElem (by omega)]
    exact hd _ (List.getElem_mem _)
  · rw [show zput a n ds j = a j from if_neg e]
    exact h j
set_option maxHeartbeats 4000000 in
set_option maxRecDepth 100000 in
theorem cj_J6_stringSize_0f7a4 (l : Launch) (hfl : l.flags = flags0) (D : va_G) (Y : Nat → ClassId) (S V : Nat → Nat) (A : Nat → Prop) (v : Nat) (hv : v < 10000) : zMJ l yJ6_stringSize_0f7a4 cJ6_stringSize_0f7a4 4 (some .int) 0 0 0 D Y S V A [.int (nI v)] (fun _ => True) (fun r _ => r = some (.int (nI (zdig v).length))) := by
  refine zMJ.ofW hfl (by decide) (fun p e s m args below meth c ha F hr hlocks hin hP => ?_)
  subst ha
  obtain ⟨hx, hb, hml, hown, hts, hl9, hJ, hA⟩ := id F
  have ok : ∀ w ∈ zWS, w.before ([.int (nI v)] : List Value).toArray s = true := fun w h => hts w (List.mem_cons_of_mem _ h)
  have hK := hJ.1
  have hS : va_S A s.heap s.heap [] := va_S.rf
  have hl := lv_entry ([.int (nI v)]) (n := 4) (Nat.le_of_ble_eq_true rfl)
  rw [lg_entry_eq]
  generalize (lg_sl ([.int (nI v)]) ++ List.replicate (4 - (lg_sl ([.int (nI v)])).length) Slot.unset).toArray = ls at hl ⊢
  have hl : lv_has ls 4 [(0, .int (nI v))] := hl
  refine lv_iconst (v := 1) hx hb dJ6_stringSize_0f7a4_0 (by decide) ?_
  refine lv_istore_n (lv' := [(1, .int 1), (0, .int (nI v))]) hx hb dJ6_stringSize_0f7a4_1 rfl hl (by decide) rfl (fun ls hl => ?_)
  refine lv_iload_n hx hb dJ6_stringSize_0f7a4_2 rfl (lv_at hl 1 rfl) ?_
  refine lv_if_lt (tgt := 11) hx hb dJ6_stringSize_0f7a4_3 (by decide) (fun hc => absurd hc (nI_pos (by omega))) (fun hc => ?_)
  refine lv_iconst (v := 0) hx hb dJ6_stringSize_0f7a4_6 (by decide) ?_
  refine lv_istore_n (lv' := [(1, .int 0), (0, .int (nI v))]) hx hb dJ6_stringSize_0f7a4_7 rfl hl (by decide) rfl (fun ls hl => ?_)
  refine lv_iload_n hx hb dJ6_stringSize_0f7a4_8 rfl (lv_at hl 1 rfl) ?_
  refine lv_ineg hx hb dJ6_stringSize_0f7a4_9 ?_
  refine lv_istore_n (lv' := [(0, .int (-(nI v))), (1, .int 0)]) hx hb dJ6_stringSize_0f7a4_10 rfl hl (by decide) rfl (fun ls hl => ?_)
  refine lv_bipush (v := (-10)) hx hb dJ6_stringSize_0f7a4_11 (by decide) ?_
  refine z_topi (x := (-nI 10)) (by decide) ?_
  refine lv_istore_n (lv' := [(2, .int (-nI 10)), (0, .int (-(nI v))), (1, .int 0)]) hx hb dJ6_stringSize_0f7a4_13 rfl hl (by decide) rfl (fun ls hl => ?_)
  refine lv_iconst (v := 1) hx hb dJ6_stringSize_0f7a4_14 (by decide) ?_
  refine lv_istore_n (lv' := [(3, .int 1), (2, .int (-nI 10)), (0, .int (-(nI v))), (1, .int 0)]) hx hb dJ6_stringSize_0f7a4_15 rfl hl (by decide) rfl (fun ls hl => ?_)
  refine lv_iload_n hx hb dJ6_stringSize_0f7a4_16 rfl (lv_at hl 0 rfl) ?_
  refine lv_bipush (v := 10) hx hb dJ6_stringSize_0f7a4_17 (by decide) ?_
  refine lv_icmp_ge (tgt := 42) hx hb dJ6_stringSize_0f7a4_19 (by decide) (fun hc => absurd hc (by decide)) (fun hc => ?_)
  refine lv_iload_n hx hb dJ6_stringSize_0f7a4_22 rfl (lv_at hl 2 rfl) ?_
  refine lv_iload_n hx hb dJ6_stringSize_0f7a4_23 rfl (lv_at hl 1 rfl) ?_
  by_cases h1 : v < 10
  · skip
    refine lv_icmp_le (tgt := 31) hx hb dJ6_stringSize_0f7a4_24 (by decide) (fun hc => absurd hc (fun z => absurd ((sb_nle (by omega) (by decide)).mp z) (by omega))) (fun hc => ?_)
    refine lv_iload_n hx hb dJ6_stringSize_0f7a4_27 rfl (lv_at hl 0 rfl) ?_
    refine lv_iload_n hx hb dJ6_stringSize_0f7a4_28 rfl (lv_at hl 3 rfl) ?_
    refine lv_iadd hx hb dJ6_stringSize_0f7a4_29 ?_
    exact z_jiret hx hb hr (by rw [zdig_1 h1]; rfl) hS hlocks (Nat.le_of_ble_eq_true rfl) (Nat.le_of_ble_eq_true rfl) dJ6_stringSize_0f7a4_30
  · skip
    refine lv_icmp_le (tgt := 31) hx hb dJ6_stringSize_0f7a4_24 (by decide) (fun hc => ?_) (fun hc => absurd ((sb_nle (by omega) (by decide)).mpr (by omega)) hc)
    refine lv_bipush (v := 10) hx hb dJ6_stringSize_0f7a4_31 (by decide) ?_
    refine lv_iload_n hx hb dJ6_stringSize_0f7a4_33 rfl (lv_at hl 1 rfl) ?_
    refine lv_imul hx hb dJ6_stringSize_0f7a4_34 ?_
    refine z_topi (x := (-nI 100)) (by decide) ?_
    refine lv_istore_n (lv' := [(2, .int (-nI 100)), (3, .int 1), (0, .int (-(nI v))), (1, .int 0)]) hx hb dJ6_stringSize_0f7a4_35 rfl hl (by decide) rfl (fun ls hl => ?_)
    refine lv_iinc (v := 2) (lv' := [(3, .int 2), (2, .int (-nI 100)), (0, .int (-(nI v))), (1, .int 0)]) hx hb dJ6_stringSize_0f7a4_36 hl (k := 1) rfl (by decide) (by decide) rfl (fun ls hl => ?_)
    refine lv_goto (tgt := 16) hx hb dJ6_stringSize_0f7a4_39 (by decide) ?_
    refine lv_iload_n hx hb dJ6_stringSize_0f7a4_16 rfl (lv_at hl 0 rfl) ?_
    refine lv_bipush (v := 10) hx hb dJ6_stringSize_0f7a4_17 (by decide) ?_
    refine lv_icmp_ge (tgt := 42) hx hb dJ6_stringSize_0f7a4_19 (by decide) (fun hc => absurd hc (by decide)) (fun hc => ?_)
    refine lv_iload_n hx hb dJ6_stringSize_0f7a4_22 rfl (lv_at hl 2 rfl) ?_
    refine lv_iload_n hx hb dJ6_stringSize_0f7a4_23 rfl (lv_at hl 1 rfl) ?_
    by_cases h2 : v < 100
    · skip
      refine lv_icmp_le (tgt := 31) hx hb dJ6_stringSize_0f7a4_24 (by decide) (fun hc => absurd hc (fun z => absurd ((sb_nle (by omega) (by decide)).mp z) (by omega))) (fun hc => ?_)
      refine lv_iload_n hx hb dJ6_stringSize_0f7a4_27 rfl (lv_at hl 0 rfl) ?_
      refine lv_iload_n hx hb dJ6_stringSize_0f7a4_28 rfl (lv_at hl 3 rfl) ?_
      refine lv_iadd hx hb dJ6_stringSize_0f7a4_29 ?_
      exact z_jiret hx hb hr (by rw [zdig_2 (by omega) h2]; rfl) hS hlocks (Nat.le_of_ble_eq_true rfl) (Nat.le_of_ble_eq_true rfl) dJ6_stringSize_0f7a4_30
    · skip
      refine lv_icmp_le (tgt := 31) hx hb dJ6_stringSize_0f7a4_24 (by decide) (fun hc => ?_) (fun hc => absurd ((sb_nle (by omega) (by decide)).mpr (by omega)) hc)
      refine lv_bipush (v := 10) hx hb dJ6_stringSize_0f7a4_31 (by decide) ?_
      refine lv_iload_n hx hb dJ6_stringSize_0f7a4_33 rfl (lv_at hl 1 rfl) ?_
      refine lv_imul hx hb dJ6_stringSize_0f7a4_34 ?_
      refine z_topi (x := (-nI 1000)) (by decide) ?_
      refine lv_istore_n (lv' := [(2, .int (-nI 1000)), (3, .int 2), (0, .int (-(nI v))), (1, .int 0)]) hx hb dJ6_stringSize_0f7a4_35 rfl hl (by decide) rfl (fun ls hl => ?_)
      refine lv_iinc (v := 3) (lv' := [(3, .int 3), (2, .int (-nI 1000)), (0, .int (-(nI v))), (1, .int 0)]) hx hb dJ6_stringSize_0f7a4_36 hl (k := 1) rfl (by decide) (by decide) rfl (fun ls hl => ?_)
      refine lv_goto (tgt := 16) hx hb dJ6_stringSize_0f7a4_39 (by decide) ?_
      refine lv_iload_n hx hb dJ6_stringSize_0f7a4_16 rfl (lv_at hl 0 rfl) ?_
      refine lv_bipush (v := 10) hx hb dJ6_stringSize_0f7a4_17 (by decide) ?_
      refine lv_icmp_ge (tgt := 42) hx hb dJ6_stringSize_0f7a4_19 (by decide) (fun hc => absurd hc (by decide)) (fun hc => ?_)
      refine lv_iload_n hx hb dJ6_stringSize_0f7a4_22 rfl (lv_at hl 2 rfl) ?_
      refine lv_iload_n hx hb dJ6_stringSize_0f7a4_23 rfl (lv_at hl 1 rfl) ?_
      by_cases h3 : v < 1000
      · skip
        refine lv_icmp_le (tgt := 31) hx hb dJ6_stringSize_0f7a4_24 (by decide) (fun hc => absurd hc (fun z => absurd ((sb_nle (by omega) (by decide)).mp z) (by omega))) (fun hc => ?_)
        refine lv_iload_n hx hb dJ6_stringSize_0f7a4_27 rfl (lv_at hl 0 rfl) ?_
        refine lv_iload_n hx hb dJ6_stringSize_0f7a4_28 rfl (lv_at hl 3 rfl) ?_
        refine lv_iadd hx hb dJ6_stringSize_0f7a4_29 ?_
        exact z_jiret hx hb hr (by rw [zdig_3 (by omega) h3]; rfl) hS hlocks (Nat.le_of_ble_eq_true rfl) (Nat.le_of_ble_eq_true rfl) dJ6_stringSize_0f7a4_30
      · skip
        refine lv_icmp_le (tgt := 31) hx hb dJ6_stringSize_0f7a4_24 (by decide) (fun hc => ?_) (fun hc => absurd ((sb_nle (by omega) (by decide)).mpr (by omega)) hc)
        refine lv_bipush (v := 10) hx hb dJ6_stringSize_0f7a4_31 (by decide) ?_
        refine lv_iload_n hx hb dJ6_stringSize_0f7a4_33 rfl (lv_at hl 1 rfl) ?_
        refine lv_imul hx hb dJ6_stringSize_0f7a4_34 ?_
        refine z_topi (x := (-nI 10000)) (by decide) ?_
        refine lv_istore_n (lv' := [(2, .int (-nI 10000)), (3, .int 3), (0, .int (-(nI v))), (1, .int 0)]) hx hb dJ6_stringSize_0f7a4_35 rfl hl (by decide) rfl (fun ls hl => ?_)
        refine lv_iinc (v := 4) (lv' := [(3, .int 4), (2, .int (-nI 10000)), (0, .int (-(nI v))), (1, .int 0)]) hx hb dJ6_stringSize_0f7a4_36 hl (k := 1) rfl (by decide) (by decide) rfl (fun ls hl => ?_)
        refine lv_goto (tgt := 16) hx hb dJ6_stringSize_0f7a4_39 (by decide) ?_
        refine lv_iload_n hx hb dJ6_stringSize_0f7a4_16 rfl (lv_at hl 0 rfl) ?_
        refine lv_bipush (v := 10) hx hb dJ6_stringSize_0f7a4_17 (by decide) ?_
        refine lv_icmp_ge (tgt := 42) hx hb dJ6_stringSize_0f7a4_19 (by decide) (fun hc => absurd hc (by decide)) (fun hc => ?_)
        refine lv_iload_n hx hb dJ6_stringSize_0f7a4_22 rfl (lv_at hl 2 rfl) ?_
        refine lv_iload_n hx hb dJ6_stringSize_0f7a4_23 rfl (lv_at hl 1 rfl) ?_
        refine lv_icmp_le (tgt := 31) hx hb dJ6_stringSize_0f7a4_24 (by decide) (fun hc => absurd hc (fun z => absurd ((sb_nle (by omega) (by decide)).mp z) (by omega))) (fun hc => ?_)
        refine lv_iload_n hx hb dJ6_stringSize_0f7a4_27 rfl (lv_at hl 0 rfl) ?_
        refine lv_iload_n hx hb dJ6_stringSize_0f7a4_28 rfl (lv_at hl 3 rfl) ?_
        refine lv_iadd hx hb dJ6_stringSize_0f7a4_29 ?_
        exact z_jiret hx hb hr (by rw [zdig_4 (by omega)]; rfl) hS hlocks (Nat.le_of_ble_eq_true rfl) (Nat.le_of_ble_eq_true rfl) dJ6_stringSize_0f7a4_30

set_option maxHeartbeats 4000000 in
set_option maxRecDepth 100000 in
theorem cj_J6_getChars_ba4f3 (l : Launch) (hfl : l.flags = flags0) (D : va_G) (Y : Nat → ClassId) (S V : Nat → Nat) (A : Nat → Prop) (b q cap : Nat) (mL n0 : Int32) (a : Nat → Int32) (n v : Nat) (hD : va_D A ([(b, .inr (4, [.ref q, .int 0, .int mL, .int n0])), (q, .inl (Y 1, cap, .inl a))] : va_W)) (hv : v < 10000) (he : n + (zdig v).length ≤ cap) (hc : cap ≤ 600) : zMJ l yJ6_getChars_ba4f3 cJ6_getChars_ba4f3 7 (some .int) 1 0 0 D Y S V A [.int (nI v), .int (nI (n + (zdig v).length)), .ref q] (fun U => va_P D vwCl [(b, .inr (4, [.ref q, .int 0, .int mL, .int n0])), (q, .inl (Y 1, cap, .inl a))] U.heap) (fun r H => r = some (.int (nI n)) ∧ va_P D vwCl (zsb Y b q cap mL n0 (zput a n (zdig v))) H ∧ va_D A (zsb Y b q cap mL n0 (zput a n (zdig v)))) := by
  refine zMJ.ofW hfl (by decide) (fun p e s m args below meth c ha F hr hlocks hin hP => ?_)
  subst ha
  obtain ⟨hx, hb, hml, hown, hts, hl9, hJ, hA⟩ := id F
  have ok : ∀ w ∈ zWS, w.before ([.int (nI v), .int (nI (n + (zdig v).length)), .ref q] : List Value).toArray s = true := fun w h => hts w (List.mem_cons_of_mem _ h)
  have hK := hJ.1
  have hS : va_S A s.heap s.heap [] := va_S.rf
  have hl := lv_entry ([.int (nI v), .int (nI (n + (zdig v).length)), .ref q]) (n := 7) (Nat.le_of_ble_eq_true rfl)
  rw [lg_entry_eq]
  generalize (lg_sl ([.int (nI v), .int (nI (n + (zdig v).length)), .ref q]) ++ List.replicate (7 - (lg_sl ([.int (nI v), .int (nI (n + (zdig v).length)), .ref q])).length) Slot.unset).toArray = ls at hl ⊢
  have hl : lv_has ls 7 [(0, .int (nI v)), (1, .int (nI (n + (zdig v).length))), (2, .ref q)] := hl
  obtain ⟨-, ⟨t1, t2, ⟨gz1, gt1⟩, gz2, gt2⟩, -⟩ := hJ.2
  by_cases h1 : v < 10
  · skip
    rw [zdig_1 h1] at hl he
    have he : n + 1 ≤ cap := he
    have hl : lv_has ls 7 [(0, .int (nI v)), (1, .int (nI (n + 1))), (2, .ref q)] := hl
    have hP := zeqP (congrArg (fun z : Nat → Int32 => ([(b, .inr (4, [.ref q, .int 0, .int mL, .int n0])), (q, .inl (Y 1, cap, .inl z))] : va_W)) (zput_nil (a := a) (n := n + 1)).symm) hP
    have hD := zeqD (congrArg (fun z : Nat → Int32 => ([(b, .inr (4, [.ref q, .int 0, .int mL, .int n0])), (q, .inl (Y 1, cap, .inl z))] : va_W)) (zput_nil (a := a) (n := n + 1)).symm) hD
    have hP : va_P D vwCl [(b, .inr (4, [.ref q, .int 0, .int mL, .int n0])), (q, .inl (Y 1, cap, .inl (zput a (n + 1) [])))] _ := hP
    have hD : va_D A ([(b, .inr (4, [.ref q, .int 0, .int mL, .int n0])), (q, .inl (Y 1, cap, .inl (zput a (n + 1) [])))] : va_W) := hD
    refine lv_iload_n hx hb dJ6_getChars_ba4f3_0 rfl (lv_at hl 1 rfl) ?_
    refine lv_istore (lv' := [(5, .int (nI (n + 1))), (0, .int (nI v)), (1, .int (nI (n + 1))), (2, .ref q)]) hx hb dJ6_getChars_ba4f3_1 hl (by decide) rfl (fun ls hl => ?_)
    refine lv_iload_n hx hb dJ6_getChars_ba4f3_3 rfl (lv_at hl 1 rfl) ?_
    refine lv_if_ge (tgt := 11) hx hb dJ6_getChars_ba4f3_4 (by decide) (fun hc => ?_) (fun hc => absurd (z0le (by omega)) hc)
    refine lv_iconst (v := 0) hx hb dJ6_getChars_ba4f3_11 (by decide) ?_
    refine lv_istore (lv' := [(6, .int 0), (5, .int (nI (n + 1))), (0, .int (nI v)), (1, .int (nI (n + 1))), (2, .ref q)]) hx hb dJ6_getChars_ba4f3_12 hl (by decide) rfl (fun ls hl => ?_)
    refine lv_iload hx hb dJ6_getChars_ba4f3_14 (lv_at hl 0 rfl) ?_
    refine lv_if_ne (tgt := 22) hx hb dJ6_getChars_ba4f3_16 (by decide) (fun hc => absurd rfl hc) (fun hc => ?_)
    refine lv_iload_n hx hb dJ6_getChars_ba4f3_19 rfl (lv_at hl 2 rfl) ?_
    refine lv_ineg hx hb dJ6_getChars_ba4f3_20 ?_
    refine lv_istore_n (lv' := [(0, .int (-(nI v))), (6, .int 0), (5, .int (nI (n + 1))), (1, .int (nI (n + 1))), (2, .ref q)]) hx hb dJ6_getChars_ba4f3_21 rfl hl (by decide) rfl (fun ls hl => ?_)
    refine lv_iload_n hx hb dJ6_getChars_ba4f3_22 rfl (lv_at hl 0 rfl) ?_
    refine lv_bipush (v := (-100)) hx hb dJ6_getChars_ba4f3_23 (by decide) ?_
    refine z_topi (x := (-nI 100)) (by decide) ?_
    refine lv_icmp_gt (tgt := 72) hx hb dJ6_getChars_ba4f3_25 (by decide) (fun hc => ?_) (fun hc => absurd ((sb_nlt (by decide) (by omega)).mpr (by omega)) hc)
    refine lv_aload_n hx hb dJ6_getChars_ba4f3_72 rfl (lv_at hl 4 rfl) ?_
    refine lv_iinc (v := (nI n)) (lv' := [(5, .int (nI n)), (0, .int (-(nI v))), (6, .int 0), (1, .int (nI (n + 1))), (2, .ref q)]) hx hb dJ6_getChars_ba4f3_73 hl (k := 2) rfl (zdec n) (by decide) rfl (fun ls hl => ?_)
    refine lv_iload hx hb dJ6_getChars_ba4f3_76 (lv_at hl 0 rfl) ?_
    refine va_gets hx hb gz1 hS hown (ok _ mj_890) (fun _ h => h) dJ6_getChars_ba4f3_78 ?_
    refine lv_iload_n hx hb dJ6_getChars_ba4f3_81 rfl (lv_at hl 1 rfl) ?_
    refine lv_ineg hx hb dJ6_getChars_ba4f3_82 ?_
    refine z_topi (x := (nI v)) (by rw [Int32.neg_neg]) ?_
    refine va_tb (v := .int (nI (48 + v))) hx hb gt1 hS (nI_in (by omega) (by decide)) ((congrArg (fun z => Value.int (nI (48 + z % 10))) (nI_clamp (by omega))).trans (zcon (by omega))) dJ6_getChars_ba4f3_83 ?_
    refine va_bast hx hb hK.1 hP hD hS 1 1 rfl rfl (nI_in (by omega) (by omega)) dJ6_getChars_ba4f3_84 (fun H locs hP hD hS => ?_)
    rw [nI_clamp (by omega), znar (by omega)] at hP hD
    have hP := zeqP (congrArg (fun z : Nat → Int32 => ([(b, .inr (4, [.ref q, .int 0, .int mL, .int n0])), (q, .inl (Y 1, cap, .inl z))] : va_W)) (zput_cons (a := a) (n := n) (x := 48 + v) (ds := []))) hP
    have hD := zeqD (congrArg (fun z : Nat → Int32 => ([(b, .inr (4, [.ref q, .int 0, .int mL, .int n0])), (q, .inl (Y 1, cap, .inl z))] : va_W)) (zput_cons (a := a) (n := n) (x := 48 + v) (ds := []))) hD
    have hP : va_P D vwCl [(b, .inr (4, [.ref q, .int 0, .int mL, .int n0])), (q, .inl (Y 1, cap, .inl (zput a n [48 + v])))] _ := hP
    have hD : va_D A ([(b, .inr (4, [.ref q, .int 0, .int mL, .int n0])), (q, .inl (Y 1, cap, .inl (zput a n [48 + v])))] : va_W) := hD
    refine lv_iload_n hx hb dJ6_getChars_ba4f3_85 rfl (lv_at hl 1 rfl) ?_
    refine lv_bipush (v := (-9)) hx hb dJ6_getChars_ba4f3_86 (by decide) ?_
    refine z_topi (x := (-nI 9)) (by decide) ?_
    refine lv_icmp_ge (tgt := 104) hx hb dJ6_getChars_ba4f3_88 (by decide) (fun hc => ?_) (fun hc => absurd ((sb_nle (by decide) (by omega)).mpr (by omega)) hc)
    refine lv_iload hx hb dJ6_getChars_ba4f3_104 (lv_at hl 2 rfl) ?_
    refine lv_if_eq (tgt := 118) hx hb dJ6_getChars_ba4f3_106 (by decide) (fun hc => ?_) (fun hc => absurd rfl hc)
    refine lv_iload hx hb dJ6_getChars_ba4f3_118 (lv_at hl 0 rfl) ?_
    exact z_jiret hx hb hr (by rw [zdig_1 h1]; exact ⟨rfl, hP, hD⟩) hS hlocks (Nat.le_of_ble_eq_true rfl) (Nat.le_of_ble_eq_true rfl) dJ6_getChars_ba4f3_120
  · skip
    by_cases h2 : v < 100
    · skip
      rw [zdig_2 (by omega) h2] at hl he
      have he : n + 2 ≤ cap := he
      have hl : lv_has ls 7 [(0, .int (nI v)), (1, .int (nI (n + 2))), (2, .ref q)] := hl
      have hP := zeqP (congrArg (fun z : Nat → Int32 => ([(b, .inr (4, [.ref q, .int 0, .int mL, .int n0])), (q, .inl (Y 1, cap, .inl z))] : va_W)) (zput_nil (a := a) (n := n + 2)).symm) hP
      have hD := zeqD (congrArg (fun z : Nat → Int32 => ([(b, .inr (4, [.ref q, .int 0, .int mL, .int n0])), (q, .inl (Y 1, cap, .inl z))] : va_W)) (zput_nil (a := a) (n := n + 2)).symm) hD
      have hP : va_P D vwCl [(b, .inr (4, [.ref q, .int 0, .int mL, .int n0])), (q, .inl (Y 1, cap, .inl (zput a (n + 2) [])))] _ := hP
      have hD : va_D A ([(b, .inr (4, [.ref q, .int 0, .int mL, .int n0])), (q, .inl (Y 1, cap, .inl (zput a (n + 2) [])))] : va_W) := hD
      refine lv_iload_n hx hb dJ6_getChars_ba4f3_0 rfl (lv_at hl 1 rfl) ?_
      refine lv_istore (lv' := [(5, .int (nI (n + 2))), (0, .int (nI v)), (1, .int (nI (n + 2))), (2, .ref q)]) hx hb dJ6_getChars_ba4f3_1 hl (by decide) rfl (fun ls hl => ?_)
      refine lv_iload_n hx hb dJ6_getChars_ba4f3_3 rfl (lv_at hl 1 rfl) ?_
      refine lv_if_ge (tgt := 11) hx hb dJ6_getChars_ba4f3_4 (by decide) (fun hc => ?_) (fun hc => absurd (z0le (by omega)) hc)
      refine lv_iconst (v := 0) hx hb dJ6_getChars_ba4f3_11 (by decide) ?_
      refine lv_istore (lv' := [(6, .int 0), (5, .int (nI (n + 2))), (0, .int (nI v)), (1, .int (nI (n + 2))), (2, .ref q)]) hx hb dJ6_getChars_ba4f3_12 hl (by decide) rfl (fun ls hl => ?_)
      refine lv_iload hx hb dJ6_getChars_ba4f3_14 (lv_at hl 0 rfl) ?_
      refine lv_if_ne (tgt := 22) hx hb dJ6_getChars_ba4f3_16 (by decide) (fun hc => absurd rfl hc) (fun hc => ?_)
      refine lv_iload_n hx hb dJ6_getChars_ba4f3_19 rfl (lv_at hl 2 rfl) ?_
      refine lv_ineg hx hb dJ6_getChars_ba4f3_20 ?_
      refine lv_istore_n (lv' := [(0, .int (-(nI v))), (6, .int 0), (5, .int (nI (n + 2))), (1, .int (nI (n + 2))), (2, .ref q)]) hx hb dJ6_getChars_ba4f3_21 rfl hl (by decide) rfl (fun ls hl => ?_)
      refine lv_iload_n hx hb dJ6_getChars_ba4f3_22 rfl (lv_at hl 0 rfl) ?_
      refine lv_bipush (v := (-100)) hx hb dJ6_getChars_ba4f3_23 (by decide) ?_
      refine z_topi (x := (-nI 100)) (by decide) ?_
      refine lv_icmp_gt (tgt := 72) hx hb dJ6_getChars_ba4f3_25 (by decide) (fun hc => ?_) (fun hc => absurd ((sb_nlt (by decide) (by omega)).mpr (by omega)) hc)
      refine lv_aload_n hx hb dJ6_getChars_ba4f3_72 rfl (lv_at hl 4 rfl) ?_
      refine lv_iinc (v := (nI (n + 1))) (lv' := [(5, .int (nI (n + 1))), (0, .int (-(nI v))), (6, .int 0), (1, .int (nI (n + 2))), (2, .ref q)]) hx hb dJ6_getChars_ba4f3_73 hl (k := 2) rfl (zdec (n + 1)) (by decide) rfl (fun ls hl => ?_)
      refine lv_iload hx hb dJ6_getChars_ba4f3_76 (lv_at hl 0 rfl) ?_
      refine va_gets hx hb gz1 hS hown (ok _ mj_890) (fun _ h => h) dJ6_getChars_ba4f3_78 ?_
      refine lv_iload_n hx hb dJ6_getChars_ba4f3_81 rfl (lv_at hl 1 rfl) ?_
      refine lv_ineg hx hb dJ6_getChars_ba4f3_82 ?_
      refine z_topi (x := (nI v)) (by rw [Int32.neg_neg]) ?_
      refine va_tb (v := .int (nI (48 + v % 10))) hx hb gt1 hS (nI_in (by omega) (by decide)) ((congrArg (fun z => Value.int (nI (48 + z % 10))) (nI_clamp (by omega))).trans (zcon (by omega))) dJ6_getChars_ba4f3_83 ?_
      refine va_bast hx hb hK.1 hP hD hS 1 1 rfl rfl (nI_in (by omega) (by omega)) dJ6_getChars_ba4f3_84 (fun H locs hP hD hS => ?_)
      rw [nI_clamp (by omega), znar (by omega)] at hP hD
      have hP := zeqP (congrArg (fun z : Nat → Int32 => ([(b, .inr (4, [.ref q, .int 0, .int mL, .int n0])), (q, .inl (Y 1, cap, .inl z))] : va_W)) (zput_cons (a := a) (n := (n + 1)) (x := 48 + v % 10) (ds := []))) hP
      have hD := zeqD (congrArg (fun z : Nat → Int32 => ([(b, .inr (4, [.ref q, .int 0, .int mL, .int n0])), (q, .inl (Y 1, cap, .inl z))] : va_W)) (zput_cons (a := a) (n := (n + 1)) (x := 48 + v % 10) (ds := []))) hD
      have hP : va_P D vwCl [(b, .inr (4, [.ref q, .int 0, .int mL, .int n0])), (q, .inl (Y 1, cap, .inl (zput a (n + 1) [48 + v % 10])))] _ := hP
      have hD : va_D A ([(b, .inr (4, [.ref q, .int 0, .int mL, .int n0])), (q, .inl (Y 1, cap, .inl (zput a (n + 1) [48 + v % 10])))] : va_W) := hD
      refine lv_iload_n hx hb dJ6_getChars_ba4f3_85 rfl (lv_at hl 1 rfl) ?_
      refine lv_bipush (v := (-9)) hx hb dJ6_getChars_ba4f3_86 (by decide) ?_
      refine z_topi (x := (-nI 9)) (by decide) ?_
      refine lv_icmp_ge (tgt := 104) hx hb dJ6_getChars_ba4f3_88 (by decide) (fun hc => absurd hc (fun z => absurd ((sb_nle (by decide) (by omega)).mp z) (by omega))) (fun hc => ?_)
      refine lv_aload_n hx hb dJ6_getChars_ba4f3_91 rfl (lv_at hl 4 rfl) ?_
      refine lv_iinc (v := (nI n)) (lv' := [(5, .int (nI n)), (0, .int (-(nI v))), (6, .int 0), (1, .int (nI (n + 2))), (2, .ref q)]) hx hb dJ6_getChars_ba4f3_92 hl (k := 0) rfl (zdec n) (by decide) rfl (fun ls hl => ?_)
      refine lv_iload hx hb dJ6_getChars_ba4f3_95 (lv_at hl 0 rfl) ?_
      refine va_gets hx hb gz2 hS hown (ok _ mj_892) (fun _ h => h) dJ6_getChars_ba4f3_97 ?_
      refine lv_iload_n hx hb dJ6_getChars_ba4f3_100 rfl (lv_at hl 1 rfl) ?_
      refine lv_ineg hx hb dJ6_getChars_ba4f3_101 ?_
      refine z_topi (x := (nI v)) (by rw [Int32.neg_neg]) ?_
      refine va_tb (v := .int (nI (48 + v / 10))) hx hb gt2 hS (nI_in (by omega) (by decide)) ((congrArg (fun z => Value.int (nI (48 + z / 10))) (nI_clamp (by omega))).trans (zcon (by omega))) dJ6_getChars_ba4f3_102 ?_
      refine va_bast hx hb hK.1 hP hD hS 1 1 rfl rfl (nI_in (by omega) (by omega)) dJ6_getChars_ba4f3_103 (fun H locs hP hD hS => ?_)
      rw [nI_clamp (by omega), znar (by omega)] at hP hD
      have hP := zeqP (congrArg (fun z : Nat → Int32 => ([(b, .inr (4, [.ref q, .int 0, .int mL, .int n0])), (q, .inl (Y 1, cap, .inl z))] : va_W)) (zput_cons (a := a) (n := n) (x := 48 + v / 10) (ds := [48 + v % 10]))) hP
      have hD := zeqD (congrArg (fun z : Nat → Int32 => ([(b, .inr (4, [.ref q, .int 0, .int mL, .int n0])), (q, .inl (Y 1, cap, .inl z))] : va_W)) (zput_cons (a := a) (n := n) (x := 48 + v / 10) (ds := [48 + v % 10]))) hD
      have hP : va_P D vwCl [(b, .inr (4, [.ref q, .int 0, .int mL, .int n0])), (q, .inl (Y 1, cap, .inl (zput a n [48 + v / 10, 48 + v % 10])))] _ := hP
      have hD : va_D A ([(b, .inr (4, [.ref q, .int 0, .int mL, .int n0])), (q, .inl (Y 1, cap, .inl (zput a n [48 + v / 10, 48 + v % 10])))] : va_W) := hD
      refine lv_iload hx hb dJ6_getChars_ba4f3_104 (lv_at hl 2 rfl) ?_
      refine lv_if_eq (tgt := 118) hx hb dJ6_getChars_ba4f3_106 (by decide) (fun hc => ?_) (fun hc => absurd rfl hc)
      refine lv_iload hx hb dJ6_getChars_ba4f3_118 (lv_at hl 0 rfl) ?_
      exact z_jiret hx hb hr (by rw [zdig_2 (by omega) h2]; exact ⟨rfl, hP, hD⟩) hS hlocks (Nat.le_of_ble_eq_true rfl) (Nat.le_of_ble_eq_true rfl) dJ6_getChars_ba4f3_120
    · skip
      by_cases h3 : v < 1000
      · skip
        rw [zdig_3 (by omega) h3] at hl he
        have he : n + 3 ≤ cap := he
        have hl : lv_has ls 7 [(0, .int (nI v)), (1, .int (nI (n + 3))), (2, .ref q)] := hl
        have hP := zeqP (congrArg (fun z : Nat → Int32 => ([(b, .inr (4, [.ref q, .int 0, .int mL, .int n0])), (q, .inl (Y 1, cap, .inl z))] : va_W)) (zput_nil (a := a) (n := n + 3)).symm) hP
        have hD := zeqD (congrArg (fun z : Nat → Int32 => ([(b, .inr (4, [.ref q, .int 0, .int mL, .int n0])), (q, .inl (Y 1, cap, .inl z))] : va_W)) (zput_nil (a := a) (n := n + 3)).symm) hD
        have hP : va_P D vwCl [(b, .inr (4, [.ref q, .int 0, .int mL, .int n0])), (q, .inl (Y 1, cap, .inl (zput a (n + 3) [])))] _ := hP
        have hD : va_D A ([(b, .inr (4, [.ref q, .int 0, .int mL, .int n0])), (q, .inl (Y 1, cap, .inl (zput a (n + 3) [])))] : va_W) := hD
        refine lv_iload_n hx hb dJ6_getChars_ba4f3_0 rfl (lv_at hl 1 rfl) ?_
        refine lv_istore (lv' := [(5, .int (nI (n + 3))), (0, .int (nI v)), (1, .int (nI (n + 3))), (2, .ref q)]) hx hb dJ6_getChars_ba4f3_1 hl (by decide) rfl (fun ls hl => ?_)
        refine lv_iload_n hx hb dJ6_getChars_ba4f3_3 rfl (lv_at hl 1 rfl) ?_
        refine lv_if_ge (tgt := 11) hx hb dJ6_getChars_ba4f3_4 (by decide) (fun hc => ?_) (fun hc => absurd (z0le (by omega)) hc)
        refine lv_iconst (v := 0) hx hb dJ6_getChars_ba4f3_11 (by decide) ?_
        refine lv_istore (lv' := [(6, .int 0), (5, .int (nI (n + 3))), (0, .int (nI v)), (1, .int (nI (n + 3))), (2, .ref q)]) hx hb dJ6_getChars_ba4f3_12 hl (by decide) rfl (fun ls hl => ?_)
        refine lv_iload hx hb dJ6_getChars_ba4f3_14 (lv_at hl 0 rfl) ?_
        refine lv_if_ne (tgt := 22) hx hb dJ6_getChars_ba4f3_16 (by decide) (fun hc => absurd rfl hc) (fun hc => ?_)
        refine lv_iload_n hx hb dJ6_getChars_ba4f3_19 rfl (lv_at hl 2 rfl) ?_
        refine lv_ineg hx hb dJ6_getChars_ba4f3_20 ?_
        refine lv_istore_n (lv' := [(0, .int (-(nI v))), (6, .int 0), (5, .int (nI (n + 3))), (1, .int (nI (n + 3))), (2, .ref q)]) hx hb dJ6_getChars_ba4f3_21 rfl hl (by decide) rfl (fun ls hl => ?_)
        refine lv_iload_n hx hb dJ6_getChars_ba4f3_22 rfl (lv_at hl 0 rfl) ?_
        refine lv_bipush (v := (-100)) hx hb dJ6_getChars_ba4f3_23 (by decide) ?_
        refine z_topi (x := (-nI 100)) (by decide) ?_
        refine lv_icmp_gt (tgt := 72) hx hb dJ6_getChars_ba4f3_25 (by decide) (fun hc => absurd hc (fun z => absurd ((sb_nlt (by decide) (by omega)).mp z) (by omega))) (fun hc => ?_)
        refine lv_iload_n hx hb dJ6_getChars_ba4f3_28 rfl (lv_at hl 0 rfl) ?_
        refine lv_bipush (v := 100) hx hb dJ6_getChars_ba4f3_29 (by decide) ?_
        refine lv_idiv hx hb dJ6_getChars_ba4f3_31 (by decide) ?_
        refine z_topi (x := (-nI (v / 100))) (sb_ndiv (by omega)).symm ?_
        refine lv_istore_n (lv' := [(3, .int (-nI (v / 100))), (0, .int (-(nI v))), (6, .int 0), (5, .int (nI (n + 3))), (1, .int (nI (n + 3))), (2, .ref q)]) hx hb dJ6_getChars_ba4f3_32 rfl hl (by decide) rfl (fun ls hl => ?_)
        refine lv_iload_n hx hb dJ6_getChars_ba4f3_33 rfl (lv_at hl 0 rfl) ?_
        refine lv_bipush (v := 100) hx hb dJ6_getChars_ba4f3_34 (by decide) ?_
        refine lv_imul hx hb dJ6_getChars_ba4f3_36 ?_
        refine lv_iload_n hx hb dJ6_getChars_ba4f3_37 rfl (lv_at hl 1 rfl) ?_
        refine lv_isub hx hb dJ6_getChars_ba4f3_38 ?_
        refine z_topi (x := (nI (v % 100))) (sb_nrem (by omega)).symm ?_
        refine lv_istore (lv' := [(4, .int (nI (v % 100))), (3, .int (-nI (v / 100))), (0, .int (-(nI v))), (6, .int 0), (5, .int (nI (n + 3))), (1, .int (nI (n + 3))), (2, .ref q)]) hx hb dJ6_getChars_ba4f3_39 hl (by decide) rfl (fun ls hl => ?_)
        refine lv_iload_n hx hb dJ6_getChars_ba4f3_41 rfl (lv_at hl 1 rfl) ?_
        refine lv_istore_n (lv' := [(0, .int (-nI (v / 100))), (4, .int (nI (v % 100))), (3, .int (-nI (v / 100))), (6, .int 0), (5, .int (nI (n + 3))), (1, .int (nI (n + 3))), (2, .ref q)]) hx hb dJ6_getChars_ba4f3_42 rfl hl (by decide) rfl (fun ls hl => ?_)
        refine lv_aload_n hx hb dJ6_getChars_ba4f3_43 rfl (lv_at hl 6 rfl) ?_
        refine lv_iinc (v := (nI (n + 2))) (lv' := [(5, .int (nI (n + 2))), (0, .int (-nI (v / 100))), (4, .int (nI (v % 100))), (3, .int (-nI (v / 100))), (6, .int 0), (1, .int (nI (n + 3))), (2, .ref q)]) hx hb dJ6_getChars_ba4f3_44 hl (k := 4) rfl (zdec (n + 2)) (by decide) rfl (fun ls hl => ?_)
        refine lv_iload hx hb dJ6_getChars_ba4f3_47 (lv_at hl 0 rfl) ?_
        refine va_gets hx hb gz1 hS hown (ok _ mj_890) (fun _ h => h) dJ6_getChars_ba4f3_49 ?_
        refine lv_iload hx hb dJ6_getChars_ba4f3_52 (lv_at hl 2 rfl) ?_
        refine va_tb (v := .int (nI (48 + v % 10))) hx hb gt1 hS (nI_in (by omega) (by decide)) ((congrArg (fun z => Value.int (nI (48 + z % 10))) (nI_clamp (by omega))).trans (zcon (by omega))) dJ6_getChars_ba4f3_54 ?_
        refine va_bast hx hb hK.1 hP hD hS 1 1 rfl rfl (nI_in (by omega) (by omega)) dJ6_getChars_ba4f3_55 (fun H locs hP hD hS => ?_)
        rw [nI_clamp (by omega), znar (by omega)] at hP hD
        have hP := zeqP (congrArg (fun z : Nat → Int32 => ([(b, .inr (4, [.ref q, .int 0, .int mL, .int n0])), (q, .inl (Y 1, cap, .inl z))] : va_W)) (zput_cons (a := a) (n := (n + 2)) (x := 48 + v % 10) (ds := []))) hP
        have hD := zeqD (congrArg (fun z : Nat → Int32 => ([(b, .inr (4, [.ref q, .int 0, .int mL, .int n0])), (q, .inl (Y 1, cap, .inl z))] : va_W)) (zput_cons (a := a) (n := (n + 2)) (x := 48 + v % 10) (ds := []))) hD
        have hP : va_P D vwCl [(b, .inr (4, [.ref q, .int 0, .int mL, .int n0])), (q, .inl (Y 1, cap, .inl (zput a (n + 2) [48 + v % 10])))] _ := hP
        have hD : va_D A ([(b, .inr (4, [.ref q, .int 0, .int mL, .int n0])), (q, .inl (Y 1, cap, .inl (zput a (n + 2) [48 + v % 10])))] : va_W) := hD
        refine lv_aload_n hx hb dJ6_getChars_ba4f3_56 rfl (lv_at hl 6 rfl) ?_
        refine lv_iinc (v := (nI (n + 1))) (lv' := [(5, .int (nI (n + 1))), (0, .int (-nI (v / 100))), (4, .int (nI (v % 100))), (3, .int (-nI (v / 100))), (6, .int 0), (1, .int (nI (n + 3))), (2, .ref q)]) hx hb dJ6_getChars_ba4f3_57 hl (k := 0) rfl (zdec (n + 1)) (by decide) rfl (fun ls hl => ?_)
        refine lv_iload hx hb dJ6_getChars_ba4f3_60 (lv_at hl 0 rfl) ?_
        refine va_gets hx hb gz2 hS hown (ok _ mj_892) (fun _ h => h) dJ6_getChars_ba4f3_62 ?_
        refine lv_iload hx hb dJ6_getChars_ba4f3_65 (lv_at hl 2 rfl) ?_
        refine va_tb (v := .int (nI (48 + v / 10 % 10))) hx hb gt2 hS (nI_in (by omega) (by decide)) ((congrArg (fun z => Value.int (nI (48 + z / 10))) (nI_clamp (by omega))).trans (zcon (by omega))) dJ6_getChars_ba4f3_67 ?_
        refine va_bast hx hb hK.1 hP hD hS 1 1 rfl rfl (nI_in (by omega) (by omega)) dJ6_getChars_ba4f3_68 (fun H locs hP hD hS => ?_)
        rw [nI_clamp (by omega), znar (by omega)] at hP hD
        have hP := zeqP (congrArg (fun z : Nat → Int32 => ([(b, .inr (4, [.ref q, .int 0, .int mL, .int n0])), (q, .inl (Y 1, cap, .inl z))] : va_W)) (zput_cons (a := a) (n := (n + 1)) (x := 48 + v / 10 % 10) (ds := [48 + v % 10]))) hP
        have hD := zeqD (congrArg (fun z : Nat → Int32 => ([(b, .inr (4, [.ref q, .int 0, .int mL, .int n0])), (q, .inl (Y 1, cap, .inl z))] : va_W)) (zput_cons (a := a) (n := (n + 1)) (x := 48 + v / 10 % 10) (ds := [48 + v % 10]))) hD
        have hP : va_P D vwCl [(b, .inr (4, [.ref q, .int 0, .int mL, .int n0])), (q, .inl (Y 1, cap, .inl (zput a (n + 1) [48 + v / 10 % 10, 48 + v % 10])))] _ := hP
        have hD : va_D A ([(b, .inr (4, [.ref q, .int 0, .int mL, .int n0])), (q, .inl (Y 1, cap, .inl (zput a (n + 1) [48 + v / 10 % 10, 48 + v % 10])))] : va_W) := hD
        refine lv_goto (tgt := 22) hx hb dJ6_getChars_ba4f3_69 (by decide) ?_
        refine lv_iload_n hx hb dJ6_getChars_ba4f3_22 rfl (lv_at hl 1 rfl) ?_
        refine lv_bipush (v := (-100)) hx hb dJ6_getChars_ba4f3_23 (by decide) ?_
        refine z_topi (x := (-nI 100)) (by decide) ?_
        refine lv_icmp_gt (tgt := 72) hx hb dJ6_getChars_ba4f3_25 (by decide) (fun hc => ?_) (fun hc => absurd ((sb_nlt (by decide) (by omega)).mpr (by omega)) hc)
        refine lv_aload_n hx hb dJ6_getChars_ba4f3_72 rfl (lv_at hl 6 rfl) ?_
        refine lv_iinc (v := (nI n)) (lv' := [(5, .int (nI n)), (0, .int (-nI (v / 100))), (4, .int (nI (v % 100))), (3, .int (-nI (v / 100))), (6, .int 0), (1, .int (nI (n + 3))), (2, .ref q)]) hx hb dJ6_getChars_ba4f3_73 hl (k := 0) rfl (zdec n) (by decide) rfl (fun ls hl => ?_)
        refine lv_iload hx hb dJ6_getChars_ba4f3_76 (lv_at hl 0 rfl) ?_
        refine va_gets hx hb gz1 hS hown (ok _ mj_890) (fun _ h => h) dJ6_getChars_ba4f3_78 ?_
        refine lv_iload_n hx hb dJ6_getChars_ba4f3_81 rfl (lv_at hl 1 rfl) ?_
        refine lv_ineg hx hb dJ6_getChars_ba4f3_82 ?_
        refine z_topi (x := (nI (v / 100))) (by rw [Int32.neg_neg]) ?_
        refine va_tb (v := .int (nI (48 + v / 100))) hx hb gt1 hS (nI_in (by omega) (by decide)) ((congrArg (fun z => Value.int (nI (48 + z % 10))) (nI_clamp (by omega))).trans (zcon (by omega))) dJ6_getChars_ba4f3_83 ?_
        refine va_bast hx hb hK.1 hP hD hS 1 1 rfl rfl (nI_in (by omega) (by omega)) dJ6_getChars_ba4f3_84 (fun H locs hP hD hS => ?_)
        rw [nI_clamp (by omega), znar (by omega)] at hP hD
        have hP := zeqP (congrArg (fun z : Nat → Int32 => ([(b, .inr (4, [.ref q, .int 0, .int mL, .int n0])), (q, .inl (Y 1, cap, .inl z))] : va_W)) (zput_cons (a := a) (n := n) (x := 48 + v / 100) (ds := [48 + v / 10 % 10, 48 + v % 10]))) hP
        have hD := zeqD (congrArg (fun z : Nat → Int32 => ([(b, .inr (4, [.ref q, .int 0, .int mL, .int n0])), (q, .inl (Y 1, cap, .inl z))] : va_W)) (zput_cons (a := a) (n := n) (x := 48 + v / 100) (ds := [48 + v / 10 % 10, 48 + v % 10]))) hD
        have hP : va_P D vwCl [(b, .inr (4, [.ref q, .int 0, .int mL, .int n0])), (q, .inl (Y 1, cap, .inl (zput a n [48 + v / 100, 48 + v / 10 % 10, 48 + v % 10])))] _ := hP
        have hD : va_D A ([(b, .inr (4, [.ref q, .int 0, .int mL, .int n0])), (q, .inl (Y 1, cap, .inl (zput a n [48 + v / 100, 48 + v / 10 % 10, 48 + v % 10])))] : va_W) := hD
        refine lv_iload_n hx hb dJ6_getChars_ba4f3_85 rfl (lv_at hl 1 rfl) ?_
        refine lv_bipush (v := (-9)) hx hb dJ6_getChars_ba4f3_86 (by decide) ?_
        refine z_topi (x := (-nI 9)) (by decide) ?_
        refine lv_icmp_ge (tgt := 104) hx hb dJ6_getChars_ba4f3_88 (by decide) (fun hc => ?_) (fun hc => absurd ((sb_nle (by decide) (by omega)).mpr (by omega)) hc)
        refine lv_iload hx hb dJ6_getChars_ba4f3_104 (lv_at hl 4 rfl) ?_
        refine lv_if_eq (tgt := 118) hx hb dJ6_getChars_ba4f3_106 (by decide) (fun hc => ?_) (fun hc => absurd rfl hc)
        refine lv_iload hx hb dJ6_getChars_ba4f3_118 (lv_at hl 0 rfl) ?_
        exact z_jiret hx hb hr (by rw [zdig_3 (by omega) h3]; exact ⟨rfl, hP, hD⟩) hS hlocks (Nat.le_of_ble_eq_true rfl) (Nat.le_of_ble_eq_true rfl) dJ6_getChars_ba4f3_120
      · skip
        rw [zdig_4 (by omega)] at hl he
        have he : n + 4 ≤ cap := he
        have hl : lv_has ls 7 [(0, .int (nI v)), (1, .int (nI (n + 4))), (2, .ref q)] := hl
        have hP := zeqP (congrArg (fun z : Nat → Int32 => ([(b, .inr (4, [.ref q, .int 0, .int mL, .int n0])), (q, .inl (Y 1, cap, .inl z))] : va_W)) (zput_nil (a := a) (n := n + 4)).symm) hP
        have hD := zeqD (congrArg (fun z : Nat → Int32 => ([(b, .inr (4, [.ref q, .int 0, .int mL, .int n0])), (q, .inl (Y 1, cap, .inl z))] : va_W)) (zput_nil (a := a) (n := n + 4)).symm) hD
        have hP : va_P D vwCl [(b, .inr (4, [.ref q, .int 0, .int mL, .int n0])), (q, .inl (Y 1, cap, .inl (zput a (n + 4) [])))] _ := hP
        have hD : va_D A ([(b, .inr (4, [.ref q, .int 0, .int mL, .int n0])), (q, .inl (Y 1, cap, .inl (zput a (n + 4) [])))] : va_W) := hD
        refine lv_iload_n hx hb dJ6_getChars_ba4f3_0 rfl (lv_at hl 1 rfl) ?_
        refine lv_istore (lv' := [(5, .int (nI (n + 4))), (0, .int (nI v)), (1, .int (nI (n + 4))), (2, .ref q)]) hx hb dJ6_getChars_ba4f3_1 hl (by decide) rfl (fun ls hl => ?_)
        refine lv_iload_n hx hb dJ6_getChars_ba4f3_3 rfl (lv_at hl 1 rfl) ?_
        refine lv_if_ge (tgt := 11) hx hb dJ6_getChars_ba4f3_4 (by decide) (fun hc => ?_) (fun hc => absurd (z0le (by omega)) hc)
        refine lv_iconst (v := 0) hx hb dJ6_getChars_ba4f3_11 (by decide) ?_
        refine lv_istore (lv' := [(6, .int 0), (5, .int (nI (n + 4))), (0, .int (nI v)), (1, .int (nI (n + 4))), (2, .ref q)]) hx hb dJ6_getChars_ba4f3_12 hl (by decide) rfl (fun ls hl => ?_)
        refine lv_iload hx hb dJ6_getChars_ba4f3_14 (lv_at hl 0 rfl) ?_
        refine lv_if_ne (tgt := 22) hx hb dJ6_getChars_ba4f3_16 (by decide) (fun hc => absurd rfl hc) (fun hc => ?_)
        refine lv_iload_n hx hb dJ6_getChars_ba4f3_19 rfl (lv_at hl 2 rfl) ?_
        refine lv_ineg hx hb dJ6_getChars_ba4f3_20 ?_
        refine lv_istore_n (lv' := [(0, .int (-(nI v))), (6, .int 0), (5, .int (nI (n + 4))), (1, .int (nI (n + 4))), (2, .ref q)]) hx hb dJ6_getChars_ba4f3_21 rfl hl (by decide) rfl (fun ls hl => ?_)
        refine lv_iload_n hx hb dJ6_getChars_ba4f3_22 rfl (lv_at hl 0 rfl) ?_
        refine lv_bipush (v := (-100)) hx hb dJ6_getChars_ba4f3_23 (by decide) ?_
        refine z_topi (x := (-nI 100)) (by decide) ?_
        refine lv_icmp_gt (tgt := 72) hx hb dJ6_getChars_ba4f3_25 (by decide) (fun hc => absurd hc (fun z => absurd ((sb_nlt (by decide) (by omega)).mp z) (by omega))) (fun hc => ?_)
        refine lv_iload_n hx hb dJ6_getChars_ba4f3_28 rfl (lv_at hl 0 rfl) ?_
        refine lv_bipush (v := 100) hx hb dJ6_getChars_ba4f3_29 (by decide) ?_
        refine lv_idiv hx hb dJ6_getChars_ba4f3_31 (by decide) ?_
        refine z_topi (x := (-nI (v / 100))) (sb_ndiv (by omega)).symm ?_
        refine lv_istore_n (lv' := [(3, .int (-nI (v / 100))), (0, .int (-(nI v))), (6, .int 0), (5, .int (nI (n + 4))), (1, .int (nI (n + 4))), (2, .ref q)]) hx hb dJ6_getChars_ba4f3_32 rfl hl (by decide) rfl (fun ls hl => ?_)
        refine lv_iload_n hx hb dJ6_getChars_ba4f3_33 rfl (lv_at hl 0 rfl) ?_
        refine lv_bipush (v := 100) hx hb dJ6_getChars_ba4f3_34 (by decide) ?_
        refine lv_imul hx hb dJ6_getChars_ba4f3_36 ?_
        refine lv_iload_n hx hb dJ6_getChars_ba4f3_37 rfl (lv_at hl 1 rfl) ?_
        refine lv_isub hx hb dJ6_getChars_ba4f3_38 ?_
        refine z_topi (x := (nI (v % 100))) (sb_nrem (by omega)).symm ?_
        refine lv_istore (lv' := [(4, .int (nI (v % 100))), (3, .int (-nI (v / 100))), (0, .int (-(nI v))), (6, .int 0), (5, .int (nI (n + 4))), (1, .int (nI (n + 4))), (2, .ref q)]) hx hb dJ6_getChars_ba4f3_39 hl (by decide) rfl (fun ls hl => ?_)
        refine lv_iload_n hx hb dJ6_getChars_ba4f3_41 rfl (lv_at hl 1 rfl) ?_
        refine lv_istore_n (lv' := [(0, .int (-nI (v / 100))), (4, .int (nI (v % 100))), (3, .int (-nI (v / 100))), (6, .int 0), (5, .int (nI (n + 4))), (1, .int (nI (n + 4))), (2, .ref q)]) hx hb dJ6_getChars_ba4f3_42 rfl hl (by decide) rfl (fun ls hl => ?_)
        refine lv_aload_n hx hb dJ6_getChars_ba4f3_43 rfl (lv_at hl 6 rfl) ?_
        refine lv_iinc (v := (nI (n + 3))) (lv' := [(5, .int (nI (n + 3))), (0, .int (-nI (v / 100))), (4, .int (nI (v % 100))), (3, .int (-nI (v / 100))), (6, .int 0), (1, .int (nI (n + 4))), (2, .ref q)]) hx hb dJ6_getChars_ba4f3_44 hl (k := 4) rfl (zdec (n + 3)) (by decide) rfl (fun ls hl => ?_)
        refine lv_iload hx hb dJ6_getChars_ba4f3_47 (lv_at hl 0 rfl) ?_
        refine va_gets hx hb gz1 hS hown (ok _ mj_890) (fun _ h => h) dJ6_getChars_ba4f3_49 ?_
        refine lv_iload hx hb dJ6_getChars_ba4f3_52 (lv_at hl 2 rfl) ?_
        refine va_tb (v := .int (nI (48 + v % 10))) hx hb gt1 hS (nI_in (by omega) (by decide)) ((congrArg (fun z => Value.int (nI (48 + z % 10))) (nI_clamp (by omega))).trans (zcon (by omega))) dJ6_getChars_ba4f3_54 ?_
        refine va_bast hx hb hK.1 hP hD hS 1 1 rfl rfl (nI_in (by omega) (by omega)) dJ6_getChars_ba4f3_55 (fun H locs hP hD hS => ?_)
        rw [nI_clamp (by omega), znar (by omega)] at hP hD
        have hP := zeqP (congrArg (fun z : Nat → Int32 => ([(b, .inr (4, [.ref q, .int 0, .int mL, .int n0])), (q, .inl (Y 1, cap, .inl z))] : va_W)) (zput_cons (a := a) (n := (n + 3)) (x := 48 + v % 10) (ds := []))) hP
        have hD := zeqD (congrArg (fun z : Nat → Int32 => ([(b, .inr (4, [.ref q, .int 0, .int mL, .int n0])), (q, .inl (Y 1, cap, .inl z))] : va_W)) (zput_cons (a := a) (n := (n + 3)) (x := 48 + v % 10) (ds := []))) hD
        have hP : va_P D vwCl [(b, .inr (4, [.ref q, .int 0, .int mL, .int n0])), (q, .inl (Y 1, cap, .inl (zput a (n + 3) [48 + v % 10])))] _ := hP
        have hD : va_D A ([(b, .inr (4, [.ref q, .int 0, .int mL, .int n0])), (q, .inl (Y 1, cap, .inl (zput a (n + 3) [48 + v % 10])))] : va_W) := hD
        refine lv_aload_n hx hb dJ6_getChars_ba4f3_56 rfl (lv_at hl 6 rfl) ?_
        refine lv_iinc (v := (nI (n + 2))) (lv' := [(5, .int (nI (n + 2))), (0, .int (-nI (v / 100))), (4, .int (nI (v % 100))), (3, .int (-nI (v / 100))), (6, .int 0), (1, .int (nI (n + 4))), (2, .ref q)]) hx hb dJ6_getChars_ba4f3_57 hl (k := 0) rfl (zdec (n + 2)) (by decide) rfl (fun ls hl => ?_)
        refine lv_iload hx hb dJ6_getChars_ba4f3_60 (lv_at hl 0 rfl) ?_
        refine va_gets hx hb gz2 hS hown (ok _ mj_892) (fun _ h => h) dJ6_getChars_ba4f3_62 ?_
        refine lv_iload hx hb dJ6_getChars_ba4f3_65 (lv_at hl 2 rfl) ?_
        refine va_tb (v := .int (nI (48 + v / 10 % 10))) hx hb gt2 hS (nI_in (by omega) (by decide)) ((congrArg (fun z => Value.int (nI (48 + z / 10))) (nI_clamp (by omega))).trans (zcon (by omega))) dJ6_getChars_ba4f3_67 ?_
        refine va_bast hx hb hK.1 hP hD hS 1 1 rfl rfl (nI_in (by omega) (by omega)) dJ6_getChars_ba4f3_68 (fun H locs hP hD hS => ?_)
        rw [nI_clamp (by omega), znar (by omega)] at hP hD
        have hP := zeqP (congrArg (fun z : Nat → Int32 => ([(b, .inr (4, [.ref q, .int 0, .int mL, .int n0])), (q, .inl (Y 1, cap, .inl z))] : va_W)) (zput_cons (a := a) (n := (n + 2)) (x := 48 + v / 10 % 10) (ds := [48 + v % 10]))) hP
        have hD := zeqD (congrArg (fun z : Nat → Int32 => ([(b, .inr (4, [.ref q, .int 0, .int mL, .int n0])), (q, .inl (Y 1, cap, .inl z))] : va_W)) (zput_cons (a := a) (n := (n + 2)) (x := 48 + v / 10 % 10) (ds := [48 + v % 10]))) hD
        have hP : va_P D vwCl [(b, .inr (4, [.ref q, .int 0, .int mL, .int n0])), (q, .inl (Y 1, cap, .inl (zput a (n + 2) [48 + v / 10 % 10, 48 + v % 10])))] _ := hP
        have hD : va_D A ([(b, .inr (4, [.ref q, .int 0, .int mL, .int n0])), (q, .inl (Y 1, cap, .inl (zput a (n + 2) [48 + v / 10 % 10, 48 + v % 10])))] : va_W) := hD
        refine lv_goto (tgt := 22) hx hb dJ6_getChars_ba4f3_69 (by decide) ?_
        refine lv_iload_n hx hb dJ6_getChars_ba4f3_22 rfl (lv_at hl 1 rfl) ?_
        refine lv_bipush (v := (-100)) hx hb dJ6_getChars_ba4f3_23 (by decide) ?_
        refine z_topi (x := (-nI 100)) (by decide) ?_
        refine lv_icmp_gt (tgt := 72) hx hb dJ6_getChars_ba4f3_25 (by decide) (fun hc => ?_) (fun hc => absurd ((sb_nlt (by decide) (by omega)).mpr (by omega)) hc)
        refine lv_aload_n hx hb dJ6_getChars_ba4f3_72 rfl (lv_at hl 6 rfl) ?_
        refine lv_iinc (v := (nI (n + 1))) (lv' := [(5, .int (nI (n + 1))), (0, .int (-nI (v / 100))), (4, .int (nI (v % 100))), (3, .int (-nI (v / 100))), (6, .int 0), (1, .int (nI (n + 4))), (2, .ref q)]) hx hb dJ6_getChars_ba4f3_73 hl (k := 0) rfl (zdec (n + 1)) (by decide) rfl (fun ls hl => ?_)
        refine lv_iload hx hb dJ6_getChars_ba4f3_76 (lv_at hl 0 rfl) ?_
        refine va_gets hx hb gz1 hS hown (ok _ mj_890) (fun _ h => h) dJ6_getChars_ba4f3_78 ?_
        refine lv_iload_n hx hb dJ6_getChars_ba4f3_81 rfl (lv_at hl 1 rfl) ?_
        refine lv_ineg hx hb dJ6_getChars_ba4f3_82 ?_
        refine z_topi (x := (nI (v / 100))) (by rw [Int32.neg_neg]) ?_
        refine va_tb (v := .int (nI (48 + v / 100 % 10))) hx hb gt1 hS (nI_in (by omega) (by decide)) ((congrArg (fun z => Value.int (nI (48 + z % 10))) (nI_clamp (by omega))).trans (zcon (by omega))) dJ6_getChars_ba4f3_83 ?_
        refine va_bast hx hb hK.1 hP hD hS 1 1 rfl rfl (nI_in (by omega) (by omega)) dJ6_getChars_ba4f3_84 (fun H locs hP hD hS => ?_)
        rw [nI_clamp (by omega), znar (by omega)] at hP hD
        have hP := zeqP (congrArg (fun z : Nat → Int32 => ([(b, .inr (4, [.ref q, .int 0, .int mL, .int n0])), (q, .inl (Y 1, cap, .inl z))] : va_W)) (zput_cons (a := a) (n := (n + 1)) (x := 48 + v / 100 % 10) (ds := [48 + v / 10 % 10, 48 + v % 10]))) hP
        have hD := zeqD (congrArg (fun z : Nat → Int32 => ([(b, .inr (4, [.ref q, .int 0, .int mL, .int n0])), (q, .inl (Y 1, cap, .inl z))] : va_W)) (zput_cons (a := a) (n := (n + 1)) (x := 48 + v / 100 % 10) (ds := [48 + v / 10 % 10, 48 + v % 10]))) hD
        have hP : va_P D vwCl [(b, .inr (4, [.ref q, .int 0, .int mL, .int n0])), (q, .inl (Y 1, cap, .inl (zput a (n + 1) [48 + v / 100 % 10, 48 + v / 10 % 10, 48 + v % 10])))] _ := hP
        have hD : va_D A ([(b, .inr (4, [.ref q, .int 0, .int mL, .int n0])), (q, .inl (Y 1, cap, .inl (zput a (n + 1) [48 + v / 100 % 10, 48 + v / 10 % 10, 48 + v % 10])))] : va_W) := hD
        refine lv_iload_n hx hb dJ6_getChars_ba4f3_85 rfl (lv_at hl 1 rfl) ?_
        refine lv_bipush (v := (-9)) hx hb dJ6_getChars_ba4f3_86 (by decide) ?_
        refine z_topi (x := (-nI 9)) (by decide) ?_
        refine lv_icmp_ge (tgt := 104) hx hb dJ6_getChars_ba4f3_88 (by decide) (fun hc => absurd hc (fun z => absurd ((sb_nle (by decide) (by omega)).mp z) (by omega))) (fun hc => ?_)
        refine lv_aload_n hx hb dJ6_getChars_ba4f3_91 rfl (lv_at hl 6 rfl) ?_
        refine lv_iinc (v := (nI n)) (lv' := [(5, .int (nI n)), (0, .int (-nI (v / 100))), (4, .int (nI (v % 100))), (3, .int (-nI (v / 100))), (6, .int 0), (1, .int (nI (n + 4))), (2, .ref q)]) hx hb dJ6_getChars_ba4f3_92 hl (k := 0) rfl (zdec n) (by decide) rfl (fun ls hl => ?_)
        refine lv_iload hx hb dJ6_getChars_ba4f3_95 (lv_at hl 0 rfl) ?_
        refine va_gets hx hb gz2 hS hown (ok _ mj_892) (fun _ h => h) dJ6_getChars_ba4f3_97 ?_
        refine lv_iload_n hx hb dJ6_getChars_ba4f3_100 rfl (lv_at hl 1 rfl) ?_
        refine lv_ineg hx hb dJ6_getChars_ba4f3_101 ?_
        refine z_topi (x := (nI (v / 100))) (by rw [Int32.neg_neg]) ?_
        refine va_tb (v := .int (nI (48 + v / 1000))) hx hb gt2 hS (nI_in (by omega) (by decide)) ((congrArg (fun z => Value.int (nI (48 + z / 10))) (nI_clamp (by omega))).trans (zcon (by omega))) dJ6_getChars_ba4f3_102 ?_
        refine va_bast hx hb hK.1 hP hD hS 1 1 rfl rfl (nI_in (by omega) (by omega)) dJ6_getChars_ba4f3_103 (fun H locs hP hD hS => ?_)
        rw [nI_clamp (by omega), znar (by omega)] at hP hD
        have hP := zeqP (congrArg (fun z : Nat → Int32 => ([(b, .inr (4, [.ref q, .int 0, .int mL, .int n0])), (q, .inl (Y 1, cap, .inl z))] : va_W)) (zput_cons (a := a) (n := n) (x := 48 + v / 1000) (ds := [48 + v / 100 % 10, 48 + v / 10 % 10, 48 + v % 10]))) hP
        have hD := zeqD (congrArg (fun z : Nat → Int32 => ([(b, .inr (4, [.ref q, .int 0, .int mL, .int n0])), (q, .inl (Y 1, cap, .inl z))] : va_W)) (zput_cons (a := a) (n := n) (x := 48 + v / 1000) (ds := [48 + v / 100 % 10, 48 + v / 10 % 10, 48 + v % 10]))) hD
        have hP : va_P D vwCl [(b, .inr (4, [.ref q, .int 0, .int mL, .int n0])), (q, .inl (Y 1, cap, .inl (zput a n [48 + v / 1000, 48 + v / 100 % 10, 48 + v / 10 % 10, 48 + v % 10])))] _ := hP
        have hD : va_D A ([(b, .inr (4, [.ref q, .int 0, .int mL, .int n0])), (q, .inl (Y 1, cap, .inl (zput a n [48 + v / 1000, 48 + v / 100 % 10, 48 + v / 10 % 10, 48 + v % 10])))] : va_W) := hD
        refine lv_iload hx hb dJ6_getChars_ba4f3_104 (lv_at hl 4 rfl) ?_
        refine lv_if_eq (tgt := 118) hx hb dJ6_getChars_ba4f3_106 (by decide) (fun hc => ?_) (fun hc => absurd rfl hc)
        refine lv_iload hx hb dJ6_getChars_ba4f3_118 (lv_at hl 0 rfl) ?_
        exact z_jiret hx hb hr (by rw [zdig_4 (by omega)]; exact ⟨rfl, hP, hD⟩) hS hlocks (Nat.le_of_ble_eq_true rfl) (Nat.le_of_ble_eq_true rfl) dJ6_getChars_ba4f3_120

set_option maxHeartbeats 4000000 in
set_option maxRecDepth 100000 in
theorem cj_J5_append_c97b9 (l : Launch) (hfl : l.flags = flags0) (D : va_G) (Y : Nat → ClassId) (S V : Nat → Nat) (A : Nat → Prop) (b : Nat) (mL : Int32) (t : List Nat) (v : Nat) (hu1 : v < 10000) (hu4 : t.length + (zdig v).length ≤ 300) : zMJ l yJ5_append_c97b9 cJ5_append_c97b9 4 (some (.object "java/lang/AbstractStringBuilder")) 4 1 600 D Y S V A [.ref b, .int (nI v)] (fun U => zSB D Y A b mL t U.heap) (fun r H => r = some (.ref b) ∧ zSB D Y A b mL (t ++ zdig v) H) := by
  refine zMJ.ofW hfl (by decide) (fun p e s m args below meth c ha F hr hlocks hin hP => ?_)
  subst ha
  obtain ⟨hx, hb, hml, hown, hts, hl9, hJ, hA⟩ := id F
  have ok : ∀ w ∈ zWS, w.before ([.ref b, .int (nI v)] : List Value).toArray s = true := fun w h => hts w (List.mem_cons_of_mem _ h)
  have hK := hJ.1
  have hS : va_S A s.heap s.heap [] := va_S.rf
  have hl := lv_entry ([.ref b, .int (nI v)]) (n := 4) (Nat.le_of_ble_eq_true rfl)
  rw [lg_entry_eq]
  generalize (lg_sl ([.ref b, .int (nI v)]) ++ List.replicate (4 - (lg_sl ([.ref b, .int (nI v)])).length) Slot.unset).toArray = ls at hl ⊢
  have hl : lv_has ls 4 [(0, .ref b), (1, .int (nI v))] := hl
  obtain ⟨q, cap, a, hP, hD, g1, g2, g3, g4⟩ := hP
  have hP : va_P D vwCl [(b, .inr (4, [.ref q, .int 0, .int mL, .int (nI t.length)])), (q, .inl (Y 1, cap, .inl a))] _ := hP
  have hD : va_D A ([(b, .inr (4, [.ref q, .int 0, .int mL, .int (nI t.length)])), (q, .inl (Y 1, cap, .inl a))] : va_W) := hD
  refine lv_aload_n hx hb dJ5_append_c97b9_0 rfl (lv_at hl 0 rfl) ?_
  refine va_get hx hb hts (fun w h => List.mem_cons_of_mem _ (ziJ4 w h)) hown hK.1 hP 0 rfl rfl 3 (by decide) (ok _ mj_868) (fun _ h => h) rfl dJ5_append_c97b9_1 ?_
  refine lv_istore_n (lv' := [(2, .int (nI t.length)), (0, .ref b), (1, .int (nI v))]) hx hb dJ5_append_c97b9_4 rfl hl (by decide) rfl (fun ls hl => ?_)
  refine lv_iload_n hx hb dJ5_append_c97b9_5 rfl (lv_at hl 0 rfl) ?_
  refine lv_iload_n hx hb dJ5_append_c97b9_6 rfl (lv_at hl 2 rfl) ?_
  refine z_jS (As := [.int (nI v)]) (rest := [.int (nI t.length)]) F kj_J6_stringSize_0f7a4 mj_884 (cj_J6_stringSize_0f7a4 l hfl D Y S V (fun q => _ ≤ q) v hu1) (fun _ _ _ _ h => h) (fun U hU _ => trivial) hS (fun q h => hA q (Nat.le_trans hS.1 h)) (fun _ h => h) rfl rfl hl.1 (Nat.le_of_ble_eq_true rfl) dJ5_append_c97b9_7 (Nat.le_of_ble_eq_true rfl) ⟨(Nat.le_of_ble_eq_true rfl), (Nat.le_of_ble_eq_true rfl)⟩ rfl (fun v H1 locs hp hz hk hS => ?_)
  subst hp
  have hP := hP.kept (fun k x hx => hk x.1 (hP k x hx).lt (Nat.not_le.mpr (hP k x hx).lt))
  refine lv_iadd hx hb dJ5_append_c97b9_10 ?_
  refine z_topi (x := (nI (t.length + (zdig v).length))) (nI_add _ _).symm ?_
  refine lv_istore_n (lv' := [(3, .int (nI (t.length + (zdig v).length))), (2, .int (nI t.length)), (0, .ref b), (1, .int (nI v))]) hx hb dJ5_append_c97b9_11 rfl hl (by decide) rfl (fun ls hl => ?_)
  refine lv_aload_n hx hb dJ5_append_c97b9_12 rfl (lv_at hl 2 rfl) ?_
  refine lv_iload_n hx hb dJ5_append_c97b9_13 rfl (lv_at hl 0 rfl) ?_
  refine z_jP (As := [.int (nI (t.length + (zdig v).length))]) (rest := []) F kp_J5_ensureCapacityInternal_d00df mj_783 (cj_J5_ensureCapacityInternal_d00df l hfl D Y S V A b q cap mL (nI t.length) a (t.length + (zdig v).length) hD g1 (by omega) g4) (fun _ _ _ _ h => h) (fun U hU hW => (by rw [hU]; exact hP)) (va_recv hK.1 hP rfl (q0 := 0) rfl) hS (fun _ h => h) (fun q h => hA q (Nat.le_trans hS.1 h)) rfl rfl hl.1 (Nat.le_of_ble_eq_true rfl) dJ5_append_c97b9_14 (Nat.le_of_ble_eq_true rfl) ⟨(Nat.le_of_ble_eq_true rfl), (Nat.le_of_ble_eq_true rfl)⟩ rfl (fun v H1 locs hp hz hk hS => ?_)
  obtain ⟨rfl, q', cap', a', hP, hD, k1, k2, k3, k4, k5⟩ := hp
  have hP : va_P D vwCl [(b, .inr (4, [.ref q', .int 0, .int mL, .int (nI t.length)])), (q', .inl (Y 1, cap', .inl a'))] _ := hP
  have hD : va_D A ([(b, .inr (4, [.ref q', .int 0, .int mL, .int (nI t.length)])), (q', .inl (Y 1, cap', .inl a'))] : va_W) := hD
  refine lv_aload_n hx hb dJ5_append_c97b9_17 rfl (lv_at hl 2 rfl) ?_
  refine z_jU (As := []) (rest := []) F ku_J5_isLatin1_aae02 mj_811 (cj_J5_isLatin1_aae02 l hfl D Y S V (fun q => _ ≤ q) b q' cap' mL (nI t.length) a') (fun _ _ _ _ h => h) (fun U hU _ => by rw [hU]; exact hP) (va_recv hK.1 hP rfl (q0 := 0) rfl) hS (fun q h => hA q (Nat.le_trans hS.1 h)) (fun _ h => h) rfl rfl hl.1 (Nat.le_of_ble_eq_true rfl) dJ5_append_c97b9_18 (Nat.le_of_ble_eq_true rfl) ⟨(Nat.le_of_ble_eq_true rfl), (Nat.le_of_ble_eq_true rfl)⟩ rfl (fun v H1 locs hp hz hk hS => ?_)
  subst hp
  have hP := hP.kept (fun k x hx => hk x.1 (hP k x hx).lt (Nat.not_le.mpr (hP k x hx).lt))
  refine lv_if_eq (tgt := 37) hx hb dJ5_append_c97b9_21 (by decide) (fun hc => absurd hc (by decide)) (fun hc => ?_)
  refine lv_iload_n hx hb dJ5_append_c97b9_24 rfl (lv_at hl 3 rfl) ?_
  refine lv_iload_n hx hb dJ5_append_c97b9_25 rfl (lv_at hl 0 rfl) ?_
  refine lv_aload_n hx hb dJ5_append_c97b9_26 rfl (lv_at hl 2 rfl) ?_
  refine va_get hx hb hts (fun w h => List.mem_cons_of_mem _ (ziJ4 w h)) hown hK.1 hP 0 rfl rfl 0 (by decide) (ok _ mj_865) (fun _ h => h) rfl dJ5_append_c97b9_27 ?_
  refine z_jS (As := [.int (nI v), .int (nI (t.length + (zdig v).length)), .ref q']) (rest := []) F kj_J6_getChars_ba4f3 mj_887 (cj_J6_getChars_ba4f3 l hfl D Y S V A b q' cap' mL (nI t.length) a' t.length v hD hu1 (by omega) k1) (fun _ _ _ _ h => h) (fun U hU hW => (by rw [hU]; exact hP)) hS (fun _ h => h) (fun q h => hA q (Nat.le_trans hS.1 h)) rfl rfl hl.1 (Nat.le_of_ble_eq_true rfl) dJ5_append_c97b9_30 (Nat.le_of_ble_eq_true rfl) ⟨(Nat.le_of_ble_eq_true rfl), (Nat.le_of_ble_eq_true rfl)⟩ rfl (fun v H1 locs hp hz hk hS => ?_)
  obtain ⟨rfl, hP, hD⟩ := hp
  have hP : va_P D vwCl [(b, .inr (4, [.ref q', .int 0, .int mL, .int (nI t.length)])), (q', .inl (Y 1, cap', .inl (zput a' t.length (zdig v))))] _ := hP
  have hD : va_D A ([(b, .inr (4, [.ref q', .int 0, .int mL, .int (nI t.length)])), (q', .inl (Y 1, cap', .inl (zput a' t.length (zdig v))))] : va_W) := hD
  refine lv_pop hx hb dJ5_append_c97b9_33 rfl ?_
  refine lv_goto (tgt := 48) hx hb dJ5_append_c97b9_34 (by decide) ?_
  refine lv_aload_n hx hb dJ5_append_c97b9_48 rfl (lv_at hl 2 rfl) ?_
  refine lv_iload_n hx hb dJ5_append_c97b9_49 rfl (lv_at hl 0 rfl) ?_
  refine z_topi (x := (nI (t ++ zdig v).length)) (by rw [List.length_append]) ?_
  refine va_put hx hb hts (fun w h => List.mem_cons_of_mem _ (ziJ4 w h)) tyJ4 tyJ4_ok nmJ4 hown hK.1 hP hD hS 0 rfl rfl 3 (by decide) (ok _ mj_868) (fun _ h => h) rfl (tyJ4_ok 3 (by decide)) rfl rfl (Nat.le_of_ble_eq_true rfl) dJ5_append_c97b9_50 (fun H locs hP hD hS => ?_)
  have hP : va_P D vwCl [(b, .inr (4, [.ref q', .int 0, .int mL, .int (nI (t ++ zdig v).length)])), (q', .inl (Y 1, cap', .inl (zput a' t.length (zdig v))))] _ := hP
  have hD : va_D A ([(b, .inr (4, [.ref q', .int 0, .int mL, .int (nI (t ++ zdig v).length)])), (q', .inl (Y 1, cap', .inl (zput a' t.length (zdig v))))] : va_W) := hD
  refine lv_aload_n hx hb dJ5_append_c97b9_53 rfl (lv_at hl 2 rfl) ?_
  exact z_jaret hx hb hr (Or.inl ⟨_, rfl⟩) ⟨rfl, q', cap', _, hP, hD, k1, by rw [List.length_append]; exact k2, zput_app g3 (fun j hj => k4 j (by omega)) (zdig_lt hu1), zput_fit k5 (zdig_lt hu1)⟩ hS hlocks (Nat.le_of_ble_eq_true rfl) (Nat.le_of_ble_eq_true rfl) dJ5_append_c97b9_54

set_option maxHeartbeats 4000000 in
set_option maxRecDepth 100000 in
theorem cj_J4_append_bf812 (l : Launch) (hfl : l.flags = flags0) (D : va_G) (Y : Nat → ClassId) (S V : Nat → Nat) (A : Nat → Prop) (b : Nat) (mL : Int32) (t : List Nat) (v : Nat) (hu1 : v < 10000) (hu4 : t.length + (zdig v).length ≤ 300) : zMJ l yJ4_append_bf812 cJ4_append_bf812 2 (some (.object "java/lang/StringBuilder")) 5 1 600 D Y S V A [.ref b, .int (nI v)] (fun U => zSB D Y A b mL t U.heap) (fun r H => r = some (.ref b) ∧ zSB D Y A b mL (t ++ zdig v) H) := by
  refine zMJ.ofW hfl (by decide) (fun p e s m args below meth c ha F hr hlocks hin hP => ?_)
  subst ha
  obtain ⟨hx, hb, hml, hown, hts, hl9, hJ, hA⟩ := id F
  have ok : ∀ w ∈ zWS, w.before ([.ref b, .int (nI v)] : List Value).toArray s = true := fun w h => hts w (List.mem_cons_of_mem _ h)
  have hK := hJ.1
  have hS : va_S A s.heap s.heap [] := va_S.rf
  have hl := lv_entry ([.ref b, .int (nI v)]) (n := 2) (Nat.le_of_ble_eq_true rfl)
  rw [lg_entry_eq]
  generalize (lg_sl ([.ref b, .int (nI v)]) ++ List.replicate (2 - (lg_sl ([.ref b, .int (nI v)])).length) Slot.unset).toArray = ls at hl ⊢
  have hl : lv_has ls 2 [(0, .ref b), (1, .int (nI v))] := hl
  obtain ⟨q, cap, a, hP, hD, g1, g2, g3, g4⟩ := hP
  have hP : va_P D vwCl [(b, .inr (4, [.ref q, .int 0, .int mL, .int (nI t.length)])), (q, .inl (Y 1, cap, .inl a))] _ := hP
  have hD : va_D A ([(b, .inr (4, [.ref q, .int 0, .int mL, .int (nI t.length)])), (q, .inl (Y 1, cap, .inl a))] : va_W) := hD
  refine lv_aload_n hx hb dJ4_append_bf812_0 rfl (lv_at hl 0 rfl) ?_
  refine lv_iload_n hx hb dJ4_append_bf812_1 rfl (lv_at hl 1 rfl) ?_
  refine z_jSU (As := [.int (nI v)]) (rest := []) F ks_J5_append_c97b9 mj_881 (cj_J5_append_c97b9 l hfl D Y S V A b mL t v hu1 hu4) (fun _ _ _ _ h => h) (fun U hU hW => (by rw [hU]; exact ⟨q, cap, a, hP, hD, g1, g2, g3, g4⟩)) (hK.1.1 4 _ rfl).2 (va_recv hK.1 hP rfl (q0 := 0) rfl) hS (fun _ h => h) (fun q h => hA q (Nat.le_trans hS.1 h)) rfl rfl hl.1 (Nat.le_of_ble_eq_true rfl) dJ4_append_bf812_2 (Nat.le_of_ble_eq_true rfl) ⟨(Nat.le_of_ble_eq_true rfl), (Nat.le_of_ble_eq_true rfl)⟩ rfl (fun v H1 locs hp hz hk hS => ?_)
  obtain ⟨rfl, hp⟩ := hp
  refine lv_pop hx hb dJ4_append_bf812_5 rfl ?_
  refine lv_aload_n hx hb dJ4_append_bf812_6 rfl (lv_at hl 0 rfl) ?_
  exact z_jaret hx hb hr (Or.inl ⟨_, rfl⟩) ⟨rfl, hp⟩ hS hlocks (Nat.le_of_ble_eq_true rfl) (Nat.le_of_ble_eq_true rfl) dJ4_append_bf812_7
