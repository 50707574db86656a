/-! THE LAW: its choice, its loop -/
set_option maxHeartbeats 4000000 in
set_option maxRecDepth 100000 in
theorem law_disp {p : Program} {l : Launch} {e : Env} {s : State} {m : MethodId} {args : Array Value} {below : List Frame} {meth : Method} {c : Code} {H : Heap} {locs : List Loc} {cb sb : Nat} {Q : State → Prop} {ls : Array Slot} {D : va_G} {Y : Nat → ClassId} {S V : Nat → Nat} {G Gm : Nat → Nat → Nat} {A : Nat → Prop} {cL : ClassId} {o : Nat} {b L : Nat} {xs : Nat → Int32} (K : zLS p l s m args c) (C : zLC D Y S V G Gm A cL o s) (X : zLX b L xs A s) {f : Nat → Int64} {T M : zT} {i : Nat} (hi : i + 5 < L) (h : zRel T M) (W0 : zLW D Y G Gm A cL o f s T M H locs) (hl : lv_has ls 9 [(0, .ref b), (1, .ref (G 0 0)), (2, .ref (Gm 0 0)), (3, .ref o), (4, .int (nI i))]) (hcb : cb + 3 ≤ 601024 ∧ sb + 18 ≤ 7293034)
    (kk : ∀ (T1 M1 : zT) (f1 : Nat → Int64) (H1 : Heap) (locs1 : List Loc) (ls1 : Array Slot), zRel T1 M1 → zLW D Y G Gm A cL o f1 s T1 M1 H1 locs1 → lv_has ls1 9 [(0, .ref b), (1, .ref (G 0 0)), (2, .ref (Gm 0 0)), (3, .ref o), (4, .int (nI i))] → W p l e room_1 s m args below meth c H1 locs1 (cb + 3) (sb + 18) Q (F0 m 2703 ls1 [])) : W p l e room_1 s m args below meth c H locs cb sb Q (F0 m 40 ls [.int (xs i &&& 63)]) := by
  obtain ⟨hx, hb, -⟩ := id K
  obtain ⟨j, hj, ej⟩ := z_and63 (xs i)
  rw [ej]
  by_cases h55 : 55 ≤ j
  · refine lv_tableOut (tgt := 2703) hx hb dL_law_40 (Or.inr ?_) (by decide) ?_
    · rw [nI_toInt (by omega)]; omega
    · exact W.widen (k := cb + 3) (n := sb + 18) (by omega) (by omega) (kk T M f H locs ls h W0 hl)
  · rcases (by omega : j = 0 ∨ j = 1 ∨ j = 2 ∨ j = 3 ∨ j = 4 ∨ j = 5 ∨ j = 6 ∨ j = 7 ∨ j = 8 ∨ j = 9 ∨ j = 10 ∨ j = 11 ∨ j = 12 ∨ j = 13 ∨ j = 14 ∨ j = 15 ∨ j = 16 ∨ j = 17 ∨ j = 18 ∨ j = 19 ∨ j = 20 ∨ j = 21 ∨ j = 22 ∨ j = 23 ∨ j = 24 ∨ j = 25 ∨ j = 26 ∨ j = 27 ∨ j = 28 ∨ j = 29 ∨ j = 30 ∨ j = 31 ∨ j = 32 ∨ j = 33 ∨ j = 34 ∨ j = 35 ∨ j = 36 ∨ j = 37 ∨ j = 38 ∨ j = 39 ∨ j = 40 ∨ j = 41 ∨ j = 42 ∨ j = 43 ∨ j = 44 ∨ j = 45 ∨ j = 46 ∨ j = 47 ∨ j = 48 ∨ j = 49 ∨ j = 50 ∨ j = 51 ∨ j = 52 ∨ j = 53 ∨ j = 54) with rfl | rfl | rfl | rfl | rfl | rfl | rfl | rfl | rfl | rfl | rfl | rfl | rfl | rfl | rfl | rfl | rfl | rfl | rfl | rfl | rfl | rfl | rfl | rfl | rfl | rfl | rfl | rfl | rfl | rfl | rfl | rfl | rfl | rfl | rfl | rfl | rfl | rfl | rfl | rfl | rfl | rfl | rfl | rfl | rfl | rfl | rfl | rfl | rfl | rfl | rfl | rfl | rfl | rfl | rfl
    · exact lv_tableIn (off := 236) (tgt := 276) hx hb dL_law_40 (by decide +kernel) (by decide +kernel) (by decide +kernel) (by decide) (lc_append K C X hi h W0 hl hcb kk)
    · exact lv_tableIn (off := 340) (tgt := 380) hx hb dL_law_40 (by decide +kernel) (by decide +kernel) (by decide +kernel) (by decide) (lc_load K C X hi h W0 hl hcb kk)
    · exact lv_tableIn (off := 396) (tgt := 436) hx hb dL_law_40 (by decide +kernel) (by decide +kernel) (by decide +kernel) (by decide) (lc_errorKind K C X hi h W0 hl hcb kk)
    · exact lv_tableIn (off := 409) (tgt := 449) hx hb dL_law_40 (by decide +kernel) (by decide +kernel) (by decide +kernel) (by decide) (lc_errorOffset K C X hi h W0 hl hcb kk)
    · exact lv_tableIn (off := 422) (tgt := 462) hx hb dL_law_40 (by decide +kernel) (by decide +kernel) (by decide +kernel) (by decide) (lc_year K C X hi h W0 hl hcb kk)
    · exact lv_tableIn (off := 435) (tgt := 475) hx hb dL_law_40 (by decide +kernel) (by decide +kernel) (by decide +kernel) (by decide) (lc_month K C X hi h W0 hl hcb kk)
    · exact lv_tableIn (off := 448) (tgt := 488) hx hb dL_law_40 (by decide +kernel) (by decide +kernel) (by decide +kernel) (by decide) (lc_dayOfMonth K C X hi h W0 hl hcb kk)
    · exact lv_tableIn (off := 461) (tgt := 501) hx hb dL_law_40 (by decide +kernel) (by decide +kernel) (by decide +kernel) (by decide) (lc_seed K C X hi h W0 hl hcb kk)
    · exact lv_tableIn (off := 474) (tgt := 514) hx hb dL_law_40 (by decide +kernel) (by decide +kernel) (by decide +kernel) (by decide) (lc_nextDraw K C X hi h W0 hl hcb kk)
    · exact lv_tableIn (off := 487) (tgt := 527) hx hb dL_law_40 (by decide +kernel) (by decide +kernel) (by decide +kernel) (by decide) (lc_candles K C X hi h W0 hl hcb kk)
    · exact lv_tableIn (off := 500) (tgt := 540) hx hb dL_law_40 (by decide +kernel) (by decide +kernel) (by decide +kernel) (by decide) (lc_cakes K C X hi h W0 hl hcb kk)
    · exact lv_tableIn (off := 556) (tgt := 596) hx hb dL_law_40 (by decide +kernel) (by decide +kernel) (by decide +kernel) (by decide) (lc_mostWantedCake K C X hi h W0 hl hcb kk)
    · exact lv_tableIn (off := 569) (tgt := 609) hx hb dL_law_40 (by decide +kernel) (by decide +kernel) (by decide +kernel) (by decide) (lc_gardenCount K C X hi h W0 hl hcb kk)
    · exact lv_tableIn (off := 582) (tgt := 622) hx hb dL_law_40 (by decide +kernel) (by decide +kernel) (by decide +kernel) (by decide) (lc_seatsOf K C X hi h W0 hl hcb kk)
    · exact lv_tableIn (off := 638) (tgt := 678) hx hb dL_law_40 (by decide +kernel) (by decide +kernel) (by decide +kernel) (by decide) (lc_childrenOf K C X hi h W0 hl hcb kk)
    · exact lv_tableIn (off := 694) (tgt := 734) hx hb dL_law_40 (by decide +kernel) (by decide +kernel) (by decide +kernel) (by decide) (lc_partyIn K C X hi h W0 hl hcb kk)
    · exact lv_tableIn (off := 774) (tgt := 814) hx hb dL_law_40 (by decide +kernel) (by decide +kernel) (by decide +kernel) (by decide) (lc_childCount K C X hi h W0 hl hcb kk)
    · exact lv_tableIn (off := 787) (tgt := 827) hx hb dL_law_40 (by decide +kernel) (by decide +kernel) (by decide +kernel) (by decide) (lc_cakeOf K C X hi h W0 hl hcb kk)
    · exact lv_tableIn (off := 843) (tgt := 883) hx hb dL_law_40 (by decide +kernel) (by decide +kernel) (by decide +kernel) (by decide) (lc_breathOf K C X hi h W0 hl hcb kk)
    · exact lv_tableIn (off := 899) (tgt := 939) hx hb dL_law_40 (by decide +kernel) (by decide +kernel) (by decide +kernel) (by decide) (lc_ageOf K C X hi h W0 hl hcb kk)
    · exact lv_tableIn (off := 955) (tgt := 995) hx hb dL_law_40 (by decide +kernel) (by decide +kernel) (by decide +kernel) (by decide) (lc_gardenOf K C X hi h W0 hl hcb kk)
    · exact lv_tableIn (off := 1011) (tgt := 1051) hx hb dL_law_40 (by decide +kernel) (by decide +kernel) (by decide +kernel) (by decide) (lc_birthdayOf K C X hi h W0 hl hcb kk)
    · exact lv_tableIn (off := 1067) (tgt := 1107) hx hb dL_law_40 (by decide +kernel) (by decide +kernel) (by decide +kernel) (by decide) (lc_daysUntilBirthday K C X hi h W0 hl hcb kk)
    · exact lv_tableIn (off := 1123) (tgt := 1163) hx hb dL_law_40 (by decide +kernel) (by decide +kernel) (by decide +kernel) (by decide) (lc_partiesOf K C X hi h W0 hl hcb kk)
    · exact lv_tableIn (off := 1179) (tgt := 1219) hx hb dL_law_40 (by decide +kernel) (by decide +kernel) (by decide +kernel) (by decide) (lc_wishesOf K C X hi h W0 hl hcb kk)
    · exact lv_tableIn (off := 1235) (tgt := 1275) hx hb dL_law_40 (by decide +kernel) (by decide +kernel) (by decide +kernel) (by decide) (lc_strengthOf K C X hi h W0 hl hcb kk)
    · exact lv_tableIn (off := 1291) (tgt := 1331) hx hb dL_law_40 (by decide +kernel) (by decide +kernel) (by decide +kernel) (by decide) (lc_nextChild K C X hi h W0 hl hcb kk)
    · exact lv_tableIn (off := 1304) (tgt := 1344) hx hb dL_law_40 (by decide +kernel) (by decide +kernel) (by decide +kernel) (by decide) (lc_childrenOn K C X hi h W0 hl hcb kk)
    · exact lv_tableIn (off := 1372) (tgt := 1412) hx hb dL_law_40 (by decide +kernel) (by decide +kernel) (by decide +kernel) (by decide) (lc_differentDates K C X hi h W0 hl hcb kk)
    · exact lv_tableIn (off := 1385) (tgt := 1425) hx hb dL_law_40 (by decide +kernel) (by decide +kernel) (by decide +kernel) (by decide) (lc_dateAt K C X hi h W0 hl hcb kk)
    · exact lv_tableIn (off := 1441) (tgt := 1481) hx hb dL_law_40 (by decide +kernel) (by decide +kernel) (by decide +kernel) (by decide) (lc_busiestMonth K C X hi h W0 hl hcb kk)
    · exact lv_tableIn (off := 1454) (tgt := 1494) hx hb dL_law_40 (by decide +kernel) (by decide +kernel) (by decide +kernel) (by decide) (lc_obstacle K C X hi h W0 hl hcb kk)
    · exact lv_tableIn (off := 1546) (tgt := 1586) hx hb dL_law_40 (by decide +kernel) (by decide +kernel) (by decide +kernel) (by decide) (lc_freeGarden K C X hi h W0 hl hcb kk)
    · exact lv_tableIn (off := 1626) (tgt := 1666) hx hb dL_law_40 (by decide +kernel) (by decide +kernel) (by decide +kernel) (by decide) (lc_drawsNeeded K C X hi h W0 hl hcb kk)
    · exact lv_tableIn (off := 1682) (tgt := 1722) hx hb dL_law_40 (by decide +kernel) (by decide +kernel) (by decide +kernel) (by decide) (lc_candlesAfter K C X hi h W0 hl hcb kk)
    · exact lv_tableIn (off := 1738) (tgt := 1778) hx hb dL_law_40 (by decide +kernel) (by decide +kernel) (by decide +kernel) (by decide) (lc_wishesAfter K C X hi h W0 hl hcb kk)
    · exact lv_tableIn (off := 1806) (tgt := 1846) hx hb dL_law_40 (by decide +kernel) (by decide +kernel) (by decide +kernel) (by decide) (lc_heldParties K C X hi h W0 hl hcb kk)
    · exact lv_tableIn (off := 1819) (tgt := 1859) hx hb dL_law_40 (by decide +kernel) (by decide +kernel) (by decide +kernel) (by decide) (lc_failedParties K C X hi h W0 hl hcb kk)
    · exact lv_tableIn (off := 1832) (tgt := 1872) hx hb dL_law_40 (by decide +kernel) (by decide +kernel) (by decide +kernel) (by decide) (lc_clashes K C X hi h W0 hl hcb kk)
    · exact lv_tableIn (off := 1845) (tgt := 1885) hx hb dL_law_40 (by decide +kernel) (by decide +kernel) (by decide +kernel) (by decide) (lc_candleDifference K C X hi h W0 hl hcb kk)
    · exact lv_tableIn (off := 1858) (tgt := 1898) hx hb dL_law_40 (by decide +kernel) (by decide +kernel) (by decide +kernel) (by decide) (lc_meanAge K C X hi h W0 hl hcb kk)
    · exact lv_tableIn (off := 1899) (tgt := 1939) hx hb dL_law_40 (by decide +kernel) (by decide +kernel) (by decide +kernel) (by decide) (lc_wishShare K C X hi h W0 hl hcb kk)
    · exact lv_tableIn (off := 1942) (tgt := 1982) hx hb dL_law_40 (by decide +kernel) (by decide +kernel) (by decide +kernel) (by decide) (lc_advance K C X hi h W0 hl hcb kk)
    · exact lv_tableIn (off := 1998) (tgt := 2038) hx hb dL_law_40 (by decide +kernel) (by decide +kernel) (by decide +kernel) (by decide) (lc_draw K C X hi h W0 hl hcb kk)
    · exact lv_tableIn (off := 2054) (tgt := 2094) hx hb dL_law_40 (by decide +kernel) (by decide +kernel) (by decide +kernel) (by decide) (lc_setBirthday K C X hi h W0 hl hcb kk)
    · exact lv_tableIn (off := 2134) (tgt := 2174) hx hb dL_law_40 (by decide +kernel) (by decide +kernel) (by decide +kernel) (by decide) (lc_forgetBirthday K C X hi h W0 hl hcb kk)
    · exact lv_tableIn (off := 2190) (tgt := 2230) hx hb dL_law_40 (by decide +kernel) (by decide +kernel) (by decide +kernel) (by decide) (lc_moveTo K C X hi h W0 hl hcb kk)
    · exact lv_tableIn (off := 2258) (tgt := 2298) hx hb dL_law_40 (by decide +kernel) (by decide +kernel) (by decide +kernel) (by decide) (lc_buyCandles K C X hi h W0 hl hcb kk)
    · exact lv_tableIn (off := 2314) (tgt := 2354) hx hb dL_law_40 (by decide +kernel) (by decide +kernel) (by decide +kernel) (by decide) (lc_bakeCakes K C X hi h W0 hl hcb kk)
    · exact lv_tableIn (off := 2382) (tgt := 2422) hx hb dL_law_40 (by decide +kernel) (by decide +kernel) (by decide +kernel) (by decide) (lc_restore K C X hi h W0 hl hcb kk)
    · exact lv_tableIn (off := 2438) (tgt := 2478) hx hb dL_law_40 (by decide +kernel) (by decide +kernel) (by decide +kernel) (by decide) (lc_undo K C X hi h W0 hl hcb kk)
    · exact lv_tableIn (off := 2482) (tgt := 2522) hx hb dL_law_40 (by decide +kernel) (by decide +kernel) (by decide +kernel) (by decide) (lc_save K C X hi h W0 hl hcb kk)
    · exact lv_tableIn (off := 2538) (tgt := 2578) hx hb dL_law_40 (by decide +kernel) (by decide +kernel) (by decide +kernel) (by decide) (lc_writeChild K C X hi h W0 hl hcb kk)
    · exact lv_tableIn (off := 2594) (tgt := 2634) hx hb dL_law_40 (by decide +kernel) (by decide +kernel) (by decide +kernel) (by decide) (lc_writeDate K C X hi h W0 hl hcb kk)
    · exact lv_tableIn (off := 2607) (tgt := 2647) hx hb dL_law_40 (by decide +kernel) (by decide +kernel) (by decide +kernel) (by decide) (lc_outputByte K C X hi h W0 hl hcb kk)
set_option maxHeartbeats 4000000 in
theorem law_loop {p : Program} {l : Launch} {e : Env} {s : State} {m : MethodId} {args : Array Value} {below : List Frame} {meth : Method} {c : Code} {R : State → Prop} {D : va_G} {Y : Nat → ClassId} {S V : Nat → Nat} {G Gm : Nat → Nat → Nat} {A : Nat → Prop} {cL : ClassId} {o : Nat} {b L : Nat} {xs : Nat → Int32} (K : zLS p l s m args c) (C : zLC D Y S V G Gm A cL o s) (X : zLX b L xs A s) (kend : ∀ (H : Heap) (locs : List Loc) (ls : Array Slot) (cells slots : Nat), cells ≤ 601024 → slots ≤ 7293034 → va_S A s.heap H locs → W p l e room_1 s m args below meth c H locs cells slots R (F0 m 2709 ls [])) :
    ∀ (n i : Nat) (T M : zT) (f : Nat → Int64) (H : Heap) (locs : List Loc) (ls : Array Slot) (cb sb : Nat), L ≤ i + 6 * n → i ≤ L + 6 → cb + 3 * n ≤ 601024 → sb + 18 * n ≤ 7293034 → zRel T M → zLW D Y G Gm A cL o f s T M H locs → lv_has ls 9 [(0, .ref b), (1, .ref (G 0 0)), (2, .ref (Gm 0 0)), (3, .ref o), (4, .int (nI i))] → W p l e room_1 s m args below meth c H locs cb sb R (F0 m 23 ls []) := by
  obtain ⟨hx, hb, -⟩ := id K
  obtain ⟨hX, hbl, hbA, hL⟩ := id X
  intro n
  induction n with
  | zero =>
    intro i T M f H locs ls cb sb h1 h2 h3 h4 hR W0 hl
    refine lv_iload hx hb dL_law_23 (lv_at hl 4 rfl) ?_
    refine lv_aload_n hx hb dL_law_25 rfl (lv_at hl 0 rfl) ?_
    refine va_slen hx hb hX hbl hbA W0.2.2.2 dL_law_26 ?_
    refine lv_bipush (v := 6) hx hb dL_law_27 (by decide) ?_
    refine lv_isub hx hb dL_law_29 ?_
    refine lv_icmp_gt (tgt := 2709) hx hb dL_law_30 (by decide) (fun _ => kend H locs ls cb sb (by omega) (by omega) W0.2.2.2) (fun hc => absurd ?_ hc)
    show nI L - nI 6 < nI i
    rw [Int32.lt_iff_toInt_lt, pk_sub_toInt (by omega) (by decide), nI_toInt (by omega)]
    omega
  | succ n ih =>
    intro i T M f H locs ls cb sb h1 h2 h3 h4 hR W0 hl
    refine lv_iload hx hb dL_law_23 (lv_at hl 4 rfl) ?_
    refine lv_aload_n hx hb dL_law_25 rfl (lv_at hl 0 rfl) ?_
    refine va_slen hx hb hX hbl hbA W0.2.2.2 dL_law_26 ?_
    refine lv_bipush (v := 6) hx hb dL_law_27 (by decide) ?_
    refine lv_isub hx hb dL_law_29 ?_
    refine lv_icmp_gt (tgt := 2709) hx hb dL_law_30 (by decide) (fun _ => kend H locs ls cb sb (by omega) (by omega) W0.2.2.2) (fun hc => ?_)
    have hc' : ¬ nI L - nI 6 < nI i := hc
    rw [Int32.lt_iff_toInt_lt, pk_sub_toInt (by omega) (by decide), nI_toInt (by omega)] at hc'
    have hi : i + 5 < L := by omega
    refine lv_aload_n hx hb dL_law_33 rfl (lv_at hl 0 rfl) ?_
    refine lv_iload hx hb dL_law_34 (lv_at hl 4 rfl) ?_
    have hin : vp_in (nI i) L := zin_i (of_eq_true (q_zt (by omega) (by omega)))
    refine va_sld hx hb hX hbl hbA W0.2.2.2 hin dL_law_36 ?_
    rw [nI_clamp (by omega)]
    refine lv_bipush (v := 63) hx hb dL_law_37 (by decide) ?_
    refine lv_iand hx hb dL_law_39 ?_
    refine law_disp K C X hi hR W0 hl ⟨by omega, by omega⟩ (fun T1 M1 f1 H1 locs1 ls1 hR1 W1 hl1 => ?_)
    refine lv_iinc (v := nI (i + 6)) (lv' := [(4, .int (nI (i + 6))), (0, .ref b), (1, .ref (G 0 0)), (2, .ref (Gm 0 0)), (3, .ref o)]) hx hb dL_law_2703 hl1 (k := 4) rfl (nI_add i 6) (by decide) rfl (fun ls hl => ?_)
    refine lv_goto (tgt := 23) hx hb dL_law_2706 (by decide) ?_
    exact ih (i + 6) T1 M1 f1 H1 locs1 ls _ _ (by omega) (by omega) (by omega) (by omega) hR1 W1 (lv_sub hl [1, 2, 3, 4, 0] rfl)
