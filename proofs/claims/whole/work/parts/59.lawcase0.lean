/-! THE LAW'S CASES, by program -/
set_option maxHeartbeats 4000000 in
set_option maxRecDepth 100000 in
theorem lc_append {p : Program} {l : Launch} {e : Env} {s : State} {m : MethodId} {args : Array Value} {below : List Frame} {meth : Method} {c : Code} {H : Heap} {locs : List Loc} {cb sb : Nat} {Q : State → Prop} {ls : Array Slot} {D : va_G} {Y : Nat → ClassId} {S V : Nat → Nat} {G Gm : Nat → Nat → Nat} {A : Nat → Prop} {cL : ClassId} {o : Nat} {f : Nat → Int64} {T M : zT} {b L i : Nat} {xs : Nat → Int32} (K : zLS p l s m args c) (C : zLC D Y S V G Gm A cL o s) (X : zLX b L xs A s) (hi : i + 5 < L) (h : zRel T M) (W0 : zLW D Y G Gm A cL o f s T M H locs) (hl : lv_has ls 9 [(0, .ref b), (1, .ref (G 0 0)), (2, .ref (Gm 0 0)), (3, .ref o), (4, .int (nI i))]) (hcb : cb + 3 ≤ 601024 ∧ sb + 18 ≤ 7293034)
    (kk : ∀ (T1 M1 : zT) (f1 : Nat → Int64) (H1 : Heap) (locs1 : List Loc) (ls1 : Array Slot), zRel T1 M1 → zLW D Y G Gm A cL o f1 s T1 M1 H1 locs1 → lv_has ls1 9 [(0, .ref b), (1, .ref (G 0 0)), (2, .ref (Gm 0 0)), (3, .ref o), (4, .int (nI i))] → W p l e room_1 s m args below meth c H1 locs1 (cb + 3) (sb + 18) Q (F0 m 2703 ls1 [])) : W p l e room_1 s m args below meth c H locs cb sb Q (F0 m 276 ls []) := by
  obtain ⟨hx, hb, -⟩ := id K
  obtain ⟨hcb1, hcb2⟩ := hcb
  refine lv_aload_n hx hb dL_law_276 rfl (lv_at hl 1 rfl) ?_
  refine lw_arg K X W0.2.2.2 hl 4 0 rfl rfl 1 (by omega) (by decide +kernel) dL_law_277 dL_law_278 dL_law_280 dL_law_281 dL_law_282 ?_
  refine lw_arg K X W0.2.2.2 hl 4 0 rfl rfl 2 (by omega) (by decide +kernel) dL_law_283 dL_law_284 dL_law_286 dL_law_287 dL_law_288 ?_
  refine lw_arg K X W0.2.2.2 hl 4 0 rfl rfl 3 (by omega) (by decide +kernel) dL_law_289 dL_law_290 dL_law_292 dL_law_293 dL_law_294 ?_
  refine lw_arg K X W0.2.2.2 hl 4 0 rfl rfl 4 (by omega) (by decide +kernel) dL_law_295 dL_law_296 dL_law_298 dL_law_299 dL_law_300 ?_
  refine lw_arg K X W0.2.2.2 hl 4 0 rfl rfl 5 (by omega) (by decide +kernel) dL_law_301 dL_law_302 dL_law_304 dL_law_305 dL_law_306 ?_
  refine lv_aload_n hx hb dL_law_307 rfl (lv_at hl 3 rfl) ?_
  obtain ⟨v, T', r, M', e1, e2, hR, hv, hz⟩ := zOpX.all (code := fun n => 1) (o_append h (xs (i + 1)) (xs (i + 2)) (xs (i + 3)) (xs (i + 4)) (xs (i + 5))) (fun x k hk => by simp at hk; obtain ⟨rfl, rfl⟩ := hk; decide +kernel)
  refine lw_C (As := [.ref (G 0 0), .int (xs (i + 1)), .int (xs (i + 2)), .int (xs (i + 3)), .int (xs (i + 4)), .int (xs (i + 5)), .ref o]) (rest := []) K C W0 kw_append m_649 (cw_append (xs (i + 1)) (xs (i + 2)) (xs (i + 3)) (xs (i + 4)) (xs (i + 5)) T T' v e1 (fun n hn => by obtain ⟨k, hk⟩ := hv n hn; simp at hk; omega)) rfl rfl hl.1 (Nat.le_of_ble_eq_true rfl) dL_law_308 (by decide) ⟨by omega, by omega⟩ rfl (fun H locs k f' hp W0 => ?_)
  refine lv_istore (lv' := [(5, .int k), (0, .ref b), (1, .ref (G 0 0)), (2, .ref (Gm 0 0)), (3, .ref o), (4, .int (nI i))]) hx hb dL_law_311 hl (by decide) rfl (fun ls hl => ?_)
  refine lv_aload_n hx hb dL_law_313 rfl (lv_at hl 3 rfl) ?_
  refine lw_arg K X W0.2.2.2 hl 5 1 rfl rfl 1 (by omega) (by decide +kernel) dL_law_314 dL_law_315 dL_law_317 dL_law_318 dL_law_319 ?_
  refine lw_arg K X W0.2.2.2 hl 5 1 rfl rfl 2 (by omega) (by decide +kernel) dL_law_320 dL_law_321 dL_law_323 dL_law_324 dL_law_325 ?_
  refine lw_arg K X W0.2.2.2 hl 5 1 rfl rfl 3 (by omega) (by decide +kernel) dL_law_326 dL_law_327 dL_law_329 dL_law_330 dL_law_331 ?_
  refine lw_arg K X W0.2.2.2 hl 5 1 rfl rfl 4 (by omega) (by decide +kernel) dL_law_332 dL_law_333 dL_law_335 dL_law_336 dL_law_337 ?_
  refine lw_arg K X W0.2.2.2 hl 5 1 rfl rfl 5 (by omega) (by decide +kernel) dL_law_338 dL_law_339 dL_law_341 dL_law_342 dL_law_343 ?_
  refine lw_M (As := [.int (xs (i + 1)), .int (xs (i + 2)), .int (xs (i + 3)), .int (xs (i + 4)), .int (xs (i + 5))]) (rest := []) K C W0 k_X4_append m_1218 (c_X4_append (xs (i + 1)) (xs (i + 2)) (xs (i + 3)) (xs (i + 4)) (xs (i + 5)) M M' r e2) rfl rfl rfl hl.1 (Nat.le_of_ble_eq_true rfl) dL_law_344 (by decide) ⟨by omega, by omega⟩ rfl (fun H locs W0 => ?_)
  refine lv_istore (lv' := [(6, .int r), (5, .int k), (0, .ref b), (1, .ref (G 0 0)), (2, .ref (Gm 0 0)), (3, .ref o), (4, .int (nI i))]) hx hb dL_law_347 hl (by decide) rfl (fun ls hl => ?_)
  refine W.widen (k := cb + 3) (n := sb + 18) (by omega) (by omega) ?_
  exact lw_tail K C W0 hl 4 5 1 0 rfl rfl rfl rfl hp hz ⟨by omega, by omega⟩ dL_law_349 dL_law_350 dL_law_353 dL_law_355 dL_law_360 dL_law_362 dL_law_365 dL_law_366 dL_law_367 dL_law_368 dL_law_370 dL_law_371 dL_law_372 dL_law_377 (by decide) (fun H1 locs1 W1 => kk T' M' f' H1 locs1 ls hR W1 (lv_sub hl [2, 3, 4, 5, 6] rfl))
set_option maxHeartbeats 4000000 in
set_option maxRecDepth 100000 in
theorem lc_load {p : Program} {l : Launch} {e : Env} {s : State} {m : MethodId} {args : Array Value} {below : List Frame} {meth : Method} {c : Code} {H : Heap} {locs : List Loc} {cb sb : Nat} {Q : State → Prop} {ls : Array Slot} {D : va_G} {Y : Nat → ClassId} {S V : Nat → Nat} {G Gm : Nat → Nat → Nat} {A : Nat → Prop} {cL : ClassId} {o : Nat} {f : Nat → Int64} {T M : zT} {b L i : Nat} {xs : Nat → Int32} (K : zLS p l s m args c) (C : zLC D Y S V G Gm A cL o s) (X : zLX b L xs A s) (hi : i + 5 < L) (h : zRel T M) (W0 : zLW D Y G Gm A cL o f s T M H locs) (hl : lv_has ls 9 [(0, .ref b), (1, .ref (G 0 0)), (2, .ref (Gm 0 0)), (3, .ref o), (4, .int (nI i))]) (hcb : cb + 3 ≤ 601024 ∧ sb + 18 ≤ 7293034)
    (kk : ∀ (T1 M1 : zT) (f1 : Nat → Int64) (H1 : Heap) (locs1 : List Loc) (ls1 : Array Slot), zRel T1 M1 → zLW D Y G Gm A cL o f1 s T1 M1 H1 locs1 → lv_has ls1 9 [(0, .ref b), (1, .ref (G 0 0)), (2, .ref (Gm 0 0)), (3, .ref o), (4, .int (nI i))] → W p l e room_1 s m args below meth c H1 locs1 (cb + 3) (sb + 18) Q (F0 m 2703 ls1 [])) : W p l e room_1 s m args below meth c H locs cb sb Q (F0 m 380 ls []) := by
  obtain ⟨hx, hb, -⟩ := id K
  obtain ⟨hcb1, hcb2⟩ := hcb
  refine lv_aload_n hx hb dL_law_380 rfl (lv_at hl 1 rfl) ?_
  refine lw_arg K X W0.2.2.2 hl 4 0 rfl rfl 1 (by omega) (by decide +kernel) dL_law_381 dL_law_382 dL_law_384 dL_law_385 dL_law_386 ?_
  refine lv_aload_n hx hb dL_law_387 rfl (lv_at hl 3 rfl) ?_
  obtain ⟨v, T', r, M', e1, e2, hR, hv, hz⟩ := zOpX.all (code := fun n => if n = 2 then 1 else 2) (o_load h (xs (i + 1))) (fun x k hk => by simp at hk; rcases hk with ⟨rfl, rfl⟩ | ⟨rfl, rfl⟩ <;> decide +kernel)
  refine lw_C (As := [.ref (G 0 0), .int (xs (i + 1)), .ref o]) (rest := []) K C W0 kw_load m_728 (cw_load (xs (i + 1)) T T' v e1 (fun n hn => by obtain ⟨k, hk⟩ := hv n hn; simp at hk; omega)) rfl rfl hl.1 (Nat.le_of_ble_eq_true rfl) dL_law_388 (by decide) ⟨by omega, by omega⟩ rfl (fun H locs k f' hp W0 => ?_)
  refine lv_istore (lv' := [(5, .int k), (0, .ref b), (1, .ref (G 0 0)), (2, .ref (Gm 0 0)), (3, .ref o), (4, .int (nI i))]) hx hb dL_law_391 hl (by decide) rfl (fun ls hl => ?_)
  refine lv_aload_n hx hb dL_law_393 rfl (lv_at hl 3 rfl) ?_
  refine lw_arg K X W0.2.2.2 hl 5 1 rfl rfl 1 (by omega) (by decide +kernel) dL_law_394 dL_law_395 dL_law_397 dL_law_398 dL_law_399 ?_
  refine lw_M (As := [.int (xs (i + 1))]) (rest := []) K C W0 k_X4_load m_1234 (c_X4_load (xs (i + 1)) M M' r e2) rfl rfl rfl hl.1 (Nat.le_of_ble_eq_true rfl) dL_law_400 (by decide) ⟨by omega, by omega⟩ rfl (fun H locs W0 => ?_)
  refine lv_istore (lv' := [(6, .int r), (5, .int k), (0, .ref b), (1, .ref (G 0 0)), (2, .ref (Gm 0 0)), (3, .ref o), (4, .int (nI i))]) hx hb dL_law_403 hl (by decide) rfl (fun ls hl => ?_)
  refine W.widen (k := cb + 3) (n := sb + 18) (by omega) (by omega) ?_
  exact lw_tail K C W0 hl 4 5 1 0 rfl rfl rfl rfl hp hz ⟨by omega, by omega⟩ dL_law_405 dL_law_406 dL_law_409 dL_law_411 dL_law_416 dL_law_418 dL_law_421 dL_law_422 dL_law_423 dL_law_424 dL_law_426 dL_law_427 dL_law_428 dL_law_433 (by decide) (fun H1 locs1 W1 => kk T' M' f' H1 locs1 ls hR W1 (lv_sub hl [2, 3, 4, 5, 6] rfl))
set_option maxHeartbeats 4000000 in
set_option maxRecDepth 100000 in
theorem lc_errorKind {p : Program} {l : Launch} {e : Env} {s : State} {m : MethodId} {args : Array Value} {below : List Frame} {meth : Method} {c : Code} {H : Heap} {locs : List Loc} {cb sb : Nat} {Q : State → Prop} {ls : Array Slot} {D : va_G} {Y : Nat → ClassId} {S V : Nat → Nat} {G Gm : Nat → Nat → Nat} {A : Nat → Prop} {cL : ClassId} {o : Nat} {f : Nat → Int64} {T M : zT} {b L i : Nat} {xs : Nat → Int32} (K : zLS p l s m args c) (C : zLC D Y S V G Gm A cL o s) (X : zLX b L xs A s) (hi : i + 5 < L) (h : zRel T M) (W0 : zLW D Y G Gm A cL o f s T M H locs) (hl : lv_has ls 9 [(0, .ref b), (1, .ref (G 0 0)), (2, .ref (Gm 0 0)), (3, .ref o), (4, .int (nI i))]) (hcb : cb + 3 ≤ 601024 ∧ sb + 18 ≤ 7293034)
    (kk : ∀ (T1 M1 : zT) (f1 : Nat → Int64) (H1 : Heap) (locs1 : List Loc) (ls1 : Array Slot), zRel T1 M1 → zLW D Y G Gm A cL o f1 s T1 M1 H1 locs1 → lv_has ls1 9 [(0, .ref b), (1, .ref (G 0 0)), (2, .ref (Gm 0 0)), (3, .ref o), (4, .int (nI i))] → W p l e room_1 s m args below meth c H1 locs1 (cb + 3) (sb + 18) Q (F0 m 2703 ls1 [])) : W p l e room_1 s m args below meth c H locs cb sb Q (F0 m 436 ls []) := by
  obtain ⟨hx, hb, -⟩ := id K
  obtain ⟨hcb1, hcb2⟩ := hcb
  obtain ⟨v, T', M', e1, e2, hR⟩ := o_errorKind h
  refine lv_aload_n hx hb dL_law_436 rfl (lv_at hl 1 rfl) ?_
  refine lw_X (As := []) (rest := []) K C W0 k_X3_errorKind m_528 (c_X3_errorKind T T' v e1) rfl rfl rfl hl.1 (Nat.le_of_ble_eq_true rfl) dL_law_437 (by decide) ⟨by omega, by omega⟩ rfl (fun H locs W0 => ?_)
  refine lv_aload_n hx hb dL_law_440 rfl (lv_at hl 2 rfl) ?_
  refine lw_M (As := []) (rest := [.int v]) K C W0 k_X4_errorKind m_1331 (c_X4_errorKind M M' v e2) rfl rfl rfl hl.1 (Nat.le_of_ble_eq_true rfl) dL_law_441 (by decide) ⟨by omega, by omega⟩ rfl (fun H locs W0 => ?_)
  refine lv_icmp_eq (tgt := 2703) hx hb dL_law_444 (by decide) (fun _ => ?_) (fun hc => absurd rfl hc)
  refine W.widen (k := cb + 3) (n := sb + 18) (by omega) (by omega) ?_
  exact kk T' M' f H locs ls hR W0 hl
set_option maxHeartbeats 4000000 in
set_option maxRecDepth 100000 in
theorem lc_errorOffset {p : Program} {l : Launch} {e : Env} {s : State} {m : MethodId} {args : Array Value} {below : List Frame} {meth : Method} {c : Code} {H : Heap} {locs : List Loc} {cb sb : Nat} {Q : State → Prop} {ls : Array Slot} {D : va_G} {Y : Nat → ClassId} {S V : Nat → Nat} {G Gm : Nat → Nat → Nat} {A : Nat → Prop} {cL : ClassId} {o : Nat} {f : Nat → Int64} {T M : zT} {b L i : Nat} {xs : Nat → Int32} (K : zLS p l s m args c) (C : zLC D Y S V G Gm A cL o s) (X : zLX b L xs A s) (hi : i + 5 < L) (h : zRel T M) (W0 : zLW D Y G Gm A cL o f s T M H locs) (hl : lv_has ls 9 [(0, .ref b), (1, .ref (G 0 0)), (2, .ref (Gm 0 0)), (3, .ref o), (4, .int (nI i))]) (hcb : cb + 3 ≤ 601024 ∧ sb + 18 ≤ 7293034)
    (kk : ∀ (T1 M1 : zT) (f1 : Nat → Int64) (H1 : Heap) (locs1 : List Loc) (ls1 : Array Slot), zRel T1 M1 → zLW D Y G Gm A cL o f1 s T1 M1 H1 locs1 → lv_has ls1 9 [(0, .ref b), (1, .ref (G 0 0)), (2, .ref (Gm 0 0)), (3, .ref o), (4, .int (nI i))] → W p l e room_1 s m args below meth c H1 locs1 (cb + 3) (sb + 18) Q (F0 m 2703 ls1 [])) : W p l e room_1 s m args below meth c H locs cb sb Q (F0 m 449 ls []) := by
  obtain ⟨hx, hb, -⟩ := id K
  obtain ⟨hcb1, hcb2⟩ := hcb
  obtain ⟨v, T', M', e1, e2, hR⟩ := o_errorOffset h
  refine lv_aload_n hx hb dL_law_449 rfl (lv_at hl 1 rfl) ?_
  refine lw_X (As := []) (rest := []) K C W0 k_X3_errorOffset m_532 (c_X3_errorOffset T T' v e1) rfl rfl rfl hl.1 (Nat.le_of_ble_eq_true rfl) dL_law_450 (by decide) ⟨by omega, by omega⟩ rfl (fun H locs W0 => ?_)
  refine lv_aload_n hx hb dL_law_453 rfl (lv_at hl 2 rfl) ?_
  refine lw_M (As := []) (rest := [.int v]) K C W0 k_X4_errorOffset m_1335 (c_X4_errorOffset M M' v e2) rfl rfl rfl hl.1 (Nat.le_of_ble_eq_true rfl) dL_law_454 (by decide) ⟨by omega, by omega⟩ rfl (fun H locs W0 => ?_)
  refine lv_icmp_eq (tgt := 2703) hx hb dL_law_457 (by decide) (fun _ => ?_) (fun hc => absurd rfl hc)
  refine W.widen (k := cb + 3) (n := sb + 18) (by omega) (by omega) ?_
  exact kk T' M' f H locs ls hR W0 hl
set_option maxHeartbeats 4000000 in
set_option maxRecDepth 100000 in
theorem lc_year {p : Program} {l : Launch} {e : Env} {s : State} {m : MethodId} {args : Array Value} {below : List Frame} {meth : Method} {c : Code} {H : Heap} {locs : List Loc} {cb sb : Nat} {Q : State → Prop} {ls : Array Slot} {D : va_G} {Y : Nat → ClassId} {S V : Nat → Nat} {G Gm : Nat → Nat → Nat} {A : Nat → Prop} {cL : ClassId} {o : Nat} {f : Nat → Int64} {T M : zT} {b L i : Nat} {xs : Nat → Int32} (K : zLS p l s m args c) (C : zLC D Y S V G Gm A cL o s) (X : zLX b L xs A s) (hi : i + 5 < L) (h : zRel T M) (W0 : zLW D Y G Gm A cL o f s T M H locs) (hl : lv_has ls 9 [(0, .ref b), (1, .ref (G 0 0)), (2, .ref (Gm 0 0)), (3, .ref o), (4, .int (nI i))]) (hcb : cb + 3 ≤ 601024 ∧ sb + 18 ≤ 7293034)
    (kk : ∀ (T1 M1 : zT) (f1 : Nat → Int64) (H1 : Heap) (locs1 : List Loc) (ls1 : Array Slot), zRel T1 M1 → zLW D Y G Gm A cL o f1 s T1 M1 H1 locs1 → lv_has ls1 9 [(0, .ref b), (1, .ref (G 0 0)), (2, .ref (Gm 0 0)), (3, .ref o), (4, .int (nI i))] → W p l e room_1 s m args below meth c H1 locs1 (cb + 3) (sb + 18) Q (F0 m 2703 ls1 [])) : W p l e room_1 s m args below meth c H locs cb sb Q (F0 m 462 ls []) := by
  obtain ⟨hx, hb, -⟩ := id K
  obtain ⟨hcb1, hcb2⟩ := hcb
  obtain ⟨v, T', M', e1, e2, hR⟩ := o_year h
  refine lv_aload_n hx hb dL_law_462 rfl (lv_at hl 1 rfl) ?_
  refine lw_X (As := []) (rest := []) K C W0 k_X3_year m_536 (c_X3_year T T' v e1) rfl rfl rfl hl.1 (Nat.le_of_ble_eq_true rfl) dL_law_463 (by decide) ⟨by omega, by omega⟩ rfl (fun H locs W0 => ?_)
  refine lv_aload_n hx hb dL_law_466 rfl (lv_at hl 2 rfl) ?_
  refine lw_M (As := []) (rest := [.int v]) K C W0 k_X4_year m_1339 (c_X4_year M M' v e2) rfl rfl rfl hl.1 (Nat.le_of_ble_eq_true rfl) dL_law_467 (by decide) ⟨by omega, by omega⟩ rfl (fun H locs W0 => ?_)
  refine lv_icmp_eq (tgt := 2703) hx hb dL_law_470 (by decide) (fun _ => ?_) (fun hc => absurd rfl hc)
  refine W.widen (k := cb + 3) (n := sb + 18) (by omega) (by omega) ?_
  exact kk T' M' f H locs ls hR W0 hl
set_option maxHeartbeats 4000000 in
set_option maxRecDepth 100000 in
theorem lc_month {p : Program} {l : Launch} {e : Env} {s : State} {m : MethodId} {args : Array Value} {below : List Frame} {meth : Method} {c : Code} {H : Heap} {locs : List Loc} {cb sb : Nat} {Q : State → Prop} {ls : Array Slot} {D : va_G} {Y : Nat → ClassId} {S V : Nat → Nat} {G Gm : Nat → Nat → Nat} {A : Nat → Prop} {cL : ClassId} {o : Nat} {f : Nat → Int64} {T M : zT} {b L i : Nat} {xs : Nat → Int32} (K : zLS p l s m args c) (C : zLC D Y S V G Gm A cL o s) (X : zLX b L xs A s) (hi : i + 5 < L) (h : zRel T M) (W0 : zLW D Y G Gm A cL o f s T M H locs) (hl : lv_has ls 9 [(0, .ref b), (1, .ref (G 0 0)), (2, .ref (Gm 0 0)), (3, .ref o), (4, .int (nI i))]) (hcb : cb + 3 ≤ 601024 ∧ sb + 18 ≤ 7293034)
    (kk : ∀ (T1 M1 : zT) (f1 : Nat → Int64) (H1 : Heap) (locs1 : List Loc) (ls1 : Array Slot), zRel T1 M1 → zLW D Y G Gm A cL o f1 s T1 M1 H1 locs1 → lv_has ls1 9 [(0, .ref b), (1, .ref (G 0 0)), (2, .ref (Gm 0 0)), (3, .ref o), (4, .int (nI i))] → W p l e room_1 s m args below meth c H1 locs1 (cb + 3) (sb + 18) Q (F0 m 2703 ls1 [])) : W p l e room_1 s m args below meth c H locs cb sb Q (F0 m 475 ls []) := by
  obtain ⟨hx, hb, -⟩ := id K
  obtain ⟨hcb1, hcb2⟩ := hcb
  obtain ⟨v, T', M', e1, e2, hR⟩ := o_month h
  refine lv_aload_n hx hb dL_law_475 rfl (lv_at hl 1 rfl) ?_
  refine lw_X (As := []) (rest := []) K C W0 k_X3_month m_540 (c_X3_month T T' v e1) rfl rfl rfl hl.1 (Nat.le_of_ble_eq_true rfl) dL_law_476 (by decide) ⟨by omega, by omega⟩ rfl (fun H locs W0 => ?_)
  refine lv_aload_n hx hb dL_law_479 rfl (lv_at hl 2 rfl) ?_
  refine lw_M (As := []) (rest := [.int v]) K C W0 k_X4_month m_1343 (c_X4_month M M' v e2) rfl rfl rfl hl.1 (Nat.le_of_ble_eq_true rfl) dL_law_480 (by decide) ⟨by omega, by omega⟩ rfl (fun H locs W0 => ?_)
  refine lv_icmp_eq (tgt := 2703) hx hb dL_law_483 (by decide) (fun _ => ?_) (fun hc => absurd rfl hc)
  refine W.widen (k := cb + 3) (n := sb + 18) (by omega) (by omega) ?_
  exact kk T' M' f H locs ls hR W0 hl
set_option maxHeartbeats 4000000 in
set_option maxRecDepth 100000 in
theorem lc_dayOfMonth {p : Program} {l : Launch} {e : Env} {s : State} {m : MethodId} {args : Array Value} {below : List Frame} {meth : Method} {c : Code} {H : Heap} {locs : List Loc} {cb sb : Nat} {Q : State → Prop} {ls : Array Slot} {D : va_G} {Y : Nat → ClassId} {S V : Nat → Nat} {G Gm : Nat → Nat → Nat} {A : Nat → Prop} {cL : ClassId} {o : Nat} {f : Nat → Int64} {T M : zT} {b L i : Nat} {xs : Nat → Int32} (K : zLS p l s m args c) (C : zLC D Y S V G Gm A cL o s) (X : zLX b L xs A s) (hi : i + 5 < L) (h : zRel T M) (W0 : zLW D Y G Gm A cL o f s T M H locs) (hl : lv_has ls 9 [(0, .ref b), (1, .ref (G 0 0)), (2, .ref (Gm 0 0)), (3, .ref o), (4, .int (nI i))]) (hcb : cb + 3 ≤ 601024 ∧ sb + 18 ≤ 7293034)
    (kk : ∀ (T1 M1 : zT) (f1 : Nat → Int64) (H1 : Heap) (locs1 : List Loc) (ls1 : Array Slot), zRel T1 M1 → zLW D Y G Gm A cL o f1 s T1 M1 H1 locs1 → lv_has ls1 9 [(0, .ref b), (1, .ref (G 0 0)), (2, .ref (Gm 0 0)), (3, .ref o), (4, .int (nI i))] → W p l e room_1 s m args below meth c H1 locs1 (cb + 3) (sb + 18) Q (F0 m 2703 ls1 [])) : W p l e room_1 s m args below meth c H locs cb sb Q (F0 m 488 ls []) := by
  obtain ⟨hx, hb, -⟩ := id K
  obtain ⟨hcb1, hcb2⟩ := hcb
  obtain ⟨v, T', M', e1, e2, hR⟩ := o_dayOfMonth h
  refine lv_aload_n hx hb dL_law_488 rfl (lv_at hl 1 rfl) ?_
  refine lw_X (As := []) (rest := []) K C W0 k_X3_dayOfMonth m_547 (c_X3_dayOfMonth T T' v e1) rfl rfl rfl hl.1 (Nat.le_of_ble_eq_true rfl) dL_law_489 (by decide) ⟨by omega, by omega⟩ rfl (fun H locs W0 => ?_)
  refine lv_aload_n hx hb dL_law_492 rfl (lv_at hl 2 rfl) ?_
  refine lw_M (As := []) (rest := [.int v]) K C W0 k_X4_dayOfMonth m_1347 (c_X4_dayOfMonth M M' v e2) rfl rfl rfl hl.1 (Nat.le_of_ble_eq_true rfl) dL_law_493 (by decide) ⟨by omega, by omega⟩ rfl (fun H locs W0 => ?_)
  refine lv_icmp_eq (tgt := 2703) hx hb dL_law_496 (by decide) (fun _ => ?_) (fun hc => absurd rfl hc)
  refine W.widen (k := cb + 3) (n := sb + 18) (by omega) (by omega) ?_
  exact kk T' M' f H locs ls hR W0 hl
set_option maxHeartbeats 4000000 in
set_option maxRecDepth 100000 in
theorem lc_seed {p : Program} {l : Launch} {e : Env} {s : State} {m : MethodId} {args : Array Value} {below : List Frame} {meth : Method} {c : Code} {H : Heap} {locs : List Loc} {cb sb : Nat} {Q : State → Prop} {ls : Array Slot} {D : va_G} {Y : Nat → ClassId} {S V : Nat → Nat} {G Gm : Nat → Nat → Nat} {A : Nat → Prop} {cL : ClassId} {o : Nat} {f : Nat → Int64} {T M : zT} {b L i : Nat} {xs : Nat → Int32} (K : zLS p l s m args c) (C : zLC D Y S V G Gm A cL o s) (X : zLX b L xs A s) (hi : i + 5 < L) (h : zRel T M) (W0 : zLW D Y G Gm A cL o f s T M H locs) (hl : lv_has ls 9 [(0, .ref b), (1, .ref (G 0 0)), (2, .ref (Gm 0 0)), (3, .ref o), (4, .int (nI i))]) (hcb : cb + 3 ≤ 601024 ∧ sb + 18 ≤ 7293034)
    (kk : ∀ (T1 M1 : zT) (f1 : Nat → Int64) (H1 : Heap) (locs1 : List Loc) (ls1 : Array Slot), zRel T1 M1 → zLW D Y G Gm A cL o f1 s T1 M1 H1 locs1 → lv_has ls1 9 [(0, .ref b), (1, .ref (G 0 0)), (2, .ref (Gm 0 0)), (3, .ref o), (4, .int (nI i))] → W p l e room_1 s m args below meth c H1 locs1 (cb + 3) (sb + 18) Q (F0 m 2703 ls1 [])) : W p l e room_1 s m args below meth c H locs cb sb Q (F0 m 501 ls []) := by
  obtain ⟨hx, hb, -⟩ := id K
  obtain ⟨hcb1, hcb2⟩ := hcb
  obtain ⟨v, T', M', e1, e2, hR⟩ := o_seed h
  refine lv_aload_n hx hb dL_law_501 rfl (lv_at hl 1 rfl) ?_
  refine lw_X (As := []) (rest := []) K C W0 k_X3_seed m_554 (c_X3_seed T T' v e1) rfl rfl rfl hl.1 (Nat.le_of_ble_eq_true rfl) dL_law_502 (by decide) ⟨by omega, by omega⟩ rfl (fun H locs W0 => ?_)
  refine lv_aload_n hx hb dL_law_505 rfl (lv_at hl 2 rfl) ?_
  refine lw_M (As := []) (rest := [.int v]) K C W0 k_X4_seed m_1351 (c_X4_seed M M' v e2) rfl rfl rfl hl.1 (Nat.le_of_ble_eq_true rfl) dL_law_506 (by decide) ⟨by omega, by omega⟩ rfl (fun H locs W0 => ?_)
  refine lv_icmp_eq (tgt := 2703) hx hb dL_law_509 (by decide) (fun _ => ?_) (fun hc => absurd rfl hc)
  refine W.widen (k := cb + 3) (n := sb + 18) (by omega) (by omega) ?_
  exact kk T' M' f H locs ls hR W0 hl
set_option maxHeartbeats 4000000 in
set_option maxRecDepth 100000 in
theorem lc_nextDraw {p : Program} {l : Launch} {e : Env} {s : State} {m : MethodId} {args : Array Value} {below : List Frame} {meth : Method} {c : Code} {H : Heap} {locs : List Loc} {cb sb : Nat} {Q : State → Prop} {ls : Array Slot} {D : va_G} {Y : Nat → ClassId} {S V : Nat → Nat} {G Gm : Nat → Nat → Nat} {A : Nat → Prop} {cL : ClassId} {o : Nat} {f : Nat → Int64} {T M : zT} {b L i : Nat} {xs : Nat → Int32} (K : zLS p l s m args c) (C : zLC D Y S V G Gm A cL o s) (X : zLX b L xs A s) (hi : i + 5 < L) (h : zRel T M) (W0 : zLW D Y G Gm A cL o f s T M H locs) (hl : lv_has ls 9 [(0, .ref b), (1, .ref (G 0 0)), (2, .ref (Gm 0 0)), (3, .ref o), (4, .int (nI i))]) (hcb : cb + 3 ≤ 601024 ∧ sb + 18 ≤ 7293034)
    (kk : ∀ (T1 M1 : zT) (f1 : Nat → Int64) (H1 : Heap) (locs1 : List Loc) (ls1 : Array Slot), zRel T1 M1 → zLW D Y G Gm A cL o f1 s T1 M1 H1 locs1 → lv_has ls1 9 [(0, .ref b), (1, .ref (G 0 0)), (2, .ref (Gm 0 0)), (3, .ref o), (4, .int (nI i))] → W p l e room_1 s m args below meth c H1 locs1 (cb + 3) (sb + 18) Q (F0 m 2703 ls1 [])) : W p l e room_1 s m args below meth c H locs cb sb Q (F0 m 514 ls []) := by
  obtain ⟨hx, hb, -⟩ := id K
  obtain ⟨hcb1, hcb2⟩ := hcb
  obtain ⟨v, T', M', e1, e2, hR⟩ := o_nextDraw h
  refine lv_aload_n hx hb dL_law_514 rfl (lv_at hl 1 rfl) ?_
  refine lw_X (As := []) (rest := []) K C W0 k_X3_nextDraw m_558 (c_X3_nextDraw T T' v e1) rfl rfl rfl hl.1 (Nat.le_of_ble_eq_true rfl) dL_law_515 (by decide) ⟨by omega, by omega⟩ rfl (fun H locs W0 => ?_)
  refine lv_aload_n hx hb dL_law_518 rfl (lv_at hl 2 rfl) ?_
  refine lw_M (As := []) (rest := [.int v]) K C W0 k_X4_nextDraw m_1355 (c_X4_nextDraw M M' v e2) rfl rfl rfl hl.1 (Nat.le_of_ble_eq_true rfl) dL_law_519 (by decide) ⟨by omega, by omega⟩ rfl (fun H locs W0 => ?_)
  refine lv_icmp_eq (tgt := 2703) hx hb dL_law_522 (by decide) (fun _ => ?_) (fun hc => absurd rfl hc)
  refine W.widen (k := cb + 3) (n := sb + 18) (by omega) (by omega) ?_
  exact kk T' M' f H locs ls hR W0 hl
set_option maxHeartbeats 4000000 in
set_option maxRecDepth 100000 in
theorem lc_candles {p : Program} {l : Launch} {e : Env} {s : State} {m : MethodId} {args : Array Value} {below : List Frame} {meth : Method} {c : Code} {H : Heap} {locs : List Loc} {cb sb : Nat} {Q : State → Prop} {ls : Array Slot} {D : va_G} {Y : Nat → ClassId} {S V : Nat → Nat} {G Gm : Nat → Nat → Nat} {A : Nat → Prop} {cL : ClassId} {o : Nat} {f : Nat → Int64} {T M : zT} {b L i : Nat} {xs : Nat → Int32} (K : zLS p l s m args c) (C : zLC D Y S V G Gm A cL o s) (X : zLX b L xs A s) (hi : i + 5 < L) (h : zRel T M) (W0 : zLW D Y G Gm A cL o f s T M H locs) (hl : lv_has ls 9 [(0, .ref b), (1, .ref (G 0 0)), (2, .ref (Gm 0 0)), (3, .ref o), (4, .int (nI i))]) (hcb : cb + 3 ≤ 601024 ∧ sb + 18 ≤ 7293034)
    (kk : ∀ (T1 M1 : zT) (f1 : Nat → Int64) (H1 : Heap) (locs1 : List Loc) (ls1 : Array Slot), zRel T1 M1 → zLW D Y G Gm A cL o f1 s T1 M1 H1 locs1 → lv_has ls1 9 [(0, .ref b), (1, .ref (G 0 0)), (2, .ref (Gm 0 0)), (3, .ref o), (4, .int (nI i))] → W p l e room_1 s m args below meth c H1 locs1 (cb + 3) (sb + 18) Q (F0 m 2703 ls1 [])) : W p l e room_1 s m args below meth c H locs cb sb Q (F0 m 527 ls []) := by
  obtain ⟨hx, hb, -⟩ := id K
  obtain ⟨hcb1, hcb2⟩ := hcb
  obtain ⟨v, T', M', e1, e2, hR⟩ := o_candles h
  refine lv_aload_n hx hb dL_law_527 rfl (lv_at hl 1 rfl) ?_
  refine lw_X (As := []) (rest := []) K C W0 k_X3_candles m_563 (c_X3_candles T T' v e1) rfl rfl rfl hl.1 (Nat.le_of_ble_eq_true rfl) dL_law_528 (by decide) ⟨by omega, by omega⟩ rfl (fun H locs W0 => ?_)
  refine lv_aload_n hx hb dL_law_531 rfl (lv_at hl 2 rfl) ?_
  refine lw_M (As := []) (rest := [.int v]) K C W0 k_X4_candles m_1359 (c_X4_candles M M' v e2) rfl rfl rfl hl.1 (Nat.le_of_ble_eq_true rfl) dL_law_532 (by decide) ⟨by omega, by omega⟩ rfl (fun H locs W0 => ?_)
  refine lv_icmp_eq (tgt := 2703) hx hb dL_law_535 (by decide) (fun _ => ?_) (fun hc => absurd rfl hc)
  refine W.widen (k := cb + 3) (n := sb + 18) (by omega) (by omega) ?_
  exact kk T' M' f H locs ls hR W0 hl
set_option maxHeartbeats 4000000 in
set_option maxRecDepth 100000 in
theorem lc_cakes {p : Program} {l : Launch} {e : Env} {s : State} {m : MethodId} {args : Array Value} {below : List Frame} {meth : Method} {c : Code} {H : Heap} {locs : List Loc} {cb sb : Nat} {Q : State → Prop} {ls : Array Slot} {D : va_G} {Y : Nat → ClassId} {S V : Nat → Nat} {G Gm : Nat → Nat → Nat} {A : Nat → Prop} {cL : ClassId} {o : Nat} {f : Nat → Int64} {T M : zT} {b L i : Nat} {xs : Nat → Int32} (K : zLS p l s m args c) (C : zLC D Y S V G Gm A cL o s) (X : zLX b L xs A s) (hi : i + 5 < L) (h : zRel T M) (W0 : zLW D Y G Gm A cL o f s T M H locs) (hl : lv_has ls 9 [(0, .ref b), (1, .ref (G 0 0)), (2, .ref (Gm 0 0)), (3, .ref o), (4, .int (nI i))]) (hcb : cb + 3 ≤ 601024 ∧ sb + 18 ≤ 7293034)
    (kk : ∀ (T1 M1 : zT) (f1 : Nat → Int64) (H1 : Heap) (locs1 : List Loc) (ls1 : Array Slot), zRel T1 M1 → zLW D Y G Gm A cL o f1 s T1 M1 H1 locs1 → lv_has ls1 9 [(0, .ref b), (1, .ref (G 0 0)), (2, .ref (Gm 0 0)), (3, .ref o), (4, .int (nI i))] → W p l e room_1 s m args below meth c H1 locs1 (cb + 3) (sb + 18) Q (F0 m 2703 ls1 [])) : W p l e room_1 s m args below meth c H locs cb sb Q (F0 m 540 ls []) := by
  obtain ⟨hx, hb, -⟩ := id K
  obtain ⟨hcb1, hcb2⟩ := hcb
  refine lv_aload_n hx hb dL_law_540 rfl (lv_at hl 1 rfl) ?_
  refine lw_arg K X W0.2.2.2 hl 4 0 rfl rfl 1 (by omega) (by decide +kernel) dL_law_541 dL_law_542 dL_law_544 dL_law_545 dL_law_546 ?_
  refine lv_aload_n hx hb dL_law_547 rfl (lv_at hl 3 rfl) ?_
  obtain ⟨v, T', r, M', e1, e2, hR, hv, hz⟩ := zOpX.all (code := fun n => 1) (o_cakes h (xs (i + 1))) (fun x k hk => by simp at hk; obtain ⟨rfl, rfl⟩ := hk; decide +kernel)
  refine lw_C (As := [.ref (G 0 0), .int (xs (i + 1)), .ref o]) (rest := []) K C W0 kw_cakes m_773 (cw_cakes (xs (i + 1)) T T' v e1 (fun n hn => by obtain ⟨k, hk⟩ := hv n hn; simp at hk; omega)) rfl rfl hl.1 (Nat.le_of_ble_eq_true rfl) dL_law_548 (by decide) ⟨by omega, by omega⟩ rfl (fun H locs k f' hp W0 => ?_)
  refine lv_istore (lv' := [(5, .int k), (0, .ref b), (1, .ref (G 0 0)), (2, .ref (Gm 0 0)), (3, .ref o), (4, .int (nI i))]) hx hb dL_law_551 hl (by decide) rfl (fun ls hl => ?_)
  refine lv_aload_n hx hb dL_law_553 rfl (lv_at hl 3 rfl) ?_
  refine lw_arg K X W0.2.2.2 hl 5 1 rfl rfl 1 (by omega) (by decide +kernel) dL_law_554 dL_law_555 dL_law_557 dL_law_558 dL_law_559 ?_
  refine lw_M (As := [.int (xs (i + 1))]) (rest := []) K C W0 k_X4_cakes m_1363 (c_X4_cakes (xs (i + 1)) M M' r e2) rfl rfl rfl hl.1 (Nat.le_of_ble_eq_true rfl) dL_law_560 (by decide) ⟨by omega, by omega⟩ rfl (fun H locs W0 => ?_)
  refine lv_istore (lv' := [(6, .int r), (5, .int k), (0, .ref b), (1, .ref (G 0 0)), (2, .ref (Gm 0 0)), (3, .ref o), (4, .int (nI i))]) hx hb dL_law_563 hl (by decide) rfl (fun ls hl => ?_)
  refine W.widen (k := cb + 3) (n := sb + 18) (by omega) (by omega) ?_
  exact lw_tail K C W0 hl 4 5 1 0 rfl rfl rfl rfl hp hz ⟨by omega, by omega⟩ dL_law_565 dL_law_566 dL_law_569 dL_law_571 dL_law_576 dL_law_578 dL_law_581 dL_law_582 dL_law_583 dL_law_584 dL_law_586 dL_law_587 dL_law_588 dL_law_593 (by decide) (fun H1 locs1 W1 => kk T' M' f' H1 locs1 ls hR W1 (lv_sub hl [2, 3, 4, 5, 6] rfl))
set_option maxHeartbeats 4000000 in
set_option maxRecDepth 100000 in
theorem lc_mostWantedCake {p : Program} {l : Launch} {e : Env} {s : State} {m : MethodId} {args : Array Value} {below : List Frame} {meth : Method} {c : Code} {H : Heap} {locs : List Loc} {cb sb : Nat} {Q : State → Prop} {ls : Array Slot} {D : va_G} {Y : Nat → ClassId} {S V : Nat → Nat} {G Gm : Nat → Nat → Nat} {A : Nat → Prop} {cL : ClassId} {o : Nat} {f : Nat → Int64} {T M : zT} {b L i : Nat} {xs : Nat → Int32} (K : zLS p l s m args c) (C : zLC D Y S V G Gm A cL o s) (X : zLX b L xs A s) (hi : i + 5 < L) (h : zRel T M) (W0 : zLW D Y G Gm A cL o f s T M H locs) (hl : lv_has ls 9 [(0, .ref b), (1, .ref (G 0 0)), (2, .ref (Gm 0 0)), (3, .ref o), (4, .int (nI i))]) (hcb : cb + 3 ≤ 601024 ∧ sb + 18 ≤ 7293034)
    (kk : ∀ (T1 M1 : zT) (f1 : Nat → Int64) (H1 : Heap) (locs1 : List Loc) (ls1 : Array Slot), zRel T1 M1 → zLW D Y G Gm A cL o f1 s T1 M1 H1 locs1 → lv_has ls1 9 [(0, .ref b), (1, .ref (G 0 0)), (2, .ref (Gm 0 0)), (3, .ref o), (4, .int (nI i))] → W p l e room_1 s m args below meth c H1 locs1 (cb + 3) (sb + 18) Q (F0 m 2703 ls1 [])) : W p l e room_1 s m args below meth c H locs cb sb Q (F0 m 596 ls []) := by
  obtain ⟨hx, hb, -⟩ := id K
  obtain ⟨hcb1, hcb2⟩ := hcb
  obtain ⟨v, T', M', e1, e2, hR⟩ := o_mostWantedCake h
  refine lv_aload_n hx hb dL_law_596 rfl (lv_at hl 1 rfl) ?_
  refine lw_X (As := []) (rest := []) K C W0 k_X3_mostWantedCake m_567 (c_X3_mostWantedCake T T' v e1) rfl rfl rfl hl.1 (Nat.le_of_ble_eq_true rfl) dL_law_597 (by decide) ⟨by omega, by omega⟩ rfl (fun H locs W0 => ?_)
  refine lv_aload_n hx hb dL_law_600 rfl (lv_at hl 2 rfl) ?_
  refine lw_M (As := []) (rest := [.int v]) K C W0 k_X4_mostWantedCake m_1367 (c_X4_mostWantedCake M M' v e2) rfl rfl rfl hl.1 (Nat.le_of_ble_eq_true rfl) dL_law_601 (by decide) ⟨by omega, by omega⟩ rfl (fun H locs W0 => ?_)
  refine lv_icmp_eq (tgt := 2703) hx hb dL_law_604 (by decide) (fun _ => ?_) (fun hc => absurd rfl hc)
  refine W.widen (k := cb + 3) (n := sb + 18) (by omega) (by omega) ?_
  exact kk T' M' f H locs ls hR W0 hl
set_option maxHeartbeats 4000000 in
set_option maxRecDepth 100000 in
theorem lc_gardenCount {p : Program} {l : Launch} {e : Env} {s : State} {m : MethodId} {args : Array Value} {below : List Frame} {meth : Method} {c : Code} {H : Heap} {locs : List Loc} {cb sb : Nat} {Q : State → Prop} {ls : Array Slot} {D : va_G} {Y : Nat → ClassId} {S V : Nat → Nat} {G Gm : Nat → Nat → Nat} {A : Nat → Prop} {cL : ClassId} {o : Nat} {f : Nat → Int64} {T M : zT} {b L i : Nat} {xs : Nat → Int32} (K : zLS p l s m args c) (C : zLC D Y S V G Gm A cL o s) (X : zLX b L xs A s) (hi : i + 5 < L) (h : zRel T M) (W0 : zLW D Y G Gm A cL o f s T M H locs) (hl : lv_has ls 9 [(0, .ref b), (1, .ref (G 0 0)), (2, .ref (Gm 0 0)), (3, .ref o), (4, .int (nI i))]) (hcb : cb + 3 ≤ 601024 ∧ sb + 18 ≤ 7293034)
    (kk : ∀ (T1 M1 : zT) (f1 : Nat → Int64) (H1 : Heap) (locs1 : List Loc) (ls1 : Array Slot), zRel T1 M1 → zLW D Y G Gm A cL o f1 s T1 M1 H1 locs1 → lv_has ls1 9 [(0, .ref b), (1, .ref (G 0 0)), (2, .ref (Gm 0 0)), (3, .ref o), (4, .int (nI i))] → W p l e room_1 s m args below meth c H1 locs1 (cb + 3) (sb + 18) Q (F0 m 2703 ls1 [])) : W p l e room_1 s m args below meth c H locs cb sb Q (F0 m 609 ls []) := by
  obtain ⟨hx, hb, -⟩ := id K
  obtain ⟨hcb1, hcb2⟩ := hcb
  obtain ⟨v, T', M', e1, e2, hR⟩ := o_gardenCount h
  refine lv_aload_n hx hb dL_law_609 rfl (lv_at hl 1 rfl) ?_
  refine lw_X (As := []) (rest := []) K C W0 k_X3_gardenCount m_572 (c_X3_gardenCount T T' v e1) rfl rfl rfl hl.1 (Nat.le_of_ble_eq_true rfl) dL_law_610 (by decide) ⟨by omega, by omega⟩ rfl (fun H locs W0 => ?_)
  refine lv_aload_n hx hb dL_law_613 rfl (lv_at hl 2 rfl) ?_
  refine lw_M (As := []) (rest := [.int v]) K C W0 k_X4_gardenCount m_1371 (c_X4_gardenCount M M' v e2) rfl rfl rfl hl.1 (Nat.le_of_ble_eq_true rfl) dL_law_614 (by decide) ⟨by omega, by omega⟩ rfl (fun H locs W0 => ?_)
  refine lv_icmp_eq (tgt := 2703) hx hb dL_law_617 (by decide) (fun _ => ?_) (fun hc => absurd rfl hc)
  refine W.widen (k := cb + 3) (n := sb + 18) (by omega) (by omega) ?_
  exact kk T' M' f H locs ls hR W0 hl
set_option maxHeartbeats 4000000 in
set_option maxRecDepth 100000 in
theorem lc_seatsOf {p : Program} {l : Launch} {e : Env} {s : State} {m : MethodId} {args : Array Value} {below : List Frame} {meth : Method} {c : Code} {H : Heap} {locs : List Loc} {cb sb : Nat} {Q : State → Prop} {ls : Array Slot} {D : va_G} {Y : Nat → ClassId} {S V : Nat → Nat} {G Gm : Nat → Nat → Nat} {A : Nat → Prop} {cL : ClassId} {o : Nat} {f : Nat → Int64} {T M : zT} {b L i : Nat} {xs : Nat → Int32} (K : zLS p l s m args c) (C : zLC D Y S V G Gm A cL o s) (X : zLX b L xs A s) (hi : i + 5 < L) (h : zRel T M) (W0 : zLW D Y G Gm A cL o f s T M H locs) (hl : lv_has ls 9 [(0, .ref b), (1, .ref (G 0 0)), (2, .ref (Gm 0 0)), (3, .ref o), (4, .int (nI i))]) (hcb : cb + 3 ≤ 601024 ∧ sb + 18 ≤ 7293034)
    (kk : ∀ (T1 M1 : zT) (f1 : Nat → Int64) (H1 : Heap) (locs1 : List Loc) (ls1 : Array Slot), zRel T1 M1 → zLW D Y G Gm A cL o f1 s T1 M1 H1 locs1 → lv_has ls1 9 [(0, .ref b), (1, .ref (G 0 0)), (2, .ref (Gm 0 0)), (3, .ref o), (4, .int (nI i))] → W p l e room_1 s m args below meth c H1 locs1 (cb + 3) (sb + 18) Q (F0 m 2703 ls1 [])) : W p l e room_1 s m args below meth c H locs cb sb Q (F0 m 622 ls []) := by
  obtain ⟨hx, hb, -⟩ := id K
  obtain ⟨hcb1, hcb2⟩ := hcb
  refine lv_aload_n hx hb dL_law_622 rfl (lv_at hl 1 rfl) ?_
  refine lw_arg K X W0.2.2.2 hl 4 0 rfl rfl 1 (by omega) (by decide +kernel) dL_law_623 dL_law_624 dL_law_626 dL_law_627 dL_law_628 ?_
  refine lv_aload_n hx hb dL_law_629 rfl (lv_at hl 3 rfl) ?_
  obtain ⟨v, T', r, M', e1, e2, hR, hv, hz⟩ := zOpX.all (code := fun n => 1) (o_seatsOf h (xs (i + 1))) (fun x k hk => by simp at hk; obtain ⟨rfl, rfl⟩ := hk; decide +kernel)
  refine lw_C (As := [.ref (G 0 0), .int (xs (i + 1)), .ref o]) (rest := []) K C W0 kw_seatsOf m_784 (cw_seatsOf (xs (i + 1)) T T' v e1 (fun n hn => by obtain ⟨k, hk⟩ := hv n hn; simp at hk; omega)) rfl rfl hl.1 (Nat.le_of_ble_eq_true rfl) dL_law_630 (by decide) ⟨by omega, by omega⟩ rfl (fun H locs k f' hp W0 => ?_)
  refine lv_istore (lv' := [(5, .int k), (0, .ref b), (1, .ref (G 0 0)), (2, .ref (Gm 0 0)), (3, .ref o), (4, .int (nI i))]) hx hb dL_law_633 hl (by decide) rfl (fun ls hl => ?_)
  refine lv_aload_n hx hb dL_law_635 rfl (lv_at hl 3 rfl) ?_
  refine lw_arg K X W0.2.2.2 hl 5 1 rfl rfl 1 (by omega) (by decide +kernel) dL_law_636 dL_law_637 dL_law_639 dL_law_640 dL_law_641 ?_
  refine lw_M (As := [.int (xs (i + 1))]) (rest := []) K C W0 k_X4_seatsOf m_1375 (c_X4_seatsOf (xs (i + 1)) M M' r e2) rfl rfl rfl hl.1 (Nat.le_of_ble_eq_true rfl) dL_law_642 (by decide) ⟨by omega, by omega⟩ rfl (fun H locs W0 => ?_)
  refine lv_istore (lv' := [(6, .int r), (5, .int k), (0, .ref b), (1, .ref (G 0 0)), (2, .ref (Gm 0 0)), (3, .ref o), (4, .int (nI i))]) hx hb dL_law_645 hl (by decide) rfl (fun ls hl => ?_)
  refine W.widen (k := cb + 3) (n := sb + 18) (by omega) (by omega) ?_
  exact lw_tail K C W0 hl 4 5 1 0 rfl rfl rfl rfl hp hz ⟨by omega, by omega⟩ dL_law_647 dL_law_648 dL_law_651 dL_law_653 dL_law_658 dL_law_660 dL_law_663 dL_law_664 dL_law_665 dL_law_666 dL_law_668 dL_law_669 dL_law_670 dL_law_675 (by decide) (fun H1 locs1 W1 => kk T' M' f' H1 locs1 ls hR W1 (lv_sub hl [2, 3, 4, 5, 6] rfl))
set_option maxHeartbeats 4000000 in
set_option maxRecDepth 100000 in
theorem lc_childrenOf {p : Program} {l : Launch} {e : Env} {s : State} {m : MethodId} {args : Array Value} {below : List Frame} {meth : Method} {c : Code} {H : Heap} {locs : List Loc} {cb sb : Nat} {Q : State → Prop} {ls : Array Slot} {D : va_G} {Y : Nat → ClassId} {S V : Nat → Nat} {G Gm : Nat → Nat → Nat} {A : Nat → Prop} {cL : ClassId} {o : Nat} {f : Nat → Int64} {T M : zT} {b L i : Nat} {xs : Nat → Int32} (K : zLS p l s m args c) (C : zLC D Y S V G Gm A cL o s) (X : zLX b L xs A s) (hi : i + 5 < L) (h : zRel T M) (W0 : zLW D Y G Gm A cL o f s T M H locs) (hl : lv_has ls 9 [(0, .ref b), (1, .ref (G 0 0)), (2, .ref (Gm 0 0)), (3, .ref o), (4, .int (nI i))]) (hcb : cb + 3 ≤ 601024 ∧ sb + 18 ≤ 7293034)
    (kk : ∀ (T1 M1 : zT) (f1 : Nat → Int64) (H1 : Heap) (locs1 : List Loc) (ls1 : Array Slot), zRel T1 M1 → zLW D Y G Gm A cL o f1 s T1 M1 H1 locs1 → lv_has ls1 9 [(0, .ref b), (1, .ref (G 0 0)), (2, .ref (Gm 0 0)), (3, .ref o), (4, .int (nI i))] → W p l e room_1 s m args below meth c H1 locs1 (cb + 3) (sb + 18) Q (F0 m 2703 ls1 [])) : W p l e room_1 s m args below meth c H locs cb sb Q (F0 m 678 ls []) := by
  obtain ⟨hx, hb, -⟩ := id K
  obtain ⟨hcb1, hcb2⟩ := hcb
  refine lv_aload_n hx hb dL_law_678 rfl (lv_at hl 1 rfl) ?_
  refine lw_arg K X W0.2.2.2 hl 4 0 rfl rfl 1 (by omega) (by decide +kernel) dL_law_679 dL_law_680 dL_law_682 dL_law_683 dL_law_684 ?_
  refine lv_aload_n hx hb dL_law_685 rfl (lv_at hl 3 rfl) ?_
  obtain ⟨v, T', r, M', e1, e2, hR, hv, hz⟩ := zOpX.all (code := fun n => 1) (o_childrenOf h (xs (i + 1))) (fun x k hk => by simp at hk; obtain ⟨rfl, rfl⟩ := hk; decide +kernel)
  refine lw_C (As := [.ref (G 0 0), .int (xs (i + 1)), .ref o]) (rest := []) K C W0 kw_childrenOf m_796 (cw_childrenOf (xs (i + 1)) T T' v e1 (fun n hn => by obtain ⟨k, hk⟩ := hv n hn; simp at hk; omega)) rfl rfl hl.1 (Nat.le_of_ble_eq_true rfl) dL_law_686 (by decide) ⟨by omega, by omega⟩ rfl (fun H locs k f' hp W0 => ?_)
  refine lv_istore (lv' := [(5, .int k), (0, .ref b), (1, .ref (G 0 0)), (2, .ref (Gm 0 0)), (3, .ref o), (4, .int (nI i))]) hx hb dL_law_689 hl (by decide) rfl (fun ls hl => ?_)
  refine lv_aload_n hx hb dL_law_691 rfl (lv_at hl 3 rfl) ?_
  refine lw_arg K X W0.2.2.2 hl 5 1 rfl rfl 1 (by omega) (by decide +kernel) dL_law_692 dL_law_693 dL_law_695 dL_law_696 dL_law_697 ?_
  refine lw_M (As := [.int (xs (i + 1))]) (rest := []) K C W0 k_X4_childrenOf m_1383 (c_X4_childrenOf (xs (i + 1)) M M' r e2) rfl rfl rfl hl.1 (Nat.le_of_ble_eq_true rfl) dL_law_698 (by decide) ⟨by omega, by omega⟩ rfl (fun H locs W0 => ?_)
  refine lv_istore (lv' := [(6, .int r), (5, .int k), (0, .ref b), (1, .ref (G 0 0)), (2, .ref (Gm 0 0)), (3, .ref o), (4, .int (nI i))]) hx hb dL_law_701 hl (by decide) rfl (fun ls hl => ?_)
  refine W.widen (k := cb + 3) (n := sb + 18) (by omega) (by omega) ?_
  exact lw_tail K C W0 hl 4 5 1 0 rfl rfl rfl rfl hp hz ⟨by omega, by omega⟩ dL_law_703 dL_law_704 dL_law_707 dL_law_709 dL_law_714 dL_law_716 dL_law_719 dL_law_720 dL_law_721 dL_law_722 dL_law_724 dL_law_725 dL_law_726 dL_law_731 (by decide) (fun H1 locs1 W1 => kk T' M' f' H1 locs1 ls hR W1 (lv_sub hl [2, 3, 4, 5, 6] rfl))
set_option maxHeartbeats 4000000 in
set_option maxRecDepth 100000 in
theorem lc_partyIn {p : Program} {l : Launch} {e : Env} {s : State} {m : MethodId} {args : Array Value} {below : List Frame} {meth : Method} {c : Code} {H : Heap} {locs : List Loc} {cb sb : Nat} {Q : State → Prop} {ls : Array Slot} {D : va_G} {Y : Nat → ClassId} {S V : Nat → Nat} {G Gm : Nat → Nat → Nat} {A : Nat → Prop} {cL : ClassId} {o : Nat} {f : Nat → Int64} {T M : zT} {b L i : Nat} {xs : Nat → Int32} (K : zLS p l s m args c) (C : zLC D Y S V G Gm A cL o s) (X : zLX b L xs A s) (hi : i + 5 < L) (h : zRel T M) (W0 : zLW D Y G Gm A cL o f s T M H locs) (hl : lv_has ls 9 [(0, .ref b), (1, .ref (G 0 0)), (2, .ref (Gm 0 0)), (3, .ref o), (4, .int (nI i))]) (hcb : cb + 3 ≤ 601024 ∧ sb + 18 ≤ 7293034)
    (kk : ∀ (T1 M1 : zT) (f1 : Nat → Int64) (H1 : Heap) (locs1 : List Loc) (ls1 : Array Slot), zRel T1 M1 → zLW D Y G Gm A cL o f1 s T1 M1 H1 locs1 → lv_has ls1 9 [(0, .ref b), (1, .ref (G 0 0)), (2, .ref (Gm 0 0)), (3, .ref o), (4, .int (nI i))] → W p l e room_1 s m args below meth c H1 locs1 (cb + 3) (sb + 18) Q (F0 m 2703 ls1 [])) : W p l e room_1 s m args below meth c H locs cb sb Q (F0 m 734 ls []) := by
  obtain ⟨hx, hb, -⟩ := id K
  obtain ⟨hcb1, hcb2⟩ := hcb
  refine lv_aload_n hx hb dL_law_734 rfl (lv_at hl 1 rfl) ?_
  refine lw_arg K X W0.2.2.2 hl 4 0 rfl rfl 1 (by omega) (by decide +kernel) dL_law_735 dL_law_736 dL_law_738 dL_law_739 dL_law_740 ?_
  refine lw_arg K X W0.2.2.2 hl 4 0 rfl rfl 2 (by omega) (by decide +kernel) dL_law_741 dL_law_742 dL_law_744 dL_law_745 dL_law_746 ?_
  refine lw_arg K X W0.2.2.2 hl 4 0 rfl rfl 3 (by omega) (by decide +kernel) dL_law_747 dL_law_748 dL_law_750 dL_law_751 dL_law_752 ?_
  refine lv_aload_n hx hb dL_law_753 rfl (lv_at hl 3 rfl) ?_
  obtain ⟨v, T', r, M', e1, e2, hR, hv, hz⟩ := zOpX.all (code := fun n => if n = 2 then 1 else 2) (o_partyIn h (xs (i + 1)) (xs (i + 2)) (xs (i + 3))) (fun x k hk => by simp at hk; rcases hk with ⟨rfl, rfl⟩ | ⟨rfl, rfl⟩ <;> decide +kernel)
  refine lw_C (As := [.ref (G 0 0), .int (xs (i + 1)), .int (xs (i + 2)), .int (xs (i + 3)), .ref o]) (rest := []) K C W0 kw_partyIn m_804 (cw_partyIn (xs (i + 1)) (xs (i + 2)) (xs (i + 3)) T T' v e1 (fun n hn => by obtain ⟨k, hk⟩ := hv n hn; simp at hk; omega)) rfl rfl hl.1 (Nat.le_of_ble_eq_true rfl) dL_law_754 (by decide) ⟨by omega, by omega⟩ rfl (fun H locs k f' hp W0 => ?_)
  refine lv_istore (lv' := [(5, .int k), (0, .ref b), (1, .ref (G 0 0)), (2, .ref (Gm 0 0)), (3, .ref o), (4, .int (nI i))]) hx hb dL_law_757 hl (by decide) rfl (fun ls hl => ?_)
  refine lv_aload_n hx hb dL_law_759 rfl (lv_at hl 3 rfl) ?_
  refine lw_arg K X W0.2.2.2 hl 5 1 rfl rfl 1 (by omega) (by decide +kernel) dL_law_760 dL_law_761 dL_law_763 dL_law_764 dL_law_765 ?_
  refine lw_arg K X W0.2.2.2 hl 5 1 rfl rfl 2 (by omega) (by decide +kernel) dL_law_766 dL_law_767 dL_law_769 dL_law_770 dL_law_771 ?_
  refine lw_arg K X W0.2.2.2 hl 5 1 rfl rfl 3 (by omega) (by decide +kernel) dL_law_772 dL_law_773 dL_law_775 dL_law_776 dL_law_777 ?_
  refine lw_M (As := [.int (xs (i + 1)), .int (xs (i + 2)), .int (xs (i + 3))]) (rest := []) K C W0 k_X4_partyIn m_1387 (c_X4_partyIn (xs (i + 1)) (xs (i + 2)) (xs (i + 3)) M M' r e2) rfl rfl rfl hl.1 (Nat.le_of_ble_eq_true rfl) dL_law_778 (by decide) ⟨by omega, by omega⟩ rfl (fun H locs W0 => ?_)
  refine lv_istore (lv' := [(6, .int r), (5, .int k), (0, .ref b), (1, .ref (G 0 0)), (2, .ref (Gm 0 0)), (3, .ref o), (4, .int (nI i))]) hx hb dL_law_781 hl (by decide) rfl (fun ls hl => ?_)
  refine W.widen (k := cb + 3) (n := sb + 18) (by omega) (by omega) ?_
  exact lw_tail K C W0 hl 4 5 1 0 rfl rfl rfl rfl hp hz ⟨by omega, by omega⟩ dL_law_783 dL_law_784 dL_law_787 dL_law_789 dL_law_794 dL_law_796 dL_law_799 dL_law_800 dL_law_801 dL_law_802 dL_law_804 dL_law_805 dL_law_806 dL_law_811 (by decide) (fun H1 locs1 W1 => kk T' M' f' H1 locs1 ls hR W1 (lv_sub hl [2, 3, 4, 5, 6] rfl))
set_option maxHeartbeats 4000000 in
set_option maxRecDepth 100000 in
theorem lc_childCount {p : Program} {l : Launch} {e : Env} {s : State} {m : MethodId} {args : Array Value} {below : List Frame} {meth : Method} {c : Code} {H : Heap} {locs : List Loc} {cb sb : Nat} {Q : State → Prop} {ls : Array Slot} {D : va_G} {Y : Nat → ClassId} {S V : Nat → Nat} {G Gm : Nat → Nat → Nat} {A : Nat → Prop} {cL : ClassId} {o : Nat} {f : Nat → Int64} {T M : zT} {b L i : Nat} {xs : Nat → Int32} (K : zLS p l s m args c) (C : zLC D Y S V G Gm A cL o s) (X : zLX b L xs A s) (hi : i + 5 < L) (h : zRel T M) (W0 : zLW D Y G Gm A cL o f s T M H locs) (hl : lv_has ls 9 [(0, .ref b), (1, .ref (G 0 0)), (2, .ref (Gm 0 0)), (3, .ref o), (4, .int (nI i))]) (hcb : cb + 3 ≤ 601024 ∧ sb + 18 ≤ 7293034)
    (kk : ∀ (T1 M1 : zT) (f1 : Nat → Int64) (H1 : Heap) (locs1 : List Loc) (ls1 : Array Slot), zRel T1 M1 → zLW D Y G Gm A cL o f1 s T1 M1 H1 locs1 → lv_has ls1 9 [(0, .ref b), (1, .ref (G 0 0)), (2, .ref (Gm 0 0)), (3, .ref o), (4, .int (nI i))] → W p l e room_1 s m args below meth c H1 locs1 (cb + 3) (sb + 18) Q (F0 m 2703 ls1 [])) : W p l e room_1 s m args below meth c H locs cb sb Q (F0 m 814 ls []) := by
  obtain ⟨hx, hb, -⟩ := id K
  obtain ⟨hcb1, hcb2⟩ := hcb
  obtain ⟨v, T', M', e1, e2, hR⟩ := o_childCount h
  refine lv_aload_n hx hb dL_law_814 rfl (lv_at hl 1 rfl) ?_
  refine lw_X (As := []) (rest := []) K C W0 k_X3_childCount m_576 (c_X3_childCount T T' v e1) rfl rfl rfl hl.1 (Nat.le_of_ble_eq_true rfl) dL_law_815 (by decide) ⟨by omega, by omega⟩ rfl (fun H locs W0 => ?_)
  refine lv_aload_n hx hb dL_law_818 rfl (lv_at hl 2 rfl) ?_
  refine lw_M (As := []) (rest := [.int v]) K C W0 k_X4_childCount m_1398 (c_X4_childCount M M' v e2) rfl rfl rfl hl.1 (Nat.le_of_ble_eq_true rfl) dL_law_819 (by decide) ⟨by omega, by omega⟩ rfl (fun H locs W0 => ?_)
  refine lv_icmp_eq (tgt := 2703) hx hb dL_law_822 (by decide) (fun _ => ?_) (fun hc => absurd rfl hc)
  refine W.widen (k := cb + 3) (n := sb + 18) (by omega) (by omega) ?_
  exact kk T' M' f H locs ls hR W0 hl
set_option maxHeartbeats 4000000 in
set_option maxRecDepth 100000 in
theorem lc_cakeOf {p : Program} {l : Launch} {e : Env} {s : State} {m : MethodId} {args : Array Value} {below : List Frame} {meth : Method} {c : Code} {H : Heap} {locs : List Loc} {cb sb : Nat} {Q : State → Prop} {ls : Array Slot} {D : va_G} {Y : Nat → ClassId} {S V : Nat → Nat} {G Gm : Nat → Nat → Nat} {A : Nat → Prop} {cL : ClassId} {o : Nat} {f : Nat → Int64} {T M : zT} {b L i : Nat} {xs : Nat → Int32} (K : zLS p l s m args c) (C : zLC D Y S V G Gm A cL o s) (X : zLX b L xs A s) (hi : i + 5 < L) (h : zRel T M) (W0 : zLW D Y G Gm A cL o f s T M H locs) (hl : lv_has ls 9 [(0, .ref b), (1, .ref (G 0 0)), (2, .ref (Gm 0 0)), (3, .ref o), (4, .int (nI i))]) (hcb : cb + 3 ≤ 601024 ∧ sb + 18 ≤ 7293034)
    (kk : ∀ (T1 M1 : zT) (f1 : Nat → Int64) (H1 : Heap) (locs1 : List Loc) (ls1 : Array Slot), zRel T1 M1 → zLW D Y G Gm A cL o f1 s T1 M1 H1 locs1 → lv_has ls1 9 [(0, .ref b), (1, .ref (G 0 0)), (2, .ref (Gm 0 0)), (3, .ref o), (4, .int (nI i))] → W p l e room_1 s m args below meth c H1 locs1 (cb + 3) (sb + 18) Q (F0 m 2703 ls1 [])) : W p l e room_1 s m args below meth c H locs cb sb Q (F0 m 827 ls []) := by
  obtain ⟨hx, hb, -⟩ := id K
  obtain ⟨hcb1, hcb2⟩ := hcb
  refine lv_aload_n hx hb dL_law_827 rfl (lv_at hl 1 rfl) ?_
  refine lw_arg K X W0.2.2.2 hl 4 0 rfl rfl 1 (by omega) (by decide +kernel) dL_law_828 dL_law_829 dL_law_831 dL_law_832 dL_law_833 ?_
  refine lv_aload_n hx hb dL_law_834 rfl (lv_at hl 3 rfl) ?_
  obtain ⟨v, T', r, M', e1, e2, hR, hv, hz⟩ := zOpX.all (code := fun n => 1) (o_cakeOf h (xs (i + 1))) (fun x k hk => by simp at hk; obtain ⟨rfl, rfl⟩ := hk; decide +kernel)
  refine lw_C (As := [.ref (G 0 0), .int (xs (i + 1)), .ref o]) (rest := []) K C W0 kw_cakeOf m_816 (cw_cakeOf (xs (i + 1)) T T' v e1 (fun n hn => by obtain ⟨k, hk⟩ := hv n hn; simp at hk; omega)) rfl rfl hl.1 (Nat.le_of_ble_eq_true rfl) dL_law_835 (by decide) ⟨by omega, by omega⟩ rfl (fun H locs k f' hp W0 => ?_)
  refine lv_istore (lv' := [(5, .int k), (0, .ref b), (1, .ref (G 0 0)), (2, .ref (Gm 0 0)), (3, .ref o), (4, .int (nI i))]) hx hb dL_law_838 hl (by decide) rfl (fun ls hl => ?_)
  refine lv_aload_n hx hb dL_law_840 rfl (lv_at hl 3 rfl) ?_
  refine lw_arg K X W0.2.2.2 hl 5 1 rfl rfl 1 (by omega) (by decide +kernel) dL_law_841 dL_law_842 dL_law_844 dL_law_845 dL_law_846 ?_
  refine lw_M (As := [.int (xs (i + 1))]) (rest := []) K C W0 k_X4_cakeOf m_1402 (c_X4_cakeOf (xs (i + 1)) M M' r e2) rfl rfl rfl hl.1 (Nat.le_of_ble_eq_true rfl) dL_law_847 (by decide) ⟨by omega, by omega⟩ rfl (fun H locs W0 => ?_)
  refine lv_istore (lv' := [(6, .int r), (5, .int k), (0, .ref b), (1, .ref (G 0 0)), (2, .ref (Gm 0 0)), (3, .ref o), (4, .int (nI i))]) hx hb dL_law_850 hl (by decide) rfl (fun ls hl => ?_)
  refine W.widen (k := cb + 3) (n := sb + 18) (by omega) (by omega) ?_
  exact lw_tail K C W0 hl 4 5 1 0 rfl rfl rfl rfl hp hz ⟨by omega, by omega⟩ dL_law_852 dL_law_853 dL_law_856 dL_law_858 dL_law_863 dL_law_865 dL_law_868 dL_law_869 dL_law_870 dL_law_871 dL_law_873 dL_law_874 dL_law_875 dL_law_880 (by decide) (fun H1 locs1 W1 => kk T' M' f' H1 locs1 ls hR W1 (lv_sub hl [2, 3, 4, 5, 6] rfl))
set_option maxHeartbeats 4000000 in
set_option maxRecDepth 100000 in
theorem lc_breathOf {p : Program} {l : Launch} {e : Env} {s : State} {m : MethodId} {args : Array Value} {below : List Frame} {meth : Method} {c : Code} {H : Heap} {locs : List Loc} {cb sb : Nat} {Q : State → Prop} {ls : Array Slot} {D : va_G} {Y : Nat → ClassId} {S V : Nat → Nat} {G Gm : Nat → Nat → Nat} {A : Nat → Prop} {cL : ClassId} {o : Nat} {f : Nat → Int64} {T M : zT} {b L i : Nat} {xs : Nat → Int32} (K : zLS p l s m args c) (C : zLC D Y S V G Gm A cL o s) (X : zLX b L xs A s) (hi : i + 5 < L) (h : zRel T M) (W0 : zLW D Y G Gm A cL o f s T M H locs) (hl : lv_has ls 9 [(0, .ref b), (1, .ref (G 0 0)), (2, .ref (Gm 0 0)), (3, .ref o), (4, .int (nI i))]) (hcb : cb + 3 ≤ 601024 ∧ sb + 18 ≤ 7293034)
    (kk : ∀ (T1 M1 : zT) (f1 : Nat → Int64) (H1 : Heap) (locs1 : List Loc) (ls1 : Array Slot), zRel T1 M1 → zLW D Y G Gm A cL o f1 s T1 M1 H1 locs1 → lv_has ls1 9 [(0, .ref b), (1, .ref (G 0 0)), (2, .ref (Gm 0 0)), (3, .ref o), (4, .int (nI i))] → W p l e room_1 s m args below meth c H1 locs1 (cb + 3) (sb + 18) Q (F0 m 2703 ls1 [])) : W p l e room_1 s m args below meth c H locs cb sb Q (F0 m 883 ls []) := by
  obtain ⟨hx, hb, -⟩ := id K
  obtain ⟨hcb1, hcb2⟩ := hcb
  refine lv_aload_n hx hb dL_law_883 rfl (lv_at hl 1 rfl) ?_
  refine lw_arg K X W0.2.2.2 hl 4 0 rfl rfl 1 (by omega) (by decide +kernel) dL_law_884 dL_law_885 dL_law_887 dL_law_888 dL_law_889 ?_
  refine lv_aload_n hx hb dL_law_890 rfl (lv_at hl 3 rfl) ?_
  obtain ⟨v, T', r, M', e1, e2, hR, hv, hz⟩ := zOpX.all (code := fun n => 1) (o_breathOf h (xs (i + 1))) (fun x k hk => by simp at hk; obtain ⟨rfl, rfl⟩ := hk; decide +kernel)
  refine lw_C (As := [.ref (G 0 0), .int (xs (i + 1)), .ref o]) (rest := []) K C W0 kw_breathOf m_828 (cw_breathOf (xs (i + 1)) T T' v e1 (fun n hn => by obtain ⟨k, hk⟩ := hv n hn; simp at hk; omega)) rfl rfl hl.1 (Nat.le_of_ble_eq_true rfl) dL_law_891 (by decide) ⟨by omega, by omega⟩ rfl (fun H locs k f' hp W0 => ?_)
  refine lv_istore (lv' := [(5, .int k), (0, .ref b), (1, .ref (G 0 0)), (2, .ref (Gm 0 0)), (3, .ref o), (4, .int (nI i))]) hx hb dL_law_894 hl (by decide) rfl (fun ls hl => ?_)
  refine lv_aload_n hx hb dL_law_896 rfl (lv_at hl 3 rfl) ?_
  refine lw_arg K X W0.2.2.2 hl 5 1 rfl rfl 1 (by omega) (by decide +kernel) dL_law_897 dL_law_898 dL_law_900 dL_law_901 dL_law_902 ?_
  refine lw_M (As := [.int (xs (i + 1))]) (rest := []) K C W0 k_X4_breathOf m_1414 (c_X4_breathOf (xs (i + 1)) M M' r e2) rfl rfl rfl hl.1 (Nat.le_of_ble_eq_true rfl) dL_law_903 (by decide) ⟨by omega, by omega⟩ rfl (fun H locs W0 => ?_)
  refine lv_istore (lv' := [(6, .int r), (5, .int k), (0, .ref b), (1, .ref (G 0 0)), (2, .ref (Gm 0 0)), (3, .ref o), (4, .int (nI i))]) hx hb dL_law_906 hl (by decide) rfl (fun ls hl => ?_)
  refine W.widen (k := cb + 3) (n := sb + 18) (by omega) (by omega) ?_
  exact lw_tail K C W0 hl 4 5 1 0 rfl rfl rfl rfl hp hz ⟨by omega, by omega⟩ dL_law_908 dL_law_909 dL_law_912 dL_law_914 dL_law_919 dL_law_921 dL_law_924 dL_law_925 dL_law_926 dL_law_927 dL_law_929 dL_law_930 dL_law_931 dL_law_936 (by decide) (fun H1 locs1 W1 => kk T' M' f' H1 locs1 ls hR W1 (lv_sub hl [2, 3, 4, 5, 6] rfl))
