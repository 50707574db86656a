/-! THE LAW'S CASES, by program -/
set_option maxHeartbeats 4000000 in
set_option maxRecDepth 100000 in
theorem lc_clashes {p : Program} {l : Launch} {e : Env} {s : State} {m : MethodId} {args : Array Value} {below : List Frame} {meth : Method} {c : Code} {H : Heap} {locs : List Loc} {cb sb : Nat} {Q : State → Prop} {ls : Array Slot} {D : va_G} {Y : Nat → ClassId} {S V : Nat → Nat} {G Gm : Nat → Nat → Nat} {A : Nat → Prop} {cL : ClassId} {o : Nat} {f : Nat → Int64} {T M : zT} {b L i : Nat} {xs : Nat → Int32} (K : zLS p l s m args c) (C : zLC D Y S V G Gm A cL o s) (X : zLX b L xs A s) (hi : i + 5 < L) (h : zRel T M) (W0 : zLW D Y G Gm A cL o f s T M H locs) (hl : lv_has ls 9 [(0, .ref b), (1, .ref (G 0 0)), (2, .ref (Gm 0 0)), (3, .ref o), (4, .int (nI i))]) (hcb : cb + 3 ≤ 601024 ∧ sb + 18 ≤ 7293034)
    (kk : ∀ (T1 M1 : zT) (f1 : Nat → Int64) (H1 : Heap) (locs1 : List Loc) (ls1 : Array Slot), zRel T1 M1 → zLW D Y G Gm A cL o f1 s T1 M1 H1 locs1 → lv_has ls1 9 [(0, .ref b), (1, .ref (G 0 0)), (2, .ref (Gm 0 0)), (3, .ref o), (4, .int (nI i))] → W p l e room_1 s m args below meth c H1 locs1 (cb + 3) (sb + 18) Q (F0 m 2703 ls1 [])) : W p l e room_1 s m args below meth c H locs cb sb Q (F0 m 1872 ls []) := by
  obtain ⟨hx, hb, -⟩ := id K
  obtain ⟨hcb1, hcb2⟩ := hcb
  obtain ⟨v, T', M', e1, e2, hR⟩ := o_clashes h
  refine lv_aload_n hx hb dL_law_1872 rfl (lv_at hl 1 rfl) ?_
  refine lw_X (As := []) (rest := []) K C W0 k_X3_clashes m_616 (c_X3_clashes T T' v e1) rfl rfl rfl hl.1 (Nat.le_of_ble_eq_true rfl) dL_law_1873 (by decide) ⟨by omega, by omega⟩ rfl (fun H locs W0 => ?_)
  refine lv_aload_n hx hb dL_law_1876 rfl (lv_at hl 2 rfl) ?_
  refine lw_M (As := []) (rest := [.int v]) K C W0 k_X4_clashes m_1514 (c_X4_clashes M M' v e2) rfl rfl rfl hl.1 (Nat.le_of_ble_eq_true rfl) dL_law_1877 (by decide) ⟨by omega, by omega⟩ rfl (fun H locs W0 => ?_)
  refine lv_icmp_eq (tgt := 2703) hx hb dL_law_1880 (by decide) (fun _ => ?_) (fun hc => absurd rfl hc)
  refine W.widen (k := cb + 3) (n := sb + 18) (by omega) (by omega) ?_
  exact kk T' M' f H locs ls hR W0 hl
set_option maxHeartbeats 4000000 in
set_option maxRecDepth 100000 in
theorem lc_candleDifference {p : Program} {l : Launch} {e : Env} {s : State} {m : MethodId} {args : Array Value} {below : List Frame} {meth : Method} {c : Code} {H : Heap} {locs : List Loc} {cb sb : Nat} {Q : State → Prop} {ls : Array Slot} {D : va_G} {Y : Nat → ClassId} {S V : Nat → Nat} {G Gm : Nat → Nat → Nat} {A : Nat → Prop} {cL : ClassId} {o : Nat} {f : Nat → Int64} {T M : zT} {b L i : Nat} {xs : Nat → Int32} (K : zLS p l s m args c) (C : zLC D Y S V G Gm A cL o s) (X : zLX b L xs A s) (hi : i + 5 < L) (h : zRel T M) (W0 : zLW D Y G Gm A cL o f s T M H locs) (hl : lv_has ls 9 [(0, .ref b), (1, .ref (G 0 0)), (2, .ref (Gm 0 0)), (3, .ref o), (4, .int (nI i))]) (hcb : cb + 3 ≤ 601024 ∧ sb + 18 ≤ 7293034)
    (kk : ∀ (T1 M1 : zT) (f1 : Nat → Int64) (H1 : Heap) (locs1 : List Loc) (ls1 : Array Slot), zRel T1 M1 → zLW D Y G Gm A cL o f1 s T1 M1 H1 locs1 → lv_has ls1 9 [(0, .ref b), (1, .ref (G 0 0)), (2, .ref (Gm 0 0)), (3, .ref o), (4, .int (nI i))] → W p l e room_1 s m args below meth c H1 locs1 (cb + 3) (sb + 18) Q (F0 m 2703 ls1 [])) : W p l e room_1 s m args below meth c H locs cb sb Q (F0 m 1885 ls []) := by
  obtain ⟨hx, hb, -⟩ := id K
  obtain ⟨hcb1, hcb2⟩ := hcb
  obtain ⟨v, T', M', e1, e2, hR⟩ := o_candleDifference h
  refine lv_aload_n hx hb dL_law_1885 rfl (lv_at hl 1 rfl) ?_
  refine lw_X (As := []) (rest := []) K C W0 k_X3_candleDifference m_624 (c_X3_candleDifference T T' v e1) rfl rfl rfl hl.1 (Nat.le_of_ble_eq_true rfl) dL_law_1886 (by decide) ⟨by omega, by omega⟩ rfl (fun H locs W0 => ?_)
  refine lv_aload_n hx hb dL_law_1889 rfl (lv_at hl 2 rfl) ?_
  refine lw_M (As := []) (rest := [.int v]) K C W0 k_X4_candleDifference m_1518 (c_X4_candleDifference M M' v e2) rfl rfl rfl hl.1 (Nat.le_of_ble_eq_true rfl) dL_law_1890 (by decide) ⟨by omega, by omega⟩ rfl (fun H locs W0 => ?_)
  refine lv_icmp_eq (tgt := 2703) hx hb dL_law_1893 (by decide) (fun _ => ?_) (fun hc => absurd rfl hc)
  refine W.widen (k := cb + 3) (n := sb + 18) (by omega) (by omega) ?_
  exact kk T' M' f H locs ls hR W0 hl
set_option maxHeartbeats 4000000 in
set_option maxRecDepth 100000 in
theorem lc_meanAge {p : Program} {l : Launch} {e : Env} {s : State} {m : MethodId} {args : Array Value} {below : List Frame} {meth : Method} {c : Code} {H : Heap} {locs : List Loc} {cb sb : Nat} {Q : State → Prop} {ls : Array Slot} {D : va_G} {Y : Nat → ClassId} {S V : Nat → Nat} {G Gm : Nat → Nat → Nat} {A : Nat → Prop} {cL : ClassId} {o : Nat} {f : Nat → Int64} {T M : zT} {b L i : Nat} {xs : Nat → Int32} (K : zLS p l s m args c) (C : zLC D Y S V G Gm A cL o s) (X : zLX b L xs A s) (hi : i + 5 < L) (h : zRel T M) (W0 : zLW D Y G Gm A cL o f s T M H locs) (hl : lv_has ls 9 [(0, .ref b), (1, .ref (G 0 0)), (2, .ref (Gm 0 0)), (3, .ref o), (4, .int (nI i))]) (hcb : cb + 3 ≤ 601024 ∧ sb + 18 ≤ 7293034)
    (kk : ∀ (T1 M1 : zT) (f1 : Nat → Int64) (H1 : Heap) (locs1 : List Loc) (ls1 : Array Slot), zRel T1 M1 → zLW D Y G Gm A cL o f1 s T1 M1 H1 locs1 → lv_has ls1 9 [(0, .ref b), (1, .ref (G 0 0)), (2, .ref (Gm 0 0)), (3, .ref o), (4, .int (nI i))] → W p l e room_1 s m args below meth c H1 locs1 (cb + 3) (sb + 18) Q (F0 m 2703 ls1 [])) : W p l e room_1 s m args below meth c H locs cb sb Q (F0 m 1898 ls []) := by
  obtain ⟨hx, hb, -⟩ := id K
  obtain ⟨hcb1, hcb2⟩ := hcb
  obtain ⟨v, M', e1, e2, hR⟩ := o_meanAge h
  refine lv_aload_n hx hb dL_law_1898 rfl (lv_at hl 1 rfl) ?_
  refine lw_X (As := []) (rest := []) K C W0 k_X3_meanAge m_628 (c_X3_meanAge T T v e1) rfl rfl rfl hl.1 (Nat.le_of_ble_eq_true rfl) dL_law_1899 (by decide) ⟨by omega, by omega⟩ rfl (fun H locs W0 => ?_)
  refine lv_dstore (lv' := [(5, .double v), (0, .ref b), (1, .ref (G 0 0)), (2, .ref (Gm 0 0)), (3, .ref o), (4, .int (nI i))]) hx hb dL_law_1902 hl (by decide) rfl (fun ls hl => ?_)
  refine lv_aload_n hx hb dL_law_1904 rfl (lv_at hl 3 rfl) ?_
  refine lw_M (As := []) (rest := []) K C W0 k_X4_meanAge m_1525 (c_X4_meanAge M M' v e2) rfl rfl rfl hl.1 (Nat.le_of_ble_eq_true rfl) dL_law_1905 (by decide) ⟨by omega, by omega⟩ rfl (fun H locs W0 => ?_)
  refine lv_dstore (lv' := [(7, .double v), (5, .double v), (0, .ref b), (1, .ref (G 0 0)), (2, .ref (Gm 0 0)), (3, .ref o), (4, .int (nI i))]) hx hb dL_law_1908 hl (by decide) rfl (fun ls hl => ?_)
  refine W.widen (k := cb + 3) (n := sb + 18) (by omega) (by omega) ?_
  have fin : W p l e room_1 s m args below meth c H locs (cb + 3) (sb + 18) Q (F0 m 1936 ls []) := lv_goto (tgt := 2703) hx hb dL_law_1936 (by decide) (kk T M' f H locs ls hR W0 (lv_sub hl [2, 3, 4, 5, 6] rfl))
  refine lv_dload hx hb dL_law_1910 (lv_at hl 1 rfl) ?_
  refine lv_dload hx hb dL_law_1912 (lv_at hl 0 rfl) ?_
  refine lv_dcmp hx hb dL_law_1914 ?_
  refine lv_if_eq (tgt := 1936) hx hb dL_law_1915 (by decide) (fun _ => fin) (fun h1 => ?_)
  refine lv_dload hx hb dL_law_1918 (lv_at hl 1 rfl) ?_
  refine lv_dload hx hb dL_law_1920 (lv_at hl 1 rfl) ?_
  refine lv_dcmp hx hb dL_law_1922 ?_
  refine lv_if_eq (tgt := 1934) hx hb dL_law_1923 (by decide) (fun h2 => absurd h2 h1) (fun _ => ?_)
  refine lv_dload hx hb dL_law_1926 (lv_at hl 0 rfl) ?_
  refine lv_dload hx hb dL_law_1928 (lv_at hl 0 rfl) ?_
  refine lv_dcmp hx hb dL_law_1930 ?_
  refine lv_if_ne (tgt := 1936) hx hb dL_law_1931 (by decide) (fun _ => fin) (fun h2 => absurd h2 h1)
set_option maxHeartbeats 4000000 in
set_option maxRecDepth 100000 in
theorem lc_wishShare {p : Program} {l : Launch} {e : Env} {s : State} {m : MethodId} {args : Array Value} {below : List Frame} {meth : Method} {c : Code} {H : Heap} {locs : List Loc} {cb sb : Nat} {Q : State → Prop} {ls : Array Slot} {D : va_G} {Y : Nat → ClassId} {S V : Nat → Nat} {G Gm : Nat → Nat → Nat} {A : Nat → Prop} {cL : ClassId} {o : Nat} {f : Nat → Int64} {T M : zT} {b L i : Nat} {xs : Nat → Int32} (K : zLS p l s m args c) (C : zLC D Y S V G Gm A cL o s) (X : zLX b L xs A s) (hi : i + 5 < L) (h : zRel T M) (W0 : zLW D Y G Gm A cL o f s T M H locs) (hl : lv_has ls 9 [(0, .ref b), (1, .ref (G 0 0)), (2, .ref (Gm 0 0)), (3, .ref o), (4, .int (nI i))]) (hcb : cb + 3 ≤ 601024 ∧ sb + 18 ≤ 7293034)
    (kk : ∀ (T1 M1 : zT) (f1 : Nat → Int64) (H1 : Heap) (locs1 : List Loc) (ls1 : Array Slot), zRel T1 M1 → zLW D Y G Gm A cL o f1 s T1 M1 H1 locs1 → lv_has ls1 9 [(0, .ref b), (1, .ref (G 0 0)), (2, .ref (Gm 0 0)), (3, .ref o), (4, .int (nI i))] → W p l e room_1 s m args below meth c H1 locs1 (cb + 3) (sb + 18) Q (F0 m 2703 ls1 [])) : W p l e room_1 s m args below meth c H locs cb sb Q (F0 m 1939 ls []) := by
  obtain ⟨hx, hb, -⟩ := id K
  obtain ⟨hcb1, hcb2⟩ := hcb
  obtain ⟨v, M', e1, e2, hR, hn⟩ := o_wishShare h
  refine lv_aload_n hx hb dL_law_1939 rfl (lv_at hl 1 rfl) ?_
  refine lw_X (As := []) (rest := []) K C W0 k_X3_wishShare m_632 (c_X3_wishShare T T v e1) rfl rfl rfl hl.1 (Nat.le_of_ble_eq_true rfl) dL_law_1940 (by decide) ⟨by omega, by omega⟩ rfl (fun H locs W0 => ?_)
  refine lv_f2d hx hb dL_law_1943 (z_nnw hn) ?_
  refine lv_dstore (lv' := [(5, .double (FP.f2d v)), (0, .ref b), (1, .ref (G 0 0)), (2, .ref (Gm 0 0)), (3, .ref o), (4, .int (nI i))]) hx hb dL_law_1944 hl (by decide) rfl (fun ls hl => ?_)
  refine lv_aload_n hx hb dL_law_1946 rfl (lv_at hl 3 rfl) ?_
  refine lw_M (As := []) (rest := []) K C W0 k_X4_wishShare m_1533 (c_X4_wishShare M M' v e2) rfl rfl rfl hl.1 (Nat.le_of_ble_eq_true rfl) dL_law_1947 (by decide) ⟨by omega, by omega⟩ rfl (fun H locs W0 => ?_)
  refine lv_f2d hx hb dL_law_1950 (z_nnw hn) ?_
  refine lv_dstore (lv' := [(7, .double (FP.f2d v)), (5, .double (FP.f2d v)), (0, .ref b), (1, .ref (G 0 0)), (2, .ref (Gm 0 0)), (3, .ref o), (4, .int (nI i))]) hx hb dL_law_1951 hl (by decide) rfl (fun ls hl => ?_)
  refine W.widen (k := cb + 3) (n := sb + 18) (by omega) (by omega) ?_
  have fin : W p l e room_1 s m args below meth c H locs (cb + 3) (sb + 18) Q (F0 m 1979 ls []) := lv_goto (tgt := 2703) hx hb dL_law_1979 (by decide) (kk T M' f H locs ls hR W0 (lv_sub hl [2, 3, 4, 5, 6] rfl))
  refine lv_dload hx hb dL_law_1953 (lv_at hl 1 rfl) ?_
  refine lv_dload hx hb dL_law_1955 (lv_at hl 0 rfl) ?_
  refine lv_dcmp hx hb dL_law_1957 ?_
  refine lv_if_eq (tgt := 1979) hx hb dL_law_1958 (by decide) (fun _ => fin) (fun h1 => ?_)
  refine lv_dload hx hb dL_law_1961 (lv_at hl 1 rfl) ?_
  refine lv_dload hx hb dL_law_1963 (lv_at hl 1 rfl) ?_
  refine lv_dcmp hx hb dL_law_1965 ?_
  refine lv_if_eq (tgt := 1977) hx hb dL_law_1966 (by decide) (fun h2 => absurd h2 h1) (fun _ => ?_)
  refine lv_dload hx hb dL_law_1969 (lv_at hl 0 rfl) ?_
  refine lv_dload hx hb dL_law_1971 (lv_at hl 0 rfl) ?_
  refine lv_dcmp hx hb dL_law_1973 ?_
  refine lv_if_ne (tgt := 1979) hx hb dL_law_1974 (by decide) (fun _ => fin) (fun h2 => absurd h2 h1)
set_option maxHeartbeats 4000000 in
set_option maxRecDepth 100000 in
theorem lc_advance {p : Program} {l : Launch} {e : Env} {s : State} {m : MethodId} {args : Array Value} {below : List Frame} {meth : Method} {c : Code} {H : Heap} {locs : List Loc} {cb sb : Nat} {Q : State → Prop} {ls : Array Slot} {D : va_G} {Y : Nat → ClassId} {S V : Nat → Nat} {G Gm : Nat → Nat → Nat} {A : Nat → Prop} {cL : ClassId} {o : Nat} {f : Nat → Int64} {T M : zT} {b L i : Nat} {xs : Nat → Int32} (K : zLS p l s m args c) (C : zLC D Y S V G Gm A cL o s) (X : zLX b L xs A s) (hi : i + 5 < L) (h : zRel T M) (W0 : zLW D Y G Gm A cL o f s T M H locs) (hl : lv_has ls 9 [(0, .ref b), (1, .ref (G 0 0)), (2, .ref (Gm 0 0)), (3, .ref o), (4, .int (nI i))]) (hcb : cb + 3 ≤ 601024 ∧ sb + 18 ≤ 7293034)
    (kk : ∀ (T1 M1 : zT) (f1 : Nat → Int64) (H1 : Heap) (locs1 : List Loc) (ls1 : Array Slot), zRel T1 M1 → zLW D Y G Gm A cL o f1 s T1 M1 H1 locs1 → lv_has ls1 9 [(0, .ref b), (1, .ref (G 0 0)), (2, .ref (Gm 0 0)), (3, .ref o), (4, .int (nI i))] → W p l e room_1 s m args below meth c H1 locs1 (cb + 3) (sb + 18) Q (F0 m 2703 ls1 [])) : W p l e room_1 s m args below meth c H locs cb sb Q (F0 m 1982 ls []) := by
  obtain ⟨hx, hb, -⟩ := id K
  obtain ⟨hcb1, hcb2⟩ := hcb
  refine lv_aload_n hx hb dL_law_1982 rfl (lv_at hl 1 rfl) ?_
  refine lw_arg K X W0.2.2.2 hl 4 0 rfl rfl 1 (by omega) (by decide +kernel) dL_law_1983 dL_law_1984 dL_law_1986 dL_law_1987 dL_law_1988 ?_
  refine lv_aload_n hx hb dL_law_1989 rfl (lv_at hl 3 rfl) ?_
  obtain ⟨v, T', r, M', e1, e2, hR, hv, hz⟩ := zOpX.all (code := fun n => if n = 1 then 1 else 2) (o_advance h (xs (i + 1))) (fun x k hk => by simp at hk; rcases hk with ⟨rfl, rfl⟩ | ⟨rfl, rfl⟩ <;> decide +kernel)
  refine lw_C (As := [.ref (G 0 0), .int (xs (i + 1)), .ref o]) (rest := []) K C W0 kw_advance m_945 (cw_advance (xs (i + 1)) T T' v e1 (fun n hn => by obtain ⟨k, hk⟩ := hv n hn; simp at hk; omega)) rfl rfl hl.1 (Nat.le_of_ble_eq_true rfl) dL_law_1990 (by decide) ⟨by omega, by omega⟩ rfl (fun H locs k f' hp W0 => ?_)
  refine lv_istore (lv' := [(5, .int k), (0, .ref b), (1, .ref (G 0 0)), (2, .ref (Gm 0 0)), (3, .ref o), (4, .int (nI i))]) hx hb dL_law_1993 hl (by decide) rfl (fun ls hl => ?_)
  refine lv_aload_n hx hb dL_law_1995 rfl (lv_at hl 3 rfl) ?_
  refine lw_arg K X W0.2.2.2 hl 5 1 rfl rfl 1 (by omega) (by decide +kernel) dL_law_1996 dL_law_1997 dL_law_1999 dL_law_2000 dL_law_2001 ?_
  refine lw_M (As := [.int (xs (i + 1))]) (rest := []) K C W0 k_X4_advance m_1537 (c_X4_advance (xs (i + 1)) M M' r e2) rfl rfl rfl hl.1 (Nat.le_of_ble_eq_true rfl) dL_law_2002 (by decide) ⟨by omega, by omega⟩ rfl (fun H locs W0 => ?_)
  refine lv_istore (lv' := [(6, .int r), (5, .int k), (0, .ref b), (1, .ref (G 0 0)), (2, .ref (Gm 0 0)), (3, .ref o), (4, .int (nI i))]) hx hb dL_law_2005 hl (by decide) rfl (fun ls hl => ?_)
  refine W.widen (k := cb + 3) (n := sb + 18) (by omega) (by omega) ?_
  exact lw_tail K C W0 hl 4 5 1 0 rfl rfl rfl rfl hp hz ⟨by omega, by omega⟩ dL_law_2007 dL_law_2008 dL_law_2011 dL_law_2013 dL_law_2018 dL_law_2020 dL_law_2023 dL_law_2024 dL_law_2025 dL_law_2026 dL_law_2028 dL_law_2029 dL_law_2030 dL_law_2035 (by decide) (fun H1 locs1 W1 => kk T' M' f' H1 locs1 ls hR W1 (lv_sub hl [2, 3, 4, 5, 6] rfl))
set_option maxHeartbeats 4000000 in
set_option maxRecDepth 100000 in
theorem lc_draw {p : Program} {l : Launch} {e : Env} {s : State} {m : MethodId} {args : Array Value} {below : List Frame} {meth : Method} {c : Code} {H : Heap} {locs : List Loc} {cb sb : Nat} {Q : State → Prop} {ls : Array Slot} {D : va_G} {Y : Nat → ClassId} {S V : Nat → Nat} {G Gm : Nat → Nat → Nat} {A : Nat → Prop} {cL : ClassId} {o : Nat} {f : Nat → Int64} {T M : zT} {b L i : Nat} {xs : Nat → Int32} (K : zLS p l s m args c) (C : zLC D Y S V G Gm A cL o s) (X : zLX b L xs A s) (hi : i + 5 < L) (h : zRel T M) (W0 : zLW D Y G Gm A cL o f s T M H locs) (hl : lv_has ls 9 [(0, .ref b), (1, .ref (G 0 0)), (2, .ref (Gm 0 0)), (3, .ref o), (4, .int (nI i))]) (hcb : cb + 3 ≤ 601024 ∧ sb + 18 ≤ 7293034)
    (kk : ∀ (T1 M1 : zT) (f1 : Nat → Int64) (H1 : Heap) (locs1 : List Loc) (ls1 : Array Slot), zRel T1 M1 → zLW D Y G Gm A cL o f1 s T1 M1 H1 locs1 → lv_has ls1 9 [(0, .ref b), (1, .ref (G 0 0)), (2, .ref (Gm 0 0)), (3, .ref o), (4, .int (nI i))] → W p l e room_1 s m args below meth c H1 locs1 (cb + 3) (sb + 18) Q (F0 m 2703 ls1 [])) : W p l e room_1 s m args below meth c H locs cb sb Q (F0 m 2038 ls []) := by
  obtain ⟨hx, hb, -⟩ := id K
  obtain ⟨hcb1, hcb2⟩ := hcb
  refine lv_aload_n hx hb dL_law_2038 rfl (lv_at hl 1 rfl) ?_
  refine lw_arg K X W0.2.2.2 hl 4 0 rfl rfl 1 (by omega) (by decide +kernel) dL_law_2039 dL_law_2040 dL_law_2042 dL_law_2043 dL_law_2044 ?_
  refine lv_aload_n hx hb dL_law_2045 rfl (lv_at hl 3 rfl) ?_
  obtain ⟨v, T', r, M', e1, e2, hR, hv, hz⟩ := zOpX.all (code := fun n => if n = 2 then 1 else 2) (o_draw h (xs (i + 1))) (fun x k hk => by simp at hk; rcases hk with ⟨rfl, rfl⟩ | ⟨rfl, rfl⟩ <;> decide +kernel)
  refine lw_C (As := [.ref (G 0 0), .int (xs (i + 1)), .ref o]) (rest := []) K C W0 kw_draw m_964 (cw_draw (xs (i + 1)) T T' v e1 (fun n hn => by obtain ⟨k, hk⟩ := hv n hn; simp at hk; omega)) rfl rfl hl.1 (Nat.le_of_ble_eq_true rfl) dL_law_2046 (by decide) ⟨by omega, by omega⟩ rfl (fun H locs k f' hp W0 => ?_)
  refine lv_istore (lv' := [(5, .int k), (0, .ref b), (1, .ref (G 0 0)), (2, .ref (Gm 0 0)), (3, .ref o), (4, .int (nI i))]) hx hb dL_law_2049 hl (by decide) rfl (fun ls hl => ?_)
  refine lv_aload_n hx hb dL_law_2051 rfl (lv_at hl 3 rfl) ?_
  refine lw_arg K X W0.2.2.2 hl 5 1 rfl rfl 1 (by omega) (by decide +kernel) dL_law_2052 dL_law_2053 dL_law_2055 dL_law_2056 dL_law_2057 ?_
  refine lw_M (As := [.int (xs (i + 1))]) (rest := []) K C W0 k_X4_draw m_1545 (c_X4_draw (xs (i + 1)) M M' r e2) rfl rfl rfl hl.1 (Nat.le_of_ble_eq_true rfl) dL_law_2058 (by decide) ⟨by omega, by omega⟩ rfl (fun H locs W0 => ?_)
  refine lv_istore (lv' := [(6, .int r), (5, .int k), (0, .ref b), (1, .ref (G 0 0)), (2, .ref (Gm 0 0)), (3, .ref o), (4, .int (nI i))]) hx hb dL_law_2061 hl (by decide) rfl (fun ls hl => ?_)
  refine W.widen (k := cb + 3) (n := sb + 18) (by omega) (by omega) ?_
  exact lw_tail K C W0 hl 4 5 1 0 rfl rfl rfl rfl hp hz ⟨by omega, by omega⟩ dL_law_2063 dL_law_2064 dL_law_2067 dL_law_2069 dL_law_2074 dL_law_2076 dL_law_2079 dL_law_2080 dL_law_2081 dL_law_2082 dL_law_2084 dL_law_2085 dL_law_2086 dL_law_2091 (by decide) (fun H1 locs1 W1 => kk T' M' f' H1 locs1 ls hR W1 (lv_sub hl [2, 3, 4, 5, 6] rfl))
set_option maxHeartbeats 4000000 in
set_option maxRecDepth 100000 in
theorem lc_setBirthday {p : Program} {l : Launch} {e : Env} {s : State} {m : MethodId} {args : Array Value} {below : List Frame} {meth : Method} {c : Code} {H : Heap} {locs : List Loc} {cb sb : Nat} {Q : State → Prop} {ls : Array Slot} {D : va_G} {Y : Nat → ClassId} {S V : Nat → Nat} {G Gm : Nat → Nat → Nat} {A : Nat → Prop} {cL : ClassId} {o : Nat} {f : Nat → Int64} {T M : zT} {b L i : Nat} {xs : Nat → Int32} (K : zLS p l s m args c) (C : zLC D Y S V G Gm A cL o s) (X : zLX b L xs A s) (hi : i + 5 < L) (h : zRel T M) (W0 : zLW D Y G Gm A cL o f s T M H locs) (hl : lv_has ls 9 [(0, .ref b), (1, .ref (G 0 0)), (2, .ref (Gm 0 0)), (3, .ref o), (4, .int (nI i))]) (hcb : cb + 3 ≤ 601024 ∧ sb + 18 ≤ 7293034)
    (kk : ∀ (T1 M1 : zT) (f1 : Nat → Int64) (H1 : Heap) (locs1 : List Loc) (ls1 : Array Slot), zRel T1 M1 → zLW D Y G Gm A cL o f1 s T1 M1 H1 locs1 → lv_has ls1 9 [(0, .ref b), (1, .ref (G 0 0)), (2, .ref (Gm 0 0)), (3, .ref o), (4, .int (nI i))] → W p l e room_1 s m args below meth c H1 locs1 (cb + 3) (sb + 18) Q (F0 m 2703 ls1 [])) : W p l e room_1 s m args below meth c H locs cb sb Q (F0 m 2094 ls []) := by
  obtain ⟨hx, hb, -⟩ := id K
  obtain ⟨hcb1, hcb2⟩ := hcb
  refine lv_aload_n hx hb dL_law_2094 rfl (lv_at hl 1 rfl) ?_
  refine lw_arg K X W0.2.2.2 hl 4 0 rfl rfl 1 (by omega) (by decide +kernel) dL_law_2095 dL_law_2096 dL_law_2098 dL_law_2099 dL_law_2100 ?_
  refine lw_arg K X W0.2.2.2 hl 4 0 rfl rfl 2 (by omega) (by decide +kernel) dL_law_2101 dL_law_2102 dL_law_2104 dL_law_2105 dL_law_2106 ?_
  refine lw_arg K X W0.2.2.2 hl 4 0 rfl rfl 3 (by omega) (by decide +kernel) dL_law_2107 dL_law_2108 dL_law_2110 dL_law_2111 dL_law_2112 ?_
  refine lv_aload_n hx hb dL_law_2113 rfl (lv_at hl 3 rfl) ?_
  obtain ⟨v, T', r, M', e1, e2, hR, hv, hz⟩ := zOpX.all (code := fun n => if n = 2 then 1 else if n = 1 then 2 else 3) (o_setBirthday h (xs (i + 1)) (xs (i + 2)) (xs (i + 3))) (fun x k hk => by simp at hk; rcases hk with ⟨rfl, rfl⟩ | ⟨rfl, rfl⟩ | ⟨rfl, rfl⟩ <;> decide +kernel)
  refine lw_C (As := [.ref (G 0 0), .int (xs (i + 1)), .int (xs (i + 2)), .int (xs (i + 3)), .ref o]) (rest := []) K C W0 kw_setBirthday m_973 (cw_setBirthday (xs (i + 1)) (xs (i + 2)) (xs (i + 3)) T T' v e1 (fun n hn => by obtain ⟨k, hk⟩ := hv n hn; simp at hk; omega)) rfl rfl hl.1 (Nat.le_of_ble_eq_true rfl) dL_law_2114 (by decide) ⟨by omega, by omega⟩ rfl (fun H locs k f' hp W0 => ?_)
  refine lv_istore (lv' := [(5, .int k), (0, .ref b), (1, .ref (G 0 0)), (2, .ref (Gm 0 0)), (3, .ref o), (4, .int (nI i))]) hx hb dL_law_2117 hl (by decide) rfl (fun ls hl => ?_)
  refine lv_aload_n hx hb dL_law_2119 rfl (lv_at hl 3 rfl) ?_
  refine lw_arg K X W0.2.2.2 hl 5 1 rfl rfl 1 (by omega) (by decide +kernel) dL_law_2120 dL_law_2121 dL_law_2123 dL_law_2124 dL_law_2125 ?_
  refine lw_arg K X W0.2.2.2 hl 5 1 rfl rfl 2 (by omega) (by decide +kernel) dL_law_2126 dL_law_2127 dL_law_2129 dL_law_2130 dL_law_2131 ?_
  refine lw_arg K X W0.2.2.2 hl 5 1 rfl rfl 3 (by omega) (by decide +kernel) dL_law_2132 dL_law_2133 dL_law_2135 dL_law_2136 dL_law_2137 ?_
  refine lw_M (As := [.int (xs (i + 1)), .int (xs (i + 2)), .int (xs (i + 3))]) (rest := []) K C W0 k_X4_setBirthday m_1549 (c_X4_setBirthday (xs (i + 1)) (xs (i + 2)) (xs (i + 3)) M M' r e2) rfl rfl rfl hl.1 (Nat.le_of_ble_eq_true rfl) dL_law_2138 (by decide) ⟨by omega, by omega⟩ rfl (fun H locs W0 => ?_)
  refine lv_istore (lv' := [(6, .int r), (5, .int k), (0, .ref b), (1, .ref (G 0 0)), (2, .ref (Gm 0 0)), (3, .ref o), (4, .int (nI i))]) hx hb dL_law_2141 hl (by decide) rfl (fun ls hl => ?_)
  refine W.widen (k := cb + 3) (n := sb + 18) (by omega) (by omega) ?_
  exact lw_tail K C W0 hl 4 5 1 0 rfl rfl rfl rfl hp hz ⟨by omega, by omega⟩ dL_law_2143 dL_law_2144 dL_law_2147 dL_law_2149 dL_law_2154 dL_law_2156 dL_law_2159 dL_law_2160 dL_law_2161 dL_law_2162 dL_law_2164 dL_law_2165 dL_law_2166 dL_law_2171 (by decide) (fun H1 locs1 W1 => kk T' M' f' H1 locs1 ls hR W1 (lv_sub hl [2, 3, 4, 5, 6] rfl))
set_option maxHeartbeats 4000000 in
set_option maxRecDepth 100000 in
theorem lc_forgetBirthday {p : Program} {l : Launch} {e : Env} {s : State} {m : MethodId} {args : Array Value} {below : List Frame} {meth : Method} {c : Code} {H : Heap} {locs : List Loc} {cb sb : Nat} {Q : State → Prop} {ls : Array Slot} {D : va_G} {Y : Nat → ClassId} {S V : Nat → Nat} {G Gm : Nat → Nat → Nat} {A : Nat → Prop} {cL : ClassId} {o : Nat} {f : Nat → Int64} {T M : zT} {b L i : Nat} {xs : Nat → Int32} (K : zLS p l s m args c) (C : zLC D Y S V G Gm A cL o s) (X : zLX b L xs A s) (hi : i + 5 < L) (h : zRel T M) (W0 : zLW D Y G Gm A cL o f s T M H locs) (hl : lv_has ls 9 [(0, .ref b), (1, .ref (G 0 0)), (2, .ref (Gm 0 0)), (3, .ref o), (4, .int (nI i))]) (hcb : cb + 3 ≤ 601024 ∧ sb + 18 ≤ 7293034)
    (kk : ∀ (T1 M1 : zT) (f1 : Nat → Int64) (H1 : Heap) (locs1 : List Loc) (ls1 : Array Slot), zRel T1 M1 → zLW D Y G Gm A cL o f1 s T1 M1 H1 locs1 → lv_has ls1 9 [(0, .ref b), (1, .ref (G 0 0)), (2, .ref (Gm 0 0)), (3, .ref o), (4, .int (nI i))] → W p l e room_1 s m args below meth c H1 locs1 (cb + 3) (sb + 18) Q (F0 m 2703 ls1 [])) : W p l e room_1 s m args below meth c H locs cb sb Q (F0 m 2174 ls []) := by
  obtain ⟨hx, hb, -⟩ := id K
  obtain ⟨hcb1, hcb2⟩ := hcb
  refine lv_aload_n hx hb dL_law_2174 rfl (lv_at hl 1 rfl) ?_
  refine lw_arg K X W0.2.2.2 hl 4 0 rfl rfl 1 (by omega) (by decide +kernel) dL_law_2175 dL_law_2176 dL_law_2178 dL_law_2179 dL_law_2180 ?_
  refine lv_aload_n hx hb dL_law_2181 rfl (lv_at hl 3 rfl) ?_
  obtain ⟨v, T', r, M', e1, e2, hR, hv, hz⟩ := zOpX.all (code := fun n => 1) (o_forgetBirthday h (xs (i + 1))) (fun x k hk => by simp at hk; obtain ⟨rfl, rfl⟩ := hk; decide +kernel)
  refine lw_C (As := [.ref (G 0 0), .int (xs (i + 1)), .ref o]) (rest := []) K C W0 kw_forgetBirthday m_982 (cw_forgetBirthday (xs (i + 1)) T T' v e1 (fun n hn => by obtain ⟨k, hk⟩ := hv n hn; simp at hk; omega)) rfl rfl hl.1 (Nat.le_of_ble_eq_true rfl) dL_law_2182 (by decide) ⟨by omega, by omega⟩ rfl (fun H locs k f' hp W0 => ?_)
  refine lv_istore (lv' := [(5, .int k), (0, .ref b), (1, .ref (G 0 0)), (2, .ref (Gm 0 0)), (3, .ref o), (4, .int (nI i))]) hx hb dL_law_2185 hl (by decide) rfl (fun ls hl => ?_)
  refine lv_aload_n hx hb dL_law_2187 rfl (lv_at hl 3 rfl) ?_
  refine lw_arg K X W0.2.2.2 hl 5 1 rfl rfl 1 (by omega) (by decide +kernel) dL_law_2188 dL_law_2189 dL_law_2191 dL_law_2192 dL_law_2193 ?_
  refine lw_M (As := [.int (xs (i + 1))]) (rest := []) K C W0 k_X4_forgetBirthday m_1553 (c_X4_forgetBirthday (xs (i + 1)) M M' r e2) rfl rfl rfl hl.1 (Nat.le_of_ble_eq_true rfl) dL_law_2194 (by decide) ⟨by omega, by omega⟩ rfl (fun H locs W0 => ?_)
  refine lv_istore (lv' := [(6, .int r), (5, .int k), (0, .ref b), (1, .ref (G 0 0)), (2, .ref (Gm 0 0)), (3, .ref o), (4, .int (nI i))]) hx hb dL_law_2197 hl (by decide) rfl (fun ls hl => ?_)
  refine W.widen (k := cb + 3) (n := sb + 18) (by omega) (by omega) ?_
  exact lw_tail K C W0 hl 4 5 1 0 rfl rfl rfl rfl hp hz ⟨by omega, by omega⟩ dL_law_2199 dL_law_2200 dL_law_2203 dL_law_2205 dL_law_2210 dL_law_2212 dL_law_2215 dL_law_2216 dL_law_2217 dL_law_2218 dL_law_2220 dL_law_2221 dL_law_2222 dL_law_2227 (by decide) (fun H1 locs1 W1 => kk T' M' f' H1 locs1 ls hR W1 (lv_sub hl [2, 3, 4, 5, 6] rfl))
set_option maxHeartbeats 4000000 in
set_option maxRecDepth 100000 in
theorem lc_moveTo {p : Program} {l : Launch} {e : Env} {s : State} {m : MethodId} {args : Array Value} {below : List Frame} {meth : Method} {c : Code} {H : Heap} {locs : List Loc} {cb sb : Nat} {Q : State → Prop} {ls : Array Slot} {D : va_G} {Y : Nat → ClassId} {S V : Nat → Nat} {G Gm : Nat → Nat → Nat} {A : Nat → Prop} {cL : ClassId} {o : Nat} {f : Nat → Int64} {T M : zT} {b L i : Nat} {xs : Nat → Int32} (K : zLS p l s m args c) (C : zLC D Y S V G Gm A cL o s) (X : zLX b L xs A s) (hi : i + 5 < L) (h : zRel T M) (W0 : zLW D Y G Gm A cL o f s T M H locs) (hl : lv_has ls 9 [(0, .ref b), (1, .ref (G 0 0)), (2, .ref (Gm 0 0)), (3, .ref o), (4, .int (nI i))]) (hcb : cb + 3 ≤ 601024 ∧ sb + 18 ≤ 7293034)
    (kk : ∀ (T1 M1 : zT) (f1 : Nat → Int64) (H1 : Heap) (locs1 : List Loc) (ls1 : Array Slot), zRel T1 M1 → zLW D Y G Gm A cL o f1 s T1 M1 H1 locs1 → lv_has ls1 9 [(0, .ref b), (1, .ref (G 0 0)), (2, .ref (Gm 0 0)), (3, .ref o), (4, .int (nI i))] → W p l e room_1 s m args below meth c H1 locs1 (cb + 3) (sb + 18) Q (F0 m 2703 ls1 [])) : W p l e room_1 s m args below meth c H locs cb sb Q (F0 m 2230 ls []) := by
  obtain ⟨hx, hb, -⟩ := id K
  obtain ⟨hcb1, hcb2⟩ := hcb
  refine lv_aload_n hx hb dL_law_2230 rfl (lv_at hl 1 rfl) ?_
  refine lw_arg K X W0.2.2.2 hl 4 0 rfl rfl 1 (by omega) (by decide +kernel) dL_law_2231 dL_law_2232 dL_law_2234 dL_law_2235 dL_law_2236 ?_
  refine lw_arg K X W0.2.2.2 hl 4 0 rfl rfl 2 (by omega) (by decide +kernel) dL_law_2237 dL_law_2238 dL_law_2240 dL_law_2241 dL_law_2242 ?_
  refine lv_aload_n hx hb dL_law_2243 rfl (lv_at hl 3 rfl) ?_
  obtain ⟨v, T', r, M', e1, e2, hR, hv, hz⟩ := zOpX.all (code := fun n => if n = 2 then 1 else 2) (o_moveTo h (xs (i + 1)) (xs (i + 2))) (fun x k hk => by simp at hk; rcases hk with ⟨rfl, rfl⟩ | ⟨rfl, rfl⟩ <;> decide +kernel)
  refine lw_C (As := [.ref (G 0 0), .int (xs (i + 1)), .int (xs (i + 2)), .ref o]) (rest := []) K C W0 kw_moveTo m_989 (cw_moveTo (xs (i + 1)) (xs (i + 2)) T T' v e1 (fun n hn => by obtain ⟨k, hk⟩ := hv n hn; simp at hk; omega)) rfl rfl hl.1 (Nat.le_of_ble_eq_true rfl) dL_law_2244 (by decide) ⟨by omega, by omega⟩ rfl (fun H locs k f' hp W0 => ?_)
  refine lv_istore (lv' := [(5, .int k), (0, .ref b), (1, .ref (G 0 0)), (2, .ref (Gm 0 0)), (3, .ref o), (4, .int (nI i))]) hx hb dL_law_2247 hl (by decide) rfl (fun ls hl => ?_)
  refine lv_aload_n hx hb dL_law_2249 rfl (lv_at hl 3 rfl) ?_
  refine lw_arg K X W0.2.2.2 hl 5 1 rfl rfl 1 (by omega) (by decide +kernel) dL_law_2250 dL_law_2251 dL_law_2253 dL_law_2254 dL_law_2255 ?_
  refine lw_arg K X W0.2.2.2 hl 5 1 rfl rfl 2 (by omega) (by decide +kernel) dL_law_2256 dL_law_2257 dL_law_2259 dL_law_2260 dL_law_2261 ?_
  refine lw_M (As := [.int (xs (i + 1)), .int (xs (i + 2))]) (rest := []) K C W0 k_X4_moveTo m_1557 (c_X4_moveTo (xs (i + 1)) (xs (i + 2)) M M' r e2) rfl rfl rfl hl.1 (Nat.le_of_ble_eq_true rfl) dL_law_2262 (by decide) ⟨by omega, by omega⟩ rfl (fun H locs W0 => ?_)
  refine lv_istore (lv' := [(6, .int r), (5, .int k), (0, .ref b), (1, .ref (G 0 0)), (2, .ref (Gm 0 0)), (3, .ref o), (4, .int (nI i))]) hx hb dL_law_2265 hl (by decide) rfl (fun ls hl => ?_)
  refine W.widen (k := cb + 3) (n := sb + 18) (by omega) (by omega) ?_
  exact lw_tail K C W0 hl 4 5 1 0 rfl rfl rfl rfl hp hz ⟨by omega, by omega⟩ dL_law_2267 dL_law_2268 dL_law_2271 dL_law_2273 dL_law_2278 dL_law_2280 dL_law_2283 dL_law_2284 dL_law_2285 dL_law_2286 dL_law_2288 dL_law_2289 dL_law_2290 dL_law_2295 (by decide) (fun H1 locs1 W1 => kk T' M' f' H1 locs1 ls hR W1 (lv_sub hl [2, 3, 4, 5, 6] rfl))
set_option maxHeartbeats 4000000 in
set_option maxRecDepth 100000 in
theorem lc_buyCandles {p : Program} {l : Launch} {e : Env} {s : State} {m : MethodId} {args : Array Value} {below : List Frame} {meth : Method} {c : Code} {H : Heap} {locs : List Loc} {cb sb : Nat} {Q : State → Prop} {ls : Array Slot} {D : va_G} {Y : Nat → ClassId} {S V : Nat → Nat} {G Gm : Nat → Nat → Nat} {A : Nat → Prop} {cL : ClassId} {o : Nat} {f : Nat → Int64} {T M : zT} {b L i : Nat} {xs : Nat → Int32} (K : zLS p l s m args c) (C : zLC D Y S V G Gm A cL o s) (X : zLX b L xs A s) (hi : i + 5 < L) (h : zRel T M) (W0 : zLW D Y G Gm A cL o f s T M H locs) (hl : lv_has ls 9 [(0, .ref b), (1, .ref (G 0 0)), (2, .ref (Gm 0 0)), (3, .ref o), (4, .int (nI i))]) (hcb : cb + 3 ≤ 601024 ∧ sb + 18 ≤ 7293034)
    (kk : ∀ (T1 M1 : zT) (f1 : Nat → Int64) (H1 : Heap) (locs1 : List Loc) (ls1 : Array Slot), zRel T1 M1 → zLW D Y G Gm A cL o f1 s T1 M1 H1 locs1 → lv_has ls1 9 [(0, .ref b), (1, .ref (G 0 0)), (2, .ref (Gm 0 0)), (3, .ref o), (4, .int (nI i))] → W p l e room_1 s m args below meth c H1 locs1 (cb + 3) (sb + 18) Q (F0 m 2703 ls1 [])) : W p l e room_1 s m args below meth c H locs cb sb Q (F0 m 2298 ls []) := by
  obtain ⟨hx, hb, -⟩ := id K
  obtain ⟨hcb1, hcb2⟩ := hcb
  refine lv_aload_n hx hb dL_law_2298 rfl (lv_at hl 1 rfl) ?_
  refine lw_arg K X W0.2.2.2 hl 4 0 rfl rfl 1 (by omega) (by decide +kernel) dL_law_2299 dL_law_2300 dL_law_2302 dL_law_2303 dL_law_2304 ?_
  refine lv_aload_n hx hb dL_law_2305 rfl (lv_at hl 3 rfl) ?_
  obtain ⟨v, T', r, M', e1, e2, hR, hv, hz⟩ := zOpX.all (code := fun n => if n = 1 then 1 else 2) (o_buyCandles h (xs (i + 1))) (fun x k hk => by simp at hk; rcases hk with ⟨rfl, rfl⟩ | ⟨rfl, rfl⟩ <;> decide +kernel)
  refine lw_C (As := [.ref (G 0 0), .int (xs (i + 1)), .ref o]) (rest := []) K C W0 kw_buyCandles m_997 (cw_buyCandles (xs (i + 1)) T T' v e1 (fun n hn => by obtain ⟨k, hk⟩ := hv n hn; simp at hk; omega)) rfl rfl hl.1 (Nat.le_of_ble_eq_true rfl) dL_law_2306 (by decide) ⟨by omega, by omega⟩ rfl (fun H locs k f' hp W0 => ?_)
  refine lv_istore (lv' := [(5, .int k), (0, .ref b), (1, .ref (G 0 0)), (2, .ref (Gm 0 0)), (3, .ref o), (4, .int (nI i))]) hx hb dL_law_2309 hl (by decide) rfl (fun ls hl => ?_)
  refine lv_aload_n hx hb dL_law_2311 rfl (lv_at hl 3 rfl) ?_
  refine lw_arg K X W0.2.2.2 hl 5 1 rfl rfl 1 (by omega) (by decide +kernel) dL_law_2312 dL_law_2313 dL_law_2315 dL_law_2316 dL_law_2317 ?_
  refine lw_M (As := [.int (xs (i + 1))]) (rest := []) K C W0 k_X4_buyCandles m_1561 (c_X4_buyCandles (xs (i + 1)) M M' r e2) rfl rfl rfl hl.1 (Nat.le_of_ble_eq_true rfl) dL_law_2318 (by decide) ⟨by omega, by omega⟩ rfl (fun H locs W0 => ?_)
  refine lv_istore (lv' := [(6, .int r), (5, .int k), (0, .ref b), (1, .ref (G 0 0)), (2, .ref (Gm 0 0)), (3, .ref o), (4, .int (nI i))]) hx hb dL_law_2321 hl (by decide) rfl (fun ls hl => ?_)
  refine W.widen (k := cb + 3) (n := sb + 18) (by omega) (by omega) ?_
  exact lw_tail K C W0 hl 4 5 1 0 rfl rfl rfl rfl hp hz ⟨by omega, by omega⟩ dL_law_2323 dL_law_2324 dL_law_2327 dL_law_2329 dL_law_2334 dL_law_2336 dL_law_2339 dL_law_2340 dL_law_2341 dL_law_2342 dL_law_2344 dL_law_2345 dL_law_2346 dL_law_2351 (by decide) (fun H1 locs1 W1 => kk T' M' f' H1 locs1 ls hR W1 (lv_sub hl [2, 3, 4, 5, 6] rfl))
set_option maxHeartbeats 4000000 in
set_option maxRecDepth 100000 in
theorem lc_bakeCakes {p : Program} {l : Launch} {e : Env} {s : State} {m : MethodId} {args : Array Value} {below : List Frame} {meth : Method} {c : Code} {H : Heap} {locs : List Loc} {cb sb : Nat} {Q : State → Prop} {ls : Array Slot} {D : va_G} {Y : Nat → ClassId} {S V : Nat → Nat} {G Gm : Nat → Nat → Nat} {A : Nat → Prop} {cL : ClassId} {o : Nat} {f : Nat → Int64} {T M : zT} {b L i : Nat} {xs : Nat → Int32} (K : zLS p l s m args c) (C : zLC D Y S V G Gm A cL o s) (X : zLX b L xs A s) (hi : i + 5 < L) (h : zRel T M) (W0 : zLW D Y G Gm A cL o f s T M H locs) (hl : lv_has ls 9 [(0, .ref b), (1, .ref (G 0 0)), (2, .ref (Gm 0 0)), (3, .ref o), (4, .int (nI i))]) (hcb : cb + 3 ≤ 601024 ∧ sb + 18 ≤ 7293034)
    (kk : ∀ (T1 M1 : zT) (f1 : Nat → Int64) (H1 : Heap) (locs1 : List Loc) (ls1 : Array Slot), zRel T1 M1 → zLW D Y G Gm A cL o f1 s T1 M1 H1 locs1 → lv_has ls1 9 [(0, .ref b), (1, .ref (G 0 0)), (2, .ref (Gm 0 0)), (3, .ref o), (4, .int (nI i))] → W p l e room_1 s m args below meth c H1 locs1 (cb + 3) (sb + 18) Q (F0 m 2703 ls1 [])) : W p l e room_1 s m args below meth c H locs cb sb Q (F0 m 2354 ls []) := by
  obtain ⟨hx, hb, -⟩ := id K
  obtain ⟨hcb1, hcb2⟩ := hcb
  refine lv_aload_n hx hb dL_law_2354 rfl (lv_at hl 1 rfl) ?_
  refine lw_arg K X W0.2.2.2 hl 4 0 rfl rfl 1 (by omega) (by decide +kernel) dL_law_2355 dL_law_2356 dL_law_2358 dL_law_2359 dL_law_2360 ?_
  refine lw_arg K X W0.2.2.2 hl 4 0 rfl rfl 2 (by omega) (by decide +kernel) dL_law_2361 dL_law_2362 dL_law_2364 dL_law_2365 dL_law_2366 ?_
  refine lv_aload_n hx hb dL_law_2367 rfl (lv_at hl 3 rfl) ?_
  obtain ⟨v, T', r, M', e1, e2, hR, hv, hz⟩ := zOpX.all (code := fun n => if n = 1 then 1 else 2) (o_bakeCakes h (xs (i + 1)) (xs (i + 2))) (fun x k hk => by simp at hk; rcases hk with ⟨rfl, rfl⟩ | ⟨rfl, rfl⟩ <;> decide +kernel)
  refine lw_C (As := [.ref (G 0 0), .int (xs (i + 1)), .int (xs (i + 2)), .ref o]) (rest := []) K C W0 kw_bakeCakes m_1006 (cw_bakeCakes (xs (i + 1)) (xs (i + 2)) T T' v e1 (fun n hn => by obtain ⟨k, hk⟩ := hv n hn; simp at hk; omega)) rfl rfl hl.1 (Nat.le_of_ble_eq_true rfl) dL_law_2368 (by decide) ⟨by omega, by omega⟩ rfl (fun H locs k f' hp W0 => ?_)
  refine lv_istore (lv' := [(5, .int k), (0, .ref b), (1, .ref (G 0 0)), (2, .ref (Gm 0 0)), (3, .ref o), (4, .int (nI i))]) hx hb dL_law_2371 hl (by decide) rfl (fun ls hl => ?_)
  refine lv_aload_n hx hb dL_law_2373 rfl (lv_at hl 3 rfl) ?_
  refine lw_arg K X W0.2.2.2 hl 5 1 rfl rfl 1 (by omega) (by decide +kernel) dL_law_2374 dL_law_2375 dL_law_2377 dL_law_2378 dL_law_2379 ?_
  refine lw_arg K X W0.2.2.2 hl 5 1 rfl rfl 2 (by omega) (by decide +kernel) dL_law_2380 dL_law_2381 dL_law_2383 dL_law_2384 dL_law_2385 ?_
  refine lw_M (As := [.int (xs (i + 1)), .int (xs (i + 2))]) (rest := []) K C W0 k_X4_bakeCakes m_1565 (c_X4_bakeCakes (xs (i + 1)) (xs (i + 2)) M M' r e2) rfl rfl rfl hl.1 (Nat.le_of_ble_eq_true rfl) dL_law_2386 (by decide) ⟨by omega, by omega⟩ rfl (fun H locs W0 => ?_)
  refine lv_istore (lv' := [(6, .int r), (5, .int k), (0, .ref b), (1, .ref (G 0 0)), (2, .ref (Gm 0 0)), (3, .ref o), (4, .int (nI i))]) hx hb dL_law_2389 hl (by decide) rfl (fun ls hl => ?_)
  refine W.widen (k := cb + 3) (n := sb + 18) (by omega) (by omega) ?_
  exact lw_tail K C W0 hl 4 5 1 0 rfl rfl rfl rfl hp hz ⟨by omega, by omega⟩ dL_law_2391 dL_law_2392 dL_law_2395 dL_law_2397 dL_law_2402 dL_law_2404 dL_law_2407 dL_law_2408 dL_law_2409 dL_law_2410 dL_law_2412 dL_law_2413 dL_law_2414 dL_law_2419 (by decide) (fun H1 locs1 W1 => kk T' M' f' H1 locs1 ls hR W1 (lv_sub hl [2, 3, 4, 5, 6] rfl))
set_option maxHeartbeats 4000000 in
set_option maxRecDepth 100000 in
theorem lc_restore {p : Program} {l : Launch} {e : Env} {s : State} {m : MethodId} {args : Array Value} {below : List Frame} {meth : Method} {c : Code} {H : Heap} {locs : List Loc} {cb sb : Nat} {Q : State → Prop} {ls : Array Slot} {D : va_G} {Y : Nat → ClassId} {S V : Nat → Nat} {G Gm : Nat → Nat → Nat} {A : Nat → Prop} {cL : ClassId} {o : Nat} {f : Nat → Int64} {T M : zT} {b L i : Nat} {xs : Nat → Int32} (K : zLS p l s m args c) (C : zLC D Y S V G Gm A cL o s) (X : zLX b L xs A s) (hi : i + 5 < L) (h : zRel T M) (W0 : zLW D Y G Gm A cL o f s T M H locs) (hl : lv_has ls 9 [(0, .ref b), (1, .ref (G 0 0)), (2, .ref (Gm 0 0)), (3, .ref o), (4, .int (nI i))]) (hcb : cb + 3 ≤ 601024 ∧ sb + 18 ≤ 7293034)
    (kk : ∀ (T1 M1 : zT) (f1 : Nat → Int64) (H1 : Heap) (locs1 : List Loc) (ls1 : Array Slot), zRel T1 M1 → zLW D Y G Gm A cL o f1 s T1 M1 H1 locs1 → lv_has ls1 9 [(0, .ref b), (1, .ref (G 0 0)), (2, .ref (Gm 0 0)), (3, .ref o), (4, .int (nI i))] → W p l e room_1 s m args below meth c H1 locs1 (cb + 3) (sb + 18) Q (F0 m 2703 ls1 [])) : W p l e room_1 s m args below meth c H locs cb sb Q (F0 m 2422 ls []) := by
  obtain ⟨hx, hb, -⟩ := id K
  obtain ⟨hcb1, hcb2⟩ := hcb
  refine lv_aload_n hx hb dL_law_2422 rfl (lv_at hl 1 rfl) ?_
  refine lw_arg K X W0.2.2.2 hl 4 0 rfl rfl 1 (by omega) (by decide +kernel) dL_law_2423 dL_law_2424 dL_law_2426 dL_law_2427 dL_law_2428 ?_
  refine lv_aload_n hx hb dL_law_2429 rfl (lv_at hl 3 rfl) ?_
  obtain ⟨v, T', r, M', e1, e2, hR, hv, hz⟩ := zOpX.all (code := fun n => if n = 2 then 1 else 2) (o_restore h (xs (i + 1))) (fun x k hk => by simp at hk; rcases hk with ⟨rfl, rfl⟩ | ⟨rfl, rfl⟩ <;> decide +kernel)
  refine lw_C (As := [.ref (G 0 0), .int (xs (i + 1)), .ref o]) (rest := []) K C W0 kw_restore m_1015 (cw_restore (xs (i + 1)) T T' v e1 (fun n hn => by obtain ⟨k, hk⟩ := hv n hn; simp at hk; omega)) rfl rfl hl.1 (Nat.le_of_ble_eq_true rfl) dL_law_2430 (by decide) ⟨by omega, by omega⟩ rfl (fun H locs k f' hp W0 => ?_)
  refine lv_istore (lv' := [(5, .int k), (0, .ref b), (1, .ref (G 0 0)), (2, .ref (Gm 0 0)), (3, .ref o), (4, .int (nI i))]) hx hb dL_law_2433 hl (by decide) rfl (fun ls hl => ?_)
  refine lv_aload_n hx hb dL_law_2435 rfl (lv_at hl 3 rfl) ?_
  refine lw_arg K X W0.2.2.2 hl 5 1 rfl rfl 1 (by omega) (by decide +kernel) dL_law_2436 dL_law_2437 dL_law_2439 dL_law_2440 dL_law_2441 ?_
  refine lw_M (As := [.int (xs (i + 1))]) (rest := []) K C W0 k_X4_restore m_1569 (c_X4_restore (xs (i + 1)) M M' r e2) rfl rfl rfl hl.1 (Nat.le_of_ble_eq_true rfl) dL_law_2442 (by decide) ⟨by omega, by omega⟩ rfl (fun H locs W0 => ?_)
  refine lv_istore (lv' := [(6, .int r), (5, .int k), (0, .ref b), (1, .ref (G 0 0)), (2, .ref (Gm 0 0)), (3, .ref o), (4, .int (nI i))]) hx hb dL_law_2445 hl (by decide) rfl (fun ls hl => ?_)
  refine W.widen (k := cb + 3) (n := sb + 18) (by omega) (by omega) ?_
  exact lw_tail K C W0 hl 4 5 1 0 rfl rfl rfl rfl hp hz ⟨by omega, by omega⟩ dL_law_2447 dL_law_2448 dL_law_2451 dL_law_2453 dL_law_2458 dL_law_2460 dL_law_2463 dL_law_2464 dL_law_2465 dL_law_2466 dL_law_2468 dL_law_2469 dL_law_2470 dL_law_2475 (by decide) (fun H1 locs1 W1 => kk T' M' f' H1 locs1 ls hR W1 (lv_sub hl [2, 3, 4, 5, 6] rfl))
set_option maxHeartbeats 4000000 in
set_option maxRecDepth 100000 in
theorem lc_undo {p : Program} {l : Launch} {e : Env} {s : State} {m : MethodId} {args : Array Value} {below : List Frame} {meth : Method} {c : Code} {H : Heap} {locs : List Loc} {cb sb : Nat} {Q : State → Prop} {ls : Array Slot} {D : va_G} {Y : Nat → ClassId} {S V : Nat → Nat} {G Gm : Nat → Nat → Nat} {A : Nat → Prop} {cL : ClassId} {o : Nat} {f : Nat → Int64} {T M : zT} {b L i : Nat} {xs : Nat → Int32} (K : zLS p l s m args c) (C : zLC D Y S V G Gm A cL o s) (X : zLX b L xs A s) (hi : i + 5 < L) (h : zRel T M) (W0 : zLW D Y G Gm A cL o f s T M H locs) (hl : lv_has ls 9 [(0, .ref b), (1, .ref (G 0 0)), (2, .ref (Gm 0 0)), (3, .ref o), (4, .int (nI i))]) (hcb : cb + 3 ≤ 601024 ∧ sb + 18 ≤ 7293034)
    (kk : ∀ (T1 M1 : zT) (f1 : Nat → Int64) (H1 : Heap) (locs1 : List Loc) (ls1 : Array Slot), zRel T1 M1 → zLW D Y G Gm A cL o f1 s T1 M1 H1 locs1 → lv_has ls1 9 [(0, .ref b), (1, .ref (G 0 0)), (2, .ref (Gm 0 0)), (3, .ref o), (4, .int (nI i))] → W p l e room_1 s m args below meth c H1 locs1 (cb + 3) (sb + 18) Q (F0 m 2703 ls1 [])) : W p l e room_1 s m args below meth c H locs cb sb Q (F0 m 2478 ls []) := by
  obtain ⟨hx, hb, -⟩ := id K
  obtain ⟨hcb1, hcb2⟩ := hcb
  refine lv_aload_n hx hb dL_law_2478 rfl (lv_at hl 1 rfl) ?_
  refine lv_aload_n hx hb dL_law_2479 rfl (lv_at hl 3 rfl) ?_
  obtain ⟨v, T', r, M', e1, e2, hR, hv, hz⟩ := zOpX.all (code := fun n => 1) (o_undo h ) (fun x k hk => by simp at hk; obtain ⟨rfl, rfl⟩ := hk; decide +kernel)
  refine lw_C (As := [.ref (G 0 0), .ref o]) (rest := []) K C W0 kw_undo m_1035 (cw_undo  T T' v e1 (fun n hn => by obtain ⟨k, hk⟩ := hv n hn; simp at hk; omega)) rfl rfl hl.1 (Nat.le_of_ble_eq_true rfl) dL_law_2480 (by decide) ⟨by omega, by omega⟩ rfl (fun H locs k f' hp W0 => ?_)
  refine lv_istore (lv' := [(5, .int k), (0, .ref b), (1, .ref (G 0 0)), (2, .ref (Gm 0 0)), (3, .ref o), (4, .int (nI i))]) hx hb dL_law_2483 hl (by decide) rfl (fun ls hl => ?_)
  refine lv_aload_n hx hb dL_law_2485 rfl (lv_at hl 3 rfl) ?_
  refine lw_M (As := []) (rest := []) K C W0 k_X4_undo m_1573 (c_X4_undo  M M' r e2) rfl rfl rfl hl.1 (Nat.le_of_ble_eq_true rfl) dL_law_2486 (by decide) ⟨by omega, by omega⟩ rfl (fun H locs W0 => ?_)
  refine lv_istore (lv' := [(6, .int r), (5, .int k), (0, .ref b), (1, .ref (G 0 0)), (2, .ref (Gm 0 0)), (3, .ref o), (4, .int (nI i))]) hx hb dL_law_2489 hl (by decide) rfl (fun ls hl => ?_)
  refine W.widen (k := cb + 3) (n := sb + 18) (by omega) (by omega) ?_
  exact lw_tail K C W0 hl 4 5 1 0 rfl rfl rfl rfl hp hz ⟨by omega, by omega⟩ dL_law_2491 dL_law_2492 dL_law_2495 dL_law_2497 dL_law_2502 dL_law_2504 dL_law_2507 dL_law_2508 dL_law_2509 dL_law_2510 dL_law_2512 dL_law_2513 dL_law_2514 dL_law_2519 (by decide) (fun H1 locs1 W1 => kk T' M' f' H1 locs1 ls hR W1 (lv_sub hl [2, 3, 4, 5, 6] rfl))
set_option maxHeartbeats 4000000 in
set_option maxRecDepth 100000 in
theorem lc_save {p : Program} {l : Launch} {e : Env} {s : State} {m : MethodId} {args : Array Value} {below : List Frame} {meth : Method} {c : Code} {H : Heap} {locs : List Loc} {cb sb : Nat} {Q : State → Prop} {ls : Array Slot} {D : va_G} {Y : Nat → ClassId} {S V : Nat → Nat} {G Gm : Nat → Nat → Nat} {A : Nat → Prop} {cL : ClassId} {o : Nat} {f : Nat → Int64} {T M : zT} {b L i : Nat} {xs : Nat → Int32} (K : zLS p l s m args c) (C : zLC D Y S V G Gm A cL o s) (X : zLX b L xs A s) (hi : i + 5 < L) (h : zRel T M) (W0 : zLW D Y G Gm A cL o f s T M H locs) (hl : lv_has ls 9 [(0, .ref b), (1, .ref (G 0 0)), (2, .ref (Gm 0 0)), (3, .ref o), (4, .int (nI i))]) (hcb : cb + 3 ≤ 601024 ∧ sb + 18 ≤ 7293034)
    (kk : ∀ (T1 M1 : zT) (f1 : Nat → Int64) (H1 : Heap) (locs1 : List Loc) (ls1 : Array Slot), zRel T1 M1 → zLW D Y G Gm A cL o f1 s T1 M1 H1 locs1 → lv_has ls1 9 [(0, .ref b), (1, .ref (G 0 0)), (2, .ref (Gm 0 0)), (3, .ref o), (4, .int (nI i))] → W p l e room_1 s m args below meth c H1 locs1 (cb + 3) (sb + 18) Q (F0 m 2703 ls1 [])) : W p l e room_1 s m args below meth c H locs cb sb Q (F0 m 2522 ls []) := by
  obtain ⟨hx, hb, -⟩ := id K
  obtain ⟨hcb1, hcb2⟩ := hcb
  refine lv_aload_n hx hb dL_law_2522 rfl (lv_at hl 1 rfl) ?_
  refine lw_arg K X W0.2.2.2 hl 4 0 rfl rfl 1 (by omega) (by decide +kernel) dL_law_2523 dL_law_2524 dL_law_2526 dL_law_2527 dL_law_2528 ?_
  refine lv_aload_n hx hb dL_law_2529 rfl (lv_at hl 3 rfl) ?_
  obtain ⟨v, T', r, M', e1, e2, hR, hv, hz⟩ := zOpX.all (code := fun n => 1) (o_save h (xs (i + 1))) (fun x k hk => by simp at hk; obtain ⟨rfl, rfl⟩ := hk; decide +kernel)
  refine lw_C (As := [.ref (G 0 0), .int (xs (i + 1)), .ref o]) (rest := []) K C W0 kw_save m_1050 (cw_save (xs (i + 1)) T T' v e1 (fun n hn => by obtain ⟨k, hk⟩ := hv n hn; simp at hk; omega)) rfl rfl hl.1 (Nat.le_of_ble_eq_true rfl) dL_law_2530 (by decide) ⟨by omega, by omega⟩ rfl (fun H locs k f' hp W0 => ?_)
  refine lv_istore (lv' := [(5, .int k), (0, .ref b), (1, .ref (G 0 0)), (2, .ref (Gm 0 0)), (3, .ref o), (4, .int (nI i))]) hx hb dL_law_2533 hl (by decide) rfl (fun ls hl => ?_)
  refine lv_aload_n hx hb dL_law_2535 rfl (lv_at hl 3 rfl) ?_
  refine lw_arg K X W0.2.2.2 hl 5 1 rfl rfl 1 (by omega) (by decide +kernel) dL_law_2536 dL_law_2537 dL_law_2539 dL_law_2540 dL_law_2541 ?_
  refine lw_M (As := [.int (xs (i + 1))]) (rest := []) K C W0 k_X4_save m_1577 (c_X4_save (xs (i + 1)) M M' r e2) rfl rfl rfl hl.1 (Nat.le_of_ble_eq_true rfl) dL_law_2542 (by decide) ⟨by omega, by omega⟩ rfl (fun H locs W0 => ?_)
  refine lv_istore (lv' := [(6, .int r), (5, .int k), (0, .ref b), (1, .ref (G 0 0)), (2, .ref (Gm 0 0)), (3, .ref o), (4, .int (nI i))]) hx hb dL_law_2545 hl (by decide) rfl (fun ls hl => ?_)
  refine W.widen (k := cb + 3) (n := sb + 18) (by omega) (by omega) ?_
  exact lw_tail K C W0 hl 4 5 1 0 rfl rfl rfl rfl hp hz ⟨by omega, by omega⟩ dL_law_2547 dL_law_2548 dL_law_2551 dL_law_2553 dL_law_2558 dL_law_2560 dL_law_2563 dL_law_2564 dL_law_2565 dL_law_2566 dL_law_2568 dL_law_2569 dL_law_2570 dL_law_2575 (by decide) (fun H1 locs1 W1 => kk T' M' f' H1 locs1 ls hR W1 (lv_sub hl [2, 3, 4, 5, 6] rfl))
set_option maxHeartbeats 4000000 in
set_option maxRecDepth 100000 in
theorem lc_writeChild {p : Program} {l : Launch} {e : Env} {s : State} {m : MethodId} {args : Array Value} {below : List Frame} {meth : Method} {c : Code} {H : Heap} {locs : List Loc} {cb sb : Nat} {Q : State → Prop} {ls : Array Slot} {D : va_G} {Y : Nat → ClassId} {S V : Nat → Nat} {G Gm : Nat → Nat → Nat} {A : Nat → Prop} {cL : ClassId} {o : Nat} {f : Nat → Int64} {T M : zT} {b L i : Nat} {xs : Nat → Int32} (K : zLS p l s m args c) (C : zLC D Y S V G Gm A cL o s) (X : zLX b L xs A s) (hi : i + 5 < L) (h : zRel T M) (W0 : zLW D Y G Gm A cL o f s T M H locs) (hl : lv_has ls 9 [(0, .ref b), (1, .ref (G 0 0)), (2, .ref (Gm 0 0)), (3, .ref o), (4, .int (nI i))]) (hcb : cb + 3 ≤ 601024 ∧ sb + 18 ≤ 7293034)
    (kk : ∀ (T1 M1 : zT) (f1 : Nat → Int64) (H1 : Heap) (locs1 : List Loc) (ls1 : Array Slot), zRel T1 M1 → zLW D Y G Gm A cL o f1 s T1 M1 H1 locs1 → lv_has ls1 9 [(0, .ref b), (1, .ref (G 0 0)), (2, .ref (Gm 0 0)), (3, .ref o), (4, .int (nI i))] → W p l e room_1 s m args below meth c H1 locs1 (cb + 3) (sb + 18) Q (F0 m 2703 ls1 [])) : W p l e room_1 s m args below meth c H locs cb sb Q (F0 m 2578 ls []) := by
  obtain ⟨hx, hb, -⟩ := id K
  obtain ⟨hcb1, hcb2⟩ := hcb
  refine lv_aload_n hx hb dL_law_2578 rfl (lv_at hl 1 rfl) ?_
  refine lw_arg K X W0.2.2.2 hl 4 0 rfl rfl 1 (by omega) (by decide +kernel) dL_law_2579 dL_law_2580 dL_law_2582 dL_law_2583 dL_law_2584 ?_
  refine lv_aload_n hx hb dL_law_2585 rfl (lv_at hl 3 rfl) ?_
  obtain ⟨v, T', r, M', e1, e2, hR, hv, hz⟩ := zOpX.all (code := fun n => 1) (o_writeChild h (xs (i + 1))) (fun x k hk => by simp at hk; obtain ⟨rfl, rfl⟩ := hk; decide +kernel)
  refine lw_C (As := [.ref (G 0 0), .int (xs (i + 1)), .ref o]) (rest := []) K C W0 kw_writeChild m_1057 (cw_writeChild (xs (i + 1)) T T' v e1 (fun n hn => by obtain ⟨k, hk⟩ := hv n hn; simp at hk; omega)) rfl rfl hl.1 (Nat.le_of_ble_eq_true rfl) dL_law_2586 (by decide) ⟨by omega, by omega⟩ rfl (fun H locs k f' hp W0 => ?_)
  refine lv_istore (lv' := [(5, .int k), (0, .ref b), (1, .ref (G 0 0)), (2, .ref (Gm 0 0)), (3, .ref o), (4, .int (nI i))]) hx hb dL_law_2589 hl (by decide) rfl (fun ls hl => ?_)
  refine lv_aload_n hx hb dL_law_2591 rfl (lv_at hl 3 rfl) ?_
  refine lw_arg K X W0.2.2.2 hl 5 1 rfl rfl 1 (by omega) (by decide +kernel) dL_law_2592 dL_law_2593 dL_law_2595 dL_law_2596 dL_law_2597 ?_
  refine lw_M (As := [.int (xs (i + 1))]) (rest := []) K C W0 k_X4_writeChild m_1581 (c_X4_writeChild (xs (i + 1)) M M' r e2) rfl rfl rfl hl.1 (Nat.le_of_ble_eq_true rfl) dL_law_2598 (by decide) ⟨by omega, by omega⟩ rfl (fun H locs W0 => ?_)
  refine lv_istore (lv' := [(6, .int r), (5, .int k), (0, .ref b), (1, .ref (G 0 0)), (2, .ref (Gm 0 0)), (3, .ref o), (4, .int (nI i))]) hx hb dL_law_2601 hl (by decide) rfl (fun ls hl => ?_)
  refine W.widen (k := cb + 3) (n := sb + 18) (by omega) (by omega) ?_
  exact lw_tail K C W0 hl 4 5 1 0 rfl rfl rfl rfl hp hz ⟨by omega, by omega⟩ dL_law_2603 dL_law_2604 dL_law_2607 dL_law_2609 dL_law_2614 dL_law_2616 dL_law_2619 dL_law_2620 dL_law_2621 dL_law_2622 dL_law_2624 dL_law_2625 dL_law_2626 dL_law_2631 (by decide) (fun H1 locs1 W1 => kk T' M' f' H1 locs1 ls hR W1 (lv_sub hl [2, 3, 4, 5, 6] rfl))
set_option maxHeartbeats 4000000 in
set_option maxRecDepth 100000 in
theorem lc_writeDate {p : Program} {l : Launch} {e : Env} {s : State} {m : MethodId} {args : Array Value} {below : List Frame} {meth : Method} {c : Code} {H : Heap} {locs : List Loc} {cb sb : Nat} {Q : State → Prop} {ls : Array Slot} {D : va_G} {Y : Nat → ClassId} {S V : Nat → Nat} {G Gm : Nat → Nat → Nat} {A : Nat → Prop} {cL : ClassId} {o : Nat} {f : Nat → Int64} {T M : zT} {b L i : Nat} {xs : Nat → Int32} (K : zLS p l s m args c) (C : zLC D Y S V G Gm A cL o s) (X : zLX b L xs A s) (hi : i + 5 < L) (h : zRel T M) (W0 : zLW D Y G Gm A cL o f s T M H locs) (hl : lv_has ls 9 [(0, .ref b), (1, .ref (G 0 0)), (2, .ref (Gm 0 0)), (3, .ref o), (4, .int (nI i))]) (hcb : cb + 3 ≤ 601024 ∧ sb + 18 ≤ 7293034)
    (kk : ∀ (T1 M1 : zT) (f1 : Nat → Int64) (H1 : Heap) (locs1 : List Loc) (ls1 : Array Slot), zRel T1 M1 → zLW D Y G Gm A cL o f1 s T1 M1 H1 locs1 → lv_has ls1 9 [(0, .ref b), (1, .ref (G 0 0)), (2, .ref (Gm 0 0)), (3, .ref o), (4, .int (nI i))] → W p l e room_1 s m args below meth c H1 locs1 (cb + 3) (sb + 18) Q (F0 m 2703 ls1 [])) : W p l e room_1 s m args below meth c H locs cb sb Q (F0 m 2634 ls []) := by
  obtain ⟨hx, hb, -⟩ := id K
  obtain ⟨hcb1, hcb2⟩ := hcb
  obtain ⟨v, T', M', e1, e2, hR⟩ := o_writeDate h
  refine lv_aload_n hx hb dL_law_2634 rfl (lv_at hl 1 rfl) ?_
  refine lw_X (As := []) (rest := []) K C W0 k_X3_writeDate m_636 (c_X3_writeDate T T' v e1) rfl rfl rfl hl.1 (Nat.le_of_ble_eq_true rfl) dL_law_2635 (by decide) ⟨by omega, by omega⟩ rfl (fun H locs W0 => ?_)
  refine lv_aload_n hx hb dL_law_2638 rfl (lv_at hl 2 rfl) ?_
  refine lw_M (As := []) (rest := [.int v]) K C W0 k_X4_writeDate m_1593 (c_X4_writeDate M M' v e2) rfl rfl rfl hl.1 (Nat.le_of_ble_eq_true rfl) dL_law_2639 (by decide) ⟨by omega, by omega⟩ rfl (fun H locs W0 => ?_)
  refine lv_icmp_eq (tgt := 2703) hx hb dL_law_2642 (by decide) (fun _ => ?_) (fun hc => absurd rfl hc)
  refine W.widen (k := cb + 3) (n := sb + 18) (by omega) (by omega) ?_
  exact kk T' M' f H locs ls hR W0 hl
set_option maxHeartbeats 4000000 in
set_option maxRecDepth 100000 in
theorem lc_outputByte {p : Program} {l : Launch} {e : Env} {s : State} {m : MethodId} {args : Array Value} {below : List Frame} {meth : Method} {c : Code} {H : Heap} {locs : List Loc} {cb sb : Nat} {Q : State → Prop} {ls : Array Slot} {D : va_G} {Y : Nat → ClassId} {S V : Nat → Nat} {G Gm : Nat → Nat → Nat} {A : Nat → Prop} {cL : ClassId} {o : Nat} {f : Nat → Int64} {T M : zT} {b L i : Nat} {xs : Nat → Int32} (K : zLS p l s m args c) (C : zLC D Y S V G Gm A cL o s) (X : zLX b L xs A s) (hi : i + 5 < L) (h : zRel T M) (W0 : zLW D Y G Gm A cL o f s T M H locs) (hl : lv_has ls 9 [(0, .ref b), (1, .ref (G 0 0)), (2, .ref (Gm 0 0)), (3, .ref o), (4, .int (nI i))]) (hcb : cb + 3 ≤ 601024 ∧ sb + 18 ≤ 7293034)
    (kk : ∀ (T1 M1 : zT) (f1 : Nat → Int64) (H1 : Heap) (locs1 : List Loc) (ls1 : Array Slot), zRel T1 M1 → zLW D Y G Gm A cL o f1 s T1 M1 H1 locs1 → lv_has ls1 9 [(0, .ref b), (1, .ref (G 0 0)), (2, .ref (Gm 0 0)), (3, .ref o), (4, .int (nI i))] → W p l e room_1 s m args below meth c H1 locs1 (cb + 3) (sb + 18) Q (F0 m 2703 ls1 [])) : W p l e room_1 s m args below meth c H locs cb sb Q (F0 m 2647 ls []) := by
  obtain ⟨hx, hb, -⟩ := id K
  obtain ⟨hcb1, hcb2⟩ := hcb
  refine lv_aload_n hx hb dL_law_2647 rfl (lv_at hl 1 rfl) ?_
  refine lw_arg K X W0.2.2.2 hl 4 0 rfl rfl 1 (by omega) (by decide +kernel) dL_law_2648 dL_law_2649 dL_law_2651 dL_law_2652 dL_law_2653 ?_
  refine lv_aload_n hx hb dL_law_2654 rfl (lv_at hl 3 rfl) ?_
  obtain ⟨v, T', r, M', e1, e2, hR, hv, hz⟩ := zOpX.all (code := fun n => 1) (o_outputByte h (xs (i + 1))) (fun x k hk => by simp at hk; obtain ⟨rfl, rfl⟩ := hk; decide +kernel)
  refine lw_C (As := [.ref (G 0 0), .int (xs (i + 1)), .ref o]) (rest := []) K C W0 kw_outputByte m_1069 (cw_outputByte (xs (i + 1)) T T' v e1 (fun n hn => by obtain ⟨k, hk⟩ := hv n hn; simp at hk; omega)) rfl rfl hl.1 (Nat.le_of_ble_eq_true rfl) dL_law_2655 (by decide) ⟨by omega, by omega⟩ rfl (fun H locs k f' hp W0 => ?_)
  refine lv_istore (lv' := [(5, .int k), (0, .ref b), (1, .ref (G 0 0)), (2, .ref (Gm 0 0)), (3, .ref o), (4, .int (nI i))]) hx hb dL_law_2658 hl (by decide) rfl (fun ls hl => ?_)
  refine lv_aload_n hx hb dL_law_2660 rfl (lv_at hl 3 rfl) ?_
  refine lw_arg K X W0.2.2.2 hl 5 1 rfl rfl 1 (by omega) (by decide +kernel) dL_law_2661 dL_law_2662 dL_law_2664 dL_law_2665 dL_law_2666 ?_
  refine lw_M (As := [.int (xs (i + 1))]) (rest := []) K C W0 k_X4_outputByte m_1597 (c_X4_outputByte (xs (i + 1)) M M' r e2) rfl rfl rfl hl.1 (Nat.le_of_ble_eq_true rfl) dL_law_2667 (by decide) ⟨by omega, by omega⟩ rfl (fun H locs W0 => ?_)
  refine lv_istore (lv' := [(6, .int r), (5, .int k), (0, .ref b), (1, .ref (G 0 0)), (2, .ref (Gm 0 0)), (3, .ref o), (4, .int (nI i))]) hx hb dL_law_2670 hl (by decide) rfl (fun ls hl => ?_)
  refine W.widen (k := cb + 3) (n := sb + 18) (by omega) (by omega) ?_
  exact lw_tail K C W0 hl 4 5 1 0 rfl rfl rfl rfl hp hz ⟨by omega, by omega⟩ dL_law_2672 dL_law_2673 dL_law_2676 dL_law_2678 dL_law_2683 dL_law_2685 dL_law_2688 dL_law_2689 dL_law_2690 dL_law_2691 dL_law_2693 dL_law_2694 dL_law_2695 dL_law_2700 (by decide) (fun H1 locs1 W1 => kk T' M' f' H1 locs1 ls hR W1 (lv_sub hl [2, 3, 4, 5, 6] rfl))
