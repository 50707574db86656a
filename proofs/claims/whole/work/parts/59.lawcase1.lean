/-! THE LAW'S CASES, by program -/
set_option maxHeartbeats 4000000 in
set_option maxRecDepth 100000 in
theorem lc_ageOf {p : Program} {l : Launch} {e : Env} {s : State} {m : MethodId} {args : Array Value} {below : List Frame} {meth : Method} {c : Code} {H : Heap} {locs : List Loc} {cb sb : Nat} {Q : State → Prop} {ls : Array Slot} {D : va_G} {Y : Nat → ClassId} {S V : Nat → Nat} {G Gm : Nat → Nat → Nat} {A : Nat → Prop} {cL : ClassId} {o : Nat} {f : Nat → Int64} {T M : zT} {b L i : Nat} {xs : Nat → Int32} (K : zLS p l s m args c) (C : zLC D Y S V G Gm A cL o s) (X : zLX b L xs A s) (hi : i + 5 < L) (h : zRel T M) (W0 : zLW D Y G Gm A cL o f s T M H locs) (hl : lv_has ls 9 [(0, .ref b), (1, .ref (G 0 0)), (2, .ref (Gm 0 0)), (3, .ref o), (4, .int (nI i))]) (hcb : cb + 3 ≤ 601024 ∧ sb + 18 ≤ 7293034)
    (kk : ∀ (T1 M1 : zT) (f1 : Nat → Int64) (H1 : Heap) (locs1 : List Loc) (ls1 : Array Slot), zRel T1 M1 → zLW D Y G Gm A cL o f1 s T1 M1 H1 locs1 → lv_has ls1 9 [(0, .ref b), (1, .ref (G 0 0)), (2, .ref (Gm 0 0)), (3, .ref o), (4, .int (nI i))] → W p l e room_1 s m args below meth c H1 locs1 (cb + 3) (sb + 18) Q (F0 m 2703 ls1 [])) : W p l e room_1 s m args below meth c H locs cb sb Q (F0 m 939 ls []) := by
  obtain ⟨hx, hb, -⟩ := id K
  obtain ⟨hcb1, hcb2⟩ := hcb
  refine lv_aload_n hx hb dL_law_939 rfl (lv_at hl 1 rfl) ?_
  refine lw_arg K X W0.2.2.2 hl 4 0 rfl rfl 1 (by omega) (by decide +kernel) dL_law_940 dL_law_941 dL_law_943 dL_law_944 dL_law_945 ?_
  refine lv_aload_n hx hb dL_law_946 rfl (lv_at hl 3 rfl) ?_
  obtain ⟨v, T', r, M', e1, e2, hR, hv, hz⟩ := zOpX.all (code := fun n => 1) (o_ageOf h (xs (i + 1))) (fun x k hk => by simp at hk; obtain ⟨rfl, rfl⟩ := hk; decide +kernel)
  refine lw_C (As := [.ref (G 0 0), .int (xs (i + 1)), .ref o]) (rest := []) K C W0 kw_ageOf m_835 (cw_ageOf (xs (i + 1)) T T' v e1 (fun n hn => by obtain ⟨k, hk⟩ := hv n hn; simp at hk; omega)) rfl rfl hl.1 (Nat.le_of_ble_eq_true rfl) dL_law_947 (by decide) ⟨by omega, by omega⟩ rfl (fun H locs k f' hp W0 => ?_)
  refine lv_istore (lv' := [(5, .int k), (0, .ref b), (1, .ref (G 0 0)), (2, .ref (Gm 0 0)), (3, .ref o), (4, .int (nI i))]) hx hb dL_law_950 hl (by decide) rfl (fun ls hl => ?_)
  refine lv_aload_n hx hb dL_law_952 rfl (lv_at hl 3 rfl) ?_
  refine lw_arg K X W0.2.2.2 hl 5 1 rfl rfl 1 (by omega) (by decide +kernel) dL_law_953 dL_law_954 dL_law_956 dL_law_957 dL_law_958 ?_
  refine lw_M (As := [.int (xs (i + 1))]) (rest := []) K C W0 k_X4_ageOf m_1418 (c_X4_ageOf (xs (i + 1)) M M' r e2) rfl rfl rfl hl.1 (Nat.le_of_ble_eq_true rfl) dL_law_959 (by decide) ⟨by omega, by omega⟩ rfl (fun H locs W0 => ?_)
  refine lv_istore (lv' := [(6, .int r), (5, .int k), (0, .ref b), (1, .ref (G 0 0)), (2, .ref (Gm 0 0)), (3, .ref o), (4, .int (nI i))]) hx hb dL_law_962 hl (by decide) rfl (fun ls hl => ?_)
  refine W.widen (k := cb + 3) (n := sb + 18) (by omega) (by omega) ?_
  exact lw_tail K C W0 hl 4 5 1 0 rfl rfl rfl rfl hp hz ⟨by omega, by omega⟩ dL_law_964 dL_law_965 dL_law_968 dL_law_970 dL_law_975 dL_law_977 dL_law_980 dL_law_981 dL_law_982 dL_law_983 dL_law_985 dL_law_986 dL_law_987 dL_law_992 (by decide) (fun H1 locs1 W1 => kk T' M' f' H1 locs1 ls hR W1 (lv_sub hl [2, 3, 4, 5, 6] rfl))
set_option maxHeartbeats 4000000 in
set_option maxRecDepth 100000 in
theorem lc_gardenOf {p : Program} {l : Launch} {e : Env} {s : State} {m : MethodId} {args : Array Value} {below : List Frame} {meth : Method} {c : Code} {H : Heap} {locs : List Loc} {cb sb : Nat} {Q : State → Prop} {ls : Array Slot} {D : va_G} {Y : Nat → ClassId} {S V : Nat → Nat} {G Gm : Nat → Nat → Nat} {A : Nat → Prop} {cL : ClassId} {o : Nat} {f : Nat → Int64} {T M : zT} {b L i : Nat} {xs : Nat → Int32} (K : zLS p l s m args c) (C : zLC D Y S V G Gm A cL o s) (X : zLX b L xs A s) (hi : i + 5 < L) (h : zRel T M) (W0 : zLW D Y G Gm A cL o f s T M H locs) (hl : lv_has ls 9 [(0, .ref b), (1, .ref (G 0 0)), (2, .ref (Gm 0 0)), (3, .ref o), (4, .int (nI i))]) (hcb : cb + 3 ≤ 601024 ∧ sb + 18 ≤ 7293034)
    (kk : ∀ (T1 M1 : zT) (f1 : Nat → Int64) (H1 : Heap) (locs1 : List Loc) (ls1 : Array Slot), zRel T1 M1 → zLW D Y G Gm A cL o f1 s T1 M1 H1 locs1 → lv_has ls1 9 [(0, .ref b), (1, .ref (G 0 0)), (2, .ref (Gm 0 0)), (3, .ref o), (4, .int (nI i))] → W p l e room_1 s m args below meth c H1 locs1 (cb + 3) (sb + 18) Q (F0 m 2703 ls1 [])) : W p l e room_1 s m args below meth c H locs cb sb Q (F0 m 995 ls []) := by
  obtain ⟨hx, hb, -⟩ := id K
  obtain ⟨hcb1, hcb2⟩ := hcb
  refine lv_aload_n hx hb dL_law_995 rfl (lv_at hl 1 rfl) ?_
  refine lw_arg K X W0.2.2.2 hl 4 0 rfl rfl 1 (by omega) (by decide +kernel) dL_law_996 dL_law_997 dL_law_999 dL_law_1000 dL_law_1001 ?_
  refine lv_aload_n hx hb dL_law_1002 rfl (lv_at hl 3 rfl) ?_
  obtain ⟨v, T', r, M', e1, e2, hR, hv, hz⟩ := zOpX.all (code := fun n => 1) (o_gardenOf h (xs (i + 1))) (fun x k hk => by simp at hk; obtain ⟨rfl, rfl⟩ := hk; decide +kernel)
  refine lw_C (As := [.ref (G 0 0), .int (xs (i + 1)), .ref o]) (rest := []) K C W0 kw_gardenOf m_842 (cw_gardenOf (xs (i + 1)) T T' v e1 (fun n hn => by obtain ⟨k, hk⟩ := hv n hn; simp at hk; omega)) rfl rfl hl.1 (Nat.le_of_ble_eq_true rfl) dL_law_1003 (by decide) ⟨by omega, by omega⟩ rfl (fun H locs k f' hp W0 => ?_)
  refine lv_istore (lv' := [(5, .int k), (0, .ref b), (1, .ref (G 0 0)), (2, .ref (Gm 0 0)), (3, .ref o), (4, .int (nI i))]) hx hb dL_law_1006 hl (by decide) rfl (fun ls hl => ?_)
  refine lv_aload_n hx hb dL_law_1008 rfl (lv_at hl 3 rfl) ?_
  refine lw_arg K X W0.2.2.2 hl 5 1 rfl rfl 1 (by omega) (by decide +kernel) dL_law_1009 dL_law_1010 dL_law_1012 dL_law_1013 dL_law_1014 ?_
  refine lw_M (As := [.int (xs (i + 1))]) (rest := []) K C W0 k_X4_gardenOf m_1422 (c_X4_gardenOf (xs (i + 1)) M M' r e2) rfl rfl rfl hl.1 (Nat.le_of_ble_eq_true rfl) dL_law_1015 (by decide) ⟨by omega, by omega⟩ rfl (fun H locs W0 => ?_)
  refine lv_istore (lv' := [(6, .int r), (5, .int k), (0, .ref b), (1, .ref (G 0 0)), (2, .ref (Gm 0 0)), (3, .ref o), (4, .int (nI i))]) hx hb dL_law_1018 hl (by decide) rfl (fun ls hl => ?_)
  refine W.widen (k := cb + 3) (n := sb + 18) (by omega) (by omega) ?_
  exact lw_tail K C W0 hl 4 5 1 0 rfl rfl rfl rfl hp hz ⟨by omega, by omega⟩ dL_law_1020 dL_law_1021 dL_law_1024 dL_law_1026 dL_law_1031 dL_law_1033 dL_law_1036 dL_law_1037 dL_law_1038 dL_law_1039 dL_law_1041 dL_law_1042 dL_law_1043 dL_law_1048 (by decide) (fun H1 locs1 W1 => kk T' M' f' H1 locs1 ls hR W1 (lv_sub hl [2, 3, 4, 5, 6] rfl))
set_option maxHeartbeats 4000000 in
set_option maxRecDepth 100000 in
theorem lc_birthdayOf {p : Program} {l : Launch} {e : Env} {s : State} {m : MethodId} {args : Array Value} {below : List Frame} {meth : Method} {c : Code} {H : Heap} {locs : List Loc} {cb sb : Nat} {Q : State → Prop} {ls : Array Slot} {D : va_G} {Y : Nat → ClassId} {S V : Nat → Nat} {G Gm : Nat → Nat → Nat} {A : Nat → Prop} {cL : ClassId} {o : Nat} {f : Nat → Int64} {T M : zT} {b L i : Nat} {xs : Nat → Int32} (K : zLS p l s m args c) (C : zLC D Y S V G Gm A cL o s) (X : zLX b L xs A s) (hi : i + 5 < L) (h : zRel T M) (W0 : zLW D Y G Gm A cL o f s T M H locs) (hl : lv_has ls 9 [(0, .ref b), (1, .ref (G 0 0)), (2, .ref (Gm 0 0)), (3, .ref o), (4, .int (nI i))]) (hcb : cb + 3 ≤ 601024 ∧ sb + 18 ≤ 7293034)
    (kk : ∀ (T1 M1 : zT) (f1 : Nat → Int64) (H1 : Heap) (locs1 : List Loc) (ls1 : Array Slot), zRel T1 M1 → zLW D Y G Gm A cL o f1 s T1 M1 H1 locs1 → lv_has ls1 9 [(0, .ref b), (1, .ref (G 0 0)), (2, .ref (Gm 0 0)), (3, .ref o), (4, .int (nI i))] → W p l e room_1 s m args below meth c H1 locs1 (cb + 3) (sb + 18) Q (F0 m 2703 ls1 [])) : W p l e room_1 s m args below meth c H locs cb sb Q (F0 m 1051 ls []) := by
  obtain ⟨hx, hb, -⟩ := id K
  obtain ⟨hcb1, hcb2⟩ := hcb
  refine lv_aload_n hx hb dL_law_1051 rfl (lv_at hl 1 rfl) ?_
  refine lw_arg K X W0.2.2.2 hl 4 0 rfl rfl 1 (by omega) (by decide +kernel) dL_law_1052 dL_law_1053 dL_law_1055 dL_law_1056 dL_law_1057 ?_
  refine lv_aload_n hx hb dL_law_1058 rfl (lv_at hl 3 rfl) ?_
  obtain ⟨v, T', r, M', e1, e2, hR, hv, hz⟩ := zOpX.all (code := fun n => 1) (o_birthdayOf h (xs (i + 1))) (fun x k hk => by simp at hk; obtain ⟨rfl, rfl⟩ := hk; decide +kernel)
  refine lw_C (As := [.ref (G 0 0), .int (xs (i + 1)), .ref o]) (rest := []) K C W0 kw_birthdayOf m_849 (cw_birthdayOf (xs (i + 1)) T T' v e1 (fun n hn => by obtain ⟨k, hk⟩ := hv n hn; simp at hk; omega)) rfl rfl hl.1 (Nat.le_of_ble_eq_true rfl) dL_law_1059 (by decide) ⟨by omega, by omega⟩ rfl (fun H locs k f' hp W0 => ?_)
  refine lv_istore (lv' := [(5, .int k), (0, .ref b), (1, .ref (G 0 0)), (2, .ref (Gm 0 0)), (3, .ref o), (4, .int (nI i))]) hx hb dL_law_1062 hl (by decide) rfl (fun ls hl => ?_)
  refine lv_aload_n hx hb dL_law_1064 rfl (lv_at hl 3 rfl) ?_
  refine lw_arg K X W0.2.2.2 hl 5 1 rfl rfl 1 (by omega) (by decide +kernel) dL_law_1065 dL_law_1066 dL_law_1068 dL_law_1069 dL_law_1070 ?_
  refine lw_M (As := [.int (xs (i + 1))]) (rest := []) K C W0 k_X4_birthdayOf m_1426 (c_X4_birthdayOf (xs (i + 1)) M M' r e2) rfl rfl rfl hl.1 (Nat.le_of_ble_eq_true rfl) dL_law_1071 (by decide) ⟨by omega, by omega⟩ rfl (fun H locs W0 => ?_)
  refine lv_istore (lv' := [(6, .int r), (5, .int k), (0, .ref b), (1, .ref (G 0 0)), (2, .ref (Gm 0 0)), (3, .ref o), (4, .int (nI i))]) hx hb dL_law_1074 hl (by decide) rfl (fun ls hl => ?_)
  refine W.widen (k := cb + 3) (n := sb + 18) (by omega) (by omega) ?_
  exact lw_tail K C W0 hl 4 5 1 0 rfl rfl rfl rfl hp hz ⟨by omega, by omega⟩ dL_law_1076 dL_law_1077 dL_law_1080 dL_law_1082 dL_law_1087 dL_law_1089 dL_law_1092 dL_law_1093 dL_law_1094 dL_law_1095 dL_law_1097 dL_law_1098 dL_law_1099 dL_law_1104 (by decide) (fun H1 locs1 W1 => kk T' M' f' H1 locs1 ls hR W1 (lv_sub hl [2, 3, 4, 5, 6] rfl))
set_option maxHeartbeats 4000000 in
set_option maxRecDepth 100000 in
theorem lc_daysUntilBirthday {p : Program} {l : Launch} {e : Env} {s : State} {m : MethodId} {args : Array Value} {below : List Frame} {meth : Method} {c : Code} {H : Heap} {locs : List Loc} {cb sb : Nat} {Q : State → Prop} {ls : Array Slot} {D : va_G} {Y : Nat → ClassId} {S V : Nat → Nat} {G Gm : Nat → Nat → Nat} {A : Nat → Prop} {cL : ClassId} {o : Nat} {f : Nat → Int64} {T M : zT} {b L i : Nat} {xs : Nat → Int32} (K : zLS p l s m args c) (C : zLC D Y S V G Gm A cL o s) (X : zLX b L xs A s) (hi : i + 5 < L) (h : zRel T M) (W0 : zLW D Y G Gm A cL o f s T M H locs) (hl : lv_has ls 9 [(0, .ref b), (1, .ref (G 0 0)), (2, .ref (Gm 0 0)), (3, .ref o), (4, .int (nI i))]) (hcb : cb + 3 ≤ 601024 ∧ sb + 18 ≤ 7293034)
    (kk : ∀ (T1 M1 : zT) (f1 : Nat → Int64) (H1 : Heap) (locs1 : List Loc) (ls1 : Array Slot), zRel T1 M1 → zLW D Y G Gm A cL o f1 s T1 M1 H1 locs1 → lv_has ls1 9 [(0, .ref b), (1, .ref (G 0 0)), (2, .ref (Gm 0 0)), (3, .ref o), (4, .int (nI i))] → W p l e room_1 s m args below meth c H1 locs1 (cb + 3) (sb + 18) Q (F0 m 2703 ls1 [])) : W p l e room_1 s m args below meth c H locs cb sb Q (F0 m 1107 ls []) := by
  obtain ⟨hx, hb, -⟩ := id K
  obtain ⟨hcb1, hcb2⟩ := hcb
  refine lv_aload_n hx hb dL_law_1107 rfl (lv_at hl 1 rfl) ?_
  refine lw_arg K X W0.2.2.2 hl 4 0 rfl rfl 1 (by omega) (by decide +kernel) dL_law_1108 dL_law_1109 dL_law_1111 dL_law_1112 dL_law_1113 ?_
  refine lv_aload_n hx hb dL_law_1114 rfl (lv_at hl 3 rfl) ?_
  obtain ⟨v, T', r, M', e1, e2, hR, hv, hz⟩ := zOpX.all (code := fun n => 1) (o_daysUntilBirthday h (xs (i + 1))) (fun x k hk => by simp at hk; obtain ⟨rfl, rfl⟩ := hk; decide +kernel)
  refine lw_C (As := [.ref (G 0 0), .int (xs (i + 1)), .ref o]) (rest := []) K C W0 kw_daysUntilBirthday m_856 (cw_daysUntilBirthday (xs (i + 1)) T T' v e1 (fun n hn => by obtain ⟨k, hk⟩ := hv n hn; simp at hk; omega)) rfl rfl hl.1 (Nat.le_of_ble_eq_true rfl) dL_law_1115 (by decide) ⟨by omega, by omega⟩ rfl (fun H locs k f' hp W0 => ?_)
  refine lv_istore (lv' := [(5, .int k), (0, .ref b), (1, .ref (G 0 0)), (2, .ref (Gm 0 0)), (3, .ref o), (4, .int (nI i))]) hx hb dL_law_1118 hl (by decide) rfl (fun ls hl => ?_)
  refine lv_aload_n hx hb dL_law_1120 rfl (lv_at hl 3 rfl) ?_
  refine lw_arg K X W0.2.2.2 hl 5 1 rfl rfl 1 (by omega) (by decide +kernel) dL_law_1121 dL_law_1122 dL_law_1124 dL_law_1125 dL_law_1126 ?_
  refine lw_M (As := [.int (xs (i + 1))]) (rest := []) K C W0 k_X4_daysUntilBirthday m_1430 (c_X4_daysUntilBirthday (xs (i + 1)) M M' r e2) rfl rfl rfl hl.1 (Nat.le_of_ble_eq_true rfl) dL_law_1127 (by decide) ⟨by omega, by omega⟩ rfl (fun H locs W0 => ?_)
  refine lv_istore (lv' := [(6, .int r), (5, .int k), (0, .ref b), (1, .ref (G 0 0)), (2, .ref (Gm 0 0)), (3, .ref o), (4, .int (nI i))]) hx hb dL_law_1130 hl (by decide) rfl (fun ls hl => ?_)
  refine W.widen (k := cb + 3) (n := sb + 18) (by omega) (by omega) ?_
  exact lw_tail K C W0 hl 4 5 1 0 rfl rfl rfl rfl hp hz ⟨by omega, by omega⟩ dL_law_1132 dL_law_1133 dL_law_1136 dL_law_1138 dL_law_1143 dL_law_1145 dL_law_1148 dL_law_1149 dL_law_1150 dL_law_1151 dL_law_1153 dL_law_1154 dL_law_1155 dL_law_1160 (by decide) (fun H1 locs1 W1 => kk T' M' f' H1 locs1 ls hR W1 (lv_sub hl [2, 3, 4, 5, 6] rfl))
set_option maxHeartbeats 4000000 in
set_option maxRecDepth 100000 in
theorem lc_partiesOf {p : Program} {l : Launch} {e : Env} {s : State} {m : MethodId} {args : Array Value} {below : List Frame} {meth : Method} {c : Code} {H : Heap} {locs : List Loc} {cb sb : Nat} {Q : State → Prop} {ls : Array Slot} {D : va_G} {Y : Nat → ClassId} {S V : Nat → Nat} {G Gm : Nat → Nat → Nat} {A : Nat → Prop} {cL : ClassId} {o : Nat} {f : Nat → Int64} {T M : zT} {b L i : Nat} {xs : Nat → Int32} (K : zLS p l s m args c) (C : zLC D Y S V G Gm A cL o s) (X : zLX b L xs A s) (hi : i + 5 < L) (h : zRel T M) (W0 : zLW D Y G Gm A cL o f s T M H locs) (hl : lv_has ls 9 [(0, .ref b), (1, .ref (G 0 0)), (2, .ref (Gm 0 0)), (3, .ref o), (4, .int (nI i))]) (hcb : cb + 3 ≤ 601024 ∧ sb + 18 ≤ 7293034)
    (kk : ∀ (T1 M1 : zT) (f1 : Nat → Int64) (H1 : Heap) (locs1 : List Loc) (ls1 : Array Slot), zRel T1 M1 → zLW D Y G Gm A cL o f1 s T1 M1 H1 locs1 → lv_has ls1 9 [(0, .ref b), (1, .ref (G 0 0)), (2, .ref (Gm 0 0)), (3, .ref o), (4, .int (nI i))] → W p l e room_1 s m args below meth c H1 locs1 (cb + 3) (sb + 18) Q (F0 m 2703 ls1 [])) : W p l e room_1 s m args below meth c H locs cb sb Q (F0 m 1163 ls []) := by
  obtain ⟨hx, hb, -⟩ := id K
  obtain ⟨hcb1, hcb2⟩ := hcb
  refine lv_aload_n hx hb dL_law_1163 rfl (lv_at hl 1 rfl) ?_
  refine lw_arg K X W0.2.2.2 hl 4 0 rfl rfl 1 (by omega) (by decide +kernel) dL_law_1164 dL_law_1165 dL_law_1167 dL_law_1168 dL_law_1169 ?_
  refine lv_aload_n hx hb dL_law_1170 rfl (lv_at hl 3 rfl) ?_
  obtain ⟨v, T', r, M', e1, e2, hR, hv, hz⟩ := zOpX.all (code := fun n => 1) (o_partiesOf h (xs (i + 1))) (fun x k hk => by simp at hk; obtain ⟨rfl, rfl⟩ := hk; decide +kernel)
  refine lw_C (As := [.ref (G 0 0), .int (xs (i + 1)), .ref o]) (rest := []) K C W0 kw_partiesOf m_863 (cw_partiesOf (xs (i + 1)) T T' v e1 (fun n hn => by obtain ⟨k, hk⟩ := hv n hn; simp at hk; omega)) rfl rfl hl.1 (Nat.le_of_ble_eq_true rfl) dL_law_1171 (by decide) ⟨by omega, by omega⟩ rfl (fun H locs k f' hp W0 => ?_)
  refine lv_istore (lv' := [(5, .int k), (0, .ref b), (1, .ref (G 0 0)), (2, .ref (Gm 0 0)), (3, .ref o), (4, .int (nI i))]) hx hb dL_law_1174 hl (by decide) rfl (fun ls hl => ?_)
  refine lv_aload_n hx hb dL_law_1176 rfl (lv_at hl 3 rfl) ?_
  refine lw_arg K X W0.2.2.2 hl 5 1 rfl rfl 1 (by omega) (by decide +kernel) dL_law_1177 dL_law_1178 dL_law_1180 dL_law_1181 dL_law_1182 ?_
  refine lw_M (As := [.int (xs (i + 1))]) (rest := []) K C W0 k_X4_partiesOf m_1442 (c_X4_partiesOf (xs (i + 1)) M M' r e2) rfl rfl rfl hl.1 (Nat.le_of_ble_eq_true rfl) dL_law_1183 (by decide) ⟨by omega, by omega⟩ rfl (fun H locs W0 => ?_)
  refine lv_istore (lv' := [(6, .int r), (5, .int k), (0, .ref b), (1, .ref (G 0 0)), (2, .ref (Gm 0 0)), (3, .ref o), (4, .int (nI i))]) hx hb dL_law_1186 hl (by decide) rfl (fun ls hl => ?_)
  refine W.widen (k := cb + 3) (n := sb + 18) (by omega) (by omega) ?_
  exact lw_tail K C W0 hl 4 5 1 0 rfl rfl rfl rfl hp hz ⟨by omega, by omega⟩ dL_law_1188 dL_law_1189 dL_law_1192 dL_law_1194 dL_law_1199 dL_law_1201 dL_law_1204 dL_law_1205 dL_law_1206 dL_law_1207 dL_law_1209 dL_law_1210 dL_law_1211 dL_law_1216 (by decide) (fun H1 locs1 W1 => kk T' M' f' H1 locs1 ls hR W1 (lv_sub hl [2, 3, 4, 5, 6] rfl))
set_option maxHeartbeats 4000000 in
set_option maxRecDepth 100000 in
theorem lc_wishesOf {p : Program} {l : Launch} {e : Env} {s : State} {m : MethodId} {args : Array Value} {below : List Frame} {meth : Method} {c : Code} {H : Heap} {locs : List Loc} {cb sb : Nat} {Q : State → Prop} {ls : Array Slot} {D : va_G} {Y : Nat → ClassId} {S V : Nat → Nat} {G Gm : Nat → Nat → Nat} {A : Nat → Prop} {cL : ClassId} {o : Nat} {f : Nat → Int64} {T M : zT} {b L i : Nat} {xs : Nat → Int32} (K : zLS p l s m args c) (C : zLC D Y S V G Gm A cL o s) (X : zLX b L xs A s) (hi : i + 5 < L) (h : zRel T M) (W0 : zLW D Y G Gm A cL o f s T M H locs) (hl : lv_has ls 9 [(0, .ref b), (1, .ref (G 0 0)), (2, .ref (Gm 0 0)), (3, .ref o), (4, .int (nI i))]) (hcb : cb + 3 ≤ 601024 ∧ sb + 18 ≤ 7293034)
    (kk : ∀ (T1 M1 : zT) (f1 : Nat → Int64) (H1 : Heap) (locs1 : List Loc) (ls1 : Array Slot), zRel T1 M1 → zLW D Y G Gm A cL o f1 s T1 M1 H1 locs1 → lv_has ls1 9 [(0, .ref b), (1, .ref (G 0 0)), (2, .ref (Gm 0 0)), (3, .ref o), (4, .int (nI i))] → W p l e room_1 s m args below meth c H1 locs1 (cb + 3) (sb + 18) Q (F0 m 2703 ls1 [])) : W p l e room_1 s m args below meth c H locs cb sb Q (F0 m 1219 ls []) := by
  obtain ⟨hx, hb, -⟩ := id K
  obtain ⟨hcb1, hcb2⟩ := hcb
  refine lv_aload_n hx hb dL_law_1219 rfl (lv_at hl 1 rfl) ?_
  refine lw_arg K X W0.2.2.2 hl 4 0 rfl rfl 1 (by omega) (by decide +kernel) dL_law_1220 dL_law_1221 dL_law_1223 dL_law_1224 dL_law_1225 ?_
  refine lv_aload_n hx hb dL_law_1226 rfl (lv_at hl 3 rfl) ?_
  obtain ⟨v, T', r, M', e1, e2, hR, hv, hz⟩ := zOpX.all (code := fun n => 1) (o_wishesOf h (xs (i + 1))) (fun x k hk => by simp at hk; obtain ⟨rfl, rfl⟩ := hk; decide +kernel)
  refine lw_C (As := [.ref (G 0 0), .int (xs (i + 1)), .ref o]) (rest := []) K C W0 kw_wishesOf m_870 (cw_wishesOf (xs (i + 1)) T T' v e1 (fun n hn => by obtain ⟨k, hk⟩ := hv n hn; simp at hk; omega)) rfl rfl hl.1 (Nat.le_of_ble_eq_true rfl) dL_law_1227 (by decide) ⟨by omega, by omega⟩ rfl (fun H locs k f' hp W0 => ?_)
  refine lv_istore (lv' := [(5, .int k), (0, .ref b), (1, .ref (G 0 0)), (2, .ref (Gm 0 0)), (3, .ref o), (4, .int (nI i))]) hx hb dL_law_1230 hl (by decide) rfl (fun ls hl => ?_)
  refine lv_aload_n hx hb dL_law_1232 rfl (lv_at hl 3 rfl) ?_
  refine lw_arg K X W0.2.2.2 hl 5 1 rfl rfl 1 (by omega) (by decide +kernel) dL_law_1233 dL_law_1234 dL_law_1236 dL_law_1237 dL_law_1238 ?_
  refine lw_M (As := [.int (xs (i + 1))]) (rest := []) K C W0 k_X4_wishesOf m_1446 (c_X4_wishesOf (xs (i + 1)) M M' r e2) rfl rfl rfl hl.1 (Nat.le_of_ble_eq_true rfl) dL_law_1239 (by decide) ⟨by omega, by omega⟩ rfl (fun H locs W0 => ?_)
  refine lv_istore (lv' := [(6, .int r), (5, .int k), (0, .ref b), (1, .ref (G 0 0)), (2, .ref (Gm 0 0)), (3, .ref o), (4, .int (nI i))]) hx hb dL_law_1242 hl (by decide) rfl (fun ls hl => ?_)
  refine W.widen (k := cb + 3) (n := sb + 18) (by omega) (by omega) ?_
  exact lw_tail K C W0 hl 4 5 1 0 rfl rfl rfl rfl hp hz ⟨by omega, by omega⟩ dL_law_1244 dL_law_1245 dL_law_1248 dL_law_1250 dL_law_1255 dL_law_1257 dL_law_1260 dL_law_1261 dL_law_1262 dL_law_1263 dL_law_1265 dL_law_1266 dL_law_1267 dL_law_1272 (by decide) (fun H1 locs1 W1 => kk T' M' f' H1 locs1 ls hR W1 (lv_sub hl [2, 3, 4, 5, 6] rfl))
set_option maxHeartbeats 4000000 in
set_option maxRecDepth 100000 in
theorem lc_strengthOf {p : Program} {l : Launch} {e : Env} {s : State} {m : MethodId} {args : Array Value} {below : List Frame} {meth : Method} {c : Code} {H : Heap} {locs : List Loc} {cb sb : Nat} {Q : State → Prop} {ls : Array Slot} {D : va_G} {Y : Nat → ClassId} {S V : Nat → Nat} {G Gm : Nat → Nat → Nat} {A : Nat → Prop} {cL : ClassId} {o : Nat} {f : Nat → Int64} {T M : zT} {b L i : Nat} {xs : Nat → Int32} (K : zLS p l s m args c) (C : zLC D Y S V G Gm A cL o s) (X : zLX b L xs A s) (hi : i + 5 < L) (h : zRel T M) (W0 : zLW D Y G Gm A cL o f s T M H locs) (hl : lv_has ls 9 [(0, .ref b), (1, .ref (G 0 0)), (2, .ref (Gm 0 0)), (3, .ref o), (4, .int (nI i))]) (hcb : cb + 3 ≤ 601024 ∧ sb + 18 ≤ 7293034)
    (kk : ∀ (T1 M1 : zT) (f1 : Nat → Int64) (H1 : Heap) (locs1 : List Loc) (ls1 : Array Slot), zRel T1 M1 → zLW D Y G Gm A cL o f1 s T1 M1 H1 locs1 → lv_has ls1 9 [(0, .ref b), (1, .ref (G 0 0)), (2, .ref (Gm 0 0)), (3, .ref o), (4, .int (nI i))] → W p l e room_1 s m args below meth c H1 locs1 (cb + 3) (sb + 18) Q (F0 m 2703 ls1 [])) : W p l e room_1 s m args below meth c H locs cb sb Q (F0 m 1275 ls []) := by
  obtain ⟨hx, hb, -⟩ := id K
  obtain ⟨hcb1, hcb2⟩ := hcb
  refine lv_aload_n hx hb dL_law_1275 rfl (lv_at hl 1 rfl) ?_
  refine lw_arg K X W0.2.2.2 hl 4 0 rfl rfl 1 (by omega) (by decide +kernel) dL_law_1276 dL_law_1277 dL_law_1279 dL_law_1280 dL_law_1281 ?_
  refine lv_aload_n hx hb dL_law_1282 rfl (lv_at hl 3 rfl) ?_
  obtain ⟨v, T', r, M', e1, e2, hR, hv, hz⟩ := zOpX.all (code := fun n => 1) (o_strengthOf h (xs (i + 1))) (fun x k hk => by simp at hk; obtain ⟨rfl, rfl⟩ := hk; decide +kernel)
  refine lw_C (As := [.ref (G 0 0), .int (xs (i + 1)), .ref o]) (rest := []) K C W0 kw_strengthOf m_877 (cw_strengthOf (xs (i + 1)) T T' v e1 (fun n hn => by obtain ⟨k, hk⟩ := hv n hn; simp at hk; omega)) rfl rfl hl.1 (Nat.le_of_ble_eq_true rfl) dL_law_1283 (by decide) ⟨by omega, by omega⟩ rfl (fun H locs k f' hp W0 => ?_)
  refine lv_istore (lv' := [(5, .int k), (0, .ref b), (1, .ref (G 0 0)), (2, .ref (Gm 0 0)), (3, .ref o), (4, .int (nI i))]) hx hb dL_law_1286 hl (by decide) rfl (fun ls hl => ?_)
  refine lv_aload_n hx hb dL_law_1288 rfl (lv_at hl 3 rfl) ?_
  refine lw_arg K X W0.2.2.2 hl 5 1 rfl rfl 1 (by omega) (by decide +kernel) dL_law_1289 dL_law_1290 dL_law_1292 dL_law_1293 dL_law_1294 ?_
  refine lw_M (As := [.int (xs (i + 1))]) (rest := []) K C W0 k_X4_strengthOf m_1450 (c_X4_strengthOf (xs (i + 1)) M M' r e2) rfl rfl rfl hl.1 (Nat.le_of_ble_eq_true rfl) dL_law_1295 (by decide) ⟨by omega, by omega⟩ rfl (fun H locs W0 => ?_)
  refine lv_istore (lv' := [(6, .int r), (5, .int k), (0, .ref b), (1, .ref (G 0 0)), (2, .ref (Gm 0 0)), (3, .ref o), (4, .int (nI i))]) hx hb dL_law_1298 hl (by decide) rfl (fun ls hl => ?_)
  refine W.widen (k := cb + 3) (n := sb + 18) (by omega) (by omega) ?_
  exact lw_tail K C W0 hl 4 5 1 0 rfl rfl rfl rfl hp hz ⟨by omega, by omega⟩ dL_law_1300 dL_law_1301 dL_law_1304 dL_law_1306 dL_law_1311 dL_law_1313 dL_law_1316 dL_law_1317 dL_law_1318 dL_law_1319 dL_law_1321 dL_law_1322 dL_law_1323 dL_law_1328 (by decide) (fun H1 locs1 W1 => kk T' M' f' H1 locs1 ls hR W1 (lv_sub hl [2, 3, 4, 5, 6] rfl))
set_option maxHeartbeats 4000000 in
set_option maxRecDepth 100000 in
theorem lc_nextChild {p : Program} {l : Launch} {e : Env} {s : State} {m : MethodId} {args : Array Value} {below : List Frame} {meth : Method} {c : Code} {H : Heap} {locs : List Loc} {cb sb : Nat} {Q : State → Prop} {ls : Array Slot} {D : va_G} {Y : Nat → ClassId} {S V : Nat → Nat} {G Gm : Nat → Nat → Nat} {A : Nat → Prop} {cL : ClassId} {o : Nat} {f : Nat → Int64} {T M : zT} {b L i : Nat} {xs : Nat → Int32} (K : zLS p l s m args c) (C : zLC D Y S V G Gm A cL o s) (X : zLX b L xs A s) (hi : i + 5 < L) (h : zRel T M) (W0 : zLW D Y G Gm A cL o f s T M H locs) (hl : lv_has ls 9 [(0, .ref b), (1, .ref (G 0 0)), (2, .ref (Gm 0 0)), (3, .ref o), (4, .int (nI i))]) (hcb : cb + 3 ≤ 601024 ∧ sb + 18 ≤ 7293034)
    (kk : ∀ (T1 M1 : zT) (f1 : Nat → Int64) (H1 : Heap) (locs1 : List Loc) (ls1 : Array Slot), zRel T1 M1 → zLW D Y G Gm A cL o f1 s T1 M1 H1 locs1 → lv_has ls1 9 [(0, .ref b), (1, .ref (G 0 0)), (2, .ref (Gm 0 0)), (3, .ref o), (4, .int (nI i))] → W p l e room_1 s m args below meth c H1 locs1 (cb + 3) (sb + 18) Q (F0 m 2703 ls1 [])) : W p l e room_1 s m args below meth c H locs cb sb Q (F0 m 1331 ls []) := by
  obtain ⟨hx, hb, -⟩ := id K
  obtain ⟨hcb1, hcb2⟩ := hcb
  obtain ⟨v, T', M', e1, e2, hR⟩ := o_nextChild h
  refine lv_aload_n hx hb dL_law_1331 rfl (lv_at hl 1 rfl) ?_
  refine lw_X (As := []) (rest := []) K C W0 k_X3_nextChild m_580 (c_X3_nextChild T T' v e1) rfl rfl rfl hl.1 (Nat.le_of_ble_eq_true rfl) dL_law_1332 (by decide) ⟨by omega, by omega⟩ rfl (fun H locs W0 => ?_)
  refine lv_aload_n hx hb dL_law_1335 rfl (lv_at hl 2 rfl) ?_
  refine lw_M (As := []) (rest := [.int v]) K C W0 k_X4_nextChild m_1454 (c_X4_nextChild M M' v e2) rfl rfl rfl hl.1 (Nat.le_of_ble_eq_true rfl) dL_law_1336 (by decide) ⟨by omega, by omega⟩ rfl (fun H locs W0 => ?_)
  refine lv_icmp_eq (tgt := 2703) hx hb dL_law_1339 (by decide) (fun _ => ?_) (fun hc => absurd rfl hc)
  refine W.widen (k := cb + 3) (n := sb + 18) (by omega) (by omega) ?_
  exact kk T' M' f H locs ls hR W0 hl
set_option maxHeartbeats 4000000 in
set_option maxRecDepth 100000 in
theorem lc_childrenOn {p : Program} {l : Launch} {e : Env} {s : State} {m : MethodId} {args : Array Value} {below : List Frame} {meth : Method} {c : Code} {H : Heap} {locs : List Loc} {cb sb : Nat} {Q : State → Prop} {ls : Array Slot} {D : va_G} {Y : Nat → ClassId} {S V : Nat → Nat} {G Gm : Nat → Nat → Nat} {A : Nat → Prop} {cL : ClassId} {o : Nat} {f : Nat → Int64} {T M : zT} {b L i : Nat} {xs : Nat → Int32} (K : zLS p l s m args c) (C : zLC D Y S V G Gm A cL o s) (X : zLX b L xs A s) (hi : i + 5 < L) (h : zRel T M) (W0 : zLW D Y G Gm A cL o f s T M H locs) (hl : lv_has ls 9 [(0, .ref b), (1, .ref (G 0 0)), (2, .ref (Gm 0 0)), (3, .ref o), (4, .int (nI i))]) (hcb : cb + 3 ≤ 601024 ∧ sb + 18 ≤ 7293034)
    (kk : ∀ (T1 M1 : zT) (f1 : Nat → Int64) (H1 : Heap) (locs1 : List Loc) (ls1 : Array Slot), zRel T1 M1 → zLW D Y G Gm A cL o f1 s T1 M1 H1 locs1 → lv_has ls1 9 [(0, .ref b), (1, .ref (G 0 0)), (2, .ref (Gm 0 0)), (3, .ref o), (4, .int (nI i))] → W p l e room_1 s m args below meth c H1 locs1 (cb + 3) (sb + 18) Q (F0 m 2703 ls1 [])) : W p l e room_1 s m args below meth c H locs cb sb Q (F0 m 1344 ls []) := by
  obtain ⟨hx, hb, -⟩ := id K
  obtain ⟨hcb1, hcb2⟩ := hcb
  refine lv_aload_n hx hb dL_law_1344 rfl (lv_at hl 1 rfl) ?_
  refine lw_arg K X W0.2.2.2 hl 4 0 rfl rfl 1 (by omega) (by decide +kernel) dL_law_1345 dL_law_1346 dL_law_1348 dL_law_1349 dL_law_1350 ?_
  refine lw_arg K X W0.2.2.2 hl 4 0 rfl rfl 2 (by omega) (by decide +kernel) dL_law_1351 dL_law_1352 dL_law_1354 dL_law_1355 dL_law_1356 ?_
  refine lv_aload_n hx hb dL_law_1357 rfl (lv_at hl 3 rfl) ?_
  obtain ⟨v, T', r, M', e1, e2, hR, hv, hz⟩ := zOpX.all (code := fun n => 1) (o_childrenOn h (xs (i + 1)) (xs (i + 2))) (fun x k hk => by simp at hk; obtain ⟨rfl, rfl⟩ := hk; decide +kernel)
  refine lw_C (As := [.ref (G 0 0), .int (xs (i + 1)), .int (xs (i + 2)), .ref o]) (rest := []) K C W0 kw_childrenOn m_885 (cw_childrenOn (xs (i + 1)) (xs (i + 2)) T T' v e1 (fun n hn => by obtain ⟨k, hk⟩ := hv n hn; simp at hk; omega)) rfl rfl hl.1 (Nat.le_of_ble_eq_true rfl) dL_law_1358 (by decide) ⟨by omega, by omega⟩ rfl (fun H locs k f' hp W0 => ?_)
  refine lv_istore (lv' := [(5, .int k), (0, .ref b), (1, .ref (G 0 0)), (2, .ref (Gm 0 0)), (3, .ref o), (4, .int (nI i))]) hx hb dL_law_1361 hl (by decide) rfl (fun ls hl => ?_)
  refine lv_aload_n hx hb dL_law_1363 rfl (lv_at hl 3 rfl) ?_
  refine lw_arg K X W0.2.2.2 hl 5 1 rfl rfl 1 (by omega) (by decide +kernel) dL_law_1364 dL_law_1365 dL_law_1367 dL_law_1368 dL_law_1369 ?_
  refine lw_arg K X W0.2.2.2 hl 5 1 rfl rfl 2 (by omega) (by decide +kernel) dL_law_1370 dL_law_1371 dL_law_1373 dL_law_1374 dL_law_1375 ?_
  refine lw_M (As := [.int (xs (i + 1)), .int (xs (i + 2))]) (rest := []) K C W0 k_X4_childrenOn m_1458 (c_X4_childrenOn (xs (i + 1)) (xs (i + 2)) M M' r e2) rfl rfl rfl hl.1 (Nat.le_of_ble_eq_true rfl) dL_law_1376 (by decide) ⟨by omega, by omega⟩ rfl (fun H locs W0 => ?_)
  refine lv_istore (lv' := [(6, .int r), (5, .int k), (0, .ref b), (1, .ref (G 0 0)), (2, .ref (Gm 0 0)), (3, .ref o), (4, .int (nI i))]) hx hb dL_law_1379 hl (by decide) rfl (fun ls hl => ?_)
  refine W.widen (k := cb + 3) (n := sb + 18) (by omega) (by omega) ?_
  exact lw_tail K C W0 hl 4 5 1 0 rfl rfl rfl rfl hp hz ⟨by omega, by omega⟩ dL_law_1381 dL_law_1382 dL_law_1385 dL_law_1387 dL_law_1392 dL_law_1394 dL_law_1397 dL_law_1398 dL_law_1399 dL_law_1400 dL_law_1402 dL_law_1403 dL_law_1404 dL_law_1409 (by decide) (fun H1 locs1 W1 => kk T' M' f' H1 locs1 ls hR W1 (lv_sub hl [2, 3, 4, 5, 6] rfl))
set_option maxHeartbeats 4000000 in
set_option maxRecDepth 100000 in
theorem lc_differentDates {p : Program} {l : Launch} {e : Env} {s : State} {m : MethodId} {args : Array Value} {below : List Frame} {meth : Method} {c : Code} {H : Heap} {locs : List Loc} {cb sb : Nat} {Q : State → Prop} {ls : Array Slot} {D : va_G} {Y : Nat → ClassId} {S V : Nat → Nat} {G Gm : Nat → Nat → Nat} {A : Nat → Prop} {cL : ClassId} {o : Nat} {f : Nat → Int64} {T M : zT} {b L i : Nat} {xs : Nat → Int32} (K : zLS p l s m args c) (C : zLC D Y S V G Gm A cL o s) (X : zLX b L xs A s) (hi : i + 5 < L) (h : zRel T M) (W0 : zLW D Y G Gm A cL o f s T M H locs) (hl : lv_has ls 9 [(0, .ref b), (1, .ref (G 0 0)), (2, .ref (Gm 0 0)), (3, .ref o), (4, .int (nI i))]) (hcb : cb + 3 ≤ 601024 ∧ sb + 18 ≤ 7293034)
    (kk : ∀ (T1 M1 : zT) (f1 : Nat → Int64) (H1 : Heap) (locs1 : List Loc) (ls1 : Array Slot), zRel T1 M1 → zLW D Y G Gm A cL o f1 s T1 M1 H1 locs1 → lv_has ls1 9 [(0, .ref b), (1, .ref (G 0 0)), (2, .ref (Gm 0 0)), (3, .ref o), (4, .int (nI i))] → W p l e room_1 s m args below meth c H1 locs1 (cb + 3) (sb + 18) Q (F0 m 2703 ls1 [])) : W p l e room_1 s m args below meth c H locs cb sb Q (F0 m 1412 ls []) := by
  obtain ⟨hx, hb, -⟩ := id K
  obtain ⟨hcb1, hcb2⟩ := hcb
  obtain ⟨v, T', M', e1, e2, hR⟩ := o_differentDates h
  refine lv_aload_n hx hb dL_law_1412 rfl (lv_at hl 1 rfl) ?_
  refine lw_X (As := []) (rest := []) K C W0 k_X3_differentDates m_589 (c_X3_differentDates T T' v e1) rfl rfl rfl hl.1 (Nat.le_of_ble_eq_true rfl) dL_law_1413 (by decide) ⟨by omega, by omega⟩ rfl (fun H locs W0 => ?_)
  refine lv_aload_n hx hb dL_law_1416 rfl (lv_at hl 2 rfl) ?_
  refine lw_M (As := []) (rest := [.int v]) K C W0 k_X4_differentDates m_1466 (c_X4_differentDates M M' v e2) rfl rfl rfl hl.1 (Nat.le_of_ble_eq_true rfl) dL_law_1417 (by decide) ⟨by omega, by omega⟩ rfl (fun H locs W0 => ?_)
  refine lv_icmp_eq (tgt := 2703) hx hb dL_law_1420 (by decide) (fun _ => ?_) (fun hc => absurd rfl hc)
  refine W.widen (k := cb + 3) (n := sb + 18) (by omega) (by omega) ?_
  exact kk T' M' f H locs ls hR W0 hl
set_option maxHeartbeats 4000000 in
set_option maxRecDepth 100000 in
theorem lc_dateAt {p : Program} {l : Launch} {e : Env} {s : State} {m : MethodId} {args : Array Value} {below : List Frame} {meth : Method} {c : Code} {H : Heap} {locs : List Loc} {cb sb : Nat} {Q : State → Prop} {ls : Array Slot} {D : va_G} {Y : Nat → ClassId} {S V : Nat → Nat} {G Gm : Nat → Nat → Nat} {A : Nat → Prop} {cL : ClassId} {o : Nat} {f : Nat → Int64} {T M : zT} {b L i : Nat} {xs : Nat → Int32} (K : zLS p l s m args c) (C : zLC D Y S V G Gm A cL o s) (X : zLX b L xs A s) (hi : i + 5 < L) (h : zRel T M) (W0 : zLW D Y G Gm A cL o f s T M H locs) (hl : lv_has ls 9 [(0, .ref b), (1, .ref (G 0 0)), (2, .ref (Gm 0 0)), (3, .ref o), (4, .int (nI i))]) (hcb : cb + 3 ≤ 601024 ∧ sb + 18 ≤ 7293034)
    (kk : ∀ (T1 M1 : zT) (f1 : Nat → Int64) (H1 : Heap) (locs1 : List Loc) (ls1 : Array Slot), zRel T1 M1 → zLW D Y G Gm A cL o f1 s T1 M1 H1 locs1 → lv_has ls1 9 [(0, .ref b), (1, .ref (G 0 0)), (2, .ref (Gm 0 0)), (3, .ref o), (4, .int (nI i))] → W p l e room_1 s m args below meth c H1 locs1 (cb + 3) (sb + 18) Q (F0 m 2703 ls1 [])) : W p l e room_1 s m args below meth c H locs cb sb Q (F0 m 1425 ls []) := by
  obtain ⟨hx, hb, -⟩ := id K
  obtain ⟨hcb1, hcb2⟩ := hcb
  refine lv_aload_n hx hb dL_law_1425 rfl (lv_at hl 1 rfl) ?_
  refine lw_arg K X W0.2.2.2 hl 4 0 rfl rfl 1 (by omega) (by decide +kernel) dL_law_1426 dL_law_1427 dL_law_1429 dL_law_1430 dL_law_1431 ?_
  refine lv_aload_n hx hb dL_law_1432 rfl (lv_at hl 3 rfl) ?_
  obtain ⟨v, T', r, M', e1, e2, hR, hv, hz⟩ := zOpX.all (code := fun n => 1) (o_dateAt h (xs (i + 1))) (fun x k hk => by simp at hk; obtain ⟨rfl, rfl⟩ := hk; decide +kernel)
  refine lw_C (As := [.ref (G 0 0), .int (xs (i + 1)), .ref o]) (rest := []) K C W0 kw_dateAt m_892 (cw_dateAt (xs (i + 1)) T T' v e1 (fun n hn => by obtain ⟨k, hk⟩ := hv n hn; simp at hk; omega)) rfl rfl hl.1 (Nat.le_of_ble_eq_true rfl) dL_law_1433 (by decide) ⟨by omega, by omega⟩ rfl (fun H locs k f' hp W0 => ?_)
  refine lv_istore (lv' := [(5, .int k), (0, .ref b), (1, .ref (G 0 0)), (2, .ref (Gm 0 0)), (3, .ref o), (4, .int (nI i))]) hx hb dL_law_1436 hl (by decide) rfl (fun ls hl => ?_)
  refine lv_aload_n hx hb dL_law_1438 rfl (lv_at hl 3 rfl) ?_
  refine lw_arg K X W0.2.2.2 hl 5 1 rfl rfl 1 (by omega) (by decide +kernel) dL_law_1439 dL_law_1440 dL_law_1442 dL_law_1443 dL_law_1444 ?_
  refine lw_M (As := [.int (xs (i + 1))]) (rest := []) K C W0 k_X4_dateAt m_1474 (c_X4_dateAt (xs (i + 1)) M M' r e2) rfl rfl rfl hl.1 (Nat.le_of_ble_eq_true rfl) dL_law_1445 (by decide) ⟨by omega, by omega⟩ rfl (fun H locs W0 => ?_)
  refine lv_istore (lv' := [(6, .int r), (5, .int k), (0, .ref b), (1, .ref (G 0 0)), (2, .ref (Gm 0 0)), (3, .ref o), (4, .int (nI i))]) hx hb dL_law_1448 hl (by decide) rfl (fun ls hl => ?_)
  refine W.widen (k := cb + 3) (n := sb + 18) (by omega) (by omega) ?_
  exact lw_tail K C W0 hl 4 5 1 0 rfl rfl rfl rfl hp hz ⟨by omega, by omega⟩ dL_law_1450 dL_law_1451 dL_law_1454 dL_law_1456 dL_law_1461 dL_law_1463 dL_law_1466 dL_law_1467 dL_law_1468 dL_law_1469 dL_law_1471 dL_law_1472 dL_law_1473 dL_law_1478 (by decide) (fun H1 locs1 W1 => kk T' M' f' H1 locs1 ls hR W1 (lv_sub hl [2, 3, 4, 5, 6] rfl))
set_option maxHeartbeats 4000000 in
set_option maxRecDepth 100000 in
theorem lc_busiestMonth {p : Program} {l : Launch} {e : Env} {s : State} {m : MethodId} {args : Array Value} {below : List Frame} {meth : Method} {c : Code} {H : Heap} {locs : List Loc} {cb sb : Nat} {Q : State → Prop} {ls : Array Slot} {D : va_G} {Y : Nat → ClassId} {S V : Nat → Nat} {G Gm : Nat → Nat → Nat} {A : Nat → Prop} {cL : ClassId} {o : Nat} {f : Nat → Int64} {T M : zT} {b L i : Nat} {xs : Nat → Int32} (K : zLS p l s m args c) (C : zLC D Y S V G Gm A cL o s) (X : zLX b L xs A s) (hi : i + 5 < L) (h : zRel T M) (W0 : zLW D Y G Gm A cL o f s T M H locs) (hl : lv_has ls 9 [(0, .ref b), (1, .ref (G 0 0)), (2, .ref (Gm 0 0)), (3, .ref o), (4, .int (nI i))]) (hcb : cb + 3 ≤ 601024 ∧ sb + 18 ≤ 7293034)
    (kk : ∀ (T1 M1 : zT) (f1 : Nat → Int64) (H1 : Heap) (locs1 : List Loc) (ls1 : Array Slot), zRel T1 M1 → zLW D Y G Gm A cL o f1 s T1 M1 H1 locs1 → lv_has ls1 9 [(0, .ref b), (1, .ref (G 0 0)), (2, .ref (Gm 0 0)), (3, .ref o), (4, .int (nI i))] → W p l e room_1 s m args below meth c H1 locs1 (cb + 3) (sb + 18) Q (F0 m 2703 ls1 [])) : W p l e room_1 s m args below meth c H locs cb sb Q (F0 m 1481 ls []) := by
  obtain ⟨hx, hb, -⟩ := id K
  obtain ⟨hcb1, hcb2⟩ := hcb
  obtain ⟨v, T', M', e1, e2, hR⟩ := o_busiestMonth h
  refine lv_aload_n hx hb dL_law_1481 rfl (lv_at hl 1 rfl) ?_
  refine lw_X (As := []) (rest := []) K C W0 k_X3_busiestMonth m_597 (c_X3_busiestMonth T T' v e1) rfl rfl rfl hl.1 (Nat.le_of_ble_eq_true rfl) dL_law_1482 (by decide) ⟨by omega, by omega⟩ rfl (fun H locs W0 => ?_)
  refine lv_aload_n hx hb dL_law_1485 rfl (lv_at hl 2 rfl) ?_
  refine lw_M (As := []) (rest := [.int v]) K C W0 k_X4_busiestMonth m_1478 (c_X4_busiestMonth M M' v e2) rfl rfl rfl hl.1 (Nat.le_of_ble_eq_true rfl) dL_law_1486 (by decide) ⟨by omega, by omega⟩ rfl (fun H locs W0 => ?_)
  refine lv_icmp_eq (tgt := 2703) hx hb dL_law_1489 (by decide) (fun _ => ?_) (fun hc => absurd rfl hc)
  refine W.widen (k := cb + 3) (n := sb + 18) (by omega) (by omega) ?_
  exact kk T' M' f H locs ls hR W0 hl
set_option maxHeartbeats 4000000 in
set_option maxRecDepth 100000 in
theorem lc_obstacle {p : Program} {l : Launch} {e : Env} {s : State} {m : MethodId} {args : Array Value} {below : List Frame} {meth : Method} {c : Code} {H : Heap} {locs : List Loc} {cb sb : Nat} {Q : State → Prop} {ls : Array Slot} {D : va_G} {Y : Nat → ClassId} {S V : Nat → Nat} {G Gm : Nat → Nat → Nat} {A : Nat → Prop} {cL : ClassId} {o : Nat} {f : Nat → Int64} {T M : zT} {b L i : Nat} {xs : Nat → Int32} (K : zLS p l s m args c) (C : zLC D Y S V G Gm A cL o s) (X : zLX b L xs A s) (hi : i + 5 < L) (h : zRel T M) (W0 : zLW D Y G Gm A cL o f s T M H locs) (hl : lv_has ls 9 [(0, .ref b), (1, .ref (G 0 0)), (2, .ref (Gm 0 0)), (3, .ref o), (4, .int (nI i))]) (hcb : cb + 3 ≤ 601024 ∧ sb + 18 ≤ 7293034)
    (kk : ∀ (T1 M1 : zT) (f1 : Nat → Int64) (H1 : Heap) (locs1 : List Loc) (ls1 : Array Slot), zRel T1 M1 → zLW D Y G Gm A cL o f1 s T1 M1 H1 locs1 → lv_has ls1 9 [(0, .ref b), (1, .ref (G 0 0)), (2, .ref (Gm 0 0)), (3, .ref o), (4, .int (nI i))] → W p l e room_1 s m args below meth c H1 locs1 (cb + 3) (sb + 18) Q (F0 m 2703 ls1 [])) : W p l e room_1 s m args below meth c H locs cb sb Q (F0 m 1494 ls []) := by
  obtain ⟨hx, hb, -⟩ := id K
  obtain ⟨hcb1, hcb2⟩ := hcb
  refine lv_aload_n hx hb dL_law_1494 rfl (lv_at hl 1 rfl) ?_
  refine lw_arg K X W0.2.2.2 hl 4 0 rfl rfl 1 (by omega) (by decide +kernel) dL_law_1495 dL_law_1496 dL_law_1498 dL_law_1499 dL_law_1500 ?_
  refine lw_arg K X W0.2.2.2 hl 4 0 rfl rfl 2 (by omega) (by decide +kernel) dL_law_1501 dL_law_1502 dL_law_1504 dL_law_1505 dL_law_1506 ?_
  refine lw_arg K X W0.2.2.2 hl 4 0 rfl rfl 3 (by omega) (by decide +kernel) dL_law_1507 dL_law_1508 dL_law_1510 dL_law_1511 dL_law_1512 ?_
  refine lw_arg K X W0.2.2.2 hl 4 0 rfl rfl 4 (by omega) (by decide +kernel) dL_law_1513 dL_law_1514 dL_law_1516 dL_law_1517 dL_law_1518 ?_
  refine lv_aload_n hx hb dL_law_1519 rfl (lv_at hl 3 rfl) ?_
  obtain ⟨v, T', r, M', e1, e2, hR, hv, hz⟩ := zOpX.all (code := fun n => if n = 2 then 1 else 2) (o_obstacle h (xs (i + 1)) (xs (i + 2)) (xs (i + 3)) (xs (i + 4))) (fun x k hk => by simp at hk; rcases hk with ⟨rfl, rfl⟩ | ⟨rfl, rfl⟩ <;> decide +kernel)
  refine lw_C (As := [.ref (G 0 0), .int (xs (i + 1)), .int (xs (i + 2)), .int (xs (i + 3)), .int (xs (i + 4)), .ref o]) (rest := []) K C W0 kw_obstacle m_899 (cw_obstacle (xs (i + 1)) (xs (i + 2)) (xs (i + 3)) (xs (i + 4)) T T' v e1 (fun n hn => by obtain ⟨k, hk⟩ := hv n hn; simp at hk; omega)) rfl rfl hl.1 (Nat.le_of_ble_eq_true rfl) dL_law_1520 (by decide) ⟨by omega, by omega⟩ rfl (fun H locs k f' hp W0 => ?_)
  refine lv_istore (lv' := [(5, .int k), (0, .ref b), (1, .ref (G 0 0)), (2, .ref (Gm 0 0)), (3, .ref o), (4, .int (nI i))]) hx hb dL_law_1523 hl (by decide) rfl (fun ls hl => ?_)
  refine lv_aload_n hx hb dL_law_1525 rfl (lv_at hl 3 rfl) ?_
  refine lw_arg K X W0.2.2.2 hl 5 1 rfl rfl 1 (by omega) (by decide +kernel) dL_law_1526 dL_law_1527 dL_law_1529 dL_law_1530 dL_law_1531 ?_
  refine lw_arg K X W0.2.2.2 hl 5 1 rfl rfl 2 (by omega) (by decide +kernel) dL_law_1532 dL_law_1533 dL_law_1535 dL_law_1536 dL_law_1537 ?_
  refine lw_arg K X W0.2.2.2 hl 5 1 rfl rfl 3 (by omega) (by decide +kernel) dL_law_1538 dL_law_1539 dL_law_1541 dL_law_1542 dL_law_1543 ?_
  refine lw_arg K X W0.2.2.2 hl 5 1 rfl rfl 4 (by omega) (by decide +kernel) dL_law_1544 dL_law_1545 dL_law_1547 dL_law_1548 dL_law_1549 ?_
  refine lw_M (As := [.int (xs (i + 1)), .int (xs (i + 2)), .int (xs (i + 3)), .int (xs (i + 4))]) (rest := []) K C W0 k_X4_obstacle m_1486 (c_X4_obstacle (xs (i + 1)) (xs (i + 2)) (xs (i + 3)) (xs (i + 4)) M M' r e2) rfl rfl rfl hl.1 (Nat.le_of_ble_eq_true rfl) dL_law_1550 (by decide) ⟨by omega, by omega⟩ rfl (fun H locs W0 => ?_)
  refine lv_istore (lv' := [(6, .int r), (5, .int k), (0, .ref b), (1, .ref (G 0 0)), (2, .ref (Gm 0 0)), (3, .ref o), (4, .int (nI i))]) hx hb dL_law_1553 hl (by decide) rfl (fun ls hl => ?_)
  refine W.widen (k := cb + 3) (n := sb + 18) (by omega) (by omega) ?_
  exact lw_tail K C W0 hl 4 5 1 0 rfl rfl rfl rfl hp hz ⟨by omega, by omega⟩ dL_law_1555 dL_law_1556 dL_law_1559 dL_law_1561 dL_law_1566 dL_law_1568 dL_law_1571 dL_law_1572 dL_law_1573 dL_law_1574 dL_law_1576 dL_law_1577 dL_law_1578 dL_law_1583 (by decide) (fun H1 locs1 W1 => kk T' M' f' H1 locs1 ls hR W1 (lv_sub hl [2, 3, 4, 5, 6] rfl))
set_option maxHeartbeats 4000000 in
set_option maxRecDepth 100000 in
theorem lc_freeGarden {p : Program} {l : Launch} {e : Env} {s : State} {m : MethodId} {args : Array Value} {below : List Frame} {meth : Method} {c : Code} {H : Heap} {locs : List Loc} {cb sb : Nat} {Q : State → Prop} {ls : Array Slot} {D : va_G} {Y : Nat → ClassId} {S V : Nat → Nat} {G Gm : Nat → Nat → Nat} {A : Nat → Prop} {cL : ClassId} {o : Nat} {f : Nat → Int64} {T M : zT} {b L i : Nat} {xs : Nat → Int32} (K : zLS p l s m args c) (C : zLC D Y S V G Gm A cL o s) (X : zLX b L xs A s) (hi : i + 5 < L) (h : zRel T M) (W0 : zLW D Y G Gm A cL o f s T M H locs) (hl : lv_has ls 9 [(0, .ref b), (1, .ref (G 0 0)), (2, .ref (Gm 0 0)), (3, .ref o), (4, .int (nI i))]) (hcb : cb + 3 ≤ 601024 ∧ sb + 18 ≤ 7293034)
    (kk : ∀ (T1 M1 : zT) (f1 : Nat → Int64) (H1 : Heap) (locs1 : List Loc) (ls1 : Array Slot), zRel T1 M1 → zLW D Y G Gm A cL o f1 s T1 M1 H1 locs1 → lv_has ls1 9 [(0, .ref b), (1, .ref (G 0 0)), (2, .ref (Gm 0 0)), (3, .ref o), (4, .int (nI i))] → W p l e room_1 s m args below meth c H1 locs1 (cb + 3) (sb + 18) Q (F0 m 2703 ls1 [])) : W p l e room_1 s m args below meth c H locs cb sb Q (F0 m 1586 ls []) := by
  obtain ⟨hx, hb, -⟩ := id K
  obtain ⟨hcb1, hcb2⟩ := hcb
  refine lv_aload_n hx hb dL_law_1586 rfl (lv_at hl 1 rfl) ?_
  refine lw_arg K X W0.2.2.2 hl 4 0 rfl rfl 1 (by omega) (by decide +kernel) dL_law_1587 dL_law_1588 dL_law_1590 dL_law_1591 dL_law_1592 ?_
  refine lw_arg K X W0.2.2.2 hl 4 0 rfl rfl 2 (by omega) (by decide +kernel) dL_law_1593 dL_law_1594 dL_law_1596 dL_law_1597 dL_law_1598 ?_
  refine lw_arg K X W0.2.2.2 hl 4 0 rfl rfl 3 (by omega) (by decide +kernel) dL_law_1599 dL_law_1600 dL_law_1602 dL_law_1603 dL_law_1604 ?_
  refine lv_aload_n hx hb dL_law_1605 rfl (lv_at hl 3 rfl) ?_
  obtain ⟨v, T', r, M', e1, e2, hR, hv, hz⟩ := zOpX.all (code := fun n => if n = 2 then 1 else 2) (o_freeGarden h (xs (i + 1)) (xs (i + 2)) (xs (i + 3))) (fun x k hk => by simp at hk; rcases hk with ⟨rfl, rfl⟩ | ⟨rfl, rfl⟩ <;> decide +kernel)
  refine lw_C (As := [.ref (G 0 0), .int (xs (i + 1)), .int (xs (i + 2)), .int (xs (i + 3)), .ref o]) (rest := []) K C W0 kw_freeGarden m_907 (cw_freeGarden (xs (i + 1)) (xs (i + 2)) (xs (i + 3)) T T' v e1 (fun n hn => by obtain ⟨k, hk⟩ := hv n hn; simp at hk; omega)) rfl rfl hl.1 (Nat.le_of_ble_eq_true rfl) dL_law_1606 (by decide) ⟨by omega, by omega⟩ rfl (fun H locs k f' hp W0 => ?_)
  refine lv_istore (lv' := [(5, .int k), (0, .ref b), (1, .ref (G 0 0)), (2, .ref (Gm 0 0)), (3, .ref o), (4, .int (nI i))]) hx hb dL_law_1609 hl (by decide) rfl (fun ls hl => ?_)
  refine lv_aload_n hx hb dL_law_1611 rfl (lv_at hl 3 rfl) ?_
  refine lw_arg K X W0.2.2.2 hl 5 1 rfl rfl 1 (by omega) (by decide +kernel) dL_law_1612 dL_law_1613 dL_law_1615 dL_law_1616 dL_law_1617 ?_
  refine lw_arg K X W0.2.2.2 hl 5 1 rfl rfl 2 (by omega) (by decide +kernel) dL_law_1618 dL_law_1619 dL_law_1621 dL_law_1622 dL_law_1623 ?_
  refine lw_arg K X W0.2.2.2 hl 5 1 rfl rfl 3 (by omega) (by decide +kernel) dL_law_1624 dL_law_1625 dL_law_1627 dL_law_1628 dL_law_1629 ?_
  refine lw_M (As := [.int (xs (i + 1)), .int (xs (i + 2)), .int (xs (i + 3))]) (rest := []) K C W0 k_X4_freeGarden m_1490 (c_X4_freeGarden (xs (i + 1)) (xs (i + 2)) (xs (i + 3)) M M' r e2) rfl rfl rfl hl.1 (Nat.le_of_ble_eq_true rfl) dL_law_1630 (by decide) ⟨by omega, by omega⟩ rfl (fun H locs W0 => ?_)
  refine lv_istore (lv' := [(6, .int r), (5, .int k), (0, .ref b), (1, .ref (G 0 0)), (2, .ref (Gm 0 0)), (3, .ref o), (4, .int (nI i))]) hx hb dL_law_1633 hl (by decide) rfl (fun ls hl => ?_)
  refine W.widen (k := cb + 3) (n := sb + 18) (by omega) (by omega) ?_
  exact lw_tail K C W0 hl 4 5 1 0 rfl rfl rfl rfl hp hz ⟨by omega, by omega⟩ dL_law_1635 dL_law_1636 dL_law_1639 dL_law_1641 dL_law_1646 dL_law_1648 dL_law_1651 dL_law_1652 dL_law_1653 dL_law_1654 dL_law_1656 dL_law_1657 dL_law_1658 dL_law_1663 (by decide) (fun H1 locs1 W1 => kk T' M' f' H1 locs1 ls hR W1 (lv_sub hl [2, 3, 4, 5, 6] rfl))
set_option maxHeartbeats 4000000 in
set_option maxRecDepth 100000 in
theorem lc_drawsNeeded {p : Program} {l : Launch} {e : Env} {s : State} {m : MethodId} {args : Array Value} {below : List Frame} {meth : Method} {c : Code} {H : Heap} {locs : List Loc} {cb sb : Nat} {Q : State → Prop} {ls : Array Slot} {D : va_G} {Y : Nat → ClassId} {S V : Nat → Nat} {G Gm : Nat → Nat → Nat} {A : Nat → Prop} {cL : ClassId} {o : Nat} {f : Nat → Int64} {T M : zT} {b L i : Nat} {xs : Nat → Int32} (K : zLS p l s m args c) (C : zLC D Y S V G Gm A cL o s) (X : zLX b L xs A s) (hi : i + 5 < L) (h : zRel T M) (W0 : zLW D Y G Gm A cL o f s T M H locs) (hl : lv_has ls 9 [(0, .ref b), (1, .ref (G 0 0)), (2, .ref (Gm 0 0)), (3, .ref o), (4, .int (nI i))]) (hcb : cb + 3 ≤ 601024 ∧ sb + 18 ≤ 7293034)
    (kk : ∀ (T1 M1 : zT) (f1 : Nat → Int64) (H1 : Heap) (locs1 : List Loc) (ls1 : Array Slot), zRel T1 M1 → zLW D Y G Gm A cL o f1 s T1 M1 H1 locs1 → lv_has ls1 9 [(0, .ref b), (1, .ref (G 0 0)), (2, .ref (Gm 0 0)), (3, .ref o), (4, .int (nI i))] → W p l e room_1 s m args below meth c H1 locs1 (cb + 3) (sb + 18) Q (F0 m 2703 ls1 [])) : W p l e room_1 s m args below meth c H locs cb sb Q (F0 m 1666 ls []) := by
  obtain ⟨hx, hb, -⟩ := id K
  obtain ⟨hcb1, hcb2⟩ := hcb
  refine lv_aload_n hx hb dL_law_1666 rfl (lv_at hl 1 rfl) ?_
  refine lw_arg K X W0.2.2.2 hl 4 0 rfl rfl 1 (by omega) (by decide +kernel) dL_law_1667 dL_law_1668 dL_law_1670 dL_law_1671 dL_law_1672 ?_
  refine lv_aload_n hx hb dL_law_1673 rfl (lv_at hl 3 rfl) ?_
  obtain ⟨v, T', r, M', e1, e2, hR, hv, hz⟩ := zOpX.all (code := fun n => 1) (o_drawsNeeded h (xs (i + 1))) (fun x k hk => by simp at hk; obtain ⟨rfl, rfl⟩ := hk; decide +kernel)
  refine lw_C (As := [.ref (G 0 0), .int (xs (i + 1)), .ref o]) (rest := []) K C W0 kw_drawsNeeded m_914 (cw_drawsNeeded (xs (i + 1)) T T' v e1 (fun n hn => by obtain ⟨k, hk⟩ := hv n hn; simp at hk; omega)) rfl rfl hl.1 (Nat.le_of_ble_eq_true rfl) dL_law_1674 (by decide) ⟨by omega, by omega⟩ rfl (fun H locs k f' hp W0 => ?_)
  refine lv_istore (lv' := [(5, .int k), (0, .ref b), (1, .ref (G 0 0)), (2, .ref (Gm 0 0)), (3, .ref o), (4, .int (nI i))]) hx hb dL_law_1677 hl (by decide) rfl (fun ls hl => ?_)
  refine lv_aload_n hx hb dL_law_1679 rfl (lv_at hl 3 rfl) ?_
  refine lw_arg K X W0.2.2.2 hl 5 1 rfl rfl 1 (by omega) (by decide +kernel) dL_law_1680 dL_law_1681 dL_law_1683 dL_law_1684 dL_law_1685 ?_
  refine lw_M (As := [.int (xs (i + 1))]) (rest := []) K C W0 k_X4_drawsNeeded m_1494 (c_X4_drawsNeeded (xs (i + 1)) M M' r e2) rfl rfl rfl hl.1 (Nat.le_of_ble_eq_true rfl) dL_law_1686 (by decide) ⟨by omega, by omega⟩ rfl (fun H locs W0 => ?_)
  refine lv_istore (lv' := [(6, .int r), (5, .int k), (0, .ref b), (1, .ref (G 0 0)), (2, .ref (Gm 0 0)), (3, .ref o), (4, .int (nI i))]) hx hb dL_law_1689 hl (by decide) rfl (fun ls hl => ?_)
  refine W.widen (k := cb + 3) (n := sb + 18) (by omega) (by omega) ?_
  exact lw_tail K C W0 hl 4 5 1 0 rfl rfl rfl rfl hp hz ⟨by omega, by omega⟩ dL_law_1691 dL_law_1692 dL_law_1695 dL_law_1697 dL_law_1702 dL_law_1704 dL_law_1707 dL_law_1708 dL_law_1709 dL_law_1710 dL_law_1712 dL_law_1713 dL_law_1714 dL_law_1719 (by decide) (fun H1 locs1 W1 => kk T' M' f' H1 locs1 ls hR W1 (lv_sub hl [2, 3, 4, 5, 6] rfl))
set_option maxHeartbeats 4000000 in
set_option maxRecDepth 100000 in
theorem lc_candlesAfter {p : Program} {l : Launch} {e : Env} {s : State} {m : MethodId} {args : Array Value} {below : List Frame} {meth : Method} {c : Code} {H : Heap} {locs : List Loc} {cb sb : Nat} {Q : State → Prop} {ls : Array Slot} {D : va_G} {Y : Nat → ClassId} {S V : Nat → Nat} {G Gm : Nat → Nat → Nat} {A : Nat → Prop} {cL : ClassId} {o : Nat} {f : Nat → Int64} {T M : zT} {b L i : Nat} {xs : Nat → Int32} (K : zLS p l s m args c) (C : zLC D Y S V G Gm A cL o s) (X : zLX b L xs A s) (hi : i + 5 < L) (h : zRel T M) (W0 : zLW D Y G Gm A cL o f s T M H locs) (hl : lv_has ls 9 [(0, .ref b), (1, .ref (G 0 0)), (2, .ref (Gm 0 0)), (3, .ref o), (4, .int (nI i))]) (hcb : cb + 3 ≤ 601024 ∧ sb + 18 ≤ 7293034)
    (kk : ∀ (T1 M1 : zT) (f1 : Nat → Int64) (H1 : Heap) (locs1 : List Loc) (ls1 : Array Slot), zRel T1 M1 → zLW D Y G Gm A cL o f1 s T1 M1 H1 locs1 → lv_has ls1 9 [(0, .ref b), (1, .ref (G 0 0)), (2, .ref (Gm 0 0)), (3, .ref o), (4, .int (nI i))] → W p l e room_1 s m args below meth c H1 locs1 (cb + 3) (sb + 18) Q (F0 m 2703 ls1 [])) : W p l e room_1 s m args below meth c H locs cb sb Q (F0 m 1722 ls []) := by
  obtain ⟨hx, hb, -⟩ := id K
  obtain ⟨hcb1, hcb2⟩ := hcb
  refine lv_aload_n hx hb dL_law_1722 rfl (lv_at hl 1 rfl) ?_
  refine lw_arg K X W0.2.2.2 hl 4 0 rfl rfl 1 (by omega) (by decide +kernel) dL_law_1723 dL_law_1724 dL_law_1726 dL_law_1727 dL_law_1728 ?_
  refine lv_aload_n hx hb dL_law_1729 rfl (lv_at hl 3 rfl) ?_
  obtain ⟨v, T', r, M', e1, e2, hR, hv, hz⟩ := zOpX.all (code := fun n => 1) (o_candlesAfter h (xs (i + 1))) (fun x k hk => by simp at hk; obtain ⟨rfl, rfl⟩ := hk; decide +kernel)
  refine lw_C (As := [.ref (G 0 0), .int (xs (i + 1)), .ref o]) (rest := []) K C W0 kw_candlesAfter m_922 (cw_candlesAfter (xs (i + 1)) T T' v e1 (fun n hn => by obtain ⟨k, hk⟩ := hv n hn; simp at hk; omega)) rfl rfl hl.1 (Nat.le_of_ble_eq_true rfl) dL_law_1730 (by decide) ⟨by omega, by omega⟩ rfl (fun H locs k f' hp W0 => ?_)
  refine lv_istore (lv' := [(5, .int k), (0, .ref b), (1, .ref (G 0 0)), (2, .ref (Gm 0 0)), (3, .ref o), (4, .int (nI i))]) hx hb dL_law_1733 hl (by decide) rfl (fun ls hl => ?_)
  refine lv_aload_n hx hb dL_law_1735 rfl (lv_at hl 3 rfl) ?_
  refine lw_arg K X W0.2.2.2 hl 5 1 rfl rfl 1 (by omega) (by decide +kernel) dL_law_1736 dL_law_1737 dL_law_1739 dL_law_1740 dL_law_1741 ?_
  refine lw_M (As := [.int (xs (i + 1))]) (rest := []) K C W0 k_X4_candlesAfter m_1498 (c_X4_candlesAfter (xs (i + 1)) M M' r e2) rfl rfl rfl hl.1 (Nat.le_of_ble_eq_true rfl) dL_law_1742 (by decide) ⟨by omega, by omega⟩ rfl (fun H locs W0 => ?_)
  refine lv_istore (lv' := [(6, .int r), (5, .int k), (0, .ref b), (1, .ref (G 0 0)), (2, .ref (Gm 0 0)), (3, .ref o), (4, .int (nI i))]) hx hb dL_law_1745 hl (by decide) rfl (fun ls hl => ?_)
  refine W.widen (k := cb + 3) (n := sb + 18) (by omega) (by omega) ?_
  exact lw_tail K C W0 hl 4 5 1 0 rfl rfl rfl rfl hp hz ⟨by omega, by omega⟩ dL_law_1747 dL_law_1748 dL_law_1751 dL_law_1753 dL_law_1758 dL_law_1760 dL_law_1763 dL_law_1764 dL_law_1765 dL_law_1766 dL_law_1768 dL_law_1769 dL_law_1770 dL_law_1775 (by decide) (fun H1 locs1 W1 => kk T' M' f' H1 locs1 ls hR W1 (lv_sub hl [2, 3, 4, 5, 6] rfl))
set_option maxHeartbeats 4000000 in
set_option maxRecDepth 100000 in
theorem lc_wishesAfter {p : Program} {l : Launch} {e : Env} {s : State} {m : MethodId} {args : Array Value} {below : List Frame} {meth : Method} {c : Code} {H : Heap} {locs : List Loc} {cb sb : Nat} {Q : State → Prop} {ls : Array Slot} {D : va_G} {Y : Nat → ClassId} {S V : Nat → Nat} {G Gm : Nat → Nat → Nat} {A : Nat → Prop} {cL : ClassId} {o : Nat} {f : Nat → Int64} {T M : zT} {b L i : Nat} {xs : Nat → Int32} (K : zLS p l s m args c) (C : zLC D Y S V G Gm A cL o s) (X : zLX b L xs A s) (hi : i + 5 < L) (h : zRel T M) (W0 : zLW D Y G Gm A cL o f s T M H locs) (hl : lv_has ls 9 [(0, .ref b), (1, .ref (G 0 0)), (2, .ref (Gm 0 0)), (3, .ref o), (4, .int (nI i))]) (hcb : cb + 3 ≤ 601024 ∧ sb + 18 ≤ 7293034)
    (kk : ∀ (T1 M1 : zT) (f1 : Nat → Int64) (H1 : Heap) (locs1 : List Loc) (ls1 : Array Slot), zRel T1 M1 → zLW D Y G Gm A cL o f1 s T1 M1 H1 locs1 → lv_has ls1 9 [(0, .ref b), (1, .ref (G 0 0)), (2, .ref (Gm 0 0)), (3, .ref o), (4, .int (nI i))] → W p l e room_1 s m args below meth c H1 locs1 (cb + 3) (sb + 18) Q (F0 m 2703 ls1 [])) : W p l e room_1 s m args below meth c H locs cb sb Q (F0 m 1778 ls []) := by
  obtain ⟨hx, hb, -⟩ := id K
  obtain ⟨hcb1, hcb2⟩ := hcb
  refine lv_aload_n hx hb dL_law_1778 rfl (lv_at hl 1 rfl) ?_
  refine lw_arg K X W0.2.2.2 hl 4 0 rfl rfl 1 (by omega) (by decide +kernel) dL_law_1779 dL_law_1780 dL_law_1782 dL_law_1783 dL_law_1784 ?_
  refine lw_arg K X W0.2.2.2 hl 4 0 rfl rfl 2 (by omega) (by decide +kernel) dL_law_1785 dL_law_1786 dL_law_1788 dL_law_1789 dL_law_1790 ?_
  refine lv_aload_n hx hb dL_law_1791 rfl (lv_at hl 3 rfl) ?_
  obtain ⟨v, T', r, M', e1, e2, hR, hv, hz⟩ := zOpX.all (code := fun n => if n = 2 then 1 else 2) (o_wishesAfter h (xs (i + 1)) (xs (i + 2))) (fun x k hk => by simp at hk; rcases hk with ⟨rfl, rfl⟩ | ⟨rfl, rfl⟩ <;> decide +kernel)
  refine lw_C (As := [.ref (G 0 0), .int (xs (i + 1)), .int (xs (i + 2)), .ref o]) (rest := []) K C W0 kw_wishesAfter m_938 (cw_wishesAfter (xs (i + 1)) (xs (i + 2)) T T' v e1 (fun n hn => by obtain ⟨k, hk⟩ := hv n hn; simp at hk; omega)) rfl rfl hl.1 (Nat.le_of_ble_eq_true rfl) dL_law_1792 (by decide) ⟨by omega, by omega⟩ rfl (fun H locs k f' hp W0 => ?_)
  refine lv_istore (lv' := [(5, .int k), (0, .ref b), (1, .ref (G 0 0)), (2, .ref (Gm 0 0)), (3, .ref o), (4, .int (nI i))]) hx hb dL_law_1795 hl (by decide) rfl (fun ls hl => ?_)
  refine lv_aload_n hx hb dL_law_1797 rfl (lv_at hl 3 rfl) ?_
  refine lw_arg K X W0.2.2.2 hl 5 1 rfl rfl 1 (by omega) (by decide +kernel) dL_law_1798 dL_law_1799 dL_law_1801 dL_law_1802 dL_law_1803 ?_
  refine lw_arg K X W0.2.2.2 hl 5 1 rfl rfl 2 (by omega) (by decide +kernel) dL_law_1804 dL_law_1805 dL_law_1807 dL_law_1808 dL_law_1809 ?_
  refine lw_M (As := [.int (xs (i + 1)), .int (xs (i + 2))]) (rest := []) K C W0 k_X4_wishesAfter m_1502 (c_X4_wishesAfter (xs (i + 1)) (xs (i + 2)) M M' r e2) rfl rfl rfl hl.1 (Nat.le_of_ble_eq_true rfl) dL_law_1810 (by decide) ⟨by omega, by omega⟩ rfl (fun H locs W0 => ?_)
  refine lv_istore (lv' := [(6, .int r), (5, .int k), (0, .ref b), (1, .ref (G 0 0)), (2, .ref (Gm 0 0)), (3, .ref o), (4, .int (nI i))]) hx hb dL_law_1813 hl (by decide) rfl (fun ls hl => ?_)
  refine W.widen (k := cb + 3) (n := sb + 18) (by omega) (by omega) ?_
  exact lw_tail K C W0 hl 4 5 1 0 rfl rfl rfl rfl hp hz ⟨by omega, by omega⟩ dL_law_1815 dL_law_1816 dL_law_1819 dL_law_1821 dL_law_1826 dL_law_1828 dL_law_1831 dL_law_1832 dL_law_1833 dL_law_1834 dL_law_1836 dL_law_1837 dL_law_1838 dL_law_1843 (by decide) (fun H1 locs1 W1 => kk T' M' f' H1 locs1 ls hR W1 (lv_sub hl [2, 3, 4, 5, 6] rfl))
set_option maxHeartbeats 4000000 in
set_option maxRecDepth 100000 in
theorem lc_heldParties {p : Program} {l : Launch} {e : Env} {s : State} {m : MethodId} {args : Array Value} {below : List Frame} {meth : Method} {c : Code} {H : Heap} {locs : List Loc} {cb sb : Nat} {Q : State → Prop} {ls : Array Slot} {D : va_G} {Y : Nat → ClassId} {S V : Nat → Nat} {G Gm : Nat → Nat → Nat} {A : Nat → Prop} {cL : ClassId} {o : Nat} {f : Nat → Int64} {T M : zT} {b L i : Nat} {xs : Nat → Int32} (K : zLS p l s m args c) (C : zLC D Y S V G Gm A cL o s) (X : zLX b L xs A s) (hi : i + 5 < L) (h : zRel T M) (W0 : zLW D Y G Gm A cL o f s T M H locs) (hl : lv_has ls 9 [(0, .ref b), (1, .ref (G 0 0)), (2, .ref (Gm 0 0)), (3, .ref o), (4, .int (nI i))]) (hcb : cb + 3 ≤ 601024 ∧ sb + 18 ≤ 7293034)
    (kk : ∀ (T1 M1 : zT) (f1 : Nat → Int64) (H1 : Heap) (locs1 : List Loc) (ls1 : Array Slot), zRel T1 M1 → zLW D Y G Gm A cL o f1 s T1 M1 H1 locs1 → lv_has ls1 9 [(0, .ref b), (1, .ref (G 0 0)), (2, .ref (Gm 0 0)), (3, .ref o), (4, .int (nI i))] → W p l e room_1 s m args below meth c H1 locs1 (cb + 3) (sb + 18) Q (F0 m 2703 ls1 [])) : W p l e room_1 s m args below meth c H locs cb sb Q (F0 m 1846 ls []) := by
  obtain ⟨hx, hb, -⟩ := id K
  obtain ⟨hcb1, hcb2⟩ := hcb
  obtain ⟨v, T', M', e1, e2, hR⟩ := o_heldParties h
  refine lv_aload_n hx hb dL_law_1846 rfl (lv_at hl 1 rfl) ?_
  refine lw_X (As := []) (rest := []) K C W0 k_X3_heldParties m_605 (c_X3_heldParties T T' v e1) rfl rfl rfl hl.1 (Nat.le_of_ble_eq_true rfl) dL_law_1847 (by decide) ⟨by omega, by omega⟩ rfl (fun H locs W0 => ?_)
  refine lv_aload_n hx hb dL_law_1850 rfl (lv_at hl 2 rfl) ?_
  refine lw_M (As := []) (rest := [.int v]) K C W0 k_X4_heldParties m_1506 (c_X4_heldParties M M' v e2) rfl rfl rfl hl.1 (Nat.le_of_ble_eq_true rfl) dL_law_1851 (by decide) ⟨by omega, by omega⟩ rfl (fun H locs W0 => ?_)
  refine lv_icmp_eq (tgt := 2703) hx hb dL_law_1854 (by decide) (fun _ => ?_) (fun hc => absurd rfl hc)
  refine W.widen (k := cb + 3) (n := sb + 18) (by omega) (by omega) ?_
  exact kk T' M' f H locs ls hR W0 hl
set_option maxHeartbeats 4000000 in
set_option maxRecDepth 100000 in
theorem lc_failedParties {p : Program} {l : Launch} {e : Env} {s : State} {m : MethodId} {args : Array Value} {below : List Frame} {meth : Method} {c : Code} {H : Heap} {locs : List Loc} {cb sb : Nat} {Q : State → Prop} {ls : Array Slot} {D : va_G} {Y : Nat → ClassId} {S V : Nat → Nat} {G Gm : Nat → Nat → Nat} {A : Nat → Prop} {cL : ClassId} {o : Nat} {f : Nat → Int64} {T M : zT} {b L i : Nat} {xs : Nat → Int32} (K : zLS p l s m args c) (C : zLC D Y S V G Gm A cL o s) (X : zLX b L xs A s) (hi : i + 5 < L) (h : zRel T M) (W0 : zLW D Y G Gm A cL o f s T M H locs) (hl : lv_has ls 9 [(0, .ref b), (1, .ref (G 0 0)), (2, .ref (Gm 0 0)), (3, .ref o), (4, .int (nI i))]) (hcb : cb + 3 ≤ 601024 ∧ sb + 18 ≤ 7293034)
    (kk : ∀ (T1 M1 : zT) (f1 : Nat → Int64) (H1 : Heap) (locs1 : List Loc) (ls1 : Array Slot), zRel T1 M1 → zLW D Y G Gm A cL o f1 s T1 M1 H1 locs1 → lv_has ls1 9 [(0, .ref b), (1, .ref (G 0 0)), (2, .ref (Gm 0 0)), (3, .ref o), (4, .int (nI i))] → W p l e room_1 s m args below meth c H1 locs1 (cb + 3) (sb + 18) Q (F0 m 2703 ls1 [])) : W p l e room_1 s m args below meth c H locs cb sb Q (F0 m 1859 ls []) := by
  obtain ⟨hx, hb, -⟩ := id K
  obtain ⟨hcb1, hcb2⟩ := hcb
  obtain ⟨v, T', M', e1, e2, hR⟩ := o_failedParties h
  refine lv_aload_n hx hb dL_law_1859 rfl (lv_at hl 1 rfl) ?_
  refine lw_X (As := []) (rest := []) K C W0 k_X3_failedParties m_612 (c_X3_failedParties T T' v e1) rfl rfl rfl hl.1 (Nat.le_of_ble_eq_true rfl) dL_law_1860 (by decide) ⟨by omega, by omega⟩ rfl (fun H locs W0 => ?_)
  refine lv_aload_n hx hb dL_law_1863 rfl (lv_at hl 2 rfl) ?_
  refine lw_M (As := []) (rest := [.int v]) K C W0 k_X4_failedParties m_1510 (c_X4_failedParties M M' v e2) rfl rfl rfl hl.1 (Nat.le_of_ble_eq_true rfl) dL_law_1864 (by decide) ⟨by omega, by omega⟩ rfl (fun H locs W0 => ?_)
  refine lv_icmp_eq (tgt := 2703) hx hb dL_law_1867 (by decide) (fun _ => ?_) (fun hc => absurd rfl hc)
  refine W.widen (k := cb + 3) (n := sb + 18) (by omega) (by omega) ?_
  exact kk T' M' f H locs ls hR W0 hl
