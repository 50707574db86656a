/-! FROM THE LAW'S ENTRY -/
theorem zP.of {w : Nat} {D : va_G} {Y : Nat → ClassId} {G : Nat → Nat → Nat} {T : zT} {H : Heap} {ws : va_W} (h : va_P D vwCl (zL w Y G T ++ ws) H) : zP w D Y G T H := fun κ ι hV => by
  obtain ⟨k, -, hk⟩ := zL_id (Y := Y) (G := G) (T := T) hV
  exact h k _ (by rw [List.getElem?_append_left (List.getElem?_eq_some_iff.mp hk).1]; exact hk)
theorem zL_ne {w : Nat} {Y : Nat → ClassId} {G : Nat → Nat → Nat} {T : zT} {A : Nat → Prop} {q : Nat} {en : va_E} (h : va_D A (zL w Y G T ++ [(q, en)])) {κ ι : Nat} (hV : zV w κ ι) : G κ ι ≠ q := fun e => by
  obtain ⟨k, -, hk⟩ := zL_id (Y := Y) (G := G) (T := T) hV
  have hl := (List.getElem?_eq_some_iff.mp hk).1
  have := h.1 k (zL w Y G T).length _ _ (by rw [List.getElem?_append_left hl]; exact hk) zapp0 e
  omega
theorem va_Pr {D : va_G} {H : Heap} {a b : va_W} (h : va_P D vwCl (a ++ b) H) : va_P D vwCl b H := fun k q hk => h (a.length + k) q (by rw [List.getElem?_append_right (Nat.le_add_right _ _), Nat.add_sub_cancel_left]; exact hk)
theorem zne {A : Nat → Prop} {ws : va_W} {q : Nat} {en : va_E} (h : va_D A (ws ++ [(q, en)])) {k : Nat} {x : Nat × va_E} (hk : ws[k]? = some x) : x.1 ≠ q := fun e => by
  have hl := (List.getElem?_eq_some_iff.mp hk).1
  have := h.1 k ws.length _ _ (by rw [List.getElem?_append_left hl]; exact hk) zapp0 e
  omega
set_option maxHeartbeats 8000000 in
set_option maxRecDepth 100000 in
/-- from the entry, for every script of at most 3072 ints, the law comes to its end with true -/
theorem whole_start {p : Program} {e : Env} {s : State} {m : MethodId} {below : List Frame} {meth : Method} {c : Code} (l : Launch) (hflags : l.flags = flags0) {b L : Nat} {xs : Nat → Int32} (hL : L ≤ 3072) (C0 : lw_At p s m meth c b L xs) : W p l e room_1 s m #[Value.ref b] below meth c s.heap [] 0 0 (lw_Z below #[Value.ref b] s) (entryFrame m ([Value.ref b] : List Value).toArray 9) := by
  obtain ⟨hx, hb, hr, hml, hown, hts, hX, hbl, hlocks, hgv⟩ := id C0
  obtain ⟨D, Y, S, V, cL, hKl⟩ := zK_start hts hgv
  obtain ⟨T1, M1, hT1, hM1, hR⟩ := i_rel
  obtain ⟨A, eA⟩ : ∃ A : Nat → Prop, A = fun q : Nat => s.heap.size ≤ q := ⟨_, rfl⟩
  rw [← eA] at hKl
  have hA : ∀ q : Nat, s.heap.size ≤ q → A q := fun q h => by rw [eA]; exact h
  have hAi : ∀ q : Nat, A q → s.heap.size ≤ q := fun q h => by rw [eA] at h; exact h
  have hbA : ¬ A b := fun h => absurd (hAi b h) (Nat.not_le.mpr hbl)
  have hK : va_K D vwCl (ztys Y) s := hKl.1.1
  have ok : ∀ w ∈ zWS, w.before #[Value.ref b] s = true := fun w h => hts w (zin_tbl h)
  have hts' : ∀ w ∈ zc0 :: zWS, w.before #[Value.ref b] s = true := fun w h => by
    rcases List.mem_cons.mp h with rfl | h
    · exact ok _ zc0_in
    · exact ok _ h
  have hownL : s.vm.findClass RL = some m.cls := hown
  have K : zLS p l s m #[Value.ref b] c := ⟨hx, hb, hml, hownL, hts', hflags⟩
  have hAO : va_AO RX2 s := va_AO.of (hts _ z_arw.2.2.2.2)
  have hS : va_S A s.heap s.heap [] := va_S.rf
  have hl := lv_entry ([.ref b]) (n := 9) (Nat.le_of_ble_eq_true rfl)
  rw [lg_entry_eq]
  generalize (lg_sl ([.ref b]) ++ List.replicate (9 - (lg_sl ([.ref b])).length) Slot.unset).toArray = ls at hl ⊢
  have hl : lv_has ls 9 [(0, .ref b)] := hl
  rw [zroom]
  have hP : va_P D vwCl [] s.heap := fun k q h => by simp at h
  have hD : va_D A [] := ⟨fun i j p q h => by simp at h, fun k q h => by simp at h⟩
  refine va_new (ci := 3) (fs := zbl3) (C := RX3) (T := TX3) (N := 10) hx hb hts' (fun w h => List.mem_cons_of_mem _ (ziX3 w h)) tyX3 tyX3_ok hownL (ok _ m_101) (ok _ m_102) (ok _ m_83) hK hP hD hS hA rfl zbl3_ok (by show _ ≤ 601024; omega) (by show _ ≤ 7293034; omega) dL_law_0 (fun x0 H hP hD hS => ?_)
  have hq : va_at D vwCl (x0, .inr (3, zbl3)) H := hP 0 _ rfl
  have hx0 : A x0 := hD.2 0 _ rfl
  have hAB : ∀ r, zAs x0 H.size r → A r := fun r h => by
    rcases h with rfl | h
    · exact hx0
    · exact hA r (Nat.le_trans hS.1 h)
  refine lv_dup hx hb dL_law_3 rfl ?_
  obtain ⟨k1, k2, k3, k4, k5, k6, k7⟩ := ki_X3_init
  refine z_done (PB := fun H1 => ∃ G, G 0 0 = x0 ∧ zP 0 D Y G T1 H1 ∧ zG 0 G (zAs x0 H.size)) (A1 := zAs x0 H.size) (rest := [.ref x0]) (mc' := 172) (ms' := 2308) ?_ hS hAB (fun H1 locs hB hz hk hS => ?_)
  · exact vx_runI (Ts := zc0 :: zWS) (bytes := cX3_init) (maxL := 2) (n := 0) (As := []) ⟨hx, hb, hml, hownL, hts'⟩ (c_X3_init l hflags D Y S V x0 H.size hT1) ⟨⟨rfl, rfl, (by show 8 + 1 ≤ 12; omega), (by show 8 + (2 + 11) + 37 * 8 ≤ 37 * 12; omega), z_pay hts' k3, List.mem_cons_self, ok _ k3, ok _ k2, k4, z_len k5, ok _ m_103⟩, rfl, ok _ k1⟩ ⟨fun a U g mk q => by
        obtain ⟨q0, ⟨q1, q2, q3⟩, q4⟩ := q
        exact ⟨q0, ⟨zK.same (U := U.calling g mk a) q1 rfl, va_AO.moved (u := U) (U := U.calling g mk a) (Vm.Alike.refl U.vm) q2, q3⟩, q4⟩, fun U hU hW => ⟨rfl, ⟨by rw [hU]; exact (hKl.1.go hW hS.2.1).narrow hAB, va_AO.moved hW.alike hAO, by rw [hU]; exact hP⟩, by rw [hU]⟩⟩ rfl rfl hl.1 rfl (Nat.le_of_ble_eq_true rfl) dL_law_4 ⟨(by show _ ≤ 601024; omega), (by show _ ≤ 7293034; omega)⟩
  obtain ⟨G, hG00, hP0, hG0⟩ := hB
  subst hG00
  have hG0' : zG 0 G A := ⟨hG0.1, fun κ ι hV => hAB _ (hG0.2 κ ι hV)⟩
  refine lv_astore_n (lv' := [(1, .ref (G 0 0)), (0, .ref b)]) hx hb dL_law_7 rfl hl (by decide) rfl (fun ls hl => ?_)
  refine va_new (ci := 4) (fs := zbl4) (C := RX4) (T := TX4) (N := 24) hx hb hts' (fun w h => List.mem_cons_of_mem _ (ziX4 w h)) tyX4 tyX4_ok hownL (ok _ m_1077) (ok _ m_1078) (ok _ m_94) hK hP0.list hG0'.list hS hA rfl zbl4_ok (by show _ ≤ 601024; omega) (by show _ ≤ 7293034; omega) dL_law_8 (fun y0 H2 hP2 hD2 hS => ?_)
  have hP0 : zP 0 D Y G T1 H2 := zP.of hP2
  have ne : ∀ κ ι, zV 0 κ ι → G κ ι ≠ y0 := fun κ ι hV => zL_ne hD2 hV
  have hy : va_at D vwCl (y0, .inr (4, zbl4)) H2 := hP2 _ _ zapp0
  have hy0 : A y0 := hD2.2 _ _ zapp0
  have hAB2 : ∀ r, zAs y0 H2.size r → A r := fun r h => by
    rcases h with rfl | h
    · exact hy0
    · exact hA r (Nat.le_trans hS.1 h)
  refine lv_dup hx hb dL_law_11 rfl ?_
  obtain ⟨k1, k2, k3, k4, k5, k6, k7⟩ := ki_X4_init
  refine z_done (PB := fun H1 => ∃ Gm, Gm 0 0 = y0 ∧ zP 1 D Y Gm M1 H1 ∧ zG 1 Gm (zAs y0 H2.size)) (A1 := zAs y0 H2.size) (rest := [.ref y0]) (mc' := 8) (ms' := 2840) ?_ hS hAB2 (fun H3 locs hB hz2 hk2 hS => ?_)
  · exact vx_runI (Ts := zc0 :: zWS) (bytes := cX4_init) (maxL := 2) (n := 0) (As := []) ⟨hx, hb, hml, hownL, hts'⟩ (c_X4_init l hflags D Y S V y0 H2.size hM1) ⟨⟨rfl, rfl, (by show 6 + 1 ≤ 12; omega), (by show 8 + (2 + 11) + 37 * 6 ≤ 37 * 12; omega), z_pay hts' k3, List.mem_cons_self, ok _ k3, ok _ k2, k4, z_len k5, ok _ m_1079⟩, rfl, ok _ k1⟩ ⟨fun a U g mk q => by
        obtain ⟨q0, ⟨q1, q2⟩, q4⟩ := q
        exact ⟨q0, ⟨zK.same (U := U.calling g mk a) q1 rfl, q2⟩, q4⟩, fun U hU hW => ⟨rfl, ⟨by rw [hU]; exact (hKl.1.go hW hS.2.1).narrow hAB2, fun k x hk => by
          match k, hk with
          | 0, hk => cases hk; rw [hU]; exact hy
          | k + 1, hk => simp at hk⟩, by rw [hU]⟩⟩ rfl rfl hl.1 rfl (Nat.le_of_ble_eq_true rfl) dL_law_12 ⟨(by show _ ≤ 601024; omega), (by show _ ≤ 7293034; omega)⟩
  obtain ⟨Gm, hGm, hP1, hG1⟩ := hB
  subst hGm
  have hG1' : zG 1 Gm A := ⟨hG1.1, fun κ ι hV => hAB2 _ (hG1.2 κ ι hV)⟩
  have hd01 : ∀ κ ι κ' ι', zV 0 κ ι → zV 1 κ' ι' → G κ ι ≠ Gm κ' ι' := fun κ ι κ' ι' hV hV' e9 => by
    have hlt := hP0.lt hV
    rcases hG1.2 κ' ι' hV' with h | h
    · exact ne κ ι hV (e9.trans h)
    · omega
  have hP0' : zP 0 D Y G T1 H3 := hP0.frame fun κ ι hV => hk2 _ (hP0.lt hV) fun h => by
    have hlt := hP0.lt hV
    rcases h with h | h
    · exact ne κ ι hV h
    · omega
  refine lv_astore_n (lv' := [(2, .ref (Gm 0 0)), (1, .ref (G 0 0)), (0, .ref b)]) hx hb dL_law_15 rfl hl (by decide) rfl (fun ls hl => ?_)
  refine lv_iconst (v := 1) hx hb dL_law_16 (by decide) ?_
  have hD3 : va_D A (zL 0 Y G T1 ++ zL 1 Y Gm M1) := va_D.app hG0'.list hG1'.list (fun i j p q hi hj e9 => by
    obtain ⟨κ, ι, -, hV, rfl⟩ := zL_at hi
    obtain ⟨κ', ι', -, hV', rfl⟩ := zL_at hj
    exact hd01 κ ι κ' ι' hV hV' e9)
  refine va_newa (atype := .long) (ty := .long) (a0 := (1, .inr (.inl fun _ => 0))) (N' := 1) hx hb (ok _ m_1601) rfl hK (va_P.app hP0'.list hP1.list) hD3 hS hA (fun _ => rfl) (by decide) (by decide) (Nat.le_of_ble_eq_true rfl) (by show _ ≤ 601024; omega) (by show _ ≤ 7293034; omega) dL_law_17 (fun o cA H4 hK4 hP4 hD4 hS => ?_)
  have ec : cA = cL := by
    have a : s.vm.findClass _ = some cA := (hK4.2 4 _ rfl).2
    have b : s.vm.findClass _ = some cL := (hKl.2.1.2 0 _ rfl).2
    exact Option.some.inj (a.symm.trans b)
  subst ec
  have hO : zOw D cA o (fun _ => 0) H4 := hP4 _ _ zapp0
  have hoA : A o := hD4.2 _ _ zapp0
  have z0 : zP 0 D Y G T1 H4 := zP.of (ws := zL 1 Y Gm M1 ++ [(o, .inl (cA, 1, .inr (.inl fun _ => 0)))]) (by rw [← List.append_assoc]; exact hP4)
  have z1 : zP 1 D Y Gm M1 H4 := zP.of (ws := [(o, .inl (cA, 1, .inr (.inl fun _ => 0)))]) (va_Pr (a := zL 0 Y G T1) (by rw [← List.append_assoc]; exact hP4))
  have hd0 : ∀ κ ι, zV 0 κ ι → G κ ι ≠ o := fun κ ι hV e9 => by
    obtain ⟨k, -, hk⟩ := zL_id (w := 0) (Y := Y) (G := G) (T := T1) hV
    exact zne hD4 (k := k) (x := (G κ ι, zcell 0 Y G T1 κ ι)) (by rw [List.getElem?_append_left (List.getElem?_eq_some_iff.mp hk).1]; exact hk) e9
  have hd1 : ∀ κ ι, zV 1 κ ι → Gm κ ι ≠ o := fun κ ι hV e9 => by
    obtain ⟨k, -, hk⟩ := zL_id (w := 1) (Y := Y) (G := Gm) (T := M1) hV
    exact zne hD4 (k := (zL 0 Y G T1).length + k) (x := (Gm κ ι, zcell 1 Y Gm M1 κ ι)) (by rw [List.getElem?_append_right (Nat.le_add_right _ _), Nat.add_sub_cancel_left]; exact hk) e9
  refine lv_astore_n (lv' := [(3, .ref o), (2, .ref (Gm 0 0)), (1, .ref (G 0 0)), (0, .ref b)]) hx hb dL_law_19 rfl hl (by decide) rfl (fun ls hl => ?_)
  refine lv_iconst (v := 0) hx hb dL_law_20 (by decide) ?_
  refine lv_istore (lv' := [(4, .int 0), (3, .ref o), (2, .ref (Gm 0 0)), (1, .ref (G 0 0)), (0, .ref b)]) hx hb dL_law_21 hl (by decide) rfl (fun ls hl => ?_)
  rw [← zroom]
  refine law_loop (D := D) (Y := Y) (S := S) (V := V) (G := G) (Gm := Gm) (A := A) (cL := cA) (o := o) (xs := xs) K ⟨hKl, hG0', hG1', hoA, hd01, hd0, hd1, hA⟩ ⟨hX, hbl, hbA, hL⟩ (fun H locs ls cells slots h1 h2 hS => ?_) 513 0 T1 M1 _ H4 _ ls _ _ (by omega) (by omega) (by omega) (by omega) hR ⟨z0, z1, hO, hS⟩ (lv_sub hl [4, 3, 2, 1, 0] rfl)
  refine lv_iconst (v := 1) hx hb dL_law_2709 (by decide) ?_
  refine va_forget (fun q hq => hAi _ (hS.2.2 q hq)) ?_
  refine W.widen h1 h2 (W.base ?_)
  exact lw_ret (Drawn.sameBut.refl s.drawn lw_cs) hx hb hr hlocks dL_law_2710
