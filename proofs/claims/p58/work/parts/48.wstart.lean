/-! FROM THE LAW'S ENTRY -/
theorem m_53 : Cond.classLink RL 19 RX3 ∈ zWS := zws_in 53 (by decide +kernel) (by decide +kernel)
theorem m_55 : Cond.methodLink RL 243 yX3_init ∈ zWS := zws_in 55 (by decide +kernel) (by decide +kernel)
theorem ki_X3_init : zkci yX3_init cX3_init 2 := ⟨zws_in 56 (by decide +kernel) (by decide +kernel), zws_in 31 (by decide +kernel) (by decide +kernel), zws_in 57 (by decide +kernel) (by decide +kernel), ⟨by decide +kernel, by decide +kernel⟩, by decide +kernel, rfl, by decide⟩
theorem z_room {p : Program} {l : Launch} {e : Env} {R R' : Room} {s : State} {m : MethodId} {args : Array Value} {below : List Frame} {meth : Method} {c : Code} {T : State} {locs : List Loc} {cells slots : Nat} (X : Stand p l e R s m args below meth c T locs cells slots) (hf : R'.frames ≤ R.frames) (hl : R'.locals ≤ R.locals) (hc : R'.cells ≤ R.cells) (hs : R'.slots ≤ R.slots) : Stand p l e R' s m args below meth c T locs cells slots := by
  refine { X with room := ?_ }
  have h := X.room
  simp only [State.hasRoom, Bool.and_eq_true, decide_eq_true_eq] at h ⊢
  obtain ⟨⟨⟨⟨h1, h2, h3, h4, h5, h6⟩, h7⟩, h8⟩, h9⟩ := h
  exact ⟨⟨⟨⟨by omega, by omega, by omega, by omega, by omega, h6⟩, by omega⟩, by omega⟩, h9⟩
/-- the law's end, in any room -/
theorem z_lawret {p : Program} {l : Launch} {e : Env} {R : Room} {s : State} {m : MethodId} {below : List Frame} {meth : Method} {c : Code} {b : Nat} {d0 : Drawn} (hd0 : s.drawn.sameBut d0 lw_cs) (hx : p.tables.exec = Jvm.exec) (hb : c.code = code) (hr : meth.sig.returnType = ret) (hlocks : meth.locks = false) {pc : Nat} {H : Heap} {ls : Array Slot} (hdg : decode code pc = .ok (.ireturn, 1)) : W p l e R (s.setDrawn d0) m #[Value.ref b] below meth c H [] 600086 7301442 (lw_Z below #[Value.ref b] s) (F0 m pc ls [.int 1]) := by
  intro T hT X
  obtain ⟨fs, hret, hrun, hended, hW, hframe⟩ := X.leave (v := some (.int 1)) (hlocks := hlocks) (fun h => by rw [hr] at h; cases h)
  have hmeth' : T.vm.method? m = some meth := X.method'
  refine ⟨T.setFrames fs, ?_, .returned (some (.int 1)), hrun, hended, rfl, lw_closed hd0 ⟨_, rfl⟩ hW hframe⟩
  jvm_step X.here [X.here.top, hx, hb, hdg, hmeth', hr, ret, narrow_b1]
  (try refine ⟨rfl, ?_⟩); (try refine ⟨rfl, ?_⟩)
  first | (intro acts; rw [hret _ acts rfl rfl rfl]) | rw [hret _ _ rfl rfl rfl]
  exact Steps.refl _
set_option maxHeartbeats 8000000 in
set_option maxRecDepth 100000 in
/-- from the entry, for every script of at most 260 ints, where the law's own function gives 1, the law comes to its end with true -/
theorem law_start (hpure : ∀ (b L : Nat) (xs : Nat → Int32) (T : zT), L ≤ 260 → T.1 0 1 1 = 0 → ∃ T', rg_L_law b L xs T = some (1, T')) {p : Program} {e : Env} {s : State} {m : MethodId} {below : List Frame} {meth : Method} {c : Code} (l : Launch) (hflags : l.flags = flags0) {b L : Nat} {xs : Nat → Int32} (hL : L ≤ 260) (C0 : lw_At p s m meth c b L xs) : W p l e room_1 s m #[Value.ref b] below meth c s.heap [] 0 0 (lw_Z below #[Value.ref b] s) (entryFrame m ([Value.ref b] : List Value).toArray 11) := by
  obtain ⟨hx, hb, hr, hml, hown, hts, hX, hbl, hlocks, hgv⟩ := id C0
  obtain ⟨D, Y, S, V, hJ⟩ := zJ_start hts hgv
  obtain ⟨T1, hT1, hT0⟩ := i_beg
  obtain ⟨A, eA⟩ : ∃ A : Nat → Prop, A = fun q : Nat => s.heap.size ≤ q := ⟨_, rfl⟩
  rw [← eA] at hJ
  have hA : ∀ q : Nat, s.heap.size ≤ q → A q := fun q h => by rw [eA]; exact h
  have hAi : ∀ q : Nat, A q → s.heap.size ≤ q := fun q h => by rw [eA] at h; exact h
  have hbA : ¬ A b := fun h => absurd (hAi b h) (Nat.not_le.mpr hbl)
  have hKl := hJ.1
  have hK : va_K D vwCl (ztys Y) s := hJ.1.1
  have ok : ∀ w ∈ zWS, w.before #[Value.ref b] s = true := fun w h => hts w (zin_tbl h)
  have hts' : ∀ w ∈ Cond.initialized RJ4 :: zWS, w.before #[Value.ref b] s = true := fun w h => by
    rcases List.mem_cons.mp h with rfl | h
    · exact ok _ mr_ini
    · exact ok _ h
  have hownL : s.vm.findClass RL = some m.cls := hown
  have hAO : va_AO RX2 s := va_AO.of (hts _ z_arw.2.2.2)
  have hS : va_S A s.heap s.heap [] := va_S.rf
  have hl := lv_entry ([.ref b]) (n := 11) (Nat.le_of_ble_eq_true rfl)
  rw [lg_entry_eq]
  generalize (lg_sl ([.ref b]) ++ List.replicate (11 - (lg_sl ([.ref b])).length) Slot.unset).toArray = ls at hl ⊢
  have hl : lv_has ls 11 [(0, .ref b)] := hl
  suffices hW : W p l e (zR 11 600086 7301442) s m #[Value.ref b] below meth c s.heap [] 0 0 (lw_Z below #[Value.ref b] s) (F0 m 0 ls []) from
    fun T hT X => hW T hT (z_room X (by decide) (by decide) (by decide) (by decide))
  have hP : va_P D vwCl [] s.heap := fun k q h => by simp at h
  have hD : va_D A [] := ⟨fun i j p q h => by simp at h, fun k q h => by simp at h⟩
  refine va_new (ci := 3) (fs := zbl3) (C := RX3) (T := TX3) (N := 10) hx hb hts' (fun w h => List.mem_cons_of_mem _ (ziX3 w h)) tyX3 tyX3_ok hownL (ok _ m_53) (ok _ m_54) (ok _ m_31) hK hP hD hS hA rfl zbl3_ok (by show 0 + 1 ≤ 600086; omega) (by show 0 + 10 ≤ 7301442; omega) dL_law_0 (fun x0 H hP hD hS => ?_)
  have hq : va_at D vwCl (x0, .inr (3, zbl3)) H := hP 0 _ rfl
  have hx0 : A x0 := hD.2 0 _ rfl
  have hAB : ∀ r, zAs x0 H.size r → A r := fun r h => by
    rcases h with rfl | h
    · exact hx0
    · exact hA r (Nat.le_trans hS.1 h)
  refine lv_dup hx hb dL_law_3 rfl ?_
  obtain ⟨k1, k2, k3, k4, k5, k6, k7⟩ := ki_X3_init
  refine z_done (PB := fun H1 => ∃ G, G 0 0 = x0 ∧ zP 0 D Y G T1 H1 ∧ zG 0 G (zAs x0 H.size)) (A1 := zAs x0 H.size) (rest := [.ref x0]) (mc' := 172) (ms' := 2308) ?_ hS hAB (fun H1 locs hB hz hk hS => ?_)
  · exact vx_runI (Ts := Cond.initialized RJ4 :: zWS) (bytes := cX3_init) (maxL := 2) (n := 0) (As := []) ⟨hx, hb, hml, hownL, hts'⟩ (c_X3_init l hflags D Y S V x0 H.size hT1) ⟨⟨rfl, rfl, (by show 8 + 1 ≤ 11; omega), (by show 8 + (2 + 11) + 37 * 8 ≤ 37 * 11; omega), z_pay hts' k3, List.mem_cons_self, ok _ k3, ok _ k2, k4, z_len k5, ok _ m_55⟩, rfl, ok _ k1⟩ ⟨fun a U g mk q => by
        obtain ⟨q0, ⟨q1, q2, q3⟩, q4⟩ := q
        exact ⟨q0, ⟨zK.same (U := U.calling g mk a) q1 rfl, va_AO.moved (u := U) (U := U.calling g mk a) (Vm.Alike.refl U.vm) q2, q3⟩, q4⟩, fun U hU hW => ⟨rfl, ⟨by rw [hU]; exact (hKl.go hW hS.2.1).narrow hAB, va_AO.moved hW.alike hAO, by rw [hU]; exact hP⟩, by rw [hU]⟩⟩ rfl rfl hl.1 rfl (Nat.le_of_ble_eq_true rfl) dL_law_4 ⟨(by show _ ≤ 600086; omega), (by show _ ≤ 7301442; omega)⟩
  obtain ⟨G, hG00, hP0, hG0⟩ := hB
  subst hG00
  have hG0' : zG 0 G A := ⟨hG0.1, fun κ ι hV => hAB _ (hG0.2 κ ι hV)⟩
  refine lv_astore_n (lv' := [(1, .ref (G 0 0)), (0, .ref b)]) hx hb dL_law_7 rfl hl (by decide) rfl (fun ls hl => ?_)
  refine lv_iconst (v := 1) hx hb dL_law_8 (by decide) ?_
  have F : zF 0 11 600086 7301442 p l s m _ c cL_law 11 RL (Cond.initialized RJ4) D Y S V G A := ⟨hx, hb, hml, hownL, hts', hflags, hG0', hKl, hA⟩
  refine z_newi F m_153 1 (by decide) (by decide) hP0 hS (by show _ ≤ 600086; omega) (by show _ ≤ 7301442; omega) rfl dL_law_9 (fun G9 H hG9 hgn hP hS => ?_)
  have e00 : G9 0 0 = G 0 0 := hgn 0 0 (by decide)
  rw [← e00] at hl
  refine lv_dup hx hb dL_law_11 rfl ?_
  refine lv_iconst (v := 0) hx hb dL_law_12 (by decide) ?_
  refine lv_aload_n hx hb dL_law_13 rfl (lv_at hl 1 rfl) ?_
  refine va_slen hx hb hX hbl hbA hS dL_law_14 ?_
  have F9 := zF.world F hG9
  have hend : ∀ (x : Int32), W p l e (zR 11 600086 7301442) s m #[Value.ref b] below meth c H locs (0 + 1 + 172 + 1) (0 + 10 + 2308 + 1) (lw_Z below #[Value.ref b] s) (F0 m 27 ls [.int x, .int 0, .ref (G9 0 8), .ref (G9 0 8)]) := fun x => by
    refine z_iast_ (j := 0) hx hb hKl hP hG9 hS (zIA_8 (by decide)) (by decide) (by decide) dL_law_27 (fun H locs hP hS => ?_)
    generalize eT : wA (wA T1 0 8 fun _ => 0) 0 8 (upd ((wA T1 0 8 fun _ => 0).2 0 8) 0 x) = T2 at hP
    have hT2 : T2.1 0 1 1 = 0 := by rw [← eT]; exact hT0
    refine lv_astore_n (lv' := [(2, .ref (G9 0 8)), (1, .ref (G9 0 0)), (0, .ref b)]) hx hb dL_law_28 rfl hl (by decide) rfl (fun ls hl => ?_)
    obtain ⟨T3, h3⟩ := hpure b L xs T2 hL hT2
    refine r_L_law (ce := 600086) (se := 7301442) ⟨(Nat.le_of_ble_eq_true rfl), (Nat.le_of_ble_eq_true rfl)⟩ F9 ⟨hX, hbl, hbA⟩ hJ.2 _ _ T2 (by show _ ≤ 600086; omega) (by show _ ≤ 7301442; omega) h3 hP hS (lv_sub hl [2, 1, 0] rfl) (fun H locs ls hP hS hl => ?_)
    refine va_forget (fun q hq => hAi _ (hS.2.2 q hq)) ?_
    exact W.base (z_lawret (Drawn.sameBut.refl s.drawn lw_cs) hx hb hr hlocks dL_law_393)
  refine lv_if_ne (tgt := 24) hx hb dL_law_15 (by decide) (fun hc => ?_) (fun hc => ?_)
  · refine lv_aload_n hx hb dL_law_24 rfl (lv_at hl 1 rfl) ?_
    refine lv_iconst (v := 0) hx hb dL_law_25 (by decide) ?_
    have hL0 : L ≠ 0 := fun z => hc (by rw [z]; rfl)
    refine va_sld hx hb hX hbl hbA hS (nI_in (c := 0) (by omega) (by omega)) dL_law_26 ?_
    exact hend _
  · refine lv_sipush (v := 1080) hx hb dL_law_18 (by decide) ?_
    refine lv_goto (tgt := 27) hx hb dL_law_21 (by decide) ?_
    exact hend _
