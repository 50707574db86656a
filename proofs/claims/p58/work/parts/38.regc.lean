/-! THE LAW'S registry: its contract -/
theorem mr_cl : Cond.classLink RL 69 RJ4 ∈ zWS := zws_in 745 (by decide +kernel) (by decide +kernel)
theorem mr_inst : Cond.instantiable RJ4 4 ∈ zWS := zws_in 746 (by decide +kernel) (by decide +kernel)
theorem mr_ini : Cond.initialized RJ4 ∈ zWS := zws_in 43 (by decide +kernel) (by decide +kernel)
theorem mr_73 : Cond.methodLink RL 73 yJ4_init_a7421 ∈ zWS := zws_in 748 (by decide +kernel) (by decide +kernel)
theorem mr_95 : Cond.methodLink RL 95 yJ4_toString_0e30d ∈ zWS := zws_in 919 (by decide +kernel) (by decide +kernel)
theorem kr_kn_J4_init_a7421 : zcai yJ4_init_a7421 cJ4_init_a7421 2 1 := ⟨zws_in 749 (by decide +kernel) (by decide +kernel), zws_in 43 (by decide +kernel) (by decide +kernel), zws_in 750 (by decide +kernel) (by decide +kernel), ⟨by decide +kernel, by decide +kernel⟩, by decide +kernel, rfl, by decide⟩
theorem kr_kj_J4_toString_0e30d : zcal yJ4_toString_0e30d cJ4_toString_0e30d 1 (some (.object "java/lang/String")) 0 := ⟨zws_in 920 (by decide +kernel) (by decide +kernel), zws_in 921 (by decide +kernel) (by decide +kernel), zws_in 43 (by decide +kernel) (by decide +kernel), zws_in 922 (by decide +kernel) (by decide +kernel), ⟨by decide +kernel, by decide +kernel⟩, by decide +kernel, by decide⟩
theorem kl_registry : zcas yL_registry cL_registry 5 (some (.object "java/lang/String")) 3 := ⟨zws_in 743 (by decide +kernel) (by decide +kernel), zws_in 30 (by decide +kernel) (by decide +kernel), zws_in 744 (by decide +kernel) (by decide +kernel), ⟨by decide +kernel, by decide +kernel⟩, by decide +kernel, by decide⟩
theorem zS1_of {args : Array Value} {s : State} {c0 : Cond} {D : va_G} {Y : Nat → ClassId} {H : Heap} {h0 vs n : Nat} {a : Nat → Int32} {B : Nat → Prop} (hts : ∀ w ∈ c0 :: zWS, w.before args s = true) (hK : va_K D vwCl (ztys Y) s) (hP : va_P D vwCl [(h0, .inr (5, [.ref vs, .int 0, .int 0, .int 0])), (vs, .inl (Y 1, n, .inl a))] H) (h1 : ¬ B h0) (h2 : ¬ B vs) : zS1 n a h0 vs B s H := by
  obtain ⟨r, e1, cell, q1, q2, q3, q4⟩ := hP 0 _ rfl
  have hr : r = (RJ0, TJ0, 4) := Option.some.inj (e1.symm.trans rfl)
  subst hr
  obtain ⟨hSl, hfc, kC, hkC, hkind⟩ := hK.1 5 _ rfl
  have hin : ∀ w ∈ u_ws RJ0 TJ0 4, w ∈ c0 :: zWS := fun w h => List.mem_cons_of_mem _ (ziJ0 w h)
  have hu : cell.vm ≠ .unknown := by rw [q3]; exact fun h => by cases h
  have hF : ∀ k, k < 4 → va_OF (TJ0 k).1 (TJ0 k).2.1 (TJ0 k).2.2.1 (vp_V [.ref vs, .int 0, .int 0, .int 0] k) h0 B s H := fun k hk => by
    obtain ⟨cf, kf, fi, f, hi, hsl⟩ := hSl k hk
    exact ⟨cf, kf, fi, f, cell, hi, (u_facts hfc hkC (u_lays hts hin hk) hi).1, q1, hu, by rw [hsl]; exact q4 k hk, h1⟩
  refine ⟨⟨cell, q1, by rw [q3]; rfl, by rw [q2]; exact hfc, h1⟩, hF 1 (by decide), hF 0 (by decide), ?_⟩
  refine ⟨arrV (Y 1) n (fun j => .int (a j)), hP 1 _ rfl, (hK.2 1 _ rfl).1 n _, (fun h => by cases h), by rw [arrV_size]; exact Nat.le_refl _, by rw [arrV_size], fun j hj => arrV_read _ _ hj, h2⟩
theorem va_S.more {A B : Nat → Prop} {H0 H : Heap} {locs : List Loc} (h : va_S A H0 H locs) (hAB : ∀ q, A q → B q) : va_S B H0 H locs := ⟨h.1, fun q h1 h2 => h.2.1 q h1 (fun z => h2 (hAB q z)), fun l hl => hAB _ (h.2.2 l hl)⟩
def zRT (o : Option (Unit × zTB)) : Option (List Nat × zT) := match o with
  | some (_, T1) => some (T1.2, T1.1)
  | none => none
theorem zRT_i {o : Option (Unit × zTB)} {t : List Nat} {T' : zT} (h : zRT o = some (t, T')) : o = some ((), (T', t)) := by
  unfold zRT at h
  match o, h with
  | some ((), (a, b)), h =>
    obtain ⟨rfl, rfl⟩ := Prod.mk.inj (Option.some.inj h)
    rfl
/-- the text of a registry that was drawn -/
def f_L_registry (p0 p1 : Int32) (T : zT) : Option (List Nat × zT) := zRT (rg_L_registry p0 p1 (T, zltr 8))
/-- a string of the law's own, new: its letters t -/
def zStr (D : va_G) (Y : Nat → ClassId) (sz : Nat) (t : List Nat) (h0 : Nat) (H : Heap) : Prop := ∃ (vs : Nat) (a : Nat → Int32), zLat t a ∧ sb_Fit a ∧ va_P D vwCl [(h0, .inr (5, [.ref vs, .int 0, .int 0, .int 0])), (vs, .inl (Y 1, t.length, .inl a))] H ∧ va_D (fun q => sz ≤ q) ([(h0, .inr (5, [.ref vs, .int 0, .int 0, .int 0])), (vs, .inl (Y 1, t.length, .inl a))] : va_W)
set_option maxHeartbeats 8000000 in
set_option maxRecDepth 100000 in
theorem c_L_registry (p0 p1 : Int32) (T T' : zT) (t : List Nat) (hf : f_L_registry p0 p1 T = some (t, T')) (l : Launch) (D : va_G) (Y : Nat → ClassId) (S V : Nat → Nat) (G : Nat → Nat → Nat) (A : Nat → Prop) (hl9 : l.flags = flags0) (hG : zG 1 G A) :
    vx_Met l yL_registry (Cond.code yL_registry cL_registry 5 (some (.object "java/lang/String")) :: zWS) (zR 9 144 85208) (va_Pc [.int p0, .int p1, .ref (G 0 8)] (fun U => zB 1 D Y S V G A T U ∧ zJk A U U.heap)) (fun _ st oc u => (∃ h0, oc = .returned (some (.ref h0)) ∧ zP 1 D Y G T' u.heap ∧ zStr D Y st.heap.size t h0 u.heap) ∧ va_F A st u) (fun _ _ _ => False) 144 85208 A := by
  refine vx_ofW (cc := cL_registry) (maxL := 5) (ret := some (.object "java/lang/String")) (by decide) rfl ?_
  intro p e s m args below meth c s₁ B hml hex hv
  obtain ⟨rfl, ⟨hK, hP, hA⟩, XJ⟩ := hv
  have hx := B.exec
  have hb := B.bytes
  have hr := B.returns
  have hlocks := B.notSynchronized
  have hown : s.vm.findClass RL = some m.cls := findClass_of_methodNamed B.named
  have hts := atoms_spec (ws := Cond.code yL_registry cL_registry 5 (some (.object "java/lang/String")) :: zWS) B.pre
  have ok : ∀ w ∈ zWS, w.before _ s = true := fun w h => hts w (List.mem_cons_of_mem _ h)
  have F : zF 1 9 144 85208 p l s m _ c cL_registry 5 RL (Cond.code yL_registry cL_registry 5 (some (.object "java/lang/String"))) D Y S V G A := ⟨hx, hb, hml, hown, hts, hl9, hG, hK, hA⟩
  have XR : zXR A G s := ⟨XJ, fun κ ι hV => (hP κ ι hV).lt⟩
  have hl := lv_entry ([.int p0, .int p1, .ref (G 0 8)]) (n := 5) (Nat.le_of_ble_eq_true rfl)
  rw [lg_entry_eq]
  generalize (lg_sl ([.int p0, .int p1, .ref (G 0 8)]) ++ List.replicate (5 - (lg_sl ([.int p0, .int p1, .ref (G 0 8)])).length) Slot.unset).toArray = ls at hl ⊢
  have hl : lv_has ls 5 [(0, .int p0), (1, .int p1), (2, .ref (G 0 8))] := hl
  obtain ⟨A1, eA⟩ : ∃ A1 : Nat → Prop, A1 = fun q => s.heap.size ≤ q := ⟨_, rfl⟩
  have hA1 : ∀ q, s.heap.size ≤ q → A1 q := fun q h => by rw [eA]; exact h
  have hA1' : ∀ q, A1 q → s.heap.size ≤ q := fun q h => by rw [eA] at h; exact h
  have hAB : ∀ q, A1 q → A q := fun q h => hA q (hA1' q h)
  have hS1 : va_S A1 s.heap s.heap [] := va_S.rf
  have hP0 : va_P D vwCl [] s.heap := fun k q h => by cases h
  have hD0 : va_D A1 ([] : va_W) := ⟨(fun i j p q h => by cases h), (fun k q h => by cases h)⟩
  refine va_new (ci := 4) (fs := [.null, .int 0, .int 0, .int 0]) (C := RJ4) (T := TJ4) (N := 4) hx hb hts (fun w h => List.mem_cons_of_mem _ (ziJ4 w h)) tyJ4 tyJ4_ok hown (ok _ mr_cl) (ok _ mr_inst) (ok _ mr_ini) hK.1 hP0 hD0 hS1 hA1 rfl (by intro j hj; match j, hj with | 0, _ => rfl | 1, _ => rfl | 2, _ => rfl | 3, _ => rfl) (by show 0 + 1 ≤ 144; decide) (by show 0 + 4 ≤ 85208; decide) dL_registry_0 (fun b H hPb hDb hSb => ?_)
  have hPb : va_P D vwCl [(b, .inr (4, [.null, .int 0, .int 0, .int 0]))] H := hPb
  have hDb : va_D A1 ([(b, .inr (4, [.null, .int 0, .int 0, .int 0]))] : va_W) := hDb
  have hS : va_S A s.heap H [] := hSb.more hAB
  have hkeep : ∀ {H1 : Heap}, (∀ q : Nat, q < H.size → ¬ A1 q → H1[q]? = H[q]?) → zP 1 D Y G T H1 := fun hk κ ι hV => by
    have h1 := XR.2 κ ι hV
    have h2 : ¬ A1 (G κ ι) := fun z => absurd (hA1' _ z) (Nat.not_le.mpr h1)
    exact (hP κ ι hV).kept ((hk _ (Nat.lt_of_lt_of_le h1 hSb.1) h2).trans (hSb.2.1 _ h1 h2))
  refine lv_dup hx hb dL_registry_3 rfl ?_
  refine va_ldcS hx hb hown (hK.2.2.1 8 _ rfl) dL_registry_4 ?_
  refine z_jI (As := [.ref (S 8)]) (rest := [.ref b]) (A1 := A1) (B := fun U => va_P D vwCl [(b, .inr (4, [.null, .int 0, .int 0, .int 0]))] U.heap ∧ zS1 (zbytes 8).length (fun j => (zbytes 8).getD j 0) (S 8) (V 8) A1 U U.heap) (F.J XJ) kr_kn_J4_init_a7421 mr_73 (cj_J4_init_a7421 l hl9 D Y S V A1 b (zltr 8) (S 8) (V 8) (zbytes 8).length (fun j => (zbytes 8).getD j 0) hDb (zltr_lt 8 (by decide)) (zltr_len 8) (fun j hj => zltr_get hj) (by decide +kernel) (zltr_fit (by decide))) (fun _ U _ _ h => ⟨h.1, zS1.go h.2 (Vm.Alike.refl _) (fun _ _ _ => rfl)⟩)
    (fun U hU hW => ⟨by rw [hU]; exact hPb, by rw [hU]; exact ((hK.2.2.2.1 8 (by decide)).go hW.alike hS.2.1).narrow hAB⟩) hS hAB (fun q h => hA1 q (Nat.le_trans hSb.1 h)) rfl rfl hl.1 (Nat.le_of_ble_eq_true rfl) dL_registry_6 (Nat.le_of_ble_eq_true rfl) ⟨Nat.le_of_ble_eq_true rfl, Nat.le_of_ble_eq_true rfl⟩ rfl (fun v H1 locs hp hz hk hS => ?_)
  obtain ⟨rfl, hsb⟩ := hp
  subst eA
  have hPB : zPB D Y G b s.heap.size (T, zltr 8) H1 := ⟨hkeep hk, hsb⟩
  have hg := zRT_i (show zRT (rg_L_registry p0 p1 (T, zltr 8)) = some (t, T') from hf)
  clear hf
  have F6 : zF 1 9 144 85208 p l s m _ c cL_registry 5 RL (Cond.code yL_registry cL_registry 5 (some (.object "java/lang/String"))) D Y S V G A := F
  refine r_L_registry (ce := 142) (se := 84604) ⟨Nat.le_of_ble_eq_true rfl, Nat.le_of_ble_eq_true rfl⟩ F6 XR p0 p1 (0 + 1 + 2) (0 + 4 + 1200) (T, zltr 8) (Nat.le_of_ble_eq_true rfl) (Nat.le_of_ble_eq_true rfl) hg hPB hS hl (fun H locs ls hP hS hl => ?_)
  refine lv_aload_n hx hb dL_registry_216 rfl (lv_at hl 0 rfl) ?_
  have hrec : ∃ cell : Cell, H[b]? = some cell ∧ cell.vm.isStatics = false ∧ s.vm.findClass RJ4 = some cell.cls := by
    obtain ⟨q9, cap, a, hP9, -⟩ := hP.2
    exact va_recv hK.1 hP9 (ci := 4) rfl (q0 := 0) rfl
  refine z_jV (As := []) (rest := []) (F.J XJ) kr_kj_J4_toString_0e30d mr_95 (cj_J4_toString_0e30d l hl9 D Y S V (fun q => s.heap.size ≤ q) b 0 t) (fun _ _ _ _ h => h) (fun U hU _ => by rw [hU]; exact hP.2) hrec hS hAB (fun q h => Nat.le_trans hS.1 h) rfl rfl hl.1 (Nat.le_of_ble_eq_true rfl) dL_registry_217 (Nat.le_of_ble_eq_true rfl) ⟨Nat.le_of_ble_eq_true rfl, Nat.le_of_ble_eq_true rfl⟩ rfl (fun v H2 locs2 hp hz2 hk2 hS2 => ?_)
  obtain ⟨h0, vs, a', rfl, g1, g2, g3, g4⟩ := hp
  have hP2 : zP 1 D Y G T' H2 := fun κ ι hV => by
    have h1 := XR.2 κ ι hV
    exact (hP.1 κ ι hV).kept (hk2 _ ((hP.1 κ ι hV).lt) (fun z => absurd z (Nat.not_le.mpr h1)))
  refine W.widen (k := 144) (n := 85208) (Nat.le_of_ble_eq_true rfl) (Nat.le_of_ble_eq_true rfl) (vx_ret ?_)
  exact W.aret hx hb hr (Or.inl ⟨_, rfl⟩) (Or.inr ⟨_, rfl⟩) (fun t ht _ => ⟨⟨h0, rfl, by rw [ht]; exact hP2, by rw [ht]; exact ⟨vs, a', g1, g2, g3, g4⟩⟩, hS2.F ht⟩) hS2.2.2 dL_registry_220 hlocks
