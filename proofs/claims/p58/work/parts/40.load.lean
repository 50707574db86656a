/-! THE LAW'S load, by program; a registry drawn and loaded -/
theorem ml_594 : Cond.methodLink RL 248 yL_load ∈ zWS := zws_in 594 (by decide +kernel) (by decide +kernel)
theorem ml_599 : Cond.methodLink RL 24 yL_type ∈ zWS := zws_in 599 (by decide +kernel) (by decide +kernel)
theorem ml_613 : Cond.methodLink RL 30 yX3_load ∈ zWS := zws_in 613 (by decide +kernel) (by decide +kernel)
theorem ml_742 : Cond.methodLink RL 244 yL_registry ∈ zWS := zws_in 742 (by decide +kernel) (by decide +kernel)
theorem k_X3_load : zcal yX3_load cX3_load 3 (some .int) 1 := ⟨zws_in 614 (by decide +kernel) (by decide +kernel), zws_in 615 (by decide +kernel) (by decide +kernel), zws_in 31 (by decide +kernel) (by decide +kernel), zws_in 616 (by decide +kernel) (by decide +kernel), ⟨by decide +kernel, by decide +kernel⟩, by decide +kernel, by decide⟩
theorem kl_load : zcaw yL_load cL_load 4 [(6, 11, 12, 34), (6, 11, 16, 36)] 2 := ⟨zws_in 595 (by decide +kernel) (by decide +kernel), zws_in 30 (by decide +kernel) (by decide +kernel), zws_in 596 (by decide +kernel) (by decide +kernel), ⟨by decide +kernel, by decide +kernel⟩, by decide +kernel, by decide⟩
theorem kl_type : zcas yL_type cL_type 6 (some .int) 2 := ⟨zws_in 600 (by decide +kernel) (by decide +kernel), zws_in 30 (by decide +kernel) (by decide +kernel), zws_in 601 (by decide +kernel) (by decide +kernel), ⟨by decide +kernel, by decide +kernel⟩, by decide +kernel, by decide⟩
theorem zT_blind {D : va_G} {Y : Nat → ClassId} {S V : Nat → Nat} {G : Nat → Nat → Nat} {A : Nat → Prop} {T : zT} {as : List Value} {n qs vs : Nat} {byt : Nat → Int32} : FrameBlind (va_Pc as (fun U => zB 0 D Y S V G A T U ∧ zJk A U U.heap ∧ zS1 n byt qs vs A U U.heap)) := fun a U g mk q => by
  obtain ⟨q0, ⟨q1, q2, q3⟩, q4, q5⟩ := q
  exact ⟨q0, ⟨zK.same (U := U.calling g mk a) q1 rfl, q2, q3⟩, zJk.same (U := U.calling g mk a) q4 rfl, zS1.go q5 (Vm.Alike.refl _) (fun _ _ _ => rfl)⟩
theorem zR_blind {D : va_G} {Y : Nat → ClassId} {S V : Nat → Nat} {G : Nat → Nat → Nat} {A : Nat → Prop} {T : zT} {as : List Value} : FrameBlind (va_Pc as (fun U => zB 1 D Y S V G A T U ∧ zJk A U U.heap)) := fun a U g mk q => by
  obtain ⟨q0, ⟨q1, q2, q3⟩, q4⟩ := q
  exact ⟨q0, ⟨zK.same (U := U.calling g mk a) q1 rfl, q2, q3⟩, zJk.same (U := U.calling g mk a) q4 rfl⟩
section ZRT
variable {p : Program} {l : Launch} {e : Env} {s : State} {m : MethodId} {args : Array Value} {below : List Frame} {meth : Method} {c : Code} {H : Heap} {locs : List Loc} {cells slots : Nat} {Q : State → Prop}
variable {cc : ByteArray} {pc : Nat} {ls : Array Slot} {rest : List Value} {D : va_G} {Y : Nat → ClassId} {S V : Nat → Nat} {G : Nat → Nat → Nat} {A : Nat → Prop} {c0 : Cond} {d mc ms nL index : Nat} {own : String} {T T' : zT} {t : List Nat} {byt : Nat → Int32} {qs vs : Nat}
variable {y : MethodName} {cc' : ByteArray} {maxL' d' mc' ms' : Nat} {v : Int32}
theorem z_runT (F : zF 0 d mc ms p l s m args c cc nL own c0 D Y S V G A) (XJ : zJk A s s.heap) (XS : zS1 t.length byt qs vs A s s.heap) (hc : zcas y cc' maxL' (some .int) 2) (hlink : Cond.methodLink own index y ∈ zWS) (hC : zCt y (Cond.code y cc' maxL' (some .int)) d' mc' ms' t byt qs vs T v T') (hP : zP 0 D Y G T H) (hS : va_S A s.heap H locs) (hsz : ls.size = nL) (hrest : (rest.map fun v => v.category).sum ≤ 8) (hdg : decode cc pc = .ok (.invokestatic index, 3)) (hd : d' + 1 ≤ d) (hf : cells + mc' ≤ mc ∧ slots + ms' ≤ ms) :
    vx_Run p l e (zR d mc ms) s m args below meth c H locs cells slots mc' ms' (F0 m pc ls (.ref qs :: .ref (G 0 0) :: rest)) rest (zQ 0 D Y G A (.inl (some (.int v))) T' #[.ref (G 0 0), .ref qs]) (zX 0 D Y G A (.inl (some (.int v))) T') A := by
  obtain ⟨hx, hb, hml, hown, hts, hl, hG, hK, hA⟩ := F
  obtain ⟨k1, k3, k4, k5, k6, k7⟩ := hc
  have ok : ∀ w ∈ zWS, w.before args s = true := fun w h => hts w (List.mem_cons_of_mem _ h)
  refine vx_runS (As := [.ref (G 0 0), .ref qs]) (ret := some .int) (bytes := cc') (maxL := maxL') (n := 2) (Ts := c0 :: zWS) ⟨hx, hb, hml, hown, hts⟩ (hC l D Y S V G A hl hG) ⟨⟨rfl, rfl, hd, ?_, z_pay hts k4, List.mem_cons_self, ok _ k4, ok _ k3, k5, z_len k6, ok _ hlink⟩, ok _ k1⟩
    ⟨zT_blind, fun U hU hW => ⟨rfl, ⟨by rw [hU]; exact hK.go hW hS.2.1, by rw [hU]; exact hP, fun q hq => hA q (Nat.le_trans hS.1 (by rw [hU] at hq; exact hq))⟩, by rw [hU]; exact XJ.go hW hS.2.1, by rw [hU]; exact XS.go hW.alike hS.2.1⟩⟩ rfl rfl hsz rfl (by show 2 * 0 + _ ≤ 8; omega) hdg hf
  show 8 + (maxL' + 11) + 37 * d' ≤ 37 * d
  omega
end ZRT
def f_L_load (t : List Nat) (T : zT) : Option (Int32 × zT) := zb (f_L_type t T) fun n T1 => zcat [(2, (-2)), (1, (-1))] (f_X3_load n T1)
set_option maxHeartbeats 4000000 in
set_option maxRecDepth 100000 in
theorem c_L_load (t : List Nat) (T T' : zT) (v : Int32) (hf : f_L_load t T = some (v, T')) (byt : Nat → Int32) (qs vs : Nat) (hL : zLat t byt) (hn9 : t.length ≤ 300) : zCt yL_load (Cond.codeWith yL_load cL_load 4 (some .int) [(6, 11, 12, 34), (6, 11, 16, 36)]) 9 18 107 t byt qs vs T v T' := by
  intro l D Y S V G A hl9 hG
  refine vx_ofWH (cc := cL_load) (maxL := 4) (ret := some .int) (hh := [(6, 11, 12, 34), (6, 11, 16, 36)]) (by decide) rfl ?_
  intro p e s m args below meth c s₁ B hml hv9
  obtain ⟨rfl, ⟨hK, hP, hA⟩, XJ, XS⟩ := hv9
  have hx := B.exec
  have hb := B.bytes
  have hr := B.returns
  have hlocks := B.notSynchronized
  have hown : s.vm.findClass RL = some m.cls := findClass_of_methodNamed B.named
  have hts := atoms_spec (ws := Cond.codeWith yL_load cL_load 4 (some .int) [(6, 11, 12, 34), (6, 11, 16, 36)] :: zWS) B.pre
  have htab := vx_table (x := yL_load) B (hts _ List.mem_cons_self)
  have F : zF 0 9 18 107 p l s m _ c cL_load 4 RL (Cond.codeWith yL_load cL_load 4 (some .int) [(6, 11, 12, 34), (6, 11, 16, 36)]) D Y S V G A := ⟨hx, hb, hml, hown, hts, hl9, hG, hK, hA⟩
  have hS : va_S A s.heap s.heap [] := va_S.rf
  have hl := lv_entry ([.ref (G 0 0), .ref qs]) (n := 4) (Nat.le_of_ble_eq_true rfl)
  rw [lg_entry_eq]
  generalize (lg_sl ([.ref (G 0 0), .ref qs]) ++ List.replicate (4 - (lg_sl ([.ref (G 0 0), .ref qs])).length) Slot.unset).toArray = ls at hl ⊢
  have hl : lv_has ls 4 [(0, .ref (G 0 0)), (1, .ref qs)] := hl
  unfold f_L_load at hf
  obtain ⟨n0, T1, h0, hf⟩ := zb_i hf
  refine lv_aload_n hx hb dL_load_0 rfl (lv_at hl 0 rfl) ?_
  refine lv_aload_n hx hb dL_load_1 rfl (lv_at hl 1 rfl) ?_
  refine z_ok (z_runT (p := p) (e := e) (below := below) (meth := meth) (cells := 0) (slots := 0) (ls := ls) (rest := []) F XJ XS kl_type ml_599 (c_L_type t T T1 n0 h0 byt qs vs hL hn9) hP hS hl.1 (Nat.le_of_ble_eq_true rfl) dL_load_2 (Nat.le_of_ble_eq_true rfl) ⟨(Nat.le_of_ble_eq_true rfl), (Nat.le_of_ble_eq_true rfl)⟩) hS (fun H locs hP hS => ?_)
  refine lv_istore_n (lv' := [(2, .int n0), (0, .ref (G 0 0)), (1, .ref qs)]) hx hb dL_load_5 rfl hl (by decide) rfl (fun ls hl => ?_)
  refine lv_aload_n hx hb dL_load_6 rfl (lv_at hl 1 rfl) ?_
  refine lv_iload_n hx hb dL_load_7 rfl (lv_at hl 0 rfl) ?_
  rcases zcat_i hf with h1 | ⟨n, h1, hn⟩
  · refine z_ok (z_runV (p := p) (e := e) (below := below) (meth := meth) (cells := 0 + 17) (slots := 0 + 101) (ls := ls) (As := [.int n0]) (rest := []) F k_X3_load ml_613 (c_X3_load n0 T1 T' (.inl v) h1) hP hS (zV_0 (by decide)) rfl rfl rfl rfl hl.1 (Nat.le_of_ble_eq_true rfl) dL_load_8 (Nat.le_of_ble_eq_true rfl) ⟨(Nat.le_of_ble_eq_true rfl), (Nat.le_of_ble_eq_true rfl)⟩ rfl) hS (fun H locs hP hS => ?_)
    exact z_iret hx hb hr rfl hP hS hlocks (Nat.le_of_ble_eq_true rfl) (Nat.le_of_ble_eq_true rfl) dL_load_11
  · simp only [List.mem_cons, Prod.mk.injEq, List.not_mem_nil, or_false] at hn
    rcases hn with ⟨rfl, rfl⟩ | ⟨rfl, rfl⟩
    · refine z_exs (E := "java/lang/IndexOutOfBoundsException") (z_runV (p := p) (e := e) (below := below) (meth := meth) (cells := 0 + 17) (slots := 0 + 101) (ls := ls) (As := [.int n0]) (rest := []) F k_X3_load ml_613 (c_X3_load n0 T1 T' (.inr 2) h1) hP hS (zV_0 (by decide)) rfl rfl rfl rfl hl.1 (Nat.le_of_ble_eq_true rfl) dL_load_8 (Nat.le_of_ble_eq_true rfl) ⟨(Nat.le_of_ble_eq_true rfl), (Nat.le_of_ble_eq_true rfl)⟩ rfl) hS (fun ce q9 H locs hP hS hce hcv hcl => ?_)
      refine vx_catch (own := RL) (name := "java/lang/IndexOutOfBoundsException") (E := "java/lang/IndexOutOfBoundsException") hown [] ⟨6, 11, 12, 34⟩ [⟨6, 11, 16, 36⟩] (htab.trans rfl) (fun z hz => by cases hz) (by decide) (by decide) (hts _ (List.mem_cons_of_mem _ ml_597)) (va_Nw.use rfl (hK.2.2.2.2.2.2.2.2.2.2.1 "java/lang/IndexOutOfBoundsException" (by decide))) hce hcv hcl ?_
      refine lv_astore_n (lv' := [(3, .ref q9), (2, .int n0), (0, .ref (G 0 0)), (1, .ref qs)]) hx hb dL_load_12 rfl hl (by decide) rfl (fun ls hl => ?_)
      refine lv_bipush (v := (-2)) hx hb dL_load_13 (by decide) ?_
      exact z_iret hx hb hr rfl hP hS hlocks (Nat.le_of_ble_eq_true rfl) (Nat.le_of_ble_eq_true rfl) dL_load_15
    · refine z_exs (E := "java/lang/IllegalArgumentException") (z_runV (p := p) (e := e) (below := below) (meth := meth) (cells := 0 + 17) (slots := 0 + 101) (ls := ls) (As := [.int n0]) (rest := []) F k_X3_load ml_613 (c_X3_load n0 T1 T' (.inr 1) h1) hP hS (zV_0 (by decide)) rfl rfl rfl rfl hl.1 (Nat.le_of_ble_eq_true rfl) dL_load_8 (Nat.le_of_ble_eq_true rfl) ⟨(Nat.le_of_ble_eq_true rfl), (Nat.le_of_ble_eq_true rfl)⟩ rfl) hS (fun ce q9 H locs hP hS hce hcv hcl => ?_)
      refine vx_catch (own := RL) (name := "java/lang/IllegalArgumentException") (E := "java/lang/IllegalArgumentException") hown [⟨6, 11, 12, 34⟩] ⟨6, 11, 16, 36⟩ [] (htab.trans rfl) (fun z hz => by obtain rfl := List.mem_singleton.mp hz; exact Or.inr ⟨by decide, "java/lang/IndexOutOfBoundsException", hts _ (List.mem_cons_of_mem _ ml_597), hK.2.2.2.2.2.2.2.2.2.2.2 ("java/lang/IllegalArgumentException", "java/lang/IndexOutOfBoundsException") (by decide)⟩) (by decide) (by decide) (hts _ (List.mem_cons_of_mem _ ml_598)) (va_Nw.use rfl (hK.2.2.2.2.2.2.2.2.2.2.1 "java/lang/IllegalArgumentException" (by decide))) hce hcv hcl ?_
      refine lv_astore_n (lv' := [(3, .ref q9), (2, .int n0), (0, .ref (G 0 0)), (1, .ref qs)]) hx hb dL_load_16 rfl hl (by decide) rfl (fun ls hl => ?_)
      refine lv_iconst (v := (-1)) hx hb dL_load_17 (by decide) ?_
      exact z_iret hx hb hr rfl hP hS hlocks (Nat.le_of_ble_eq_true rfl) (Nat.le_of_ble_eq_true rfl) dL_load_18
def zRL (f : List Nat → zT → Option (Int32 × zT)) (o : Option (List Nat × zT)) : Option (Int32 × zT) := match o with
  | some (t, T1) => if t.length ≤ 300 then zb (f t T1) fun v T2 => some (v, zk T1 T2) else none
  | none => none
theorem zRL_i {f : List Nat → zT → Option (Int32 × zT)} {o : Option (List Nat × zT)} {v : Int32} {T' : zT} (h : zRL f o = some (v, T')) : ∃ t T1 T2, o = some (t, T1) ∧ t.length ≤ 300 ∧ f t T1 = some (v, T2) ∧ T' = zk T1 T2 := by
  unfold zRL at h
  match o, h with
  | some (t, T1), h =>
    obtain ⟨h1, h⟩ := zif_c h
    obtain ⟨v1, T2, h2, h⟩ := zb_i h
    obtain ⟨rfl, rfl⟩ := Prod.mk.inj (Option.some.inj h)
    exact ⟨t, T1, T2, rfl, h1, h2, rfl⟩
/-- a registry drawn, and loaded -/
def f_L_regload (p0 p1 : Int32) (T : zT) : Option (Int32 × zT) := zRL f_L_load (f_L_registry p0 p1 T)
section ZRL
variable {p : Program} {l : Launch} {e : Env} {s : State} {m : MethodId} {args : Array Value} {below : List Frame} {meth : Method} {c : Code} {H : Heap} {locs : List Loc} {cells slots : Nat} {Q : State → Prop}
variable {ls : Array Slot} {D : va_G} {Y : Nat → ClassId} {S V : Nat → Nat} {G : Nat → Nat → Nat} {A : Nat → Prop} {c0 : Cond} {d mc ms : Nat} {T T1 T2 T' : zT} {v ga ch : Int32} {cc : ByteArray} {pc nL : Nat} {t : List Nat} {rest : List Value}
set_option maxHeartbeats 4000000 in
theorem z_reg (F : zF 1 d mc ms p l s m args c cc nL RL c0 D Y S V G A) (XJ : zJk A s s.heap) (h1 : f_L_registry ga ch T = some (t, T1)) (hP : zP 1 D Y G T H) (hS : va_S A s.heap H locs) (hsz : ls.size = nL) (hrest : (rest.map fun v => v.category).sum ≤ 8) (hd : 10 ≤ d) (hf : cells + 144 ≤ mc ∧ slots + 85208 ≤ ms) (hd1 : decode cc pc = .ok (.invokestatic 244, 3))
    (kk : ∀ (h0 : Nat) (H1 : Heap) (locs1 : List Loc), zP 1 D Y G T1 H1 → zStr D Y H.size t h0 H1 → va_S A s.heap H1 locs1 → W p l e (zR d mc ms) s m args below meth c H1 locs1 (cells + 144) (slots + 85208) Q (F0 m (pc + 3) ls (.ref h0 :: rest))) : W p l e (zR d mc ms) s m args below meth c H locs cells slots Q (F0 m pc ls (.ref (G 0 8) :: .int ch :: .int ga :: rest)) := by
  obtain ⟨hx, hb, hml, hown, hts, hl, hG, hK, hA⟩ := F
  have ok : ∀ w ∈ zWS, w.before args s = true := fun w h => hts w (List.mem_cons_of_mem _ h)
  obtain ⟨k1, k3, k4, k5, k6, k7⟩ := kl_registry
  have hr := vx_runS (p := p) (e := e) (below := below) (meth := meth) (H := H) (locs := locs) (cells := cells) (slots := slots) (g := F0 m pc ls (.ref (G 0 8) :: .int ch :: .int ga :: rest)) (rest := rest) (As := [.int ga, .int ch, .ref (G 0 8)]) (R := zR d mc ms) (ret := some (.object "java/lang/String")) (bytes := cL_registry) (maxL := 5) (n := 3) (Ts := c0 :: zWS) ⟨hx, hb, hml, hown, hts⟩ (c_L_registry ga ch T T1 t h1 l D Y S V G A hl hG) ⟨⟨rfl, rfl, (by show 9 + 1 ≤ d; omega), (by show 8 + (5 + 11) + 37 * 9 ≤ 37 * d; omega), z_pay hts k4, List.mem_cons_self, ok _ k4, ok _ k3, k5, z_len k6, ok _ ml_742⟩, ok _ k1⟩
    ⟨zR_blind, fun U hU hW => ⟨rfl, ⟨by rw [hU]; exact hK.go hW hS.2.1, by rw [hU]; exact hP, fun q hq => hA q (Nat.le_trans hS.1 (by rw [hU] at hq; exact hq))⟩, by rw [hU]; exact XJ.go hW hS.2.1⟩⟩ rfl rfl hsz rfl (by show 2 * 0 + _ ≤ 8; omega) hd1 hf
  intro T9 hT X9
  rcases hr T9 hT X9 with ⟨v', st₀, t9, TT, L, h0, X', hL, e1, e2, ⟨⟨q0, ho, hp, hz⟩, hF⟩, st⟩ | ⟨q, st₀, t9, TT, L, E, ce, h0, X', hL, e1, e2, hfalse, -⟩
  · cases ho
    obtain ⟨-, g2, hS1⟩ := vx_keep h0 e1 hS (fun q _ h => h) (fun _ h => h) hL hF
    rw [h0] at hz
    obtain ⟨t2, a1, b1⟩ := kk q0 TT.heap (locs ++ L) (by rw [e1]; exact hp) (by rw [e1]; exact hz) hS1 TT rfl X'
    exact ⟨t2, st t2 a1, b1⟩
  · exact hfalse.elim
set_option maxHeartbeats 4000000 in
theorem z_loadS {sz h0 : Nat} (F : zF 1 d mc ms p l s m args c cc nL RL c0 D Y S V G A) (XJ : zJk A s s.heap) (h2 : f_L_load t T1 = some (v, T2)) (hn : t.length ≤ 300) (hz : zStr D Y sz t h0 H) (hG9 : ∀ κ ι, zV 1 κ ι → G κ ι < sz) (hP : zP 1 D Y G T1 H) (hS : va_S A s.heap H locs) (hsz : ls.size = nL) (hrest : (rest.map fun v => v.category).sum ≤ 8) (hd : 9 + 1 ≤ d) (hf : cells + 18 ≤ mc ∧ slots + 107 ≤ ms) (hd1 : decode cc pc = .ok (.invokestatic 248, 3))
    (kk : ∀ (H1 : Heap) (locs1 : List Loc), zP 1 D Y G (zk T1 T2) H1 → va_S A s.heap H1 locs1 → W p l e (zR d mc ms) s m args below meth c H1 locs1 (cells + 18) (slots + 107) Q (F0 m (pc + 3) ls (.int v :: rest))) : W p l e (zR d mc ms) s m args below meth c H locs cells slots Q (F0 m pc ls (.ref h0 :: .ref (G 0 0) :: rest)) := by
  obtain ⟨hx, hb, hml, hown, hts, hl, hG, hK, hA⟩ := F
  have ok : ∀ w ∈ zWS, w.before args s = true := fun w h => hts w (List.mem_cons_of_mem _ h)
  obtain ⟨k1, k2, k3, k4, k5, k6⟩ := kl_load
  obtain ⟨vs, a, g1, g2, g3, g4⟩ := hz
  have hh0 : sz ≤ h0 ∧ h0 < H.size := ⟨g4.2 0 _ rfl, (g3 0 _ rfl).lt⟩
  have hvs : sz ≤ vs ∧ vs < H.size := ⟨g4.2 1 _ rfl, (g3 1 _ rfl).lt⟩
  obtain ⟨A2, eA⟩ : ∃ A2 : Nat → Prop, A2 = fun q => (∃ κ ι, zV 0 κ ι ∧ q = G κ ι) ∨ H.size ≤ q := ⟨_, rfl⟩
  have hA2 : ∀ q, H.size ≤ q → A2 q := fun q h => by rw [eA]; exact Or.inr h
  have hAB : ∀ q, A2 q → A q := fun q h => by
    rw [eA] at h
    rcases h with ⟨κ, ι, hV, rfl⟩ | h
    · exact hG.2 κ ι hV.up
    · exact hA q (Nat.le_trans hS.1 h)
  have hN : ∀ q, sz ≤ q → q < H.size → ¬ A2 q := fun q h3 h4 h => by
    rw [eA] at h
    rcases h with ⟨κ, ι, hV, rfl⟩ | h
    · have := hG9 κ ι hV.up
      omega
    · omega
  have hG2 : zG 0 G A2 := ⟨fun κ ι κ' ι' a b => hG.1 κ ι κ' ι' a.up b.up, fun κ ι hV => by rw [eA]; exact Or.inl ⟨κ, ι, hV, rfl⟩⟩
  have h8 : ¬ A2 (G 0 8) := fun h => by
    have h9 := (hP 0 8 (zV_8 (by decide))).lt
    rw [eA] at h
    rcases h with ⟨κ, ι, hV, e⟩ | h
    · exact hV.ne (hG.1 κ ι 0 8 hV.up (zV_8 (by decide)) e.symm)
    · exact absurd h9 (Nat.not_lt.mpr h)
  have hXS : zS1 t.length a h0 vs A2 s H := zS1_of hts hK.1 g3 (hN _ hh0.1 hh0.2) (hN _ hvs.1 hvs.2)
  have hr := vx_runSX (p := p) (e := e) (below := below) (meth := meth) (H := H) (locs := locs) (cells := cells) (slots := slots) (g := F0 m pc ls (.ref h0 :: .ref (G 0 0) :: rest)) (rest := rest) (As := [.ref (G 0 0), .ref h0]) (R := zR d mc ms) (ret := some .int) (bytes := cL_load) (maxL := 4) (n := 2) (hh := [(6, 11, 12, 34), (6, 11, 16, 36)]) (Ts := c0 :: zWS) ⟨hx, hb, hml, hown, hts⟩ (c_L_load t T1 T2 v h2 a h0 vs g1 hn l D Y S V G A2 hl hG2) ⟨⟨rfl, rfl, (by show 9 + 1 ≤ d; omega), (by show 8 + (4 + 11) + 37 * 9 ≤ 37 * d; omega), z_pay hts k3, List.mem_cons_self⟩, ok _ k3, ok _ k2, k4, z_len k5, ok _ ml_594, ok _ k1⟩
    ⟨zT_blind, fun U hU hW => ⟨rfl, ⟨by rw [hU]; exact (hK.go hW hS.2.1).narrow hAB, by rw [hU]; exact hP.down, by rw [hU]; exact hA2⟩, by rw [hU]; exact (XJ.go hW hS.2.1).narrow hAB, by rw [hU]; exact hXS.go hW.alike (fun _ _ _ => rfl)⟩⟩ rfl rfl hsz rfl (by show 2 * 0 + _ ≤ 8; omega) hd1 hf
  intro T9 hT X9
  rcases hr T9 hT X9 with ⟨v', st₀, t9, TT, L, h5, X', hL, e1, e2, ⟨⟨v2, hv, ho, hp⟩, hF⟩, st⟩ | ⟨q, st₀, t9, TT, L, E, ce, h5, X', hL, e1, e2, ⟨⟨hE, hp⟩, hF⟩, hce, hcv, hcl, st⟩
  · cases hv
    cases ho
    obtain ⟨k1, k2, k3⟩ := vx_keep h5 e1 hS (fun q _ h => hAB q h) hAB hL hF
    have hp1 : zP 0 D Y G T2 TT.heap := by rw [e1]; exact hp
    obtain ⟨t2, a1, b1⟩ := kk TT.heap (locs ++ L) (hp1.up hP (fun hV => k2 _ ((hP 0 8 hV).lt) h8)) k3 TT rfl X'
    exact ⟨t2, st t2 a1, b1⟩
  · cases hE
theorem z_regload (F : zF 1 d mc ms p l s m args c cc nL RL c0 D Y S V G A) (XJ : zJk A s s.heap) (h : f_L_regload ga ch T = some (v, T')) (hP : zP 1 D Y G T H) (hS : va_S A s.heap H locs) (hsz : ls.size = nL) (hd : 9 + 1 ≤ d) (hf : cells + 162 ≤ mc ∧ slots + 85315 ≤ ms) (hd1 : decode cc pc = .ok (.invokestatic 244, 3)) (hd2 : decode cc (pc + 3) = .ok (.invokestatic 248, 3))
    (kk : ∀ (H1 : Heap) (locs1 : List Loc), zP 1 D Y G T' H1 → va_S A s.heap H1 locs1 → W p l e (zR d mc ms) s m args below meth c H1 locs1 (cells + 162) (slots + 85315) Q (F0 m (pc + 6) ls [.int v])) : W p l e (zR d mc ms) s m args below meth c H locs cells slots Q (F0 m pc ls [.ref (G 0 8), .int ch, .int ga, .ref (G 0 0)]) := by
  obtain ⟨t, T1, T2, h1, hn, h2, rfl⟩ := zRL_i (show zRL f_L_load (f_L_registry ga ch T) = some (v, T') from h)
  clear h
  refine z_reg (rest := [.ref (G 0 0)]) F XJ h1 hP hS hsz (Nat.le_of_ble_eq_true rfl) (by omega) (by omega) hd1 (fun h0 H1 locs1 hP1 hz hS1 => ?_)
  refine z_loadS (rest := []) F XJ h2 hn hz (fun κ ι hV => (hP κ ι hV).lt) hP1 hS1 hsz (by decide) (by omega) (by omega) hd2 (fun H2 locs2 hP2 hS2 => ?_)
  exact kk H2 locs2 hP2 hS2
end ZRL
