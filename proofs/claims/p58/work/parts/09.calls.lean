/-! CALLS over the typed heap -/
def zcal (y : MethodName) (cc : ByteArray) (maxL : Nat) (ret : Option FieldType) (n : Nat) : Prop := Cond.instanceMethod y ∈ zWS ∧ Cond.selects y.cls y y ∈ zWS ∧ Cond.initialized y.cls ∈ zWS ∧ Cond.code y cc maxL ret ∈ zWS ∧ (y.cls ≠ "java/lang/invoke/MethodHandle" ∧ y.cls ≠ "java/lang/invoke/VarHandle") ∧ (parseMethodDescriptor y.desc).map (fun d => d.parameters.length) = some n ∧ maxL ≤ 18
def zcas (y : MethodName) (cc : ByteArray) (maxL : Nat) (ret : Option FieldType) (n : Nat) : Prop := Cond.static y ∈ zWS ∧ Cond.initialized y.cls ∈ zWS ∧ Cond.code y cc maxL ret ∈ zWS ∧ (y.cls ≠ "java/lang/invoke/MethodHandle" ∧ y.cls ≠ "java/lang/invoke/VarHandle") ∧ (parseMethodDescriptor y.desc).map (fun d => d.parameters.length) = some n ∧ maxL ≤ 18
section ZC
variable {p : Program} {l : Launch} {e : Env} {s : State} {m : MethodId} {args : Array Value} {below : List Frame} {meth : Method} {c : Code} {H : Heap} {locs : List Loc} {cells slots : Nat} {Q : State → Prop}
variable {cc : ByteArray} {pc : Nat} {ls : Array Slot} {rest : List Value} {D : va_G} {Y : Nat → ClassId} {S V : Nat → Nat} {G : Nat → Nat → Nat} {A : Nat → Prop} {w : Nat} {T : zT} {c0 : Cond} {d mc ms nL : Nat}
/-- what stands at every call -/
def zF (w d mc ms : Nat) (p : Program) (l : Launch) (s : State) (m : MethodId) (args : Array Value) (c : Code) (cc : ByteArray) (nL : Nat) (own : String) (c0 : Cond) (D : va_G) (Y : Nat → ClassId) (S V : Nat → Nat) (G : Nat → Nat → Nat) (A : Nat → Prop) : Prop :=
  p.tables.exec = Jvm.exec ∧ c.code = cc ∧ c.maxLocals = nL ∧ s.vm.findClass own = some m.cls ∧ (∀ w ∈ c0 :: zWS, w.before args s = true) ∧ l.flags = flags0 ∧ zG w G A ∧ zK D Y S V A s s.heap ∧ ∀ q, s.heap.size ≤ q → A q
theorem z_pay (hts : ∀ w ∈ c0 :: zWS, w.before args s = true) {c' : Cond} (h : c' ∈ zWS) : ∀ w ∈ c' :: zWS, ∀ (a' : Array Value) (U : State), s.WarmedH U.vm → w.before a' U = true := pay_in hts (zgood h)
theorem z_pre {own : String} (F : zF w d mc ms p l s m args c cc nL own c0 D Y S V G A) (hP : zP w D Y G T H) (hS : va_S A s.heap H locs) {As as' : List Value} (has : as' = As) : ∀ U : State, U.heap = H → s.WarmedH U.vm → va_Pc as' (zB w D Y S V G A T) As.toArray U := by
  subst has
  intro U hU hW
  obtain ⟨-, -, -, -, -, -, -, hK, hA⟩ := F
  exact ⟨rfl, by rw [hU]; exact hK.go hW hS.2.1, by rw [hU]; exact hP, fun q hq => hA q (Nat.le_trans hS.1 (by rw [hU] at hq; exact hq))⟩
theorem z_len {y : MethodName} {n : Nat} (h2 : (parseMethodDescriptor y.desc).map (fun d => d.parameters.length) = some n) : ∀ sig, parseMethodDescriptor y.desc = some sig → n = sig.parameters.length := fun sig h => by
  rw [h] at h2
  exact (Option.some.inj h2).symm
variable {y : MethodName} {cc' : ByteArray} {maxL' n d' mc' ms' index : Nat} {ret' : Option FieldType} {as : (Nat → Nat → Nat) → (Nat → Nat) → List Value} {res : (Nat → Nat → Nat) → Option Value ⊕ String} {T' : zT} {own : String} {As : List Value}
theorem z_runV (F : zF w d mc ms p l s m args c cc nL own c0 D Y S V G A) (hc : zcal y cc' maxL' ret' n) (hlink : Cond.methodLink own index y ∈ zWS) (hC : zC w y cc' maxL' ret' d' mc' ms' as T res T') (hP : zP w D Y G T H) (hS : va_S A s.heap H locs) {κ ι : Nat} (hV : zV w κ ι) {ci N : Nat} {TT : u_T} {fs : List Value} (he : zcell w Y G T κ ι = .inr (ci, fs)) (hcl : vwCl[ci]? = some (y.cls, TT, N)) (has : as G S = .ref (G κ ι) :: As) (hn : As.length = n) (hsz : ls.size = nL) (hrest : (rest.map fun v => v.category).sum ≤ 8) (hdg : decode cc pc = .ok (.invokevirtual index, 3)) (hd : d' + 1 ≤ d) (hf : cells + mc' ≤ mc ∧ slots + ms' ≤ ms) {st : List Value} (hst : st = As.reverse ++ .ref (G κ ι) :: rest) :
    vx_Run p l e (zR d mc ms) s m args below meth c H locs cells slots mc' ms' (F0 m pc ls st) rest (zQ w D Y G A (res G) T' (Value.ref (G κ ι) :: As).toArray) (zX w D Y G A (res G) T') A := by
  have F0' := F
  obtain ⟨hx, hb, hml, hown, hts, hl, hG, hK, hA⟩ := F
  obtain ⟨k1, k2, k3, k4, k5, k6, k7⟩ := hc
  have ok : ∀ w ∈ zWS, w.before args s = true := fun w h => hts w (List.mem_cons_of_mem _ h)
  refine vx_runV (C := y.cls) (ret := ret') (bytes := cc') (maxL := maxL') (n := n) (Ts := c0 :: zWS) ⟨hx, hb, hml, hown, hts⟩ (hC l D Y S V G A hl hG) ⟨⟨rfl, rfl, hd, ?_, z_pay hts k4, List.mem_cons_self, ok _ k4, ok _ k3, k5, z_len k6, ok _ hlink⟩, ok _ k1, ok _ k2⟩ ⟨zB_blind, va_recv hK.1 (hP.one hV he) hcl (q0 := 0) rfl, z_pre F0' hP hS has⟩ rfl hn hsz hst (by show 2 * 0 + _ ≤ 8; omega) hdg hf
  show 8 + (maxL' + 11) + 37 * d' ≤ 37 * d
  omega
theorem z_runS (F : zF w d mc ms p l s m args c cc nL own c0 D Y S V G A) (hc : zcas y cc' maxL' ret' n) (hlink : Cond.methodLink own index y ∈ zWS) (hC : zC w y cc' maxL' ret' d' mc' ms' as T res T') (hP : zP w D Y G T H) (hS : va_S A s.heap H locs) (has : as G S = As) (hn : As.length = n) (hsz : ls.size = nL) (hrest : (rest.map fun v => v.category).sum ≤ 8) (hdg : decode cc pc = .ok (.invokestatic index, 3)) (hd : d' + 1 ≤ d) (hf : cells + mc' ≤ mc ∧ slots + ms' ≤ ms) {st : List Value} (hst : st = As.reverse ++ rest) :
    vx_Run p l e (zR d mc ms) s m args below meth c H locs cells slots mc' ms' (F0 m pc ls st) rest (zQ w D Y G A (res G) T' As.toArray) (zX w D Y G A (res G) T') A := by
  have F0' := F
  obtain ⟨hx, hb, hml, hown, hts, hl, hG, hK, hA⟩ := F
  obtain ⟨k1, k3, k4, k5, k6, k7⟩ := hc
  have ok : ∀ w ∈ zWS, w.before args s = true := fun w h => hts w (List.mem_cons_of_mem _ h)
  refine vx_runS (ret := ret') (bytes := cc') (maxL := maxL') (n := n) (Ts := c0 :: zWS) ⟨hx, hb, hml, hown, hts⟩ (hC l D Y S V G A hl hG) ⟨⟨rfl, rfl, hd, ?_, z_pay hts k4, List.mem_cons_self, ok _ k4, ok _ k3, k5, z_len k6, ok _ hlink⟩, ok _ k1⟩ ⟨zB_blind, z_pre F0' hP hS has⟩ rfl hn hsz hst (by show 2 * 0 + _ ≤ 8; omega) hdg hf
  show 8 + (maxL' + 11) + 37 * d' ≤ 37 * d
  omega
/-- a call by an instance method's <init> is not needed here; a nest mate's private static method -/
theorem z_runSN (F : zF w d mc ms p l s m args c cc nL own c0 D Y S V G A) (hc : zcas y cc' maxL' ret' n) (hlink : (own, index, y) ∈ zNest) (hC : zC w y cc' maxL' ret' d' mc' ms' as T res T') (hP : zP w D Y G T H) (hS : va_S A s.heap H locs) (has : as G S = As) (hn : As.length = n) (hsz : ls.size = nL) (hrest : (rest.map fun v => v.category).sum ≤ 8) (hdg : decode cc pc = .ok (.invokestatic index, 3)) (hd : d' + 1 ≤ d) (hf : cells + mc' ≤ mc ∧ slots + ms' ≤ ms) {st : List Value} (hst : st = As.reverse ++ rest) :
    vx_Run p l e (zR d mc ms) s m args below meth c H locs cells slots mc' ms' (F0 m pc ls st) rest (zQ w D Y G A (res G) T' As.toArray) (zX w D Y G A (res G) T') A := by
  have F0' := F
  obtain ⟨hx, hb, hml, hown, hts, hl, hG, hK, hA⟩ := F
  obtain ⟨k1, k3, k4, k5, k6, k7⟩ := hc
  have ok : ∀ w ∈ zWS, w.before args s = true := fun w h => hts w (List.mem_cons_of_mem _ h)
  refine vx_runSN (ret := ret') (bytes := cc') (maxL := maxL') (n := n) (Ts := c0 :: zWS) (host := "InventedBirthdays") ⟨hx, hb, hml, hown, hts⟩ (hC l D Y S V G A hl hG) ⟨⟨⟨rfl, rfl, hd, ?_, z_pay hts k4, List.mem_cons_self⟩, ok _ k4, ok _ k3, k5, z_len k6, va_Nw.use rfl (hK.2.1 _ hlink)⟩, ok _ k1, trivial⟩ ⟨zB_blind, z_pre F0' hP hS has⟩ rfl hn hsz hst (by show 2 * 0 + _ ≤ 8; omega) hdg hf
  show 8 + (maxL' + 11) + 37 * d' ≤ 37 * d
  omega
/-- behind a call that returned -/
theorem z_ok {R : Room} {a : Array Value} {v : Option Value} {mc' ms' : Nat} {T' : zT} {st0 : List Value} (hr : vx_Run p l e R s m args below meth c H locs cells slots mc' ms' (F0 m pc ls st0) rest (zQ w D Y G A (.inl v) T' a) (zX w D Y G A (.inl v) T') A) (hS : va_S A s.heap H locs)
    (kk : ∀ (H1 : Heap) (locs1 : List Loc), zP w D Y G T' H1 → va_S A s.heap H1 locs1 → W p l e R s m args below meth c H1 locs1 (cells + mc') (slots + ms') Q (F0 m (pc + 3) ls (v.toList ++ rest))) : W p l e R s m args below meth c H locs cells slots Q (F0 m pc ls st0) := by
  intro T hT X
  rcases hr T hT X with ⟨v', st₀, t, T1, L, h0, X', hL, e1, e2, ⟨⟨v2, hv, ho, hp⟩, hF⟩, st⟩ | ⟨q, st₀, t, T1, L, E, ce, h0, X', hL, e1, e2, ⟨⟨hE, -⟩, -⟩, -⟩
  · cases hv
    cases ho
    obtain ⟨k1, k2, k3⟩ := vx_keep h0 e1 hS (fun _ _ h => h) (fun _ h => h) hL hF
    obtain ⟨t2, a1, b1⟩ := kk T1.heap (locs ++ L) (by rw [e1]; exact hp) k3 T1 rfl X'
    exact ⟨t2, st t2 a1, b1⟩
  · cases hE
/-- behind a call that threw, in a body without a table -/
theorem z_ex {R : Room} {a : Array Value} {E : String} {mc' ms' mcT msT : Nat} {T' : zT} {st0 : List Value} {res : Option Value ⊕ String} (hr : vx_Run p l e R s m args below meth c H locs cells slots mc' ms' (F0 m pc ls st0) rest (zQ w D Y G A (.inr E) T' a) (zX w D Y G A (.inr E) T') A) (hS : va_S A s.heap H locs) (hout : ∀ x ∈ c.exceptionTable.toList, False) (hlocks : meth.locks = false) (hres : res = .inr E) (h1 : cells + mc' ≤ mcT) (h2 : slots + ms' ≤ msT) :
    W p l e R s m args below meth c H locs cells slots (vx_MQ below (zQ w D Y G A res T') (zX w D Y G A res T') args s mcT msT A) (F0 m pc ls st0) := by
  subst hres
  intro T hT X
  rcases hr T hT X with ⟨v', st₀, t, T1, L, h0, X', hL, e1, e2, ⟨⟨v2, hv, ho, hp⟩, hF⟩, st⟩ | ⟨q, st₀, t, T1, L, E', ce, h0, X', hL, e1, e2, ⟨⟨hE, hp⟩, hF⟩, hce, hcv, hcl, st⟩
  · cases hv
  · cases hE
    obtain ⟨k1, k2, k3⟩ := vx_keep h0 e1 hS (fun _ _ h => h) (fun _ h => h) hL hF
    obtain ⟨t2, a1, b1⟩ := vx_out (p := p) (l := l) (e := e) (R := R) (s := s) (m := m) (args := args) (below := below) (meth := meth) (c := c) (pc := pc) (ls := ls) (rest := rest) (Qc := zQ w D Y G A (.inr E) T') (XC := zX w D Y G A (.inr E) T') (free := A) (fun x hx => (hout x hx).elim) hlocks (by rw [e1]; exact hce) hcv hcl (fun t9 ht9 _ => ⟨⟨rfl, by rw [ht9, e1]; exact hp⟩, k3.F ht9⟩) k3.2.2 h1 h2 T1 rfl X'
    exact ⟨t2, st.trans a1, b1⟩
end ZC
