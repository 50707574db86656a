/-! THE JDK'S OWN METHODS over texts being built: facts, contracts, calls -/
def zTab (A : Nat → Prop) (U : State) (H : Heap) : Prop := ∃ t1 t2 : Nat, (va_Z "java/lang/Integer" "DigitOnes" "[B" (.ref t1) A U H ∧ va_T .byte t1 100 (fun j => .int (nI (48 + j % 10))) A U H) ∧ va_Z "java/lang/Integer" "DigitTens" "[B" (.ref t2) A U H ∧ va_T .byte t2 100 (fun j => .int (nI (48 + j / 10))) A U H
/-- private methods, called on a builder -/
def zPriv : List MethodName := [yJ5_ensureCapacityInternal_d00df, yJ5_newCapacity_0f7a4, yJ5_putStringAt_47b60, yJ5_inflateIfNeededFor_a7421]
def zJk (A : Nat → Prop) (U : State) (H : Heap) : Prop := va_Nw (.castable "[B" "java/lang/Cloneable") U ∧ zTab A U H ∧ ∀ y ∈ zPriv, va_Nw (.selects RJ4 y y) U
def zJ (D : va_G) (Y : Nat → ClassId) (S V : Nat → Nat) (A : Nat → Prop) (U : State) (H : Heap) : Prop := zK D Y S V A U H ∧ zJk A U H
theorem zJk.go {A : Nat → Prop} {u U : State} {H H1 : Heap} (h : zJk A u H) (hW : u.WarmedH U.vm) (hq : ∀ a : Nat, a < H.size → ¬ A a → H1[a]? = H[a]?) : zJk A U H1 := by
  obtain ⟨h1, ⟨t1, t2, ⟨h2, h3⟩, h4, h5⟩, h6⟩ := h
  have hvm := hW.alike
  exact ⟨va_Nw.warmC hW h1, ⟨t1, t2, ⟨va_Z.moved hvm (h2.kept hq), va_T.moved hvm (h3.kept hq)⟩, va_Z.moved hvm (h4.kept hq), va_T.moved hvm (h5.kept hq)⟩, fun y hy => word_at hW (Or.inl rfl) (h6 y hy)⟩
theorem zJk.same {A : Nat → Prop} {u U : State} {H : Heap} (h : zJk A u H) (hv : U.vm = u.vm) : zJk A U H := by
  obtain ⟨h1, ⟨t1, t2, ⟨h2, h3⟩, h4, h5⟩, h6⟩ := h
  have hvm : u.vm.Alike U.vm := by rw [hv]; exact Vm.Alike.refl u.vm
  exact ⟨va_Nw.same rfl hv.symm h1, ⟨t1, t2, ⟨va_Z.moved hvm h2, va_T.moved hvm h3⟩, va_Z.moved hvm h4, va_T.moved hvm h5⟩, fun y hy => va_Nw.same rfl hv.symm (h6 y hy)⟩
theorem zJk.narrow {A B : Nat → Prop} {U : State} {H : Heap} (h : zJk A U H) (hAB : ∀ q, B q → A q) : zJk B U H := by
  obtain ⟨h1, ⟨t1, t2, ⟨h2, h3⟩, h4, h5⟩, h6⟩ := h
  exact ⟨h1, ⟨t1, t2, ⟨va_Z.narrow h2 hAB, va_T.narrow h3 hAB⟩, va_Z.narrow h4 hAB, va_T.narrow h5 hAB⟩, h6⟩
theorem zJ.go {D : va_G} {Y : Nat → ClassId} {S V : Nat → Nat} {A : Nat → Prop} {u U : State} {H H1 : Heap} (h : zJ D Y S V A u H) (hW : u.WarmedH U.vm) (hq : ∀ a : Nat, a < H.size → ¬ A a → H1[a]? = H[a]?) : zJ D Y S V A U H1 := ⟨h.1.go hW hq, h.2.go hW hq⟩
theorem zJ.same {D : va_G} {Y : Nat → ClassId} {S V : Nat → Nat} {A : Nat → Prop} {u U : State} {H : Heap} (h : zJ D Y S V A u H) (hv : U.vm = u.vm) : zJ D Y S V A U H := ⟨h.1.same hv, h.2.same hv⟩
theorem zJ.narrow {D : va_G} {Y : Nat → ClassId} {S V : Nat → Nat} {A B : Nat → Prop} {U : State} {H : Heap} (h : zJ D Y S V A U H) (hAB : ∀ q, B q → A q) : zJ D Y S V B U H := ⟨h.1.narrow hAB, h.2.narrow hAB⟩
def zJP (D : va_G) (Y : Nat → ClassId) (S V : Nat → Nat) (A : Nat → Prop) (B : State → Prop) : State → Prop := fun U => zJ D Y S V A U U.heap ∧ B U ∧ ∀ q, U.heap.size ≤ q → A q
def zJQ (A : Nat → Prop) (post : Option Value → Heap → Prop) : Array Value → State → Outcome → State → Prop := fun _ st oc t => (∃ v, oc = .returned v ∧ post v t.heap) ∧ va_F A st t
/-- a contract of a method that returns -/
def zMJ (l : Launch) (y : MethodName) (cc : ByteArray) (maxL : Nat) (ret : Option FieldType) (d mc ms : Nat) (D : va_G) (Y : Nat → ClassId) (S V : Nat → Nat) (A : Nat → Prop) (as : List Value) (B : State → Prop) (post : Option Value → Heap → Prop) : Prop :=
  vx_Met l y (Cond.code y cc maxL ret :: zWS) (zR d mc ms) (va_Pc as (zJP D Y S V A B)) (zJQ A post) (fun _ _ _ => False) mc ms A
theorem zJP_blind {D : va_G} {Y : Nat → ClassId} {S V : Nat → Nat} {A : Nat → Prop} {B : State → Prop} {as : List Value} (hBl : ∀ (a : Array Value) (U : State) (g : JFrame) (mk : MethodId), B U → B (U.calling g mk a)) : FrameBlind (va_Pc as (zJP D Y S V A B)) := fun a U g mk q => by
  obtain ⟨q0, q1, q2, q3⟩ := q
  exact ⟨q0, zJ.same (U := U.calling g mk a) q1 rfl, hBl a U g mk q2, q3⟩
def zFJ (d mc ms : Nat) (p : Program) (l : Launch) (s : State) (m : MethodId) (args : Array Value) (c : Code) (cc : ByteArray) (nL : Nat) (own : String) (c0 : Cond) (D : va_G) (Y : Nat → ClassId) (S V : Nat → Nat) (A : Nat → Prop) : Prop :=
  p.tables.exec = Jvm.exec ∧ c.code = cc ∧ c.maxLocals = nL ∧ s.vm.findClass own = some m.cls ∧ (∀ w ∈ c0 :: zWS, w.before args s = true) ∧ l.flags = flags0 ∧ zJ D Y S V A s s.heap ∧ ∀ q, s.heap.size ≤ q → A q
theorem zMJ.ofW {l : Launch} {y : MethodName} {cc : ByteArray} {maxL : Nat} {ret : Option FieldType} {d mc ms : Nat} {D : va_G} {Y : Nat → ClassId} {S V : Nat → Nat} {A : Nat → Prop} {as : List Value} {B : State → Prop} {post : Option Value → Heap → Prop} (hfl : l.flags = flags0) (hy : plainName y.cls = true)
    (body : ∀ (p : Program) (e : Env) (s : State) (m : MethodId) (args : Array Value) (below : List Frame) (meth : Method) (c : Code), args = as.toArray → zFJ d mc ms p l s m args c cc maxL y.cls (Cond.code y cc maxL ret) D Y S V A → meth.sig.returnType = ret → meth.locks = false → meth.name = y.name → B s →
      W p l e (zR d mc ms) s m args below meth c s.heap [] 0 0 (vx_MQ below (zJQ A post) (fun _ _ _ => False) args s mc ms A) (entryFrame m args maxL)) : zMJ l y cc maxL ret d mc ms D Y S V A as B post := by
  refine vx_ofW (cc := cc) (maxL := maxL) (ret := ret) hy rfl ?_
  intro p e s m args below meth c s₁ Bd hml hex hv
  obtain ⟨ha, hJ, hB, hA⟩ := hv
  exact body p e s m args below meth c ha ⟨Bd.exec, Bd.bytes, hml, findClass_of_methodNamed Bd.named, atoms_spec (ws := Cond.code y cc maxL ret :: zWS) Bd.pre, hfl, hJ, hA⟩ Bd.returns Bd.notSynchronized (name_of_methodNamed Bd.named Bd.method).1 hB
/-- words of a call of a method that the receiver's class inherits, or that it has in another's place -/
def zcau (C owner : String) (x y : MethodName) (cc : ByteArray) (maxL : Nat) (ret : Option FieldType) (n : Nat) : Prop :=
  Cond.sameMethod x.cls owner x.name x.desc ∈ zWS ∧ Cond.selects C x y ∈ zWS ∧ Cond.instanceMethod y ∈ zWS ∧ Cond.initialized y.cls ∈ zWS ∧ Cond.code y cc maxL ret ∈ zWS ∧ (owner ≠ "java/lang/invoke/MethodHandle" ∧ owner ≠ "java/lang/invoke/VarHandle") ∧ (parseMethodDescriptor x.desc).map (fun d => d.parameters.length) = some n ∧ maxL ≤ 18 ∧
  ∃ (b0 : ByteArray) (m0 : Nat) (r0 : Option FieldType), Cond.instanceMethod ⟨owner, x.name, x.desc⟩ ∈ zWS ∧ Cond.code ⟨owner, x.name, x.desc⟩ b0 m0 r0 ∈ zWS
/-- .. of a superclass's method -/
def zcasu (own : String) (y : MethodName) (cc : ByteArray) (maxL : Nat) (ret : Option FieldType) (n : Nat) : Prop :=
  Cond.sameMethod y.cls y.cls y.name y.desc ∈ zWS ∧ Cond.superclass own y.cls ∈ zWS ∧ Cond.instanceMethod y ∈ zWS ∧ Cond.initialized y.cls ∈ zWS ∧ Cond.code y cc maxL ret ∈ zWS ∧ y.name ≠ "<init>" ∧ (parseMethodDescriptor y.desc).map (fun d => d.parameters.length) = some n ∧ maxL ≤ 18
/-- .. of a constructor -/
def zcai (y : MethodName) (cc : ByteArray) (maxL : Nat) (n : Nat) : Prop :=
  Cond.instanceMethod y ∈ zWS ∧ Cond.initialized y.cls ∈ zWS ∧ Cond.code y cc maxL none ∈ zWS ∧ (y.cls ≠ "java/lang/invoke/MethodHandle" ∧ y.cls ≠ "java/lang/invoke/VarHandle") ∧ (parseMethodDescriptor y.desc).map (fun d => d.parameters.length) = some n ∧ y.name = "<init>" ∧ maxL ≤ 18
/-- .. of a private method, on a builder -/
def zcaup (C : String) (y : MethodName) (cc : ByteArray) (maxL : Nat) (ret : Option FieldType) (n : Nat) : Prop :=
  Cond.sameMethod y.cls y.cls y.name y.desc ∈ zWS ∧ y ∈ zPriv ∧ Cond.instanceMethod y ∈ zWS ∧ Cond.initialized y.cls ∈ zWS ∧ Cond.code y cc maxL ret ∈ zWS ∧ (y.cls ≠ "java/lang/invoke/MethodHandle" ∧ y.cls ≠ "java/lang/invoke/VarHandle") ∧ (parseMethodDescriptor y.desc).map (fun d => d.parameters.length) = some n ∧ maxL ≤ 18 ∧ C = RJ4
section ZJM
variable {p : Program} {l : Launch} {e : Env} {s : State} {m : MethodId} {args : Array Value} {below : List Frame} {meth : Method} {c : Code} {H : Heap} {locs : List Loc} {cells slots : Nat} {Q : State → Prop}
variable {cc : ByteArray} {pc : Nat} {ls : Array Slot} {rest : List Value} {D : va_G} {Y : Nat → ClassId} {S V : Nat → Nat} {A A1 : Nat → Prop} {c0 : Cond} {d mc ms nL : Nat} {R : Room}
variable {y : MethodName} {cc' : ByteArray} {maxL' n d' mc' ms' index : Nat} {ret' : Option FieldType} {own : String} {As as' : List Value} {B : State → Prop} {post : Option Value → Heap → Prop}
theorem z_jpre (F : zFJ d mc ms p l s m args c cc nL own c0 D Y S V A) (hS : va_S A s.heap H locs) (hAB : ∀ q, A1 q → A q) (hA1 : ∀ q, H.size ≤ q → A1 q) (hB : ∀ U : State, U.heap = H → s.WarmedH U.vm → B U) (has : as' = As) : ∀ U : State, U.heap = H → s.WarmedH U.vm → va_Pc as' (zJP D Y S V A1 B) As.toArray U := by
  subst has
  intro U hU hW
  obtain ⟨-, -, -, -, -, -, hJ, -⟩ := F
  exact ⟨rfl, by rw [hU]; exact (hJ.go hW hS.2.1).narrow hAB, hB U hU hW, by rw [hU]; exact hA1⟩
/-- behind a call -/
theorem z_jok {a : Array Value} {st0 : List Value} (hr : vx_Run p l e R s m args below meth c H locs cells slots mc' ms' (F0 m pc ls st0) rest (zJQ A1 post a) (fun _ _ _ => False) A1) (hS : va_S A s.heap H locs) (hAB : ∀ q, A1 q → A q)
    (kk : ∀ (v : Option Value) (H1 : Heap) (locs1 : List Loc), post v H1 → H.size ≤ H1.size → (∀ q : Nat, q < H.size → ¬ A1 q → H1[q]? = H[q]?) → va_S A s.heap H1 locs1 → W p l e R s m args below meth c H1 locs1 (cells + mc') (slots + ms') Q (F0 m (pc + 3) ls (v.toList ++ rest))) : W p l e R s m args below meth c H locs cells slots Q (F0 m pc ls st0) := by
  intro T hT X
  rcases hr T hT X with ⟨v', st₀, t, T1, L, h0, X', hL, e1, e2, ⟨⟨v2, ho, hp⟩, hF⟩, st⟩ | ⟨q, st₀, t, T1, L, E, ce, h0, X', hL, e1, e2, hfalse, -⟩
  · cases ho
    obtain ⟨k1, k2, k3⟩ := vx_keep h0 e1 hS (fun q _ h => hAB q h) hAB hL hF
    obtain ⟨t2, a1, b1⟩ := kk v' T1.heap (locs ++ L) (by rw [e1]; exact hp) k1 k2 k3 T1 rfl X'
    exact ⟨t2, st t2 a1, b1⟩
  · exact hfalse.elim
theorem z_jS (F : zFJ d mc ms p l s m args c cc nL own c0 D Y S V A) (hc : zcas y cc' maxL' ret' n) (hlink : Cond.methodLink own index y ∈ zWS) (hM : zMJ l y cc' maxL' ret' d' mc' ms' D Y S V A1 as' B post) (hBl : ∀ (a : Array Value) (U : State) (g : JFrame) (mk : MethodId), B U → B (U.calling g mk a)) (hB : ∀ U : State, U.heap = H → s.WarmedH U.vm → B U) (hS : va_S A s.heap H locs) (hAB : ∀ q, A1 q → A q) (hA1 : ∀ q, H.size ≤ q → A1 q) (has : as' = As) (hn : As.length = n) (hsz : ls.size = nL) (hrest : (rest.map fun v => v.category).sum ≤ 8) (hdg : decode cc pc = .ok (.invokestatic index, 3)) (hd : d' + 1 ≤ d) (hf : cells + mc' ≤ mc ∧ slots + ms' ≤ ms) {st : List Value} (hst : st = As.reverse ++ rest)
    (kk : ∀ (v : Option Value) (H1 : Heap) (locs1 : List Loc), post v H1 → H.size ≤ H1.size → (∀ q : Nat, q < H.size → ¬ A1 q → H1[q]? = H[q]?) → va_S A s.heap H1 locs1 → W p l e (zR d mc ms) s m args below meth c H1 locs1 (cells + mc') (slots + ms') Q (F0 m (pc + 3) ls (v.toList ++ rest))) : W p l e (zR d mc ms) s m args below meth c H locs cells slots Q (F0 m pc ls st) := by
  have F0' := F
  obtain ⟨hx, hb, hml, hown, hts, hl, hJ, hA⟩ := F
  obtain ⟨k1, k3, k4, k5, k6, k7⟩ := hc
  have ok : ∀ w ∈ zWS, w.before args s = true := fun w h => hts w (List.mem_cons_of_mem _ h)
  refine z_jok (vx_runS (g := F0 m pc ls st) (ret := ret') (bytes := cc') (maxL := maxL') (n := n) (Ts := c0 :: zWS) ⟨hx, hb, hml, hown, hts⟩ hM ⟨⟨rfl, rfl, hd, ?_, z_pay hts k4, List.mem_cons_self, ok _ k4, ok _ k3, k5, z_len k6, ok _ hlink⟩, ok _ k1⟩ ⟨zJP_blind hBl, z_jpre F0' hS hAB hA1 hB has⟩ rfl hn hsz hst (by show 2 * 0 + _ ≤ 8; omega) hdg hf) hS hAB kk
  show 8 + (maxL' + 11) + 37 * d' ≤ 37 * d
  omega
theorem z_jV {b : Nat} (F : zFJ d mc ms p l s m args c cc nL own c0 D Y S V A) (hc : zcal y cc' maxL' ret' n) (hlink : Cond.methodLink own index y ∈ zWS) (hM : zMJ l y cc' maxL' ret' d' mc' ms' D Y S V A1 as' B post) (hBl : ∀ (a : Array Value) (U : State) (g : JFrame) (mk : MethodId), B U → B (U.calling g mk a)) (hB : ∀ U : State, U.heap = H → s.WarmedH U.vm → B U) (hrec : ∃ cell : Cell, H[b]? = some cell ∧ cell.vm.isStatics = false ∧ s.vm.findClass y.cls = some cell.cls) (hS : va_S A s.heap H locs) (hAB : ∀ q, A1 q → A q) (hA1 : ∀ q, H.size ≤ q → A1 q) (has : as' = .ref b :: As) (hn : As.length = n) (hsz : ls.size = nL) (hrest : (rest.map fun v => v.category).sum ≤ 8) (hdg : decode cc pc = .ok (.invokevirtual index, 3)) (hd : d' + 1 ≤ d) (hf : cells + mc' ≤ mc ∧ slots + ms' ≤ ms) {st : List Value} (hst : st = As.reverse ++ .ref b :: rest)
    (kk : ∀ (v : Option Value) (H1 : Heap) (locs1 : List Loc), post v H1 → H.size ≤ H1.size → (∀ q : Nat, q < H.size → ¬ A1 q → H1[q]? = H[q]?) → va_S A s.heap H1 locs1 → W p l e (zR d mc ms) s m args below meth c H1 locs1 (cells + mc') (slots + ms') Q (F0 m (pc + 3) ls (v.toList ++ rest))) : W p l e (zR d mc ms) s m args below meth c H locs cells slots Q (F0 m pc ls st) := by
  have F0' := F
  obtain ⟨hx, hb, hml, hown, hts, hl, hJ, hA⟩ := F
  obtain ⟨k1, k2, k3, k4, k5, k6, k7⟩ := hc
  have ok : ∀ w ∈ zWS, w.before args s = true := fun w h => hts w (List.mem_cons_of_mem _ h)
  refine z_jok (vx_runV (g := F0 m pc ls st) (C := y.cls) (ret := ret') (bytes := cc') (maxL := maxL') (n := n) (Ts := c0 :: zWS) ⟨hx, hb, hml, hown, hts⟩ hM ⟨⟨rfl, rfl, hd, ?_, z_pay hts k4, List.mem_cons_self, ok _ k4, ok _ k3, k5, z_len k6, ok _ hlink⟩, ok _ k1, ok _ k2⟩ ⟨zJP_blind hBl, hrec, z_jpre F0' hS hAB hA1 hB has⟩ rfl hn hsz hst (by show 2 * 0 + _ ≤ 8; omega) hdg hf) hS hAB kk
  show 8 + (maxL' + 11) + 37 * d' ≤ 37 * d
  omega
theorem z_jU {b : Nat} {C owner : String} {x : MethodName} (F : zFJ d mc ms p l s m args c cc nL own c0 D Y S V A) (hc : zcau C owner x y cc' maxL' ret' n) (hlink : Cond.methodLink own index x ∈ zWS) (hM : zMJ l y cc' maxL' ret' d' mc' ms' D Y S V A1 as' B post) (hBl : ∀ (a : Array Value) (U : State) (g : JFrame) (mk : MethodId), B U → B (U.calling g mk a)) (hB : ∀ U : State, U.heap = H → s.WarmedH U.vm → B U) (hrec : ∃ cell : Cell, H[b]? = some cell ∧ cell.vm.isStatics = false ∧ s.vm.findClass C = some cell.cls) (hS : va_S A s.heap H locs) (hAB : ∀ q, A1 q → A q) (hA1 : ∀ q, H.size ≤ q → A1 q) (has : as' = .ref b :: As) (hn : As.length = n) (hsz : ls.size = nL) (hrest : (rest.map fun v => v.category).sum ≤ 8) (hdg : decode cc pc = .ok (.invokevirtual index, 3)) (hd : d' + 1 ≤ d) (hf : cells + mc' ≤ mc ∧ slots + ms' ≤ ms) {st : List Value} (hst : st = As.reverse ++ .ref b :: rest)
    (kk : ∀ (v : Option Value) (H1 : Heap) (locs1 : List Loc), post v H1 → H.size ≤ H1.size → (∀ q : Nat, q < H.size → ¬ A1 q → H1[q]? = H[q]?) → va_S A s.heap H1 locs1 → W p l e (zR d mc ms) s m args below meth c H1 locs1 (cells + mc') (slots + ms') Q (F0 m (pc + 3) ls (v.toList ++ rest))) : W p l e (zR d mc ms) s m args below meth c H locs cells slots Q (F0 m pc ls st) := by
  have F0' := F
  obtain ⟨hx, hb, hml, hown, hts, hl, hJ, hA⟩ := F
  obtain ⟨k1, k2, k3, k4, k5, k6, k7, k8, b0, m0, r0, k9, k10⟩ := hc
  have ok : ∀ w ∈ zWS, w.before args s = true := fun w h => hts w (List.mem_cons_of_mem _ h)
  refine z_jok (vx_runU (g := F0 m pc ls st) (C := C) (owner := owner) (x := x) (ret := ret') (bytes := cc') (maxL := maxL') (n := n) (Ts := c0 :: zWS) ⟨hx, hb, hml, hown, hts⟩ hM ⟨⟨rfl, rfl, hd, ?_, z_pay hts k5, List.mem_cons_self⟩, ok _ k5, ok _ k4, k6, z_len k7, ok _ hlink, ok _ k1, va_Decl.of (ok _ k9) (ok _ k10), ok _ k2, ok _ k3⟩ ⟨zJP_blind hBl, hrec, z_jpre F0' hS hAB hA1 hB has⟩ rfl hn hsz hst (by show 2 * 0 + _ ≤ 8; omega) hdg hf) hS hAB kk
  show 8 + (maxL' + 11) + 37 * d' ≤ 37 * d
  omega
theorem z_jP {b : Nat} {C : String} (F : zFJ d mc ms p l s m args c cc nL own c0 D Y S V A) (hc : zcaup C y cc' maxL' ret' n) (hlink : Cond.methodLink own index y ∈ zWS) (hM : zMJ l y cc' maxL' ret' d' mc' ms' D Y S V A1 as' B post) (hBl : ∀ (a : Array Value) (U : State) (g : JFrame) (mk : MethodId), B U → B (U.calling g mk a)) (hB : ∀ U : State, U.heap = H → s.WarmedH U.vm → B U) (hrec : ∃ cell : Cell, H[b]? = some cell ∧ cell.vm.isStatics = false ∧ s.vm.findClass C = some cell.cls) (hS : va_S A s.heap H locs) (hAB : ∀ q, A1 q → A q) (hA1 : ∀ q, H.size ≤ q → A1 q) (has : as' = .ref b :: As) (hn : As.length = n) (hsz : ls.size = nL) (hrest : (rest.map fun v => v.category).sum ≤ 8) (hdg : decode cc pc = .ok (.invokevirtual index, 3)) (hd : d' + 1 ≤ d) (hf : cells + mc' ≤ mc ∧ slots + ms' ≤ ms) {st : List Value} (hst : st = As.reverse ++ .ref b :: rest)
    (kk : ∀ (v : Option Value) (H1 : Heap) (locs1 : List Loc), post v H1 → H.size ≤ H1.size → (∀ q : Nat, q < H.size → ¬ A1 q → H1[q]? = H[q]?) → va_S A s.heap H1 locs1 → W p l e (zR d mc ms) s m args below meth c H1 locs1 (cells + mc') (slots + ms') Q (F0 m (pc + 3) ls (v.toList ++ rest))) : W p l e (zR d mc ms) s m args below meth c H locs cells slots Q (F0 m pc ls st) := by
  have F0' := F
  obtain ⟨hx, hb, hml, hown, hts, hl, hJ, hA⟩ := F
  obtain ⟨k1, k2, k3, k4, k5, k6, k7, k8, rfl⟩ := hc
  have ok : ∀ w ∈ zWS, w.before args s = true := fun w h => hts w (List.mem_cons_of_mem _ h)
  refine z_jok (vx_runU (g := F0 m pc ls st) (C := RJ4) (owner := y.cls) (x := y) (ret := ret') (bytes := cc') (maxL := maxL') (n := n) (Ts := c0 :: zWS) ⟨hx, hb, hml, hown, hts⟩ hM ⟨⟨rfl, rfl, hd, ?_, z_pay hts k5, List.mem_cons_self⟩, ok _ k5, ok _ k4, k6, z_len k7, ok _ hlink, ok _ k1, va_Decl.of (ok _ k3) (ok _ k5), va_Nw.use rfl (hJ.2.2.2 _ k2), ok _ k3⟩ ⟨zJP_blind hBl, hrec, z_jpre F0' hS hAB hA1 hB has⟩ rfl hn hsz hst (by show 2 * 0 + _ ≤ 8; omega) hdg hf) hS hAB kk
  show 8 + (maxL' + 11) + 37 * d' ≤ 37 * d
  omega
theorem z_jSU {b : Nat} {C : String} {cC : ClassId} (F : zFJ d mc ms p l s m args c cc nL own c0 D Y S V A) (hc : zcasu own y cc' maxL' ret' n) (hlink : Cond.methodLink own index y ∈ zWS) (hM : zMJ l y cc' maxL' ret' d' mc' ms' D Y S V A1 as' B post) (hBl : ∀ (a : Array Value) (U : State) (g : JFrame) (mk : MethodId), B U → B (U.calling g mk a)) (hB : ∀ U : State, U.heap = H → s.WarmedH U.vm → B U) (hat : ClassAt s C cC) (hrec : ∃ cell : Cell, H[b]? = some cell ∧ cell.vm.isStatics = false ∧ s.vm.findClass C = some cell.cls) (hS : va_S A s.heap H locs) (hAB : ∀ q, A1 q → A q) (hA1 : ∀ q, H.size ≤ q → A1 q) (has : as' = .ref b :: As) (hn : As.length = n) (hsz : ls.size = nL) (hrest : (rest.map fun v => v.category).sum ≤ 8) (hdg : decode cc pc = .ok (.invokespecial index, 3)) (hd : d' + 1 ≤ d) (hf : cells + mc' ≤ mc ∧ slots + ms' ≤ ms) {st : List Value} (hst : st = As.reverse ++ .ref b :: rest)
    (kk : ∀ (v : Option Value) (H1 : Heap) (locs1 : List Loc), post v H1 → H.size ≤ H1.size → (∀ q : Nat, q < H.size → ¬ A1 q → H1[q]? = H[q]?) → va_S A s.heap H1 locs1 → W p l e (zR d mc ms) s m args below meth c H1 locs1 (cells + mc') (slots + ms') Q (F0 m (pc + 3) ls (v.toList ++ rest))) : W p l e (zR d mc ms) s m args below meth c H locs cells slots Q (F0 m pc ls st) := by
  have F0' := F
  obtain ⟨hx, hb, hml, hown, hts, hl, hJ, hA⟩ := F
  obtain ⟨k1, k2, k3, k4, k5, k6, k7, k8⟩ := hc
  have ok : ∀ w ∈ zWS, w.before args s = true := fun w h => hts w (List.mem_cons_of_mem _ h)
  refine z_jok (vx_runSU (g := F0 m pc ls st) (C := C) (ret := ret') (bytes := cc') (maxL := maxL') (n := n) (Ts := c0 :: zWS) hat ⟨hx, hb, hml, hown, hts⟩ hM ⟨⟨rfl, rfl, hd, ?_, z_pay hts k5, List.mem_cons_self⟩, ok _ hlink, ok _ k1, ok _ k2, ok _ k3, ok _ k4, ok _ k5, k6, z_len k7⟩ ⟨zJP_blind hBl, hrec, z_jpre F0' hS hAB hA1 hB has⟩ rfl hn hsz hst (by show 2 * 0 + _ ≤ 8; omega) hdg hf) hS hAB kk
  show 8 + (maxL' + 11) + 37 * d' ≤ 37 * d
  omega
theorem z_jI {b : Nat} (F : zFJ d mc ms p l s m args c cc nL own c0 D Y S V A) (hc : zcai y cc' maxL' n) (hlink : Cond.methodLink own index y ∈ zWS) (hM : zMJ l y cc' maxL' none d' mc' ms' D Y S V A1 as' B post) (hBl : ∀ (a : Array Value) (U : State) (g : JFrame) (mk : MethodId), B U → B (U.calling g mk a)) (hB : ∀ U : State, U.heap = H → s.WarmedH U.vm → B U) (hS : va_S A s.heap H locs) (hAB : ∀ q, A1 q → A q) (hA1 : ∀ q, H.size ≤ q → A1 q) (has : as' = .ref b :: As) (hn : As.length = n) (hsz : ls.size = nL) (hrest : (rest.map fun v => v.category).sum ≤ 8) (hdg : decode cc pc = .ok (.invokespecial index, 3)) (hd : d' + 1 ≤ d) (hf : cells + mc' ≤ mc ∧ slots + ms' ≤ ms) {st : List Value} (hst : st = As.reverse ++ .ref b :: rest)
    (kk : ∀ (v : Option Value) (H1 : Heap) (locs1 : List Loc), post v H1 → H.size ≤ H1.size → (∀ q : Nat, q < H.size → ¬ A1 q → H1[q]? = H[q]?) → va_S A s.heap H1 locs1 → W p l e (zR d mc ms) s m args below meth c H1 locs1 (cells + mc') (slots + ms') Q (F0 m (pc + 3) ls (v.toList ++ rest))) : W p l e (zR d mc ms) s m args below meth c H locs cells slots Q (F0 m pc ls st) := by
  have F0' := F
  obtain ⟨hx, hb, hml, hown, hts, hl, hJ, hA⟩ := F
  obtain ⟨k1, k2, k3, k4, k5, k6, k7⟩ := hc
  have ok : ∀ w ∈ zWS, w.before args s = true := fun w h => hts w (List.mem_cons_of_mem _ h)
  refine z_jok (vx_runI (g := F0 m pc ls st) (bytes := cc') (maxL := maxL') (n := n) (Ts := c0 :: zWS) ⟨hx, hb, hml, hown, hts⟩ hM ⟨⟨rfl, rfl, hd, ?_, z_pay hts k3, List.mem_cons_self, ok _ k3, ok _ k2, k4, z_len k5, ok _ hlink⟩, k6, ok _ k1⟩ ⟨zJP_blind hBl, z_jpre F0' hS hAB hA1 hB has⟩ rfl hn hsz hst (by show 2 * 0 + _ ≤ 8; omega) hdg hf) hS hAB kk
  show 8 + (maxL' + 11) + 37 * d' ≤ 37 * d
  omega
/-- ends -/
theorem z_jiret {v : Int32} (hexec : p.tables.exec = Jvm.exec) (hb : c.code = cc) (hr : meth.sig.returnType = some .int) (hp : post (some (.int v)) H) (hS : va_S A s.heap H locs) (hlocks : meth.locks = false) (h1 : cells ≤ mc) (h2 : slots ≤ ms) (hdg : decode cc pc = .ok (.ireturn, 1)) :
    W p l e R s m args below meth c H locs cells slots (vx_MQ below (zJQ A post) (fun _ _ _ => False) args s mc ms A) (F0 m pc ls [.int v]) := by
  refine W.widen h1 h2 (vx_ret ?_)
  exact W.iret (v := v) hexec hb hr (fun t ht _ => ⟨⟨_, rfl, by rw [ht]; exact hp⟩, hS.F ht⟩) hS.2.2 hdg hlocks
theorem z_jnret {v : Int32} {ty : FieldType} (hexec : p.tables.exec = Jvm.exec) (hb : c.code = cc) (hr : meth.sig.returnType = some ty) (hn : narrow ty (.int v) = .int v) (hp : post (some (.int v)) H) (hS : va_S A s.heap H locs) (hlocks : meth.locks = false) (h1 : cells ≤ mc) (h2 : slots ≤ ms) (hdg : decode cc pc = .ok (.ireturn, 1)) :
    W p l e R s m args below meth c H locs cells slots (vx_MQ below (zJQ A post) (fun _ _ _ => False) args s mc ms A) (F0 m pc ls [.int v]) := by
  refine W.widen h1 h2 (vx_ret ?_)
  exact W.zret (v := v) hexec hb hr hn (fun t ht _ => ⟨⟨_, rfl, by rw [ht]; exact hp⟩, hS.F ht⟩) hS.2.2 hdg hlocks
theorem z_jvret (hexec : p.tables.exec = Jvm.exec) (hb : c.code = cc) (hr : meth.sig.returnType = none) (hp : post none H) (hS : va_S A s.heap H locs) (hlocks : meth.locks = false) (h1 : cells ≤ mc) (h2 : slots ≤ ms) (hdg : decode cc pc = .ok (.return_, 1)) :
    W p l e R s m args below meth c H locs cells slots (vx_MQ below (zJQ A post) (fun _ _ _ => False) args s mc ms A) (F0 m pc ls []) := by
  refine W.widen h1 h2 (vx_ret ?_)
  exact W.vret hexec hb hr (fun t ht _ => ⟨⟨_, rfl, by rw [ht]; exact hp⟩, hS.F ht⟩) hS.2.2 hdg hlocks
theorem z_jaret {q : Nat} {ty : FieldType} (hexec : p.tables.exec = Jvm.exec) (hb : c.code = cc) (hr : meth.sig.returnType = some ty) (hty : (∃ C, ty = .object C) ∨ ∃ t, ty = .array t) (hp : post (some (.ref q)) H) (hS : va_S A s.heap H locs) (hlocks : meth.locks = false) (h1 : cells ≤ mc) (h2 : slots ≤ ms) (hdg : decode cc pc = .ok (.areturn, 1)) :
    W p l e R s m args below meth c H locs cells slots (vx_MQ below (zJQ A post) (fun _ _ _ => False) args s mc ms A) (F0 m pc ls [.ref q]) := by
  refine W.widen h1 h2 (vx_ret ?_)
  exact W.aret hexec hb hr hty (Or.inr ⟨_, rfl⟩) (fun t ht _ => ⟨⟨_, rfl, by rw [ht]; exact hp⟩, hS.F ht⟩) hS.2.2 hdg hlocks
end ZJM
