/-! CALLS AT A SMALLER WORLD, and the law's own constants -/
theorem zS1.narrow {len : Nat} {byt : Nat → Int32} {q v : Nat} {A B : Nat → Prop} {U : State} {H : Heap} (h : zS1 len byt q v A U H) (hAB : ∀ q, B q → A q) : zS1 len byt q v B U H :=
  ⟨va_O.narrow h.1 hAB, va_OF.narrow h.2.1 hAB, va_OF.narrow h.2.2.1 hAB, va_T.narrow h.2.2.2 hAB⟩
theorem zK.narrow {D : va_G} {Y : Nat → ClassId} {S V : Nat → Nat} {A B : Nat → Prop} {U : State} {H : Heap} (h : zK D Y S V A U H) (hAB : ∀ q, B q → A q) : zK D Y S V B U H := by
  obtain ⟨h1, h2, h3, h4, h5, h6, h7, h8, h9, h10, h11⟩ := h
  exact ⟨h1, h2, h3, fun i hi => (h4 i hi).narrow hAB, vx_Zq.narrow h5 hAB, vx_Zq.narrow h6 hAB, va_Z.narrow h7 hAB, va_Zq.narrow h8 hAB, h9, h10, h11⟩
/-- pairs of names of which the first is not of the second's kind -/
def zNcs : List (String × String) := [("java/lang/IllegalArgumentException", "java/lang/IllegalStateException"), ("java/lang/IllegalStateException", "java/lang/IllegalArgumentException"), ("java/lang/IllegalArgumentException", "java/lang/IndexOutOfBoundsException"), ("java/lang/IndexOutOfBoundsException", "java/lang/IllegalArgumentException"), ("java/lang/IllegalStateException", "java/lang/IndexOutOfBoundsException"), ("java/lang/IndexOutOfBoundsException", "java/lang/IllegalStateException")]
def zKl (D : va_G) (Y : Nat → ClassId) (S V : Nat → Nat) (A : Nat → Prop) (cL : ClassId) (U : State) (H : Heap) : Prop := zK D Y S V A U H ∧ va_K D vwCl [(cL, .long)] U ∧ ∀ q ∈ zNcs, va_Nc q.1 q.2 U
theorem zKl.go {D : va_G} {Y : Nat → ClassId} {S V : Nat → Nat} {A : Nat → Prop} {cL : ClassId} {u U : State} {H H1 : Heap} (h : zKl D Y S V A cL u H) (hW : u.WarmedH U.vm) (hq : ∀ a : Nat, a < H.size → ¬ A a → H1[a]? = H[a]?) : zKl D Y S V A cL U H1 :=
  ⟨h.1.go hW hq, va_K.moved hW.alike h.2.1, fun q hq => (h.2.2 q hq).moved hW.alike⟩
theorem zKl.narrow {D : va_G} {Y : Nat → ClassId} {S V : Nat → Nat} {A B : Nat → Prop} {cL : ClassId} {U : State} {H : Heap} (h : zKl D Y S V A cL U H) (hAB : ∀ q, B q → A q) : zKl D Y S V B cL U H := ⟨h.1.narrow hAB, h.2⟩
theorem zKl.same {D : va_G} {Y : Nat → ClassId} {S V : Nat → Nat} {A : Nat → Prop} {cL : ClassId} {u U : State} {H : Heap} (h : zKl D Y S V A cL u H) (hv : U.vm = u.vm) : zKl D Y S V A cL U H := by
  have hvm : u.vm.Alike U.vm := by rw [hv]; exact Vm.Alike.refl u.vm
  exact ⟨h.1.same hv, va_K.moved hvm h.2.1, fun q hq => (h.2.2 q hq).moved hvm⟩
/-- the cell of the law's row of one long -/
def zOw (D : va_G) (cL : ClassId) (o : Nat) (f : Nat → Int64) (H : Heap) : Prop := va_at D vwCl (o, .inl (cL, 1, .inr (.inl f))) H
section ZS
variable {p : Program} {l : Launch} {e : Env} {s : State} {m : MethodId} {args : Array Value} {below : List Frame} {meth : Method} {c : Code} {H : Heap} {locs : List Loc} {cells slots : Nat} {Q : State → Prop}
variable {cc : ByteArray} {pc : Nat} {ls : Array Slot} {rest : List Value} {D : va_G} {Y : Nat → ClassId} {S V : Nat → Nat} {G : Nat → Nat → Nat} {A A1 : Nat → Prop} {w : Nat} {T : zT} {c0 : Cond} {d mc ms nL : Nat}
theorem W.into {R : Room} {g : JFrame} {Q' : State → Prop} (h : ∀ t, Q t → Q' t) (k : W p l e R s m args below meth c H locs cells slots Q g) : W p l e R s m args below meth c H locs cells slots Q' g := fun T hT X => by
  obtain ⟨t, a, b⟩ := k T hT X
  exact ⟨t, a, h t b⟩
/-- what stands at a call at the smaller world A1 -/
def zFs (w d mc ms : Nat) (p : Program) (l : Launch) (s : State) (m : MethodId) (args : Array Value) (c : Code) (cc : ByteArray) (nL : Nat) (own : String) (c0 : Cond) (D : va_G) (Y : Nat → ClassId) (S V : Nat → Nat) (G : Nat → Nat → Nat) (A A1 : Nat → Prop) (H : Heap) : Prop :=
  (p.tables.exec = Jvm.exec ∧ c.code = cc ∧ c.maxLocals = nL ∧ s.vm.findClass own = some m.cls ∧ (∀ w ∈ c0 :: zWS, w.before args s = true) ∧ l.flags = flags0) ∧ zG w G A1 ∧ zK D Y S V A s s.heap ∧ (∀ q, A1 q → A q) ∧ ∀ q, H.size ≤ q → A1 q
theorem z_preS {own : String} (F : zFs w d mc ms p l s m args c cc nL own c0 D Y S V G A A1 H) (hP : zP w D Y G T H) (hS : va_S A s.heap H locs) {As as' : List Value} (has : as' = As) : ∀ U : State, U.heap = H → s.WarmedH U.vm → va_Pc as' (zB w D Y S V G A1 T) As.toArray U := by
  subst has
  intro U hU hW
  obtain ⟨-, -, hK, hAB, hA⟩ := F
  exact ⟨rfl, by rw [hU]; exact (hK.go hW hS.2.1).narrow hAB, by rw [hU]; exact hP, by rw [hU]; exact hA⟩
variable {y : MethodName} {cc' : ByteArray} {maxL' n d' mc' ms' index : Nat} {ret' : Option FieldType} {as : (Nat → Nat → Nat) → (Nat → Nat) → List Value} {res : (Nat → Nat → Nat) → Option Value ⊕ String} {T' : zT} {own : String} {As : List Value}
theorem z_runVs (F : zFs w d mc ms p l s m args c cc nL own c0 D Y S V G A A1 H) (hc : zcal y cc' maxL' ret' n) (hlink : Cond.methodLink own index y ∈ zWS) (hC : zC w y cc' maxL' ret' d' mc' ms' as T res T') (hP : zP w D Y G T H) (hS : va_S A s.heap H locs) {κ ι : Nat} (hV : zV w κ ι) {ci N : Nat} {TT : u_T} {fs : List Value} (he : zcell w Y G T κ ι = .inr (ci, fs)) (hcl : vwCl[ci]? = some (y.cls, TT, N)) (has : as G S = .ref (G κ ι) :: As) (hn : As.length = n) (hsz : ls.size = nL) (hrest : (rest.map fun v => v.category).sum ≤ 8) (hdg : decode cc pc = .ok (.invokevirtual index, 3)) (hd : d' + 1 ≤ d) (hf : cells + mc' ≤ mc ∧ slots + ms' ≤ ms) {st : List Value} (hst : st = As.reverse ++ .ref (G κ ι) :: rest) :
    vx_Run p l e (zR d mc ms) s m args below meth c H locs cells slots mc' ms' (F0 m pc ls st) rest (zQ w D Y G A1 (res G) T' (Value.ref (G κ ι) :: As).toArray) (zX w D Y G A1 (res G) T') A1 := by
  have F0' := F
  obtain ⟨⟨hx, hb, hml, hown, hts, hl⟩, hG, hK, hAB, hA⟩ := F
  obtain ⟨k1, k2, k3, k4, k5, k6, k7⟩ := hc
  have ok : ∀ w ∈ zWS, w.before args s = true := fun w h => hts w (List.mem_cons_of_mem _ h)
  refine vx_runV (C := y.cls) (ret := ret') (bytes := cc') (maxL := maxL') (n := n) (Ts := c0 :: zWS) ⟨hx, hb, hml, hown, hts⟩ (hC l D Y S V G A1 hl hG) ⟨⟨rfl, rfl, hd, ?_, z_pay hts k4, List.mem_cons_self, ok _ k4, ok _ k3, k5, z_len k6, ok _ hlink⟩, ok _ k1, ok _ k2⟩ ⟨zB_blind, va_recv hK.1 (hP.one hV he) hcl (q0 := 0) rfl, z_preS F0' hP hS has⟩ rfl hn hsz hst (by show 2 * 0 + _ ≤ 8; omega) hdg hf
  show 8 + (maxL' + 11) + 37 * d' ≤ 37 * d
  omega
/-- behind a call that returned -/
theorem z_oks {R : Room} {a : Array Value} {v : Option Value} {st0 : List Value} (hr : vx_Run p l e R s m args below meth c H locs cells slots mc' ms' (F0 m pc ls st0) rest (zQ w D Y G A1 (.inl v) T' a) (zX w D Y G A1 (.inl v) T') A1) (hS : va_S A s.heap H locs) (hAB : ∀ q, A1 q → A q)
    (kk : ∀ (H1 : Heap) (locs1 : List Loc), zP w D Y G T' H1 → H.size ≤ H1.size → (∀ q : Nat, q < H.size → ¬ A1 q → H1[q]? = H[q]?) → va_S A s.heap H1 locs1 → W p l e R s m args below meth c H1 locs1 (cells + mc') (slots + ms') Q (F0 m (pc + 3) ls (v.toList ++ rest))) : W p l e R s m args below meth c H locs cells slots Q (F0 m pc ls st0) := by
  intro T hT X
  rcases hr T hT X with ⟨v', st₀, t, T1, L, h0, X', hL, e1, e2, ⟨⟨v2, hv, ho, hp⟩, hF⟩, st⟩ | ⟨q, st₀, t, T1, L, E, ce, h0, X', hL, e1, e2, ⟨⟨hE, -⟩, -⟩, -⟩
  · cases hv
    cases ho
    obtain ⟨k1, k2, k3⟩ := vx_keep h0 e1 hS (fun q _ h => hAB q h) hAB hL hF
    obtain ⟨t2, a1, b1⟩ := kk T1.heap (locs ++ L) (by rw [e1]; exact hp) k1 k2 k3 T1 rfl X'
    exact ⟨t2, st t2 a1, b1⟩
  · cases hE
/-- behind a call that threw -/
theorem z_exs {R : Room} {a : Array Value} {E : String} {st0 : List Value} (hr : vx_Run p l e R s m args below meth c H locs cells slots mc' ms' (F0 m pc ls st0) rest (zQ w D Y G A1 (.inr E) T' a) (zX w D Y G A1 (.inr E) T') A1) (hS : va_S A s.heap H locs) (hAB : ∀ q, A1 q → A q)
    (kx : ∀ (ce : Cell) (q9 : Addr) (H1 : Heap) (locs1 : List Loc), zP w D Y G T' H1 → H.size ≤ H1.size → (∀ q : Nat, q < H.size → ¬ A1 q → H1[q]? = H[q]?) → va_S A s.heap H1 locs1 → H1[q9]? = some ce → ce.vm = .none → s.vm.findClass E = some ce.cls → vx_W p l e R s m args below meth c H1 locs1 (cells + mc') (slots + ms') Q (F0 m pc ls rest) q9) : W p l e R s m args below meth c H locs cells slots Q (F0 m pc ls st0) := by
  intro T hT X
  rcases hr T hT X with ⟨v', st₀, t, T1, L, h0, X', hL, e1, e2, ⟨⟨v2, hv, ho, hp⟩, hF⟩, st⟩ | ⟨q, st₀, t, T1, L, E', ce, h0, X', hL, e1, e2, ⟨⟨hE, hp⟩, hF⟩, hce, hcv, hcl, st⟩
  · cases hv
  · cases hE
    obtain ⟨k1, k2, k3⟩ := vx_keep h0 e1 hS (fun q _ h => hAB q h) hAB hL hF
    obtain ⟨t2, a1, b1⟩ := kx ce q T1.heap (locs ++ L) (by rw [e1]; exact hp) k1 k2 k3 (by rw [e1]; exact hce) hcv hcl T1 rfl X'
    exact ⟨t2, st.trans a1, b1⟩
theorem zP.frame {H1 : Heap} (h : zP w D Y G T H) (hq : ∀ κ ι, zV w κ ι → H1[G κ ι]? = H[G κ ι]?) : zP w D Y G T H1 := fun κ ι hV => (h κ ι hV).kept (hq κ ι hV)
theorem zP.lt (h : zP w D Y G T H) {κ ι : Nat} (hV : zV w κ ι) : G κ ι < H.size := (h κ ι hV).lt
end ZS
/-! A METHOD OF THE LAW: it asks the class, and catches -/
def zpost (v : Int32 ⊕ Nat) (code : Nat → Int32) (k : Int32) (x : Int64) : Prop := match v with
  | .inl r => k = 0 ∧ x = r.toInt64
  | .inr n => k = code n
def zLB (D : va_G) (Y : Nat → ClassId) (S V : Nat → Nat) (G : Nat → Nat → Nat) (A : Nat → Prop) (cL : ClassId) (o : Nat) (f : Nat → Int64) (T : zT) : State → Prop := fun U => zKl D Y S V A cL U U.heap ∧ zP 0 D Y G T U.heap ∧ zOw D cL o f U.heap ∧ ∀ q, U.heap.size ≤ q → A q
def zLQ (D : va_G) (Y : Nat → ClassId) (G : Nat → Nat → Nat) (A : Nat → Prop) (cL : ClassId) (o : Nat) (v : Int32 ⊕ Nat) (code : Nat → Int32) (T' : zT) : Array Value → State → Outcome → State → Prop := fun _ st oc t => (∃ (k : Int32) (f' : Nat → Int64), oc = .returned (some (.int k)) ∧ zP 0 D Y G T' t.heap ∧ zOw D cL o f' t.heap ∧ zpost v code k (f' 0)) ∧ va_F A st t
def zCl (y : MethodName) (cc : ByteArray) (maxL : Nat) (hh : List (Nat × Nat × Nat × Nat)) (d mc ms : Nat) (as : (Nat → Nat → Nat) → Nat → List Value) (T : zT) (v : Int32 ⊕ Nat) (code : Nat → Int32) (T' : zT) : Prop :=
  ∀ (l : Launch) (D : va_G) (Y : Nat → ClassId) (S V : Nat → Nat) (G : Nat → Nat → Nat) (A : Nat → Prop) (cL : ClassId) (o : Nat) (f : Nat → Int64), l.flags = flags0 → zG 0 G A → A o → (∀ κ ι, zV 0 κ ι → G κ ι ≠ o) →
    vx_Met l y (Cond.codeWith y cc maxL (some .int) hh :: zWS) (zR d mc ms) (va_Pc (as G o) (zLB D Y S V G A cL o f T)) (zLQ D Y G A cL o v code T') (fun _ _ _ => False) mc ms A
theorem zLB_blind {D : va_G} {Y : Nat → ClassId} {S V : Nat → Nat} {G : Nat → Nat → Nat} {A : Nat → Prop} {cL : ClassId} {o : Nat} {f : Nat → Int64} {T : zT} {as : List Value} : FrameBlind (va_Pc as (zLB D Y S V G A cL o f T)) := fun a U g mk q => by
  obtain ⟨q0, q1, q2, q3, q4⟩ := q
  exact ⟨q0, zKl.same (U := U.calling g mk a) q1 rfl, q2, q3, q4⟩
section ZLE
variable {p : Program} {l : Launch} {e : Env} {R : Room} {s : State} {m : MethodId} {args : Array Value} {below : List Frame} {meth : Method} {c : Code} {H : Heap} {locs : List Loc} {cells slots : Nat} {Q : State → Prop}
variable {cc : ByteArray} {pc : Nat} {ls : Array Slot} {rest : List Value} {D : va_G} {Y : Nat → ClassId} {S V : Nat → Nat} {G : Nat → Nat → Nat} {A A1 : Nat → Prop} {w : Nat} {T T' : zT} {cL : ClassId} {o mc ms : Nat} {f : Nat → Int64}
theorem zOL {Y : Nat → ClassId} (hP : zP w D Y G T H) (hO : zOw D cL o f H) (hG : zG w G A) (ho : A o) (hGo : ∀ κ ι, zV w κ ι → G κ ι ≠ o) : va_P D vwCl ((o, .inl (cL, 1, .inr (.inl f))) :: zL w Y G T) H ∧ va_D A ((o, .inl (cL, 1, .inr (.inl f))) :: zL w Y G T) := by
  refine ⟨fun k q hk => ?_, fun i j p q hi hj hpq => ?_, fun k q hk => ?_⟩
  · match k, hk with
    | 0, hk => cases hk; exact hO
    | k + 1, hk => exact hP.list k q hk
  · match i, j, hi, hj with
    | 0, 0, _, _ => rfl
    | 0, j + 1, hi, hj =>
      cases hi
      obtain ⟨κ, ι, -, hV, rfl⟩ := zL_at (show (zL w Y G T)[j]? = some q from hj)
      exact absurd hpq.symm (hGo κ ι hV)
    | i + 1, 0, hi, hj =>
      cases hj
      obtain ⟨κ, ι, -, hV, rfl⟩ := zL_at (show (zL w Y G T)[i]? = some p from hi)
      exact absurd hpq (hGo κ ι hV)
    | i + 1, j + 1, hi, hj => exact congrArg (· + 1) ((zG.list (Y := Y) (T := T) hG).1 i j p q hi hj hpq)
  · match k, hk with
    | 0, hk => cases hk; exact ho
    | k + 1, hk => exact (zG.list (Y := Y) (T := T) hG).2 k q hk
theorem z_lastO (hexec : p.tables.exec = Jvm.exec) (hb : c.code = cc) (hK : va_K D vwCl [(cL, .long)] s) (hP : zP w D Y G T H) (hO : zOw D cL o f H) (hG : zG w G A) (ho : A o) (hGo : ∀ κ ι, zV w κ ι → G κ ι ≠ o) (hS : va_S A s.heap H locs) {x : Int64} (hdg : decode cc pc = .ok (.lastore, 1))
    (kk : ∀ (H1 : Heap) (locs1 : List Loc) (f' : Nat → Int64), f' 0 = x → zP w D Y G T H1 → zOw D cL o f' H1 → va_S A s.heap H1 locs1 → W p l e R s m args below meth c H1 locs1 cells slots Q (F0 m (pc + 1) ls rest)) : W p l e R s m args below meth c H locs cells slots Q (F0 m pc ls (.long x :: .int 0 :: .ref o :: rest)) := by
  obtain ⟨h1, h2⟩ := zOL hP hO hG ho hGo
  refine va_last hexec hb hK h1 h2 hS 0 0 rfl rfl (zin_i (by decide)) hdg (fun H1 locs1 g1 _ g3 => ?_)
  refine kk H1 locs1 _ ?_ (fun κ ι hV => ?_) (g1 0 _ rfl) g3
  · show vp_updL f 0 x 0 = x
    unfold vp_updL
    first | rfl | simp
  · obtain ⟨k, -, hk⟩ := zL_id (Y := Y) (G := G) (T := T) hV
    exact g1 (k + 1) _ hk
theorem z_lend {v : Int32 ⊕ Nat} {code : Nat → Int32} {k : Int32} {f' : Nat → Int64} (hexec : p.tables.exec = Jvm.exec) (hb : c.code = cc) (hr : meth.sig.returnType = some .int) (hP : zP 0 D Y G T' H) (hO : zOw D cL o f' H) (hp : zpost v code k (f' 0)) (hS : va_S A s.heap H locs) (hlocks : meth.locks = false) (h1 : cells ≤ mc) (h2 : slots ≤ ms) (hdg : decode cc pc = .ok (.ireturn, 1)) :
    W p l e R s m args below meth c H locs cells slots (vx_MQ below (zLQ D Y G A cL o v code T') (fun _ _ _ => False) args s mc ms A) (F0 m pc ls [.int k]) := by
  refine W.widen h1 h2 (vx_ret ?_)
  exact W.iret (v := k) hexec hb hr (fun t ht _ => ⟨⟨k, f', rfl, by rw [ht]; exact hP, by rw [ht]; exact hO, hp⟩, hS.F ht⟩) hS.2.2 hdg hlocks
end ZLE
