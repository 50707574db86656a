/-! WORLDS: a contract of the class's cells alone, in a world with an array of the law's own beside them; rows of the law's own methods -/
theorem zV.up {w κ ι : Nat} (h : zV 0 κ ι) : zV w κ ι := by
  rcases h with ⟨h1, h2 | ⟨-, h3⟩⟩ | h
  · exact Or.inl ⟨h1, Or.inl h2⟩
  · exact absurd rfl h3
  · exact Or.inr h
theorem zV.ne {κ ι : Nat} (h : zV 0 κ ι) : ¬ (κ = 0 ∧ ι = 8) := by
  rcases h with ⟨h1, h2 | ⟨-, h3⟩⟩ | ⟨h1, h2, h3⟩
  · omega
  · exact absurd rfl h3
  · omega
theorem zV.cases {w κ ι : Nat} (h : zV w κ ι) : zV 0 κ ι ∨ (κ = 0 ∧ ι = 8) := by
  rcases h with ⟨h1, h2 | ⟨h2, h3⟩⟩ | h
  · exact Or.inl (Or.inl ⟨h1, Or.inl h2⟩)
  · exact Or.inr ⟨h1, h2⟩
  · exact Or.inl (Or.inr h)
theorem zcell_w {w w' : Nat} {Y : Nat → ClassId} {G : Nat → Nat → Nat} {T : zT} {κ ι : Nat} (h : ¬ (κ = 0 ∧ ι = 8)) : zcell w Y G T κ ι = zcell w' Y G T κ ι := by
  unfold zcell
  by_cases h0 : κ = 0
  · have h8 : ¬ ι = 8 := fun e => h ⟨h0, e⟩
    simp only [if_pos h0, if_neg h8]
  · simp only [if_neg h0]
/-- what stands behind a call that doesn't know the law's own array -/
def zk (T T' : zT) : zT := (T'.1, fun a b => if a = 0 ∧ b = 8 then T.2 0 8 else T'.2 a b)
theorem zk_8 {T T' : zT} : (zk T T').2 0 8 = T.2 0 8 := by
  show (if (0 : Nat) = 0 ∧ (8 : Nat) = 8 then T.2 0 8 else T'.2 0 8) = _
  exact if_pos ⟨rfl, rfl⟩
theorem zk_1 {T T' : zT} : (zk T T').1 = T'.1 := rfl
theorem zk_2 {T T' : zT} {κ ι : Nat} (h : ¬ (κ = 0 ∧ ι = 8)) : (zk T T').2 κ ι = T'.2 κ ι := if_neg h
theorem zP.down {w : Nat} {D : va_G} {Y : Nat → ClassId} {G : Nat → Nat → Nat} {T : zT} {H : Heap} (h : zP w D Y G T H) : zP 0 D Y G T H := fun κ ι hV => by
  rw [zcell_w (w' := w) hV.ne]
  exact h κ ι hV.up
theorem zP.up {w : Nat} {D : va_G} {Y : Nat → ClassId} {G : Nat → Nat → Nat} {T T' : zT} {H H' : Heap} (h : zP 0 D Y G T' H') (h0 : zP w D Y G T H) (hq : zV w 0 8 → H'[G 0 8]? = H[G 0 8]?) : zP w D Y G (zk T T') H' := fun κ ι hV => by
  rcases hV.cases with h1 | ⟨rfl, rfl⟩
  · rw [zcell_congr (T := T') (T' := zk T T') (κ := κ) (ι := ι) (fun _ => rfl) (zk_2 h1.ne), zcell_w (w' := 0) h1.ne]
    exact h κ ι h1
  · have e : zcell w Y G (zk T T') 0 8 = zcell w Y G T 0 8 := by
      show (.inl (Y 0, w, .inl ((zk T T').2 0 8)) : va_E) = .inl (Y 0, w, .inl (T.2 0 8))
      rw [zk_8]
    rw [e]
    exact (h0 0 8 hV).kept (hq hV)
/-- a contract by its head word -/
def zCh (w : Nat) (y : MethodName) (ch : Cond) (d mc ms : Nat) (as : (Nat → Nat → Nat) → (Nat → Nat) → List Value) (T : zT) (res : (Nat → Nat → Nat) → Option Value ⊕ String) (T' : zT) : Prop :=
  ∀ (l : Launch) (D : va_G) (Y : Nat → ClassId) (S V : Nat → Nat) (G : Nat → Nat → Nat) (A : Nat → Prop), l.flags = flags0 → zG w G A →
    vx_Met l y (ch :: zWS) (zR d mc ms) (va_Pc (as G S) (zB w D Y S V G A T)) (zQ w D Y G A (res G) T') (zX w D Y G A (res G) T') mc ms A
theorem zS1.narrow {len : Nat} {byt : Nat → Int32} {q v : Nat} {A B : Nat → Prop} {U : State} {H : Heap} (h : zS1 len byt q v A U H) (hAB : ∀ q, B q → A q) : zS1 len byt q v B U H :=
  ⟨va_O.narrow h.1 hAB, va_OF.narrow h.2.1 hAB, va_OF.narrow h.2.2.1 hAB, va_T.narrow h.2.2.2 hAB⟩
theorem zK.narrow {D : va_G} {Y : Nat → ClassId} {S V : Nat → Nat} {A B : Nat → Prop} {U : State} {H : Heap} (h : zK D Y S V A U H) (hAB : ∀ q, B q → A q) : zK D Y S V B U H := by
  obtain ⟨h1, h2, h3, h4, h5, h6, h7, h8, h9, h10, h11⟩ := h
  exact ⟨h1, h2, h3, fun i hi => (h4 i hi).narrow hAB, vx_Zq.narrow h5 hAB, vx_Zq.narrow h6 hAB, va_Z.narrow h7 hAB, va_Zq.narrow h8 hAB, h9, h10, h11⟩
theorem zCh.lift0 {w : Nat} {y : MethodName} {ch : Cond} {d mc ms : Nat} {as : (Nat → Nat → Nat) → (Nat → Nat) → List Value} {T : zT} {res : (Nat → Nat → Nat) → Option Value ⊕ String} {T' : zT} (hw : w ≠ 0) (h : zCh 0 y ch d mc ms as T res T') : zCh w y ch d mc ms as T res (zk T T') := by
  intro l D Y S V G A hl hG
  obtain ⟨A1, eA⟩ : ∃ z : Nat → Prop, z = fun q => A q ∧ q ≠ G 0 8 := ⟨_, rfl⟩
  have hAB : ∀ q, A1 q → A q := fun q h => by rw [eA] at h; exact h.1
  have h8 : ¬ A1 (G 0 8) := fun h => by rw [eA] at h; exact h.2 rfl
  have hne : ∀ κ ι, zV 0 κ ι → G κ ι ≠ G 0 8 := fun κ ι hV e => hV.ne (hG.1 κ ι 0 8 hV.up (zV_8 hw) e)
  have hG1 : zG 0 G A1 := ⟨fun κ ι κ' ι' h1 h2 => hG.1 κ ι κ' ι' h1.up h2.up, fun κ ι hV => by rw [eA]; exact ⟨hG.2 κ ι hV.up, hne κ ι hV⟩⟩
  have hM := h l D Y S V G A1 hl hG1
  intro p e ha hc hk s m args below hf happ hpre _
  obtain ⟨e1, hK, hP, hA⟩ := hpre
  have hlt : G 0 8 < s.heap.size := (hP 0 8 (zV_8 hw)).lt
  obtain ⟨n, o, h1, h2, h3, hQ⟩ := hM p e ha hc hk s m args below hf happ ⟨e1, hK.narrow hAB, hP.down, fun q hq => by rw [eA]; exact ⟨hA q hq, fun e => by omega⟩⟩ trivial
  refine ⟨n, o, h1, h2, h3, ?_⟩
  have hFF : ∀ {t : State}, va_F A1 s t → va_F A s t := fun hF => ⟨hF.1, fun q hq hn => hF.2 q hq (fun z => hn (hAB q z))⟩
  have hUP : ∀ {t : State}, zP 0 D Y G T' t.heap → va_F A1 s t → zP w D Y G (zk T T') t.heap := fun hp hF => hp.up hP (fun _ => hF.2 _ hlt h8)
  rcases hQ with ⟨⟨⟨v, hv, ho, hp⟩, hF⟩, L, hE, hL⟩ | ⟨q, ho, E, ce, L, ⟨⟨hE, hp⟩, hF⟩, g1, g2, g3, g4, g5, hL⟩
  · exact Or.inl ⟨⟨⟨v, hv, ho, hUP hp hF⟩, hFF hF⟩, L, hE, fun z hz => hAB _ (hL z hz)⟩
  · exact Or.inr ⟨q, ho, E, ce, L, ⟨⟨hE, hUP hp hF⟩, hFF hF⟩, g1, g2, g3, g4, g5, fun z hz => hAB _ (hL z hz)⟩
theorem zC.lift {w : Nat} {y : MethodName} {cc : ByteArray} {maxL : Nat} {ret : Option FieldType} {d mc ms : Nat} {as : (Nat → Nat → Nat) → (Nat → Nat) → List Value} {T : zT} {res : (Nat → Nat → Nat) → Option Value ⊕ String} {T' : zT} (h : zC 0 y cc maxL ret d mc ms as T res T') (hw : w ≠ 0) : zC w y cc maxL ret d mc ms as T res (zk T T') :=
  zCh.lift0 (ch := Cond.code y cc maxL ret) hw h
theorem zCh.lift {w : Nat} {y : MethodName} {ch : Cond} {d mc ms : Nat} {as : (Nat → Nat → Nat) → (Nat → Nat) → List Value} {T : zT} {res : (Nat → Nat → Nat) → Option Value ⊕ String} {T' : zT} (h : zCh 0 y ch d mc ms as T res T') (hw : w ≠ 0) : zCh w y ch d mc ms as T res (zk T T') := zCh.lift0 hw h
/-- what a call that must not throw gave -/
def zbi {α β : Type} (o : Option ((α ⊕ Nat) × zT)) (k : α → zT → Option β) : Option β := match o with
  | some (.inl a, T) => k a T
  | _ => none
theorem zbi_i {α β : Type} {o : Option ((α ⊕ Nat) × zT)} {k : α → zT → Option β} {z : β} (h : zbi o k = some z) : ∃ a T, o = some (.inl a, T) ∧ k a T = some z := by
  unfold zbi at h
  match o, h with
  | some (.inl a, T), h => exact ⟨a, T, rfl, h⟩
theorem zbi_s {α β : Type} {a : α} {T : zT} {k : α → zT → Option β} : zbi (some (.inl a, T)) k = k a T := rfl
/-- what a call with its catches gave -/
def zcat (cs : List (Nat × Int32)) (o : Option ((Int32 ⊕ Nat) × zT)) : Option (Int32 × zT) := match o with
  | some (.inl a, T) => some (a, T)
  | some (.inr n, T) => (cs.lookup n).map fun k => (k, T)
  | none => none
theorem zlook {n : Nat} {v : Int32} : ∀ {cs : List (Nat × Int32)}, cs.lookup n = some v → (n, v) ∈ cs
  | [], h => by cases h
  | (a, b) :: cs, h => by
    rw [List.lookup_cons] at h
    by_cases e : n = a
    · subst e
      simp only [beq_self_eq_true] at h
      cases h
      exact List.mem_cons_self
    · rw [show (n == a) = false from by simpa using e] at h
      exact List.mem_cons_of_mem _ (zlook h)
theorem zcat_i {cs : List (Nat × Int32)} {o : Option ((Int32 ⊕ Nat) × zT)} {v : Int32} {T : zT} (h : zcat cs o = some (v, T)) : o = some (.inl v, T) ∨ ∃ n, o = some (.inr n, T) ∧ (n, v) ∈ cs := by
  unfold zcat at h
  match o, h with
  | some (.inl a, T1), h => cases h; exact Or.inl rfl
  | some (.inr n, T1), h =>
    refine Or.inr ⟨n, ?_⟩
    dsimp only at h
    cases hk : cs.lookup n with
    | none => rw [hk] at h; cases h
    | some k =>
      rw [hk] at h
      cases h
      exact ⟨rfl, zlook hk⟩
def zcaw (y : MethodName) (cc : ByteArray) (maxL : Nat) (hh : List (Nat × Nat × Nat × Nat)) (n : Nat) : Prop := Cond.static y ∈ zWS ∧ Cond.initialized y.cls ∈ zWS ∧ Cond.codeWith y cc maxL (some .int) hh ∈ zWS ∧ (y.cls ≠ "java/lang/invoke/MethodHandle" ∧ y.cls ≠ "java/lang/invoke/VarHandle") ∧ (parseMethodDescriptor y.desc).map (fun d => d.parameters.length) = some n ∧ maxL ≤ 18
section ZLM
variable {p : Program} {l : Launch} {e : Env} {s : State} {m : MethodId} {args : Array Value} {below : List Frame} {meth : Method} {c : Code} {H : Heap} {locs : List Loc} {cells slots : Nat} {Q : State → Prop}
variable {cc : ByteArray} {pc : Nat} {ls : Array Slot} {rest : List Value} {D : va_G} {Y : Nat → ClassId} {S V : Nat → Nat} {G : Nat → Nat → Nat} {A : Nat → Prop} {w : Nat} {T : zT} {c0 : Cond} {d mc ms nL : Nat} {R : Room}
variable {y : MethodName} {cc' : ByteArray} {maxL' n d' mc' ms' index : Nat} {as : (Nat → Nat → Nat) → (Nat → Nat) → List Value} {res : (Nat → Nat → Nat) → Option Value ⊕ String} {T' : zT} {own : String} {As : List Value}
theorem z_runSW {hh : List (Nat × Nat × Nat × Nat)} (F : zF w d mc ms p l s m args c cc nL own c0 D Y S V G A) (hc : zcaw y cc' maxL' hh n) (hlink : Cond.methodLink own index y ∈ zWS) (hC : zCh w y (Cond.codeWith y cc' maxL' (some .int) hh) d' mc' ms' as T res T') (hP : zP w D Y G T H) (hS : va_S A s.heap H locs) (has : as G S = As) (hn : As.length = n) (hsz : ls.size = nL) (hrest : (rest.map fun v => v.category).sum ≤ 8) (hdg : decode cc pc = .ok (.invokestatic index, 3)) (hd : d' + 1 ≤ d) (hf : cells + mc' ≤ mc ∧ slots + ms' ≤ ms) {st : List Value} (hst : st = As.reverse ++ rest) :
    vx_Run p l e (zR d mc ms) s m args below meth c H locs cells slots mc' ms' (F0 m pc ls st) rest (zQ w D Y G A (res G) T' As.toArray) (zX w D Y G A (res G) T') A := by
  have F0' := F
  obtain ⟨hx, hb, hml, hown, hts, hl, hG, hK, hA⟩ := F
  obtain ⟨k1, k2, k3, k4, k5, k6⟩ := hc
  have ok : ∀ w ∈ zWS, w.before args s = true := fun w h => hts w (List.mem_cons_of_mem _ h)
  refine vx_runSX (ret := some .int) (bytes := cc') (maxL := maxL') (n := n) (hh := hh) (Ts := c0 :: zWS) ⟨hx, hb, hml, hown, hts⟩ (hC l D Y S V G A hl hG)
    ⟨⟨rfl, rfl, hd, ?_, z_pay hts k3, List.mem_cons_self⟩, ok _ k3, ok _ k2, k4, z_len k5, ok _ hlink, ok _ k1⟩ ⟨zB_blind, z_pre F0' hP hS has⟩ rfl hn hsz hst (by show 2 * 0 + _ ≤ 8; omega) hdg hf
  show 8 + (maxL' + 11) + 37 * d' ≤ 37 * d
  omega
/-- a callee with many locals -/
def zcas2 (y : MethodName) (cc : ByteArray) (maxL : Nat) (ret : Option FieldType) (n : Nat) : Prop := Cond.static y ∈ zWS ∧ Cond.initialized y.cls ∈ zWS ∧ Cond.code y cc maxL ret ∈ zWS ∧ (y.cls ≠ "java/lang/invoke/MethodHandle" ∧ y.cls ≠ "java/lang/invoke/VarHandle") ∧ (parseMethodDescriptor y.desc).map (fun d => d.parameters.length) = some n ∧ maxL ≤ 55
theorem z_runS2 {ret' : Option FieldType} (F : zF w d mc ms p l s m args c cc nL own c0 D Y S V G A) (hc : zcas2 y cc' maxL' ret' n) (hlink : Cond.methodLink own index y ∈ zWS) (hC : zC w y cc' maxL' ret' d' mc' ms' as T res T') (hP : zP w D Y G T H) (hS : va_S A s.heap H locs) (has : as G S = As) (hn : As.length = n) (hsz : ls.size = nL) (hrest : (rest.map fun v => v.category).sum ≤ 8) (hdg : decode cc pc = .ok (.invokestatic index, 3)) (hd : d' + 2 ≤ d) (hf : cells + mc' ≤ mc ∧ slots + ms' ≤ ms) {st : List Value} (hst : st = As.reverse ++ rest) :
    vx_Run p l e (zR d mc ms) s m args below meth c H locs cells slots mc' ms' (F0 m pc ls st) rest (zQ w D Y G A (res G) T' As.toArray) (zX w D Y G A (res G) T') A := by
  have F0' := F
  obtain ⟨hx, hb, hml, hown, hts, hl, hG, hK, hA⟩ := F
  obtain ⟨k1, k3, k4, k5, k6, k7⟩ := hc
  have ok : ∀ w ∈ zWS, w.before args s = true := fun w h => hts w (List.mem_cons_of_mem _ h)
  refine vx_runS (ret := ret') (bytes := cc') (maxL := maxL') (n := n) (Ts := c0 :: zWS) ⟨hx, hb, hml, hown, hts⟩ (hC l D Y S V G A hl hG) ⟨⟨rfl, rfl, (by show d' + 1 ≤ d; omega), ?_, z_pay hts k4, List.mem_cons_self, ok _ k4, ok _ k3, k5, z_len k6, ok _ hlink⟩, ok _ k1⟩ ⟨zB_blind, z_pre F0' hP hS has⟩ rfl hn hsz hst (by show 2 * 0 + _ ≤ 8; omega) hdg hf
  show 8 + (maxL' + 11) + 37 * d' ≤ 37 * d
  omega
theorem z_lret {res : Option Value ⊕ String} {v : Int64} {mc ms : Nat} (hexec : p.tables.exec = Jvm.exec) (hb : c.code = cc) (hr : meth.sig.returnType = some .long) (hres : res = .inl (some (.long v))) (hP : zP w D Y G T H) (hS : va_S A s.heap H locs) (hlocks : meth.locks = false) (h1 : cells ≤ mc) (h2 : slots ≤ ms) (hdg : decode cc pc = .ok (.lreturn, 1)) :
    W p l e R s m args below meth c H locs cells slots (vx_MQ below (zQ w D Y G A res T) (zX w D Y G A res T) args s mc ms A) (F0 m pc ls [.long v]) := by
  refine W.widen h1 h2 (vx_ret ?_)
  exact W.lret (v := v) hexec hb hr (fun t ht _ => ⟨⟨_, hres, rfl, by rw [ht]; exact hP⟩, hS.F ht⟩) hS.2.2 hdg hlocks
theorem z_topl {x y : Int64} (h : x = y) (k : W p l e R s m args below meth c H locs cells slots Q (F0 m pc ls (.long x :: rest))) : W p l e R s m args below meth c H locs cells slots Q (F0 m pc ls (.long y :: rest)) := h ▸ k
theorem z_tabo {x n : Int32} {hi : Int} (h : ¬ x < n) (hn : n.toInt = hi + 1) : hi < x.toInt := by
  rw [Int32.lt_iff_toInt_lt] at h
  omega
/-- behind a call that threw, with a table: what the catch is given -/
theorem z_exs {a : Array Value} {E : String} {st0 : List Value} (hr : vx_Run p l e R s m args below meth c H locs cells slots mc' ms' (F0 m pc ls st0) rest (zQ w D Y G A (.inr E) T' a) (zX w D Y G A (.inr E) T') A) (hS : va_S A s.heap H locs)
    (kx : ∀ (ce : Cell) (q9 : Addr) (H1 : Heap) (locs1 : List Loc), zP w D Y G T' H1 → va_S A s.heap H1 locs1 → H1[q9]? = some ce → ce.vm = .none → s.vm.findClass E = some ce.cls → vx_W p l e R s m args below meth c H1 locs1 (cells + mc') (slots + ms') Q (F0 m pc ls rest) q9) : W p l e R s m args below meth c H locs cells slots Q (F0 m pc ls st0) := by
  intro T hT X
  rcases hr T hT X with ⟨v', st₀, t, T1, L, h0, X', hL, e1, e2, ⟨⟨v2, hv, ho, hp⟩, hF⟩, st⟩ | ⟨q, st₀, t, T1, L, E', ce, h0, X', hL, e1, e2, ⟨⟨hE, hp⟩, hF⟩, hce, hcv, hcl, st⟩
  · cases hv
  · cases hE
    obtain ⟨k1, k2, k3⟩ := vx_keep h0 e1 hS (fun q _ h => h) (fun _ h => h) hL hF
    obtain ⟨t2, a1, b1⟩ := kx ce q T1.heap (locs ++ L) (by rw [e1]; exact hp) k3 (by rw [e1]; exact hce) hcv hcl T1 rfl X'
    exact ⟨t2, st.trans a1, b1⟩
end ZLM
