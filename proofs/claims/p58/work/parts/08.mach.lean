/-! ROWS OF THE MACHINE over the typed heap -/
section ZM
variable {p : Program} {l : Launch} {e : Env} {R : Room} {s : State} {m : MethodId} {args : Array Value} {below : List Frame} {meth : Method} {c : Code} {H : Heap} {locs : List Loc} {cells slots : Nat} {Q : State → Prop}
variable {cc : ByteArray} {pc : Nat} {ls : Array Slot} {rest : List Value} {D : va_G} {Y : Nat → ClassId} {S V : Nat → Nat} {G : Nat → Nat → Nat} {A : Nat → Prop} {w : Nat} {T : zT} {Ts : List Cond}
theorem z_get (hexec : p.tables.exec = Jvm.exec) (hb : c.code = cc) {own ref C : String} {TT : u_T} {N ci index : Nat} (hts : ∀ w ∈ Ts, w.before args s = true) (hin : ∀ w ∈ u_ws C TT N, w ∈ Ts) (hown : s.vm.findClass own = some m.cls) (hK : zK D Y S V A s s.heap) (hP : zP w D Y G T H) {κ ι : Nat} (hV : zV w κ ι) {fs : List Value} (he : zcell w Y G T κ ι = .inr (ci, fs)) (hc : vwCl[ci]? = some (C, TT, N)) (k : Nat) (hk : k < N) (hlink : Cond.fieldLink own index ref (TT k).2.1 (TT k).2.2.1 ∈ Ts) (hsame : (TT k).1 = ref) {v : Value} (hv : fs[k]? = some v) (hdg : decode cc pc = .ok (.getfield index, 3))
    (kk : W p l e R s m args below meth c H locs cells slots Q (F0 m (pc + 3) ls (v :: rest))) : W p l e R s m args below meth c H locs cells slots Q (F0 m pc ls (.ref (G κ ι) :: rest)) :=
  va_get (ws := [(G κ ι, .inr (ci, fs))]) hexec hb hts hin hown hK.1 (hP.one hV he) 0 rfl hc k hk (hts _ hlink) (fun _ h => by rw [← hsame]; exact h) hv hdg kk
theorem z_put (hexec : p.tables.exec = Jvm.exec) (hb : c.code = cc) {own ref C : String} {TT : u_T} {N ci index : Nat} (hts : ∀ w ∈ Ts, w.before args s = true) (hin : ∀ w ∈ u_ws C TT N, w ∈ Ts) (ty0 : Nat → FieldType) (hty : ∀ k, k < N → parseFieldDescriptor (TT k).2.2.1 = some (ty0 k)) (hnm : ∀ a, a < N → ∀ b, b < N → a ≠ b → (TT a).2.1 ≠ (TT b).2.1) (hown : s.vm.findClass own = some m.cls) (hK : zK D Y S V A s s.heap) (hP : zP w D Y G T H) (hG : zG w G A) (hS : va_S A s.heap H locs) {κ ι : Nat} (hV : zV w κ ι) {fs : List Value} (he : zcell w Y G T κ ι = .inr (ci, fs)) (hc : vwCl[ci]? = some (C, TT, N)) (k : Nat) (hk : k < N) (hlink : Cond.fieldLink own index ref (TT k).2.1 (TT k).2.2.1 ∈ Ts) (hsame : (TT k).1 = ref) (hfin : (TT k).2.2.2 = false) (hd : parseFieldDescriptor (TT k).2.2.1 = some .int) {x : Int32} (hl : k < fs.length) (hnew : (.inr (ci, fs.set k (.int x)) : va_E) = zcell w Y G (wI T κ ι k x) κ ι) (hdg : decode cc pc = .ok (.putfield index, 3))
    (kk : ∀ (H1 : Heap) (locs1 : List Loc), zP w D Y G (wI T κ ι k x) H1 → va_S A s.heap H1 locs1 → W p l e R s m args below meth c H1 locs1 cells slots Q (F0 m (pc + 3) ls rest)) : W p l e R s m args below meth c H locs cells slots Q (F0 m pc ls (.int x :: .ref (G κ ι) :: rest)) := by
  obtain ⟨q, h1, h2⟩ := zL_id (Y := Y) (G := G) (T := T) hV
  rw [he] at h2
  exact va_put hexec hb hts hin ty0 hty hnm hown hK.1 hP.list hG.list hS q h2 hc k hk (hts _ hlink) (fun _ h => by rw [← hsame]; exact h) hfin hd rfl rfl hl hdg (fun H1 locs1 g1 _ g3 => kk H1 locs1 (zP_wI h1 g1 hnew) g3)
theorem z_iald (hexec : p.tables.exec = Jvm.exec) (hb : c.code = cc) (hK : zK D Y S V A s s.heap) (hP : zP w D Y G T H) {κ ι : Nat} (hI : zIA w κ ι) {i : Int32} (hin : vp_in i (zlen w κ ι)) (hdg : decode cc pc = .ok (.iaload, 1))
    (kk : W p l e R s m args below meth c H locs cells slots Q (F0 m (pc + 1) ls (.int (T.2 κ ι i.toNatClampNeg) :: rest))) : W p l e R s m args below meth c H locs cells slots Q (F0 m pc ls (.int i :: .ref (G κ ι) :: rest)) :=
  va_iald hexec hb hK.1 (hP.one hI.V (hI.cell Y G T)) 0 0 rfl rfl hin hdg kk
theorem z_iast (hexec : p.tables.exec = Jvm.exec) (hb : c.code = cc) (hK : zK D Y S V A s s.heap) (hP : zP w D Y G T H) (hG : zG w G A) (hS : va_S A s.heap H locs) {κ ι : Nat} (hI : zIA w κ ι) {i x : Int32} (hin : vp_in i (zlen w κ ι)) (hdg : decode cc pc = .ok (.iastore, 1))
    (kk : ∀ (H1 : Heap) (locs1 : List Loc), zP w D Y G (wA T κ ι (upd (T.2 κ ι) i.toNatClampNeg x)) H1 → va_S A s.heap H1 locs1 → W p l e R s m args below meth c H1 locs1 cells slots Q (F0 m (pc + 1) ls rest)) : W p l e R s m args below meth c H locs cells slots Q (F0 m pc ls (.int x :: .int i :: .ref (G κ ι) :: rest)) := by
  obtain ⟨q, h1, h2⟩ := zL_id (Y := Y) (G := G) (T := T) hI.V
  rw [hI.cell] at h2
  exact va_iast hexec hb hK.1 hP.list hG.list hS q 0 h2 rfl hin hdg (fun H1 locs1 g1 _ g3 => kk H1 locs1 (zP_wA h1 g1 (by rw [hI.cell, wA_s])) g3)
/-- byte arrays: output, buffer of the class; input, output of the model; isSaved -/
theorem z_bald (hexec : p.tables.exec = Jvm.exec) (hb : c.code = cc) (hK : zK D Y S V A s s.heap) (hP : zP w D Y G T H) {κ ι n : Nat} {f : Nat → Int32} (hV : zV w κ ι) (he : zcell w Y G T κ ι = .inl (Y 1, n, .inl f)) {i : Int32} (hin : vp_in i n) (hdg : decode cc pc = .ok (.baload, 1))
    (kk : W p l e R s m args below meth c H locs cells slots Q (F0 m (pc + 1) ls (.int (f i.toNatClampNeg) :: rest))) : W p l e R s m args below meth c H locs cells slots Q (F0 m pc ls (.int i :: .ref (G κ ι) :: rest)) :=
  va_bald hexec hb hK.1 (hP.one hV he) 0 1 rfl rfl hin hdg kk
theorem z_zald (hexec : p.tables.exec = Jvm.exec) (hb : c.code = cc) (hK : zK D Y S V A s s.heap) (hP : zP w D Y G T H) {κ ι n : Nat} {f : Nat → Int32} (hV : zV w κ ι) (he : zcell w Y G T κ ι = .inl (Y 2, n, .inl f)) {i : Int32} (hin : vp_in i n) (hdg : decode cc pc = .ok (.baload, 1))
    (kk : W p l e R s m args below meth c H locs cells slots Q (F0 m (pc + 1) ls (.int (f i.toNatClampNeg) :: rest))) : W p l e R s m args below meth c H locs cells slots Q (F0 m pc ls (.int i :: .ref (G κ ι) :: rest)) :=
  va_zald hexec hb hK.1 (hP.one hV he) 0 2 rfl rfl hin hdg kk
theorem z_bast (hexec : p.tables.exec = Jvm.exec) (hb : c.code = cc) (hK : zK D Y S V A s s.heap) (hP : zP w D Y G T H) (hG : zG w G A) (hS : va_S A s.heap H locs) {κ ι n : Nat} {f : Nat → Int32} (hV : zV w κ ι) (he : zcell w Y G T κ ι = .inl (Y 1, n, .inl f)) {i x : Int32} (hin : vp_in i n) (hnew : zcell w Y G (wA T κ ι (upd f i.toNatClampNeg x.toInt8.toInt32)) κ ι = .inl (Y 1, n, .inl (upd f i.toNatClampNeg x.toInt8.toInt32))) (hdg : decode cc pc = .ok (.bastore, 1))
    (kk : ∀ (H1 : Heap) (locs1 : List Loc), zP w D Y G (wA T κ ι (upd f i.toNatClampNeg x.toInt8.toInt32)) H1 → va_S A s.heap H1 locs1 → W p l e R s m args below meth c H1 locs1 cells slots Q (F0 m (pc + 1) ls rest)) : W p l e R s m args below meth c H locs cells slots Q (F0 m pc ls (.int x :: .int i :: .ref (G κ ι) :: rest)) := by
  obtain ⟨q, h1, h2⟩ := zL_id (Y := Y) (G := G) (T := T) hV
  rw [he] at h2
  exact va_bast hexec hb hK.1 hP.list hG.list hS q 1 h2 rfl hin hdg (fun H1 locs1 g1 _ g3 => kk H1 locs1 (zP_wA h1 g1 hnew.symm) g3)
theorem z_zast (hexec : p.tables.exec = Jvm.exec) (hb : c.code = cc) (hK : zK D Y S V A s s.heap) (hP : zP w D Y G T H) (hG : zG w G A) (hS : va_S A s.heap H locs) {κ ι n : Nat} {f : Nat → Int32} (hV : zV w κ ι) (he : zcell w Y G T κ ι = .inl (Y 2, n, .inl f)) {i x : Int32} (hin : vp_in i n) (hnew : zcell w Y G (wA T κ ι (upd f i.toNatClampNeg (vp_nar .boolean x))) κ ι = .inl (Y 2, n, .inl (upd f i.toNatClampNeg (vp_nar .boolean x)))) (hdg : decode cc pc = .ok (.bastore, 1))
    (kk : ∀ (H1 : Heap) (locs1 : List Loc), zP w D Y G (wA T κ ι (upd f i.toNatClampNeg (vp_nar .boolean x))) H1 → va_S A s.heap H1 locs1 → W p l e R s m args below meth c H1 locs1 cells slots Q (F0 m (pc + 1) ls rest)) : W p l e R s m args below meth c H locs cells slots Q (F0 m pc ls (.int x :: .int i :: .ref (G κ ι) :: rest)) := by
  obtain ⟨q, h1, h2⟩ := zL_id (Y := Y) (G := G) (T := T) hV
  rw [he] at h2
  exact va_zast hexec hb hK.1 hP.list hG.list hS q 2 h2 rfl hin hdg (fun H1 locs1 g1 _ g3 => kk H1 locs1 (zP_wA h1 g1 hnew.symm) g3)
theorem z_aald (hexec : p.tables.exec = Jvm.exec) (hb : c.code = cc) (hK : zK D Y S V A s s.heap) (hP : zP w D Y G T H) {κ ι n : Nat} {f : Nat → Option Nat} (hV : zV w κ ι) (he : zcell w Y G T κ ι = .inl (Y 3, n, .inr (.inr (.inr (.inr f))))) {i : Int32} (hin : vp_in i n) (hdg : decode cc pc = .ok (.aaload, 1))
    (kk : W p l e R s m args below meth c H locs cells slots Q (F0 m (pc + 1) ls (va_rf (f i.toNatClampNeg) :: rest))) : W p l e R s m args below meth c H locs cells slots Q (F0 m pc ls (.int i :: .ref (G κ ι) :: rest)) :=
  va_aldq hexec hb hK.1 (hP.one hV he) 0 3 rfl rfl hin hdg kk
theorem z_alen (hexec : p.tables.exec = Jvm.exec) (hb : c.code = cc) (hK : zK D Y S V A s s.heap) (hP : zP w D Y G T H) {κ ι : Nat} {x : vp_A} (hV : zV w κ ι) (t0 : Nat) {cA : ClassId} (he : zcell w Y G T κ ι = .inl (cA, x)) {ty : FieldType} (ht : (ztys Y)[t0]? = some (cA, ty)) {v : Int32} (hv : Int32.ofNat x.1 = v) (hdg : decode cc pc = .ok (.arraylength, 1))
    (kk : W p l e R s m args below meth c H locs cells slots Q (F0 m (pc + 1) ls (.int v :: rest))) : W p l e R s m args below meth c H locs cells slots Q (F0 m pc ls (.ref (G κ ι) :: rest)) :=
  va_alen hexec hb hK.1 (hP.one hV he) 0 t0 rfl ht hv hdg kk
/-- ends -/
theorem z_iret {res : Option Value ⊕ String} {v : Int32} {mc ms : Nat} (hexec : p.tables.exec = Jvm.exec) (hb : c.code = cc) (hr : meth.sig.returnType = some .int) (hres : res = .inl (some (.int v))) (hP : zP w D Y G T H) (hS : va_S A s.heap H locs) (hlocks : meth.locks = false) (h1 : cells ≤ mc) (h2 : slots ≤ ms) (hdg : decode cc pc = .ok (.ireturn, 1)) :
    W p l e R s m args below meth c H locs cells slots (vx_MQ below (zQ w D Y G A res T) (zX w D Y G A res T) args s mc ms A) (F0 m pc ls [.int v]) := by
  refine W.widen h1 h2 (vx_ret ?_)
  exact W.iret (v := v) hexec hb hr (fun t ht _ => ⟨⟨_, hres, rfl, by rw [ht]; exact hP⟩, hS.F ht⟩) hS.2.2 hdg hlocks
theorem z_zret {res : Option Value ⊕ String} {v : Int32} {mc ms : Nat} (hexec : p.tables.exec = Jvm.exec) (hb : c.code = cc) (hr : meth.sig.returnType = some .boolean) (hv : v = 0 ∨ v = 1) (hres : res = .inl (some (.int v))) (hP : zP w D Y G T H) (hS : va_S A s.heap H locs) (hlocks : meth.locks = false) (h1 : cells ≤ mc) (h2 : slots ≤ ms) (hdg : decode cc pc = .ok (.ireturn, 1)) :
    W p l e R s m args below meth c H locs cells slots (vx_MQ below (zQ w D Y G A res T) (zX w D Y G A res T) args s mc ms A) (F0 m pc ls [.int v]) := by
  refine W.widen h1 h2 (vx_ret ?_)
  exact W.zret (v := v) hexec hb hr (by rcases hv with rfl | rfl <;> rfl) (fun t ht _ => ⟨⟨_, hres, rfl, by rw [ht]; exact hP⟩, hS.F ht⟩) hS.2.2 hdg hlocks
theorem z_vret {res : Option Value ⊕ String} {mc ms : Nat} (hexec : p.tables.exec = Jvm.exec) (hb : c.code = cc) (hr : meth.sig.returnType = none) (hres : res = .inl none) (hP : zP w D Y G T H) (hS : va_S A s.heap H locs) (hlocks : meth.locks = false) (h1 : cells ≤ mc) (h2 : slots ≤ ms) (hdg : decode cc pc = .ok (.return_, 1)) :
    W p l e R s m args below meth c H locs cells slots (vx_MQ below (zQ w D Y G A res T) (zX w D Y G A res T) args s mc ms A) (F0 m pc ls []) := by
  refine W.widen h1 h2 (vx_ret ?_)
  exact W.vret hexec hb hr (fun t ht _ => ⟨⟨_, hres, rfl, by rw [ht]; exact hP⟩, hS.F ht⟩) hS.2.2 hdg hlocks
/-- naming the top of the stack -/
theorem z_topi {x y : Int32} (h : x = y) (k : W p l e R s m args below meth c H locs cells slots Q (F0 m pc ls (.int x :: rest))) : W p l e R s m args below meth c H locs cells slots Q (F0 m pc ls (.int y :: rest)) := h ▸ k
end ZM
