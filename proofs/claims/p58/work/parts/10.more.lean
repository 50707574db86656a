/-! MORE ROWS -/
def zin (i : Int32) (n : Nat) : Bool := decide (¬ (i < 0 ∨ n ≤ i.toNatClampNeg))
theorem zin_i {i : Int32} {n : Nat} (h : zin i n = true) : vp_in i n := by
  unfold zin at h
  exact (of_decide_eq_true h : ¬ (i < 0 ∨ n ≤ i.toNatClampNeg))
theorem zin_lt {i : Int32} {n : Nat} (h : zin i n = true) : i.toNatClampNeg < n := Nat.not_le.mp fun q => zin_i h (Or.inr q)
theorem zs_i {α : Type} {a b : α} {T T' : zT} (h : some (a, T) = some (b, T')) : a = b ∧ T = T' := by
  cases h; exact ⟨rfl, rfl⟩
theorem znew2 {G : Nat → Nat → Nat} {T : zT} {Y : Nat → ClassId} {r k : Nat} {x : Int32} (hk : k < 10) : (.inr (2, (zf2 G T r).set k (.int x)) : va_E) = zcell 0 Y G (wI T 1 r k x) 1 r := by
  rcases (by omega : k = 0 ∨ k = 1 ∨ k = 2 ∨ k = 3 ∨ k = 4 ∨ k = 5 ∨ k = 6 ∨ k = 7 ∨ k = 8 ∨ k = 9) with rfl | rfl | rfl | rfl | rfl | rfl | rfl | rfl | rfl | rfl <;> simp [zcell, zf2, wI]
/-- an answer that is a registry, or null -/
def zro (G : Nat → Nat → Nat) (o : Option Nat) : Value := match o with
  | none => .null
  | some ι => .ref (G 1 ι)
/-- the exceptions' names -/
def zE (n : Nat) : String := if n = 0 then "java/lang/IllegalStateException" else if n = 1 then "java/lang/IllegalArgumentException" else "java/lang/IndexOutOfBoundsException"
def zri (z : Int32 ⊕ Nat) : Option Value ⊕ String := match z with
  | .inl v => .inl (some (.int v))
  | .inr n => .inr (zE n)
def zrv (z : Unit ⊕ Nat) : Option Value ⊕ String := match z with
  | .inl _ => .inl none
  | .inr n => .inr (zE n)
theorem zi_of {ws : List Cond} (ps : List Nat) (hp : ws = ps.filterMap (fun i => lw_tbl[i]?)) (h : ws.all goodWord = true) : ∀ w ∈ ws, w ∈ zWS := by
  intro w hw
  have h1 := List.all_eq_true.mp h w hw
  rw [hp] at hw
  obtain ⟨i, -, hi⟩ := List.mem_filterMap.mp hw
  exact List.mem_filter.mpr ⟨List.mem_of_getElem? hi, h1⟩
section ZM2
variable {p : Program} {l : Launch} {e : Env} {s : State} {m : MethodId} {args : Array Value} {below : List Frame} {meth : Method} {c : Code} {H : Heap} {locs : List Loc} {cells slots : Nat} {Q : State → Prop}
variable {cc : ByteArray} {pc : Nat} {ls : Array Slot} {rest : List Value} {D : va_G} {Y : Nat → ClassId} {S V : Nat → Nat} {G : Nat → Nat → Nat} {A : Nat → Prop} {w : Nat} {T : zT} {c0 : Cond} {d mc ms nL : Nat} {own : String} {R : Room}
theorem z_iald_ {j : Nat} (hexec : p.tables.exec = Jvm.exec) (hb : c.code = cc) (hK : zK D Y S V A s s.heap) (hP : zP w D Y G T H) {κ ι : Nat} (hI : zIA w κ ι) {i : Int32} (hj : i.toNatClampNeg = j) (hin : zin i (zlen w κ ι) = true) (hdg : decode cc pc = .ok (.iaload, 1))
    (kk : W p l e R s m args below meth c H locs cells slots Q (F0 m (pc + 1) ls (.int (T.2 κ ι j) :: rest))) : W p l e R s m args below meth c H locs cells slots Q (F0 m pc ls (.int i :: .ref (G κ ι) :: rest)) := by
  subst hj
  exact z_iald hexec hb hK hP hI (zin_i hin) hdg kk
theorem z_iast_ {j : Nat} (hexec : p.tables.exec = Jvm.exec) (hb : c.code = cc) (hK : zK D Y S V A s s.heap) (hP : zP w D Y G T H) (hG : zG w G A) (hS : va_S A s.heap H locs) {κ ι : Nat} (hI : zIA w κ ι) {i x : Int32} (hj : i.toNatClampNeg = j) (hin : zin i (zlen w κ ι) = true) (hdg : decode cc pc = .ok (.iastore, 1))
    (kk : ∀ (H1 : Heap) (locs1 : List Loc), zP w D Y G (wA T κ ι (upd (T.2 κ ι) j x)) H1 → va_S A s.heap H1 locs1 → W p l e R s m args below meth c H1 locs1 cells slots Q (F0 m (pc + 1) ls rest)) : W p l e R s m args below meth c H locs cells slots Q (F0 m pc ls (.int x :: .int i :: .ref (G κ ι) :: rest)) := by
  subst hj
  exact z_iast hexec hb hK hP hG hS hI (zin_i hin) hdg kk
theorem z_aret {res : Option Value ⊕ String} {v : Value} {C : String} (hexec : p.tables.exec = Jvm.exec) (hb : c.code = cc) (hr : meth.sig.returnType = some (.object C)) (hv : v = .null ∨ ∃ a, v = .ref a) (hres : res = .inl (some v)) (hP : zP w D Y G T H) (hS : va_S A s.heap H locs) (hlocks : meth.locks = false) (h1 : cells ≤ mc) (h2 : slots ≤ ms) (hdg : decode cc pc = .ok (.areturn, 1)) :
    W p l e R s m args below meth c H locs cells slots (vx_MQ below (zQ w D Y G A res T) (zX w D Y G A res T) args s mc ms A) (F0 m pc ls [v]) := by
  refine W.widen h1 h2 (vx_ret ?_)
  exact W.aret hexec hb hr (Or.inl ⟨C, rfl⟩) hv (fun t ht _ => ⟨⟨_, hres, rfl, by rw [ht]; exact hP⟩, hS.F ht⟩) hS.2.2 hdg hlocks
theorem z_mmin (F : zF w d mc ms p l s m args c cc nL own c0 D Y S V G A) {index : Nat} (hlink : Cond.methodLink own index Lib.Math.min.name ∈ zWS) (hstat : Cond.static Lib.Math.min.name ∈ zWS) (hini : Cond.initialized "java/lang/Math" ∈ zWS) (hcode : Cond.code Lib.Math.min.name Lib.Math.min.code 2 (some .int) ∈ zWS) (hsz : ls.size = nL) (hd : 1 ≤ d) (hrest : (rest.map fun v => v.category).sum ≤ 8) (hf : cells ≤ mc ∧ slots ≤ ms) {x y : Int32} (hdg : decode cc pc = .ok (.invokestatic index, 3))
    (kk : W p l e (zR d mc ms) s m args below meth c H locs cells slots Q (F0 m (pc + 3) ls (.int (if y < x then y else x) :: rest))) : W p l e (zR d mc ms) s m args below meth c H locs cells slots Q (F0 m pc ls (.int y :: .int x :: rest)) := by
  obtain ⟨hx, hb, hml, hown, hts, hl, hG, hK, hA⟩ := F
  have ok : ∀ w ∈ zWS, w.before args s = true := fun w h => hts w (List.mem_cons_of_mem _ h)
  refine va_mmin hx hb (hml.trans hsz.symm) hown (ok _ hlink) (ok _ hstat) (ok _ hini) (ok _ hcode) hd ?_ hf.1 hf.2 hdg kk
  show _ + 13 ≤ 37 * d
  omega
theorem z_mmax (F : zF w d mc ms p l s m args c cc nL own c0 D Y S V G A) {index : Nat} (hlink : Cond.methodLink own index Lib.Math.max.name ∈ zWS) (hstat : Cond.static Lib.Math.max.name ∈ zWS) (hini : Cond.initialized "java/lang/Math" ∈ zWS) (hcode : Cond.code Lib.Math.max.name Lib.Math.max.code 2 (some .int) ∈ zWS) (hsz : ls.size = nL) (hd : 1 ≤ d) (hrest : (rest.map fun v => v.category).sum ≤ 8) (hf : cells ≤ mc ∧ slots ≤ ms) {x y : Int32} (hdg : decode cc pc = .ok (.invokestatic index, 3))
    (kk : W p l e (zR d mc ms) s m args below meth c H locs cells slots Q (F0 m (pc + 3) ls (.int (if x < y then y else x) :: rest))) : W p l e (zR d mc ms) s m args below meth c H locs cells slots Q (F0 m pc ls (.int y :: .int x :: rest)) := by
  obtain ⟨hx, hb, hml, hown, hts, hl, hG, hK, hA⟩ := F
  have ok : ∀ w ∈ zWS, w.before args s = true := fun w h => hts w (List.mem_cons_of_mem _ h)
  refine va_mmax hx hb (hml.trans hsz.symm) hown (ok _ hlink) (ok _ hstat) (ok _ hini) (ok _ hcode) hd ?_ hf.1 hf.2 hdg kk
  show _ + 13 ≤ 37 * d
  omega
/-- System.arraycopy of int rows of one world -/
theorem z_acopy (F : zF w d mc ms p l s m args c cc nL own c0 D Y S V G A) {index : Nat} (hlink : Cond.methodLink own index arraycopyName ∈ zWS) (hnat : Cond.native arraycopyName ∈ zWS) (hstat : Cond.static arraycopyName ∈ zWS) (hini : Cond.initialized "java/lang/System" ∈ zWS) (hP : zP w D Y G T H) (hS : va_S A s.heap H locs) (hsz : ls.size = nL) (hd : 2 ≤ d) (hrest : (rest.map fun v => v.category).sum ≤ 8) {κ ι κ' ι' : Nat} (hI : zIA w κ ι) (hI' : zIA w κ' ι') {n : Int32} (h3 : ¬ n < 0) (h4 : n.toNatClampNeg ≤ zlen w κ ι) (h5 : n.toNatClampNeg ≤ zlen w κ' ι') (hdg : decode cc pc = .ok (.invokestatic index, 3))
    (kk : ∀ (H1 : Heap) (locs1 : List Loc), zP w D Y G (wA T κ' ι' (va_cpy (T.2 κ ι) (T.2 κ' ι') 0 0 n.toNatClampNeg)) H1 → va_S A s.heap H1 locs1 → W p l e (zR d mc ms) s m args below meth c H1 locs1 cells slots Q (F0 m (pc + 3) ls rest)) : W p l e (zR d mc ms) s m args below meth c H locs cells slots Q (F0 m pc ls (.int n :: .int 0 :: .ref (G κ' ι') :: .int 0 :: .ref (G κ ι) :: rest)) := by
  obtain ⟨hx, hb, hml, hown, hts, hl, hG, hK, hA⟩ := F
  have ok : ∀ w ∈ zWS, w.before args s = true := fun w h => hts w (List.mem_cons_of_mem _ h)
  obtain ⟨q, h1, h2⟩ := zL_id (Y := Y) (G := G) (T := T) hI.V
  obtain ⟨q', h1', h2'⟩ := zL_id (Y := Y) (G := G) (T := T) hI'.V
  rw [hI.cell] at h2
  rw [hI'.cell] at h2'
  refine va_copyi (f := T.2 κ ι) (g := T.2 κ' ι') hx hb (hml.trans hsz.symm) hown (ok _ hlink) (ok _ hnat) (ok _ hstat) (ok _ hini) hK.1 hP.list hG.list hS q q' 0 0 h2 h2' rfl rfl rfl (by decide) (by decide) h3 (by rw [show (0 : Int32).toNatClampNeg = 0 from rfl]; omega) (by rw [show (0 : Int32).toNatClampNeg = 0 from rfl]; omega) (fun _ _ => rfl) ?_ ?_ hdg (fun H1 locs1 g1 _ g3 => kk H1 locs1 (zP_wA h1' g1 ?_) g3)
  · show 1 ≤ d; omega
  · show _ + (nativeFrameWords "java/lang/System" "arraycopy" 5 + 11) ≤ 37 * d
    have : nativeFrameWords "java/lang/System" "arraycopy" 5 ≤ 50 := by decide +kernel
    omega
  · rw [hI'.cell, wA_s]; rfl
end ZM2
