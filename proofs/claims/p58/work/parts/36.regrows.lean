/-! THE LAW'S OWN TEXTS: a builder beside the class's world; rows -/
abbrev zTB : Type := zT × List Nat
/-- the letters of a constant -/
def zltr (i : Nat) : List Nat := (zstrs.getD i ("", 0, "")).2.2.toList.map fun ch => ch.toNat
theorem zltr_b (i : Nat) : zbytes i = (zltr i).map nI := by
  unfold zbytes zltr
  rw [List.map_map]
  rfl
theorem zltr_len (i : Nat) : (zbytes i).length = (zltr i).length := by rw [zltr_b, List.length_map]
theorem zltr_lt : ∀ i, i < 12 → ∀ x ∈ zltr i, x < 128 := by decide +kernel
theorem zltr_get {i j : Nat} (hj : j < (zbytes i).length) : (zbytes i).getD j 0 = nI ((zltr i).getD j 0) := by
  have h2 : j < (zltr i).length := by rw [← zltr_len]; exact hj
  rw [List.getD_eq_getElem?_getD, List.getD_eq_getElem?_getD, List.getElem?_eq_getElem h2, List.getElem?_eq_getElem hj]
  simp only [Option.getD_some, zltr_b, List.getElem_map]
theorem zltr_fit {i : Nat} (hi : i < 12) : sb_Fit (fun j => (zbytes i).getD j 0) := fun j => by
  by_cases hj : j < (zbytes i).length
  · show fits .byte (.int ((zbytes i).getD j 0)) = true
    rw [zltr_get hj]
    have h2 : j < (zltr i).length := by rw [← zltr_len]; exact hj
    refine zfit (zltr_lt i hi _ ?_)
    rw [List.getD_eq_getElem?_getD, List.getElem?_eq_getElem h2]
    exact List.getElem_mem _
  · show fits .byte (.int ((zbytes i).getD j 0)) = true
    rw [List.getD_eq_getElem?_getD, List.getElem?_eq_none (by omega)]
    decide
/-- the class's world with the law's array, and a builder, new since the start, that holds T.2 -/
def zPB (D : va_G) (Y : Nat → ClassId) (G : Nat → Nat → Nat) (b sz : Nat) (T : zTB) (H : Heap) : Prop := zP 1 D Y G T.1 H ∧ zSB D Y (fun q => sz ≤ q) b 0 T.2 H
def zXR (A : Nat → Prop) (G : Nat → Nat → Nat) (s : State) : Prop := zJk A s s.heap ∧ ∀ κ ι, zV 1 κ ι → G κ ι < s.heap.size
def zbR {α β : Type} (o : Option (α × zTB)) (k : α → zTB → Option β) : Option β := match o with
  | none => none
  | some q => k q.1 q.2
theorem zbR_i {α β : Type} {o : Option (α × zTB)} {k : α → zTB → Option β} {z : β} (h : zbR o k = some z) : ∃ a T, o = some (a, T) ∧ k a T = some z := by
  unfold zbR at h
  cases o with
  | none => cases h
  | some q => exact ⟨q.1, q.2, rfl, h⟩
theorem zbR_s {α β : Type} {a : α} {T : zTB} {k : α → zTB → Option β} : zbR (some (a, T)) k = k a T := rfl
theorem zF.J {w d mc ms nL : Nat} {p : Program} {l : Launch} {s : State} {m : MethodId} {args : Array Value} {c : Code} {cc : ByteArray} {own : String} {c0 : Cond} {D : va_G} {Y : Nat → ClassId} {S V : Nat → Nat} {G : Nat → Nat → Nat} {A : Nat → Prop} (F : zF w d mc ms p l s m args c cc nL own c0 D Y S V G A) (X : zJk A s s.heap) : zFJ d mc ms p l s m args c cc nL own c0 D Y S V A := by
  obtain ⟨hx, hb, hml, hown, hts, hl, hG, hK, hA⟩ := F
  exact ⟨hx, hb, hml, hown, hts, hl, ⟨hK, X⟩, hA⟩
section ZRG
variable {p : Program} {l : Launch} {e : Env} {s : State} {m : MethodId} {args : Array Value} {below : List Frame} {meth : Method} {c : Code} {H : Heap} {locs : List Loc} {cells slots : Nat} {Q : State → Prop}
variable {cc : ByteArray} {pc : Nat} {ls : Array Slot} {rest : List Value} {D : va_G} {Y : Nat → ClassId} {S V : Nat → Nat} {G : Nat → Nat → Nat} {A : Nat → Prop} {c0 : Cond} {d mc ms nL : Nat}
variable {y : MethodName} {cc' : ByteArray} {maxL' n d' mc' ms' index : Nat} {ret' : Option FieldType} {own : String} {As : List Value} {b : Nat} {T : zTB}
/-- a call of a method of the class's world, beside the builder -/
theorem z_bS {as : (Nat → Nat → Nat) → (Nat → Nat) → List Value} {T1 : zT} {v : Value} (F : zF 1 d mc ms p l s m args c cc nL own c0 D Y S V G A) (X : zXR A G s) (hc : zcas y cc' maxL' ret' n) (hlink : Cond.methodLink own index y ∈ zWS) (hC : zC 1 y cc' maxL' ret' d' mc' ms' as T.1 (fun _ => .inl (some v)) T1) (hP : zPB D Y G b s.heap.size T H) (hS : va_S A s.heap H locs) (has : as G S = As) (hn : As.length = n) (hsz : ls.size = nL) (hrest : (rest.map fun v => v.category).sum ≤ 8) (hdg : decode cc pc = .ok (.invokestatic index, 3)) (hd : d' + 1 ≤ d) (hf : cells + mc' ≤ mc ∧ slots + ms' ≤ ms) {st : List Value} (hst : st = As.reverse ++ rest)
    (kk : ∀ (H1 : Heap) (locs1 : List Loc), zPB D Y G b s.heap.size (T1, T.2) H1 → va_S A s.heap H1 locs1 → W p l e (zR d mc ms) s m args below meth c H1 locs1 (cells + mc') (slots + ms') Q (F0 m (pc + 3) ls (v :: rest))) : W p l e (zR d mc ms) s m args below meth c H locs cells slots Q (F0 m pc ls st) := by
  obtain ⟨hx, hb, hml, hown, hts, hl, hG, hK, hA⟩ := F
  obtain ⟨k1, k3, k4, k5, k6, k7⟩ := hc
  have ok : ∀ w ∈ zWS, w.before args s = true := fun w h => hts w (List.mem_cons_of_mem _ h)
  obtain ⟨A1, eA⟩ : ∃ A1 : Nat → Prop, A1 = fun q => (∃ κ ι, zV 1 κ ι ∧ q = G κ ι) ∨ H.size ≤ q := ⟨_, rfl⟩
  have hA1 : ∀ q, H.size ≤ q → A1 q := fun q h => by rw [eA]; exact Or.inr h
  have hAB : ∀ q, A1 q → A q := fun q h => by
    rw [eA] at h
    rcases h with ⟨κ, ι, hV, rfl⟩ | h
    · exact hG.2 κ ι hV
    · exact hA q (Nat.le_trans hS.1 h)
  have hG1 : zG 1 G A1 := ⟨hG.1, fun κ ι hV => by rw [eA]; exact Or.inl ⟨κ, ι, hV, rfl⟩⟩
  have hr := vx_runS (p := p) (e := e) (below := below) (meth := meth) (H := H) (locs := locs) (cells := cells) (slots := slots) (g := F0 m pc ls st) (rest := rest) (As := As) (R := zR d mc ms) (ret := ret') (bytes := cc') (maxL := maxL') (n := n) (Ts := c0 :: zWS) ⟨hx, hb, hml, hown, hts⟩ (hC l D Y S V G A1 hl hG1) ⟨⟨rfl, rfl, hd, (by show 8 + (maxL' + 11) + 37 * d' ≤ 37 * d; omega), z_pay hts k4, List.mem_cons_self, ok _ k4, ok _ k3, k5, z_len k6, ok _ hlink⟩, ok _ k1⟩
    ⟨zB_blind, fun U hU hW => ⟨by rw [has], by rw [hU]; exact (hK.go hW hS.2.1).narrow hAB, by rw [hU]; exact hP.1, by rw [hU]; exact hA1⟩⟩ rfl hn hsz hst (by show 2 * 0 + _ ≤ 8; omega) hdg hf
  intro T9 hT X9
  rcases hr T9 hT X9 with ⟨v', st₀, t, TT, L, h0, X', hL, e1, e2, ⟨⟨v2, hv, ho, hp⟩, hF⟩, st⟩ | ⟨q, st₀, t, TT, L, E, ce, h0, X', hL, e1, e2, ⟨⟨hE, hp⟩, hF⟩, hce, hcv, hcl, st⟩
  · cases hv
    cases ho
    obtain ⟨k1, k2, k3⟩ := vx_keep h0 e1 hS (fun q _ h => hAB q h) hAB hL hF
    obtain ⟨q9, cap, a, hP9, hD9, g⟩ := hP.2
    have hsb : zSB D Y (fun q => s.heap.size ≤ q) b 0 T.2 TT.heap := ⟨q9, cap, a, hP9.kept (fun k x hx => k2 x.1 (hP9 k x hx).lt (fun h => by
      rw [eA] at h
      rcases h with ⟨κ, ι, hV, e⟩ | h
      · have h1 := X.2 κ ι hV
        have h2 : s.heap.size ≤ x.1 := hD9.2 k x hx
        omega
      · have := (hP9 k x hx).lt
        omega)), hD9, g⟩
    obtain ⟨t2, a1, b1⟩ := kk TT.heap (locs ++ L) ⟨by rw [e1]; exact hp, hsb⟩ k3 TT rfl X'
    exact ⟨t2, st t2 a1, b1⟩
  · cases hE
/-- a call of the builder's own: it ends with the builder -/
theorem z_bV {B : State → Prop} {t' : List Nat} (F : zF 1 d mc ms p l s m args c cc nL own c0 D Y S V G A) (X : zXR A G s) (hc : zcal y cc' maxL' ret' n) (hy : y.cls = RJ4) (hlink : Cond.methodLink own index y ∈ zWS) (hM : zMJ l y cc' maxL' ret' d' mc' ms' D Y S V (fun q => s.heap.size ≤ q) (.ref b :: As) B (fun r H1 => r = some (.ref b) ∧ zSB D Y (fun q => s.heap.size ≤ q) b 0 t' H1)) (hBl : ∀ (a : Array Value) (U : State) (g : JFrame) (mk : MethodId), B U → B (U.calling g mk a)) (hB : ∀ U : State, U.heap = H → s.WarmedH U.vm → B U) (hP : zPB D Y G b s.heap.size T H) (hS : va_S A s.heap H locs) (hn : As.length = n) (hsz : ls.size = nL) (hrest : (rest.map fun v => v.category).sum ≤ 8) (hdg : decode cc pc = .ok (.invokevirtual index, 3)) (hd : d' + 1 ≤ d) (hf : cells + mc' ≤ mc ∧ slots + ms' ≤ ms) {st : List Value} (hst : st = As.reverse ++ .ref b :: rest)
    (kk : ∀ (H1 : Heap) (locs1 : List Loc), zPB D Y G b s.heap.size (T.1, t') H1 → va_S A s.heap H1 locs1 → W p l e (zR d mc ms) s m args below meth c H1 locs1 (cells + mc') (slots + ms') Q (F0 m (pc + 3) ls (.ref b :: rest))) : W p l e (zR d mc ms) s m args below meth c H locs cells slots Q (F0 m pc ls st) := by
  have hK := F.2.2.2.2.2.2.2.1
  have hA := F.2.2.2.2.2.2.2.2
  have hrec : ∃ cell : Cell, H[b]? = some cell ∧ cell.vm.isStatics = false ∧ s.vm.findClass y.cls = some cell.cls := by
    rw [hy]
    obtain ⟨q9, cap, a, hP9, -⟩ := hP.2
    exact va_recv hK.1 hP9 (ci := 4) rfl (q0 := 0) rfl
  refine z_jV (F.J X.1) hc hlink hM hBl hB hrec hS (fun q h => hA q h) (fun q h => Nat.le_trans hS.1 h) rfl hn hsz hrest hdg hd hf hst (fun v H1 locs1 hp hz hk hS1 => ?_)
  obtain ⟨rfl, hsb⟩ := hp
  refine kk H1 locs1 ⟨fun κ ι hV => (hP.1 κ ι hV).kept (hk _ ((hP.1 κ ι hV).lt) (fun h => ?_)), hsb⟩ hS1
  have h1 := X.2 κ ι hV
  exact absurd h (Nat.not_le.mpr h1)
variable {x : Int32}
theorem z_bnext {T1 : zT} {v : Int32} (F : zF 1 d mc ms p l s m args c cc nL own c0 D Y S V G A) (X : zXR A G s) (hc : zcas yL_next cL_next 1 (some .int) 1) (hlink : Cond.methodLink own index yL_next ∈ zWS) (h : f_L_next T.1 = some (v, T1)) (hP : zPB D Y G b s.heap.size T H) (hS : va_S A s.heap H locs) (hsz : ls.size = nL) (hrest : (rest.map fun v => v.category).sum ≤ 8) (hdg : decode cc pc = .ok (.invokestatic index, 3)) (hd : 1 ≤ d) (hf : cells ≤ mc ∧ slots ≤ ms)
    (kk : ∀ (H1 : Heap) (locs1 : List Loc), zPB D Y G b s.heap.size (T1, T.2) H1 → va_S A s.heap H1 locs1 → W p l e (zR d mc ms) s m args below meth c H1 locs1 cells slots Q (F0 m (pc + 3) ls (.int v :: rest))) : W p l e (zR d mc ms) s m args below meth c H locs cells slots Q (F0 m pc ls (.ref (G 0 8) :: rest)) :=
  z_bS (As := [.ref (G 0 8)]) F X hc hlink (c_L_next T.1 T1 v h) hP hS rfl rfl hsz hrest hdg hd hf rfl kk
theorem z_bint (F : zF 1 d mc ms p l s m args c cc nL own c0 D Y S V G A) (X : zXR A G s) (hc : zcal yJ4_append_bf812 cJ4_append_bf812 2 (some (.object "java/lang/StringBuilder")) 1) (hlink : Cond.methodLink own index yJ4_append_bf812 ∈ zWS) (h1 : zin x 10000 = true) (h2 : T.2.length + 10 ≤ 300) (hP : zPB D Y G b s.heap.size T H) (hS : va_S A s.heap H locs) (hsz : ls.size = nL) (hrest : (rest.map fun v => v.category).sum ≤ 8) (hdg : decode cc pc = .ok (.invokevirtual index, 3)) (hd : 6 ≤ d) (hf : cells + 1 ≤ mc ∧ slots + 600 ≤ ms)
    (kk : ∀ (H1 : Heap) (locs1 : List Loc), zPB D Y G b s.heap.size (T.1, T.2 ++ zdig x.toNatClampNeg) H1 → va_S A s.heap H1 locs1 → W p l e (zR d mc ms) s m args below meth c H1 locs1 (cells + 1) (slots + 600) Q (F0 m (pc + 3) ls (.ref b :: rest))) : W p l e (zR d mc ms) s m args below meth c H locs cells slots Q (F0 m pc ls (.int x :: .ref b :: rest)) := by
  obtain ⟨v, hv, rfl⟩ := vp_in_of (zin_i h1) (by decide)
  rw [nI_clamp (by omega)] at kk
  have h3 := (zdig_len (v := v)).2
  exact z_bV (As := [.int (nI v)]) F X hc rfl hlink (cj_J4_append_bf812 l F.2.2.2.2.2.1 D Y S V _ b 0 T.2 v hv (by omega)) (fun _ _ _ _ h => h) (fun U hU _ => by rw [hU]; exact hP.2) hP hS rfl hsz hrest hdg hd hf rfl kk
theorem z_bchr (F : zF 1 d mc ms p l s m args c cc nL own c0 D Y S V G A) (X : zXR A G s) (hc : zcal yJ4_append_cf468 cJ4_append_cf468 2 (some (.object "java/lang/StringBuilder")) 1) (hlink : Cond.methodLink own index yJ4_append_cf468 ∈ zWS) (h1 : zin x 128 = true) (h2 : T.2.length + 10 ≤ 300) (hP : zPB D Y G b s.heap.size T H) (hS : va_S A s.heap H locs) (hsz : ls.size = nL) (hrest : (rest.map fun v => v.category).sum ≤ 8) (hdg : decode cc pc = .ok (.invokevirtual index, 3)) (hd : 6 ≤ d) (hf : cells + 1 ≤ mc ∧ slots + 600 ≤ ms)
    (kk : ∀ (H1 : Heap) (locs1 : List Loc), zPB D Y G b s.heap.size (T.1, T.2 ++ [x.toNatClampNeg]) H1 → va_S A s.heap H1 locs1 → W p l e (zR d mc ms) s m args below meth c H1 locs1 (cells + 1) (slots + 600) Q (F0 m (pc + 3) ls (.ref b :: rest))) : W p l e (zR d mc ms) s m args below meth c H locs cells slots Q (F0 m pc ls (.int x :: .ref b :: rest)) := by
  obtain ⟨v, hv, rfl⟩ := vp_in_of (zin_i h1) (by decide)
  rw [nI_clamp (by omega)] at kk
  exact z_bV (As := [.int (nI v)]) F X hc rfl hlink (cj_J4_append_cf468 l F.2.2.2.2.2.1 D Y S V _ b 0 T.2 v hv (by omega)) (fun _ _ _ _ h => h) (fun U hU _ => by rw [hU]; exact hP.2) hP hS rfl hsz hrest hdg hd hf rfl kk
theorem z_bstr {i : Nat} (F : zF 1 d mc ms p l s m args c cc nL own c0 D Y S V G A) (X : zXR A G s) (hc : zcal yJ4_append_15ec4 cJ4_append_15ec4 2 (some (.object "java/lang/StringBuilder")) 1) (hlink : Cond.methodLink own index yJ4_append_15ec4 ∈ zWS) (hi : i < 12) (h3 : (zbytes i).length ≤ 10) (h2 : T.2.length + 10 ≤ 300) (hP : zPB D Y G b s.heap.size T H) (hS : va_S A s.heap H locs) (hsz : ls.size = nL) (hrest : (rest.map fun v => v.category).sum ≤ 8) (hdg : decode cc pc = .ok (.invokevirtual index, 3)) (hd : 6 ≤ d) (hf : cells + 1 ≤ mc ∧ slots + 600 ≤ ms)
    (kk : ∀ (H1 : Heap) (locs1 : List Loc), zPB D Y G b s.heap.size (T.1, T.2 ++ zltr i) H1 → va_S A s.heap H1 locs1 → W p l e (zR d mc ms) s m args below meth c H1 locs1 (cells + 1) (slots + 600) Q (F0 m (pc + 3) ls (.ref b :: rest))) : W p l e (zR d mc ms) s m args below meth c H locs cells slots Q (F0 m pc ls (.ref (S i) :: .ref b :: rest)) := by
  have hK := F.2.2.2.2.2.2.2.1
  have hA := F.2.2.2.2.2.2.2.2
  exact z_bV (As := [.ref (S i)]) (B := fun U => zSB D Y (fun q => s.heap.size ≤ q) b 0 T.2 U.heap ∧ zS1 (zbytes i).length (fun j => (zbytes i).getD j 0) (S i) (V i) (fun q => s.heap.size ≤ q) U U.heap) F X hc rfl hlink (cj_J4_append_15ec4 l F.2.2.2.2.2.1 D Y S V _ b 0 T.2 (zltr i) (S i) (V i) (zbytes i).length (fun j => (zbytes i).getD j 0) (zltr_lt i hi) (zltr_len i) (fun j hj => zltr_get hj) (by omega) (zltr_fit hi)) (fun _ U _ _ h => ⟨h.1, zS1.go h.2 (Vm.Alike.refl _) (fun _ _ _ => rfl)⟩)
    (fun U hU hW => ⟨by rw [hU]; exact hP.2, by rw [hU]; exact ((hK.2.2.2.1 i hi).go hW.alike hS.2.1).narrow (fun q h => hA q h)⟩) hP hS rfl hsz hrest hdg hd hf rfl kk
end ZRG
