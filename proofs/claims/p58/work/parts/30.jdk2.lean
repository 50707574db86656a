/-! TEXTS BEING BUILT: tools -/
/-- the bytes a begin with the letters t -/
def zLat (t : List Nat) (a : Nat → Int32) : Prop := (∀ x ∈ t, x < 128) ∧ ∀ j, j < t.length → a j = nI (t.getD j 0)
theorem zLat.keep {t : List Nat} {a a' : Nat → Int32} (h : zLat t a) (hk : ∀ j, j < t.length → a' j = a j) : zLat t a' := ⟨h.1, fun j hj => by rw [hk j hj]; exact h.2 j hj⟩
theorem zLat.app {t u : List Nat} {a a' : Nat → Int32} (h : zLat t a) (hk : ∀ j, j < t.length → a' j = a j) (hu : ∀ x ∈ u, x < 128) (hs : ∀ i, i < u.length → a' (t.length + i) = nI (u.getD i 0)) : zLat (t ++ u) a' := by
  refine ⟨fun x hx => ?_, fun j hj => ?_⟩
  · rcases List.mem_append.mp hx with hx | hx
    · exact h.1 x hx
    · exact hu x hx
  · rw [List.length_append] at hj
    by_cases e : j < t.length
    · rw [hk j e, h.2 j e, List.getD_eq_getElem?_getD, List.getD_eq_getElem?_getD, List.getElem?_append_left e]
    · obtain ⟨i, rfl⟩ : ∃ i, j = t.length + i := ⟨j - t.length, by omega⟩
      rw [hs i (by omega), List.getD_eq_getElem?_getD, List.getD_eq_getElem?_getD, List.getElem?_append_right (by omega), Nat.add_sub_cancel_left]
/-- the cells of a builder b: its object, its bytes at q -/
def zsb (Y : Nat → ClassId) (b q cap : Nat) (mL n : Int32) (a : Nat → Int32) : va_W := [(b, .inr (4, [.ref q, .int 0, .int mL, .int n])), (q, .inl (Y 1, cap, .inl a))]
/-- a builder that holds the text t -/
def zSB (D : va_G) (Y : Nat → ClassId) (A : Nat → Prop) (b : Nat) (mL : Int32) (t : List Nat) (H : Heap) : Prop := ∃ (q cap : Nat) (a : Nat → Int32), va_P D vwCl (zsb Y b q cap mL (nI t.length) a) H ∧ va_D A (zsb Y b q cap mL (nI t.length) a) ∧ cap ≤ 600 ∧ t.length ≤ cap ∧ zLat t a ∧ sb_Fit a
/-- the part of a world that a callee gets, and what is new -/
def zA1 (wc : va_W) (sz : Nat) : Nat → Prop := fun r => (∃ p, p ∈ wc ∧ r = p.1) ∨ sz ≤ r
theorem zA1_AB {A : Nat → Prop} {wr wc : va_W} {sz : Nat} (hD : va_D A (wr ++ wc)) (hA : ∀ q, sz ≤ q → A q) : ∀ q, zA1 wc sz q → A q := fun q h => by
  rcases h with ⟨p, hp, rfl⟩ | h
  · obtain ⟨k, hk⟩ := List.getElem?_of_mem (List.mem_append_right wr hp)
    exact hD.2 k p hk
  · exact hA q h
theorem zA1_D {A : Nat → Prop} {wr wc : va_W} {sz : Nat} (hD : va_D A (wr ++ wc)) : va_D (zA1 wc sz) wc := by
  refine ⟨fun i j p q hi hj e => ?_, fun k q hk => Or.inl ⟨q, List.mem_of_getElem? hk, rfl⟩⟩
  have := hD.1 (wr.length + i) (wr.length + j) p q (by rw [List.getElem?_append_right (by omega), Nat.add_sub_cancel_left]; exact hi) (by rw [List.getElem?_append_right (by omega), Nat.add_sub_cancel_left]; exact hj) e
  omega
/-- behind a call that got the part wc: the rest wr stands beside what came back -/
theorem zjoin {A : Nat → Prop} {D : va_G} {wr wc w1 : va_W} {H H1 : Heap} (hP : va_P D vwCl (wr ++ wc) H) (hD : va_D A (wr ++ wc)) (hA : ∀ q, H.size ≤ q → A q) (hk : ∀ q : Nat, q < H.size → ¬ zA1 wc H.size q → H1[q]? = H[q]?) (hP1 : va_P D vwCl w1 H1) (hD1 : va_D (zA1 wc H.size) w1) : va_P D vwCl (wr ++ w1) H1 ∧ va_D A (wr ++ w1) := by
  have hr : ∀ (k : Nat) (p : Nat × va_E), wr[k]? = some p → p.1 < H.size ∧ ¬ zA1 wc H.size p.1 := fun k p hp => by
    have hl := (List.getElem?_eq_some_iff.mp hp).1
    have hp' : (wr ++ wc)[k]? = some p := by rw [List.getElem?_append_left hl]; exact hp
    have h1 : p.1 < H.size := (hP k p hp').lt
    refine ⟨h1, fun h => ?_⟩
    rcases h with ⟨x, hx, e⟩ | h
    · obtain ⟨i, hi⟩ := List.getElem?_of_mem hx
      have := hD.1 k (wr.length + i) p x hp' (by rw [List.getElem?_append_right (by omega), Nat.add_sub_cancel_left]; exact hi) e
      omega
    · omega
  refine ⟨va_P.app (fun k p hp => ?_) hP1, va_D.app ⟨fun i j p q hi hj e => ?_, fun k p hp => ?_⟩ ⟨hD1.1, fun k p hp => zA1_AB hD hA _ (hD1.2 k p hp)⟩ (fun i j p q hi hj e => ?_)⟩
  · have hl := (List.getElem?_eq_some_iff.mp hp).1
    exact (hP k p (by rw [List.getElem?_append_left hl]; exact hp)).kept (hk _ (hr k p hp).1 (hr k p hp).2)
  · have hi' := (List.getElem?_eq_some_iff.mp hi).1
    have hj' := (List.getElem?_eq_some_iff.mp hj).1
    exact hD.1 i j p q (by rw [List.getElem?_append_left hi']; exact hi) (by rw [List.getElem?_append_left hj']; exact hj) e
  · have hl := (List.getElem?_eq_some_iff.mp hp).1
    exact hD.2 k p (by rw [List.getElem?_append_left hl]; exact hp)
  · exact (hr i p hi).2 (by rw [e]; exact hD1.2 j q hj)
section ZCT2
variable {p : Program} {l : Launch} {e : Env} {R : Room} {s : State} {m : MethodId} {args : Array Value} {below : List Frame} {meth : Method} {c : Code} {H : Heap} {locs : List Loc} {cells slots : Nat} {Q : State → Prop}
variable {cc : ByteArray} {pc : Nat} {ls : Array Slot} {rest : List Value} {D : va_G} {cl : List vw_C} {A : Nat → Prop} {a : Nat} {tys : List (ClassId × FieldType)} {ws : va_W}
/-- System.arraycopy out of a table of bytes (a text's) into bytes of the world (the proof follows the kit's for the law's own script) -/
theorem z_copyT (hexec : p.tables.exec = Jvm.exec) (hb : c.code = cc) (hml : c.maxLocals = ls.size) {own : String} {index : Nat} (hown : s.vm.findClass own = some m.cls) (hlink : (Cond.methodLink own index arraycopyName).before args s = true) (hnat : (Cond.native arraycopyName).before args s = true) (hstat : (Cond.static arraycopyName).before args s = true) (hini : (Cond.initialized "java/lang/System").before args s = true)
    (hK : va_K D cl tys s) (hP : va_P D cl ws H) (hD : va_D A ws) (hS : va_S A s.heap H locs) {b0 n0 : Nat} {f : Nat → Int32} (hX : va_T .byte b0 n0 (fun j => .int (f j)) A s s.heap) (hf : sb_Fit f) (q1 t1 : Nat) {c1 : ClassId} {n1 : Nat} {g : Nat → Int32} (ha1 : ws[q1]? = some (a, .inl (c1, n1, .inl g))) (ht1 : tys[t1]? = some (c1, .byte))
    {sp dp n : Int32} (h1 : ¬ sp < 0) (h2 : ¬ dp < 0) (h3 : ¬ n < 0) (h4 : sp.toNatClampNeg + n.toNatClampNeg ≤ n0) (h5 : dp.toNatClampNeg + n.toNatClampNeg ≤ n1)
    (hframes : 1 ≤ R.frames) (hlocals : (rest.map fun v => v.category).sum + (nativeFrameWords "java/lang/System" "arraycopy" 5 + 11) ≤ R.locals) (hdg : decode cc pc = .ok (.invokestatic index, 3))
    (kk : ∀ (H1 : Heap) (locs1 : List Loc), va_P D cl (ws.set q1 (a, .inl (c1, n1, .inl (va_cpy f g sp.toNatClampNeg dp.toNatClampNeg n.toNatClampNeg)))) H1 → va_D A (ws.set q1 (a, .inl (c1, n1, .inl (va_cpy f g sp.toNatClampNeg dp.toNatClampNeg n.toNatClampNeg)))) → va_S A s.heap H1 locs1 → W p l e R s m args below meth c H1 locs1 cells slots Q (F0 m (pc + 3) ls rest)) : W p l e R s m args below meth c H locs cells slots Q (F0 m pc ls (.int n :: .int dp :: .ref a :: .int sp :: .ref b0 :: rest)) := by
  have nn : ∀ z : Int32, ¬ z < 0 → z.toInt = (z.toNatClampNeg : Int) := by
    intro z hz
    have hz0 : (0 : Int) ≤ z.toInt := by
      have := Int32.not_lt.mp hz
      simpa using Int32.le_iff_toInt_le.mp this
    show z.toInt = ((z.toInt.toNat : Nat) : Int)
    omega
  intro T hT X
  obtain ⟨scr, hs1, hs2, hs3, hs4, hs4', hs5, hbA⟩ := hX
  have hbl : b0 < s.heap.size := (Array.getElem?_eq_some_iff.mp hs1).1
  have hc0 : H[b0]? = some scr := by rw [hS.2.1 b0 hbl hbA]; exact hs1
  have hc1 : H[a]? = some (vp_cell c1 (n1, .inl g)) := hP q1 _ ha1
  obtain ⟨hs6, k0, hk0, cm0, hkk0⟩ := hs2
  obtain ⟨-, k1, hk1, cm1, hkk1⟩ := (hK.2 t1 _ ht1).1 n1 (fun j => .int (g j))
  obtain ⟨vm', X', step⟩ := X.arraycopy hexec hown hlink hnat hstat hini (src := b0) (dst := a) (cs := scr) (cd := vp_cell c1 (n1, .inl g)) (srcPos := sp) (destPos := dp) (n := n) (by rw [hT]; exact hc0) (by rw [hT]; exact hc1)
    hs6 (fun _ h => by cases h) hs3 (fun h => by cases h) hk0 hk1 hkk0 hkk1 (by simp [refKind]) h1 h2 h3
    (by rw [nn sp h1, nn n h3]; omega)
    (by rw [nn dp h2, nn n h3]; show ¬ _ > ((arrV c1 n1 (fun j => .int (g j))).slots.size : Int); rw [arrV_size]; omega)
    (fun vm₁ _ i hi => by
      have e : scr.slots.getD (sp.toNatClampNeg + i) .null = .int (f (sp.toNatClampNeg + i)) := by
        rw [Array.getD_eq_getD_getElem?, hs5 _ (by omega)]
        rfl
      refine ⟨?_, ?_⟩
      · rw [e]
        exact hf _
      · rw [e]
        exact trivial)
    (g := F0 m pc ls (.int n :: .int dp :: .ref a :: .int sp :: .ref b0 :: rest)) rfl (by rw [hml]) (rest := rest) rfl (by rw [hb]; exact hdg) hframes (by show 2 * 0 + _ + _ ≤ _; omega)
  have e1 : copied scr (vp_cell c1 (n1, .inl g)) sp dp n = vp_cell c1 (n1, .inl (va_cpy f g sp.toNatClampNeg dp.toNatClampNeg n.toNatClampNeg)) := va_copiedX (fun z => .int z) scr c1 f g hs5 h4
  rw [e1] at X' step
  have hl : a < H.size := (Array.getElem?_eq_some_iff.mp hc1).1
  have hheap : ((T.setVm vm').setCell a (vp_cell c1 (n1, .inl (va_cpy f g sp.toNatClampNeg dp.toNatClampNeg n.toNatClampNeg)))).heap = H.setIfInBounds a (vp_cell c1 (n1, .inl (va_cpy f g sp.toNatClampNeg dp.toNatClampNeg n.toNatClampNeg))) := by rw [← hT]; rfl
  have oq : ∀ q : Nat, q ≠ a → (H.setIfInBounds a (vp_cell c1 (n1, .inl (va_cpy f g sp.toNatClampNeg dp.toNatClampNeg n.toNatClampNeg))))[q]? = H[q]? := fun q hq => by simp [Array.getElem?_setIfInBounds, Ne.symm hq]
  obtain ⟨t, a1, b1⟩ := kk _ _ (hP.set hD ha1 (show (H.setIfInBounds a _)[a]? = some _ by simp [Array.getElem?_setIfInBounds, hl]) oq) (hD.set ha1) ⟨by simp; exact hS.1, fun q g1 g2 => by
      rw [oq q (fun e => g2 (by rw [e]; exact hD.2 q1 _ ha1))]
      exact hS.2.1 q g1 g2, fun q hq => by
      rcases List.mem_append.mp hq with h | h
      · exact hS.2.2 q h
      · obtain ⟨z, -, hz⟩ := List.mem_map.mp h
        rw [← hz]
        exact hD.2 q1 _ ha1⟩ _ hheap X'
  exact ⟨t, step t a1, b1⟩
end ZCT2
/-- a number's letters -/
def zdig (v : Nat) : List Nat := if v < 10 then [48 + v] else if v < 100 then [48 + v / 10, 48 + v % 10] else if v < 1000 then [48 + v / 100, 48 + v / 10 % 10, 48 + v % 10] else [48 + v / 1000, 48 + v / 100 % 10, 48 + v / 10 % 10, 48 + v % 10]
theorem zdig_lt {v : Nat} (h : v < 10000) : ∀ x ∈ zdig v, x < 128 := by
  unfold zdig
  intro x hx
  split at hx
  · simp only [List.mem_cons, List.not_mem_nil, or_false] at hx; omega
  · split at hx
    · simp only [List.mem_cons, List.not_mem_nil, or_false] at hx; omega
    · split at hx <;> (simp only [List.mem_cons, List.not_mem_nil, or_false] at hx; omega)
theorem zdig_len {v : Nat} : 1 ≤ (zdig v).length ∧ (zdig v).length ≤ 4 := by
  unfold zdig
  constructor <;> (repeat' split) <;> simp only [List.length_cons, List.length_nil] <;> omega
theorem zsmall {c : Nat} (h : c < 128) : (nI c).toInt8.toInt32 = nI c := by
  have : ∀ c, c < 128 → (nI c).toInt8.toInt32 = nI c := by decide +kernel
  exact this c h
theorem zsubl {k m : Nat} (h : k ≤ m) (hm : m < 65536) : nI k - nI m ≤ 0 := by
  rw [Int32.le_iff_toInt_le, pk_sub_toInt (by omega) (by omega), Int32.toInt_zero]
  omega
theorem zsubn {k m : Nat} (h : m < k) (hk : k < 65536) : ¬ nI k - nI m ≤ 0 := by
  rw [Int32.le_iff_toInt_le, pk_sub_toInt (by omega) (by omega), Int32.toInt_zero]
  omega
