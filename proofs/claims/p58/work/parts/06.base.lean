/-! THE BASE: one typed abstract heap, one contract form, derived rows over it. -/
abbrev zT : Type := (Nat → Nat → Nat → Int32) × (Nat → Nat → Nat → Int32)
def zWS : List Cond := lw_tbl.filter goodWord
theorem zws_in {w : Cond} (n : Nat) (h : lw_tbl[n]? = some w) (hg : goodWord w = true) : w ∈ zWS := List.mem_filter.mpr ⟨List.mem_of_getElem? h, hg⟩
theorem zws_good : ∀ w ∈ zWS, (w.onTables && w.keeps) = true ∨ ∃ ty, w = .arrayClass ty := fun _ h => good_of_word (List.mem_filter.mp h).2
theorem zgood {c c' : Cond} (h : c' ∈ zWS) : GoodIn (c :: zWS) (c' :: zWS) := fun w hw => by
  rcases List.mem_cons.mp hw with rfl | hw
  · exact ⟨List.mem_cons_of_mem _ h, zws_good _ h⟩
  · exact ⟨List.mem_cons_of_mem _ hw, zws_good _ hw⟩
def zR (d mc ms : Nat) : Room := { frames := d, cells := mc, slots := ms, locals := 37 * d }
/-- length of the array (κ, ι) -/
def zlen (w κ ι : Nat) : Nat := if κ = 0 then (if ι = 3 then 32 else if ι = 4 then 600 else if ι = 5 then 2 else if ι = 6 then 10 else if ι = 8 then w else 2) else if κ = 2 then 6 else if κ = 3 then 4 else 10
def zf3 (G : Nat → Nat → Nat) (T : zT) : List Value := [.ref (G 0 3), .int (T.1 0 0 1), .int (T.1 0 0 2), .int (T.1 0 0 3), .ref (G 1 0), .ref (G 1 1), .ref (G 0 1), .ref (G 0 2), .ref (G 0 7), .ref (G 0 5)]
def zf1 (G : Nat → Nat → Nat) (T : zT) : List Value := [.ref (G 1 2), .int (T.1 0 1 1), .int (T.1 0 1 2), .int (T.1 0 1 3), .ref (G 0 4), .int (T.1 0 1 5), .int (T.1 0 1 6), .int (T.1 0 1 7), .int (T.1 0 1 8)]
def zf0 (G : Nat → Nat → Nat) (T : zT) : List Value := [.ref (G 0 6), .int (T.1 0 2 1), .int (T.1 0 2 2)]
def zf2 (G : Nat → Nat → Nat) (T : zT) (ι : Nat) : List Value := [.int (T.1 1 ι 0), .int (T.1 1 ι 1), .int (T.1 1 ι 2), .int (T.1 1 ι 3), .int (T.1 1 ι 4), .int (T.1 1 ι 5), .int (T.1 1 ι 6), .int (T.1 1 ι 7), .int (T.1 1 ι 8), .int (T.1 1 ι 9), .ref (G 2 ι), .ref (G 3 ι), .ref (G 4 ι), .ref (G 5 ι), .ref (G 6 ι), .ref (G 7 ι), .ref (G 8 ι), .ref (G 9 ι), .ref (G 10 ι), .ref (G 11 ι)]
/-- what the cell (κ, ι) holds: kind 0: 0 the object, 1 parser, 2 history, 3 output, 4 buffer, 5 isSaved, 6 states, 7 saved, 8 (worlds w ≥ 1): an int array of length w of the law's own; kind 1: registries (0 now, 1 forecast, 2 result, 3.. states, 13.. saved); kind 2 + j: their arrays -/
def zcell (w : Nat) (Y : Nat → ClassId) (G : Nat → Nat → Nat) (T : zT) (κ ι : Nat) : va_E :=
    if κ = 0 then
      if ι = 0 then .inr (3, zf3 G T)
      else if ι = 1 then .inr (1, zf1 G T)
      else if ι = 2 then .inr (0, zf0 G T)
      else if ι = 6 then .inl (Y 3, 10, .inr (.inr (.inr (.inr (fun i => some (G 1 (3 + i)))))))
      else if ι = 7 then .inl (Y 3, 2, .inr (.inr (.inr (.inr (fun i => some (G 1 (13 + i)))))))
      else if ι = 5 then .inl (Y 2, 2, .inl (T.2 0 5))
      else if ι = 8 then .inl (Y 0, w, .inl (T.2 0 8))
      else .inl (Y 1, zlen 0 0 ι, .inl (T.2 0 ι))
    else if κ = 1 then .inr (2, zf2 G T ι)
    else .inl (Y 0, zlen 0 κ ι, .inl (T.2 κ ι))
def zV (w κ ι : Nat) : Prop := (κ = 0 ∧ (ι < 8 ∨ (ι = 8 ∧ w ≠ 0))) ∨ (1 ≤ κ ∧ κ ≤ 11 ∧ ι < 15)
theorem zV_0 {w ι : Nat} (h : ι < 8) : zV w 0 ι := Or.inl ⟨rfl, Or.inl h⟩
theorem zV_r {w κ ι : Nat} (h1 : 1 ≤ κ) (h2 : κ ≤ 11) (h : ι < 15) : zV w κ ι := Or.inr ⟨h1, h2, h⟩
theorem zV_8 {w : Nat} (h : w ≠ 0) : zV w 0 8 := Or.inl ⟨rfl, Or.inr ⟨rfl, h⟩⟩
def zP (w : Nat) (D : va_G) (Y : Nat → ClassId) (G : Nat → Nat → Nat) (T : zT) (H : Heap) : Prop := ∀ κ ι, zV w κ ι → va_at D vwCl (G κ ι, zcell w Y G T κ ι) H
def zG (w : Nat) (G : Nat → Nat → Nat) (A : Nat → Prop) : Prop := (∀ κ ι κ' ι', zV w κ ι → zV w κ' ι' → G κ ι = G κ' ι' → κ = κ' ∧ ι = ι') ∧ ∀ κ ι, zV w κ ι → A (G κ ι)
/-- an int field, an array's contents, written -/
def wI (T : zT) (κ ι k : Nat) (v : Int32) : zT := (fun a b c => if a = κ ∧ b = ι ∧ c = k then v else T.1 a b c, T.2)
def wA (T : zT) (κ ι : Nat) (f : Nat → Int32) : zT := (T.1, fun a b => if a = κ ∧ b = ι then f else T.2 a b)
/-- the claim's own strings: 30 of them, by their places; the first 12 with their contents -/
def zstrs : List (String × Nat × String) := [("InventedBirthdays", 49, "registry 7 12; garden 4; garden 2; child ada 2 3 4 0; child ben 2 9 1 0; child cleo 5 2 6 1; cakes 2 1; cakes 3 2; birthday ada 1 5; draw ben; birthday cleo 1 5; days 4"), ("InventedBirthdays$Parser", 92, "registry"), ("InventedBirthdays$Parser", 54, "garden"), ("InventedBirthdays$Parser", 63, "child"), ("InventedBirthdays$Parser", 68, "birthday"), ("InventedBirthdays$Parser", 73, "draw"), ("InventedBirthdays$Parser", 78, "cakes"), ("InventedBirthdays$Parser", 83, "days"), ("InventedBirthdaysLaw", 71, "registry "), ("InventedBirthdaysLaw", 86, ";garden "), ("InventedBirthdaysLaw", 91, ";child "), ("InventedBirthdaysLaw", 93, ";cakes "), ("InventedBirthdays", 322, "slot is neither 0 nor 1"), ("InventedBirthdays", 289, "nothing is saved in the slot"), ("InventedBirthdays", 83, "the input buffer is full"), ("InventedBirthdays", 93, "there is no such length of the input"), ("InventedBirthdays", 107, "the text has an error"), ("InventedBirthdays", 294, "there is no change to undo"), ("InventedBirthdays", 247, "days is out of range"), ("InventedBirthdays", 252, "the year would exceed 99"), ("InventedBirthdays", 318, "there is no such child"), ("InventedBirthdays", 257, "no date is found"), ("InventedBirthdays", 207, "there is no such date"), ("InventedBirthdays", 262, "there is an obstacle to this date"), ("InventedBirthdays", 320, "there is no such garden"), ("InventedBirthdays", 268, "there is an obstacle to this garden"), ("InventedBirthdays", 270, "number is out of range"), ("InventedBirthdays", 272, "the stock would exceed 9999"), ("InventedBirthdays", 324, "kind is out of range"), ("InventedBirthdays", 274, "the stock would exceed 99")]
/-- the bytes of a string -/
def zbytes (i : Nat) : List Int32 := ((zstrs.getD i ("", 0, "")).2.2.toList.map fun ch => nI ch.toNat)
def zS1 (len : Nat) (byt : Nat → Int32) (q v : Nat) (A : Nat → Prop) (U : State) (H : Heap) : Prop := va_O "java/lang/String" q A U H ∧ va_OF "java/lang/String" "coder" "B" (.int 0) q A U H ∧ va_OF "java/lang/String" "value" "[B" (.ref v) q A U H ∧ va_T .byte v len (fun j => .int (byt j)) A U H
theorem zS1.go {len : Nat} {byt : Nat → Int32} {q v : Nat} {A : Nat → Prop} {u U : State} {H H1 : Heap} (h : zS1 len byt q v A u H) (hvm : u.vm.Alike U.vm) (hq : ∀ a : Nat, a < H.size → ¬ A a → H1[a]? = H[a]?) : zS1 len byt q v A U H1 :=
  ⟨va_O.moved hvm (h.1.kept hq), va_OF.moved hvm (h.2.1.kept hq), va_OF.moved hvm (h.2.2.1.kept hq), va_T.moved hvm (h.2.2.2.kept hq)⟩
/-- the nest words that the class's calls need -/
def zNest : List (String × Nat × MethodName) := [(RX3, 19, yX2_init), (RX3, 29, yX1_init), (RX1, 11, yX2_init), (RX0, 17, yX2_init), (RX2, 83, yX3_setCell), (RX2, 87, yX3_cell), (RX1, 126, yX3_dateOf), (RX1, 133, yX3_cell), (RX2, 91, yX3_countOf), (RX1, 144, yX3_setCell), (RX2, 99, yX3_seedAfter), (RX1, 157, yX3_addToCell), (RX2, 113, yX3_addToCell), (RX2, 79, yX3_copyRow)]
/-- words that a throw needs, that calls don't keep of themselves -/
def zDecl : List MethodName := [⟨"java/lang/RuntimeException", "<init>", "()V"⟩, ⟨"java/lang/RuntimeException", "<init>", "(Ljava/lang/String;)V"⟩, ⟨"java/lang/Exception", "<init>", "()V"⟩, ⟨"java/lang/Exception", "<init>", "(Ljava/lang/String;)V"⟩, ⟨"java/lang/Throwable", "<init>", "()V"⟩, ⟨"java/lang/Throwable", "<init>", "(Ljava/lang/String;)V"⟩]
def zCast : List String := ["java/lang/IllegalStateException", "java/lang/IllegalArgumentException", "java/lang/IndexOutOfBoundsException"]
/-- pairs of names of which the first is not of the second's kind -/
def zNcs : List (String × String) := [("java/lang/IllegalArgumentException", "java/lang/IllegalStateException"), ("java/lang/IllegalStateException", "java/lang/IllegalArgumentException"), ("java/lang/IllegalArgumentException", "java/lang/IndexOutOfBoundsException"), ("java/lang/IndexOutOfBoundsException", "java/lang/IllegalArgumentException"), ("java/lang/IllegalStateException", "java/lang/IndexOutOfBoundsException"), ("java/lang/IndexOutOfBoundsException", "java/lang/IllegalStateException")]
abbrev ztys (Y : Nat → ClassId) : List (ClassId × FieldType) := [(Y 0, .int), (Y 1, .byte), (Y 2, .boolean), (Y 3, .object RX2)]
/-- what every method of the claim may take as given of tables and constants -/
def zK (D : va_G) (Y : Nat → ClassId) (S V : Nat → Nat) (A : Nat → Prop) (U : State) (H : Heap) : Prop :=
  va_K D vwCl (ztys Y) U ∧ (∀ q ∈ zNest, va_Nw (.methodLinkNest q.1 q.2.1 q.2.2 "InventedBirthdays") U) ∧ (∀ i q, zstrs[i]? = some q → vk_R q.1 q.2.1 q.2.2 (S i) U) ∧
  (∀ i, i < 12 → zS1 (zbytes i).length (fun j => (zbytes i).getD j 0) (S i) (V i) A U H) ∧
  vx_Zq Bundle.tN "UNASSIGNED_STACK" Bundle.steD A U H ∧ vx_Zq Bundle.tN "SUPPRESSED_SENTINEL" Bundle.listD A U H ∧
  va_Z "java/lang/String" "COMPACT_STRINGS" "Z" (.int 1) A U H ∧ va_Zq "jdk/internal/util/Preconditions" "SIOOBE_FORMATTER" "Ljava/util/function/BiFunction;" A U H ∧ (∀ i, V i = S (100 + i)) ∧ (∀ y ∈ zDecl, va_Nw (.declares y) U) ∧ (∀ q ∈ zCast, va_Nw (.castable q q) U) ∧ ∀ q ∈ zNcs, va_Nc q.1 q.2 U
theorem zK.go {D : va_G} {Y : Nat → ClassId} {S V : Nat → Nat} {A : Nat → Prop} {u U : State} {H H1 : Heap} (h : zK D Y S V A u H) (hW : u.WarmedH U.vm) (hq : ∀ a : Nat, a < H.size → ¬ A a → H1[a]? = H[a]?) : zK D Y S V A U H1 := by
  obtain ⟨h1, h2, h3, h4, h5, h6, h7, h8, h9, h10, h11⟩ := h
  have hvm := hW.alike
  exact ⟨va_K.moved hvm h1, fun q hq1 => va_Nw.warmM hW (h2 q hq1), fun i q hi => vk_R.warm hW (h3 i q hi), fun i hi => (h4 i hi).go hvm hq, vx_Zq.moved hvm (h5.kept hq), vx_Zq.moved hvm (h6.kept hq), va_Z.moved hvm (h7.kept hq), va_Zq.moved hvm (h8.kept hq), h9, fun y hy => va_Nw.warmD hW (h10 y hy), fun q hq1 => va_Nw.warmC hW (h11.1 q hq1), fun q hq1 => (h11.2 q hq1).moved hvm⟩
theorem zK.same {D : va_G} {Y : Nat → ClassId} {S V : Nat → Nat} {A : Nat → Prop} {u U : State} {H : Heap} (h : zK D Y S V A u H) (hv : U.vm = u.vm) : zK D Y S V A U H := by
  obtain ⟨h1, h2, h3, h4, h5, h6, h7, h8, h9, h10, h11⟩ := h
  have hvm : u.vm.Alike U.vm := by rw [hv]; exact Vm.Alike.refl u.vm
  exact ⟨va_K.moved hvm h1, fun q hq1 => va_Nw.same rfl hv.symm (h2 q hq1), fun i q hi => vk_R.same hv (h3 i q hi), fun i hi => (h4 i hi).go hvm (fun _ _ _ => rfl), vx_Zq.moved hvm h5, vx_Zq.moved hvm h6, va_Z.moved hvm h7, va_Zq.moved hvm h8, h9, fun y hy => va_Nw.same rfl hv.symm (h10 y hy), fun q hq1 => va_Nw.same rfl hv.symm (h11.1 q hq1), fun q hq1 => (h11.2 q hq1).moved hvm⟩
/-- the end of a method: the result is res, the heap holds T' -/
def zQ (w : Nat) (D : va_G) (Y : Nat → ClassId) (G : Nat → Nat → Nat) (A : Nat → Prop) (res : Option Value ⊕ String) (T' : zT) : Array Value → State → Outcome → State → Prop := fun _ st oc t => (∃ v, res = .inl v ∧ oc = .returned v ∧ zP w D Y G T' t.heap) ∧ va_F A st t
def zX (w : Nat) (D : va_G) (Y : Nat → ClassId) (G : Nat → Nat → Nat) (A : Nat → Prop) (res : Option Value ⊕ String) (T' : zT) : String → State → State → Prop := fun E st t => (res = .inr E ∧ zP w D Y G T' t.heap) ∧ va_F A st t
/-- what holds at a method's start -/
def zB (w : Nat) (D : va_G) (Y : Nat → ClassId) (S V : Nat → Nat) (G : Nat → Nat → Nat) (A : Nat → Prop) (T : zT) : State → Prop := fun U => zK D Y S V A U U.heap ∧ zP w D Y G T U.heap ∧ ∀ q, U.heap.size ≤ q → A q
/-- THE CONTRACT: from T, with the arguments as, method y ends with res, at T' -/
def zC (w : Nat) (y : MethodName) (cc : ByteArray) (maxL : Nat) (ret : Option FieldType) (d mc ms : Nat) (as : (Nat → Nat → Nat) → (Nat → Nat) → List Value) (T : zT) (res : (Nat → Nat → Nat) → Option Value ⊕ String) (T' : zT) : Prop :=
  ∀ (l : Launch) (D : va_G) (Y : Nat → ClassId) (S V : Nat → Nat) (G : Nat → Nat → Nat) (A : Nat → Prop), l.flags = flags0 → zG w G A →
    vx_Met l y (Cond.code y cc maxL ret :: zWS) (zR d mc ms) (va_Pc (as G S) (zB w D Y S V G A T)) (zQ w D Y G A (res G) T') (zX w D Y G A (res G) T') mc ms A
theorem zB_blind {w : Nat} {D : va_G} {Y : Nat → ClassId} {S V : Nat → Nat} {G : Nat → Nat → Nat} {A : Nat → Prop} {T : zT} {as : List Value} : FrameBlind (va_Pc as (zB w D Y S V G A T)) := fun a U g mk q => by
  obtain ⟨q0, q1, q2, q3⟩ := q
  exact ⟨q0, zK.same (U := U.calling g mk a) q1 rfl, q2, q3⟩
