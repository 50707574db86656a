/-! CONSTRUCTORS: tools -/
def zbl2 : List Value := [.int 0, .int 0, .int 0, .int 0, .int 0, .int 0, .int 0, .int 0, .int 0, .int 0, .null, .null, .null, .null, .null, .null, .null, .null, .null, .null]
def zro2 (g : Nat → Nat) : List Value := [.int 0, .int 0, .int 0, .int 0, .int 0, .int 0, .int 0, .int 0, .int 0, .int 0, .ref (g 1), .ref (g 2), .ref (g 3), .ref (g 4), .ref (g 5), .ref (g 6), .ref (g 7), .ref (g 8), .ref (g 9), .ref (g 10)]
/-- a new registry: its object and its ten rows -/
def zrl (Y : Nat → ClassId) (g : Nat → Nat) : va_W := [(g 0, .inr (2, zro2 g)), (g 1, .inl (Y 0, 6, .inl fun _ => 0)), (g 2, .inl (Y 0, 4, .inl fun _ => 0)), (g 3, .inl (Y 0, 10, .inl fun _ => 0)), (g 4, .inl (Y 0, 10, .inl fun _ => 0)), (g 5, .inl (Y 0, 10, .inl fun _ => 0)), (g 6, .inl (Y 0, 10, .inl fun _ => 0)), (g 7, .inl (Y 0, 10, .inl fun _ => 0)), (g 8, .inl (Y 0, 10, .inl fun _ => 0)), (g 9, .inl (Y 0, 10, .inl fun _ => 0)), (g 10, .inl (Y 0, 10, .inl fun _ => 0))]
/-- n registries side by side -/
def zfl (Y : Nat → ClassId) (r : Nat → Nat → Nat) : Nat → va_W
  | 0 => []
  | n + 1 => zfl Y r n ++ zrl Y (r n)
theorem zbl2_ok : ∀ j, j < 20 → defaultValue (tyX2 j) = vp_V zbl2 j := fun j hj => by
  rcases (by omega : j = 0 ∨ j = 1 ∨ j = 2 ∨ j = 3 ∨ j = 4 ∨ j = 5 ∨ j = 6 ∨ j = 7 ∨ j = 8 ∨ j = 9 ∨ j = 10 ∨ j = 11 ∨ j = 12 ∨ j = 13 ∨ j = 14 ∨ j = 15 ∨ j = 16 ∨ j = 17 ∨ j = 18 ∨ j = 19) with rfl | rfl | rfl | rfl | rfl | rfl | rfl | rfl | rfl | rfl | rfl | rfl | rfl | rfl | rfl | rfl | rfl | rfl | rfl | rfl <;> rfl
section ZFL
variable {Y : Nat → ClassId} {r r' h : Nat → Nat → Nat} {g : Nat → Nat}
theorem zfl_len : ∀ n, (zfl Y r n).length = 11 * n
  | 0 => rfl
  | n + 1 => by
    show (zfl Y r n ++ zrl Y (r n)).length = _
    rw [List.length_append, zfl_len n]
    show 11 * n + 11 = 11 * (n + 1)
    omega
theorem zfl_at : ∀ {n ι t : Nat}, ι < n → t ≤ 10 → (zfl Y r n)[11 * ι + t]? = (zrl Y (r ι))[t]?
  | n + 1, ι, t, hi, ht => by
    show (zfl Y r n ++ zrl Y (r n))[11 * ι + t]? = _
    by_cases e : ι = n
    · subst e
      rw [List.getElem?_append_right (by rw [zfl_len]; omega), zfl_len, Nat.add_sub_cancel_left]
    · rw [List.getElem?_append_left (by rw [zfl_len]; omega)]
      exact zfl_at (by omega) ht
theorem zfl_congr : ∀ {n : Nat}, (∀ j, j < n → r j = r' j) → zfl Y r n = zfl Y r' n
  | 0, _ => rfl
  | n + 1, e => by
    show zfl Y r n ++ zrl Y (r n) = zfl Y r' n ++ zrl Y (r' n)
    rw [zfl_congr (fun j hj => e j (by omega)), e n (by omega)]
theorem zfl_app (n : Nat) : ∀ m, zfl Y r n ++ zfl Y h m = zfl Y (fun j => if j < n then r j else h (j - n)) (n + m)
  | 0 => by
    show zfl Y r n ++ [] = zfl Y _ n
    rw [List.append_nil]
    exact zfl_congr (fun j hj => by rw [if_pos hj])
  | m + 1 => by
    show zfl Y r n ++ (zfl Y h m ++ zrl Y (h m)) = zfl Y _ (n + m) ++ zrl Y (if n + m < n then r (n + m) else h (n + m - n))
    rw [← List.append_assoc, zfl_app n m, if_neg (by omega), Nat.add_sub_cancel_left]
theorem zfl_snoc (n : Nat) : zfl Y r n ++ zrl Y g = zfl Y (fun j => if j < n then r j else g) (n + 1) := by
  show _ = zfl Y _ n ++ zrl Y (if n < n then r n else g)
  rw [if_neg (Nat.lt_irrefl n)]
  exact congrArg (· ++ zrl Y g) (zfl_congr (fun j hj => by rw [if_pos hj]))
end ZFL
theorem zD_iff {A : Nat → Prop} {ws : va_W} : va_D A ws ↔ (ws.map Prod.fst).Nodup ∧ ∀ q ∈ ws, A q.1 := by
  constructor
  · rintro ⟨h1, h2⟩
    refine ⟨List.pairwise_iff_getElem.mpr fun i j hi hj hij e => ?_, fun q hq => ?_⟩
    · rw [List.getElem_map, List.getElem_map] at e
      rw [List.length_map] at hi hj
      have := h1 i j _ _ (List.getElem?_eq_getElem hi) (List.getElem?_eq_getElem hj) e
      omega
    · obtain ⟨k, hk⟩ := List.getElem?_of_mem hq
      exact h2 k q hk
  · rintro ⟨h1, h2⟩
    refine ⟨fun i j p q hi hj e => ?_, fun k q hk => h2 q (List.mem_of_getElem? hk)⟩
    have a : (ws.map Prod.fst)[i]? = some p.1 := by rw [List.getElem?_map, hi]; rfl
    have b : (ws.map Prod.fst)[j]? = some p.1 := by rw [List.getElem?_map, hj, e]; rfl
    exact (List.getElem?_inj (List.getElem?_eq_some_iff.mp a).1 h1).mp (a.trans b.symm)
theorem zPD_perm {A : Nat → Prop} {D : va_G} {ws ws' : va_W} {H : Heap} (hP : va_P D vwCl ws H) (hD : va_D A ws) (p : ws.Perm ws') : va_P D vwCl ws' H ∧ va_D A ws' :=
  ⟨fun k q hk => by
    obtain ⟨i, hi⟩ := List.getElem?_of_mem (p.mem_iff.mpr (List.mem_of_getElem? hk))
    exact hP i q hi, zD_iff.mpr ⟨(p.map Prod.fst).nodup_iff.mp (zD_iff.mp hD).1, fun q hq => (zD_iff.mp hD).2 q (p.mem_iff.mpr hq)⟩⟩
theorem zfront (F R C X : va_W) : ((F ++ R) ++ (C ++ X)).Perm ((F ++ C) ++ (R ++ X)) := by
  rw [List.append_assoc, List.append_assoc]
  refine List.Perm.append_left F ?_
  rw [← List.append_assoc, ← List.append_assoc]
  exact List.Perm.append_right X List.perm_append_comm
theorem zfront1 (F R : va_W) (c : Nat × va_E) : ((F ++ R) ++ [c]).Perm ((F ++ [c]) ++ R) := by
  have h := zfront F R [c] []
  rw [List.append_nil, List.append_nil] at h
  exact h
/-- the array classes are known by their names -/
theorem zY_of {D : va_G} {Y : Nat → ClassId} {cA : ClassId} {U : State} (hK : va_K D vwCl (ztys Y) U) :
    (va_K D vwCl (ztys Y ++ [(cA, .int)]) U → cA = Y 0) ∧ (va_K D vwCl (ztys Y ++ [(cA, .byte)]) U → cA = Y 1) ∧ (va_K D vwCl (ztys Y ++ [(cA, .boolean)]) U → cA = Y 2) ∧ (va_K D vwCl (ztys Y ++ [(cA, .object RX2)]) U → cA = Y 3) := by
  refine ⟨fun h => ?_, fun h => ?_, fun h => ?_, fun h => ?_⟩
  · have a : U.vm.findClass _ = some cA := (h.2 4 _ rfl).2
    have b : U.vm.findClass _ = some (Y 0) := (hK.2 0 _ rfl).2
    exact Option.some.inj (a.symm.trans b)
  · have a : U.vm.findClass _ = some cA := (h.2 4 _ rfl).2
    have b : U.vm.findClass _ = some (Y 1) := (hK.2 1 _ rfl).2
    exact Option.some.inj (a.symm.trans b)
  · have a : U.vm.findClass _ = some cA := (h.2 4 _ rfl).2
    have b : U.vm.findClass _ = some (Y 2) := (hK.2 2 _ rfl).2
    exact Option.some.inj (a.symm.trans b)
  · obtain ⟨-, -, -, -, -, a⟩ : ∃ (kA : Class) (comp : ClassId), U.vm.classes[cA]? = some kA ∧ kA.kind = .array comp (.object RX2) ∧ U.vm.findClass RX2 = some comp ∧ U.vm.findClass ("[" ++ (FieldType.object RX2).toString) = some cA := (h.2 4 _ rfl).2
    obtain ⟨-, -, -, -, -, b⟩ : ∃ (kA : Class) (comp : ClassId), U.vm.classes[Y 3]? = some kA ∧ kA.kind = .array comp (.object RX2) ∧ U.vm.findClass RX2 = some comp ∧ U.vm.findClass ("[" ++ (FieldType.object RX2).toString) = some (Y 3) := (hK.2 3 _ rfl).2
    exact Option.some.inj (a.symm.trans b)
theorem zapp0 {α : Type} {ws : List α} {x : α} {t : List α} : (ws ++ (x :: t))[ws.length]? = some x := by
  rw [List.getElem?_append_right (Nat.le_refl _), Nat.sub_self]; rfl
/-- what a constructor's contract takes of the tables -/
def zkci (y : MethodName) (cc : ByteArray) (maxL : Nat) : Prop := Cond.instanceMethod y ∈ zWS ∧ Cond.initialized y.cls ∈ zWS ∧ Cond.code y cc maxL none ∈ zWS ∧ (y.cls ≠ "java/lang/invoke/MethodHandle" ∧ y.cls ≠ "java/lang/invoke/VarHandle") ∧ (parseMethodDescriptor y.desc).map (fun d => d.parameters.length) = some 0 ∧ y.name = "<init>" ∧ maxL ≤ 18
def zAs (h0 sz : Nat) : Nat → Prop := fun q => q = h0 ∨ sz ≤ q
/-- a constructor's contract: from the blank object at h0, over a heap of sz cells -/
def zCI (l : Launch) (y : MethodName) (cc : ByteArray) (maxL d mc ms : Nat) (h0 sz : Nat) (Pre : State → Prop) (PB : Heap → Prop) : Prop :=
  vx_Met l y (Cond.code y cc maxL none :: zWS) (zR d mc ms) (va_Pc [.ref h0] (fun U => Pre U ∧ U.heap.size = sz)) (fun _ st oc t => (oc = .returned none ∧ PB t.heap) ∧ va_F (zAs h0 sz) st t) (fun _ _ _ => False) mc ms (zAs h0 sz)
section ZCT
variable {p : Program} {l : Launch} {e : Env} {R : Room} {s : State} {m : MethodId} {args : Array Value} {below : List Frame} {meth : Method} {c : Code} {H : Heap} {locs : List Loc} {cells slots : Nat} {Q : State → Prop}
variable {cc : ByteArray} {pc : Nat} {ls : Array Slot} {rest st0 : List Value} {D : va_G} {Y : Nat → ClassId} {A A1 : Nat → Prop} {c0 : Cond} {d mc ms nL mc' ms' d' : Nat} {ws : va_W} {own : String}
theorem z_done {PB : Heap → Prop} (hr : vx_Run p l e R s m args below meth c H locs cells slots mc' ms' (F0 m pc ls st0) rest (fun st oc t => (oc = .returned none ∧ PB t.heap) ∧ va_F A1 st t) (fun _ _ _ => False) A1) (hS : va_S A s.heap H locs) (hAB : ∀ q, A1 q → A q)
    (kk : ∀ (H1 : Heap) (locs1 : List Loc), PB H1 → H.size ≤ H1.size → (∀ q : Nat, q < H.size → ¬ A1 q → H1[q]? = H[q]?) → va_S A s.heap H1 locs1 → W p l e R s m args below meth c H1 locs1 (cells + mc') (slots + ms') Q (F0 m (pc + 3) ls rest)) : W p l e R s m args below meth c H locs cells slots Q (F0 m pc ls st0) := by
  intro T hT X
  rcases hr T hT X with ⟨v', st₀, t, T1, L, h0, X', hL, e1, e2, ⟨⟨ho, hp⟩, hF⟩, st⟩ | ⟨q, st₀, t, T1, L, E, ce, h0, X', hL, e1, e2, hfalse, -⟩
  · cases ho
    obtain ⟨k1, k2, k3⟩ := vx_keep h0 e1 hS (fun q _ h => hAB q h) hAB hL hF
    obtain ⟨t2, a1, b1⟩ := kk T1.heap (locs ++ L) (by rw [e1]; exact hp) k1 k2 k3 T1 rfl X'
    exact ⟨t2, st t2 a1, b1⟩
  · exact hfalse.elim
/-- an object, new, and its constructor's run: its cells stand beside the rest -/
theorem z_newObj {α : Type} {ci N idx : Nat} {C : String} {TT : u_T} {tys : Nat → FieldType} {fs : List Value} (lst : Nat → α → va_W) (hx : p.tables.exec = Jvm.exec) (hb : c.code = cc) (hown : s.vm.findClass own = some m.cls) (hts : ∀ w ∈ c0 :: zWS, w.before args s = true) (hK : va_K D vwCl (ztys Y) s) (hin : ∀ w ∈ u_ws C TT N, w ∈ zWS) (hty : ∀ k, k < N → parseFieldDescriptor (TT k).2.2.1 = some (tys k)) (hcl : Cond.classLink own idx C ∈ zWS) (hinst : Cond.instantiable C N ∈ zWS) (hini : Cond.initialized C ∈ zWS) (hc : vwCl[ci]? = some (C, TT, N)) (hfs : ∀ j, j < N → defaultValue (tys j) = vp_V fs j) (hP : va_P D vwCl ws H) (hD : va_D A ws) (hS : va_S A s.heap H locs) (hA : ∀ q, s.heap.size ≤ q → A q) (h1 : cells + 1 ≤ R.cells) (h2 : slots + N ≤ R.slots) (d0 : decode cc pc = .ok (.new idx, 3)) (d3 : decode cc (pc + 3) = .ok (.dup, 1))
    (hrun : ∀ (q : Nat) (H1 : Heap) (locs1 : List Loc), va_S A s.heap H1 locs1 → va_at D vwCl (q, .inr (ci, fs)) H1 → vx_Run p l e R s m args below meth c H1 locs1 (cells + 1) (slots + N) mc' ms' (F0 m (pc + 4) ls (.ref q :: .ref q :: rest)) (.ref q :: rest) (fun st oc t => (oc = .returned none ∧ ∃ u, va_P D vwCl (lst q u) t.heap ∧ va_D (zAs q H1.size) (lst q u)) ∧ va_F (zAs q H1.size) st t) (fun _ _ _ => False) (zAs q H1.size))
    (kk : ∀ (q : Nat) (u : α) (H1 : Heap) (locs1 : List Loc), va_P D vwCl (ws ++ lst q u) H1 → va_D A (ws ++ lst q u) → va_S A s.heap H1 locs1 → W p l e R s m args below meth c H1 locs1 (cells + 1 + mc') (slots + N + ms') Q (F0 m (pc + 7) ls (.ref q :: rest))) : W p l e R s m args below meth c H locs cells slots Q (F0 m pc ls rest) := by
  have ok : ∀ w ∈ zWS, w.before args s = true := fun w h => hts w (List.mem_cons_of_mem _ h)
  refine va_new (ci := ci) (fs := fs) (C := C) (T := TT) (N := N) hx hb hts (fun w h => List.mem_cons_of_mem _ (hin w h)) tys hty hown (ok _ hcl) (ok _ hinst) (ok _ hini) hK hP hD hS hA hc hfs h1 h2 d0 (fun q H1 locsd hD1 hS1 => ?_)
  have hP1 := locsd
  refine lv_dup hx hb d3 rfl ?_
  have hq : va_at D vwCl (q, .inr (ci, fs)) H1 := hP1 ws.length _ zapp0
  have hql : q < H1.size := va_at.lt hq
  have hAq : A q := hD1.2 ws.length _ zapp0
  have hAB : ∀ r, zAs q H1.size r → A r := fun r h => by
    rcases h with rfl | h
    · exact hAq
    · exact hA r (Nat.le_trans hS1.1 h)
  refine z_done (PB := fun H9 => ∃ u, va_P D vwCl (lst q u) H9 ∧ va_D (zAs q H1.size) (lst q u)) (hrun q H1 _ hS1 hq) hS1 hAB (fun H2 locs2 hB hz hk hS2 => ?_)
  obtain ⟨u, hPg, hDg⟩ := hB
  have ap : ∀ (i : Nat) (x : Nat × va_E), ws[i]? = some x → x.1 < H1.size ∧ x.1 ≠ q := fun i x hi => by
    have hi' : (ws ++ [(q, .inr (ci, fs))])[i]? = some x := by
      rw [List.getElem?_append_left (List.getElem?_eq_some_iff.mp hi).1]; exact hi
    refine ⟨(hP1 i x hi').lt, fun e9 => ?_⟩
    have := hD1.1 i ws.length x _ hi' zapp0 e9
    have := (List.getElem?_eq_some_iff.mp hi).1
    omega
  refine kk q u H2 locs2 (va_P.app (fun k x hx0 => ?_) hPg) (va_D.app hD (hDg.weaken (fun k x _ h => hAB _ h)) (fun i j x y hx0 hy0 e9 => ?_)) hS2
  · obtain ⟨g1, g2⟩ := ap k x hx0
    have hi' : (ws ++ [(q, .inr (ci, fs))])[k]? = some x := by
      rw [List.getElem?_append_left (List.getElem?_eq_some_iff.mp hx0).1]; exact hx0
    exact (hP1 k x hi').kept (hk x.1 g1 (fun h => by rcases h with h | h; exact g2 h; omega))
  · obtain ⟨g1, g2⟩ := ap i x hx0
    rcases hDg.2 j y hy0 with h | h
    · exact g2 (e9.trans h)
    · rw [e9] at g1; omega
end ZCT
