/-! WHAT THE CLAIM GIVES OF THE START: the tables, the strings, the statics -/
theorem m_31 : Cond.initialized RX3 ∈ zWS := zws_in 31 (by decide +kernel) (by decide +kernel)
theorem m_54 : Cond.instantiable RX3 10 ∈ zWS := zws_in 54 (by decide +kernel) (by decide +kernel)
theorem m_746 : Cond.instantiable RJ4 4 ∈ zWS := zws_in 746 (by decide +kernel) (by decide +kernel)
theorem m_924 : Cond.instantiable RJ0 4 ∈ zWS := zws_in 924 (by decide +kernel) (by decide +kernel)
def ztm (i : Nat) : Term := Term.string (zstrs.getD i ("", 0, "")).1 (zstrs.getD i ("", 0, "")).2.1
def zvl (i : Nat) : Term := Term.field (ztm i) "java/lang/String" "value" "[B"
def zpp (i : Nat) : Nat := [241, 413, 425, 435, 444, 456, 464, 473, 999, 1012, 1024, 1035].getD i 0
def zdt (n : Bool) : Term := Term.static "java/lang/Integer" (if n then "DigitTens" else "DigitOnes") "[B"
def zdp (n : Bool) : Nat := if n then 115 else 12
def zdv (n : Bool) (j : Nat) : Int32 := nI (48 + if n then j / 10 else j % 10)
set_option maxRecDepth 100000 in
theorem z_exa : ∀ i, i < 30 → Cond.exactly (ztm i) "java/lang/String" ∈ flatC (Jvm.Cond.and given_1 narrow_1) := by decide +kernel
set_option maxRecDepth 100000 in
theorem z_co : ∀ i, i < 12 → (flatC (Jvm.Cond.and given_1 narrow_1))[zpp i + 1]? = some (Cond.eq (Term.field (ztm i) "java/lang/String" "coder" "B") (Term.int 0)) := by decide +kernel
set_option maxRecDepth 100000 in
theorem z_ar : ∀ i, i < 12 → (flatC (Jvm.Cond.and given_1 narrow_1))[zpp i + 2]? = some (Cond.arrayOf (zvl i) .byte) := by decide +kernel
set_option maxRecDepth 100000 in
theorem z_le : ∀ i, i < 12 → (flatC (Jvm.Cond.and given_1 narrow_1))[zpp i + 3]? = some (Cond.eq (Term.length (zvl i)) (Term.int (Int32.ofNat (zbytes i).length))) := by decide +kernel
set_option maxRecDepth 100000 in
theorem z_el : ∀ i, i < 12 → ∀ j, j < (zbytes i).length → (flatC (Jvm.Cond.and given_1 narrow_1))[zpp i + 4 + j]? = some (Cond.eq (Term.elem (zvl i) (Term.int (Int32.ofNat j))) (Term.int ((zbytes i).getD j 0))) := by decide +kernel
set_option maxRecDepth 100000 in
theorem z_dar : ∀ n : Bool, (flatC (Jvm.Cond.and given_1 narrow_1))[zdp n]? = some (Cond.arrayOf (zdt n) .byte) := by decide +kernel
set_option maxRecDepth 100000 in
theorem z_dle : ∀ n : Bool, (flatC (Jvm.Cond.and given_1 narrow_1))[zdp n + 1]? = some (Cond.eq (Term.length (zdt n)) (Term.int (Int32.ofNat 100))) := by decide +kernel
set_option maxRecDepth 100000 in
theorem z_del : ∀ n : Bool, ∀ j, j < 100 → (flatC (Jvm.Cond.and given_1 narrow_1))[zdp n + 2 + j]? = some (Cond.eq (Term.elem (zdt n) (Term.int (Int32.ofNat j))) (Term.int (zdv n j))) := by decide +kernel
set_option maxRecDepth 100000 in
theorem z_bl : ∀ i, i < 12 → (zbytes i).length < 2 ^ 31 := by decide +kernel
set_option maxRecDepth 100000 in
theorem z_sr : ∀ q ∈ zstrs, Cond.stringRef q.1 q.2.1 q.2.2 ∈ lw_tbl := by decide +kernel
set_option maxRecDepth 100000 in
theorem z_nest : ∀ q ∈ zNest, Cond.methodLinkNest q.1 q.2.1 q.2.2 "InventedBirthdays" ∈ lw_tbl := by decide +kernel
set_option maxRecDepth 100000 in
theorem z_dec : ∀ y ∈ zDecl, Cond.declares y ∈ lw_tbl := by decide +kernel
set_option maxRecDepth 100000 in
theorem z_cas : ∀ q ∈ zCast, Cond.castable q q ∈ lw_tbl := by decide +kernel
set_option maxRecDepth 100000 in
theorem z_ncs : ∀ q ∈ zNcs, Cond.not (Cond.castable q.1 q.2) ∈ flatC (Jvm.Cond.and given_1 narrow_1) := by decide +kernel
set_option maxRecDepth 100000 in
theorem z_st1 : Cond.laysStatic Bundle.tN "UNASSIGNED_STACK" Bundle.steD ∈ lw_tbl ∧ Cond.laysStatic Bundle.tN "SUPPRESSED_SENTINEL" Bundle.listD ∈ lw_tbl ∧ Cond.initialized Bundle.tN ∈ lw_tbl ∧ Cond.laysStatic "java/lang/String" "COMPACT_STRINGS" "Z" ∈ lw_tbl ∧ Cond.initialized "java/lang/String" ∈ lw_tbl ∧ Cond.laysStatic "jdk/internal/util/Preconditions" "SIOOBE_FORMATTER" "Ljava/util/function/BiFunction;" ∈ lw_tbl ∧ Cond.initialized "jdk/internal/util/Preconditions" ∈ lw_tbl := by decide +kernel
set_option maxRecDepth 100000 in
theorem z_st2 : Cond.isRef (Term.static Bundle.tN "UNASSIGNED_STACK" Bundle.steD) ∈ flatC (Jvm.Cond.and given_1 narrow_1) ∧ Cond.isRef (Term.static Bundle.tN "SUPPRESSED_SENTINEL" Bundle.listD) ∈ flatC (Jvm.Cond.and given_1 narrow_1) ∧ Cond.eq (Term.static "java/lang/String" "COMPACT_STRINGS" "Z") (Term.int 1) ∈ flatC (Jvm.Cond.and given_1 narrow_1) ∧ Cond.isRef (Term.static "jdk/internal/util/Preconditions" "SIOOBE_FORMATTER" "Ljava/util/function/BiFunction;") ∈ flatC (Jvm.Cond.and given_1 narrow_1) := by decide +kernel
set_option maxRecDepth 100000 in
theorem z_st3 : Cond.laysStatic "java/lang/Integer" "DigitOnes" "[B" ∈ lw_tbl ∧ Cond.laysStatic "java/lang/Integer" "DigitTens" "[B" ∈ lw_tbl ∧ Cond.initialized "java/lang/Integer" ∈ lw_tbl ∧ Cond.castable "[B" "java/lang/Cloneable" ∈ lw_tbl := by decide +kernel
set_option maxRecDepth 100000 in
theorem z_pri : ∀ y ∈ zPriv, Cond.privateMethod y ∈ lw_tbl ∧ Cond.instanceMethod y ∈ lw_tbl ∧ (y.cls ≠ "java/lang/invoke/MethodHandle" ∧ y.cls ≠ "java/lang/invoke/VarHandle") ∧ yJ5_isLatin1_aae02.cls = y.cls := by decide +kernel
theorem z_isl : Cond.selects RJ4 yJ5_isLatin1_aae02 yJ5_isLatin1_aae02 ∈ zWS := zws_in 814 (by decide +kernel) (by decide +kernel)
theorem zselp {y x0 y0 : MethodName} {s : State} {args : Array Value} {C : String} (hy : y.cls ≠ "java/lang/invoke/MethodHandle" ∧ y.cls ≠ "java/lang/invoke/VarHandle") (hc0 : y0.cls = y.cls)
    (h0 : (Cond.selects C x0 y0).before args s = true) (hpriv : (Cond.privateMethod y).before args s = true) (hinst : (Cond.instanceMethod y).before args s = true) :
    (Cond.selects C y y).before args s = true := by
  obtain ⟨c, r0, m0, hc, -, h2, -, kM, hkM, hniM⟩ := Cond.selects_spec h0
  obtain ⟨mk, methM, hnamed, hmethM, -, -⟩ := Cond.instanceMethod_spec hinst
  have hfound : s.methodFound? y.cls y.name y.desc = some mk := State.methodFound?_of_named hnamed hy
  have hcls : m0.cls = mk.cls := Option.some.inj ((findClass_of_methodNamed h2).symm.trans ((by rw [hc0] : s.vm.findClass y0.cls = s.vm.findClass y.cls).trans (findClass_of_methodNamed hnamed)))
  rw [hcls] at hkM
  have hsel : selectMethod {} s.vm c mk = .method mk := selectMethod_private hmethM (Cond.privateMethod_at hpriv mk methM hnamed hmethM)
  simp only [Cond.before, Cond.holds, Cond.value, hc, hfound, hnamed, hsel, hkM]
  simp; exact hniM
set_option maxRecDepth 100000 in
theorem z_arw : Cond.arrayClass .int ∈ lw_tbl ∧ Cond.arrayClass .byte ∈ lw_tbl ∧ Cond.arrayClass .boolean ∈ lw_tbl ∧ Cond.arrayOver (.object RX2) ∈ lw_tbl := by decide +kernel
theorem zin_tbl {w : Cond} (h : w ∈ zWS) : w ∈ lw_tbl := (List.mem_filter.mp h).1
set_option maxHeartbeats 4000000 in
theorem zJ_start {b : Nat} {s : State} (hts : ∀ w ∈ lw_tbl, w.before #[Value.ref b] s = true) (hgv : (Jvm.Cond.and given_1 narrow_1).before #[Value.ref b] s = true) : ∃ (D : va_G) (Y : Nat → ClassId) (S V : Nat → Nat), zJ D Y S V (fun q : Nat => s.heap.size ≤ q) s s.heap := by
  have hs := flat_of_before _ hgv
  have hA : ∀ a : Nat, a < s.heap.size → ¬ (fun q : Nat => s.heap.size ≤ q) a := fun a h => Nat.not_le.mpr h
  obtain ⟨c0, i0, K0⟩ := u_known (C := RX0) (T := TX0) (N := 3) (n := 3) hts (fun w h => zin_tbl (ziX0 w h)) (hts _ (zin_tbl m_195))
  obtain ⟨c1, i1, K1⟩ := u_known (C := RX1) (T := TX1) (N := 9) (n := 9) hts (fun w h => zin_tbl (ziX1 w h)) (hts _ (zin_tbl m_155))
  obtain ⟨c2, i2, K2⟩ := u_known (C := RX2) (T := TX2) (N := 20) (n := 20) hts (fun w h => zin_tbl (ziX2 w h)) (hts _ (zin_tbl m_62))
  obtain ⟨c3, i3, K3⟩ := u_known (C := RX3) (T := TX3) (N := 10) (n := 10) hts (fun w h => zin_tbl (ziX3 w h)) (hts _ (zin_tbl m_54))
  obtain ⟨c4, i4, K4⟩ := u_known (C := RJ4) (T := TJ4) (N := 4) (n := 4) hts (fun w h => zin_tbl (ziJ4 w h)) (hts _ (zin_tbl m_746))
  obtain ⟨c5, i5, K5⟩ := u_known (C := RJ0) (T := TJ0) (N := 4) (n := 4) hts (fun w h => zin_tbl (ziJ0 w h)) (hts _ (zin_tbl m_924))
  obtain ⟨D, hKc⟩ : ∃ D : va_G, ∀ (k : Nat) (q : vw_C), vwCl[k]? = some q → u_Kn s q.1 q.2.1 q.2.2 (D.1 k) (D.2 k) := by
    refine ⟨(fun k => [c0, c1, c2, c3, c4, c5].getD k c0, fun k => [i0, i1, i2, i3, i4, i5].getD k i0), ?_⟩
    intro k q hq
    match k, hq with
    | 0, hq => cases hq; exact K0
    | 1, hq => cases hq; exact K1
    | 2, hq => cases hq; exact K2
    | 3, hq => cases hq; exact K3
    | 4, hq => cases hq; exact K4
    | 5, hq => cases hq; exact K5
    | k + 6, hq => simp [vwCl] at hq
  obtain ⟨w0, w1, w2, w4⟩ := z_arw
  obtain ⟨y0, ka0, p0, a0, b0, d0⟩ := Cond.arrayClass_spec (hts _ w0)
  obtain ⟨y1, ka1, p1, a1, b1, d1⟩ := Cond.arrayClass_spec (hts _ w1)
  obtain ⟨y2, ka2, p2, a2, b2, d2⟩ := Cond.arrayClass_spec (hts _ w2)
  obtain ⟨p3, y3, ka3, e1, -, b3, d3, a3⟩ := Cond.arrayOver_spec (hts _ w4)
  obtain ⟨Y, eY⟩ : ∃ Y : Nat → ClassId, Y = fun k => [y0, y1, y2].getD k y3 := ⟨_, rfl⟩
  have hKY : va_K D vwCl (ztys Y) s := by
    refine ⟨hKc, fun k q hk => ?_⟩
    match k, hk with
    | 0, hk => cases hk; rw [eY]; exact ⟨fun N z => ⟨(fun k h => by cases h), ka0, b0, p0, d0⟩, a0⟩
    | 1, hk => cases hk; rw [eY]; exact ⟨fun N z => ⟨(fun k h => by cases h), ka1, b1, p1, d1⟩, a1⟩
    | 2, hk => cases hk; rw [eY]; exact ⟨fun N z => ⟨(fun k h => by cases h), ka2, b2, p2, d2⟩, a2⟩
    | 3, hk => cases hk; rw [eY]; exact ⟨fun N z => ⟨(fun k h => by cases h), ka3, b3, p3, d3⟩, ka3, p3, b3, d3, e1, a3⟩
    | k + 4, hk => simp at hk
  have hst : ∀ i : Nat, ∃ q : Nat × Nat, i < 30 → (ztm i).eval #[Value.ref b] s none [] s = some (.ref q.1) ∧ (i < 12 → zS1 (zbytes i).length (fun j => (zbytes i).getD j 0) q.1 q.2 (fun q : Nat => s.heap.size ≤ q) s s.heap) := by
    intro i
    by_cases hi : i < 30
    · obtain ⟨a, c, cA, kA, q1, q2, q3, q4, q5, q6, -⟩ := Cond.exactly_spec (args := #[Value.ref b]) (first := s) (o := none) (s := s) (idx := []) (t := ztm i) (cls := "java/lang/String") (hs _ (z_exa i hi))
      by_cases h8 : i < 12
      · obtain ⟨t, ht, hT⟩ := va_Tof (tm := zvl i) (ty := .byte) (N := (zbytes i).length) (f := fun j => .int ((zbytes i).getD j 0)) (A := (fun q : Nat => s.heap.size ≤ q)) (z_bl i h8) (hs _ (List.mem_of_getElem? (z_ar i h8))) (va_eqt (hs _ (List.mem_of_getElem? (z_le i h8)))) (fun j hj => va_eqt (hs _ (List.mem_of_getElem? (z_el i h8 j hj)))) hA
        exact ⟨(a, t), fun _ => ⟨q1, fun _ => ⟨⟨cA, q3, q5, by rw [q6]; exact q2, hA a (Array.getElem?_eq_some_iff.mp q3).1⟩, vk_OFof q1 (va_eqt (hs _ (List.mem_of_getElem? (z_co i h8)))) hA, vk_OFof q1 ht hA, hT⟩⟩⟩
      · exact ⟨(a, 0), fun _ => ⟨q1, fun h => absurd h h8⟩⟩
    · exact ⟨(0, 0), fun h => absurd h hi⟩
  obtain ⟨ad, had⟩ := Classical.axiomOfChoice hst
  obtain ⟨s1, s2, s3, s4, s5, s6, s7⟩ := z_st1
  obtain ⟨r1, r2, r3, r4⟩ := z_st2
  obtain ⟨g1, g2, g3, g4⟩ := z_st3
  have hdg : ∀ n : Bool, ∃ t : Nat, (zdt n).eval #[Value.ref b] s none [] s = some (.ref t) ∧ va_T .byte t 100 (fun j => .int (zdv n j)) (fun q : Nat => s.heap.size ≤ q) s s.heap := fun n =>
    va_Tof (tm := zdt n) (ty := .byte) (N := 100) (f := fun j => .int (zdv n j)) (A := (fun q : Nat => s.heap.size ≤ q)) (by decide) (hs _ (List.mem_of_getElem? (z_dar n))) (va_eqt (hs _ (List.mem_of_getElem? (z_dle n)))) (fun j hj => va_eqt (hs _ (List.mem_of_getElem? (z_del n j hj)))) hA
  obtain ⟨t1, h1, h2⟩ := hdg false
  obtain ⟨t2, h3, h4⟩ := hdg true
  refine ⟨D, Y, fun i => if i < 100 then (ad i).1 else (ad (i - 100)).2, fun i => (ad i).2, ⟨hKY, fun q hq => va_Nw.of rfl (hts _ (z_nest q hq)), fun i q hq => ?_, fun i hi => ?_, vx_Zqof (hts _ s1) (hts _ s3) (hs _ r1) hA, vx_Zqof (hts _ s2) (hts _ s3) (hs _ r2) hA, va_Zof (hts _ s4) (hts _ s5) (va_eqt (hs _ r3)) hA, va_Zqof (hts _ s6) (hts _ s7) (hs _ r4) hA, fun i => ?_, fun y hy => va_Nw.of rfl (hts _ (z_dec y hy)), fun q hq => va_Nw.of rfl (hts _ (z_cas q hq)), fun q hq => va_Nc.of (hs _ (z_ncs q hq))⟩, va_Nw.of rfl (hts _ g4), ⟨t1, t2, ⟨va_Zof (hts _ g1) (hts _ g3) h1 hA, h2⟩, va_Zof (hts _ g2) (hts _ g3) h3 hA, h4⟩, fun y hy => ?_⟩
  · have hi : i < 30 := (List.getElem?_eq_some_iff.mp hq).1
    have h1 := (had i hi).1
    have e : zstrs.getD i ("", 0, "") = q := by rw [List.getD_eq_getElem?_getD, hq]; rfl
    unfold ztm at h1
    rw [e] at h1
    show vk_R q.1 q.2.1 q.2.2 (if i < 100 then (ad i).1 else (ad (i - 100)).2) s
    rw [if_pos (by omega)]
    exact vk_R.of (hts _ (z_sr q (List.mem_of_getElem? hq))) h1
  · show zS1 _ _ (if i < 100 then (ad i).1 else (ad (i - 100)).2) (ad i).2 _ s s.heap
    rw [if_pos (by omega)]
    exact (had i (by omega)).2 hi
  · show (ad i).2 = (if 100 + i < 100 then (ad (100 + i)).1 else (ad (100 + i - 100)).2)
    rw [if_neg (by omega), Nat.add_sub_cancel_left]
  · obtain ⟨k1, k2, k3, k4⟩ := z_pri y hy
    exact va_Nw.of rfl (zselp k3 k4 (hts _ (zin_tbl z_isl)) (hts _ k1) (hts _ k2))
