/-! FLOATS: meanAge and wishShare -/
theorem zn64_of {r : UInt64} (h : FP.Core.val64 r ≠ .nan) : vf_n64 r := by
  unfold vf_n64
  rw [UInt64.le_iff_toNat_le, UInt64.toNat_and, show (0x7fffffffffffffff : UInt64).toNat = 2 ^ 63 - 1 from by decide, Nat.and_two_pow_sub_one_eq_mod, show (0x7ff0000000000000 : UInt64).toNat = 9218868437227405312 from by decide]
  refine Classical.byContradiction fun hc => h ?_
  show FP.Core.decode FP.Core.b64 r.toNat = .nan
  unfold FP.Core.decode FP.Core.fieldE FP.Core.fieldT
  rw [show FP.Core.b64.tails = 4503599627370496 from by decide, show FP.Core.b64.exps = 2048 from by decide]
  have hl : r.toNat < 2 ^ 64 := r.toNat_lt
  rw [if_pos (by omega), if_neg (by omega)]
theorem zn32_of {r : UInt32} (h : FP.Core.val32 r ≠ .nan) : vf_n32 r := by
  unfold vf_n32
  rw [UInt32.le_iff_toNat_le, UInt32.toNat_and, show (0x7fffffff : UInt32).toNat = 2 ^ 31 - 1 from by decide, Nat.and_two_pow_sub_one_eq_mod, show (0x7f800000 : UInt32).toNat = 2139095040 from by decide]
  refine Classical.byContradiction fun hc => h ?_
  show FP.Core.decode FP.Core.b32 r.toNat = .nan
  unfold FP.Core.decode FP.Core.fieldE FP.Core.fieldT
  rw [show FP.Core.b32.tails = 8388608 from by decide, show FP.Core.b32.exps = 256 from by decide]
  have hl : r.toNat < 2 ^ 32 := r.toNat_lt
  rw [if_pos (by omega), if_neg (by omega)]
theorem zrr_ne {f : FP.Core.Fmt} {s : Bool} {a b : Nat} {e : Int} : FP.Core.roundRatio f s a b e ≠ .nan := by
  unfold FP.Core.roundRatio FP.Core.roundAt FP.Core.settle FP.Core.bound
  intro h
  split at h
  · cases h
  · split at h <;> split at h <;> cases h
/-- a number by a number other than zero -/
theorem zquo_ne {f : FP.Core.Fmt} {x y : FP.Core.Datum} (hx : ∃ s c q, x = .fin s c q) (hy : ∃ s c q, y = .fin s c q ∧ c ≠ 0) : FP.Core.quotient f x y ≠ .nan := by
  obtain ⟨s, c, q, rfl⟩ := hx
  obtain ⟨t, d, r, rfl, hd⟩ := hy
  show (if d = 0 then (if c = 0 then FP.Core.Datum.nan else .inf (s != t)) else FP.Core.roundRatio f (s != t) c d (q - r)) ≠ .nan
  rw [if_neg hd]
  exact zrr_ne
/-- a whole number of 32 bits, rounded: a number, and zero only if it is zero -/
theorem zround {f : FP.Core.Fmt} (hf : f = FP.Core.b32 ∨ f = FP.Core.b64) (b : Int32) : ∃ s c q, FP.Core.round f (FP.Core.ofInt b.toInt) = .fin s c q ∧ (b ≠ 0 → c ≠ 0) := by
  have h1 := b.toInt_lt
  have h2 := b.le_toInt
  obtain ⟨n, hn⟩ : ∃ n, n = b.toInt.natAbs := ⟨_, rfl⟩
  have hn2 : n ≤ 2 ^ 31 := by omega
  show ∃ s c q, FP.Core.roundRatio f (decide (b.toInt < 0)) b.toInt.natAbs 1 0 = .fin s c q ∧ (b ≠ 0 → c ≠ 0)
  rw [← hn]
  unfold FP.Core.roundRatio
  by_cases h0 : n = 0
  · rw [if_pos h0]
    refine ⟨_, _, _, rfl, fun hb => absurd (Int32.toInt_inj.mp (?_ : b.toInt = (0 : Int32).toInt)) hb⟩
    rw [show (0 : Int32).toInt = 0 from rfl]
    omega
  · rw [if_neg h0]
    have hp : 0 < n := by omega
    have hq1 : FP.Core.leading n 1 ≤ 31 := by
      have a1 : n.log2 < 32 := (Nat.log2_lt h0).mpr (by omega)
      have a2 : (1 : Nat).log2 = 0 := by decide
      unfold FP.Core.leading
      dsimp only
      rw [a2]
      split <;> omega
    have hc : 1 ≤ FP.Core.nearest (FP.Core.unitsNum n 0 (FP.Core.quantum f n 1 0)) (FP.Core.unitsDen 1 0 (FP.Core.quantum f n 1 0)) := by
      refine FP.Core.nearest_ge (FP.Core.unitsDen_pos (by decide) ..) ?_
      rw [Nat.one_mul]
      rcases FP.Core.quantum_not_below (f := f) hp (B := 1) (by decide) 0 with e | e
      · have hq : (FP.Core.quantum f n 1 0 - 0).toNat = 0 := by
          rw [e]
          rcases hf with rfl | rfl <;> decide
        unfold FP.Core.unitsNum FP.Core.unitsDen
        rw [hq]
        have := Nat.mul_le_mul hp (Nat.one_le_two_pow (n := (0 - FP.Core.quantum f n 1 0).toNat))
        omega
      · have hk : ((f.p : Int) - 1) = ((f.p - 1 : Nat) : Int) := by rcases hf with rfl | rfl <;> decide
        rw [hk, ← FP.Core.units_below] at e
        have := Nat.mul_le_mul (Nat.one_le_two_pow (n := f.p - 1)) (Nat.le_refl (FP.Core.unitsDen 1 0 (FP.Core.quantum f n 1 0)))
        omega
    have hq2 : FP.Core.quantum f n 1 0 + 1 ≤ f.qmax := by
      unfold FP.Core.quantum
      rcases hf with rfl | rfl
      · rw [show FP.Core.b32.qmin = -149 from by decide, show FP.Core.b32.qmax = 104 from by decide, show (FP.Core.b32.p : Int) = 24 from by decide]; omega
      · rw [show FP.Core.b64.qmin = -1074 from by decide, show FP.Core.b64.qmax = 971 from by decide, show (FP.Core.b64.p : Int) = 53 from by decide]; omega
    unfold FP.Core.roundAt FP.Core.settle FP.Core.bound
    generalize FP.Core.quantum f n 1 0 = q at hc hq2 ⊢
    split
    · rw [if_pos (by omega)]
      exact ⟨_, _, _, rfl, fun _ => by omega⟩
    · exact ⟨_, _, _, rfl, fun _ => by rcases hf with rfl | rfl <;> decide⟩
theorem zdd_ne {a b : Int32} (h : ¬ b = 0) : FP.Core.val64 (FP.ddiv (FP.i2d a) (FP.i2d b)) ≠ .nan := by
  show FP.Core.val64 (FP.Core.ddiv (FP.Core.i2d a) (FP.Core.i2d b)) ≠ .nan
  rw [FP.Core.val64_ddiv, FP.Core.val64_i2d, FP.Core.val64_i2d]
  obtain ⟨s, c, q, e, -⟩ := zround (Or.inr rfl) a
  obtain ⟨s', c', q', e', h'⟩ := zround (Or.inr rfl) b
  exact zquo_ne ⟨s, c, q, e⟩ ⟨s', c', q', e', h' h⟩
theorem zff_ne {a b : Int32} (h : ¬ b = 0) : FP.Core.val32 (FP.fdiv (FP.i2f a) (FP.i2f b)) ≠ .nan := by
  show FP.Core.val32 (FP.Core.fdiv (FP.Core.i2f a) (FP.Core.i2f b)) ≠ .nan
  rw [FP.Core.val32_fdiv, FP.Core.val32_i2f, FP.Core.val32_i2f]
  obtain ⟨s, c, q, e, -⟩ := zround (Or.inl rfl) a
  obtain ⟨s', c', q', e', h'⟩ := zround (Or.inl rfl) b
  exact zquo_ne ⟨s, c, q, e⟩ ⟨s', c', q', e', h' h⟩
theorem z_nn64 {a b : Int32} (h : ¬ b = 0) : vf_n64 (FP.ddiv (FP.i2d a) (FP.i2d b)) := zn64_of (zdd_ne h)
theorem z_nn32 {a b : Int32} (h : ¬ b = 0) : vf_n32 (FP.fdiv (FP.i2f a) (FP.i2f b)) := zn32_of (zff_ne h)
/-- a float that is no NaN, widened -/
theorem z_nnw {x : UInt32} (h : FP.Core.val32 x ≠ .nan) : vf_n64 (FP.f2d x) := by
  refine zn64_of fun hc => ?_
  have h1 : FP.Core.dIsNaN (FP.f2d x) = true := (FP.Core.dIsNaN_iff _).mpr hc
  have h2 : FP.Core.fIsNaN x = true := (FP.f2d_nan x).symm.trans h1
  exact h ((FP.Core.fIsNaN_iff x).mp h2)
section ZMF
variable {p : Program} {l : Launch} {e : Env} {R : Room} {s : State} {m : MethodId} {args : Array Value} {below : List Frame} {meth : Method} {c : Code} {H : Heap} {locs : List Loc} {cells slots : Nat} {Q : State → Prop}
variable {cc : ByteArray} {pc : Nat} {ls : Array Slot} {rest : List Value} {D : va_G} {Y : Nat → ClassId} {S V : Nat → Nat} {G : Nat → Nat → Nat} {A : Nat → Prop} {w : Nat} {T : zT} {Ts : List Cond}
theorem z_dret {res : Option Value ⊕ String} {v : UInt64} {mc ms : Nat} (hexec : p.tables.exec = Jvm.exec) (hb : c.code = cc) (hr : meth.sig.returnType = some .double) (hres : res = .inl (some (.double v))) (hP : zP w D Y G T H) (hS : va_S A s.heap H locs) (hlocks : meth.locks = false) (h1 : cells ≤ mc) (h2 : slots ≤ ms) (hdg : decode cc pc = .ok (.dreturn, 1)) :
    W p l e R s m args below meth c H locs cells slots (vx_MQ below (zQ w D Y G A res T) (zX w D Y G A res T) args s mc ms A) (F0 m pc ls [.double v]) := by
  refine W.widen h1 h2 (vx_ret ?_)
  exact W.dret (v := v) hexec hb hr (fun t ht _ => ⟨⟨_, hres, rfl, by rw [ht]; exact hP⟩, hS.F ht⟩) hS.2.2 hdg hlocks
theorem z_fret {res : Option Value ⊕ String} {v : UInt32} {mc ms : Nat} (hexec : p.tables.exec = Jvm.exec) (hb : c.code = cc) (hr : meth.sig.returnType = some .float) (hres : res = .inl (some (.float v))) (hP : zP w D Y G T H) (hS : va_S A s.heap H locs) (hlocks : meth.locks = false) (h1 : cells ≤ mc) (h2 : slots ≤ ms) (hdg : decode cc pc = .ok (.freturn, 1)) :
    W p l e R s m args below meth c H locs cells slots (vx_MQ below (zQ w D Y G A res T) (zX w D Y G A res T) args s mc ms A) (F0 m pc ls [.float v]) := by
  refine W.widen h1 h2 (vx_ret ?_)
  exact W.fret (v := v) hexec hb hr (fun t ht _ => ⟨⟨_, hres, rfl, by rw [ht]; exact hP⟩, hS.F ht⟩) hS.2.2 hdg hlocks
end ZMF

def f_X3_meanAge  (T : zT) : Option (UInt64 × zT) := (if (T.1 1 0 9) = 0 then some (FP.dconst0, T) else zb (f_X3_sum 7 0 (T.1 1 0 9) T) fun v2 T1 => if ¬ (T1.1 1 0 9) = 0 then some ((FP.ddiv (FP.i2d v2) (FP.i2d (T1.1 1 0 9))), T1) else none)
set_option maxHeartbeats 4000000 in
set_option maxRecDepth 100000 in
theorem c_X3_meanAge  (T T' : zT) (v : UInt64) (hf : f_X3_meanAge  T = some (v, T')) : zC 0 yX3_meanAge cX3_meanAge 1 (some .double) 1  0 0  (fun G _ => [.ref (G 0 0)]) T (fun _ => .inl (some (.double v))) T' := by
  intro l D Y S V G A hl9 hG
  refine vx_ofW (cc := cX3_meanAge) (maxL := 1) (ret := (some .double)) (by decide) rfl ?_
  intro p e s m args below meth c s₁ B hml hex hv
  obtain ⟨rfl, hK, hP, hA⟩ := hv
  have hx := B.exec
  have hb := B.bytes
  have hr := B.returns
  have hlocks := B.notSynchronized
  have hown : s.vm.findClass RX3 = some m.cls := findClass_of_methodNamed B.named
  have hts := atoms_spec (ws := Cond.code yX3_meanAge cX3_meanAge 1 (some .double) :: zWS) B.pre
  have F : zF 0 1  0 0  p l s m _ c cX3_meanAge 1 RX3 (Cond.code yX3_meanAge cX3_meanAge 1 (some .double)) D Y S V G A := ⟨hx, hb, hml, hown, hts, hl9, hG, hK, hA⟩
  have hS : va_S A s.heap s.heap [] := va_S.rf
  have hl := lv_entry ([.ref (G 0 0)]) (n := 1) (Nat.le_of_ble_eq_true rfl)
  rw [lg_entry_eq]
  generalize (lg_sl ([.ref (G 0 0)]) ++ List.replicate (1 - (lg_sl ([.ref (G 0 0)])).length) Slot.unset).toArray = ls at hl ⊢
  have hl : lv_has ls 1 [(0, .ref (G 0 0))] := hl
  unfold f_X3_meanAge at hf
  refine lv_aload_n hx hb dX3_meanAge_0 rfl (lv_at hl 0 rfl) ?_
  refine z_get hx hb hts (fun w h => List.mem_cons_of_mem _ (ziX3 w h)) hown hK hP (zV_0 (by decide)) rfl rfl 4 (by decide) (List.mem_cons_of_mem _ m_450) rfl rfl dX3_meanAge_1 ?_
  refine z_get hx hb hts (fun w h => List.mem_cons_of_mem _ (ziX2 w h)) hown hK hP (zV_r (by decide) (by decide) (by decide)) rfl rfl 9 (by decide) (List.mem_cons_of_mem _ m_87) rfl rfl dX3_meanAge_4 ?_
  refine lv_if_ne (tgt := 12) hx hb dX3_meanAge_7 (by decide) (fun hc => ?_) (fun hc => ?_)
  · have hf := zif_n hf hc
    refine lv_aload_n hx hb dX3_meanAge_12 rfl (lv_at hl 0 rfl) ?_
    refine z_get hx hb hts (fun w h => List.mem_cons_of_mem _ (ziX3 w h)) hown hK hP (zV_0 (by decide)) rfl rfl 4 (by decide) (List.mem_cons_of_mem _ m_450) rfl rfl dX3_meanAge_13 ?_
    refine z_get hx hb hts (fun w h => List.mem_cons_of_mem _ (ziX2 w h)) hown hK hP (zV_r (by decide) (by decide) (by decide)) rfl rfl 15 (by decide) (List.mem_cons_of_mem _ m_100) rfl rfl dX3_meanAge_16 ?_
    refine lv_aload_n hx hb dX3_meanAge_19 rfl (lv_at hl 0 rfl) ?_
    refine z_get hx hb hts (fun w h => List.mem_cons_of_mem _ (ziX3 w h)) hown hK hP (zV_0 (by decide)) rfl rfl 4 (by decide) (List.mem_cons_of_mem _ m_450) rfl rfl dX3_meanAge_20 ?_
    refine z_get hx hb hts (fun w h => List.mem_cons_of_mem _ (ziX2 w h)) hown hK hP (zV_r (by decide) (by decide) (by decide)) rfl rfl 9 (by decide) (List.mem_cons_of_mem _ m_87) rfl rfl dX3_meanAge_23 ?_
    obtain ⟨v2, T1, h3, hf⟩ := zb_i hf
    refine z_ok (z_runS (As := [.ref (G 7 0), .int (T.1 1 0 9)]) (rest := []) F k_X3_sum m_1051 (c_X3_sum 7 0 (zIA_r (by decide) (by decide) (by decide)) (T.1 1 0 9) T T1 _ h3) hP hS rfl rfl hl.1 (Nat.le_of_ble_eq_true rfl) dX3_meanAge_26 (Nat.le_of_ble_eq_true rfl) ⟨Nat.le_of_ble_eq_true rfl, Nat.le_of_ble_eq_true rfl⟩ rfl) hS (fun H locs hP hS => ?_)
    refine lv_i2d hx hb dX3_meanAge_29 ?_
    refine lv_aload_n hx hb dX3_meanAge_30 rfl (lv_at hl 0 rfl) ?_
    refine z_get hx hb hts (fun w h => List.mem_cons_of_mem _ (ziX3 w h)) hown hK hP (zV_0 (by decide)) rfl rfl 4 (by decide) (List.mem_cons_of_mem _ m_450) rfl rfl dX3_meanAge_31 ?_
    refine z_get hx hb hts (fun w h => List.mem_cons_of_mem _ (ziX2 w h)) hown hK hP (zV_r (by decide) (by decide) (by decide)) rfl rfl 9 (by decide) (List.mem_cons_of_mem _ m_87) rfl rfl dX3_meanAge_34 ?_
    refine lv_i2d hx hb dX3_meanAge_37 ?_
    obtain ⟨h4, hf⟩ := zif_c hf
    refine lv_ddiv hx hb dX3_meanAge_38 (z_nn64 h4) ?_
    obtain ⟨q1, q2⟩ := zs_i hf
    subst q1; subst q2
    exact z_dret hx hb hr rfl hP hS hlocks (Nat.le_of_ble_eq_true rfl) (Nat.le_of_ble_eq_true rfl) dX3_meanAge_39
  · have hf := zif_p hf hc
    refine lv_dconst0 hx hb dX3_meanAge_10 ?_
    obtain ⟨q1, q2⟩ := zs_i hf
    subst q1; subst q2
    exact z_dret hx hb hr rfl hP hS hlocks (Nat.le_of_ble_eq_true rfl) (Nat.le_of_ble_eq_true rfl) dX3_meanAge_11

def f_X3_wishShare  (T : zT) : Option (UInt32 × zT) := zb (f_X3_sum 10 0 (T.1 1 0 9) T) fun v2 T1 => (if v2 = 0 then some (FP.fconst0, T1) else zb (f_X3_sum 11 0 (T1.1 1 0 9) T1) fun v5 T4 => if ¬ v2 = 0 then some ((FP.fdiv (FP.i2f v5) (FP.i2f v2)), T4) else none)
set_option maxHeartbeats 4000000 in
set_option maxRecDepth 100000 in
theorem c_X3_wishShare  (T T' : zT) (v : UInt32) (hf : f_X3_wishShare  T = some (v, T')) : zC 0 yX3_wishShare cX3_wishShare 2 (some .float) 1  0 0  (fun G _ => [.ref (G 0 0)]) T (fun _ => .inl (some (.float v))) T' := by
  intro l D Y S V G A hl9 hG
  refine vx_ofW (cc := cX3_wishShare) (maxL := 2) (ret := (some .float)) (by decide) rfl ?_
  intro p e s m args below meth c s₁ B hml hex hv
  obtain ⟨rfl, hK, hP, hA⟩ := hv
  have hx := B.exec
  have hb := B.bytes
  have hr := B.returns
  have hlocks := B.notSynchronized
  have hown : s.vm.findClass RX3 = some m.cls := findClass_of_methodNamed B.named
  have hts := atoms_spec (ws := Cond.code yX3_wishShare cX3_wishShare 2 (some .float) :: zWS) B.pre
  have F : zF 0 1  0 0  p l s m _ c cX3_wishShare 2 RX3 (Cond.code yX3_wishShare cX3_wishShare 2 (some .float)) D Y S V G A := ⟨hx, hb, hml, hown, hts, hl9, hG, hK, hA⟩
  have hS : va_S A s.heap s.heap [] := va_S.rf
  have hl := lv_entry ([.ref (G 0 0)]) (n := 2) (Nat.le_of_ble_eq_true rfl)
  rw [lg_entry_eq]
  generalize (lg_sl ([.ref (G 0 0)]) ++ List.replicate (2 - (lg_sl ([.ref (G 0 0)])).length) Slot.unset).toArray = ls at hl ⊢
  have hl : lv_has ls 2 [(0, .ref (G 0 0))] := hl
  unfold f_X3_wishShare at hf
  refine lv_aload_n hx hb dX3_wishShare_0 rfl (lv_at hl 0 rfl) ?_
  refine z_get hx hb hts (fun w h => List.mem_cons_of_mem _ (ziX3 w h)) hown hK hP (zV_0 (by decide)) rfl rfl 4 (by decide) (List.mem_cons_of_mem _ m_450) rfl rfl dX3_wishShare_1 ?_
  refine z_get hx hb hts (fun w h => List.mem_cons_of_mem _ (ziX2 w h)) hown hK hP (zV_r (by decide) (by decide) (by decide)) rfl rfl 18 (by decide) (List.mem_cons_of_mem _ m_108) rfl rfl dX3_wishShare_4 ?_
  refine lv_aload_n hx hb dX3_wishShare_7 rfl (lv_at hl 0 rfl) ?_
  refine z_get hx hb hts (fun w h => List.mem_cons_of_mem _ (ziX3 w h)) hown hK hP (zV_0 (by decide)) rfl rfl 4 (by decide) (List.mem_cons_of_mem _ m_450) rfl rfl dX3_wishShare_8 ?_
  refine z_get hx hb hts (fun w h => List.mem_cons_of_mem _ (ziX2 w h)) hown hK hP (zV_r (by decide) (by decide) (by decide)) rfl rfl 9 (by decide) (List.mem_cons_of_mem _ m_87) rfl rfl dX3_wishShare_11 ?_
  obtain ⟨v2, T1, h3, hf⟩ := zb_i hf
  refine z_ok (z_runS (As := [.ref (G 10 0), .int (T.1 1 0 9)]) (rest := []) F k_X3_sum m_1051 (c_X3_sum 10 0 (zIA_r (by decide) (by decide) (by decide)) (T.1 1 0 9) T T1 _ h3) hP hS rfl rfl hl.1 (Nat.le_of_ble_eq_true rfl) dX3_wishShare_14 (Nat.le_of_ble_eq_true rfl) ⟨Nat.le_of_ble_eq_true rfl, Nat.le_of_ble_eq_true rfl⟩ rfl) hS (fun H locs hP hS => ?_)
  refine lv_istore_n (lv' := [(1, .int v2), (0, .ref (G 0 0))]) hx hb dX3_wishShare_17 rfl hl (by decide) rfl (fun ls hl => ?_)
  refine lv_iload_n hx hb dX3_wishShare_18 rfl (lv_at hl 0 rfl) ?_
  refine lv_if_ne (tgt := 24) hx hb dX3_wishShare_19 (by decide) (fun hc => ?_) (fun hc => ?_)
  · have hf := zif_n hf hc
    refine lv_aload_n hx hb dX3_wishShare_24 rfl (lv_at hl 1 rfl) ?_
    refine z_get hx hb hts (fun w h => List.mem_cons_of_mem _ (ziX3 w h)) hown hK hP (zV_0 (by decide)) rfl rfl 4 (by decide) (List.mem_cons_of_mem _ m_450) rfl rfl dX3_wishShare_25 ?_
    refine z_get hx hb hts (fun w h => List.mem_cons_of_mem _ (ziX2 w h)) hown hK hP (zV_r (by decide) (by decide) (by decide)) rfl rfl 19 (by decide) (List.mem_cons_of_mem _ m_110) rfl rfl dX3_wishShare_28 ?_
    refine lv_aload_n hx hb dX3_wishShare_31 rfl (lv_at hl 1 rfl) ?_
    refine z_get hx hb hts (fun w h => List.mem_cons_of_mem _ (ziX3 w h)) hown hK hP (zV_0 (by decide)) rfl rfl 4 (by decide) (List.mem_cons_of_mem _ m_450) rfl rfl dX3_wishShare_32 ?_
    refine z_get hx hb hts (fun w h => List.mem_cons_of_mem _ (ziX2 w h)) hown hK hP (zV_r (by decide) (by decide) (by decide)) rfl rfl 9 (by decide) (List.mem_cons_of_mem _ m_87) rfl rfl dX3_wishShare_35 ?_
    obtain ⟨v5, T4, h6, hf⟩ := zb_i hf
    refine z_ok (z_runS (As := [.ref (G 11 0), .int (T1.1 1 0 9)]) (rest := []) F k_X3_sum m_1051 (c_X3_sum 11 0 (zIA_r (by decide) (by decide) (by decide)) (T1.1 1 0 9) T1 T4 _ h6) hP hS rfl rfl hl.1 (Nat.le_of_ble_eq_true rfl) dX3_wishShare_38 (Nat.le_of_ble_eq_true rfl) ⟨Nat.le_of_ble_eq_true rfl, Nat.le_of_ble_eq_true rfl⟩ rfl) hS (fun H locs hP hS => ?_)
    refine lv_i2f hx hb dX3_wishShare_41 ?_
    refine lv_iload_n hx hb dX3_wishShare_42 rfl (lv_at hl 0 rfl) ?_
    refine lv_i2f hx hb dX3_wishShare_43 ?_
    obtain ⟨h7, hf⟩ := zif_c hf
    refine lv_fdiv hx hb dX3_wishShare_44 (z_nn32 h7) ?_
    obtain ⟨q1, q2⟩ := zs_i hf
    subst q1; subst q2
    exact z_fret hx hb hr rfl hP hS hlocks (Nat.le_of_ble_eq_true rfl) (Nat.le_of_ble_eq_true rfl) dX3_wishShare_45
  · have hf := zif_p hf hc
    refine lv_fconst0 hx hb dX3_wishShare_22 ?_
    obtain ⟨q1, q2⟩ := zs_i hf
    subst q1; subst q2
    exact z_fret hx hb hr rfl hP hS hlocks (Nat.le_of_ble_eq_true rfl) (Nat.le_of_ble_eq_true rfl) dX3_wishShare_23
