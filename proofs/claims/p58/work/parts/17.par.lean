/-! METHODS of the parser, by program -/
def f_X1_addByte (p0 : Int32) (T : zT) : Option (Unit × zT) := (if (T.1 0 1 1) < 0 then some ((), T) else (if 600 ≤ (T.1 0 1 1) then some ((), T) else if zin (T.1 0 1 1) 600 = true then zl (wA T 0 4 (upd (T.2 0 4) (T.1 0 1 1).toNatClampNeg ((p0.toInt8.toInt32).toInt8.toInt32))) fun T2 => zl ((T2.1 0 1 1) + 1) fun x3 => zl (wI T2 0 1 1 x3) fun T4 => some ((), T4) else none))
set_option maxHeartbeats 4000000 in
set_option maxRecDepth 100000 in
theorem c_X1_addByte (p0 : Int32) (T T' : zT) (v : Unit) (hf : f_X1_addByte p0 T = some (v, T')) : zC 0 yX1_addByte cX1_addByte 2 none 0  0 0  (fun G _ => [.ref (G 0 1), .int p0]) T (fun _ => .inl none) T' := by
  intro l D Y S V G A hl9 hG
  refine vx_ofW (cc := cX1_addByte) (maxL := 2) (ret := none) (by decide) rfl ?_
  intro p e s m args below meth c s₁ B hml hex hv
  obtain ⟨rfl, hK, hP, hA⟩ := hv
  have hx := B.exec
  have hb := B.bytes
  have hr := B.returns
  have hlocks := B.notSynchronized
  have hown : s.vm.findClass RX1 = some m.cls := findClass_of_methodNamed B.named
  have hts := atoms_spec (ws := Cond.code yX1_addByte cX1_addByte 2 none :: zWS) B.pre
  have F : zF 0 0  0 0  p l s m _ c cX1_addByte 2 RX1 (Cond.code yX1_addByte cX1_addByte 2 none) D Y S V G A := ⟨hx, hb, hml, hown, hts, hl9, hG, hK, hA⟩
  have hS : va_S A s.heap s.heap [] := va_S.rf
  have hl := lv_entry ([.ref (G 0 1), .int p0]) (n := 2) (Nat.le_of_ble_eq_true rfl)
  rw [lg_entry_eq]
  generalize (lg_sl ([.ref (G 0 1), .int p0]) ++ List.replicate (2 - (lg_sl ([.ref (G 0 1), .int p0])).length) Slot.unset).toArray = ls at hl ⊢
  have hl : lv_has ls 2 [(0, .ref (G 0 1)), (1, .int p0)] := hl
  unfold f_X1_addByte at hf
  refine lv_aload_n hx hb dX1_addByte_0 rfl (lv_at hl 0 rfl) ?_
  refine z_get hx hb hts (fun w h => List.mem_cons_of_mem _ (ziX1 w h)) hown hK hP (zV_0 (by decide)) rfl rfl 1 (by decide) (List.mem_cons_of_mem _ m_165) rfl rfl dX1_addByte_1 ?_
  refine lv_if_lt (tgt := 40) hx hb dX1_addByte_4 (by decide) (fun hc => ?_) (fun hc => ?_)
  · have hf := zif_p hf hc
    obtain ⟨q1, q2⟩ := zs_i hf
    subst q1; subst q2
    exact z_vret hx hb hr rfl hP hS hlocks (Nat.le_of_ble_eq_true rfl) (Nat.le_of_ble_eq_true rfl) dX1_addByte_40
  · have hf := zif_n hf hc
    refine lv_aload_n hx hb dX1_addByte_7 rfl (lv_at hl 0 rfl) ?_
    refine z_get hx hb hts (fun w h => List.mem_cons_of_mem _ (ziX1 w h)) hown hK hP (zV_0 (by decide)) rfl rfl 1 (by decide) (List.mem_cons_of_mem _ m_165) rfl rfl dX1_addByte_8 ?_
    refine lv_aload_n hx hb dX1_addByte_11 rfl (lv_at hl 0 rfl) ?_
    refine z_get hx hb hts (fun w h => List.mem_cons_of_mem _ (ziX1 w h)) hown hK hP (zV_0 (by decide)) rfl rfl 4 (by decide) (List.mem_cons_of_mem _ m_170) rfl rfl dX1_addByte_12 ?_
    refine z_alen (v := 600) hx hb hK hP (zV_0 (by decide)) 1 rfl rfl rfl dX1_addByte_15 ?_
    refine lv_icmp_ge (tgt := 40) hx hb dX1_addByte_16 (by decide) (fun hc => ?_) (fun hc => ?_)
    · have hf := zif_p hf hc
      obtain ⟨q1, q2⟩ := zs_i hf
      subst q1; subst q2
      exact z_vret hx hb hr rfl hP hS hlocks (Nat.le_of_ble_eq_true rfl) (Nat.le_of_ble_eq_true rfl) dX1_addByte_40
    · have hf := zif_n hf hc
      refine lv_aload_n hx hb dX1_addByte_19 rfl (lv_at hl 0 rfl) ?_
      refine z_get hx hb hts (fun w h => List.mem_cons_of_mem _ (ziX1 w h)) hown hK hP (zV_0 (by decide)) rfl rfl 4 (by decide) (List.mem_cons_of_mem _ m_170) rfl rfl dX1_addByte_20 ?_
      refine lv_aload_n hx hb dX1_addByte_23 rfl (lv_at hl 0 rfl) ?_
      refine z_get hx hb hts (fun w h => List.mem_cons_of_mem _ (ziX1 w h)) hown hK hP (zV_0 (by decide)) rfl rfl 1 (by decide) (List.mem_cons_of_mem _ m_165) rfl rfl dX1_addByte_24 ?_
      refine lv_iload_n hx hb dX1_addByte_27 rfl (lv_at hl 1 rfl) ?_
      refine lv_i2b hx hb dX1_addByte_28 rfl ?_
      obtain ⟨h1, hf⟩ := zif_c hf
      obtain ⟨T2, eT2, hf⟩ := zl_i hf
      refine z_bast hx hb hK hP hG hS (zV_0 (by decide)) rfl (zin_i h1) rfl dX1_addByte_29 (fun H locs hP hS => ?_)
      rw [← eT2] at hP
      refine lv_aload_n hx hb dX1_addByte_30 rfl (lv_at hl 0 rfl) ?_
      refine lv_dup hx hb dX1_addByte_31 rfl ?_
      refine z_get hx hb hts (fun w h => List.mem_cons_of_mem _ (ziX1 w h)) hown hK hP (zV_0 (by decide)) rfl rfl 1 (by decide) (List.mem_cons_of_mem _ m_165) rfl rfl dX1_addByte_32 ?_
      refine lv_iconst (v := 1) hx hb dX1_addByte_35 (by decide) ?_
      refine lv_iadd hx hb dX1_addByte_36 ?_
      obtain ⟨x3, ex3, hf⟩ := zl_i hf
      refine z_topi ex3 ?_
      obtain ⟨T4, eT4, hf⟩ := zl_i hf
      refine z_put hx hb hts (fun w h => List.mem_cons_of_mem _ (ziX1 w h)) tyX1 tyX1_ok nmX1 hown hK hP hG hS (zV_0 (by decide)) rfl rfl 1 (by decide) (List.mem_cons_of_mem _ m_165) rfl rfl (by decide +kernel) (Nat.le_of_ble_eq_true rfl) rfl dX1_addByte_37 (fun H locs hP hS => ?_)
      rw [← eT4] at hP
      obtain ⟨q1, q2⟩ := zs_i hf
      subst q1; subst q2
      exact z_vret hx hb hr rfl hP hS hlocks (Nat.le_of_ble_eq_true rfl) (Nat.le_of_ble_eq_true rfl) dX1_addByte_40

def f_X1_emptyBuffer  (T : zT) : Option (Unit × zT) := zl (wI T 0 1 1 0) fun T1 => some ((), T1)
set_option maxHeartbeats 4000000 in
set_option maxRecDepth 100000 in
theorem c_X1_emptyBuffer  (T T' : zT) (v : Unit) (hf : f_X1_emptyBuffer  T = some (v, T')) : zC 0 yX1_emptyBuffer cX1_emptyBuffer 1 none 0  0 0  (fun G _ => [.ref (G 0 1)]) T (fun _ => .inl none) T' := by
  intro l D Y S V G A hl9 hG
  refine vx_ofW (cc := cX1_emptyBuffer) (maxL := 1) (ret := none) (by decide) rfl ?_
  intro p e s m args below meth c s₁ B hml hex hv
  obtain ⟨rfl, hK, hP, hA⟩ := hv
  have hx := B.exec
  have hb := B.bytes
  have hr := B.returns
  have hlocks := B.notSynchronized
  have hown : s.vm.findClass RX1 = some m.cls := findClass_of_methodNamed B.named
  have hts := atoms_spec (ws := Cond.code yX1_emptyBuffer cX1_emptyBuffer 1 none :: zWS) B.pre
  have F : zF 0 0  0 0  p l s m _ c cX1_emptyBuffer 1 RX1 (Cond.code yX1_emptyBuffer cX1_emptyBuffer 1 none) D Y S V G A := ⟨hx, hb, hml, hown, hts, hl9, hG, hK, hA⟩
  have hS : va_S A s.heap s.heap [] := va_S.rf
  have hl := lv_entry ([.ref (G 0 1)]) (n := 1) (Nat.le_of_ble_eq_true rfl)
  rw [lg_entry_eq]
  generalize (lg_sl ([.ref (G 0 1)]) ++ List.replicate (1 - (lg_sl ([.ref (G 0 1)])).length) Slot.unset).toArray = ls at hl ⊢
  have hl : lv_has ls 1 [(0, .ref (G 0 1))] := hl
  unfold f_X1_emptyBuffer at hf
  refine lv_aload_n hx hb dX1_emptyBuffer_0 rfl (lv_at hl 0 rfl) ?_
  refine lv_iconst (v := 0) hx hb dX1_emptyBuffer_1 (by decide) ?_
  obtain ⟨T1, eT1, hf⟩ := zl_i hf
  refine z_put hx hb hts (fun w h => List.mem_cons_of_mem _ (ziX1 w h)) tyX1 tyX1_ok nmX1 hown hK hP hG hS (zV_0 (by decide)) rfl rfl 1 (by decide) (List.mem_cons_of_mem _ m_165) rfl rfl (by decide +kernel) (Nat.le_of_ble_eq_true rfl) rfl dX1_emptyBuffer_2 (fun H locs hP hS => ?_)
  rw [← eT1] at hP
  obtain ⟨q1, q2⟩ := zs_i hf
  subst q1; subst q2
  exact z_vret hx hb hr rfl hP hS hlocks (Nat.le_of_ble_eq_true rfl) (Nat.le_of_ble_eq_true rfl) dX1_emptyBuffer_5

def jn_X1_classAt_58 (w2 : Int32) (T : zT) : Option (Int32 × zT) := (if w2 = 59 then some (3, T) else (if w2 = 32 then some (0, T) else (if w2 = 10 then some (0, T) else some (5, T))))
def jn_X1_classAt_44 (w2 : Int32) (T : zT) : Option (Int32 × zT) := (if w2 < 48 then jn_X1_classAt_58 w2 T else (if 57 < w2 then jn_X1_classAt_58 w2 T else some (2, T)))
def f_X1_classAt (p0 : Int32) (T : zT) : Option (Int32 × zT) := (if p0 < 0 then some (4, T) else (if (T.1 0 1 5) ≤ p0 then some (4, T) else (if p0 < 600 then if zin p0 600 = true then zl (T.2 0 4 p0.toNatClampNeg) fun x2 => (if x2 < 97 then jn_X1_classAt_44 x2 T else (if 122 < x2 then jn_X1_classAt_44 x2 T else some (1, T))) else none else some (4, T))))
set_option maxHeartbeats 4000000 in
set_option maxRecDepth 100000 in
theorem j_X1_classAt_58 {p : Program} {l : Launch} {e : Env} {s : State} {m : MethodId} {args : Array Value} {below : List Frame} {meth : Method} {c : Code} {D : va_G} {Y : Nat → ClassId} {S V : Nat → Nat} {G : Nat → Nat → Nat} {A : Nat → Prop} {c0 : Cond} (F : zF 0 0  0 0  p l s m args c cX1_classAt 3 RX1 c0 D Y S V G A) (hr : meth.sig.returnType = (some .int)) (hlocks : meth.locks = false) (hex : ∀ x ∈ c.exceptionTable.toList, False) (w2 : Int32) (T : zT) {T' : zT} {v : Int32} {H : Heap} {locs : List Loc} {ls : Array Slot} (hf : jn_X1_classAt_58 w2 T = some (v, T')) (hP : zP 0 D Y G T H) (hS : va_S A s.heap H locs) (hl : lv_has ls 3 [(2, .int w2)]) :
    W p l e (zR 0  0 0 ) s m args below meth c H locs 0 0 (vx_MQ below (zQ 0 D Y G A (.inl (some (.int v))) T') (zX 0 D Y G A (.inl (some (.int v))) T') args s  0 0  A) (F0 m 58 ls []) := by
  obtain ⟨hx, hb, hml, hown, hts, hl9, hG, hK, hA⟩ := id F
  unfold jn_X1_classAt_58 at hf
  refine lv_iload_n hx hb dX1_classAt_58 rfl (lv_at hl 0 rfl) ?_
  refine lv_bipush (v := 59) hx hb dX1_classAt_59 (by decide) ?_
  refine lv_icmp_ne (tgt := 66) hx hb dX1_classAt_61 (by decide) (fun hc => ?_) (fun hc => ?_)
  · have hf := zif_n hf hc
    refine lv_iload_n hx hb dX1_classAt_66 rfl (lv_at hl 0 rfl) ?_
    refine lv_bipush (v := 32) hx hb dX1_classAt_67 (by decide) ?_
    refine lv_icmp_eq (tgt := 78) hx hb dX1_classAt_69 (by decide) (fun hc => ?_) (fun hc => ?_)
    · have hf := zif_p hf hc
      refine lv_iconst (v := 0) hx hb dX1_classAt_78 (by decide) ?_
      refine lv_goto (tgt := 83) hx hb dX1_classAt_79 (by decide) ?_
      obtain ⟨q1, q2⟩ := zs_i hf
      subst q1; subst q2
      exact z_iret hx hb hr rfl hP hS hlocks (Nat.le_of_ble_eq_true rfl) (Nat.le_of_ble_eq_true rfl) dX1_classAt_83
    · have hf := zif_n hf hc
      refine lv_iload_n hx hb dX1_classAt_72 rfl (lv_at hl 0 rfl) ?_
      refine lv_bipush (v := 10) hx hb dX1_classAt_73 (by decide) ?_
      refine lv_icmp_ne (tgt := 82) hx hb dX1_classAt_75 (by decide) (fun hc => ?_) (fun hc => ?_)
      · have hf := zif_n hf hc
        refine lv_iconst (v := 5) hx hb dX1_classAt_82 (by decide) ?_
        obtain ⟨q1, q2⟩ := zs_i hf
        subst q1; subst q2
        exact z_iret hx hb hr rfl hP hS hlocks (Nat.le_of_ble_eq_true rfl) (Nat.le_of_ble_eq_true rfl) dX1_classAt_83
      · have hf := zif_p hf hc
        refine lv_iconst (v := 0) hx hb dX1_classAt_78 (by decide) ?_
        refine lv_goto (tgt := 83) hx hb dX1_classAt_79 (by decide) ?_
        obtain ⟨q1, q2⟩ := zs_i hf
        subst q1; subst q2
        exact z_iret hx hb hr rfl hP hS hlocks (Nat.le_of_ble_eq_true rfl) (Nat.le_of_ble_eq_true rfl) dX1_classAt_83
  · have hf := zif_p hf hc
    refine lv_iconst (v := 3) hx hb dX1_classAt_64 (by decide) ?_
    obtain ⟨q1, q2⟩ := zs_i hf
    subst q1; subst q2
    exact z_iret hx hb hr rfl hP hS hlocks (Nat.le_of_ble_eq_true rfl) (Nat.le_of_ble_eq_true rfl) dX1_classAt_65
set_option maxHeartbeats 4000000 in
set_option maxRecDepth 100000 in
theorem j_X1_classAt_44 {p : Program} {l : Launch} {e : Env} {s : State} {m : MethodId} {args : Array Value} {below : List Frame} {meth : Method} {c : Code} {D : va_G} {Y : Nat → ClassId} {S V : Nat → Nat} {G : Nat → Nat → Nat} {A : Nat → Prop} {c0 : Cond} (F : zF 0 0  0 0  p l s m args c cX1_classAt 3 RX1 c0 D Y S V G A) (hr : meth.sig.returnType = (some .int)) (hlocks : meth.locks = false) (hex : ∀ x ∈ c.exceptionTable.toList, False) (w2 : Int32) (T : zT) {T' : zT} {v : Int32} {H : Heap} {locs : List Loc} {ls : Array Slot} (hf : jn_X1_classAt_44 w2 T = some (v, T')) (hP : zP 0 D Y G T H) (hS : va_S A s.heap H locs) (hl : lv_has ls 3 [(2, .int w2)]) :
    W p l e (zR 0  0 0 ) s m args below meth c H locs 0 0 (vx_MQ below (zQ 0 D Y G A (.inl (some (.int v))) T') (zX 0 D Y G A (.inl (some (.int v))) T') args s  0 0  A) (F0 m 44 ls []) := by
  obtain ⟨hx, hb, hml, hown, hts, hl9, hG, hK, hA⟩ := id F
  unfold jn_X1_classAt_44 at hf
  refine lv_iload_n hx hb dX1_classAt_44 rfl (lv_at hl 0 rfl) ?_
  refine lv_bipush (v := 48) hx hb dX1_classAt_45 (by decide) ?_
  refine lv_icmp_lt (tgt := 58) hx hb dX1_classAt_47 (by decide) (fun hc => ?_) (fun hc => ?_)
  · have hf := zif_p hf hc
    exact j_X1_classAt_58 F hr hlocks hex w2 T hf hP hS (lv_sub hl [0] rfl)
  · have hf := zif_n hf hc
    refine lv_iload_n hx hb dX1_classAt_50 rfl (lv_at hl 0 rfl) ?_
    refine lv_bipush (v := 57) hx hb dX1_classAt_51 (by decide) ?_
    refine lv_icmp_gt (tgt := 58) hx hb dX1_classAt_53 (by decide) (fun hc => ?_) (fun hc => ?_)
    · have hf := zif_p hf hc
      exact j_X1_classAt_58 F hr hlocks hex w2 T hf hP hS (lv_sub hl [0] rfl)
    · have hf := zif_n hf hc
      refine lv_iconst (v := 2) hx hb dX1_classAt_56 (by decide) ?_
      obtain ⟨q1, q2⟩ := zs_i hf
      subst q1; subst q2
      exact z_iret hx hb hr rfl hP hS hlocks (Nat.le_of_ble_eq_true rfl) (Nat.le_of_ble_eq_true rfl) dX1_classAt_57
set_option maxHeartbeats 4000000 in
set_option maxRecDepth 100000 in
theorem c_X1_classAt (p0 : Int32) (T T' : zT) (v : Int32) (hf : f_X1_classAt p0 T = some (v, T')) : zC 0 yX1_classAt cX1_classAt 3 (some .int) 0  0 0  (fun G _ => [.ref (G 0 1), .int p0]) T (fun _ => .inl (some (.int v))) T' := by
  intro l D Y S V G A hl9 hG
  refine vx_ofW (cc := cX1_classAt) (maxL := 3) (ret := (some .int)) (by decide) rfl ?_
  intro p e s m args below meth c s₁ B hml hex hv
  obtain ⟨rfl, hK, hP, hA⟩ := hv
  have hx := B.exec
  have hb := B.bytes
  have hr := B.returns
  have hlocks := B.notSynchronized
  have hown : s.vm.findClass RX1 = some m.cls := findClass_of_methodNamed B.named
  have hts := atoms_spec (ws := Cond.code yX1_classAt cX1_classAt 3 (some .int) :: zWS) B.pre
  have F : zF 0 0  0 0  p l s m _ c cX1_classAt 3 RX1 (Cond.code yX1_classAt cX1_classAt 3 (some .int)) D Y S V G A := ⟨hx, hb, hml, hown, hts, hl9, hG, hK, hA⟩
  have hS : va_S A s.heap s.heap [] := va_S.rf
  have hl := lv_entry ([.ref (G 0 1), .int p0]) (n := 3) (Nat.le_of_ble_eq_true rfl)
  rw [lg_entry_eq]
  generalize (lg_sl ([.ref (G 0 1), .int p0]) ++ List.replicate (3 - (lg_sl ([.ref (G 0 1), .int p0])).length) Slot.unset).toArray = ls at hl ⊢
  have hl : lv_has ls 3 [(0, .ref (G 0 1)), (1, .int p0)] := hl
  unfold f_X1_classAt at hf
  refine lv_iload_n hx hb dX1_classAt_0 rfl (lv_at hl 1 rfl) ?_
  refine lv_if_lt (tgt := 21) hx hb dX1_classAt_1 (by decide) (fun hc => ?_) (fun hc => ?_)
  · have hf := zif_p hf hc
    refine lv_iconst (v := 4) hx hb dX1_classAt_21 (by decide) ?_
    obtain ⟨q1, q2⟩ := zs_i hf
    subst q1; subst q2
    exact z_iret hx hb hr rfl hP hS hlocks (Nat.le_of_ble_eq_true rfl) (Nat.le_of_ble_eq_true rfl) dX1_classAt_22
  · have hf := zif_n hf hc
    refine lv_iload_n hx hb dX1_classAt_4 rfl (lv_at hl 1 rfl) ?_
    refine lv_aload_n hx hb dX1_classAt_5 rfl (lv_at hl 0 rfl) ?_
    refine z_get hx hb hts (fun w h => List.mem_cons_of_mem _ (ziX1 w h)) hown hK hP (zV_0 (by decide)) rfl rfl 5 (by decide) (List.mem_cons_of_mem _ m_171) rfl rfl dX1_classAt_6 ?_
    refine lv_icmp_ge (tgt := 21) hx hb dX1_classAt_9 (by decide) (fun hc => ?_) (fun hc => ?_)
    · have hf := zif_p hf hc
      refine lv_iconst (v := 4) hx hb dX1_classAt_21 (by decide) ?_
      obtain ⟨q1, q2⟩ := zs_i hf
      subst q1; subst q2
      exact z_iret hx hb hr rfl hP hS hlocks (Nat.le_of_ble_eq_true rfl) (Nat.le_of_ble_eq_true rfl) dX1_classAt_22
    · have hf := zif_n hf hc
      refine lv_iload_n hx hb dX1_classAt_12 rfl (lv_at hl 1 rfl) ?_
      refine lv_aload_n hx hb dX1_classAt_13 rfl (lv_at hl 0 rfl) ?_
      refine z_get hx hb hts (fun w h => List.mem_cons_of_mem _ (ziX1 w h)) hown hK hP (zV_0 (by decide)) rfl rfl 4 (by decide) (List.mem_cons_of_mem _ m_170) rfl rfl dX1_classAt_14 ?_
      refine z_alen (v := 600) hx hb hK hP (zV_0 (by decide)) 1 rfl rfl rfl dX1_classAt_17 ?_
      refine lv_icmp_lt (tgt := 23) hx hb dX1_classAt_18 (by decide) (fun hc => ?_) (fun hc => ?_)
      · have hf := zif_p hf hc
        refine lv_aload_n hx hb dX1_classAt_23 rfl (lv_at hl 0 rfl) ?_
        refine z_get hx hb hts (fun w h => List.mem_cons_of_mem _ (ziX1 w h)) hown hK hP (zV_0 (by decide)) rfl rfl 4 (by decide) (List.mem_cons_of_mem _ m_170) rfl rfl dX1_classAt_24 ?_
        refine lv_iload_n hx hb dX1_classAt_27 rfl (lv_at hl 1 rfl) ?_
        obtain ⟨h1, hf⟩ := zif_c hf
        refine z_bald hx hb hK hP (zV_0 (by decide)) rfl (zin_i h1) dX1_classAt_28 ?_
        obtain ⟨x2, ex2, hf⟩ := zl_i hf
        refine z_topi ex2 ?_
        refine lv_istore_n (lv' := [(2, .int x2), (0, .ref (G 0 1)), (1, .int p0)]) hx hb dX1_classAt_29 rfl hl (by decide) rfl (fun ls hl => ?_)
        refine lv_iload_n hx hb dX1_classAt_30 rfl (lv_at hl 0 rfl) ?_
        refine lv_bipush (v := 97) hx hb dX1_classAt_31 (by decide) ?_
        refine lv_icmp_lt (tgt := 44) hx hb dX1_classAt_33 (by decide) (fun hc => ?_) (fun hc => ?_)
        · have hf := zif_p hf hc
          exact j_X1_classAt_44 F hr hlocks hex x2 T hf hP hS (lv_sub hl [0] rfl)
        · have hf := zif_n hf hc
          refine lv_iload_n hx hb dX1_classAt_36 rfl (lv_at hl 0 rfl) ?_
          refine lv_bipush (v := 122) hx hb dX1_classAt_37 (by decide) ?_
          refine lv_icmp_gt (tgt := 44) hx hb dX1_classAt_39 (by decide) (fun hc => ?_) (fun hc => ?_)
          · have hf := zif_p hf hc
            exact j_X1_classAt_44 F hr hlocks hex x2 T hf hP hS (lv_sub hl [0] rfl)
          · have hf := zif_n hf hc
            refine lv_iconst (v := 1) hx hb dX1_classAt_42 (by decide) ?_
            obtain ⟨q1, q2⟩ := zs_i hf
            subst q1; subst q2
            exact z_iret hx hb hr rfl hP hS hlocks (Nat.le_of_ble_eq_true rfl) (Nat.le_of_ble_eq_true rfl) dX1_classAt_43
      · have hf := zif_n hf hc
        refine lv_iconst (v := 4) hx hb dX1_classAt_21 (by decide) ?_
        obtain ⟨q1, q2⟩ := zs_i hf
        subst q1; subst q2
        exact z_iret hx hb hr rfl hP hS hlocks (Nat.le_of_ble_eq_true rfl) (Nat.le_of_ble_eq_true rfl) dX1_classAt_22

def f_X1_isRun (p0 : Int32) (T : zT) : Option (Int32 × zT) := (if p0 = 1 then some (1, T) else (if p0 = 2 then some (1, T) else some (0, T)))
set_option maxHeartbeats 4000000 in
set_option maxRecDepth 100000 in
theorem c_X1_isRun (p0 : Int32) (T T' : zT) (v : Int32) (hf : f_X1_isRun p0 T = some (v, T')) : zC 0 yX1_isRun cX1_isRun 1 (some .boolean) 0  0 0  (fun _ _ => [.int p0]) T (fun _ => .inl (some (.int v))) T' := by
  intro l D Y S V G A hl9 hG
  refine vx_ofW (cc := cX1_isRun) (maxL := 1) (ret := (some .boolean)) (by decide) rfl ?_
  intro p e s m args below meth c s₁ B hml hex hv
  obtain ⟨rfl, hK, hP, hA⟩ := hv
  have hx := B.exec
  have hb := B.bytes
  have hr := B.returns
  have hlocks := B.notSynchronized
  have hown : s.vm.findClass RX1 = some m.cls := findClass_of_methodNamed B.named
  have hts := atoms_spec (ws := Cond.code yX1_isRun cX1_isRun 1 (some .boolean) :: zWS) B.pre
  have F : zF 0 0  0 0  p l s m _ c cX1_isRun 1 RX1 (Cond.code yX1_isRun cX1_isRun 1 (some .boolean)) D Y S V G A := ⟨hx, hb, hml, hown, hts, hl9, hG, hK, hA⟩
  have hS : va_S A s.heap s.heap [] := va_S.rf
  have hl := lv_entry ([.int p0]) (n := 1) (Nat.le_of_ble_eq_true rfl)
  rw [lg_entry_eq]
  generalize (lg_sl ([.int p0]) ++ List.replicate (1 - (lg_sl ([.int p0])).length) Slot.unset).toArray = ls at hl ⊢
  have hl : lv_has ls 1 [(0, .int p0)] := hl
  unfold f_X1_isRun at hf
  refine lv_iload_n hx hb dX1_isRun_0 rfl (lv_at hl 0 rfl) ?_
  refine lv_iconst (v := 1) hx hb dX1_isRun_1 (by decide) ?_
  refine lv_icmp_eq (tgt := 10) hx hb dX1_isRun_2 (by decide) (fun hc => ?_) (fun hc => ?_)
  · have hf := zif_p hf hc
    refine lv_iconst (v := 1) hx hb dX1_isRun_10 (by decide) ?_
    refine lv_goto (tgt := 15) hx hb dX1_isRun_11 (by decide) ?_
    obtain ⟨q1, q2⟩ := zs_i hf
    subst q1; subst q2
    exact z_zret hx hb hr (Or.inr rfl) rfl hP hS hlocks (Nat.le_of_ble_eq_true rfl) (Nat.le_of_ble_eq_true rfl) dX1_isRun_15
  · have hf := zif_n hf hc
    refine lv_iload_n hx hb dX1_isRun_5 rfl (lv_at hl 0 rfl) ?_
    refine lv_iconst (v := 2) hx hb dX1_isRun_6 (by decide) ?_
    refine lv_icmp_ne (tgt := 14) hx hb dX1_isRun_7 (by decide) (fun hc => ?_) (fun hc => ?_)
    · have hf := zif_n hf hc
      refine lv_iconst (v := 0) hx hb dX1_isRun_14 (by decide) ?_
      obtain ⟨q1, q2⟩ := zs_i hf
      subst q1; subst q2
      exact z_zret hx hb hr (Or.inl rfl) rfl hP hS hlocks (Nat.le_of_ble_eq_true rfl) (Nat.le_of_ble_eq_true rfl) dX1_isRun_15
    · have hf := zif_p hf hc
      refine lv_iconst (v := 1) hx hb dX1_isRun_10 (by decide) ?_
      refine lv_goto (tgt := 15) hx hb dX1_isRun_11 (by decide) ?_
      obtain ⟨q1, q2⟩ := zs_i hf
      subst q1; subst q2
      exact z_zret hx hb hr (Or.inr rfl) rfl hP hS hlocks (Nat.le_of_ble_eq_true rfl) (Nat.le_of_ble_eq_true rfl) dX1_isRun_15

def lp_X1_readToken_13  : Nat → Int32 → zT → Option ((Int32) × zT)
  | 0, _, _ => none
  | n + 1, u1, T => (if (T.1 0 1 5) ≤ u1 then some (u1, T) else zb (f_X1_classAt u1 T) fun v3 T2 => (if v3 = 0 then zl (u1 + 1) fun x5 => lp_X1_readToken_13 n x5 T2 else some (u1, T2)))
def jn_X1_readToken_112 (w1 : Int32) (w2 : Int32) (w3 : Int32) (z0 : Int32) (T : zT) : Option (Unit × zT) := (if z0 = 0 then zl (wI T 0 1 6 w2) fun T15 => zl (wI T15 0 1 7 w1) fun T16 => zl (wI T16 0 1 8 w3) fun T17 => some ((), T17) else zl (wI T 0 1 6 5) fun T18 => zl (wI T18 0 1 7 w1) fun T19 => zl (wI T19 0 1 8 w3) fun T20 => some ((), T20))
def jn_X1_readToken_111 (w1 : Int32) (w2 : Int32) (w3 : Int32) (T : zT) : Option (Unit × zT) := jn_X1_readToken_112 w1 w2 w3 0 T
def jn_X1_readToken_82 (w1 : Int32) (w2 : Int32) (w3 : Int32) (T : zT) : Option (Unit × zT) := (if w1 = (T.1 0 1 8) then zb (f_X1_isRun (T.1 0 1 6) T) fun v22 T21 => (if v22 = 0 then jn_X1_readToken_111 w1 w2 w3 T21 else zb (f_X1_isRun w2 T21) fun v25 T24 => (if v25 = 0 then jn_X1_readToken_111 w1 w2 w3 T24 else jn_X1_readToken_112 w1 w2 w3 1 T24)) else jn_X1_readToken_111 w1 w2 w3 T)
def lp_X1_readToken_50 (w1 : Int32) (w2 : Int32) : Nat → Int32 → zT → Option ((Int32) × zT)
  | 0, _, _ => none
  | n + 1, u3, T => (if (T.1 0 1 5) ≤ u3 then some (u3, T) else zb (f_X1_classAt u3 T) fun v29 T28 => (if v29 = w2 then zl (u3 + 1) fun x31 => lp_X1_readToken_50 w1 w2 n x31 T28 else some (u3, T28)))
def jn_X1_readToken_35 (w1 : Int32) (T : zT) : Option (Unit × zT) := zb (f_X1_classAt w1 T) fun v10 T9 => zb (f_X1_isRun v10 T9) fun v13 T12 => (if v13 = 0 then (if v10 = 3 then zl (w1 + 1) fun x27 => jn_X1_readToken_82 w1 v10 x27 T12 else jn_X1_readToken_82 w1 v10 w1 T12) else zb (lp_X1_readToken_50 w1 v10 2000 w1 T12) fun v33 T32 => jn_X1_readToken_82 w1 v10 v33 T32)
def f_X1_readToken  (T : zT) : Option (Unit × zT) := (if (T.1 0 1 2) = 0 then zl (T.1 0 1 8) fun x1 => zb (lp_X1_readToken_13 2000 x1 T) fun v7 T6 => jn_X1_readToken_35 v7 T6 else some ((), T))
set_option maxHeartbeats 4000000 in
set_option maxRecDepth 100000 in
theorem l_X1_readToken_13 {p : Program} {l : Launch} {e : Env} {s : State} {m : MethodId} {args : Array Value} {below : List Frame} {meth : Method} {c : Code} {Q : State → Prop} {D : va_G} {Y : Nat → ClassId} {S V : Nat → Nat} {G : Nat → Nat → Nat} {A : Nat → Prop} {c0 : Cond} {mc ms cells slots : Nat} (F : zF 0 1 mc ms p l s m args c cX1_readToken 5 RX1 c0 D Y S V G A) (hcs : cells ≤ mc ∧ slots ≤ ms) :
    ∀ (n : Nat) (u1 : Int32) (T : zT) (o : (Int32) × zT) (H : Heap) (locs : List Loc) (ls : Array Slot), lp_X1_readToken_13 n u1 T = some o → zP 0 D Y G T H → va_S A s.heap H locs → lv_has ls 5 [(0, .ref (G 0 1)), (1, .int u1)] → (∀ (H : Heap) (locs : List Loc) (ls : Array Slot), zP 0 D Y G o.2 H → va_S A s.heap H locs → lv_has ls 5 [(0, .ref (G 0 1)), (1, .int o.1)] → W p l e (zR 1 mc ms) s m args below meth c H locs cells slots Q (F0 m 35 ls [])) → W p l e (zR 1 mc ms) s m args below meth c H locs cells slots Q (F0 m 13 ls []) := by
  obtain ⟨hx, hb, hml, hown, hts, hl9, hG, hK, hA⟩ := id F
  intro n
  induction n with
  | zero =>
    intro u1 T o H locs ls hf
    rw [lp_X1_readToken_13] at hf
    cases hf
  | succ n ih =>
    intro u1 T o H locs ls hf hP hS hl k0_
    rw [lp_X1_readToken_13] at hf
    refine lv_iload_n hx hb dX1_readToken_13 rfl (lv_at hl 1 rfl) ?_
    refine lv_aload_n hx hb dX1_readToken_14 rfl (lv_at hl 0 rfl) ?_
    refine z_get hx hb hts (fun w h => List.mem_cons_of_mem _ (ziX1 w h)) hown hK hP (zV_0 (by decide)) rfl rfl 5 (by decide) (List.mem_cons_of_mem _ m_171) rfl rfl dX1_readToken_15 ?_
    refine lv_icmp_ge (tgt := 35) hx hb dX1_readToken_18 (by decide) (fun hc => ?_) (fun hc => ?_)
    · have hf := zif_p hf hc
      cases hf
      exact k0_ _ _ _ hP hS (lv_sub hl [0, 1] rfl)
    · have hf := zif_n hf hc
      refine lv_aload_n hx hb dX1_readToken_21 rfl (lv_at hl 0 rfl) ?_
      refine lv_iload_n hx hb dX1_readToken_22 rfl (lv_at hl 1 rfl) ?_
      obtain ⟨v3, T2, h4, hf⟩ := zb_i hf
      refine z_ok (z_runV (As := [.int u1]) (rest := []) F k_X1_classAt m_279 (c_X1_classAt u1 T T2 _ h4) hP hS (zV_0 (by decide)) rfl rfl rfl rfl hl.1 (Nat.le_of_ble_eq_true rfl) dX1_readToken_23 (Nat.le_of_ble_eq_true rfl) ⟨hcs.1, hcs.2⟩ rfl) hS (fun H locs hP hS => ?_)
      refine lv_if_ne (tgt := 35) hx hb dX1_readToken_26 (by decide) (fun hc => ?_) (fun hc => ?_)
      · have hf := zif_n hf hc
        cases hf
        exact k0_ _ _ _ hP hS (lv_sub hl [0, 1] rfl)
      · have hf := zif_p hf hc
        obtain ⟨x5, ex5, hf⟩ := zl_i hf
        refine lv_iinc (v := x5) (lv' := [(1, .int x5), (0, .ref (G 0 1))]) hx hb dX1_readToken_29 hl (k := 1) rfl (by rw [ex5]; rfl) (by decide) rfl (fun ls hl => ?_)
        refine lv_goto (tgt := 13) hx hb dX1_readToken_32 (by decide) ?_
        exact ih x5 _ _ _ _ _ hf hP hS (lv_sub hl [1, 0] rfl) k0_
set_option maxHeartbeats 4000000 in
set_option maxRecDepth 100000 in
theorem j_X1_readToken_112 {p : Program} {l : Launch} {e : Env} {s : State} {m : MethodId} {args : Array Value} {below : List Frame} {meth : Method} {c : Code} {D : va_G} {Y : Nat → ClassId} {S V : Nat → Nat} {G : Nat → Nat → Nat} {A : Nat → Prop} {c0 : Cond} (F : zF 0 1  0 0  p l s m args c cX1_readToken 5 RX1 c0 D Y S V G A) (hr : meth.sig.returnType = none) (hlocks : meth.locks = false) (hex : ∀ x ∈ c.exceptionTable.toList, False) (w1 : Int32) (w2 : Int32) (w3 : Int32) (z0 : Int32) (T : zT) {T' : zT} {v : Unit} {H : Heap} {locs : List Loc} {ls : Array Slot} (hf : jn_X1_readToken_112 w1 w2 w3 z0 T = some (v, T')) (hP : zP 0 D Y G T H) (hS : va_S A s.heap H locs) (hl : lv_has ls 5 [(0, .ref (G 0 1)), (1, .int w1), (2, .int w2), (3, .int w3)]) :
    W p l e (zR 1  0 0 ) s m args below meth c H locs 0 0 (vx_MQ below (zQ 0 D Y G A (.inl none) T') (zX 0 D Y G A (.inl none) T') args s  0 0  A) (F0 m 112 ls [.int z0]) := by
  obtain ⟨hx, hb, hml, hown, hts, hl9, hG, hK, hA⟩ := id F
  unfold jn_X1_readToken_112 at hf
  refine lv_istore (lv' := [(4, .int z0), (0, .ref (G 0 1)), (1, .int w1), (2, .int w2), (3, .int w3)]) hx hb dX1_readToken_112 hl (by decide) rfl (fun ls hl => ?_)
  refine lv_aload_n hx hb dX1_readToken_114 rfl (lv_at hl 1 rfl) ?_
  refine lv_iload hx hb dX1_readToken_115 (lv_at hl 0 rfl) ?_
  refine lv_if_eq (tgt := 124) hx hb dX1_readToken_117 (by decide) (fun hc => ?_) (fun hc => ?_)
  · have hf := zif_p hf hc
    refine lv_iload_n hx hb dX1_readToken_124 rfl (lv_at hl 3 rfl) ?_
    obtain ⟨T15, eT15, hf⟩ := zl_i hf
    refine z_put hx hb hts (fun w h => List.mem_cons_of_mem _ (ziX1 w h)) tyX1 tyX1_ok nmX1 hown hK hP hG hS (zV_0 (by decide)) rfl rfl 6 (by decide) (List.mem_cons_of_mem _ m_172) rfl rfl (by decide +kernel) (Nat.le_of_ble_eq_true rfl) rfl dX1_readToken_125 (fun H locs hP hS => ?_)
    rw [← eT15] at hP
    refine lv_aload_n hx hb dX1_readToken_128 rfl (lv_at hl 1 rfl) ?_
    refine lv_iload_n hx hb dX1_readToken_129 rfl (lv_at hl 2 rfl) ?_
    obtain ⟨T16, eT16, hf⟩ := zl_i hf
    refine z_put hx hb hts (fun w h => List.mem_cons_of_mem _ (ziX1 w h)) tyX1 tyX1_ok nmX1 hown hK hP hG hS (zV_0 (by decide)) rfl rfl 7 (by decide) (List.mem_cons_of_mem _ m_173) rfl rfl (by decide +kernel) (Nat.le_of_ble_eq_true rfl) rfl dX1_readToken_130 (fun H locs hP hS => ?_)
    rw [← eT16] at hP
    refine lv_aload_n hx hb dX1_readToken_133 rfl (lv_at hl 1 rfl) ?_
    refine lv_iload_n hx hb dX1_readToken_134 rfl (lv_at hl 4 rfl) ?_
    obtain ⟨T17, eT17, hf⟩ := zl_i hf
    refine z_put hx hb hts (fun w h => List.mem_cons_of_mem _ (ziX1 w h)) tyX1 tyX1_ok nmX1 hown hK hP hG hS (zV_0 (by decide)) rfl rfl 8 (by decide) (List.mem_cons_of_mem _ m_174) rfl rfl (by decide +kernel) (Nat.le_of_ble_eq_true rfl) rfl dX1_readToken_135 (fun H locs hP hS => ?_)
    rw [← eT17] at hP
    obtain ⟨q1, q2⟩ := zs_i hf
    subst q1; subst q2
    exact z_vret hx hb hr rfl hP hS hlocks (Nat.le_of_ble_eq_true rfl) (Nat.le_of_ble_eq_true rfl) dX1_readToken_138
  · have hf := zif_n hf hc
    refine lv_iconst (v := 5) hx hb dX1_readToken_120 (by decide) ?_
    refine lv_goto (tgt := 125) hx hb dX1_readToken_121 (by decide) ?_
    obtain ⟨T18, eT18, hf⟩ := zl_i hf
    refine z_put hx hb hts (fun w h => List.mem_cons_of_mem _ (ziX1 w h)) tyX1 tyX1_ok nmX1 hown hK hP hG hS (zV_0 (by decide)) rfl rfl 6 (by decide) (List.mem_cons_of_mem _ m_172) rfl rfl (by decide +kernel) (Nat.le_of_ble_eq_true rfl) rfl dX1_readToken_125 (fun H locs hP hS => ?_)
    rw [← eT18] at hP
    refine lv_aload_n hx hb dX1_readToken_128 rfl (lv_at hl 1 rfl) ?_
    refine lv_iload_n hx hb dX1_readToken_129 rfl (lv_at hl 2 rfl) ?_
    obtain ⟨T19, eT19, hf⟩ := zl_i hf
    refine z_put hx hb hts (fun w h => List.mem_cons_of_mem _ (ziX1 w h)) tyX1 tyX1_ok nmX1 hown hK hP hG hS (zV_0 (by decide)) rfl rfl 7 (by decide) (List.mem_cons_of_mem _ m_173) rfl rfl (by decide +kernel) (Nat.le_of_ble_eq_true rfl) rfl dX1_readToken_130 (fun H locs hP hS => ?_)
    rw [← eT19] at hP
    refine lv_aload_n hx hb dX1_readToken_133 rfl (lv_at hl 1 rfl) ?_
    refine lv_iload_n hx hb dX1_readToken_134 rfl (lv_at hl 4 rfl) ?_
    obtain ⟨T20, eT20, hf⟩ := zl_i hf
    refine z_put hx hb hts (fun w h => List.mem_cons_of_mem _ (ziX1 w h)) tyX1 tyX1_ok nmX1 hown hK hP hG hS (zV_0 (by decide)) rfl rfl 8 (by decide) (List.mem_cons_of_mem _ m_174) rfl rfl (by decide +kernel) (Nat.le_of_ble_eq_true rfl) rfl dX1_readToken_135 (fun H locs hP hS => ?_)
    rw [← eT20] at hP
    obtain ⟨q1, q2⟩ := zs_i hf
    subst q1; subst q2
    exact z_vret hx hb hr rfl hP hS hlocks (Nat.le_of_ble_eq_true rfl) (Nat.le_of_ble_eq_true rfl) dX1_readToken_138
set_option maxHeartbeats 4000000 in
set_option maxRecDepth 100000 in
theorem j_X1_readToken_111 {p : Program} {l : Launch} {e : Env} {s : State} {m : MethodId} {args : Array Value} {below : List Frame} {meth : Method} {c : Code} {D : va_G} {Y : Nat → ClassId} {S V : Nat → Nat} {G : Nat → Nat → Nat} {A : Nat → Prop} {c0 : Cond} (F : zF 0 1  0 0  p l s m args c cX1_readToken 5 RX1 c0 D Y S V G A) (hr : meth.sig.returnType = none) (hlocks : meth.locks = false) (hex : ∀ x ∈ c.exceptionTable.toList, False) (w1 : Int32) (w2 : Int32) (w3 : Int32) (T : zT) {T' : zT} {v : Unit} {H : Heap} {locs : List Loc} {ls : Array Slot} (hf : jn_X1_readToken_111 w1 w2 w3 T = some (v, T')) (hP : zP 0 D Y G T H) (hS : va_S A s.heap H locs) (hl : lv_has ls 5 [(0, .ref (G 0 1)), (1, .int w1), (2, .int w2), (3, .int w3)]) :
    W p l e (zR 1  0 0 ) s m args below meth c H locs 0 0 (vx_MQ below (zQ 0 D Y G A (.inl none) T') (zX 0 D Y G A (.inl none) T') args s  0 0  A) (F0 m 111 ls []) := by
  obtain ⟨hx, hb, hml, hown, hts, hl9, hG, hK, hA⟩ := id F
  unfold jn_X1_readToken_111 at hf
  refine lv_iconst (v := 0) hx hb dX1_readToken_111 (by decide) ?_
  exact j_X1_readToken_112 F hr hlocks hex w1 w2 w3 0 T hf hP hS (lv_sub hl [0, 1, 2, 3] rfl)
set_option maxHeartbeats 4000000 in
set_option maxRecDepth 100000 in
theorem j_X1_readToken_82 {p : Program} {l : Launch} {e : Env} {s : State} {m : MethodId} {args : Array Value} {below : List Frame} {meth : Method} {c : Code} {D : va_G} {Y : Nat → ClassId} {S V : Nat → Nat} {G : Nat → Nat → Nat} {A : Nat → Prop} {c0 : Cond} (F : zF 0 1  0 0  p l s m args c cX1_readToken 5 RX1 c0 D Y S V G A) (hr : meth.sig.returnType = none) (hlocks : meth.locks = false) (hex : ∀ x ∈ c.exceptionTable.toList, False) (w1 : Int32) (w2 : Int32) (w3 : Int32) (T : zT) {T' : zT} {v : Unit} {H : Heap} {locs : List Loc} {ls : Array Slot} (hf : jn_X1_readToken_82 w1 w2 w3 T = some (v, T')) (hP : zP 0 D Y G T H) (hS : va_S A s.heap H locs) (hl : lv_has ls 5 [(0, .ref (G 0 1)), (1, .int w1), (2, .int w2), (3, .int w3)]) :
    W p l e (zR 1  0 0 ) s m args below meth c H locs 0 0 (vx_MQ below (zQ 0 D Y G A (.inl none) T') (zX 0 D Y G A (.inl none) T') args s  0 0  A) (F0 m 82 ls []) := by
  obtain ⟨hx, hb, hml, hown, hts, hl9, hG, hK, hA⟩ := id F
  unfold jn_X1_readToken_82 at hf
  refine lv_iload_n hx hb dX1_readToken_82 rfl (lv_at hl 1 rfl) ?_
  refine lv_aload_n hx hb dX1_readToken_83 rfl (lv_at hl 0 rfl) ?_
  refine z_get hx hb hts (fun w h => List.mem_cons_of_mem _ (ziX1 w h)) hown hK hP (zV_0 (by decide)) rfl rfl 8 (by decide) (List.mem_cons_of_mem _ m_174) rfl rfl dX1_readToken_84 ?_
  refine lv_icmp_ne (tgt := 111) hx hb dX1_readToken_87 (by decide) (fun hc => ?_) (fun hc => ?_)
  · have hf := zif_n hf hc
    exact j_X1_readToken_111 F hr hlocks hex w1 w2 w3 T hf hP hS (lv_sub hl [0, 1, 2, 3] rfl)
  · have hf := zif_p hf hc
    refine lv_aload_n hx hb dX1_readToken_90 rfl (lv_at hl 0 rfl) ?_
    refine z_get hx hb hts (fun w h => List.mem_cons_of_mem _ (ziX1 w h)) hown hK hP (zV_0 (by decide)) rfl rfl 6 (by decide) (List.mem_cons_of_mem _ m_172) rfl rfl dX1_readToken_91 ?_
    obtain ⟨v22, T21, h23, hf⟩ := zb_i hf
    refine z_ok (z_runS (As := [.int (T.1 0 1 6)]) (rest := []) F k_X1_isRun m_283 (c_X1_isRun (T.1 0 1 6) T T21 _ h23) hP hS rfl rfl hl.1 (Nat.le_of_ble_eq_true rfl) dX1_readToken_94 (Nat.le_of_ble_eq_true rfl) ⟨Nat.le_of_ble_eq_true rfl, Nat.le_of_ble_eq_true rfl⟩ rfl) hS (fun H locs hP hS => ?_)
    refine lv_if_eq (tgt := 111) hx hb dX1_readToken_97 (by decide) (fun hc => ?_) (fun hc => ?_)
    · have hf := zif_p hf hc
      exact j_X1_readToken_111 F hr hlocks hex w1 w2 w3 T21 hf hP hS (lv_sub hl [0, 1, 2, 3] rfl)
    · have hf := zif_n hf hc
      refine lv_iload_n hx hb dX1_readToken_100 rfl (lv_at hl 2 rfl) ?_
      obtain ⟨v25, T24, h26, hf⟩ := zb_i hf
      refine z_ok (z_runS (As := [.int w2]) (rest := []) F k_X1_isRun m_283 (c_X1_isRun w2 T21 T24 _ h26) hP hS rfl rfl hl.1 (Nat.le_of_ble_eq_true rfl) dX1_readToken_101 (Nat.le_of_ble_eq_true rfl) ⟨Nat.le_of_ble_eq_true rfl, Nat.le_of_ble_eq_true rfl⟩ rfl) hS (fun H locs hP hS => ?_)
      refine lv_if_eq (tgt := 111) hx hb dX1_readToken_104 (by decide) (fun hc => ?_) (fun hc => ?_)
      · have hf := zif_p hf hc
        exact j_X1_readToken_111 F hr hlocks hex w1 w2 w3 T24 hf hP hS (lv_sub hl [0, 1, 2, 3] rfl)
      · have hf := zif_n hf hc
        refine lv_iconst (v := 1) hx hb dX1_readToken_107 (by decide) ?_
        refine lv_goto (tgt := 112) hx hb dX1_readToken_108 (by decide) ?_
        exact j_X1_readToken_112 F hr hlocks hex w1 w2 w3 1 T24 hf hP hS (lv_sub hl [0, 1, 2, 3] rfl)
set_option maxHeartbeats 4000000 in
set_option maxRecDepth 100000 in
theorem l_X1_readToken_50 {p : Program} {l : Launch} {e : Env} {s : State} {m : MethodId} {args : Array Value} {below : List Frame} {meth : Method} {c : Code} {Q : State → Prop} {D : va_G} {Y : Nat → ClassId} {S V : Nat → Nat} {G : Nat → Nat → Nat} {A : Nat → Prop} {c0 : Cond} {mc ms cells slots : Nat} (F : zF 0 1 mc ms p l s m args c cX1_readToken 5 RX1 c0 D Y S V G A) (hcs : cells ≤ mc ∧ slots ≤ ms) (w1 : Int32) (w2 : Int32) :
    ∀ (n : Nat) (u3 : Int32) (T : zT) (o : (Int32) × zT) (H : Heap) (locs : List Loc) (ls : Array Slot), lp_X1_readToken_50 w1 w2 n u3 T = some o → zP 0 D Y G T H → va_S A s.heap H locs → lv_has ls 5 [(0, .ref (G 0 1)), (1, .int w1), (2, .int w2), (3, .int u3)] → (∀ (H : Heap) (locs : List Loc) (ls : Array Slot), zP 0 D Y G o.2 H → va_S A s.heap H locs → lv_has ls 5 [(0, .ref (G 0 1)), (1, .int w1), (2, .int w2), (3, .int o.1)] → W p l e (zR 1 mc ms) s m args below meth c H locs cells slots Q (F0 m 82 ls [])) → W p l e (zR 1 mc ms) s m args below meth c H locs cells slots Q (F0 m 50 ls []) := by
  obtain ⟨hx, hb, hml, hown, hts, hl9, hG, hK, hA⟩ := id F
  intro n
  induction n with
  | zero =>
    intro u3 T o H locs ls hf
    rw [lp_X1_readToken_50] at hf
    cases hf
  | succ n ih =>
    intro u3 T o H locs ls hf hP hS hl k0_
    rw [lp_X1_readToken_50] at hf
    refine lv_iload_n hx hb dX1_readToken_50 rfl (lv_at hl 3 rfl) ?_
    refine lv_aload_n hx hb dX1_readToken_51 rfl (lv_at hl 0 rfl) ?_
    refine z_get hx hb hts (fun w h => List.mem_cons_of_mem _ (ziX1 w h)) hown hK hP (zV_0 (by decide)) rfl rfl 5 (by decide) (List.mem_cons_of_mem _ m_171) rfl rfl dX1_readToken_52 ?_
    refine lv_icmp_ge (tgt := 82) hx hb dX1_readToken_55 (by decide) (fun hc => ?_) (fun hc => ?_)
    · have hf := zif_p hf hc
      cases hf
      exact k0_ _ _ _ hP hS (lv_sub hl [0, 1, 2, 3] rfl)
    · have hf := zif_n hf hc
      refine lv_aload_n hx hb dX1_readToken_58 rfl (lv_at hl 0 rfl) ?_
      refine lv_iload_n hx hb dX1_readToken_59 rfl (lv_at hl 3 rfl) ?_
      obtain ⟨v29, T28, h30, hf⟩ := zb_i hf
      refine z_ok (z_runV (As := [.int u3]) (rest := []) F k_X1_classAt m_279 (c_X1_classAt u3 T T28 _ h30) hP hS (zV_0 (by decide)) rfl rfl rfl rfl hl.1 (Nat.le_of_ble_eq_true rfl) dX1_readToken_60 (Nat.le_of_ble_eq_true rfl) ⟨hcs.1, hcs.2⟩ rfl) hS (fun H locs hP hS => ?_)
      refine lv_iload_n hx hb dX1_readToken_63 rfl (lv_at hl 2 rfl) ?_
      refine lv_icmp_ne (tgt := 82) hx hb dX1_readToken_64 (by decide) (fun hc => ?_) (fun hc => ?_)
      · have hf := zif_n hf hc
        cases hf
        exact k0_ _ _ _ hP hS (lv_sub hl [0, 1, 2, 3] rfl)
      · have hf := zif_p hf hc
        obtain ⟨x31, ex31, hf⟩ := zl_i hf
        refine lv_iinc (v := x31) (lv' := [(3, .int x31), (0, .ref (G 0 1)), (1, .int w1), (2, .int w2)]) hx hb dX1_readToken_67 hl (k := 3) rfl (by rw [ex31]; rfl) (by decide) rfl (fun ls hl => ?_)
        refine lv_goto (tgt := 50) hx hb dX1_readToken_70 (by decide) ?_
        exact ih x31 _ _ _ _ _ hf hP hS (lv_sub hl [1, 2, 3, 0] rfl) k0_
set_option maxHeartbeats 4000000 in
set_option maxRecDepth 100000 in
theorem j_X1_readToken_35 {p : Program} {l : Launch} {e : Env} {s : State} {m : MethodId} {args : Array Value} {below : List Frame} {meth : Method} {c : Code} {D : va_G} {Y : Nat → ClassId} {S V : Nat → Nat} {G : Nat → Nat → Nat} {A : Nat → Prop} {c0 : Cond} (F : zF 0 1  0 0  p l s m args c cX1_readToken 5 RX1 c0 D Y S V G A) (hr : meth.sig.returnType = none) (hlocks : meth.locks = false) (hex : ∀ x ∈ c.exceptionTable.toList, False) (w1 : Int32) (T : zT) {T' : zT} {v : Unit} {H : Heap} {locs : List Loc} {ls : Array Slot} (hf : jn_X1_readToken_35 w1 T = some (v, T')) (hP : zP 0 D Y G T H) (hS : va_S A s.heap H locs) (hl : lv_has ls 5 [(0, .ref (G 0 1)), (1, .int w1)]) :
    W p l e (zR 1  0 0 ) s m args below meth c H locs 0 0 (vx_MQ below (zQ 0 D Y G A (.inl none) T') (zX 0 D Y G A (.inl none) T') args s  0 0  A) (F0 m 35 ls []) := by
  obtain ⟨hx, hb, hml, hown, hts, hl9, hG, hK, hA⟩ := id F
  unfold jn_X1_readToken_35 at hf
  refine lv_aload_n hx hb dX1_readToken_35 rfl (lv_at hl 0 rfl) ?_
  refine lv_iload_n hx hb dX1_readToken_36 rfl (lv_at hl 1 rfl) ?_
  obtain ⟨v10, T9, h11, hf⟩ := zb_i hf
  refine z_ok (z_runV (As := [.int w1]) (rest := []) F k_X1_classAt m_279 (c_X1_classAt w1 T T9 _ h11) hP hS (zV_0 (by decide)) rfl rfl rfl rfl hl.1 (Nat.le_of_ble_eq_true rfl) dX1_readToken_37 (Nat.le_of_ble_eq_true rfl) ⟨Nat.le_of_ble_eq_true rfl, Nat.le_of_ble_eq_true rfl⟩ rfl) hS (fun H locs hP hS => ?_)
  refine lv_istore_n (lv' := [(2, .int v10), (0, .ref (G 0 1)), (1, .int w1)]) hx hb dX1_readToken_40 rfl hl (by decide) rfl (fun ls hl => ?_)
  refine lv_iload_n hx hb dX1_readToken_41 rfl (lv_at hl 2 rfl) ?_
  refine lv_istore_n (lv' := [(3, .int w1), (2, .int v10), (0, .ref (G 0 1)), (1, .int w1)]) hx hb dX1_readToken_42 rfl hl (by decide) rfl (fun ls hl => ?_)
  refine lv_iload_n hx hb dX1_readToken_43 rfl (lv_at hl 1 rfl) ?_
  obtain ⟨v13, T12, h14, hf⟩ := zb_i hf
  refine z_ok (z_runS (As := [.int v10]) (rest := []) F k_X1_isRun m_283 (c_X1_isRun v10 T9 T12 _ h14) hP hS rfl rfl hl.1 (Nat.le_of_ble_eq_true rfl) dX1_readToken_44 (Nat.le_of_ble_eq_true rfl) ⟨Nat.le_of_ble_eq_true rfl, Nat.le_of_ble_eq_true rfl⟩ rfl) hS (fun H locs hP hS => ?_)
  refine lv_if_eq (tgt := 73) hx hb dX1_readToken_47 (by decide) (fun hc => ?_) (fun hc => ?_)
  · have hf := zif_p hf hc
    refine lv_iload_n hx hb dX1_readToken_73 rfl (lv_at hl 1 rfl) ?_
    refine lv_iconst (v := 3) hx hb dX1_readToken_74 (by decide) ?_
    refine lv_icmp_ne (tgt := 82) hx hb dX1_readToken_75 (by decide) (fun hc => ?_) (fun hc => ?_)
    · have hf := zif_n hf hc
      exact j_X1_readToken_82 F hr hlocks hex w1 v10 w1 T12 hf hP hS (lv_sub hl [2, 3, 1, 0] rfl)
    · have hf := zif_p hf hc
      refine lv_iload_n hx hb dX1_readToken_78 rfl (lv_at hl 3 rfl) ?_
      refine lv_iconst (v := 1) hx hb dX1_readToken_79 (by decide) ?_
      refine lv_iadd hx hb dX1_readToken_80 ?_
      obtain ⟨x27, ex27, hf⟩ := zl_i hf
      refine z_topi ex27 ?_
      refine lv_istore_n (lv' := [(3, .int x27), (2, .int v10), (0, .ref (G 0 1)), (1, .int w1)]) hx hb dX1_readToken_81 rfl hl (by decide) rfl (fun ls hl => ?_)
      exact j_X1_readToken_82 F hr hlocks hex w1 v10 x27 T12 hf hP hS (lv_sub hl [2, 3, 1, 0] rfl)
  · have hf := zif_n hf hc
    obtain ⟨v33, T32, h34, hf⟩ := zb_i hf
    refine l_X1_readToken_50 F ⟨Nat.le_of_ble_eq_true rfl, Nat.le_of_ble_eq_true rfl⟩ w1 v10 2000 w1 _ _ _ _ _ h34 hP hS (lv_sub hl [2, 3, 1, 0] rfl) (fun H locs ls hP hS hl => ?_)
    exact j_X1_readToken_82 F hr hlocks hex w1 v10 v33 T32 hf hP hS (lv_sub hl [0, 1, 2, 3] rfl)
set_option maxHeartbeats 4000000 in
set_option maxRecDepth 100000 in
theorem c_X1_readToken  (T T' : zT) (v : Unit) (hf : f_X1_readToken  T = some (v, T')) : zC 0 yX1_readToken cX1_readToken 5 none 1  0 0  (fun G _ => [.ref (G 0 1)]) T (fun _ => .inl none) T' := by
  intro l D Y S V G A hl9 hG
  refine vx_ofW (cc := cX1_readToken) (maxL := 5) (ret := none) (by decide) rfl ?_
  intro p e s m args below meth c s₁ B hml hex hv
  obtain ⟨rfl, hK, hP, hA⟩ := hv
  have hx := B.exec
  have hb := B.bytes
  have hr := B.returns
  have hlocks := B.notSynchronized
  have hown : s.vm.findClass RX1 = some m.cls := findClass_of_methodNamed B.named
  have hts := atoms_spec (ws := Cond.code yX1_readToken cX1_readToken 5 none :: zWS) B.pre
  have F : zF 0 1  0 0  p l s m _ c cX1_readToken 5 RX1 (Cond.code yX1_readToken cX1_readToken 5 none) D Y S V G A := ⟨hx, hb, hml, hown, hts, hl9, hG, hK, hA⟩
  have hS : va_S A s.heap s.heap [] := va_S.rf
  have hl := lv_entry ([.ref (G 0 1)]) (n := 5) (Nat.le_of_ble_eq_true rfl)
  rw [lg_entry_eq]
  generalize (lg_sl ([.ref (G 0 1)]) ++ List.replicate (5 - (lg_sl ([.ref (G 0 1)])).length) Slot.unset).toArray = ls at hl ⊢
  have hl : lv_has ls 5 [(0, .ref (G 0 1))] := hl
  unfold f_X1_readToken at hf
  refine lv_aload_n hx hb dX1_readToken_0 rfl (lv_at hl 0 rfl) ?_
  refine z_get hx hb hts (fun w h => List.mem_cons_of_mem _ (ziX1 w h)) hown hK hP (zV_0 (by decide)) rfl rfl 2 (by decide) (List.mem_cons_of_mem _ m_166) rfl rfl dX1_readToken_1 ?_
  refine lv_if_eq (tgt := 8) hx hb dX1_readToken_4 (by decide) (fun hc => ?_) (fun hc => ?_)
  · have hf := zif_p hf hc
    refine lv_aload_n hx hb dX1_readToken_8 rfl (lv_at hl 0 rfl) ?_
    refine z_get hx hb hts (fun w h => List.mem_cons_of_mem _ (ziX1 w h)) hown hK hP (zV_0 (by decide)) rfl rfl 8 (by decide) (List.mem_cons_of_mem _ m_174) rfl rfl dX1_readToken_9 ?_
    obtain ⟨x1, ex1, hf⟩ := zl_i hf
    refine z_topi ex1 ?_
    refine lv_istore_n (lv' := [(1, .int x1), (0, .ref (G 0 1))]) hx hb dX1_readToken_12 rfl hl (by decide) rfl (fun ls hl => ?_)
    obtain ⟨v7, T6, h8, hf⟩ := zb_i hf
    refine l_X1_readToken_13 F ⟨Nat.le_of_ble_eq_true rfl, Nat.le_of_ble_eq_true rfl⟩  2000 x1 _ _ _ _ _ h8 hP hS (lv_sub hl [1, 0] rfl) (fun H locs ls hP hS hl => ?_)
    exact j_X1_readToken_35 F hr hlocks hex v7 T6 hf hP hS (lv_sub hl [0, 1] rfl)
  · have hf := zif_n hf hc
    obtain ⟨q1, q2⟩ := zs_i hf
    subst q1; subst q2
    exact z_vret hx hb hr rfl hP hS hlocks (Nat.le_of_ble_eq_true rfl) (Nat.le_of_ble_eq_true rfl) dX1_readToken_7

def f_X1_byteAt (p0 : Int32) (T : zT) : Option (Int32 × zT) := (if p0 < 0 then some (0, T) else (if 600 ≤ p0 then some (0, T) else if zin p0 600 = true then some ((T.2 0 4 p0.toNatClampNeg), T) else none))
set_option maxHeartbeats 4000000 in
set_option maxRecDepth 100000 in
theorem c_X1_byteAt (p0 : Int32) (T T' : zT) (v : Int32) (hf : f_X1_byteAt p0 T = some (v, T')) : zC 0 yX1_byteAt cX1_byteAt 2 (some .int) 0  0 0  (fun G _ => [.ref (G 0 1), .int p0]) T (fun _ => .inl (some (.int v))) T' := by
  intro l D Y S V G A hl9 hG
  refine vx_ofW (cc := cX1_byteAt) (maxL := 2) (ret := (some .int)) (by decide) rfl ?_
  intro p e s m args below meth c s₁ B hml hex hv
  obtain ⟨rfl, hK, hP, hA⟩ := hv
  have hx := B.exec
  have hb := B.bytes
  have hr := B.returns
  have hlocks := B.notSynchronized
  have hown : s.vm.findClass RX1 = some m.cls := findClass_of_methodNamed B.named
  have hts := atoms_spec (ws := Cond.code yX1_byteAt cX1_byteAt 2 (some .int) :: zWS) B.pre
  have F : zF 0 0  0 0  p l s m _ c cX1_byteAt 2 RX1 (Cond.code yX1_byteAt cX1_byteAt 2 (some .int)) D Y S V G A := ⟨hx, hb, hml, hown, hts, hl9, hG, hK, hA⟩
  have hS : va_S A s.heap s.heap [] := va_S.rf
  have hl := lv_entry ([.ref (G 0 1), .int p0]) (n := 2) (Nat.le_of_ble_eq_true rfl)
  rw [lg_entry_eq]
  generalize (lg_sl ([.ref (G 0 1), .int p0]) ++ List.replicate (2 - (lg_sl ([.ref (G 0 1), .int p0])).length) Slot.unset).toArray = ls at hl ⊢
  have hl : lv_has ls 2 [(0, .ref (G 0 1)), (1, .int p0)] := hl
  unfold f_X1_byteAt at hf
  refine lv_iload_n hx hb dX1_byteAt_0 rfl (lv_at hl 1 rfl) ?_
  refine lv_if_lt (tgt := 22) hx hb dX1_byteAt_1 (by decide) (fun hc => ?_) (fun hc => ?_)
  · have hf := zif_p hf hc
    refine lv_iconst (v := 0) hx hb dX1_byteAt_22 (by decide) ?_
    obtain ⟨q1, q2⟩ := zs_i hf
    subst q1; subst q2
    exact z_iret hx hb hr rfl hP hS hlocks (Nat.le_of_ble_eq_true rfl) (Nat.le_of_ble_eq_true rfl) dX1_byteAt_23
  · have hf := zif_n hf hc
    refine lv_iload_n hx hb dX1_byteAt_4 rfl (lv_at hl 1 rfl) ?_
    refine lv_aload_n hx hb dX1_byteAt_5 rfl (lv_at hl 0 rfl) ?_
    refine z_get hx hb hts (fun w h => List.mem_cons_of_mem _ (ziX1 w h)) hown hK hP (zV_0 (by decide)) rfl rfl 4 (by decide) (List.mem_cons_of_mem _ m_170) rfl rfl dX1_byteAt_6 ?_
    refine z_alen (v := 600) hx hb hK hP (zV_0 (by decide)) 1 rfl rfl rfl dX1_byteAt_9 ?_
    refine lv_icmp_ge (tgt := 22) hx hb dX1_byteAt_10 (by decide) (fun hc => ?_) (fun hc => ?_)
    · have hf := zif_p hf hc
      refine lv_iconst (v := 0) hx hb dX1_byteAt_22 (by decide) ?_
      obtain ⟨q1, q2⟩ := zs_i hf
      subst q1; subst q2
      exact z_iret hx hb hr rfl hP hS hlocks (Nat.le_of_ble_eq_true rfl) (Nat.le_of_ble_eq_true rfl) dX1_byteAt_23
    · have hf := zif_n hf hc
      refine lv_aload_n hx hb dX1_byteAt_13 rfl (lv_at hl 0 rfl) ?_
      refine z_get hx hb hts (fun w h => List.mem_cons_of_mem _ (ziX1 w h)) hown hK hP (zV_0 (by decide)) rfl rfl 4 (by decide) (List.mem_cons_of_mem _ m_170) rfl rfl dX1_byteAt_14 ?_
      refine lv_iload_n hx hb dX1_byteAt_17 rfl (lv_at hl 1 rfl) ?_
      obtain ⟨h1, hf⟩ := zif_c hf
      refine z_bald hx hb hK hP (zV_0 (by decide)) rfl (zin_i h1) dX1_byteAt_18 ?_
      refine lv_goto (tgt := 23) hx hb dX1_byteAt_19 (by decide) ?_
      obtain ⟨q1, q2⟩ := zs_i hf
      subst q1; subst q2
      exact z_iret hx hb hr rfl hP hS hlocks (Nat.le_of_ble_eq_true rfl) (Nat.le_of_ble_eq_true rfl) dX1_byteAt_23

def lp_X1_tokenIs_28 (s0 : Nat) : Nat → Int32 → zT → Option ((Nat × Int32) × zT)
  | 0, _, _ => none
  | n + 1, u2, T => (if (nI (zbytes s0).length) ≤ u2 then some ((1, u2), T) else zb (f_X1_byteAt ((T.1 0 1 7) + u2) T) fun v2 T1 => if zin u2 (zbytes s0).length = true then (if v2 = ((zbytes s0).getD u2.toNatClampNeg 0) then zl (u2 + 1) fun x5 => lp_X1_tokenIs_28 s0 n x5 T1 else some ((0, u2), T1)) else none)
def f_X1_tokenIs (s0 : Nat) (T : zT) : Option (Int32 × zT) := (if (T.1 0 1 6) = 1 then (if ((T.1 0 1 8) - (T.1 0 1 7)) = (nI (zbytes s0).length) then zb (lp_X1_tokenIs_28 s0 2000 0 T) fun v7 T6 => if v7.1 = 0 then some (0, T6) else if v7.1 = 1 then some (1, T6) else none else some (0, T)) else some (0, T))
set_option maxHeartbeats 4000000 in
set_option maxRecDepth 100000 in
theorem l_X1_tokenIs_28 {p : Program} {l : Launch} {e : Env} {s : State} {m : MethodId} {args : Array Value} {below : List Frame} {meth : Method} {c : Code} {Q : State → Prop} {D : va_G} {Y : Nat → ClassId} {S V : Nat → Nat} {G : Nat → Nat → Nat} {A : Nat → Prop} {c0 : Cond} {mc ms cells slots : Nat} {s0 : Nat} (F : zF 0 5 mc ms p l s m args c cX1_tokenIs 3 RX1 c0 D Y S V G A) (hs0 : s0 < 12) (hcs : cells ≤ mc ∧ slots ≤ ms) :
    ∀ (n : Nat) (u2 : Int32) (T : zT) (o : (Nat × Int32) × zT) (H : Heap) (locs : List Loc) (ls : Array Slot), lp_X1_tokenIs_28 s0 n u2 T = some o → zP 0 D Y G T H → va_S A s.heap H locs → lv_has ls 3 [(0, .ref (G 0 1)), (1, .ref (S s0)), (2, .int u2)] → (o.1.1 = 0 → ∀ (H : Heap) (locs : List Loc) (ls : Array Slot), zP 0 D Y G o.2 H → va_S A s.heap H locs → lv_has ls 3 [(0, .ref (G 0 1)), (1, .ref (S s0)), (2, .int o.1.2)] → W p l e (zR 5 mc ms) s m args below meth c H locs cells slots Q (F0 m 54 ls [])) → (o.1.1 = 1 → ∀ (H : Heap) (locs : List Loc) (ls : Array Slot), zP 0 D Y G o.2 H → va_S A s.heap H locs → lv_has ls 3 [(0, .ref (G 0 1)), (1, .ref (S s0)), (2, .int o.1.2)] → W p l e (zR 5 mc ms) s m args below meth c H locs cells slots Q (F0 m 62 ls [])) → W p l e (zR 5 mc ms) s m args below meth c H locs cells slots Q (F0 m 28 ls []) := by
  obtain ⟨hx, hb, hml, hown, hts, hl9, hG, hK, hA⟩ := id F
  intro n
  induction n with
  | zero =>
    intro u2 T o H locs ls hf
    rw [lp_X1_tokenIs_28] at hf
    cases hf
  | succ n ih =>
    intro u2 T o H locs ls hf hP hS hl k0_ k1_
    rw [lp_X1_tokenIs_28] at hf
    refine lv_iload_n hx hb dX1_tokenIs_28 rfl (lv_at hl 2 rfl) ?_
    refine lv_aload_n hx hb dX1_tokenIs_29 rfl (lv_at hl 1 rfl) ?_
    refine z_slen F m_291 hP hS hs0 hl.1 (Nat.le_of_ble_eq_true rfl) (Nat.le_of_ble_eq_true rfl) ⟨hcs.1, hcs.2⟩ dX1_tokenIs_30 (fun H locs hP hS => ?_)
    refine lv_icmp_ge (tgt := 62) hx hb dX1_tokenIs_33 (by decide) (fun hc => ?_) (fun hc => ?_)
    · have hf := zif_p hf hc
      cases hf
      exact k1_ rfl _ _ _ hP hS (lv_sub hl [0, 1, 2] rfl)
    · have hf := zif_n hf hc
      refine lv_aload_n hx hb dX1_tokenIs_36 rfl (lv_at hl 0 rfl) ?_
      refine lv_aload_n hx hb dX1_tokenIs_37 rfl (lv_at hl 0 rfl) ?_
      refine z_get hx hb hts (fun w h => List.mem_cons_of_mem _ (ziX1 w h)) hown hK hP (zV_0 (by decide)) rfl rfl 7 (by decide) (List.mem_cons_of_mem _ m_173) rfl rfl dX1_tokenIs_38 ?_
      refine lv_iload_n hx hb dX1_tokenIs_41 rfl (lv_at hl 2 rfl) ?_
      refine lv_iadd hx hb dX1_tokenIs_42 ?_
      obtain ⟨v2, T1, h3, hf⟩ := zb_i hf
      refine z_ok (z_runV (As := [.int ((T.1 0 1 7) + u2)]) (rest := []) F k_X1_byteAt m_292 (c_X1_byteAt ((T.1 0 1 7) + u2) T T1 _ h3) hP hS (zV_0 (by decide)) rfl rfl rfl rfl hl.1 (Nat.le_of_ble_eq_true rfl) dX1_tokenIs_43 (Nat.le_of_ble_eq_true rfl) ⟨hcs.1, hcs.2⟩ rfl) hS (fun H locs hP hS => ?_)
      refine lv_aload_n hx hb dX1_tokenIs_46 rfl (lv_at hl 1 rfl) ?_
      refine lv_iload_n hx hb dX1_tokenIs_47 rfl (lv_at hl 2 rfl) ?_
      obtain ⟨h4, hf⟩ := zif_c hf
      refine z_schar F m_296 hP hS hs0 (zin_i h4) hl.1 (Nat.le_of_ble_eq_true rfl) (Nat.le_of_ble_eq_true rfl) ⟨hcs.1, hcs.2⟩ dX1_tokenIs_48 (fun H locs hP hS => ?_)
      refine lv_icmp_eq (tgt := 56) hx hb dX1_tokenIs_51 (by decide) (fun hc => ?_) (fun hc => ?_)
      · have hf := zif_p hf hc
        obtain ⟨x5, ex5, hf⟩ := zl_i hf
        refine lv_iinc (v := x5) (lv' := [(2, .int x5), (0, .ref (G 0 1)), (1, .ref (S s0))]) hx hb dX1_tokenIs_56 hl (k := 2) rfl (by rw [ex5]; rfl) (by decide) rfl (fun ls hl => ?_)
        refine lv_goto (tgt := 28) hx hb dX1_tokenIs_59 (by decide) ?_
        exact ih x5 _ _ _ _ _ hf hP hS (lv_sub hl [1, 2, 0] rfl) k0_ k1_
      · have hf := zif_n hf hc
        cases hf
        exact k0_ rfl _ _ _ hP hS (lv_sub hl [0, 1, 2] rfl)
set_option maxHeartbeats 4000000 in
set_option maxRecDepth 100000 in
theorem c_X1_tokenIs (s0 : Nat) (hs0 : s0 < 12) (T T' : zT) (v : Int32) (hf : f_X1_tokenIs s0 T = some (v, T')) : zC 0 yX1_tokenIs cX1_tokenIs 3 (some .boolean) 5  0 0  (fun G S => [.ref (G 0 1), .ref (S s0)]) T (fun _ => .inl (some (.int v))) T' := by
  intro l D Y S V G A hl9 hG
  refine vx_ofW (cc := cX1_tokenIs) (maxL := 3) (ret := (some .boolean)) (by decide) rfl ?_
  intro p e s m args below meth c s₁ B hml hex hv
  obtain ⟨rfl, hK, hP, hA⟩ := hv
  have hx := B.exec
  have hb := B.bytes
  have hr := B.returns
  have hlocks := B.notSynchronized
  have hown : s.vm.findClass RX1 = some m.cls := findClass_of_methodNamed B.named
  have hts := atoms_spec (ws := Cond.code yX1_tokenIs cX1_tokenIs 3 (some .boolean) :: zWS) B.pre
  have F : zF 0 5  0 0  p l s m _ c cX1_tokenIs 3 RX1 (Cond.code yX1_tokenIs cX1_tokenIs 3 (some .boolean)) D Y S V G A := ⟨hx, hb, hml, hown, hts, hl9, hG, hK, hA⟩
  have hS : va_S A s.heap s.heap [] := va_S.rf
  have hl := lv_entry ([.ref (G 0 1), .ref (S s0)]) (n := 3) (Nat.le_of_ble_eq_true rfl)
  rw [lg_entry_eq]
  generalize (lg_sl ([.ref (G 0 1), .ref (S s0)]) ++ List.replicate (3 - (lg_sl ([.ref (G 0 1), .ref (S s0)])).length) Slot.unset).toArray = ls at hl ⊢
  have hl : lv_has ls 3 [(0, .ref (G 0 1)), (1, .ref (S s0))] := hl
  unfold f_X1_tokenIs at hf
  refine lv_aload_n hx hb dX1_tokenIs_0 rfl (lv_at hl 0 rfl) ?_
  refine z_get hx hb hts (fun w h => List.mem_cons_of_mem _ (ziX1 w h)) hown hK hP (zV_0 (by decide)) rfl rfl 6 (by decide) (List.mem_cons_of_mem _ m_172) rfl rfl dX1_tokenIs_1 ?_
  refine lv_iconst (v := 1) hx hb dX1_tokenIs_4 (by decide) ?_
  refine lv_icmp_ne (tgt := 24) hx hb dX1_tokenIs_5 (by decide) (fun hc => ?_) (fun hc => ?_)
  · have hf := zif_n hf hc
    refine lv_iconst (v := 0) hx hb dX1_tokenIs_24 (by decide) ?_
    obtain ⟨q1, q2⟩ := zs_i hf
    subst q1; subst q2
    exact z_zret hx hb hr (Or.inl rfl) rfl hP hS hlocks (Nat.le_of_ble_eq_true rfl) (Nat.le_of_ble_eq_true rfl) dX1_tokenIs_25
  · have hf := zif_p hf hc
    refine lv_aload_n hx hb dX1_tokenIs_8 rfl (lv_at hl 0 rfl) ?_
    refine z_get hx hb hts (fun w h => List.mem_cons_of_mem _ (ziX1 w h)) hown hK hP (zV_0 (by decide)) rfl rfl 8 (by decide) (List.mem_cons_of_mem _ m_174) rfl rfl dX1_tokenIs_9 ?_
    refine lv_aload_n hx hb dX1_tokenIs_12 rfl (lv_at hl 0 rfl) ?_
    refine z_get hx hb hts (fun w h => List.mem_cons_of_mem _ (ziX1 w h)) hown hK hP (zV_0 (by decide)) rfl rfl 7 (by decide) (List.mem_cons_of_mem _ m_173) rfl rfl dX1_tokenIs_13 ?_
    refine lv_isub hx hb dX1_tokenIs_16 ?_
    refine lv_aload_n hx hb dX1_tokenIs_17 rfl (lv_at hl 1 rfl) ?_
    refine z_slen F m_291 hP hS hs0 hl.1 (Nat.le_of_ble_eq_true rfl) (Nat.le_of_ble_eq_true rfl) ⟨Nat.le_of_ble_eq_true rfl, Nat.le_of_ble_eq_true rfl⟩ dX1_tokenIs_18 (fun H locs hP hS => ?_)
    refine lv_icmp_eq (tgt := 26) hx hb dX1_tokenIs_21 (by decide) (fun hc => ?_) (fun hc => ?_)
    · have hf := zif_p hf hc
      refine lv_iconst (v := 0) hx hb dX1_tokenIs_26 (by decide) ?_
      refine lv_istore_n (lv' := [(2, .int 0), (0, .ref (G 0 1)), (1, .ref (S s0))]) hx hb dX1_tokenIs_27 rfl hl (by decide) rfl (fun ls hl => ?_)
      obtain ⟨v7, T6, h8, hf⟩ := zb_i hf
      refine l_X1_tokenIs_28 F hs0 ⟨Nat.le_of_ble_eq_true rfl, Nat.le_of_ble_eq_true rfl⟩  2000 0 _ _ _ _ _ h8 hP hS (lv_sub hl [1, 2, 0] rfl) (fun hc H locs ls hP hS hl => ?_) (fun hc H locs ls hP hS hl => ?_)
      · have hf := zif_p hf hc
        refine lv_iconst (v := 0) hx hb dX1_tokenIs_54 (by decide) ?_
        obtain ⟨q1, q2⟩ := zs_i hf
        subst q1; subst q2
        exact z_zret hx hb hr (Or.inl rfl) rfl hP hS hlocks (Nat.le_of_ble_eq_true rfl) (Nat.le_of_ble_eq_true rfl) dX1_tokenIs_55
      · have hf := zif_n hf (by rw [hc]; decide)
        have hf := zif_p hf hc
        refine lv_iconst (v := 1) hx hb dX1_tokenIs_62 (by decide) ?_
        obtain ⟨q1, q2⟩ := zs_i hf
        subst q1; subst q2
        exact z_zret hx hb hr (Or.inr rfl) rfl hP hS hlocks (Nat.le_of_ble_eq_true rfl) (Nat.le_of_ble_eq_true rfl) dX1_tokenIs_63
    · have hf := zif_n hf hc
      refine lv_iconst (v := 0) hx hb dX1_tokenIs_24 (by decide) ?_
      obtain ⟨q1, q2⟩ := zs_i hf
      subst q1; subst q2
      exact z_zret hx hb hr (Or.inl rfl) rfl hP hS hlocks (Nat.le_of_ble_eq_true rfl) (Nat.le_of_ble_eq_true rfl) dX1_tokenIs_25

def f_X1_fail (p0 : Int32) (T : zT) : Option (Unit × zT) := (if (T.1 0 1 2) = 0 then zl (wI T 0 1 2 p0) fun T1 => zl (T1.1 0 1 7) fun x2 => zl (wI T1 0 1 3 x2) fun T3 => some ((), T3) else some ((), T))
set_option maxHeartbeats 4000000 in
set_option maxRecDepth 100000 in
theorem c_X1_fail (p0 : Int32) (T T' : zT) (v : Unit) (hf : f_X1_fail p0 T = some (v, T')) : zC 0 yX1_fail cX1_fail 2 none 0  0 0  (fun G _ => [.ref (G 0 1), .int p0]) T (fun _ => .inl none) T' := by
  intro l D Y S V G A hl9 hG
  refine vx_ofW (cc := cX1_fail) (maxL := 2) (ret := none) (by decide) rfl ?_
  intro p e s m args below meth c s₁ B hml hex hv
  obtain ⟨rfl, hK, hP, hA⟩ := hv
  have hx := B.exec
  have hb := B.bytes
  have hr := B.returns
  have hlocks := B.notSynchronized
  have hown : s.vm.findClass RX1 = some m.cls := findClass_of_methodNamed B.named
  have hts := atoms_spec (ws := Cond.code yX1_fail cX1_fail 2 none :: zWS) B.pre
  have F : zF 0 0  0 0  p l s m _ c cX1_fail 2 RX1 (Cond.code yX1_fail cX1_fail 2 none) D Y S V G A := ⟨hx, hb, hml, hown, hts, hl9, hG, hK, hA⟩
  have hS : va_S A s.heap s.heap [] := va_S.rf
  have hl := lv_entry ([.ref (G 0 1), .int p0]) (n := 2) (Nat.le_of_ble_eq_true rfl)
  rw [lg_entry_eq]
  generalize (lg_sl ([.ref (G 0 1), .int p0]) ++ List.replicate (2 - (lg_sl ([.ref (G 0 1), .int p0])).length) Slot.unset).toArray = ls at hl ⊢
  have hl : lv_has ls 2 [(0, .ref (G 0 1)), (1, .int p0)] := hl
  unfold f_X1_fail at hf
  refine lv_aload_n hx hb dX1_fail_0 rfl (lv_at hl 0 rfl) ?_
  refine z_get hx hb hts (fun w h => List.mem_cons_of_mem _ (ziX1 w h)) hown hK hP (zV_0 (by decide)) rfl rfl 2 (by decide) (List.mem_cons_of_mem _ m_166) rfl rfl dX1_fail_1 ?_
  refine lv_if_ne (tgt := 20) hx hb dX1_fail_4 (by decide) (fun hc => ?_) (fun hc => ?_)
  · have hf := zif_n hf hc
    obtain ⟨q1, q2⟩ := zs_i hf
    subst q1; subst q2
    exact z_vret hx hb hr rfl hP hS hlocks (Nat.le_of_ble_eq_true rfl) (Nat.le_of_ble_eq_true rfl) dX1_fail_20
  · have hf := zif_p hf hc
    refine lv_aload_n hx hb dX1_fail_7 rfl (lv_at hl 0 rfl) ?_
    refine lv_iload_n hx hb dX1_fail_8 rfl (lv_at hl 1 rfl) ?_
    obtain ⟨T1, eT1, hf⟩ := zl_i hf
    refine z_put hx hb hts (fun w h => List.mem_cons_of_mem _ (ziX1 w h)) tyX1 tyX1_ok nmX1 hown hK hP hG hS (zV_0 (by decide)) rfl rfl 2 (by decide) (List.mem_cons_of_mem _ m_166) rfl rfl (by decide +kernel) (Nat.le_of_ble_eq_true rfl) rfl dX1_fail_9 (fun H locs hP hS => ?_)
    rw [← eT1] at hP
    refine lv_aload_n hx hb dX1_fail_12 rfl (lv_at hl 0 rfl) ?_
    refine lv_aload_n hx hb dX1_fail_13 rfl (lv_at hl 0 rfl) ?_
    refine z_get hx hb hts (fun w h => List.mem_cons_of_mem _ (ziX1 w h)) hown hK hP (zV_0 (by decide)) rfl rfl 7 (by decide) (List.mem_cons_of_mem _ m_173) rfl rfl dX1_fail_14 ?_
    obtain ⟨x2, ex2, hf⟩ := zl_i hf
    refine z_topi ex2 ?_
    obtain ⟨T3, eT3, hf⟩ := zl_i hf
    refine z_put hx hb hts (fun w h => List.mem_cons_of_mem _ (ziX1 w h)) tyX1 tyX1_ok nmX1 hown hK hP hG hS (zV_0 (by decide)) rfl rfl 3 (by decide) (List.mem_cons_of_mem _ m_168) rfl rfl (by decide +kernel) (Nat.le_of_ble_eq_true rfl) rfl dX1_fail_17 (fun H locs hP hS => ?_)
    rw [← eT3] at hP
    obtain ⟨q1, q2⟩ := zs_i hf
    subst q1; subst q2
    exact z_vret hx hb hr rfl hP hS hlocks (Nat.le_of_ble_eq_true rfl) (Nat.le_of_ble_eq_true rfl) dX1_fail_20

def lp_X1_readNumber_40 (w1 : Int32) (w2 : Int32) : Nat → Int32 → Int32 → zT → Option ((Int32 × Int32) × zT)
  | 0, _, _, _ => none
  | n + 1, u3, u4, T => (if (T.1 0 1 8) ≤ u4 then some ((u3, u4), T) else zb (f_X1_byteAt u4 T) fun v9 T8 => zl (((u3 * 10) + v9) - 48) fun x11 => zl (u4 + 1) fun x12 => lp_X1_readNumber_40 w1 w2 n x11 x12 T8)
def f_X1_readNumber (p0 : Int32) (p1 : Int32) (T : zT) : Option (Int32 × zT) := zb (f_X1_readToken T) fun _v2 T1 => (if (T1.1 0 1 6) = 2 then (if ((T1.1 0 1 8) - (T1.1 0 1 7)) ≤ 4 then zl (T1.1 0 1 7) fun x7 => zb (lp_X1_readNumber_40 p0 p1 2000 0 x7 T1) fun v14 T13 => (if v14.1 < p0 then zb (f_X1_fail 2 T13) fun _v17 T16 => some (0, T16) else (if v14.1 ≤ p1 then some (v14.1, T13) else zb (f_X1_fail 2 T13) fun _v20 T19 => some (0, T19))) else zb (f_X1_fail 1 T1) fun _v23 T22 => some (0, T22)) else zb (f_X1_fail 1 T1) fun _v5 T4 => some (0, T4))
set_option maxHeartbeats 4000000 in
set_option maxRecDepth 100000 in
theorem l_X1_readNumber_40 {p : Program} {l : Launch} {e : Env} {s : State} {m : MethodId} {args : Array Value} {below : List Frame} {meth : Method} {c : Code} {Q : State → Prop} {D : va_G} {Y : Nat → ClassId} {S V : Nat → Nat} {G : Nat → Nat → Nat} {A : Nat → Prop} {c0 : Cond} {mc ms cells slots : Nat} (F : zF 0 2 mc ms p l s m args c cX1_readNumber 5 RX1 c0 D Y S V G A) (hcs : cells ≤ mc ∧ slots ≤ ms) (w1 : Int32) (w2 : Int32) :
    ∀ (n : Nat) (u3 : Int32) (u4 : Int32) (T : zT) (o : (Int32 × Int32) × zT) (H : Heap) (locs : List Loc) (ls : Array Slot), lp_X1_readNumber_40 w1 w2 n u3 u4 T = some o → zP 0 D Y G T H → va_S A s.heap H locs → lv_has ls 5 [(0, .ref (G 0 1)), (1, .int w1), (2, .int w2), (3, .int u3), (4, .int u4)] → (∀ (H : Heap) (locs : List Loc) (ls : Array Slot), zP 0 D Y G o.2 H → va_S A s.heap H locs → lv_has ls 5 [(0, .ref (G 0 1)), (1, .int w1), (2, .int w2), (3, .int o.1.1), (4, .int o.1.2)] → W p l e (zR 2 mc ms) s m args below meth c H locs cells slots Q (F0 m 70 ls [])) → W p l e (zR 2 mc ms) s m args below meth c H locs cells slots Q (F0 m 40 ls []) := by
  obtain ⟨hx, hb, hml, hown, hts, hl9, hG, hK, hA⟩ := id F
  intro n
  induction n with
  | zero =>
    intro u3 u4 T o H locs ls hf
    rw [lp_X1_readNumber_40] at hf
    cases hf
  | succ n ih =>
    intro u3 u4 T o H locs ls hf hP hS hl k0_
    rw [lp_X1_readNumber_40] at hf
    refine lv_iload hx hb dX1_readNumber_40 (lv_at hl 4 rfl) ?_
    refine lv_aload_n hx hb dX1_readNumber_42 rfl (lv_at hl 0 rfl) ?_
    refine z_get hx hb hts (fun w h => List.mem_cons_of_mem _ (ziX1 w h)) hown hK hP (zV_0 (by decide)) rfl rfl 8 (by decide) (List.mem_cons_of_mem _ m_174) rfl rfl dX1_readNumber_43 ?_
    refine lv_icmp_ge (tgt := 70) hx hb dX1_readNumber_46 (by decide) (fun hc => ?_) (fun hc => ?_)
    · have hf := zif_p hf hc
      cases hf
      exact k0_ _ _ _ hP hS (lv_sub hl [0, 1, 2, 3, 4] rfl)
    · have hf := zif_n hf hc
      refine lv_iload_n hx hb dX1_readNumber_49 rfl (lv_at hl 3 rfl) ?_
      refine lv_bipush (v := 10) hx hb dX1_readNumber_50 (by decide) ?_
      refine lv_imul hx hb dX1_readNumber_52 ?_
      refine lv_aload_n hx hb dX1_readNumber_53 rfl (lv_at hl 0 rfl) ?_
      refine lv_iload hx hb dX1_readNumber_54 (lv_at hl 4 rfl) ?_
      obtain ⟨v9, T8, h10, hf⟩ := zb_i hf
      refine z_ok (z_runV (As := [.int u4]) (rest := [.int (u3 * 10)]) F k_X1_byteAt m_292 (c_X1_byteAt u4 T T8 _ h10) hP hS (zV_0 (by decide)) rfl rfl rfl rfl hl.1 (Nat.le_of_ble_eq_true rfl) dX1_readNumber_56 (Nat.le_of_ble_eq_true rfl) ⟨hcs.1, hcs.2⟩ rfl) hS (fun H locs hP hS => ?_)
      refine lv_iadd hx hb dX1_readNumber_59 ?_
      refine lv_bipush (v := 48) hx hb dX1_readNumber_60 (by decide) ?_
      refine lv_isub hx hb dX1_readNumber_62 ?_
      obtain ⟨x11, ex11, hf⟩ := zl_i hf
      refine z_topi ex11 ?_
      refine lv_istore_n (lv' := [(3, .int x11), (0, .ref (G 0 1)), (1, .int w1), (2, .int w2), (4, .int u4)]) hx hb dX1_readNumber_63 rfl hl (by decide) rfl (fun ls hl => ?_)
      obtain ⟨x12, ex12, hf⟩ := zl_i hf
      refine lv_iinc (v := x12) (lv' := [(4, .int x12), (3, .int x11), (0, .ref (G 0 1)), (1, .int w1), (2, .int w2)]) hx hb dX1_readNumber_64 hl (k := 4) rfl (by rw [ex12]; rfl) (by decide) rfl (fun ls hl => ?_)
      refine lv_goto (tgt := 40) hx hb dX1_readNumber_67 (by decide) ?_
      exact ih x11 x12 _ _ _ _ _ hf hP hS (lv_sub hl [2, 3, 4, 1, 0] rfl) k0_
set_option maxHeartbeats 4000000 in
set_option maxRecDepth 100000 in
theorem c_X1_readNumber (p0 : Int32) (p1 : Int32) (T T' : zT) (v : Int32) (hf : f_X1_readNumber p0 p1 T = some (v, T')) : zC 0 yX1_readNumber cX1_readNumber 5 (some .int) 2  0 0  (fun G _ => [.ref (G 0 1), .int p0, .int p1]) T (fun _ => .inl (some (.int v))) T' := by
  intro l D Y S V G A hl9 hG
  refine vx_ofW (cc := cX1_readNumber) (maxL := 5) (ret := (some .int)) (by decide) rfl ?_
  intro p e s m args below meth c s₁ B hml hex hv
  obtain ⟨rfl, hK, hP, hA⟩ := hv
  have hx := B.exec
  have hb := B.bytes
  have hr := B.returns
  have hlocks := B.notSynchronized
  have hown : s.vm.findClass RX1 = some m.cls := findClass_of_methodNamed B.named
  have hts := atoms_spec (ws := Cond.code yX1_readNumber cX1_readNumber 5 (some .int) :: zWS) B.pre
  have F : zF 0 2  0 0  p l s m _ c cX1_readNumber 5 RX1 (Cond.code yX1_readNumber cX1_readNumber 5 (some .int)) D Y S V G A := ⟨hx, hb, hml, hown, hts, hl9, hG, hK, hA⟩
  have hS : va_S A s.heap s.heap [] := va_S.rf
  have hl := lv_entry ([.ref (G 0 1), .int p0, .int p1]) (n := 5) (Nat.le_of_ble_eq_true rfl)
  rw [lg_entry_eq]
  generalize (lg_sl ([.ref (G 0 1), .int p0, .int p1]) ++ List.replicate (5 - (lg_sl ([.ref (G 0 1), .int p0, .int p1])).length) Slot.unset).toArray = ls at hl ⊢
  have hl : lv_has ls 5 [(0, .ref (G 0 1)), (1, .int p0), (2, .int p1)] := hl
  unfold f_X1_readNumber at hf
  refine lv_aload_n hx hb dX1_readNumber_0 rfl (lv_at hl 0 rfl) ?_
  obtain ⟨v2, T1, h3, hf⟩ := zb_i hf
  refine z_ok (z_runV (As := []) (rest := []) F k_X1_readToken m_275 (c_X1_readToken T T1 _ h3) hP hS (zV_0 (by decide)) rfl rfl rfl rfl hl.1 (Nat.le_of_ble_eq_true rfl) dX1_readNumber_1 (Nat.le_of_ble_eq_true rfl) ⟨Nat.le_of_ble_eq_true rfl, Nat.le_of_ble_eq_true rfl⟩ rfl) hS (fun H locs hP hS => ?_)
  refine lv_aload_n hx hb dX1_readNumber_4 rfl (lv_at hl 0 rfl) ?_
  refine z_get hx hb hts (fun w h => List.mem_cons_of_mem _ (ziX1 w h)) hown hK hP (zV_0 (by decide)) rfl rfl 6 (by decide) (List.mem_cons_of_mem _ m_172) rfl rfl dX1_readNumber_5 ?_
  refine lv_iconst (v := 2) hx hb dX1_readNumber_8 (by decide) ?_
  refine lv_icmp_ne (tgt := 25) hx hb dX1_readNumber_9 (by decide) (fun hc => ?_) (fun hc => ?_)
  · have hf := zif_n hf hc
    refine lv_aload_n hx hb dX1_readNumber_25 rfl (lv_at hl 0 rfl) ?_
    refine lv_iconst (v := 1) hx hb dX1_readNumber_26 (by decide) ?_
    obtain ⟨v5, T4, h6, hf⟩ := zb_i hf
    refine z_ok (z_runV (As := [.int 1]) (rest := []) F k_X1_fail m_297 (c_X1_fail 1 T1 T4 _ h6) hP hS (zV_0 (by decide)) rfl rfl rfl rfl hl.1 (Nat.le_of_ble_eq_true rfl) dX1_readNumber_27 (Nat.le_of_ble_eq_true rfl) ⟨Nat.le_of_ble_eq_true rfl, Nat.le_of_ble_eq_true rfl⟩ rfl) hS (fun H locs hP hS => ?_)
    refine lv_iconst (v := 0) hx hb dX1_readNumber_30 (by decide) ?_
    obtain ⟨q1, q2⟩ := zs_i hf
    subst q1; subst q2
    exact z_iret hx hb hr rfl hP hS hlocks (Nat.le_of_ble_eq_true rfl) (Nat.le_of_ble_eq_true rfl) dX1_readNumber_31
  · have hf := zif_p hf hc
    refine lv_aload_n hx hb dX1_readNumber_12 rfl (lv_at hl 0 rfl) ?_
    refine z_get hx hb hts (fun w h => List.mem_cons_of_mem _ (ziX1 w h)) hown hK hP (zV_0 (by decide)) rfl rfl 8 (by decide) (List.mem_cons_of_mem _ m_174) rfl rfl dX1_readNumber_13 ?_
    refine lv_aload_n hx hb dX1_readNumber_16 rfl (lv_at hl 0 rfl) ?_
    refine z_get hx hb hts (fun w h => List.mem_cons_of_mem _ (ziX1 w h)) hown hK hP (zV_0 (by decide)) rfl rfl 7 (by decide) (List.mem_cons_of_mem _ m_173) rfl rfl dX1_readNumber_17 ?_
    refine lv_isub hx hb dX1_readNumber_20 ?_
    refine lv_iconst (v := 4) hx hb dX1_readNumber_21 (by decide) ?_
    refine lv_icmp_le (tgt := 32) hx hb dX1_readNumber_22 (by decide) (fun hc => ?_) (fun hc => ?_)
    · have hf := zif_p hf hc
      refine lv_iconst (v := 0) hx hb dX1_readNumber_32 (by decide) ?_
      refine lv_istore_n (lv' := [(3, .int 0), (0, .ref (G 0 1)), (1, .int p0), (2, .int p1)]) hx hb dX1_readNumber_33 rfl hl (by decide) rfl (fun ls hl => ?_)
      refine lv_aload_n hx hb dX1_readNumber_34 rfl (lv_at hl 1 rfl) ?_
      refine z_get hx hb hts (fun w h => List.mem_cons_of_mem _ (ziX1 w h)) hown hK hP (zV_0 (by decide)) rfl rfl 7 (by decide) (List.mem_cons_of_mem _ m_173) rfl rfl dX1_readNumber_35 ?_
      obtain ⟨x7, ex7, hf⟩ := zl_i hf
      refine z_topi ex7 ?_
      refine lv_istore (lv' := [(4, .int x7), (3, .int 0), (0, .ref (G 0 1)), (1, .int p0), (2, .int p1)]) hx hb dX1_readNumber_38 hl (by decide) rfl (fun ls hl => ?_)
      obtain ⟨v14, T13, h15, hf⟩ := zb_i hf
      refine l_X1_readNumber_40 F ⟨Nat.le_of_ble_eq_true rfl, Nat.le_of_ble_eq_true rfl⟩ p0 p1 2000 0 x7 _ _ _ _ _ h15 hP hS (lv_sub hl [2, 3, 4, 1, 0] rfl) (fun H locs ls hP hS hl => ?_)
      refine lv_iload_n hx hb dX1_readNumber_70 rfl (lv_at hl 3 rfl) ?_
      refine lv_iload_n hx hb dX1_readNumber_71 rfl (lv_at hl 1 rfl) ?_
      refine lv_icmp_lt (tgt := 80) hx hb dX1_readNumber_72 (by decide) (fun hc => ?_) (fun hc => ?_)
      · have hf := zif_p hf hc
        refine lv_aload_n hx hb dX1_readNumber_80 rfl (lv_at hl 0 rfl) ?_
        refine lv_iconst (v := 2) hx hb dX1_readNumber_81 (by decide) ?_
        obtain ⟨v17, T16, h18, hf⟩ := zb_i hf
        refine z_ok (z_runV (As := [.int 2]) (rest := []) F k_X1_fail m_297 (c_X1_fail 2 T13 T16 _ h18) hP hS (zV_0 (by decide)) rfl rfl rfl rfl hl.1 (Nat.le_of_ble_eq_true rfl) dX1_readNumber_82 (Nat.le_of_ble_eq_true rfl) ⟨Nat.le_of_ble_eq_true rfl, Nat.le_of_ble_eq_true rfl⟩ rfl) hS (fun H locs hP hS => ?_)
        refine lv_iconst (v := 0) hx hb dX1_readNumber_85 (by decide) ?_
        obtain ⟨q1, q2⟩ := zs_i hf
        subst q1; subst q2
        exact z_iret hx hb hr rfl hP hS hlocks (Nat.le_of_ble_eq_true rfl) (Nat.le_of_ble_eq_true rfl) dX1_readNumber_86
      · have hf := zif_n hf hc
        refine lv_iload_n hx hb dX1_readNumber_75 rfl (lv_at hl 3 rfl) ?_
        refine lv_iload_n hx hb dX1_readNumber_76 rfl (lv_at hl 2 rfl) ?_
        refine lv_icmp_le (tgt := 87) hx hb dX1_readNumber_77 (by decide) (fun hc => ?_) (fun hc => ?_)
        · have hf := zif_p hf hc
          refine lv_iload_n hx hb dX1_readNumber_87 rfl (lv_at hl 3 rfl) ?_
          obtain ⟨q1, q2⟩ := zs_i hf
          subst q1; subst q2
          exact z_iret hx hb hr rfl hP hS hlocks (Nat.le_of_ble_eq_true rfl) (Nat.le_of_ble_eq_true rfl) dX1_readNumber_88
        · have hf := zif_n hf hc
          refine lv_aload_n hx hb dX1_readNumber_80 rfl (lv_at hl 0 rfl) ?_
          refine lv_iconst (v := 2) hx hb dX1_readNumber_81 (by decide) ?_
          obtain ⟨v20, T19, h21, hf⟩ := zb_i hf
          refine z_ok (z_runV (As := [.int 2]) (rest := []) F k_X1_fail m_297 (c_X1_fail 2 T13 T19 _ h21) hP hS (zV_0 (by decide)) rfl rfl rfl rfl hl.1 (Nat.le_of_ble_eq_true rfl) dX1_readNumber_82 (Nat.le_of_ble_eq_true rfl) ⟨Nat.le_of_ble_eq_true rfl, Nat.le_of_ble_eq_true rfl⟩ rfl) hS (fun H locs hP hS => ?_)
          refine lv_iconst (v := 0) hx hb dX1_readNumber_85 (by decide) ?_
          obtain ⟨q1, q2⟩ := zs_i hf
          subst q1; subst q2
          exact z_iret hx hb hr rfl hP hS hlocks (Nat.le_of_ble_eq_true rfl) (Nat.le_of_ble_eq_true rfl) dX1_readNumber_86
    · have hf := zif_n hf hc
      refine lv_aload_n hx hb dX1_readNumber_25 rfl (lv_at hl 0 rfl) ?_
      refine lv_iconst (v := 1) hx hb dX1_readNumber_26 (by decide) ?_
      obtain ⟨v23, T22, h24, hf⟩ := zb_i hf
      refine z_ok (z_runV (As := [.int 1]) (rest := []) F k_X1_fail m_297 (c_X1_fail 1 T1 T22 _ h24) hP hS (zV_0 (by decide)) rfl rfl rfl rfl hl.1 (Nat.le_of_ble_eq_true rfl) dX1_readNumber_27 (Nat.le_of_ble_eq_true rfl) ⟨Nat.le_of_ble_eq_true rfl, Nat.le_of_ble_eq_true rfl⟩ rfl) hS (fun H locs hP hS => ?_)
      refine lv_iconst (v := 0) hx hb dX1_readNumber_30 (by decide) ?_
      obtain ⟨q1, q2⟩ := zs_i hf
      subst q1; subst q2
      exact z_iret hx hb hr rfl hP hS hlocks (Nat.le_of_ble_eq_true rfl) (Nat.le_of_ble_eq_true rfl) dX1_readNumber_31

def jn_X1_readHead_18  (T : zT) : Option (Unit × zT) := zb (f_X1_readNumber 0 9972 T) fun v8 T7 => zb (f_X1_readNumber 0 9999 T7) fun v11 T10 => zb (f_X2_begin 2 v8 v11 T10) fun _v14 T13 => some ((), T13)
def f_X1_readHead  (T : zT) : Option (Unit × zT) := zb (f_X1_readToken T) fun _v2 T1 => zb (f_X1_tokenIs 1 T1) fun v5 T4 => (if v5 = 0 then zb (f_X1_fail 1 T4) fun _v17 T16 => jn_X1_readHead_18 T16 else jn_X1_readHead_18 T4)
set_option maxHeartbeats 4000000 in
set_option maxRecDepth 100000 in
theorem j_X1_readHead_18 {p : Program} {l : Launch} {e : Env} {s : State} {m : MethodId} {args : Array Value} {below : List Frame} {meth : Method} {c : Code} {D : va_G} {Y : Nat → ClassId} {S V : Nat → Nat} {G : Nat → Nat → Nat} {A : Nat → Prop} {c0 : Cond} (F : zF 0 6  0 0  p l s m args c cX1_readHead 3 RX1 c0 D Y S V G A) (hr : meth.sig.returnType = none) (hlocks : meth.locks = false) (hex : ∀ x ∈ c.exceptionTable.toList, False) (T : zT) {T' : zT} {v : Unit} {H : Heap} {locs : List Loc} {ls : Array Slot} (hf : jn_X1_readHead_18 T = some (v, T')) (hP : zP 0 D Y G T H) (hS : va_S A s.heap H locs) (hl : lv_has ls 3 [(0, .ref (G 0 1))]) :
    W p l e (zR 6  0 0 ) s m args below meth c H locs 0 0 (vx_MQ below (zQ 0 D Y G A (.inl none) T') (zX 0 D Y G A (.inl none) T') args s  0 0  A) (F0 m 18 ls []) := by
  obtain ⟨hx, hb, hml, hown, hts, hl9, hG, hK, hA⟩ := id F
  unfold jn_X1_readHead_18 at hf
  refine lv_aload_n hx hb dX1_readHead_18 rfl (lv_at hl 0 rfl) ?_
  refine lv_iconst (v := 0) hx hb dX1_readHead_19 (by decide) ?_
  refine lv_sipush (v := 9972) hx hb dX1_readHead_20 (by decide) ?_
  obtain ⟨v8, T7, h9, hf⟩ := zb_i hf
  refine z_ok (z_runV (As := [.int 0, .int 9972]) (rest := []) F k_X1_readNumber m_301 (c_X1_readNumber 0 9972 T T7 _ h9) hP hS (zV_0 (by decide)) rfl rfl rfl rfl hl.1 (Nat.le_of_ble_eq_true rfl) dX1_readHead_23 (Nat.le_of_ble_eq_true rfl) ⟨Nat.le_of_ble_eq_true rfl, Nat.le_of_ble_eq_true rfl⟩ rfl) hS (fun H locs hP hS => ?_)
  refine lv_istore_n (lv' := [(1, .int v8), (0, .ref (G 0 1))]) hx hb dX1_readHead_26 rfl hl (by decide) rfl (fun ls hl => ?_)
  refine lv_aload_n hx hb dX1_readHead_27 rfl (lv_at hl 1 rfl) ?_
  refine lv_iconst (v := 0) hx hb dX1_readHead_28 (by decide) ?_
  refine lv_sipush (v := 9999) hx hb dX1_readHead_29 (by decide) ?_
  obtain ⟨v11, T10, h12, hf⟩ := zb_i hf
  refine z_ok (z_runV (As := [.int 0, .int 9999]) (rest := []) F k_X1_readNumber m_301 (c_X1_readNumber 0 9999 T7 T10 _ h12) hP hS (zV_0 (by decide)) rfl rfl rfl rfl hl.1 (Nat.le_of_ble_eq_true rfl) dX1_readHead_32 (Nat.le_of_ble_eq_true rfl) ⟨Nat.le_of_ble_eq_true rfl, Nat.le_of_ble_eq_true rfl⟩ rfl) hS (fun H locs hP hS => ?_)
  refine lv_istore_n (lv' := [(2, .int v11), (1, .int v8), (0, .ref (G 0 1))]) hx hb dX1_readHead_35 rfl hl (by decide) rfl (fun ls hl => ?_)
  refine lv_aload_n hx hb dX1_readHead_36 rfl (lv_at hl 2 rfl) ?_
  refine z_get hx hb hts (fun w h => List.mem_cons_of_mem _ (ziX1 w h)) hown hK hP (zV_0 (by decide)) rfl rfl 0 (by decide) (List.mem_cons_of_mem _ m_162) rfl rfl dX1_readHead_37 ?_
  refine lv_iload_n hx hb dX1_readHead_40 rfl (lv_at hl 1 rfl) ?_
  refine lv_iload_n hx hb dX1_readHead_41 rfl (lv_at hl 0 rfl) ?_
  obtain ⟨v14, T13, h15, hf⟩ := zb_i hf
  refine z_ok (z_runV (As := [.int v8, .int v11]) (rest := []) F k_X2_begin m_305 (c_X2_begin 2 (by decide) v8 v11 T10 T13 _ h15) hP hS (zV_r (by decide) (by decide) (by decide)) rfl rfl rfl rfl hl.1 (Nat.le_of_ble_eq_true rfl) dX1_readHead_42 (Nat.le_of_ble_eq_true rfl) ⟨Nat.le_of_ble_eq_true rfl, Nat.le_of_ble_eq_true rfl⟩ rfl) hS (fun H locs hP hS => ?_)
  obtain ⟨q1, q2⟩ := zs_i hf
  subst q1; subst q2
  exact z_vret hx hb hr rfl hP hS hlocks (Nat.le_of_ble_eq_true rfl) (Nat.le_of_ble_eq_true rfl) dX1_readHead_45
set_option maxHeartbeats 4000000 in
set_option maxRecDepth 100000 in
theorem c_X1_readHead  (T T' : zT) (v : Unit) (hf : f_X1_readHead  T = some (v, T')) : zC 0 yX1_readHead cX1_readHead 3 none 6  0 0  (fun G _ => [.ref (G 0 1)]) T (fun _ => .inl none) T' := by
  intro l D Y S V G A hl9 hG
  refine vx_ofW (cc := cX1_readHead) (maxL := 3) (ret := none) (by decide) rfl ?_
  intro p e s m args below meth c s₁ B hml hex hv
  obtain ⟨rfl, hK, hP, hA⟩ := hv
  have hx := B.exec
  have hb := B.bytes
  have hr := B.returns
  have hlocks := B.notSynchronized
  have hown : s.vm.findClass RX1 = some m.cls := findClass_of_methodNamed B.named
  have hts := atoms_spec (ws := Cond.code yX1_readHead cX1_readHead 3 none :: zWS) B.pre
  have F : zF 0 6  0 0  p l s m _ c cX1_readHead 3 RX1 (Cond.code yX1_readHead cX1_readHead 3 none) D Y S V G A := ⟨hx, hb, hml, hown, hts, hl9, hG, hK, hA⟩
  have hS : va_S A s.heap s.heap [] := va_S.rf
  have hl := lv_entry ([.ref (G 0 1)]) (n := 3) (Nat.le_of_ble_eq_true rfl)
  rw [lg_entry_eq]
  generalize (lg_sl ([.ref (G 0 1)]) ++ List.replicate (3 - (lg_sl ([.ref (G 0 1)])).length) Slot.unset).toArray = ls at hl ⊢
  have hl : lv_has ls 3 [(0, .ref (G 0 1))] := hl
  unfold f_X1_readHead at hf
  refine lv_aload_n hx hb dX1_readHead_0 rfl (lv_at hl 0 rfl) ?_
  obtain ⟨v2, T1, h3, hf⟩ := zb_i hf
  refine z_ok (z_runV (As := []) (rest := []) F k_X1_readToken m_275 (c_X1_readToken T T1 _ h3) hP hS (zV_0 (by decide)) rfl rfl rfl rfl hl.1 (Nat.le_of_ble_eq_true rfl) dX1_readHead_1 (Nat.le_of_ble_eq_true rfl) ⟨Nat.le_of_ble_eq_true rfl, Nat.le_of_ble_eq_true rfl⟩ rfl) hS (fun H locs hP hS => ?_)
  refine lv_aload_n hx hb dX1_readHead_4 rfl (lv_at hl 0 rfl) ?_
  refine va_ldcS hx hb hown (hK.2.2.1 1 _ rfl) dX1_readHead_5 ?_
  obtain ⟨v5, T4, h6, hf⟩ := zb_i hf
  refine z_ok (z_runV (As := [.ref (S 1)]) (rest := []) F k_X1_tokenIs m_287 (c_X1_tokenIs 1 (by decide) T1 T4 _ h6) hP hS (zV_0 (by decide)) rfl rfl rfl rfl hl.1 (Nat.le_of_ble_eq_true rfl) dX1_readHead_7 (Nat.le_of_ble_eq_true rfl) ⟨Nat.le_of_ble_eq_true rfl, Nat.le_of_ble_eq_true rfl⟩ rfl) hS (fun H locs hP hS => ?_)
  refine lv_if_ne (tgt := 18) hx hb dX1_readHead_10 (by decide) (fun hc => ?_) (fun hc => ?_)
  · have hf := zif_n hf hc
    exact j_X1_readHead_18 F hr hlocks hex T4 hf hP hS (lv_sub hl [0] rfl)
  · have hf := zif_p hf hc
    refine lv_aload_n hx hb dX1_readHead_13 rfl (lv_at hl 0 rfl) ?_
    refine lv_iconst (v := 1) hx hb dX1_readHead_14 (by decide) ?_
    obtain ⟨v17, T16, h18, hf⟩ := zb_i hf
    refine z_ok (z_runV (As := [.int 1]) (rest := []) F k_X1_fail m_297 (c_X1_fail 1 T4 T16 _ h18) hP hS (zV_0 (by decide)) rfl rfl rfl rfl hl.1 (Nat.le_of_ble_eq_true rfl) dX1_readHead_15 (Nat.le_of_ble_eq_true rfl) ⟨Nat.le_of_ble_eq_true rfl, Nat.le_of_ble_eq_true rfl⟩ rfl) hS (fun H locs hP hS => ?_)
    exact j_X1_readHead_18 F hr hlocks hex T16 hf hP hS (lv_sub hl [0] rfl)

def f_X1_nextIsLine  (T : zT) : Option (Int32 × zT) := zb (f_X1_readToken T) fun _v2 T1 => (if (T1.1 0 1 6) = 3 then (if (T1.1 0 1 6) = 3 then some (1, T1) else some (0, T1)) else (if (T1.1 0 1 6) = 4 then (if (T1.1 0 1 6) = 3 then some (1, T1) else some (0, T1)) else zb (f_X1_fail 1 T1) fun _v5 T4 => (if (T4.1 0 1 6) = 3 then some (1, T4) else some (0, T4))))
set_option maxHeartbeats 4000000 in
set_option maxRecDepth 100000 in
theorem c_X1_nextIsLine  (T T' : zT) (v : Int32) (hf : f_X1_nextIsLine  T = some (v, T')) : zC 0 yX1_nextIsLine cX1_nextIsLine 1 (some .boolean) 2  0 0  (fun G _ => [.ref (G 0 1)]) T (fun _ => .inl (some (.int v))) T' := by
  intro l D Y S V G A hl9 hG
  refine vx_ofW (cc := cX1_nextIsLine) (maxL := 1) (ret := (some .boolean)) (by decide) rfl ?_
  intro p e s m args below meth c s₁ B hml hex hv
  obtain ⟨rfl, hK, hP, hA⟩ := hv
  have hx := B.exec
  have hb := B.bytes
  have hr := B.returns
  have hlocks := B.notSynchronized
  have hown : s.vm.findClass RX1 = some m.cls := findClass_of_methodNamed B.named
  have hts := atoms_spec (ws := Cond.code yX1_nextIsLine cX1_nextIsLine 1 (some .boolean) :: zWS) B.pre
  have F : zF 0 2  0 0  p l s m _ c cX1_nextIsLine 1 RX1 (Cond.code yX1_nextIsLine cX1_nextIsLine 1 (some .boolean)) D Y S V G A := ⟨hx, hb, hml, hown, hts, hl9, hG, hK, hA⟩
  have hS : va_S A s.heap s.heap [] := va_S.rf
  have hl := lv_entry ([.ref (G 0 1)]) (n := 1) (Nat.le_of_ble_eq_true rfl)
  rw [lg_entry_eq]
  generalize (lg_sl ([.ref (G 0 1)]) ++ List.replicate (1 - (lg_sl ([.ref (G 0 1)])).length) Slot.unset).toArray = ls at hl ⊢
  have hl : lv_has ls 1 [(0, .ref (G 0 1))] := hl
  unfold f_X1_nextIsLine at hf
  refine lv_aload_n hx hb dX1_nextIsLine_0 rfl (lv_at hl 0 rfl) ?_
  obtain ⟨v2, T1, h3, hf⟩ := zb_i hf
  refine z_ok (z_runV (As := []) (rest := []) F k_X1_readToken m_275 (c_X1_readToken T T1 _ h3) hP hS (zV_0 (by decide)) rfl rfl rfl rfl hl.1 (Nat.le_of_ble_eq_true rfl) dX1_nextIsLine_1 (Nat.le_of_ble_eq_true rfl) ⟨Nat.le_of_ble_eq_true rfl, Nat.le_of_ble_eq_true rfl⟩ rfl) hS (fun H locs hP hS => ?_)
  refine lv_aload_n hx hb dX1_nextIsLine_4 rfl (lv_at hl 0 rfl) ?_
  refine z_get hx hb hts (fun w h => List.mem_cons_of_mem _ (ziX1 w h)) hown hK hP (zV_0 (by decide)) rfl rfl 6 (by decide) (List.mem_cons_of_mem _ m_172) rfl rfl dX1_nextIsLine_5 ?_
  refine lv_iconst (v := 3) hx hb dX1_nextIsLine_8 (by decide) ?_
  refine lv_icmp_eq (tgt := 25) hx hb dX1_nextIsLine_9 (by decide) (fun hc => ?_) (fun hc => ?_)
  · have hf := zif_p hf hc
    refine lv_aload_n hx hb dX1_nextIsLine_25 rfl (lv_at hl 0 rfl) ?_
    refine z_get hx hb hts (fun w h => List.mem_cons_of_mem _ (ziX1 w h)) hown hK hP (zV_0 (by decide)) rfl rfl 6 (by decide) (List.mem_cons_of_mem _ m_172) rfl rfl dX1_nextIsLine_26 ?_
    refine lv_iconst (v := 3) hx hb dX1_nextIsLine_29 (by decide) ?_
    refine lv_icmp_ne (tgt := 37) hx hb dX1_nextIsLine_30 (by decide) (fun hc => ?_) (fun hc => ?_)
    · have hf := zif_n hf hc
      refine lv_iconst (v := 0) hx hb dX1_nextIsLine_37 (by decide) ?_
      obtain ⟨q1, q2⟩ := zs_i hf
      subst q1; subst q2
      exact z_zret hx hb hr (Or.inl rfl) rfl hP hS hlocks (Nat.le_of_ble_eq_true rfl) (Nat.le_of_ble_eq_true rfl) dX1_nextIsLine_38
    · have hf := zif_p hf hc
      refine lv_iconst (v := 1) hx hb dX1_nextIsLine_33 (by decide) ?_
      refine lv_goto (tgt := 38) hx hb dX1_nextIsLine_34 (by decide) ?_
      obtain ⟨q1, q2⟩ := zs_i hf
      subst q1; subst q2
      exact z_zret hx hb hr (Or.inr rfl) rfl hP hS hlocks (Nat.le_of_ble_eq_true rfl) (Nat.le_of_ble_eq_true rfl) dX1_nextIsLine_38
  · have hf := zif_n hf hc
    refine lv_aload_n hx hb dX1_nextIsLine_12 rfl (lv_at hl 0 rfl) ?_
    refine z_get hx hb hts (fun w h => List.mem_cons_of_mem _ (ziX1 w h)) hown hK hP (zV_0 (by decide)) rfl rfl 6 (by decide) (List.mem_cons_of_mem _ m_172) rfl rfl dX1_nextIsLine_13 ?_
    refine lv_iconst (v := 4) hx hb dX1_nextIsLine_16 (by decide) ?_
    refine lv_icmp_eq (tgt := 25) hx hb dX1_nextIsLine_17 (by decide) (fun hc => ?_) (fun hc => ?_)
    · have hf := zif_p hf hc
      refine lv_aload_n hx hb dX1_nextIsLine_25 rfl (lv_at hl 0 rfl) ?_
      refine z_get hx hb hts (fun w h => List.mem_cons_of_mem _ (ziX1 w h)) hown hK hP (zV_0 (by decide)) rfl rfl 6 (by decide) (List.mem_cons_of_mem _ m_172) rfl rfl dX1_nextIsLine_26 ?_
      refine lv_iconst (v := 3) hx hb dX1_nextIsLine_29 (by decide) ?_
      refine lv_icmp_ne (tgt := 37) hx hb dX1_nextIsLine_30 (by decide) (fun hc => ?_) (fun hc => ?_)
      · have hf := zif_n hf hc
        refine lv_iconst (v := 0) hx hb dX1_nextIsLine_37 (by decide) ?_
        obtain ⟨q1, q2⟩ := zs_i hf
        subst q1; subst q2
        exact z_zret hx hb hr (Or.inl rfl) rfl hP hS hlocks (Nat.le_of_ble_eq_true rfl) (Nat.le_of_ble_eq_true rfl) dX1_nextIsLine_38
      · have hf := zif_p hf hc
        refine lv_iconst (v := 1) hx hb dX1_nextIsLine_33 (by decide) ?_
        refine lv_goto (tgt := 38) hx hb dX1_nextIsLine_34 (by decide) ?_
        obtain ⟨q1, q2⟩ := zs_i hf
        subst q1; subst q2
        exact z_zret hx hb hr (Or.inr rfl) rfl hP hS hlocks (Nat.le_of_ble_eq_true rfl) (Nat.le_of_ble_eq_true rfl) dX1_nextIsLine_38
    · have hf := zif_n hf hc
      refine lv_aload_n hx hb dX1_nextIsLine_20 rfl (lv_at hl 0 rfl) ?_
      refine lv_iconst (v := 1) hx hb dX1_nextIsLine_21 (by decide) ?_
      obtain ⟨v5, T4, h6, hf⟩ := zb_i hf
      refine z_ok (z_runV (As := [.int 1]) (rest := []) F k_X1_fail m_297 (c_X1_fail 1 T1 T4 _ h6) hP hS (zV_0 (by decide)) rfl rfl rfl rfl hl.1 (Nat.le_of_ble_eq_true rfl) dX1_nextIsLine_22 (Nat.le_of_ble_eq_true rfl) ⟨Nat.le_of_ble_eq_true rfl, Nat.le_of_ble_eq_true rfl⟩ rfl) hS (fun H locs hP hS => ?_)
      refine lv_aload_n hx hb dX1_nextIsLine_25 rfl (lv_at hl 0 rfl) ?_
      refine z_get hx hb hts (fun w h => List.mem_cons_of_mem _ (ziX1 w h)) hown hK hP (zV_0 (by decide)) rfl rfl 6 (by decide) (List.mem_cons_of_mem _ m_172) rfl rfl dX1_nextIsLine_26 ?_
      refine lv_iconst (v := 3) hx hb dX1_nextIsLine_29 (by decide) ?_
      refine lv_icmp_ne (tgt := 37) hx hb dX1_nextIsLine_30 (by decide) (fun hc => ?_) (fun hc => ?_)
      · have hf := zif_n hf hc
        refine lv_iconst (v := 0) hx hb dX1_nextIsLine_37 (by decide) ?_
        obtain ⟨q1, q2⟩ := zs_i hf
        subst q1; subst q2
        exact z_zret hx hb hr (Or.inl rfl) rfl hP hS hlocks (Nat.le_of_ble_eq_true rfl) (Nat.le_of_ble_eq_true rfl) dX1_nextIsLine_38
      · have hf := zif_p hf hc
        refine lv_iconst (v := 1) hx hb dX1_nextIsLine_33 (by decide) ?_
        refine lv_goto (tgt := 38) hx hb dX1_nextIsLine_34 (by decide) ?_
        obtain ⟨q1, q2⟩ := zs_i hf
        subst q1; subst q2
        exact z_zret hx hb hr (Or.inr rfl) rfl hP hS hlocks (Nat.le_of_ble_eq_true rfl) (Nat.le_of_ble_eq_true rfl) dX1_nextIsLine_38

def f_X1_readGarden  (T : zT) : Option (Unit × zT) := (if (T.1 1 2 8) < 4 then zb (f_X1_readNumber 1 12 T) fun v2 T1 => (if (T1.1 0 1 2) = 0 then zb (f_X2_addGarden 2 v2 T1) fun _v5 T4 => some ((), T4) else some ((), T1)) else zb (f_X1_fail 5 T) fun _v8 T7 => zb (f_X1_readNumber 1 12 T7) fun v11 T10 => (if (T10.1 0 1 2) = 0 then zb (f_X2_addGarden 2 v11 T10) fun _v14 T13 => some ((), T13) else some ((), T10)))
set_option maxHeartbeats 4000000 in
set_option maxRecDepth 100000 in
theorem c_X1_readGarden  (T T' : zT) (v : Unit) (hf : f_X1_readGarden  T = some (v, T')) : zC 0 yX1_readGarden cX1_readGarden 2 none 3  0 0  (fun G _ => [.ref (G 0 1)]) T (fun _ => .inl none) T' := by
  intro l D Y S V G A hl9 hG
  refine vx_ofW (cc := cX1_readGarden) (maxL := 2) (ret := none) (by decide) rfl ?_
  intro p e s m args below meth c s₁ B hml hex hv
  obtain ⟨rfl, hK, hP, hA⟩ := hv
  have hx := B.exec
  have hb := B.bytes
  have hr := B.returns
  have hlocks := B.notSynchronized
  have hown : s.vm.findClass RX1 = some m.cls := findClass_of_methodNamed B.named
  have hts := atoms_spec (ws := Cond.code yX1_readGarden cX1_readGarden 2 none :: zWS) B.pre
  have F : zF 0 3  0 0  p l s m _ c cX1_readGarden 2 RX1 (Cond.code yX1_readGarden cX1_readGarden 2 none) D Y S V G A := ⟨hx, hb, hml, hown, hts, hl9, hG, hK, hA⟩
  have hS : va_S A s.heap s.heap [] := va_S.rf
  have hl := lv_entry ([.ref (G 0 1)]) (n := 2) (Nat.le_of_ble_eq_true rfl)
  rw [lg_entry_eq]
  generalize (lg_sl ([.ref (G 0 1)]) ++ List.replicate (2 - (lg_sl ([.ref (G 0 1)])).length) Slot.unset).toArray = ls at hl ⊢
  have hl : lv_has ls 2 [(0, .ref (G 0 1))] := hl
  unfold f_X1_readGarden at hf
  refine lv_aload_n hx hb dX1_readGarden_0 rfl (lv_at hl 0 rfl) ?_
  refine z_get hx hb hts (fun w h => List.mem_cons_of_mem _ (ziX1 w h)) hown hK hP (zV_0 (by decide)) rfl rfl 0 (by decide) (List.mem_cons_of_mem _ m_162) rfl rfl dX1_readGarden_1 ?_
  refine z_get hx hb hts (fun w h => List.mem_cons_of_mem _ (ziX2 w h)) hown hK hP (zV_r (by decide) (by decide) (by decide)) rfl rfl 8 (by decide) (List.mem_cons_of_mem _ m_84) rfl rfl dX1_readGarden_4 ?_
  refine lv_iconst (v := 4) hx hb dX1_readGarden_7 (by decide) ?_
  refine lv_icmp_lt (tgt := 16) hx hb dX1_readGarden_8 (by decide) (fun hc => ?_) (fun hc => ?_)
  · have hf := zif_p hf hc
    refine lv_aload_n hx hb dX1_readGarden_16 rfl (lv_at hl 0 rfl) ?_
    refine lv_iconst (v := 1) hx hb dX1_readGarden_17 (by decide) ?_
    refine lv_bipush (v := 12) hx hb dX1_readGarden_18 (by decide) ?_
    obtain ⟨v2, T1, h3, hf⟩ := zb_i hf
    refine z_ok (z_runV (As := [.int 1, .int 12]) (rest := []) F k_X1_readNumber m_301 (c_X1_readNumber 1 12 T T1 _ h3) hP hS (zV_0 (by decide)) rfl rfl rfl rfl hl.1 (Nat.le_of_ble_eq_true rfl) dX1_readGarden_20 (Nat.le_of_ble_eq_true rfl) ⟨Nat.le_of_ble_eq_true rfl, Nat.le_of_ble_eq_true rfl⟩ rfl) hS (fun H locs hP hS => ?_)
    refine lv_istore_n (lv' := [(1, .int v2), (0, .ref (G 0 1))]) hx hb dX1_readGarden_23 rfl hl (by decide) rfl (fun ls hl => ?_)
    refine lv_aload_n hx hb dX1_readGarden_24 rfl (lv_at hl 1 rfl) ?_
    refine z_get hx hb hts (fun w h => List.mem_cons_of_mem _ (ziX1 w h)) hown hK hP (zV_0 (by decide)) rfl rfl 2 (by decide) (List.mem_cons_of_mem _ m_166) rfl rfl dX1_readGarden_25 ?_
    refine lv_if_ne (tgt := 39) hx hb dX1_readGarden_28 (by decide) (fun hc => ?_) (fun hc => ?_)
    · have hf := zif_n hf hc
      obtain ⟨q1, q2⟩ := zs_i hf
      subst q1; subst q2
      exact z_vret hx hb hr rfl hP hS hlocks (Nat.le_of_ble_eq_true rfl) (Nat.le_of_ble_eq_true rfl) dX1_readGarden_39
    · have hf := zif_p hf hc
      refine lv_aload_n hx hb dX1_readGarden_31 rfl (lv_at hl 1 rfl) ?_
      refine z_get hx hb hts (fun w h => List.mem_cons_of_mem _ (ziX1 w h)) hown hK hP (zV_0 (by decide)) rfl rfl 0 (by decide) (List.mem_cons_of_mem _ m_162) rfl rfl dX1_readGarden_32 ?_
      refine lv_iload_n hx hb dX1_readGarden_35 rfl (lv_at hl 0 rfl) ?_
      obtain ⟨v5, T4, h6, hf⟩ := zb_i hf
      refine z_ok (z_runV (As := [.int v2]) (rest := []) F k_X2_addGarden m_321 (c_X2_addGarden 2 (by decide) v2 T1 T4 _ h6) hP hS (zV_r (by decide) (by decide) (by decide)) rfl rfl rfl rfl hl.1 (Nat.le_of_ble_eq_true rfl) dX1_readGarden_36 (Nat.le_of_ble_eq_true rfl) ⟨Nat.le_of_ble_eq_true rfl, Nat.le_of_ble_eq_true rfl⟩ rfl) hS (fun H locs hP hS => ?_)
      obtain ⟨q1, q2⟩ := zs_i hf
      subst q1; subst q2
      exact z_vret hx hb hr rfl hP hS hlocks (Nat.le_of_ble_eq_true rfl) (Nat.le_of_ble_eq_true rfl) dX1_readGarden_39
  · have hf := zif_n hf hc
    refine lv_aload_n hx hb dX1_readGarden_11 rfl (lv_at hl 0 rfl) ?_
    refine lv_iconst (v := 5) hx hb dX1_readGarden_12 (by decide) ?_
    obtain ⟨v8, T7, h9, hf⟩ := zb_i hf
    refine z_ok (z_runV (As := [.int 5]) (rest := []) F k_X1_fail m_297 (c_X1_fail 5 T T7 _ h9) hP hS (zV_0 (by decide)) rfl rfl rfl rfl hl.1 (Nat.le_of_ble_eq_true rfl) dX1_readGarden_13 (Nat.le_of_ble_eq_true rfl) ⟨Nat.le_of_ble_eq_true rfl, Nat.le_of_ble_eq_true rfl⟩ rfl) hS (fun H locs hP hS => ?_)
    refine lv_aload_n hx hb dX1_readGarden_16 rfl (lv_at hl 0 rfl) ?_
    refine lv_iconst (v := 1) hx hb dX1_readGarden_17 (by decide) ?_
    refine lv_bipush (v := 12) hx hb dX1_readGarden_18 (by decide) ?_
    obtain ⟨v11, T10, h12, hf⟩ := zb_i hf
    refine z_ok (z_runV (As := [.int 1, .int 12]) (rest := []) F k_X1_readNumber m_301 (c_X1_readNumber 1 12 T7 T10 _ h12) hP hS (zV_0 (by decide)) rfl rfl rfl rfl hl.1 (Nat.le_of_ble_eq_true rfl) dX1_readGarden_20 (Nat.le_of_ble_eq_true rfl) ⟨Nat.le_of_ble_eq_true rfl, Nat.le_of_ble_eq_true rfl⟩ rfl) hS (fun H locs hP hS => ?_)
    refine lv_istore_n (lv' := [(1, .int v11), (0, .ref (G 0 1))]) hx hb dX1_readGarden_23 rfl hl (by decide) rfl (fun ls hl => ?_)
    refine lv_aload_n hx hb dX1_readGarden_24 rfl (lv_at hl 1 rfl) ?_
    refine z_get hx hb hts (fun w h => List.mem_cons_of_mem _ (ziX1 w h)) hown hK hP (zV_0 (by decide)) rfl rfl 2 (by decide) (List.mem_cons_of_mem _ m_166) rfl rfl dX1_readGarden_25 ?_
    refine lv_if_ne (tgt := 39) hx hb dX1_readGarden_28 (by decide) (fun hc => ?_) (fun hc => ?_)
    · have hf := zif_n hf hc
      obtain ⟨q1, q2⟩ := zs_i hf
      subst q1; subst q2
      exact z_vret hx hb hr rfl hP hS hlocks (Nat.le_of_ble_eq_true rfl) (Nat.le_of_ble_eq_true rfl) dX1_readGarden_39
    · have hf := zif_p hf hc
      refine lv_aload_n hx hb dX1_readGarden_31 rfl (lv_at hl 1 rfl) ?_
      refine z_get hx hb hts (fun w h => List.mem_cons_of_mem _ (ziX1 w h)) hown hK hP (zV_0 (by decide)) rfl rfl 0 (by decide) (List.mem_cons_of_mem _ m_162) rfl rfl dX1_readGarden_32 ?_
      refine lv_iload_n hx hb dX1_readGarden_35 rfl (lv_at hl 0 rfl) ?_
      obtain ⟨v14, T13, h15, hf⟩ := zb_i hf
      refine z_ok (z_runV (As := [.int v11]) (rest := []) F k_X2_addGarden m_321 (c_X2_addGarden 2 (by decide) v11 T10 T13 _ h15) hP hS (zV_r (by decide) (by decide) (by decide)) rfl rfl rfl rfl hl.1 (Nat.le_of_ble_eq_true rfl) dX1_readGarden_36 (Nat.le_of_ble_eq_true rfl) ⟨Nat.le_of_ble_eq_true rfl, Nat.le_of_ble_eq_true rfl⟩ rfl) hS (fun H locs hP hS => ?_)
      obtain ⟨q1, q2⟩ := zs_i hf
      subst q1; subst q2
      exact z_vret hx hb hr rfl hP hS hlocks (Nat.le_of_ble_eq_true rfl) (Nat.le_of_ble_eq_true rfl) dX1_readGarden_39

def lp_X1_readName_38  : Nat → Int32 → Int32 → zT → Option ((Int32 × Int32) × zT)
  | 0, _, _, _ => none
  | n + 1, u1, u2, T => (if (T.1 0 1 8) ≤ u2 then some ((u1, u2), T) else zb (f_X1_byteAt u2 T) fun v9 T8 => zl ((((u1 * 27) + v9) - 97) + 1) fun x11 => zl (u2 + 1) fun x12 => lp_X1_readName_38 n x11 x12 T8)
def jn_X1_readName_31  (T : zT) : Option (Int32 × zT) := zl (T.1 0 1 7) fun x7 => zb (lp_X1_readName_38 2000 0 x7 T) fun v14 T13 => some (v14.1, T13)
def jn_X1_readName_26  (T : zT) : Option (Int32 × zT) := zb (f_X1_fail 1 T) fun _v5 T4 => jn_X1_readName_31 T4
def f_X1_readName  (T : zT) : Option (Int32 × zT) := zb (f_X1_readToken T) fun _v2 T1 => (if (T1.1 0 1 6) = 1 then (if ((T1.1 0 1 8) - (T1.1 0 1 7)) ≤ 6 then jn_X1_readName_31 T1 else jn_X1_readName_26 T1) else jn_X1_readName_26 T1)
set_option maxHeartbeats 4000000 in
set_option maxRecDepth 100000 in
theorem l_X1_readName_38 {p : Program} {l : Launch} {e : Env} {s : State} {m : MethodId} {args : Array Value} {below : List Frame} {meth : Method} {c : Code} {Q : State → Prop} {D : va_G} {Y : Nat → ClassId} {S V : Nat → Nat} {G : Nat → Nat → Nat} {A : Nat → Prop} {c0 : Cond} {mc ms cells slots : Nat} (F : zF 0 2 mc ms p l s m args c cX1_readName 3 RX1 c0 D Y S V G A) (hcs : cells ≤ mc ∧ slots ≤ ms) :
    ∀ (n : Nat) (u1 : Int32) (u2 : Int32) (T : zT) (o : (Int32 × Int32) × zT) (H : Heap) (locs : List Loc) (ls : Array Slot), lp_X1_readName_38 n u1 u2 T = some o → zP 0 D Y G T H → va_S A s.heap H locs → lv_has ls 3 [(0, .ref (G 0 1)), (1, .int u1), (2, .int u2)] → (∀ (H : Heap) (locs : List Loc) (ls : Array Slot), zP 0 D Y G o.2 H → va_S A s.heap H locs → lv_has ls 3 [(0, .ref (G 0 1)), (1, .int o.1.1), (2, .int o.1.2)] → W p l e (zR 2 mc ms) s m args below meth c H locs cells slots Q (F0 m 68 ls [])) → W p l e (zR 2 mc ms) s m args below meth c H locs cells slots Q (F0 m 38 ls []) := by
  obtain ⟨hx, hb, hml, hown, hts, hl9, hG, hK, hA⟩ := id F
  intro n
  induction n with
  | zero =>
    intro u1 u2 T o H locs ls hf
    rw [lp_X1_readName_38] at hf
    cases hf
  | succ n ih =>
    intro u1 u2 T o H locs ls hf hP hS hl k0_
    rw [lp_X1_readName_38] at hf
    refine lv_iload_n hx hb dX1_readName_38 rfl (lv_at hl 2 rfl) ?_
    refine lv_aload_n hx hb dX1_readName_39 rfl (lv_at hl 0 rfl) ?_
    refine z_get hx hb hts (fun w h => List.mem_cons_of_mem _ (ziX1 w h)) hown hK hP (zV_0 (by decide)) rfl rfl 8 (by decide) (List.mem_cons_of_mem _ m_174) rfl rfl dX1_readName_40 ?_
    refine lv_icmp_ge (tgt := 68) hx hb dX1_readName_43 (by decide) (fun hc => ?_) (fun hc => ?_)
    · have hf := zif_p hf hc
      cases hf
      exact k0_ _ _ _ hP hS (lv_sub hl [0, 1, 2] rfl)
    · have hf := zif_n hf hc
      refine lv_iload_n hx hb dX1_readName_46 rfl (lv_at hl 1 rfl) ?_
      refine lv_bipush (v := 27) hx hb dX1_readName_47 (by decide) ?_
      refine lv_imul hx hb dX1_readName_49 ?_
      refine lv_aload_n hx hb dX1_readName_50 rfl (lv_at hl 0 rfl) ?_
      refine lv_iload_n hx hb dX1_readName_51 rfl (lv_at hl 2 rfl) ?_
      obtain ⟨v9, T8, h10, hf⟩ := zb_i hf
      refine z_ok (z_runV (As := [.int u2]) (rest := [.int (u1 * 27)]) F k_X1_byteAt m_292 (c_X1_byteAt u2 T T8 _ h10) hP hS (zV_0 (by decide)) rfl rfl rfl rfl hl.1 (Nat.le_of_ble_eq_true rfl) dX1_readName_52 (Nat.le_of_ble_eq_true rfl) ⟨hcs.1, hcs.2⟩ rfl) hS (fun H locs hP hS => ?_)
      refine lv_iadd hx hb dX1_readName_55 ?_
      refine lv_bipush (v := 97) hx hb dX1_readName_56 (by decide) ?_
      refine lv_isub hx hb dX1_readName_58 ?_
      refine lv_iconst (v := 1) hx hb dX1_readName_59 (by decide) ?_
      refine lv_iadd hx hb dX1_readName_60 ?_
      obtain ⟨x11, ex11, hf⟩ := zl_i hf
      refine z_topi ex11 ?_
      refine lv_istore_n (lv' := [(1, .int x11), (0, .ref (G 0 1)), (2, .int u2)]) hx hb dX1_readName_61 rfl hl (by decide) rfl (fun ls hl => ?_)
      obtain ⟨x12, ex12, hf⟩ := zl_i hf
      refine lv_iinc (v := x12) (lv' := [(2, .int x12), (1, .int x11), (0, .ref (G 0 1))]) hx hb dX1_readName_62 hl (k := 2) rfl (by rw [ex12]; rfl) (by decide) rfl (fun ls hl => ?_)
      refine lv_goto (tgt := 38) hx hb dX1_readName_65 (by decide) ?_
      exact ih x11 x12 _ _ _ _ _ hf hP hS (lv_sub hl [2, 1, 0] rfl) k0_
set_option maxHeartbeats 4000000 in
set_option maxRecDepth 100000 in
theorem j_X1_readName_31 {p : Program} {l : Launch} {e : Env} {s : State} {m : MethodId} {args : Array Value} {below : List Frame} {meth : Method} {c : Code} {D : va_G} {Y : Nat → ClassId} {S V : Nat → Nat} {G : Nat → Nat → Nat} {A : Nat → Prop} {c0 : Cond} (F : zF 0 2  0 0  p l s m args c cX1_readName 3 RX1 c0 D Y S V G A) (hr : meth.sig.returnType = (some .int)) (hlocks : meth.locks = false) (hex : ∀ x ∈ c.exceptionTable.toList, False) (T : zT) {T' : zT} {v : Int32} {H : Heap} {locs : List Loc} {ls : Array Slot} (hf : jn_X1_readName_31 T = some (v, T')) (hP : zP 0 D Y G T H) (hS : va_S A s.heap H locs) (hl : lv_has ls 3 [(0, .ref (G 0 1))]) :
    W p l e (zR 2  0 0 ) s m args below meth c H locs 0 0 (vx_MQ below (zQ 0 D Y G A (.inl (some (.int v))) T') (zX 0 D Y G A (.inl (some (.int v))) T') args s  0 0  A) (F0 m 31 ls []) := by
  obtain ⟨hx, hb, hml, hown, hts, hl9, hG, hK, hA⟩ := id F
  unfold jn_X1_readName_31 at hf
  refine lv_iconst (v := 0) hx hb dX1_readName_31 (by decide) ?_
  refine lv_istore_n (lv' := [(1, .int 0), (0, .ref (G 0 1))]) hx hb dX1_readName_32 rfl hl (by decide) rfl (fun ls hl => ?_)
  refine lv_aload_n hx hb dX1_readName_33 rfl (lv_at hl 1 rfl) ?_
  refine z_get hx hb hts (fun w h => List.mem_cons_of_mem _ (ziX1 w h)) hown hK hP (zV_0 (by decide)) rfl rfl 7 (by decide) (List.mem_cons_of_mem _ m_173) rfl rfl dX1_readName_34 ?_
  obtain ⟨x7, ex7, hf⟩ := zl_i hf
  refine z_topi ex7 ?_
  refine lv_istore_n (lv' := [(2, .int x7), (1, .int 0), (0, .ref (G 0 1))]) hx hb dX1_readName_37 rfl hl (by decide) rfl (fun ls hl => ?_)
  obtain ⟨v14, T13, h15, hf⟩ := zb_i hf
  refine l_X1_readName_38 F ⟨Nat.le_of_ble_eq_true rfl, Nat.le_of_ble_eq_true rfl⟩  2000 0 x7 _ _ _ _ _ h15 hP hS (lv_sub hl [2, 1, 0] rfl) (fun H locs ls hP hS hl => ?_)
  refine lv_iload_n hx hb dX1_readName_68 rfl (lv_at hl 1 rfl) ?_
  obtain ⟨q1, q2⟩ := zs_i hf
  subst q1; subst q2
  exact z_iret hx hb hr rfl hP hS hlocks (Nat.le_of_ble_eq_true rfl) (Nat.le_of_ble_eq_true rfl) dX1_readName_69
set_option maxHeartbeats 4000000 in
set_option maxRecDepth 100000 in
theorem j_X1_readName_26 {p : Program} {l : Launch} {e : Env} {s : State} {m : MethodId} {args : Array Value} {below : List Frame} {meth : Method} {c : Code} {D : va_G} {Y : Nat → ClassId} {S V : Nat → Nat} {G : Nat → Nat → Nat} {A : Nat → Prop} {c0 : Cond} (F : zF 0 2  0 0  p l s m args c cX1_readName 3 RX1 c0 D Y S V G A) (hr : meth.sig.returnType = (some .int)) (hlocks : meth.locks = false) (hex : ∀ x ∈ c.exceptionTable.toList, False) (T : zT) {T' : zT} {v : Int32} {H : Heap} {locs : List Loc} {ls : Array Slot} (hf : jn_X1_readName_26 T = some (v, T')) (hP : zP 0 D Y G T H) (hS : va_S A s.heap H locs) (hl : lv_has ls 3 [(0, .ref (G 0 1))]) :
    W p l e (zR 2  0 0 ) s m args below meth c H locs 0 0 (vx_MQ below (zQ 0 D Y G A (.inl (some (.int v))) T') (zX 0 D Y G A (.inl (some (.int v))) T') args s  0 0  A) (F0 m 26 ls []) := by
  obtain ⟨hx, hb, hml, hown, hts, hl9, hG, hK, hA⟩ := id F
  unfold jn_X1_readName_26 at hf
  refine lv_aload_n hx hb dX1_readName_26 rfl (lv_at hl 0 rfl) ?_
  refine lv_iconst (v := 1) hx hb dX1_readName_27 (by decide) ?_
  obtain ⟨v5, T4, h6, hf⟩ := zb_i hf
  refine z_ok (z_runV (As := [.int 1]) (rest := []) F k_X1_fail m_297 (c_X1_fail 1 T T4 _ h6) hP hS (zV_0 (by decide)) rfl rfl rfl rfl hl.1 (Nat.le_of_ble_eq_true rfl) dX1_readName_28 (Nat.le_of_ble_eq_true rfl) ⟨Nat.le_of_ble_eq_true rfl, Nat.le_of_ble_eq_true rfl⟩ rfl) hS (fun H locs hP hS => ?_)
  exact j_X1_readName_31 F hr hlocks hex T4 hf hP hS (lv_sub hl [0] rfl)
set_option maxHeartbeats 4000000 in
set_option maxRecDepth 100000 in
theorem c_X1_readName  (T T' : zT) (v : Int32) (hf : f_X1_readName  T = some (v, T')) : zC 0 yX1_readName cX1_readName 3 (some .int) 2  0 0  (fun G _ => [.ref (G 0 1)]) T (fun _ => .inl (some (.int v))) T' := by
  intro l D Y S V G A hl9 hG
  refine vx_ofW (cc := cX1_readName) (maxL := 3) (ret := (some .int)) (by decide) rfl ?_
  intro p e s m args below meth c s₁ B hml hex hv
  obtain ⟨rfl, hK, hP, hA⟩ := hv
  have hx := B.exec
  have hb := B.bytes
  have hr := B.returns
  have hlocks := B.notSynchronized
  have hown : s.vm.findClass RX1 = some m.cls := findClass_of_methodNamed B.named
  have hts := atoms_spec (ws := Cond.code yX1_readName cX1_readName 3 (some .int) :: zWS) B.pre
  have F : zF 0 2  0 0  p l s m _ c cX1_readName 3 RX1 (Cond.code yX1_readName cX1_readName 3 (some .int)) D Y S V G A := ⟨hx, hb, hml, hown, hts, hl9, hG, hK, hA⟩
  have hS : va_S A s.heap s.heap [] := va_S.rf
  have hl := lv_entry ([.ref (G 0 1)]) (n := 3) (Nat.le_of_ble_eq_true rfl)
  rw [lg_entry_eq]
  generalize (lg_sl ([.ref (G 0 1)]) ++ List.replicate (3 - (lg_sl ([.ref (G 0 1)])).length) Slot.unset).toArray = ls at hl ⊢
  have hl : lv_has ls 3 [(0, .ref (G 0 1))] := hl
  unfold f_X1_readName at hf
  refine lv_aload_n hx hb dX1_readName_0 rfl (lv_at hl 0 rfl) ?_
  obtain ⟨v2, T1, h3, hf⟩ := zb_i hf
  refine z_ok (z_runV (As := []) (rest := []) F k_X1_readToken m_275 (c_X1_readToken T T1 _ h3) hP hS (zV_0 (by decide)) rfl rfl rfl rfl hl.1 (Nat.le_of_ble_eq_true rfl) dX1_readName_1 (Nat.le_of_ble_eq_true rfl) ⟨Nat.le_of_ble_eq_true rfl, Nat.le_of_ble_eq_true rfl⟩ rfl) hS (fun H locs hP hS => ?_)
  refine lv_aload_n hx hb dX1_readName_4 rfl (lv_at hl 0 rfl) ?_
  refine z_get hx hb hts (fun w h => List.mem_cons_of_mem _ (ziX1 w h)) hown hK hP (zV_0 (by decide)) rfl rfl 6 (by decide) (List.mem_cons_of_mem _ m_172) rfl rfl dX1_readName_5 ?_
  refine lv_iconst (v := 1) hx hb dX1_readName_8 (by decide) ?_
  refine lv_icmp_ne (tgt := 26) hx hb dX1_readName_9 (by decide) (fun hc => ?_) (fun hc => ?_)
  · have hf := zif_n hf hc
    exact j_X1_readName_26 F hr hlocks hex T1 hf hP hS (lv_sub hl [0] rfl)
  · have hf := zif_p hf hc
    refine lv_aload_n hx hb dX1_readName_12 rfl (lv_at hl 0 rfl) ?_
    refine z_get hx hb hts (fun w h => List.mem_cons_of_mem _ (ziX1 w h)) hown hK hP (zV_0 (by decide)) rfl rfl 8 (by decide) (List.mem_cons_of_mem _ m_174) rfl rfl dX1_readName_13 ?_
    refine lv_aload_n hx hb dX1_readName_16 rfl (lv_at hl 0 rfl) ?_
    refine z_get hx hb hts (fun w h => List.mem_cons_of_mem _ (ziX1 w h)) hown hK hP (zV_0 (by decide)) rfl rfl 7 (by decide) (List.mem_cons_of_mem _ m_173) rfl rfl dX1_readName_17 ?_
    refine lv_isub hx hb dX1_readName_20 ?_
    refine lv_bipush (v := 6) hx hb dX1_readName_21 (by decide) ?_
    refine lv_icmp_le (tgt := 31) hx hb dX1_readName_23 (by decide) (fun hc => ?_) (fun hc => ?_)
    · have hf := zif_p hf hc
      exact j_X1_readName_31 F hr hlocks hex T1 hf hP hS (lv_sub hl [0] rfl)
    · have hf := zif_n hf hc
      exact j_X1_readName_26 F hr hlocks hex T1 hf hP hS (lv_sub hl [0] rfl)

def jn_X1_readChild_39 (w1 : Int32) (T : zT) : Option (Unit × zT) := zb (f_X1_readNumber 0 5 T) fun v8 T7 => zb (f_X1_readNumber 1 20 T7) fun v11 T10 => zb (f_X1_readNumber 0 99 T10) fun v14 T13 => zb (f_X1_readNumber 0 ((T13.1 1 2 8) - 1) T13) fun v17 T16 => (if (T16.1 0 1 2) = 0 then zb (f_X2_addChild 2 w1 v8 v11 v14 v17 T16) fun _v20 T19 => some ((), T19) else some ((), T16))
def jn_X1_readChild_17  (T : zT) : Option (Unit × zT) := zb (f_X1_readName T) fun v2 T1 => zb (f_X2_childNamed 2 v2 T1) fun v5 T4 => (if v5 = (-1) then jn_X1_readChild_39 v2 T4 else zb (f_X1_fail 4 T4) fun _v23 T22 => jn_X1_readChild_39 v2 T22)
def f_X1_readChild  (T : zT) : Option (Unit × zT) := (if (T.1 1 2 9) < 10 then jn_X1_readChild_17 T else zb (f_X1_fail 5 T) fun _v26 T25 => jn_X1_readChild_17 T25)
set_option maxHeartbeats 4000000 in
set_option maxRecDepth 100000 in
theorem j_X1_readChild_39 {p : Program} {l : Launch} {e : Env} {s : State} {m : MethodId} {args : Array Value} {below : List Frame} {meth : Method} {c : Code} {D : va_G} {Y : Nat → ClassId} {S V : Nat → Nat} {G : Nat → Nat → Nat} {A : Nat → Prop} {c0 : Cond} (F : zF 0 3  0 0  p l s m args c cX1_readChild 6 RX1 c0 D Y S V G A) (hr : meth.sig.returnType = none) (hlocks : meth.locks = false) (hex : ∀ x ∈ c.exceptionTable.toList, False) (w1 : Int32) (T : zT) {T' : zT} {v : Unit} {H : Heap} {locs : List Loc} {ls : Array Slot} (hf : jn_X1_readChild_39 w1 T = some (v, T')) (hP : zP 0 D Y G T H) (hS : va_S A s.heap H locs) (hl : lv_has ls 6 [(0, .ref (G 0 1)), (1, .int w1)]) :
    W p l e (zR 3  0 0 ) s m args below meth c H locs 0 0 (vx_MQ below (zQ 0 D Y G A (.inl none) T') (zX 0 D Y G A (.inl none) T') args s  0 0  A) (F0 m 39 ls []) := by
  obtain ⟨hx, hb, hml, hown, hts, hl9, hG, hK, hA⟩ := id F
  unfold jn_X1_readChild_39 at hf
  refine lv_aload_n hx hb dX1_readChild_39 rfl (lv_at hl 0 rfl) ?_
  refine lv_iconst (v := 0) hx hb dX1_readChild_40 (by decide) ?_
  refine lv_iconst (v := 5) hx hb dX1_readChild_41 (by decide) ?_
  obtain ⟨v8, T7, h9, hf⟩ := zb_i hf
  refine z_ok (z_runV (As := [.int 0, .int 5]) (rest := []) F k_X1_readNumber m_301 (c_X1_readNumber 0 5 T T7 _ h9) hP hS (zV_0 (by decide)) rfl rfl rfl rfl hl.1 (Nat.le_of_ble_eq_true rfl) dX1_readChild_42 (Nat.le_of_ble_eq_true rfl) ⟨Nat.le_of_ble_eq_true rfl, Nat.le_of_ble_eq_true rfl⟩ rfl) hS (fun H locs hP hS => ?_)
  refine lv_istore_n (lv' := [(2, .int v8), (0, .ref (G 0 1)), (1, .int w1)]) hx hb dX1_readChild_45 rfl hl (by decide) rfl (fun ls hl => ?_)
  refine lv_aload_n hx hb dX1_readChild_46 rfl (lv_at hl 1 rfl) ?_
  refine lv_iconst (v := 1) hx hb dX1_readChild_47 (by decide) ?_
  refine lv_bipush (v := 20) hx hb dX1_readChild_48 (by decide) ?_
  obtain ⟨v11, T10, h12, hf⟩ := zb_i hf
  refine z_ok (z_runV (As := [.int 1, .int 20]) (rest := []) F k_X1_readNumber m_301 (c_X1_readNumber 1 20 T7 T10 _ h12) hP hS (zV_0 (by decide)) rfl rfl rfl rfl hl.1 (Nat.le_of_ble_eq_true rfl) dX1_readChild_50 (Nat.le_of_ble_eq_true rfl) ⟨Nat.le_of_ble_eq_true rfl, Nat.le_of_ble_eq_true rfl⟩ rfl) hS (fun H locs hP hS => ?_)
  refine lv_istore_n (lv' := [(3, .int v11), (2, .int v8), (0, .ref (G 0 1)), (1, .int w1)]) hx hb dX1_readChild_53 rfl hl (by decide) rfl (fun ls hl => ?_)
  refine lv_aload_n hx hb dX1_readChild_54 rfl (lv_at hl 2 rfl) ?_
  refine lv_iconst (v := 0) hx hb dX1_readChild_55 (by decide) ?_
  refine lv_bipush (v := 99) hx hb dX1_readChild_56 (by decide) ?_
  obtain ⟨v14, T13, h15, hf⟩ := zb_i hf
  refine z_ok (z_runV (As := [.int 0, .int 99]) (rest := []) F k_X1_readNumber m_301 (c_X1_readNumber 0 99 T10 T13 _ h15) hP hS (zV_0 (by decide)) rfl rfl rfl rfl hl.1 (Nat.le_of_ble_eq_true rfl) dX1_readChild_58 (Nat.le_of_ble_eq_true rfl) ⟨Nat.le_of_ble_eq_true rfl, Nat.le_of_ble_eq_true rfl⟩ rfl) hS (fun H locs hP hS => ?_)
  refine lv_istore (lv' := [(4, .int v14), (3, .int v11), (2, .int v8), (0, .ref (G 0 1)), (1, .int w1)]) hx hb dX1_readChild_61 hl (by decide) rfl (fun ls hl => ?_)
  refine lv_aload_n hx hb dX1_readChild_63 rfl (lv_at hl 3 rfl) ?_
  refine lv_iconst (v := 0) hx hb dX1_readChild_64 (by decide) ?_
  refine lv_aload_n hx hb dX1_readChild_65 rfl (lv_at hl 3 rfl) ?_
  refine z_get hx hb hts (fun w h => List.mem_cons_of_mem _ (ziX1 w h)) hown hK hP (zV_0 (by decide)) rfl rfl 0 (by decide) (List.mem_cons_of_mem _ m_162) rfl rfl dX1_readChild_66 ?_
  refine z_get hx hb hts (fun w h => List.mem_cons_of_mem _ (ziX2 w h)) hown hK hP (zV_r (by decide) (by decide) (by decide)) rfl rfl 8 (by decide) (List.mem_cons_of_mem _ m_84) rfl rfl dX1_readChild_69 ?_
  refine lv_iconst (v := 1) hx hb dX1_readChild_72 (by decide) ?_
  refine lv_isub hx hb dX1_readChild_73 ?_
  obtain ⟨v17, T16, h18, hf⟩ := zb_i hf
  refine z_ok (z_runV (As := [.int 0, .int ((T13.1 1 2 8) - 1)]) (rest := []) F k_X1_readNumber m_301 (c_X1_readNumber 0 ((T13.1 1 2 8) - 1) T13 T16 _ h18) hP hS (zV_0 (by decide)) rfl rfl rfl rfl hl.1 (Nat.le_of_ble_eq_true rfl) dX1_readChild_74 (Nat.le_of_ble_eq_true rfl) ⟨Nat.le_of_ble_eq_true rfl, Nat.le_of_ble_eq_true rfl⟩ rfl) hS (fun H locs hP hS => ?_)
  refine lv_istore (lv' := [(5, .int v17), (4, .int v14), (3, .int v11), (2, .int v8), (0, .ref (G 0 1)), (1, .int w1)]) hx hb dX1_readChild_77 hl (by decide) rfl (fun ls hl => ?_)
  refine lv_aload_n hx hb dX1_readChild_79 rfl (lv_at hl 4 rfl) ?_
  refine z_get hx hb hts (fun w h => List.mem_cons_of_mem _ (ziX1 w h)) hown hK hP (zV_0 (by decide)) rfl rfl 2 (by decide) (List.mem_cons_of_mem _ m_166) rfl rfl dX1_readChild_80 ?_
  refine lv_if_ne (tgt := 100) hx hb dX1_readChild_83 (by decide) (fun hc => ?_) (fun hc => ?_)
  · have hf := zif_n hf hc
    obtain ⟨q1, q2⟩ := zs_i hf
    subst q1; subst q2
    exact z_vret hx hb hr rfl hP hS hlocks (Nat.le_of_ble_eq_true rfl) (Nat.le_of_ble_eq_true rfl) dX1_readChild_100
  · have hf := zif_p hf hc
    refine lv_aload_n hx hb dX1_readChild_86 rfl (lv_at hl 4 rfl) ?_
    refine z_get hx hb hts (fun w h => List.mem_cons_of_mem _ (ziX1 w h)) hown hK hP (zV_0 (by decide)) rfl rfl 0 (by decide) (List.mem_cons_of_mem _ m_162) rfl rfl dX1_readChild_87 ?_
    refine lv_iload_n hx hb dX1_readChild_90 rfl (lv_at hl 5 rfl) ?_
    refine lv_iload_n hx hb dX1_readChild_91 rfl (lv_at hl 3 rfl) ?_
    refine lv_iload_n hx hb dX1_readChild_92 rfl (lv_at hl 2 rfl) ?_
    refine lv_iload hx hb dX1_readChild_93 (lv_at hl 1 rfl) ?_
    refine lv_iload hx hb dX1_readChild_95 (lv_at hl 0 rfl) ?_
    obtain ⟨v20, T19, h21, hf⟩ := zb_i hf
    refine z_ok (z_runV (As := [.int w1, .int v8, .int v11, .int v14, .int v17]) (rest := []) F k_X2_addChild m_344 (c_X2_addChild 2 (by decide) w1 v8 v11 v14 v17 T16 T19 _ h21) hP hS (zV_r (by decide) (by decide) (by decide)) rfl rfl rfl rfl hl.1 (Nat.le_of_ble_eq_true rfl) dX1_readChild_97 (Nat.le_of_ble_eq_true rfl) ⟨Nat.le_of_ble_eq_true rfl, Nat.le_of_ble_eq_true rfl⟩ rfl) hS (fun H locs hP hS => ?_)
    obtain ⟨q1, q2⟩ := zs_i hf
    subst q1; subst q2
    exact z_vret hx hb hr rfl hP hS hlocks (Nat.le_of_ble_eq_true rfl) (Nat.le_of_ble_eq_true rfl) dX1_readChild_100
set_option maxHeartbeats 4000000 in
set_option maxRecDepth 100000 in
theorem j_X1_readChild_17 {p : Program} {l : Launch} {e : Env} {s : State} {m : MethodId} {args : Array Value} {below : List Frame} {meth : Method} {c : Code} {D : va_G} {Y : Nat → ClassId} {S V : Nat → Nat} {G : Nat → Nat → Nat} {A : Nat → Prop} {c0 : Cond} (F : zF 0 3  0 0  p l s m args c cX1_readChild 6 RX1 c0 D Y S V G A) (hr : meth.sig.returnType = none) (hlocks : meth.locks = false) (hex : ∀ x ∈ c.exceptionTable.toList, False) (T : zT) {T' : zT} {v : Unit} {H : Heap} {locs : List Loc} {ls : Array Slot} (hf : jn_X1_readChild_17 T = some (v, T')) (hP : zP 0 D Y G T H) (hS : va_S A s.heap H locs) (hl : lv_has ls 6 [(0, .ref (G 0 1))]) :
    W p l e (zR 3  0 0 ) s m args below meth c H locs 0 0 (vx_MQ below (zQ 0 D Y G A (.inl none) T') (zX 0 D Y G A (.inl none) T') args s  0 0  A) (F0 m 17 ls []) := by
  obtain ⟨hx, hb, hml, hown, hts, hl9, hG, hK, hA⟩ := id F
  unfold jn_X1_readChild_17 at hf
  refine lv_aload_n hx hb dX1_readChild_17 rfl (lv_at hl 0 rfl) ?_
  obtain ⟨v2, T1, h3, hf⟩ := zb_i hf
  refine z_ok (z_runV (As := []) (rest := []) F k_X1_readName m_333 (c_X1_readName T T1 _ h3) hP hS (zV_0 (by decide)) rfl rfl rfl rfl hl.1 (Nat.le_of_ble_eq_true rfl) dX1_readChild_18 (Nat.le_of_ble_eq_true rfl) ⟨Nat.le_of_ble_eq_true rfl, Nat.le_of_ble_eq_true rfl⟩ rfl) hS (fun H locs hP hS => ?_)
  refine lv_istore_n (lv' := [(1, .int v2), (0, .ref (G 0 1))]) hx hb dX1_readChild_21 rfl hl (by decide) rfl (fun ls hl => ?_)
  refine lv_aload_n hx hb dX1_readChild_22 rfl (lv_at hl 1 rfl) ?_
  refine z_get hx hb hts (fun w h => List.mem_cons_of_mem _ (ziX1 w h)) hown hK hP (zV_0 (by decide)) rfl rfl 0 (by decide) (List.mem_cons_of_mem _ m_162) rfl rfl dX1_readChild_23 ?_
  refine lv_iload_n hx hb dX1_readChild_26 rfl (lv_at hl 0 rfl) ?_
  obtain ⟨v5, T4, h6, hf⟩ := zb_i hf
  refine z_ok (z_runV (As := [.int v2]) (rest := []) F k_X2_childNamed m_337 (c_X2_childNamed 2 (by decide) v2 T1 T4 _ h6) hP hS (zV_r (by decide) (by decide) (by decide)) rfl rfl rfl rfl hl.1 (Nat.le_of_ble_eq_true rfl) dX1_readChild_27 (Nat.le_of_ble_eq_true rfl) ⟨Nat.le_of_ble_eq_true rfl, Nat.le_of_ble_eq_true rfl⟩ rfl) hS (fun H locs hP hS => ?_)
  refine lv_iconst (v := (-1)) hx hb dX1_readChild_30 (by decide) ?_
  refine lv_icmp_eq (tgt := 39) hx hb dX1_readChild_31 (by decide) (fun hc => ?_) (fun hc => ?_)
  · have hf := zif_p hf hc
    exact j_X1_readChild_39 F hr hlocks hex v2 T4 hf hP hS (lv_sub hl [1, 0] rfl)
  · have hf := zif_n hf hc
    refine lv_aload_n hx hb dX1_readChild_34 rfl (lv_at hl 1 rfl) ?_
    refine lv_iconst (v := 4) hx hb dX1_readChild_35 (by decide) ?_
    obtain ⟨v23, T22, h24, hf⟩ := zb_i hf
    refine z_ok (z_runV (As := [.int 4]) (rest := []) F k_X1_fail m_297 (c_X1_fail 4 T4 T22 _ h24) hP hS (zV_0 (by decide)) rfl rfl rfl rfl hl.1 (Nat.le_of_ble_eq_true rfl) dX1_readChild_36 (Nat.le_of_ble_eq_true rfl) ⟨Nat.le_of_ble_eq_true rfl, Nat.le_of_ble_eq_true rfl⟩ rfl) hS (fun H locs hP hS => ?_)
    exact j_X1_readChild_39 F hr hlocks hex v2 T22 hf hP hS (lv_sub hl [1, 0] rfl)
set_option maxHeartbeats 4000000 in
set_option maxRecDepth 100000 in
theorem c_X1_readChild  (T T' : zT) (v : Unit) (hf : f_X1_readChild  T = some (v, T')) : zC 0 yX1_readChild cX1_readChild 6 none 3  0 0  (fun G _ => [.ref (G 0 1)]) T (fun _ => .inl none) T' := by
  intro l D Y S V G A hl9 hG
  refine vx_ofW (cc := cX1_readChild) (maxL := 6) (ret := none) (by decide) rfl ?_
  intro p e s m args below meth c s₁ B hml hex hv
  obtain ⟨rfl, hK, hP, hA⟩ := hv
  have hx := B.exec
  have hb := B.bytes
  have hr := B.returns
  have hlocks := B.notSynchronized
  have hown : s.vm.findClass RX1 = some m.cls := findClass_of_methodNamed B.named
  have hts := atoms_spec (ws := Cond.code yX1_readChild cX1_readChild 6 none :: zWS) B.pre
  have F : zF 0 3  0 0  p l s m _ c cX1_readChild 6 RX1 (Cond.code yX1_readChild cX1_readChild 6 none) D Y S V G A := ⟨hx, hb, hml, hown, hts, hl9, hG, hK, hA⟩
  have hS : va_S A s.heap s.heap [] := va_S.rf
  have hl := lv_entry ([.ref (G 0 1)]) (n := 6) (Nat.le_of_ble_eq_true rfl)
  rw [lg_entry_eq]
  generalize (lg_sl ([.ref (G 0 1)]) ++ List.replicate (6 - (lg_sl ([.ref (G 0 1)])).length) Slot.unset).toArray = ls at hl ⊢
  have hl : lv_has ls 6 [(0, .ref (G 0 1))] := hl
  unfold f_X1_readChild at hf
  refine lv_aload_n hx hb dX1_readChild_0 rfl (lv_at hl 0 rfl) ?_
  refine z_get hx hb hts (fun w h => List.mem_cons_of_mem _ (ziX1 w h)) hown hK hP (zV_0 (by decide)) rfl rfl 0 (by decide) (List.mem_cons_of_mem _ m_162) rfl rfl dX1_readChild_1 ?_
  refine z_get hx hb hts (fun w h => List.mem_cons_of_mem _ (ziX2 w h)) hown hK hP (zV_r (by decide) (by decide) (by decide)) rfl rfl 9 (by decide) (List.mem_cons_of_mem _ m_88) rfl rfl dX1_readChild_4 ?_
  refine lv_bipush (v := 10) hx hb dX1_readChild_7 (by decide) ?_
  refine lv_icmp_lt (tgt := 17) hx hb dX1_readChild_9 (by decide) (fun hc => ?_) (fun hc => ?_)
  · have hf := zif_p hf hc
    exact j_X1_readChild_17 F hr hlocks hex T hf hP hS (lv_sub hl [0] rfl)
  · have hf := zif_n hf hc
    refine lv_aload_n hx hb dX1_readChild_12 rfl (lv_at hl 0 rfl) ?_
    refine lv_iconst (v := 5) hx hb dX1_readChild_13 (by decide) ?_
    obtain ⟨v26, T25, h27, hf⟩ := zb_i hf
    refine z_ok (z_runV (As := [.int 5]) (rest := []) F k_X1_fail m_297 (c_X1_fail 5 T T25 _ h27) hP hS (zV_0 (by decide)) rfl rfl rfl rfl hl.1 (Nat.le_of_ble_eq_true rfl) dX1_readChild_14 (Nat.le_of_ble_eq_true rfl) ⟨Nat.le_of_ble_eq_true rfl, Nat.le_of_ble_eq_true rfl⟩ rfl) hS (fun H locs hP hS => ?_)
    exact j_X1_readChild_17 F hr hlocks hex T25 hf hP hS (lv_sub hl [0] rfl)

def f_X1_readKnownChild  (T : zT) : Option (Int32 × zT) := zb (f_X1_readName T) fun v2 T1 => zb (f_X2_childNamed 2 v2 T1) fun v5 T4 => (if v5 = (-1) then zb (f_X1_fail 3 T4) fun _v8 T7 => some (v5, T7) else some (v5, T4))
set_option maxHeartbeats 4000000 in
set_option maxRecDepth 100000 in
theorem c_X1_readKnownChild  (T T' : zT) (v : Int32) (hf : f_X1_readKnownChild  T = some (v, T')) : zC 0 yX1_readKnownChild cX1_readKnownChild 2 (some .int) 3  0 0  (fun G _ => [.ref (G 0 1)]) T (fun _ => .inl (some (.int v))) T' := by
  intro l D Y S V G A hl9 hG
  refine vx_ofW (cc := cX1_readKnownChild) (maxL := 2) (ret := (some .int)) (by decide) rfl ?_
  intro p e s m args below meth c s₁ B hml hex hv
  obtain ⟨rfl, hK, hP, hA⟩ := hv
  have hx := B.exec
  have hb := B.bytes
  have hr := B.returns
  have hlocks := B.notSynchronized
  have hown : s.vm.findClass RX1 = some m.cls := findClass_of_methodNamed B.named
  have hts := atoms_spec (ws := Cond.code yX1_readKnownChild cX1_readKnownChild 2 (some .int) :: zWS) B.pre
  have F : zF 0 3  0 0  p l s m _ c cX1_readKnownChild 2 RX1 (Cond.code yX1_readKnownChild cX1_readKnownChild 2 (some .int)) D Y S V G A := ⟨hx, hb, hml, hown, hts, hl9, hG, hK, hA⟩
  have hS : va_S A s.heap s.heap [] := va_S.rf
  have hl := lv_entry ([.ref (G 0 1)]) (n := 2) (Nat.le_of_ble_eq_true rfl)
  rw [lg_entry_eq]
  generalize (lg_sl ([.ref (G 0 1)]) ++ List.replicate (2 - (lg_sl ([.ref (G 0 1)])).length) Slot.unset).toArray = ls at hl ⊢
  have hl : lv_has ls 2 [(0, .ref (G 0 1))] := hl
  unfold f_X1_readKnownChild at hf
  refine lv_aload_n hx hb dX1_readKnownChild_0 rfl (lv_at hl 0 rfl) ?_
  refine z_get hx hb hts (fun w h => List.mem_cons_of_mem _ (ziX1 w h)) hown hK hP (zV_0 (by decide)) rfl rfl 0 (by decide) (List.mem_cons_of_mem _ m_162) rfl rfl dX1_readKnownChild_1 ?_
  refine lv_aload_n hx hb dX1_readKnownChild_4 rfl (lv_at hl 0 rfl) ?_
  obtain ⟨v2, T1, h3, hf⟩ := zb_i hf
  refine z_ok (z_runV (As := []) (rest := [.ref (G 1 2)]) F k_X1_readName m_333 (c_X1_readName T T1 _ h3) hP hS (zV_0 (by decide)) rfl rfl rfl rfl hl.1 (Nat.le_of_ble_eq_true rfl) dX1_readKnownChild_5 (Nat.le_of_ble_eq_true rfl) ⟨Nat.le_of_ble_eq_true rfl, Nat.le_of_ble_eq_true rfl⟩ rfl) hS (fun H locs hP hS => ?_)
  obtain ⟨v5, T4, h6, hf⟩ := zb_i hf
  refine z_ok (z_runV (As := [.int v2]) (rest := []) F k_X2_childNamed m_337 (c_X2_childNamed 2 (by decide) v2 T1 T4 _ h6) hP hS (zV_r (by decide) (by decide) (by decide)) rfl rfl rfl rfl hl.1 (Nat.le_of_ble_eq_true rfl) dX1_readKnownChild_8 (Nat.le_of_ble_eq_true rfl) ⟨Nat.le_of_ble_eq_true rfl, Nat.le_of_ble_eq_true rfl⟩ rfl) hS (fun H locs hP hS => ?_)
  refine lv_istore_n (lv' := [(1, .int v5), (0, .ref (G 0 1))]) hx hb dX1_readKnownChild_11 rfl hl (by decide) rfl (fun ls hl => ?_)
  refine lv_iload_n hx hb dX1_readKnownChild_12 rfl (lv_at hl 0 rfl) ?_
  refine lv_iconst (v := (-1)) hx hb dX1_readKnownChild_13 (by decide) ?_
  refine lv_icmp_ne (tgt := 22) hx hb dX1_readKnownChild_14 (by decide) (fun hc => ?_) (fun hc => ?_)
  · have hf := zif_n hf hc
    refine lv_iload_n hx hb dX1_readKnownChild_22 rfl (lv_at hl 0 rfl) ?_
    obtain ⟨q1, q2⟩ := zs_i hf
    subst q1; subst q2
    exact z_iret hx hb hr rfl hP hS hlocks (Nat.le_of_ble_eq_true rfl) (Nat.le_of_ble_eq_true rfl) dX1_readKnownChild_23
  · have hf := zif_p hf hc
    refine lv_aload_n hx hb dX1_readKnownChild_17 rfl (lv_at hl 1 rfl) ?_
    refine lv_iconst (v := 3) hx hb dX1_readKnownChild_18 (by decide) ?_
    obtain ⟨v8, T7, h9, hf⟩ := zb_i hf
    refine z_ok (z_runV (As := [.int 3]) (rest := []) F k_X1_fail m_297 (c_X1_fail 3 T4 T7 _ h9) hP hS (zV_0 (by decide)) rfl rfl rfl rfl hl.1 (Nat.le_of_ble_eq_true rfl) dX1_readKnownChild_19 (Nat.le_of_ble_eq_true rfl) ⟨Nat.le_of_ble_eq_true rfl, Nat.le_of_ble_eq_true rfl⟩ rfl) hS (fun H locs hP hS => ?_)
    refine lv_iload_n hx hb dX1_readKnownChild_22 rfl (lv_at hl 0 rfl) ?_
    obtain ⟨q1, q2⟩ := zs_i hf
    subst q1; subst q2
    exact z_iret hx hb hr rfl hP hS hlocks (Nat.le_of_ble_eq_true rfl) (Nat.le_of_ble_eq_true rfl) dX1_readKnownChild_23

def f_X1_readBirthday  (T : zT) : Option (Unit × zT) := zb (f_X1_readKnownChild T) fun v2 T1 => zb (f_X1_readNumber 1 12 T1) fun v5 T4 => zb (f_X1_readNumber 1 30 T4) fun v8 T7 => (if (T7.1 0 1 2) = 0 then zb (f_X3_dateOf v5 v8 T7) fun v11 T10 => zb (f_X3_cell 8 2 v2 T10) fun v14 T13 => zb (f_X2_reasonAgainst 2 v2 v14 v11 T13) fun v17 T16 => (if v17 = 0 then zb (f_X3_setCell 9 2 v2 v11 T16) fun _v20 T19 => some ((), T19) else zb (f_X1_fail 6 T16) fun _v23 T22 => some ((), T22)) else some ((), T7))
set_option maxHeartbeats 4000000 in
set_option maxRecDepth 100000 in
theorem c_X1_readBirthday  (T T' : zT) (v : Unit) (hf : f_X1_readBirthday  T = some (v, T')) : zC 0 yX1_readBirthday cX1_readBirthday 5 none 4  0 0  (fun G _ => [.ref (G 0 1)]) T (fun _ => .inl none) T' := by
  intro l D Y S V G A hl9 hG
  refine vx_ofW (cc := cX1_readBirthday) (maxL := 5) (ret := none) (by decide) rfl ?_
  intro p e s m args below meth c s₁ B hml hex hv
  obtain ⟨rfl, hK, hP, hA⟩ := hv
  have hx := B.exec
  have hb := B.bytes
  have hr := B.returns
  have hlocks := B.notSynchronized
  have hown : s.vm.findClass RX1 = some m.cls := findClass_of_methodNamed B.named
  have hts := atoms_spec (ws := Cond.code yX1_readBirthday cX1_readBirthday 5 none :: zWS) B.pre
  have F : zF 0 4  0 0  p l s m _ c cX1_readBirthday 5 RX1 (Cond.code yX1_readBirthday cX1_readBirthday 5 none) D Y S V G A := ⟨hx, hb, hml, hown, hts, hl9, hG, hK, hA⟩
  have hS : va_S A s.heap s.heap [] := va_S.rf
  have hl := lv_entry ([.ref (G 0 1)]) (n := 5) (Nat.le_of_ble_eq_true rfl)
  rw [lg_entry_eq]
  generalize (lg_sl ([.ref (G 0 1)]) ++ List.replicate (5 - (lg_sl ([.ref (G 0 1)])).length) Slot.unset).toArray = ls at hl ⊢
  have hl : lv_has ls 5 [(0, .ref (G 0 1))] := hl
  unfold f_X1_readBirthday at hf
  refine lv_aload_n hx hb dX1_readBirthday_0 rfl (lv_at hl 0 rfl) ?_
  obtain ⟨v2, T1, h3, hf⟩ := zb_i hf
  refine z_ok (z_runV (As := []) (rest := []) F k_X1_readKnownChild m_353 (c_X1_readKnownChild T T1 _ h3) hP hS (zV_0 (by decide)) rfl rfl rfl rfl hl.1 (Nat.le_of_ble_eq_true rfl) dX1_readBirthday_1 (Nat.le_of_ble_eq_true rfl) ⟨Nat.le_of_ble_eq_true rfl, Nat.le_of_ble_eq_true rfl⟩ rfl) hS (fun H locs hP hS => ?_)
  refine lv_istore_n (lv' := [(1, .int v2), (0, .ref (G 0 1))]) hx hb dX1_readBirthday_4 rfl hl (by decide) rfl (fun ls hl => ?_)
  refine lv_aload_n hx hb dX1_readBirthday_5 rfl (lv_at hl 1 rfl) ?_
  refine lv_iconst (v := 1) hx hb dX1_readBirthday_6 (by decide) ?_
  refine lv_bipush (v := 12) hx hb dX1_readBirthday_7 (by decide) ?_
  obtain ⟨v5, T4, h6, hf⟩ := zb_i hf
  refine z_ok (z_runV (As := [.int 1, .int 12]) (rest := []) F k_X1_readNumber m_301 (c_X1_readNumber 1 12 T1 T4 _ h6) hP hS (zV_0 (by decide)) rfl rfl rfl rfl hl.1 (Nat.le_of_ble_eq_true rfl) dX1_readBirthday_9 (Nat.le_of_ble_eq_true rfl) ⟨Nat.le_of_ble_eq_true rfl, Nat.le_of_ble_eq_true rfl⟩ rfl) hS (fun H locs hP hS => ?_)
  refine lv_istore_n (lv' := [(2, .int v5), (1, .int v2), (0, .ref (G 0 1))]) hx hb dX1_readBirthday_12 rfl hl (by decide) rfl (fun ls hl => ?_)
  refine lv_aload_n hx hb dX1_readBirthday_13 rfl (lv_at hl 2 rfl) ?_
  refine lv_iconst (v := 1) hx hb dX1_readBirthday_14 (by decide) ?_
  refine lv_bipush (v := 30) hx hb dX1_readBirthday_15 (by decide) ?_
  obtain ⟨v8, T7, h9, hf⟩ := zb_i hf
  refine z_ok (z_runV (As := [.int 1, .int 30]) (rest := []) F k_X1_readNumber m_301 (c_X1_readNumber 1 30 T4 T7 _ h9) hP hS (zV_0 (by decide)) rfl rfl rfl rfl hl.1 (Nat.le_of_ble_eq_true rfl) dX1_readBirthday_17 (Nat.le_of_ble_eq_true rfl) ⟨Nat.le_of_ble_eq_true rfl, Nat.le_of_ble_eq_true rfl⟩ rfl) hS (fun H locs hP hS => ?_)
  refine lv_istore_n (lv' := [(3, .int v8), (2, .int v5), (1, .int v2), (0, .ref (G 0 1))]) hx hb dX1_readBirthday_20 rfl hl (by decide) rfl (fun ls hl => ?_)
  refine lv_aload_n hx hb dX1_readBirthday_21 rfl (lv_at hl 3 rfl) ?_
  refine z_get hx hb hts (fun w h => List.mem_cons_of_mem _ (ziX1 w h)) hown hK hP (zV_0 (by decide)) rfl rfl 2 (by decide) (List.mem_cons_of_mem _ m_166) rfl rfl dX1_readBirthday_22 ?_
  refine lv_if_eq (tgt := 29) hx hb dX1_readBirthday_25 (by decide) (fun hc => ?_) (fun hc => ?_)
  · have hf := zif_p hf hc
    refine lv_iload_n hx hb dX1_readBirthday_29 rfl (lv_at hl 1 rfl) ?_
    refine lv_iload_n hx hb dX1_readBirthday_30 rfl (lv_at hl 0 rfl) ?_
    obtain ⟨v11, T10, h12, hf⟩ := zb_i hf
    refine z_ok (z_runSN (As := [.int v5, .int v8]) (rest := []) F k_X3_dateOf (by decide +kernel) (c_X3_dateOf v5 v8 T7 T10 _ h12) hP hS rfl rfl hl.1 (Nat.le_of_ble_eq_true rfl) dX1_readBirthday_31 (Nat.le_of_ble_eq_true rfl) ⟨Nat.le_of_ble_eq_true rfl, Nat.le_of_ble_eq_true rfl⟩ rfl) hS (fun H locs hP hS => ?_)
    refine lv_istore (lv' := [(4, .int v11), (3, .int v8), (2, .int v5), (1, .int v2), (0, .ref (G 0 1))]) hx hb dX1_readBirthday_34 hl (by decide) rfl (fun ls hl => ?_)
    refine lv_aload_n hx hb dX1_readBirthday_36 rfl (lv_at hl 4 rfl) ?_
    refine z_get hx hb hts (fun w h => List.mem_cons_of_mem _ (ziX1 w h)) hown hK hP (zV_0 (by decide)) rfl rfl 0 (by decide) (List.mem_cons_of_mem _ m_162) rfl rfl dX1_readBirthday_37 ?_
    refine lv_iload_n hx hb dX1_readBirthday_40 rfl (lv_at hl 3 rfl) ?_
    refine lv_aload_n hx hb dX1_readBirthday_41 rfl (lv_at hl 4 rfl) ?_
    refine z_get hx hb hts (fun w h => List.mem_cons_of_mem _ (ziX1 w h)) hown hK hP (zV_0 (by decide)) rfl rfl 0 (by decide) (List.mem_cons_of_mem _ m_162) rfl rfl dX1_readBirthday_42 ?_
    refine z_get hx hb hts (fun w h => List.mem_cons_of_mem _ (ziX2 w h)) hown hK hP (zV_r (by decide) (by decide) (by decide)) rfl rfl 16 (by decide) (List.mem_cons_of_mem _ m_102) rfl rfl dX1_readBirthday_45 ?_
    refine lv_iload_n hx hb dX1_readBirthday_48 rfl (lv_at hl 3 rfl) ?_
    obtain ⟨v14, T13, h15, hf⟩ := zb_i hf
    refine z_ok (z_runSN (As := [.ref (G 8 2), .int v2]) (rest := [.int v2, .ref (G 1 2)]) F k_X3_cell (by decide +kernel) (c_X3_cell 8 2 (zIA_r (by decide) (by decide) (by decide)) v2 T10 T13 _ h15) hP hS rfl rfl hl.1 (Nat.le_of_ble_eq_true rfl) dX1_readBirthday_49 (Nat.le_of_ble_eq_true rfl) ⟨Nat.le_of_ble_eq_true rfl, Nat.le_of_ble_eq_true rfl⟩ rfl) hS (fun H locs hP hS => ?_)
    refine lv_iload hx hb dX1_readBirthday_52 (lv_at hl 0 rfl) ?_
    obtain ⟨v17, T16, h18, hf⟩ := zb_i hf
    refine z_ok (z_runV (As := [.int v2, .int v14, .int v11]) (rest := []) F k_X2_reasonAgainst m_361 (c_X2_reasonAgainst 2 (by decide) v2 v14 v11 T13 T16 _ h18) hP hS (zV_r (by decide) (by decide) (by decide)) rfl rfl rfl rfl hl.1 (Nat.le_of_ble_eq_true rfl) dX1_readBirthday_54 (Nat.le_of_ble_eq_true rfl) ⟨Nat.le_of_ble_eq_true rfl, Nat.le_of_ble_eq_true rfl⟩ rfl) hS (fun H locs hP hS => ?_)
    refine lv_if_eq (tgt := 69) hx hb dX1_readBirthday_57 (by decide) (fun hc => ?_) (fun hc => ?_)
    · have hf := zif_p hf hc
      refine lv_aload_n hx hb dX1_readBirthday_69 rfl (lv_at hl 4 rfl) ?_
      refine z_get hx hb hts (fun w h => List.mem_cons_of_mem _ (ziX1 w h)) hown hK hP (zV_0 (by decide)) rfl rfl 0 (by decide) (List.mem_cons_of_mem _ m_162) rfl rfl dX1_readBirthday_70 ?_
      refine z_get hx hb hts (fun w h => List.mem_cons_of_mem _ (ziX2 w h)) hown hK hP (zV_r (by decide) (by decide) (by decide)) rfl rfl 17 (by decide) (List.mem_cons_of_mem _ m_105) rfl rfl dX1_readBirthday_73 ?_
      refine lv_iload_n hx hb dX1_readBirthday_76 rfl (lv_at hl 3 rfl) ?_
      refine lv_iload hx hb dX1_readBirthday_77 (lv_at hl 0 rfl) ?_
      obtain ⟨v20, T19, h21, hf⟩ := zb_i hf
      refine z_ok (z_runSN (As := [.ref (G 9 2), .int v2, .int v11]) (rest := []) F k_X3_setCell (by decide +kernel) (c_X3_setCell 9 2 (zIA_r (by decide) (by decide) (by decide)) v2 v11 T16 T19 _ h21) hP hS rfl rfl hl.1 (Nat.le_of_ble_eq_true rfl) dX1_readBirthday_79 (Nat.le_of_ble_eq_true rfl) ⟨Nat.le_of_ble_eq_true rfl, Nat.le_of_ble_eq_true rfl⟩ rfl) hS (fun H locs hP hS => ?_)
      obtain ⟨q1, q2⟩ := zs_i hf
      subst q1; subst q2
      exact z_vret hx hb hr rfl hP hS hlocks (Nat.le_of_ble_eq_true rfl) (Nat.le_of_ble_eq_true rfl) dX1_readBirthday_82
    · have hf := zif_n hf hc
      refine lv_aload_n hx hb dX1_readBirthday_60 rfl (lv_at hl 4 rfl) ?_
      refine lv_bipush (v := 6) hx hb dX1_readBirthday_61 (by decide) ?_
      obtain ⟨v23, T22, h24, hf⟩ := zb_i hf
      refine z_ok (z_runV (As := [.int 6]) (rest := []) F k_X1_fail m_297 (c_X1_fail 6 T16 T22 _ h24) hP hS (zV_0 (by decide)) rfl rfl rfl rfl hl.1 (Nat.le_of_ble_eq_true rfl) dX1_readBirthday_63 (Nat.le_of_ble_eq_true rfl) ⟨Nat.le_of_ble_eq_true rfl, Nat.le_of_ble_eq_true rfl⟩ rfl) hS (fun H locs hP hS => ?_)
      refine lv_goto (tgt := 82) hx hb dX1_readBirthday_66 (by decide) ?_
      obtain ⟨q1, q2⟩ := zs_i hf
      subst q1; subst q2
      exact z_vret hx hb hr rfl hP hS hlocks (Nat.le_of_ble_eq_true rfl) (Nat.le_of_ble_eq_true rfl) dX1_readBirthday_82
  · have hf := zif_n hf hc
    obtain ⟨q1, q2⟩ := zs_i hf
    subst q1; subst q2
    exact z_vret hx hb hr rfl hP hS hlocks (Nat.le_of_ble_eq_true rfl) (Nat.le_of_ble_eq_true rfl) dX1_readBirthday_28

def f_X1_readDraw  (T : zT) : Option (Unit × zT) := zb (f_X1_readKnownChild T) fun v2 T1 => (if (T1.1 0 1 2) = 0 then zb (f_X2_countDraws 2 v2 T1) fun v5 T4 => (if v5 = (-1) then zb (f_X1_fail 6 T4) fun _v11 T10 => some ((), T10) else zb (f_X2_drawBirthday 2 v2 v5 T4) fun _v8 T7 => some ((), T7)) else some ((), T1))
set_option maxHeartbeats 4000000 in
set_option maxRecDepth 100000 in
theorem c_X1_readDraw  (T T' : zT) (v : Unit) (hf : f_X1_readDraw  T = some (v, T')) : zC 0 yX1_readDraw cX1_readDraw 3 none 4  0 0  (fun G _ => [.ref (G 0 1)]) T (fun _ => .inl none) T' := by
  intro l D Y S V G A hl9 hG
  refine vx_ofW (cc := cX1_readDraw) (maxL := 3) (ret := none) (by decide) rfl ?_
  intro p e s m args below meth c s₁ B hml hex hv
  obtain ⟨rfl, hK, hP, hA⟩ := hv
  have hx := B.exec
  have hb := B.bytes
  have hr := B.returns
  have hlocks := B.notSynchronized
  have hown : s.vm.findClass RX1 = some m.cls := findClass_of_methodNamed B.named
  have hts := atoms_spec (ws := Cond.code yX1_readDraw cX1_readDraw 3 none :: zWS) B.pre
  have F : zF 0 4  0 0  p l s m _ c cX1_readDraw 3 RX1 (Cond.code yX1_readDraw cX1_readDraw 3 none) D Y S V G A := ⟨hx, hb, hml, hown, hts, hl9, hG, hK, hA⟩
  have hS : va_S A s.heap s.heap [] := va_S.rf
  have hl := lv_entry ([.ref (G 0 1)]) (n := 3) (Nat.le_of_ble_eq_true rfl)
  rw [lg_entry_eq]
  generalize (lg_sl ([.ref (G 0 1)]) ++ List.replicate (3 - (lg_sl ([.ref (G 0 1)])).length) Slot.unset).toArray = ls at hl ⊢
  have hl : lv_has ls 3 [(0, .ref (G 0 1))] := hl
  unfold f_X1_readDraw at hf
  refine lv_aload_n hx hb dX1_readDraw_0 rfl (lv_at hl 0 rfl) ?_
  obtain ⟨v2, T1, h3, hf⟩ := zb_i hf
  refine z_ok (z_runV (As := []) (rest := []) F k_X1_readKnownChild m_353 (c_X1_readKnownChild T T1 _ h3) hP hS (zV_0 (by decide)) rfl rfl rfl rfl hl.1 (Nat.le_of_ble_eq_true rfl) dX1_readDraw_1 (Nat.le_of_ble_eq_true rfl) ⟨Nat.le_of_ble_eq_true rfl, Nat.le_of_ble_eq_true rfl⟩ rfl) hS (fun H locs hP hS => ?_)
  refine lv_istore_n (lv' := [(1, .int v2), (0, .ref (G 0 1))]) hx hb dX1_readDraw_4 rfl hl (by decide) rfl (fun ls hl => ?_)
  refine lv_aload_n hx hb dX1_readDraw_5 rfl (lv_at hl 1 rfl) ?_
  refine z_get hx hb hts (fun w h => List.mem_cons_of_mem _ (ziX1 w h)) hown hK hP (zV_0 (by decide)) rfl rfl 2 (by decide) (List.mem_cons_of_mem _ m_166) rfl rfl dX1_readDraw_6 ?_
  refine lv_if_eq (tgt := 13) hx hb dX1_readDraw_9 (by decide) (fun hc => ?_) (fun hc => ?_)
  · have hf := zif_p hf hc
    refine lv_aload_n hx hb dX1_readDraw_13 rfl (lv_at hl 1 rfl) ?_
    refine z_get hx hb hts (fun w h => List.mem_cons_of_mem _ (ziX1 w h)) hown hK hP (zV_0 (by decide)) rfl rfl 0 (by decide) (List.mem_cons_of_mem _ m_162) rfl rfl dX1_readDraw_14 ?_
    refine lv_iload_n hx hb dX1_readDraw_17 rfl (lv_at hl 0 rfl) ?_
    obtain ⟨v5, T4, h6, hf⟩ := zb_i hf
    refine z_ok (z_runV (As := [.int v2]) (rest := []) F k_X2_countDraws m_378 (c_X2_countDraws 2 (by decide) v2 T1 T4 _ h6) hP hS (zV_r (by decide) (by decide) (by decide)) rfl rfl rfl rfl hl.1 (Nat.le_of_ble_eq_true rfl) dX1_readDraw_18 (Nat.le_of_ble_eq_true rfl) ⟨Nat.le_of_ble_eq_true rfl, Nat.le_of_ble_eq_true rfl⟩ rfl) hS (fun H locs hP hS => ?_)
    refine lv_istore_n (lv' := [(2, .int v5), (1, .int v2), (0, .ref (G 0 1))]) hx hb dX1_readDraw_21 rfl hl (by decide) rfl (fun ls hl => ?_)
    refine lv_iload_n hx hb dX1_readDraw_22 rfl (lv_at hl 0 rfl) ?_
    refine lv_iconst (v := (-1)) hx hb dX1_readDraw_23 (by decide) ?_
    refine lv_icmp_ne (tgt := 36) hx hb dX1_readDraw_24 (by decide) (fun hc => ?_) (fun hc => ?_)
    · have hf := zif_n hf hc
      refine lv_aload_n hx hb dX1_readDraw_36 rfl (lv_at hl 2 rfl) ?_
      refine z_get hx hb hts (fun w h => List.mem_cons_of_mem _ (ziX1 w h)) hown hK hP (zV_0 (by decide)) rfl rfl 0 (by decide) (List.mem_cons_of_mem _ m_162) rfl rfl dX1_readDraw_37 ?_
      refine lv_iload_n hx hb dX1_readDraw_40 rfl (lv_at hl 1 rfl) ?_
      refine lv_iload_n hx hb dX1_readDraw_41 rfl (lv_at hl 0 rfl) ?_
      obtain ⟨v8, T7, h9, hf⟩ := zb_i hf
      refine z_ok (z_runV (As := [.int v2, .int v5]) (rest := []) F k_X2_drawBirthday m_386 (c_X2_drawBirthday 2 (by decide) v2 v5 T4 T7 _ h9) hP hS (zV_r (by decide) (by decide) (by decide)) rfl rfl rfl rfl hl.1 (Nat.le_of_ble_eq_true rfl) dX1_readDraw_42 (Nat.le_of_ble_eq_true rfl) ⟨Nat.le_of_ble_eq_true rfl, Nat.le_of_ble_eq_true rfl⟩ rfl) hS (fun H locs hP hS => ?_)
      obtain ⟨q1, q2⟩ := zs_i hf
      subst q1; subst q2
      exact z_vret hx hb hr rfl hP hS hlocks (Nat.le_of_ble_eq_true rfl) (Nat.le_of_ble_eq_true rfl) dX1_readDraw_45
    · have hf := zif_p hf hc
      refine lv_aload_n hx hb dX1_readDraw_27 rfl (lv_at hl 2 rfl) ?_
      refine lv_bipush (v := 6) hx hb dX1_readDraw_28 (by decide) ?_
      obtain ⟨v11, T10, h12, hf⟩ := zb_i hf
      refine z_ok (z_runV (As := [.int 6]) (rest := []) F k_X1_fail m_297 (c_X1_fail 6 T4 T10 _ h12) hP hS (zV_0 (by decide)) rfl rfl rfl rfl hl.1 (Nat.le_of_ble_eq_true rfl) dX1_readDraw_30 (Nat.le_of_ble_eq_true rfl) ⟨Nat.le_of_ble_eq_true rfl, Nat.le_of_ble_eq_true rfl⟩ rfl) hS (fun H locs hP hS => ?_)
      refine lv_goto (tgt := 45) hx hb dX1_readDraw_33 (by decide) ?_
      obtain ⟨q1, q2⟩ := zs_i hf
      subst q1; subst q2
      exact z_vret hx hb hr rfl hP hS hlocks (Nat.le_of_ble_eq_true rfl) (Nat.le_of_ble_eq_true rfl) dX1_readDraw_45
  · have hf := zif_n hf hc
    obtain ⟨q1, q2⟩ := zs_i hf
    subst q1; subst q2
    exact z_vret hx hb hr rfl hP hS hlocks (Nat.le_of_ble_eq_true rfl) (Nat.le_of_ble_eq_true rfl) dX1_readDraw_12

def f_X1_readCakes  (T : zT) : Option (Unit × zT) := zb (f_X1_readNumber 0 5 T) fun v2 T1 => zb (f_X3_cell 2 2 v2 T1) fun v5 T4 => zb (f_X1_readNumber 1 (99 - v5) T4) fun v8 T7 => (if (T7.1 0 1 2) = 0 then zb (f_X3_addToCell 2 2 v2 v8 T7) fun _v11 T10 => some ((), T10) else some ((), T7))
set_option maxHeartbeats 4000000 in
set_option maxRecDepth 100000 in
theorem c_X1_readCakes  (T T' : zT) (v : Unit) (hf : f_X1_readCakes  T = some (v, T')) : zC 0 yX1_readCakes cX1_readCakes 3 none 3  0 0  (fun G _ => [.ref (G 0 1)]) T (fun _ => .inl none) T' := by
  intro l D Y S V G A hl9 hG
  refine vx_ofW (cc := cX1_readCakes) (maxL := 3) (ret := none) (by decide) rfl ?_
  intro p e s m args below meth c s₁ B hml hex hv
  obtain ⟨rfl, hK, hP, hA⟩ := hv
  have hx := B.exec
  have hb := B.bytes
  have hr := B.returns
  have hlocks := B.notSynchronized
  have hown : s.vm.findClass RX1 = some m.cls := findClass_of_methodNamed B.named
  have hts := atoms_spec (ws := Cond.code yX1_readCakes cX1_readCakes 3 none :: zWS) B.pre
  have F : zF 0 3  0 0  p l s m _ c cX1_readCakes 3 RX1 (Cond.code yX1_readCakes cX1_readCakes 3 none) D Y S V G A := ⟨hx, hb, hml, hown, hts, hl9, hG, hK, hA⟩
  have hS : va_S A s.heap s.heap [] := va_S.rf
  have hl := lv_entry ([.ref (G 0 1)]) (n := 3) (Nat.le_of_ble_eq_true rfl)
  rw [lg_entry_eq]
  generalize (lg_sl ([.ref (G 0 1)]) ++ List.replicate (3 - (lg_sl ([.ref (G 0 1)])).length) Slot.unset).toArray = ls at hl ⊢
  have hl : lv_has ls 3 [(0, .ref (G 0 1))] := hl
  unfold f_X1_readCakes at hf
  refine lv_aload_n hx hb dX1_readCakes_0 rfl (lv_at hl 0 rfl) ?_
  refine lv_iconst (v := 0) hx hb dX1_readCakes_1 (by decide) ?_
  refine lv_iconst (v := 5) hx hb dX1_readCakes_2 (by decide) ?_
  obtain ⟨v2, T1, h3, hf⟩ := zb_i hf
  refine z_ok (z_runV (As := [.int 0, .int 5]) (rest := []) F k_X1_readNumber m_301 (c_X1_readNumber 0 5 T T1 _ h3) hP hS (zV_0 (by decide)) rfl rfl rfl rfl hl.1 (Nat.le_of_ble_eq_true rfl) dX1_readCakes_3 (Nat.le_of_ble_eq_true rfl) ⟨Nat.le_of_ble_eq_true rfl, Nat.le_of_ble_eq_true rfl⟩ rfl) hS (fun H locs hP hS => ?_)
  refine lv_istore_n (lv' := [(1, .int v2), (0, .ref (G 0 1))]) hx hb dX1_readCakes_6 rfl hl (by decide) rfl (fun ls hl => ?_)
  refine lv_aload_n hx hb dX1_readCakes_7 rfl (lv_at hl 1 rfl) ?_
  refine lv_iconst (v := 1) hx hb dX1_readCakes_8 (by decide) ?_
  refine lv_bipush (v := 99) hx hb dX1_readCakes_9 (by decide) ?_
  refine lv_aload_n hx hb dX1_readCakes_11 rfl (lv_at hl 1 rfl) ?_
  refine z_get hx hb hts (fun w h => List.mem_cons_of_mem _ (ziX1 w h)) hown hK hP (zV_0 (by decide)) rfl rfl 0 (by decide) (List.mem_cons_of_mem _ m_162) rfl rfl dX1_readCakes_12 ?_
  refine z_get hx hb hts (fun w h => List.mem_cons_of_mem _ (ziX2 w h)) hown hK hP (zV_r (by decide) (by decide) (by decide)) rfl rfl 10 (by decide) (List.mem_cons_of_mem _ m_90) rfl rfl dX1_readCakes_15 ?_
  refine lv_iload_n hx hb dX1_readCakes_18 rfl (lv_at hl 0 rfl) ?_
  obtain ⟨v5, T4, h6, hf⟩ := zb_i hf
  refine z_ok (z_runSN (As := [.ref (G 2 2), .int v2]) (rest := [.int 99, .int 1, .ref (G 0 1)]) F k_X3_cell (by decide +kernel) (c_X3_cell 2 2 (zIA_r (by decide) (by decide) (by decide)) v2 T1 T4 _ h6) hP hS rfl rfl hl.1 (Nat.le_of_ble_eq_true rfl) dX1_readCakes_19 (Nat.le_of_ble_eq_true rfl) ⟨Nat.le_of_ble_eq_true rfl, Nat.le_of_ble_eq_true rfl⟩ rfl) hS (fun H locs hP hS => ?_)
  refine lv_isub hx hb dX1_readCakes_22 ?_
  obtain ⟨v8, T7, h9, hf⟩ := zb_i hf
  refine z_ok (z_runV (As := [.int 1, .int (99 - v5)]) (rest := []) F k_X1_readNumber m_301 (c_X1_readNumber 1 (99 - v5) T4 T7 _ h9) hP hS (zV_0 (by decide)) rfl rfl rfl rfl hl.1 (Nat.le_of_ble_eq_true rfl) dX1_readCakes_23 (Nat.le_of_ble_eq_true rfl) ⟨Nat.le_of_ble_eq_true rfl, Nat.le_of_ble_eq_true rfl⟩ rfl) hS (fun H locs hP hS => ?_)
  refine lv_istore_n (lv' := [(2, .int v8), (1, .int v2), (0, .ref (G 0 1))]) hx hb dX1_readCakes_26 rfl hl (by decide) rfl (fun ls hl => ?_)
  refine lv_aload_n hx hb dX1_readCakes_27 rfl (lv_at hl 2 rfl) ?_
  refine z_get hx hb hts (fun w h => List.mem_cons_of_mem _ (ziX1 w h)) hown hK hP (zV_0 (by decide)) rfl rfl 2 (by decide) (List.mem_cons_of_mem _ m_166) rfl rfl dX1_readCakes_28 ?_
  refine lv_if_ne (tgt := 46) hx hb dX1_readCakes_31 (by decide) (fun hc => ?_) (fun hc => ?_)
  · have hf := zif_n hf hc
    obtain ⟨q1, q2⟩ := zs_i hf
    subst q1; subst q2
    exact z_vret hx hb hr rfl hP hS hlocks (Nat.le_of_ble_eq_true rfl) (Nat.le_of_ble_eq_true rfl) dX1_readCakes_46
  · have hf := zif_p hf hc
    refine lv_aload_n hx hb dX1_readCakes_34 rfl (lv_at hl 2 rfl) ?_
    refine z_get hx hb hts (fun w h => List.mem_cons_of_mem _ (ziX1 w h)) hown hK hP (zV_0 (by decide)) rfl rfl 0 (by decide) (List.mem_cons_of_mem _ m_162) rfl rfl dX1_readCakes_35 ?_
    refine z_get hx hb hts (fun w h => List.mem_cons_of_mem _ (ziX2 w h)) hown hK hP (zV_r (by decide) (by decide) (by decide)) rfl rfl 10 (by decide) (List.mem_cons_of_mem _ m_90) rfl rfl dX1_readCakes_38 ?_
    refine lv_iload_n hx hb dX1_readCakes_41 rfl (lv_at hl 1 rfl) ?_
    refine lv_iload_n hx hb dX1_readCakes_42 rfl (lv_at hl 0 rfl) ?_
    obtain ⟨v11, T10, h12, hf⟩ := zb_i hf
    refine z_ok (z_runSN (As := [.ref (G 2 2), .int v2, .int v8]) (rest := []) F k_X3_addToCell (by decide +kernel) (c_X3_addToCell 2 2 (zIA_r (by decide) (by decide) (by decide)) v2 v8 T7 T10 _ h12) hP hS rfl rfl hl.1 (Nat.le_of_ble_eq_true rfl) dX1_readCakes_43 (Nat.le_of_ble_eq_true rfl) ⟨Nat.le_of_ble_eq_true rfl, Nat.le_of_ble_eq_true rfl⟩ rfl) hS (fun H locs hP hS => ?_)
    obtain ⟨q1, q2⟩ := zs_i hf
    subst q1; subst q2
    exact z_vret hx hb hr rfl hP hS hlocks (Nat.le_of_ble_eq_true rfl) (Nat.le_of_ble_eq_true rfl) dX1_readCakes_46

def f_X1_readDays  (T : zT) : Option (Unit × zT) := zb (f_X2_daysLeft 2 T) fun v2 T1 => zb (f_X1_readNumber 1 (if v2 < 720 then v2 else 720) T1) fun v5 T4 => (if (T4.1 0 1 2) = 0 then zb (f_X2_pass 2 v5 T4) fun v8 T7 => some ((), T7) else some ((), T4))
set_option maxHeartbeats 4000000 in
set_option maxRecDepth 100000 in
theorem c_X1_readDays  (T T' : zT) (v : Unit) (hf : f_X1_readDays  T = some (v, T')) : zC 0 yX1_readDays cX1_readDays 2 none 4  0 0  (fun G _ => [.ref (G 0 1)]) T (fun _ => .inl none) T' := by
  intro l D Y S V G A hl9 hG
  refine vx_ofW (cc := cX1_readDays) (maxL := 2) (ret := none) (by decide) rfl ?_
  intro p e s m args below meth c s₁ B hml hex hv
  obtain ⟨rfl, hK, hP, hA⟩ := hv
  have hx := B.exec
  have hb := B.bytes
  have hr := B.returns
  have hlocks := B.notSynchronized
  have hown : s.vm.findClass RX1 = some m.cls := findClass_of_methodNamed B.named
  have hts := atoms_spec (ws := Cond.code yX1_readDays cX1_readDays 2 none :: zWS) B.pre
  have F : zF 0 4  0 0  p l s m _ c cX1_readDays 2 RX1 (Cond.code yX1_readDays cX1_readDays 2 none) D Y S V G A := ⟨hx, hb, hml, hown, hts, hl9, hG, hK, hA⟩
  have hS : va_S A s.heap s.heap [] := va_S.rf
  have hl := lv_entry ([.ref (G 0 1)]) (n := 2) (Nat.le_of_ble_eq_true rfl)
  rw [lg_entry_eq]
  generalize (lg_sl ([.ref (G 0 1)]) ++ List.replicate (2 - (lg_sl ([.ref (G 0 1)])).length) Slot.unset).toArray = ls at hl ⊢
  have hl : lv_has ls 2 [(0, .ref (G 0 1))] := hl
  unfold f_X1_readDays at hf
  refine lv_aload_n hx hb dX1_readDays_0 rfl (lv_at hl 0 rfl) ?_
  refine lv_iconst (v := 1) hx hb dX1_readDays_1 (by decide) ?_
  refine lv_sipush (v := 720) hx hb dX1_readDays_2 (by decide) ?_
  refine lv_aload_n hx hb dX1_readDays_5 rfl (lv_at hl 0 rfl) ?_
  refine z_get hx hb hts (fun w h => List.mem_cons_of_mem _ (ziX1 w h)) hown hK hP (zV_0 (by decide)) rfl rfl 0 (by decide) (List.mem_cons_of_mem _ m_162) rfl rfl dX1_readDays_6 ?_
  obtain ⟨v2, T1, h3, hf⟩ := zb_i hf
  refine z_ok (z_runV (As := []) (rest := [.int 720, .int 1, .ref (G 0 1)]) F k_X2_daysLeft m_403 (c_X2_daysLeft 2 (by decide) T T1 _ h3) hP hS (zV_r (by decide) (by decide) (by decide)) rfl rfl rfl rfl hl.1 (Nat.le_of_ble_eq_true rfl) dX1_readDays_9 (Nat.le_of_ble_eq_true rfl) ⟨Nat.le_of_ble_eq_true rfl, Nat.le_of_ble_eq_true rfl⟩ rfl) hS (fun H locs hP hS => ?_)
  refine z_mmin F m_407 m_408 m_40 m_409 hl.1 (Nat.le_of_ble_eq_true rfl) (Nat.le_of_ble_eq_true rfl) ⟨Nat.le_of_ble_eq_true rfl, Nat.le_of_ble_eq_true rfl⟩ dX1_readDays_12 ?_
  obtain ⟨v5, T4, h6, hf⟩ := zb_i hf
  refine z_ok (z_runV (As := [.int 1, .int (if v2 < 720 then v2 else 720)]) (rest := []) F k_X1_readNumber m_301 (c_X1_readNumber 1 (if v2 < 720 then v2 else 720) T1 T4 _ h6) hP hS (zV_0 (by decide)) rfl rfl rfl rfl hl.1 (Nat.le_of_ble_eq_true rfl) dX1_readDays_15 (Nat.le_of_ble_eq_true rfl) ⟨Nat.le_of_ble_eq_true rfl, Nat.le_of_ble_eq_true rfl⟩ rfl) hS (fun H locs hP hS => ?_)
  refine lv_istore_n (lv' := [(1, .int v5), (0, .ref (G 0 1))]) hx hb dX1_readDays_18 rfl hl (by decide) rfl (fun ls hl => ?_)
  refine lv_aload_n hx hb dX1_readDays_19 rfl (lv_at hl 1 rfl) ?_
  refine z_get hx hb hts (fun w h => List.mem_cons_of_mem _ (ziX1 w h)) hown hK hP (zV_0 (by decide)) rfl rfl 2 (by decide) (List.mem_cons_of_mem _ m_166) rfl rfl dX1_readDays_20 ?_
  refine lv_if_ne (tgt := 35) hx hb dX1_readDays_23 (by decide) (fun hc => ?_) (fun hc => ?_)
  · have hf := zif_n hf hc
    obtain ⟨q1, q2⟩ := zs_i hf
    subst q1; subst q2
    exact z_vret hx hb hr rfl hP hS hlocks (Nat.le_of_ble_eq_true rfl) (Nat.le_of_ble_eq_true rfl) dX1_readDays_35
  · have hf := zif_p hf hc
    refine lv_aload_n hx hb dX1_readDays_26 rfl (lv_at hl 1 rfl) ?_
    refine z_get hx hb hts (fun w h => List.mem_cons_of_mem _ (ziX1 w h)) hown hK hP (zV_0 (by decide)) rfl rfl 0 (by decide) (List.mem_cons_of_mem _ m_162) rfl rfl dX1_readDays_27 ?_
    refine lv_iload_n hx hb dX1_readDays_30 rfl (lv_at hl 0 rfl) ?_
    obtain ⟨v8, T7, h9, hf⟩ := zb_i hf
    refine z_ok (z_runV (As := [.int v5]) (rest := []) F k_X2_pass m_410 (c_X2_pass 2 (by decide) v5 T4 T7 _ h9) hP hS (zV_r (by decide) (by decide) (by decide)) rfl rfl rfl rfl hl.1 (Nat.le_of_ble_eq_true rfl) dX1_readDays_31 (Nat.le_of_ble_eq_true rfl) ⟨Nat.le_of_ble_eq_true rfl, Nat.le_of_ble_eq_true rfl⟩ rfl) hS (fun H locs hP hS => ?_)
    refine lv_pop hx hb dX1_readDays_34 rfl ?_
    obtain ⟨q1, q2⟩ := zs_i hf
    subst q1; subst q2
    exact z_vret hx hb hr rfl hP hS hlocks (Nat.le_of_ble_eq_true rfl) (Nat.le_of_ble_eq_true rfl) dX1_readDays_35

def lp_X1_parse_36  : Nat → Int32 → zT → Option ((Int32) × zT)
  | 0, _, _ => none
  | n + 1, u2, T => (if (T.1 0 1 5) ≤ u2 then some (u2, T) else (if (T.1 0 1 2) = 0 then zb (f_X1_nextIsLine T) fun v11 T10 => (if v11 = 0 then some (u2, T10) else zb (f_X1_readToken T10) fun _v14 T13 => zb (f_X1_tokenIs 2 T13) fun v17 T16 => (if v17 = 0 then zb (f_X1_tokenIs 3 T16) fun v20 T19 => (if v20 = 0 then zb (f_X1_tokenIs 4 T19) fun v23 T22 => (if v23 = 0 then zb (f_X1_tokenIs 5 T22) fun v26 T25 => (if v26 = 0 then zb (f_X1_tokenIs 6 T25) fun v29 T28 => (if v29 = 0 then zb (f_X1_tokenIs 7 T28) fun v32 T31 => (if v32 = 0 then zb (f_X1_fail 1 T31) fun _v35 T34 => zl (u2 + 1) fun x37 => lp_X1_parse_36 n x37 T34 else zb (f_X1_readDays T31) fun _v39 T38 => zl (u2 + 1) fun x41 => lp_X1_parse_36 n x41 T38) else zb (f_X1_readCakes T28) fun _v43 T42 => zl (u2 + 1) fun x45 => lp_X1_parse_36 n x45 T42) else zb (f_X1_readDraw T25) fun _v47 T46 => zl (u2 + 1) fun x49 => lp_X1_parse_36 n x49 T46) else zb (f_X1_readBirthday T22) fun _v51 T50 => zl (u2 + 1) fun x53 => lp_X1_parse_36 n x53 T50) else zb (f_X1_readChild T19) fun _v55 T54 => zl (u2 + 1) fun x57 => lp_X1_parse_36 n x57 T54) else zb (f_X1_readGarden T16) fun _v59 T58 => zl (u2 + 1) fun x61 => lp_X1_parse_36 n x61 T58)) else some (u2, T)))
def f_X1_parse (p0 : Int32) (T : zT) : Option (Unit × zT) := zl (wI T 0 1 5 p0) fun T1 => zl (wI T1 0 1 2 0) fun T2 => zl (wI T2 0 1 3 (-1)) fun T3 => zl (wI T3 0 1 6 0) fun T4 => zl (wI T4 0 1 7 0) fun T5 => zl (wI T5 0 1 8 0) fun T6 => zb (f_X1_readHead T6) fun _v8 T7 => zb (lp_X1_parse_36 2000 0 T7) fun v63 T62 => some ((), T62)
set_option maxHeartbeats 4000000 in
set_option maxRecDepth 100000 in
theorem l_X1_parse_36 {p : Program} {l : Launch} {e : Env} {s : State} {m : MethodId} {args : Array Value} {below : List Frame} {meth : Method} {c : Code} {Q : State → Prop} {D : va_G} {Y : Nat → ClassId} {S V : Nat → Nat} {G : Nat → Nat → Nat} {A : Nat → Prop} {c0 : Cond} {mc ms cells slots : Nat} (F : zF 0 7 mc ms p l s m args c cX1_parse 3 RX1 c0 D Y S V G A) (hcs : cells ≤ mc ∧ slots ≤ ms) :
    ∀ (n : Nat) (u2 : Int32) (T : zT) (o : (Int32) × zT) (H : Heap) (locs : List Loc) (ls : Array Slot), lp_X1_parse_36 n u2 T = some o → zP 0 D Y G T H → va_S A s.heap H locs → lv_has ls 3 [(0, .ref (G 0 1)), (2, .int u2)] → (∀ (H : Heap) (locs : List Loc) (ls : Array Slot), zP 0 D Y G o.2 H → va_S A s.heap H locs → lv_has ls 3 [(0, .ref (G 0 1)), (2, .int o.1)] → W p l e (zR 7 mc ms) s m args below meth c H locs cells slots Q (F0 m 169 ls [])) → W p l e (zR 7 mc ms) s m args below meth c H locs cells slots Q (F0 m 36 ls []) := by
  obtain ⟨hx, hb, hml, hown, hts, hl9, hG, hK, hA⟩ := id F
  intro n
  induction n with
  | zero =>
    intro u2 T o H locs ls hf
    rw [lp_X1_parse_36] at hf
    cases hf
  | succ n ih =>
    intro u2 T o H locs ls hf hP hS hl k0_
    rw [lp_X1_parse_36] at hf
    refine lv_iload_n hx hb dX1_parse_36 rfl (lv_at hl 1 rfl) ?_
    refine lv_aload_n hx hb dX1_parse_37 rfl (lv_at hl 0 rfl) ?_
    refine z_get hx hb hts (fun w h => List.mem_cons_of_mem _ (ziX1 w h)) hown hK hP (zV_0 (by decide)) rfl rfl 5 (by decide) (List.mem_cons_of_mem _ m_171) rfl rfl dX1_parse_38 ?_
    refine lv_icmp_ge (tgt := 169) hx hb dX1_parse_41 (by decide) (fun hc => ?_) (fun hc => ?_)
    · have hf := zif_p hf hc
      cases hf
      exact k0_ _ _ _ hP hS (lv_sub hl [0, 1] rfl)
    · have hf := zif_n hf hc
      refine lv_aload_n hx hb dX1_parse_44 rfl (lv_at hl 0 rfl) ?_
      refine z_get hx hb hts (fun w h => List.mem_cons_of_mem _ (ziX1 w h)) hown hK hP (zV_0 (by decide)) rfl rfl 2 (by decide) (List.mem_cons_of_mem _ m_166) rfl rfl dX1_parse_45 ?_
      refine lv_if_ne (tgt := 169) hx hb dX1_parse_48 (by decide) (fun hc => ?_) (fun hc => ?_)
      · have hf := zif_n hf hc
        cases hf
        exact k0_ _ _ _ hP hS (lv_sub hl [0, 1] rfl)
      · have hf := zif_p hf hc
        refine lv_aload_n hx hb dX1_parse_51 rfl (lv_at hl 0 rfl) ?_
        obtain ⟨v11, T10, h12, hf⟩ := zb_i hf
        refine z_ok (z_runV (As := []) (rest := []) F k_X1_nextIsLine m_312 (c_X1_nextIsLine T T10 _ h12) hP hS (zV_0 (by decide)) rfl rfl rfl rfl hl.1 (Nat.le_of_ble_eq_true rfl) dX1_parse_52 (Nat.le_of_ble_eq_true rfl) ⟨hcs.1, hcs.2⟩ rfl) hS (fun H locs hP hS => ?_)
        refine lv_if_eq (tgt := 169) hx hb dX1_parse_55 (by decide) (fun hc => ?_) (fun hc => ?_)
        · have hf := zif_p hf hc
          cases hf
          exact k0_ _ _ _ hP hS (lv_sub hl [0, 1] rfl)
        · have hf := zif_n hf hc
          refine lv_aload_n hx hb dX1_parse_58 rfl (lv_at hl 0 rfl) ?_
          obtain ⟨v14, T13, h15, hf⟩ := zb_i hf
          refine z_ok (z_runV (As := []) (rest := []) F k_X1_readToken m_275 (c_X1_readToken T10 T13 _ h15) hP hS (zV_0 (by decide)) rfl rfl rfl rfl hl.1 (Nat.le_of_ble_eq_true rfl) dX1_parse_59 (Nat.le_of_ble_eq_true rfl) ⟨hcs.1, hcs.2⟩ rfl) hS (fun H locs hP hS => ?_)
          refine lv_aload_n hx hb dX1_parse_62 rfl (lv_at hl 0 rfl) ?_
          refine va_ldcS hx hb hown (hK.2.2.1 2 _ rfl) dX1_parse_63 ?_
          obtain ⟨v17, T16, h18, hf⟩ := zb_i hf
          refine z_ok (z_runV (As := [.ref (S 2)]) (rest := []) F k_X1_tokenIs m_287 (c_X1_tokenIs 2 (by decide) T13 T16 _ h18) hP hS (zV_0 (by decide)) rfl rfl rfl rfl hl.1 (Nat.le_of_ble_eq_true rfl) dX1_parse_65 (Nat.le_of_ble_eq_true rfl) ⟨hcs.1, hcs.2⟩ rfl) hS (fun H locs hP hS => ?_)
          refine lv_if_eq (tgt := 78) hx hb dX1_parse_68 (by decide) (fun hc => ?_) (fun hc => ?_)
          · have hf := zif_p hf hc
            refine lv_aload_n hx hb dX1_parse_78 rfl (lv_at hl 0 rfl) ?_
            refine va_ldcS hx hb hown (hK.2.2.1 3 _ rfl) dX1_parse_79 ?_
            obtain ⟨v20, T19, h21, hf⟩ := zb_i hf
            refine z_ok (z_runV (As := [.ref (S 3)]) (rest := []) F k_X1_tokenIs m_287 (c_X1_tokenIs 3 (by decide) T16 T19 _ h21) hP hS (zV_0 (by decide)) rfl rfl rfl rfl hl.1 (Nat.le_of_ble_eq_true rfl) dX1_parse_81 (Nat.le_of_ble_eq_true rfl) ⟨hcs.1, hcs.2⟩ rfl) hS (fun H locs hP hS => ?_)
            refine lv_if_eq (tgt := 94) hx hb dX1_parse_84 (by decide) (fun hc => ?_) (fun hc => ?_)
            · have hf := zif_p hf hc
              refine lv_aload_n hx hb dX1_parse_94 rfl (lv_at hl 0 rfl) ?_
              refine va_ldcS hx hb hown (hK.2.2.1 4 _ rfl) dX1_parse_95 ?_
              obtain ⟨v23, T22, h24, hf⟩ := zb_i hf
              refine z_ok (z_runV (As := [.ref (S 4)]) (rest := []) F k_X1_tokenIs m_287 (c_X1_tokenIs 4 (by decide) T19 T22 _ h24) hP hS (zV_0 (by decide)) rfl rfl rfl rfl hl.1 (Nat.le_of_ble_eq_true rfl) dX1_parse_97 (Nat.le_of_ble_eq_true rfl) ⟨hcs.1, hcs.2⟩ rfl) hS (fun H locs hP hS => ?_)
              refine lv_if_eq (tgt := 110) hx hb dX1_parse_100 (by decide) (fun hc => ?_) (fun hc => ?_)
              · have hf := zif_p hf hc
                refine lv_aload_n hx hb dX1_parse_110 rfl (lv_at hl 0 rfl) ?_
                refine va_ldcS hx hb hown (hK.2.2.1 5 _ rfl) dX1_parse_111 ?_
                obtain ⟨v26, T25, h27, hf⟩ := zb_i hf
                refine z_ok (z_runV (As := [.ref (S 5)]) (rest := []) F k_X1_tokenIs m_287 (c_X1_tokenIs 5 (by decide) T22 T25 _ h27) hP hS (zV_0 (by decide)) rfl rfl rfl rfl hl.1 (Nat.le_of_ble_eq_true rfl) dX1_parse_113 (Nat.le_of_ble_eq_true rfl) ⟨hcs.1, hcs.2⟩ rfl) hS (fun H locs hP hS => ?_)
                refine lv_if_eq (tgt := 126) hx hb dX1_parse_116 (by decide) (fun hc => ?_) (fun hc => ?_)
                · have hf := zif_p hf hc
                  refine lv_aload_n hx hb dX1_parse_126 rfl (lv_at hl 0 rfl) ?_
                  refine va_ldcS hx hb hown (hK.2.2.1 6 _ rfl) dX1_parse_127 ?_
                  obtain ⟨v29, T28, h30, hf⟩ := zb_i hf
                  refine z_ok (z_runV (As := [.ref (S 6)]) (rest := []) F k_X1_tokenIs m_287 (c_X1_tokenIs 6 (by decide) T25 T28 _ h30) hP hS (zV_0 (by decide)) rfl rfl rfl rfl hl.1 (Nat.le_of_ble_eq_true rfl) dX1_parse_129 (Nat.le_of_ble_eq_true rfl) ⟨hcs.1, hcs.2⟩ rfl) hS (fun H locs hP hS => ?_)
                  refine lv_if_eq (tgt := 142) hx hb dX1_parse_132 (by decide) (fun hc => ?_) (fun hc => ?_)
                  · have hf := zif_p hf hc
                    refine lv_aload_n hx hb dX1_parse_142 rfl (lv_at hl 0 rfl) ?_
                    refine va_ldcS hx hb hown (hK.2.2.1 7 _ rfl) dX1_parse_143 ?_
                    obtain ⟨v32, T31, h33, hf⟩ := zb_i hf
                    refine z_ok (z_runV (As := [.ref (S 7)]) (rest := []) F k_X1_tokenIs m_287 (c_X1_tokenIs 7 (by decide) T28 T31 _ h33) hP hS (zV_0 (by decide)) rfl rfl rfl rfl hl.1 (Nat.le_of_ble_eq_true rfl) dX1_parse_145 (Nat.le_of_ble_eq_true rfl) ⟨hcs.1, hcs.2⟩ rfl) hS (fun H locs hP hS => ?_)
                    refine lv_if_eq (tgt := 158) hx hb dX1_parse_148 (by decide) (fun hc => ?_) (fun hc => ?_)
                    · have hf := zif_p hf hc
                      refine lv_aload_n hx hb dX1_parse_158 rfl (lv_at hl 0 rfl) ?_
                      refine lv_iconst (v := 1) hx hb dX1_parse_159 (by decide) ?_
                      obtain ⟨v35, T34, h36, hf⟩ := zb_i hf
                      refine z_ok (z_runV (As := [.int 1]) (rest := []) F k_X1_fail m_297 (c_X1_fail 1 T31 T34 _ h36) hP hS (zV_0 (by decide)) rfl rfl rfl rfl hl.1 (Nat.le_of_ble_eq_true rfl) dX1_parse_160 (Nat.le_of_ble_eq_true rfl) ⟨hcs.1, hcs.2⟩ rfl) hS (fun H locs hP hS => ?_)
                      obtain ⟨x37, ex37, hf⟩ := zl_i hf
                      refine lv_iinc (v := x37) (lv' := [(2, .int x37), (0, .ref (G 0 1))]) hx hb dX1_parse_163 hl (k := 1) rfl (by rw [ex37]; rfl) (by decide) rfl (fun ls hl => ?_)
                      refine lv_goto (tgt := 36) hx hb dX1_parse_166 (by decide) ?_
                      exact ih x37 _ _ _ _ _ hf hP hS (lv_sub hl [1, 0] rfl) k0_
                    · have hf := zif_n hf hc
                      refine lv_aload_n hx hb dX1_parse_151 rfl (lv_at hl 0 rfl) ?_
                      obtain ⟨v39, T38, h40, hf⟩ := zb_i hf
                      refine z_ok (z_runV (As := []) (rest := []) F k_X1_readDays m_399 (c_X1_readDays T31 T38 _ h40) hP hS (zV_0 (by decide)) rfl rfl rfl rfl hl.1 (Nat.le_of_ble_eq_true rfl) dX1_parse_152 (Nat.le_of_ble_eq_true rfl) ⟨hcs.1, hcs.2⟩ rfl) hS (fun H locs hP hS => ?_)
                      refine lv_goto (tgt := 163) hx hb dX1_parse_155 (by decide) ?_
                      obtain ⟨x41, ex41, hf⟩ := zl_i hf
                      refine lv_iinc (v := x41) (lv' := [(2, .int x41), (0, .ref (G 0 1))]) hx hb dX1_parse_163 hl (k := 1) rfl (by rw [ex41]; rfl) (by decide) rfl (fun ls hl => ?_)
                      refine lv_goto (tgt := 36) hx hb dX1_parse_166 (by decide) ?_
                      exact ih x41 _ _ _ _ _ hf hP hS (lv_sub hl [1, 0] rfl) k0_
                  · have hf := zif_n hf hc
                    refine lv_aload_n hx hb dX1_parse_135 rfl (lv_at hl 0 rfl) ?_
                    obtain ⟨v43, T42, h44, hf⟩ := zb_i hf
                    refine z_ok (z_runV (As := []) (rest := []) F k_X1_readCakes m_391 (c_X1_readCakes T28 T42 _ h44) hP hS (zV_0 (by decide)) rfl rfl rfl rfl hl.1 (Nat.le_of_ble_eq_true rfl) dX1_parse_136 (Nat.le_of_ble_eq_true rfl) ⟨hcs.1, hcs.2⟩ rfl) hS (fun H locs hP hS => ?_)
                    refine lv_goto (tgt := 163) hx hb dX1_parse_139 (by decide) ?_
                    obtain ⟨x45, ex45, hf⟩ := zl_i hf
                    refine lv_iinc (v := x45) (lv' := [(2, .int x45), (0, .ref (G 0 1))]) hx hb dX1_parse_163 hl (k := 1) rfl (by rw [ex45]; rfl) (by decide) rfl (fun ls hl => ?_)
                    refine lv_goto (tgt := 36) hx hb dX1_parse_166 (by decide) ?_
                    exact ih x45 _ _ _ _ _ hf hP hS (lv_sub hl [1, 0] rfl) k0_
                · have hf := zif_n hf hc
                  refine lv_aload_n hx hb dX1_parse_119 rfl (lv_at hl 0 rfl) ?_
                  obtain ⟨v47, T46, h48, hf⟩ := zb_i hf
                  refine z_ok (z_runV (As := []) (rest := []) F k_X1_readDraw m_374 (c_X1_readDraw T25 T46 _ h48) hP hS (zV_0 (by decide)) rfl rfl rfl rfl hl.1 (Nat.le_of_ble_eq_true rfl) dX1_parse_120 (Nat.le_of_ble_eq_true rfl) ⟨hcs.1, hcs.2⟩ rfl) hS (fun H locs hP hS => ?_)
                  refine lv_goto (tgt := 163) hx hb dX1_parse_123 (by decide) ?_
                  obtain ⟨x49, ex49, hf⟩ := zl_i hf
                  refine lv_iinc (v := x49) (lv' := [(2, .int x49), (0, .ref (G 0 1))]) hx hb dX1_parse_163 hl (k := 1) rfl (by rw [ex49]; rfl) (by decide) rfl (fun ls hl => ?_)
                  refine lv_goto (tgt := 36) hx hb dX1_parse_166 (by decide) ?_
                  exact ih x49 _ _ _ _ _ hf hP hS (lv_sub hl [1, 0] rfl) k0_
              · have hf := zif_n hf hc
                refine lv_aload_n hx hb dX1_parse_103 rfl (lv_at hl 0 rfl) ?_
                obtain ⟨v51, T50, h52, hf⟩ := zb_i hf
                refine z_ok (z_runV (As := []) (rest := []) F k_X1_readBirthday m_349 (c_X1_readBirthday T22 T50 _ h52) hP hS (zV_0 (by decide)) rfl rfl rfl rfl hl.1 (Nat.le_of_ble_eq_true rfl) dX1_parse_104 (Nat.le_of_ble_eq_true rfl) ⟨hcs.1, hcs.2⟩ rfl) hS (fun H locs hP hS => ?_)
                refine lv_goto (tgt := 163) hx hb dX1_parse_107 (by decide) ?_
                obtain ⟨x53, ex53, hf⟩ := zl_i hf
                refine lv_iinc (v := x53) (lv' := [(2, .int x53), (0, .ref (G 0 1))]) hx hb dX1_parse_163 hl (k := 1) rfl (by rw [ex53]; rfl) (by decide) rfl (fun ls hl => ?_)
                refine lv_goto (tgt := 36) hx hb dX1_parse_166 (by decide) ?_
                exact ih x53 _ _ _ _ _ hf hP hS (lv_sub hl [1, 0] rfl) k0_
            · have hf := zif_n hf hc
              refine lv_aload_n hx hb dX1_parse_87 rfl (lv_at hl 0 rfl) ?_
              obtain ⟨v55, T54, h56, hf⟩ := zb_i hf
              refine z_ok (z_runV (As := []) (rest := []) F k_X1_readChild m_329 (c_X1_readChild T19 T54 _ h56) hP hS (zV_0 (by decide)) rfl rfl rfl rfl hl.1 (Nat.le_of_ble_eq_true rfl) dX1_parse_88 (Nat.le_of_ble_eq_true rfl) ⟨hcs.1, hcs.2⟩ rfl) hS (fun H locs hP hS => ?_)
              refine lv_goto (tgt := 163) hx hb dX1_parse_91 (by decide) ?_
              obtain ⟨x57, ex57, hf⟩ := zl_i hf
              refine lv_iinc (v := x57) (lv' := [(2, .int x57), (0, .ref (G 0 1))]) hx hb dX1_parse_163 hl (k := 1) rfl (by rw [ex57]; rfl) (by decide) rfl (fun ls hl => ?_)
              refine lv_goto (tgt := 36) hx hb dX1_parse_166 (by decide) ?_
              exact ih x57 _ _ _ _ _ hf hP hS (lv_sub hl [1, 0] rfl) k0_
          · have hf := zif_n hf hc
            refine lv_aload_n hx hb dX1_parse_71 rfl (lv_at hl 0 rfl) ?_
            obtain ⟨v59, T58, h60, hf⟩ := zb_i hf
            refine z_ok (z_runV (As := []) (rest := []) F k_X1_readGarden m_317 (c_X1_readGarden T16 T58 _ h60) hP hS (zV_0 (by decide)) rfl rfl rfl rfl hl.1 (Nat.le_of_ble_eq_true rfl) dX1_parse_72 (Nat.le_of_ble_eq_true rfl) ⟨hcs.1, hcs.2⟩ rfl) hS (fun H locs hP hS => ?_)
            refine lv_goto (tgt := 163) hx hb dX1_parse_75 (by decide) ?_
            obtain ⟨x61, ex61, hf⟩ := zl_i hf
            refine lv_iinc (v := x61) (lv' := [(2, .int x61), (0, .ref (G 0 1))]) hx hb dX1_parse_163 hl (k := 1) rfl (by rw [ex61]; rfl) (by decide) rfl (fun ls hl => ?_)
            refine lv_goto (tgt := 36) hx hb dX1_parse_166 (by decide) ?_
            exact ih x61 _ _ _ _ _ hf hP hS (lv_sub hl [1, 0] rfl) k0_
set_option maxHeartbeats 4000000 in
set_option maxRecDepth 100000 in
theorem c_X1_parse (p0 : Int32) (T T' : zT) (v : Unit) (hf : f_X1_parse p0 T = some (v, T')) : zC 0 yX1_parse cX1_parse 3 none 7  0 0  (fun G _ => [.ref (G 0 1), .int p0]) T (fun _ => .inl none) T' := by
  intro l D Y S V G A hl9 hG
  refine vx_ofW (cc := cX1_parse) (maxL := 3) (ret := none) (by decide) rfl ?_
  intro p e s m args below meth c s₁ B hml hex hv
  obtain ⟨rfl, hK, hP, hA⟩ := hv
  have hx := B.exec
  have hb := B.bytes
  have hr := B.returns
  have hlocks := B.notSynchronized
  have hown : s.vm.findClass RX1 = some m.cls := findClass_of_methodNamed B.named
  have hts := atoms_spec (ws := Cond.code yX1_parse cX1_parse 3 none :: zWS) B.pre
  have F : zF 0 7  0 0  p l s m _ c cX1_parse 3 RX1 (Cond.code yX1_parse cX1_parse 3 none) D Y S V G A := ⟨hx, hb, hml, hown, hts, hl9, hG, hK, hA⟩
  have hS : va_S A s.heap s.heap [] := va_S.rf
  have hl := lv_entry ([.ref (G 0 1), .int p0]) (n := 3) (Nat.le_of_ble_eq_true rfl)
  rw [lg_entry_eq]
  generalize (lg_sl ([.ref (G 0 1), .int p0]) ++ List.replicate (3 - (lg_sl ([.ref (G 0 1), .int p0])).length) Slot.unset).toArray = ls at hl ⊢
  have hl : lv_has ls 3 [(0, .ref (G 0 1)), (1, .int p0)] := hl
  unfold f_X1_parse at hf
  refine lv_aload_n hx hb dX1_parse_0 rfl (lv_at hl 0 rfl) ?_
  refine lv_iload_n hx hb dX1_parse_1 rfl (lv_at hl 1 rfl) ?_
  obtain ⟨T1, eT1, hf⟩ := zl_i hf
  refine z_put hx hb hts (fun w h => List.mem_cons_of_mem _ (ziX1 w h)) tyX1 tyX1_ok nmX1 hown hK hP hG hS (zV_0 (by decide)) rfl rfl 5 (by decide) (List.mem_cons_of_mem _ m_171) rfl rfl (by decide +kernel) (Nat.le_of_ble_eq_true rfl) rfl dX1_parse_2 (fun H locs hP hS => ?_)
  rw [← eT1] at hP
  refine lv_aload_n hx hb dX1_parse_5 rfl (lv_at hl 0 rfl) ?_
  refine lv_iconst (v := 0) hx hb dX1_parse_6 (by decide) ?_
  obtain ⟨T2, eT2, hf⟩ := zl_i hf
  refine z_put hx hb hts (fun w h => List.mem_cons_of_mem _ (ziX1 w h)) tyX1 tyX1_ok nmX1 hown hK hP hG hS (zV_0 (by decide)) rfl rfl 2 (by decide) (List.mem_cons_of_mem _ m_166) rfl rfl (by decide +kernel) (Nat.le_of_ble_eq_true rfl) rfl dX1_parse_7 (fun H locs hP hS => ?_)
  rw [← eT2] at hP
  refine lv_aload_n hx hb dX1_parse_10 rfl (lv_at hl 0 rfl) ?_
  refine lv_iconst (v := (-1)) hx hb dX1_parse_11 (by decide) ?_
  obtain ⟨T3, eT3, hf⟩ := zl_i hf
  refine z_put hx hb hts (fun w h => List.mem_cons_of_mem _ (ziX1 w h)) tyX1 tyX1_ok nmX1 hown hK hP hG hS (zV_0 (by decide)) rfl rfl 3 (by decide) (List.mem_cons_of_mem _ m_168) rfl rfl (by decide +kernel) (Nat.le_of_ble_eq_true rfl) rfl dX1_parse_12 (fun H locs hP hS => ?_)
  rw [← eT3] at hP
  refine lv_aload_n hx hb dX1_parse_15 rfl (lv_at hl 0 rfl) ?_
  refine lv_iconst (v := 0) hx hb dX1_parse_16 (by decide) ?_
  obtain ⟨T4, eT4, hf⟩ := zl_i hf
  refine z_put hx hb hts (fun w h => List.mem_cons_of_mem _ (ziX1 w h)) tyX1 tyX1_ok nmX1 hown hK hP hG hS (zV_0 (by decide)) rfl rfl 6 (by decide) (List.mem_cons_of_mem _ m_172) rfl rfl (by decide +kernel) (Nat.le_of_ble_eq_true rfl) rfl dX1_parse_17 (fun H locs hP hS => ?_)
  rw [← eT4] at hP
  refine lv_aload_n hx hb dX1_parse_20 rfl (lv_at hl 0 rfl) ?_
  refine lv_iconst (v := 0) hx hb dX1_parse_21 (by decide) ?_
  obtain ⟨T5, eT5, hf⟩ := zl_i hf
  refine z_put hx hb hts (fun w h => List.mem_cons_of_mem _ (ziX1 w h)) tyX1 tyX1_ok nmX1 hown hK hP hG hS (zV_0 (by decide)) rfl rfl 7 (by decide) (List.mem_cons_of_mem _ m_173) rfl rfl (by decide +kernel) (Nat.le_of_ble_eq_true rfl) rfl dX1_parse_22 (fun H locs hP hS => ?_)
  rw [← eT5] at hP
  refine lv_aload_n hx hb dX1_parse_25 rfl (lv_at hl 0 rfl) ?_
  refine lv_iconst (v := 0) hx hb dX1_parse_26 (by decide) ?_
  obtain ⟨T6, eT6, hf⟩ := zl_i hf
  refine z_put hx hb hts (fun w h => List.mem_cons_of_mem _ (ziX1 w h)) tyX1 tyX1_ok nmX1 hown hK hP hG hS (zV_0 (by decide)) rfl rfl 8 (by decide) (List.mem_cons_of_mem _ m_174) rfl rfl (by decide +kernel) (Nat.le_of_ble_eq_true rfl) rfl dX1_parse_27 (fun H locs hP hS => ?_)
  rw [← eT6] at hP
  refine lv_aload_n hx hb dX1_parse_30 rfl (lv_at hl 0 rfl) ?_
  obtain ⟨v8, T7, h9, hf⟩ := zb_i hf
  refine z_ok (z_runV (As := []) (rest := []) F k_X1_readHead m_271 (c_X1_readHead T6 T7 _ h9) hP hS (zV_0 (by decide)) rfl rfl rfl rfl hl.1 (Nat.le_of_ble_eq_true rfl) dX1_parse_31 (Nat.le_of_ble_eq_true rfl) ⟨Nat.le_of_ble_eq_true rfl, Nat.le_of_ble_eq_true rfl⟩ rfl) hS (fun H locs hP hS => ?_)
  refine lv_iconst (v := 0) hx hb dX1_parse_34 (by decide) ?_
  refine lv_istore_n (lv' := [(2, .int 0), (0, .ref (G 0 1)), (1, .int p0)]) hx hb dX1_parse_35 rfl hl (by decide) rfl (fun ls hl => ?_)
  obtain ⟨v63, T62, h64, hf⟩ := zb_i hf
  refine l_X1_parse_36 F ⟨Nat.le_of_ble_eq_true rfl, Nat.le_of_ble_eq_true rfl⟩  2000 0 _ _ _ _ _ h64 hP hS (lv_sub hl [1, 0] rfl) (fun H locs ls hP hS hl => ?_)
  obtain ⟨q1, q2⟩ := zs_i hf
  subst q1; subst q2
  exact z_vret hx hb hr rfl hP hS hlocks (Nat.le_of_ble_eq_true rfl) (Nat.le_of_ble_eq_true rfl) dX1_parse_169
