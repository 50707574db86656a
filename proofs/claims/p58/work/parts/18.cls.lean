/-! METHODS of the registry of birthdays itself, by program -/
def lp_X3_appendFour_3 (w1 : Int32) : Nat → Int32 → zT → Option ((Int32) × zT)
  | 0, _, _ => none
  | n + 1, u2, T => (if u2 < 0 then some (u2, T) else zb (f_X1_addByte (w1 >>> (u2 &&& 31)) T) fun _v2 T1 => zl (u2 + (-8)) fun x4 => lp_X3_appendFour_3 w1 n x4 T1)
def f_X3_appendFour (p0 : Int32) (T : zT) : Option (Unit × zT) := zb (lp_X3_appendFour_3 p0 2000 24 T) fun v6 T5 => some ((), T5)
set_option maxHeartbeats 4000000 in
set_option maxRecDepth 100000 in
theorem l_X3_appendFour_3 {p : Program} {l : Launch} {e : Env} {s : State} {m : MethodId} {args : Array Value} {below : List Frame} {meth : Method} {c : Code} {Q : State → Prop} {D : va_G} {Y : Nat → ClassId} {S V : Nat → Nat} {G : Nat → Nat → Nat} {A : Nat → Prop} {c0 : Cond} {mc ms cells slots : Nat} (F : zF 0 1 mc ms p l s m args c cX3_appendFour 3 RX3 c0 D Y S V G A) (hcs : cells ≤ mc ∧ slots ≤ ms) (w1 : Int32) :
    ∀ (n : Nat) (u2 : Int32) (T : zT) (o : (Int32) × zT) (H : Heap) (locs : List Loc) (ls : Array Slot), lp_X3_appendFour_3 w1 n u2 T = some o → zP 0 D Y G T H → va_S A s.heap H locs → lv_has ls 3 [(0, .ref (G 0 0)), (1, .int w1), (2, .int u2)] → (∀ (H : Heap) (locs : List Loc) (ls : Array Slot), zP 0 D Y G o.2 H → va_S A s.heap H locs → lv_has ls 3 [(0, .ref (G 0 0)), (1, .int w1), (2, .int o.1)] → W p l e (zR 1 mc ms) s m args below meth c H locs cells slots Q (F0 m 23 ls [])) → W p l e (zR 1 mc ms) s m args below meth c H locs cells slots Q (F0 m 3 ls []) := by
  obtain ⟨hx, hb, hml, hown, hts, hl9, hG, hK, hA⟩ := id F
  intro n
  induction n with
  | zero =>
    intro u2 T o H locs ls hf
    rw [lp_X3_appendFour_3] at hf
    cases hf
  | succ n ih =>
    intro u2 T o H locs ls hf hP hS hl k0_
    rw [lp_X3_appendFour_3] at hf
    refine lv_iload_n hx hb dX3_appendFour_3 rfl (lv_at hl 2 rfl) ?_
    refine lv_if_lt (tgt := 23) hx hb dX3_appendFour_4 (by decide) (fun hc => ?_) (fun hc => ?_)
    · have hf := zif_p hf hc
      cases hf
      exact k0_ _ _ _ hP hS (lv_sub hl [0, 1, 2] rfl)
    · have hf := zif_n hf hc
      refine lv_aload_n hx hb dX3_appendFour_7 rfl (lv_at hl 0 rfl) ?_
      refine z_get hx hb hts (fun w h => List.mem_cons_of_mem _ (ziX3 w h)) hown hK hP (zV_0 (by decide)) rfl rfl 6 (by decide) (List.mem_cons_of_mem _ m_452) rfl rfl dX3_appendFour_8 ?_
      refine lv_iload_n hx hb dX3_appendFour_11 rfl (lv_at hl 1 rfl) ?_
      refine lv_iload_n hx hb dX3_appendFour_12 rfl (lv_at hl 2 rfl) ?_
      refine lv_ishr hx hb dX3_appendFour_13 ?_
      obtain ⟨v2, T1, h3, hf⟩ := zb_i hf
      refine z_ok (z_runV (As := [.int (w1 >>> (u2 &&& 31))]) (rest := []) F k_X1_addByte m_263 (c_X1_addByte (w1 >>> (u2 &&& 31)) T T1 _ h3) hP hS (zV_0 (by decide)) rfl rfl rfl rfl hl.1 (Nat.le_of_ble_eq_true rfl) dX3_appendFour_14 (Nat.le_of_ble_eq_true rfl) ⟨hcs.1, hcs.2⟩ rfl) hS (fun H locs hP hS => ?_)
      obtain ⟨x4, ex4, hf⟩ := zl_i hf
      refine lv_iinc (v := x4) (lv' := [(2, .int x4), (0, .ref (G 0 0)), (1, .int w1)]) hx hb dX3_appendFour_17 hl (k := 2) rfl (by rw [ex4]; rfl) (by decide) rfl (fun ls hl => ?_)
      refine lv_goto (tgt := 3) hx hb dX3_appendFour_20 (by decide) ?_
      exact ih x4 _ _ _ _ _ hf hP hS (lv_sub hl [1, 2, 0] rfl) k0_
set_option maxHeartbeats 4000000 in
set_option maxRecDepth 100000 in
theorem c_X3_appendFour (p0 : Int32) (T T' : zT) (v : Unit) (hf : f_X3_appendFour p0 T = some (v, T')) : zC 0 yX3_appendFour cX3_appendFour 3 none 1  0 0  (fun G _ => [.ref (G 0 0), .int p0]) T (fun _ => .inl none) T' := by
  intro l D Y S V G A hl9 hG
  refine vx_ofW (cc := cX3_appendFour) (maxL := 3) (ret := none) (by decide) rfl ?_
  intro p e s m args below meth c s₁ B hml hex hv
  obtain ⟨rfl, hK, hP, hA⟩ := hv
  have hx := B.exec
  have hb := B.bytes
  have hr := B.returns
  have hlocks := B.notSynchronized
  have hown : s.vm.findClass RX3 = some m.cls := findClass_of_methodNamed B.named
  have hts := atoms_spec (ws := Cond.code yX3_appendFour cX3_appendFour 3 none :: zWS) B.pre
  have F : zF 0 1  0 0  p l s m _ c cX3_appendFour 3 RX3 (Cond.code yX3_appendFour cX3_appendFour 3 none) D Y S V G A := ⟨hx, hb, hml, hown, hts, hl9, hG, hK, hA⟩
  have hS : va_S A s.heap s.heap [] := va_S.rf
  have hl := lv_entry ([.ref (G 0 0), .int p0]) (n := 3) (Nat.le_of_ble_eq_true rfl)
  rw [lg_entry_eq]
  generalize (lg_sl ([.ref (G 0 0), .int p0]) ++ List.replicate (3 - (lg_sl ([.ref (G 0 0), .int p0])).length) Slot.unset).toArray = ls at hl ⊢
  have hl : lv_has ls 3 [(0, .ref (G 0 0)), (1, .int p0)] := hl
  unfold f_X3_appendFour at hf
  refine lv_bipush (v := 24) hx hb dX3_appendFour_0 (by decide) ?_
  refine lv_istore_n (lv' := [(2, .int 24), (0, .ref (G 0 0)), (1, .int p0)]) hx hb dX3_appendFour_2 rfl hl (by decide) rfl (fun ls hl => ?_)
  obtain ⟨v6, T5, h7, hf⟩ := zb_i hf
  refine l_X3_appendFour_3 F ⟨Nat.le_of_ble_eq_true rfl, Nat.le_of_ble_eq_true rfl⟩ p0 2000 24 _ _ _ _ _ h7 hP hS (lv_sub hl [1, 2, 0] rfl) (fun H locs ls hP hS hl => ?_)
  obtain ⟨q1, q2⟩ := zs_i hf
  subst q1; subst q2
  exact z_vret hx hb hr rfl hP hS hlocks (Nat.le_of_ble_eq_true rfl) (Nat.le_of_ble_eq_true rfl) dX3_appendFour_23

def f_X3_append (p0 : Int32) (p1 : Int32) (p2 : Int32) (p3 : Int32) (p4 : Int32) (T : zT) : Option ((Int32 ⊕ Nat) × zT) := (if ((T.1 0 1 1) + 20) ≤ 600 then zb (f_X3_appendFour p0 T) fun _v2 T1 => zb (f_X3_appendFour p1 T1) fun _v5 T4 => zb (f_X3_appendFour p2 T4) fun _v8 T7 => zb (f_X3_appendFour p3 T7) fun _v11 T10 => zb (f_X3_appendFour p4 T10) fun _v14 T13 => some (.inl (T13.1 0 1 1), T13) else some (.inr 0, T))
set_option maxHeartbeats 4000000 in
set_option maxRecDepth 100000 in
theorem c_X3_append (p0 : Int32) (p1 : Int32) (p2 : Int32) (p3 : Int32) (p4 : Int32) (T T' : zT) (v : (Int32 ⊕ Nat)) (hf : f_X3_append p0 p1 p2 p3 p4 T = some (v, T')) : zC 0 yX3_append cX3_append 6 (some .int) 6  1 6  (fun G _ => [.ref (G 0 0), .int p0, .int p1, .int p2, .int p3, .int p4]) T (fun _ => zri v) T' := by
  intro l D Y S V G A hl9 hG
  refine vx_ofW (cc := cX3_append) (maxL := 6) (ret := (some .int)) (by decide) rfl ?_
  intro p e s m args below meth c s₁ B hml hex hv
  obtain ⟨rfl, hK, hP, hA⟩ := hv
  have hx := B.exec
  have hb := B.bytes
  have hr := B.returns
  have hlocks := B.notSynchronized
  have hown : s.vm.findClass RX3 = some m.cls := findClass_of_methodNamed B.named
  have hts := atoms_spec (ws := Cond.code yX3_append cX3_append 6 (some .int) :: zWS) B.pre
  have F : zF 0 6  1 6  p l s m _ c cX3_append 6 RX3 (Cond.code yX3_append cX3_append 6 (some .int)) D Y S V G A := ⟨hx, hb, hml, hown, hts, hl9, hG, hK, hA⟩
  have hS : va_S A s.heap s.heap [] := va_S.rf
  have hl := lv_entry ([.ref (G 0 0), .int p0, .int p1, .int p2, .int p3, .int p4]) (n := 6) (Nat.le_of_ble_eq_true rfl)
  rw [lg_entry_eq]
  generalize (lg_sl ([.ref (G 0 0), .int p0, .int p1, .int p2, .int p3, .int p4]) ++ List.replicate (6 - (lg_sl ([.ref (G 0 0), .int p0, .int p1, .int p2, .int p3, .int p4])).length) Slot.unset).toArray = ls at hl ⊢
  have hl : lv_has ls 6 [(0, .ref (G 0 0)), (1, .int p0), (2, .int p1), (3, .int p2), (4, .int p3), (5, .int p4)] := hl
  unfold f_X3_append at hf
  refine lv_aload_n hx hb dX3_append_0 rfl (lv_at hl 0 rfl) ?_
  refine z_get hx hb hts (fun w h => List.mem_cons_of_mem _ (ziX3 w h)) hown hK hP (zV_0 (by decide)) rfl rfl 6 (by decide) (List.mem_cons_of_mem _ m_452) rfl rfl dX3_append_1 ?_
  refine z_get hx hb hts (fun w h => List.mem_cons_of_mem _ (ziX1 w h)) hown hK hP (zV_0 (by decide)) rfl rfl 1 (by decide) (List.mem_cons_of_mem _ m_164) rfl rfl dX3_append_4 ?_
  refine lv_bipush (v := 20) hx hb dX3_append_7 (by decide) ?_
  refine lv_iadd hx hb dX3_append_9 ?_
  refine lv_sipush (v := 600) hx hb dX3_append_10 (by decide) ?_
  refine lv_icmp_le (tgt := 26) hx hb dX3_append_13 (by decide) (fun hc => ?_) (fun hc => ?_)
  · have hf := zif_p hf hc
    refine lv_aload_n hx hb dX3_append_26 rfl (lv_at hl 0 rfl) ?_
    refine lv_iload_n hx hb dX3_append_27 rfl (lv_at hl 1 rfl) ?_
    obtain ⟨v2, T1, h3, hf⟩ := zb_i hf
    refine z_ok (z_runV (As := [.int p0]) (rest := []) F k_X3_appendFour m_609 (c_X3_appendFour p0 T T1 _ h3) hP hS (zV_0 (by decide)) rfl rfl rfl rfl hl.1 (Nat.le_of_ble_eq_true rfl) dX3_append_28 (Nat.le_of_ble_eq_true rfl) ⟨Nat.le_of_ble_eq_true rfl, Nat.le_of_ble_eq_true rfl⟩ rfl) hS (fun H locs hP hS => ?_)
    refine lv_aload_n hx hb dX3_append_31 rfl (lv_at hl 0 rfl) ?_
    refine lv_iload_n hx hb dX3_append_32 rfl (lv_at hl 2 rfl) ?_
    obtain ⟨v5, T4, h6, hf⟩ := zb_i hf
    refine z_ok (z_runV (As := [.int p1]) (rest := []) F k_X3_appendFour m_609 (c_X3_appendFour p1 T1 T4 _ h6) hP hS (zV_0 (by decide)) rfl rfl rfl rfl hl.1 (Nat.le_of_ble_eq_true rfl) dX3_append_33 (Nat.le_of_ble_eq_true rfl) ⟨Nat.le_of_ble_eq_true rfl, Nat.le_of_ble_eq_true rfl⟩ rfl) hS (fun H locs hP hS => ?_)
    refine lv_aload_n hx hb dX3_append_36 rfl (lv_at hl 0 rfl) ?_
    refine lv_iload_n hx hb dX3_append_37 rfl (lv_at hl 3 rfl) ?_
    obtain ⟨v8, T7, h9, hf⟩ := zb_i hf
    refine z_ok (z_runV (As := [.int p2]) (rest := []) F k_X3_appendFour m_609 (c_X3_appendFour p2 T4 T7 _ h9) hP hS (zV_0 (by decide)) rfl rfl rfl rfl hl.1 (Nat.le_of_ble_eq_true rfl) dX3_append_38 (Nat.le_of_ble_eq_true rfl) ⟨Nat.le_of_ble_eq_true rfl, Nat.le_of_ble_eq_true rfl⟩ rfl) hS (fun H locs hP hS => ?_)
    refine lv_aload_n hx hb dX3_append_41 rfl (lv_at hl 0 rfl) ?_
    refine lv_iload hx hb dX3_append_42 (lv_at hl 4 rfl) ?_
    obtain ⟨v11, T10, h12, hf⟩ := zb_i hf
    refine z_ok (z_runV (As := [.int p3]) (rest := []) F k_X3_appendFour m_609 (c_X3_appendFour p3 T7 T10 _ h12) hP hS (zV_0 (by decide)) rfl rfl rfl rfl hl.1 (Nat.le_of_ble_eq_true rfl) dX3_append_44 (Nat.le_of_ble_eq_true rfl) ⟨Nat.le_of_ble_eq_true rfl, Nat.le_of_ble_eq_true rfl⟩ rfl) hS (fun H locs hP hS => ?_)
    refine lv_aload_n hx hb dX3_append_47 rfl (lv_at hl 0 rfl) ?_
    refine lv_iload hx hb dX3_append_48 (lv_at hl 5 rfl) ?_
    obtain ⟨v14, T13, h15, hf⟩ := zb_i hf
    refine z_ok (z_runV (As := [.int p4]) (rest := []) F k_X3_appendFour m_609 (c_X3_appendFour p4 T10 T13 _ h15) hP hS (zV_0 (by decide)) rfl rfl rfl rfl hl.1 (Nat.le_of_ble_eq_true rfl) dX3_append_50 (Nat.le_of_ble_eq_true rfl) ⟨Nat.le_of_ble_eq_true rfl, Nat.le_of_ble_eq_true rfl⟩ rfl) hS (fun H locs hP hS => ?_)
    refine lv_aload_n hx hb dX3_append_53 rfl (lv_at hl 0 rfl) ?_
    refine z_get hx hb hts (fun w h => List.mem_cons_of_mem _ (ziX3 w h)) hown hK hP (zV_0 (by decide)) rfl rfl 6 (by decide) (List.mem_cons_of_mem _ m_452) rfl rfl dX3_append_54 ?_
    refine z_get hx hb hts (fun w h => List.mem_cons_of_mem _ (ziX1 w h)) hown hK hP (zV_0 (by decide)) rfl rfl 1 (by decide) (List.mem_cons_of_mem _ m_164) rfl rfl dX3_append_57 ?_
    obtain ⟨q1, q2⟩ := zs_i hf
    subst q1; subst q2
    exact z_iret hx hb hr rfl hP hS hlocks (Nat.le_of_ble_eq_true rfl) (Nat.le_of_ble_eq_true rfl) dX3_append_60
  · have hf := zif_n hf hc
    cases hf
    exact z_throw_0 F 14 rfl hP hS hl.1 hlocks hex (Nat.le_of_ble_eq_true rfl) (Nat.le_of_ble_eq_true rfl) (Nat.le_of_ble_eq_true rfl) (Nat.le_of_ble_eq_true rfl) dX3_append_16 dX3_append_19 dX3_append_20 dX3_append_22 dX3_append_25 rfl

def lp_X3_load_102  : Nat → Int32 → zT → Option ((Int32) × zT)
  | 0, _, _ => none
  | n + 1, u2, T => (if 2 ≤ u2 then some (u2, T) else if zin u2 2 = true then zl (wA T 0 5 (upd (T.2 0 5) u2.toNatClampNeg (vp_nar .boolean 0))) fun T18 => zl (u2 + 1) fun x19 => lp_X3_load_102 n x19 T18 else none)
def f_X3_load (p0 : Int32) (T : zT) : Option ((Int32 ⊕ Nat) × zT) := (if p0 < 0 then some (.inr 2, T) else (if p0 ≤ (T.1 0 1 1) then zb (f_X1_parse p0 T) fun _v2 T1 => zb (f_X1_emptyBuffer T1) fun _v5 T4 => zl (T4.1 0 1 2) fun x7 => zl (wI T4 0 0 2 x7) fun T8 => zl (T8.1 0 1 3) fun x9 => zl (wI T8 0 0 3 x9) fun T10 => (if (T10.1 0 0 2) = 0 then zb (f_X2_copyFrom 0 2 T10) fun _v12 T11 => zb (f_X0_forgetAll T11) fun _v15 T14 => zb (lp_X3_load_102 2000 0 T14) fun v21 T20 => some (.inl (T20.1 1 0 9), T20) else some (.inr 1, T10)) else some (.inr 2, T)))
set_option maxHeartbeats 4000000 in
set_option maxRecDepth 100000 in
theorem l_X3_load_102 {p : Program} {l : Launch} {e : Env} {s : State} {m : MethodId} {args : Array Value} {below : List Frame} {meth : Method} {c : Code} {Q : State → Prop} {D : va_G} {Y : Nat → ClassId} {S V : Nat → Nat} {G : Nat → Nat → Nat} {A : Nat → Prop} {c0 : Cond} {mc ms cells slots : Nat} (F : zF 0 8 mc ms p l s m args c cX3_load 3 RX3 c0 D Y S V G A) (hcs : cells ≤ mc ∧ slots ≤ ms) :
    ∀ (n : Nat) (u2 : Int32) (T : zT) (o : (Int32) × zT) (H : Heap) (locs : List Loc) (ls : Array Slot), lp_X3_load_102 n u2 T = some o → zP 0 D Y G T H → va_S A s.heap H locs → lv_has ls 3 [(0, .ref (G 0 0)), (2, .int u2)] → (∀ (H : Heap) (locs : List Loc) (ls : Array Slot), zP 0 D Y G o.2 H → va_S A s.heap H locs → lv_has ls 3 [(0, .ref (G 0 0)), (2, .int o.1)] → W p l e (zR 8 mc ms) s m args below meth c H locs cells slots Q (F0 m 124 ls [])) → W p l e (zR 8 mc ms) s m args below meth c H locs cells slots Q (F0 m 102 ls []) := by
  obtain ⟨hx, hb, hml, hown, hts, hl9, hG, hK, hA⟩ := id F
  intro n
  induction n with
  | zero =>
    intro u2 T o H locs ls hf
    rw [lp_X3_load_102] at hf
    cases hf
  | succ n ih =>
    intro u2 T o H locs ls hf hP hS hl k0_
    rw [lp_X3_load_102] at hf
    refine lv_iload_n hx hb dX3_load_102 rfl (lv_at hl 1 rfl) ?_
    refine lv_aload_n hx hb dX3_load_103 rfl (lv_at hl 0 rfl) ?_
    refine z_get hx hb hts (fun w h => List.mem_cons_of_mem _ (ziX3 w h)) hown hK hP (zV_0 (by decide)) rfl rfl 9 (by decide) (List.mem_cons_of_mem _ m_455) rfl rfl dX3_load_104 ?_
    refine z_alen (v := 2) hx hb hK hP (zV_0 (by decide)) 2 rfl rfl rfl dX3_load_107 ?_
    refine lv_icmp_ge (tgt := 124) hx hb dX3_load_108 (by decide) (fun hc => ?_) (fun hc => ?_)
    · have hf := zif_p hf hc
      cases hf
      exact k0_ _ _ _ hP hS (lv_sub hl [0, 1] rfl)
    · have hf := zif_n hf hc
      refine lv_aload_n hx hb dX3_load_111 rfl (lv_at hl 0 rfl) ?_
      refine z_get hx hb hts (fun w h => List.mem_cons_of_mem _ (ziX3 w h)) hown hK hP (zV_0 (by decide)) rfl rfl 9 (by decide) (List.mem_cons_of_mem _ m_455) rfl rfl dX3_load_112 ?_
      refine lv_iload_n hx hb dX3_load_115 rfl (lv_at hl 1 rfl) ?_
      refine lv_iconst (v := 0) hx hb dX3_load_116 (by decide) ?_
      obtain ⟨h17, hf⟩ := zif_c hf
      obtain ⟨T18, eT18, hf⟩ := zl_i hf
      refine z_zast hx hb hK hP hG hS (zV_0 (by decide)) rfl (zin_i h17) rfl dX3_load_117 (fun H locs hP hS => ?_)
      rw [← eT18] at hP
      obtain ⟨x19, ex19, hf⟩ := zl_i hf
      refine lv_iinc (v := x19) (lv' := [(2, .int x19), (0, .ref (G 0 0))]) hx hb dX3_load_118 hl (k := 1) rfl (by rw [ex19]; rfl) (by decide) rfl (fun ls hl => ?_)
      refine lv_goto (tgt := 102) hx hb dX3_load_121 (by decide) ?_
      exact ih x19 _ _ _ _ _ hf hP hS (lv_sub hl [1, 0] rfl) k0_
set_option maxHeartbeats 4000000 in
set_option maxRecDepth 100000 in
theorem c_X3_load (p0 : Int32) (T T' : zT) (v : (Int32 ⊕ Nat)) (hf : f_X3_load p0 T = some (v, T')) : zC 0 yX3_load cX3_load 3 (some .int) 8  1 6  (fun G _ => [.ref (G 0 0), .int p0]) T (fun _ => zri v) T' := by
  intro l D Y S V G A hl9 hG
  refine vx_ofW (cc := cX3_load) (maxL := 3) (ret := (some .int)) (by decide) rfl ?_
  intro p e s m args below meth c s₁ B hml hex hv
  obtain ⟨rfl, hK, hP, hA⟩ := hv
  have hx := B.exec
  have hb := B.bytes
  have hr := B.returns
  have hlocks := B.notSynchronized
  have hown : s.vm.findClass RX3 = some m.cls := findClass_of_methodNamed B.named
  have hts := atoms_spec (ws := Cond.code yX3_load cX3_load 3 (some .int) :: zWS) B.pre
  have F : zF 0 8  1 6  p l s m _ c cX3_load 3 RX3 (Cond.code yX3_load cX3_load 3 (some .int)) D Y S V G A := ⟨hx, hb, hml, hown, hts, hl9, hG, hK, hA⟩
  have hS : va_S A s.heap s.heap [] := va_S.rf
  have hl := lv_entry ([.ref (G 0 0), .int p0]) (n := 3) (Nat.le_of_ble_eq_true rfl)
  rw [lg_entry_eq]
  generalize (lg_sl ([.ref (G 0 0), .int p0]) ++ List.replicate (3 - (lg_sl ([.ref (G 0 0), .int p0])).length) Slot.unset).toArray = ls at hl ⊢
  have hl : lv_has ls 3 [(0, .ref (G 0 0)), (1, .int p0)] := hl
  unfold f_X3_load at hf
  refine lv_iload_n hx hb dX3_load_0 rfl (lv_at hl 1 rfl) ?_
  refine lv_if_lt (tgt := 15) hx hb dX3_load_1 (by decide) (fun hc => ?_) (fun hc => ?_)
  · have hf := zif_p hf hc
    cases hf
    exact z_throw_2 F 15 rfl hP hS hl.1 hlocks hex (Nat.le_of_ble_eq_true rfl) (Nat.le_of_ble_eq_true rfl) (Nat.le_of_ble_eq_true rfl) (Nat.le_of_ble_eq_true rfl) dX3_load_15 dX3_load_18 dX3_load_19 dX3_load_21 dX3_load_24 rfl
  · have hf := zif_n hf hc
    refine lv_iload_n hx hb dX3_load_4 rfl (lv_at hl 1 rfl) ?_
    refine lv_aload_n hx hb dX3_load_5 rfl (lv_at hl 0 rfl) ?_
    refine z_get hx hb hts (fun w h => List.mem_cons_of_mem _ (ziX3 w h)) hown hK hP (zV_0 (by decide)) rfl rfl 6 (by decide) (List.mem_cons_of_mem _ m_452) rfl rfl dX3_load_6 ?_
    refine z_get hx hb hts (fun w h => List.mem_cons_of_mem _ (ziX1 w h)) hown hK hP (zV_0 (by decide)) rfl rfl 1 (by decide) (List.mem_cons_of_mem _ m_164) rfl rfl dX3_load_9 ?_
    refine lv_icmp_le (tgt := 25) hx hb dX3_load_12 (by decide) (fun hc => ?_) (fun hc => ?_)
    · have hf := zif_p hf hc
      refine lv_aload_n hx hb dX3_load_25 rfl (lv_at hl 0 rfl) ?_
      refine z_get hx hb hts (fun w h => List.mem_cons_of_mem _ (ziX3 w h)) hown hK hP (zV_0 (by decide)) rfl rfl 6 (by decide) (List.mem_cons_of_mem _ m_452) rfl rfl dX3_load_26 ?_
      refine lv_iload_n hx hb dX3_load_29 rfl (lv_at hl 1 rfl) ?_
      obtain ⟨v2, T1, h3, hf⟩ := zb_i hf
      refine z_ok (z_runV (As := [.int p0]) (rest := []) F k_X1_parse m_267 (c_X1_parse p0 T T1 _ h3) hP hS (zV_0 (by decide)) rfl rfl rfl rfl hl.1 (Nat.le_of_ble_eq_true rfl) dX3_load_30 (Nat.le_of_ble_eq_true rfl) ⟨Nat.le_of_ble_eq_true rfl, Nat.le_of_ble_eq_true rfl⟩ rfl) hS (fun H locs hP hS => ?_)
      refine lv_aload_n hx hb dX3_load_33 rfl (lv_at hl 0 rfl) ?_
      refine z_get hx hb hts (fun w h => List.mem_cons_of_mem _ (ziX3 w h)) hown hK hP (zV_0 (by decide)) rfl rfl 6 (by decide) (List.mem_cons_of_mem _ m_452) rfl rfl dX3_load_34 ?_
      obtain ⟨v5, T4, h6, hf⟩ := zb_i hf
      refine z_ok (z_runV (As := []) (rest := []) F k_X1_emptyBuffer m_432 (c_X1_emptyBuffer T1 T4 _ h6) hP hS (zV_0 (by decide)) rfl rfl rfl rfl hl.1 (Nat.le_of_ble_eq_true rfl) dX3_load_37 (Nat.le_of_ble_eq_true rfl) ⟨Nat.le_of_ble_eq_true rfl, Nat.le_of_ble_eq_true rfl⟩ rfl) hS (fun H locs hP hS => ?_)
      refine lv_aload_n hx hb dX3_load_40 rfl (lv_at hl 0 rfl) ?_
      refine lv_aload_n hx hb dX3_load_41 rfl (lv_at hl 0 rfl) ?_
      refine z_get hx hb hts (fun w h => List.mem_cons_of_mem _ (ziX3 w h)) hown hK hP (zV_0 (by decide)) rfl rfl 6 (by decide) (List.mem_cons_of_mem _ m_452) rfl rfl dX3_load_42 ?_
      refine z_get hx hb hts (fun w h => List.mem_cons_of_mem _ (ziX1 w h)) hown hK hP (zV_0 (by decide)) rfl rfl 2 (by decide) (List.mem_cons_of_mem _ m_167) rfl rfl dX3_load_45 ?_
      obtain ⟨x7, ex7, hf⟩ := zl_i hf
      refine z_topi ex7 ?_
      obtain ⟨T8, eT8, hf⟩ := zl_i hf
      refine z_put hx hb hts (fun w h => List.mem_cons_of_mem _ (ziX3 w h)) tyX3 tyX3_ok nmX3 hown hK hP hG hS (zV_0 (by decide)) rfl rfl 2 (by decide) (List.mem_cons_of_mem _ m_448) rfl rfl (by decide +kernel) (Nat.le_of_ble_eq_true rfl) rfl dX3_load_48 (fun H locs hP hS => ?_)
      rw [← eT8] at hP
      refine lv_aload_n hx hb dX3_load_51 rfl (lv_at hl 0 rfl) ?_
      refine lv_aload_n hx hb dX3_load_52 rfl (lv_at hl 0 rfl) ?_
      refine z_get hx hb hts (fun w h => List.mem_cons_of_mem _ (ziX3 w h)) hown hK hP (zV_0 (by decide)) rfl rfl 6 (by decide) (List.mem_cons_of_mem _ m_452) rfl rfl dX3_load_53 ?_
      refine z_get hx hb hts (fun w h => List.mem_cons_of_mem _ (ziX1 w h)) hown hK hP (zV_0 (by decide)) rfl rfl 3 (by decide) (List.mem_cons_of_mem _ m_169) rfl rfl dX3_load_56 ?_
      obtain ⟨x9, ex9, hf⟩ := zl_i hf
      refine z_topi ex9 ?_
      obtain ⟨T10, eT10, hf⟩ := zl_i hf
      refine z_put hx hb hts (fun w h => List.mem_cons_of_mem _ (ziX3 w h)) tyX3 tyX3_ok nmX3 hown hK hP hG hS (zV_0 (by decide)) rfl rfl 3 (by decide) (List.mem_cons_of_mem _ m_449) rfl rfl (by decide +kernel) (Nat.le_of_ble_eq_true rfl) rfl dX3_load_59 (fun H locs hP hS => ?_)
      rw [← eT10] at hP
      refine lv_aload_n hx hb dX3_load_62 rfl (lv_at hl 0 rfl) ?_
      refine z_get hx hb hts (fun w h => List.mem_cons_of_mem _ (ziX3 w h)) hown hK hP (zV_0 (by decide)) rfl rfl 2 (by decide) (List.mem_cons_of_mem _ m_448) rfl rfl dX3_load_63 ?_
      refine lv_if_eq (tgt := 79) hx hb dX3_load_66 (by decide) (fun hc => ?_) (fun hc => ?_)
      · have hf := zif_p hf hc
        refine lv_aload_n hx hb dX3_load_79 rfl (lv_at hl 0 rfl) ?_
        refine z_get hx hb hts (fun w h => List.mem_cons_of_mem _ (ziX3 w h)) hown hK hP (zV_0 (by decide)) rfl rfl 4 (by decide) (List.mem_cons_of_mem _ m_450) rfl rfl dX3_load_80 ?_
        refine lv_aload_n hx hb dX3_load_83 rfl (lv_at hl 0 rfl) ?_
        refine z_get hx hb hts (fun w h => List.mem_cons_of_mem _ (ziX3 w h)) hown hK hP (zV_0 (by decide)) rfl rfl 6 (by decide) (List.mem_cons_of_mem _ m_452) rfl rfl dX3_load_84 ?_
        refine z_get hx hb hts (fun w h => List.mem_cons_of_mem _ (ziX1 w h)) hown hK hP (zV_0 (by decide)) rfl rfl 0 (by decide) (List.mem_cons_of_mem _ m_163) rfl rfl dX3_load_87 ?_
        obtain ⟨v12, T11, h13, hf⟩ := zb_i hf
        refine z_ok (z_runV (As := [.ref (G 1 2)]) (rest := []) F k_X2_copyFrom m_436 (c_X2_copyFrom 0 (by decide) 2 (by decide) T10 T11 _ h13) hP hS (zV_r (by decide) (by decide) (by decide)) rfl rfl rfl rfl hl.1 (Nat.le_of_ble_eq_true rfl) dX3_load_90 (Nat.le_of_ble_eq_true rfl) ⟨Nat.le_of_ble_eq_true rfl, Nat.le_of_ble_eq_true rfl⟩ rfl) hS (fun H locs hP hS => ?_)
        refine lv_aload_n hx hb dX3_load_93 rfl (lv_at hl 0 rfl) ?_
        refine z_get hx hb hts (fun w h => List.mem_cons_of_mem _ (ziX3 w h)) hown hK hP (zV_0 (by decide)) rfl rfl 7 (by decide) (List.mem_cons_of_mem _ m_453) rfl rfl dX3_load_94 ?_
        obtain ⟨v15, T14, h16, hf⟩ := zb_i hf
        refine z_ok (z_runV (As := []) (rest := []) F k_X0_forgetAll m_634 (c_X0_forgetAll T11 T14 _ h16) hP hS (zV_0 (by decide)) rfl rfl rfl rfl hl.1 (Nat.le_of_ble_eq_true rfl) dX3_load_97 (Nat.le_of_ble_eq_true rfl) ⟨Nat.le_of_ble_eq_true rfl, Nat.le_of_ble_eq_true rfl⟩ rfl) hS (fun H locs hP hS => ?_)
        refine lv_iconst (v := 0) hx hb dX3_load_100 (by decide) ?_
        refine lv_istore_n (lv' := [(2, .int 0), (0, .ref (G 0 0)), (1, .int p0)]) hx hb dX3_load_101 rfl hl (by decide) rfl (fun ls hl => ?_)
        obtain ⟨v21, T20, h22, hf⟩ := zb_i hf
        refine l_X3_load_102 F ⟨Nat.le_of_ble_eq_true rfl, Nat.le_of_ble_eq_true rfl⟩  2000 0 _ _ _ _ _ h22 hP hS (lv_sub hl [1, 0] rfl) (fun H locs ls hP hS hl => ?_)
        refine lv_aload_n hx hb dX3_load_124 rfl (lv_at hl 0 rfl) ?_
        refine z_get hx hb hts (fun w h => List.mem_cons_of_mem _ (ziX3 w h)) hown hK hP (zV_0 (by decide)) rfl rfl 4 (by decide) (List.mem_cons_of_mem _ m_450) rfl rfl dX3_load_125 ?_
        refine z_get hx hb hts (fun w h => List.mem_cons_of_mem _ (ziX2 w h)) hown hK hP (zV_r (by decide) (by decide) (by decide)) rfl rfl 9 (by decide) (List.mem_cons_of_mem _ m_87) rfl rfl dX3_load_128 ?_
        obtain ⟨q1, q2⟩ := zs_i hf
        subst q1; subst q2
        exact z_iret hx hb hr rfl hP hS hlocks (Nat.le_of_ble_eq_true rfl) (Nat.le_of_ble_eq_true rfl) dX3_load_131
      · have hf := zif_n hf hc
        cases hf
        exact z_throw_1 F 16 rfl hP hS hl.1 hlocks hex (Nat.le_of_ble_eq_true rfl) (Nat.le_of_ble_eq_true rfl) (Nat.le_of_ble_eq_true rfl) (Nat.le_of_ble_eq_true rfl) dX3_load_69 dX3_load_72 dX3_load_73 dX3_load_75 dX3_load_78 rfl
    · have hf := zif_n hf hc
      cases hf
      exact z_throw_2 F 15 rfl hP hS hl.1 hlocks hex (Nat.le_of_ble_eq_true rfl) (Nat.le_of_ble_eq_true rfl) (Nat.le_of_ble_eq_true rfl) (Nat.le_of_ble_eq_true rfl) dX3_load_15 dX3_load_18 dX3_load_19 dX3_load_21 dX3_load_24 rfl

def f_X3_year  (T : zT) : Option (Int32 × zT) := some ((T.1 1 0 0), T)
set_option maxHeartbeats 4000000 in
set_option maxRecDepth 100000 in
theorem c_X3_year  (T T' : zT) (v : Int32) (hf : f_X3_year  T = some (v, T')) : zC 0 yX3_year cX3_year 1 (some .int) 0  0 0  (fun G _ => [.ref (G 0 0)]) T (fun _ => .inl (some (.int v))) T' := by
  intro l D Y S V G A hl9 hG
  refine vx_ofW (cc := cX3_year) (maxL := 1) (ret := (some .int)) (by decide) rfl ?_
  intro p e s m args below meth c s₁ B hml hex hv
  obtain ⟨rfl, hK, hP, hA⟩ := hv
  have hx := B.exec
  have hb := B.bytes
  have hr := B.returns
  have hlocks := B.notSynchronized
  have hown : s.vm.findClass RX3 = some m.cls := findClass_of_methodNamed B.named
  have hts := atoms_spec (ws := Cond.code yX3_year cX3_year 1 (some .int) :: zWS) B.pre
  have F : zF 0 0  0 0  p l s m _ c cX3_year 1 RX3 (Cond.code yX3_year cX3_year 1 (some .int)) D Y S V G A := ⟨hx, hb, hml, hown, hts, hl9, hG, hK, hA⟩
  have hS : va_S A s.heap s.heap [] := va_S.rf
  have hl := lv_entry ([.ref (G 0 0)]) (n := 1) (Nat.le_of_ble_eq_true rfl)
  rw [lg_entry_eq]
  generalize (lg_sl ([.ref (G 0 0)]) ++ List.replicate (1 - (lg_sl ([.ref (G 0 0)])).length) Slot.unset).toArray = ls at hl ⊢
  have hl : lv_has ls 1 [(0, .ref (G 0 0))] := hl
  unfold f_X3_year at hf
  refine lv_aload_n hx hb dX3_year_0 rfl (lv_at hl 0 rfl) ?_
  refine z_get hx hb hts (fun w h => List.mem_cons_of_mem _ (ziX3 w h)) hown hK hP (zV_0 (by decide)) rfl rfl 4 (by decide) (List.mem_cons_of_mem _ m_450) rfl rfl dX3_year_1 ?_
  refine z_get hx hb hts (fun w h => List.mem_cons_of_mem _ (ziX2 w h)) hown hK hP (zV_r (by decide) (by decide) (by decide)) rfl rfl 0 (by decide) (List.mem_cons_of_mem _ m_68) rfl rfl dX3_year_4 ?_
  obtain ⟨q1, q2⟩ := zs_i hf
  subst q1; subst q2
  exact z_iret hx hb hr rfl hP hS hlocks (Nat.le_of_ble_eq_true rfl) (Nat.le_of_ble_eq_true rfl) dX3_year_7

def f_X3_month  (T : zT) : Option (Int32 × zT) := zb (f_X3_monthAt (T.1 1 0 1) T) fun v2 T1 => some (v2, T1)
set_option maxHeartbeats 4000000 in
set_option maxRecDepth 100000 in
theorem c_X3_month  (T T' : zT) (v : Int32) (hf : f_X3_month  T = some (v, T')) : zC 0 yX3_month cX3_month 1 (some .int) 1  0 0  (fun G _ => [.ref (G 0 0)]) T (fun _ => .inl (some (.int v))) T' := by
  intro l D Y S V G A hl9 hG
  refine vx_ofW (cc := cX3_month) (maxL := 1) (ret := (some .int)) (by decide) rfl ?_
  intro p e s m args below meth c s₁ B hml hex hv
  obtain ⟨rfl, hK, hP, hA⟩ := hv
  have hx := B.exec
  have hb := B.bytes
  have hr := B.returns
  have hlocks := B.notSynchronized
  have hown : s.vm.findClass RX3 = some m.cls := findClass_of_methodNamed B.named
  have hts := atoms_spec (ws := Cond.code yX3_month cX3_month 1 (some .int) :: zWS) B.pre
  have F : zF 0 1  0 0  p l s m _ c cX3_month 1 RX3 (Cond.code yX3_month cX3_month 1 (some .int)) D Y S V G A := ⟨hx, hb, hml, hown, hts, hl9, hG, hK, hA⟩
  have hS : va_S A s.heap s.heap [] := va_S.rf
  have hl := lv_entry ([.ref (G 0 0)]) (n := 1) (Nat.le_of_ble_eq_true rfl)
  rw [lg_entry_eq]
  generalize (lg_sl ([.ref (G 0 0)]) ++ List.replicate (1 - (lg_sl ([.ref (G 0 0)])).length) Slot.unset).toArray = ls at hl ⊢
  have hl : lv_has ls 1 [(0, .ref (G 0 0))] := hl
  unfold f_X3_month at hf
  refine lv_aload_n hx hb dX3_month_0 rfl (lv_at hl 0 rfl) ?_
  refine z_get hx hb hts (fun w h => List.mem_cons_of_mem _ (ziX3 w h)) hown hK hP (zV_0 (by decide)) rfl rfl 4 (by decide) (List.mem_cons_of_mem _ m_450) rfl rfl dX3_month_1 ?_
  refine z_get hx hb hts (fun w h => List.mem_cons_of_mem _ (ziX2 w h)) hown hK hP (zV_r (by decide) (by decide) (by decide)) rfl rfl 1 (by decide) (List.mem_cons_of_mem _ m_70) rfl rfl dX3_month_4 ?_
  obtain ⟨v2, T1, h3, hf⟩ := zb_i hf
  refine z_ok (z_runS (As := [.int (T.1 1 0 1)]) (rest := []) F k_X3_monthAt m_1001 (c_X3_monthAt (T.1 1 0 1) T T1 _ h3) hP hS rfl rfl hl.1 (Nat.le_of_ble_eq_true rfl) dX3_month_7 (Nat.le_of_ble_eq_true rfl) ⟨Nat.le_of_ble_eq_true rfl, Nat.le_of_ble_eq_true rfl⟩ rfl) hS (fun H locs hP hS => ?_)
  obtain ⟨q1, q2⟩ := zs_i hf
  subst q1; subst q2
  exact z_iret hx hb hr rfl hP hS hlocks (Nat.le_of_ble_eq_true rfl) (Nat.le_of_ble_eq_true rfl) dX3_month_10

def f_X3_dayOfMonth  (T : zT) : Option (Int32 × zT) := zb (f_X3_dayAt (T.1 1 0 1) T) fun v2 T1 => some (v2, T1)
set_option maxHeartbeats 4000000 in
set_option maxRecDepth 100000 in
theorem c_X3_dayOfMonth  (T T' : zT) (v : Int32) (hf : f_X3_dayOfMonth  T = some (v, T')) : zC 0 yX3_dayOfMonth cX3_dayOfMonth 1 (some .int) 1  0 0  (fun G _ => [.ref (G 0 0)]) T (fun _ => .inl (some (.int v))) T' := by
  intro l D Y S V G A hl9 hG
  refine vx_ofW (cc := cX3_dayOfMonth) (maxL := 1) (ret := (some .int)) (by decide) rfl ?_
  intro p e s m args below meth c s₁ B hml hex hv
  obtain ⟨rfl, hK, hP, hA⟩ := hv
  have hx := B.exec
  have hb := B.bytes
  have hr := B.returns
  have hlocks := B.notSynchronized
  have hown : s.vm.findClass RX3 = some m.cls := findClass_of_methodNamed B.named
  have hts := atoms_spec (ws := Cond.code yX3_dayOfMonth cX3_dayOfMonth 1 (some .int) :: zWS) B.pre
  have F : zF 0 1  0 0  p l s m _ c cX3_dayOfMonth 1 RX3 (Cond.code yX3_dayOfMonth cX3_dayOfMonth 1 (some .int)) D Y S V G A := ⟨hx, hb, hml, hown, hts, hl9, hG, hK, hA⟩
  have hS : va_S A s.heap s.heap [] := va_S.rf
  have hl := lv_entry ([.ref (G 0 0)]) (n := 1) (Nat.le_of_ble_eq_true rfl)
  rw [lg_entry_eq]
  generalize (lg_sl ([.ref (G 0 0)]) ++ List.replicate (1 - (lg_sl ([.ref (G 0 0)])).length) Slot.unset).toArray = ls at hl ⊢
  have hl : lv_has ls 1 [(0, .ref (G 0 0))] := hl
  unfold f_X3_dayOfMonth at hf
  refine lv_aload_n hx hb dX3_dayOfMonth_0 rfl (lv_at hl 0 rfl) ?_
  refine z_get hx hb hts (fun w h => List.mem_cons_of_mem _ (ziX3 w h)) hown hK hP (zV_0 (by decide)) rfl rfl 4 (by decide) (List.mem_cons_of_mem _ m_450) rfl rfl dX3_dayOfMonth_1 ?_
  refine z_get hx hb hts (fun w h => List.mem_cons_of_mem _ (ziX2 w h)) hown hK hP (zV_r (by decide) (by decide) (by decide)) rfl rfl 1 (by decide) (List.mem_cons_of_mem _ m_70) rfl rfl dX3_dayOfMonth_4 ?_
  obtain ⟨v2, T1, h3, hf⟩ := zb_i hf
  refine z_ok (z_runS (As := [.int (T.1 1 0 1)]) (rest := []) F k_X3_dayAt m_1008 (c_X3_dayAt (T.1 1 0 1) T T1 _ h3) hP hS rfl rfl hl.1 (Nat.le_of_ble_eq_true rfl) dX3_dayOfMonth_7 (Nat.le_of_ble_eq_true rfl) ⟨Nat.le_of_ble_eq_true rfl, Nat.le_of_ble_eq_true rfl⟩ rfl) hS (fun H locs hP hS => ?_)
  obtain ⟨q1, q2⟩ := zs_i hf
  subst q1; subst q2
  exact z_iret hx hb hr rfl hP hS hlocks (Nat.le_of_ble_eq_true rfl) (Nat.le_of_ble_eq_true rfl) dX3_dayOfMonth_10

def f_X3_seed  (T : zT) : Option (Int32 × zT) := some ((T.1 1 0 2), T)
set_option maxHeartbeats 4000000 in
set_option maxRecDepth 100000 in
theorem c_X3_seed  (T T' : zT) (v : Int32) (hf : f_X3_seed  T = some (v, T')) : zC 0 yX3_seed cX3_seed 1 (some .int) 0  0 0  (fun G _ => [.ref (G 0 0)]) T (fun _ => .inl (some (.int v))) T' := by
  intro l D Y S V G A hl9 hG
  refine vx_ofW (cc := cX3_seed) (maxL := 1) (ret := (some .int)) (by decide) rfl ?_
  intro p e s m args below meth c s₁ B hml hex hv
  obtain ⟨rfl, hK, hP, hA⟩ := hv
  have hx := B.exec
  have hb := B.bytes
  have hr := B.returns
  have hlocks := B.notSynchronized
  have hown : s.vm.findClass RX3 = some m.cls := findClass_of_methodNamed B.named
  have hts := atoms_spec (ws := Cond.code yX3_seed cX3_seed 1 (some .int) :: zWS) B.pre
  have F : zF 0 0  0 0  p l s m _ c cX3_seed 1 RX3 (Cond.code yX3_seed cX3_seed 1 (some .int)) D Y S V G A := ⟨hx, hb, hml, hown, hts, hl9, hG, hK, hA⟩
  have hS : va_S A s.heap s.heap [] := va_S.rf
  have hl := lv_entry ([.ref (G 0 0)]) (n := 1) (Nat.le_of_ble_eq_true rfl)
  rw [lg_entry_eq]
  generalize (lg_sl ([.ref (G 0 0)]) ++ List.replicate (1 - (lg_sl ([.ref (G 0 0)])).length) Slot.unset).toArray = ls at hl ⊢
  have hl : lv_has ls 1 [(0, .ref (G 0 0))] := hl
  unfold f_X3_seed at hf
  refine lv_aload_n hx hb dX3_seed_0 rfl (lv_at hl 0 rfl) ?_
  refine z_get hx hb hts (fun w h => List.mem_cons_of_mem _ (ziX3 w h)) hown hK hP (zV_0 (by decide)) rfl rfl 4 (by decide) (List.mem_cons_of_mem _ m_450) rfl rfl dX3_seed_1 ?_
  refine z_get hx hb hts (fun w h => List.mem_cons_of_mem _ (ziX2 w h)) hown hK hP (zV_r (by decide) (by decide) (by decide)) rfl rfl 2 (by decide) (List.mem_cons_of_mem _ m_72) rfl rfl dX3_seed_4 ?_
  obtain ⟨q1, q2⟩ := zs_i hf
  subst q1; subst q2
  exact z_iret hx hb hr rfl hP hS hlocks (Nat.le_of_ble_eq_true rfl) (Nat.le_of_ble_eq_true rfl) dX3_seed_7

def f_X3_nextDraw  (T : zT) : Option (Int32 × zT) := zb (f_X3_seedAfter (T.1 1 0 2) T) fun v2 T1 => some ((v2 - v2 / 360 * 360), T1)
set_option maxHeartbeats 4000000 in
set_option maxRecDepth 100000 in
theorem c_X3_nextDraw  (T T' : zT) (v : Int32) (hf : f_X3_nextDraw  T = some (v, T')) : zC 0 yX3_nextDraw cX3_nextDraw 1 (some .int) 1  0 0  (fun G _ => [.ref (G 0 0)]) T (fun _ => .inl (some (.int v))) T' := by
  intro l D Y S V G A hl9 hG
  refine vx_ofW (cc := cX3_nextDraw) (maxL := 1) (ret := (some .int)) (by decide) rfl ?_
  intro p e s m args below meth c s₁ B hml hex hv
  obtain ⟨rfl, hK, hP, hA⟩ := hv
  have hx := B.exec
  have hb := B.bytes
  have hr := B.returns
  have hlocks := B.notSynchronized
  have hown : s.vm.findClass RX3 = some m.cls := findClass_of_methodNamed B.named
  have hts := atoms_spec (ws := Cond.code yX3_nextDraw cX3_nextDraw 1 (some .int) :: zWS) B.pre
  have F : zF 0 1  0 0  p l s m _ c cX3_nextDraw 1 RX3 (Cond.code yX3_nextDraw cX3_nextDraw 1 (some .int)) D Y S V G A := ⟨hx, hb, hml, hown, hts, hl9, hG, hK, hA⟩
  have hS : va_S A s.heap s.heap [] := va_S.rf
  have hl := lv_entry ([.ref (G 0 0)]) (n := 1) (Nat.le_of_ble_eq_true rfl)
  rw [lg_entry_eq]
  generalize (lg_sl ([.ref (G 0 0)]) ++ List.replicate (1 - (lg_sl ([.ref (G 0 0)])).length) Slot.unset).toArray = ls at hl ⊢
  have hl : lv_has ls 1 [(0, .ref (G 0 0))] := hl
  unfold f_X3_nextDraw at hf
  refine lv_aload_n hx hb dX3_nextDraw_0 rfl (lv_at hl 0 rfl) ?_
  refine z_get hx hb hts (fun w h => List.mem_cons_of_mem _ (ziX3 w h)) hown hK hP (zV_0 (by decide)) rfl rfl 4 (by decide) (List.mem_cons_of_mem _ m_450) rfl rfl dX3_nextDraw_1 ?_
  refine z_get hx hb hts (fun w h => List.mem_cons_of_mem _ (ziX2 w h)) hown hK hP (zV_r (by decide) (by decide) (by decide)) rfl rfl 2 (by decide) (List.mem_cons_of_mem _ m_72) rfl rfl dX3_nextDraw_4 ?_
  obtain ⟨v2, T1, h3, hf⟩ := zb_i hf
  refine z_ok (z_runS (As := [.int (T.1 1 0 2)]) (rest := []) F k_X3_seedAfter m_1178 (c_X3_seedAfter (T.1 1 0 2) T T1 _ h3) hP hS rfl rfl hl.1 (Nat.le_of_ble_eq_true rfl) dX3_nextDraw_7 (Nat.le_of_ble_eq_true rfl) ⟨Nat.le_of_ble_eq_true rfl, Nat.le_of_ble_eq_true rfl⟩ rfl) hS (fun H locs hP hS => ?_)
  refine lv_sipush (v := 360) hx hb dX3_nextDraw_10 (by decide) ?_
  refine lv_irem hx hb dX3_nextDraw_13 (by decide) ?_
  obtain ⟨q1, q2⟩ := zs_i hf
  subst q1; subst q2
  exact z_iret hx hb hr rfl hP hS hlocks (Nat.le_of_ble_eq_true rfl) (Nat.le_of_ble_eq_true rfl) dX3_nextDraw_14

def f_X3_candles  (T : zT) : Option (Int32 × zT) := some ((T.1 1 0 3), T)
set_option maxHeartbeats 4000000 in
set_option maxRecDepth 100000 in
theorem c_X3_candles  (T T' : zT) (v : Int32) (hf : f_X3_candles  T = some (v, T')) : zC 0 yX3_candles cX3_candles 1 (some .int) 0  0 0  (fun G _ => [.ref (G 0 0)]) T (fun _ => .inl (some (.int v))) T' := by
  intro l D Y S V G A hl9 hG
  refine vx_ofW (cc := cX3_candles) (maxL := 1) (ret := (some .int)) (by decide) rfl ?_
  intro p e s m args below meth c s₁ B hml hex hv
  obtain ⟨rfl, hK, hP, hA⟩ := hv
  have hx := B.exec
  have hb := B.bytes
  have hr := B.returns
  have hlocks := B.notSynchronized
  have hown : s.vm.findClass RX3 = some m.cls := findClass_of_methodNamed B.named
  have hts := atoms_spec (ws := Cond.code yX3_candles cX3_candles 1 (some .int) :: zWS) B.pre
  have F : zF 0 0  0 0  p l s m _ c cX3_candles 1 RX3 (Cond.code yX3_candles cX3_candles 1 (some .int)) D Y S V G A := ⟨hx, hb, hml, hown, hts, hl9, hG, hK, hA⟩
  have hS : va_S A s.heap s.heap [] := va_S.rf
  have hl := lv_entry ([.ref (G 0 0)]) (n := 1) (Nat.le_of_ble_eq_true rfl)
  rw [lg_entry_eq]
  generalize (lg_sl ([.ref (G 0 0)]) ++ List.replicate (1 - (lg_sl ([.ref (G 0 0)])).length) Slot.unset).toArray = ls at hl ⊢
  have hl : lv_has ls 1 [(0, .ref (G 0 0))] := hl
  unfold f_X3_candles at hf
  refine lv_aload_n hx hb dX3_candles_0 rfl (lv_at hl 0 rfl) ?_
  refine z_get hx hb hts (fun w h => List.mem_cons_of_mem _ (ziX3 w h)) hown hK hP (zV_0 (by decide)) rfl rfl 4 (by decide) (List.mem_cons_of_mem _ m_450) rfl rfl dX3_candles_1 ?_
  refine z_get hx hb hts (fun w h => List.mem_cons_of_mem _ (ziX2 w h)) hown hK hP (zV_r (by decide) (by decide) (by decide)) rfl rfl 3 (by decide) (List.mem_cons_of_mem _ m_74) rfl rfl dX3_candles_4 ?_
  obtain ⟨q1, q2⟩ := zs_i hf
  subst q1; subst q2
  exact z_iret hx hb hr rfl hP hS hlocks (Nat.le_of_ble_eq_true rfl) (Nat.le_of_ble_eq_true rfl) dX3_candles_7

def f_X3_needKind (p0 : Int32) (T : zT) : Option ((Unit ⊕ Nat) × zT) := (if p0 < 0 then some (.inr 1, T) else (if p0 < 6 then some (.inl (), T) else some (.inr 1, T)))
set_option maxHeartbeats 4000000 in
set_option maxRecDepth 100000 in
theorem c_X3_needKind (p0 : Int32) (T T' : zT) (v : (Unit ⊕ Nat)) (hf : f_X3_needKind p0 T = some (v, T')) : zC 0 yX3_needKind cX3_needKind 1 none 6  1 6  (fun _ _ => [.int p0]) T (fun _ => zrv v) T' := by
  intro l D Y S V G A hl9 hG
  refine vx_ofW (cc := cX3_needKind) (maxL := 1) (ret := none) (by decide) rfl ?_
  intro p e s m args below meth c s₁ B hml hex hv
  obtain ⟨rfl, hK, hP, hA⟩ := hv
  have hx := B.exec
  have hb := B.bytes
  have hr := B.returns
  have hlocks := B.notSynchronized
  have hown : s.vm.findClass RX3 = some m.cls := findClass_of_methodNamed B.named
  have hts := atoms_spec (ws := Cond.code yX3_needKind cX3_needKind 1 none :: zWS) B.pre
  have F : zF 0 6  1 6  p l s m _ c cX3_needKind 1 RX3 (Cond.code yX3_needKind cX3_needKind 1 none) D Y S V G A := ⟨hx, hb, hml, hown, hts, hl9, hG, hK, hA⟩
  have hS : va_S A s.heap s.heap [] := va_S.rf
  have hl := lv_entry ([.int p0]) (n := 1) (Nat.le_of_ble_eq_true rfl)
  rw [lg_entry_eq]
  generalize (lg_sl ([.int p0]) ++ List.replicate (1 - (lg_sl ([.int p0])).length) Slot.unset).toArray = ls at hl ⊢
  have hl : lv_has ls 1 [(0, .int p0)] := hl
  unfold f_X3_needKind at hf
  refine lv_iload_n hx hb dX3_needKind_0 rfl (lv_at hl 0 rfl) ?_
  refine lv_if_lt (tgt := 10) hx hb dX3_needKind_1 (by decide) (fun hc => ?_) (fun hc => ?_)
  · have hf := zif_p hf hc
    cases hf
    exact z_throwW_1 F 28 rfl hP hS hl.1 hlocks hex (Nat.le_of_ble_eq_true rfl) (Nat.le_of_ble_eq_true rfl) (Nat.le_of_ble_eq_true rfl) (Nat.le_of_ble_eq_true rfl) dX3_needKind_10 dX3_needKind_13 dX3_needKind_14 dX3_needKind_17 dX3_needKind_20 rfl
  · have hf := zif_n hf hc
    refine lv_iload_n hx hb dX3_needKind_4 rfl (lv_at hl 0 rfl) ?_
    refine lv_bipush (v := 6) hx hb dX3_needKind_5 (by decide) ?_
    refine lv_icmp_lt (tgt := 21) hx hb dX3_needKind_7 (by decide) (fun hc => ?_) (fun hc => ?_)
    · have hf := zif_p hf hc
      obtain ⟨q1, q2⟩ := zs_i hf
      subst q1; subst q2
      exact z_vret hx hb hr rfl hP hS hlocks (Nat.le_of_ble_eq_true rfl) (Nat.le_of_ble_eq_true rfl) dX3_needKind_21
    · have hf := zif_n hf hc
      cases hf
      exact z_throwW_1 F 28 rfl hP hS hl.1 hlocks hex (Nat.le_of_ble_eq_true rfl) (Nat.le_of_ble_eq_true rfl) (Nat.le_of_ble_eq_true rfl) (Nat.le_of_ble_eq_true rfl) dX3_needKind_10 dX3_needKind_13 dX3_needKind_14 dX3_needKind_17 dX3_needKind_20 rfl

def f_X3_cakes (p0 : Int32) (T : zT) : Option ((Int32 ⊕ Nat) × zT) := zx (f_X3_needKind p0 T) fun v2 T1 => zb (f_X3_cell 2 0 p0 T1) fun v6 T5 => some (.inl v6, T5)
set_option maxHeartbeats 4000000 in
set_option maxRecDepth 100000 in
theorem c_X3_cakes (p0 : Int32) (T T' : zT) (v : (Int32 ⊕ Nat)) (hf : f_X3_cakes p0 T = some (v, T')) : zC 0 yX3_cakes cX3_cakes 2 (some .int) 7  1 6  (fun G _ => [.ref (G 0 0), .int p0]) T (fun _ => zri v) T' := by
  intro l D Y S V G A hl9 hG
  refine vx_ofW (cc := cX3_cakes) (maxL := 2) (ret := (some .int)) (by decide) rfl ?_
  intro p e s m args below meth c s₁ B hml hex hv
  obtain ⟨rfl, hK, hP, hA⟩ := hv
  have hx := B.exec
  have hb := B.bytes
  have hr := B.returns
  have hlocks := B.notSynchronized
  have hown : s.vm.findClass RX3 = some m.cls := findClass_of_methodNamed B.named
  have hts := atoms_spec (ws := Cond.code yX3_cakes cX3_cakes 2 (some .int) :: zWS) B.pre
  have F : zF 0 7  1 6  p l s m _ c cX3_cakes 2 RX3 (Cond.code yX3_cakes cX3_cakes 2 (some .int)) D Y S V G A := ⟨hx, hb, hml, hown, hts, hl9, hG, hK, hA⟩
  have hS : va_S A s.heap s.heap [] := va_S.rf
  have hl := lv_entry ([.ref (G 0 0), .int p0]) (n := 2) (Nat.le_of_ble_eq_true rfl)
  rw [lg_entry_eq]
  generalize (lg_sl ([.ref (G 0 0), .int p0]) ++ List.replicate (2 - (lg_sl ([.ref (G 0 0), .int p0])).length) Slot.unset).toArray = ls at hl ⊢
  have hl : lv_has ls 2 [(0, .ref (G 0 0)), (1, .int p0)] := hl
  unfold f_X3_cakes at hf
  refine lv_iload_n hx hb dX3_cakes_0 rfl (lv_at hl 1 rfl) ?_
  rcases zx_i hf with ⟨v2, T1, h3, hf⟩ | ⟨y4, T1, h3, hf⟩
  · refine z_ok (z_runS (As := [.int p0]) (rest := []) F k_X3_needKind m_736 (c_X3_needKind p0 T T1 _ h3) hP hS rfl rfl hl.1 (Nat.le_of_ble_eq_true rfl) dX3_cakes_1 (Nat.le_of_ble_eq_true rfl) ⟨Nat.le_of_ble_eq_true rfl, Nat.le_of_ble_eq_true rfl⟩ rfl) hS (fun H locs hP hS => ?_)
    refine lv_aload_n hx hb dX3_cakes_4 rfl (lv_at hl 0 rfl) ?_
    refine z_get hx hb hts (fun w h => List.mem_cons_of_mem _ (ziX3 w h)) hown hK hP (zV_0 (by decide)) rfl rfl 4 (by decide) (List.mem_cons_of_mem _ m_450) rfl rfl dX3_cakes_5 ?_
    refine z_get hx hb hts (fun w h => List.mem_cons_of_mem _ (ziX2 w h)) hown hK hP (zV_r (by decide) (by decide) (by decide)) rfl rfl 10 (by decide) (List.mem_cons_of_mem _ m_91) rfl rfl dX3_cakes_8 ?_
    refine lv_iload_n hx hb dX3_cakes_11 rfl (lv_at hl 1 rfl) ?_
    obtain ⟨v6, T5, h7, hf⟩ := zb_i hf
    refine z_ok (z_runS (As := [.ref (G 2 0), .int p0]) (rest := []) F k_X3_cell m_692 (c_X3_cell 2 0 (zIA_r (by decide) (by decide) (by decide)) p0 T1 T5 _ h7) hP hS rfl rfl hl.1 (Nat.le_of_ble_eq_true rfl) dX3_cakes_12 (Nat.le_of_ble_eq_true rfl) ⟨Nat.le_of_ble_eq_true rfl, Nat.le_of_ble_eq_true rfl⟩ rfl) hS (fun H locs hP hS => ?_)
    obtain ⟨q1, q2⟩ := zs_i hf
    subst q1; subst q2
    exact z_iret hx hb hr rfl hP hS hlocks (Nat.le_of_ble_eq_true rfl) (Nat.le_of_ble_eq_true rfl) dX3_cakes_15
  · cases hf
    exact z_ex (z_runS (As := [.int p0]) (rest := []) F k_X3_needKind m_736 (c_X3_needKind p0 T T' _ h3) hP hS rfl rfl hl.1 (Nat.le_of_ble_eq_true rfl) dX3_cakes_1 (Nat.le_of_ble_eq_true rfl) ⟨Nat.le_of_ble_eq_true rfl, Nat.le_of_ble_eq_true rfl⟩ rfl) hS hex hlocks rfl (Nat.le_of_ble_eq_true rfl) (Nat.le_of_ble_eq_true rfl)

def lp_X3_mostWantedCake_4  : Nat → Int32 → Int32 → zT → Option ((Int32 × Int32) × zT)
  | 0, _, _, _ => none
  | n + 1, u1, u2, T => (if 6 ≤ u2 then some ((u1, u2), T) else zb (f_X2_countFans 0 u2 T) fun v2 T1 => zb (f_X2_countFans 0 u1 T1) fun v5 T4 => (if v2 ≤ v5 then zl (u2 + 1) fun x7 => lp_X3_mostWantedCake_4 n u1 x7 T4 else zl (u2 + 1) fun x8 => lp_X3_mostWantedCake_4 n u2 x8 T4))
def f_X3_mostWantedCake  (T : zT) : Option (Int32 × zT) := zb (lp_X3_mostWantedCake_4 2000 0 1 T) fun v10 T9 => some (v10.1, T9)
set_option maxHeartbeats 4000000 in
set_option maxRecDepth 100000 in
theorem l_X3_mostWantedCake_4 {p : Program} {l : Launch} {e : Env} {s : State} {m : MethodId} {args : Array Value} {below : List Frame} {meth : Method} {c : Code} {Q : State → Prop} {D : va_G} {Y : Nat → ClassId} {S V : Nat → Nat} {G : Nat → Nat → Nat} {A : Nat → Prop} {c0 : Cond} {mc ms cells slots : Nat} (F : zF 0 2 mc ms p l s m args c cX3_mostWantedCake 3 RX3 c0 D Y S V G A) (hcs : cells ≤ mc ∧ slots ≤ ms) :
    ∀ (n : Nat) (u1 : Int32) (u2 : Int32) (T : zT) (o : (Int32 × Int32) × zT) (H : Heap) (locs : List Loc) (ls : Array Slot), lp_X3_mostWantedCake_4 n u1 u2 T = some o → zP 0 D Y G T H → va_S A s.heap H locs → lv_has ls 3 [(0, .ref (G 0 0)), (1, .int u1), (2, .int u2)] → (∀ (H : Heap) (locs : List Loc) (ls : Array Slot), zP 0 D Y G o.2 H → va_S A s.heap H locs → lv_has ls 3 [(0, .ref (G 0 0)), (1, .int o.1.1), (2, .int o.1.2)] → W p l e (zR 2 mc ms) s m args below meth c H locs cells slots Q (F0 m 37 ls [])) → W p l e (zR 2 mc ms) s m args below meth c H locs cells slots Q (F0 m 4 ls []) := by
  obtain ⟨hx, hb, hml, hown, hts, hl9, hG, hK, hA⟩ := id F
  intro n
  induction n with
  | zero =>
    intro u1 u2 T o H locs ls hf
    rw [lp_X3_mostWantedCake_4] at hf
    cases hf
  | succ n ih =>
    intro u1 u2 T o H locs ls hf hP hS hl k0_
    rw [lp_X3_mostWantedCake_4] at hf
    refine lv_iload_n hx hb dX3_mostWantedCake_4 rfl (lv_at hl 2 rfl) ?_
    refine lv_bipush (v := 6) hx hb dX3_mostWantedCake_5 (by decide) ?_
    refine lv_icmp_ge (tgt := 37) hx hb dX3_mostWantedCake_7 (by decide) (fun hc => ?_) (fun hc => ?_)
    · have hf := zif_p hf hc
      cases hf
      exact k0_ _ _ _ hP hS (lv_sub hl [0, 1, 2] rfl)
    · have hf := zif_n hf hc
      refine lv_aload_n hx hb dX3_mostWantedCake_10 rfl (lv_at hl 0 rfl) ?_
      refine z_get hx hb hts (fun w h => List.mem_cons_of_mem _ (ziX3 w h)) hown hK hP (zV_0 (by decide)) rfl rfl 4 (by decide) (List.mem_cons_of_mem _ m_450) rfl rfl dX3_mostWantedCake_11 ?_
      refine lv_iload_n hx hb dX3_mostWantedCake_14 rfl (lv_at hl 2 rfl) ?_
      obtain ⟨v2, T1, h3, hf⟩ := zb_i hf
      refine z_ok (z_runV (As := [.int u2]) (rest := []) F k_X2_countFans m_1143 (c_X2_countFans 0 (by decide) u2 T T1 _ h3) hP hS (zV_r (by decide) (by decide) (by decide)) rfl rfl rfl rfl hl.1 (Nat.le_of_ble_eq_true rfl) dX3_mostWantedCake_15 (Nat.le_of_ble_eq_true rfl) ⟨hcs.1, hcs.2⟩ rfl) hS (fun H locs hP hS => ?_)
      refine lv_aload_n hx hb dX3_mostWantedCake_18 rfl (lv_at hl 0 rfl) ?_
      refine z_get hx hb hts (fun w h => List.mem_cons_of_mem _ (ziX3 w h)) hown hK hP (zV_0 (by decide)) rfl rfl 4 (by decide) (List.mem_cons_of_mem _ m_450) rfl rfl dX3_mostWantedCake_19 ?_
      refine lv_iload_n hx hb dX3_mostWantedCake_22 rfl (lv_at hl 1 rfl) ?_
      obtain ⟨v5, T4, h6, hf⟩ := zb_i hf
      refine z_ok (z_runV (As := [.int u1]) (rest := [.int v2]) F k_X2_countFans m_1143 (c_X2_countFans 0 (by decide) u1 T1 T4 _ h6) hP hS (zV_r (by decide) (by decide) (by decide)) rfl rfl rfl rfl hl.1 (Nat.le_of_ble_eq_true rfl) dX3_mostWantedCake_23 (Nat.le_of_ble_eq_true rfl) ⟨hcs.1, hcs.2⟩ rfl) hS (fun H locs hP hS => ?_)
      refine lv_icmp_le (tgt := 31) hx hb dX3_mostWantedCake_26 (by decide) (fun hc => ?_) (fun hc => ?_)
      · have hf := zif_p hf hc
        obtain ⟨x7, ex7, hf⟩ := zl_i hf
        refine lv_iinc (v := x7) (lv' := [(2, .int x7), (0, .ref (G 0 0)), (1, .int u1)]) hx hb dX3_mostWantedCake_31 hl (k := 2) rfl (by rw [ex7]; rfl) (by decide) rfl (fun ls hl => ?_)
        refine lv_goto (tgt := 4) hx hb dX3_mostWantedCake_34 (by decide) ?_
        exact ih u1 x7 _ _ _ _ _ hf hP hS (lv_sub hl [1, 2, 0] rfl) k0_
      · have hf := zif_n hf hc
        refine lv_iload_n hx hb dX3_mostWantedCake_29 rfl (lv_at hl 2 rfl) ?_
        refine lv_istore_n (lv' := [(1, .int u2), (0, .ref (G 0 0)), (2, .int u2)]) hx hb dX3_mostWantedCake_30 rfl hl (by decide) rfl (fun ls hl => ?_)
        obtain ⟨x8, ex8, hf⟩ := zl_i hf
        refine lv_iinc (v := x8) (lv' := [(2, .int x8), (1, .int u2), (0, .ref (G 0 0))]) hx hb dX3_mostWantedCake_31 hl (k := 2) rfl (by rw [ex8]; rfl) (by decide) rfl (fun ls hl => ?_)
        refine lv_goto (tgt := 4) hx hb dX3_mostWantedCake_34 (by decide) ?_
        exact ih u2 x8 _ _ _ _ _ hf hP hS (lv_sub hl [2, 1, 0] rfl) k0_
set_option maxHeartbeats 4000000 in
set_option maxRecDepth 100000 in
theorem c_X3_mostWantedCake  (T T' : zT) (v : Int32) (hf : f_X3_mostWantedCake  T = some (v, T')) : zC 0 yX3_mostWantedCake cX3_mostWantedCake 3 (some .int) 2  0 0  (fun G _ => [.ref (G 0 0)]) T (fun _ => .inl (some (.int v))) T' := by
  intro l D Y S V G A hl9 hG
  refine vx_ofW (cc := cX3_mostWantedCake) (maxL := 3) (ret := (some .int)) (by decide) rfl ?_
  intro p e s m args below meth c s₁ B hml hex hv
  obtain ⟨rfl, hK, hP, hA⟩ := hv
  have hx := B.exec
  have hb := B.bytes
  have hr := B.returns
  have hlocks := B.notSynchronized
  have hown : s.vm.findClass RX3 = some m.cls := findClass_of_methodNamed B.named
  have hts := atoms_spec (ws := Cond.code yX3_mostWantedCake cX3_mostWantedCake 3 (some .int) :: zWS) B.pre
  have F : zF 0 2  0 0  p l s m _ c cX3_mostWantedCake 3 RX3 (Cond.code yX3_mostWantedCake cX3_mostWantedCake 3 (some .int)) D Y S V G A := ⟨hx, hb, hml, hown, hts, hl9, hG, hK, hA⟩
  have hS : va_S A s.heap s.heap [] := va_S.rf
  have hl := lv_entry ([.ref (G 0 0)]) (n := 3) (Nat.le_of_ble_eq_true rfl)
  rw [lg_entry_eq]
  generalize (lg_sl ([.ref (G 0 0)]) ++ List.replicate (3 - (lg_sl ([.ref (G 0 0)])).length) Slot.unset).toArray = ls at hl ⊢
  have hl : lv_has ls 3 [(0, .ref (G 0 0))] := hl
  unfold f_X3_mostWantedCake at hf
  refine lv_iconst (v := 0) hx hb dX3_mostWantedCake_0 (by decide) ?_
  refine lv_istore_n (lv' := [(1, .int 0), (0, .ref (G 0 0))]) hx hb dX3_mostWantedCake_1 rfl hl (by decide) rfl (fun ls hl => ?_)
  refine lv_iconst (v := 1) hx hb dX3_mostWantedCake_2 (by decide) ?_
  refine lv_istore_n (lv' := [(2, .int 1), (1, .int 0), (0, .ref (G 0 0))]) hx hb dX3_mostWantedCake_3 rfl hl (by decide) rfl (fun ls hl => ?_)
  obtain ⟨v10, T9, h11, hf⟩ := zb_i hf
  refine l_X3_mostWantedCake_4 F ⟨Nat.le_of_ble_eq_true rfl, Nat.le_of_ble_eq_true rfl⟩  2000 0 1 _ _ _ _ _ h11 hP hS (lv_sub hl [2, 1, 0] rfl) (fun H locs ls hP hS hl => ?_)
  refine lv_iload_n hx hb dX3_mostWantedCake_37 rfl (lv_at hl 1 rfl) ?_
  obtain ⟨q1, q2⟩ := zs_i hf
  subst q1; subst q2
  exact z_iret hx hb hr rfl hP hS hlocks (Nat.le_of_ble_eq_true rfl) (Nat.le_of_ble_eq_true rfl) dX3_mostWantedCake_38

def f_X3_gardenCount  (T : zT) : Option (Int32 × zT) := some ((T.1 1 0 8), T)
set_option maxHeartbeats 4000000 in
set_option maxRecDepth 100000 in
theorem c_X3_gardenCount  (T T' : zT) (v : Int32) (hf : f_X3_gardenCount  T = some (v, T')) : zC 0 yX3_gardenCount cX3_gardenCount 1 (some .int) 0  0 0  (fun G _ => [.ref (G 0 0)]) T (fun _ => .inl (some (.int v))) T' := by
  intro l D Y S V G A hl9 hG
  refine vx_ofW (cc := cX3_gardenCount) (maxL := 1) (ret := (some .int)) (by decide) rfl ?_
  intro p e s m args below meth c s₁ B hml hex hv
  obtain ⟨rfl, hK, hP, hA⟩ := hv
  have hx := B.exec
  have hb := B.bytes
  have hr := B.returns
  have hlocks := B.notSynchronized
  have hown : s.vm.findClass RX3 = some m.cls := findClass_of_methodNamed B.named
  have hts := atoms_spec (ws := Cond.code yX3_gardenCount cX3_gardenCount 1 (some .int) :: zWS) B.pre
  have F : zF 0 0  0 0  p l s m _ c cX3_gardenCount 1 RX3 (Cond.code yX3_gardenCount cX3_gardenCount 1 (some .int)) D Y S V G A := ⟨hx, hb, hml, hown, hts, hl9, hG, hK, hA⟩
  have hS : va_S A s.heap s.heap [] := va_S.rf
  have hl := lv_entry ([.ref (G 0 0)]) (n := 1) (Nat.le_of_ble_eq_true rfl)
  rw [lg_entry_eq]
  generalize (lg_sl ([.ref (G 0 0)]) ++ List.replicate (1 - (lg_sl ([.ref (G 0 0)])).length) Slot.unset).toArray = ls at hl ⊢
  have hl : lv_has ls 1 [(0, .ref (G 0 0))] := hl
  unfold f_X3_gardenCount at hf
  refine lv_aload_n hx hb dX3_gardenCount_0 rfl (lv_at hl 0 rfl) ?_
  refine z_get hx hb hts (fun w h => List.mem_cons_of_mem _ (ziX3 w h)) hown hK hP (zV_0 (by decide)) rfl rfl 4 (by decide) (List.mem_cons_of_mem _ m_450) rfl rfl dX3_gardenCount_1 ?_
  refine z_get hx hb hts (fun w h => List.mem_cons_of_mem _ (ziX2 w h)) hown hK hP (zV_r (by decide) (by decide) (by decide)) rfl rfl 8 (by decide) (List.mem_cons_of_mem _ m_85) rfl rfl dX3_gardenCount_4 ?_
  obtain ⟨q1, q2⟩ := zs_i hf
  subst q1; subst q2
  exact z_iret hx hb hr rfl hP hS hlocks (Nat.le_of_ble_eq_true rfl) (Nat.le_of_ble_eq_true rfl) dX3_gardenCount_7

def f_X3_needGarden (p0 : Int32) (T : zT) : Option ((Unit ⊕ Nat) × zT) := (if p0 < 0 then some (.inr 2, T) else (if p0 < (T.1 1 0 8) then some (.inl (), T) else some (.inr 2, T)))
set_option maxHeartbeats 4000000 in
set_option maxRecDepth 100000 in
theorem c_X3_needGarden (p0 : Int32) (T T' : zT) (v : (Unit ⊕ Nat)) (hf : f_X3_needGarden p0 T = some (v, T')) : zC 0 yX3_needGarden cX3_needGarden 2 none 6  1 6  (fun G _ => [.ref (G 0 0), .int p0]) T (fun _ => zrv v) T' := by
  intro l D Y S V G A hl9 hG
  refine vx_ofW (cc := cX3_needGarden) (maxL := 2) (ret := none) (by decide) rfl ?_
  intro p e s m args below meth c s₁ B hml hex hv
  obtain ⟨rfl, hK, hP, hA⟩ := hv
  have hx := B.exec
  have hb := B.bytes
  have hr := B.returns
  have hlocks := B.notSynchronized
  have hown : s.vm.findClass RX3 = some m.cls := findClass_of_methodNamed B.named
  have hts := atoms_spec (ws := Cond.code yX3_needGarden cX3_needGarden 2 none :: zWS) B.pre
  have F : zF 0 6  1 6  p l s m _ c cX3_needGarden 2 RX3 (Cond.code yX3_needGarden cX3_needGarden 2 none) D Y S V G A := ⟨hx, hb, hml, hown, hts, hl9, hG, hK, hA⟩
  have hS : va_S A s.heap s.heap [] := va_S.rf
  have hl := lv_entry ([.ref (G 0 0), .int p0]) (n := 2) (Nat.le_of_ble_eq_true rfl)
  rw [lg_entry_eq]
  generalize (lg_sl ([.ref (G 0 0), .int p0]) ++ List.replicate (2 - (lg_sl ([.ref (G 0 0), .int p0])).length) Slot.unset).toArray = ls at hl ⊢
  have hl : lv_has ls 2 [(0, .ref (G 0 0)), (1, .int p0)] := hl
  unfold f_X3_needGarden at hf
  refine lv_iload_n hx hb dX3_needGarden_0 rfl (lv_at hl 1 rfl) ?_
  refine lv_if_lt (tgt := 15) hx hb dX3_needGarden_1 (by decide) (fun hc => ?_) (fun hc => ?_)
  · have hf := zif_p hf hc
    cases hf
    exact z_throwW_2 F 24 rfl hP hS hl.1 hlocks hex (Nat.le_of_ble_eq_true rfl) (Nat.le_of_ble_eq_true rfl) (Nat.le_of_ble_eq_true rfl) (Nat.le_of_ble_eq_true rfl) dX3_needGarden_15 dX3_needGarden_18 dX3_needGarden_19 dX3_needGarden_22 dX3_needGarden_25 rfl
  · have hf := zif_n hf hc
    refine lv_iload_n hx hb dX3_needGarden_4 rfl (lv_at hl 1 rfl) ?_
    refine lv_aload_n hx hb dX3_needGarden_5 rfl (lv_at hl 0 rfl) ?_
    refine z_get hx hb hts (fun w h => List.mem_cons_of_mem _ (ziX3 w h)) hown hK hP (zV_0 (by decide)) rfl rfl 4 (by decide) (List.mem_cons_of_mem _ m_450) rfl rfl dX3_needGarden_6 ?_
    refine z_get hx hb hts (fun w h => List.mem_cons_of_mem _ (ziX2 w h)) hown hK hP (zV_r (by decide) (by decide) (by decide)) rfl rfl 8 (by decide) (List.mem_cons_of_mem _ m_85) rfl rfl dX3_needGarden_9 ?_
    refine lv_icmp_lt (tgt := 26) hx hb dX3_needGarden_12 (by decide) (fun hc => ?_) (fun hc => ?_)
    · have hf := zif_p hf hc
      obtain ⟨q1, q2⟩ := zs_i hf
      subst q1; subst q2
      exact z_vret hx hb hr rfl hP hS hlocks (Nat.le_of_ble_eq_true rfl) (Nat.le_of_ble_eq_true rfl) dX3_needGarden_26
    · have hf := zif_n hf hc
      cases hf
      exact z_throwW_2 F 24 rfl hP hS hl.1 hlocks hex (Nat.le_of_ble_eq_true rfl) (Nat.le_of_ble_eq_true rfl) (Nat.le_of_ble_eq_true rfl) (Nat.le_of_ble_eq_true rfl) dX3_needGarden_15 dX3_needGarden_18 dX3_needGarden_19 dX3_needGarden_22 dX3_needGarden_25 rfl

def f_X3_seatsOf (p0 : Int32) (T : zT) : Option ((Int32 ⊕ Nat) × zT) := zx (f_X3_needGarden p0 T) fun v2 T1 => zb (f_X3_cell 3 0 p0 T1) fun v6 T5 => some (.inl v6, T5)
set_option maxHeartbeats 4000000 in
set_option maxRecDepth 100000 in
theorem c_X3_seatsOf (p0 : Int32) (T T' : zT) (v : (Int32 ⊕ Nat)) (hf : f_X3_seatsOf p0 T = some (v, T')) : zC 0 yX3_seatsOf cX3_seatsOf 2 (some .int) 7  1 6  (fun G _ => [.ref (G 0 0), .int p0]) T (fun _ => zri v) T' := by
  intro l D Y S V G A hl9 hG
  refine vx_ofW (cc := cX3_seatsOf) (maxL := 2) (ret := (some .int)) (by decide) rfl ?_
  intro p e s m args below meth c s₁ B hml hex hv
  obtain ⟨rfl, hK, hP, hA⟩ := hv
  have hx := B.exec
  have hb := B.bytes
  have hr := B.returns
  have hlocks := B.notSynchronized
  have hown : s.vm.findClass RX3 = some m.cls := findClass_of_methodNamed B.named
  have hts := atoms_spec (ws := Cond.code yX3_seatsOf cX3_seatsOf 2 (some .int) :: zWS) B.pre
  have F : zF 0 7  1 6  p l s m _ c cX3_seatsOf 2 RX3 (Cond.code yX3_seatsOf cX3_seatsOf 2 (some .int)) D Y S V G A := ⟨hx, hb, hml, hown, hts, hl9, hG, hK, hA⟩
  have hS : va_S A s.heap s.heap [] := va_S.rf
  have hl := lv_entry ([.ref (G 0 0), .int p0]) (n := 2) (Nat.le_of_ble_eq_true rfl)
  rw [lg_entry_eq]
  generalize (lg_sl ([.ref (G 0 0), .int p0]) ++ List.replicate (2 - (lg_sl ([.ref (G 0 0), .int p0])).length) Slot.unset).toArray = ls at hl ⊢
  have hl : lv_has ls 2 [(0, .ref (G 0 0)), (1, .int p0)] := hl
  unfold f_X3_seatsOf at hf
  refine lv_aload_n hx hb dX3_seatsOf_0 rfl (lv_at hl 0 rfl) ?_
  refine lv_iload_n hx hb dX3_seatsOf_1 rfl (lv_at hl 1 rfl) ?_
  rcases zx_i hf with ⟨v2, T1, h3, hf⟩ | ⟨y4, T1, h3, hf⟩
  · refine z_ok (z_runV (As := [.int p0]) (rest := []) F k_X3_needGarden m_714 (c_X3_needGarden p0 T T1 _ h3) hP hS (zV_0 (by decide)) rfl rfl rfl rfl hl.1 (Nat.le_of_ble_eq_true rfl) dX3_seatsOf_2 (Nat.le_of_ble_eq_true rfl) ⟨Nat.le_of_ble_eq_true rfl, Nat.le_of_ble_eq_true rfl⟩ rfl) hS (fun H locs hP hS => ?_)
    refine lv_aload_n hx hb dX3_seatsOf_5 rfl (lv_at hl 0 rfl) ?_
    refine z_get hx hb hts (fun w h => List.mem_cons_of_mem _ (ziX3 w h)) hown hK hP (zV_0 (by decide)) rfl rfl 4 (by decide) (List.mem_cons_of_mem _ m_450) rfl rfl dX3_seatsOf_6 ?_
    refine z_get hx hb hts (fun w h => List.mem_cons_of_mem _ (ziX2 w h)) hown hK hP (zV_r (by decide) (by decide) (by decide)) rfl rfl 11 (by decide) (List.mem_cons_of_mem _ m_93) rfl rfl dX3_seatsOf_9 ?_
    refine lv_iload_n hx hb dX3_seatsOf_12 rfl (lv_at hl 1 rfl) ?_
    obtain ⟨v6, T5, h7, hf⟩ := zb_i hf
    refine z_ok (z_runS (As := [.ref (G 3 0), .int p0]) (rest := []) F k_X3_cell m_692 (c_X3_cell 3 0 (zIA_r (by decide) (by decide) (by decide)) p0 T1 T5 _ h7) hP hS rfl rfl hl.1 (Nat.le_of_ble_eq_true rfl) dX3_seatsOf_13 (Nat.le_of_ble_eq_true rfl) ⟨Nat.le_of_ble_eq_true rfl, Nat.le_of_ble_eq_true rfl⟩ rfl) hS (fun H locs hP hS => ?_)
    obtain ⟨q1, q2⟩ := zs_i hf
    subst q1; subst q2
    exact z_iret hx hb hr rfl hP hS hlocks (Nat.le_of_ble_eq_true rfl) (Nat.le_of_ble_eq_true rfl) dX3_seatsOf_16
  · cases hf
    exact z_ex (z_runV (As := [.int p0]) (rest := []) F k_X3_needGarden m_714 (c_X3_needGarden p0 T T' _ h3) hP hS (zV_0 (by decide)) rfl rfl rfl rfl hl.1 (Nat.le_of_ble_eq_true rfl) dX3_seatsOf_2 (Nat.le_of_ble_eq_true rfl) ⟨Nat.le_of_ble_eq_true rfl, Nat.le_of_ble_eq_true rfl⟩ rfl) hS hex hlocks rfl (Nat.le_of_ble_eq_true rfl) (Nat.le_of_ble_eq_true rfl)

def f_X3_needDate (p0 : Int32) (p1 : Int32) (T : zT) : Option ((Unit ⊕ Nat) × zT) := (if p0 < 1 then some (.inr 1, T) else (if 12 < p0 then some (.inr 1, T) else (if p1 < 1 then some (.inr 1, T) else (if p1 ≤ 30 then some (.inl (), T) else some (.inr 1, T)))))
set_option maxHeartbeats 4000000 in
set_option maxRecDepth 100000 in
theorem c_X3_needDate (p0 : Int32) (p1 : Int32) (T T' : zT) (v : (Unit ⊕ Nat)) (hf : f_X3_needDate p0 p1 T = some (v, T')) : zC 0 yX3_needDate cX3_needDate 2 none 6  1 6  (fun _ _ => [.int p0, .int p1]) T (fun _ => zrv v) T' := by
  intro l D Y S V G A hl9 hG
  refine vx_ofW (cc := cX3_needDate) (maxL := 2) (ret := none) (by decide) rfl ?_
  intro p e s m args below meth c s₁ B hml hex hv
  obtain ⟨rfl, hK, hP, hA⟩ := hv
  have hx := B.exec
  have hb := B.bytes
  have hr := B.returns
  have hlocks := B.notSynchronized
  have hown : s.vm.findClass RX3 = some m.cls := findClass_of_methodNamed B.named
  have hts := atoms_spec (ws := Cond.code yX3_needDate cX3_needDate 2 none :: zWS) B.pre
  have F : zF 0 6  1 6  p l s m _ c cX3_needDate 2 RX3 (Cond.code yX3_needDate cX3_needDate 2 none) D Y S V G A := ⟨hx, hb, hml, hown, hts, hl9, hG, hK, hA⟩
  have hS : va_S A s.heap s.heap [] := va_S.rf
  have hl := lv_entry ([.int p0, .int p1]) (n := 2) (Nat.le_of_ble_eq_true rfl)
  rw [lg_entry_eq]
  generalize (lg_sl ([.int p0, .int p1]) ++ List.replicate (2 - (lg_sl ([.int p0, .int p1])).length) Slot.unset).toArray = ls at hl ⊢
  have hl : lv_has ls 2 [(0, .int p0), (1, .int p1)] := hl
  unfold f_X3_needDate at hf
  refine lv_iload_n hx hb dX3_needDate_0 rfl (lv_at hl 0 rfl) ?_
  refine lv_iconst (v := 1) hx hb dX3_needDate_1 (by decide) ?_
  refine lv_icmp_lt (tgt := 22) hx hb dX3_needDate_2 (by decide) (fun hc => ?_) (fun hc => ?_)
  · have hf := zif_p hf hc
    cases hf
    exact z_throw_1 F 22 rfl hP hS hl.1 hlocks hex (Nat.le_of_ble_eq_true rfl) (Nat.le_of_ble_eq_true rfl) (Nat.le_of_ble_eq_true rfl) (Nat.le_of_ble_eq_true rfl) dX3_needDate_22 dX3_needDate_25 dX3_needDate_26 dX3_needDate_28 dX3_needDate_31 rfl
  · have hf := zif_n hf hc
    refine lv_iload_n hx hb dX3_needDate_5 rfl (lv_at hl 0 rfl) ?_
    refine lv_bipush (v := 12) hx hb dX3_needDate_6 (by decide) ?_
    refine lv_icmp_gt (tgt := 22) hx hb dX3_needDate_8 (by decide) (fun hc => ?_) (fun hc => ?_)
    · have hf := zif_p hf hc
      cases hf
      exact z_throw_1 F 22 rfl hP hS hl.1 hlocks hex (Nat.le_of_ble_eq_true rfl) (Nat.le_of_ble_eq_true rfl) (Nat.le_of_ble_eq_true rfl) (Nat.le_of_ble_eq_true rfl) dX3_needDate_22 dX3_needDate_25 dX3_needDate_26 dX3_needDate_28 dX3_needDate_31 rfl
    · have hf := zif_n hf hc
      refine lv_iload_n hx hb dX3_needDate_11 rfl (lv_at hl 1 rfl) ?_
      refine lv_iconst (v := 1) hx hb dX3_needDate_12 (by decide) ?_
      refine lv_icmp_lt (tgt := 22) hx hb dX3_needDate_13 (by decide) (fun hc => ?_) (fun hc => ?_)
      · have hf := zif_p hf hc
        cases hf
        exact z_throw_1 F 22 rfl hP hS hl.1 hlocks hex (Nat.le_of_ble_eq_true rfl) (Nat.le_of_ble_eq_true rfl) (Nat.le_of_ble_eq_true rfl) (Nat.le_of_ble_eq_true rfl) dX3_needDate_22 dX3_needDate_25 dX3_needDate_26 dX3_needDate_28 dX3_needDate_31 rfl
      · have hf := zif_n hf hc
        refine lv_iload_n hx hb dX3_needDate_16 rfl (lv_at hl 1 rfl) ?_
        refine lv_bipush (v := 30) hx hb dX3_needDate_17 (by decide) ?_
        refine lv_icmp_le (tgt := 32) hx hb dX3_needDate_19 (by decide) (fun hc => ?_) (fun hc => ?_)
        · have hf := zif_p hf hc
          obtain ⟨q1, q2⟩ := zs_i hf
          subst q1; subst q2
          exact z_vret hx hb hr rfl hP hS hlocks (Nat.le_of_ble_eq_true rfl) (Nat.le_of_ble_eq_true rfl) dX3_needDate_32
        · have hf := zif_n hf hc
          cases hf
          exact z_throw_1 F 22 rfl hP hS hl.1 hlocks hex (Nat.le_of_ble_eq_true rfl) (Nat.le_of_ble_eq_true rfl) (Nat.le_of_ble_eq_true rfl) (Nat.le_of_ble_eq_true rfl) dX3_needDate_22 dX3_needDate_25 dX3_needDate_26 dX3_needDate_28 dX3_needDate_31 rfl

def lp_X3_partyIn_20 (w1 : Int32) (w4 : Int32) : Nat → Int32 → zT → Option ((Nat × Int32) × zT)
  | 0, _, _ => none
  | n + 1, u5, T => (if (T.1 1 0 9) ≤ u5 then some ((1, u5), T) else zb (f_X3_cell 8 0 u5 T) fun v13 T12 => (if v13 = w1 then zb (f_X3_cell 9 0 u5 T12) fun v17 T16 => (if v17 = w4 then some ((0, u5), T16) else zl (u5 + 1) fun x19 => lp_X3_partyIn_20 w1 w4 n x19 T16) else zl (u5 + 1) fun x15 => lp_X3_partyIn_20 w1 w4 n x15 T12))
def f_X3_partyIn (p0 : Int32) (p1 : Int32) (p2 : Int32) (T : zT) : Option ((Int32 ⊕ Nat) × zT) := zx (f_X3_needGarden p0 T) fun v2 T1 => zx (f_X3_needDate p1 p2 T1) fun v6 T5 => zb (f_X3_dateOf p1 p2 T5) fun v10 T9 => zb (lp_X3_partyIn_20 p0 v10 2000 0 T9) fun v21 T20 => if v21.1 = 0 then some (.inl v21.2, T20) else if v21.1 = 1 then some (.inl (-1), T20) else none
set_option maxHeartbeats 4000000 in
set_option maxRecDepth 100000 in
theorem l_X3_partyIn_20 {p : Program} {l : Launch} {e : Env} {s : State} {m : MethodId} {args : Array Value} {below : List Frame} {meth : Method} {c : Code} {Q : State → Prop} {D : va_G} {Y : Nat → ClassId} {S V : Nat → Nat} {G : Nat → Nat → Nat} {A : Nat → Prop} {c0 : Cond} {mc ms cells slots : Nat} (F : zF 0 7 mc ms p l s m args c cX3_partyIn 6 RX3 c0 D Y S V G A) (hcs : cells ≤ mc ∧ slots ≤ ms) (w1 : Int32) (w4 : Int32) :
    ∀ (n : Nat) (u5 : Int32) (T : zT) (o : (Nat × Int32) × zT) (H : Heap) (locs : List Loc) (ls : Array Slot), lp_X3_partyIn_20 w1 w4 n u5 T = some o → zP 0 D Y G T H → va_S A s.heap H locs → lv_has ls 6 [(0, .ref (G 0 0)), (1, .int w1), (4, .int w4), (5, .int u5)] → (o.1.1 = 0 → ∀ (H : Heap) (locs : List Loc) (ls : Array Slot), zP 0 D Y G o.2 H → va_S A s.heap H locs → lv_has ls 6 [(0, .ref (G 0 0)), (1, .int w1), (4, .int w4), (5, .int o.1.2)] → W p l e (zR 7 mc ms) s m args below meth c H locs cells slots Q (F0 m 65 ls [])) → (o.1.1 = 1 → ∀ (H : Heap) (locs : List Loc) (ls : Array Slot), zP 0 D Y G o.2 H → va_S A s.heap H locs → lv_has ls 6 [(0, .ref (G 0 0)), (1, .int w1), (4, .int w4), (5, .int o.1.2)] → W p l e (zR 7 mc ms) s m args below meth c H locs cells slots Q (F0 m 74 ls [])) → W p l e (zR 7 mc ms) s m args below meth c H locs cells slots Q (F0 m 20 ls []) := by
  obtain ⟨hx, hb, hml, hown, hts, hl9, hG, hK, hA⟩ := id F
  intro n
  induction n with
  | zero =>
    intro u5 T o H locs ls hf
    rw [lp_X3_partyIn_20] at hf
    cases hf
  | succ n ih =>
    intro u5 T o H locs ls hf hP hS hl k0_ k1_
    rw [lp_X3_partyIn_20] at hf
    refine lv_iload hx hb dX3_partyIn_20 (lv_at hl 3 rfl) ?_
    refine lv_aload_n hx hb dX3_partyIn_22 rfl (lv_at hl 0 rfl) ?_
    refine z_get hx hb hts (fun w h => List.mem_cons_of_mem _ (ziX3 w h)) hown hK hP (zV_0 (by decide)) rfl rfl 4 (by decide) (List.mem_cons_of_mem _ m_450) rfl rfl dX3_partyIn_23 ?_
    refine z_get hx hb hts (fun w h => List.mem_cons_of_mem _ (ziX2 w h)) hown hK hP (zV_r (by decide) (by decide) (by decide)) rfl rfl 9 (by decide) (List.mem_cons_of_mem _ m_87) rfl rfl dX3_partyIn_26 ?_
    refine lv_icmp_ge (tgt := 74) hx hb dX3_partyIn_29 (by decide) (fun hc => ?_) (fun hc => ?_)
    · have hf := zif_p hf hc
      cases hf
      exact k1_ rfl _ _ _ hP hS (lv_sub hl [0, 1, 2, 3] rfl)
    · have hf := zif_n hf hc
      refine lv_aload_n hx hb dX3_partyIn_32 rfl (lv_at hl 0 rfl) ?_
      refine z_get hx hb hts (fun w h => List.mem_cons_of_mem _ (ziX3 w h)) hown hK hP (zV_0 (by decide)) rfl rfl 4 (by decide) (List.mem_cons_of_mem _ m_450) rfl rfl dX3_partyIn_33 ?_
      refine z_get hx hb hts (fun w h => List.mem_cons_of_mem _ (ziX2 w h)) hown hK hP (zV_r (by decide) (by decide) (by decide)) rfl rfl 16 (by decide) (List.mem_cons_of_mem _ m_103) rfl rfl dX3_partyIn_36 ?_
      refine lv_iload hx hb dX3_partyIn_39 (lv_at hl 3 rfl) ?_
      obtain ⟨v13, T12, h14, hf⟩ := zb_i hf
      refine z_ok (z_runS (As := [.ref (G 8 0), .int u5]) (rest := []) F k_X3_cell m_692 (c_X3_cell 8 0 (zIA_r (by decide) (by decide) (by decide)) u5 T T12 _ h14) hP hS rfl rfl hl.1 (Nat.le_of_ble_eq_true rfl) dX3_partyIn_41 (Nat.le_of_ble_eq_true rfl) ⟨hcs.1, hcs.2⟩ rfl) hS (fun H locs hP hS => ?_)
      refine lv_iload_n hx hb dX3_partyIn_44 rfl (lv_at hl 1 rfl) ?_
      refine lv_icmp_ne (tgt := 68) hx hb dX3_partyIn_45 (by decide) (fun hc => ?_) (fun hc => ?_)
      · have hf := zif_n hf hc
        obtain ⟨x15, ex15, hf⟩ := zl_i hf
        refine lv_iinc (v := x15) (lv' := [(5, .int x15), (0, .ref (G 0 0)), (1, .int w1), (4, .int w4)]) hx hb dX3_partyIn_68 hl (k := 3) rfl (by rw [ex15]; rfl) (by decide) rfl (fun ls hl => ?_)
        refine lv_goto (tgt := 20) hx hb dX3_partyIn_71 (by decide) ?_
        exact ih x15 _ _ _ _ _ hf hP hS (lv_sub hl [1, 2, 3, 0] rfl) k0_ k1_
      · have hf := zif_p hf hc
        refine lv_aload_n hx hb dX3_partyIn_48 rfl (lv_at hl 0 rfl) ?_
        refine z_get hx hb hts (fun w h => List.mem_cons_of_mem _ (ziX3 w h)) hown hK hP (zV_0 (by decide)) rfl rfl 4 (by decide) (List.mem_cons_of_mem _ m_450) rfl rfl dX3_partyIn_49 ?_
        refine z_get hx hb hts (fun w h => List.mem_cons_of_mem _ (ziX2 w h)) hown hK hP (zV_r (by decide) (by decide) (by decide)) rfl rfl 17 (by decide) (List.mem_cons_of_mem _ m_106) rfl rfl dX3_partyIn_52 ?_
        refine lv_iload hx hb dX3_partyIn_55 (lv_at hl 3 rfl) ?_
        obtain ⟨v17, T16, h18, hf⟩ := zb_i hf
        refine z_ok (z_runS (As := [.ref (G 9 0), .int u5]) (rest := []) F k_X3_cell m_692 (c_X3_cell 9 0 (zIA_r (by decide) (by decide) (by decide)) u5 T12 T16 _ h18) hP hS rfl rfl hl.1 (Nat.le_of_ble_eq_true rfl) dX3_partyIn_57 (Nat.le_of_ble_eq_true rfl) ⟨hcs.1, hcs.2⟩ rfl) hS (fun H locs hP hS => ?_)
        refine lv_iload hx hb dX3_partyIn_60 (lv_at hl 2 rfl) ?_
        refine lv_icmp_ne (tgt := 68) hx hb dX3_partyIn_62 (by decide) (fun hc => ?_) (fun hc => ?_)
        · have hf := zif_n hf hc
          obtain ⟨x19, ex19, hf⟩ := zl_i hf
          refine lv_iinc (v := x19) (lv' := [(5, .int x19), (0, .ref (G 0 0)), (1, .int w1), (4, .int w4)]) hx hb dX3_partyIn_68 hl (k := 3) rfl (by rw [ex19]; rfl) (by decide) rfl (fun ls hl => ?_)
          refine lv_goto (tgt := 20) hx hb dX3_partyIn_71 (by decide) ?_
          exact ih x19 _ _ _ _ _ hf hP hS (lv_sub hl [1, 2, 3, 0] rfl) k0_ k1_
        · have hf := zif_p hf hc
          cases hf
          exact k0_ rfl _ _ _ hP hS (lv_sub hl [0, 1, 2, 3] rfl)
set_option maxHeartbeats 4000000 in
set_option maxRecDepth 100000 in
theorem c_X3_partyIn (p0 : Int32) (p1 : Int32) (p2 : Int32) (T T' : zT) (v : (Int32 ⊕ Nat)) (hf : f_X3_partyIn p0 p1 p2 T = some (v, T')) : zC 0 yX3_partyIn cX3_partyIn 6 (some .int) 7  2 12  (fun G _ => [.ref (G 0 0), .int p0, .int p1, .int p2]) T (fun _ => zri v) T' := by
  intro l D Y S V G A hl9 hG
  refine vx_ofW (cc := cX3_partyIn) (maxL := 6) (ret := (some .int)) (by decide) rfl ?_
  intro p e s m args below meth c s₁ B hml hex hv
  obtain ⟨rfl, hK, hP, hA⟩ := hv
  have hx := B.exec
  have hb := B.bytes
  have hr := B.returns
  have hlocks := B.notSynchronized
  have hown : s.vm.findClass RX3 = some m.cls := findClass_of_methodNamed B.named
  have hts := atoms_spec (ws := Cond.code yX3_partyIn cX3_partyIn 6 (some .int) :: zWS) B.pre
  have F : zF 0 7  2 12  p l s m _ c cX3_partyIn 6 RX3 (Cond.code yX3_partyIn cX3_partyIn 6 (some .int)) D Y S V G A := ⟨hx, hb, hml, hown, hts, hl9, hG, hK, hA⟩
  have hS : va_S A s.heap s.heap [] := va_S.rf
  have hl := lv_entry ([.ref (G 0 0), .int p0, .int p1, .int p2]) (n := 6) (Nat.le_of_ble_eq_true rfl)
  rw [lg_entry_eq]
  generalize (lg_sl ([.ref (G 0 0), .int p0, .int p1, .int p2]) ++ List.replicate (6 - (lg_sl ([.ref (G 0 0), .int p0, .int p1, .int p2])).length) Slot.unset).toArray = ls at hl ⊢
  have hl : lv_has ls 6 [(0, .ref (G 0 0)), (1, .int p0), (2, .int p1), (3, .int p2)] := hl
  unfold f_X3_partyIn at hf
  refine lv_aload_n hx hb dX3_partyIn_0 rfl (lv_at hl 0 rfl) ?_
  refine lv_iload_n hx hb dX3_partyIn_1 rfl (lv_at hl 1 rfl) ?_
  rcases zx_i hf with ⟨v2, T1, h3, hf⟩ | ⟨y4, T1, h3, hf⟩
  · refine z_ok (z_runV (As := [.int p0]) (rest := []) F k_X3_needGarden m_714 (c_X3_needGarden p0 T T1 _ h3) hP hS (zV_0 (by decide)) rfl rfl rfl rfl hl.1 (Nat.le_of_ble_eq_true rfl) dX3_partyIn_2 (Nat.le_of_ble_eq_true rfl) ⟨Nat.le_of_ble_eq_true rfl, Nat.le_of_ble_eq_true rfl⟩ rfl) hS (fun H locs hP hS => ?_)
    refine lv_iload_n hx hb dX3_partyIn_5 rfl (lv_at hl 2 rfl) ?_
    refine lv_iload_n hx hb dX3_partyIn_6 rfl (lv_at hl 3 rfl) ?_
    rcases zx_i hf with ⟨v6, T5, h7, hf⟩ | ⟨y8, T5, h7, hf⟩
    · refine z_ok (z_runS (As := [.int p1, .int p2]) (rest := []) F k_X3_needDate m_687 (c_X3_needDate p1 p2 T1 T5 _ h7) hP hS rfl rfl hl.1 (Nat.le_of_ble_eq_true rfl) dX3_partyIn_7 (Nat.le_of_ble_eq_true rfl) ⟨Nat.le_of_ble_eq_true rfl, Nat.le_of_ble_eq_true rfl⟩ rfl) hS (fun H locs hP hS => ?_)
      refine lv_iload_n hx hb dX3_partyIn_10 rfl (lv_at hl 2 rfl) ?_
      refine lv_iload_n hx hb dX3_partyIn_11 rfl (lv_at hl 3 rfl) ?_
      obtain ⟨v10, T9, h11, hf⟩ := zb_i hf
      refine z_ok (z_runS (As := [.int p1, .int p2]) (rest := []) F k_X3_dateOf m_691 (c_X3_dateOf p1 p2 T5 T9 _ h11) hP hS rfl rfl hl.1 (Nat.le_of_ble_eq_true rfl) dX3_partyIn_12 (Nat.le_of_ble_eq_true rfl) ⟨Nat.le_of_ble_eq_true rfl, Nat.le_of_ble_eq_true rfl⟩ rfl) hS (fun H locs hP hS => ?_)
      refine lv_istore (lv' := [(4, .int v10), (0, .ref (G 0 0)), (1, .int p0), (2, .int p1), (3, .int p2)]) hx hb dX3_partyIn_15 hl (by decide) rfl (fun ls hl => ?_)
      refine lv_iconst (v := 0) hx hb dX3_partyIn_17 (by decide) ?_
      refine lv_istore (lv' := [(5, .int 0), (4, .int v10), (0, .ref (G 0 0)), (1, .int p0), (2, .int p1), (3, .int p2)]) hx hb dX3_partyIn_18 hl (by decide) rfl (fun ls hl => ?_)
      obtain ⟨v21, T20, h22, hf⟩ := zb_i hf
      refine l_X3_partyIn_20 F ⟨Nat.le_of_ble_eq_true rfl, Nat.le_of_ble_eq_true rfl⟩ p0 v10 2000 0 _ _ _ _ _ h22 hP hS (lv_sub hl [2, 3, 1, 0] rfl) (fun hc H locs ls hP hS hl => ?_) (fun hc H locs ls hP hS hl => ?_)
      · have hf := zif_p hf hc
        refine lv_iload hx hb dX3_partyIn_65 (lv_at hl 3 rfl) ?_
        obtain ⟨q1, q2⟩ := zs_i hf
        subst q1; subst q2
        exact z_iret hx hb hr rfl hP hS hlocks (Nat.le_of_ble_eq_true rfl) (Nat.le_of_ble_eq_true rfl) dX3_partyIn_67
      · have hf := zif_n hf (by rw [hc]; decide)
        have hf := zif_p hf hc
        refine lv_iconst (v := (-1)) hx hb dX3_partyIn_74 (by decide) ?_
        obtain ⟨q1, q2⟩ := zs_i hf
        subst q1; subst q2
        exact z_iret hx hb hr rfl hP hS hlocks (Nat.le_of_ble_eq_true rfl) (Nat.le_of_ble_eq_true rfl) dX3_partyIn_75
    · cases hf
      exact z_ex (z_runS (As := [.int p1, .int p2]) (rest := []) F k_X3_needDate m_687 (c_X3_needDate p1 p2 T1 T' _ h7) hP hS rfl rfl hl.1 (Nat.le_of_ble_eq_true rfl) dX3_partyIn_7 (Nat.le_of_ble_eq_true rfl) ⟨Nat.le_of_ble_eq_true rfl, Nat.le_of_ble_eq_true rfl⟩ rfl) hS hex hlocks rfl (Nat.le_of_ble_eq_true rfl) (Nat.le_of_ble_eq_true rfl)
  · cases hf
    exact z_ex (z_runV (As := [.int p0]) (rest := []) F k_X3_needGarden m_714 (c_X3_needGarden p0 T T' _ h3) hP hS (zV_0 (by decide)) rfl rfl rfl rfl hl.1 (Nat.le_of_ble_eq_true rfl) dX3_partyIn_2 (Nat.le_of_ble_eq_true rfl) ⟨Nat.le_of_ble_eq_true rfl, Nat.le_of_ble_eq_true rfl⟩ rfl) hS hex hlocks rfl (Nat.le_of_ble_eq_true rfl) (Nat.le_of_ble_eq_true rfl)

def f_X3_childCount  (T : zT) : Option (Int32 × zT) := some ((T.1 1 0 9), T)
set_option maxHeartbeats 4000000 in
set_option maxRecDepth 100000 in
theorem c_X3_childCount  (T T' : zT) (v : Int32) (hf : f_X3_childCount  T = some (v, T')) : zC 0 yX3_childCount cX3_childCount 1 (some .int) 0  0 0  (fun G _ => [.ref (G 0 0)]) T (fun _ => .inl (some (.int v))) T' := by
  intro l D Y S V G A hl9 hG
  refine vx_ofW (cc := cX3_childCount) (maxL := 1) (ret := (some .int)) (by decide) rfl ?_
  intro p e s m args below meth c s₁ B hml hex hv
  obtain ⟨rfl, hK, hP, hA⟩ := hv
  have hx := B.exec
  have hb := B.bytes
  have hr := B.returns
  have hlocks := B.notSynchronized
  have hown : s.vm.findClass RX3 = some m.cls := findClass_of_methodNamed B.named
  have hts := atoms_spec (ws := Cond.code yX3_childCount cX3_childCount 1 (some .int) :: zWS) B.pre
  have F : zF 0 0  0 0  p l s m _ c cX3_childCount 1 RX3 (Cond.code yX3_childCount cX3_childCount 1 (some .int)) D Y S V G A := ⟨hx, hb, hml, hown, hts, hl9, hG, hK, hA⟩
  have hS : va_S A s.heap s.heap [] := va_S.rf
  have hl := lv_entry ([.ref (G 0 0)]) (n := 1) (Nat.le_of_ble_eq_true rfl)
  rw [lg_entry_eq]
  generalize (lg_sl ([.ref (G 0 0)]) ++ List.replicate (1 - (lg_sl ([.ref (G 0 0)])).length) Slot.unset).toArray = ls at hl ⊢
  have hl : lv_has ls 1 [(0, .ref (G 0 0))] := hl
  unfold f_X3_childCount at hf
  refine lv_aload_n hx hb dX3_childCount_0 rfl (lv_at hl 0 rfl) ?_
  refine z_get hx hb hts (fun w h => List.mem_cons_of_mem _ (ziX3 w h)) hown hK hP (zV_0 (by decide)) rfl rfl 4 (by decide) (List.mem_cons_of_mem _ m_450) rfl rfl dX3_childCount_1 ?_
  refine z_get hx hb hts (fun w h => List.mem_cons_of_mem _ (ziX2 w h)) hown hK hP (zV_r (by decide) (by decide) (by decide)) rfl rfl 9 (by decide) (List.mem_cons_of_mem _ m_87) rfl rfl dX3_childCount_4 ?_
  obtain ⟨q1, q2⟩ := zs_i hf
  subst q1; subst q2
  exact z_iret hx hb hr rfl hP hS hlocks (Nat.le_of_ble_eq_true rfl) (Nat.le_of_ble_eq_true rfl) dX3_childCount_7

def f_X3_needChild (p0 : Int32) (T : zT) : Option ((Unit ⊕ Nat) × zT) := (if p0 < 0 then some (.inr 2, T) else (if p0 < (T.1 1 0 9) then some (.inl (), T) else some (.inr 2, T)))
set_option maxHeartbeats 4000000 in
set_option maxRecDepth 100000 in
theorem c_X3_needChild (p0 : Int32) (T T' : zT) (v : (Unit ⊕ Nat)) (hf : f_X3_needChild p0 T = some (v, T')) : zC 0 yX3_needChild cX3_needChild 2 none 6  1 6  (fun G _ => [.ref (G 0 0), .int p0]) T (fun _ => zrv v) T' := by
  intro l D Y S V G A hl9 hG
  refine vx_ofW (cc := cX3_needChild) (maxL := 2) (ret := none) (by decide) rfl ?_
  intro p e s m args below meth c s₁ B hml hex hv
  obtain ⟨rfl, hK, hP, hA⟩ := hv
  have hx := B.exec
  have hb := B.bytes
  have hr := B.returns
  have hlocks := B.notSynchronized
  have hown : s.vm.findClass RX3 = some m.cls := findClass_of_methodNamed B.named
  have hts := atoms_spec (ws := Cond.code yX3_needChild cX3_needChild 2 none :: zWS) B.pre
  have F : zF 0 6  1 6  p l s m _ c cX3_needChild 2 RX3 (Cond.code yX3_needChild cX3_needChild 2 none) D Y S V G A := ⟨hx, hb, hml, hown, hts, hl9, hG, hK, hA⟩
  have hS : va_S A s.heap s.heap [] := va_S.rf
  have hl := lv_entry ([.ref (G 0 0), .int p0]) (n := 2) (Nat.le_of_ble_eq_true rfl)
  rw [lg_entry_eq]
  generalize (lg_sl ([.ref (G 0 0), .int p0]) ++ List.replicate (2 - (lg_sl ([.ref (G 0 0), .int p0])).length) Slot.unset).toArray = ls at hl ⊢
  have hl : lv_has ls 2 [(0, .ref (G 0 0)), (1, .int p0)] := hl
  unfold f_X3_needChild at hf
  refine lv_iload_n hx hb dX3_needChild_0 rfl (lv_at hl 1 rfl) ?_
  refine lv_if_lt (tgt := 15) hx hb dX3_needChild_1 (by decide) (fun hc => ?_) (fun hc => ?_)
  · have hf := zif_p hf hc
    cases hf
    exact z_throwW_2 F 20 rfl hP hS hl.1 hlocks hex (Nat.le_of_ble_eq_true rfl) (Nat.le_of_ble_eq_true rfl) (Nat.le_of_ble_eq_true rfl) (Nat.le_of_ble_eq_true rfl) dX3_needChild_15 dX3_needChild_18 dX3_needChild_19 dX3_needChild_22 dX3_needChild_25 rfl
  · have hf := zif_n hf hc
    refine lv_iload_n hx hb dX3_needChild_4 rfl (lv_at hl 1 rfl) ?_
    refine lv_aload_n hx hb dX3_needChild_5 rfl (lv_at hl 0 rfl) ?_
    refine z_get hx hb hts (fun w h => List.mem_cons_of_mem _ (ziX3 w h)) hown hK hP (zV_0 (by decide)) rfl rfl 4 (by decide) (List.mem_cons_of_mem _ m_450) rfl rfl dX3_needChild_6 ?_
    refine z_get hx hb hts (fun w h => List.mem_cons_of_mem _ (ziX2 w h)) hown hK hP (zV_r (by decide) (by decide) (by decide)) rfl rfl 9 (by decide) (List.mem_cons_of_mem _ m_87) rfl rfl dX3_needChild_9 ?_
    refine lv_icmp_lt (tgt := 26) hx hb dX3_needChild_12 (by decide) (fun hc => ?_) (fun hc => ?_)
    · have hf := zif_p hf hc
      obtain ⟨q1, q2⟩ := zs_i hf
      subst q1; subst q2
      exact z_vret hx hb hr rfl hP hS hlocks (Nat.le_of_ble_eq_true rfl) (Nat.le_of_ble_eq_true rfl) dX3_needChild_26
    · have hf := zif_n hf hc
      cases hf
      exact z_throwW_2 F 20 rfl hP hS hl.1 hlocks hex (Nat.le_of_ble_eq_true rfl) (Nat.le_of_ble_eq_true rfl) (Nat.le_of_ble_eq_true rfl) (Nat.le_of_ble_eq_true rfl) dX3_needChild_15 dX3_needChild_18 dX3_needChild_19 dX3_needChild_22 dX3_needChild_25 rfl

def f_X3_cakeOf (p0 : Int32) (T : zT) : Option ((Int32 ⊕ Nat) × zT) := zx (f_X3_needChild p0 T) fun v2 T1 => zb (f_X3_cell 5 0 p0 T1) fun v6 T5 => some (.inl v6, T5)
set_option maxHeartbeats 4000000 in
set_option maxRecDepth 100000 in
theorem c_X3_cakeOf (p0 : Int32) (T T' : zT) (v : (Int32 ⊕ Nat)) (hf : f_X3_cakeOf p0 T = some (v, T')) : zC 0 yX3_cakeOf cX3_cakeOf 2 (some .int) 7  1 6  (fun G _ => [.ref (G 0 0), .int p0]) T (fun _ => zri v) T' := by
  intro l D Y S V G A hl9 hG
  refine vx_ofW (cc := cX3_cakeOf) (maxL := 2) (ret := (some .int)) (by decide) rfl ?_
  intro p e s m args below meth c s₁ B hml hex hv
  obtain ⟨rfl, hK, hP, hA⟩ := hv
  have hx := B.exec
  have hb := B.bytes
  have hr := B.returns
  have hlocks := B.notSynchronized
  have hown : s.vm.findClass RX3 = some m.cls := findClass_of_methodNamed B.named
  have hts := atoms_spec (ws := Cond.code yX3_cakeOf cX3_cakeOf 2 (some .int) :: zWS) B.pre
  have F : zF 0 7  1 6  p l s m _ c cX3_cakeOf 2 RX3 (Cond.code yX3_cakeOf cX3_cakeOf 2 (some .int)) D Y S V G A := ⟨hx, hb, hml, hown, hts, hl9, hG, hK, hA⟩
  have hS : va_S A s.heap s.heap [] := va_S.rf
  have hl := lv_entry ([.ref (G 0 0), .int p0]) (n := 2) (Nat.le_of_ble_eq_true rfl)
  rw [lg_entry_eq]
  generalize (lg_sl ([.ref (G 0 0), .int p0]) ++ List.replicate (2 - (lg_sl ([.ref (G 0 0), .int p0])).length) Slot.unset).toArray = ls at hl ⊢
  have hl : lv_has ls 2 [(0, .ref (G 0 0)), (1, .int p0)] := hl
  unfold f_X3_cakeOf at hf
  refine lv_aload_n hx hb dX3_cakeOf_0 rfl (lv_at hl 0 rfl) ?_
  refine lv_iload_n hx hb dX3_cakeOf_1 rfl (lv_at hl 1 rfl) ?_
  rcases zx_i hf with ⟨v2, T1, h3, hf⟩ | ⟨y4, T1, h3, hf⟩
  · refine z_ok (z_runV (As := [.int p0]) (rest := []) F k_X3_needChild m_672 (c_X3_needChild p0 T T1 _ h3) hP hS (zV_0 (by decide)) rfl rfl rfl rfl hl.1 (Nat.le_of_ble_eq_true rfl) dX3_cakeOf_2 (Nat.le_of_ble_eq_true rfl) ⟨Nat.le_of_ble_eq_true rfl, Nat.le_of_ble_eq_true rfl⟩ rfl) hS (fun H locs hP hS => ?_)
    refine lv_aload_n hx hb dX3_cakeOf_5 rfl (lv_at hl 0 rfl) ?_
    refine z_get hx hb hts (fun w h => List.mem_cons_of_mem _ (ziX3 w h)) hown hK hP (zV_0 (by decide)) rfl rfl 4 (by decide) (List.mem_cons_of_mem _ m_450) rfl rfl dX3_cakeOf_6 ?_
    refine z_get hx hb hts (fun w h => List.mem_cons_of_mem _ (ziX2 w h)) hown hK hP (zV_r (by decide) (by decide) (by decide)) rfl rfl 13 (by decide) (List.mem_cons_of_mem _ m_96) rfl rfl dX3_cakeOf_9 ?_
    refine lv_iload_n hx hb dX3_cakeOf_12 rfl (lv_at hl 1 rfl) ?_
    obtain ⟨v6, T5, h7, hf⟩ := zb_i hf
    refine z_ok (z_runS (As := [.ref (G 5 0), .int p0]) (rest := []) F k_X3_cell m_692 (c_X3_cell 5 0 (zIA_r (by decide) (by decide) (by decide)) p0 T1 T5 _ h7) hP hS rfl rfl hl.1 (Nat.le_of_ble_eq_true rfl) dX3_cakeOf_13 (Nat.le_of_ble_eq_true rfl) ⟨Nat.le_of_ble_eq_true rfl, Nat.le_of_ble_eq_true rfl⟩ rfl) hS (fun H locs hP hS => ?_)
    obtain ⟨q1, q2⟩ := zs_i hf
    subst q1; subst q2
    exact z_iret hx hb hr rfl hP hS hlocks (Nat.le_of_ble_eq_true rfl) (Nat.le_of_ble_eq_true rfl) dX3_cakeOf_16
  · cases hf
    exact z_ex (z_runV (As := [.int p0]) (rest := []) F k_X3_needChild m_672 (c_X3_needChild p0 T T' _ h3) hP hS (zV_0 (by decide)) rfl rfl rfl rfl hl.1 (Nat.le_of_ble_eq_true rfl) dX3_cakeOf_2 (Nat.le_of_ble_eq_true rfl) ⟨Nat.le_of_ble_eq_true rfl, Nat.le_of_ble_eq_true rfl⟩ rfl) hS hex hlocks rfl (Nat.le_of_ble_eq_true rfl) (Nat.le_of_ble_eq_true rfl)

def f_X3_breathOf (p0 : Int32) (T : zT) : Option ((Int32 ⊕ Nat) × zT) := zx (f_X3_needChild p0 T) fun v2 T1 => zb (f_X3_cell 6 0 p0 T1) fun v6 T5 => some (.inl v6, T5)
set_option maxHeartbeats 4000000 in
set_option maxRecDepth 100000 in
theorem c_X3_breathOf (p0 : Int32) (T T' : zT) (v : (Int32 ⊕ Nat)) (hf : f_X3_breathOf p0 T = some (v, T')) : zC 0 yX3_breathOf cX3_breathOf 2 (some .int) 7  1 6  (fun G _ => [.ref (G 0 0), .int p0]) T (fun _ => zri v) T' := by
  intro l D Y S V G A hl9 hG
  refine vx_ofW (cc := cX3_breathOf) (maxL := 2) (ret := (some .int)) (by decide) rfl ?_
  intro p e s m args below meth c s₁ B hml hex hv
  obtain ⟨rfl, hK, hP, hA⟩ := hv
  have hx := B.exec
  have hb := B.bytes
  have hr := B.returns
  have hlocks := B.notSynchronized
  have hown : s.vm.findClass RX3 = some m.cls := findClass_of_methodNamed B.named
  have hts := atoms_spec (ws := Cond.code yX3_breathOf cX3_breathOf 2 (some .int) :: zWS) B.pre
  have F : zF 0 7  1 6  p l s m _ c cX3_breathOf 2 RX3 (Cond.code yX3_breathOf cX3_breathOf 2 (some .int)) D Y S V G A := ⟨hx, hb, hml, hown, hts, hl9, hG, hK, hA⟩
  have hS : va_S A s.heap s.heap [] := va_S.rf
  have hl := lv_entry ([.ref (G 0 0), .int p0]) (n := 2) (Nat.le_of_ble_eq_true rfl)
  rw [lg_entry_eq]
  generalize (lg_sl ([.ref (G 0 0), .int p0]) ++ List.replicate (2 - (lg_sl ([.ref (G 0 0), .int p0])).length) Slot.unset).toArray = ls at hl ⊢
  have hl : lv_has ls 2 [(0, .ref (G 0 0)), (1, .int p0)] := hl
  unfold f_X3_breathOf at hf
  refine lv_aload_n hx hb dX3_breathOf_0 rfl (lv_at hl 0 rfl) ?_
  refine lv_iload_n hx hb dX3_breathOf_1 rfl (lv_at hl 1 rfl) ?_
  rcases zx_i hf with ⟨v2, T1, h3, hf⟩ | ⟨y4, T1, h3, hf⟩
  · refine z_ok (z_runV (As := [.int p0]) (rest := []) F k_X3_needChild m_672 (c_X3_needChild p0 T T1 _ h3) hP hS (zV_0 (by decide)) rfl rfl rfl rfl hl.1 (Nat.le_of_ble_eq_true rfl) dX3_breathOf_2 (Nat.le_of_ble_eq_true rfl) ⟨Nat.le_of_ble_eq_true rfl, Nat.le_of_ble_eq_true rfl⟩ rfl) hS (fun H locs hP hS => ?_)
    refine lv_aload_n hx hb dX3_breathOf_5 rfl (lv_at hl 0 rfl) ?_
    refine z_get hx hb hts (fun w h => List.mem_cons_of_mem _ (ziX3 w h)) hown hK hP (zV_0 (by decide)) rfl rfl 4 (by decide) (List.mem_cons_of_mem _ m_450) rfl rfl dX3_breathOf_6 ?_
    refine z_get hx hb hts (fun w h => List.mem_cons_of_mem _ (ziX2 w h)) hown hK hP (zV_r (by decide) (by decide) (by decide)) rfl rfl 14 (by decide) (List.mem_cons_of_mem _ m_98) rfl rfl dX3_breathOf_9 ?_
    refine lv_iload_n hx hb dX3_breathOf_12 rfl (lv_at hl 1 rfl) ?_
    obtain ⟨v6, T5, h7, hf⟩ := zb_i hf
    refine z_ok (z_runS (As := [.ref (G 6 0), .int p0]) (rest := []) F k_X3_cell m_692 (c_X3_cell 6 0 (zIA_r (by decide) (by decide) (by decide)) p0 T1 T5 _ h7) hP hS rfl rfl hl.1 (Nat.le_of_ble_eq_true rfl) dX3_breathOf_13 (Nat.le_of_ble_eq_true rfl) ⟨Nat.le_of_ble_eq_true rfl, Nat.le_of_ble_eq_true rfl⟩ rfl) hS (fun H locs hP hS => ?_)
    obtain ⟨q1, q2⟩ := zs_i hf
    subst q1; subst q2
    exact z_iret hx hb hr rfl hP hS hlocks (Nat.le_of_ble_eq_true rfl) (Nat.le_of_ble_eq_true rfl) dX3_breathOf_16
  · cases hf
    exact z_ex (z_runV (As := [.int p0]) (rest := []) F k_X3_needChild m_672 (c_X3_needChild p0 T T' _ h3) hP hS (zV_0 (by decide)) rfl rfl rfl rfl hl.1 (Nat.le_of_ble_eq_true rfl) dX3_breathOf_2 (Nat.le_of_ble_eq_true rfl) ⟨Nat.le_of_ble_eq_true rfl, Nat.le_of_ble_eq_true rfl⟩ rfl) hS hex hlocks rfl (Nat.le_of_ble_eq_true rfl) (Nat.le_of_ble_eq_true rfl)

def f_X3_ageOf (p0 : Int32) (T : zT) : Option ((Int32 ⊕ Nat) × zT) := zx (f_X3_needChild p0 T) fun v2 T1 => zb (f_X3_cell 7 0 p0 T1) fun v6 T5 => some (.inl v6, T5)
set_option maxHeartbeats 4000000 in
set_option maxRecDepth 100000 in
theorem c_X3_ageOf (p0 : Int32) (T T' : zT) (v : (Int32 ⊕ Nat)) (hf : f_X3_ageOf p0 T = some (v, T')) : zC 0 yX3_ageOf cX3_ageOf 2 (some .int) 7  1 6  (fun G _ => [.ref (G 0 0), .int p0]) T (fun _ => zri v) T' := by
  intro l D Y S V G A hl9 hG
  refine vx_ofW (cc := cX3_ageOf) (maxL := 2) (ret := (some .int)) (by decide) rfl ?_
  intro p e s m args below meth c s₁ B hml hex hv
  obtain ⟨rfl, hK, hP, hA⟩ := hv
  have hx := B.exec
  have hb := B.bytes
  have hr := B.returns
  have hlocks := B.notSynchronized
  have hown : s.vm.findClass RX3 = some m.cls := findClass_of_methodNamed B.named
  have hts := atoms_spec (ws := Cond.code yX3_ageOf cX3_ageOf 2 (some .int) :: zWS) B.pre
  have F : zF 0 7  1 6  p l s m _ c cX3_ageOf 2 RX3 (Cond.code yX3_ageOf cX3_ageOf 2 (some .int)) D Y S V G A := ⟨hx, hb, hml, hown, hts, hl9, hG, hK, hA⟩
  have hS : va_S A s.heap s.heap [] := va_S.rf
  have hl := lv_entry ([.ref (G 0 0), .int p0]) (n := 2) (Nat.le_of_ble_eq_true rfl)
  rw [lg_entry_eq]
  generalize (lg_sl ([.ref (G 0 0), .int p0]) ++ List.replicate (2 - (lg_sl ([.ref (G 0 0), .int p0])).length) Slot.unset).toArray = ls at hl ⊢
  have hl : lv_has ls 2 [(0, .ref (G 0 0)), (1, .int p0)] := hl
  unfold f_X3_ageOf at hf
  refine lv_aload_n hx hb dX3_ageOf_0 rfl (lv_at hl 0 rfl) ?_
  refine lv_iload_n hx hb dX3_ageOf_1 rfl (lv_at hl 1 rfl) ?_
  rcases zx_i hf with ⟨v2, T1, h3, hf⟩ | ⟨y4, T1, h3, hf⟩
  · refine z_ok (z_runV (As := [.int p0]) (rest := []) F k_X3_needChild m_672 (c_X3_needChild p0 T T1 _ h3) hP hS (zV_0 (by decide)) rfl rfl rfl rfl hl.1 (Nat.le_of_ble_eq_true rfl) dX3_ageOf_2 (Nat.le_of_ble_eq_true rfl) ⟨Nat.le_of_ble_eq_true rfl, Nat.le_of_ble_eq_true rfl⟩ rfl) hS (fun H locs hP hS => ?_)
    refine lv_aload_n hx hb dX3_ageOf_5 rfl (lv_at hl 0 rfl) ?_
    refine z_get hx hb hts (fun w h => List.mem_cons_of_mem _ (ziX3 w h)) hown hK hP (zV_0 (by decide)) rfl rfl 4 (by decide) (List.mem_cons_of_mem _ m_450) rfl rfl dX3_ageOf_6 ?_
    refine z_get hx hb hts (fun w h => List.mem_cons_of_mem _ (ziX2 w h)) hown hK hP (zV_r (by decide) (by decide) (by decide)) rfl rfl 15 (by decide) (List.mem_cons_of_mem _ m_100) rfl rfl dX3_ageOf_9 ?_
    refine lv_iload_n hx hb dX3_ageOf_12 rfl (lv_at hl 1 rfl) ?_
    obtain ⟨v6, T5, h7, hf⟩ := zb_i hf
    refine z_ok (z_runS (As := [.ref (G 7 0), .int p0]) (rest := []) F k_X3_cell m_692 (c_X3_cell 7 0 (zIA_r (by decide) (by decide) (by decide)) p0 T1 T5 _ h7) hP hS rfl rfl hl.1 (Nat.le_of_ble_eq_true rfl) dX3_ageOf_13 (Nat.le_of_ble_eq_true rfl) ⟨Nat.le_of_ble_eq_true rfl, Nat.le_of_ble_eq_true rfl⟩ rfl) hS (fun H locs hP hS => ?_)
    obtain ⟨q1, q2⟩ := zs_i hf
    subst q1; subst q2
    exact z_iret hx hb hr rfl hP hS hlocks (Nat.le_of_ble_eq_true rfl) (Nat.le_of_ble_eq_true rfl) dX3_ageOf_16
  · cases hf
    exact z_ex (z_runV (As := [.int p0]) (rest := []) F k_X3_needChild m_672 (c_X3_needChild p0 T T' _ h3) hP hS (zV_0 (by decide)) rfl rfl rfl rfl hl.1 (Nat.le_of_ble_eq_true rfl) dX3_ageOf_2 (Nat.le_of_ble_eq_true rfl) ⟨Nat.le_of_ble_eq_true rfl, Nat.le_of_ble_eq_true rfl⟩ rfl) hS hex hlocks rfl (Nat.le_of_ble_eq_true rfl) (Nat.le_of_ble_eq_true rfl)

def f_X3_gardenOf (p0 : Int32) (T : zT) : Option ((Int32 ⊕ Nat) × zT) := zx (f_X3_needChild p0 T) fun v2 T1 => zb (f_X3_cell 8 0 p0 T1) fun v6 T5 => some (.inl v6, T5)
set_option maxHeartbeats 4000000 in
set_option maxRecDepth 100000 in
theorem c_X3_gardenOf (p0 : Int32) (T T' : zT) (v : (Int32 ⊕ Nat)) (hf : f_X3_gardenOf p0 T = some (v, T')) : zC 0 yX3_gardenOf cX3_gardenOf 2 (some .int) 7  1 6  (fun G _ => [.ref (G 0 0), .int p0]) T (fun _ => zri v) T' := by
  intro l D Y S V G A hl9 hG
  refine vx_ofW (cc := cX3_gardenOf) (maxL := 2) (ret := (some .int)) (by decide) rfl ?_
  intro p e s m args below meth c s₁ B hml hex hv
  obtain ⟨rfl, hK, hP, hA⟩ := hv
  have hx := B.exec
  have hb := B.bytes
  have hr := B.returns
  have hlocks := B.notSynchronized
  have hown : s.vm.findClass RX3 = some m.cls := findClass_of_methodNamed B.named
  have hts := atoms_spec (ws := Cond.code yX3_gardenOf cX3_gardenOf 2 (some .int) :: zWS) B.pre
  have F : zF 0 7  1 6  p l s m _ c cX3_gardenOf 2 RX3 (Cond.code yX3_gardenOf cX3_gardenOf 2 (some .int)) D Y S V G A := ⟨hx, hb, hml, hown, hts, hl9, hG, hK, hA⟩
  have hS : va_S A s.heap s.heap [] := va_S.rf
  have hl := lv_entry ([.ref (G 0 0), .int p0]) (n := 2) (Nat.le_of_ble_eq_true rfl)
  rw [lg_entry_eq]
  generalize (lg_sl ([.ref (G 0 0), .int p0]) ++ List.replicate (2 - (lg_sl ([.ref (G 0 0), .int p0])).length) Slot.unset).toArray = ls at hl ⊢
  have hl : lv_has ls 2 [(0, .ref (G 0 0)), (1, .int p0)] := hl
  unfold f_X3_gardenOf at hf
  refine lv_aload_n hx hb dX3_gardenOf_0 rfl (lv_at hl 0 rfl) ?_
  refine lv_iload_n hx hb dX3_gardenOf_1 rfl (lv_at hl 1 rfl) ?_
  rcases zx_i hf with ⟨v2, T1, h3, hf⟩ | ⟨y4, T1, h3, hf⟩
  · refine z_ok (z_runV (As := [.int p0]) (rest := []) F k_X3_needChild m_672 (c_X3_needChild p0 T T1 _ h3) hP hS (zV_0 (by decide)) rfl rfl rfl rfl hl.1 (Nat.le_of_ble_eq_true rfl) dX3_gardenOf_2 (Nat.le_of_ble_eq_true rfl) ⟨Nat.le_of_ble_eq_true rfl, Nat.le_of_ble_eq_true rfl⟩ rfl) hS (fun H locs hP hS => ?_)
    refine lv_aload_n hx hb dX3_gardenOf_5 rfl (lv_at hl 0 rfl) ?_
    refine z_get hx hb hts (fun w h => List.mem_cons_of_mem _ (ziX3 w h)) hown hK hP (zV_0 (by decide)) rfl rfl 4 (by decide) (List.mem_cons_of_mem _ m_450) rfl rfl dX3_gardenOf_6 ?_
    refine z_get hx hb hts (fun w h => List.mem_cons_of_mem _ (ziX2 w h)) hown hK hP (zV_r (by decide) (by decide) (by decide)) rfl rfl 16 (by decide) (List.mem_cons_of_mem _ m_103) rfl rfl dX3_gardenOf_9 ?_
    refine lv_iload_n hx hb dX3_gardenOf_12 rfl (lv_at hl 1 rfl) ?_
    obtain ⟨v6, T5, h7, hf⟩ := zb_i hf
    refine z_ok (z_runS (As := [.ref (G 8 0), .int p0]) (rest := []) F k_X3_cell m_692 (c_X3_cell 8 0 (zIA_r (by decide) (by decide) (by decide)) p0 T1 T5 _ h7) hP hS rfl rfl hl.1 (Nat.le_of_ble_eq_true rfl) dX3_gardenOf_13 (Nat.le_of_ble_eq_true rfl) ⟨Nat.le_of_ble_eq_true rfl, Nat.le_of_ble_eq_true rfl⟩ rfl) hS (fun H locs hP hS => ?_)
    obtain ⟨q1, q2⟩ := zs_i hf
    subst q1; subst q2
    exact z_iret hx hb hr rfl hP hS hlocks (Nat.le_of_ble_eq_true rfl) (Nat.le_of_ble_eq_true rfl) dX3_gardenOf_16
  · cases hf
    exact z_ex (z_runV (As := [.int p0]) (rest := []) F k_X3_needChild m_672 (c_X3_needChild p0 T T' _ h3) hP hS (zV_0 (by decide)) rfl rfl rfl rfl hl.1 (Nat.le_of_ble_eq_true rfl) dX3_gardenOf_2 (Nat.le_of_ble_eq_true rfl) ⟨Nat.le_of_ble_eq_true rfl, Nat.le_of_ble_eq_true rfl⟩ rfl) hS hex hlocks rfl (Nat.le_of_ble_eq_true rfl) (Nat.le_of_ble_eq_true rfl)

def f_X3_birthdayOf (p0 : Int32) (T : zT) : Option ((Int32 ⊕ Nat) × zT) := zx (f_X3_needChild p0 T) fun v2 T1 => zb (f_X3_cell 9 0 p0 T1) fun v6 T5 => some (.inl v6, T5)
set_option maxHeartbeats 4000000 in
set_option maxRecDepth 100000 in
theorem c_X3_birthdayOf (p0 : Int32) (T T' : zT) (v : (Int32 ⊕ Nat)) (hf : f_X3_birthdayOf p0 T = some (v, T')) : zC 0 yX3_birthdayOf cX3_birthdayOf 2 (some .int) 7  1 6  (fun G _ => [.ref (G 0 0), .int p0]) T (fun _ => zri v) T' := by
  intro l D Y S V G A hl9 hG
  refine vx_ofW (cc := cX3_birthdayOf) (maxL := 2) (ret := (some .int)) (by decide) rfl ?_
  intro p e s m args below meth c s₁ B hml hex hv
  obtain ⟨rfl, hK, hP, hA⟩ := hv
  have hx := B.exec
  have hb := B.bytes
  have hr := B.returns
  have hlocks := B.notSynchronized
  have hown : s.vm.findClass RX3 = some m.cls := findClass_of_methodNamed B.named
  have hts := atoms_spec (ws := Cond.code yX3_birthdayOf cX3_birthdayOf 2 (some .int) :: zWS) B.pre
  have F : zF 0 7  1 6  p l s m _ c cX3_birthdayOf 2 RX3 (Cond.code yX3_birthdayOf cX3_birthdayOf 2 (some .int)) D Y S V G A := ⟨hx, hb, hml, hown, hts, hl9, hG, hK, hA⟩
  have hS : va_S A s.heap s.heap [] := va_S.rf
  have hl := lv_entry ([.ref (G 0 0), .int p0]) (n := 2) (Nat.le_of_ble_eq_true rfl)
  rw [lg_entry_eq]
  generalize (lg_sl ([.ref (G 0 0), .int p0]) ++ List.replicate (2 - (lg_sl ([.ref (G 0 0), .int p0])).length) Slot.unset).toArray = ls at hl ⊢
  have hl : lv_has ls 2 [(0, .ref (G 0 0)), (1, .int p0)] := hl
  unfold f_X3_birthdayOf at hf
  refine lv_aload_n hx hb dX3_birthdayOf_0 rfl (lv_at hl 0 rfl) ?_
  refine lv_iload_n hx hb dX3_birthdayOf_1 rfl (lv_at hl 1 rfl) ?_
  rcases zx_i hf with ⟨v2, T1, h3, hf⟩ | ⟨y4, T1, h3, hf⟩
  · refine z_ok (z_runV (As := [.int p0]) (rest := []) F k_X3_needChild m_672 (c_X3_needChild p0 T T1 _ h3) hP hS (zV_0 (by decide)) rfl rfl rfl rfl hl.1 (Nat.le_of_ble_eq_true rfl) dX3_birthdayOf_2 (Nat.le_of_ble_eq_true rfl) ⟨Nat.le_of_ble_eq_true rfl, Nat.le_of_ble_eq_true rfl⟩ rfl) hS (fun H locs hP hS => ?_)
    refine lv_aload_n hx hb dX3_birthdayOf_5 rfl (lv_at hl 0 rfl) ?_
    refine z_get hx hb hts (fun w h => List.mem_cons_of_mem _ (ziX3 w h)) hown hK hP (zV_0 (by decide)) rfl rfl 4 (by decide) (List.mem_cons_of_mem _ m_450) rfl rfl dX3_birthdayOf_6 ?_
    refine z_get hx hb hts (fun w h => List.mem_cons_of_mem _ (ziX2 w h)) hown hK hP (zV_r (by decide) (by decide) (by decide)) rfl rfl 17 (by decide) (List.mem_cons_of_mem _ m_106) rfl rfl dX3_birthdayOf_9 ?_
    refine lv_iload_n hx hb dX3_birthdayOf_12 rfl (lv_at hl 1 rfl) ?_
    obtain ⟨v6, T5, h7, hf⟩ := zb_i hf
    refine z_ok (z_runS (As := [.ref (G 9 0), .int p0]) (rest := []) F k_X3_cell m_692 (c_X3_cell 9 0 (zIA_r (by decide) (by decide) (by decide)) p0 T1 T5 _ h7) hP hS rfl rfl hl.1 (Nat.le_of_ble_eq_true rfl) dX3_birthdayOf_13 (Nat.le_of_ble_eq_true rfl) ⟨Nat.le_of_ble_eq_true rfl, Nat.le_of_ble_eq_true rfl⟩ rfl) hS (fun H locs hP hS => ?_)
    obtain ⟨q1, q2⟩ := zs_i hf
    subst q1; subst q2
    exact z_iret hx hb hr rfl hP hS hlocks (Nat.le_of_ble_eq_true rfl) (Nat.le_of_ble_eq_true rfl) dX3_birthdayOf_16
  · cases hf
    exact z_ex (z_runV (As := [.int p0]) (rest := []) F k_X3_needChild m_672 (c_X3_needChild p0 T T' _ h3) hP hS (zV_0 (by decide)) rfl rfl rfl rfl hl.1 (Nat.le_of_ble_eq_true rfl) dX3_birthdayOf_2 (Nat.le_of_ble_eq_true rfl) ⟨Nat.le_of_ble_eq_true rfl, Nat.le_of_ble_eq_true rfl⟩ rfl) hS hex hlocks rfl (Nat.le_of_ble_eq_true rfl) (Nat.le_of_ble_eq_true rfl)

def f_X3_daysUntilBirthday (p0 : Int32) (T : zT) : Option ((Int32 ⊕ Nat) × zT) := zx (f_X3_needChild p0 T) fun v2 T1 => zb (f_X3_cell 9 0 p0 T1) fun v6 T5 => (if v6 = (-1) then some (.inl (-1), T5) else zb (f_X2_daysUntil 0 v6 T5) fun v9 T8 => some (.inl v9, T8))
set_option maxHeartbeats 4000000 in
set_option maxRecDepth 100000 in
theorem c_X3_daysUntilBirthday (p0 : Int32) (T T' : zT) (v : (Int32 ⊕ Nat)) (hf : f_X3_daysUntilBirthday p0 T = some (v, T')) : zC 0 yX3_daysUntilBirthday cX3_daysUntilBirthday 3 (some .int) 7  1 6  (fun G _ => [.ref (G 0 0), .int p0]) T (fun _ => zri v) T' := by
  intro l D Y S V G A hl9 hG
  refine vx_ofW (cc := cX3_daysUntilBirthday) (maxL := 3) (ret := (some .int)) (by decide) rfl ?_
  intro p e s m args below meth c s₁ B hml hex hv
  obtain ⟨rfl, hK, hP, hA⟩ := hv
  have hx := B.exec
  have hb := B.bytes
  have hr := B.returns
  have hlocks := B.notSynchronized
  have hown : s.vm.findClass RX3 = some m.cls := findClass_of_methodNamed B.named
  have hts := atoms_spec (ws := Cond.code yX3_daysUntilBirthday cX3_daysUntilBirthday 3 (some .int) :: zWS) B.pre
  have F : zF 0 7  1 6  p l s m _ c cX3_daysUntilBirthday 3 RX3 (Cond.code yX3_daysUntilBirthday cX3_daysUntilBirthday 3 (some .int)) D Y S V G A := ⟨hx, hb, hml, hown, hts, hl9, hG, hK, hA⟩
  have hS : va_S A s.heap s.heap [] := va_S.rf
  have hl := lv_entry ([.ref (G 0 0), .int p0]) (n := 3) (Nat.le_of_ble_eq_true rfl)
  rw [lg_entry_eq]
  generalize (lg_sl ([.ref (G 0 0), .int p0]) ++ List.replicate (3 - (lg_sl ([.ref (G 0 0), .int p0])).length) Slot.unset).toArray = ls at hl ⊢
  have hl : lv_has ls 3 [(0, .ref (G 0 0)), (1, .int p0)] := hl
  unfold f_X3_daysUntilBirthday at hf
  refine lv_aload_n hx hb dX3_daysUntilBirthday_0 rfl (lv_at hl 0 rfl) ?_
  refine lv_iload_n hx hb dX3_daysUntilBirthday_1 rfl (lv_at hl 1 rfl) ?_
  rcases zx_i hf with ⟨v2, T1, h3, hf⟩ | ⟨y4, T1, h3, hf⟩
  · refine z_ok (z_runV (As := [.int p0]) (rest := []) F k_X3_needChild m_672 (c_X3_needChild p0 T T1 _ h3) hP hS (zV_0 (by decide)) rfl rfl rfl rfl hl.1 (Nat.le_of_ble_eq_true rfl) dX3_daysUntilBirthday_2 (Nat.le_of_ble_eq_true rfl) ⟨Nat.le_of_ble_eq_true rfl, Nat.le_of_ble_eq_true rfl⟩ rfl) hS (fun H locs hP hS => ?_)
    refine lv_aload_n hx hb dX3_daysUntilBirthday_5 rfl (lv_at hl 0 rfl) ?_
    refine z_get hx hb hts (fun w h => List.mem_cons_of_mem _ (ziX3 w h)) hown hK hP (zV_0 (by decide)) rfl rfl 4 (by decide) (List.mem_cons_of_mem _ m_450) rfl rfl dX3_daysUntilBirthday_6 ?_
    refine z_get hx hb hts (fun w h => List.mem_cons_of_mem _ (ziX2 w h)) hown hK hP (zV_r (by decide) (by decide) (by decide)) rfl rfl 17 (by decide) (List.mem_cons_of_mem _ m_106) rfl rfl dX3_daysUntilBirthday_9 ?_
    refine lv_iload_n hx hb dX3_daysUntilBirthday_12 rfl (lv_at hl 1 rfl) ?_
    obtain ⟨v6, T5, h7, hf⟩ := zb_i hf
    refine z_ok (z_runS (As := [.ref (G 9 0), .int p0]) (rest := []) F k_X3_cell m_692 (c_X3_cell 9 0 (zIA_r (by decide) (by decide) (by decide)) p0 T1 T5 _ h7) hP hS rfl rfl hl.1 (Nat.le_of_ble_eq_true rfl) dX3_daysUntilBirthday_13 (Nat.le_of_ble_eq_true rfl) ⟨Nat.le_of_ble_eq_true rfl, Nat.le_of_ble_eq_true rfl⟩ rfl) hS (fun H locs hP hS => ?_)
    refine lv_istore_n (lv' := [(2, .int v6), (0, .ref (G 0 0)), (1, .int p0)]) hx hb dX3_daysUntilBirthday_16 rfl hl (by decide) rfl (fun ls hl => ?_)
    refine lv_iload_n hx hb dX3_daysUntilBirthday_17 rfl (lv_at hl 0 rfl) ?_
    refine lv_iconst (v := (-1)) hx hb dX3_daysUntilBirthday_18 (by decide) ?_
    refine lv_icmp_ne (tgt := 26) hx hb dX3_daysUntilBirthday_19 (by decide) (fun hc => ?_) (fun hc => ?_)
    · have hf := zif_n hf hc
      refine lv_aload_n hx hb dX3_daysUntilBirthday_26 rfl (lv_at hl 1 rfl) ?_
      refine z_get hx hb hts (fun w h => List.mem_cons_of_mem _ (ziX3 w h)) hown hK hP (zV_0 (by decide)) rfl rfl 4 (by decide) (List.mem_cons_of_mem _ m_450) rfl rfl dX3_daysUntilBirthday_27 ?_
      refine lv_iload_n hx hb dX3_daysUntilBirthday_30 rfl (lv_at hl 0 rfl) ?_
      obtain ⟨v9, T8, h10, hf⟩ := zb_i hf
      refine z_ok (z_runV (As := [.int v6]) (rest := []) F k_X2_daysUntil m_696 (c_X2_daysUntil 0 (by decide) v6 T5 T8 _ h10) hP hS (zV_r (by decide) (by decide) (by decide)) rfl rfl rfl rfl hl.1 (Nat.le_of_ble_eq_true rfl) dX3_daysUntilBirthday_31 (Nat.le_of_ble_eq_true rfl) ⟨Nat.le_of_ble_eq_true rfl, Nat.le_of_ble_eq_true rfl⟩ rfl) hS (fun H locs hP hS => ?_)
      obtain ⟨q1, q2⟩ := zs_i hf
      subst q1; subst q2
      exact z_iret hx hb hr rfl hP hS hlocks (Nat.le_of_ble_eq_true rfl) (Nat.le_of_ble_eq_true rfl) dX3_daysUntilBirthday_34
    · have hf := zif_p hf hc
      refine lv_iconst (v := (-1)) hx hb dX3_daysUntilBirthday_22 (by decide) ?_
      refine lv_goto (tgt := 34) hx hb dX3_daysUntilBirthday_23 (by decide) ?_
      obtain ⟨q1, q2⟩ := zs_i hf
      subst q1; subst q2
      exact z_iret hx hb hr rfl hP hS hlocks (Nat.le_of_ble_eq_true rfl) (Nat.le_of_ble_eq_true rfl) dX3_daysUntilBirthday_34
  · cases hf
    exact z_ex (z_runV (As := [.int p0]) (rest := []) F k_X3_needChild m_672 (c_X3_needChild p0 T T' _ h3) hP hS (zV_0 (by decide)) rfl rfl rfl rfl hl.1 (Nat.le_of_ble_eq_true rfl) dX3_daysUntilBirthday_2 (Nat.le_of_ble_eq_true rfl) ⟨Nat.le_of_ble_eq_true rfl, Nat.le_of_ble_eq_true rfl⟩ rfl) hS hex hlocks rfl (Nat.le_of_ble_eq_true rfl) (Nat.le_of_ble_eq_true rfl)

def f_X3_partiesOf (p0 : Int32) (T : zT) : Option ((Int32 ⊕ Nat) × zT) := zx (f_X3_needChild p0 T) fun v2 T1 => zb (f_X3_cell 10 0 p0 T1) fun v6 T5 => some (.inl v6, T5)
set_option maxHeartbeats 4000000 in
set_option maxRecDepth 100000 in
theorem c_X3_partiesOf (p0 : Int32) (T T' : zT) (v : (Int32 ⊕ Nat)) (hf : f_X3_partiesOf p0 T = some (v, T')) : zC 0 yX3_partiesOf cX3_partiesOf 2 (some .int) 7  1 6  (fun G _ => [.ref (G 0 0), .int p0]) T (fun _ => zri v) T' := by
  intro l D Y S V G A hl9 hG
  refine vx_ofW (cc := cX3_partiesOf) (maxL := 2) (ret := (some .int)) (by decide) rfl ?_
  intro p e s m args below meth c s₁ B hml hex hv
  obtain ⟨rfl, hK, hP, hA⟩ := hv
  have hx := B.exec
  have hb := B.bytes
  have hr := B.returns
  have hlocks := B.notSynchronized
  have hown : s.vm.findClass RX3 = some m.cls := findClass_of_methodNamed B.named
  have hts := atoms_spec (ws := Cond.code yX3_partiesOf cX3_partiesOf 2 (some .int) :: zWS) B.pre
  have F : zF 0 7  1 6  p l s m _ c cX3_partiesOf 2 RX3 (Cond.code yX3_partiesOf cX3_partiesOf 2 (some .int)) D Y S V G A := ⟨hx, hb, hml, hown, hts, hl9, hG, hK, hA⟩
  have hS : va_S A s.heap s.heap [] := va_S.rf
  have hl := lv_entry ([.ref (G 0 0), .int p0]) (n := 2) (Nat.le_of_ble_eq_true rfl)
  rw [lg_entry_eq]
  generalize (lg_sl ([.ref (G 0 0), .int p0]) ++ List.replicate (2 - (lg_sl ([.ref (G 0 0), .int p0])).length) Slot.unset).toArray = ls at hl ⊢
  have hl : lv_has ls 2 [(0, .ref (G 0 0)), (1, .int p0)] := hl
  unfold f_X3_partiesOf at hf
  refine lv_aload_n hx hb dX3_partiesOf_0 rfl (lv_at hl 0 rfl) ?_
  refine lv_iload_n hx hb dX3_partiesOf_1 rfl (lv_at hl 1 rfl) ?_
  rcases zx_i hf with ⟨v2, T1, h3, hf⟩ | ⟨y4, T1, h3, hf⟩
  · refine z_ok (z_runV (As := [.int p0]) (rest := []) F k_X3_needChild m_672 (c_X3_needChild p0 T T1 _ h3) hP hS (zV_0 (by decide)) rfl rfl rfl rfl hl.1 (Nat.le_of_ble_eq_true rfl) dX3_partiesOf_2 (Nat.le_of_ble_eq_true rfl) ⟨Nat.le_of_ble_eq_true rfl, Nat.le_of_ble_eq_true rfl⟩ rfl) hS (fun H locs hP hS => ?_)
    refine lv_aload_n hx hb dX3_partiesOf_5 rfl (lv_at hl 0 rfl) ?_
    refine z_get hx hb hts (fun w h => List.mem_cons_of_mem _ (ziX3 w h)) hown hK hP (zV_0 (by decide)) rfl rfl 4 (by decide) (List.mem_cons_of_mem _ m_450) rfl rfl dX3_partiesOf_6 ?_
    refine z_get hx hb hts (fun w h => List.mem_cons_of_mem _ (ziX2 w h)) hown hK hP (zV_r (by decide) (by decide) (by decide)) rfl rfl 18 (by decide) (List.mem_cons_of_mem _ m_108) rfl rfl dX3_partiesOf_9 ?_
    refine lv_iload_n hx hb dX3_partiesOf_12 rfl (lv_at hl 1 rfl) ?_
    obtain ⟨v6, T5, h7, hf⟩ := zb_i hf
    refine z_ok (z_runS (As := [.ref (G 10 0), .int p0]) (rest := []) F k_X3_cell m_692 (c_X3_cell 10 0 (zIA_r (by decide) (by decide) (by decide)) p0 T1 T5 _ h7) hP hS rfl rfl hl.1 (Nat.le_of_ble_eq_true rfl) dX3_partiesOf_13 (Nat.le_of_ble_eq_true rfl) ⟨Nat.le_of_ble_eq_true rfl, Nat.le_of_ble_eq_true rfl⟩ rfl) hS (fun H locs hP hS => ?_)
    obtain ⟨q1, q2⟩ := zs_i hf
    subst q1; subst q2
    exact z_iret hx hb hr rfl hP hS hlocks (Nat.le_of_ble_eq_true rfl) (Nat.le_of_ble_eq_true rfl) dX3_partiesOf_16
  · cases hf
    exact z_ex (z_runV (As := [.int p0]) (rest := []) F k_X3_needChild m_672 (c_X3_needChild p0 T T' _ h3) hP hS (zV_0 (by decide)) rfl rfl rfl rfl hl.1 (Nat.le_of_ble_eq_true rfl) dX3_partiesOf_2 (Nat.le_of_ble_eq_true rfl) ⟨Nat.le_of_ble_eq_true rfl, Nat.le_of_ble_eq_true rfl⟩ rfl) hS hex hlocks rfl (Nat.le_of_ble_eq_true rfl) (Nat.le_of_ble_eq_true rfl)

def f_X3_wishesOf (p0 : Int32) (T : zT) : Option ((Int32 ⊕ Nat) × zT) := zx (f_X3_needChild p0 T) fun v2 T1 => zb (f_X3_cell 11 0 p0 T1) fun v6 T5 => some (.inl v6, T5)
set_option maxHeartbeats 4000000 in
set_option maxRecDepth 100000 in
theorem c_X3_wishesOf (p0 : Int32) (T T' : zT) (v : (Int32 ⊕ Nat)) (hf : f_X3_wishesOf p0 T = some (v, T')) : zC 0 yX3_wishesOf cX3_wishesOf 2 (some .int) 7  1 6  (fun G _ => [.ref (G 0 0), .int p0]) T (fun _ => zri v) T' := by
  intro l D Y S V G A hl9 hG
  refine vx_ofW (cc := cX3_wishesOf) (maxL := 2) (ret := (some .int)) (by decide) rfl ?_
  intro p e s m args below meth c s₁ B hml hex hv
  obtain ⟨rfl, hK, hP, hA⟩ := hv
  have hx := B.exec
  have hb := B.bytes
  have hr := B.returns
  have hlocks := B.notSynchronized
  have hown : s.vm.findClass RX3 = some m.cls := findClass_of_methodNamed B.named
  have hts := atoms_spec (ws := Cond.code yX3_wishesOf cX3_wishesOf 2 (some .int) :: zWS) B.pre
  have F : zF 0 7  1 6  p l s m _ c cX3_wishesOf 2 RX3 (Cond.code yX3_wishesOf cX3_wishesOf 2 (some .int)) D Y S V G A := ⟨hx, hb, hml, hown, hts, hl9, hG, hK, hA⟩
  have hS : va_S A s.heap s.heap [] := va_S.rf
  have hl := lv_entry ([.ref (G 0 0), .int p0]) (n := 2) (Nat.le_of_ble_eq_true rfl)
  rw [lg_entry_eq]
  generalize (lg_sl ([.ref (G 0 0), .int p0]) ++ List.replicate (2 - (lg_sl ([.ref (G 0 0), .int p0])).length) Slot.unset).toArray = ls at hl ⊢
  have hl : lv_has ls 2 [(0, .ref (G 0 0)), (1, .int p0)] := hl
  unfold f_X3_wishesOf at hf
  refine lv_aload_n hx hb dX3_wishesOf_0 rfl (lv_at hl 0 rfl) ?_
  refine lv_iload_n hx hb dX3_wishesOf_1 rfl (lv_at hl 1 rfl) ?_
  rcases zx_i hf with ⟨v2, T1, h3, hf⟩ | ⟨y4, T1, h3, hf⟩
  · refine z_ok (z_runV (As := [.int p0]) (rest := []) F k_X3_needChild m_672 (c_X3_needChild p0 T T1 _ h3) hP hS (zV_0 (by decide)) rfl rfl rfl rfl hl.1 (Nat.le_of_ble_eq_true rfl) dX3_wishesOf_2 (Nat.le_of_ble_eq_true rfl) ⟨Nat.le_of_ble_eq_true rfl, Nat.le_of_ble_eq_true rfl⟩ rfl) hS (fun H locs hP hS => ?_)
    refine lv_aload_n hx hb dX3_wishesOf_5 rfl (lv_at hl 0 rfl) ?_
    refine z_get hx hb hts (fun w h => List.mem_cons_of_mem _ (ziX3 w h)) hown hK hP (zV_0 (by decide)) rfl rfl 4 (by decide) (List.mem_cons_of_mem _ m_450) rfl rfl dX3_wishesOf_6 ?_
    refine z_get hx hb hts (fun w h => List.mem_cons_of_mem _ (ziX2 w h)) hown hK hP (zV_r (by decide) (by decide) (by decide)) rfl rfl 19 (by decide) (List.mem_cons_of_mem _ m_110) rfl rfl dX3_wishesOf_9 ?_
    refine lv_iload_n hx hb dX3_wishesOf_12 rfl (lv_at hl 1 rfl) ?_
    obtain ⟨v6, T5, h7, hf⟩ := zb_i hf
    refine z_ok (z_runS (As := [.ref (G 11 0), .int p0]) (rest := []) F k_X3_cell m_692 (c_X3_cell 11 0 (zIA_r (by decide) (by decide) (by decide)) p0 T1 T5 _ h7) hP hS rfl rfl hl.1 (Nat.le_of_ble_eq_true rfl) dX3_wishesOf_13 (Nat.le_of_ble_eq_true rfl) ⟨Nat.le_of_ble_eq_true rfl, Nat.le_of_ble_eq_true rfl⟩ rfl) hS (fun H locs hP hS => ?_)
    obtain ⟨q1, q2⟩ := zs_i hf
    subst q1; subst q2
    exact z_iret hx hb hr rfl hP hS hlocks (Nat.le_of_ble_eq_true rfl) (Nat.le_of_ble_eq_true rfl) dX3_wishesOf_16
  · cases hf
    exact z_ex (z_runV (As := [.int p0]) (rest := []) F k_X3_needChild m_672 (c_X3_needChild p0 T T' _ h3) hP hS (zV_0 (by decide)) rfl rfl rfl rfl hl.1 (Nat.le_of_ble_eq_true rfl) dX3_wishesOf_2 (Nat.le_of_ble_eq_true rfl) ⟨Nat.le_of_ble_eq_true rfl, Nat.le_of_ble_eq_true rfl⟩ rfl) hS hex hlocks rfl (Nat.le_of_ble_eq_true rfl) (Nat.le_of_ble_eq_true rfl)

def f_X3_strengthOf (p0 : Int32) (T : zT) : Option ((Int32 ⊕ Nat) × zT) := zx (f_X3_needChild p0 T) fun v2 T1 => zb (f_X3_cell 5 0 p0 T1) fun v6 T5 => zb (f_X2_partyStrength 0 p0 v6 T5) fun v9 T8 => some (.inl v9, T8)
set_option maxHeartbeats 4000000 in
set_option maxRecDepth 100000 in
theorem c_X3_strengthOf (p0 : Int32) (T T' : zT) (v : (Int32 ⊕ Nat)) (hf : f_X3_strengthOf p0 T = some (v, T')) : zC 0 yX3_strengthOf cX3_strengthOf 2 (some .int) 7  1 6  (fun G _ => [.ref (G 0 0), .int p0]) T (fun _ => zri v) T' := by
  intro l D Y S V G A hl9 hG
  refine vx_ofW (cc := cX3_strengthOf) (maxL := 2) (ret := (some .int)) (by decide) rfl ?_
  intro p e s m args below meth c s₁ B hml hex hv
  obtain ⟨rfl, hK, hP, hA⟩ := hv
  have hx := B.exec
  have hb := B.bytes
  have hr := B.returns
  have hlocks := B.notSynchronized
  have hown : s.vm.findClass RX3 = some m.cls := findClass_of_methodNamed B.named
  have hts := atoms_spec (ws := Cond.code yX3_strengthOf cX3_strengthOf 2 (some .int) :: zWS) B.pre
  have F : zF 0 7  1 6  p l s m _ c cX3_strengthOf 2 RX3 (Cond.code yX3_strengthOf cX3_strengthOf 2 (some .int)) D Y S V G A := ⟨hx, hb, hml, hown, hts, hl9, hG, hK, hA⟩
  have hS : va_S A s.heap s.heap [] := va_S.rf
  have hl := lv_entry ([.ref (G 0 0), .int p0]) (n := 2) (Nat.le_of_ble_eq_true rfl)
  rw [lg_entry_eq]
  generalize (lg_sl ([.ref (G 0 0), .int p0]) ++ List.replicate (2 - (lg_sl ([.ref (G 0 0), .int p0])).length) Slot.unset).toArray = ls at hl ⊢
  have hl : lv_has ls 2 [(0, .ref (G 0 0)), (1, .int p0)] := hl
  unfold f_X3_strengthOf at hf
  refine lv_aload_n hx hb dX3_strengthOf_0 rfl (lv_at hl 0 rfl) ?_
  refine lv_iload_n hx hb dX3_strengthOf_1 rfl (lv_at hl 1 rfl) ?_
  rcases zx_i hf with ⟨v2, T1, h3, hf⟩ | ⟨y4, T1, h3, hf⟩
  · refine z_ok (z_runV (As := [.int p0]) (rest := []) F k_X3_needChild m_672 (c_X3_needChild p0 T T1 _ h3) hP hS (zV_0 (by decide)) rfl rfl rfl rfl hl.1 (Nat.le_of_ble_eq_true rfl) dX3_strengthOf_2 (Nat.le_of_ble_eq_true rfl) ⟨Nat.le_of_ble_eq_true rfl, Nat.le_of_ble_eq_true rfl⟩ rfl) hS (fun H locs hP hS => ?_)
    refine lv_aload_n hx hb dX3_strengthOf_5 rfl (lv_at hl 0 rfl) ?_
    refine z_get hx hb hts (fun w h => List.mem_cons_of_mem _ (ziX3 w h)) hown hK hP (zV_0 (by decide)) rfl rfl 4 (by decide) (List.mem_cons_of_mem _ m_450) rfl rfl dX3_strengthOf_6 ?_
    refine lv_iload_n hx hb dX3_strengthOf_9 rfl (lv_at hl 1 rfl) ?_
    refine lv_aload_n hx hb dX3_strengthOf_10 rfl (lv_at hl 0 rfl) ?_
    refine z_get hx hb hts (fun w h => List.mem_cons_of_mem _ (ziX3 w h)) hown hK hP (zV_0 (by decide)) rfl rfl 4 (by decide) (List.mem_cons_of_mem _ m_450) rfl rfl dX3_strengthOf_11 ?_
    refine z_get hx hb hts (fun w h => List.mem_cons_of_mem _ (ziX2 w h)) hown hK hP (zV_r (by decide) (by decide) (by decide)) rfl rfl 13 (by decide) (List.mem_cons_of_mem _ m_96) rfl rfl dX3_strengthOf_14 ?_
    refine lv_iload_n hx hb dX3_strengthOf_17 rfl (lv_at hl 1 rfl) ?_
    obtain ⟨v6, T5, h7, hf⟩ := zb_i hf
    refine z_ok (z_runS (As := [.ref (G 5 0), .int p0]) (rest := [.int p0, .ref (G 1 0)]) F k_X3_cell m_692 (c_X3_cell 5 0 (zIA_r (by decide) (by decide) (by decide)) p0 T1 T5 _ h7) hP hS rfl rfl hl.1 (Nat.le_of_ble_eq_true rfl) dX3_strengthOf_18 (Nat.le_of_ble_eq_true rfl) ⟨Nat.le_of_ble_eq_true rfl, Nat.le_of_ble_eq_true rfl⟩ rfl) hS (fun H locs hP hS => ?_)
    obtain ⟨v9, T8, h10, hf⟩ := zb_i hf
    refine z_ok (z_runV (As := [.int p0, .int v6]) (rest := []) F k_X2_partyStrength m_1085 (c_X2_partyStrength 0 (by decide) p0 v6 T5 T8 _ h10) hP hS (zV_r (by decide) (by decide) (by decide)) rfl rfl rfl rfl hl.1 (Nat.le_of_ble_eq_true rfl) dX3_strengthOf_21 (Nat.le_of_ble_eq_true rfl) ⟨Nat.le_of_ble_eq_true rfl, Nat.le_of_ble_eq_true rfl⟩ rfl) hS (fun H locs hP hS => ?_)
    obtain ⟨q1, q2⟩ := zs_i hf
    subst q1; subst q2
    exact z_iret hx hb hr rfl hP hS hlocks (Nat.le_of_ble_eq_true rfl) (Nat.le_of_ble_eq_true rfl) dX3_strengthOf_24
  · cases hf
    exact z_ex (z_runV (As := [.int p0]) (rest := []) F k_X3_needChild m_672 (c_X3_needChild p0 T T' _ h3) hP hS (zV_0 (by decide)) rfl rfl rfl rfl hl.1 (Nat.le_of_ble_eq_true rfl) dX3_strengthOf_2 (Nat.le_of_ble_eq_true rfl) ⟨Nat.le_of_ble_eq_true rfl, Nat.le_of_ble_eq_true rfl⟩ rfl) hS hex hlocks rfl (Nat.le_of_ble_eq_true rfl) (Nat.le_of_ble_eq_true rfl)

def lp_X3_nextChild_8  : Nat → Int32 → Int32 → Int32 → zT → Option ((Int32 × Int32 × Int32) × zT)
  | 0, _, _, _, _ => none
  | n + 1, u1, u2, u3, T => (if (T.1 1 0 9) ≤ u3 then some ((u1, u2, u3), T) else zb (f_X3_cell 9 0 u3 T) fun v2 T1 => (if v2 = (-1) then zl (u3 + 1) fun x4 => lp_X3_nextChild_8 n u1 u2 x4 T1 else zb (f_X2_daysUntil 0 v2 T1) fun v6 T5 => (if u2 ≤ v6 then zl (u3 + 1) fun x8 => lp_X3_nextChild_8 n u1 u2 x8 T5 else zb (f_X2_daysUntil 0 v2 T5) fun v10 T9 => zl (u3 + 1) fun x12 => lp_X3_nextChild_8 n u3 v10 x12 T9)))
def f_X3_nextChild  (T : zT) : Option (Int32 × zT) := zb (lp_X3_nextChild_8 2000 (-1) 361 0 T) fun v14 T13 => some (v14.1, T13)
set_option maxHeartbeats 4000000 in
set_option maxRecDepth 100000 in
theorem l_X3_nextChild_8 {p : Program} {l : Launch} {e : Env} {s : State} {m : MethodId} {args : Array Value} {below : List Frame} {meth : Method} {c : Code} {Q : State → Prop} {D : va_G} {Y : Nat → ClassId} {S V : Nat → Nat} {G : Nat → Nat → Nat} {A : Nat → Prop} {c0 : Cond} {mc ms cells slots : Nat} (F : zF 0 1 mc ms p l s m args c cX3_nextChild 5 RX3 c0 D Y S V G A) (hcs : cells ≤ mc ∧ slots ≤ ms) :
    ∀ (n : Nat) (u1 : Int32) (u2 : Int32) (u3 : Int32) (T : zT) (o : (Int32 × Int32 × Int32) × zT) (H : Heap) (locs : List Loc) (ls : Array Slot), lp_X3_nextChild_8 n u1 u2 u3 T = some o → zP 0 D Y G T H → va_S A s.heap H locs → lv_has ls 5 [(0, .ref (G 0 0)), (1, .int u1), (2, .int u2), (3, .int u3)] → (∀ (H : Heap) (locs : List Loc) (ls : Array Slot), zP 0 D Y G o.2 H → va_S A s.heap H locs → lv_has ls 5 [(0, .ref (G 0 0)), (1, .int o.1.1), (2, .int o.1.2.1), (3, .int o.1.2.2)] → W p l e (zR 1 mc ms) s m args below meth c H locs cells slots Q (F0 m 69 ls [])) → W p l e (zR 1 mc ms) s m args below meth c H locs cells slots Q (F0 m 8 ls []) := by
  obtain ⟨hx, hb, hml, hown, hts, hl9, hG, hK, hA⟩ := id F
  intro n
  induction n with
  | zero =>
    intro u1 u2 u3 T o H locs ls hf
    rw [lp_X3_nextChild_8] at hf
    cases hf
  | succ n ih =>
    intro u1 u2 u3 T o H locs ls hf hP hS hl k0_
    rw [lp_X3_nextChild_8] at hf
    refine lv_iload_n hx hb dX3_nextChild_8 rfl (lv_at hl 3 rfl) ?_
    refine lv_aload_n hx hb dX3_nextChild_9 rfl (lv_at hl 0 rfl) ?_
    refine z_get hx hb hts (fun w h => List.mem_cons_of_mem _ (ziX3 w h)) hown hK hP (zV_0 (by decide)) rfl rfl 4 (by decide) (List.mem_cons_of_mem _ m_450) rfl rfl dX3_nextChild_10 ?_
    refine z_get hx hb hts (fun w h => List.mem_cons_of_mem _ (ziX2 w h)) hown hK hP (zV_r (by decide) (by decide) (by decide)) rfl rfl 9 (by decide) (List.mem_cons_of_mem _ m_87) rfl rfl dX3_nextChild_13 ?_
    refine lv_icmp_ge (tgt := 69) hx hb dX3_nextChild_16 (by decide) (fun hc => ?_) (fun hc => ?_)
    · have hf := zif_p hf hc
      cases hf
      exact k0_ _ _ _ hP hS (lv_sub hl [0, 1, 2, 3] rfl)
    · have hf := zif_n hf hc
      refine lv_aload_n hx hb dX3_nextChild_19 rfl (lv_at hl 0 rfl) ?_
      refine z_get hx hb hts (fun w h => List.mem_cons_of_mem _ (ziX3 w h)) hown hK hP (zV_0 (by decide)) rfl rfl 4 (by decide) (List.mem_cons_of_mem _ m_450) rfl rfl dX3_nextChild_20 ?_
      refine z_get hx hb hts (fun w h => List.mem_cons_of_mem _ (ziX2 w h)) hown hK hP (zV_r (by decide) (by decide) (by decide)) rfl rfl 17 (by decide) (List.mem_cons_of_mem _ m_106) rfl rfl dX3_nextChild_23 ?_
      refine lv_iload_n hx hb dX3_nextChild_26 rfl (lv_at hl 3 rfl) ?_
      obtain ⟨v2, T1, h3, hf⟩ := zb_i hf
      refine z_ok (z_runS (As := [.ref (G 9 0), .int u3]) (rest := []) F k_X3_cell m_692 (c_X3_cell 9 0 (zIA_r (by decide) (by decide) (by decide)) u3 T T1 _ h3) hP hS rfl rfl hl.1 (Nat.le_of_ble_eq_true rfl) dX3_nextChild_27 (Nat.le_of_ble_eq_true rfl) ⟨hcs.1, hcs.2⟩ rfl) hS (fun H locs hP hS => ?_)
      refine lv_istore (lv' := [(4, .int v2), (0, .ref (G 0 0)), (1, .int u1), (2, .int u2), (3, .int u3)]) hx hb dX3_nextChild_30 hl (by decide) rfl (fun ls hl => ?_)
      refine lv_iload hx hb dX3_nextChild_32 (lv_at hl 0 rfl) ?_
      refine lv_iconst (v := (-1)) hx hb dX3_nextChild_34 (by decide) ?_
      refine lv_icmp_eq (tgt := 63) hx hb dX3_nextChild_35 (by decide) (fun hc => ?_) (fun hc => ?_)
      · have hf := zif_p hf hc
        obtain ⟨x4, ex4, hf⟩ := zl_i hf
        refine lv_iinc (v := x4) (lv' := [(3, .int x4), (4, .int v2), (0, .ref (G 0 0)), (1, .int u1), (2, .int u2)]) hx hb dX3_nextChild_63 hl (k := 4) rfl (by rw [ex4]; rfl) (by decide) rfl (fun ls hl => ?_)
        refine lv_goto (tgt := 8) hx hb dX3_nextChild_66 (by decide) ?_
        exact ih u1 u2 x4 _ _ _ _ _ hf hP hS (lv_sub hl [2, 3, 4, 0] rfl) k0_
      · have hf := zif_n hf hc
        refine lv_aload_n hx hb dX3_nextChild_38 rfl (lv_at hl 1 rfl) ?_
        refine z_get hx hb hts (fun w h => List.mem_cons_of_mem _ (ziX3 w h)) hown hK hP (zV_0 (by decide)) rfl rfl 4 (by decide) (List.mem_cons_of_mem _ m_450) rfl rfl dX3_nextChild_39 ?_
        refine lv_iload hx hb dX3_nextChild_42 (lv_at hl 0 rfl) ?_
        obtain ⟨v6, T5, h7, hf⟩ := zb_i hf
        refine z_ok (z_runV (As := [.int v2]) (rest := []) F k_X2_daysUntil m_696 (c_X2_daysUntil 0 (by decide) v2 T1 T5 _ h7) hP hS (zV_r (by decide) (by decide) (by decide)) rfl rfl rfl rfl hl.1 (Nat.le_of_ble_eq_true rfl) dX3_nextChild_44 (Nat.le_of_ble_eq_true rfl) ⟨hcs.1, hcs.2⟩ rfl) hS (fun H locs hP hS => ?_)
        refine lv_iload_n hx hb dX3_nextChild_47 rfl (lv_at hl 3 rfl) ?_
        refine lv_icmp_ge (tgt := 63) hx hb dX3_nextChild_48 (by decide) (fun hc => ?_) (fun hc => ?_)
        · have hf := zif_p hf hc
          obtain ⟨x8, ex8, hf⟩ := zl_i hf
          refine lv_iinc (v := x8) (lv' := [(3, .int x8), (4, .int v2), (0, .ref (G 0 0)), (1, .int u1), (2, .int u2)]) hx hb dX3_nextChild_63 hl (k := 4) rfl (by rw [ex8]; rfl) (by decide) rfl (fun ls hl => ?_)
          refine lv_goto (tgt := 8) hx hb dX3_nextChild_66 (by decide) ?_
          exact ih u1 u2 x8 _ _ _ _ _ hf hP hS (lv_sub hl [2, 3, 4, 0] rfl) k0_
        · have hf := zif_n hf hc
          refine lv_iload_n hx hb dX3_nextChild_51 rfl (lv_at hl 4 rfl) ?_
          refine lv_istore_n (lv' := [(1, .int u3), (4, .int v2), (0, .ref (G 0 0)), (2, .int u2), (3, .int u3)]) hx hb dX3_nextChild_52 rfl hl (by decide) rfl (fun ls hl => ?_)
          refine lv_aload_n hx hb dX3_nextChild_53 rfl (lv_at hl 2 rfl) ?_
          refine z_get hx hb hts (fun w h => List.mem_cons_of_mem _ (ziX3 w h)) hown hK hP (zV_0 (by decide)) rfl rfl 4 (by decide) (List.mem_cons_of_mem _ m_450) rfl rfl dX3_nextChild_54 ?_
          refine lv_iload hx hb dX3_nextChild_57 (lv_at hl 1 rfl) ?_
          obtain ⟨v10, T9, h11, hf⟩ := zb_i hf
          refine z_ok (z_runV (As := [.int v2]) (rest := []) F k_X2_daysUntil m_696 (c_X2_daysUntil 0 (by decide) v2 T5 T9 _ h11) hP hS (zV_r (by decide) (by decide) (by decide)) rfl rfl rfl rfl hl.1 (Nat.le_of_ble_eq_true rfl) dX3_nextChild_59 (Nat.le_of_ble_eq_true rfl) ⟨hcs.1, hcs.2⟩ rfl) hS (fun H locs hP hS => ?_)
          refine lv_istore_n (lv' := [(2, .int v10), (1, .int u3), (4, .int v2), (0, .ref (G 0 0)), (3, .int u3)]) hx hb dX3_nextChild_62 rfl hl (by decide) rfl (fun ls hl => ?_)
          obtain ⟨x12, ex12, hf⟩ := zl_i hf
          refine lv_iinc (v := x12) (lv' := [(3, .int x12), (2, .int v10), (1, .int u3), (4, .int v2), (0, .ref (G 0 0))]) hx hb dX3_nextChild_63 hl (k := 4) rfl (by rw [ex12]; rfl) (by decide) rfl (fun ls hl => ?_)
          refine lv_goto (tgt := 8) hx hb dX3_nextChild_66 (by decide) ?_
          exact ih u3 v10 x12 _ _ _ _ _ hf hP hS (lv_sub hl [4, 2, 1, 0] rfl) k0_
set_option maxHeartbeats 4000000 in
set_option maxRecDepth 100000 in
theorem c_X3_nextChild  (T T' : zT) (v : Int32) (hf : f_X3_nextChild  T = some (v, T')) : zC 0 yX3_nextChild cX3_nextChild 5 (some .int) 1  0 0  (fun G _ => [.ref (G 0 0)]) T (fun _ => .inl (some (.int v))) T' := by
  intro l D Y S V G A hl9 hG
  refine vx_ofW (cc := cX3_nextChild) (maxL := 5) (ret := (some .int)) (by decide) rfl ?_
  intro p e s m args below meth c s₁ B hml hex hv
  obtain ⟨rfl, hK, hP, hA⟩ := hv
  have hx := B.exec
  have hb := B.bytes
  have hr := B.returns
  have hlocks := B.notSynchronized
  have hown : s.vm.findClass RX3 = some m.cls := findClass_of_methodNamed B.named
  have hts := atoms_spec (ws := Cond.code yX3_nextChild cX3_nextChild 5 (some .int) :: zWS) B.pre
  have F : zF 0 1  0 0  p l s m _ c cX3_nextChild 5 RX3 (Cond.code yX3_nextChild cX3_nextChild 5 (some .int)) D Y S V G A := ⟨hx, hb, hml, hown, hts, hl9, hG, hK, hA⟩
  have hS : va_S A s.heap s.heap [] := va_S.rf
  have hl := lv_entry ([.ref (G 0 0)]) (n := 5) (Nat.le_of_ble_eq_true rfl)
  rw [lg_entry_eq]
  generalize (lg_sl ([.ref (G 0 0)]) ++ List.replicate (5 - (lg_sl ([.ref (G 0 0)])).length) Slot.unset).toArray = ls at hl ⊢
  have hl : lv_has ls 5 [(0, .ref (G 0 0))] := hl
  unfold f_X3_nextChild at hf
  refine lv_iconst (v := (-1)) hx hb dX3_nextChild_0 (by decide) ?_
  refine lv_istore_n (lv' := [(1, .int (-1)), (0, .ref (G 0 0))]) hx hb dX3_nextChild_1 rfl hl (by decide) rfl (fun ls hl => ?_)
  refine lv_sipush (v := 361) hx hb dX3_nextChild_2 (by decide) ?_
  refine lv_istore_n (lv' := [(2, .int 361), (1, .int (-1)), (0, .ref (G 0 0))]) hx hb dX3_nextChild_5 rfl hl (by decide) rfl (fun ls hl => ?_)
  refine lv_iconst (v := 0) hx hb dX3_nextChild_6 (by decide) ?_
  refine lv_istore_n (lv' := [(3, .int 0), (2, .int 361), (1, .int (-1)), (0, .ref (G 0 0))]) hx hb dX3_nextChild_7 rfl hl (by decide) rfl (fun ls hl => ?_)
  obtain ⟨v14, T13, h15, hf⟩ := zb_i hf
  refine l_X3_nextChild_8 F ⟨Nat.le_of_ble_eq_true rfl, Nat.le_of_ble_eq_true rfl⟩  2000 (-1) 361 0 _ _ _ _ _ h15 hP hS (lv_sub hl [3, 2, 1, 0] rfl) (fun H locs ls hP hS hl => ?_)
  refine lv_iload_n hx hb dX3_nextChild_69 rfl (lv_at hl 1 rfl) ?_
  obtain ⟨q1, q2⟩ := zs_i hf
  subst q1; subst q2
  exact z_iret hx hb hr rfl hP hS hlocks (Nat.le_of_ble_eq_true rfl) (Nat.le_of_ble_eq_true rfl) dX3_nextChild_70

def f_X3_childrenOn (p0 : Int32) (p1 : Int32) (T : zT) : Option ((Int32 ⊕ Nat) × zT) := zx (f_X3_needDate p0 p1 T) fun v2 T1 => zb (f_X3_dateOf p0 p1 T1) fun v6 T5 => zb (f_X3_countOf v6 9 0 (T5.1 1 0 9) T5) fun v9 T8 => some (.inl v9, T8)
set_option maxHeartbeats 4000000 in
set_option maxRecDepth 100000 in
theorem c_X3_childrenOn (p0 : Int32) (p1 : Int32) (T T' : zT) (v : (Int32 ⊕ Nat)) (hf : f_X3_childrenOn p0 p1 T = some (v, T')) : zC 0 yX3_childrenOn cX3_childrenOn 3 (some .int) 7  1 6  (fun G _ => [.ref (G 0 0), .int p0, .int p1]) T (fun _ => zri v) T' := by
  intro l D Y S V G A hl9 hG
  refine vx_ofW (cc := cX3_childrenOn) (maxL := 3) (ret := (some .int)) (by decide) rfl ?_
  intro p e s m args below meth c s₁ B hml hex hv
  obtain ⟨rfl, hK, hP, hA⟩ := hv
  have hx := B.exec
  have hb := B.bytes
  have hr := B.returns
  have hlocks := B.notSynchronized
  have hown : s.vm.findClass RX3 = some m.cls := findClass_of_methodNamed B.named
  have hts := atoms_spec (ws := Cond.code yX3_childrenOn cX3_childrenOn 3 (some .int) :: zWS) B.pre
  have F : zF 0 7  1 6  p l s m _ c cX3_childrenOn 3 RX3 (Cond.code yX3_childrenOn cX3_childrenOn 3 (some .int)) D Y S V G A := ⟨hx, hb, hml, hown, hts, hl9, hG, hK, hA⟩
  have hS : va_S A s.heap s.heap [] := va_S.rf
  have hl := lv_entry ([.ref (G 0 0), .int p0, .int p1]) (n := 3) (Nat.le_of_ble_eq_true rfl)
  rw [lg_entry_eq]
  generalize (lg_sl ([.ref (G 0 0), .int p0, .int p1]) ++ List.replicate (3 - (lg_sl ([.ref (G 0 0), .int p0, .int p1])).length) Slot.unset).toArray = ls at hl ⊢
  have hl : lv_has ls 3 [(0, .ref (G 0 0)), (1, .int p0), (2, .int p1)] := hl
  unfold f_X3_childrenOn at hf
  refine lv_iload_n hx hb dX3_childrenOn_0 rfl (lv_at hl 1 rfl) ?_
  refine lv_iload_n hx hb dX3_childrenOn_1 rfl (lv_at hl 2 rfl) ?_
  rcases zx_i hf with ⟨v2, T1, h3, hf⟩ | ⟨y4, T1, h3, hf⟩
  · refine z_ok (z_runS (As := [.int p0, .int p1]) (rest := []) F k_X3_needDate m_687 (c_X3_needDate p0 p1 T T1 _ h3) hP hS rfl rfl hl.1 (Nat.le_of_ble_eq_true rfl) dX3_childrenOn_2 (Nat.le_of_ble_eq_true rfl) ⟨Nat.le_of_ble_eq_true rfl, Nat.le_of_ble_eq_true rfl⟩ rfl) hS (fun H locs hP hS => ?_)
    refine lv_iload_n hx hb dX3_childrenOn_5 rfl (lv_at hl 1 rfl) ?_
    refine lv_iload_n hx hb dX3_childrenOn_6 rfl (lv_at hl 2 rfl) ?_
    obtain ⟨v6, T5, h7, hf⟩ := zb_i hf
    refine z_ok (z_runS (As := [.int p0, .int p1]) (rest := []) F k_X3_dateOf m_691 (c_X3_dateOf p0 p1 T1 T5 _ h7) hP hS rfl rfl hl.1 (Nat.le_of_ble_eq_true rfl) dX3_childrenOn_7 (Nat.le_of_ble_eq_true rfl) ⟨Nat.le_of_ble_eq_true rfl, Nat.le_of_ble_eq_true rfl⟩ rfl) hS (fun H locs hP hS => ?_)
    refine lv_aload_n hx hb dX3_childrenOn_10 rfl (lv_at hl 0 rfl) ?_
    refine z_get hx hb hts (fun w h => List.mem_cons_of_mem _ (ziX3 w h)) hown hK hP (zV_0 (by decide)) rfl rfl 4 (by decide) (List.mem_cons_of_mem _ m_450) rfl rfl dX3_childrenOn_11 ?_
    refine z_get hx hb hts (fun w h => List.mem_cons_of_mem _ (ziX2 w h)) hown hK hP (zV_r (by decide) (by decide) (by decide)) rfl rfl 17 (by decide) (List.mem_cons_of_mem _ m_106) rfl rfl dX3_childrenOn_14 ?_
    refine lv_aload_n hx hb dX3_childrenOn_17 rfl (lv_at hl 0 rfl) ?_
    refine z_get hx hb hts (fun w h => List.mem_cons_of_mem _ (ziX3 w h)) hown hK hP (zV_0 (by decide)) rfl rfl 4 (by decide) (List.mem_cons_of_mem _ m_450) rfl rfl dX3_childrenOn_18 ?_
    refine z_get hx hb hts (fun w h => List.mem_cons_of_mem _ (ziX2 w h)) hown hK hP (zV_r (by decide) (by decide) (by decide)) rfl rfl 9 (by decide) (List.mem_cons_of_mem _ m_87) rfl rfl dX3_childrenOn_21 ?_
    obtain ⟨v9, T8, h10, hf⟩ := zb_i hf
    refine z_ok (z_runS (As := [.int v6, .ref (G 9 0), .int (T5.1 1 0 9)]) (rest := []) F k_X3_countOf m_1137 (c_X3_countOf v6 9 0 (zIA_r (by decide) (by decide) (by decide)) (T5.1 1 0 9) T5 T8 _ h10) hP hS rfl rfl hl.1 (Nat.le_of_ble_eq_true rfl) dX3_childrenOn_24 (Nat.le_of_ble_eq_true rfl) ⟨Nat.le_of_ble_eq_true rfl, Nat.le_of_ble_eq_true rfl⟩ rfl) hS (fun H locs hP hS => ?_)
    obtain ⟨q1, q2⟩ := zs_i hf
    subst q1; subst q2
    exact z_iret hx hb hr rfl hP hS hlocks (Nat.le_of_ble_eq_true rfl) (Nat.le_of_ble_eq_true rfl) dX3_childrenOn_27
  · cases hf
    exact z_ex (z_runS (As := [.int p0, .int p1]) (rest := []) F k_X3_needDate m_687 (c_X3_needDate p0 p1 T T' _ h3) hP hS rfl rfl hl.1 (Nat.le_of_ble_eq_true rfl) dX3_childrenOn_2 (Nat.le_of_ble_eq_true rfl) ⟨Nat.le_of_ble_eq_true rfl, Nat.le_of_ble_eq_true rfl⟩ rfl) hS hex hlocks rfl (Nat.le_of_ble_eq_true rfl) (Nat.le_of_ble_eq_true rfl)

def lp_X3_isFirstWithItsDate_14 (w1 : Int32) (w2 : Int32) : Nat → Int32 → zT → Option ((Nat × Int32) × zT)
  | 0, _, _ => none
  | n + 1, u3, T => (if w1 ≤ u3 then some ((1, u3), T) else zb (f_X3_cell 9 0 u3 T) fun v5 T4 => (if v5 = w2 then some ((0, u3), T4) else zl (u3 + 1) fun x7 => lp_X3_isFirstWithItsDate_14 w1 w2 n x7 T4))
def f_X3_isFirstWithItsDate (p0 : Int32) (T : zT) : Option (Int32 × zT) := zb (f_X3_cell 9 0 p0 T) fun v2 T1 => zb (lp_X3_isFirstWithItsDate_14 p0 v2 2000 0 T1) fun v9 T8 => if v9.1 = 0 then some (0, T8) else if v9.1 = 1 then (if v2 = (-1) then some (0, T8) else some (1, T8)) else none
set_option maxHeartbeats 4000000 in
set_option maxRecDepth 100000 in
theorem l_X3_isFirstWithItsDate_14 {p : Program} {l : Launch} {e : Env} {s : State} {m : MethodId} {args : Array Value} {below : List Frame} {meth : Method} {c : Code} {Q : State → Prop} {D : va_G} {Y : Nat → ClassId} {S V : Nat → Nat} {G : Nat → Nat → Nat} {A : Nat → Prop} {c0 : Cond} {mc ms cells slots : Nat} (F : zF 0 1 mc ms p l s m args c cX3_isFirstWithItsDate 4 RX3 c0 D Y S V G A) (hcs : cells ≤ mc ∧ slots ≤ ms) (w1 : Int32) (w2 : Int32) :
    ∀ (n : Nat) (u3 : Int32) (T : zT) (o : (Nat × Int32) × zT) (H : Heap) (locs : List Loc) (ls : Array Slot), lp_X3_isFirstWithItsDate_14 w1 w2 n u3 T = some o → zP 0 D Y G T H → va_S A s.heap H locs → lv_has ls 4 [(0, .ref (G 0 0)), (1, .int w1), (2, .int w2), (3, .int u3)] → (o.1.1 = 0 → ∀ (H : Heap) (locs : List Loc) (ls : Array Slot), zP 0 D Y G o.2 H → va_S A s.heap H locs → lv_has ls 4 [(0, .ref (G 0 0)), (1, .int w1), (2, .int w2), (3, .int o.1.2)] → W p l e (zR 1 mc ms) s m args below meth c H locs cells slots Q (F0 m 34 ls [])) → (o.1.1 = 1 → ∀ (H : Heap) (locs : List Loc) (ls : Array Slot), zP 0 D Y G o.2 H → va_S A s.heap H locs → lv_has ls 4 [(0, .ref (G 0 0)), (1, .int w1), (2, .int w2), (3, .int o.1.2)] → W p l e (zR 1 mc ms) s m args below meth c H locs cells slots Q (F0 m 42 ls [])) → W p l e (zR 1 mc ms) s m args below meth c H locs cells slots Q (F0 m 14 ls []) := by
  obtain ⟨hx, hb, hml, hown, hts, hl9, hG, hK, hA⟩ := id F
  intro n
  induction n with
  | zero =>
    intro u3 T o H locs ls hf
    rw [lp_X3_isFirstWithItsDate_14] at hf
    cases hf
  | succ n ih =>
    intro u3 T o H locs ls hf hP hS hl k0_ k1_
    rw [lp_X3_isFirstWithItsDate_14] at hf
    refine lv_iload_n hx hb dX3_isFirstWithItsDate_14 rfl (lv_at hl 3 rfl) ?_
    refine lv_iload_n hx hb dX3_isFirstWithItsDate_15 rfl (lv_at hl 1 rfl) ?_
    refine lv_icmp_ge (tgt := 42) hx hb dX3_isFirstWithItsDate_16 (by decide) (fun hc => ?_) (fun hc => ?_)
    · have hf := zif_p hf hc
      cases hf
      exact k1_ rfl _ _ _ hP hS (lv_sub hl [0, 1, 2, 3] rfl)
    · have hf := zif_n hf hc
      refine lv_aload_n hx hb dX3_isFirstWithItsDate_19 rfl (lv_at hl 0 rfl) ?_
      refine z_get hx hb hts (fun w h => List.mem_cons_of_mem _ (ziX3 w h)) hown hK hP (zV_0 (by decide)) rfl rfl 4 (by decide) (List.mem_cons_of_mem _ m_450) rfl rfl dX3_isFirstWithItsDate_20 ?_
      refine z_get hx hb hts (fun w h => List.mem_cons_of_mem _ (ziX2 w h)) hown hK hP (zV_r (by decide) (by decide) (by decide)) rfl rfl 17 (by decide) (List.mem_cons_of_mem _ m_106) rfl rfl dX3_isFirstWithItsDate_23 ?_
      refine lv_iload_n hx hb dX3_isFirstWithItsDate_26 rfl (lv_at hl 3 rfl) ?_
      obtain ⟨v5, T4, h6, hf⟩ := zb_i hf
      refine z_ok (z_runS (As := [.ref (G 9 0), .int u3]) (rest := []) F k_X3_cell m_692 (c_X3_cell 9 0 (zIA_r (by decide) (by decide) (by decide)) u3 T T4 _ h6) hP hS rfl rfl hl.1 (Nat.le_of_ble_eq_true rfl) dX3_isFirstWithItsDate_27 (Nat.le_of_ble_eq_true rfl) ⟨hcs.1, hcs.2⟩ rfl) hS (fun H locs hP hS => ?_)
      refine lv_iload_n hx hb dX3_isFirstWithItsDate_30 rfl (lv_at hl 2 rfl) ?_
      refine lv_icmp_ne (tgt := 36) hx hb dX3_isFirstWithItsDate_31 (by decide) (fun hc => ?_) (fun hc => ?_)
      · have hf := zif_n hf hc
        obtain ⟨x7, ex7, hf⟩ := zl_i hf
        refine lv_iinc (v := x7) (lv' := [(3, .int x7), (0, .ref (G 0 0)), (1, .int w1), (2, .int w2)]) hx hb dX3_isFirstWithItsDate_36 hl (k := 3) rfl (by rw [ex7]; rfl) (by decide) rfl (fun ls hl => ?_)
        refine lv_goto (tgt := 14) hx hb dX3_isFirstWithItsDate_39 (by decide) ?_
        exact ih x7 _ _ _ _ _ hf hP hS (lv_sub hl [1, 2, 3, 0] rfl) k0_ k1_
      · have hf := zif_p hf hc
        cases hf
        exact k0_ rfl _ _ _ hP hS (lv_sub hl [0, 1, 2, 3] rfl)
set_option maxHeartbeats 4000000 in
set_option maxRecDepth 100000 in
theorem c_X3_isFirstWithItsDate (p0 : Int32) (T T' : zT) (v : Int32) (hf : f_X3_isFirstWithItsDate p0 T = some (v, T')) : zC 0 yX3_isFirstWithItsDate cX3_isFirstWithItsDate 4 (some .boolean) 1  0 0  (fun G _ => [.ref (G 0 0), .int p0]) T (fun _ => .inl (some (.int v))) T' := by
  intro l D Y S V G A hl9 hG
  refine vx_ofW (cc := cX3_isFirstWithItsDate) (maxL := 4) (ret := (some .boolean)) (by decide) rfl ?_
  intro p e s m args below meth c s₁ B hml hex hv
  obtain ⟨rfl, hK, hP, hA⟩ := hv
  have hx := B.exec
  have hb := B.bytes
  have hr := B.returns
  have hlocks := B.notSynchronized
  have hown : s.vm.findClass RX3 = some m.cls := findClass_of_methodNamed B.named
  have hts := atoms_spec (ws := Cond.code yX3_isFirstWithItsDate cX3_isFirstWithItsDate 4 (some .boolean) :: zWS) B.pre
  have F : zF 0 1  0 0  p l s m _ c cX3_isFirstWithItsDate 4 RX3 (Cond.code yX3_isFirstWithItsDate cX3_isFirstWithItsDate 4 (some .boolean)) D Y S V G A := ⟨hx, hb, hml, hown, hts, hl9, hG, hK, hA⟩
  have hS : va_S A s.heap s.heap [] := va_S.rf
  have hl := lv_entry ([.ref (G 0 0), .int p0]) (n := 4) (Nat.le_of_ble_eq_true rfl)
  rw [lg_entry_eq]
  generalize (lg_sl ([.ref (G 0 0), .int p0]) ++ List.replicate (4 - (lg_sl ([.ref (G 0 0), .int p0])).length) Slot.unset).toArray = ls at hl ⊢
  have hl : lv_has ls 4 [(0, .ref (G 0 0)), (1, .int p0)] := hl
  unfold f_X3_isFirstWithItsDate at hf
  refine lv_aload_n hx hb dX3_isFirstWithItsDate_0 rfl (lv_at hl 0 rfl) ?_
  refine z_get hx hb hts (fun w h => List.mem_cons_of_mem _ (ziX3 w h)) hown hK hP (zV_0 (by decide)) rfl rfl 4 (by decide) (List.mem_cons_of_mem _ m_450) rfl rfl dX3_isFirstWithItsDate_1 ?_
  refine z_get hx hb hts (fun w h => List.mem_cons_of_mem _ (ziX2 w h)) hown hK hP (zV_r (by decide) (by decide) (by decide)) rfl rfl 17 (by decide) (List.mem_cons_of_mem _ m_106) rfl rfl dX3_isFirstWithItsDate_4 ?_
  refine lv_iload_n hx hb dX3_isFirstWithItsDate_7 rfl (lv_at hl 1 rfl) ?_
  obtain ⟨v2, T1, h3, hf⟩ := zb_i hf
  refine z_ok (z_runS (As := [.ref (G 9 0), .int p0]) (rest := []) F k_X3_cell m_692 (c_X3_cell 9 0 (zIA_r (by decide) (by decide) (by decide)) p0 T T1 _ h3) hP hS rfl rfl hl.1 (Nat.le_of_ble_eq_true rfl) dX3_isFirstWithItsDate_8 (Nat.le_of_ble_eq_true rfl) ⟨Nat.le_of_ble_eq_true rfl, Nat.le_of_ble_eq_true rfl⟩ rfl) hS (fun H locs hP hS => ?_)
  refine lv_istore_n (lv' := [(2, .int v2), (0, .ref (G 0 0)), (1, .int p0)]) hx hb dX3_isFirstWithItsDate_11 rfl hl (by decide) rfl (fun ls hl => ?_)
  refine lv_iconst (v := 0) hx hb dX3_isFirstWithItsDate_12 (by decide) ?_
  refine lv_istore_n (lv' := [(3, .int 0), (2, .int v2), (0, .ref (G 0 0)), (1, .int p0)]) hx hb dX3_isFirstWithItsDate_13 rfl hl (by decide) rfl (fun ls hl => ?_)
  obtain ⟨v9, T8, h10, hf⟩ := zb_i hf
  refine l_X3_isFirstWithItsDate_14 F ⟨Nat.le_of_ble_eq_true rfl, Nat.le_of_ble_eq_true rfl⟩ p0 v2 2000 0 _ _ _ _ _ h10 hP hS (lv_sub hl [2, 3, 1, 0] rfl) (fun hc H locs ls hP hS hl => ?_) (fun hc H locs ls hP hS hl => ?_)
  · have hf := zif_p hf hc
    refine lv_iconst (v := 0) hx hb dX3_isFirstWithItsDate_34 (by decide) ?_
    obtain ⟨q1, q2⟩ := zs_i hf
    subst q1; subst q2
    exact z_zret hx hb hr (Or.inl rfl) rfl hP hS hlocks (Nat.le_of_ble_eq_true rfl) (Nat.le_of_ble_eq_true rfl) dX3_isFirstWithItsDate_35
  · have hf := zif_n hf (by rw [hc]; decide)
    have hf := zif_p hf hc
    refine lv_iload_n hx hb dX3_isFirstWithItsDate_42 rfl (lv_at hl 2 rfl) ?_
    refine lv_iconst (v := (-1)) hx hb dX3_isFirstWithItsDate_43 (by decide) ?_
    refine lv_icmp_eq (tgt := 51) hx hb dX3_isFirstWithItsDate_44 (by decide) (fun hc => ?_) (fun hc => ?_)
    · have hf := zif_p hf hc
      refine lv_iconst (v := 0) hx hb dX3_isFirstWithItsDate_51 (by decide) ?_
      obtain ⟨q1, q2⟩ := zs_i hf
      subst q1; subst q2
      exact z_zret hx hb hr (Or.inl rfl) rfl hP hS hlocks (Nat.le_of_ble_eq_true rfl) (Nat.le_of_ble_eq_true rfl) dX3_isFirstWithItsDate_52
    · have hf := zif_n hf hc
      refine lv_iconst (v := 1) hx hb dX3_isFirstWithItsDate_47 (by decide) ?_
      refine lv_goto (tgt := 52) hx hb dX3_isFirstWithItsDate_48 (by decide) ?_
      obtain ⟨q1, q2⟩ := zs_i hf
      subst q1; subst q2
      exact z_zret hx hb hr (Or.inr rfl) rfl hP hS hlocks (Nat.le_of_ble_eq_true rfl) (Nat.le_of_ble_eq_true rfl) dX3_isFirstWithItsDate_52

def lp_X3_differentDates_4  : Nat → Int32 → Int32 → zT → Option ((Int32 × Int32) × zT)
  | 0, _, _, _ => none
  | n + 1, u1, u2, T => (if (T.1 1 0 9) ≤ u2 then some ((u1, u2), T) else zb (f_X3_isFirstWithItsDate u2 T) fun v2 T1 => (if v2 = 0 then zl (u2 + 1) fun x4 => lp_X3_differentDates_4 n u1 x4 T1 else zl (u1 + 1) fun x5 => zl (u2 + 1) fun x6 => lp_X3_differentDates_4 n x5 x6 T1))
def f_X3_differentDates  (T : zT) : Option (Int32 × zT) := zb (lp_X3_differentDates_4 2000 0 0 T) fun v8 T7 => some (v8.1, T7)
set_option maxHeartbeats 4000000 in
set_option maxRecDepth 100000 in
theorem l_X3_differentDates_4 {p : Program} {l : Launch} {e : Env} {s : State} {m : MethodId} {args : Array Value} {below : List Frame} {meth : Method} {c : Code} {Q : State → Prop} {D : va_G} {Y : Nat → ClassId} {S V : Nat → Nat} {G : Nat → Nat → Nat} {A : Nat → Prop} {c0 : Cond} {mc ms cells slots : Nat} (F : zF 0 2 mc ms p l s m args c cX3_differentDates 3 RX3 c0 D Y S V G A) (hcs : cells ≤ mc ∧ slots ≤ ms) :
    ∀ (n : Nat) (u1 : Int32) (u2 : Int32) (T : zT) (o : (Int32 × Int32) × zT) (H : Heap) (locs : List Loc) (ls : Array Slot), lp_X3_differentDates_4 n u1 u2 T = some o → zP 0 D Y G T H → va_S A s.heap H locs → lv_has ls 3 [(0, .ref (G 0 0)), (1, .int u1), (2, .int u2)] → (∀ (H : Heap) (locs : List Loc) (ls : Array Slot), zP 0 D Y G o.2 H → va_S A s.heap H locs → lv_has ls 3 [(0, .ref (G 0 0)), (1, .int o.1.1), (2, .int o.1.2)] → W p l e (zR 2 mc ms) s m args below meth c H locs cells slots Q (F0 m 32 ls [])) → W p l e (zR 2 mc ms) s m args below meth c H locs cells slots Q (F0 m 4 ls []) := by
  obtain ⟨hx, hb, hml, hown, hts, hl9, hG, hK, hA⟩ := id F
  intro n
  induction n with
  | zero =>
    intro u1 u2 T o H locs ls hf
    rw [lp_X3_differentDates_4] at hf
    cases hf
  | succ n ih =>
    intro u1 u2 T o H locs ls hf hP hS hl k0_
    rw [lp_X3_differentDates_4] at hf
    refine lv_iload_n hx hb dX3_differentDates_4 rfl (lv_at hl 2 rfl) ?_
    refine lv_aload_n hx hb dX3_differentDates_5 rfl (lv_at hl 0 rfl) ?_
    refine z_get hx hb hts (fun w h => List.mem_cons_of_mem _ (ziX3 w h)) hown hK hP (zV_0 (by decide)) rfl rfl 4 (by decide) (List.mem_cons_of_mem _ m_450) rfl rfl dX3_differentDates_6 ?_
    refine z_get hx hb hts (fun w h => List.mem_cons_of_mem _ (ziX2 w h)) hown hK hP (zV_r (by decide) (by decide) (by decide)) rfl rfl 9 (by decide) (List.mem_cons_of_mem _ m_87) rfl rfl dX3_differentDates_9 ?_
    refine lv_icmp_ge (tgt := 32) hx hb dX3_differentDates_12 (by decide) (fun hc => ?_) (fun hc => ?_)
    · have hf := zif_p hf hc
      cases hf
      exact k0_ _ _ _ hP hS (lv_sub hl [0, 1, 2] rfl)
    · have hf := zif_n hf hc
      refine lv_aload_n hx hb dX3_differentDates_15 rfl (lv_at hl 0 rfl) ?_
      refine lv_iload_n hx hb dX3_differentDates_16 rfl (lv_at hl 2 rfl) ?_
      obtain ⟨v2, T1, h3, hf⟩ := zb_i hf
      refine z_ok (z_runV (As := [.int u2]) (rest := []) F k_X3_isFirstWithItsDate m_1121 (c_X3_isFirstWithItsDate u2 T T1 _ h3) hP hS (zV_0 (by decide)) rfl rfl rfl rfl hl.1 (Nat.le_of_ble_eq_true rfl) dX3_differentDates_17 (Nat.le_of_ble_eq_true rfl) ⟨hcs.1, hcs.2⟩ rfl) hS (fun H locs hP hS => ?_)
      refine lv_if_eq (tgt := 26) hx hb dX3_differentDates_20 (by decide) (fun hc => ?_) (fun hc => ?_)
      · have hf := zif_p hf hc
        obtain ⟨x4, ex4, hf⟩ := zl_i hf
        refine lv_iinc (v := x4) (lv' := [(2, .int x4), (0, .ref (G 0 0)), (1, .int u1)]) hx hb dX3_differentDates_26 hl (k := 2) rfl (by rw [ex4]; rfl) (by decide) rfl (fun ls hl => ?_)
        refine lv_goto (tgt := 4) hx hb dX3_differentDates_29 (by decide) ?_
        exact ih u1 x4 _ _ _ _ _ hf hP hS (lv_sub hl [1, 2, 0] rfl) k0_
      · have hf := zif_n hf hc
        obtain ⟨x5, ex5, hf⟩ := zl_i hf
        refine lv_iinc (v := x5) (lv' := [(1, .int x5), (0, .ref (G 0 0)), (2, .int u2)]) hx hb dX3_differentDates_23 hl (k := 1) rfl (by rw [ex5]; rfl) (by decide) rfl (fun ls hl => ?_)
        obtain ⟨x6, ex6, hf⟩ := zl_i hf
        refine lv_iinc (v := x6) (lv' := [(2, .int x6), (1, .int x5), (0, .ref (G 0 0))]) hx hb dX3_differentDates_26 hl (k := 2) rfl (by rw [ex6]; rfl) (by decide) rfl (fun ls hl => ?_)
        refine lv_goto (tgt := 4) hx hb dX3_differentDates_29 (by decide) ?_
        exact ih x5 x6 _ _ _ _ _ hf hP hS (lv_sub hl [2, 1, 0] rfl) k0_
set_option maxHeartbeats 4000000 in
set_option maxRecDepth 100000 in
theorem c_X3_differentDates  (T T' : zT) (v : Int32) (hf : f_X3_differentDates  T = some (v, T')) : zC 0 yX3_differentDates cX3_differentDates 3 (some .int) 2  0 0  (fun G _ => [.ref (G 0 0)]) T (fun _ => .inl (some (.int v))) T' := by
  intro l D Y S V G A hl9 hG
  refine vx_ofW (cc := cX3_differentDates) (maxL := 3) (ret := (some .int)) (by decide) rfl ?_
  intro p e s m args below meth c s₁ B hml hex hv
  obtain ⟨rfl, hK, hP, hA⟩ := hv
  have hx := B.exec
  have hb := B.bytes
  have hr := B.returns
  have hlocks := B.notSynchronized
  have hown : s.vm.findClass RX3 = some m.cls := findClass_of_methodNamed B.named
  have hts := atoms_spec (ws := Cond.code yX3_differentDates cX3_differentDates 3 (some .int) :: zWS) B.pre
  have F : zF 0 2  0 0  p l s m _ c cX3_differentDates 3 RX3 (Cond.code yX3_differentDates cX3_differentDates 3 (some .int)) D Y S V G A := ⟨hx, hb, hml, hown, hts, hl9, hG, hK, hA⟩
  have hS : va_S A s.heap s.heap [] := va_S.rf
  have hl := lv_entry ([.ref (G 0 0)]) (n := 3) (Nat.le_of_ble_eq_true rfl)
  rw [lg_entry_eq]
  generalize (lg_sl ([.ref (G 0 0)]) ++ List.replicate (3 - (lg_sl ([.ref (G 0 0)])).length) Slot.unset).toArray = ls at hl ⊢
  have hl : lv_has ls 3 [(0, .ref (G 0 0))] := hl
  unfold f_X3_differentDates at hf
  refine lv_iconst (v := 0) hx hb dX3_differentDates_0 (by decide) ?_
  refine lv_istore_n (lv' := [(1, .int 0), (0, .ref (G 0 0))]) hx hb dX3_differentDates_1 rfl hl (by decide) rfl (fun ls hl => ?_)
  refine lv_iconst (v := 0) hx hb dX3_differentDates_2 (by decide) ?_
  refine lv_istore_n (lv' := [(2, .int 0), (1, .int 0), (0, .ref (G 0 0))]) hx hb dX3_differentDates_3 rfl hl (by decide) rfl (fun ls hl => ?_)
  obtain ⟨v8, T7, h9, hf⟩ := zb_i hf
  refine l_X3_differentDates_4 F ⟨Nat.le_of_ble_eq_true rfl, Nat.le_of_ble_eq_true rfl⟩  2000 0 0 _ _ _ _ _ h9 hP hS (lv_sub hl [2, 1, 0] rfl) (fun H locs ls hP hS hl => ?_)
  refine lv_iload_n hx hb dX3_differentDates_32 rfl (lv_at hl 1 rfl) ?_
  obtain ⟨q1, q2⟩ := zs_i hf
  subst q1; subst q2
  exact z_iret hx hb hr rfl hP hS hlocks (Nat.le_of_ble_eq_true rfl) (Nat.le_of_ble_eq_true rfl) dX3_differentDates_33

def lp_X3_dateAt_4 (w1 : Int32) : Nat → Int32 → Int32 → zT → Option ((Nat × Int32 × Int32) × zT)
  | 0, _, _, _ => none
  | n + 1, u2, u3, T => (if (T.1 1 0 9) ≤ u3 then some ((1, (u2, u3)), T) else zb (f_X3_isFirstWithItsDate u3 T) fun v2 T1 => (if v2 = 0 then zl (u3 + 1) fun x4 => lp_X3_dateAt_4 w1 n u2 x4 T1 else (if u2 = w1 then some ((0, (u2, u3)), T1) else zl (u2 + 1) fun x5 => zl (u3 + 1) fun x6 => lp_X3_dateAt_4 w1 n x5 x6 T1)))
def f_X3_dateAt (p0 : Int32) (T : zT) : Option ((Int32 ⊕ Nat) × zT) := zb (lp_X3_dateAt_4 p0 2000 0 0 T) fun v8 T7 => if v8.1 = 0 then zb (f_X3_cell 9 0 v8.2.2 T7) fun v11 T10 => some (.inl v11, T10) else if v8.1 = 1 then some (.inr 2, T7) else none
set_option maxHeartbeats 4000000 in
set_option maxRecDepth 100000 in
theorem l_X3_dateAt_4 {p : Program} {l : Launch} {e : Env} {s : State} {m : MethodId} {args : Array Value} {below : List Frame} {meth : Method} {c : Code} {Q : State → Prop} {D : va_G} {Y : Nat → ClassId} {S V : Nat → Nat} {G : Nat → Nat → Nat} {A : Nat → Prop} {c0 : Cond} {mc ms cells slots : Nat} (F : zF 0 6 mc ms p l s m args c cX3_dateAt 4 RX3 c0 D Y S V G A) (hcs : cells ≤ mc ∧ slots ≤ ms) (w1 : Int32) :
    ∀ (n : Nat) (u2 : Int32) (u3 : Int32) (T : zT) (o : (Nat × Int32 × Int32) × zT) (H : Heap) (locs : List Loc) (ls : Array Slot), lp_X3_dateAt_4 w1 n u2 u3 T = some o → zP 0 D Y G T H → va_S A s.heap H locs → lv_has ls 4 [(0, .ref (G 0 0)), (1, .int w1), (2, .int u2), (3, .int u3)] → (o.1.1 = 0 → ∀ (H : Heap) (locs : List Loc) (ls : Array Slot), zP 0 D Y G o.2 H → va_S A s.heap H locs → lv_has ls 4 [(0, .ref (G 0 0)), (1, .int w1), (2, .int o.1.2.1), (3, .int o.1.2.2)] → W p l e (zR 6 mc ms) s m args below meth c H locs cells slots Q (F0 m 28 ls [])) → (o.1.1 = 1 → ∀ (H : Heap) (locs : List Loc) (ls : Array Slot), zP 0 D Y G o.2 H → va_S A s.heap H locs → lv_has ls 4 [(0, .ref (G 0 0)), (1, .int w1), (2, .int o.1.2.1), (3, .int o.1.2.2)] → W p l e (zR 6 mc ms) s m args below meth c H locs cells slots Q (F0 m 49 ls [])) → W p l e (zR 6 mc ms) s m args below meth c H locs cells slots Q (F0 m 4 ls []) := by
  obtain ⟨hx, hb, hml, hown, hts, hl9, hG, hK, hA⟩ := id F
  intro n
  induction n with
  | zero =>
    intro u2 u3 T o H locs ls hf
    rw [lp_X3_dateAt_4] at hf
    cases hf
  | succ n ih =>
    intro u2 u3 T o H locs ls hf hP hS hl k0_ k1_
    rw [lp_X3_dateAt_4] at hf
    refine lv_iload_n hx hb dX3_dateAt_4 rfl (lv_at hl 3 rfl) ?_
    refine lv_aload_n hx hb dX3_dateAt_5 rfl (lv_at hl 0 rfl) ?_
    refine z_get hx hb hts (fun w h => List.mem_cons_of_mem _ (ziX3 w h)) hown hK hP (zV_0 (by decide)) rfl rfl 4 (by decide) (List.mem_cons_of_mem _ m_450) rfl rfl dX3_dateAt_6 ?_
    refine z_get hx hb hts (fun w h => List.mem_cons_of_mem _ (ziX2 w h)) hown hK hP (zV_r (by decide) (by decide) (by decide)) rfl rfl 9 (by decide) (List.mem_cons_of_mem _ m_87) rfl rfl dX3_dateAt_9 ?_
    refine lv_icmp_ge (tgt := 49) hx hb dX3_dateAt_12 (by decide) (fun hc => ?_) (fun hc => ?_)
    · have hf := zif_p hf hc
      cases hf
      exact k1_ rfl _ _ _ hP hS (lv_sub hl [0, 1, 2, 3] rfl)
    · have hf := zif_n hf hc
      refine lv_aload_n hx hb dX3_dateAt_15 rfl (lv_at hl 0 rfl) ?_
      refine lv_iload_n hx hb dX3_dateAt_16 rfl (lv_at hl 3 rfl) ?_
      obtain ⟨v2, T1, h3, hf⟩ := zb_i hf
      refine z_ok (z_runV (As := [.int u3]) (rest := []) F k_X3_isFirstWithItsDate m_1121 (c_X3_isFirstWithItsDate u3 T T1 _ h3) hP hS (zV_0 (by decide)) rfl rfl rfl rfl hl.1 (Nat.le_of_ble_eq_true rfl) dX3_dateAt_17 (Nat.le_of_ble_eq_true rfl) ⟨hcs.1, hcs.2⟩ rfl) hS (fun H locs hP hS => ?_)
      refine lv_if_eq (tgt := 43) hx hb dX3_dateAt_20 (by decide) (fun hc => ?_) (fun hc => ?_)
      · have hf := zif_p hf hc
        obtain ⟨x4, ex4, hf⟩ := zl_i hf
        refine lv_iinc (v := x4) (lv' := [(3, .int x4), (0, .ref (G 0 0)), (1, .int w1), (2, .int u2)]) hx hb dX3_dateAt_43 hl (k := 3) rfl (by rw [ex4]; rfl) (by decide) rfl (fun ls hl => ?_)
        refine lv_goto (tgt := 4) hx hb dX3_dateAt_46 (by decide) ?_
        exact ih u2 x4 _ _ _ _ _ hf hP hS (lv_sub hl [1, 2, 3, 0] rfl) k0_ k1_
      · have hf := zif_n hf hc
        refine lv_iload_n hx hb dX3_dateAt_23 rfl (lv_at hl 2 rfl) ?_
        refine lv_iload_n hx hb dX3_dateAt_24 rfl (lv_at hl 1 rfl) ?_
        refine lv_icmp_ne (tgt := 40) hx hb dX3_dateAt_25 (by decide) (fun hc => ?_) (fun hc => ?_)
        · have hf := zif_n hf hc
          obtain ⟨x5, ex5, hf⟩ := zl_i hf
          refine lv_iinc (v := x5) (lv' := [(2, .int x5), (0, .ref (G 0 0)), (1, .int w1), (3, .int u3)]) hx hb dX3_dateAt_40 hl (k := 2) rfl (by rw [ex5]; rfl) (by decide) rfl (fun ls hl => ?_)
          obtain ⟨x6, ex6, hf⟩ := zl_i hf
          refine lv_iinc (v := x6) (lv' := [(3, .int x6), (2, .int x5), (0, .ref (G 0 0)), (1, .int w1)]) hx hb dX3_dateAt_43 hl (k := 3) rfl (by rw [ex6]; rfl) (by decide) rfl (fun ls hl => ?_)
          refine lv_goto (tgt := 4) hx hb dX3_dateAt_46 (by decide) ?_
          exact ih x5 x6 _ _ _ _ _ hf hP hS (lv_sub hl [2, 3, 1, 0] rfl) k0_ k1_
        · have hf := zif_p hf hc
          cases hf
          exact k0_ rfl _ _ _ hP hS (lv_sub hl [0, 1, 2, 3] rfl)
set_option maxHeartbeats 4000000 in
set_option maxRecDepth 100000 in
theorem c_X3_dateAt (p0 : Int32) (T T' : zT) (v : (Int32 ⊕ Nat)) (hf : f_X3_dateAt p0 T = some (v, T')) : zC 0 yX3_dateAt cX3_dateAt 4 (some .int) 6  1 6  (fun G _ => [.ref (G 0 0), .int p0]) T (fun _ => zri v) T' := by
  intro l D Y S V G A hl9 hG
  refine vx_ofW (cc := cX3_dateAt) (maxL := 4) (ret := (some .int)) (by decide) rfl ?_
  intro p e s m args below meth c s₁ B hml hex hv
  obtain ⟨rfl, hK, hP, hA⟩ := hv
  have hx := B.exec
  have hb := B.bytes
  have hr := B.returns
  have hlocks := B.notSynchronized
  have hown : s.vm.findClass RX3 = some m.cls := findClass_of_methodNamed B.named
  have hts := atoms_spec (ws := Cond.code yX3_dateAt cX3_dateAt 4 (some .int) :: zWS) B.pre
  have F : zF 0 6  1 6  p l s m _ c cX3_dateAt 4 RX3 (Cond.code yX3_dateAt cX3_dateAt 4 (some .int)) D Y S V G A := ⟨hx, hb, hml, hown, hts, hl9, hG, hK, hA⟩
  have hS : va_S A s.heap s.heap [] := va_S.rf
  have hl := lv_entry ([.ref (G 0 0), .int p0]) (n := 4) (Nat.le_of_ble_eq_true rfl)
  rw [lg_entry_eq]
  generalize (lg_sl ([.ref (G 0 0), .int p0]) ++ List.replicate (4 - (lg_sl ([.ref (G 0 0), .int p0])).length) Slot.unset).toArray = ls at hl ⊢
  have hl : lv_has ls 4 [(0, .ref (G 0 0)), (1, .int p0)] := hl
  unfold f_X3_dateAt at hf
  refine lv_iconst (v := 0) hx hb dX3_dateAt_0 (by decide) ?_
  refine lv_istore_n (lv' := [(2, .int 0), (0, .ref (G 0 0)), (1, .int p0)]) hx hb dX3_dateAt_1 rfl hl (by decide) rfl (fun ls hl => ?_)
  refine lv_iconst (v := 0) hx hb dX3_dateAt_2 (by decide) ?_
  refine lv_istore_n (lv' := [(3, .int 0), (2, .int 0), (0, .ref (G 0 0)), (1, .int p0)]) hx hb dX3_dateAt_3 rfl hl (by decide) rfl (fun ls hl => ?_)
  obtain ⟨v8, T7, h9, hf⟩ := zb_i hf
  refine l_X3_dateAt_4 F ⟨Nat.le_of_ble_eq_true rfl, Nat.le_of_ble_eq_true rfl⟩ p0 2000 0 0 _ _ _ _ _ h9 hP hS (lv_sub hl [2, 3, 1, 0] rfl) (fun hc H locs ls hP hS hl => ?_) (fun hc H locs ls hP hS hl => ?_)
  · have hf := zif_p hf hc
    refine lv_aload_n hx hb dX3_dateAt_28 rfl (lv_at hl 0 rfl) ?_
    refine z_get hx hb hts (fun w h => List.mem_cons_of_mem _ (ziX3 w h)) hown hK hP (zV_0 (by decide)) rfl rfl 4 (by decide) (List.mem_cons_of_mem _ m_450) rfl rfl dX3_dateAt_29 ?_
    refine z_get hx hb hts (fun w h => List.mem_cons_of_mem _ (ziX2 w h)) hown hK hP (zV_r (by decide) (by decide) (by decide)) rfl rfl 17 (by decide) (List.mem_cons_of_mem _ m_106) rfl rfl dX3_dateAt_32 ?_
    refine lv_iload_n hx hb dX3_dateAt_35 rfl (lv_at hl 3 rfl) ?_
    obtain ⟨v11, T10, h12, hf⟩ := zb_i hf
    refine z_ok (z_runS (As := [.ref (G 9 0), .int v8.2.2]) (rest := []) F k_X3_cell m_692 (c_X3_cell 9 0 (zIA_r (by decide) (by decide) (by decide)) v8.2.2 T7 T10 _ h12) hP hS rfl rfl hl.1 (Nat.le_of_ble_eq_true rfl) dX3_dateAt_36 (Nat.le_of_ble_eq_true rfl) ⟨Nat.le_of_ble_eq_true rfl, Nat.le_of_ble_eq_true rfl⟩ rfl) hS (fun H locs hP hS => ?_)
    obtain ⟨q1, q2⟩ := zs_i hf
    subst q1; subst q2
    exact z_iret hx hb hr rfl hP hS hlocks (Nat.le_of_ble_eq_true rfl) (Nat.le_of_ble_eq_true rfl) dX3_dateAt_39
  · have hf := zif_n hf (by rw [hc]; decide)
    have hf := zif_p hf hc
    cases hf
    exact z_throw_2 F 22 rfl hP hS hl.1 hlocks hex (Nat.le_of_ble_eq_true rfl) (Nat.le_of_ble_eq_true rfl) (Nat.le_of_ble_eq_true rfl) (Nat.le_of_ble_eq_true rfl) dX3_dateAt_49 dX3_dateAt_52 dX3_dateAt_53 dX3_dateAt_55 dX3_dateAt_58 rfl

def lp_X3_countBirthdaysIn_4 (w1 : Int32) : Nat → Int32 → Int32 → zT → Option ((Int32 × Int32) × zT)
  | 0, _, _, _ => none
  | n + 1, u2, u3, T => (if (T.1 1 0 9) ≤ u3 then some ((u2, u3), T) else zb (f_X3_cell 9 0 u3 T) fun v2 T1 => (if v2 = (-1) then zl (u3 + 1) fun x4 => lp_X3_countBirthdaysIn_4 w1 n u2 x4 T1 else zb (f_X3_monthAt v2 T1) fun v6 T5 => (if v6 = w1 then zl (u2 + 1) fun x9 => zl (u3 + 1) fun x10 => lp_X3_countBirthdaysIn_4 w1 n x9 x10 T5 else zl (u3 + 1) fun x8 => lp_X3_countBirthdaysIn_4 w1 n u2 x8 T5)))
def f_X3_countBirthdaysIn (p0 : Int32) (T : zT) : Option (Int32 × zT) := zb (lp_X3_countBirthdaysIn_4 p0 2000 0 0 T) fun v12 T11 => some (v12.1, T11)
set_option maxHeartbeats 4000000 in
set_option maxRecDepth 100000 in
theorem l_X3_countBirthdaysIn_4 {p : Program} {l : Launch} {e : Env} {s : State} {m : MethodId} {args : Array Value} {below : List Frame} {meth : Method} {c : Code} {Q : State → Prop} {D : va_G} {Y : Nat → ClassId} {S V : Nat → Nat} {G : Nat → Nat → Nat} {A : Nat → Prop} {c0 : Cond} {mc ms cells slots : Nat} (F : zF 0 1 mc ms p l s m args c cX3_countBirthdaysIn 5 RX3 c0 D Y S V G A) (hcs : cells ≤ mc ∧ slots ≤ ms) (w1 : Int32) :
    ∀ (n : Nat) (u2 : Int32) (u3 : Int32) (T : zT) (o : (Int32 × Int32) × zT) (H : Heap) (locs : List Loc) (ls : Array Slot), lp_X3_countBirthdaysIn_4 w1 n u2 u3 T = some o → zP 0 D Y G T H → va_S A s.heap H locs → lv_has ls 5 [(0, .ref (G 0 0)), (1, .int w1), (2, .int u2), (3, .int u3)] → (∀ (H : Heap) (locs : List Loc) (ls : Array Slot), zP 0 D Y G o.2 H → va_S A s.heap H locs → lv_has ls 5 [(0, .ref (G 0 0)), (1, .int w1), (2, .int o.1.1), (3, .int o.1.2)] → W p l e (zR 1 mc ms) s m args below meth c H locs cells slots Q (F0 m 52 ls [])) → W p l e (zR 1 mc ms) s m args below meth c H locs cells slots Q (F0 m 4 ls []) := by
  obtain ⟨hx, hb, hml, hown, hts, hl9, hG, hK, hA⟩ := id F
  intro n
  induction n with
  | zero =>
    intro u2 u3 T o H locs ls hf
    rw [lp_X3_countBirthdaysIn_4] at hf
    cases hf
  | succ n ih =>
    intro u2 u3 T o H locs ls hf hP hS hl k0_
    rw [lp_X3_countBirthdaysIn_4] at hf
    refine lv_iload_n hx hb dX3_countBirthdaysIn_4 rfl (lv_at hl 3 rfl) ?_
    refine lv_aload_n hx hb dX3_countBirthdaysIn_5 rfl (lv_at hl 0 rfl) ?_
    refine z_get hx hb hts (fun w h => List.mem_cons_of_mem _ (ziX3 w h)) hown hK hP (zV_0 (by decide)) rfl rfl 4 (by decide) (List.mem_cons_of_mem _ m_450) rfl rfl dX3_countBirthdaysIn_6 ?_
    refine z_get hx hb hts (fun w h => List.mem_cons_of_mem _ (ziX2 w h)) hown hK hP (zV_r (by decide) (by decide) (by decide)) rfl rfl 9 (by decide) (List.mem_cons_of_mem _ m_87) rfl rfl dX3_countBirthdaysIn_9 ?_
    refine lv_icmp_ge (tgt := 52) hx hb dX3_countBirthdaysIn_12 (by decide) (fun hc => ?_) (fun hc => ?_)
    · have hf := zif_p hf hc
      cases hf
      exact k0_ _ _ _ hP hS (lv_sub hl [0, 1, 2, 3] rfl)
    · have hf := zif_n hf hc
      refine lv_aload_n hx hb dX3_countBirthdaysIn_15 rfl (lv_at hl 0 rfl) ?_
      refine z_get hx hb hts (fun w h => List.mem_cons_of_mem _ (ziX3 w h)) hown hK hP (zV_0 (by decide)) rfl rfl 4 (by decide) (List.mem_cons_of_mem _ m_450) rfl rfl dX3_countBirthdaysIn_16 ?_
      refine z_get hx hb hts (fun w h => List.mem_cons_of_mem _ (ziX2 w h)) hown hK hP (zV_r (by decide) (by decide) (by decide)) rfl rfl 17 (by decide) (List.mem_cons_of_mem _ m_106) rfl rfl dX3_countBirthdaysIn_19 ?_
      refine lv_iload_n hx hb dX3_countBirthdaysIn_22 rfl (lv_at hl 3 rfl) ?_
      obtain ⟨v2, T1, h3, hf⟩ := zb_i hf
      refine z_ok (z_runS (As := [.ref (G 9 0), .int u3]) (rest := []) F k_X3_cell m_692 (c_X3_cell 9 0 (zIA_r (by decide) (by decide) (by decide)) u3 T T1 _ h3) hP hS rfl rfl hl.1 (Nat.le_of_ble_eq_true rfl) dX3_countBirthdaysIn_23 (Nat.le_of_ble_eq_true rfl) ⟨hcs.1, hcs.2⟩ rfl) hS (fun H locs hP hS => ?_)
      refine lv_istore (lv' := [(4, .int v2), (0, .ref (G 0 0)), (1, .int w1), (2, .int u2), (3, .int u3)]) hx hb dX3_countBirthdaysIn_26 hl (by decide) rfl (fun ls hl => ?_)
      refine lv_iload hx hb dX3_countBirthdaysIn_28 (lv_at hl 0 rfl) ?_
      refine lv_iconst (v := (-1)) hx hb dX3_countBirthdaysIn_30 (by decide) ?_
      refine lv_icmp_eq (tgt := 46) hx hb dX3_countBirthdaysIn_31 (by decide) (fun hc => ?_) (fun hc => ?_)
      · have hf := zif_p hf hc
        obtain ⟨x4, ex4, hf⟩ := zl_i hf
        refine lv_iinc (v := x4) (lv' := [(3, .int x4), (4, .int v2), (0, .ref (G 0 0)), (1, .int w1), (2, .int u2)]) hx hb dX3_countBirthdaysIn_46 hl (k := 4) rfl (by rw [ex4]; rfl) (by decide) rfl (fun ls hl => ?_)
        refine lv_goto (tgt := 4) hx hb dX3_countBirthdaysIn_49 (by decide) ?_
        exact ih u2 x4 _ _ _ _ _ hf hP hS (lv_sub hl [2, 3, 4, 0] rfl) k0_
      · have hf := zif_n hf hc
        refine lv_iload hx hb dX3_countBirthdaysIn_34 (lv_at hl 0 rfl) ?_
        obtain ⟨v6, T5, h7, hf⟩ := zb_i hf
        refine z_ok (z_runS (As := [.int v2]) (rest := []) F k_X3_monthAt m_1001 (c_X3_monthAt v2 T1 T5 _ h7) hP hS rfl rfl hl.1 (Nat.le_of_ble_eq_true rfl) dX3_countBirthdaysIn_36 (Nat.le_of_ble_eq_true rfl) ⟨hcs.1, hcs.2⟩ rfl) hS (fun H locs hP hS => ?_)
        refine lv_iload_n hx hb dX3_countBirthdaysIn_39 rfl (lv_at hl 2 rfl) ?_
        refine lv_icmp_ne (tgt := 46) hx hb dX3_countBirthdaysIn_40 (by decide) (fun hc => ?_) (fun hc => ?_)
        · have hf := zif_n hf hc
          obtain ⟨x8, ex8, hf⟩ := zl_i hf
          refine lv_iinc (v := x8) (lv' := [(3, .int x8), (4, .int v2), (0, .ref (G 0 0)), (1, .int w1), (2, .int u2)]) hx hb dX3_countBirthdaysIn_46 hl (k := 4) rfl (by rw [ex8]; rfl) (by decide) rfl (fun ls hl => ?_)
          refine lv_goto (tgt := 4) hx hb dX3_countBirthdaysIn_49 (by decide) ?_
          exact ih u2 x8 _ _ _ _ _ hf hP hS (lv_sub hl [2, 3, 4, 0] rfl) k0_
        · have hf := zif_p hf hc
          obtain ⟨x9, ex9, hf⟩ := zl_i hf
          refine lv_iinc (v := x9) (lv' := [(2, .int x9), (4, .int v2), (0, .ref (G 0 0)), (1, .int w1), (3, .int u3)]) hx hb dX3_countBirthdaysIn_43 hl (k := 3) rfl (by rw [ex9]; rfl) (by decide) rfl (fun ls hl => ?_)
          obtain ⟨x10, ex10, hf⟩ := zl_i hf
          refine lv_iinc (v := x10) (lv' := [(3, .int x10), (2, .int x9), (4, .int v2), (0, .ref (G 0 0)), (1, .int w1)]) hx hb dX3_countBirthdaysIn_46 hl (k := 4) rfl (by rw [ex10]; rfl) (by decide) rfl (fun ls hl => ?_)
          refine lv_goto (tgt := 4) hx hb dX3_countBirthdaysIn_49 (by decide) ?_
          exact ih x9 x10 _ _ _ _ _ hf hP hS (lv_sub hl [3, 4, 1, 0] rfl) k0_
set_option maxHeartbeats 4000000 in
set_option maxRecDepth 100000 in
theorem c_X3_countBirthdaysIn (p0 : Int32) (T T' : zT) (v : Int32) (hf : f_X3_countBirthdaysIn p0 T = some (v, T')) : zC 0 yX3_countBirthdaysIn cX3_countBirthdaysIn 5 (some .int) 1  0 0  (fun G _ => [.ref (G 0 0), .int p0]) T (fun _ => .inl (some (.int v))) T' := by
  intro l D Y S V G A hl9 hG
  refine vx_ofW (cc := cX3_countBirthdaysIn) (maxL := 5) (ret := (some .int)) (by decide) rfl ?_
  intro p e s m args below meth c s₁ B hml hex hv
  obtain ⟨rfl, hK, hP, hA⟩ := hv
  have hx := B.exec
  have hb := B.bytes
  have hr := B.returns
  have hlocks := B.notSynchronized
  have hown : s.vm.findClass RX3 = some m.cls := findClass_of_methodNamed B.named
  have hts := atoms_spec (ws := Cond.code yX3_countBirthdaysIn cX3_countBirthdaysIn 5 (some .int) :: zWS) B.pre
  have F : zF 0 1  0 0  p l s m _ c cX3_countBirthdaysIn 5 RX3 (Cond.code yX3_countBirthdaysIn cX3_countBirthdaysIn 5 (some .int)) D Y S V G A := ⟨hx, hb, hml, hown, hts, hl9, hG, hK, hA⟩
  have hS : va_S A s.heap s.heap [] := va_S.rf
  have hl := lv_entry ([.ref (G 0 0), .int p0]) (n := 5) (Nat.le_of_ble_eq_true rfl)
  rw [lg_entry_eq]
  generalize (lg_sl ([.ref (G 0 0), .int p0]) ++ List.replicate (5 - (lg_sl ([.ref (G 0 0), .int p0])).length) Slot.unset).toArray = ls at hl ⊢
  have hl : lv_has ls 5 [(0, .ref (G 0 0)), (1, .int p0)] := hl
  unfold f_X3_countBirthdaysIn at hf
  refine lv_iconst (v := 0) hx hb dX3_countBirthdaysIn_0 (by decide) ?_
  refine lv_istore_n (lv' := [(2, .int 0), (0, .ref (G 0 0)), (1, .int p0)]) hx hb dX3_countBirthdaysIn_1 rfl hl (by decide) rfl (fun ls hl => ?_)
  refine lv_iconst (v := 0) hx hb dX3_countBirthdaysIn_2 (by decide) ?_
  refine lv_istore_n (lv' := [(3, .int 0), (2, .int 0), (0, .ref (G 0 0)), (1, .int p0)]) hx hb dX3_countBirthdaysIn_3 rfl hl (by decide) rfl (fun ls hl => ?_)
  obtain ⟨v12, T11, h13, hf⟩ := zb_i hf
  refine l_X3_countBirthdaysIn_4 F ⟨Nat.le_of_ble_eq_true rfl, Nat.le_of_ble_eq_true rfl⟩ p0 2000 0 0 _ _ _ _ _ h13 hP hS (lv_sub hl [2, 3, 1, 0] rfl) (fun H locs ls hP hS hl => ?_)
  refine lv_iload_n hx hb dX3_countBirthdaysIn_52 rfl (lv_at hl 2 rfl) ?_
  obtain ⟨q1, q2⟩ := zs_i hf
  subst q1; subst q2
  exact z_iret hx hb hr rfl hP hS hlocks (Nat.le_of_ble_eq_true rfl) (Nat.le_of_ble_eq_true rfl) dX3_countBirthdaysIn_53

def lp_X3_busiestMonth_6  : Nat → Int32 → Int32 → Int32 → zT → Option ((Int32 × Int32 × Int32) × zT)
  | 0, _, _, _, _ => none
  | n + 1, u1, u2, u3, T => (if 12 < u3 then some ((u1, u2, u3), T) else zb (f_X3_countBirthdaysIn u3 T) fun v2 T1 => (if v2 ≤ u2 then zl (u3 + 1) fun x4 => lp_X3_busiestMonth_6 n u1 u2 x4 T1 else zl (u3 + 1) fun x5 => lp_X3_busiestMonth_6 n u3 v2 x5 T1))
def f_X3_busiestMonth  (T : zT) : Option (Int32 × zT) := zb (lp_X3_busiestMonth_6 2000 (-1) 0 1 T) fun v7 T6 => some (v7.1, T6)
set_option maxHeartbeats 4000000 in
set_option maxRecDepth 100000 in
theorem l_X3_busiestMonth_6 {p : Program} {l : Launch} {e : Env} {s : State} {m : MethodId} {args : Array Value} {below : List Frame} {meth : Method} {c : Code} {Q : State → Prop} {D : va_G} {Y : Nat → ClassId} {S V : Nat → Nat} {G : Nat → Nat → Nat} {A : Nat → Prop} {c0 : Cond} {mc ms cells slots : Nat} (F : zF 0 2 mc ms p l s m args c cX3_busiestMonth 5 RX3 c0 D Y S V G A) (hcs : cells ≤ mc ∧ slots ≤ ms) :
    ∀ (n : Nat) (u1 : Int32) (u2 : Int32) (u3 : Int32) (T : zT) (o : (Int32 × Int32 × Int32) × zT) (H : Heap) (locs : List Loc) (ls : Array Slot), lp_X3_busiestMonth_6 n u1 u2 u3 T = some o → zP 0 D Y G T H → va_S A s.heap H locs → lv_has ls 5 [(0, .ref (G 0 0)), (1, .int u1), (2, .int u2), (3, .int u3)] → (∀ (H : Heap) (locs : List Loc) (ls : Array Slot), zP 0 D Y G o.2 H → va_S A s.heap H locs → lv_has ls 5 [(0, .ref (G 0 0)), (1, .int o.1.1), (2, .int o.1.2.1), (3, .int o.1.2.2)] → W p l e (zR 2 mc ms) s m args below meth c H locs cells slots Q (F0 m 36 ls [])) → W p l e (zR 2 mc ms) s m args below meth c H locs cells slots Q (F0 m 6 ls []) := by
  obtain ⟨hx, hb, hml, hown, hts, hl9, hG, hK, hA⟩ := id F
  intro n
  induction n with
  | zero =>
    intro u1 u2 u3 T o H locs ls hf
    rw [lp_X3_busiestMonth_6] at hf
    cases hf
  | succ n ih =>
    intro u1 u2 u3 T o H locs ls hf hP hS hl k0_
    rw [lp_X3_busiestMonth_6] at hf
    refine lv_iload_n hx hb dX3_busiestMonth_6 rfl (lv_at hl 3 rfl) ?_
    refine lv_bipush (v := 12) hx hb dX3_busiestMonth_7 (by decide) ?_
    refine lv_icmp_gt (tgt := 36) hx hb dX3_busiestMonth_9 (by decide) (fun hc => ?_) (fun hc => ?_)
    · have hf := zif_p hf hc
      cases hf
      exact k0_ _ _ _ hP hS (lv_sub hl [0, 1, 2, 3] rfl)
    · have hf := zif_n hf hc
      refine lv_aload_n hx hb dX3_busiestMonth_12 rfl (lv_at hl 0 rfl) ?_
      refine lv_iload_n hx hb dX3_busiestMonth_13 rfl (lv_at hl 3 rfl) ?_
      obtain ⟨v2, T1, h3, hf⟩ := zb_i hf
      refine z_ok (z_runV (As := [.int u3]) (rest := []) F k_X3_countBirthdaysIn m_1129 (c_X3_countBirthdaysIn u3 T T1 _ h3) hP hS (zV_0 (by decide)) rfl rfl rfl rfl hl.1 (Nat.le_of_ble_eq_true rfl) dX3_busiestMonth_14 (Nat.le_of_ble_eq_true rfl) ⟨hcs.1, hcs.2⟩ rfl) hS (fun H locs hP hS => ?_)
      refine lv_istore (lv' := [(4, .int v2), (0, .ref (G 0 0)), (1, .int u1), (2, .int u2), (3, .int u3)]) hx hb dX3_busiestMonth_17 hl (by decide) rfl (fun ls hl => ?_)
      refine lv_iload hx hb dX3_busiestMonth_19 (lv_at hl 0 rfl) ?_
      refine lv_iload_n hx hb dX3_busiestMonth_21 rfl (lv_at hl 3 rfl) ?_
      refine lv_icmp_le (tgt := 30) hx hb dX3_busiestMonth_22 (by decide) (fun hc => ?_) (fun hc => ?_)
      · have hf := zif_p hf hc
        obtain ⟨x4, ex4, hf⟩ := zl_i hf
        refine lv_iinc (v := x4) (lv' := [(3, .int x4), (4, .int v2), (0, .ref (G 0 0)), (1, .int u1), (2, .int u2)]) hx hb dX3_busiestMonth_30 hl (k := 4) rfl (by rw [ex4]; rfl) (by decide) rfl (fun ls hl => ?_)
        refine lv_goto (tgt := 6) hx hb dX3_busiestMonth_33 (by decide) ?_
        exact ih u1 u2 x4 _ _ _ _ _ hf hP hS (lv_sub hl [2, 3, 4, 0] rfl) k0_
      · have hf := zif_n hf hc
        refine lv_iload_n hx hb dX3_busiestMonth_25 rfl (lv_at hl 4 rfl) ?_
        refine lv_istore_n (lv' := [(1, .int u3), (4, .int v2), (0, .ref (G 0 0)), (2, .int u2), (3, .int u3)]) hx hb dX3_busiestMonth_26 rfl hl (by decide) rfl (fun ls hl => ?_)
        refine lv_iload hx hb dX3_busiestMonth_27 (lv_at hl 1 rfl) ?_
        refine lv_istore_n (lv' := [(2, .int v2), (1, .int u3), (4, .int v2), (0, .ref (G 0 0)), (3, .int u3)]) hx hb dX3_busiestMonth_29 rfl hl (by decide) rfl (fun ls hl => ?_)
        obtain ⟨x5, ex5, hf⟩ := zl_i hf
        refine lv_iinc (v := x5) (lv' := [(3, .int x5), (2, .int v2), (1, .int u3), (4, .int v2), (0, .ref (G 0 0))]) hx hb dX3_busiestMonth_30 hl (k := 4) rfl (by rw [ex5]; rfl) (by decide) rfl (fun ls hl => ?_)
        refine lv_goto (tgt := 6) hx hb dX3_busiestMonth_33 (by decide) ?_
        exact ih u3 v2 x5 _ _ _ _ _ hf hP hS (lv_sub hl [4, 2, 1, 0] rfl) k0_
set_option maxHeartbeats 4000000 in
set_option maxRecDepth 100000 in
theorem c_X3_busiestMonth  (T T' : zT) (v : Int32) (hf : f_X3_busiestMonth  T = some (v, T')) : zC 0 yX3_busiestMonth cX3_busiestMonth 5 (some .int) 2  0 0  (fun G _ => [.ref (G 0 0)]) T (fun _ => .inl (some (.int v))) T' := by
  intro l D Y S V G A hl9 hG
  refine vx_ofW (cc := cX3_busiestMonth) (maxL := 5) (ret := (some .int)) (by decide) rfl ?_
  intro p e s m args below meth c s₁ B hml hex hv
  obtain ⟨rfl, hK, hP, hA⟩ := hv
  have hx := B.exec
  have hb := B.bytes
  have hr := B.returns
  have hlocks := B.notSynchronized
  have hown : s.vm.findClass RX3 = some m.cls := findClass_of_methodNamed B.named
  have hts := atoms_spec (ws := Cond.code yX3_busiestMonth cX3_busiestMonth 5 (some .int) :: zWS) B.pre
  have F : zF 0 2  0 0  p l s m _ c cX3_busiestMonth 5 RX3 (Cond.code yX3_busiestMonth cX3_busiestMonth 5 (some .int)) D Y S V G A := ⟨hx, hb, hml, hown, hts, hl9, hG, hK, hA⟩
  have hS : va_S A s.heap s.heap [] := va_S.rf
  have hl := lv_entry ([.ref (G 0 0)]) (n := 5) (Nat.le_of_ble_eq_true rfl)
  rw [lg_entry_eq]
  generalize (lg_sl ([.ref (G 0 0)]) ++ List.replicate (5 - (lg_sl ([.ref (G 0 0)])).length) Slot.unset).toArray = ls at hl ⊢
  have hl : lv_has ls 5 [(0, .ref (G 0 0))] := hl
  unfold f_X3_busiestMonth at hf
  refine lv_iconst (v := (-1)) hx hb dX3_busiestMonth_0 (by decide) ?_
  refine lv_istore_n (lv' := [(1, .int (-1)), (0, .ref (G 0 0))]) hx hb dX3_busiestMonth_1 rfl hl (by decide) rfl (fun ls hl => ?_)
  refine lv_iconst (v := 0) hx hb dX3_busiestMonth_2 (by decide) ?_
  refine lv_istore_n (lv' := [(2, .int 0), (1, .int (-1)), (0, .ref (G 0 0))]) hx hb dX3_busiestMonth_3 rfl hl (by decide) rfl (fun ls hl => ?_)
  refine lv_iconst (v := 1) hx hb dX3_busiestMonth_4 (by decide) ?_
  refine lv_istore_n (lv' := [(3, .int 1), (2, .int 0), (1, .int (-1)), (0, .ref (G 0 0))]) hx hb dX3_busiestMonth_5 rfl hl (by decide) rfl (fun ls hl => ?_)
  obtain ⟨v7, T6, h8, hf⟩ := zb_i hf
  refine l_X3_busiestMonth_6 F ⟨Nat.le_of_ble_eq_true rfl, Nat.le_of_ble_eq_true rfl⟩  2000 (-1) 0 1 _ _ _ _ _ h8 hP hS (lv_sub hl [3, 2, 1, 0] rfl) (fun H locs ls hP hS hl => ?_)
  refine lv_iload_n hx hb dX3_busiestMonth_36 rfl (lv_at hl 1 rfl) ?_
  obtain ⟨q1, q2⟩ := zs_i hf
  subst q1; subst q2
  exact z_iret hx hb hr rfl hP hS hlocks (Nat.le_of_ble_eq_true rfl) (Nat.le_of_ble_eq_true rfl) dX3_busiestMonth_37

def f_X3_obstacle (p0 : Int32) (p1 : Int32) (p2 : Int32) (p3 : Int32) (T : zT) : Option ((Int32 ⊕ Nat) × zT) := zx (f_X3_needChild p0 T) fun v2 T1 => zx (f_X3_needGarden p1 T1) fun v6 T5 => zx (f_X3_needDate p2 p3 T5) fun v10 T9 => zb (f_X3_dateOf p2 p3 T9) fun v14 T13 => zb (f_X2_reasonAgainst 0 p0 p1 v14 T13) fun v17 T16 => some (.inl v17, T16)
set_option maxHeartbeats 4000000 in
set_option maxRecDepth 100000 in
theorem c_X3_obstacle (p0 : Int32) (p1 : Int32) (p2 : Int32) (p3 : Int32) (T T' : zT) (v : (Int32 ⊕ Nat)) (hf : f_X3_obstacle p0 p1 p2 p3 T = some (v, T')) : zC 0 yX3_obstacle cX3_obstacle 5 (some .int) 7  3 18  (fun G _ => [.ref (G 0 0), .int p0, .int p1, .int p2, .int p3]) T (fun _ => zri v) T' := by
  intro l D Y S V G A hl9 hG
  refine vx_ofW (cc := cX3_obstacle) (maxL := 5) (ret := (some .int)) (by decide) rfl ?_
  intro p e s m args below meth c s₁ B hml hex hv
  obtain ⟨rfl, hK, hP, hA⟩ := hv
  have hx := B.exec
  have hb := B.bytes
  have hr := B.returns
  have hlocks := B.notSynchronized
  have hown : s.vm.findClass RX3 = some m.cls := findClass_of_methodNamed B.named
  have hts := atoms_spec (ws := Cond.code yX3_obstacle cX3_obstacle 5 (some .int) :: zWS) B.pre
  have F : zF 0 7  3 18  p l s m _ c cX3_obstacle 5 RX3 (Cond.code yX3_obstacle cX3_obstacle 5 (some .int)) D Y S V G A := ⟨hx, hb, hml, hown, hts, hl9, hG, hK, hA⟩
  have hS : va_S A s.heap s.heap [] := va_S.rf
  have hl := lv_entry ([.ref (G 0 0), .int p0, .int p1, .int p2, .int p3]) (n := 5) (Nat.le_of_ble_eq_true rfl)
  rw [lg_entry_eq]
  generalize (lg_sl ([.ref (G 0 0), .int p0, .int p1, .int p2, .int p3]) ++ List.replicate (5 - (lg_sl ([.ref (G 0 0), .int p0, .int p1, .int p2, .int p3])).length) Slot.unset).toArray = ls at hl ⊢
  have hl : lv_has ls 5 [(0, .ref (G 0 0)), (1, .int p0), (2, .int p1), (3, .int p2), (4, .int p3)] := hl
  unfold f_X3_obstacle at hf
  refine lv_aload_n hx hb dX3_obstacle_0 rfl (lv_at hl 0 rfl) ?_
  refine lv_iload_n hx hb dX3_obstacle_1 rfl (lv_at hl 1 rfl) ?_
  rcases zx_i hf with ⟨v2, T1, h3, hf⟩ | ⟨y4, T1, h3, hf⟩
  · refine z_ok (z_runV (As := [.int p0]) (rest := []) F k_X3_needChild m_672 (c_X3_needChild p0 T T1 _ h3) hP hS (zV_0 (by decide)) rfl rfl rfl rfl hl.1 (Nat.le_of_ble_eq_true rfl) dX3_obstacle_2 (Nat.le_of_ble_eq_true rfl) ⟨Nat.le_of_ble_eq_true rfl, Nat.le_of_ble_eq_true rfl⟩ rfl) hS (fun H locs hP hS => ?_)
    refine lv_aload_n hx hb dX3_obstacle_5 rfl (lv_at hl 0 rfl) ?_
    refine lv_iload_n hx hb dX3_obstacle_6 rfl (lv_at hl 2 rfl) ?_
    rcases zx_i hf with ⟨v6, T5, h7, hf⟩ | ⟨y8, T5, h7, hf⟩
    · refine z_ok (z_runV (As := [.int p1]) (rest := []) F k_X3_needGarden m_714 (c_X3_needGarden p1 T1 T5 _ h7) hP hS (zV_0 (by decide)) rfl rfl rfl rfl hl.1 (Nat.le_of_ble_eq_true rfl) dX3_obstacle_7 (Nat.le_of_ble_eq_true rfl) ⟨Nat.le_of_ble_eq_true rfl, Nat.le_of_ble_eq_true rfl⟩ rfl) hS (fun H locs hP hS => ?_)
      refine lv_iload_n hx hb dX3_obstacle_10 rfl (lv_at hl 3 rfl) ?_
      refine lv_iload hx hb dX3_obstacle_11 (lv_at hl 4 rfl) ?_
      rcases zx_i hf with ⟨v10, T9, h11, hf⟩ | ⟨y12, T9, h11, hf⟩
      · refine z_ok (z_runS (As := [.int p2, .int p3]) (rest := []) F k_X3_needDate m_687 (c_X3_needDate p2 p3 T5 T9 _ h11) hP hS rfl rfl hl.1 (Nat.le_of_ble_eq_true rfl) dX3_obstacle_13 (Nat.le_of_ble_eq_true rfl) ⟨Nat.le_of_ble_eq_true rfl, Nat.le_of_ble_eq_true rfl⟩ rfl) hS (fun H locs hP hS => ?_)
        refine lv_aload_n hx hb dX3_obstacle_16 rfl (lv_at hl 0 rfl) ?_
        refine z_get hx hb hts (fun w h => List.mem_cons_of_mem _ (ziX3 w h)) hown hK hP (zV_0 (by decide)) rfl rfl 4 (by decide) (List.mem_cons_of_mem _ m_450) rfl rfl dX3_obstacle_17 ?_
        refine lv_iload_n hx hb dX3_obstacle_20 rfl (lv_at hl 1 rfl) ?_
        refine lv_iload_n hx hb dX3_obstacle_21 rfl (lv_at hl 2 rfl) ?_
        refine lv_iload_n hx hb dX3_obstacle_22 rfl (lv_at hl 3 rfl) ?_
        refine lv_iload hx hb dX3_obstacle_23 (lv_at hl 4 rfl) ?_
        obtain ⟨v14, T13, h15, hf⟩ := zb_i hf
        refine z_ok (z_runS (As := [.int p2, .int p3]) (rest := [.int p1, .int p0, .ref (G 1 0)]) F k_X3_dateOf m_691 (c_X3_dateOf p2 p3 T9 T13 _ h15) hP hS rfl rfl hl.1 (Nat.le_of_ble_eq_true rfl) dX3_obstacle_25 (Nat.le_of_ble_eq_true rfl) ⟨Nat.le_of_ble_eq_true rfl, Nat.le_of_ble_eq_true rfl⟩ rfl) hS (fun H locs hP hS => ?_)
        obtain ⟨v17, T16, h18, hf⟩ := zb_i hf
        refine z_ok (z_runV (As := [.int p0, .int p1, .int v14]) (rest := []) F k_X2_reasonAgainst m_693 (c_X2_reasonAgainst 0 (by decide) p0 p1 v14 T13 T16 _ h18) hP hS (zV_r (by decide) (by decide) (by decide)) rfl rfl rfl rfl hl.1 (Nat.le_of_ble_eq_true rfl) dX3_obstacle_28 (Nat.le_of_ble_eq_true rfl) ⟨Nat.le_of_ble_eq_true rfl, Nat.le_of_ble_eq_true rfl⟩ rfl) hS (fun H locs hP hS => ?_)
        obtain ⟨q1, q2⟩ := zs_i hf
        subst q1; subst q2
        exact z_iret hx hb hr rfl hP hS hlocks (Nat.le_of_ble_eq_true rfl) (Nat.le_of_ble_eq_true rfl) dX3_obstacle_31
      · cases hf
        exact z_ex (z_runS (As := [.int p2, .int p3]) (rest := []) F k_X3_needDate m_687 (c_X3_needDate p2 p3 T5 T' _ h11) hP hS rfl rfl hl.1 (Nat.le_of_ble_eq_true rfl) dX3_obstacle_13 (Nat.le_of_ble_eq_true rfl) ⟨Nat.le_of_ble_eq_true rfl, Nat.le_of_ble_eq_true rfl⟩ rfl) hS hex hlocks rfl (Nat.le_of_ble_eq_true rfl) (Nat.le_of_ble_eq_true rfl)
    · cases hf
      exact z_ex (z_runV (As := [.int p1]) (rest := []) F k_X3_needGarden m_714 (c_X3_needGarden p1 T1 T' _ h7) hP hS (zV_0 (by decide)) rfl rfl rfl rfl hl.1 (Nat.le_of_ble_eq_true rfl) dX3_obstacle_7 (Nat.le_of_ble_eq_true rfl) ⟨Nat.le_of_ble_eq_true rfl, Nat.le_of_ble_eq_true rfl⟩ rfl) hS hex hlocks rfl (Nat.le_of_ble_eq_true rfl) (Nat.le_of_ble_eq_true rfl)
  · cases hf
    exact z_ex (z_runV (As := [.int p0]) (rest := []) F k_X3_needChild m_672 (c_X3_needChild p0 T T' _ h3) hP hS (zV_0 (by decide)) rfl rfl rfl rfl hl.1 (Nat.le_of_ble_eq_true rfl) dX3_obstacle_2 (Nat.le_of_ble_eq_true rfl) ⟨Nat.le_of_ble_eq_true rfl, Nat.le_of_ble_eq_true rfl⟩ rfl) hS hex hlocks rfl (Nat.le_of_ble_eq_true rfl) (Nat.le_of_ble_eq_true rfl)

def f_X3_drawsNeeded (p0 : Int32) (T : zT) : Option ((Int32 ⊕ Nat) × zT) := zx (f_X3_needChild p0 T) fun v2 T1 => zb (f_X2_countDraws 0 p0 T1) fun v6 T5 => some (.inl v6, T5)
set_option maxHeartbeats 4000000 in
set_option maxRecDepth 100000 in
theorem c_X3_drawsNeeded (p0 : Int32) (T T' : zT) (v : (Int32 ⊕ Nat)) (hf : f_X3_drawsNeeded p0 T = some (v, T')) : zC 0 yX3_drawsNeeded cX3_drawsNeeded 2 (some .int) 7  1 6  (fun G _ => [.ref (G 0 0), .int p0]) T (fun _ => zri v) T' := by
  intro l D Y S V G A hl9 hG
  refine vx_ofW (cc := cX3_drawsNeeded) (maxL := 2) (ret := (some .int)) (by decide) rfl ?_
  intro p e s m args below meth c s₁ B hml hex hv
  obtain ⟨rfl, hK, hP, hA⟩ := hv
  have hx := B.exec
  have hb := B.bytes
  have hr := B.returns
  have hlocks := B.notSynchronized
  have hown : s.vm.findClass RX3 = some m.cls := findClass_of_methodNamed B.named
  have hts := atoms_spec (ws := Cond.code yX3_drawsNeeded cX3_drawsNeeded 2 (some .int) :: zWS) B.pre
  have F : zF 0 7  1 6  p l s m _ c cX3_drawsNeeded 2 RX3 (Cond.code yX3_drawsNeeded cX3_drawsNeeded 2 (some .int)) D Y S V G A := ⟨hx, hb, hml, hown, hts, hl9, hG, hK, hA⟩
  have hS : va_S A s.heap s.heap [] := va_S.rf
  have hl := lv_entry ([.ref (G 0 0), .int p0]) (n := 2) (Nat.le_of_ble_eq_true rfl)
  rw [lg_entry_eq]
  generalize (lg_sl ([.ref (G 0 0), .int p0]) ++ List.replicate (2 - (lg_sl ([.ref (G 0 0), .int p0])).length) Slot.unset).toArray = ls at hl ⊢
  have hl : lv_has ls 2 [(0, .ref (G 0 0)), (1, .int p0)] := hl
  unfold f_X3_drawsNeeded at hf
  refine lv_aload_n hx hb dX3_drawsNeeded_0 rfl (lv_at hl 0 rfl) ?_
  refine lv_iload_n hx hb dX3_drawsNeeded_1 rfl (lv_at hl 1 rfl) ?_
  rcases zx_i hf with ⟨v2, T1, h3, hf⟩ | ⟨y4, T1, h3, hf⟩
  · refine z_ok (z_runV (As := [.int p0]) (rest := []) F k_X3_needChild m_672 (c_X3_needChild p0 T T1 _ h3) hP hS (zV_0 (by decide)) rfl rfl rfl rfl hl.1 (Nat.le_of_ble_eq_true rfl) dX3_drawsNeeded_2 (Nat.le_of_ble_eq_true rfl) ⟨Nat.le_of_ble_eq_true rfl, Nat.le_of_ble_eq_true rfl⟩ rfl) hS (fun H locs hP hS => ?_)
    refine lv_aload_n hx hb dX3_drawsNeeded_5 rfl (lv_at hl 0 rfl) ?_
    refine z_get hx hb hts (fun w h => List.mem_cons_of_mem _ (ziX3 w h)) hown hK hP (zV_0 (by decide)) rfl rfl 4 (by decide) (List.mem_cons_of_mem _ m_450) rfl rfl dX3_drawsNeeded_6 ?_
    refine lv_iload_n hx hb dX3_drawsNeeded_9 rfl (lv_at hl 1 rfl) ?_
    obtain ⟨v6, T5, h7, hf⟩ := zb_i hf
    refine z_ok (z_runV (As := [.int p0]) (rest := []) F k_X2_countDraws m_677 (c_X2_countDraws 0 (by decide) p0 T1 T5 _ h7) hP hS (zV_r (by decide) (by decide) (by decide)) rfl rfl rfl rfl hl.1 (Nat.le_of_ble_eq_true rfl) dX3_drawsNeeded_10 (Nat.le_of_ble_eq_true rfl) ⟨Nat.le_of_ble_eq_true rfl, Nat.le_of_ble_eq_true rfl⟩ rfl) hS (fun H locs hP hS => ?_)
    obtain ⟨q1, q2⟩ := zs_i hf
    subst q1; subst q2
    exact z_iret hx hb hr rfl hP hS hlocks (Nat.le_of_ble_eq_true rfl) (Nat.le_of_ble_eq_true rfl) dX3_drawsNeeded_13
  · cases hf
    exact z_ex (z_runV (As := [.int p0]) (rest := []) F k_X3_needChild m_672 (c_X3_needChild p0 T T' _ h3) hP hS (zV_0 (by decide)) rfl rfl rfl rfl hl.1 (Nat.le_of_ble_eq_true rfl) dX3_drawsNeeded_2 (Nat.le_of_ble_eq_true rfl) ⟨Nat.le_of_ble_eq_true rfl, Nat.le_of_ble_eq_true rfl⟩ rfl) hS hex hlocks rfl (Nat.le_of_ble_eq_true rfl) (Nat.le_of_ble_eq_true rfl)

def f_X3_needForecastDays (p0 : Int32) (T : zT) : Option ((Unit ⊕ Nat) × zT) := (if p0 < 0 then some (.inr 1, T) else (if p0 ≤ 720 then some (.inl (), T) else some (.inr 1, T)))
set_option maxHeartbeats 4000000 in
set_option maxRecDepth 100000 in
theorem c_X3_needForecastDays (p0 : Int32) (T T' : zT) (v : (Unit ⊕ Nat)) (hf : f_X3_needForecastDays p0 T = some (v, T')) : zC 0 yX3_needForecastDays cX3_needForecastDays 1 none 6  1 6  (fun _ _ => [.int p0]) T (fun _ => zrv v) T' := by
  intro l D Y S V G A hl9 hG
  refine vx_ofW (cc := cX3_needForecastDays) (maxL := 1) (ret := none) (by decide) rfl ?_
  intro p e s m args below meth c s₁ B hml hex hv
  obtain ⟨rfl, hK, hP, hA⟩ := hv
  have hx := B.exec
  have hb := B.bytes
  have hr := B.returns
  have hlocks := B.notSynchronized
  have hown : s.vm.findClass RX3 = some m.cls := findClass_of_methodNamed B.named
  have hts := atoms_spec (ws := Cond.code yX3_needForecastDays cX3_needForecastDays 1 none :: zWS) B.pre
  have F : zF 0 6  1 6  p l s m _ c cX3_needForecastDays 1 RX3 (Cond.code yX3_needForecastDays cX3_needForecastDays 1 none) D Y S V G A := ⟨hx, hb, hml, hown, hts, hl9, hG, hK, hA⟩
  have hS : va_S A s.heap s.heap [] := va_S.rf
  have hl := lv_entry ([.int p0]) (n := 1) (Nat.le_of_ble_eq_true rfl)
  rw [lg_entry_eq]
  generalize (lg_sl ([.int p0]) ++ List.replicate (1 - (lg_sl ([.int p0])).length) Slot.unset).toArray = ls at hl ⊢
  have hl : lv_has ls 1 [(0, .int p0)] := hl
  unfold f_X3_needForecastDays at hf
  refine lv_iload_n hx hb dX3_needForecastDays_0 rfl (lv_at hl 0 rfl) ?_
  refine lv_if_lt (tgt := 11) hx hb dX3_needForecastDays_1 (by decide) (fun hc => ?_) (fun hc => ?_)
  · have hf := zif_p hf hc
    cases hf
    exact z_throw_1 F 18 rfl hP hS hl.1 hlocks hex (Nat.le_of_ble_eq_true rfl) (Nat.le_of_ble_eq_true rfl) (Nat.le_of_ble_eq_true rfl) (Nat.le_of_ble_eq_true rfl) dX3_needForecastDays_11 dX3_needForecastDays_14 dX3_needForecastDays_15 dX3_needForecastDays_17 dX3_needForecastDays_20 rfl
  · have hf := zif_n hf hc
    refine lv_iload_n hx hb dX3_needForecastDays_4 rfl (lv_at hl 0 rfl) ?_
    refine lv_sipush (v := 720) hx hb dX3_needForecastDays_5 (by decide) ?_
    refine lv_icmp_le (tgt := 21) hx hb dX3_needForecastDays_8 (by decide) (fun hc => ?_) (fun hc => ?_)
    · have hf := zif_p hf hc
      obtain ⟨q1, q2⟩ := zs_i hf
      subst q1; subst q2
      exact z_vret hx hb hr rfl hP hS hlocks (Nat.le_of_ble_eq_true rfl) (Nat.le_of_ble_eq_true rfl) dX3_needForecastDays_21
    · have hf := zif_n hf hc
      cases hf
      exact z_throw_1 F 18 rfl hP hS hl.1 hlocks hex (Nat.le_of_ble_eq_true rfl) (Nat.le_of_ble_eq_true rfl) (Nat.le_of_ble_eq_true rfl) (Nat.le_of_ble_eq_true rfl) dX3_needForecastDays_11 dX3_needForecastDays_14 dX3_needForecastDays_15 dX3_needForecastDays_17 dX3_needForecastDays_20 rfl

def f_X3_forecastDays (p0 : Int32) (T : zT) : Option (Unit × zT) := zb (f_X2_copyFrom 1 0 T) fun _v2 T1 => zb (f_X2_pass 1 p0 T1) fun v5 T4 => some ((), T4)
set_option maxHeartbeats 4000000 in
set_option maxRecDepth 100000 in
theorem c_X3_forecastDays (p0 : Int32) (T T' : zT) (v : Unit) (hf : f_X3_forecastDays p0 T = some (v, T')) : zC 0 yX3_forecastDays cX3_forecastDays 2 none 4  0 0  (fun G _ => [.ref (G 0 0), .int p0]) T (fun _ => .inl none) T' := by
  intro l D Y S V G A hl9 hG
  refine vx_ofW (cc := cX3_forecastDays) (maxL := 2) (ret := none) (by decide) rfl ?_
  intro p e s m args below meth c s₁ B hml hex hv
  obtain ⟨rfl, hK, hP, hA⟩ := hv
  have hx := B.exec
  have hb := B.bytes
  have hr := B.returns
  have hlocks := B.notSynchronized
  have hown : s.vm.findClass RX3 = some m.cls := findClass_of_methodNamed B.named
  have hts := atoms_spec (ws := Cond.code yX3_forecastDays cX3_forecastDays 2 none :: zWS) B.pre
  have F : zF 0 4  0 0  p l s m _ c cX3_forecastDays 2 RX3 (Cond.code yX3_forecastDays cX3_forecastDays 2 none) D Y S V G A := ⟨hx, hb, hml, hown, hts, hl9, hG, hK, hA⟩
  have hS : va_S A s.heap s.heap [] := va_S.rf
  have hl := lv_entry ([.ref (G 0 0), .int p0]) (n := 2) (Nat.le_of_ble_eq_true rfl)
  rw [lg_entry_eq]
  generalize (lg_sl ([.ref (G 0 0), .int p0]) ++ List.replicate (2 - (lg_sl ([.ref (G 0 0), .int p0])).length) Slot.unset).toArray = ls at hl ⊢
  have hl : lv_has ls 2 [(0, .ref (G 0 0)), (1, .int p0)] := hl
  unfold f_X3_forecastDays at hf
  refine lv_aload_n hx hb dX3_forecastDays_0 rfl (lv_at hl 0 rfl) ?_
  refine z_get hx hb hts (fun w h => List.mem_cons_of_mem _ (ziX3 w h)) hown hK hP (zV_0 (by decide)) rfl rfl 5 (by decide) (List.mem_cons_of_mem _ m_451) rfl rfl dX3_forecastDays_1 ?_
  refine lv_aload_n hx hb dX3_forecastDays_4 rfl (lv_at hl 0 rfl) ?_
  refine z_get hx hb hts (fun w h => List.mem_cons_of_mem _ (ziX3 w h)) hown hK hP (zV_0 (by decide)) rfl rfl 4 (by decide) (List.mem_cons_of_mem _ m_450) rfl rfl dX3_forecastDays_5 ?_
  obtain ⟨v2, T1, h3, hf⟩ := zb_i hf
  refine z_ok (z_runV (As := [.ref (G 1 0)]) (rest := []) F k_X2_copyFrom m_436 (c_X2_copyFrom 1 (by decide) 0 (by decide) T T1 _ h3) hP hS (zV_r (by decide) (by decide) (by decide)) rfl rfl rfl rfl hl.1 (Nat.le_of_ble_eq_true rfl) dX3_forecastDays_8 (Nat.le_of_ble_eq_true rfl) ⟨Nat.le_of_ble_eq_true rfl, Nat.le_of_ble_eq_true rfl⟩ rfl) hS (fun H locs hP hS => ?_)
  refine lv_aload_n hx hb dX3_forecastDays_11 rfl (lv_at hl 0 rfl) ?_
  refine z_get hx hb hts (fun w h => List.mem_cons_of_mem _ (ziX3 w h)) hown hK hP (zV_0 (by decide)) rfl rfl 5 (by decide) (List.mem_cons_of_mem _ m_451) rfl rfl dX3_forecastDays_12 ?_
  refine lv_iload_n hx hb dX3_forecastDays_15 rfl (lv_at hl 1 rfl) ?_
  obtain ⟨v5, T4, h6, hf⟩ := zb_i hf
  refine z_ok (z_runV (As := [.int p0]) (rest := []) F k_X2_pass m_664 (c_X2_pass 1 (by decide) p0 T1 T4 _ h6) hP hS (zV_r (by decide) (by decide) (by decide)) rfl rfl rfl rfl hl.1 (Nat.le_of_ble_eq_true rfl) dX3_forecastDays_16 (Nat.le_of_ble_eq_true rfl) ⟨Nat.le_of_ble_eq_true rfl, Nat.le_of_ble_eq_true rfl⟩ rfl) hS (fun H locs hP hS => ?_)
  refine lv_pop hx hb dX3_forecastDays_19 rfl ?_
  obtain ⟨q1, q2⟩ := zs_i hf
  subst q1; subst q2
  exact z_vret hx hb hr rfl hP hS hlocks (Nat.le_of_ble_eq_true rfl) (Nat.le_of_ble_eq_true rfl) dX3_forecastDays_20

def f_X3_candlesAfter (p0 : Int32) (T : zT) : Option ((Int32 ⊕ Nat) × zT) := zx (f_X3_needForecastDays p0 T) fun v2 T1 => zb (f_X3_forecastDays p0 T1) fun _v6 T5 => some (.inl (T5.1 1 1 3), T5)
set_option maxHeartbeats 4000000 in
set_option maxRecDepth 100000 in
theorem c_X3_candlesAfter (p0 : Int32) (T T' : zT) (v : (Int32 ⊕ Nat)) (hf : f_X3_candlesAfter p0 T = some (v, T')) : zC 0 yX3_candlesAfter cX3_candlesAfter 2 (some .int) 7  1 6  (fun G _ => [.ref (G 0 0), .int p0]) T (fun _ => zri v) T' := by
  intro l D Y S V G A hl9 hG
  refine vx_ofW (cc := cX3_candlesAfter) (maxL := 2) (ret := (some .int)) (by decide) rfl ?_
  intro p e s m args below meth c s₁ B hml hex hv
  obtain ⟨rfl, hK, hP, hA⟩ := hv
  have hx := B.exec
  have hb := B.bytes
  have hr := B.returns
  have hlocks := B.notSynchronized
  have hown : s.vm.findClass RX3 = some m.cls := findClass_of_methodNamed B.named
  have hts := atoms_spec (ws := Cond.code yX3_candlesAfter cX3_candlesAfter 2 (some .int) :: zWS) B.pre
  have F : zF 0 7  1 6  p l s m _ c cX3_candlesAfter 2 RX3 (Cond.code yX3_candlesAfter cX3_candlesAfter 2 (some .int)) D Y S V G A := ⟨hx, hb, hml, hown, hts, hl9, hG, hK, hA⟩
  have hS : va_S A s.heap s.heap [] := va_S.rf
  have hl := lv_entry ([.ref (G 0 0), .int p0]) (n := 2) (Nat.le_of_ble_eq_true rfl)
  rw [lg_entry_eq]
  generalize (lg_sl ([.ref (G 0 0), .int p0]) ++ List.replicate (2 - (lg_sl ([.ref (G 0 0), .int p0])).length) Slot.unset).toArray = ls at hl ⊢
  have hl : lv_has ls 2 [(0, .ref (G 0 0)), (1, .int p0)] := hl
  unfold f_X3_candlesAfter at hf
  refine lv_iload_n hx hb dX3_candlesAfter_0 rfl (lv_at hl 1 rfl) ?_
  rcases zx_i hf with ⟨v2, T1, h3, hf⟩ | ⟨y4, T1, h3, hf⟩
  · refine z_ok (z_runS (As := [.int p0]) (rest := []) F k_X3_needForecastDays m_1159 (c_X3_needForecastDays p0 T T1 _ h3) hP hS rfl rfl hl.1 (Nat.le_of_ble_eq_true rfl) dX3_candlesAfter_1 (Nat.le_of_ble_eq_true rfl) ⟨Nat.le_of_ble_eq_true rfl, Nat.le_of_ble_eq_true rfl⟩ rfl) hS (fun H locs hP hS => ?_)
    refine lv_aload_n hx hb dX3_candlesAfter_4 rfl (lv_at hl 0 rfl) ?_
    refine lv_iload_n hx hb dX3_candlesAfter_5 rfl (lv_at hl 1 rfl) ?_
    obtain ⟨v6, T5, h7, hf⟩ := zb_i hf
    refine z_ok (z_runV (As := [.int p0]) (rest := []) F k_X3_forecastDays m_1162 (c_X3_forecastDays p0 T1 T5 _ h7) hP hS (zV_0 (by decide)) rfl rfl rfl rfl hl.1 (Nat.le_of_ble_eq_true rfl) dX3_candlesAfter_6 (Nat.le_of_ble_eq_true rfl) ⟨Nat.le_of_ble_eq_true rfl, Nat.le_of_ble_eq_true rfl⟩ rfl) hS (fun H locs hP hS => ?_)
    refine lv_aload_n hx hb dX3_candlesAfter_9 rfl (lv_at hl 0 rfl) ?_
    refine z_get hx hb hts (fun w h => List.mem_cons_of_mem _ (ziX3 w h)) hown hK hP (zV_0 (by decide)) rfl rfl 5 (by decide) (List.mem_cons_of_mem _ m_451) rfl rfl dX3_candlesAfter_10 ?_
    refine z_get hx hb hts (fun w h => List.mem_cons_of_mem _ (ziX2 w h)) hown hK hP (zV_r (by decide) (by decide) (by decide)) rfl rfl 3 (by decide) (List.mem_cons_of_mem _ m_74) rfl rfl dX3_candlesAfter_13 ?_
    obtain ⟨q1, q2⟩ := zs_i hf
    subst q1; subst q2
    exact z_iret hx hb hr rfl hP hS hlocks (Nat.le_of_ble_eq_true rfl) (Nat.le_of_ble_eq_true rfl) dX3_candlesAfter_16
  · cases hf
    exact z_ex (z_runS (As := [.int p0]) (rest := []) F k_X3_needForecastDays m_1159 (c_X3_needForecastDays p0 T T' _ h3) hP hS rfl rfl hl.1 (Nat.le_of_ble_eq_true rfl) dX3_candlesAfter_1 (Nat.le_of_ble_eq_true rfl) ⟨Nat.le_of_ble_eq_true rfl, Nat.le_of_ble_eq_true rfl⟩ rfl) hS hex hlocks rfl (Nat.le_of_ble_eq_true rfl) (Nat.le_of_ble_eq_true rfl)

def f_X3_wishesAfter (p0 : Int32) (p1 : Int32) (T : zT) : Option ((Int32 ⊕ Nat) × zT) := zx (f_X3_needChild p0 T) fun v2 T1 => zx (f_X3_needForecastDays p1 T1) fun v6 T5 => zb (f_X3_forecastDays p1 T5) fun _v10 T9 => zb (f_X3_cell 11 1 p0 T9) fun v13 T12 => some (.inl v13, T12)
set_option maxHeartbeats 4000000 in
set_option maxRecDepth 100000 in
theorem c_X3_wishesAfter (p0 : Int32) (p1 : Int32) (T T' : zT) (v : (Int32 ⊕ Nat)) (hf : f_X3_wishesAfter p0 p1 T = some (v, T')) : zC 0 yX3_wishesAfter cX3_wishesAfter 3 (some .int) 7  2 12  (fun G _ => [.ref (G 0 0), .int p0, .int p1]) T (fun _ => zri v) T' := by
  intro l D Y S V G A hl9 hG
  refine vx_ofW (cc := cX3_wishesAfter) (maxL := 3) (ret := (some .int)) (by decide) rfl ?_
  intro p e s m args below meth c s₁ B hml hex hv
  obtain ⟨rfl, hK, hP, hA⟩ := hv
  have hx := B.exec
  have hb := B.bytes
  have hr := B.returns
  have hlocks := B.notSynchronized
  have hown : s.vm.findClass RX3 = some m.cls := findClass_of_methodNamed B.named
  have hts := atoms_spec (ws := Cond.code yX3_wishesAfter cX3_wishesAfter 3 (some .int) :: zWS) B.pre
  have F : zF 0 7  2 12  p l s m _ c cX3_wishesAfter 3 RX3 (Cond.code yX3_wishesAfter cX3_wishesAfter 3 (some .int)) D Y S V G A := ⟨hx, hb, hml, hown, hts, hl9, hG, hK, hA⟩
  have hS : va_S A s.heap s.heap [] := va_S.rf
  have hl := lv_entry ([.ref (G 0 0), .int p0, .int p1]) (n := 3) (Nat.le_of_ble_eq_true rfl)
  rw [lg_entry_eq]
  generalize (lg_sl ([.ref (G 0 0), .int p0, .int p1]) ++ List.replicate (3 - (lg_sl ([.ref (G 0 0), .int p0, .int p1])).length) Slot.unset).toArray = ls at hl ⊢
  have hl : lv_has ls 3 [(0, .ref (G 0 0)), (1, .int p0), (2, .int p1)] := hl
  unfold f_X3_wishesAfter at hf
  refine lv_aload_n hx hb dX3_wishesAfter_0 rfl (lv_at hl 0 rfl) ?_
  refine lv_iload_n hx hb dX3_wishesAfter_1 rfl (lv_at hl 1 rfl) ?_
  rcases zx_i hf with ⟨v2, T1, h3, hf⟩ | ⟨y4, T1, h3, hf⟩
  · refine z_ok (z_runV (As := [.int p0]) (rest := []) F k_X3_needChild m_672 (c_X3_needChild p0 T T1 _ h3) hP hS (zV_0 (by decide)) rfl rfl rfl rfl hl.1 (Nat.le_of_ble_eq_true rfl) dX3_wishesAfter_2 (Nat.le_of_ble_eq_true rfl) ⟨Nat.le_of_ble_eq_true rfl, Nat.le_of_ble_eq_true rfl⟩ rfl) hS (fun H locs hP hS => ?_)
    refine lv_iload_n hx hb dX3_wishesAfter_5 rfl (lv_at hl 2 rfl) ?_
    rcases zx_i hf with ⟨v6, T5, h7, hf⟩ | ⟨y8, T5, h7, hf⟩
    · refine z_ok (z_runS (As := [.int p1]) (rest := []) F k_X3_needForecastDays m_1159 (c_X3_needForecastDays p1 T1 T5 _ h7) hP hS rfl rfl hl.1 (Nat.le_of_ble_eq_true rfl) dX3_wishesAfter_6 (Nat.le_of_ble_eq_true rfl) ⟨Nat.le_of_ble_eq_true rfl, Nat.le_of_ble_eq_true rfl⟩ rfl) hS (fun H locs hP hS => ?_)
      refine lv_aload_n hx hb dX3_wishesAfter_9 rfl (lv_at hl 0 rfl) ?_
      refine lv_iload_n hx hb dX3_wishesAfter_10 rfl (lv_at hl 2 rfl) ?_
      obtain ⟨v10, T9, h11, hf⟩ := zb_i hf
      refine z_ok (z_runV (As := [.int p1]) (rest := []) F k_X3_forecastDays m_1162 (c_X3_forecastDays p1 T5 T9 _ h11) hP hS (zV_0 (by decide)) rfl rfl rfl rfl hl.1 (Nat.le_of_ble_eq_true rfl) dX3_wishesAfter_11 (Nat.le_of_ble_eq_true rfl) ⟨Nat.le_of_ble_eq_true rfl, Nat.le_of_ble_eq_true rfl⟩ rfl) hS (fun H locs hP hS => ?_)
      refine lv_aload_n hx hb dX3_wishesAfter_14 rfl (lv_at hl 0 rfl) ?_
      refine z_get hx hb hts (fun w h => List.mem_cons_of_mem _ (ziX3 w h)) hown hK hP (zV_0 (by decide)) rfl rfl 5 (by decide) (List.mem_cons_of_mem _ m_451) rfl rfl dX3_wishesAfter_15 ?_
      refine z_get hx hb hts (fun w h => List.mem_cons_of_mem _ (ziX2 w h)) hown hK hP (zV_r (by decide) (by decide) (by decide)) rfl rfl 19 (by decide) (List.mem_cons_of_mem _ m_110) rfl rfl dX3_wishesAfter_18 ?_
      refine lv_iload_n hx hb dX3_wishesAfter_21 rfl (lv_at hl 1 rfl) ?_
      obtain ⟨v13, T12, h14, hf⟩ := zb_i hf
      refine z_ok (z_runS (As := [.ref (G 11 1), .int p0]) (rest := []) F k_X3_cell m_692 (c_X3_cell 11 1 (zIA_r (by decide) (by decide) (by decide)) p0 T9 T12 _ h14) hP hS rfl rfl hl.1 (Nat.le_of_ble_eq_true rfl) dX3_wishesAfter_22 (Nat.le_of_ble_eq_true rfl) ⟨Nat.le_of_ble_eq_true rfl, Nat.le_of_ble_eq_true rfl⟩ rfl) hS (fun H locs hP hS => ?_)
      obtain ⟨q1, q2⟩ := zs_i hf
      subst q1; subst q2
      exact z_iret hx hb hr rfl hP hS hlocks (Nat.le_of_ble_eq_true rfl) (Nat.le_of_ble_eq_true rfl) dX3_wishesAfter_25
    · cases hf
      exact z_ex (z_runS (As := [.int p1]) (rest := []) F k_X3_needForecastDays m_1159 (c_X3_needForecastDays p1 T1 T' _ h7) hP hS rfl rfl hl.1 (Nat.le_of_ble_eq_true rfl) dX3_wishesAfter_6 (Nat.le_of_ble_eq_true rfl) ⟨Nat.le_of_ble_eq_true rfl, Nat.le_of_ble_eq_true rfl⟩ rfl) hS hex hlocks rfl (Nat.le_of_ble_eq_true rfl) (Nat.le_of_ble_eq_true rfl)
  · cases hf
    exact z_ex (z_runV (As := [.int p0]) (rest := []) F k_X3_needChild m_672 (c_X3_needChild p0 T T' _ h3) hP hS (zV_0 (by decide)) rfl rfl rfl rfl hl.1 (Nat.le_of_ble_eq_true rfl) dX3_wishesAfter_2 (Nat.le_of_ble_eq_true rfl) ⟨Nat.le_of_ble_eq_true rfl, Nat.le_of_ble_eq_true rfl⟩ rfl) hS hex hlocks rfl (Nat.le_of_ble_eq_true rfl) (Nat.le_of_ble_eq_true rfl)

def f_X3_heldParties  (T : zT) : Option (Int32 × zT) := zb (f_X3_sum 10 0 (T.1 1 0 9) T) fun v2 T1 => some (v2, T1)
set_option maxHeartbeats 4000000 in
set_option maxRecDepth 100000 in
theorem c_X3_heldParties  (T T' : zT) (v : Int32) (hf : f_X3_heldParties  T = some (v, T')) : zC 0 yX3_heldParties cX3_heldParties 1 (some .int) 1  0 0  (fun G _ => [.ref (G 0 0)]) T (fun _ => .inl (some (.int v))) T' := by
  intro l D Y S V G A hl9 hG
  refine vx_ofW (cc := cX3_heldParties) (maxL := 1) (ret := (some .int)) (by decide) rfl ?_
  intro p e s m args below meth c s₁ B hml hex hv
  obtain ⟨rfl, hK, hP, hA⟩ := hv
  have hx := B.exec
  have hb := B.bytes
  have hr := B.returns
  have hlocks := B.notSynchronized
  have hown : s.vm.findClass RX3 = some m.cls := findClass_of_methodNamed B.named
  have hts := atoms_spec (ws := Cond.code yX3_heldParties cX3_heldParties 1 (some .int) :: zWS) B.pre
  have F : zF 0 1  0 0  p l s m _ c cX3_heldParties 1 RX3 (Cond.code yX3_heldParties cX3_heldParties 1 (some .int)) D Y S V G A := ⟨hx, hb, hml, hown, hts, hl9, hG, hK, hA⟩
  have hS : va_S A s.heap s.heap [] := va_S.rf
  have hl := lv_entry ([.ref (G 0 0)]) (n := 1) (Nat.le_of_ble_eq_true rfl)
  rw [lg_entry_eq]
  generalize (lg_sl ([.ref (G 0 0)]) ++ List.replicate (1 - (lg_sl ([.ref (G 0 0)])).length) Slot.unset).toArray = ls at hl ⊢
  have hl : lv_has ls 1 [(0, .ref (G 0 0))] := hl
  unfold f_X3_heldParties at hf
  refine lv_aload_n hx hb dX3_heldParties_0 rfl (lv_at hl 0 rfl) ?_
  refine z_get hx hb hts (fun w h => List.mem_cons_of_mem _ (ziX3 w h)) hown hK hP (zV_0 (by decide)) rfl rfl 4 (by decide) (List.mem_cons_of_mem _ m_450) rfl rfl dX3_heldParties_1 ?_
  refine z_get hx hb hts (fun w h => List.mem_cons_of_mem _ (ziX2 w h)) hown hK hP (zV_r (by decide) (by decide) (by decide)) rfl rfl 18 (by decide) (List.mem_cons_of_mem _ m_108) rfl rfl dX3_heldParties_4 ?_
  refine lv_aload_n hx hb dX3_heldParties_7 rfl (lv_at hl 0 rfl) ?_
  refine z_get hx hb hts (fun w h => List.mem_cons_of_mem _ (ziX3 w h)) hown hK hP (zV_0 (by decide)) rfl rfl 4 (by decide) (List.mem_cons_of_mem _ m_450) rfl rfl dX3_heldParties_8 ?_
  refine z_get hx hb hts (fun w h => List.mem_cons_of_mem _ (ziX2 w h)) hown hK hP (zV_r (by decide) (by decide) (by decide)) rfl rfl 9 (by decide) (List.mem_cons_of_mem _ m_87) rfl rfl dX3_heldParties_11 ?_
  obtain ⟨v2, T1, h3, hf⟩ := zb_i hf
  refine z_ok (z_runS (As := [.ref (G 10 0), .int (T.1 1 0 9)]) (rest := []) F k_X3_sum m_1051 (c_X3_sum 10 0 (zIA_r (by decide) (by decide) (by decide)) (T.1 1 0 9) T T1 _ h3) hP hS rfl rfl hl.1 (Nat.le_of_ble_eq_true rfl) dX3_heldParties_14 (Nat.le_of_ble_eq_true rfl) ⟨Nat.le_of_ble_eq_true rfl, Nat.le_of_ble_eq_true rfl⟩ rfl) hS (fun H locs hP hS => ?_)
  obtain ⟨q1, q2⟩ := zs_i hf
  subst q1; subst q2
  exact z_iret hx hb hr rfl hP hS hlocks (Nat.le_of_ble_eq_true rfl) (Nat.le_of_ble_eq_true rfl) dX3_heldParties_17

def f_X3_failedParties  (T : zT) : Option (Int32 × zT) := some ((T.1 1 0 7), T)
set_option maxHeartbeats 4000000 in
set_option maxRecDepth 100000 in
theorem c_X3_failedParties  (T T' : zT) (v : Int32) (hf : f_X3_failedParties  T = some (v, T')) : zC 0 yX3_failedParties cX3_failedParties 1 (some .int) 0  0 0  (fun G _ => [.ref (G 0 0)]) T (fun _ => .inl (some (.int v))) T' := by
  intro l D Y S V G A hl9 hG
  refine vx_ofW (cc := cX3_failedParties) (maxL := 1) (ret := (some .int)) (by decide) rfl ?_
  intro p e s m args below meth c s₁ B hml hex hv
  obtain ⟨rfl, hK, hP, hA⟩ := hv
  have hx := B.exec
  have hb := B.bytes
  have hr := B.returns
  have hlocks := B.notSynchronized
  have hown : s.vm.findClass RX3 = some m.cls := findClass_of_methodNamed B.named
  have hts := atoms_spec (ws := Cond.code yX3_failedParties cX3_failedParties 1 (some .int) :: zWS) B.pre
  have F : zF 0 0  0 0  p l s m _ c cX3_failedParties 1 RX3 (Cond.code yX3_failedParties cX3_failedParties 1 (some .int)) D Y S V G A := ⟨hx, hb, hml, hown, hts, hl9, hG, hK, hA⟩
  have hS : va_S A s.heap s.heap [] := va_S.rf
  have hl := lv_entry ([.ref (G 0 0)]) (n := 1) (Nat.le_of_ble_eq_true rfl)
  rw [lg_entry_eq]
  generalize (lg_sl ([.ref (G 0 0)]) ++ List.replicate (1 - (lg_sl ([.ref (G 0 0)])).length) Slot.unset).toArray = ls at hl ⊢
  have hl : lv_has ls 1 [(0, .ref (G 0 0))] := hl
  unfold f_X3_failedParties at hf
  refine lv_aload_n hx hb dX3_failedParties_0 rfl (lv_at hl 0 rfl) ?_
  refine z_get hx hb hts (fun w h => List.mem_cons_of_mem _ (ziX3 w h)) hown hK hP (zV_0 (by decide)) rfl rfl 4 (by decide) (List.mem_cons_of_mem _ m_450) rfl rfl dX3_failedParties_1 ?_
  refine z_get hx hb hts (fun w h => List.mem_cons_of_mem _ (ziX2 w h)) hown hK hP (zV_r (by decide) (by decide) (by decide)) rfl rfl 7 (by decide) (List.mem_cons_of_mem _ m_82) rfl rfl dX3_failedParties_4 ?_
  obtain ⟨q1, q2⟩ := zs_i hf
  subst q1; subst q2
  exact z_iret hx hb hr rfl hP hS hlocks (Nat.le_of_ble_eq_true rfl) (Nat.le_of_ble_eq_true rfl) dX3_failedParties_7

def f_X3_clash (p0 : Int32) (p1 : Int32) (T : zT) : Option (Int32 × zT) := zb (f_X3_cell 9 0 p0 T) fun v2 T1 => (if v2 = (-1) then some (0, T1) else zb (f_X3_cell 9 0 p1 T1) fun v5 T4 => (if v2 = v5 then zb (f_X3_cell 8 0 p0 T4) fun v8 T7 => zb (f_X3_cell 8 0 p1 T7) fun v11 T10 => (if v8 = v11 then some (1, T10) else some (0, T10)) else some (0, T4)))
set_option maxHeartbeats 4000000 in
set_option maxRecDepth 100000 in
theorem c_X3_clash (p0 : Int32) (p1 : Int32) (T T' : zT) (v : Int32) (hf : f_X3_clash p0 p1 T = some (v, T')) : zC 0 yX3_clash cX3_clash 4 (some .boolean) 1  0 0  (fun G _ => [.ref (G 0 0), .int p0, .int p1]) T (fun _ => .inl (some (.int v))) T' := by
  intro l D Y S V G A hl9 hG
  refine vx_ofW (cc := cX3_clash) (maxL := 4) (ret := (some .boolean)) (by decide) rfl ?_
  intro p e s m args below meth c s₁ B hml hex hv
  obtain ⟨rfl, hK, hP, hA⟩ := hv
  have hx := B.exec
  have hb := B.bytes
  have hr := B.returns
  have hlocks := B.notSynchronized
  have hown : s.vm.findClass RX3 = some m.cls := findClass_of_methodNamed B.named
  have hts := atoms_spec (ws := Cond.code yX3_clash cX3_clash 4 (some .boolean) :: zWS) B.pre
  have F : zF 0 1  0 0  p l s m _ c cX3_clash 4 RX3 (Cond.code yX3_clash cX3_clash 4 (some .boolean)) D Y S V G A := ⟨hx, hb, hml, hown, hts, hl9, hG, hK, hA⟩
  have hS : va_S A s.heap s.heap [] := va_S.rf
  have hl := lv_entry ([.ref (G 0 0), .int p0, .int p1]) (n := 4) (Nat.le_of_ble_eq_true rfl)
  rw [lg_entry_eq]
  generalize (lg_sl ([.ref (G 0 0), .int p0, .int p1]) ++ List.replicate (4 - (lg_sl ([.ref (G 0 0), .int p0, .int p1])).length) Slot.unset).toArray = ls at hl ⊢
  have hl : lv_has ls 4 [(0, .ref (G 0 0)), (1, .int p0), (2, .int p1)] := hl
  unfold f_X3_clash at hf
  refine lv_aload_n hx hb dX3_clash_0 rfl (lv_at hl 0 rfl) ?_
  refine z_get hx hb hts (fun w h => List.mem_cons_of_mem _ (ziX3 w h)) hown hK hP (zV_0 (by decide)) rfl rfl 4 (by decide) (List.mem_cons_of_mem _ m_450) rfl rfl dX3_clash_1 ?_
  refine z_get hx hb hts (fun w h => List.mem_cons_of_mem _ (ziX2 w h)) hown hK hP (zV_r (by decide) (by decide) (by decide)) rfl rfl 17 (by decide) (List.mem_cons_of_mem _ m_106) rfl rfl dX3_clash_4 ?_
  refine lv_iload_n hx hb dX3_clash_7 rfl (lv_at hl 1 rfl) ?_
  obtain ⟨v2, T1, h3, hf⟩ := zb_i hf
  refine z_ok (z_runS (As := [.ref (G 9 0), .int p0]) (rest := []) F k_X3_cell m_692 (c_X3_cell 9 0 (zIA_r (by decide) (by decide) (by decide)) p0 T T1 _ h3) hP hS rfl rfl hl.1 (Nat.le_of_ble_eq_true rfl) dX3_clash_8 (Nat.le_of_ble_eq_true rfl) ⟨Nat.le_of_ble_eq_true rfl, Nat.le_of_ble_eq_true rfl⟩ rfl) hS (fun H locs hP hS => ?_)
  refine lv_istore_n (lv' := [(3, .int v2), (0, .ref (G 0 0)), (1, .int p0), (2, .int p1)]) hx hb dX3_clash_11 rfl hl (by decide) rfl (fun ls hl => ?_)
  refine lv_iload_n hx hb dX3_clash_12 rfl (lv_at hl 0 rfl) ?_
  refine lv_iconst (v := (-1)) hx hb dX3_clash_13 (by decide) ?_
  refine lv_icmp_eq (tgt := 61) hx hb dX3_clash_14 (by decide) (fun hc => ?_) (fun hc => ?_)
  · have hf := zif_p hf hc
    refine lv_iconst (v := 0) hx hb dX3_clash_61 (by decide) ?_
    obtain ⟨q1, q2⟩ := zs_i hf
    subst q1; subst q2
    exact z_zret hx hb hr (Or.inl rfl) rfl hP hS hlocks (Nat.le_of_ble_eq_true rfl) (Nat.le_of_ble_eq_true rfl) dX3_clash_62
  · have hf := zif_n hf hc
    refine lv_iload_n hx hb dX3_clash_17 rfl (lv_at hl 0 rfl) ?_
    refine lv_aload_n hx hb dX3_clash_18 rfl (lv_at hl 1 rfl) ?_
    refine z_get hx hb hts (fun w h => List.mem_cons_of_mem _ (ziX3 w h)) hown hK hP (zV_0 (by decide)) rfl rfl 4 (by decide) (List.mem_cons_of_mem _ m_450) rfl rfl dX3_clash_19 ?_
    refine z_get hx hb hts (fun w h => List.mem_cons_of_mem _ (ziX2 w h)) hown hK hP (zV_r (by decide) (by decide) (by decide)) rfl rfl 17 (by decide) (List.mem_cons_of_mem _ m_106) rfl rfl dX3_clash_22 ?_
    refine lv_iload_n hx hb dX3_clash_25 rfl (lv_at hl 3 rfl) ?_
    obtain ⟨v5, T4, h6, hf⟩ := zb_i hf
    refine z_ok (z_runS (As := [.ref (G 9 0), .int p1]) (rest := [.int v2]) F k_X3_cell m_692 (c_X3_cell 9 0 (zIA_r (by decide) (by decide) (by decide)) p1 T1 T4 _ h6) hP hS rfl rfl hl.1 (Nat.le_of_ble_eq_true rfl) dX3_clash_26 (Nat.le_of_ble_eq_true rfl) ⟨Nat.le_of_ble_eq_true rfl, Nat.le_of_ble_eq_true rfl⟩ rfl) hS (fun H locs hP hS => ?_)
    refine lv_icmp_ne (tgt := 61) hx hb dX3_clash_29 (by decide) (fun hc => ?_) (fun hc => ?_)
    · have hf := zif_n hf hc
      refine lv_iconst (v := 0) hx hb dX3_clash_61 (by decide) ?_
      obtain ⟨q1, q2⟩ := zs_i hf
      subst q1; subst q2
      exact z_zret hx hb hr (Or.inl rfl) rfl hP hS hlocks (Nat.le_of_ble_eq_true rfl) (Nat.le_of_ble_eq_true rfl) dX3_clash_62
    · have hf := zif_p hf hc
      refine lv_aload_n hx hb dX3_clash_32 rfl (lv_at hl 1 rfl) ?_
      refine z_get hx hb hts (fun w h => List.mem_cons_of_mem _ (ziX3 w h)) hown hK hP (zV_0 (by decide)) rfl rfl 4 (by decide) (List.mem_cons_of_mem _ m_450) rfl rfl dX3_clash_33 ?_
      refine z_get hx hb hts (fun w h => List.mem_cons_of_mem _ (ziX2 w h)) hown hK hP (zV_r (by decide) (by decide) (by decide)) rfl rfl 16 (by decide) (List.mem_cons_of_mem _ m_103) rfl rfl dX3_clash_36 ?_
      refine lv_iload_n hx hb dX3_clash_39 rfl (lv_at hl 2 rfl) ?_
      obtain ⟨v8, T7, h9, hf⟩ := zb_i hf
      refine z_ok (z_runS (As := [.ref (G 8 0), .int p0]) (rest := []) F k_X3_cell m_692 (c_X3_cell 8 0 (zIA_r (by decide) (by decide) (by decide)) p0 T4 T7 _ h9) hP hS rfl rfl hl.1 (Nat.le_of_ble_eq_true rfl) dX3_clash_40 (Nat.le_of_ble_eq_true rfl) ⟨Nat.le_of_ble_eq_true rfl, Nat.le_of_ble_eq_true rfl⟩ rfl) hS (fun H locs hP hS => ?_)
      refine lv_aload_n hx hb dX3_clash_43 rfl (lv_at hl 1 rfl) ?_
      refine z_get hx hb hts (fun w h => List.mem_cons_of_mem _ (ziX3 w h)) hown hK hP (zV_0 (by decide)) rfl rfl 4 (by decide) (List.mem_cons_of_mem _ m_450) rfl rfl dX3_clash_44 ?_
      refine z_get hx hb hts (fun w h => List.mem_cons_of_mem _ (ziX2 w h)) hown hK hP (zV_r (by decide) (by decide) (by decide)) rfl rfl 16 (by decide) (List.mem_cons_of_mem _ m_103) rfl rfl dX3_clash_47 ?_
      refine lv_iload_n hx hb dX3_clash_50 rfl (lv_at hl 3 rfl) ?_
      obtain ⟨v11, T10, h12, hf⟩ := zb_i hf
      refine z_ok (z_runS (As := [.ref (G 8 0), .int p1]) (rest := [.int v8]) F k_X3_cell m_692 (c_X3_cell 8 0 (zIA_r (by decide) (by decide) (by decide)) p1 T7 T10 _ h12) hP hS rfl rfl hl.1 (Nat.le_of_ble_eq_true rfl) dX3_clash_51 (Nat.le_of_ble_eq_true rfl) ⟨Nat.le_of_ble_eq_true rfl, Nat.le_of_ble_eq_true rfl⟩ rfl) hS (fun H locs hP hS => ?_)
      refine lv_icmp_ne (tgt := 61) hx hb dX3_clash_54 (by decide) (fun hc => ?_) (fun hc => ?_)
      · have hf := zif_n hf hc
        refine lv_iconst (v := 0) hx hb dX3_clash_61 (by decide) ?_
        obtain ⟨q1, q2⟩ := zs_i hf
        subst q1; subst q2
        exact z_zret hx hb hr (Or.inl rfl) rfl hP hS hlocks (Nat.le_of_ble_eq_true rfl) (Nat.le_of_ble_eq_true rfl) dX3_clash_62
      · have hf := zif_p hf hc
        refine lv_iconst (v := 1) hx hb dX3_clash_57 (by decide) ?_
        refine lv_goto (tgt := 62) hx hb dX3_clash_58 (by decide) ?_
        obtain ⟨q1, q2⟩ := zs_i hf
        subst q1; subst q2
        exact z_zret hx hb hr (Or.inr rfl) rfl hP hS hlocks (Nat.le_of_ble_eq_true rfl) (Nat.le_of_ble_eq_true rfl) dX3_clash_62

def lp_X3_clashes_17 (w2 : Int32) : Nat → Int32 → Int32 → zT → Option ((Int32 × Int32) × zT)
  | 0, _, _, _ => none
  | n + 1, u1, u3, T => (if w2 ≤ u3 then some ((u1, u3), T) else zb (f_X3_clash w2 u3 T) fun v2 T1 => (if v2 = 0 then zl (u3 + 1) fun x4 => lp_X3_clashes_17 w2 n u1 x4 T1 else zl (u1 + 1) fun x5 => zl (u3 + 1) fun x6 => lp_X3_clashes_17 w2 n x5 x6 T1))
def lp_X3_clashes_4  : Nat → Int32 → Int32 → zT → Option ((Int32 × Int32) × zT)
  | 0, _, _, _ => none
  | n + 1, u1, u2, T => (if (T.1 1 0 9) ≤ u2 then some ((u1, u2), T) else zb (lp_X3_clashes_17 u2 2000 u1 0 T) fun v8 T7 => zl (u2 + 1) fun x10 => lp_X3_clashes_4 n v8.1 x10 T7)
def f_X3_clashes  (T : zT) : Option (Int32 × zT) := zb (lp_X3_clashes_4 2000 0 0 T) fun v12 T11 => some (v12.1, T11)
set_option maxHeartbeats 4000000 in
set_option maxRecDepth 100000 in
theorem l_X3_clashes_17 {p : Program} {l : Launch} {e : Env} {s : State} {m : MethodId} {args : Array Value} {below : List Frame} {meth : Method} {c : Code} {Q : State → Prop} {D : va_G} {Y : Nat → ClassId} {S V : Nat → Nat} {G : Nat → Nat → Nat} {A : Nat → Prop} {c0 : Cond} {mc ms cells slots : Nat} (F : zF 0 2 mc ms p l s m args c cX3_clashes 4 RX3 c0 D Y S V G A) (hcs : cells ≤ mc ∧ slots ≤ ms) (w2 : Int32) :
    ∀ (n : Nat) (u1 : Int32) (u3 : Int32) (T : zT) (o : (Int32 × Int32) × zT) (H : Heap) (locs : List Loc) (ls : Array Slot), lp_X3_clashes_17 w2 n u1 u3 T = some o → zP 0 D Y G T H → va_S A s.heap H locs → lv_has ls 4 [(0, .ref (G 0 0)), (1, .int u1), (2, .int w2), (3, .int u3)] → (∀ (H : Heap) (locs : List Loc) (ls : Array Slot), zP 0 D Y G o.2 H → va_S A s.heap H locs → lv_has ls 4 [(0, .ref (G 0 0)), (1, .int o.1.1), (2, .int w2), (3, .int o.1.2)] → W p l e (zR 2 mc ms) s m args below meth c H locs cells slots Q (F0 m 40 ls [])) → W p l e (zR 2 mc ms) s m args below meth c H locs cells slots Q (F0 m 17 ls []) := by
  obtain ⟨hx, hb, hml, hown, hts, hl9, hG, hK, hA⟩ := id F
  intro n
  induction n with
  | zero =>
    intro u1 u3 T o H locs ls hf
    rw [lp_X3_clashes_17] at hf
    cases hf
  | succ n ih =>
    intro u1 u3 T o H locs ls hf hP hS hl k0_
    rw [lp_X3_clashes_17] at hf
    refine lv_iload_n hx hb dX3_clashes_17 rfl (lv_at hl 3 rfl) ?_
    refine lv_iload_n hx hb dX3_clashes_18 rfl (lv_at hl 2 rfl) ?_
    refine lv_icmp_ge (tgt := 40) hx hb dX3_clashes_19 (by decide) (fun hc => ?_) (fun hc => ?_)
    · have hf := zif_p hf hc
      cases hf
      exact k0_ _ _ _ hP hS (lv_sub hl [0, 1, 2, 3] rfl)
    · have hf := zif_n hf hc
      refine lv_aload_n hx hb dX3_clashes_22 rfl (lv_at hl 0 rfl) ?_
      refine lv_iload_n hx hb dX3_clashes_23 rfl (lv_at hl 2 rfl) ?_
      refine lv_iload_n hx hb dX3_clashes_24 rfl (lv_at hl 3 rfl) ?_
      obtain ⟨v2, T1, h3, hf⟩ := zb_i hf
      refine z_ok (z_runV (As := [.int w2, .int u3]) (rest := []) F k_X3_clash m_1065 (c_X3_clash w2 u3 T T1 _ h3) hP hS (zV_0 (by decide)) rfl rfl rfl rfl hl.1 (Nat.le_of_ble_eq_true rfl) dX3_clashes_25 (Nat.le_of_ble_eq_true rfl) ⟨hcs.1, hcs.2⟩ rfl) hS (fun H locs hP hS => ?_)
      refine lv_if_eq (tgt := 34) hx hb dX3_clashes_28 (by decide) (fun hc => ?_) (fun hc => ?_)
      · have hf := zif_p hf hc
        obtain ⟨x4, ex4, hf⟩ := zl_i hf
        refine lv_iinc (v := x4) (lv' := [(3, .int x4), (0, .ref (G 0 0)), (1, .int u1), (2, .int w2)]) hx hb dX3_clashes_34 hl (k := 3) rfl (by rw [ex4]; rfl) (by decide) rfl (fun ls hl => ?_)
        refine lv_goto (tgt := 17) hx hb dX3_clashes_37 (by decide) ?_
        exact ih u1 x4 _ _ _ _ _ hf hP hS (lv_sub hl [1, 2, 3, 0] rfl) k0_
      · have hf := zif_n hf hc
        obtain ⟨x5, ex5, hf⟩ := zl_i hf
        refine lv_iinc (v := x5) (lv' := [(1, .int x5), (0, .ref (G 0 0)), (2, .int w2), (3, .int u3)]) hx hb dX3_clashes_31 hl (k := 1) rfl (by rw [ex5]; rfl) (by decide) rfl (fun ls hl => ?_)
        obtain ⟨x6, ex6, hf⟩ := zl_i hf
        refine lv_iinc (v := x6) (lv' := [(3, .int x6), (1, .int x5), (0, .ref (G 0 0)), (2, .int w2)]) hx hb dX3_clashes_34 hl (k := 3) rfl (by rw [ex6]; rfl) (by decide) rfl (fun ls hl => ?_)
        refine lv_goto (tgt := 17) hx hb dX3_clashes_37 (by decide) ?_
        exact ih x5 x6 _ _ _ _ _ hf hP hS (lv_sub hl [2, 1, 3, 0] rfl) k0_
set_option maxHeartbeats 4000000 in
set_option maxRecDepth 100000 in
theorem l_X3_clashes_4 {p : Program} {l : Launch} {e : Env} {s : State} {m : MethodId} {args : Array Value} {below : List Frame} {meth : Method} {c : Code} {Q : State → Prop} {D : va_G} {Y : Nat → ClassId} {S V : Nat → Nat} {G : Nat → Nat → Nat} {A : Nat → Prop} {c0 : Cond} {mc ms cells slots : Nat} (F : zF 0 2 mc ms p l s m args c cX3_clashes 4 RX3 c0 D Y S V G A) (hcs : cells ≤ mc ∧ slots ≤ ms) :
    ∀ (n : Nat) (u1 : Int32) (u2 : Int32) (T : zT) (o : (Int32 × Int32) × zT) (H : Heap) (locs : List Loc) (ls : Array Slot), lp_X3_clashes_4 n u1 u2 T = some o → zP 0 D Y G T H → va_S A s.heap H locs → lv_has ls 4 [(0, .ref (G 0 0)), (1, .int u1), (2, .int u2)] → (∀ (H : Heap) (locs : List Loc) (ls : Array Slot), zP 0 D Y G o.2 H → va_S A s.heap H locs → lv_has ls 4 [(0, .ref (G 0 0)), (1, .int o.1.1), (2, .int o.1.2)] → W p l e (zR 2 mc ms) s m args below meth c H locs cells slots Q (F0 m 46 ls [])) → W p l e (zR 2 mc ms) s m args below meth c H locs cells slots Q (F0 m 4 ls []) := by
  obtain ⟨hx, hb, hml, hown, hts, hl9, hG, hK, hA⟩ := id F
  intro n
  induction n with
  | zero =>
    intro u1 u2 T o H locs ls hf
    rw [lp_X3_clashes_4] at hf
    cases hf
  | succ n ih =>
    intro u1 u2 T o H locs ls hf hP hS hl k0_
    rw [lp_X3_clashes_4] at hf
    refine lv_iload_n hx hb dX3_clashes_4 rfl (lv_at hl 2 rfl) ?_
    refine lv_aload_n hx hb dX3_clashes_5 rfl (lv_at hl 0 rfl) ?_
    refine z_get hx hb hts (fun w h => List.mem_cons_of_mem _ (ziX3 w h)) hown hK hP (zV_0 (by decide)) rfl rfl 4 (by decide) (List.mem_cons_of_mem _ m_450) rfl rfl dX3_clashes_6 ?_
    refine z_get hx hb hts (fun w h => List.mem_cons_of_mem _ (ziX2 w h)) hown hK hP (zV_r (by decide) (by decide) (by decide)) rfl rfl 9 (by decide) (List.mem_cons_of_mem _ m_87) rfl rfl dX3_clashes_9 ?_
    refine lv_icmp_ge (tgt := 46) hx hb dX3_clashes_12 (by decide) (fun hc => ?_) (fun hc => ?_)
    · have hf := zif_p hf hc
      cases hf
      exact k0_ _ _ _ hP hS (lv_sub hl [0, 1, 2] rfl)
    · have hf := zif_n hf hc
      refine lv_iconst (v := 0) hx hb dX3_clashes_15 (by decide) ?_
      refine lv_istore_n (lv' := [(3, .int 0), (0, .ref (G 0 0)), (1, .int u1), (2, .int u2)]) hx hb dX3_clashes_16 rfl hl (by decide) rfl (fun ls hl => ?_)
      obtain ⟨v8, T7, h9, hf⟩ := zb_i hf
      refine l_X3_clashes_17 F hcs u2 2000 u1 0 _ _ _ _ _ h9 hP hS (lv_sub hl [1, 2, 3, 0] rfl) (fun H locs ls hP hS hl => ?_)
      obtain ⟨x10, ex10, hf⟩ := zl_i hf
      refine lv_iinc (v := x10) (lv' := [(2, .int x10), (0, .ref (G 0 0)), (1, .int v8.1), (3, .int v8.2)]) hx hb dX3_clashes_40 hl (k := 2) rfl (by rw [ex10]; rfl) (by decide) rfl (fun ls hl => ?_)
      refine lv_goto (tgt := 4) hx hb dX3_clashes_43 (by decide) ?_
      exact ih v8.1 x10 _ _ _ _ _ hf hP hS (lv_sub hl [1, 2, 0] rfl) k0_
set_option maxHeartbeats 4000000 in
set_option maxRecDepth 100000 in
theorem c_X3_clashes  (T T' : zT) (v : Int32) (hf : f_X3_clashes  T = some (v, T')) : zC 0 yX3_clashes cX3_clashes 4 (some .int) 2  0 0  (fun G _ => [.ref (G 0 0)]) T (fun _ => .inl (some (.int v))) T' := by
  intro l D Y S V G A hl9 hG
  refine vx_ofW (cc := cX3_clashes) (maxL := 4) (ret := (some .int)) (by decide) rfl ?_
  intro p e s m args below meth c s₁ B hml hex hv
  obtain ⟨rfl, hK, hP, hA⟩ := hv
  have hx := B.exec
  have hb := B.bytes
  have hr := B.returns
  have hlocks := B.notSynchronized
  have hown : s.vm.findClass RX3 = some m.cls := findClass_of_methodNamed B.named
  have hts := atoms_spec (ws := Cond.code yX3_clashes cX3_clashes 4 (some .int) :: zWS) B.pre
  have F : zF 0 2  0 0  p l s m _ c cX3_clashes 4 RX3 (Cond.code yX3_clashes cX3_clashes 4 (some .int)) D Y S V G A := ⟨hx, hb, hml, hown, hts, hl9, hG, hK, hA⟩
  have hS : va_S A s.heap s.heap [] := va_S.rf
  have hl := lv_entry ([.ref (G 0 0)]) (n := 4) (Nat.le_of_ble_eq_true rfl)
  rw [lg_entry_eq]
  generalize (lg_sl ([.ref (G 0 0)]) ++ List.replicate (4 - (lg_sl ([.ref (G 0 0)])).length) Slot.unset).toArray = ls at hl ⊢
  have hl : lv_has ls 4 [(0, .ref (G 0 0))] := hl
  unfold f_X3_clashes at hf
  refine lv_iconst (v := 0) hx hb dX3_clashes_0 (by decide) ?_
  refine lv_istore_n (lv' := [(1, .int 0), (0, .ref (G 0 0))]) hx hb dX3_clashes_1 rfl hl (by decide) rfl (fun ls hl => ?_)
  refine lv_iconst (v := 0) hx hb dX3_clashes_2 (by decide) ?_
  refine lv_istore_n (lv' := [(2, .int 0), (1, .int 0), (0, .ref (G 0 0))]) hx hb dX3_clashes_3 rfl hl (by decide) rfl (fun ls hl => ?_)
  obtain ⟨v12, T11, h13, hf⟩ := zb_i hf
  refine l_X3_clashes_4 F ⟨Nat.le_of_ble_eq_true rfl, Nat.le_of_ble_eq_true rfl⟩  2000 0 0 _ _ _ _ _ h13 hP hS (lv_sub hl [2, 1, 0] rfl) (fun H locs ls hP hS hl => ?_)
  refine lv_iload_n hx hb dX3_clashes_46 rfl (lv_at hl 1 rfl) ?_
  obtain ⟨q1, q2⟩ := zs_i hf
  subst q1; subst q2
  exact z_iret hx hb hr rfl hP hS hlocks (Nat.le_of_ble_eq_true rfl) (Nat.le_of_ble_eq_true rfl) dX3_clashes_47

def f_X3_candleDifference  (T : zT) : Option (Int32 × zT) := zl ((((T.1 1 0 3) - (T.1 1 0 4)) - (T.1 1 0 5)) + (T.1 1 0 6)) fun x1 => (if 0 ≤ x1 then some (x1, T) else some ((-x1), T))
set_option maxHeartbeats 4000000 in
set_option maxRecDepth 100000 in
theorem c_X3_candleDifference  (T T' : zT) (v : Int32) (hf : f_X3_candleDifference  T = some (v, T')) : zC 0 yX3_candleDifference cX3_candleDifference 2 (some .int) 0  0 0  (fun G _ => [.ref (G 0 0)]) T (fun _ => .inl (some (.int v))) T' := by
  intro l D Y S V G A hl9 hG
  refine vx_ofW (cc := cX3_candleDifference) (maxL := 2) (ret := (some .int)) (by decide) rfl ?_
  intro p e s m args below meth c s₁ B hml hex hv
  obtain ⟨rfl, hK, hP, hA⟩ := hv
  have hx := B.exec
  have hb := B.bytes
  have hr := B.returns
  have hlocks := B.notSynchronized
  have hown : s.vm.findClass RX3 = some m.cls := findClass_of_methodNamed B.named
  have hts := atoms_spec (ws := Cond.code yX3_candleDifference cX3_candleDifference 2 (some .int) :: zWS) B.pre
  have F : zF 0 0  0 0  p l s m _ c cX3_candleDifference 2 RX3 (Cond.code yX3_candleDifference cX3_candleDifference 2 (some .int)) D Y S V G A := ⟨hx, hb, hml, hown, hts, hl9, hG, hK, hA⟩
  have hS : va_S A s.heap s.heap [] := va_S.rf
  have hl := lv_entry ([.ref (G 0 0)]) (n := 2) (Nat.le_of_ble_eq_true rfl)
  rw [lg_entry_eq]
  generalize (lg_sl ([.ref (G 0 0)]) ++ List.replicate (2 - (lg_sl ([.ref (G 0 0)])).length) Slot.unset).toArray = ls at hl ⊢
  have hl : lv_has ls 2 [(0, .ref (G 0 0))] := hl
  unfold f_X3_candleDifference at hf
  refine lv_aload_n hx hb dX3_candleDifference_0 rfl (lv_at hl 0 rfl) ?_
  refine z_get hx hb hts (fun w h => List.mem_cons_of_mem _ (ziX3 w h)) hown hK hP (zV_0 (by decide)) rfl rfl 4 (by decide) (List.mem_cons_of_mem _ m_450) rfl rfl dX3_candleDifference_1 ?_
  refine z_get hx hb hts (fun w h => List.mem_cons_of_mem _ (ziX2 w h)) hown hK hP (zV_r (by decide) (by decide) (by decide)) rfl rfl 3 (by decide) (List.mem_cons_of_mem _ m_74) rfl rfl dX3_candleDifference_4 ?_
  refine lv_aload_n hx hb dX3_candleDifference_7 rfl (lv_at hl 0 rfl) ?_
  refine z_get hx hb hts (fun w h => List.mem_cons_of_mem _ (ziX3 w h)) hown hK hP (zV_0 (by decide)) rfl rfl 4 (by decide) (List.mem_cons_of_mem _ m_450) rfl rfl dX3_candleDifference_8 ?_
  refine z_get hx hb hts (fun w h => List.mem_cons_of_mem _ (ziX2 w h)) hown hK hP (zV_r (by decide) (by decide) (by decide)) rfl rfl 4 (by decide) (List.mem_cons_of_mem _ m_76) rfl rfl dX3_candleDifference_11 ?_
  refine lv_isub hx hb dX3_candleDifference_14 ?_
  refine lv_aload_n hx hb dX3_candleDifference_15 rfl (lv_at hl 0 rfl) ?_
  refine z_get hx hb hts (fun w h => List.mem_cons_of_mem _ (ziX3 w h)) hown hK hP (zV_0 (by decide)) rfl rfl 4 (by decide) (List.mem_cons_of_mem _ m_450) rfl rfl dX3_candleDifference_16 ?_
  refine z_get hx hb hts (fun w h => List.mem_cons_of_mem _ (ziX2 w h)) hown hK hP (zV_r (by decide) (by decide) (by decide)) rfl rfl 5 (by decide) (List.mem_cons_of_mem _ m_78) rfl rfl dX3_candleDifference_19 ?_
  refine lv_isub hx hb dX3_candleDifference_22 ?_
  refine lv_aload_n hx hb dX3_candleDifference_23 rfl (lv_at hl 0 rfl) ?_
  refine z_get hx hb hts (fun w h => List.mem_cons_of_mem _ (ziX3 w h)) hown hK hP (zV_0 (by decide)) rfl rfl 4 (by decide) (List.mem_cons_of_mem _ m_450) rfl rfl dX3_candleDifference_24 ?_
  refine z_get hx hb hts (fun w h => List.mem_cons_of_mem _ (ziX2 w h)) hown hK hP (zV_r (by decide) (by decide) (by decide)) rfl rfl 6 (by decide) (List.mem_cons_of_mem _ m_80) rfl rfl dX3_candleDifference_27 ?_
  refine lv_iadd hx hb dX3_candleDifference_30 ?_
  obtain ⟨x1, ex1, hf⟩ := zl_i hf
  refine z_topi ex1 ?_
  refine lv_istore_n (lv' := [(1, .int x1), (0, .ref (G 0 0))]) hx hb dX3_candleDifference_31 rfl hl (by decide) rfl (fun ls hl => ?_)
  refine lv_iload_n hx hb dX3_candleDifference_32 rfl (lv_at hl 0 rfl) ?_
  refine lv_if_ge (tgt := 41) hx hb dX3_candleDifference_33 (by decide) (fun hc => ?_) (fun hc => ?_)
  · have hf := zif_p hf hc
    refine lv_iload_n hx hb dX3_candleDifference_41 rfl (lv_at hl 0 rfl) ?_
    obtain ⟨q1, q2⟩ := zs_i hf
    subst q1; subst q2
    exact z_iret hx hb hr rfl hP hS hlocks (Nat.le_of_ble_eq_true rfl) (Nat.le_of_ble_eq_true rfl) dX3_candleDifference_42
  · have hf := zif_n hf hc
    refine lv_iload_n hx hb dX3_candleDifference_36 rfl (lv_at hl 0 rfl) ?_
    refine lv_ineg hx hb dX3_candleDifference_37 ?_
    refine lv_goto (tgt := 42) hx hb dX3_candleDifference_38 (by decide) ?_
    obtain ⟨q1, q2⟩ := zs_i hf
    subst q1; subst q2
    exact z_iret hx hb hr rfl hP hS hlocks (Nat.le_of_ble_eq_true rfl) (Nat.le_of_ble_eq_true rfl) dX3_candleDifference_42

def f_X3_advance (p0 : Int32) (T : zT) : Option ((Int32 ⊕ Nat) × zT) := (if p0 < 1 then some (.inr 1, T) else (if p0 ≤ 720 then zb (f_X2_daysLeft 0 T) fun v2 T1 => (if p0 ≤ v2 then zb (f_X0_record 0 T1) fun _v5 T4 => zb (f_X2_pass 0 p0 T4) fun v8 T7 => some (.inl v8, T7) else some (.inr 0, T1)) else some (.inr 1, T)))
set_option maxHeartbeats 4000000 in
set_option maxRecDepth 100000 in
theorem c_X3_advance (p0 : Int32) (T T' : zT) (v : (Int32 ⊕ Nat)) (hf : f_X3_advance p0 T = some (v, T')) : zC 0 yX3_advance cX3_advance 2 (some .int) 6  1 6  (fun G _ => [.ref (G 0 0), .int p0]) T (fun _ => zri v) T' := by
  intro l D Y S V G A hl9 hG
  refine vx_ofW (cc := cX3_advance) (maxL := 2) (ret := (some .int)) (by decide) rfl ?_
  intro p e s m args below meth c s₁ B hml hex hv
  obtain ⟨rfl, hK, hP, hA⟩ := hv
  have hx := B.exec
  have hb := B.bytes
  have hr := B.returns
  have hlocks := B.notSynchronized
  have hown : s.vm.findClass RX3 = some m.cls := findClass_of_methodNamed B.named
  have hts := atoms_spec (ws := Cond.code yX3_advance cX3_advance 2 (some .int) :: zWS) B.pre
  have F : zF 0 6  1 6  p l s m _ c cX3_advance 2 RX3 (Cond.code yX3_advance cX3_advance 2 (some .int)) D Y S V G A := ⟨hx, hb, hml, hown, hts, hl9, hG, hK, hA⟩
  have hS : va_S A s.heap s.heap [] := va_S.rf
  have hl := lv_entry ([.ref (G 0 0), .int p0]) (n := 2) (Nat.le_of_ble_eq_true rfl)
  rw [lg_entry_eq]
  generalize (lg_sl ([.ref (G 0 0), .int p0]) ++ List.replicate (2 - (lg_sl ([.ref (G 0 0), .int p0])).length) Slot.unset).toArray = ls at hl ⊢
  have hl : lv_has ls 2 [(0, .ref (G 0 0)), (1, .int p0)] := hl
  unfold f_X3_advance at hf
  refine lv_iload_n hx hb dX3_advance_0 rfl (lv_at hl 1 rfl) ?_
  refine lv_iconst (v := 1) hx hb dX3_advance_1 (by decide) ?_
  refine lv_icmp_lt (tgt := 12) hx hb dX3_advance_2 (by decide) (fun hc => ?_) (fun hc => ?_)
  · have hf := zif_p hf hc
    cases hf
    exact z_throw_1 F 18 rfl hP hS hl.1 hlocks hex (Nat.le_of_ble_eq_true rfl) (Nat.le_of_ble_eq_true rfl) (Nat.le_of_ble_eq_true rfl) (Nat.le_of_ble_eq_true rfl) dX3_advance_12 dX3_advance_15 dX3_advance_16 dX3_advance_18 dX3_advance_21 rfl
  · have hf := zif_n hf hc
    refine lv_iload_n hx hb dX3_advance_5 rfl (lv_at hl 1 rfl) ?_
    refine lv_sipush (v := 720) hx hb dX3_advance_6 (by decide) ?_
    refine lv_icmp_le (tgt := 22) hx hb dX3_advance_9 (by decide) (fun hc => ?_) (fun hc => ?_)
    · have hf := zif_p hf hc
      refine lv_iload_n hx hb dX3_advance_22 rfl (lv_at hl 1 rfl) ?_
      refine lv_aload_n hx hb dX3_advance_23 rfl (lv_at hl 0 rfl) ?_
      refine z_get hx hb hts (fun w h => List.mem_cons_of_mem _ (ziX3 w h)) hown hK hP (zV_0 (by decide)) rfl rfl 4 (by decide) (List.mem_cons_of_mem _ m_450) rfl rfl dX3_advance_24 ?_
      obtain ⟨v2, T1, h3, hf⟩ := zb_i hf
      refine z_ok (z_runV (As := []) (rest := [.int p0]) F k_X2_daysLeft m_662 (c_X2_daysLeft 0 (by decide) T T1 _ h3) hP hS (zV_r (by decide) (by decide) (by decide)) rfl rfl rfl rfl hl.1 (Nat.le_of_ble_eq_true rfl) dX3_advance_27 (Nat.le_of_ble_eq_true rfl) ⟨Nat.le_of_ble_eq_true rfl, Nat.le_of_ble_eq_true rfl⟩ rfl) hS (fun H locs hP hS => ?_)
      refine lv_icmp_le (tgt := 43) hx hb dX3_advance_30 (by decide) (fun hc => ?_) (fun hc => ?_)
      · have hf := zif_p hf hc
        refine lv_aload_n hx hb dX3_advance_43 rfl (lv_at hl 0 rfl) ?_
        refine z_get hx hb hts (fun w h => List.mem_cons_of_mem _ (ziX3 w h)) hown hK hP (zV_0 (by decide)) rfl rfl 7 (by decide) (List.mem_cons_of_mem _ m_453) rfl rfl dX3_advance_44 ?_
        refine lv_aload_n hx hb dX3_advance_47 rfl (lv_at hl 0 rfl) ?_
        refine z_get hx hb hts (fun w h => List.mem_cons_of_mem _ (ziX3 w h)) hown hK hP (zV_0 (by decide)) rfl rfl 4 (by decide) (List.mem_cons_of_mem _ m_450) rfl rfl dX3_advance_48 ?_
        obtain ⟨v5, T4, h6, hf⟩ := zb_i hf
        refine z_ok (z_runV (As := [.ref (G 1 0)]) (rest := []) F k_X0_record m_576 (c_X0_record 0 (by decide) T1 T4 _ h6) hP hS (zV_0 (by decide)) rfl rfl rfl rfl hl.1 (Nat.le_of_ble_eq_true rfl) dX3_advance_51 (Nat.le_of_ble_eq_true rfl) ⟨Nat.le_of_ble_eq_true rfl, Nat.le_of_ble_eq_true rfl⟩ rfl) hS (fun H locs hP hS => ?_)
        refine lv_aload_n hx hb dX3_advance_54 rfl (lv_at hl 0 rfl) ?_
        refine z_get hx hb hts (fun w h => List.mem_cons_of_mem _ (ziX3 w h)) hown hK hP (zV_0 (by decide)) rfl rfl 4 (by decide) (List.mem_cons_of_mem _ m_450) rfl rfl dX3_advance_55 ?_
        refine lv_iload_n hx hb dX3_advance_58 rfl (lv_at hl 1 rfl) ?_
        obtain ⟨v8, T7, h9, hf⟩ := zb_i hf
        refine z_ok (z_runV (As := [.int p0]) (rest := []) F k_X2_pass m_664 (c_X2_pass 0 (by decide) p0 T4 T7 _ h9) hP hS (zV_r (by decide) (by decide) (by decide)) rfl rfl rfl rfl hl.1 (Nat.le_of_ble_eq_true rfl) dX3_advance_59 (Nat.le_of_ble_eq_true rfl) ⟨Nat.le_of_ble_eq_true rfl, Nat.le_of_ble_eq_true rfl⟩ rfl) hS (fun H locs hP hS => ?_)
        obtain ⟨q1, q2⟩ := zs_i hf
        subst q1; subst q2
        exact z_iret hx hb hr rfl hP hS hlocks (Nat.le_of_ble_eq_true rfl) (Nat.le_of_ble_eq_true rfl) dX3_advance_62
      · have hf := zif_n hf hc
        cases hf
        exact z_throw_0 F 19 rfl hP hS hl.1 hlocks hex (Nat.le_of_ble_eq_true rfl) (Nat.le_of_ble_eq_true rfl) (Nat.le_of_ble_eq_true rfl) (Nat.le_of_ble_eq_true rfl) dX3_advance_33 dX3_advance_36 dX3_advance_37 dX3_advance_39 dX3_advance_42 rfl
    · have hf := zif_n hf hc
      cases hf
      exact z_throw_1 F 18 rfl hP hS hl.1 hlocks hex (Nat.le_of_ble_eq_true rfl) (Nat.le_of_ble_eq_true rfl) (Nat.le_of_ble_eq_true rfl) (Nat.le_of_ble_eq_true rfl) dX3_advance_12 dX3_advance_15 dX3_advance_16 dX3_advance_18 dX3_advance_21 rfl

def f_X3_draw (p0 : Int32) (T : zT) : Option ((Int32 ⊕ Nat) × zT) := zx (f_X3_needChild p0 T) fun v2 T1 => zb (f_X2_countDraws 0 p0 T1) fun v6 T5 => (if v6 = (-1) then some (.inr 0, T5) else zb (f_X0_record 0 T5) fun _v9 T8 => zb (f_X2_drawBirthday 0 p0 v6 T8) fun _v12 T11 => some (.inl v6, T11))
set_option maxHeartbeats 4000000 in
set_option maxRecDepth 100000 in
theorem c_X3_draw (p0 : Int32) (T T' : zT) (v : (Int32 ⊕ Nat)) (hf : f_X3_draw p0 T = some (v, T')) : zC 0 yX3_draw cX3_draw 3 (some .int) 7  2 12  (fun G _ => [.ref (G 0 0), .int p0]) T (fun _ => zri v) T' := by
  intro l D Y S V G A hl9 hG
  refine vx_ofW (cc := cX3_draw) (maxL := 3) (ret := (some .int)) (by decide) rfl ?_
  intro p e s m args below meth c s₁ B hml hex hv
  obtain ⟨rfl, hK, hP, hA⟩ := hv
  have hx := B.exec
  have hb := B.bytes
  have hr := B.returns
  have hlocks := B.notSynchronized
  have hown : s.vm.findClass RX3 = some m.cls := findClass_of_methodNamed B.named
  have hts := atoms_spec (ws := Cond.code yX3_draw cX3_draw 3 (some .int) :: zWS) B.pre
  have F : zF 0 7  2 12  p l s m _ c cX3_draw 3 RX3 (Cond.code yX3_draw cX3_draw 3 (some .int)) D Y S V G A := ⟨hx, hb, hml, hown, hts, hl9, hG, hK, hA⟩
  have hS : va_S A s.heap s.heap [] := va_S.rf
  have hl := lv_entry ([.ref (G 0 0), .int p0]) (n := 3) (Nat.le_of_ble_eq_true rfl)
  rw [lg_entry_eq]
  generalize (lg_sl ([.ref (G 0 0), .int p0]) ++ List.replicate (3 - (lg_sl ([.ref (G 0 0), .int p0])).length) Slot.unset).toArray = ls at hl ⊢
  have hl : lv_has ls 3 [(0, .ref (G 0 0)), (1, .int p0)] := hl
  unfold f_X3_draw at hf
  refine lv_aload_n hx hb dX3_draw_0 rfl (lv_at hl 0 rfl) ?_
  refine lv_iload_n hx hb dX3_draw_1 rfl (lv_at hl 1 rfl) ?_
  rcases zx_i hf with ⟨v2, T1, h3, hf⟩ | ⟨y4, T1, h3, hf⟩
  · refine z_ok (z_runV (As := [.int p0]) (rest := []) F k_X3_needChild m_672 (c_X3_needChild p0 T T1 _ h3) hP hS (zV_0 (by decide)) rfl rfl rfl rfl hl.1 (Nat.le_of_ble_eq_true rfl) dX3_draw_2 (Nat.le_of_ble_eq_true rfl) ⟨Nat.le_of_ble_eq_true rfl, Nat.le_of_ble_eq_true rfl⟩ rfl) hS (fun H locs hP hS => ?_)
    refine lv_aload_n hx hb dX3_draw_5 rfl (lv_at hl 0 rfl) ?_
    refine z_get hx hb hts (fun w h => List.mem_cons_of_mem _ (ziX3 w h)) hown hK hP (zV_0 (by decide)) rfl rfl 4 (by decide) (List.mem_cons_of_mem _ m_450) rfl rfl dX3_draw_6 ?_
    refine lv_iload_n hx hb dX3_draw_9 rfl (lv_at hl 1 rfl) ?_
    obtain ⟨v6, T5, h7, hf⟩ := zb_i hf
    refine z_ok (z_runV (As := [.int p0]) (rest := []) F k_X2_countDraws m_677 (c_X2_countDraws 0 (by decide) p0 T1 T5 _ h7) hP hS (zV_r (by decide) (by decide) (by decide)) rfl rfl rfl rfl hl.1 (Nat.le_of_ble_eq_true rfl) dX3_draw_10 (Nat.le_of_ble_eq_true rfl) ⟨Nat.le_of_ble_eq_true rfl, Nat.le_of_ble_eq_true rfl⟩ rfl) hS (fun H locs hP hS => ?_)
    refine lv_istore_n (lv' := [(2, .int v6), (0, .ref (G 0 0)), (1, .int p0)]) hx hb dX3_draw_13 rfl hl (by decide) rfl (fun ls hl => ?_)
    refine lv_iload_n hx hb dX3_draw_14 rfl (lv_at hl 0 rfl) ?_
    refine lv_iconst (v := (-1)) hx hb dX3_draw_15 (by decide) ?_
    refine lv_icmp_ne (tgt := 30) hx hb dX3_draw_16 (by decide) (fun hc => ?_) (fun hc => ?_)
    · have hf := zif_n hf hc
      refine lv_aload_n hx hb dX3_draw_30 rfl (lv_at hl 1 rfl) ?_
      refine z_get hx hb hts (fun w h => List.mem_cons_of_mem _ (ziX3 w h)) hown hK hP (zV_0 (by decide)) rfl rfl 7 (by decide) (List.mem_cons_of_mem _ m_453) rfl rfl dX3_draw_31 ?_
      refine lv_aload_n hx hb dX3_draw_34 rfl (lv_at hl 1 rfl) ?_
      refine z_get hx hb hts (fun w h => List.mem_cons_of_mem _ (ziX3 w h)) hown hK hP (zV_0 (by decide)) rfl rfl 4 (by decide) (List.mem_cons_of_mem _ m_450) rfl rfl dX3_draw_35 ?_
      obtain ⟨v9, T8, h10, hf⟩ := zb_i hf
      refine z_ok (z_runV (As := [.ref (G 1 0)]) (rest := []) F k_X0_record m_576 (c_X0_record 0 (by decide) T5 T8 _ h10) hP hS (zV_0 (by decide)) rfl rfl rfl rfl hl.1 (Nat.le_of_ble_eq_true rfl) dX3_draw_38 (Nat.le_of_ble_eq_true rfl) ⟨Nat.le_of_ble_eq_true rfl, Nat.le_of_ble_eq_true rfl⟩ rfl) hS (fun H locs hP hS => ?_)
      refine lv_aload_n hx hb dX3_draw_41 rfl (lv_at hl 1 rfl) ?_
      refine z_get hx hb hts (fun w h => List.mem_cons_of_mem _ (ziX3 w h)) hown hK hP (zV_0 (by decide)) rfl rfl 4 (by decide) (List.mem_cons_of_mem _ m_450) rfl rfl dX3_draw_42 ?_
      refine lv_iload_n hx hb dX3_draw_45 rfl (lv_at hl 2 rfl) ?_
      refine lv_iload_n hx hb dX3_draw_46 rfl (lv_at hl 0 rfl) ?_
      obtain ⟨v12, T11, h13, hf⟩ := zb_i hf
      refine z_ok (z_runV (As := [.int p0, .int v6]) (rest := []) F k_X2_drawBirthday m_679 (c_X2_drawBirthday 0 (by decide) p0 v6 T8 T11 _ h13) hP hS (zV_r (by decide) (by decide) (by decide)) rfl rfl rfl rfl hl.1 (Nat.le_of_ble_eq_true rfl) dX3_draw_47 (Nat.le_of_ble_eq_true rfl) ⟨Nat.le_of_ble_eq_true rfl, Nat.le_of_ble_eq_true rfl⟩ rfl) hS (fun H locs hP hS => ?_)
      refine lv_iload_n hx hb dX3_draw_50 rfl (lv_at hl 0 rfl) ?_
      obtain ⟨q1, q2⟩ := zs_i hf
      subst q1; subst q2
      exact z_iret hx hb hr rfl hP hS hlocks (Nat.le_of_ble_eq_true rfl) (Nat.le_of_ble_eq_true rfl) dX3_draw_51
    · have hf := zif_p hf hc
      cases hf
      exact z_throwW_0 F 21 rfl hP hS hl.1 hlocks hex (Nat.le_of_ble_eq_true rfl) (Nat.le_of_ble_eq_true rfl) (Nat.le_of_ble_eq_true rfl) (Nat.le_of_ble_eq_true rfl) dX3_draw_19 dX3_draw_22 dX3_draw_23 dX3_draw_26 dX3_draw_29 rfl
  · cases hf
    exact z_ex (z_runV (As := [.int p0]) (rest := []) F k_X3_needChild m_672 (c_X3_needChild p0 T T' _ h3) hP hS (zV_0 (by decide)) rfl rfl rfl rfl hl.1 (Nat.le_of_ble_eq_true rfl) dX3_draw_2 (Nat.le_of_ble_eq_true rfl) ⟨Nat.le_of_ble_eq_true rfl, Nat.le_of_ble_eq_true rfl⟩ rfl) hS hex hlocks rfl (Nat.le_of_ble_eq_true rfl) (Nat.le_of_ble_eq_true rfl)

def f_X3_setBirthday (p0 : Int32) (p1 : Int32) (p2 : Int32) (T : zT) : Option ((Int32 ⊕ Nat) × zT) := zx (f_X3_needChild p0 T) fun v2 T1 => zx (f_X3_needDate p1 p2 T1) fun v6 T5 => zb (f_X3_dateOf p1 p2 T5) fun v10 T9 => zb (f_X3_cell 8 0 p0 T9) fun v13 T12 => zb (f_X2_reasonAgainst 0 p0 v13 v10 T12) fun v16 T15 => (if v16 = 0 then zb (f_X0_record 0 T15) fun _v19 T18 => zb (f_X3_setCell 9 0 p0 v10 T18) fun _v22 T21 => zb (f_X2_daysUntil 0 v10 T21) fun v25 T24 => some (.inl v25, T24) else some (.inr 0, T15))
set_option maxHeartbeats 4000000 in
set_option maxRecDepth 100000 in
theorem c_X3_setBirthday (p0 : Int32) (p1 : Int32) (p2 : Int32) (T T' : zT) (v : (Int32 ⊕ Nat)) (hf : f_X3_setBirthday p0 p1 p2 T = some (v, T')) : zC 0 yX3_setBirthday cX3_setBirthday 5 (some .int) 7  3 18  (fun G _ => [.ref (G 0 0), .int p0, .int p1, .int p2]) T (fun _ => zri v) T' := by
  intro l D Y S V G A hl9 hG
  refine vx_ofW (cc := cX3_setBirthday) (maxL := 5) (ret := (some .int)) (by decide) rfl ?_
  intro p e s m args below meth c s₁ B hml hex hv
  obtain ⟨rfl, hK, hP, hA⟩ := hv
  have hx := B.exec
  have hb := B.bytes
  have hr := B.returns
  have hlocks := B.notSynchronized
  have hown : s.vm.findClass RX3 = some m.cls := findClass_of_methodNamed B.named
  have hts := atoms_spec (ws := Cond.code yX3_setBirthday cX3_setBirthday 5 (some .int) :: zWS) B.pre
  have F : zF 0 7  3 18  p l s m _ c cX3_setBirthday 5 RX3 (Cond.code yX3_setBirthday cX3_setBirthday 5 (some .int)) D Y S V G A := ⟨hx, hb, hml, hown, hts, hl9, hG, hK, hA⟩
  have hS : va_S A s.heap s.heap [] := va_S.rf
  have hl := lv_entry ([.ref (G 0 0), .int p0, .int p1, .int p2]) (n := 5) (Nat.le_of_ble_eq_true rfl)
  rw [lg_entry_eq]
  generalize (lg_sl ([.ref (G 0 0), .int p0, .int p1, .int p2]) ++ List.replicate (5 - (lg_sl ([.ref (G 0 0), .int p0, .int p1, .int p2])).length) Slot.unset).toArray = ls at hl ⊢
  have hl : lv_has ls 5 [(0, .ref (G 0 0)), (1, .int p0), (2, .int p1), (3, .int p2)] := hl
  unfold f_X3_setBirthday at hf
  refine lv_aload_n hx hb dX3_setBirthday_0 rfl (lv_at hl 0 rfl) ?_
  refine lv_iload_n hx hb dX3_setBirthday_1 rfl (lv_at hl 1 rfl) ?_
  rcases zx_i hf with ⟨v2, T1, h3, hf⟩ | ⟨y4, T1, h3, hf⟩
  · refine z_ok (z_runV (As := [.int p0]) (rest := []) F k_X3_needChild m_672 (c_X3_needChild p0 T T1 _ h3) hP hS (zV_0 (by decide)) rfl rfl rfl rfl hl.1 (Nat.le_of_ble_eq_true rfl) dX3_setBirthday_2 (Nat.le_of_ble_eq_true rfl) ⟨Nat.le_of_ble_eq_true rfl, Nat.le_of_ble_eq_true rfl⟩ rfl) hS (fun H locs hP hS => ?_)
    refine lv_iload_n hx hb dX3_setBirthday_5 rfl (lv_at hl 2 rfl) ?_
    refine lv_iload_n hx hb dX3_setBirthday_6 rfl (lv_at hl 3 rfl) ?_
    rcases zx_i hf with ⟨v6, T5, h7, hf⟩ | ⟨y8, T5, h7, hf⟩
    · refine z_ok (z_runS (As := [.int p1, .int p2]) (rest := []) F k_X3_needDate m_687 (c_X3_needDate p1 p2 T1 T5 _ h7) hP hS rfl rfl hl.1 (Nat.le_of_ble_eq_true rfl) dX3_setBirthday_7 (Nat.le_of_ble_eq_true rfl) ⟨Nat.le_of_ble_eq_true rfl, Nat.le_of_ble_eq_true rfl⟩ rfl) hS (fun H locs hP hS => ?_)
      refine lv_iload_n hx hb dX3_setBirthday_10 rfl (lv_at hl 2 rfl) ?_
      refine lv_iload_n hx hb dX3_setBirthday_11 rfl (lv_at hl 3 rfl) ?_
      obtain ⟨v10, T9, h11, hf⟩ := zb_i hf
      refine z_ok (z_runS (As := [.int p1, .int p2]) (rest := []) F k_X3_dateOf m_691 (c_X3_dateOf p1 p2 T5 T9 _ h11) hP hS rfl rfl hl.1 (Nat.le_of_ble_eq_true rfl) dX3_setBirthday_12 (Nat.le_of_ble_eq_true rfl) ⟨Nat.le_of_ble_eq_true rfl, Nat.le_of_ble_eq_true rfl⟩ rfl) hS (fun H locs hP hS => ?_)
      refine lv_istore (lv' := [(4, .int v10), (0, .ref (G 0 0)), (1, .int p0), (2, .int p1), (3, .int p2)]) hx hb dX3_setBirthday_15 hl (by decide) rfl (fun ls hl => ?_)
      refine lv_aload_n hx hb dX3_setBirthday_17 rfl (lv_at hl 1 rfl) ?_
      refine z_get hx hb hts (fun w h => List.mem_cons_of_mem _ (ziX3 w h)) hown hK hP (zV_0 (by decide)) rfl rfl 4 (by decide) (List.mem_cons_of_mem _ m_450) rfl rfl dX3_setBirthday_18 ?_
      refine lv_iload_n hx hb dX3_setBirthday_21 rfl (lv_at hl 2 rfl) ?_
      refine lv_aload_n hx hb dX3_setBirthday_22 rfl (lv_at hl 1 rfl) ?_
      refine z_get hx hb hts (fun w h => List.mem_cons_of_mem _ (ziX3 w h)) hown hK hP (zV_0 (by decide)) rfl rfl 4 (by decide) (List.mem_cons_of_mem _ m_450) rfl rfl dX3_setBirthday_23 ?_
      refine z_get hx hb hts (fun w h => List.mem_cons_of_mem _ (ziX2 w h)) hown hK hP (zV_r (by decide) (by decide) (by decide)) rfl rfl 16 (by decide) (List.mem_cons_of_mem _ m_103) rfl rfl dX3_setBirthday_26 ?_
      refine lv_iload_n hx hb dX3_setBirthday_29 rfl (lv_at hl 2 rfl) ?_
      obtain ⟨v13, T12, h14, hf⟩ := zb_i hf
      refine z_ok (z_runS (As := [.ref (G 8 0), .int p0]) (rest := [.int p0, .ref (G 1 0)]) F k_X3_cell m_692 (c_X3_cell 8 0 (zIA_r (by decide) (by decide) (by decide)) p0 T9 T12 _ h14) hP hS rfl rfl hl.1 (Nat.le_of_ble_eq_true rfl) dX3_setBirthday_30 (Nat.le_of_ble_eq_true rfl) ⟨Nat.le_of_ble_eq_true rfl, Nat.le_of_ble_eq_true rfl⟩ rfl) hS (fun H locs hP hS => ?_)
      refine lv_iload hx hb dX3_setBirthday_33 (lv_at hl 0 rfl) ?_
      obtain ⟨v16, T15, h17, hf⟩ := zb_i hf
      refine z_ok (z_runV (As := [.int p0, .int v13, .int v10]) (rest := []) F k_X2_reasonAgainst m_693 (c_X2_reasonAgainst 0 (by decide) p0 v13 v10 T12 T15 _ h17) hP hS (zV_r (by decide) (by decide) (by decide)) rfl rfl rfl rfl hl.1 (Nat.le_of_ble_eq_true rfl) dX3_setBirthday_35 (Nat.le_of_ble_eq_true rfl) ⟨Nat.le_of_ble_eq_true rfl, Nat.le_of_ble_eq_true rfl⟩ rfl) hS (fun H locs hP hS => ?_)
      refine lv_if_eq (tgt := 52) hx hb dX3_setBirthday_38 (by decide) (fun hc => ?_) (fun hc => ?_)
      · have hf := zif_p hf hc
        refine lv_aload_n hx hb dX3_setBirthday_52 rfl (lv_at hl 1 rfl) ?_
        refine z_get hx hb hts (fun w h => List.mem_cons_of_mem _ (ziX3 w h)) hown hK hP (zV_0 (by decide)) rfl rfl 7 (by decide) (List.mem_cons_of_mem _ m_453) rfl rfl dX3_setBirthday_53 ?_
        refine lv_aload_n hx hb dX3_setBirthday_56 rfl (lv_at hl 1 rfl) ?_
        refine z_get hx hb hts (fun w h => List.mem_cons_of_mem _ (ziX3 w h)) hown hK hP (zV_0 (by decide)) rfl rfl 4 (by decide) (List.mem_cons_of_mem _ m_450) rfl rfl dX3_setBirthday_57 ?_
        obtain ⟨v19, T18, h20, hf⟩ := zb_i hf
        refine z_ok (z_runV (As := [.ref (G 1 0)]) (rest := []) F k_X0_record m_576 (c_X0_record 0 (by decide) T15 T18 _ h20) hP hS (zV_0 (by decide)) rfl rfl rfl rfl hl.1 (Nat.le_of_ble_eq_true rfl) dX3_setBirthday_60 (Nat.le_of_ble_eq_true rfl) ⟨Nat.le_of_ble_eq_true rfl, Nat.le_of_ble_eq_true rfl⟩ rfl) hS (fun H locs hP hS => ?_)
        refine lv_aload_n hx hb dX3_setBirthday_63 rfl (lv_at hl 1 rfl) ?_
        refine z_get hx hb hts (fun w h => List.mem_cons_of_mem _ (ziX3 w h)) hown hK hP (zV_0 (by decide)) rfl rfl 4 (by decide) (List.mem_cons_of_mem _ m_450) rfl rfl dX3_setBirthday_64 ?_
        refine z_get hx hb hts (fun w h => List.mem_cons_of_mem _ (ziX2 w h)) hown hK hP (zV_r (by decide) (by decide) (by decide)) rfl rfl 17 (by decide) (List.mem_cons_of_mem _ m_106) rfl rfl dX3_setBirthday_67 ?_
        refine lv_iload_n hx hb dX3_setBirthday_70 rfl (lv_at hl 2 rfl) ?_
        refine lv_iload hx hb dX3_setBirthday_71 (lv_at hl 0 rfl) ?_
        obtain ⟨v22, T21, h23, hf⟩ := zb_i hf
        refine z_ok (z_runS (As := [.ref (G 9 0), .int p0, .int v10]) (rest := []) F k_X3_setCell m_695 (c_X3_setCell 9 0 (zIA_r (by decide) (by decide) (by decide)) p0 v10 T18 T21 _ h23) hP hS rfl rfl hl.1 (Nat.le_of_ble_eq_true rfl) dX3_setBirthday_73 (Nat.le_of_ble_eq_true rfl) ⟨Nat.le_of_ble_eq_true rfl, Nat.le_of_ble_eq_true rfl⟩ rfl) hS (fun H locs hP hS => ?_)
        refine lv_aload_n hx hb dX3_setBirthday_76 rfl (lv_at hl 1 rfl) ?_
        refine z_get hx hb hts (fun w h => List.mem_cons_of_mem _ (ziX3 w h)) hown hK hP (zV_0 (by decide)) rfl rfl 4 (by decide) (List.mem_cons_of_mem _ m_450) rfl rfl dX3_setBirthday_77 ?_
        refine lv_iload hx hb dX3_setBirthday_80 (lv_at hl 0 rfl) ?_
        obtain ⟨v25, T24, h26, hf⟩ := zb_i hf
        refine z_ok (z_runV (As := [.int v10]) (rest := []) F k_X2_daysUntil m_696 (c_X2_daysUntil 0 (by decide) v10 T21 T24 _ h26) hP hS (zV_r (by decide) (by decide) (by decide)) rfl rfl rfl rfl hl.1 (Nat.le_of_ble_eq_true rfl) dX3_setBirthday_82 (Nat.le_of_ble_eq_true rfl) ⟨Nat.le_of_ble_eq_true rfl, Nat.le_of_ble_eq_true rfl⟩ rfl) hS (fun H locs hP hS => ?_)
        obtain ⟨q1, q2⟩ := zs_i hf
        subst q1; subst q2
        exact z_iret hx hb hr rfl hP hS hlocks (Nat.le_of_ble_eq_true rfl) (Nat.le_of_ble_eq_true rfl) dX3_setBirthday_85
      · have hf := zif_n hf hc
        cases hf
        exact z_throwW_0 F 23 rfl hP hS hl.1 hlocks hex (Nat.le_of_ble_eq_true rfl) (Nat.le_of_ble_eq_true rfl) (Nat.le_of_ble_eq_true rfl) (Nat.le_of_ble_eq_true rfl) dX3_setBirthday_41 dX3_setBirthday_44 dX3_setBirthday_45 dX3_setBirthday_48 dX3_setBirthday_51 rfl
    · cases hf
      exact z_ex (z_runS (As := [.int p1, .int p2]) (rest := []) F k_X3_needDate m_687 (c_X3_needDate p1 p2 T1 T' _ h7) hP hS rfl rfl hl.1 (Nat.le_of_ble_eq_true rfl) dX3_setBirthday_7 (Nat.le_of_ble_eq_true rfl) ⟨Nat.le_of_ble_eq_true rfl, Nat.le_of_ble_eq_true rfl⟩ rfl) hS hex hlocks rfl (Nat.le_of_ble_eq_true rfl) (Nat.le_of_ble_eq_true rfl)
  · cases hf
    exact z_ex (z_runV (As := [.int p0]) (rest := []) F k_X3_needChild m_672 (c_X3_needChild p0 T T' _ h3) hP hS (zV_0 (by decide)) rfl rfl rfl rfl hl.1 (Nat.le_of_ble_eq_true rfl) dX3_setBirthday_2 (Nat.le_of_ble_eq_true rfl) ⟨Nat.le_of_ble_eq_true rfl, Nat.le_of_ble_eq_true rfl⟩ rfl) hS hex hlocks rfl (Nat.le_of_ble_eq_true rfl) (Nat.le_of_ble_eq_true rfl)

def f_X3_forgetBirthday (p0 : Int32) (T : zT) : Option ((Int32 ⊕ Nat) × zT) := zx (f_X3_needChild p0 T) fun v2 T1 => zb (f_X3_cell 9 0 p0 T1) fun v6 T5 => zb (f_X0_record 0 T5) fun _v9 T8 => zb (f_X3_setCell 9 0 p0 (-1) T8) fun _v12 T11 => some (.inl v6, T11)
set_option maxHeartbeats 4000000 in
set_option maxRecDepth 100000 in
theorem c_X3_forgetBirthday (p0 : Int32) (T T' : zT) (v : (Int32 ⊕ Nat)) (hf : f_X3_forgetBirthday p0 T = some (v, T')) : zC 0 yX3_forgetBirthday cX3_forgetBirthday 3 (some .int) 7  1 6  (fun G _ => [.ref (G 0 0), .int p0]) T (fun _ => zri v) T' := by
  intro l D Y S V G A hl9 hG
  refine vx_ofW (cc := cX3_forgetBirthday) (maxL := 3) (ret := (some .int)) (by decide) rfl ?_
  intro p e s m args below meth c s₁ B hml hex hv
  obtain ⟨rfl, hK, hP, hA⟩ := hv
  have hx := B.exec
  have hb := B.bytes
  have hr := B.returns
  have hlocks := B.notSynchronized
  have hown : s.vm.findClass RX3 = some m.cls := findClass_of_methodNamed B.named
  have hts := atoms_spec (ws := Cond.code yX3_forgetBirthday cX3_forgetBirthday 3 (some .int) :: zWS) B.pre
  have F : zF 0 7  1 6  p l s m _ c cX3_forgetBirthday 3 RX3 (Cond.code yX3_forgetBirthday cX3_forgetBirthday 3 (some .int)) D Y S V G A := ⟨hx, hb, hml, hown, hts, hl9, hG, hK, hA⟩
  have hS : va_S A s.heap s.heap [] := va_S.rf
  have hl := lv_entry ([.ref (G 0 0), .int p0]) (n := 3) (Nat.le_of_ble_eq_true rfl)
  rw [lg_entry_eq]
  generalize (lg_sl ([.ref (G 0 0), .int p0]) ++ List.replicate (3 - (lg_sl ([.ref (G 0 0), .int p0])).length) Slot.unset).toArray = ls at hl ⊢
  have hl : lv_has ls 3 [(0, .ref (G 0 0)), (1, .int p0)] := hl
  unfold f_X3_forgetBirthday at hf
  refine lv_aload_n hx hb dX3_forgetBirthday_0 rfl (lv_at hl 0 rfl) ?_
  refine lv_iload_n hx hb dX3_forgetBirthday_1 rfl (lv_at hl 1 rfl) ?_
  rcases zx_i hf with ⟨v2, T1, h3, hf⟩ | ⟨y4, T1, h3, hf⟩
  · refine z_ok (z_runV (As := [.int p0]) (rest := []) F k_X3_needChild m_672 (c_X3_needChild p0 T T1 _ h3) hP hS (zV_0 (by decide)) rfl rfl rfl rfl hl.1 (Nat.le_of_ble_eq_true rfl) dX3_forgetBirthday_2 (Nat.le_of_ble_eq_true rfl) ⟨Nat.le_of_ble_eq_true rfl, Nat.le_of_ble_eq_true rfl⟩ rfl) hS (fun H locs hP hS => ?_)
    refine lv_aload_n hx hb dX3_forgetBirthday_5 rfl (lv_at hl 0 rfl) ?_
    refine z_get hx hb hts (fun w h => List.mem_cons_of_mem _ (ziX3 w h)) hown hK hP (zV_0 (by decide)) rfl rfl 4 (by decide) (List.mem_cons_of_mem _ m_450) rfl rfl dX3_forgetBirthday_6 ?_
    refine z_get hx hb hts (fun w h => List.mem_cons_of_mem _ (ziX2 w h)) hown hK hP (zV_r (by decide) (by decide) (by decide)) rfl rfl 17 (by decide) (List.mem_cons_of_mem _ m_106) rfl rfl dX3_forgetBirthday_9 ?_
    refine lv_iload_n hx hb dX3_forgetBirthday_12 rfl (lv_at hl 1 rfl) ?_
    obtain ⟨v6, T5, h7, hf⟩ := zb_i hf
    refine z_ok (z_runS (As := [.ref (G 9 0), .int p0]) (rest := []) F k_X3_cell m_692 (c_X3_cell 9 0 (zIA_r (by decide) (by decide) (by decide)) p0 T1 T5 _ h7) hP hS rfl rfl hl.1 (Nat.le_of_ble_eq_true rfl) dX3_forgetBirthday_13 (Nat.le_of_ble_eq_true rfl) ⟨Nat.le_of_ble_eq_true rfl, Nat.le_of_ble_eq_true rfl⟩ rfl) hS (fun H locs hP hS => ?_)
    refine lv_istore_n (lv' := [(2, .int v6), (0, .ref (G 0 0)), (1, .int p0)]) hx hb dX3_forgetBirthday_16 rfl hl (by decide) rfl (fun ls hl => ?_)
    refine lv_aload_n hx hb dX3_forgetBirthday_17 rfl (lv_at hl 1 rfl) ?_
    refine z_get hx hb hts (fun w h => List.mem_cons_of_mem _ (ziX3 w h)) hown hK hP (zV_0 (by decide)) rfl rfl 7 (by decide) (List.mem_cons_of_mem _ m_453) rfl rfl dX3_forgetBirthday_18 ?_
    refine lv_aload_n hx hb dX3_forgetBirthday_21 rfl (lv_at hl 1 rfl) ?_
    refine z_get hx hb hts (fun w h => List.mem_cons_of_mem _ (ziX3 w h)) hown hK hP (zV_0 (by decide)) rfl rfl 4 (by decide) (List.mem_cons_of_mem _ m_450) rfl rfl dX3_forgetBirthday_22 ?_
    obtain ⟨v9, T8, h10, hf⟩ := zb_i hf
    refine z_ok (z_runV (As := [.ref (G 1 0)]) (rest := []) F k_X0_record m_576 (c_X0_record 0 (by decide) T5 T8 _ h10) hP hS (zV_0 (by decide)) rfl rfl rfl rfl hl.1 (Nat.le_of_ble_eq_true rfl) dX3_forgetBirthday_25 (Nat.le_of_ble_eq_true rfl) ⟨Nat.le_of_ble_eq_true rfl, Nat.le_of_ble_eq_true rfl⟩ rfl) hS (fun H locs hP hS => ?_)
    refine lv_aload_n hx hb dX3_forgetBirthday_28 rfl (lv_at hl 1 rfl) ?_
    refine z_get hx hb hts (fun w h => List.mem_cons_of_mem _ (ziX3 w h)) hown hK hP (zV_0 (by decide)) rfl rfl 4 (by decide) (List.mem_cons_of_mem _ m_450) rfl rfl dX3_forgetBirthday_29 ?_
    refine z_get hx hb hts (fun w h => List.mem_cons_of_mem _ (ziX2 w h)) hown hK hP (zV_r (by decide) (by decide) (by decide)) rfl rfl 17 (by decide) (List.mem_cons_of_mem _ m_106) rfl rfl dX3_forgetBirthday_32 ?_
    refine lv_iload_n hx hb dX3_forgetBirthday_35 rfl (lv_at hl 2 rfl) ?_
    refine lv_iconst (v := (-1)) hx hb dX3_forgetBirthday_36 (by decide) ?_
    obtain ⟨v12, T11, h13, hf⟩ := zb_i hf
    refine z_ok (z_runS (As := [.ref (G 9 0), .int p0, .int (-1)]) (rest := []) F k_X3_setCell m_695 (c_X3_setCell 9 0 (zIA_r (by decide) (by decide) (by decide)) p0 (-1) T8 T11 _ h13) hP hS rfl rfl hl.1 (Nat.le_of_ble_eq_true rfl) dX3_forgetBirthday_37 (Nat.le_of_ble_eq_true rfl) ⟨Nat.le_of_ble_eq_true rfl, Nat.le_of_ble_eq_true rfl⟩ rfl) hS (fun H locs hP hS => ?_)
    refine lv_iload_n hx hb dX3_forgetBirthday_40 rfl (lv_at hl 0 rfl) ?_
    obtain ⟨q1, q2⟩ := zs_i hf
    subst q1; subst q2
    exact z_iret hx hb hr rfl hP hS hlocks (Nat.le_of_ble_eq_true rfl) (Nat.le_of_ble_eq_true rfl) dX3_forgetBirthday_41
  · cases hf
    exact z_ex (z_runV (As := [.int p0]) (rest := []) F k_X3_needChild m_672 (c_X3_needChild p0 T T' _ h3) hP hS (zV_0 (by decide)) rfl rfl rfl rfl hl.1 (Nat.le_of_ble_eq_true rfl) dX3_forgetBirthday_2 (Nat.le_of_ble_eq_true rfl) ⟨Nat.le_of_ble_eq_true rfl, Nat.le_of_ble_eq_true rfl⟩ rfl) hS hex hlocks rfl (Nat.le_of_ble_eq_true rfl) (Nat.le_of_ble_eq_true rfl)

def jn_X3_moveTo_51 (w1 : Int32) (w2 : Int32) (T : zT) : Option ((Int32 ⊕ Nat) × zT) := zb (f_X3_cell 8 0 w1 T) fun v13 T12 => zb (f_X0_record 0 T12) fun _v16 T15 => zb (f_X3_setCell 8 0 w1 w2 T15) fun _v19 T18 => some (.inl v13, T18)
def f_X3_moveTo (p0 : Int32) (p1 : Int32) (T : zT) : Option ((Int32 ⊕ Nat) × zT) := zx (f_X3_needChild p0 T) fun v2 T1 => zx (f_X3_needGarden p1 T1) fun v6 T5 => zb (f_X3_cell 9 0 p0 T5) fun v10 T9 => (if v10 = (-1) then jn_X3_moveTo_51 p0 p1 T9 else zb (f_X2_reasonAgainst 0 p0 p1 v10 T9) fun v22 T21 => (if v22 = 0 then jn_X3_moveTo_51 p0 p1 T21 else some (.inr 0, T21)))
set_option maxHeartbeats 4000000 in
set_option maxRecDepth 100000 in
theorem j_X3_moveTo_51 {p : Program} {l : Launch} {e : Env} {s : State} {m : MethodId} {args : Array Value} {below : List Frame} {meth : Method} {c : Code} {D : va_G} {Y : Nat → ClassId} {S V : Nat → Nat} {G : Nat → Nat → Nat} {A : Nat → Prop} {c0 : Cond} (F : zF 0 7  3 18  p l s m args c cX3_moveTo 5 RX3 c0 D Y S V G A) (hr : meth.sig.returnType = (some .int)) (hlocks : meth.locks = false) (hex : ∀ x ∈ c.exceptionTable.toList, False) (w1 : Int32) (w2 : Int32) (T : zT) {T' : zT} {v : (Int32 ⊕ Nat)} {H : Heap} {locs : List Loc} {ls : Array Slot} (hf : jn_X3_moveTo_51 w1 w2 T = some (v, T')) (hP : zP 0 D Y G T H) (hS : va_S A s.heap H locs) (hl : lv_has ls 5 [(0, .ref (G 0 0)), (1, .int w1), (2, .int w2)]) :
    W p l e (zR 7  3 18 ) s m args below meth c H locs 2 12 (vx_MQ below (zQ 0 D Y G A (zri v) T') (zX 0 D Y G A (zri v) T') args s  3 18  A) (F0 m 51 ls []) := by
  obtain ⟨hx, hb, hml, hown, hts, hl9, hG, hK, hA⟩ := id F
  unfold jn_X3_moveTo_51 at hf
  refine lv_aload_n hx hb dX3_moveTo_51 rfl (lv_at hl 0 rfl) ?_
  refine z_get hx hb hts (fun w h => List.mem_cons_of_mem _ (ziX3 w h)) hown hK hP (zV_0 (by decide)) rfl rfl 4 (by decide) (List.mem_cons_of_mem _ m_450) rfl rfl dX3_moveTo_52 ?_
  refine z_get hx hb hts (fun w h => List.mem_cons_of_mem _ (ziX2 w h)) hown hK hP (zV_r (by decide) (by decide) (by decide)) rfl rfl 16 (by decide) (List.mem_cons_of_mem _ m_103) rfl rfl dX3_moveTo_55 ?_
  refine lv_iload_n hx hb dX3_moveTo_58 rfl (lv_at hl 1 rfl) ?_
  obtain ⟨v13, T12, h14, hf⟩ := zb_i hf
  refine z_ok (z_runS (As := [.ref (G 8 0), .int w1]) (rest := []) F k_X3_cell m_692 (c_X3_cell 8 0 (zIA_r (by decide) (by decide) (by decide)) w1 T T12 _ h14) hP hS rfl rfl hl.1 (Nat.le_of_ble_eq_true rfl) dX3_moveTo_59 (Nat.le_of_ble_eq_true rfl) ⟨Nat.le_of_ble_eq_true rfl, Nat.le_of_ble_eq_true rfl⟩ rfl) hS (fun H locs hP hS => ?_)
  refine lv_istore (lv' := [(4, .int v13), (0, .ref (G 0 0)), (1, .int w1), (2, .int w2)]) hx hb dX3_moveTo_62 hl (by decide) rfl (fun ls hl => ?_)
  refine lv_aload_n hx hb dX3_moveTo_64 rfl (lv_at hl 1 rfl) ?_
  refine z_get hx hb hts (fun w h => List.mem_cons_of_mem _ (ziX3 w h)) hown hK hP (zV_0 (by decide)) rfl rfl 7 (by decide) (List.mem_cons_of_mem _ m_453) rfl rfl dX3_moveTo_65 ?_
  refine lv_aload_n hx hb dX3_moveTo_68 rfl (lv_at hl 1 rfl) ?_
  refine z_get hx hb hts (fun w h => List.mem_cons_of_mem _ (ziX3 w h)) hown hK hP (zV_0 (by decide)) rfl rfl 4 (by decide) (List.mem_cons_of_mem _ m_450) rfl rfl dX3_moveTo_69 ?_
  obtain ⟨v16, T15, h17, hf⟩ := zb_i hf
  refine z_ok (z_runV (As := [.ref (G 1 0)]) (rest := []) F k_X0_record m_576 (c_X0_record 0 (by decide) T12 T15 _ h17) hP hS (zV_0 (by decide)) rfl rfl rfl rfl hl.1 (Nat.le_of_ble_eq_true rfl) dX3_moveTo_72 (Nat.le_of_ble_eq_true rfl) ⟨Nat.le_of_ble_eq_true rfl, Nat.le_of_ble_eq_true rfl⟩ rfl) hS (fun H locs hP hS => ?_)
  refine lv_aload_n hx hb dX3_moveTo_75 rfl (lv_at hl 1 rfl) ?_
  refine z_get hx hb hts (fun w h => List.mem_cons_of_mem _ (ziX3 w h)) hown hK hP (zV_0 (by decide)) rfl rfl 4 (by decide) (List.mem_cons_of_mem _ m_450) rfl rfl dX3_moveTo_76 ?_
  refine z_get hx hb hts (fun w h => List.mem_cons_of_mem _ (ziX2 w h)) hown hK hP (zV_r (by decide) (by decide) (by decide)) rfl rfl 16 (by decide) (List.mem_cons_of_mem _ m_103) rfl rfl dX3_moveTo_79 ?_
  refine lv_iload_n hx hb dX3_moveTo_82 rfl (lv_at hl 2 rfl) ?_
  refine lv_iload_n hx hb dX3_moveTo_83 rfl (lv_at hl 3 rfl) ?_
  obtain ⟨v19, T18, h20, hf⟩ := zb_i hf
  refine z_ok (z_runS (As := [.ref (G 8 0), .int w1, .int w2]) (rest := []) F k_X3_setCell m_695 (c_X3_setCell 8 0 (zIA_r (by decide) (by decide) (by decide)) w1 w2 T15 T18 _ h20) hP hS rfl rfl hl.1 (Nat.le_of_ble_eq_true rfl) dX3_moveTo_84 (Nat.le_of_ble_eq_true rfl) ⟨Nat.le_of_ble_eq_true rfl, Nat.le_of_ble_eq_true rfl⟩ rfl) hS (fun H locs hP hS => ?_)
  refine lv_iload hx hb dX3_moveTo_87 (lv_at hl 0 rfl) ?_
  obtain ⟨q1, q2⟩ := zs_i hf
  subst q1; subst q2
  exact z_iret hx hb hr rfl hP hS hlocks (Nat.le_of_ble_eq_true rfl) (Nat.le_of_ble_eq_true rfl) dX3_moveTo_89
set_option maxHeartbeats 4000000 in
set_option maxRecDepth 100000 in
theorem c_X3_moveTo (p0 : Int32) (p1 : Int32) (T T' : zT) (v : (Int32 ⊕ Nat)) (hf : f_X3_moveTo p0 p1 T = some (v, T')) : zC 0 yX3_moveTo cX3_moveTo 5 (some .int) 7  3 18  (fun G _ => [.ref (G 0 0), .int p0, .int p1]) T (fun _ => zri v) T' := by
  intro l D Y S V G A hl9 hG
  refine vx_ofW (cc := cX3_moveTo) (maxL := 5) (ret := (some .int)) (by decide) rfl ?_
  intro p e s m args below meth c s₁ B hml hex hv
  obtain ⟨rfl, hK, hP, hA⟩ := hv
  have hx := B.exec
  have hb := B.bytes
  have hr := B.returns
  have hlocks := B.notSynchronized
  have hown : s.vm.findClass RX3 = some m.cls := findClass_of_methodNamed B.named
  have hts := atoms_spec (ws := Cond.code yX3_moveTo cX3_moveTo 5 (some .int) :: zWS) B.pre
  have F : zF 0 7  3 18  p l s m _ c cX3_moveTo 5 RX3 (Cond.code yX3_moveTo cX3_moveTo 5 (some .int)) D Y S V G A := ⟨hx, hb, hml, hown, hts, hl9, hG, hK, hA⟩
  have hS : va_S A s.heap s.heap [] := va_S.rf
  have hl := lv_entry ([.ref (G 0 0), .int p0, .int p1]) (n := 5) (Nat.le_of_ble_eq_true rfl)
  rw [lg_entry_eq]
  generalize (lg_sl ([.ref (G 0 0), .int p0, .int p1]) ++ List.replicate (5 - (lg_sl ([.ref (G 0 0), .int p0, .int p1])).length) Slot.unset).toArray = ls at hl ⊢
  have hl : lv_has ls 5 [(0, .ref (G 0 0)), (1, .int p0), (2, .int p1)] := hl
  unfold f_X3_moveTo at hf
  refine lv_aload_n hx hb dX3_moveTo_0 rfl (lv_at hl 0 rfl) ?_
  refine lv_iload_n hx hb dX3_moveTo_1 rfl (lv_at hl 1 rfl) ?_
  rcases zx_i hf with ⟨v2, T1, h3, hf⟩ | ⟨y4, T1, h3, hf⟩
  · refine z_ok (z_runV (As := [.int p0]) (rest := []) F k_X3_needChild m_672 (c_X3_needChild p0 T T1 _ h3) hP hS (zV_0 (by decide)) rfl rfl rfl rfl hl.1 (Nat.le_of_ble_eq_true rfl) dX3_moveTo_2 (Nat.le_of_ble_eq_true rfl) ⟨Nat.le_of_ble_eq_true rfl, Nat.le_of_ble_eq_true rfl⟩ rfl) hS (fun H locs hP hS => ?_)
    refine lv_aload_n hx hb dX3_moveTo_5 rfl (lv_at hl 0 rfl) ?_
    refine lv_iload_n hx hb dX3_moveTo_6 rfl (lv_at hl 2 rfl) ?_
    rcases zx_i hf with ⟨v6, T5, h7, hf⟩ | ⟨y8, T5, h7, hf⟩
    · refine z_ok (z_runV (As := [.int p1]) (rest := []) F k_X3_needGarden m_714 (c_X3_needGarden p1 T1 T5 _ h7) hP hS (zV_0 (by decide)) rfl rfl rfl rfl hl.1 (Nat.le_of_ble_eq_true rfl) dX3_moveTo_7 (Nat.le_of_ble_eq_true rfl) ⟨Nat.le_of_ble_eq_true rfl, Nat.le_of_ble_eq_true rfl⟩ rfl) hS (fun H locs hP hS => ?_)
      refine lv_aload_n hx hb dX3_moveTo_10 rfl (lv_at hl 0 rfl) ?_
      refine z_get hx hb hts (fun w h => List.mem_cons_of_mem _ (ziX3 w h)) hown hK hP (zV_0 (by decide)) rfl rfl 4 (by decide) (List.mem_cons_of_mem _ m_450) rfl rfl dX3_moveTo_11 ?_
      refine z_get hx hb hts (fun w h => List.mem_cons_of_mem _ (ziX2 w h)) hown hK hP (zV_r (by decide) (by decide) (by decide)) rfl rfl 17 (by decide) (List.mem_cons_of_mem _ m_106) rfl rfl dX3_moveTo_14 ?_
      refine lv_iload_n hx hb dX3_moveTo_17 rfl (lv_at hl 1 rfl) ?_
      obtain ⟨v10, T9, h11, hf⟩ := zb_i hf
      refine z_ok (z_runS (As := [.ref (G 9 0), .int p0]) (rest := []) F k_X3_cell m_692 (c_X3_cell 9 0 (zIA_r (by decide) (by decide) (by decide)) p0 T5 T9 _ h11) hP hS rfl rfl hl.1 (Nat.le_of_ble_eq_true rfl) dX3_moveTo_18 (Nat.le_of_ble_eq_true rfl) ⟨Nat.le_of_ble_eq_true rfl, Nat.le_of_ble_eq_true rfl⟩ rfl) hS (fun H locs hP hS => ?_)
      refine lv_istore_n (lv' := [(3, .int v10), (0, .ref (G 0 0)), (1, .int p0), (2, .int p1)]) hx hb dX3_moveTo_21 rfl hl (by decide) rfl (fun ls hl => ?_)
      refine lv_iload_n hx hb dX3_moveTo_22 rfl (lv_at hl 0 rfl) ?_
      refine lv_iconst (v := (-1)) hx hb dX3_moveTo_23 (by decide) ?_
      refine lv_icmp_eq (tgt := 51) hx hb dX3_moveTo_24 (by decide) (fun hc => ?_) (fun hc => ?_)
      · have hf := zif_p hf hc
        exact j_X3_moveTo_51 F hr hlocks hex p0 p1 T9 hf hP hS (lv_sub hl [1, 2, 3] rfl)
      · have hf := zif_n hf hc
        refine lv_aload_n hx hb dX3_moveTo_27 rfl (lv_at hl 1 rfl) ?_
        refine z_get hx hb hts (fun w h => List.mem_cons_of_mem _ (ziX3 w h)) hown hK hP (zV_0 (by decide)) rfl rfl 4 (by decide) (List.mem_cons_of_mem _ m_450) rfl rfl dX3_moveTo_28 ?_
        refine lv_iload_n hx hb dX3_moveTo_31 rfl (lv_at hl 2 rfl) ?_
        refine lv_iload_n hx hb dX3_moveTo_32 rfl (lv_at hl 3 rfl) ?_
        refine lv_iload_n hx hb dX3_moveTo_33 rfl (lv_at hl 0 rfl) ?_
        obtain ⟨v22, T21, h23, hf⟩ := zb_i hf
        refine z_ok (z_runV (As := [.int p0, .int p1, .int v10]) (rest := []) F k_X2_reasonAgainst m_693 (c_X2_reasonAgainst 0 (by decide) p0 p1 v10 T9 T21 _ h23) hP hS (zV_r (by decide) (by decide) (by decide)) rfl rfl rfl rfl hl.1 (Nat.le_of_ble_eq_true rfl) dX3_moveTo_34 (Nat.le_of_ble_eq_true rfl) ⟨Nat.le_of_ble_eq_true rfl, Nat.le_of_ble_eq_true rfl⟩ rfl) hS (fun H locs hP hS => ?_)
        refine lv_if_eq (tgt := 51) hx hb dX3_moveTo_37 (by decide) (fun hc => ?_) (fun hc => ?_)
        · have hf := zif_p hf hc
          exact j_X3_moveTo_51 F hr hlocks hex p0 p1 T21 hf hP hS (lv_sub hl [1, 2, 3] rfl)
        · have hf := zif_n hf hc
          cases hf
          exact z_throwW_0 F 25 rfl hP hS hl.1 hlocks hex (Nat.le_of_ble_eq_true rfl) (Nat.le_of_ble_eq_true rfl) (Nat.le_of_ble_eq_true rfl) (Nat.le_of_ble_eq_true rfl) dX3_moveTo_40 dX3_moveTo_43 dX3_moveTo_44 dX3_moveTo_47 dX3_moveTo_50 rfl
    · cases hf
      exact z_ex (z_runV (As := [.int p1]) (rest := []) F k_X3_needGarden m_714 (c_X3_needGarden p1 T1 T' _ h7) hP hS (zV_0 (by decide)) rfl rfl rfl rfl hl.1 (Nat.le_of_ble_eq_true rfl) dX3_moveTo_7 (Nat.le_of_ble_eq_true rfl) ⟨Nat.le_of_ble_eq_true rfl, Nat.le_of_ble_eq_true rfl⟩ rfl) hS hex hlocks rfl (Nat.le_of_ble_eq_true rfl) (Nat.le_of_ble_eq_true rfl)
  · cases hf
    exact z_ex (z_runV (As := [.int p0]) (rest := []) F k_X3_needChild m_672 (c_X3_needChild p0 T T' _ h3) hP hS (zV_0 (by decide)) rfl rfl rfl rfl hl.1 (Nat.le_of_ble_eq_true rfl) dX3_moveTo_2 (Nat.le_of_ble_eq_true rfl) ⟨Nat.le_of_ble_eq_true rfl, Nat.le_of_ble_eq_true rfl⟩ rfl) hS hex hlocks rfl (Nat.le_of_ble_eq_true rfl) (Nat.le_of_ble_eq_true rfl)

def f_X3_buyCandles (p0 : Int32) (T : zT) : Option ((Int32 ⊕ Nat) × zT) := (if p0 < 1 then some (.inr 1, T) else (if p0 ≤ 999 then (if ((T.1 1 0 3) + p0) ≤ 9999 then zb (f_X0_record 0 T) fun _v2 T1 => zl ((T1.1 1 0 3) + p0) fun x4 => zl (wI T1 1 0 3 x4) fun T5 => zl ((T5.1 1 0 5) + p0) fun x6 => zl (wI T5 1 0 5 x6) fun T7 => some (.inl (T7.1 1 0 3), T7) else some (.inr 0, T)) else some (.inr 1, T)))
set_option maxHeartbeats 4000000 in
set_option maxRecDepth 100000 in
theorem c_X3_buyCandles (p0 : Int32) (T T' : zT) (v : (Int32 ⊕ Nat)) (hf : f_X3_buyCandles p0 T = some (v, T')) : zC 0 yX3_buyCandles cX3_buyCandles 2 (some .int) 6  1 6  (fun G _ => [.ref (G 0 0), .int p0]) T (fun _ => zri v) T' := by
  intro l D Y S V G A hl9 hG
  refine vx_ofW (cc := cX3_buyCandles) (maxL := 2) (ret := (some .int)) (by decide) rfl ?_
  intro p e s m args below meth c s₁ B hml hex hv
  obtain ⟨rfl, hK, hP, hA⟩ := hv
  have hx := B.exec
  have hb := B.bytes
  have hr := B.returns
  have hlocks := B.notSynchronized
  have hown : s.vm.findClass RX3 = some m.cls := findClass_of_methodNamed B.named
  have hts := atoms_spec (ws := Cond.code yX3_buyCandles cX3_buyCandles 2 (some .int) :: zWS) B.pre
  have F : zF 0 6  1 6  p l s m _ c cX3_buyCandles 2 RX3 (Cond.code yX3_buyCandles cX3_buyCandles 2 (some .int)) D Y S V G A := ⟨hx, hb, hml, hown, hts, hl9, hG, hK, hA⟩
  have hS : va_S A s.heap s.heap [] := va_S.rf
  have hl := lv_entry ([.ref (G 0 0), .int p0]) (n := 2) (Nat.le_of_ble_eq_true rfl)
  rw [lg_entry_eq]
  generalize (lg_sl ([.ref (G 0 0), .int p0]) ++ List.replicate (2 - (lg_sl ([.ref (G 0 0), .int p0])).length) Slot.unset).toArray = ls at hl ⊢
  have hl : lv_has ls 2 [(0, .ref (G 0 0)), (1, .int p0)] := hl
  unfold f_X3_buyCandles at hf
  refine lv_iload_n hx hb dX3_buyCandles_0 rfl (lv_at hl 1 rfl) ?_
  refine lv_iconst (v := 1) hx hb dX3_buyCandles_1 (by decide) ?_
  refine lv_icmp_lt (tgt := 12) hx hb dX3_buyCandles_2 (by decide) (fun hc => ?_) (fun hc => ?_)
  · have hf := zif_p hf hc
    cases hf
    exact z_throwW_1 F 26 rfl hP hS hl.1 hlocks hex (Nat.le_of_ble_eq_true rfl) (Nat.le_of_ble_eq_true rfl) (Nat.le_of_ble_eq_true rfl) (Nat.le_of_ble_eq_true rfl) dX3_buyCandles_12 dX3_buyCandles_15 dX3_buyCandles_16 dX3_buyCandles_19 dX3_buyCandles_22 rfl
  · have hf := zif_n hf hc
    refine lv_iload_n hx hb dX3_buyCandles_5 rfl (lv_at hl 1 rfl) ?_
    refine lv_sipush (v := 999) hx hb dX3_buyCandles_6 (by decide) ?_
    refine lv_icmp_le (tgt := 23) hx hb dX3_buyCandles_9 (by decide) (fun hc => ?_) (fun hc => ?_)
    · have hf := zif_p hf hc
      refine lv_aload_n hx hb dX3_buyCandles_23 rfl (lv_at hl 0 rfl) ?_
      refine z_get hx hb hts (fun w h => List.mem_cons_of_mem _ (ziX3 w h)) hown hK hP (zV_0 (by decide)) rfl rfl 4 (by decide) (List.mem_cons_of_mem _ m_450) rfl rfl dX3_buyCandles_24 ?_
      refine z_get hx hb hts (fun w h => List.mem_cons_of_mem _ (ziX2 w h)) hown hK hP (zV_r (by decide) (by decide) (by decide)) rfl rfl 3 (by decide) (List.mem_cons_of_mem _ m_74) rfl rfl dX3_buyCandles_27 ?_
      refine lv_iload_n hx hb dX3_buyCandles_30 rfl (lv_at hl 1 rfl) ?_
      refine lv_iadd hx hb dX3_buyCandles_31 ?_
      refine lv_sipush (v := 9999) hx hb dX3_buyCandles_32 (by decide) ?_
      refine lv_icmp_le (tgt := 49) hx hb dX3_buyCandles_35 (by decide) (fun hc => ?_) (fun hc => ?_)
      · have hf := zif_p hf hc
        refine lv_aload_n hx hb dX3_buyCandles_49 rfl (lv_at hl 0 rfl) ?_
        refine z_get hx hb hts (fun w h => List.mem_cons_of_mem _ (ziX3 w h)) hown hK hP (zV_0 (by decide)) rfl rfl 7 (by decide) (List.mem_cons_of_mem _ m_453) rfl rfl dX3_buyCandles_50 ?_
        refine lv_aload_n hx hb dX3_buyCandles_53 rfl (lv_at hl 0 rfl) ?_
        refine z_get hx hb hts (fun w h => List.mem_cons_of_mem _ (ziX3 w h)) hown hK hP (zV_0 (by decide)) rfl rfl 4 (by decide) (List.mem_cons_of_mem _ m_450) rfl rfl dX3_buyCandles_54 ?_
        obtain ⟨v2, T1, h3, hf⟩ := zb_i hf
        refine z_ok (z_runV (As := [.ref (G 1 0)]) (rest := []) F k_X0_record m_576 (c_X0_record 0 (by decide) T T1 _ h3) hP hS (zV_0 (by decide)) rfl rfl rfl rfl hl.1 (Nat.le_of_ble_eq_true rfl) dX3_buyCandles_57 (Nat.le_of_ble_eq_true rfl) ⟨Nat.le_of_ble_eq_true rfl, Nat.le_of_ble_eq_true rfl⟩ rfl) hS (fun H locs hP hS => ?_)
        refine lv_aload_n hx hb dX3_buyCandles_60 rfl (lv_at hl 0 rfl) ?_
        refine z_get hx hb hts (fun w h => List.mem_cons_of_mem _ (ziX3 w h)) hown hK hP (zV_0 (by decide)) rfl rfl 4 (by decide) (List.mem_cons_of_mem _ m_450) rfl rfl dX3_buyCandles_61 ?_
        refine lv_dup hx hb dX3_buyCandles_64 rfl ?_
        refine z_get hx hb hts (fun w h => List.mem_cons_of_mem _ (ziX2 w h)) hown hK hP (zV_r (by decide) (by decide) (by decide)) rfl rfl 3 (by decide) (List.mem_cons_of_mem _ m_74) rfl rfl dX3_buyCandles_65 ?_
        refine lv_iload_n hx hb dX3_buyCandles_68 rfl (lv_at hl 1 rfl) ?_
        refine lv_iadd hx hb dX3_buyCandles_69 ?_
        obtain ⟨x4, ex4, hf⟩ := zl_i hf
        refine z_topi ex4 ?_
        obtain ⟨T5, eT5, hf⟩ := zl_i hf
        refine z_put hx hb hts (fun w h => List.mem_cons_of_mem _ (ziX2 w h)) tyX2 tyX2_ok nmX2 hown hK hP hG hS (zV_r (by decide) (by decide) (by decide)) rfl rfl 3 (by decide) (List.mem_cons_of_mem _ m_74) rfl rfl (by decide +kernel) (Nat.le_of_ble_eq_true rfl) (znew2 (by decide)) dX3_buyCandles_70 (fun H locs hP hS => ?_)
        rw [← eT5] at hP
        refine lv_aload_n hx hb dX3_buyCandles_73 rfl (lv_at hl 0 rfl) ?_
        refine z_get hx hb hts (fun w h => List.mem_cons_of_mem _ (ziX3 w h)) hown hK hP (zV_0 (by decide)) rfl rfl 4 (by decide) (List.mem_cons_of_mem _ m_450) rfl rfl dX3_buyCandles_74 ?_
        refine lv_dup hx hb dX3_buyCandles_77 rfl ?_
        refine z_get hx hb hts (fun w h => List.mem_cons_of_mem _ (ziX2 w h)) hown hK hP (zV_r (by decide) (by decide) (by decide)) rfl rfl 5 (by decide) (List.mem_cons_of_mem _ m_78) rfl rfl dX3_buyCandles_78 ?_
        refine lv_iload_n hx hb dX3_buyCandles_81 rfl (lv_at hl 1 rfl) ?_
        refine lv_iadd hx hb dX3_buyCandles_82 ?_
        obtain ⟨x6, ex6, hf⟩ := zl_i hf
        refine z_topi ex6 ?_
        obtain ⟨T7, eT7, hf⟩ := zl_i hf
        refine z_put hx hb hts (fun w h => List.mem_cons_of_mem _ (ziX2 w h)) tyX2 tyX2_ok nmX2 hown hK hP hG hS (zV_r (by decide) (by decide) (by decide)) rfl rfl 5 (by decide) (List.mem_cons_of_mem _ m_78) rfl rfl (by decide +kernel) (Nat.le_of_ble_eq_true rfl) (znew2 (by decide)) dX3_buyCandles_83 (fun H locs hP hS => ?_)
        rw [← eT7] at hP
        refine lv_aload_n hx hb dX3_buyCandles_86 rfl (lv_at hl 0 rfl) ?_
        refine z_get hx hb hts (fun w h => List.mem_cons_of_mem _ (ziX3 w h)) hown hK hP (zV_0 (by decide)) rfl rfl 4 (by decide) (List.mem_cons_of_mem _ m_450) rfl rfl dX3_buyCandles_87 ?_
        refine z_get hx hb hts (fun w h => List.mem_cons_of_mem _ (ziX2 w h)) hown hK hP (zV_r (by decide) (by decide) (by decide)) rfl rfl 3 (by decide) (List.mem_cons_of_mem _ m_74) rfl rfl dX3_buyCandles_90 ?_
        obtain ⟨q1, q2⟩ := zs_i hf
        subst q1; subst q2
        exact z_iret hx hb hr rfl hP hS hlocks (Nat.le_of_ble_eq_true rfl) (Nat.le_of_ble_eq_true rfl) dX3_buyCandles_93
      · have hf := zif_n hf hc
        cases hf
        exact z_throwW_0 F 27 rfl hP hS hl.1 hlocks hex (Nat.le_of_ble_eq_true rfl) (Nat.le_of_ble_eq_true rfl) (Nat.le_of_ble_eq_true rfl) (Nat.le_of_ble_eq_true rfl) dX3_buyCandles_38 dX3_buyCandles_41 dX3_buyCandles_42 dX3_buyCandles_45 dX3_buyCandles_48 rfl
    · have hf := zif_n hf hc
      cases hf
      exact z_throwW_1 F 26 rfl hP hS hl.1 hlocks hex (Nat.le_of_ble_eq_true rfl) (Nat.le_of_ble_eq_true rfl) (Nat.le_of_ble_eq_true rfl) (Nat.le_of_ble_eq_true rfl) dX3_buyCandles_12 dX3_buyCandles_15 dX3_buyCandles_16 dX3_buyCandles_19 dX3_buyCandles_22 rfl

def f_X3_bakeCakes (p0 : Int32) (p1 : Int32) (T : zT) : Option ((Int32 ⊕ Nat) × zT) := zx (f_X3_needKind p0 T) fun v2 T1 => (if p1 < 1 then some (.inr 1, T1) else (if p1 ≤ 99 then zb (f_X3_cell 2 0 p0 T1) fun v6 T5 => (if (v6 + p1) ≤ 99 then zb (f_X0_record 0 T5) fun _v9 T8 => zb (f_X3_addToCell 2 0 p0 p1 T8) fun _v12 T11 => zb (f_X3_cell 2 0 p0 T11) fun v15 T14 => some (.inl v15, T14) else some (.inr 0, T5)) else some (.inr 1, T1)))
set_option maxHeartbeats 4000000 in
set_option maxRecDepth 100000 in
theorem c_X3_bakeCakes (p0 : Int32) (p1 : Int32) (T T' : zT) (v : (Int32 ⊕ Nat)) (hf : f_X3_bakeCakes p0 p1 T = some (v, T')) : zC 0 yX3_bakeCakes cX3_bakeCakes 3 (some .int) 7  2 12  (fun G _ => [.ref (G 0 0), .int p0, .int p1]) T (fun _ => zri v) T' := by
  intro l D Y S V G A hl9 hG
  refine vx_ofW (cc := cX3_bakeCakes) (maxL := 3) (ret := (some .int)) (by decide) rfl ?_
  intro p e s m args below meth c s₁ B hml hex hv
  obtain ⟨rfl, hK, hP, hA⟩ := hv
  have hx := B.exec
  have hb := B.bytes
  have hr := B.returns
  have hlocks := B.notSynchronized
  have hown : s.vm.findClass RX3 = some m.cls := findClass_of_methodNamed B.named
  have hts := atoms_spec (ws := Cond.code yX3_bakeCakes cX3_bakeCakes 3 (some .int) :: zWS) B.pre
  have F : zF 0 7  2 12  p l s m _ c cX3_bakeCakes 3 RX3 (Cond.code yX3_bakeCakes cX3_bakeCakes 3 (some .int)) D Y S V G A := ⟨hx, hb, hml, hown, hts, hl9, hG, hK, hA⟩
  have hS : va_S A s.heap s.heap [] := va_S.rf
  have hl := lv_entry ([.ref (G 0 0), .int p0, .int p1]) (n := 3) (Nat.le_of_ble_eq_true rfl)
  rw [lg_entry_eq]
  generalize (lg_sl ([.ref (G 0 0), .int p0, .int p1]) ++ List.replicate (3 - (lg_sl ([.ref (G 0 0), .int p0, .int p1])).length) Slot.unset).toArray = ls at hl ⊢
  have hl : lv_has ls 3 [(0, .ref (G 0 0)), (1, .int p0), (2, .int p1)] := hl
  unfold f_X3_bakeCakes at hf
  refine lv_iload_n hx hb dX3_bakeCakes_0 rfl (lv_at hl 1 rfl) ?_
  rcases zx_i hf with ⟨v2, T1, h3, hf⟩ | ⟨y4, T1, h3, hf⟩
  · refine z_ok (z_runS (As := [.int p0]) (rest := []) F k_X3_needKind m_736 (c_X3_needKind p0 T T1 _ h3) hP hS rfl rfl hl.1 (Nat.le_of_ble_eq_true rfl) dX3_bakeCakes_1 (Nat.le_of_ble_eq_true rfl) ⟨Nat.le_of_ble_eq_true rfl, Nat.le_of_ble_eq_true rfl⟩ rfl) hS (fun H locs hP hS => ?_)
    refine lv_iload_n hx hb dX3_bakeCakes_4 rfl (lv_at hl 2 rfl) ?_
    refine lv_iconst (v := 1) hx hb dX3_bakeCakes_5 (by decide) ?_
    refine lv_icmp_lt (tgt := 15) hx hb dX3_bakeCakes_6 (by decide) (fun hc => ?_) (fun hc => ?_)
    · have hf := zif_p hf hc
      cases hf
      exact z_throwW_1 F 26 rfl hP hS hl.1 hlocks hex (Nat.le_of_ble_eq_true rfl) (Nat.le_of_ble_eq_true rfl) (Nat.le_of_ble_eq_true rfl) (Nat.le_of_ble_eq_true rfl) dX3_bakeCakes_15 dX3_bakeCakes_18 dX3_bakeCakes_19 dX3_bakeCakes_22 dX3_bakeCakes_25 rfl
    · have hf := zif_n hf hc
      refine lv_iload_n hx hb dX3_bakeCakes_9 rfl (lv_at hl 2 rfl) ?_
      refine lv_bipush (v := 99) hx hb dX3_bakeCakes_10 (by decide) ?_
      refine lv_icmp_le (tgt := 26) hx hb dX3_bakeCakes_12 (by decide) (fun hc => ?_) (fun hc => ?_)
      · have hf := zif_p hf hc
        refine lv_aload_n hx hb dX3_bakeCakes_26 rfl (lv_at hl 0 rfl) ?_
        refine z_get hx hb hts (fun w h => List.mem_cons_of_mem _ (ziX3 w h)) hown hK hP (zV_0 (by decide)) rfl rfl 4 (by decide) (List.mem_cons_of_mem _ m_450) rfl rfl dX3_bakeCakes_27 ?_
        refine z_get hx hb hts (fun w h => List.mem_cons_of_mem _ (ziX2 w h)) hown hK hP (zV_r (by decide) (by decide) (by decide)) rfl rfl 10 (by decide) (List.mem_cons_of_mem _ m_91) rfl rfl dX3_bakeCakes_30 ?_
        refine lv_iload_n hx hb dX3_bakeCakes_33 rfl (lv_at hl 1 rfl) ?_
        obtain ⟨v6, T5, h7, hf⟩ := zb_i hf
        refine z_ok (z_runS (As := [.ref (G 2 0), .int p0]) (rest := []) F k_X3_cell m_692 (c_X3_cell 2 0 (zIA_r (by decide) (by decide) (by decide)) p0 T1 T5 _ h7) hP hS rfl rfl hl.1 (Nat.le_of_ble_eq_true rfl) dX3_bakeCakes_34 (Nat.le_of_ble_eq_true rfl) ⟨Nat.le_of_ble_eq_true rfl, Nat.le_of_ble_eq_true rfl⟩ rfl) hS (fun H locs hP hS => ?_)
        refine lv_iload_n hx hb dX3_bakeCakes_37 rfl (lv_at hl 2 rfl) ?_
        refine lv_iadd hx hb dX3_bakeCakes_38 ?_
        refine lv_bipush (v := 99) hx hb dX3_bakeCakes_39 (by decide) ?_
        refine lv_icmp_le (tgt := 55) hx hb dX3_bakeCakes_41 (by decide) (fun hc => ?_) (fun hc => ?_)
        · have hf := zif_p hf hc
          refine lv_aload_n hx hb dX3_bakeCakes_55 rfl (lv_at hl 0 rfl) ?_
          refine z_get hx hb hts (fun w h => List.mem_cons_of_mem _ (ziX3 w h)) hown hK hP (zV_0 (by decide)) rfl rfl 7 (by decide) (List.mem_cons_of_mem _ m_453) rfl rfl dX3_bakeCakes_56 ?_
          refine lv_aload_n hx hb dX3_bakeCakes_59 rfl (lv_at hl 0 rfl) ?_
          refine z_get hx hb hts (fun w h => List.mem_cons_of_mem _ (ziX3 w h)) hown hK hP (zV_0 (by decide)) rfl rfl 4 (by decide) (List.mem_cons_of_mem _ m_450) rfl rfl dX3_bakeCakes_60 ?_
          obtain ⟨v9, T8, h10, hf⟩ := zb_i hf
          refine z_ok (z_runV (As := [.ref (G 1 0)]) (rest := []) F k_X0_record m_576 (c_X0_record 0 (by decide) T5 T8 _ h10) hP hS (zV_0 (by decide)) rfl rfl rfl rfl hl.1 (Nat.le_of_ble_eq_true rfl) dX3_bakeCakes_63 (Nat.le_of_ble_eq_true rfl) ⟨Nat.le_of_ble_eq_true rfl, Nat.le_of_ble_eq_true rfl⟩ rfl) hS (fun H locs hP hS => ?_)
          refine lv_aload_n hx hb dX3_bakeCakes_66 rfl (lv_at hl 0 rfl) ?_
          refine z_get hx hb hts (fun w h => List.mem_cons_of_mem _ (ziX3 w h)) hown hK hP (zV_0 (by decide)) rfl rfl 4 (by decide) (List.mem_cons_of_mem _ m_450) rfl rfl dX3_bakeCakes_67 ?_
          refine z_get hx hb hts (fun w h => List.mem_cons_of_mem _ (ziX2 w h)) hown hK hP (zV_r (by decide) (by decide) (by decide)) rfl rfl 10 (by decide) (List.mem_cons_of_mem _ m_91) rfl rfl dX3_bakeCakes_70 ?_
          refine lv_iload_n hx hb dX3_bakeCakes_73 rfl (lv_at hl 1 rfl) ?_
          refine lv_iload_n hx hb dX3_bakeCakes_74 rfl (lv_at hl 2 rfl) ?_
          obtain ⟨v12, T11, h13, hf⟩ := zb_i hf
          refine z_ok (z_runS (As := [.ref (G 2 0), .int p0, .int p1]) (rest := []) F k_X3_addToCell m_741 (c_X3_addToCell 2 0 (zIA_r (by decide) (by decide) (by decide)) p0 p1 T8 T11 _ h13) hP hS rfl rfl hl.1 (Nat.le_of_ble_eq_true rfl) dX3_bakeCakes_75 (Nat.le_of_ble_eq_true rfl) ⟨Nat.le_of_ble_eq_true rfl, Nat.le_of_ble_eq_true rfl⟩ rfl) hS (fun H locs hP hS => ?_)
          refine lv_aload_n hx hb dX3_bakeCakes_78 rfl (lv_at hl 0 rfl) ?_
          refine z_get hx hb hts (fun w h => List.mem_cons_of_mem _ (ziX3 w h)) hown hK hP (zV_0 (by decide)) rfl rfl 4 (by decide) (List.mem_cons_of_mem _ m_450) rfl rfl dX3_bakeCakes_79 ?_
          refine z_get hx hb hts (fun w h => List.mem_cons_of_mem _ (ziX2 w h)) hown hK hP (zV_r (by decide) (by decide) (by decide)) rfl rfl 10 (by decide) (List.mem_cons_of_mem _ m_91) rfl rfl dX3_bakeCakes_82 ?_
          refine lv_iload_n hx hb dX3_bakeCakes_85 rfl (lv_at hl 1 rfl) ?_
          obtain ⟨v15, T14, h16, hf⟩ := zb_i hf
          refine z_ok (z_runS (As := [.ref (G 2 0), .int p0]) (rest := []) F k_X3_cell m_692 (c_X3_cell 2 0 (zIA_r (by decide) (by decide) (by decide)) p0 T11 T14 _ h16) hP hS rfl rfl hl.1 (Nat.le_of_ble_eq_true rfl) dX3_bakeCakes_86 (Nat.le_of_ble_eq_true rfl) ⟨Nat.le_of_ble_eq_true rfl, Nat.le_of_ble_eq_true rfl⟩ rfl) hS (fun H locs hP hS => ?_)
          obtain ⟨q1, q2⟩ := zs_i hf
          subst q1; subst q2
          exact z_iret hx hb hr rfl hP hS hlocks (Nat.le_of_ble_eq_true rfl) (Nat.le_of_ble_eq_true rfl) dX3_bakeCakes_89
        · have hf := zif_n hf hc
          cases hf
          exact z_throwW_0 F 29 rfl hP hS hl.1 hlocks hex (Nat.le_of_ble_eq_true rfl) (Nat.le_of_ble_eq_true rfl) (Nat.le_of_ble_eq_true rfl) (Nat.le_of_ble_eq_true rfl) dX3_bakeCakes_44 dX3_bakeCakes_47 dX3_bakeCakes_48 dX3_bakeCakes_51 dX3_bakeCakes_54 rfl
      · have hf := zif_n hf hc
        cases hf
        exact z_throwW_1 F 26 rfl hP hS hl.1 hlocks hex (Nat.le_of_ble_eq_true rfl) (Nat.le_of_ble_eq_true rfl) (Nat.le_of_ble_eq_true rfl) (Nat.le_of_ble_eq_true rfl) dX3_bakeCakes_15 dX3_bakeCakes_18 dX3_bakeCakes_19 dX3_bakeCakes_22 dX3_bakeCakes_25 rfl
  · cases hf
    exact z_ex (z_runS (As := [.int p0]) (rest := []) F k_X3_needKind m_736 (c_X3_needKind p0 T T' _ h3) hP hS rfl rfl hl.1 (Nat.le_of_ble_eq_true rfl) dX3_bakeCakes_1 (Nat.le_of_ble_eq_true rfl) ⟨Nat.le_of_ble_eq_true rfl, Nat.le_of_ble_eq_true rfl⟩ rfl) hS hex hlocks rfl (Nat.le_of_ble_eq_true rfl) (Nat.le_of_ble_eq_true rfl)

def f_X3_needSlot (p0 : Int32) (T : zT) : Option ((Unit ⊕ Nat) × zT) := (if p0 < 0 then some (.inr 2, T) else (if p0 < 2 then some (.inl (), T) else some (.inr 2, T)))
set_option maxHeartbeats 4000000 in
set_option maxRecDepth 100000 in
theorem c_X3_needSlot (p0 : Int32) (T T' : zT) (v : (Unit ⊕ Nat)) (hf : f_X3_needSlot p0 T = some (v, T')) : zC 0 yX3_needSlot cX3_needSlot 1 none 6  1 6  (fun _ _ => [.int p0]) T (fun _ => zrv v) T' := by
  intro l D Y S V G A hl9 hG
  refine vx_ofW (cc := cX3_needSlot) (maxL := 1) (ret := none) (by decide) rfl ?_
  intro p e s m args below meth c s₁ B hml hex hv
  obtain ⟨rfl, hK, hP, hA⟩ := hv
  have hx := B.exec
  have hb := B.bytes
  have hr := B.returns
  have hlocks := B.notSynchronized
  have hown : s.vm.findClass RX3 = some m.cls := findClass_of_methodNamed B.named
  have hts := atoms_spec (ws := Cond.code yX3_needSlot cX3_needSlot 1 none :: zWS) B.pre
  have F : zF 0 6  1 6  p l s m _ c cX3_needSlot 1 RX3 (Cond.code yX3_needSlot cX3_needSlot 1 none) D Y S V G A := ⟨hx, hb, hml, hown, hts, hl9, hG, hK, hA⟩
  have hS : va_S A s.heap s.heap [] := va_S.rf
  have hl := lv_entry ([.int p0]) (n := 1) (Nat.le_of_ble_eq_true rfl)
  rw [lg_entry_eq]
  generalize (lg_sl ([.int p0]) ++ List.replicate (1 - (lg_sl ([.int p0])).length) Slot.unset).toArray = ls at hl ⊢
  have hl : lv_has ls 1 [(0, .int p0)] := hl
  unfold f_X3_needSlot at hf
  refine lv_iload_n hx hb dX3_needSlot_0 rfl (lv_at hl 0 rfl) ?_
  refine lv_if_lt (tgt := 9) hx hb dX3_needSlot_1 (by decide) (fun hc => ?_) (fun hc => ?_)
  · have hf := zif_p hf hc
    cases hf
    exact z_throwW_2 F 12 rfl hP hS hl.1 hlocks hex (Nat.le_of_ble_eq_true rfl) (Nat.le_of_ble_eq_true rfl) (Nat.le_of_ble_eq_true rfl) (Nat.le_of_ble_eq_true rfl) dX3_needSlot_9 dX3_needSlot_12 dX3_needSlot_13 dX3_needSlot_16 dX3_needSlot_19 rfl
  · have hf := zif_n hf hc
    refine lv_iload_n hx hb dX3_needSlot_4 rfl (lv_at hl 0 rfl) ?_
    refine lv_iconst (v := 2) hx hb dX3_needSlot_5 (by decide) ?_
    refine lv_icmp_lt (tgt := 20) hx hb dX3_needSlot_6 (by decide) (fun hc => ?_) (fun hc => ?_)
    · have hf := zif_p hf hc
      obtain ⟨q1, q2⟩ := zs_i hf
      subst q1; subst q2
      exact z_vret hx hb hr rfl hP hS hlocks (Nat.le_of_ble_eq_true rfl) (Nat.le_of_ble_eq_true rfl) dX3_needSlot_20
    · have hf := zif_n hf hc
      cases hf
      exact z_throwW_2 F 12 rfl hP hS hl.1 hlocks hex (Nat.le_of_ble_eq_true rfl) (Nat.le_of_ble_eq_true rfl) (Nat.le_of_ble_eq_true rfl) (Nat.le_of_ble_eq_true rfl) dX3_needSlot_9 dX3_needSlot_12 dX3_needSlot_13 dX3_needSlot_16 dX3_needSlot_19 rfl

def f_X3_stateIn (p0 : Int32) (T : zT) : Option (Option Nat × zT) := (if p0 < 0 then some (none, T) else (if 2 ≤ p0 then some (none, T) else if zin p0 2 = true then some (some (13 + p0.toNatClampNeg), T) else none))
set_option maxHeartbeats 4000000 in
set_option maxRecDepth 100000 in
theorem c_X3_stateIn (p0 : Int32) (T T' : zT) (v : Option Nat) (hf : f_X3_stateIn p0 T = some (v, T')) : zC 0 yX3_stateIn cX3_stateIn 2 (some (.object "InventedBirthdays$Registry")) 0  0 0  (fun G _ => [.ref (G 0 0), .int p0]) T (fun G => .inl (some (zro G v))) T' := by
  intro l D Y S V G A hl9 hG
  refine vx_ofW (cc := cX3_stateIn) (maxL := 2) (ret := (some (.object "InventedBirthdays$Registry"))) (by decide) rfl ?_
  intro p e s m args below meth c s₁ B hml hex hv
  obtain ⟨rfl, hK, hP, hA⟩ := hv
  have hx := B.exec
  have hb := B.bytes
  have hr := B.returns
  have hlocks := B.notSynchronized
  have hown : s.vm.findClass RX3 = some m.cls := findClass_of_methodNamed B.named
  have hts := atoms_spec (ws := Cond.code yX3_stateIn cX3_stateIn 2 (some (.object "InventedBirthdays$Registry")) :: zWS) B.pre
  have F : zF 0 0  0 0  p l s m _ c cX3_stateIn 2 RX3 (Cond.code yX3_stateIn cX3_stateIn 2 (some (.object "InventedBirthdays$Registry"))) D Y S V G A := ⟨hx, hb, hml, hown, hts, hl9, hG, hK, hA⟩
  have hS : va_S A s.heap s.heap [] := va_S.rf
  have hl := lv_entry ([.ref (G 0 0), .int p0]) (n := 2) (Nat.le_of_ble_eq_true rfl)
  rw [lg_entry_eq]
  generalize (lg_sl ([.ref (G 0 0), .int p0]) ++ List.replicate (2 - (lg_sl ([.ref (G 0 0), .int p0])).length) Slot.unset).toArray = ls at hl ⊢
  have hl : lv_has ls 2 [(0, .ref (G 0 0)), (1, .int p0)] := hl
  unfold f_X3_stateIn at hf
  refine lv_iload_n hx hb dX3_stateIn_0 rfl (lv_at hl 1 rfl) ?_
  refine lv_if_lt (tgt := 22) hx hb dX3_stateIn_1 (by decide) (fun hc => ?_) (fun hc => ?_)
  · have hf := zif_p hf hc
    refine lv_null hx hb dX3_stateIn_22 ?_
    obtain ⟨q1, q2⟩ := zs_i hf
    subst q1; subst q2
    exact z_aret hx hb hr (Or.inl rfl) rfl hP hS hlocks (Nat.le_of_ble_eq_true rfl) (Nat.le_of_ble_eq_true rfl) dX3_stateIn_23
  · have hf := zif_n hf hc
    refine lv_iload_n hx hb dX3_stateIn_4 rfl (lv_at hl 1 rfl) ?_
    refine lv_aload_n hx hb dX3_stateIn_5 rfl (lv_at hl 0 rfl) ?_
    refine z_get hx hb hts (fun w h => List.mem_cons_of_mem _ (ziX3 w h)) hown hK hP (zV_0 (by decide)) rfl rfl 8 (by decide) (List.mem_cons_of_mem _ m_454) rfl rfl dX3_stateIn_6 ?_
    refine z_alen (v := 2) hx hb hK hP (zV_0 (by decide)) 3 rfl rfl rfl dX3_stateIn_9 ?_
    refine lv_icmp_ge (tgt := 22) hx hb dX3_stateIn_10 (by decide) (fun hc => ?_) (fun hc => ?_)
    · have hf := zif_p hf hc
      refine lv_null hx hb dX3_stateIn_22 ?_
      obtain ⟨q1, q2⟩ := zs_i hf
      subst q1; subst q2
      exact z_aret hx hb hr (Or.inl rfl) rfl hP hS hlocks (Nat.le_of_ble_eq_true rfl) (Nat.le_of_ble_eq_true rfl) dX3_stateIn_23
    · have hf := zif_n hf hc
      refine lv_aload_n hx hb dX3_stateIn_13 rfl (lv_at hl 0 rfl) ?_
      refine z_get hx hb hts (fun w h => List.mem_cons_of_mem _ (ziX3 w h)) hown hK hP (zV_0 (by decide)) rfl rfl 8 (by decide) (List.mem_cons_of_mem _ m_454) rfl rfl dX3_stateIn_14 ?_
      refine lv_iload_n hx hb dX3_stateIn_17 rfl (lv_at hl 1 rfl) ?_
      obtain ⟨h1, hf⟩ := zif_c hf
      refine z_aald hx hb hK hP (zV_0 (by decide)) rfl (zin_i h1) dX3_stateIn_18 ?_
      refine lv_goto (tgt := 23) hx hb dX3_stateIn_19 (by decide) ?_
      obtain ⟨q1, q2⟩ := zs_i hf
      subst q1; subst q2
      exact z_aret hx hb hr (Or.inr ⟨_, rfl⟩) rfl hP hS hlocks (Nat.le_of_ble_eq_true rfl) (Nat.le_of_ble_eq_true rfl) dX3_stateIn_23

def f_X3_isFilled (p0 : Int32) (T : zT) : Option (Int32 × zT) := (if p0 < 0 then some (0, T) else (if 2 ≤ p0 then some (0, T) else if zin p0 2 = true then (if (T.2 0 5 p0.toNatClampNeg) = 0 then some (0, T) else some (1, T)) else none))
set_option maxHeartbeats 4000000 in
set_option maxRecDepth 100000 in
theorem c_X3_isFilled (p0 : Int32) (T T' : zT) (v : Int32) (hf : f_X3_isFilled p0 T = some (v, T')) : zC 0 yX3_isFilled cX3_isFilled 2 (some .boolean) 0  0 0  (fun G _ => [.ref (G 0 0), .int p0]) T (fun _ => .inl (some (.int v))) T' := by
  intro l D Y S V G A hl9 hG
  refine vx_ofW (cc := cX3_isFilled) (maxL := 2) (ret := (some .boolean)) (by decide) rfl ?_
  intro p e s m args below meth c s₁ B hml hex hv
  obtain ⟨rfl, hK, hP, hA⟩ := hv
  have hx := B.exec
  have hb := B.bytes
  have hr := B.returns
  have hlocks := B.notSynchronized
  have hown : s.vm.findClass RX3 = some m.cls := findClass_of_methodNamed B.named
  have hts := atoms_spec (ws := Cond.code yX3_isFilled cX3_isFilled 2 (some .boolean) :: zWS) B.pre
  have F : zF 0 0  0 0  p l s m _ c cX3_isFilled 2 RX3 (Cond.code yX3_isFilled cX3_isFilled 2 (some .boolean)) D Y S V G A := ⟨hx, hb, hml, hown, hts, hl9, hG, hK, hA⟩
  have hS : va_S A s.heap s.heap [] := va_S.rf
  have hl := lv_entry ([.ref (G 0 0), .int p0]) (n := 2) (Nat.le_of_ble_eq_true rfl)
  rw [lg_entry_eq]
  generalize (lg_sl ([.ref (G 0 0), .int p0]) ++ List.replicate (2 - (lg_sl ([.ref (G 0 0), .int p0])).length) Slot.unset).toArray = ls at hl ⊢
  have hl : lv_has ls 2 [(0, .ref (G 0 0)), (1, .int p0)] := hl
  unfold f_X3_isFilled at hf
  refine lv_iload_n hx hb dX3_isFilled_0 rfl (lv_at hl 1 rfl) ?_
  refine lv_if_lt (tgt := 26) hx hb dX3_isFilled_1 (by decide) (fun hc => ?_) (fun hc => ?_)
  · have hf := zif_p hf hc
    refine lv_iconst (v := 0) hx hb dX3_isFilled_26 (by decide) ?_
    obtain ⟨q1, q2⟩ := zs_i hf
    subst q1; subst q2
    exact z_zret hx hb hr (Or.inl rfl) rfl hP hS hlocks (Nat.le_of_ble_eq_true rfl) (Nat.le_of_ble_eq_true rfl) dX3_isFilled_27
  · have hf := zif_n hf hc
    refine lv_iload_n hx hb dX3_isFilled_4 rfl (lv_at hl 1 rfl) ?_
    refine lv_aload_n hx hb dX3_isFilled_5 rfl (lv_at hl 0 rfl) ?_
    refine z_get hx hb hts (fun w h => List.mem_cons_of_mem _ (ziX3 w h)) hown hK hP (zV_0 (by decide)) rfl rfl 9 (by decide) (List.mem_cons_of_mem _ m_455) rfl rfl dX3_isFilled_6 ?_
    refine z_alen (v := 2) hx hb hK hP (zV_0 (by decide)) 2 rfl rfl rfl dX3_isFilled_9 ?_
    refine lv_icmp_ge (tgt := 26) hx hb dX3_isFilled_10 (by decide) (fun hc => ?_) (fun hc => ?_)
    · have hf := zif_p hf hc
      refine lv_iconst (v := 0) hx hb dX3_isFilled_26 (by decide) ?_
      obtain ⟨q1, q2⟩ := zs_i hf
      subst q1; subst q2
      exact z_zret hx hb hr (Or.inl rfl) rfl hP hS hlocks (Nat.le_of_ble_eq_true rfl) (Nat.le_of_ble_eq_true rfl) dX3_isFilled_27
    · have hf := zif_n hf hc
      refine lv_aload_n hx hb dX3_isFilled_13 rfl (lv_at hl 0 rfl) ?_
      refine z_get hx hb hts (fun w h => List.mem_cons_of_mem _ (ziX3 w h)) hown hK hP (zV_0 (by decide)) rfl rfl 9 (by decide) (List.mem_cons_of_mem _ m_455) rfl rfl dX3_isFilled_14 ?_
      refine lv_iload_n hx hb dX3_isFilled_17 rfl (lv_at hl 1 rfl) ?_
      obtain ⟨h1, hf⟩ := zif_c hf
      refine z_zald hx hb hK hP (zV_0 (by decide)) rfl (zin_i h1) dX3_isFilled_18 ?_
      refine lv_if_eq (tgt := 26) hx hb dX3_isFilled_19 (by decide) (fun hc => ?_) (fun hc => ?_)
      · have hf := zif_p hf hc
        refine lv_iconst (v := 0) hx hb dX3_isFilled_26 (by decide) ?_
        obtain ⟨q1, q2⟩ := zs_i hf
        subst q1; subst q2
        exact z_zret hx hb hr (Or.inl rfl) rfl hP hS hlocks (Nat.le_of_ble_eq_true rfl) (Nat.le_of_ble_eq_true rfl) dX3_isFilled_27
      · have hf := zif_n hf hc
        refine lv_iconst (v := 1) hx hb dX3_isFilled_22 (by decide) ?_
        refine lv_goto (tgt := 27) hx hb dX3_isFilled_23 (by decide) ?_
        obtain ⟨q1, q2⟩ := zs_i hf
        subst q1; subst q2
        exact z_zret hx hb hr (Or.inr rfl) rfl hP hS hlocks (Nat.le_of_ble_eq_true rfl) (Nat.le_of_ble_eq_true rfl) dX3_isFilled_27

def f_X3_restore (p0 : Int32) (T : zT) : Option ((Int32 ⊕ Nat) × zT) := zx (f_X3_needSlot p0 T) fun v2 T1 => zb (f_X3_stateIn p0 T1) fun v6 T5 => (match v6 with | none => some (.inr 0, T5) | some q8 => if q8 < 15 then zb (f_X3_isFilled p0 T5) fun v11 T10 => (if v11 = 0 then some (.inr 0, T10) else zb (f_X0_record 0 T10) fun _v14 T13 => zb (f_X2_copyFrom 0 q8 T13) fun _v17 T16 => some (.inl (T16.1 1 0 0), T16)) else none)
set_option maxHeartbeats 4000000 in
set_option maxRecDepth 100000 in
theorem c_X3_restore (p0 : Int32) (T T' : zT) (v : (Int32 ⊕ Nat)) (hf : f_X3_restore p0 T = some (v, T')) : zC 0 yX3_restore cX3_restore 3 (some .int) 7  2 12  (fun G _ => [.ref (G 0 0), .int p0]) T (fun _ => zri v) T' := by
  intro l D Y S V G A hl9 hG
  refine vx_ofW (cc := cX3_restore) (maxL := 3) (ret := (some .int)) (by decide) rfl ?_
  intro p e s m args below meth c s₁ B hml hex hv
  obtain ⟨rfl, hK, hP, hA⟩ := hv
  have hx := B.exec
  have hb := B.bytes
  have hr := B.returns
  have hlocks := B.notSynchronized
  have hown : s.vm.findClass RX3 = some m.cls := findClass_of_methodNamed B.named
  have hts := atoms_spec (ws := Cond.code yX3_restore cX3_restore 3 (some .int) :: zWS) B.pre
  have F : zF 0 7  2 12  p l s m _ c cX3_restore 3 RX3 (Cond.code yX3_restore cX3_restore 3 (some .int)) D Y S V G A := ⟨hx, hb, hml, hown, hts, hl9, hG, hK, hA⟩
  have hS : va_S A s.heap s.heap [] := va_S.rf
  have hl := lv_entry ([.ref (G 0 0), .int p0]) (n := 3) (Nat.le_of_ble_eq_true rfl)
  rw [lg_entry_eq]
  generalize (lg_sl ([.ref (G 0 0), .int p0]) ++ List.replicate (3 - (lg_sl ([.ref (G 0 0), .int p0])).length) Slot.unset).toArray = ls at hl ⊢
  have hl : lv_has ls 3 [(0, .ref (G 0 0)), (1, .int p0)] := hl
  unfold f_X3_restore at hf
  refine lv_iload_n hx hb dX3_restore_0 rfl (lv_at hl 1 rfl) ?_
  rcases zx_i hf with ⟨v2, T1, h3, hf⟩ | ⟨y4, T1, h3, hf⟩
  · refine z_ok (z_runS (As := [.int p0]) (rest := []) F k_X3_needSlot m_482 (c_X3_needSlot p0 T T1 _ h3) hP hS rfl rfl hl.1 (Nat.le_of_ble_eq_true rfl) dX3_restore_1 (Nat.le_of_ble_eq_true rfl) ⟨Nat.le_of_ble_eq_true rfl, Nat.le_of_ble_eq_true rfl⟩ rfl) hS (fun H locs hP hS => ?_)
    refine lv_aload_n hx hb dX3_restore_4 rfl (lv_at hl 0 rfl) ?_
    refine lv_iload_n hx hb dX3_restore_5 rfl (lv_at hl 1 rfl) ?_
    obtain ⟨v6, T5, h7, hf⟩ := zb_i hf
    rcases v6 with _ | q8
    · dsimp only at hf
      refine z_ok (z_runV (As := [.int p0]) (rest := []) F k_X3_stateIn m_552 (c_X3_stateIn p0 T1 T5 _ h7) hP hS (zV_0 (by decide)) rfl rfl rfl rfl hl.1 (Nat.le_of_ble_eq_true rfl) dX3_restore_6 (Nat.le_of_ble_eq_true rfl) ⟨Nat.le_of_ble_eq_true rfl, Nat.le_of_ble_eq_true rfl⟩ rfl) hS (fun H locs hP hS => ?_)
      refine lv_astore_nN (lv' := [(2, .null), (0, .ref (G 0 0)), (1, .int p0)]) hx hb dX3_restore_9 rfl hl (by decide) rfl (fun ls hl => ?_)
      refine lv_aload_nN hx hb dX3_restore_10 rfl (lv_at hl 0 rfl) ?_
      refine lv_ifnullN hx hb (tgt := 22) dX3_restore_11 (by decide) ?_
      cases hf
      exact z_throwW_0 F 13 rfl hP hS hl.1 hlocks hex (Nat.le_of_ble_eq_true rfl) (Nat.le_of_ble_eq_true rfl) (Nat.le_of_ble_eq_true rfl) (Nat.le_of_ble_eq_true rfl) dX3_restore_22 dX3_restore_25 dX3_restore_26 dX3_restore_29 dX3_restore_32 rfl
    · dsimp only at hf
      obtain ⟨h9, hf⟩ := zif_c hf
      refine z_ok (z_runV (As := [.int p0]) (rest := []) F k_X3_stateIn m_552 (c_X3_stateIn p0 T1 T5 _ h7) hP hS (zV_0 (by decide)) rfl rfl rfl rfl hl.1 (Nat.le_of_ble_eq_true rfl) dX3_restore_6 (Nat.le_of_ble_eq_true rfl) ⟨Nat.le_of_ble_eq_true rfl, Nat.le_of_ble_eq_true rfl⟩ rfl) hS (fun H locs hP hS => ?_)
      refine lv_astore_n (lv' := [(2, .ref (G 1 q8)), (0, .ref (G 0 0)), (1, .int p0)]) hx hb dX3_restore_9 rfl hl (by decide) rfl (fun ls hl => ?_)
      refine lv_aload_n hx hb dX3_restore_10 rfl (lv_at hl 0 rfl) ?_
      refine lv_ifnull hx hb dX3_restore_11 ?_
      refine lv_aload_n hx hb dX3_restore_14 rfl (lv_at hl 1 rfl) ?_
      refine lv_iload_n hx hb dX3_restore_15 rfl (lv_at hl 2 rfl) ?_
      obtain ⟨v11, T10, h12, hf⟩ := zb_i hf
      refine z_ok (z_runV (As := [.int p0]) (rest := []) F k_X3_isFilled m_556 (c_X3_isFilled p0 T5 T10 _ h12) hP hS (zV_0 (by decide)) rfl rfl rfl rfl hl.1 (Nat.le_of_ble_eq_true rfl) dX3_restore_16 (Nat.le_of_ble_eq_true rfl) ⟨Nat.le_of_ble_eq_true rfl, Nat.le_of_ble_eq_true rfl⟩ rfl) hS (fun H locs hP hS => ?_)
      refine lv_if_ne (tgt := 33) hx hb dX3_restore_19 (by decide) (fun hc => ?_) (fun hc => ?_)
      · have hf := zif_n hf hc
        refine lv_aload_n hx hb dX3_restore_33 rfl (lv_at hl 1 rfl) ?_
        refine z_get hx hb hts (fun w h => List.mem_cons_of_mem _ (ziX3 w h)) hown hK hP (zV_0 (by decide)) rfl rfl 7 (by decide) (List.mem_cons_of_mem _ m_453) rfl rfl dX3_restore_34 ?_
        refine lv_aload_n hx hb dX3_restore_37 rfl (lv_at hl 1 rfl) ?_
        refine z_get hx hb hts (fun w h => List.mem_cons_of_mem _ (ziX3 w h)) hown hK hP (zV_0 (by decide)) rfl rfl 4 (by decide) (List.mem_cons_of_mem _ m_450) rfl rfl dX3_restore_38 ?_
        obtain ⟨v14, T13, h15, hf⟩ := zb_i hf
        refine z_ok (z_runV (As := [.ref (G 1 0)]) (rest := []) F k_X0_record m_576 (c_X0_record 0 (by decide) T10 T13 _ h15) hP hS (zV_0 (by decide)) rfl rfl rfl rfl hl.1 (Nat.le_of_ble_eq_true rfl) dX3_restore_41 (Nat.le_of_ble_eq_true rfl) ⟨Nat.le_of_ble_eq_true rfl, Nat.le_of_ble_eq_true rfl⟩ rfl) hS (fun H locs hP hS => ?_)
        refine lv_aload_n hx hb dX3_restore_44 rfl (lv_at hl 1 rfl) ?_
        refine z_get hx hb hts (fun w h => List.mem_cons_of_mem _ (ziX3 w h)) hown hK hP (zV_0 (by decide)) rfl rfl 4 (by decide) (List.mem_cons_of_mem _ m_450) rfl rfl dX3_restore_45 ?_
        refine lv_aload_n hx hb dX3_restore_48 rfl (lv_at hl 0 rfl) ?_
        obtain ⟨v17, T16, h18, hf⟩ := zb_i hf
        refine z_ok (z_runV (As := [.ref (G 1 q8)]) (rest := []) F k_X2_copyFrom m_436 (c_X2_copyFrom 0 (by decide) q8 h9 T13 T16 _ h18) hP hS (zV_r (by decide) (by decide) (by decide)) rfl rfl rfl rfl hl.1 (Nat.le_of_ble_eq_true rfl) dX3_restore_49 (Nat.le_of_ble_eq_true rfl) ⟨Nat.le_of_ble_eq_true rfl, Nat.le_of_ble_eq_true rfl⟩ rfl) hS (fun H locs hP hS => ?_)
        refine lv_aload_n hx hb dX3_restore_52 rfl (lv_at hl 1 rfl) ?_
        refine z_get hx hb hts (fun w h => List.mem_cons_of_mem _ (ziX3 w h)) hown hK hP (zV_0 (by decide)) rfl rfl 4 (by decide) (List.mem_cons_of_mem _ m_450) rfl rfl dX3_restore_53 ?_
        refine z_get hx hb hts (fun w h => List.mem_cons_of_mem _ (ziX2 w h)) hown hK hP (zV_r (by decide) (by decide) (by decide)) rfl rfl 0 (by decide) (List.mem_cons_of_mem _ m_68) rfl rfl dX3_restore_56 ?_
        obtain ⟨q1, q2⟩ := zs_i hf
        subst q1; subst q2
        exact z_iret hx hb hr rfl hP hS hlocks (Nat.le_of_ble_eq_true rfl) (Nat.le_of_ble_eq_true rfl) dX3_restore_59
      · have hf := zif_p hf hc
        cases hf
        exact z_throwW_0 F 13 rfl hP hS hl.1 hlocks hex (Nat.le_of_ble_eq_true rfl) (Nat.le_of_ble_eq_true rfl) (Nat.le_of_ble_eq_true rfl) (Nat.le_of_ble_eq_true rfl) dX3_restore_22 dX3_restore_25 dX3_restore_26 dX3_restore_29 dX3_restore_32 rfl
  · cases hf
    exact z_ex (z_runS (As := [.int p0]) (rest := []) F k_X3_needSlot m_482 (c_X3_needSlot p0 T T' _ h3) hP hS rfl rfl hl.1 (Nat.le_of_ble_eq_true rfl) dX3_restore_1 (Nat.le_of_ble_eq_true rfl) ⟨Nat.le_of_ble_eq_true rfl, Nat.le_of_ble_eq_true rfl⟩ rfl) hS hex hlocks rfl (Nat.le_of_ble_eq_true rfl) (Nat.le_of_ble_eq_true rfl)

def f_X3_undo  (T : zT) : Option ((Int32 ⊕ Nat) × zT) := (if (T.1 0 2 2) = 0 then some (.inr 0, T) else zb (f_X0_takeBack 0 T) fun _v2 T1 => some (.inl (T1.1 0 2 2), T1))
set_option maxHeartbeats 4000000 in
set_option maxRecDepth 100000 in
theorem c_X3_undo  (T T' : zT) (v : (Int32 ⊕ Nat)) (hf : f_X3_undo  T = some (v, T')) : zC 0 yX3_undo cX3_undo 1 (some .int) 6  1 6  (fun G _ => [.ref (G 0 0)]) T (fun _ => zri v) T' := by
  intro l D Y S V G A hl9 hG
  refine vx_ofW (cc := cX3_undo) (maxL := 1) (ret := (some .int)) (by decide) rfl ?_
  intro p e s m args below meth c s₁ B hml hex hv
  obtain ⟨rfl, hK, hP, hA⟩ := hv
  have hx := B.exec
  have hb := B.bytes
  have hr := B.returns
  have hlocks := B.notSynchronized
  have hown : s.vm.findClass RX3 = some m.cls := findClass_of_methodNamed B.named
  have hts := atoms_spec (ws := Cond.code yX3_undo cX3_undo 1 (some .int) :: zWS) B.pre
  have F : zF 0 6  1 6  p l s m _ c cX3_undo 1 RX3 (Cond.code yX3_undo cX3_undo 1 (some .int)) D Y S V G A := ⟨hx, hb, hml, hown, hts, hl9, hG, hK, hA⟩
  have hS : va_S A s.heap s.heap [] := va_S.rf
  have hl := lv_entry ([.ref (G 0 0)]) (n := 1) (Nat.le_of_ble_eq_true rfl)
  rw [lg_entry_eq]
  generalize (lg_sl ([.ref (G 0 0)]) ++ List.replicate (1 - (lg_sl ([.ref (G 0 0)])).length) Slot.unset).toArray = ls at hl ⊢
  have hl : lv_has ls 1 [(0, .ref (G 0 0))] := hl
  unfold f_X3_undo at hf
  refine lv_aload_n hx hb dX3_undo_0 rfl (lv_at hl 0 rfl) ?_
  refine z_get hx hb hts (fun w h => List.mem_cons_of_mem _ (ziX3 w h)) hown hK hP (zV_0 (by decide)) rfl rfl 7 (by decide) (List.mem_cons_of_mem _ m_453) rfl rfl dX3_undo_1 ?_
  refine z_get hx hb hts (fun w h => List.mem_cons_of_mem _ (ziX0 w h)) hown hK hP (zV_0 (by decide)) rfl rfl 2 (by decide) (List.mem_cons_of_mem _ m_206) rfl rfl dX3_undo_4 ?_
  refine lv_if_ne (tgt := 21) hx hb dX3_undo_7 (by decide) (fun hc => ?_) (fun hc => ?_)
  · have hf := zif_n hf hc
    refine lv_aload_n hx hb dX3_undo_21 rfl (lv_at hl 0 rfl) ?_
    refine z_get hx hb hts (fun w h => List.mem_cons_of_mem _ (ziX3 w h)) hown hK hP (zV_0 (by decide)) rfl rfl 7 (by decide) (List.mem_cons_of_mem _ m_453) rfl rfl dX3_undo_22 ?_
    refine lv_aload_n hx hb dX3_undo_25 rfl (lv_at hl 0 rfl) ?_
    refine z_get hx hb hts (fun w h => List.mem_cons_of_mem _ (ziX3 w h)) hown hK hP (zV_0 (by decide)) rfl rfl 4 (by decide) (List.mem_cons_of_mem _ m_450) rfl rfl dX3_undo_26 ?_
    obtain ⟨v2, T1, h3, hf⟩ := zb_i hf
    refine z_ok (z_runV (As := [.ref (G 1 0)]) (rest := []) F k_X0_takeBack m_647 (c_X0_takeBack 0 (by decide) T T1 _ h3) hP hS (zV_0 (by decide)) rfl rfl rfl rfl hl.1 (Nat.le_of_ble_eq_true rfl) dX3_undo_29 (Nat.le_of_ble_eq_true rfl) ⟨Nat.le_of_ble_eq_true rfl, Nat.le_of_ble_eq_true rfl⟩ rfl) hS (fun H locs hP hS => ?_)
    refine lv_aload_n hx hb dX3_undo_32 rfl (lv_at hl 0 rfl) ?_
    refine z_get hx hb hts (fun w h => List.mem_cons_of_mem _ (ziX3 w h)) hown hK hP (zV_0 (by decide)) rfl rfl 7 (by decide) (List.mem_cons_of_mem _ m_453) rfl rfl dX3_undo_33 ?_
    refine z_get hx hb hts (fun w h => List.mem_cons_of_mem _ (ziX0 w h)) hown hK hP (zV_0 (by decide)) rfl rfl 2 (by decide) (List.mem_cons_of_mem _ m_206) rfl rfl dX3_undo_36 ?_
    obtain ⟨q1, q2⟩ := zs_i hf
    subst q1; subst q2
    exact z_iret hx hb hr rfl hP hS hlocks (Nat.le_of_ble_eq_true rfl) (Nat.le_of_ble_eq_true rfl) dX3_undo_39
  · have hf := zif_p hf hc
    cases hf
    exact z_throwW_0 F 17 rfl hP hS hl.1 hlocks hex (Nat.le_of_ble_eq_true rfl) (Nat.le_of_ble_eq_true rfl) (Nat.le_of_ble_eq_true rfl) (Nat.le_of_ble_eq_true rfl) dX3_undo_10 dX3_undo_13 dX3_undo_14 dX3_undo_17 dX3_undo_20 rfl

def f_X3_save (p0 : Int32) (T : zT) : Option ((Int32 ⊕ Nat) × zT) := zx (f_X3_needSlot p0 T) fun v2 T1 => zb (f_X3_stateIn p0 T1) fun v6 T5 => (match v6 with | none => some (.inl (T5.1 1 0 0), T5) | some q8 => if q8 < 15 then (if p0 < 0 then some (.inl (T5.1 1 0 0), T5) else (if 2 ≤ p0 then some (.inl (T5.1 1 0 0), T5) else zb (f_X2_copyFrom q8 0 T5) fun _v11 T10 => if zin p0 2 = true then zl (wA T10 0 5 (upd (T10.2 0 5) p0.toNatClampNeg (vp_nar .boolean 1))) fun T14 => some (.inl (T14.1 1 0 0), T14) else none)) else none)
set_option maxHeartbeats 4000000 in
set_option maxRecDepth 100000 in
theorem c_X3_save (p0 : Int32) (T T' : zT) (v : (Int32 ⊕ Nat)) (hf : f_X3_save p0 T = some (v, T')) : zC 0 yX3_save cX3_save 3 (some .int) 7  1 6  (fun G _ => [.ref (G 0 0), .int p0]) T (fun _ => zri v) T' := by
  intro l D Y S V G A hl9 hG
  refine vx_ofW (cc := cX3_save) (maxL := 3) (ret := (some .int)) (by decide) rfl ?_
  intro p e s m args below meth c s₁ B hml hex hv
  obtain ⟨rfl, hK, hP, hA⟩ := hv
  have hx := B.exec
  have hb := B.bytes
  have hr := B.returns
  have hlocks := B.notSynchronized
  have hown : s.vm.findClass RX3 = some m.cls := findClass_of_methodNamed B.named
  have hts := atoms_spec (ws := Cond.code yX3_save cX3_save 3 (some .int) :: zWS) B.pre
  have F : zF 0 7  1 6  p l s m _ c cX3_save 3 RX3 (Cond.code yX3_save cX3_save 3 (some .int)) D Y S V G A := ⟨hx, hb, hml, hown, hts, hl9, hG, hK, hA⟩
  have hS : va_S A s.heap s.heap [] := va_S.rf
  have hl := lv_entry ([.ref (G 0 0), .int p0]) (n := 3) (Nat.le_of_ble_eq_true rfl)
  rw [lg_entry_eq]
  generalize (lg_sl ([.ref (G 0 0), .int p0]) ++ List.replicate (3 - (lg_sl ([.ref (G 0 0), .int p0])).length) Slot.unset).toArray = ls at hl ⊢
  have hl : lv_has ls 3 [(0, .ref (G 0 0)), (1, .int p0)] := hl
  unfold f_X3_save at hf
  refine lv_iload_n hx hb dX3_save_0 rfl (lv_at hl 1 rfl) ?_
  rcases zx_i hf with ⟨v2, T1, h3, hf⟩ | ⟨y4, T1, h3, hf⟩
  · refine z_ok (z_runS (As := [.int p0]) (rest := []) F k_X3_needSlot m_482 (c_X3_needSlot p0 T T1 _ h3) hP hS rfl rfl hl.1 (Nat.le_of_ble_eq_true rfl) dX3_save_1 (Nat.le_of_ble_eq_true rfl) ⟨Nat.le_of_ble_eq_true rfl, Nat.le_of_ble_eq_true rfl⟩ rfl) hS (fun H locs hP hS => ?_)
    refine lv_aload_n hx hb dX3_save_4 rfl (lv_at hl 0 rfl) ?_
    refine lv_iload_n hx hb dX3_save_5 rfl (lv_at hl 1 rfl) ?_
    obtain ⟨v6, T5, h7, hf⟩ := zb_i hf
    rcases v6 with _ | q8
    · dsimp only at hf
      refine z_ok (z_runV (As := [.int p0]) (rest := []) F k_X3_stateIn m_552 (c_X3_stateIn p0 T1 T5 _ h7) hP hS (zV_0 (by decide)) rfl rfl rfl rfl hl.1 (Nat.le_of_ble_eq_true rfl) dX3_save_6 (Nat.le_of_ble_eq_true rfl) ⟨Nat.le_of_ble_eq_true rfl, Nat.le_of_ble_eq_true rfl⟩ rfl) hS (fun H locs hP hS => ?_)
      refine lv_astore_nN (lv' := [(2, .null), (0, .ref (G 0 0)), (1, .int p0)]) hx hb dX3_save_9 rfl hl (by decide) rfl (fun ls hl => ?_)
      refine lv_aload_nN hx hb dX3_save_10 rfl (lv_at hl 0 rfl) ?_
      refine lv_ifnullN hx hb (tgt := 42) dX3_save_11 (by decide) ?_
      refine lv_aload_n hx hb dX3_save_42 rfl (lv_at hl 1 rfl) ?_
      refine z_get hx hb hts (fun w h => List.mem_cons_of_mem _ (ziX3 w h)) hown hK hP (zV_0 (by decide)) rfl rfl 4 (by decide) (List.mem_cons_of_mem _ m_450) rfl rfl dX3_save_43 ?_
      refine z_get hx hb hts (fun w h => List.mem_cons_of_mem _ (ziX2 w h)) hown hK hP (zV_r (by decide) (by decide) (by decide)) rfl rfl 0 (by decide) (List.mem_cons_of_mem _ m_68) rfl rfl dX3_save_46 ?_
      obtain ⟨q1, q2⟩ := zs_i hf
      subst q1; subst q2
      exact z_iret hx hb hr rfl hP hS hlocks (Nat.le_of_ble_eq_true rfl) (Nat.le_of_ble_eq_true rfl) dX3_save_49
    · dsimp only at hf
      obtain ⟨h9, hf⟩ := zif_c hf
      refine z_ok (z_runV (As := [.int p0]) (rest := []) F k_X3_stateIn m_552 (c_X3_stateIn p0 T1 T5 _ h7) hP hS (zV_0 (by decide)) rfl rfl rfl rfl hl.1 (Nat.le_of_ble_eq_true rfl) dX3_save_6 (Nat.le_of_ble_eq_true rfl) ⟨Nat.le_of_ble_eq_true rfl, Nat.le_of_ble_eq_true rfl⟩ rfl) hS (fun H locs hP hS => ?_)
      refine lv_astore_n (lv' := [(2, .ref (G 1 q8)), (0, .ref (G 0 0)), (1, .int p0)]) hx hb dX3_save_9 rfl hl (by decide) rfl (fun ls hl => ?_)
      refine lv_aload_n hx hb dX3_save_10 rfl (lv_at hl 0 rfl) ?_
      refine lv_ifnull hx hb dX3_save_11 ?_
      refine lv_iload_n hx hb dX3_save_14 rfl (lv_at hl 2 rfl) ?_
      refine lv_if_lt (tgt := 42) hx hb dX3_save_15 (by decide) (fun hc => ?_) (fun hc => ?_)
      · have hf := zif_p hf hc
        refine lv_aload_n hx hb dX3_save_42 rfl (lv_at hl 1 rfl) ?_
        refine z_get hx hb hts (fun w h => List.mem_cons_of_mem _ (ziX3 w h)) hown hK hP (zV_0 (by decide)) rfl rfl 4 (by decide) (List.mem_cons_of_mem _ m_450) rfl rfl dX3_save_43 ?_
        refine z_get hx hb hts (fun w h => List.mem_cons_of_mem _ (ziX2 w h)) hown hK hP (zV_r (by decide) (by decide) (by decide)) rfl rfl 0 (by decide) (List.mem_cons_of_mem _ m_68) rfl rfl dX3_save_46 ?_
        obtain ⟨q1, q2⟩ := zs_i hf
        subst q1; subst q2
        exact z_iret hx hb hr rfl hP hS hlocks (Nat.le_of_ble_eq_true rfl) (Nat.le_of_ble_eq_true rfl) dX3_save_49
      · have hf := zif_n hf hc
        refine lv_iload_n hx hb dX3_save_18 rfl (lv_at hl 2 rfl) ?_
        refine lv_aload_n hx hb dX3_save_19 rfl (lv_at hl 1 rfl) ?_
        refine z_get hx hb hts (fun w h => List.mem_cons_of_mem _ (ziX3 w h)) hown hK hP (zV_0 (by decide)) rfl rfl 9 (by decide) (List.mem_cons_of_mem _ m_455) rfl rfl dX3_save_20 ?_
        refine z_alen (v := 2) hx hb hK hP (zV_0 (by decide)) 2 rfl rfl rfl dX3_save_23 ?_
        refine lv_icmp_ge (tgt := 42) hx hb dX3_save_24 (by decide) (fun hc => ?_) (fun hc => ?_)
        · have hf := zif_p hf hc
          refine lv_aload_n hx hb dX3_save_42 rfl (lv_at hl 1 rfl) ?_
          refine z_get hx hb hts (fun w h => List.mem_cons_of_mem _ (ziX3 w h)) hown hK hP (zV_0 (by decide)) rfl rfl 4 (by decide) (List.mem_cons_of_mem _ m_450) rfl rfl dX3_save_43 ?_
          refine z_get hx hb hts (fun w h => List.mem_cons_of_mem _ (ziX2 w h)) hown hK hP (zV_r (by decide) (by decide) (by decide)) rfl rfl 0 (by decide) (List.mem_cons_of_mem _ m_68) rfl rfl dX3_save_46 ?_
          obtain ⟨q1, q2⟩ := zs_i hf
          subst q1; subst q2
          exact z_iret hx hb hr rfl hP hS hlocks (Nat.le_of_ble_eq_true rfl) (Nat.le_of_ble_eq_true rfl) dX3_save_49
        · have hf := zif_n hf hc
          refine lv_aload_n hx hb dX3_save_27 rfl (lv_at hl 0 rfl) ?_
          refine lv_aload_n hx hb dX3_save_28 rfl (lv_at hl 1 rfl) ?_
          refine z_get hx hb hts (fun w h => List.mem_cons_of_mem _ (ziX3 w h)) hown hK hP (zV_0 (by decide)) rfl rfl 4 (by decide) (List.mem_cons_of_mem _ m_450) rfl rfl dX3_save_29 ?_
          obtain ⟨v11, T10, h12, hf⟩ := zb_i hf
          refine z_ok (z_runV (As := [.ref (G 1 0)]) (rest := []) F k_X2_copyFrom m_436 (c_X2_copyFrom q8 h9 0 (by decide) T5 T10 _ h12) hP hS (zV_r (by decide) (by decide) h9) rfl rfl rfl rfl hl.1 (Nat.le_of_ble_eq_true rfl) dX3_save_32 (Nat.le_of_ble_eq_true rfl) ⟨Nat.le_of_ble_eq_true rfl, Nat.le_of_ble_eq_true rfl⟩ rfl) hS (fun H locs hP hS => ?_)
          refine lv_aload_n hx hb dX3_save_35 rfl (lv_at hl 1 rfl) ?_
          refine z_get hx hb hts (fun w h => List.mem_cons_of_mem _ (ziX3 w h)) hown hK hP (zV_0 (by decide)) rfl rfl 9 (by decide) (List.mem_cons_of_mem _ m_455) rfl rfl dX3_save_36 ?_
          refine lv_iload_n hx hb dX3_save_39 rfl (lv_at hl 2 rfl) ?_
          refine lv_iconst (v := 1) hx hb dX3_save_40 (by decide) ?_
          obtain ⟨h13, hf⟩ := zif_c hf
          obtain ⟨T14, eT14, hf⟩ := zl_i hf
          refine z_zast hx hb hK hP hG hS (zV_0 (by decide)) rfl (zin_i h13) rfl dX3_save_41 (fun H locs hP hS => ?_)
          rw [← eT14] at hP
          refine lv_aload_n hx hb dX3_save_42 rfl (lv_at hl 1 rfl) ?_
          refine z_get hx hb hts (fun w h => List.mem_cons_of_mem _ (ziX3 w h)) hown hK hP (zV_0 (by decide)) rfl rfl 4 (by decide) (List.mem_cons_of_mem _ m_450) rfl rfl dX3_save_43 ?_
          refine z_get hx hb hts (fun w h => List.mem_cons_of_mem _ (ziX2 w h)) hown hK hP (zV_r (by decide) (by decide) (by decide)) rfl rfl 0 (by decide) (List.mem_cons_of_mem _ m_68) rfl rfl dX3_save_46 ?_
          obtain ⟨q1, q2⟩ := zs_i hf
          subst q1; subst q2
          exact z_iret hx hb hr rfl hP hS hlocks (Nat.le_of_ble_eq_true rfl) (Nat.le_of_ble_eq_true rfl) dX3_save_49
  · cases hf
    exact z_ex (z_runS (As := [.int p0]) (rest := []) F k_X3_needSlot m_482 (c_X3_needSlot p0 T T' _ h3) hP hS rfl rfl hl.1 (Nat.le_of_ble_eq_true rfl) dX3_save_1 (Nat.le_of_ble_eq_true rfl) ⟨Nat.le_of_ble_eq_true rfl, Nat.le_of_ble_eq_true rfl⟩ rfl) hS hex hlocks rfl (Nat.le_of_ble_eq_true rfl) (Nat.le_of_ble_eq_true rfl)
