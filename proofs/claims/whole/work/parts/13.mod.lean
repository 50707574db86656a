/-! METHODS of the model, by program -/
def lp_X4_spellsKey_2 (w1 : Int32) : Nat → Int32 → zT → Option ((Int32) × zT)
  | 0, _, _ => none
  | n + 1, u2, T => (if 6 ≤ u2 then some (u2, T) else zl ((8 * w1) + u2) fun x2 => if zin x2 80 = true then if zin u2 6 = true then zl (wA T 6 0 (upd (T.2 6 0) u2.toNatClampNeg (T.2 1 0 x2.toNatClampNeg))) fun T4 => zl (u2 + 1) fun x5 => lp_X4_spellsKey_2 w1 n x5 T4 else none else none)
def f_X4_spellsKey (p0 : Int32) (T : zT) : Option (Unit × zT) := zb (lp_X4_spellsKey_2 p0 2000 0 T) fun v7 T6 => some ((), T6)
set_option maxHeartbeats 4000000 in
set_option maxRecDepth 100000 in
theorem l_X4_spellsKey_2 {p : Program} {l : Launch} {e : Env} {s : State} {m : MethodId} {args : Array Value} {below : List Frame} {meth : Method} {c : Code} {Q : State → Prop} {D : va_G} {Y : Nat → ClassId} {S V : Nat → Nat} {G : Nat → Nat → Nat} {A : Nat → Prop} {c0 : Cond} {mc ms cells slots : Nat} (F : zF 1 0 mc ms p l s m args c cX4_spellsKey 3 RX4 c0 D Y S V G A) (hcs : cells ≤ mc ∧ slots ≤ ms) (w1 : Int32) :
    ∀ (n : Nat) (u2 : Int32) (T : zT) (o : (Int32) × zT) (H : Heap) (locs : List Loc) (ls : Array Slot), lp_X4_spellsKey_2 w1 n u2 T = some o → zP 1 D Y G T H → va_S A s.heap H locs → lv_has ls 3 [(0, .ref (G 0 0)), (1, .int w1), (2, .int u2)] → (∀ (H : Heap) (locs : List Loc) (ls : Array Slot), zP 1 D Y G o.2 H → va_S A s.heap H locs → lv_has ls 3 [(0, .ref (G 0 0)), (1, .int w1), (2, .int o.1)] → W p l e (zR 0 mc ms) s m args below meth c H locs cells slots Q (F0 m 31 ls [])) → W p l e (zR 0 mc ms) s m args below meth c H locs cells slots Q (F0 m 2 ls []) := by
  obtain ⟨hx, hb, hml, hown, hts, hl9, hG, hK, hA⟩ := id F
  intro n
  induction n with
  | zero =>
    intro u2 T o H locs ls hf
    rw [lp_X4_spellsKey_2] at hf
    cases hf
  | succ n ih =>
    intro u2 T o H locs ls hf hP hS hl k0_
    rw [lp_X4_spellsKey_2] at hf
    refine lv_iload_n hx hb dX4_spellsKey_2 rfl (lv_at hl 2 rfl) ?_
    refine lv_bipush (v := 6) hx hb dX4_spellsKey_3 (by decide) ?_
    refine lv_icmp_ge (tgt := 31) hx hb dX4_spellsKey_5 (by decide) (fun hc => ?_) (fun hc => ?_)
    · have hf := zif_p hf hc
      cases hf
      exact k0_ _ _ _ hP hS (lv_sub hl [0, 1, 2] rfl)
    · have hf := zif_n hf hc
      refine lv_aload_n hx hb dX4_spellsKey_8 rfl (lv_at hl 0 rfl) ?_
      refine z_get hx hb hts (fun w h => List.mem_cons_of_mem _ (ziX4 w h)) hown hK hP (zV_m (by decide)) rfl rfl 8 (by decide) (List.mem_cons_of_mem _ m_1149) rfl rfl dX4_spellsKey_9 ?_
      refine lv_iload_n hx hb dX4_spellsKey_12 rfl (lv_at hl 2 rfl) ?_
      refine lv_aload_n hx hb dX4_spellsKey_13 rfl (lv_at hl 0 rfl) ?_
      refine z_get hx hb hts (fun w h => List.mem_cons_of_mem _ (ziX4 w h)) hown hK hP (zV_m (by decide)) rfl rfl 0 (by decide) (List.mem_cons_of_mem _ m_1141) rfl rfl dX4_spellsKey_14 ?_
      refine lv_bipush (v := 8) hx hb dX4_spellsKey_17 (by decide) ?_
      refine lv_iload_n hx hb dX4_spellsKey_19 rfl (lv_at hl 1 rfl) ?_
      refine lv_imul hx hb dX4_spellsKey_20 ?_
      refine lv_iload_n hx hb dX4_spellsKey_21 rfl (lv_at hl 2 rfl) ?_
      refine lv_iadd hx hb dX4_spellsKey_22 ?_
      obtain ⟨x2, ex2, hf⟩ := zl_i hf
      refine z_topi ex2 ?_
      obtain ⟨h1, hf⟩ := zif_c hf
      refine z_iald hx hb hK hP (zIA_m (by decide) (by decide)) (zin_i h1) dX4_spellsKey_23 ?_
      obtain ⟨h3, hf⟩ := zif_c hf
      obtain ⟨T4, eT4, hf⟩ := zl_i hf
      refine z_iast hx hb hK hP hG hS (zIA_m (by decide) (by decide)) (zin_i h3) dX4_spellsKey_24 (fun H locs hP hS => ?_)
      rw [← eT4] at hP
      obtain ⟨x5, ex5, hf⟩ := zl_i hf
      refine lv_iinc (v := x5) (lv' := [(2, .int x5), (0, .ref (G 0 0)), (1, .int w1)]) hx hb dX4_spellsKey_25 hl (k := 2) rfl (by rw [ex5]; rfl) (by decide) rfl (fun ls hl => ?_)
      refine lv_goto (tgt := 2) hx hb dX4_spellsKey_28 (by decide) ?_
      exact ih x5 _ _ _ _ _ hf hP hS (lv_sub hl [1, 2, 0] rfl) k0_
set_option maxHeartbeats 4000000 in
set_option maxRecDepth 100000 in
theorem c_X4_spellsKey (p0 : Int32) (T T' : zT) (v : Unit) (hf : f_X4_spellsKey p0 T = some (v, T')) : zC 1 yX4_spellsKey cX4_spellsKey 3 none 0  0 0  (fun G _ => [.ref (G 0 0), .int p0]) T (fun _ => .inl none) T' := by
  intro l D Y S V G A hl9 hG
  refine vx_ofW (cc := cX4_spellsKey) (maxL := 3) (ret := none) (by decide) rfl ?_
  intro p e s m args below meth c s₁ B hml hex hv
  obtain ⟨rfl, hK, hP, hA⟩ := hv
  have hx := B.exec
  have hb := B.bytes
  have hr := B.returns
  have hlocks := B.notSynchronized
  have hown : s.vm.findClass RX4 = some m.cls := findClass_of_methodNamed B.named
  have hts := atoms_spec (ws := Cond.code yX4_spellsKey cX4_spellsKey 3 none :: zWS) B.pre
  have F : zF 1 0  0 0  p l s m _ c cX4_spellsKey 3 RX4 (Cond.code yX4_spellsKey cX4_spellsKey 3 none) D Y S V G A := ⟨hx, hb, hml, hown, hts, hl9, hG, hK, hA⟩
  have hS : va_S A s.heap s.heap [] := va_S.rf
  have hl := lv_entry ([.ref (G 0 0), .int p0]) (n := 3) (Nat.le_of_ble_eq_true rfl)
  rw [lg_entry_eq]
  generalize (lg_sl ([.ref (G 0 0), .int p0]) ++ List.replicate (3 - (lg_sl ([.ref (G 0 0), .int p0])).length) Slot.unset).toArray = ls at hl ⊢
  have hl : lv_has ls 3 [(0, .ref (G 0 0)), (1, .int p0)] := hl
  unfold f_X4_spellsKey at hf
  refine lv_iconst (v := 0) hx hb dX4_spellsKey_0 (by decide) ?_
  refine lv_istore_n (lv' := [(2, .int 0), (0, .ref (G 0 0)), (1, .int p0)]) hx hb dX4_spellsKey_1 rfl hl (by decide) rfl (fun ls hl => ?_)
  obtain ⟨v7, T6, h8, hf⟩ := zb_i hf
  refine l_X4_spellsKey_2 F ⟨Nat.le_of_ble_eq_true rfl, Nat.le_of_ble_eq_true rfl⟩ p0 2000 0 _ _ _ _ _ h8 hP hS (lv_sub hl [1, 2, 0] rfl) (fun H locs ls hP hS hl => ?_)
  obtain ⟨q1, q2⟩ := zs_i hf
  subst q1; subst q2
  exact z_vret hx hb hr rfl hP hS hlocks (Nat.le_of_ble_eq_true rfl) (Nat.le_of_ble_eq_true rfl) dX4_spellsKey_31

def f_X4_thrown  (T : zT) : Option (Int32 × zT) := some ((T.1 0 0 1), T)
set_option maxHeartbeats 4000000 in
set_option maxRecDepth 100000 in
theorem c_X4_thrown  (T T' : zT) (v : Int32) (hf : f_X4_thrown  T = some (v, T')) : zC 1 yX4_thrown cX4_thrown 1 (some .int) 0  0 0  (fun G _ => [.ref (G 0 0)]) T (fun _ => .inl (some (.int v))) T' := by
  intro l D Y S V G A hl9 hG
  refine vx_ofW (cc := cX4_thrown) (maxL := 1) (ret := (some .int)) (by decide) rfl ?_
  intro p e s m args below meth c s₁ B hml hex hv
  obtain ⟨rfl, hK, hP, hA⟩ := hv
  have hx := B.exec
  have hb := B.bytes
  have hr := B.returns
  have hlocks := B.notSynchronized
  have hown : s.vm.findClass RX4 = some m.cls := findClass_of_methodNamed B.named
  have hts := atoms_spec (ws := Cond.code yX4_thrown cX4_thrown 1 (some .int) :: zWS) B.pre
  have F : zF 1 0  0 0  p l s m _ c cX4_thrown 1 RX4 (Cond.code yX4_thrown cX4_thrown 1 (some .int)) D Y S V G A := ⟨hx, hb, hml, hown, hts, hl9, hG, hK, hA⟩
  have hS : va_S A s.heap s.heap [] := va_S.rf
  have hl := lv_entry ([.ref (G 0 0)]) (n := 1) (Nat.le_of_ble_eq_true rfl)
  rw [lg_entry_eq]
  generalize (lg_sl ([.ref (G 0 0)]) ++ List.replicate (1 - (lg_sl ([.ref (G 0 0)])).length) Slot.unset).toArray = ls at hl ⊢
  have hl : lv_has ls 1 [(0, .ref (G 0 0))] := hl
  unfold f_X4_thrown at hf
  refine lv_aload_n hx hb dX4_thrown_0 rfl (lv_at hl 0 rfl) ?_
  refine z_get hx hb hts (fun w h => List.mem_cons_of_mem _ (ziX4 w h)) hown hK hP (zV_m (by decide)) rfl rfl 1 (by decide) (List.mem_cons_of_mem _ m_1142) rfl rfl dX4_thrown_1 ?_
  obtain ⟨q1, q2⟩ := zs_i hf
  subst q1; subst q2
  exact z_iret hx hb hr rfl hP hS hlocks (Nat.le_of_ble_eq_true rfl) (Nat.le_of_ble_eq_true rfl) dX4_thrown_4

def f_X4_refuse (p0 : Int32) (T : zT) : Option (Int32 × zT) := zl (wI T 0 0 1 p0) fun T1 => some (0, T1)
set_option maxHeartbeats 4000000 in
set_option maxRecDepth 100000 in
theorem c_X4_refuse (p0 : Int32) (T T' : zT) (v : Int32) (hf : f_X4_refuse p0 T = some (v, T')) : zC 1 yX4_refuse cX4_refuse 2 (some .int) 0  0 0  (fun G _ => [.ref (G 0 0), .int p0]) T (fun _ => .inl (some (.int v))) T' := by
  intro l D Y S V G A hl9 hG
  refine vx_ofW (cc := cX4_refuse) (maxL := 2) (ret := (some .int)) (by decide) rfl ?_
  intro p e s m args below meth c s₁ B hml hex hv
  obtain ⟨rfl, hK, hP, hA⟩ := hv
  have hx := B.exec
  have hb := B.bytes
  have hr := B.returns
  have hlocks := B.notSynchronized
  have hown : s.vm.findClass RX4 = some m.cls := findClass_of_methodNamed B.named
  have hts := atoms_spec (ws := Cond.code yX4_refuse cX4_refuse 2 (some .int) :: zWS) B.pre
  have F : zF 1 0  0 0  p l s m _ c cX4_refuse 2 RX4 (Cond.code yX4_refuse cX4_refuse 2 (some .int)) D Y S V G A := ⟨hx, hb, hml, hown, hts, hl9, hG, hK, hA⟩
  have hS : va_S A s.heap s.heap [] := va_S.rf
  have hl := lv_entry ([.ref (G 0 0), .int p0]) (n := 2) (Nat.le_of_ble_eq_true rfl)
  rw [lg_entry_eq]
  generalize (lg_sl ([.ref (G 0 0), .int p0]) ++ List.replicate (2 - (lg_sl ([.ref (G 0 0), .int p0])).length) Slot.unset).toArray = ls at hl ⊢
  have hl : lv_has ls 2 [(0, .ref (G 0 0)), (1, .int p0)] := hl
  unfold f_X4_refuse at hf
  refine lv_aload_n hx hb dX4_refuse_0 rfl (lv_at hl 0 rfl) ?_
  refine lv_iload_n hx hb dX4_refuse_1 rfl (lv_at hl 1 rfl) ?_
  obtain ⟨T1, eT1, hf⟩ := zl_i hf
  refine z_put hx hb hts (fun w h => List.mem_cons_of_mem _ (ziX4 w h)) tyX4 tyX4_ok nmX4 hown hK hP hG hS (zV_m (by decide)) rfl rfl 1 (by decide) (List.mem_cons_of_mem _ m_1142) rfl rfl (by decide +kernel) (Nat.le_of_ble_eq_true rfl) rfl dX4_refuse_2 (fun H locs hP hS => ?_)
  rw [← eT1] at hP
  refine lv_iconst (v := 0) hx hb dX4_refuse_5 (by decide) ?_
  obtain ⟨q1, q2⟩ := zs_i hf
  subst q1; subst q2
  exact z_iret hx hb hr rfl hP hS hlocks (Nat.le_of_ble_eq_true rfl) (Nat.le_of_ble_eq_true rfl) dX4_refuse_6

def f_X4_told (p0 : Int32) (T : zT) : Option (Int32 × zT) := zl (wI T 0 0 1 0) fun T1 => some (p0, T1)
set_option maxHeartbeats 4000000 in
set_option maxRecDepth 100000 in
theorem c_X4_told (p0 : Int32) (T T' : zT) (v : Int32) (hf : f_X4_told p0 T = some (v, T')) : zC 1 yX4_told cX4_told 2 (some .int) 0  0 0  (fun G _ => [.ref (G 0 0), .int p0]) T (fun _ => .inl (some (.int v))) T' := by
  intro l D Y S V G A hl9 hG
  refine vx_ofW (cc := cX4_told) (maxL := 2) (ret := (some .int)) (by decide) rfl ?_
  intro p e s m args below meth c s₁ B hml hex hv
  obtain ⟨rfl, hK, hP, hA⟩ := hv
  have hx := B.exec
  have hb := B.bytes
  have hr := B.returns
  have hlocks := B.notSynchronized
  have hown : s.vm.findClass RX4 = some m.cls := findClass_of_methodNamed B.named
  have hts := atoms_spec (ws := Cond.code yX4_told cX4_told 2 (some .int) :: zWS) B.pre
  have F : zF 1 0  0 0  p l s m _ c cX4_told 2 RX4 (Cond.code yX4_told cX4_told 2 (some .int)) D Y S V G A := ⟨hx, hb, hml, hown, hts, hl9, hG, hK, hA⟩
  have hS : va_S A s.heap s.heap [] := va_S.rf
  have hl := lv_entry ([.ref (G 0 0), .int p0]) (n := 2) (Nat.le_of_ble_eq_true rfl)
  rw [lg_entry_eq]
  generalize (lg_sl ([.ref (G 0 0), .int p0]) ++ List.replicate (2 - (lg_sl ([.ref (G 0 0), .int p0])).length) Slot.unset).toArray = ls at hl ⊢
  have hl : lv_has ls 2 [(0, .ref (G 0 0)), (1, .int p0)] := hl
  unfold f_X4_told at hf
  refine lv_aload_n hx hb dX4_told_0 rfl (lv_at hl 0 rfl) ?_
  refine lv_iconst (v := 0) hx hb dX4_told_1 (by decide) ?_
  obtain ⟨T1, eT1, hf⟩ := zl_i hf
  refine z_put hx hb hts (fun w h => List.mem_cons_of_mem _ (ziX4 w h)) tyX4 tyX4_ok nmX4 hown hK hP hG hS (zV_m (by decide)) rfl rfl 1 (by decide) (List.mem_cons_of_mem _ m_1142) rfl rfl (by decide +kernel) (Nat.le_of_ble_eq_true rfl) rfl dX4_told_2 (fun H locs hP hS => ?_)
  rw [← eT1] at hP
  refine lv_iload_n hx hb dX4_told_5 rfl (lv_at hl 1 rfl) ?_
  obtain ⟨q1, q2⟩ := zs_i hf
  subst q1; subst q2
  exact z_iret hx hb hr rfl hP hS hlocks (Nat.le_of_ble_eq_true rfl) (Nat.le_of_ble_eq_true rfl) dX4_told_6

def f_X4_in (p0 : Int32) (p1 : Int32) (p2 : Int32) (T : zT) : Option (Int32 × zT) := (if p0 < p1 then some (0, T) else (if p2 < p0 then some (0, T) else some (1, T)))
set_option maxHeartbeats 4000000 in
set_option maxRecDepth 100000 in
theorem c_X4_in (p0 : Int32) (p1 : Int32) (p2 : Int32) (T T' : zT) (v : Int32) (hf : f_X4_in p0 p1 p2 T = some (v, T')) : zC 1 yX4_in cX4_in 3 (some .boolean) 0  0 0  (fun _ _ => [.int p0, .int p1, .int p2]) T (fun _ => .inl (some (.int v))) T' := by
  intro l D Y S V G A hl9 hG
  refine vx_ofW (cc := cX4_in) (maxL := 3) (ret := (some .boolean)) (by decide) rfl ?_
  intro p e s m args below meth c s₁ B hml hex hv
  obtain ⟨rfl, hK, hP, hA⟩ := hv
  have hx := B.exec
  have hb := B.bytes
  have hr := B.returns
  have hlocks := B.notSynchronized
  have hown : s.vm.findClass RX4 = some m.cls := findClass_of_methodNamed B.named
  have hts := atoms_spec (ws := Cond.code yX4_in cX4_in 3 (some .boolean) :: zWS) B.pre
  have F : zF 1 0  0 0  p l s m _ c cX4_in 3 RX4 (Cond.code yX4_in cX4_in 3 (some .boolean)) D Y S V G A := ⟨hx, hb, hml, hown, hts, hl9, hG, hK, hA⟩
  have hS : va_S A s.heap s.heap [] := va_S.rf
  have hl := lv_entry ([.int p0, .int p1, .int p2]) (n := 3) (Nat.le_of_ble_eq_true rfl)
  rw [lg_entry_eq]
  generalize (lg_sl ([.int p0, .int p1, .int p2]) ++ List.replicate (3 - (lg_sl ([.int p0, .int p1, .int p2])).length) Slot.unset).toArray = ls at hl ⊢
  have hl : lv_has ls 3 [(0, .int p0), (1, .int p1), (2, .int p2)] := hl
  unfold f_X4_in at hf
  refine lv_iload_n hx hb dX4_in_0 rfl (lv_at hl 0 rfl) ?_
  refine lv_iload_n hx hb dX4_in_1 rfl (lv_at hl 1 rfl) ?_
  refine lv_icmp_lt (tgt := 14) hx hb dX4_in_2 (by decide) (fun hc => ?_) (fun hc => ?_)
  · have hf := zif_p hf hc
    refine lv_iconst (v := 0) hx hb dX4_in_14 (by decide) ?_
    obtain ⟨q1, q2⟩ := zs_i hf
    subst q1; subst q2
    exact z_zret hx hb hr (Or.inl rfl) rfl hP hS hlocks (Nat.le_of_ble_eq_true rfl) (Nat.le_of_ble_eq_true rfl) dX4_in_15
  · have hf := zif_n hf hc
    refine lv_iload_n hx hb dX4_in_5 rfl (lv_at hl 0 rfl) ?_
    refine lv_iload_n hx hb dX4_in_6 rfl (lv_at hl 2 rfl) ?_
    refine lv_icmp_gt (tgt := 14) hx hb dX4_in_7 (by decide) (fun hc => ?_) (fun hc => ?_)
    · have hf := zif_p hf hc
      refine lv_iconst (v := 0) hx hb dX4_in_14 (by decide) ?_
      obtain ⟨q1, q2⟩ := zs_i hf
      subst q1; subst q2
      exact z_zret hx hb hr (Or.inl rfl) rfl hP hS hlocks (Nat.le_of_ble_eq_true rfl) (Nat.le_of_ble_eq_true rfl) dX4_in_15
    · have hf := zif_n hf hc
      refine lv_iconst (v := 1) hx hb dX4_in_10 (by decide) ?_
      refine lv_goto (tgt := 15) hx hb dX4_in_11 (by decide) ?_
      obtain ⟨q1, q2⟩ := zs_i hf
      subst q1; subst q2
      exact z_zret hx hb hr (Or.inr rfl) rfl hP hS hlocks (Nat.le_of_ble_eq_true rfl) (Nat.le_of_ble_eq_true rfl) dX4_in_15

def f_X4_without (p0 : Int32) (T : zT) : Option (Int32 × zT) := (if 0 ≤ p0 then some (p0, T) else some ((-p0), T))
set_option maxHeartbeats 4000000 in
set_option maxRecDepth 100000 in
theorem c_X4_without (p0 : Int32) (T T' : zT) (v : Int32) (hf : f_X4_without p0 T = some (v, T')) : zC 1 yX4_without cX4_without 1 (some .int) 0  0 0  (fun _ _ => [.int p0]) T (fun _ => .inl (some (.int v))) T' := by
  intro l D Y S V G A hl9 hG
  refine vx_ofW (cc := cX4_without) (maxL := 1) (ret := (some .int)) (by decide) rfl ?_
  intro p e s m args below meth c s₁ B hml hex hv
  obtain ⟨rfl, hK, hP, hA⟩ := hv
  have hx := B.exec
  have hb := B.bytes
  have hr := B.returns
  have hlocks := B.notSynchronized
  have hown : s.vm.findClass RX4 = some m.cls := findClass_of_methodNamed B.named
  have hts := atoms_spec (ws := Cond.code yX4_without cX4_without 1 (some .int) :: zWS) B.pre
  have F : zF 1 0  0 0  p l s m _ c cX4_without 1 RX4 (Cond.code yX4_without cX4_without 1 (some .int)) D Y S V G A := ⟨hx, hb, hml, hown, hts, hl9, hG, hK, hA⟩
  have hS : va_S A s.heap s.heap [] := va_S.rf
  have hl := lv_entry ([.int p0]) (n := 1) (Nat.le_of_ble_eq_true rfl)
  rw [lg_entry_eq]
  generalize (lg_sl ([.int p0]) ++ List.replicate (1 - (lg_sl ([.int p0])).length) Slot.unset).toArray = ls at hl ⊢
  have hl : lv_has ls 1 [(0, .int p0)] := hl
  unfold f_X4_without at hf
  refine lv_iload_n hx hb dX4_without_0 rfl (lv_at hl 0 rfl) ?_
  refine lv_if_ge (tgt := 9) hx hb dX4_without_1 (by decide) (fun hc => ?_) (fun hc => ?_)
  · have hf := zif_p hf hc
    refine lv_iload_n hx hb dX4_without_9 rfl (lv_at hl 0 rfl) ?_
    obtain ⟨q1, q2⟩ := zs_i hf
    subst q1; subst q2
    exact z_iret hx hb hr rfl hP hS hlocks (Nat.le_of_ble_eq_true rfl) (Nat.le_of_ble_eq_true rfl) dX4_without_10
  · have hf := zif_n hf hc
    refine lv_iload_n hx hb dX4_without_4 rfl (lv_at hl 0 rfl) ?_
    refine lv_ineg hx hb dX4_without_5 ?_
    refine lv_goto (tgt := 10) hx hb dX4_without_6 (by decide) ?_
    obtain ⟨q1, q2⟩ := zs_i hf
    subst q1; subst q2
    exact z_iret hx hb hr rfl hP hS hlocks (Nat.le_of_ble_eq_true rfl) (Nat.le_of_ble_eq_true rfl) dX4_without_10

def f_X4_c (p0 : Int32) (T : zT) : Option (Int32 × zT) := some ((21 + (13 * p0)), T)
set_option maxHeartbeats 4000000 in
set_option maxRecDepth 100000 in
theorem c_X4_c (p0 : Int32) (T T' : zT) (v : Int32) (hf : f_X4_c p0 T = some (v, T')) : zC 1 yX4_c cX4_c 1 (some .int) 0  0 0  (fun _ _ => [.int p0]) T (fun _ => .inl (some (.int v))) T' := by
  intro l D Y S V G A hl9 hG
  refine vx_ofW (cc := cX4_c) (maxL := 1) (ret := (some .int)) (by decide) rfl ?_
  intro p e s m args below meth c s₁ B hml hex hv
  obtain ⟨rfl, hK, hP, hA⟩ := hv
  have hx := B.exec
  have hb := B.bytes
  have hr := B.returns
  have hlocks := B.notSynchronized
  have hown : s.vm.findClass RX4 = some m.cls := findClass_of_methodNamed B.named
  have hts := atoms_spec (ws := Cond.code yX4_c cX4_c 1 (some .int) :: zWS) B.pre
  have F : zF 1 0  0 0  p l s m _ c cX4_c 1 RX4 (Cond.code yX4_c cX4_c 1 (some .int)) D Y S V G A := ⟨hx, hb, hml, hown, hts, hl9, hG, hK, hA⟩
  have hS : va_S A s.heap s.heap [] := va_S.rf
  have hl := lv_entry ([.int p0]) (n := 1) (Nat.le_of_ble_eq_true rfl)
  rw [lg_entry_eq]
  generalize (lg_sl ([.int p0]) ++ List.replicate (1 - (lg_sl ([.int p0])).length) Slot.unset).toArray = ls at hl ⊢
  have hl : lv_has ls 1 [(0, .int p0)] := hl
  unfold f_X4_c at hf
  refine lv_bipush (v := 21) hx hb dX4_c_0 (by decide) ?_
  refine lv_bipush (v := 13) hx hb dX4_c_2 (by decide) ?_
  refine lv_iload_n hx hb dX4_c_4 rfl (lv_at hl 0 rfl) ?_
  refine lv_imul hx hb dX4_c_5 ?_
  refine lv_iadd hx hb dX4_c_6 ?_
  obtain ⟨q1, q2⟩ := zs_i hf
  subst q1; subst q2
  exact z_iret hx hb hr rfl hP hS hlocks (Nat.le_of_ble_eq_true rfl) (Nat.le_of_ble_eq_true rfl) dX4_c_7

def f_X4_isGarden (p0 : Int32) (T : zT) : Option (Int32 × zT) := zb (f_X4_in p0 0 ((T.2 2 0 4) - 1) T) fun v3 T2 => if v3 = 0 ∨ v3 = 1 then some (v3, T2) else none
set_option maxHeartbeats 4000000 in
set_option maxRecDepth 100000 in
theorem c_X4_isGarden (p0 : Int32) (T T' : zT) (v : Int32) (hf : f_X4_isGarden p0 T = some (v, T')) : zC 1 yX4_isGarden cX4_isGarden 2 (some .boolean) 1  0 0  (fun G _ => [.ref (G 0 0), .int p0]) T (fun _ => .inl (some (.int v))) T' := by
  intro l D Y S V G A hl9 hG
  refine vx_ofW (cc := cX4_isGarden) (maxL := 2) (ret := (some .boolean)) (by decide) rfl ?_
  intro p e s m args below meth c s₁ B hml hex hv
  obtain ⟨rfl, hK, hP, hA⟩ := hv
  have hx := B.exec
  have hb := B.bytes
  have hr := B.returns
  have hlocks := B.notSynchronized
  have hown : s.vm.findClass RX4 = some m.cls := findClass_of_methodNamed B.named
  have hts := atoms_spec (ws := Cond.code yX4_isGarden cX4_isGarden 2 (some .boolean) :: zWS) B.pre
  have F : zF 1 1  0 0  p l s m _ c cX4_isGarden 2 RX4 (Cond.code yX4_isGarden cX4_isGarden 2 (some .boolean)) D Y S V G A := ⟨hx, hb, hml, hown, hts, hl9, hG, hK, hA⟩
  have hS : va_S A s.heap s.heap [] := va_S.rf
  have hl := lv_entry ([.ref (G 0 0), .int p0]) (n := 2) (Nat.le_of_ble_eq_true rfl)
  rw [lg_entry_eq]
  generalize (lg_sl ([.ref (G 0 0), .int p0]) ++ List.replicate (2 - (lg_sl ([.ref (G 0 0), .int p0])).length) Slot.unset).toArray = ls at hl ⊢
  have hl : lv_has ls 2 [(0, .ref (G 0 0)), (1, .int p0)] := hl
  unfold f_X4_isGarden at hf
  refine lv_iload_n hx hb dX4_isGarden_0 rfl (lv_at hl 1 rfl) ?_
  refine lv_iconst (v := 0) hx hb dX4_isGarden_1 (by decide) ?_
  refine lv_aload_n hx hb dX4_isGarden_2 rfl (lv_at hl 0 rfl) ?_
  refine z_get hx hb hts (fun w h => List.mem_cons_of_mem _ (ziX4 w h)) hown hK hP (zV_m (by decide)) rfl rfl 2 (by decide) (List.mem_cons_of_mem _ m_1143) rfl rfl dX4_isGarden_3 ?_
  refine lv_iconst (v := 4) hx hb dX4_isGarden_6 (by decide) ?_
  refine z_iald_ (j := 4) hx hb hK hP (zIA_m (by decide) (by decide)) (by decide) (by decide) dX4_isGarden_7 ?_
  refine lv_iconst (v := 1) hx hb dX4_isGarden_8 (by decide) ?_
  refine lv_isub hx hb dX4_isGarden_9 ?_
  obtain ⟨v3, T2, h4, hf⟩ := zb_i hf
  refine z_ok (z_runS (As := [.int p0, .int 0, .int ((T.2 2 0 4) - 1)]) (rest := []) F k_X4_in m_1238 (c_X4_in p0 0 ((T.2 2 0 4) - 1) T T2 _ h4) hP hS rfl rfl hl.1 (Nat.le_of_ble_eq_true rfl) dX4_isGarden_10 (Nat.le_of_ble_eq_true rfl) ⟨Nat.le_of_ble_eq_true rfl, Nat.le_of_ble_eq_true rfl⟩ rfl) hS (fun H locs hP hS => ?_)
  obtain ⟨h5, hf⟩ := zif_c hf
  obtain ⟨q1, q2⟩ := zs_i hf
  subst q1; subst q2
  exact z_zret hx hb hr h5 rfl hP hS hlocks (Nat.le_of_ble_eq_true rfl) (Nat.le_of_ble_eq_true rfl) dX4_isGarden_13

def f_X4_isChild (p0 : Int32) (T : zT) : Option (Int32 × zT) := zb (f_X4_in p0 0 ((T.2 2 0 5) - 1) T) fun v3 T2 => if v3 = 0 ∨ v3 = 1 then some (v3, T2) else none
set_option maxHeartbeats 4000000 in
set_option maxRecDepth 100000 in
theorem c_X4_isChild (p0 : Int32) (T T' : zT) (v : Int32) (hf : f_X4_isChild p0 T = some (v, T')) : zC 1 yX4_isChild cX4_isChild 2 (some .boolean) 1  0 0  (fun G _ => [.ref (G 0 0), .int p0]) T (fun _ => .inl (some (.int v))) T' := by
  intro l D Y S V G A hl9 hG
  refine vx_ofW (cc := cX4_isChild) (maxL := 2) (ret := (some .boolean)) (by decide) rfl ?_
  intro p e s m args below meth c s₁ B hml hex hv
  obtain ⟨rfl, hK, hP, hA⟩ := hv
  have hx := B.exec
  have hb := B.bytes
  have hr := B.returns
  have hlocks := B.notSynchronized
  have hown : s.vm.findClass RX4 = some m.cls := findClass_of_methodNamed B.named
  have hts := atoms_spec (ws := Cond.code yX4_isChild cX4_isChild 2 (some .boolean) :: zWS) B.pre
  have F : zF 1 1  0 0  p l s m _ c cX4_isChild 2 RX4 (Cond.code yX4_isChild cX4_isChild 2 (some .boolean)) D Y S V G A := ⟨hx, hb, hml, hown, hts, hl9, hG, hK, hA⟩
  have hS : va_S A s.heap s.heap [] := va_S.rf
  have hl := lv_entry ([.ref (G 0 0), .int p0]) (n := 2) (Nat.le_of_ble_eq_true rfl)
  rw [lg_entry_eq]
  generalize (lg_sl ([.ref (G 0 0), .int p0]) ++ List.replicate (2 - (lg_sl ([.ref (G 0 0), .int p0])).length) Slot.unset).toArray = ls at hl ⊢
  have hl : lv_has ls 2 [(0, .ref (G 0 0)), (1, .int p0)] := hl
  unfold f_X4_isChild at hf
  refine lv_iload_n hx hb dX4_isChild_0 rfl (lv_at hl 1 rfl) ?_
  refine lv_iconst (v := 0) hx hb dX4_isChild_1 (by decide) ?_
  refine lv_aload_n hx hb dX4_isChild_2 rfl (lv_at hl 0 rfl) ?_
  refine z_get hx hb hts (fun w h => List.mem_cons_of_mem _ (ziX4 w h)) hown hK hP (zV_m (by decide)) rfl rfl 2 (by decide) (List.mem_cons_of_mem _ m_1143) rfl rfl dX4_isChild_3 ?_
  refine lv_iconst (v := 5) hx hb dX4_isChild_6 (by decide) ?_
  refine z_iald_ (j := 5) hx hb hK hP (zIA_m (by decide) (by decide)) (by decide) (by decide) dX4_isChild_7 ?_
  refine lv_iconst (v := 1) hx hb dX4_isChild_8 (by decide) ?_
  refine lv_isub hx hb dX4_isChild_9 ?_
  obtain ⟨v3, T2, h4, hf⟩ := zb_i hf
  refine z_ok (z_runS (As := [.int p0, .int 0, .int ((T.2 2 0 5) - 1)]) (rest := []) F k_X4_in m_1238 (c_X4_in p0 0 ((T.2 2 0 5) - 1) T T2 _ h4) hP hS rfl rfl hl.1 (Nat.le_of_ble_eq_true rfl) dX4_isChild_10 (Nat.le_of_ble_eq_true rfl) ⟨Nat.le_of_ble_eq_true rfl, Nat.le_of_ble_eq_true rfl⟩ rfl) hS (fun H locs hP hS => ?_)
  obtain ⟨h5, hf⟩ := zif_c hf
  obtain ⟨q1, q2⟩ := zs_i hf
  subst q1; subst q2
  exact z_zret hx hb hr h5 rfl hP hS hlocks (Nat.le_of_ble_eq_true rfl) (Nat.le_of_ble_eq_true rfl) dX4_isChild_13

def f_X4_isDate (p0 : Int32) (p1 : Int32) (T : zT) : Option (Int32 × zT) := zb (f_X4_in p0 1 12 T) fun v2 T1 => (if v2 = 0 then some (0, T1) else zb (f_X4_in p1 1 30 T1) fun v5 T4 => (if v5 = 0 then some (0, T4) else some (1, T4)))
set_option maxHeartbeats 4000000 in
set_option maxRecDepth 100000 in
theorem c_X4_isDate (p0 : Int32) (p1 : Int32) (T T' : zT) (v : Int32) (hf : f_X4_isDate p0 p1 T = some (v, T')) : zC 1 yX4_isDate cX4_isDate 2 (some .boolean) 1  0 0  (fun _ _ => [.int p0, .int p1]) T (fun _ => .inl (some (.int v))) T' := by
  intro l D Y S V G A hl9 hG
  refine vx_ofW (cc := cX4_isDate) (maxL := 2) (ret := (some .boolean)) (by decide) rfl ?_
  intro p e s m args below meth c s₁ B hml hex hv
  obtain ⟨rfl, hK, hP, hA⟩ := hv
  have hx := B.exec
  have hb := B.bytes
  have hr := B.returns
  have hlocks := B.notSynchronized
  have hown : s.vm.findClass RX4 = some m.cls := findClass_of_methodNamed B.named
  have hts := atoms_spec (ws := Cond.code yX4_isDate cX4_isDate 2 (some .boolean) :: zWS) B.pre
  have F : zF 1 1  0 0  p l s m _ c cX4_isDate 2 RX4 (Cond.code yX4_isDate cX4_isDate 2 (some .boolean)) D Y S V G A := ⟨hx, hb, hml, hown, hts, hl9, hG, hK, hA⟩
  have hS : va_S A s.heap s.heap [] := va_S.rf
  have hl := lv_entry ([.int p0, .int p1]) (n := 2) (Nat.le_of_ble_eq_true rfl)
  rw [lg_entry_eq]
  generalize (lg_sl ([.int p0, .int p1]) ++ List.replicate (2 - (lg_sl ([.int p0, .int p1])).length) Slot.unset).toArray = ls at hl ⊢
  have hl : lv_has ls 2 [(0, .int p0), (1, .int p1)] := hl
  unfold f_X4_isDate at hf
  refine lv_iload_n hx hb dX4_isDate_0 rfl (lv_at hl 0 rfl) ?_
  refine lv_iconst (v := 1) hx hb dX4_isDate_1 (by decide) ?_
  refine lv_bipush (v := 12) hx hb dX4_isDate_2 (by decide) ?_
  obtain ⟨v2, T1, h3, hf⟩ := zb_i hf
  refine z_ok (z_runS (As := [.int p0, .int 1, .int 12]) (rest := []) F k_X4_in m_1238 (c_X4_in p0 1 12 T T1 _ h3) hP hS rfl rfl hl.1 (Nat.le_of_ble_eq_true rfl) dX4_isDate_4 (Nat.le_of_ble_eq_true rfl) ⟨Nat.le_of_ble_eq_true rfl, Nat.le_of_ble_eq_true rfl⟩ rfl) hS (fun H locs hP hS => ?_)
  refine lv_if_eq (tgt := 24) hx hb dX4_isDate_7 (by decide) (fun hc => ?_) (fun hc => ?_)
  · have hf := zif_p hf hc
    refine lv_iconst (v := 0) hx hb dX4_isDate_24 (by decide) ?_
    obtain ⟨q1, q2⟩ := zs_i hf
    subst q1; subst q2
    exact z_zret hx hb hr (Or.inl rfl) rfl hP hS hlocks (Nat.le_of_ble_eq_true rfl) (Nat.le_of_ble_eq_true rfl) dX4_isDate_25
  · have hf := zif_n hf hc
    refine lv_iload_n hx hb dX4_isDate_10 rfl (lv_at hl 1 rfl) ?_
    refine lv_iconst (v := 1) hx hb dX4_isDate_11 (by decide) ?_
    refine lv_bipush (v := 30) hx hb dX4_isDate_12 (by decide) ?_
    obtain ⟨v5, T4, h6, hf⟩ := zb_i hf
    refine z_ok (z_runS (As := [.int p1, .int 1, .int 30]) (rest := []) F k_X4_in m_1238 (c_X4_in p1 1 30 T1 T4 _ h6) hP hS rfl rfl hl.1 (Nat.le_of_ble_eq_true rfl) dX4_isDate_14 (Nat.le_of_ble_eq_true rfl) ⟨Nat.le_of_ble_eq_true rfl, Nat.le_of_ble_eq_true rfl⟩ rfl) hS (fun H locs hP hS => ?_)
    refine lv_if_eq (tgt := 24) hx hb dX4_isDate_17 (by decide) (fun hc => ?_) (fun hc => ?_)
    · have hf := zif_p hf hc
      refine lv_iconst (v := 0) hx hb dX4_isDate_24 (by decide) ?_
      obtain ⟨q1, q2⟩ := zs_i hf
      subst q1; subst q2
      exact z_zret hx hb hr (Or.inl rfl) rfl hP hS hlocks (Nat.le_of_ble_eq_true rfl) (Nat.le_of_ble_eq_true rfl) dX4_isDate_25
    · have hf := zif_n hf hc
      refine lv_iconst (v := 1) hx hb dX4_isDate_20 (by decide) ?_
      refine lv_goto (tgt := 25) hx hb dX4_isDate_21 (by decide) ?_
      obtain ⟨q1, q2⟩ := zs_i hf
      subst q1; subst q2
      exact z_zret hx hb hr (Or.inr rfl) rfl hP hS hlocks (Nat.le_of_ble_eq_true rfl) (Nat.le_of_ble_eq_true rfl) dX4_isDate_25

def f_X4_position (p0 : Int32) (p1 : Int32) (T : zT) : Option (Int32 × zT) := some (((((p0 - 1) * 30) + p1) - 1), T)
set_option maxHeartbeats 4000000 in
set_option maxRecDepth 100000 in
theorem c_X4_position (p0 : Int32) (p1 : Int32) (T T' : zT) (v : Int32) (hf : f_X4_position p0 p1 T = some (v, T')) : zC 1 yX4_position cX4_position 2 (some .int) 0  0 0  (fun _ _ => [.int p0, .int p1]) T (fun _ => .inl (some (.int v))) T' := by
  intro l D Y S V G A hl9 hG
  refine vx_ofW (cc := cX4_position) (maxL := 2) (ret := (some .int)) (by decide) rfl ?_
  intro p e s m args below meth c s₁ B hml hex hv
  obtain ⟨rfl, hK, hP, hA⟩ := hv
  have hx := B.exec
  have hb := B.bytes
  have hr := B.returns
  have hlocks := B.notSynchronized
  have hown : s.vm.findClass RX4 = some m.cls := findClass_of_methodNamed B.named
  have hts := atoms_spec (ws := Cond.code yX4_position cX4_position 2 (some .int) :: zWS) B.pre
  have F : zF 1 0  0 0  p l s m _ c cX4_position 2 RX4 (Cond.code yX4_position cX4_position 2 (some .int)) D Y S V G A := ⟨hx, hb, hml, hown, hts, hl9, hG, hK, hA⟩
  have hS : va_S A s.heap s.heap [] := va_S.rf
  have hl := lv_entry ([.int p0, .int p1]) (n := 2) (Nat.le_of_ble_eq_true rfl)
  rw [lg_entry_eq]
  generalize (lg_sl ([.int p0, .int p1]) ++ List.replicate (2 - (lg_sl ([.int p0, .int p1])).length) Slot.unset).toArray = ls at hl ⊢
  have hl : lv_has ls 2 [(0, .int p0), (1, .int p1)] := hl
  unfold f_X4_position at hf
  refine lv_iload_n hx hb dX4_position_0 rfl (lv_at hl 0 rfl) ?_
  refine lv_iconst (v := 1) hx hb dX4_position_1 (by decide) ?_
  refine lv_isub hx hb dX4_position_2 ?_
  refine lv_bipush (v := 30) hx hb dX4_position_3 (by decide) ?_
  refine lv_imul hx hb dX4_position_5 ?_
  refine lv_iload_n hx hb dX4_position_6 rfl (lv_at hl 1 rfl) ?_
  refine lv_iadd hx hb dX4_position_7 ?_
  refine lv_iconst (v := 1) hx hb dX4_position_8 (by decide) ?_
  refine lv_isub hx hb dX4_position_9 ?_
  obtain ⟨q1, q2⟩ := zs_i hf
  subst q1; subst q2
  exact z_iret hx hb hr rfl hP hS hlocks (Nat.le_of_ble_eq_true rfl) (Nat.le_of_ble_eq_true rfl) dX4_position_10

def f_X4_plants (p0 : Int32) (T : zT) : Option (Unit × zT) := if zin (17 + (T.2 2 0 4)) 151 = true then zl (wA T 2 0 (upd (T.2 2 0) (17 + (T.2 2 0 4)).toNatClampNeg p0)) fun T3 => zl (wA T3 2 0 (upd (T3.2 2 0) 4 ((T3.2 2 0 4) + 1))) fun T6 => some ((), T6) else none
set_option maxHeartbeats 4000000 in
set_option maxRecDepth 100000 in
theorem c_X4_plants (p0 : Int32) (T T' : zT) (v : Unit) (hf : f_X4_plants p0 T = some (v, T')) : zC 1 yX4_plants cX4_plants 2 none 0  0 0  (fun G _ => [.ref (G 0 0), .int p0]) T (fun _ => .inl none) T' := by
  intro l D Y S V G A hl9 hG
  refine vx_ofW (cc := cX4_plants) (maxL := 2) (ret := none) (by decide) rfl ?_
  intro p e s m args below meth c s₁ B hml hex hv
  obtain ⟨rfl, hK, hP, hA⟩ := hv
  have hx := B.exec
  have hb := B.bytes
  have hr := B.returns
  have hlocks := B.notSynchronized
  have hown : s.vm.findClass RX4 = some m.cls := findClass_of_methodNamed B.named
  have hts := atoms_spec (ws := Cond.code yX4_plants cX4_plants 2 none :: zWS) B.pre
  have F : zF 1 0  0 0  p l s m _ c cX4_plants 2 RX4 (Cond.code yX4_plants cX4_plants 2 none) D Y S V G A := ⟨hx, hb, hml, hown, hts, hl9, hG, hK, hA⟩
  have hS : va_S A s.heap s.heap [] := va_S.rf
  have hl := lv_entry ([.ref (G 0 0), .int p0]) (n := 2) (Nat.le_of_ble_eq_true rfl)
  rw [lg_entry_eq]
  generalize (lg_sl ([.ref (G 0 0), .int p0]) ++ List.replicate (2 - (lg_sl ([.ref (G 0 0), .int p0])).length) Slot.unset).toArray = ls at hl ⊢
  have hl : lv_has ls 2 [(0, .ref (G 0 0)), (1, .int p0)] := hl
  unfold f_X4_plants at hf
  refine lv_aload_n hx hb dX4_plants_0 rfl (lv_at hl 0 rfl) ?_
  refine z_get hx hb hts (fun w h => List.mem_cons_of_mem _ (ziX4 w h)) hown hK hP (zV_m (by decide)) rfl rfl 2 (by decide) (List.mem_cons_of_mem _ m_1143) rfl rfl dX4_plants_1 ?_
  refine lv_bipush (v := 17) hx hb dX4_plants_4 (by decide) ?_
  refine lv_aload_n hx hb dX4_plants_6 rfl (lv_at hl 0 rfl) ?_
  refine z_get hx hb hts (fun w h => List.mem_cons_of_mem _ (ziX4 w h)) hown hK hP (zV_m (by decide)) rfl rfl 2 (by decide) (List.mem_cons_of_mem _ m_1143) rfl rfl dX4_plants_7 ?_
  refine lv_iconst (v := 4) hx hb dX4_plants_10 (by decide) ?_
  refine z_iald_ (j := 4) hx hb hK hP (zIA_m (by decide) (by decide)) (by decide) (by decide) dX4_plants_11 ?_
  refine lv_iadd hx hb dX4_plants_12 ?_
  refine lv_iload_n hx hb dX4_plants_13 rfl (lv_at hl 1 rfl) ?_
  obtain ⟨h2, hf⟩ := zif_c hf
  obtain ⟨T3, eT3, hf⟩ := zl_i hf
  refine z_iast hx hb hK hP hG hS (zIA_m (by decide) (by decide)) (zin_i h2) dX4_plants_14 (fun H locs hP hS => ?_)
  rw [← eT3] at hP
  refine lv_aload_n hx hb dX4_plants_15 rfl (lv_at hl 0 rfl) ?_
  refine z_get hx hb hts (fun w h => List.mem_cons_of_mem _ (ziX4 w h)) hown hK hP (zV_m (by decide)) rfl rfl 2 (by decide) (List.mem_cons_of_mem _ m_1143) rfl rfl dX4_plants_16 ?_
  refine lv_iconst (v := 4) hx hb dX4_plants_19 (by decide) ?_
  refine lv_dup2_11 hx hb dX4_plants_20 rfl rfl ?_
  refine z_iald_ (j := 4) hx hb hK hP (zIA_m (by decide) (by decide)) (by decide) (by decide) dX4_plants_21 ?_
  refine lv_iconst (v := 1) hx hb dX4_plants_22 (by decide) ?_
  refine lv_iadd hx hb dX4_plants_23 ?_
  obtain ⟨T6, eT6, hf⟩ := zl_i hf
  refine z_iast_ (j := 4) hx hb hK hP hG hS (zIA_m (by decide) (by decide)) (by decide) (by decide) dX4_plants_24 (fun H locs hP hS => ?_)
  rw [← eT6] at hP
  obtain ⟨q1, q2⟩ := zs_i hf
  subst q1; subst q2
  exact z_vret hx hb hr rfl hP hS hlocks (Nat.le_of_ble_eq_true rfl) (Nat.le_of_ble_eq_true rfl) dX4_plants_25

def lp_X4_comes_86 (w5 : Int32) : Nat → Int32 → zT → Option ((Int32) × zT)
  | 0, _, _ => none
  | n + 1, u6, T => (if 6 ≤ u6 then some (u6, T) else if zin u6 6 = true then if zin ((w5 + 7) + u6) 151 = true then zl (wA T 2 0 (upd (T.2 2 0) ((w5 + 7) + u6).toNatClampNeg (T.2 6 0 u6.toNatClampNeg))) fun T21 => zl (u6 + 1) fun x22 => lp_X4_comes_86 w5 n x22 T21 else none else none)
def f_X4_comes (p0 : Int32) (p1 : Int32) (p2 : Int32) (p3 : Int32) (T : zT) : Option (Unit × zT) := zb (f_X4_c (T.2 2 0 5) T) fun v3 T2 => if zin (v3 + 0) 151 = true then zl (wA T2 2 0 (upd (T2.2 2 0) (v3 + 0).toNatClampNeg p0)) fun T6 => if zin (v3 + 1) 151 = true then zl (wA T6 2 0 (upd (T6.2 2 0) (v3 + 1).toNatClampNeg p1)) fun T8 => if zin (v3 + 2) 151 = true then zl (wA T8 2 0 (upd (T8.2 2 0) (v3 + 2).toNatClampNeg p2)) fun T10 => if zin (v3 + 3) 151 = true then zl (wA T10 2 0 (upd (T10.2 2 0) (v3 + 3).toNatClampNeg p3)) fun T12 => if zin (v3 + 4) 151 = true then zl (wA T12 2 0 (upd (T12.2 2 0) (v3 + 4).toNatClampNeg (-1))) fun T14 => if zin (v3 + 5) 151 = true then zl (wA T14 2 0 (upd (T14.2 2 0) (v3 + 5).toNatClampNeg 0)) fun T16 => if zin (v3 + 6) 151 = true then zl (wA T16 2 0 (upd (T16.2 2 0) (v3 + 6).toNatClampNeg 0)) fun T18 => zb (lp_X4_comes_86 v3 2000 0 T18) fun v24 T23 => zl (wA T23 2 0 (upd (T23.2 2 0) 5 ((T23.2 2 0 5) + 1))) fun T28 => some ((), T28) else none else none else none else none else none else none else none
set_option maxHeartbeats 4000000 in
set_option maxRecDepth 100000 in
theorem l_X4_comes_86 {p : Program} {l : Launch} {e : Env} {s : State} {m : MethodId} {args : Array Value} {below : List Frame} {meth : Method} {c : Code} {Q : State → Prop} {D : va_G} {Y : Nat → ClassId} {S V : Nat → Nat} {G : Nat → Nat → Nat} {A : Nat → Prop} {c0 : Cond} {mc ms cells slots : Nat} (F : zF 1 1 mc ms p l s m args c cX4_comes 7 RX4 c0 D Y S V G A) (hcs : cells ≤ mc ∧ slots ≤ ms) (w5 : Int32) :
    ∀ (n : Nat) (u6 : Int32) (T : zT) (o : (Int32) × zT) (H : Heap) (locs : List Loc) (ls : Array Slot), lp_X4_comes_86 w5 n u6 T = some o → zP 1 D Y G T H → va_S A s.heap H locs → lv_has ls 7 [(0, .ref (G 0 0)), (5, .int w5), (6, .int u6)] → (∀ (H : Heap) (locs : List Loc) (ls : Array Slot), zP 1 D Y G o.2 H → va_S A s.heap H locs → lv_has ls 7 [(0, .ref (G 0 0)), (5, .int w5), (6, .int o.1)] → W p l e (zR 1 mc ms) s m args below meth c H locs cells slots Q (F0 m 119 ls [])) → W p l e (zR 1 mc ms) s m args below meth c H locs cells slots Q (F0 m 86 ls []) := by
  obtain ⟨hx, hb, hml, hown, hts, hl9, hG, hK, hA⟩ := id F
  intro n
  induction n with
  | zero =>
    intro u6 T o H locs ls hf
    rw [lp_X4_comes_86] at hf
    cases hf
  | succ n ih =>
    intro u6 T o H locs ls hf hP hS hl k0_
    rw [lp_X4_comes_86] at hf
    refine lv_iload hx hb dX4_comes_86 (lv_at hl 2 rfl) ?_
    refine lv_bipush (v := 6) hx hb dX4_comes_88 (by decide) ?_
    refine lv_icmp_ge (tgt := 119) hx hb dX4_comes_90 (by decide) (fun hc => ?_) (fun hc => ?_)
    · have hf := zif_p hf hc
      cases hf
      exact k0_ _ _ _ hP hS (lv_sub hl [0, 1, 2] rfl)
    · have hf := zif_n hf hc
      refine lv_aload_n hx hb dX4_comes_93 rfl (lv_at hl 0 rfl) ?_
      refine z_get hx hb hts (fun w h => List.mem_cons_of_mem _ (ziX4 w h)) hown hK hP (zV_m (by decide)) rfl rfl 2 (by decide) (List.mem_cons_of_mem _ m_1143) rfl rfl dX4_comes_94 ?_
      refine lv_iload hx hb dX4_comes_97 (lv_at hl 1 rfl) ?_
      refine lv_bipush (v := 7) hx hb dX4_comes_99 (by decide) ?_
      refine lv_iadd hx hb dX4_comes_101 ?_
      refine lv_iload hx hb dX4_comes_102 (lv_at hl 2 rfl) ?_
      refine lv_iadd hx hb dX4_comes_104 ?_
      refine lv_aload_n hx hb dX4_comes_105 rfl (lv_at hl 0 rfl) ?_
      refine z_get hx hb hts (fun w h => List.mem_cons_of_mem _ (ziX4 w h)) hown hK hP (zV_m (by decide)) rfl rfl 8 (by decide) (List.mem_cons_of_mem _ m_1149) rfl rfl dX4_comes_106 ?_
      refine lv_iload hx hb dX4_comes_109 (lv_at hl 2 rfl) ?_
      obtain ⟨h19, hf⟩ := zif_c hf
      refine z_iald hx hb hK hP (zIA_m (by decide) (by decide)) (zin_i h19) dX4_comes_111 ?_
      obtain ⟨h20, hf⟩ := zif_c hf
      obtain ⟨T21, eT21, hf⟩ := zl_i hf
      refine z_iast hx hb hK hP hG hS (zIA_m (by decide) (by decide)) (zin_i h20) dX4_comes_112 (fun H locs hP hS => ?_)
      rw [← eT21] at hP
      obtain ⟨x22, ex22, hf⟩ := zl_i hf
      refine lv_iinc (v := x22) (lv' := [(6, .int x22), (0, .ref (G 0 0)), (5, .int w5)]) hx hb dX4_comes_113 hl (k := 2) rfl (by rw [ex22]; rfl) (by decide) rfl (fun ls hl => ?_)
      refine lv_goto (tgt := 86) hx hb dX4_comes_116 (by decide) ?_
      exact ih x22 _ _ _ _ _ hf hP hS (lv_sub hl [1, 2, 0] rfl) k0_
set_option maxHeartbeats 4000000 in
set_option maxRecDepth 100000 in
theorem c_X4_comes (p0 : Int32) (p1 : Int32) (p2 : Int32) (p3 : Int32) (T T' : zT) (v : Unit) (hf : f_X4_comes p0 p1 p2 p3 T = some (v, T')) : zC 1 yX4_comes cX4_comes 7 none 1  0 0  (fun G _ => [.ref (G 0 0), .int p0, .int p1, .int p2, .int p3]) T (fun _ => .inl none) T' := by
  intro l D Y S V G A hl9 hG
  refine vx_ofW (cc := cX4_comes) (maxL := 7) (ret := none) (by decide) rfl ?_
  intro p e s m args below meth c s₁ B hml hex hv
  obtain ⟨rfl, hK, hP, hA⟩ := hv
  have hx := B.exec
  have hb := B.bytes
  have hr := B.returns
  have hlocks := B.notSynchronized
  have hown : s.vm.findClass RX4 = some m.cls := findClass_of_methodNamed B.named
  have hts := atoms_spec (ws := Cond.code yX4_comes cX4_comes 7 none :: zWS) B.pre
  have F : zF 1 1  0 0  p l s m _ c cX4_comes 7 RX4 (Cond.code yX4_comes cX4_comes 7 none) D Y S V G A := ⟨hx, hb, hml, hown, hts, hl9, hG, hK, hA⟩
  have hS : va_S A s.heap s.heap [] := va_S.rf
  have hl := lv_entry ([.ref (G 0 0), .int p0, .int p1, .int p2, .int p3]) (n := 7) (Nat.le_of_ble_eq_true rfl)
  rw [lg_entry_eq]
  generalize (lg_sl ([.ref (G 0 0), .int p0, .int p1, .int p2, .int p3]) ++ List.replicate (7 - (lg_sl ([.ref (G 0 0), .int p0, .int p1, .int p2, .int p3])).length) Slot.unset).toArray = ls at hl ⊢
  have hl : lv_has ls 7 [(0, .ref (G 0 0)), (1, .int p0), (2, .int p1), (3, .int p2), (4, .int p3)] := hl
  unfold f_X4_comes at hf
  refine lv_aload_n hx hb dX4_comes_0 rfl (lv_at hl 0 rfl) ?_
  refine z_get hx hb hts (fun w h => List.mem_cons_of_mem _ (ziX4 w h)) hown hK hP (zV_m (by decide)) rfl rfl 2 (by decide) (List.mem_cons_of_mem _ m_1143) rfl rfl dX4_comes_1 ?_
  refine lv_iconst (v := 5) hx hb dX4_comes_4 (by decide) ?_
  refine z_iald_ (j := 5) hx hb hK hP (zIA_m (by decide) (by decide)) (by decide) (by decide) dX4_comes_5 ?_
  obtain ⟨v3, T2, h4, hf⟩ := zb_i hf
  refine z_ok (z_runS (As := [.int (T.2 2 0 5)]) (rest := []) F k_X4_c m_1095 (c_X4_c (T.2 2 0 5) T T2 _ h4) hP hS rfl rfl hl.1 (Nat.le_of_ble_eq_true rfl) dX4_comes_6 (Nat.le_of_ble_eq_true rfl) ⟨Nat.le_of_ble_eq_true rfl, Nat.le_of_ble_eq_true rfl⟩ rfl) hS (fun H locs hP hS => ?_)
  refine lv_istore (lv' := [(5, .int v3), (0, .ref (G 0 0)), (1, .int p0), (2, .int p1), (3, .int p2), (4, .int p3)]) hx hb dX4_comes_9 hl (by decide) rfl (fun ls hl => ?_)
  refine lv_aload_n hx hb dX4_comes_11 rfl (lv_at hl 1 rfl) ?_
  refine z_get hx hb hts (fun w h => List.mem_cons_of_mem _ (ziX4 w h)) hown hK hP (zV_m (by decide)) rfl rfl 2 (by decide) (List.mem_cons_of_mem _ m_1143) rfl rfl dX4_comes_12 ?_
  refine lv_iload hx hb dX4_comes_15 (lv_at hl 0 rfl) ?_
  refine lv_iconst (v := 0) hx hb dX4_comes_17 (by decide) ?_
  refine lv_iadd hx hb dX4_comes_18 ?_
  refine lv_iload_n hx hb dX4_comes_19 rfl (lv_at hl 2 rfl) ?_
  obtain ⟨h5, hf⟩ := zif_c hf
  obtain ⟨T6, eT6, hf⟩ := zl_i hf
  refine z_iast hx hb hK hP hG hS (zIA_m (by decide) (by decide)) (zin_i h5) dX4_comes_20 (fun H locs hP hS => ?_)
  rw [← eT6] at hP
  refine lv_aload_n hx hb dX4_comes_21 rfl (lv_at hl 1 rfl) ?_
  refine z_get hx hb hts (fun w h => List.mem_cons_of_mem _ (ziX4 w h)) hown hK hP (zV_m (by decide)) rfl rfl 2 (by decide) (List.mem_cons_of_mem _ m_1143) rfl rfl dX4_comes_22 ?_
  refine lv_iload hx hb dX4_comes_25 (lv_at hl 0 rfl) ?_
  refine lv_iconst (v := 1) hx hb dX4_comes_27 (by decide) ?_
  refine lv_iadd hx hb dX4_comes_28 ?_
  refine lv_iload_n hx hb dX4_comes_29 rfl (lv_at hl 3 rfl) ?_
  obtain ⟨h7, hf⟩ := zif_c hf
  obtain ⟨T8, eT8, hf⟩ := zl_i hf
  refine z_iast hx hb hK hP hG hS (zIA_m (by decide) (by decide)) (zin_i h7) dX4_comes_30 (fun H locs hP hS => ?_)
  rw [← eT8] at hP
  refine lv_aload_n hx hb dX4_comes_31 rfl (lv_at hl 1 rfl) ?_
  refine z_get hx hb hts (fun w h => List.mem_cons_of_mem _ (ziX4 w h)) hown hK hP (zV_m (by decide)) rfl rfl 2 (by decide) (List.mem_cons_of_mem _ m_1143) rfl rfl dX4_comes_32 ?_
  refine lv_iload hx hb dX4_comes_35 (lv_at hl 0 rfl) ?_
  refine lv_iconst (v := 2) hx hb dX4_comes_37 (by decide) ?_
  refine lv_iadd hx hb dX4_comes_38 ?_
  refine lv_iload_n hx hb dX4_comes_39 rfl (lv_at hl 4 rfl) ?_
  obtain ⟨h9, hf⟩ := zif_c hf
  obtain ⟨T10, eT10, hf⟩ := zl_i hf
  refine z_iast hx hb hK hP hG hS (zIA_m (by decide) (by decide)) (zin_i h9) dX4_comes_40 (fun H locs hP hS => ?_)
  rw [← eT10] at hP
  refine lv_aload_n hx hb dX4_comes_41 rfl (lv_at hl 1 rfl) ?_
  refine z_get hx hb hts (fun w h => List.mem_cons_of_mem _ (ziX4 w h)) hown hK hP (zV_m (by decide)) rfl rfl 2 (by decide) (List.mem_cons_of_mem _ m_1143) rfl rfl dX4_comes_42 ?_
  refine lv_iload hx hb dX4_comes_45 (lv_at hl 0 rfl) ?_
  refine lv_iconst (v := 3) hx hb dX4_comes_47 (by decide) ?_
  refine lv_iadd hx hb dX4_comes_48 ?_
  refine lv_iload hx hb dX4_comes_49 (lv_at hl 5 rfl) ?_
  obtain ⟨h11, hf⟩ := zif_c hf
  obtain ⟨T12, eT12, hf⟩ := zl_i hf
  refine z_iast hx hb hK hP hG hS (zIA_m (by decide) (by decide)) (zin_i h11) dX4_comes_51 (fun H locs hP hS => ?_)
  rw [← eT12] at hP
  refine lv_aload_n hx hb dX4_comes_52 rfl (lv_at hl 1 rfl) ?_
  refine z_get hx hb hts (fun w h => List.mem_cons_of_mem _ (ziX4 w h)) hown hK hP (zV_m (by decide)) rfl rfl 2 (by decide) (List.mem_cons_of_mem _ m_1143) rfl rfl dX4_comes_53 ?_
  refine lv_iload hx hb dX4_comes_56 (lv_at hl 0 rfl) ?_
  refine lv_iconst (v := 4) hx hb dX4_comes_58 (by decide) ?_
  refine lv_iadd hx hb dX4_comes_59 ?_
  refine lv_iconst (v := (-1)) hx hb dX4_comes_60 (by decide) ?_
  obtain ⟨h13, hf⟩ := zif_c hf
  obtain ⟨T14, eT14, hf⟩ := zl_i hf
  refine z_iast hx hb hK hP hG hS (zIA_m (by decide) (by decide)) (zin_i h13) dX4_comes_61 (fun H locs hP hS => ?_)
  rw [← eT14] at hP
  refine lv_aload_n hx hb dX4_comes_62 rfl (lv_at hl 1 rfl) ?_
  refine z_get hx hb hts (fun w h => List.mem_cons_of_mem _ (ziX4 w h)) hown hK hP (zV_m (by decide)) rfl rfl 2 (by decide) (List.mem_cons_of_mem _ m_1143) rfl rfl dX4_comes_63 ?_
  refine lv_iload hx hb dX4_comes_66 (lv_at hl 0 rfl) ?_
  refine lv_iconst (v := 5) hx hb dX4_comes_68 (by decide) ?_
  refine lv_iadd hx hb dX4_comes_69 ?_
  refine lv_iconst (v := 0) hx hb dX4_comes_70 (by decide) ?_
  obtain ⟨h15, hf⟩ := zif_c hf
  obtain ⟨T16, eT16, hf⟩ := zl_i hf
  refine z_iast hx hb hK hP hG hS (zIA_m (by decide) (by decide)) (zin_i h15) dX4_comes_71 (fun H locs hP hS => ?_)
  rw [← eT16] at hP
  refine lv_aload_n hx hb dX4_comes_72 rfl (lv_at hl 1 rfl) ?_
  refine z_get hx hb hts (fun w h => List.mem_cons_of_mem _ (ziX4 w h)) hown hK hP (zV_m (by decide)) rfl rfl 2 (by decide) (List.mem_cons_of_mem _ m_1143) rfl rfl dX4_comes_73 ?_
  refine lv_iload hx hb dX4_comes_76 (lv_at hl 0 rfl) ?_
  refine lv_bipush (v := 6) hx hb dX4_comes_78 (by decide) ?_
  refine lv_iadd hx hb dX4_comes_80 ?_
  refine lv_iconst (v := 0) hx hb dX4_comes_81 (by decide) ?_
  obtain ⟨h17, hf⟩ := zif_c hf
  obtain ⟨T18, eT18, hf⟩ := zl_i hf
  refine z_iast hx hb hK hP hG hS (zIA_m (by decide) (by decide)) (zin_i h17) dX4_comes_82 (fun H locs hP hS => ?_)
  rw [← eT18] at hP
  refine lv_iconst (v := 0) hx hb dX4_comes_83 (by decide) ?_
  refine lv_istore (lv' := [(6, .int 0), (5, .int v3), (0, .ref (G 0 0)), (1, .int p0), (2, .int p1), (3, .int p2), (4, .int p3)]) hx hb dX4_comes_84 hl (by decide) rfl (fun ls hl => ?_)
  obtain ⟨v24, T23, h25, hf⟩ := zb_i hf
  refine l_X4_comes_86 F ⟨Nat.le_of_ble_eq_true rfl, Nat.le_of_ble_eq_true rfl⟩ v3 2000 0 _ _ _ _ _ h25 hP hS (lv_sub hl [2, 1, 0] rfl) (fun H locs ls hP hS hl => ?_)
  refine lv_aload_n hx hb dX4_comes_119 rfl (lv_at hl 0 rfl) ?_
  refine z_get hx hb hts (fun w h => List.mem_cons_of_mem _ (ziX4 w h)) hown hK hP (zV_m (by decide)) rfl rfl 2 (by decide) (List.mem_cons_of_mem _ m_1143) rfl rfl dX4_comes_120 ?_
  refine lv_iconst (v := 5) hx hb dX4_comes_123 (by decide) ?_
  refine lv_dup2_11 hx hb dX4_comes_124 rfl rfl ?_
  refine z_iald_ (j := 5) hx hb hK hP (zIA_m (by decide) (by decide)) (by decide) (by decide) dX4_comes_125 ?_
  refine lv_iconst (v := 1) hx hb dX4_comes_126 (by decide) ?_
  refine lv_iadd hx hb dX4_comes_127 ?_
  obtain ⟨T28, eT28, hf⟩ := zl_i hf
  refine z_iast_ (j := 5) hx hb hK hP hG hS (zIA_m (by decide) (by decide)) (by decide) (by decide) dX4_comes_128 (fun H locs hP hS => ?_)
  rw [← eT28] at hP
  obtain ⟨q1, q2⟩ := zs_i hf
  subst q1; subst q2
  exact z_vret hx hb hr rfl hP hS hlocks (Nat.le_of_ble_eq_true rfl) (Nat.le_of_ble_eq_true rfl) dX4_comes_129

def lp_X4_childSpelled_16 (w1 : Int32) : Nat → Int32 → Int32 → zT → Option ((Int32 × Int32) × zT)
  | 0, _, _, _ => none
  | n + 1, u2, u3, T => (if 6 ≤ u3 then some ((u2, u3), T) else (if u2 = 0 then zl (u3 + 1) fun x2 => lp_X4_childSpelled_16 w1 n 0 x2 T else zb (f_X4_c w1 T) fun v4 T3 => zl ((v4 + 7) + u3) fun x7 => if zin x7 151 = true then if zin u3 6 = true then (if (T3.2 2 0 x7.toNatClampNeg) = (T3.2 6 0 u3.toNatClampNeg) then zl (u3 + 1) fun x10 => lp_X4_childSpelled_16 w1 n 1 x10 T3 else zl (u3 + 1) fun x9 => lp_X4_childSpelled_16 w1 n 0 x9 T3) else none else none))
def lp_X4_childSpelled_2  : Nat → Int32 → zT → Option ((Nat × Int32) × zT)
  | 0, _, _ => none
  | n + 1, u1, T => (if (T.2 2 0 5) ≤ u1 then some ((1, u1), T) else zb (lp_X4_childSpelled_16 u1 2000 1 0 T) fun v12 T11 => (if v12.1 = 0 then zl (u1 + 1) fun x14 => lp_X4_childSpelled_2 n x14 T11 else some ((0, u1), T11)))
def f_X4_childSpelled  (T : zT) : Option (Int32 × zT) := zb (lp_X4_childSpelled_2 2000 0 T) fun v16 T15 => if v16.1 = 0 then some (v16.2, T15) else if v16.1 = 1 then some ((-1), T15) else none
set_option maxHeartbeats 4000000 in
set_option maxRecDepth 100000 in
theorem l_X4_childSpelled_16 {p : Program} {l : Launch} {e : Env} {s : State} {m : MethodId} {args : Array Value} {below : List Frame} {meth : Method} {c : Code} {Q : State → Prop} {D : va_G} {Y : Nat → ClassId} {S V : Nat → Nat} {G : Nat → Nat → Nat} {A : Nat → Prop} {c0 : Cond} {mc ms cells slots : Nat} (F : zF 1 1 mc ms p l s m args c cX4_childSpelled 4 RX4 c0 D Y S V G A) (hcs : cells ≤ mc ∧ slots ≤ ms) (w1 : Int32) :
    ∀ (n : Nat) (u2 : Int32) (u3 : Int32) (T : zT) (o : (Int32 × Int32) × zT) (H : Heap) (locs : List Loc) (ls : Array Slot), lp_X4_childSpelled_16 w1 n u2 u3 T = some o → zP 1 D Y G T H → va_S A s.heap H locs → lv_has ls 4 [(0, .ref (G 0 0)), (1, .int w1), (2, .int u2), (3, .int u3)] → (∀ (H : Heap) (locs : List Loc) (ls : Array Slot), zP 1 D Y G o.2 H → va_S A s.heap H locs → lv_has ls 4 [(0, .ref (G 0 0)), (1, .int w1), (2, .int o.1.1), (3, .int o.1.2)] → W p l e (zR 1 mc ms) s m args below meth c H locs cells slots Q (F0 m 61 ls [])) → W p l e (zR 1 mc ms) s m args below meth c H locs cells slots Q (F0 m 16 ls []) := by
  obtain ⟨hx, hb, hml, hown, hts, hl9, hG, hK, hA⟩ := id F
  intro n
  induction n with
  | zero =>
    intro u2 u3 T o H locs ls hf
    rw [lp_X4_childSpelled_16] at hf
    cases hf
  | succ n ih =>
    intro u2 u3 T o H locs ls hf hP hS hl k0_
    rw [lp_X4_childSpelled_16] at hf
    refine lv_iload_n hx hb dX4_childSpelled_16 rfl (lv_at hl 3 rfl) ?_
    refine lv_bipush (v := 6) hx hb dX4_childSpelled_17 (by decide) ?_
    refine lv_icmp_ge (tgt := 61) hx hb dX4_childSpelled_19 (by decide) (fun hc => ?_) (fun hc => ?_)
    · have hf := zif_p hf hc
      cases hf
      exact k0_ _ _ _ hP hS (lv_sub hl [0, 1, 2, 3] rfl)
    · have hf := zif_n hf hc
      refine lv_iload_n hx hb dX4_childSpelled_22 rfl (lv_at hl 2 rfl) ?_
      refine lv_if_eq (tgt := 53) hx hb dX4_childSpelled_23 (by decide) (fun hc => ?_) (fun hc => ?_)
      · have hf := zif_p hf hc
        refine lv_iconst (v := 0) hx hb dX4_childSpelled_53 (by decide) ?_
        refine lv_istore_n (lv' := [(2, .int 0), (0, .ref (G 0 0)), (1, .int w1), (3, .int u3)]) hx hb dX4_childSpelled_54 rfl hl (by decide) rfl (fun ls hl => ?_)
        obtain ⟨x2, ex2, hf⟩ := zl_i hf
        refine lv_iinc (v := x2) (lv' := [(3, .int x2), (2, .int 0), (0, .ref (G 0 0)), (1, .int w1)]) hx hb dX4_childSpelled_55 hl (k := 3) rfl (by rw [ex2]; rfl) (by decide) rfl (fun ls hl => ?_)
        refine lv_goto (tgt := 16) hx hb dX4_childSpelled_58 (by decide) ?_
        exact ih 0 x2 _ _ _ _ _ hf hP hS (lv_sub hl [2, 3, 1, 0] rfl) k0_
      · have hf := zif_n hf hc
        refine lv_aload_n hx hb dX4_childSpelled_26 rfl (lv_at hl 0 rfl) ?_
        refine z_get hx hb hts (fun w h => List.mem_cons_of_mem _ (ziX4 w h)) hown hK hP (zV_m (by decide)) rfl rfl 2 (by decide) (List.mem_cons_of_mem _ m_1143) rfl rfl dX4_childSpelled_27 ?_
        refine lv_iload_n hx hb dX4_childSpelled_30 rfl (lv_at hl 1 rfl) ?_
        obtain ⟨v4, T3, h5, hf⟩ := zb_i hf
        refine z_ok (z_runS (As := [.int w1]) (rest := [.ref (G 2 0)]) F k_X4_c m_1095 (c_X4_c w1 T T3 _ h5) hP hS rfl rfl hl.1 (Nat.le_of_ble_eq_true rfl) dX4_childSpelled_31 (Nat.le_of_ble_eq_true rfl) ⟨hcs.1, hcs.2⟩ rfl) hS (fun H locs hP hS => ?_)
        refine lv_bipush (v := 7) hx hb dX4_childSpelled_34 (by decide) ?_
        refine lv_iadd hx hb dX4_childSpelled_36 ?_
        refine lv_iload_n hx hb dX4_childSpelled_37 rfl (lv_at hl 3 rfl) ?_
        refine lv_iadd hx hb dX4_childSpelled_38 ?_
        obtain ⟨x7, ex7, hf⟩ := zl_i hf
        refine z_topi ex7 ?_
        obtain ⟨h6, hf⟩ := zif_c hf
        refine z_iald hx hb hK hP (zIA_m (by decide) (by decide)) (zin_i h6) dX4_childSpelled_39 ?_
        refine lv_aload_n hx hb dX4_childSpelled_40 rfl (lv_at hl 0 rfl) ?_
        refine z_get hx hb hts (fun w h => List.mem_cons_of_mem _ (ziX4 w h)) hown hK hP (zV_m (by decide)) rfl rfl 8 (by decide) (List.mem_cons_of_mem _ m_1149) rfl rfl dX4_childSpelled_41 ?_
        refine lv_iload_n hx hb dX4_childSpelled_44 rfl (lv_at hl 3 rfl) ?_
        obtain ⟨h8, hf⟩ := zif_c hf
        refine z_iald hx hb hK hP (zIA_m (by decide) (by decide)) (zin_i h8) dX4_childSpelled_45 ?_
        refine lv_icmp_ne (tgt := 53) hx hb dX4_childSpelled_46 (by decide) (fun hc => ?_) (fun hc => ?_)
        · have hf := zif_n hf hc
          refine lv_iconst (v := 0) hx hb dX4_childSpelled_53 (by decide) ?_
          refine lv_istore_n (lv' := [(2, .int 0), (0, .ref (G 0 0)), (1, .int w1), (3, .int u3)]) hx hb dX4_childSpelled_54 rfl hl (by decide) rfl (fun ls hl => ?_)
          obtain ⟨x9, ex9, hf⟩ := zl_i hf
          refine lv_iinc (v := x9) (lv' := [(3, .int x9), (2, .int 0), (0, .ref (G 0 0)), (1, .int w1)]) hx hb dX4_childSpelled_55 hl (k := 3) rfl (by rw [ex9]; rfl) (by decide) rfl (fun ls hl => ?_)
          refine lv_goto (tgt := 16) hx hb dX4_childSpelled_58 (by decide) ?_
          exact ih 0 x9 _ _ _ _ _ hf hP hS (lv_sub hl [2, 3, 1, 0] rfl) k0_
        · have hf := zif_p hf hc
          refine lv_iconst (v := 1) hx hb dX4_childSpelled_49 (by decide) ?_
          refine lv_goto (tgt := 54) hx hb dX4_childSpelled_50 (by decide) ?_
          refine lv_istore_n (lv' := [(2, .int 1), (0, .ref (G 0 0)), (1, .int w1), (3, .int u3)]) hx hb dX4_childSpelled_54 rfl hl (by decide) rfl (fun ls hl => ?_)
          obtain ⟨x10, ex10, hf⟩ := zl_i hf
          refine lv_iinc (v := x10) (lv' := [(3, .int x10), (2, .int 1), (0, .ref (G 0 0)), (1, .int w1)]) hx hb dX4_childSpelled_55 hl (k := 3) rfl (by rw [ex10]; rfl) (by decide) rfl (fun ls hl => ?_)
          refine lv_goto (tgt := 16) hx hb dX4_childSpelled_58 (by decide) ?_
          exact ih 1 x10 _ _ _ _ _ hf hP hS (lv_sub hl [2, 3, 1, 0] rfl) k0_
set_option maxHeartbeats 4000000 in
set_option maxRecDepth 100000 in
theorem l_X4_childSpelled_2 {p : Program} {l : Launch} {e : Env} {s : State} {m : MethodId} {args : Array Value} {below : List Frame} {meth : Method} {c : Code} {Q : State → Prop} {D : va_G} {Y : Nat → ClassId} {S V : Nat → Nat} {G : Nat → Nat → Nat} {A : Nat → Prop} {c0 : Cond} {mc ms cells slots : Nat} (F : zF 1 1 mc ms p l s m args c cX4_childSpelled 4 RX4 c0 D Y S V G A) (hcs : cells ≤ mc ∧ slots ≤ ms) :
    ∀ (n : Nat) (u1 : Int32) (T : zT) (o : (Nat × Int32) × zT) (H : Heap) (locs : List Loc) (ls : Array Slot), lp_X4_childSpelled_2 n u1 T = some o → zP 1 D Y G T H → va_S A s.heap H locs → lv_has ls 4 [(0, .ref (G 0 0)), (1, .int u1)] → (o.1.1 = 0 → ∀ (H : Heap) (locs : List Loc) (ls : Array Slot), zP 1 D Y G o.2 H → va_S A s.heap H locs → lv_has ls 4 [(0, .ref (G 0 0)), (1, .int o.1.2)] → W p l e (zR 1 mc ms) s m args below meth c H locs cells slots Q (F0 m 65 ls [])) → (o.1.1 = 1 → ∀ (H : Heap) (locs : List Loc) (ls : Array Slot), zP 1 D Y G o.2 H → va_S A s.heap H locs → lv_has ls 4 [(0, .ref (G 0 0)), (1, .int o.1.2)] → W p l e (zR 1 mc ms) s m args below meth c H locs cells slots Q (F0 m 73 ls [])) → W p l e (zR 1 mc ms) s m args below meth c H locs cells slots Q (F0 m 2 ls []) := by
  obtain ⟨hx, hb, hml, hown, hts, hl9, hG, hK, hA⟩ := id F
  intro n
  induction n with
  | zero =>
    intro u1 T o H locs ls hf
    rw [lp_X4_childSpelled_2] at hf
    cases hf
  | succ n ih =>
    intro u1 T o H locs ls hf hP hS hl k0_ k1_
    rw [lp_X4_childSpelled_2] at hf
    refine lv_iload_n hx hb dX4_childSpelled_2 rfl (lv_at hl 1 rfl) ?_
    refine lv_aload_n hx hb dX4_childSpelled_3 rfl (lv_at hl 0 rfl) ?_
    refine z_get hx hb hts (fun w h => List.mem_cons_of_mem _ (ziX4 w h)) hown hK hP (zV_m (by decide)) rfl rfl 2 (by decide) (List.mem_cons_of_mem _ m_1143) rfl rfl dX4_childSpelled_4 ?_
    refine lv_iconst (v := 5) hx hb dX4_childSpelled_7 (by decide) ?_
    refine z_iald_ (j := 5) hx hb hK hP (zIA_m (by decide) (by decide)) (by decide) (by decide) dX4_childSpelled_8 ?_
    refine lv_icmp_ge (tgt := 73) hx hb dX4_childSpelled_9 (by decide) (fun hc => ?_) (fun hc => ?_)
    · have hf := zif_p hf hc
      cases hf
      exact k1_ rfl _ _ _ hP hS (lv_sub hl [0, 1] rfl)
    · have hf := zif_n hf hc
      refine lv_iconst (v := 1) hx hb dX4_childSpelled_12 (by decide) ?_
      refine lv_istore_n (lv' := [(2, .int 1), (0, .ref (G 0 0)), (1, .int u1)]) hx hb dX4_childSpelled_13 rfl hl (by decide) rfl (fun ls hl => ?_)
      refine lv_iconst (v := 0) hx hb dX4_childSpelled_14 (by decide) ?_
      refine lv_istore_n (lv' := [(3, .int 0), (2, .int 1), (0, .ref (G 0 0)), (1, .int u1)]) hx hb dX4_childSpelled_15 rfl hl (by decide) rfl (fun ls hl => ?_)
      obtain ⟨v12, T11, h13, hf⟩ := zb_i hf
      refine l_X4_childSpelled_16 F hcs u1 2000 1 0 _ _ _ _ _ h13 hP hS (lv_sub hl [2, 3, 1, 0] rfl) (fun H locs ls hP hS hl => ?_)
      refine lv_iload_n hx hb dX4_childSpelled_61 rfl (lv_at hl 2 rfl) ?_
      refine lv_if_eq (tgt := 67) hx hb dX4_childSpelled_62 (by decide) (fun hc => ?_) (fun hc => ?_)
      · have hf := zif_p hf hc
        obtain ⟨x14, ex14, hf⟩ := zl_i hf
        refine lv_iinc (v := x14) (lv' := [(1, .int x14), (0, .ref (G 0 0)), (2, .int v12.1), (3, .int v12.2)]) hx hb dX4_childSpelled_67 hl (k := 1) rfl (by rw [ex14]; rfl) (by decide) rfl (fun ls hl => ?_)
        refine lv_goto (tgt := 2) hx hb dX4_childSpelled_70 (by decide) ?_
        exact ih x14 _ _ _ _ _ hf hP hS (lv_sub hl [1, 0] rfl) k0_ k1_
      · have hf := zif_n hf hc
        cases hf
        exact k0_ rfl _ _ _ hP hS (lv_sub hl [0, 1] rfl)
set_option maxHeartbeats 4000000 in
set_option maxRecDepth 100000 in
theorem c_X4_childSpelled  (T T' : zT) (v : Int32) (hf : f_X4_childSpelled  T = some (v, T')) : zC 1 yX4_childSpelled cX4_childSpelled 4 (some .int) 1  0 0  (fun G _ => [.ref (G 0 0)]) T (fun _ => .inl (some (.int v))) T' := by
  intro l D Y S V G A hl9 hG
  refine vx_ofW (cc := cX4_childSpelled) (maxL := 4) (ret := (some .int)) (by decide) rfl ?_
  intro p e s m args below meth c s₁ B hml hex hv
  obtain ⟨rfl, hK, hP, hA⟩ := hv
  have hx := B.exec
  have hb := B.bytes
  have hr := B.returns
  have hlocks := B.notSynchronized
  have hown : s.vm.findClass RX4 = some m.cls := findClass_of_methodNamed B.named
  have hts := atoms_spec (ws := Cond.code yX4_childSpelled cX4_childSpelled 4 (some .int) :: zWS) B.pre
  have F : zF 1 1  0 0  p l s m _ c cX4_childSpelled 4 RX4 (Cond.code yX4_childSpelled cX4_childSpelled 4 (some .int)) D Y S V G A := ⟨hx, hb, hml, hown, hts, hl9, hG, hK, hA⟩
  have hS : va_S A s.heap s.heap [] := va_S.rf
  have hl := lv_entry ([.ref (G 0 0)]) (n := 4) (Nat.le_of_ble_eq_true rfl)
  rw [lg_entry_eq]
  generalize (lg_sl ([.ref (G 0 0)]) ++ List.replicate (4 - (lg_sl ([.ref (G 0 0)])).length) Slot.unset).toArray = ls at hl ⊢
  have hl : lv_has ls 4 [(0, .ref (G 0 0))] := hl
  unfold f_X4_childSpelled at hf
  refine lv_iconst (v := 0) hx hb dX4_childSpelled_0 (by decide) ?_
  refine lv_istore_n (lv' := [(1, .int 0), (0, .ref (G 0 0))]) hx hb dX4_childSpelled_1 rfl hl (by decide) rfl (fun ls hl => ?_)
  obtain ⟨v16, T15, h17, hf⟩ := zb_i hf
  refine l_X4_childSpelled_2 F ⟨Nat.le_of_ble_eq_true rfl, Nat.le_of_ble_eq_true rfl⟩  2000 0 _ _ _ _ _ h17 hP hS (lv_sub hl [1, 0] rfl) (fun hc H locs ls hP hS hl => ?_) (fun hc H locs ls hP hS hl => ?_)
  · have hf := zif_p hf hc
    refine lv_iload_n hx hb dX4_childSpelled_65 rfl (lv_at hl 1 rfl) ?_
    obtain ⟨q1, q2⟩ := zs_i hf
    subst q1; subst q2
    exact z_iret hx hb hr rfl hP hS hlocks (Nat.le_of_ble_eq_true rfl) (Nat.le_of_ble_eq_true rfl) dX4_childSpelled_66
  · have hf := zif_n hf (by rw [hc]; decide)
    have hf := zif_p hf hc
    refine lv_iconst (v := (-1)) hx hb dX4_childSpelled_73 (by decide) ?_
    obtain ⟨q1, q2⟩ := zs_i hf
    subst q1; subst q2
    exact z_iret hx hb hr rfl hP hS hlocks (Nat.le_of_ble_eq_true rfl) (Nat.le_of_ble_eq_true rfl) dX4_childSpelled_74

def lp_X4_liking_4 (w1 : Int32) : Nat → Int32 → Int32 → zT → Option ((Int32 × Int32) × zT)
  | 0, _, _, _ => none
  | n + 1, u2, u3, T => (if (T.2 2 0 5) ≤ u3 then some ((u2, u3), T) else zb (f_X4_c u3 T) fun v3 T2 => zl (v3 + 0) fun x6 => if zin x6 151 = true then (if (T2.2 2 0 x6.toNatClampNeg) = w1 then zl (u2 + 1) fun x9 => zl (u3 + 1) fun x10 => lp_X4_liking_4 w1 n x9 x10 T2 else zl (u2 + 0) fun x7 => zl (u3 + 1) fun x8 => lp_X4_liking_4 w1 n x7 x8 T2) else none)
def f_X4_liking (p0 : Int32) (T : zT) : Option (Int32 × zT) := zb (lp_X4_liking_4 p0 2000 0 0 T) fun v12 T11 => some (v12.1, T11)
set_option maxHeartbeats 4000000 in
set_option maxRecDepth 100000 in
theorem l_X4_liking_4 {p : Program} {l : Launch} {e : Env} {s : State} {m : MethodId} {args : Array Value} {below : List Frame} {meth : Method} {c : Code} {Q : State → Prop} {D : va_G} {Y : Nat → ClassId} {S V : Nat → Nat} {G : Nat → Nat → Nat} {A : Nat → Prop} {c0 : Cond} {mc ms cells slots : Nat} (F : zF 1 1 mc ms p l s m args c cX4_liking 4 RX4 c0 D Y S V G A) (hcs : cells ≤ mc ∧ slots ≤ ms) (w1 : Int32) :
    ∀ (n : Nat) (u2 : Int32) (u3 : Int32) (T : zT) (o : (Int32 × Int32) × zT) (H : Heap) (locs : List Loc) (ls : Array Slot), lp_X4_liking_4 w1 n u2 u3 T = some o → zP 1 D Y G T H → va_S A s.heap H locs → lv_has ls 4 [(0, .ref (G 0 0)), (1, .int w1), (2, .int u2), (3, .int u3)] → (∀ (H : Heap) (locs : List Loc) (ls : Array Slot), zP 1 D Y G o.2 H → va_S A s.heap H locs → lv_has ls 4 [(0, .ref (G 0 0)), (1, .int w1), (2, .int o.1.1), (3, .int o.1.2)] → W p l e (zR 1 mc ms) s m args below meth c H locs cells slots Q (F0 m 43 ls [])) → W p l e (zR 1 mc ms) s m args below meth c H locs cells slots Q (F0 m 4 ls []) := by
  obtain ⟨hx, hb, hml, hown, hts, hl9, hG, hK, hA⟩ := id F
  intro n
  induction n with
  | zero =>
    intro u2 u3 T o H locs ls hf
    rw [lp_X4_liking_4] at hf
    cases hf
  | succ n ih =>
    intro u2 u3 T o H locs ls hf hP hS hl k0_
    rw [lp_X4_liking_4] at hf
    refine lv_iload_n hx hb dX4_liking_4 rfl (lv_at hl 3 rfl) ?_
    refine lv_aload_n hx hb dX4_liking_5 rfl (lv_at hl 0 rfl) ?_
    refine z_get hx hb hts (fun w h => List.mem_cons_of_mem _ (ziX4 w h)) hown hK hP (zV_m (by decide)) rfl rfl 2 (by decide) (List.mem_cons_of_mem _ m_1143) rfl rfl dX4_liking_6 ?_
    refine lv_iconst (v := 5) hx hb dX4_liking_9 (by decide) ?_
    refine z_iald_ (j := 5) hx hb hK hP (zIA_m (by decide) (by decide)) (by decide) (by decide) dX4_liking_10 ?_
    refine lv_icmp_ge (tgt := 43) hx hb dX4_liking_11 (by decide) (fun hc => ?_) (fun hc => ?_)
    · have hf := zif_p hf hc
      cases hf
      exact k0_ _ _ _ hP hS (lv_sub hl [0, 1, 2, 3] rfl)
    · have hf := zif_n hf hc
      refine lv_iload_n hx hb dX4_liking_14 rfl (lv_at hl 2 rfl) ?_
      refine lv_aload_n hx hb dX4_liking_15 rfl (lv_at hl 0 rfl) ?_
      refine z_get hx hb hts (fun w h => List.mem_cons_of_mem _ (ziX4 w h)) hown hK hP (zV_m (by decide)) rfl rfl 2 (by decide) (List.mem_cons_of_mem _ m_1143) rfl rfl dX4_liking_16 ?_
      refine lv_iload_n hx hb dX4_liking_19 rfl (lv_at hl 3 rfl) ?_
      obtain ⟨v3, T2, h4, hf⟩ := zb_i hf
      refine z_ok (z_runS (As := [.int u3]) (rest := [.ref (G 2 0), .int u2]) F k_X4_c m_1095 (c_X4_c u3 T T2 _ h4) hP hS rfl rfl hl.1 (Nat.le_of_ble_eq_true rfl) dX4_liking_20 (Nat.le_of_ble_eq_true rfl) ⟨hcs.1, hcs.2⟩ rfl) hS (fun H locs hP hS => ?_)
      refine lv_iconst (v := 0) hx hb dX4_liking_23 (by decide) ?_
      refine lv_iadd hx hb dX4_liking_24 ?_
      obtain ⟨x6, ex6, hf⟩ := zl_i hf
      refine z_topi ex6 ?_
      obtain ⟨h5, hf⟩ := zif_c hf
      refine z_iald hx hb hK hP (zIA_m (by decide) (by decide)) (zin_i h5) dX4_liking_25 ?_
      refine lv_iload_n hx hb dX4_liking_26 rfl (lv_at hl 1 rfl) ?_
      refine lv_icmp_ne (tgt := 34) hx hb dX4_liking_27 (by decide) (fun hc => ?_) (fun hc => ?_)
      · have hf := zif_n hf hc
        refine lv_iconst (v := 0) hx hb dX4_liking_34 (by decide) ?_
        refine lv_iadd hx hb dX4_liking_35 ?_
        obtain ⟨x7, ex7, hf⟩ := zl_i hf
        refine z_topi ex7 ?_
        refine lv_istore_n (lv' := [(2, .int x7), (0, .ref (G 0 0)), (1, .int w1), (3, .int u3)]) hx hb dX4_liking_36 rfl hl (by decide) rfl (fun ls hl => ?_)
        obtain ⟨x8, ex8, hf⟩ := zl_i hf
        refine lv_iinc (v := x8) (lv' := [(3, .int x8), (2, .int x7), (0, .ref (G 0 0)), (1, .int w1)]) hx hb dX4_liking_37 hl (k := 3) rfl (by rw [ex8]; rfl) (by decide) rfl (fun ls hl => ?_)
        refine lv_goto (tgt := 4) hx hb dX4_liking_40 (by decide) ?_
        exact ih x7 x8 _ _ _ _ _ hf hP hS (lv_sub hl [2, 3, 1, 0] rfl) k0_
      · have hf := zif_p hf hc
        refine lv_iconst (v := 1) hx hb dX4_liking_30 (by decide) ?_
        refine lv_goto (tgt := 35) hx hb dX4_liking_31 (by decide) ?_
        refine lv_iadd hx hb dX4_liking_35 ?_
        obtain ⟨x9, ex9, hf⟩ := zl_i hf
        refine z_topi ex9 ?_
        refine lv_istore_n (lv' := [(2, .int x9), (0, .ref (G 0 0)), (1, .int w1), (3, .int u3)]) hx hb dX4_liking_36 rfl hl (by decide) rfl (fun ls hl => ?_)
        obtain ⟨x10, ex10, hf⟩ := zl_i hf
        refine lv_iinc (v := x10) (lv' := [(3, .int x10), (2, .int x9), (0, .ref (G 0 0)), (1, .int w1)]) hx hb dX4_liking_37 hl (k := 3) rfl (by rw [ex10]; rfl) (by decide) rfl (fun ls hl => ?_)
        refine lv_goto (tgt := 4) hx hb dX4_liking_40 (by decide) ?_
        exact ih x9 x10 _ _ _ _ _ hf hP hS (lv_sub hl [2, 3, 1, 0] rfl) k0_
set_option maxHeartbeats 4000000 in
set_option maxRecDepth 100000 in
theorem c_X4_liking (p0 : Int32) (T T' : zT) (v : Int32) (hf : f_X4_liking p0 T = some (v, T')) : zC 1 yX4_liking cX4_liking 4 (some .int) 1  0 0  (fun G _ => [.ref (G 0 0), .int p0]) T (fun _ => .inl (some (.int v))) T' := by
  intro l D Y S V G A hl9 hG
  refine vx_ofW (cc := cX4_liking) (maxL := 4) (ret := (some .int)) (by decide) rfl ?_
  intro p e s m args below meth c s₁ B hml hex hv
  obtain ⟨rfl, hK, hP, hA⟩ := hv
  have hx := B.exec
  have hb := B.bytes
  have hr := B.returns
  have hlocks := B.notSynchronized
  have hown : s.vm.findClass RX4 = some m.cls := findClass_of_methodNamed B.named
  have hts := atoms_spec (ws := Cond.code yX4_liking cX4_liking 4 (some .int) :: zWS) B.pre
  have F : zF 1 1  0 0  p l s m _ c cX4_liking 4 RX4 (Cond.code yX4_liking cX4_liking 4 (some .int)) D Y S V G A := ⟨hx, hb, hml, hown, hts, hl9, hG, hK, hA⟩
  have hS : va_S A s.heap s.heap [] := va_S.rf
  have hl := lv_entry ([.ref (G 0 0), .int p0]) (n := 4) (Nat.le_of_ble_eq_true rfl)
  rw [lg_entry_eq]
  generalize (lg_sl ([.ref (G 0 0), .int p0]) ++ List.replicate (4 - (lg_sl ([.ref (G 0 0), .int p0])).length) Slot.unset).toArray = ls at hl ⊢
  have hl : lv_has ls 4 [(0, .ref (G 0 0)), (1, .int p0)] := hl
  unfold f_X4_liking at hf
  refine lv_iconst (v := 0) hx hb dX4_liking_0 (by decide) ?_
  refine lv_istore_n (lv' := [(2, .int 0), (0, .ref (G 0 0)), (1, .int p0)]) hx hb dX4_liking_1 rfl hl (by decide) rfl (fun ls hl => ?_)
  refine lv_iconst (v := 0) hx hb dX4_liking_2 (by decide) ?_
  refine lv_istore_n (lv' := [(3, .int 0), (2, .int 0), (0, .ref (G 0 0)), (1, .int p0)]) hx hb dX4_liking_3 rfl hl (by decide) rfl (fun ls hl => ?_)
  obtain ⟨v12, T11, h13, hf⟩ := zb_i hf
  refine l_X4_liking_4 F ⟨Nat.le_of_ble_eq_true rfl, Nat.le_of_ble_eq_true rfl⟩ p0 2000 0 0 _ _ _ _ _ h13 hP hS (lv_sub hl [2, 3, 1, 0] rfl) (fun H locs ls hP hS hl => ?_)
  refine lv_iload_n hx hb dX4_liking_43 rfl (lv_at hl 2 rfl) ?_
  obtain ⟨q1, q2⟩ := zs_i hf
  subst q1; subst q2
  exact z_iret hx hb hr rfl hP hS hlocks (Nat.le_of_ble_eq_true rfl) (Nat.le_of_ble_eq_true rfl) dX4_liking_44

def lp_X4_partyOn_2 (w1 : Int32) (w2 : Int32) : Nat → Int32 → zT → Option ((Nat × Int32) × zT)
  | 0, _, _ => none
  | n + 1, u3, T => (if (T.2 2 0 5) ≤ u3 then some ((1, u3), T) else zb (f_X4_c u3 T) fun v3 T2 => zl (v3 + 3) fun x6 => if zin x6 151 = true then (if (T2.2 2 0 x6.toNatClampNeg) = w1 then zb (f_X4_c u3 T2) fun v9 T8 => zl (v9 + 4) fun x12 => if zin x12 151 = true then (if (T8.2 2 0 x12.toNatClampNeg) = w2 then some ((0, u3), T8) else zl (u3 + 1) fun x13 => lp_X4_partyOn_2 w1 w2 n x13 T8) else none else zl (u3 + 1) fun x7 => lp_X4_partyOn_2 w1 w2 n x7 T2) else none)
def f_X4_partyOn (p0 : Int32) (p1 : Int32) (T : zT) : Option (Int32 × zT) := zb (lp_X4_partyOn_2 p0 p1 2000 0 T) fun v15 T14 => if v15.1 = 0 then some (v15.2, T14) else if v15.1 = 1 then some ((-1), T14) else none
set_option maxHeartbeats 4000000 in
set_option maxRecDepth 100000 in
theorem l_X4_partyOn_2 {p : Program} {l : Launch} {e : Env} {s : State} {m : MethodId} {args : Array Value} {below : List Frame} {meth : Method} {c : Code} {Q : State → Prop} {D : va_G} {Y : Nat → ClassId} {S V : Nat → Nat} {G : Nat → Nat → Nat} {A : Nat → Prop} {c0 : Cond} {mc ms cells slots : Nat} (F : zF 1 1 mc ms p l s m args c cX4_partyOn 4 RX4 c0 D Y S V G A) (hcs : cells ≤ mc ∧ slots ≤ ms) (w1 : Int32) (w2 : Int32) :
    ∀ (n : Nat) (u3 : Int32) (T : zT) (o : (Nat × Int32) × zT) (H : Heap) (locs : List Loc) (ls : Array Slot), lp_X4_partyOn_2 w1 w2 n u3 T = some o → zP 1 D Y G T H → va_S A s.heap H locs → lv_has ls 4 [(0, .ref (G 0 0)), (1, .int w1), (2, .int w2), (3, .int u3)] → (o.1.1 = 0 → ∀ (H : Heap) (locs : List Loc) (ls : Array Slot), zP 1 D Y G o.2 H → va_S A s.heap H locs → lv_has ls 4 [(0, .ref (G 0 0)), (1, .int w1), (2, .int w2), (3, .int o.1.2)] → W p l e (zR 1 mc ms) s m args below meth c H locs cells slots Q (F0 m 42 ls [])) → (o.1.1 = 1 → ∀ (H : Heap) (locs : List Loc) (ls : Array Slot), zP 1 D Y G o.2 H → va_S A s.heap H locs → lv_has ls 4 [(0, .ref (G 0 0)), (1, .int w1), (2, .int w2), (3, .int o.1.2)] → W p l e (zR 1 mc ms) s m args below meth c H locs cells slots Q (F0 m 50 ls [])) → W p l e (zR 1 mc ms) s m args below meth c H locs cells slots Q (F0 m 2 ls []) := by
  obtain ⟨hx, hb, hml, hown, hts, hl9, hG, hK, hA⟩ := id F
  intro n
  induction n with
  | zero =>
    intro u3 T o H locs ls hf
    rw [lp_X4_partyOn_2] at hf
    cases hf
  | succ n ih =>
    intro u3 T o H locs ls hf hP hS hl k0_ k1_
    rw [lp_X4_partyOn_2] at hf
    refine lv_iload_n hx hb dX4_partyOn_2 rfl (lv_at hl 3 rfl) ?_
    refine lv_aload_n hx hb dX4_partyOn_3 rfl (lv_at hl 0 rfl) ?_
    refine z_get hx hb hts (fun w h => List.mem_cons_of_mem _ (ziX4 w h)) hown hK hP (zV_m (by decide)) rfl rfl 2 (by decide) (List.mem_cons_of_mem _ m_1143) rfl rfl dX4_partyOn_4 ?_
    refine lv_iconst (v := 5) hx hb dX4_partyOn_7 (by decide) ?_
    refine z_iald_ (j := 5) hx hb hK hP (zIA_m (by decide) (by decide)) (by decide) (by decide) dX4_partyOn_8 ?_
    refine lv_icmp_ge (tgt := 50) hx hb dX4_partyOn_9 (by decide) (fun hc => ?_) (fun hc => ?_)
    · have hf := zif_p hf hc
      cases hf
      exact k1_ rfl _ _ _ hP hS (lv_sub hl [0, 1, 2, 3] rfl)
    · have hf := zif_n hf hc
      refine lv_aload_n hx hb dX4_partyOn_12 rfl (lv_at hl 0 rfl) ?_
      refine z_get hx hb hts (fun w h => List.mem_cons_of_mem _ (ziX4 w h)) hown hK hP (zV_m (by decide)) rfl rfl 2 (by decide) (List.mem_cons_of_mem _ m_1143) rfl rfl dX4_partyOn_13 ?_
      refine lv_iload_n hx hb dX4_partyOn_16 rfl (lv_at hl 3 rfl) ?_
      obtain ⟨v3, T2, h4, hf⟩ := zb_i hf
      refine z_ok (z_runS (As := [.int u3]) (rest := [.ref (G 2 0)]) F k_X4_c m_1095 (c_X4_c u3 T T2 _ h4) hP hS rfl rfl hl.1 (Nat.le_of_ble_eq_true rfl) dX4_partyOn_17 (Nat.le_of_ble_eq_true rfl) ⟨hcs.1, hcs.2⟩ rfl) hS (fun H locs hP hS => ?_)
      refine lv_iconst (v := 3) hx hb dX4_partyOn_20 (by decide) ?_
      refine lv_iadd hx hb dX4_partyOn_21 ?_
      obtain ⟨x6, ex6, hf⟩ := zl_i hf
      refine z_topi ex6 ?_
      obtain ⟨h5, hf⟩ := zif_c hf
      refine z_iald hx hb hK hP (zIA_m (by decide) (by decide)) (zin_i h5) dX4_partyOn_22 ?_
      refine lv_iload_n hx hb dX4_partyOn_23 rfl (lv_at hl 1 rfl) ?_
      refine lv_icmp_ne (tgt := 44) hx hb dX4_partyOn_24 (by decide) (fun hc => ?_) (fun hc => ?_)
      · have hf := zif_n hf hc
        obtain ⟨x7, ex7, hf⟩ := zl_i hf
        refine lv_iinc (v := x7) (lv' := [(3, .int x7), (0, .ref (G 0 0)), (1, .int w1), (2, .int w2)]) hx hb dX4_partyOn_44 hl (k := 3) rfl (by rw [ex7]; rfl) (by decide) rfl (fun ls hl => ?_)
        refine lv_goto (tgt := 2) hx hb dX4_partyOn_47 (by decide) ?_
        exact ih x7 _ _ _ _ _ hf hP hS (lv_sub hl [1, 2, 3, 0] rfl) k0_ k1_
      · have hf := zif_p hf hc
        refine lv_aload_n hx hb dX4_partyOn_27 rfl (lv_at hl 0 rfl) ?_
        refine z_get hx hb hts (fun w h => List.mem_cons_of_mem _ (ziX4 w h)) hown hK hP (zV_m (by decide)) rfl rfl 2 (by decide) (List.mem_cons_of_mem _ m_1143) rfl rfl dX4_partyOn_28 ?_
        refine lv_iload_n hx hb dX4_partyOn_31 rfl (lv_at hl 3 rfl) ?_
        obtain ⟨v9, T8, h10, hf⟩ := zb_i hf
        refine z_ok (z_runS (As := [.int u3]) (rest := [.ref (G 2 0)]) F k_X4_c m_1095 (c_X4_c u3 T2 T8 _ h10) hP hS rfl rfl hl.1 (Nat.le_of_ble_eq_true rfl) dX4_partyOn_32 (Nat.le_of_ble_eq_true rfl) ⟨hcs.1, hcs.2⟩ rfl) hS (fun H locs hP hS => ?_)
        refine lv_iconst (v := 4) hx hb dX4_partyOn_35 (by decide) ?_
        refine lv_iadd hx hb dX4_partyOn_36 ?_
        obtain ⟨x12, ex12, hf⟩ := zl_i hf
        refine z_topi ex12 ?_
        obtain ⟨h11, hf⟩ := zif_c hf
        refine z_iald hx hb hK hP (zIA_m (by decide) (by decide)) (zin_i h11) dX4_partyOn_37 ?_
        refine lv_iload_n hx hb dX4_partyOn_38 rfl (lv_at hl 2 rfl) ?_
        refine lv_icmp_ne (tgt := 44) hx hb dX4_partyOn_39 (by decide) (fun hc => ?_) (fun hc => ?_)
        · have hf := zif_n hf hc
          obtain ⟨x13, ex13, hf⟩ := zl_i hf
          refine lv_iinc (v := x13) (lv' := [(3, .int x13), (0, .ref (G 0 0)), (1, .int w1), (2, .int w2)]) hx hb dX4_partyOn_44 hl (k := 3) rfl (by rw [ex13]; rfl) (by decide) rfl (fun ls hl => ?_)
          refine lv_goto (tgt := 2) hx hb dX4_partyOn_47 (by decide) ?_
          exact ih x13 _ _ _ _ _ hf hP hS (lv_sub hl [1, 2, 3, 0] rfl) k0_ k1_
        · have hf := zif_p hf hc
          cases hf
          exact k0_ rfl _ _ _ hP hS (lv_sub hl [0, 1, 2, 3] rfl)
set_option maxHeartbeats 4000000 in
set_option maxRecDepth 100000 in
theorem c_X4_partyOn (p0 : Int32) (p1 : Int32) (T T' : zT) (v : Int32) (hf : f_X4_partyOn p0 p1 T = some (v, T')) : zC 1 yX4_partyOn cX4_partyOn 4 (some .int) 1  0 0  (fun G _ => [.ref (G 0 0), .int p0, .int p1]) T (fun _ => .inl (some (.int v))) T' := by
  intro l D Y S V G A hl9 hG
  refine vx_ofW (cc := cX4_partyOn) (maxL := 4) (ret := (some .int)) (by decide) rfl ?_
  intro p e s m args below meth c s₁ B hml hex hv
  obtain ⟨rfl, hK, hP, hA⟩ := hv
  have hx := B.exec
  have hb := B.bytes
  have hr := B.returns
  have hlocks := B.notSynchronized
  have hown : s.vm.findClass RX4 = some m.cls := findClass_of_methodNamed B.named
  have hts := atoms_spec (ws := Cond.code yX4_partyOn cX4_partyOn 4 (some .int) :: zWS) B.pre
  have F : zF 1 1  0 0  p l s m _ c cX4_partyOn 4 RX4 (Cond.code yX4_partyOn cX4_partyOn 4 (some .int)) D Y S V G A := ⟨hx, hb, hml, hown, hts, hl9, hG, hK, hA⟩
  have hS : va_S A s.heap s.heap [] := va_S.rf
  have hl := lv_entry ([.ref (G 0 0), .int p0, .int p1]) (n := 4) (Nat.le_of_ble_eq_true rfl)
  rw [lg_entry_eq]
  generalize (lg_sl ([.ref (G 0 0), .int p0, .int p1]) ++ List.replicate (4 - (lg_sl ([.ref (G 0 0), .int p0, .int p1])).length) Slot.unset).toArray = ls at hl ⊢
  have hl : lv_has ls 4 [(0, .ref (G 0 0)), (1, .int p0), (2, .int p1)] := hl
  unfold f_X4_partyOn at hf
  refine lv_iconst (v := 0) hx hb dX4_partyOn_0 (by decide) ?_
  refine lv_istore_n (lv' := [(3, .int 0), (0, .ref (G 0 0)), (1, .int p0), (2, .int p1)]) hx hb dX4_partyOn_1 rfl hl (by decide) rfl (fun ls hl => ?_)
  obtain ⟨v15, T14, h16, hf⟩ := zb_i hf
  refine l_X4_partyOn_2 F ⟨Nat.le_of_ble_eq_true rfl, Nat.le_of_ble_eq_true rfl⟩ p0 p1 2000 0 _ _ _ _ _ h16 hP hS (lv_sub hl [1, 2, 3, 0] rfl) (fun hc H locs ls hP hS hl => ?_) (fun hc H locs ls hP hS hl => ?_)
  · have hf := zif_p hf hc
    refine lv_iload_n hx hb dX4_partyOn_42 rfl (lv_at hl 3 rfl) ?_
    obtain ⟨q1, q2⟩ := zs_i hf
    subst q1; subst q2
    exact z_iret hx hb hr rfl hP hS hlocks (Nat.le_of_ble_eq_true rfl) (Nat.le_of_ble_eq_true rfl) dX4_partyOn_43
  · have hf := zif_n hf (by rw [hc]; decide)
    have hf := zif_p hf hc
    refine lv_iconst (v := (-1)) hx hb dX4_partyOn_50 (by decide) ?_
    obtain ⟨q1, q2⟩ := zs_i hf
    subst q1; subst q2
    exact z_iret hx hb hr rfl hP hS hlocks (Nat.le_of_ble_eq_true rfl) (Nat.le_of_ble_eq_true rfl) dX4_partyOn_51

def lp_X4_isTaken_3 (w1 : Int32) (w2 : Int32) (w3 : Int32) : Nat → Int32 → zT → Option ((Nat × Int32) × zT)
  | 0, _, _ => none
  | n + 1, u4, T => (if (T.2 2 0 5) ≤ u4 then some ((1, u4), T) else (if u4 = w1 then zl (u4 + 1) fun x2 => lp_X4_isTaken_3 w1 w2 w3 n x2 T else zb (f_X4_c u4 T) fun v4 T3 => zl (v4 + 3) fun x7 => if zin x7 151 = true then (if (T3.2 2 0 x7.toNatClampNeg) = w2 then zb (f_X4_c u4 T3) fun v10 T9 => zl (v10 + 4) fun x13 => if zin x13 151 = true then (if (T9.2 2 0 x13.toNatClampNeg) = w3 then some ((0, u4), T9) else zl (u4 + 1) fun x14 => lp_X4_isTaken_3 w1 w2 w3 n x14 T9) else none else zl (u4 + 1) fun x8 => lp_X4_isTaken_3 w1 w2 w3 n x8 T3) else none))
def f_X4_isTaken (p0 : Int32) (p1 : Int32) (p2 : Int32) (T : zT) : Option (Int32 × zT) := zb (lp_X4_isTaken_3 p0 p1 p2 2000 0 T) fun v16 T15 => if v16.1 = 0 then some (1, T15) else if v16.1 = 1 then some (0, T15) else none
set_option maxHeartbeats 4000000 in
set_option maxRecDepth 100000 in
theorem l_X4_isTaken_3 {p : Program} {l : Launch} {e : Env} {s : State} {m : MethodId} {args : Array Value} {below : List Frame} {meth : Method} {c : Code} {Q : State → Prop} {D : va_G} {Y : Nat → ClassId} {S V : Nat → Nat} {G : Nat → Nat → Nat} {A : Nat → Prop} {c0 : Cond} {mc ms cells slots : Nat} (F : zF 1 1 mc ms p l s m args c cX4_isTaken 5 RX4 c0 D Y S V G A) (hcs : cells ≤ mc ∧ slots ≤ ms) (w1 : Int32) (w2 : Int32) (w3 : Int32) :
    ∀ (n : Nat) (u4 : Int32) (T : zT) (o : (Nat × Int32) × zT) (H : Heap) (locs : List Loc) (ls : Array Slot), lp_X4_isTaken_3 w1 w2 w3 n u4 T = some o → zP 1 D Y G T H → va_S A s.heap H locs → lv_has ls 5 [(0, .ref (G 0 0)), (1, .int w1), (2, .int w2), (3, .int w3), (4, .int u4)] → (o.1.1 = 0 → ∀ (H : Heap) (locs : List Loc) (ls : Array Slot), zP 1 D Y G o.2 H → va_S A s.heap H locs → lv_has ls 5 [(0, .ref (G 0 0)), (1, .int w1), (2, .int w2), (3, .int w3), (4, .int o.1.2)] → W p l e (zR 1 mc ms) s m args below meth c H locs cells slots Q (F0 m 52 ls [])) → (o.1.1 = 1 → ∀ (H : Heap) (locs : List Loc) (ls : Array Slot), zP 1 D Y G o.2 H → va_S A s.heap H locs → lv_has ls 5 [(0, .ref (G 0 0)), (1, .int w1), (2, .int w2), (3, .int w3), (4, .int o.1.2)] → W p l e (zR 1 mc ms) s m args below meth c H locs cells slots Q (F0 m 60 ls [])) → W p l e (zR 1 mc ms) s m args below meth c H locs cells slots Q (F0 m 3 ls []) := by
  obtain ⟨hx, hb, hml, hown, hts, hl9, hG, hK, hA⟩ := id F
  intro n
  induction n with
  | zero =>
    intro u4 T o H locs ls hf
    rw [lp_X4_isTaken_3] at hf
    cases hf
  | succ n ih =>
    intro u4 T o H locs ls hf hP hS hl k0_ k1_
    rw [lp_X4_isTaken_3] at hf
    refine lv_iload hx hb dX4_isTaken_3 (lv_at hl 4 rfl) ?_
    refine lv_aload_n hx hb dX4_isTaken_5 rfl (lv_at hl 0 rfl) ?_
    refine z_get hx hb hts (fun w h => List.mem_cons_of_mem _ (ziX4 w h)) hown hK hP (zV_m (by decide)) rfl rfl 2 (by decide) (List.mem_cons_of_mem _ m_1143) rfl rfl dX4_isTaken_6 ?_
    refine lv_iconst (v := 5) hx hb dX4_isTaken_9 (by decide) ?_
    refine z_iald_ (j := 5) hx hb hK hP (zIA_m (by decide) (by decide)) (by decide) (by decide) dX4_isTaken_10 ?_
    refine lv_icmp_ge (tgt := 60) hx hb dX4_isTaken_11 (by decide) (fun hc => ?_) (fun hc => ?_)
    · have hf := zif_p hf hc
      cases hf
      exact k1_ rfl _ _ _ hP hS (lv_sub hl [0, 1, 2, 3, 4] rfl)
    · have hf := zif_n hf hc
      refine lv_iload hx hb dX4_isTaken_14 (lv_at hl 4 rfl) ?_
      refine lv_iload_n hx hb dX4_isTaken_16 rfl (lv_at hl 1 rfl) ?_
      refine lv_icmp_eq (tgt := 54) hx hb dX4_isTaken_17 (by decide) (fun hc => ?_) (fun hc => ?_)
      · have hf := zif_p hf hc
        obtain ⟨x2, ex2, hf⟩ := zl_i hf
        refine lv_iinc (v := x2) (lv' := [(4, .int x2), (0, .ref (G 0 0)), (1, .int w1), (2, .int w2), (3, .int w3)]) hx hb dX4_isTaken_54 hl (k := 4) rfl (by rw [ex2]; rfl) (by decide) rfl (fun ls hl => ?_)
        refine lv_goto (tgt := 3) hx hb dX4_isTaken_57 (by decide) ?_
        exact ih x2 _ _ _ _ _ hf hP hS (lv_sub hl [1, 2, 3, 4, 0] rfl) k0_ k1_
      · have hf := zif_n hf hc
        refine lv_aload_n hx hb dX4_isTaken_20 rfl (lv_at hl 0 rfl) ?_
        refine z_get hx hb hts (fun w h => List.mem_cons_of_mem _ (ziX4 w h)) hown hK hP (zV_m (by decide)) rfl rfl 2 (by decide) (List.mem_cons_of_mem _ m_1143) rfl rfl dX4_isTaken_21 ?_
        refine lv_iload hx hb dX4_isTaken_24 (lv_at hl 4 rfl) ?_
        obtain ⟨v4, T3, h5, hf⟩ := zb_i hf
        refine z_ok (z_runS (As := [.int u4]) (rest := [.ref (G 2 0)]) F k_X4_c m_1095 (c_X4_c u4 T T3 _ h5) hP hS rfl rfl hl.1 (Nat.le_of_ble_eq_true rfl) dX4_isTaken_26 (Nat.le_of_ble_eq_true rfl) ⟨hcs.1, hcs.2⟩ rfl) hS (fun H locs hP hS => ?_)
        refine lv_iconst (v := 3) hx hb dX4_isTaken_29 (by decide) ?_
        refine lv_iadd hx hb dX4_isTaken_30 ?_
        obtain ⟨x7, ex7, hf⟩ := zl_i hf
        refine z_topi ex7 ?_
        obtain ⟨h6, hf⟩ := zif_c hf
        refine z_iald hx hb hK hP (zIA_m (by decide) (by decide)) (zin_i h6) dX4_isTaken_31 ?_
        refine lv_iload_n hx hb dX4_isTaken_32 rfl (lv_at hl 2 rfl) ?_
        refine lv_icmp_ne (tgt := 54) hx hb dX4_isTaken_33 (by decide) (fun hc => ?_) (fun hc => ?_)
        · have hf := zif_n hf hc
          obtain ⟨x8, ex8, hf⟩ := zl_i hf
          refine lv_iinc (v := x8) (lv' := [(4, .int x8), (0, .ref (G 0 0)), (1, .int w1), (2, .int w2), (3, .int w3)]) hx hb dX4_isTaken_54 hl (k := 4) rfl (by rw [ex8]; rfl) (by decide) rfl (fun ls hl => ?_)
          refine lv_goto (tgt := 3) hx hb dX4_isTaken_57 (by decide) ?_
          exact ih x8 _ _ _ _ _ hf hP hS (lv_sub hl [1, 2, 3, 4, 0] rfl) k0_ k1_
        · have hf := zif_p hf hc
          refine lv_aload_n hx hb dX4_isTaken_36 rfl (lv_at hl 0 rfl) ?_
          refine z_get hx hb hts (fun w h => List.mem_cons_of_mem _ (ziX4 w h)) hown hK hP (zV_m (by decide)) rfl rfl 2 (by decide) (List.mem_cons_of_mem _ m_1143) rfl rfl dX4_isTaken_37 ?_
          refine lv_iload hx hb dX4_isTaken_40 (lv_at hl 4 rfl) ?_
          obtain ⟨v10, T9, h11, hf⟩ := zb_i hf
          refine z_ok (z_runS (As := [.int u4]) (rest := [.ref (G 2 0)]) F k_X4_c m_1095 (c_X4_c u4 T3 T9 _ h11) hP hS rfl rfl hl.1 (Nat.le_of_ble_eq_true rfl) dX4_isTaken_42 (Nat.le_of_ble_eq_true rfl) ⟨hcs.1, hcs.2⟩ rfl) hS (fun H locs hP hS => ?_)
          refine lv_iconst (v := 4) hx hb dX4_isTaken_45 (by decide) ?_
          refine lv_iadd hx hb dX4_isTaken_46 ?_
          obtain ⟨x13, ex13, hf⟩ := zl_i hf
          refine z_topi ex13 ?_
          obtain ⟨h12, hf⟩ := zif_c hf
          refine z_iald hx hb hK hP (zIA_m (by decide) (by decide)) (zin_i h12) dX4_isTaken_47 ?_
          refine lv_iload_n hx hb dX4_isTaken_48 rfl (lv_at hl 3 rfl) ?_
          refine lv_icmp_ne (tgt := 54) hx hb dX4_isTaken_49 (by decide) (fun hc => ?_) (fun hc => ?_)
          · have hf := zif_n hf hc
            obtain ⟨x14, ex14, hf⟩ := zl_i hf
            refine lv_iinc (v := x14) (lv' := [(4, .int x14), (0, .ref (G 0 0)), (1, .int w1), (2, .int w2), (3, .int w3)]) hx hb dX4_isTaken_54 hl (k := 4) rfl (by rw [ex14]; rfl) (by decide) rfl (fun ls hl => ?_)
            refine lv_goto (tgt := 3) hx hb dX4_isTaken_57 (by decide) ?_
            exact ih x14 _ _ _ _ _ hf hP hS (lv_sub hl [1, 2, 3, 4, 0] rfl) k0_ k1_
          · have hf := zif_p hf hc
            cases hf
            exact k0_ rfl _ _ _ hP hS (lv_sub hl [0, 1, 2, 3, 4] rfl)
set_option maxHeartbeats 4000000 in
set_option maxRecDepth 100000 in
theorem c_X4_isTaken (p0 : Int32) (p1 : Int32) (p2 : Int32) (T T' : zT) (v : Int32) (hf : f_X4_isTaken p0 p1 p2 T = some (v, T')) : zC 1 yX4_isTaken cX4_isTaken 5 (some .boolean) 1  0 0  (fun G _ => [.ref (G 0 0), .int p0, .int p1, .int p2]) T (fun _ => .inl (some (.int v))) T' := by
  intro l D Y S V G A hl9 hG
  refine vx_ofW (cc := cX4_isTaken) (maxL := 5) (ret := (some .boolean)) (by decide) rfl ?_
  intro p e s m args below meth c s₁ B hml hex hv
  obtain ⟨rfl, hK, hP, hA⟩ := hv
  have hx := B.exec
  have hb := B.bytes
  have hr := B.returns
  have hlocks := B.notSynchronized
  have hown : s.vm.findClass RX4 = some m.cls := findClass_of_methodNamed B.named
  have hts := atoms_spec (ws := Cond.code yX4_isTaken cX4_isTaken 5 (some .boolean) :: zWS) B.pre
  have F : zF 1 1  0 0  p l s m _ c cX4_isTaken 5 RX4 (Cond.code yX4_isTaken cX4_isTaken 5 (some .boolean)) D Y S V G A := ⟨hx, hb, hml, hown, hts, hl9, hG, hK, hA⟩
  have hS : va_S A s.heap s.heap [] := va_S.rf
  have hl := lv_entry ([.ref (G 0 0), .int p0, .int p1, .int p2]) (n := 5) (Nat.le_of_ble_eq_true rfl)
  rw [lg_entry_eq]
  generalize (lg_sl ([.ref (G 0 0), .int p0, .int p1, .int p2]) ++ List.replicate (5 - (lg_sl ([.ref (G 0 0), .int p0, .int p1, .int p2])).length) Slot.unset).toArray = ls at hl ⊢
  have hl : lv_has ls 5 [(0, .ref (G 0 0)), (1, .int p0), (2, .int p1), (3, .int p2)] := hl
  unfold f_X4_isTaken at hf
  refine lv_iconst (v := 0) hx hb dX4_isTaken_0 (by decide) ?_
  refine lv_istore (lv' := [(4, .int 0), (0, .ref (G 0 0)), (1, .int p0), (2, .int p1), (3, .int p2)]) hx hb dX4_isTaken_1 hl (by decide) rfl (fun ls hl => ?_)
  obtain ⟨v16, T15, h17, hf⟩ := zb_i hf
  refine l_X4_isTaken_3 F ⟨Nat.le_of_ble_eq_true rfl, Nat.le_of_ble_eq_true rfl⟩ p0 p1 p2 2000 0 _ _ _ _ _ h17 hP hS (lv_sub hl [1, 2, 3, 4, 0] rfl) (fun hc H locs ls hP hS hl => ?_) (fun hc H locs ls hP hS hl => ?_)
  · have hf := zif_p hf hc
    refine lv_iconst (v := 1) hx hb dX4_isTaken_52 (by decide) ?_
    obtain ⟨q1, q2⟩ := zs_i hf
    subst q1; subst q2
    exact z_zret hx hb hr (Or.inr rfl) rfl hP hS hlocks (Nat.le_of_ble_eq_true rfl) (Nat.le_of_ble_eq_true rfl) dX4_isTaken_53
  · have hf := zif_n hf (by rw [hc]; decide)
    have hf := zif_p hf hc
    refine lv_iconst (v := 0) hx hb dX4_isTaken_60 (by decide) ?_
    obtain ⟨q1, q2⟩ := zs_i hf
    subst q1; subst q2
    exact z_zret hx hb hr (Or.inl rfl) rfl hP hS hlocks (Nat.le_of_ble_eq_true rfl) (Nat.le_of_ble_eq_true rfl) dX4_isTaken_61

def f_X4_reason (p0 : Int32) (p1 : Int32) (p2 : Int32) (T : zT) : Option (Int32 × zT) := zb (f_X4_isTaken p0 p1 p2 T) fun v2 T1 => (if v2 = 0 then zl (17 + p1) fun x5 => if zin x5 151 = true then zb (f_X4_c p0 T1) fun v7 T6 => zl (v7 + 0) fun x10 => if zin x10 151 = true then zb (f_X4_liking (T6.2 2 0 x10.toNatClampNeg) T6) fun v12 T11 => (if v12 ≤ (T1.2 2 0 x5.toNatClampNeg) then some (0, T11) else some (2, T11)) else none else none else some (1, T1))
set_option maxHeartbeats 4000000 in
set_option maxRecDepth 100000 in
theorem c_X4_reason (p0 : Int32) (p1 : Int32) (p2 : Int32) (T T' : zT) (v : Int32) (hf : f_X4_reason p0 p1 p2 T = some (v, T')) : zC 1 yX4_reason cX4_reason 4 (some .int) 2  0 0  (fun G _ => [.ref (G 0 0), .int p0, .int p1, .int p2]) T (fun _ => .inl (some (.int v))) T' := by
  intro l D Y S V G A hl9 hG
  refine vx_ofW (cc := cX4_reason) (maxL := 4) (ret := (some .int)) (by decide) rfl ?_
  intro p e s m args below meth c s₁ B hml hex hv
  obtain ⟨rfl, hK, hP, hA⟩ := hv
  have hx := B.exec
  have hb := B.bytes
  have hr := B.returns
  have hlocks := B.notSynchronized
  have hown : s.vm.findClass RX4 = some m.cls := findClass_of_methodNamed B.named
  have hts := atoms_spec (ws := Cond.code yX4_reason cX4_reason 4 (some .int) :: zWS) B.pre
  have F : zF 1 2  0 0  p l s m _ c cX4_reason 4 RX4 (Cond.code yX4_reason cX4_reason 4 (some .int)) D Y S V G A := ⟨hx, hb, hml, hown, hts, hl9, hG, hK, hA⟩
  have hS : va_S A s.heap s.heap [] := va_S.rf
  have hl := lv_entry ([.ref (G 0 0), .int p0, .int p1, .int p2]) (n := 4) (Nat.le_of_ble_eq_true rfl)
  rw [lg_entry_eq]
  generalize (lg_sl ([.ref (G 0 0), .int p0, .int p1, .int p2]) ++ List.replicate (4 - (lg_sl ([.ref (G 0 0), .int p0, .int p1, .int p2])).length) Slot.unset).toArray = ls at hl ⊢
  have hl : lv_has ls 4 [(0, .ref (G 0 0)), (1, .int p0), (2, .int p1), (3, .int p2)] := hl
  unfold f_X4_reason at hf
  refine lv_aload_n hx hb dX4_reason_0 rfl (lv_at hl 0 rfl) ?_
  refine lv_iload_n hx hb dX4_reason_1 rfl (lv_at hl 1 rfl) ?_
  refine lv_iload_n hx hb dX4_reason_2 rfl (lv_at hl 2 rfl) ?_
  refine lv_iload_n hx hb dX4_reason_3 rfl (lv_at hl 3 rfl) ?_
  obtain ⟨v2, T1, h3, hf⟩ := zb_i hf
  refine z_ok (z_runV (As := [.int p0, .int p1, .int p2]) (rest := []) F k_X4_isTaken m_1109 (c_X4_isTaken p0 p1 p2 T T1 _ h3) hP hS (zV_m (by decide)) rfl rfl rfl rfl hl.1 (Nat.le_of_ble_eq_true rfl) dX4_reason_4 (Nat.le_of_ble_eq_true rfl) ⟨Nat.le_of_ble_eq_true rfl, Nat.le_of_ble_eq_true rfl⟩ rfl) hS (fun H locs hP hS => ?_)
  refine lv_if_eq (tgt := 12) hx hb dX4_reason_7 (by decide) (fun hc => ?_) (fun hc => ?_)
  · have hf := zif_p hf hc
    refine lv_aload_n hx hb dX4_reason_12 rfl (lv_at hl 0 rfl) ?_
    refine z_get hx hb hts (fun w h => List.mem_cons_of_mem _ (ziX4 w h)) hown hK hP (zV_m (by decide)) rfl rfl 2 (by decide) (List.mem_cons_of_mem _ m_1143) rfl rfl dX4_reason_13 ?_
    refine lv_bipush (v := 17) hx hb dX4_reason_16 (by decide) ?_
    refine lv_iload_n hx hb dX4_reason_18 rfl (lv_at hl 2 rfl) ?_
    refine lv_iadd hx hb dX4_reason_19 ?_
    obtain ⟨x5, ex5, hf⟩ := zl_i hf
    refine z_topi ex5 ?_
    obtain ⟨h4, hf⟩ := zif_c hf
    refine z_iald hx hb hK hP (zIA_m (by decide) (by decide)) (zin_i h4) dX4_reason_20 ?_
    refine lv_aload_n hx hb dX4_reason_21 rfl (lv_at hl 0 rfl) ?_
    refine lv_aload_n hx hb dX4_reason_22 rfl (lv_at hl 0 rfl) ?_
    refine z_get hx hb hts (fun w h => List.mem_cons_of_mem _ (ziX4 w h)) hown hK hP (zV_m (by decide)) rfl rfl 2 (by decide) (List.mem_cons_of_mem _ m_1143) rfl rfl dX4_reason_23 ?_
    refine lv_iload_n hx hb dX4_reason_26 rfl (lv_at hl 1 rfl) ?_
    obtain ⟨v7, T6, h8, hf⟩ := zb_i hf
    refine z_ok (z_runS (As := [.int p0]) (rest := [.ref (G 2 0), .ref (G 0 0), .int (T1.2 2 0 x5.toNatClampNeg)]) F k_X4_c m_1095 (c_X4_c p0 T1 T6 _ h8) hP hS rfl rfl hl.1 (Nat.le_of_ble_eq_true rfl) dX4_reason_27 (Nat.le_of_ble_eq_true rfl) ⟨Nat.le_of_ble_eq_true rfl, Nat.le_of_ble_eq_true rfl⟩ rfl) hS (fun H locs hP hS => ?_)
    refine lv_iconst (v := 0) hx hb dX4_reason_30 (by decide) ?_
    refine lv_iadd hx hb dX4_reason_31 ?_
    obtain ⟨x10, ex10, hf⟩ := zl_i hf
    refine z_topi ex10 ?_
    obtain ⟨h9, hf⟩ := zif_c hf
    refine z_iald hx hb hK hP (zIA_m (by decide) (by decide)) (zin_i h9) dX4_reason_32 ?_
    obtain ⟨v12, T11, h13, hf⟩ := zb_i hf
    refine z_ok (z_runV (As := [.int (T6.2 2 0 x10.toNatClampNeg)]) (rest := [.int (T1.2 2 0 x5.toNatClampNeg)]) F k_X4_liking m_1113 (c_X4_liking (T6.2 2 0 x10.toNatClampNeg) T6 T11 _ h13) hP hS (zV_m (by decide)) rfl rfl rfl rfl hl.1 (Nat.le_of_ble_eq_true rfl) dX4_reason_33 (Nat.le_of_ble_eq_true rfl) ⟨Nat.le_of_ble_eq_true rfl, Nat.le_of_ble_eq_true rfl⟩ rfl) hS (fun H locs hP hS => ?_)
    refine lv_icmp_ge (tgt := 43) hx hb dX4_reason_36 (by decide) (fun hc => ?_) (fun hc => ?_)
    · have hf := zif_p hf hc
      refine lv_iconst (v := 0) hx hb dX4_reason_43 (by decide) ?_
      obtain ⟨q1, q2⟩ := zs_i hf
      subst q1; subst q2
      exact z_iret hx hb hr rfl hP hS hlocks (Nat.le_of_ble_eq_true rfl) (Nat.le_of_ble_eq_true rfl) dX4_reason_44
    · have hf := zif_n hf hc
      refine lv_iconst (v := 2) hx hb dX4_reason_39 (by decide) ?_
      refine lv_goto (tgt := 44) hx hb dX4_reason_40 (by decide) ?_
      obtain ⟨q1, q2⟩ := zs_i hf
      subst q1; subst q2
      exact z_iret hx hb hr rfl hP hS hlocks (Nat.le_of_ble_eq_true rfl) (Nat.le_of_ble_eq_true rfl) dX4_reason_44
  · have hf := zif_n hf hc
    refine lv_iconst (v := 1) hx hb dX4_reason_10 (by decide) ?_
    obtain ⟨q1, q2⟩ := zs_i hf
    subst q1; subst q2
    exact z_iret hx hb hr rfl hP hS hlocks (Nat.le_of_ble_eq_true rfl) (Nat.le_of_ble_eq_true rfl) dX4_reason_11

def f_X4_daysTo (p0 : Int32) (T : zT) : Option (Int32 × zT) := zl ((p0 - (T.2 2 0 1)) + 360) fun x2 => zl (x2 - x2 / 360 * 360) fun x3 => (if x3 = 0 then some (360, T) else some (x3, T))
set_option maxHeartbeats 4000000 in
set_option maxRecDepth 100000 in
theorem c_X4_daysTo (p0 : Int32) (T T' : zT) (v : Int32) (hf : f_X4_daysTo p0 T = some (v, T')) : zC 1 yX4_daysTo cX4_daysTo 3 (some .int) 0  0 0  (fun G _ => [.ref (G 0 0), .int p0]) T (fun _ => .inl (some (.int v))) T' := by
  intro l D Y S V G A hl9 hG
  refine vx_ofW (cc := cX4_daysTo) (maxL := 3) (ret := (some .int)) (by decide) rfl ?_
  intro p e s m args below meth c s₁ B hml hex hv
  obtain ⟨rfl, hK, hP, hA⟩ := hv
  have hx := B.exec
  have hb := B.bytes
  have hr := B.returns
  have hlocks := B.notSynchronized
  have hown : s.vm.findClass RX4 = some m.cls := findClass_of_methodNamed B.named
  have hts := atoms_spec (ws := Cond.code yX4_daysTo cX4_daysTo 3 (some .int) :: zWS) B.pre
  have F : zF 1 0  0 0  p l s m _ c cX4_daysTo 3 RX4 (Cond.code yX4_daysTo cX4_daysTo 3 (some .int)) D Y S V G A := ⟨hx, hb, hml, hown, hts, hl9, hG, hK, hA⟩
  have hS : va_S A s.heap s.heap [] := va_S.rf
  have hl := lv_entry ([.ref (G 0 0), .int p0]) (n := 3) (Nat.le_of_ble_eq_true rfl)
  rw [lg_entry_eq]
  generalize (lg_sl ([.ref (G 0 0), .int p0]) ++ List.replicate (3 - (lg_sl ([.ref (G 0 0), .int p0])).length) Slot.unset).toArray = ls at hl ⊢
  have hl : lv_has ls 3 [(0, .ref (G 0 0)), (1, .int p0)] := hl
  unfold f_X4_daysTo at hf
  refine lv_iload_n hx hb dX4_daysTo_0 rfl (lv_at hl 1 rfl) ?_
  refine lv_aload_n hx hb dX4_daysTo_1 rfl (lv_at hl 0 rfl) ?_
  refine z_get hx hb hts (fun w h => List.mem_cons_of_mem _ (ziX4 w h)) hown hK hP (zV_m (by decide)) rfl rfl 2 (by decide) (List.mem_cons_of_mem _ m_1143) rfl rfl dX4_daysTo_2 ?_
  refine lv_iconst (v := 1) hx hb dX4_daysTo_5 (by decide) ?_
  refine z_iald_ (j := 1) hx hb hK hP (zIA_m (by decide) (by decide)) (by decide) (by decide) dX4_daysTo_6 ?_
  refine lv_isub hx hb dX4_daysTo_7 ?_
  refine lv_sipush (v := 360) hx hb dX4_daysTo_8 (by decide) ?_
  refine lv_iadd hx hb dX4_daysTo_11 ?_
  refine lv_sipush (v := 360) hx hb dX4_daysTo_12 (by decide) ?_
  obtain ⟨x2, ex2, hf⟩ := zl_i hf
  rw [← ex2]
  refine lv_irem hx hb dX4_daysTo_15 (by decide) ?_
  obtain ⟨x3, ex3, hf⟩ := zl_i hf
  refine z_topi ex3 ?_
  refine lv_istore_n (lv' := [(2, .int x3), (0, .ref (G 0 0)), (1, .int p0)]) hx hb dX4_daysTo_16 rfl hl (by decide) rfl (fun ls hl => ?_)
  refine lv_iload_n hx hb dX4_daysTo_17 rfl (lv_at hl 0 rfl) ?_
  refine lv_if_ne (tgt := 27) hx hb dX4_daysTo_18 (by decide) (fun hc => ?_) (fun hc => ?_)
  · have hf := zif_n hf hc
    refine lv_iload_n hx hb dX4_daysTo_27 rfl (lv_at hl 0 rfl) ?_
    obtain ⟨q1, q2⟩ := zs_i hf
    subst q1; subst q2
    exact z_iret hx hb hr rfl hP hS hlocks (Nat.le_of_ble_eq_true rfl) (Nat.le_of_ble_eq_true rfl) dX4_daysTo_28
  · have hf := zif_p hf hc
    refine lv_sipush (v := 360) hx hb dX4_daysTo_21 (by decide) ?_
    refine lv_goto (tgt := 28) hx hb dX4_daysTo_24 (by decide) ?_
    obtain ⟨q1, q2⟩ := zs_i hf
    subst q1; subst q2
    exact z_iret hx hb hr rfl hP hS hlocks (Nat.le_of_ble_eq_true rfl) (Nat.le_of_ble_eq_true rfl) dX4_daysTo_28

def f_X4_seedBehind (p0 : Int32) (T : zT) : Option (Int32 × zT) := zl ((p0 * 211) + 97) fun x1 => some ((x1 - x1 / 9973 * 9973), T)
set_option maxHeartbeats 4000000 in
set_option maxRecDepth 100000 in
theorem c_X4_seedBehind (p0 : Int32) (T T' : zT) (v : Int32) (hf : f_X4_seedBehind p0 T = some (v, T')) : zC 1 yX4_seedBehind cX4_seedBehind 1 (some .int) 0  0 0  (fun _ _ => [.int p0]) T (fun _ => .inl (some (.int v))) T' := by
  intro l D Y S V G A hl9 hG
  refine vx_ofW (cc := cX4_seedBehind) (maxL := 1) (ret := (some .int)) (by decide) rfl ?_
  intro p e s m args below meth c s₁ B hml hex hv
  obtain ⟨rfl, hK, hP, hA⟩ := hv
  have hx := B.exec
  have hb := B.bytes
  have hr := B.returns
  have hlocks := B.notSynchronized
  have hown : s.vm.findClass RX4 = some m.cls := findClass_of_methodNamed B.named
  have hts := atoms_spec (ws := Cond.code yX4_seedBehind cX4_seedBehind 1 (some .int) :: zWS) B.pre
  have F : zF 1 0  0 0  p l s m _ c cX4_seedBehind 1 RX4 (Cond.code yX4_seedBehind cX4_seedBehind 1 (some .int)) D Y S V G A := ⟨hx, hb, hml, hown, hts, hl9, hG, hK, hA⟩
  have hS : va_S A s.heap s.heap [] := va_S.rf
  have hl := lv_entry ([.int p0]) (n := 1) (Nat.le_of_ble_eq_true rfl)
  rw [lg_entry_eq]
  generalize (lg_sl ([.int p0]) ++ List.replicate (1 - (lg_sl ([.int p0])).length) Slot.unset).toArray = ls at hl ⊢
  have hl : lv_has ls 1 [(0, .int p0)] := hl
  unfold f_X4_seedBehind at hf
  refine lv_iload_n hx hb dX4_seedBehind_0 rfl (lv_at hl 0 rfl) ?_
  refine lv_sipush (v := 211) hx hb dX4_seedBehind_1 (by decide) ?_
  refine lv_imul hx hb dX4_seedBehind_4 ?_
  refine lv_bipush (v := 97) hx hb dX4_seedBehind_5 (by decide) ?_
  refine lv_iadd hx hb dX4_seedBehind_7 ?_
  refine lv_sipush (v := 9973) hx hb dX4_seedBehind_8 (by decide) ?_
  obtain ⟨x1, ex1, hf⟩ := zl_i hf
  rw [← ex1]
  refine lv_irem hx hb dX4_seedBehind_11 (by decide) ?_
  obtain ⟨q1, q2⟩ := zs_i hf
  subst q1; subst q2
  exact z_iret hx hb hr rfl hP hS hlocks (Nat.le_of_ble_eq_true rfl) (Nat.le_of_ble_eq_true rfl) dX4_seedBehind_12

def lp_X4_tries_12 (w1 : Int32) : Nat → Int32 → zT → Option ((Nat × Int32) × zT)
  | 0, _, _ => none
  | n + 1, u2, T => (if 20 < u2 then some ((1, u2), T) else zb (f_X4_seedBehind (T.1 0 0 15) T) fun v5 T4 => zl (wI T4 0 0 15 v5) fun T7 => zl (T7.1 0 0 15) fun x8 => zl (x8 - x8 / 360 * 360) fun x9 => zl (wI T7 0 0 16 x9) fun T10 => zb (f_X4_c w1 T10) fun v12 T11 => zl (v12 + 3) fun x15 => if zin x15 151 = true then zb (f_X4_reason w1 (T11.2 2 0 x15.toNatClampNeg) (T11.1 0 0 16) T11) fun v17 T16 => (if v17 = 0 then some ((0, u2), T16) else zl (u2 + 1) fun x19 => lp_X4_tries_12 w1 n x19 T16) else none)
def f_X4_tries (p0 : Int32) (T : zT) : Option (Int32 × zT) := zl (T.2 2 0 2) fun x2 => zl (wI T 0 0 15 x2) fun T3 => zb (lp_X4_tries_12 p0 2000 1 T3) fun v21 T20 => if v21.1 = 0 then some (v21.2, T20) else if v21.1 = 1 then some ((-1), T20) else none
set_option maxHeartbeats 4000000 in
set_option maxRecDepth 100000 in
theorem l_X4_tries_12 {p : Program} {l : Launch} {e : Env} {s : State} {m : MethodId} {args : Array Value} {below : List Frame} {meth : Method} {c : Code} {Q : State → Prop} {D : va_G} {Y : Nat → ClassId} {S V : Nat → Nat} {G : Nat → Nat → Nat} {A : Nat → Prop} {c0 : Cond} {mc ms cells slots : Nat} (F : zF 1 3 mc ms p l s m args c cX4_tries 3 RX4 c0 D Y S V G A) (hcs : cells ≤ mc ∧ slots ≤ ms) (w1 : Int32) :
    ∀ (n : Nat) (u2 : Int32) (T : zT) (o : (Nat × Int32) × zT) (H : Heap) (locs : List Loc) (ls : Array Slot), lp_X4_tries_12 w1 n u2 T = some o → zP 1 D Y G T H → va_S A s.heap H locs → lv_has ls 3 [(0, .ref (G 0 0)), (1, .int w1), (2, .int u2)] → (o.1.1 = 0 → ∀ (H : Heap) (locs : List Loc) (ls : Array Slot), zP 1 D Y G o.2 H → va_S A s.heap H locs → lv_has ls 3 [(0, .ref (G 0 0)), (1, .int w1), (2, .int o.1.2)] → W p l e (zR 3 mc ms) s m args below meth c H locs cells slots Q (F0 m 64 ls [])) → (o.1.1 = 1 → ∀ (H : Heap) (locs : List Loc) (ls : Array Slot), zP 1 D Y G o.2 H → va_S A s.heap H locs → lv_has ls 3 [(0, .ref (G 0 0)), (1, .int w1), (2, .int o.1.2)] → W p l e (zR 3 mc ms) s m args below meth c H locs cells slots Q (F0 m 72 ls [])) → W p l e (zR 3 mc ms) s m args below meth c H locs cells slots Q (F0 m 12 ls []) := by
  obtain ⟨hx, hb, hml, hown, hts, hl9, hG, hK, hA⟩ := id F
  intro n
  induction n with
  | zero =>
    intro u2 T o H locs ls hf
    rw [lp_X4_tries_12] at hf
    cases hf
  | succ n ih =>
    intro u2 T o H locs ls hf hP hS hl k0_ k1_
    rw [lp_X4_tries_12] at hf
    refine lv_iload_n hx hb dX4_tries_12 rfl (lv_at hl 2 rfl) ?_
    refine lv_bipush (v := 20) hx hb dX4_tries_13 (by decide) ?_
    refine lv_icmp_gt (tgt := 72) hx hb dX4_tries_15 (by decide) (fun hc => ?_) (fun hc => ?_)
    · have hf := zif_p hf hc
      cases hf
      exact k1_ rfl _ _ _ hP hS (lv_sub hl [0, 1, 2] rfl)
    · have hf := zif_n hf hc
      refine lv_aload_n hx hb dX4_tries_18 rfl (lv_at hl 0 rfl) ?_
      refine lv_aload_n hx hb dX4_tries_19 rfl (lv_at hl 0 rfl) ?_
      refine z_get hx hb hts (fun w h => List.mem_cons_of_mem _ (ziX4 w h)) hown hK hP (zV_m (by decide)) rfl rfl 15 (by decide) (List.mem_cons_of_mem _ m_1156) rfl rfl dX4_tries_20 ?_
      obtain ⟨v5, T4, h6, hf⟩ := zb_i hf
      refine z_ok (z_runS (As := [.int (T.1 0 0 15)]) (rest := [.ref (G 0 0)]) F k_X4_seedBehind m_1102 (c_X4_seedBehind (T.1 0 0 15) T T4 _ h6) hP hS rfl rfl hl.1 (Nat.le_of_ble_eq_true rfl) dX4_tries_23 (Nat.le_of_ble_eq_true rfl) ⟨hcs.1, hcs.2⟩ rfl) hS (fun H locs hP hS => ?_)
      obtain ⟨T7, eT7, hf⟩ := zl_i hf
      refine z_put hx hb hts (fun w h => List.mem_cons_of_mem _ (ziX4 w h)) tyX4 tyX4_ok nmX4 hown hK hP hG hS (zV_m (by decide)) rfl rfl 15 (by decide) (List.mem_cons_of_mem _ m_1156) rfl rfl (by decide +kernel) (Nat.le_of_ble_eq_true rfl) rfl dX4_tries_26 (fun H locs hP hS => ?_)
      rw [← eT7] at hP
      refine lv_aload_n hx hb dX4_tries_29 rfl (lv_at hl 0 rfl) ?_
      refine lv_aload_n hx hb dX4_tries_30 rfl (lv_at hl 0 rfl) ?_
      refine z_get hx hb hts (fun w h => List.mem_cons_of_mem _ (ziX4 w h)) hown hK hP (zV_m (by decide)) rfl rfl 15 (by decide) (List.mem_cons_of_mem _ m_1156) rfl rfl dX4_tries_31 ?_
      refine lv_sipush (v := 360) hx hb dX4_tries_34 (by decide) ?_
      obtain ⟨x8, ex8, hf⟩ := zl_i hf
      rw [← ex8]
      refine lv_irem hx hb dX4_tries_37 (by decide) ?_
      obtain ⟨x9, ex9, hf⟩ := zl_i hf
      refine z_topi ex9 ?_
      obtain ⟨T10, eT10, hf⟩ := zl_i hf
      refine z_put hx hb hts (fun w h => List.mem_cons_of_mem _ (ziX4 w h)) tyX4 tyX4_ok nmX4 hown hK hP hG hS (zV_m (by decide)) rfl rfl 16 (by decide) (List.mem_cons_of_mem _ m_1157) rfl rfl (by decide +kernel) (Nat.le_of_ble_eq_true rfl) rfl dX4_tries_38 (fun H locs hP hS => ?_)
      rw [← eT10] at hP
      refine lv_aload_n hx hb dX4_tries_41 rfl (lv_at hl 0 rfl) ?_
      refine lv_iload_n hx hb dX4_tries_42 rfl (lv_at hl 1 rfl) ?_
      refine lv_aload_n hx hb dX4_tries_43 rfl (lv_at hl 0 rfl) ?_
      refine z_get hx hb hts (fun w h => List.mem_cons_of_mem _ (ziX4 w h)) hown hK hP (zV_m (by decide)) rfl rfl 2 (by decide) (List.mem_cons_of_mem _ m_1143) rfl rfl dX4_tries_44 ?_
      refine lv_iload_n hx hb dX4_tries_47 rfl (lv_at hl 1 rfl) ?_
      obtain ⟨v12, T11, h13, hf⟩ := zb_i hf
      refine z_ok (z_runS (As := [.int w1]) (rest := [.ref (G 2 0), .int w1, .ref (G 0 0)]) F k_X4_c m_1095 (c_X4_c w1 T10 T11 _ h13) hP hS rfl rfl hl.1 (Nat.le_of_ble_eq_true rfl) dX4_tries_48 (Nat.le_of_ble_eq_true rfl) ⟨hcs.1, hcs.2⟩ rfl) hS (fun H locs hP hS => ?_)
      refine lv_iconst (v := 3) hx hb dX4_tries_51 (by decide) ?_
      refine lv_iadd hx hb dX4_tries_52 ?_
      obtain ⟨x15, ex15, hf⟩ := zl_i hf
      refine z_topi ex15 ?_
      obtain ⟨h14, hf⟩ := zif_c hf
      refine z_iald hx hb hK hP (zIA_m (by decide) (by decide)) (zin_i h14) dX4_tries_53 ?_
      refine lv_aload_n hx hb dX4_tries_54 rfl (lv_at hl 0 rfl) ?_
      refine z_get hx hb hts (fun w h => List.mem_cons_of_mem _ (ziX4 w h)) hown hK hP (zV_m (by decide)) rfl rfl 16 (by decide) (List.mem_cons_of_mem _ m_1157) rfl rfl dX4_tries_55 ?_
      obtain ⟨v17, T16, h18, hf⟩ := zb_i hf
      refine z_ok (z_runV (As := [.int w1, .int (T11.2 2 0 x15.toNatClampNeg), .int (T11.1 0 0 16)]) (rest := []) F k_X4_reason m_1105 (c_X4_reason w1 (T11.2 2 0 x15.toNatClampNeg) (T11.1 0 0 16) T11 T16 _ h18) hP hS (zV_m (by decide)) rfl rfl rfl rfl hl.1 (Nat.le_of_ble_eq_true rfl) dX4_tries_58 (Nat.le_of_ble_eq_true rfl) ⟨hcs.1, hcs.2⟩ rfl) hS (fun H locs hP hS => ?_)
      refine lv_if_ne (tgt := 66) hx hb dX4_tries_61 (by decide) (fun hc => ?_) (fun hc => ?_)
      · have hf := zif_n hf hc
        obtain ⟨x19, ex19, hf⟩ := zl_i hf
        refine lv_iinc (v := x19) (lv' := [(2, .int x19), (0, .ref (G 0 0)), (1, .int w1)]) hx hb dX4_tries_66 hl (k := 2) rfl (by rw [ex19]; rfl) (by decide) rfl (fun ls hl => ?_)
        refine lv_goto (tgt := 12) hx hb dX4_tries_69 (by decide) ?_
        exact ih x19 _ _ _ _ _ hf hP hS (lv_sub hl [1, 2, 0] rfl) k0_ k1_
      · have hf := zif_p hf hc
        cases hf
        exact k0_ rfl _ _ _ hP hS (lv_sub hl [0, 1, 2] rfl)
set_option maxHeartbeats 4000000 in
set_option maxRecDepth 100000 in
theorem c_X4_tries (p0 : Int32) (T T' : zT) (v : Int32) (hf : f_X4_tries p0 T = some (v, T')) : zC 1 yX4_tries cX4_tries 3 (some .int) 3  0 0  (fun G _ => [.ref (G 0 0), .int p0]) T (fun _ => .inl (some (.int v))) T' := by
  intro l D Y S V G A hl9 hG
  refine vx_ofW (cc := cX4_tries) (maxL := 3) (ret := (some .int)) (by decide) rfl ?_
  intro p e s m args below meth c s₁ B hml hex hv
  obtain ⟨rfl, hK, hP, hA⟩ := hv
  have hx := B.exec
  have hb := B.bytes
  have hr := B.returns
  have hlocks := B.notSynchronized
  have hown : s.vm.findClass RX4 = some m.cls := findClass_of_methodNamed B.named
  have hts := atoms_spec (ws := Cond.code yX4_tries cX4_tries 3 (some .int) :: zWS) B.pre
  have F : zF 1 3  0 0  p l s m _ c cX4_tries 3 RX4 (Cond.code yX4_tries cX4_tries 3 (some .int)) D Y S V G A := ⟨hx, hb, hml, hown, hts, hl9, hG, hK, hA⟩
  have hS : va_S A s.heap s.heap [] := va_S.rf
  have hl := lv_entry ([.ref (G 0 0), .int p0]) (n := 3) (Nat.le_of_ble_eq_true rfl)
  rw [lg_entry_eq]
  generalize (lg_sl ([.ref (G 0 0), .int p0]) ++ List.replicate (3 - (lg_sl ([.ref (G 0 0), .int p0])).length) Slot.unset).toArray = ls at hl ⊢
  have hl : lv_has ls 3 [(0, .ref (G 0 0)), (1, .int p0)] := hl
  unfold f_X4_tries at hf
  refine lv_aload_n hx hb dX4_tries_0 rfl (lv_at hl 0 rfl) ?_
  refine lv_aload_n hx hb dX4_tries_1 rfl (lv_at hl 0 rfl) ?_
  refine z_get hx hb hts (fun w h => List.mem_cons_of_mem _ (ziX4 w h)) hown hK hP (zV_m (by decide)) rfl rfl 2 (by decide) (List.mem_cons_of_mem _ m_1143) rfl rfl dX4_tries_2 ?_
  refine lv_iconst (v := 2) hx hb dX4_tries_5 (by decide) ?_
  refine z_iald_ (j := 2) hx hb hK hP (zIA_m (by decide) (by decide)) (by decide) (by decide) dX4_tries_6 ?_
  obtain ⟨x2, ex2, hf⟩ := zl_i hf
  refine z_topi ex2 ?_
  obtain ⟨T3, eT3, hf⟩ := zl_i hf
  refine z_put hx hb hts (fun w h => List.mem_cons_of_mem _ (ziX4 w h)) tyX4 tyX4_ok nmX4 hown hK hP hG hS (zV_m (by decide)) rfl rfl 15 (by decide) (List.mem_cons_of_mem _ m_1156) rfl rfl (by decide +kernel) (Nat.le_of_ble_eq_true rfl) rfl dX4_tries_7 (fun H locs hP hS => ?_)
  rw [← eT3] at hP
  refine lv_iconst (v := 1) hx hb dX4_tries_10 (by decide) ?_
  refine lv_istore_n (lv' := [(2, .int 1), (0, .ref (G 0 0)), (1, .int p0)]) hx hb dX4_tries_11 rfl hl (by decide) rfl (fun ls hl => ?_)
  obtain ⟨v21, T20, h22, hf⟩ := zb_i hf
  refine l_X4_tries_12 F ⟨Nat.le_of_ble_eq_true rfl, Nat.le_of_ble_eq_true rfl⟩ p0 2000 1 _ _ _ _ _ h22 hP hS (lv_sub hl [1, 2, 0] rfl) (fun hc H locs ls hP hS hl => ?_) (fun hc H locs ls hP hS hl => ?_)
  · have hf := zif_p hf hc
    refine lv_iload_n hx hb dX4_tries_64 rfl (lv_at hl 2 rfl) ?_
    obtain ⟨q1, q2⟩ := zs_i hf
    subst q1; subst q2
    exact z_iret hx hb hr rfl hP hS hlocks (Nat.le_of_ble_eq_true rfl) (Nat.le_of_ble_eq_true rfl) dX4_tries_65
  · have hf := zif_n hf (by rw [hc]; decide)
    have hf := zif_p hf hc
    refine lv_iconst (v := (-1)) hx hb dX4_tries_72 (by decide) ?_
    obtain ⟨q1, q2⟩ := zs_i hf
    subst q1; subst q2
    exact z_iret hx hb hr rfl hP hS hlocks (Nat.le_of_ble_eq_true rfl) (Nat.le_of_ble_eq_true rfl) dX4_tries_73

def f_X4_takesDraw (p0 : Int32) (p1 : Int32) (T : zT) : Option (Unit × zT) := (if p1 = (-1) then some ((), T) else zl (wA T 2 0 (upd (T.2 2 0) 2 (T.1 0 0 15))) fun T2 => zb (f_X4_c p0 T2) fun v4 T3 => if zin (v4 + 4) 151 = true then zl (wA T3 2 0 (upd (T3.2 2 0) (v4 + 4).toNatClampNeg (T3.1 0 0 16))) fun T7 => some ((), T7) else none)
set_option maxHeartbeats 4000000 in
set_option maxRecDepth 100000 in
theorem c_X4_takesDraw (p0 : Int32) (p1 : Int32) (T T' : zT) (v : Unit) (hf : f_X4_takesDraw p0 p1 T = some (v, T')) : zC 1 yX4_takesDraw cX4_takesDraw 3 none 1  0 0  (fun G _ => [.ref (G 0 0), .int p0, .int p1]) T (fun _ => .inl none) T' := by
  intro l D Y S V G A hl9 hG
  refine vx_ofW (cc := cX4_takesDraw) (maxL := 3) (ret := none) (by decide) rfl ?_
  intro p e s m args below meth c s₁ B hml hex hv
  obtain ⟨rfl, hK, hP, hA⟩ := hv
  have hx := B.exec
  have hb := B.bytes
  have hr := B.returns
  have hlocks := B.notSynchronized
  have hown : s.vm.findClass RX4 = some m.cls := findClass_of_methodNamed B.named
  have hts := atoms_spec (ws := Cond.code yX4_takesDraw cX4_takesDraw 3 none :: zWS) B.pre
  have F : zF 1 1  0 0  p l s m _ c cX4_takesDraw 3 RX4 (Cond.code yX4_takesDraw cX4_takesDraw 3 none) D Y S V G A := ⟨hx, hb, hml, hown, hts, hl9, hG, hK, hA⟩
  have hS : va_S A s.heap s.heap [] := va_S.rf
  have hl := lv_entry ([.ref (G 0 0), .int p0, .int p1]) (n := 3) (Nat.le_of_ble_eq_true rfl)
  rw [lg_entry_eq]
  generalize (lg_sl ([.ref (G 0 0), .int p0, .int p1]) ++ List.replicate (3 - (lg_sl ([.ref (G 0 0), .int p0, .int p1])).length) Slot.unset).toArray = ls at hl ⊢
  have hl : lv_has ls 3 [(0, .ref (G 0 0)), (1, .int p0), (2, .int p1)] := hl
  unfold f_X4_takesDraw at hf
  refine lv_iload_n hx hb dX4_takesDraw_0 rfl (lv_at hl 2 rfl) ?_
  refine lv_iconst (v := (-1)) hx hb dX4_takesDraw_1 (by decide) ?_
  refine lv_icmp_eq (tgt := 30) hx hb dX4_takesDraw_2 (by decide) (fun hc => ?_) (fun hc => ?_)
  · have hf := zif_p hf hc
    obtain ⟨q1, q2⟩ := zs_i hf
    subst q1; subst q2
    exact z_vret hx hb hr rfl hP hS hlocks (Nat.le_of_ble_eq_true rfl) (Nat.le_of_ble_eq_true rfl) dX4_takesDraw_30
  · have hf := zif_n hf hc
    refine lv_aload_n hx hb dX4_takesDraw_5 rfl (lv_at hl 0 rfl) ?_
    refine z_get hx hb hts (fun w h => List.mem_cons_of_mem _ (ziX4 w h)) hown hK hP (zV_m (by decide)) rfl rfl 2 (by decide) (List.mem_cons_of_mem _ m_1143) rfl rfl dX4_takesDraw_6 ?_
    refine lv_iconst (v := 2) hx hb dX4_takesDraw_9 (by decide) ?_
    refine lv_aload_n hx hb dX4_takesDraw_10 rfl (lv_at hl 0 rfl) ?_
    refine z_get hx hb hts (fun w h => List.mem_cons_of_mem _ (ziX4 w h)) hown hK hP (zV_m (by decide)) rfl rfl 15 (by decide) (List.mem_cons_of_mem _ m_1156) rfl rfl dX4_takesDraw_11 ?_
    obtain ⟨T2, eT2, hf⟩ := zl_i hf
    refine z_iast_ (j := 2) hx hb hK hP hG hS (zIA_m (by decide) (by decide)) (by decide) (by decide) dX4_takesDraw_14 (fun H locs hP hS => ?_)
    rw [← eT2] at hP
    refine lv_aload_n hx hb dX4_takesDraw_15 rfl (lv_at hl 0 rfl) ?_
    refine z_get hx hb hts (fun w h => List.mem_cons_of_mem _ (ziX4 w h)) hown hK hP (zV_m (by decide)) rfl rfl 2 (by decide) (List.mem_cons_of_mem _ m_1143) rfl rfl dX4_takesDraw_16 ?_
    refine lv_iload_n hx hb dX4_takesDraw_19 rfl (lv_at hl 1 rfl) ?_
    obtain ⟨v4, T3, h5, hf⟩ := zb_i hf
    refine z_ok (z_runS (As := [.int p0]) (rest := [.ref (G 2 0)]) F k_X4_c m_1095 (c_X4_c p0 T2 T3 _ h5) hP hS rfl rfl hl.1 (Nat.le_of_ble_eq_true rfl) dX4_takesDraw_20 (Nat.le_of_ble_eq_true rfl) ⟨Nat.le_of_ble_eq_true rfl, Nat.le_of_ble_eq_true rfl⟩ rfl) hS (fun H locs hP hS => ?_)
    refine lv_iconst (v := 4) hx hb dX4_takesDraw_23 (by decide) ?_
    refine lv_iadd hx hb dX4_takesDraw_24 ?_
    refine lv_aload_n hx hb dX4_takesDraw_25 rfl (lv_at hl 0 rfl) ?_
    refine z_get hx hb hts (fun w h => List.mem_cons_of_mem _ (ziX4 w h)) hown hK hP (zV_m (by decide)) rfl rfl 16 (by decide) (List.mem_cons_of_mem _ m_1157) rfl rfl dX4_takesDraw_26 ?_
    obtain ⟨h6, hf⟩ := zif_c hf
    obtain ⟨T7, eT7, hf⟩ := zl_i hf
    refine z_iast hx hb hK hP hG hS (zIA_m (by decide) (by decide)) (zin_i h6) dX4_takesDraw_29 (fun H locs hP hS => ?_)
    rw [← eT7] at hP
    obtain ⟨q1, q2⟩ := zs_i hf
    subst q1; subst q2
    exact z_vret hx hb hr rfl hP hS hlocks (Nat.le_of_ble_eq_true rfl) (Nat.le_of_ble_eq_true rfl) dX4_takesDraw_30

def lp_X4_cakeFor_2 (w1 : Int32) : Nat → Int32 → zT → Option ((Nat × Int32 × Int32) × zT)
  | 0, _, _ => none
  | n + 1, u2, T => (if 6 ≤ u2 then some ((1, (u2, 0)), T) else zb (f_X4_c w1 T) fun v2 T1 => zl (v2 + 0) fun x5 => if zin x5 151 = true then zl ((T1.2 2 0 x5.toNatClampNeg) + u2) fun x6 => zl (x6 - x6 / 6 * 6) fun x7 => zl (11 + x7) fun x9 => if zin x9 151 = true then (if (T1.2 2 0 x9.toNatClampNeg) ≤ 0 then zl (u2 + 1) fun x10 => lp_X4_cakeFor_2 w1 n x10 T1 else some ((0, (u2, x7)), T1)) else none else none)
def f_X4_cakeFor (p0 : Int32) (T : zT) : Option (Int32 × zT) := zb (lp_X4_cakeFor_2 p0 2000 0 T) fun v12 T11 => if v12.1 = 0 then some (v12.2.2, T11) else if v12.1 = 1 then some ((-1), T11) else none
set_option maxHeartbeats 4000000 in
set_option maxRecDepth 100000 in
theorem l_X4_cakeFor_2 {p : Program} {l : Launch} {e : Env} {s : State} {m : MethodId} {args : Array Value} {below : List Frame} {meth : Method} {c : Code} {Q : State → Prop} {D : va_G} {Y : Nat → ClassId} {S V : Nat → Nat} {G : Nat → Nat → Nat} {A : Nat → Prop} {c0 : Cond} {mc ms cells slots : Nat} (F : zF 1 1 mc ms p l s m args c cX4_cakeFor 4 RX4 c0 D Y S V G A) (hcs : cells ≤ mc ∧ slots ≤ ms) (w1 : Int32) :
    ∀ (n : Nat) (u2 : Int32) (T : zT) (o : (Nat × Int32 × Int32) × zT) (H : Heap) (locs : List Loc) (ls : Array Slot), lp_X4_cakeFor_2 w1 n u2 T = some o → zP 1 D Y G T H → va_S A s.heap H locs → lv_has ls 4 [(0, .ref (G 0 0)), (1, .int w1), (2, .int u2)] → (o.1.1 = 0 → ∀ (H : Heap) (locs : List Loc) (ls : Array Slot), zP 1 D Y G o.2 H → va_S A s.heap H locs → lv_has ls 4 [(0, .ref (G 0 0)), (1, .int w1), (2, .int o.1.2.1), (3, .int o.1.2.2)] → W p l e (zR 1 mc ms) s m args below meth c H locs cells slots Q (F0 m 37 ls [])) → (o.1.1 = 1 → ∀ (H : Heap) (locs : List Loc) (ls : Array Slot), zP 1 D Y G o.2 H → va_S A s.heap H locs → lv_has ls 4 [(0, .ref (G 0 0)), (1, .int w1), (2, .int o.1.2.1)] → W p l e (zR 1 mc ms) s m args below meth c H locs cells slots Q (F0 m 45 ls [])) → W p l e (zR 1 mc ms) s m args below meth c H locs cells slots Q (F0 m 2 ls []) := by
  obtain ⟨hx, hb, hml, hown, hts, hl9, hG, hK, hA⟩ := id F
  intro n
  induction n with
  | zero =>
    intro u2 T o H locs ls hf
    rw [lp_X4_cakeFor_2] at hf
    cases hf
  | succ n ih =>
    intro u2 T o H locs ls hf hP hS hl k0_ k1_
    rw [lp_X4_cakeFor_2] at hf
    refine lv_iload_n hx hb dX4_cakeFor_2 rfl (lv_at hl 2 rfl) ?_
    refine lv_bipush (v := 6) hx hb dX4_cakeFor_3 (by decide) ?_
    refine lv_icmp_ge (tgt := 45) hx hb dX4_cakeFor_5 (by decide) (fun hc => ?_) (fun hc => ?_)
    · have hf := zif_p hf hc
      cases hf
      exact k1_ rfl _ _ _ hP hS (lv_sub hl [0, 1, 2] rfl)
    · have hf := zif_n hf hc
      refine lv_aload_n hx hb dX4_cakeFor_8 rfl (lv_at hl 0 rfl) ?_
      refine z_get hx hb hts (fun w h => List.mem_cons_of_mem _ (ziX4 w h)) hown hK hP (zV_m (by decide)) rfl rfl 2 (by decide) (List.mem_cons_of_mem _ m_1143) rfl rfl dX4_cakeFor_9 ?_
      refine lv_iload_n hx hb dX4_cakeFor_12 rfl (lv_at hl 1 rfl) ?_
      obtain ⟨v2, T1, h3, hf⟩ := zb_i hf
      refine z_ok (z_runS (As := [.int w1]) (rest := [.ref (G 2 0)]) F k_X4_c m_1095 (c_X4_c w1 T T1 _ h3) hP hS rfl rfl hl.1 (Nat.le_of_ble_eq_true rfl) dX4_cakeFor_13 (Nat.le_of_ble_eq_true rfl) ⟨hcs.1, hcs.2⟩ rfl) hS (fun H locs hP hS => ?_)
      refine lv_iconst (v := 0) hx hb dX4_cakeFor_16 (by decide) ?_
      refine lv_iadd hx hb dX4_cakeFor_17 ?_
      obtain ⟨x5, ex5, hf⟩ := zl_i hf
      refine z_topi ex5 ?_
      obtain ⟨h4, hf⟩ := zif_c hf
      refine z_iald hx hb hK hP (zIA_m (by decide) (by decide)) (zin_i h4) dX4_cakeFor_18 ?_
      refine lv_iload_n hx hb dX4_cakeFor_19 rfl (lv_at hl 2 rfl) ?_
      refine lv_iadd hx hb dX4_cakeFor_20 ?_
      refine lv_bipush (v := 6) hx hb dX4_cakeFor_21 (by decide) ?_
      obtain ⟨x6, ex6, hf⟩ := zl_i hf
      rw [← ex6]
      refine lv_irem hx hb dX4_cakeFor_23 (by decide) ?_
      obtain ⟨x7, ex7, hf⟩ := zl_i hf
      refine z_topi ex7 ?_
      refine lv_istore_n (lv' := [(3, .int x7), (0, .ref (G 0 0)), (1, .int w1), (2, .int u2)]) hx hb dX4_cakeFor_24 rfl hl (by decide) rfl (fun ls hl => ?_)
      refine lv_aload_n hx hb dX4_cakeFor_25 rfl (lv_at hl 1 rfl) ?_
      refine z_get hx hb hts (fun w h => List.mem_cons_of_mem _ (ziX4 w h)) hown hK hP (zV_m (by decide)) rfl rfl 2 (by decide) (List.mem_cons_of_mem _ m_1143) rfl rfl dX4_cakeFor_26 ?_
      refine lv_bipush (v := 11) hx hb dX4_cakeFor_29 (by decide) ?_
      refine lv_iload_n hx hb dX4_cakeFor_31 rfl (lv_at hl 0 rfl) ?_
      refine lv_iadd hx hb dX4_cakeFor_32 ?_
      obtain ⟨x9, ex9, hf⟩ := zl_i hf
      refine z_topi ex9 ?_
      obtain ⟨h8, hf⟩ := zif_c hf
      refine z_iald hx hb hK hP (zIA_m (by decide) (by decide)) (zin_i h8) dX4_cakeFor_33 ?_
      refine lv_if_le (tgt := 39) hx hb dX4_cakeFor_34 (by decide) (fun hc => ?_) (fun hc => ?_)
      · have hf := zif_p hf hc
        obtain ⟨x10, ex10, hf⟩ := zl_i hf
        refine lv_iinc (v := x10) (lv' := [(2, .int x10), (3, .int x7), (0, .ref (G 0 0)), (1, .int w1)]) hx hb dX4_cakeFor_39 hl (k := 3) rfl (by rw [ex10]; rfl) (by decide) rfl (fun ls hl => ?_)
        refine lv_goto (tgt := 2) hx hb dX4_cakeFor_42 (by decide) ?_
        exact ih x10 _ _ _ _ _ hf hP hS (lv_sub hl [2, 3, 0] rfl) k0_ k1_
      · have hf := zif_n hf hc
        cases hf
        exact k0_ rfl _ _ _ hP hS (lv_sub hl [1, 2, 3, 0] rfl)
set_option maxHeartbeats 4000000 in
set_option maxRecDepth 100000 in
theorem c_X4_cakeFor (p0 : Int32) (T T' : zT) (v : Int32) (hf : f_X4_cakeFor p0 T = some (v, T')) : zC 1 yX4_cakeFor cX4_cakeFor 4 (some .int) 1  0 0  (fun G _ => [.ref (G 0 0), .int p0]) T (fun _ => .inl (some (.int v))) T' := by
  intro l D Y S V G A hl9 hG
  refine vx_ofW (cc := cX4_cakeFor) (maxL := 4) (ret := (some .int)) (by decide) rfl ?_
  intro p e s m args below meth c s₁ B hml hex hv
  obtain ⟨rfl, hK, hP, hA⟩ := hv
  have hx := B.exec
  have hb := B.bytes
  have hr := B.returns
  have hlocks := B.notSynchronized
  have hown : s.vm.findClass RX4 = some m.cls := findClass_of_methodNamed B.named
  have hts := atoms_spec (ws := Cond.code yX4_cakeFor cX4_cakeFor 4 (some .int) :: zWS) B.pre
  have F : zF 1 1  0 0  p l s m _ c cX4_cakeFor 4 RX4 (Cond.code yX4_cakeFor cX4_cakeFor 4 (some .int)) D Y S V G A := ⟨hx, hb, hml, hown, hts, hl9, hG, hK, hA⟩
  have hS : va_S A s.heap s.heap [] := va_S.rf
  have hl := lv_entry ([.ref (G 0 0), .int p0]) (n := 4) (Nat.le_of_ble_eq_true rfl)
  rw [lg_entry_eq]
  generalize (lg_sl ([.ref (G 0 0), .int p0]) ++ List.replicate (4 - (lg_sl ([.ref (G 0 0), .int p0])).length) Slot.unset).toArray = ls at hl ⊢
  have hl : lv_has ls 4 [(0, .ref (G 0 0)), (1, .int p0)] := hl
  unfold f_X4_cakeFor at hf
  refine lv_iconst (v := 0) hx hb dX4_cakeFor_0 (by decide) ?_
  refine lv_istore_n (lv' := [(2, .int 0), (0, .ref (G 0 0)), (1, .int p0)]) hx hb dX4_cakeFor_1 rfl hl (by decide) rfl (fun ls hl => ?_)
  obtain ⟨v12, T11, h13, hf⟩ := zb_i hf
  refine l_X4_cakeFor_2 F ⟨Nat.le_of_ble_eq_true rfl, Nat.le_of_ble_eq_true rfl⟩ p0 2000 0 _ _ _ _ _ h13 hP hS (lv_sub hl [1, 2, 0] rfl) (fun hc H locs ls hP hS hl => ?_) (fun hc H locs ls hP hS hl => ?_)
  · have hf := zif_p hf hc
    refine lv_iload_n hx hb dX4_cakeFor_37 rfl (lv_at hl 3 rfl) ?_
    obtain ⟨q1, q2⟩ := zs_i hf
    subst q1; subst q2
    exact z_iret hx hb hr rfl hP hS hlocks (Nat.le_of_ble_eq_true rfl) (Nat.le_of_ble_eq_true rfl) dX4_cakeFor_38
  · have hf := zif_n hf (by rw [hc]; decide)
    have hf := zif_p hf hc
    refine lv_iconst (v := (-1)) hx hb dX4_cakeFor_45 (by decide) ?_
    obtain ⟨q1, q2⟩ := zs_i hf
    subst q1; subst q2
    exact z_iret hx hb hr rfl hP hS hlocks (Nat.le_of_ble_eq_true rfl) (Nat.le_of_ble_eq_true rfl) dX4_cakeFor_46

def jn_X4_strength_25 (w1 : Int32) (z0 : Int32) (z1 : Int32) (T : zT) : Option (Int32 × zT) := zl (z0 - z1) fun x9 => zb (f_X4_c w1 T) fun v11 T10 => zl (v11 + 3) fun x14 => if zin x14 151 = true then zl (17 + (T10.2 2 0 x14.toNatClampNeg)) fun x16 => if zin x16 151 = true then zl ((T10.2 2 0 x16.toNatClampNeg) - 1) fun x17 => zb (f_X4_c w1 T10) fun v19 T18 => zl (v19 + 1) fun x22 => if zin x22 151 = true then (if x17 ≤ x9 then some (((T18.2 2 0 x22.toNatClampNeg) + x17), T18) else some (((T18.2 2 0 x22.toNatClampNeg) + x9), T18)) else none else none else none
def f_X4_strength (p0 : Int32) (p1 : Int32) (T : zT) : Option (Int32 × zT) := zb (f_X4_liking p1 T) fun v2 T1 => zb (f_X4_c p0 T1) fun v5 T4 => zl (v5 + 0) fun x8 => if zin x8 151 = true then (if (T4.2 2 0 x8.toNatClampNeg) = p1 then jn_X4_strength_25 p0 v2 1 T4 else jn_X4_strength_25 p0 v2 0 T4) else none
set_option maxHeartbeats 4000000 in
set_option maxRecDepth 100000 in
theorem j_X4_strength_25 {p : Program} {l : Launch} {e : Env} {s : State} {m : MethodId} {args : Array Value} {below : List Frame} {meth : Method} {c : Code} {D : va_G} {Y : Nat → ClassId} {S V : Nat → Nat} {G : Nat → Nat → Nat} {A : Nat → Prop} {c0 : Cond} (F : zF 1 2  0 0  p l s m args c cX4_strength 5 RX4 c0 D Y S V G A) (hr : meth.sig.returnType = (some .int)) (hlocks : meth.locks = false) (hex : ∀ x ∈ c.exceptionTable.toList, False) (w1 : Int32) (z0 : Int32) (z1 : Int32) (T : zT) {T' : zT} {v : Int32} {H : Heap} {locs : List Loc} {ls : Array Slot} (hf : jn_X4_strength_25 w1 z0 z1 T = some (v, T')) (hP : zP 1 D Y G T H) (hS : va_S A s.heap H locs) (hl : lv_has ls 5 [(0, .ref (G 0 0)), (1, .int w1)]) :
    W p l e (zR 2  0 0 ) s m args below meth c H locs 0 0 (vx_MQ below (zQ 1 D Y G A (.inl (some (.int v))) T') (zX 1 D Y G A (.inl (some (.int v))) T') args s  0 0  A) (F0 m 25 ls [.int z1, .int z0]) := by
  obtain ⟨hx, hb, hml, hown, hts, hl9, hG, hK, hA⟩ := id F
  unfold jn_X4_strength_25 at hf
  refine lv_isub hx hb dX4_strength_25 ?_
  obtain ⟨x9, ex9, hf⟩ := zl_i hf
  refine z_topi ex9 ?_
  refine lv_istore_n (lv' := [(3, .int x9), (0, .ref (G 0 0)), (1, .int w1)]) hx hb dX4_strength_26 rfl hl (by decide) rfl (fun ls hl => ?_)
  refine lv_aload_n hx hb dX4_strength_27 rfl (lv_at hl 1 rfl) ?_
  refine z_get hx hb hts (fun w h => List.mem_cons_of_mem _ (ziX4 w h)) hown hK hP (zV_m (by decide)) rfl rfl 2 (by decide) (List.mem_cons_of_mem _ m_1143) rfl rfl dX4_strength_28 ?_
  refine lv_bipush (v := 17) hx hb dX4_strength_31 (by decide) ?_
  refine lv_aload_n hx hb dX4_strength_33 rfl (lv_at hl 1 rfl) ?_
  refine z_get hx hb hts (fun w h => List.mem_cons_of_mem _ (ziX4 w h)) hown hK hP (zV_m (by decide)) rfl rfl 2 (by decide) (List.mem_cons_of_mem _ m_1143) rfl rfl dX4_strength_34 ?_
  refine lv_iload_n hx hb dX4_strength_37 rfl (lv_at hl 2 rfl) ?_
  obtain ⟨v11, T10, h12, hf⟩ := zb_i hf
  refine z_ok (z_runS (As := [.int w1]) (rest := [.ref (G 2 0), .int 17, .ref (G 2 0)]) F k_X4_c m_1095 (c_X4_c w1 T T10 _ h12) hP hS rfl rfl hl.1 (Nat.le_of_ble_eq_true rfl) dX4_strength_38 (Nat.le_of_ble_eq_true rfl) ⟨Nat.le_of_ble_eq_true rfl, Nat.le_of_ble_eq_true rfl⟩ rfl) hS (fun H locs hP hS => ?_)
  refine lv_iconst (v := 3) hx hb dX4_strength_41 (by decide) ?_
  refine lv_iadd hx hb dX4_strength_42 ?_
  obtain ⟨x14, ex14, hf⟩ := zl_i hf
  refine z_topi ex14 ?_
  obtain ⟨h13, hf⟩ := zif_c hf
  refine z_iald hx hb hK hP (zIA_m (by decide) (by decide)) (zin_i h13) dX4_strength_43 ?_
  refine lv_iadd hx hb dX4_strength_44 ?_
  obtain ⟨x16, ex16, hf⟩ := zl_i hf
  refine z_topi ex16 ?_
  obtain ⟨h15, hf⟩ := zif_c hf
  refine z_iald hx hb hK hP (zIA_m (by decide) (by decide)) (zin_i h15) dX4_strength_45 ?_
  refine lv_iconst (v := 1) hx hb dX4_strength_46 (by decide) ?_
  refine lv_isub hx hb dX4_strength_47 ?_
  obtain ⟨x17, ex17, hf⟩ := zl_i hf
  refine z_topi ex17 ?_
  refine lv_istore (lv' := [(4, .int x17), (3, .int x9), (0, .ref (G 0 0)), (1, .int w1)]) hx hb dX4_strength_48 hl (by decide) rfl (fun ls hl => ?_)
  refine lv_aload_n hx hb dX4_strength_50 rfl (lv_at hl 2 rfl) ?_
  refine z_get hx hb hts (fun w h => List.mem_cons_of_mem _ (ziX4 w h)) hown hK hP (zV_m (by decide)) rfl rfl 2 (by decide) (List.mem_cons_of_mem _ m_1143) rfl rfl dX4_strength_51 ?_
  refine lv_iload_n hx hb dX4_strength_54 rfl (lv_at hl 3 rfl) ?_
  obtain ⟨v19, T18, h20, hf⟩ := zb_i hf
  refine z_ok (z_runS (As := [.int w1]) (rest := [.ref (G 2 0)]) F k_X4_c m_1095 (c_X4_c w1 T10 T18 _ h20) hP hS rfl rfl hl.1 (Nat.le_of_ble_eq_true rfl) dX4_strength_55 (Nat.le_of_ble_eq_true rfl) ⟨Nat.le_of_ble_eq_true rfl, Nat.le_of_ble_eq_true rfl⟩ rfl) hS (fun H locs hP hS => ?_)
  refine lv_iconst (v := 1) hx hb dX4_strength_58 (by decide) ?_
  refine lv_iadd hx hb dX4_strength_59 ?_
  obtain ⟨x22, ex22, hf⟩ := zl_i hf
  refine z_topi ex22 ?_
  obtain ⟨h21, hf⟩ := zif_c hf
  refine z_iald hx hb hK hP (zIA_m (by decide) (by decide)) (zin_i h21) dX4_strength_60 ?_
  refine lv_iload_n hx hb dX4_strength_61 rfl (lv_at hl 1 rfl) ?_
  refine lv_iload hx hb dX4_strength_62 (lv_at hl 0 rfl) ?_
  refine lv_icmp_ge (tgt := 71) hx hb dX4_strength_64 (by decide) (fun hc => ?_) (fun hc => ?_)
  · have hf := zif_p hf hc
    refine lv_iload hx hb dX4_strength_71 (lv_at hl 0 rfl) ?_
    refine lv_iadd hx hb dX4_strength_73 ?_
    obtain ⟨q1, q2⟩ := zs_i hf
    subst q1; subst q2
    exact z_iret hx hb hr rfl hP hS hlocks (Nat.le_of_ble_eq_true rfl) (Nat.le_of_ble_eq_true rfl) dX4_strength_74
  · have hf := zif_n hf hc
    refine lv_iload_n hx hb dX4_strength_67 rfl (lv_at hl 1 rfl) ?_
    refine lv_goto (tgt := 73) hx hb dX4_strength_68 (by decide) ?_
    refine lv_iadd hx hb dX4_strength_73 ?_
    obtain ⟨q1, q2⟩ := zs_i hf
    subst q1; subst q2
    exact z_iret hx hb hr rfl hP hS hlocks (Nat.le_of_ble_eq_true rfl) (Nat.le_of_ble_eq_true rfl) dX4_strength_74
set_option maxHeartbeats 4000000 in
set_option maxRecDepth 100000 in
theorem c_X4_strength (p0 : Int32) (p1 : Int32) (T T' : zT) (v : Int32) (hf : f_X4_strength p0 p1 T = some (v, T')) : zC 1 yX4_strength cX4_strength 5 (some .int) 2  0 0  (fun G _ => [.ref (G 0 0), .int p0, .int p1]) T (fun _ => .inl (some (.int v))) T' := by
  intro l D Y S V G A hl9 hG
  refine vx_ofW (cc := cX4_strength) (maxL := 5) (ret := (some .int)) (by decide) rfl ?_
  intro p e s m args below meth c s₁ B hml hex hv
  obtain ⟨rfl, hK, hP, hA⟩ := hv
  have hx := B.exec
  have hb := B.bytes
  have hr := B.returns
  have hlocks := B.notSynchronized
  have hown : s.vm.findClass RX4 = some m.cls := findClass_of_methodNamed B.named
  have hts := atoms_spec (ws := Cond.code yX4_strength cX4_strength 5 (some .int) :: zWS) B.pre
  have F : zF 1 2  0 0  p l s m _ c cX4_strength 5 RX4 (Cond.code yX4_strength cX4_strength 5 (some .int)) D Y S V G A := ⟨hx, hb, hml, hown, hts, hl9, hG, hK, hA⟩
  have hS : va_S A s.heap s.heap [] := va_S.rf
  have hl := lv_entry ([.ref (G 0 0), .int p0, .int p1]) (n := 5) (Nat.le_of_ble_eq_true rfl)
  rw [lg_entry_eq]
  generalize (lg_sl ([.ref (G 0 0), .int p0, .int p1]) ++ List.replicate (5 - (lg_sl ([.ref (G 0 0), .int p0, .int p1])).length) Slot.unset).toArray = ls at hl ⊢
  have hl : lv_has ls 5 [(0, .ref (G 0 0)), (1, .int p0), (2, .int p1)] := hl
  unfold f_X4_strength at hf
  refine lv_aload_n hx hb dX4_strength_0 rfl (lv_at hl 0 rfl) ?_
  refine lv_iload_n hx hb dX4_strength_1 rfl (lv_at hl 2 rfl) ?_
  obtain ⟨v2, T1, h3, hf⟩ := zb_i hf
  refine z_ok (z_runV (As := [.int p1]) (rest := []) F k_X4_liking m_1113 (c_X4_liking p1 T T1 _ h3) hP hS (zV_m (by decide)) rfl rfl rfl rfl hl.1 (Nat.le_of_ble_eq_true rfl) dX4_strength_2 (Nat.le_of_ble_eq_true rfl) ⟨Nat.le_of_ble_eq_true rfl, Nat.le_of_ble_eq_true rfl⟩ rfl) hS (fun H locs hP hS => ?_)
  refine lv_aload_n hx hb dX4_strength_5 rfl (lv_at hl 0 rfl) ?_
  refine z_get hx hb hts (fun w h => List.mem_cons_of_mem _ (ziX4 w h)) hown hK hP (zV_m (by decide)) rfl rfl 2 (by decide) (List.mem_cons_of_mem _ m_1143) rfl rfl dX4_strength_6 ?_
  refine lv_iload_n hx hb dX4_strength_9 rfl (lv_at hl 1 rfl) ?_
  obtain ⟨v5, T4, h6, hf⟩ := zb_i hf
  refine z_ok (z_runS (As := [.int p0]) (rest := [.ref (G 2 0), .int v2]) F k_X4_c m_1095 (c_X4_c p0 T1 T4 _ h6) hP hS rfl rfl hl.1 (Nat.le_of_ble_eq_true rfl) dX4_strength_10 (Nat.le_of_ble_eq_true rfl) ⟨Nat.le_of_ble_eq_true rfl, Nat.le_of_ble_eq_true rfl⟩ rfl) hS (fun H locs hP hS => ?_)
  refine lv_iconst (v := 0) hx hb dX4_strength_13 (by decide) ?_
  refine lv_iadd hx hb dX4_strength_14 ?_
  obtain ⟨x8, ex8, hf⟩ := zl_i hf
  refine z_topi ex8 ?_
  obtain ⟨h7, hf⟩ := zif_c hf
  refine z_iald hx hb hK hP (zIA_m (by decide) (by decide)) (zin_i h7) dX4_strength_15 ?_
  refine lv_iload_n hx hb dX4_strength_16 rfl (lv_at hl 2 rfl) ?_
  refine lv_icmp_ne (tgt := 24) hx hb dX4_strength_17 (by decide) (fun hc => ?_) (fun hc => ?_)
  · have hf := zif_n hf hc
    refine lv_iconst (v := 0) hx hb dX4_strength_24 (by decide) ?_
    exact j_X4_strength_25 F hr hlocks hex p0 v2 0 T4 hf hP hS (lv_sub hl [0, 1] rfl)
  · have hf := zif_p hf hc
    refine lv_iconst (v := 1) hx hb dX4_strength_20 (by decide) ?_
    refine lv_goto (tgt := 25) hx hb dX4_strength_21 (by decide) ?_
    exact j_X4_strength_25 F hr hlocks hex p0 v2 1 T4 hf hP hS (lv_sub hl [0, 1] rfl)

def jn_X4_celebrates_86 (w1 : Int32) (w2 : Int32) (w3 : Int32) (w4 : Int32) (z0 : Int32) (T : zT) : Option (Int32 × zT) := zl (wA T 2 0 (upd (T.2 2 0) 3 ((T.2 2 0 3) - z0))) fun T22 => zl (wA T22 2 0 (upd (T22.2 2 0) 8 ((T22.2 2 0 8) + z0))) fun T25 => zl (wA T25 2 0 (upd (T25.2 2 0) 9 ((T25.2 2 0 9) + 1))) fun T28 => zl (w2 + 5) fun x30 => if zin x30 151 = true then if zin (w2 + 5) 151 = true then zl (wA T28 2 0 (upd (T28.2 2 0) (w2 + 5).toNatClampNeg ((T28.2 2 0 x30.toNatClampNeg) + 1))) fun T32 => zl (w2 + 6) fun x34 => if zin x34 151 = true then (if z0 = w4 then zb (f_X4_strength w1 w3 T32) fun v38 T37 => (if v38 < z0 then if zin (w2 + 6) 151 = true then zl (wA T37 2 0 (upd (T37.2 2 0) (w2 + 6).toNatClampNeg ((T32.2 2 0 x34.toNatClampNeg) + 0))) fun T41 => some (1, T41) else none else if zin (w2 + 6) 151 = true then zl (wA T37 2 0 (upd (T37.2 2 0) (w2 + 6).toNatClampNeg ((T32.2 2 0 x34.toNatClampNeg) + 1))) fun T43 => some (1, T43) else none) else if zin (w2 + 6) 151 = true then zl (wA T32 2 0 (upd (T32.2 2 0) (w2 + 6).toNatClampNeg ((T32.2 2 0 x34.toNatClampNeg) + 0))) fun T36 => some (1, T36) else none) else none else none else none
def f_X4_celebrates (p0 : Int32) (T : zT) : Option (Int32 × zT) := zb (f_X4_c p0 T) fun v2 T1 => zl (v2 + 2) fun x5 => if zin x5 151 = true then if zin (v2 + 2) 151 = true then zl (wA T1 2 0 (upd (T1.2 2 0) (v2 + 2).toNatClampNeg ((T1.2 2 0 x5.toNatClampNeg) + 1))) fun T7 => zb (f_X4_cakeFor p0 T7) fun v9 T8 => (if v9 = (-1) then zl (wA T8 2 0 (upd (T8.2 2 0) 10 ((T8.2 2 0 10) + 1))) fun T46 => some (0, T46) else zl (11 + v9) fun x12 => if zin x12 151 = true then if zin (11 + v9) 151 = true then zl (wA T8 2 0 (upd (T8.2 2 0) (11 + v9).toNatClampNeg ((T8.2 2 0 x12.toNatClampNeg) - 1))) fun T14 => zl (v2 + 2) fun x16 => if zin x16 151 = true then zl (T14.2 2 0 x16.toNatClampNeg) fun x17 => (if (T14.2 2 0 3) ≤ x17 then jn_X4_celebrates_86 p0 v2 v9 x17 (T14.2 2 0 3) T14 else jn_X4_celebrates_86 p0 v2 v9 x17 x17 T14) else none else none else none) else none else none
set_option maxHeartbeats 4000000 in
set_option maxRecDepth 100000 in
theorem j_X4_celebrates_86 {p : Program} {l : Launch} {e : Env} {s : State} {m : MethodId} {args : Array Value} {below : List Frame} {meth : Method} {c : Code} {D : va_G} {Y : Nat → ClassId} {S V : Nat → Nat} {G : Nat → Nat → Nat} {A : Nat → Prop} {c0 : Cond} (F : zF 1 3  0 0  p l s m args c cX4_celebrates 6 RX4 c0 D Y S V G A) (hr : meth.sig.returnType = (some .boolean)) (hlocks : meth.locks = false) (hex : ∀ x ∈ c.exceptionTable.toList, False) (w1 : Int32) (w2 : Int32) (w3 : Int32) (w4 : Int32) (z0 : Int32) (T : zT) {T' : zT} {v : Int32} {H : Heap} {locs : List Loc} {ls : Array Slot} (hf : jn_X4_celebrates_86 w1 w2 w3 w4 z0 T = some (v, T')) (hP : zP 1 D Y G T H) (hS : va_S A s.heap H locs) (hl : lv_has ls 6 [(0, .ref (G 0 0)), (1, .int w1), (2, .int w2), (3, .int w3), (4, .int w4)]) :
    W p l e (zR 3  0 0 ) s m args below meth c H locs 0 0 (vx_MQ below (zQ 1 D Y G A (.inl (some (.int v))) T') (zX 1 D Y G A (.inl (some (.int v))) T') args s  0 0  A) (F0 m 86 ls [.int z0]) := by
  obtain ⟨hx, hb, hml, hown, hts, hl9, hG, hK, hA⟩ := id F
  unfold jn_X4_celebrates_86 at hf
  refine lv_istore (lv' := [(5, .int z0), (0, .ref (G 0 0)), (1, .int w1), (2, .int w2), (3, .int w3), (4, .int w4)]) hx hb dX4_celebrates_86 hl (by decide) rfl (fun ls hl => ?_)
  refine lv_aload_n hx hb dX4_celebrates_88 rfl (lv_at hl 1 rfl) ?_
  refine z_get hx hb hts (fun w h => List.mem_cons_of_mem _ (ziX4 w h)) hown hK hP (zV_m (by decide)) rfl rfl 2 (by decide) (List.mem_cons_of_mem _ m_1143) rfl rfl dX4_celebrates_89 ?_
  refine lv_iconst (v := 3) hx hb dX4_celebrates_92 (by decide) ?_
  refine lv_dup2_11 hx hb dX4_celebrates_93 rfl rfl ?_
  refine z_iald_ (j := 3) hx hb hK hP (zIA_m (by decide) (by decide)) (by decide) (by decide) dX4_celebrates_94 ?_
  refine lv_iload hx hb dX4_celebrates_95 (lv_at hl 0 rfl) ?_
  refine lv_isub hx hb dX4_celebrates_97 ?_
  obtain ⟨T22, eT22, hf⟩ := zl_i hf
  refine z_iast_ (j := 3) hx hb hK hP hG hS (zIA_m (by decide) (by decide)) (by decide) (by decide) dX4_celebrates_98 (fun H locs hP hS => ?_)
  rw [← eT22] at hP
  refine lv_aload_n hx hb dX4_celebrates_99 rfl (lv_at hl 1 rfl) ?_
  refine z_get hx hb hts (fun w h => List.mem_cons_of_mem _ (ziX4 w h)) hown hK hP (zV_m (by decide)) rfl rfl 2 (by decide) (List.mem_cons_of_mem _ m_1143) rfl rfl dX4_celebrates_100 ?_
  refine lv_bipush (v := 8) hx hb dX4_celebrates_103 (by decide) ?_
  refine lv_dup2_11 hx hb dX4_celebrates_105 rfl rfl ?_
  refine z_iald_ (j := 8) hx hb hK hP (zIA_m (by decide) (by decide)) (by decide) (by decide) dX4_celebrates_106 ?_
  refine lv_iload hx hb dX4_celebrates_107 (lv_at hl 0 rfl) ?_
  refine lv_iadd hx hb dX4_celebrates_109 ?_
  obtain ⟨T25, eT25, hf⟩ := zl_i hf
  refine z_iast_ (j := 8) hx hb hK hP hG hS (zIA_m (by decide) (by decide)) (by decide) (by decide) dX4_celebrates_110 (fun H locs hP hS => ?_)
  rw [← eT25] at hP
  refine lv_aload_n hx hb dX4_celebrates_111 rfl (lv_at hl 1 rfl) ?_
  refine z_get hx hb hts (fun w h => List.mem_cons_of_mem _ (ziX4 w h)) hown hK hP (zV_m (by decide)) rfl rfl 2 (by decide) (List.mem_cons_of_mem _ m_1143) rfl rfl dX4_celebrates_112 ?_
  refine lv_bipush (v := 9) hx hb dX4_celebrates_115 (by decide) ?_
  refine lv_dup2_11 hx hb dX4_celebrates_117 rfl rfl ?_
  refine z_iald_ (j := 9) hx hb hK hP (zIA_m (by decide) (by decide)) (by decide) (by decide) dX4_celebrates_118 ?_
  refine lv_iconst (v := 1) hx hb dX4_celebrates_119 (by decide) ?_
  refine lv_iadd hx hb dX4_celebrates_120 ?_
  obtain ⟨T28, eT28, hf⟩ := zl_i hf
  refine z_iast_ (j := 9) hx hb hK hP hG hS (zIA_m (by decide) (by decide)) (by decide) (by decide) dX4_celebrates_121 (fun H locs hP hS => ?_)
  rw [← eT28] at hP
  refine lv_aload_n hx hb dX4_celebrates_122 rfl (lv_at hl 1 rfl) ?_
  refine z_get hx hb hts (fun w h => List.mem_cons_of_mem _ (ziX4 w h)) hown hK hP (zV_m (by decide)) rfl rfl 2 (by decide) (List.mem_cons_of_mem _ m_1143) rfl rfl dX4_celebrates_123 ?_
  refine lv_iload_n hx hb dX4_celebrates_126 rfl (lv_at hl 3 rfl) ?_
  refine lv_iconst (v := 5) hx hb dX4_celebrates_127 (by decide) ?_
  refine lv_iadd hx hb dX4_celebrates_128 ?_
  refine lv_dup2_11 hx hb dX4_celebrates_129 rfl rfl ?_
  obtain ⟨x30, ex30, hf⟩ := zl_i hf
  refine z_topi ex30 ?_
  obtain ⟨h29, hf⟩ := zif_c hf
  refine z_iald hx hb hK hP (zIA_m (by decide) (by decide)) (zin_i h29) dX4_celebrates_130 ?_
  refine lv_iconst (v := 1) hx hb dX4_celebrates_131 (by decide) ?_
  refine lv_iadd hx hb dX4_celebrates_132 ?_
  obtain ⟨h31, hf⟩ := zif_c hf
  obtain ⟨T32, eT32, hf⟩ := zl_i hf
  refine z_iast hx hb hK hP hG hS (zIA_m (by decide) (by decide)) (zin_i h31) dX4_celebrates_133 (fun H locs hP hS => ?_)
  rw [← eT32] at hP
  refine lv_aload_n hx hb dX4_celebrates_134 rfl (lv_at hl 1 rfl) ?_
  refine z_get hx hb hts (fun w h => List.mem_cons_of_mem _ (ziX4 w h)) hown hK hP (zV_m (by decide)) rfl rfl 2 (by decide) (List.mem_cons_of_mem _ m_1143) rfl rfl dX4_celebrates_135 ?_
  refine lv_iload_n hx hb dX4_celebrates_138 rfl (lv_at hl 3 rfl) ?_
  refine lv_bipush (v := 6) hx hb dX4_celebrates_139 (by decide) ?_
  refine lv_iadd hx hb dX4_celebrates_141 ?_
  refine lv_dup2_11 hx hb dX4_celebrates_142 rfl rfl ?_
  obtain ⟨x34, ex34, hf⟩ := zl_i hf
  refine z_topi ex34 ?_
  obtain ⟨h33, hf⟩ := zif_c hf
  refine z_iald hx hb hK hP (zIA_m (by decide) (by decide)) (zin_i h33) dX4_celebrates_143 ?_
  refine lv_iload hx hb dX4_celebrates_144 (lv_at hl 0 rfl) ?_
  refine lv_iload hx hb dX4_celebrates_146 (lv_at hl 5 rfl) ?_
  refine lv_icmp_ne (tgt := 166) hx hb dX4_celebrates_148 (by decide) (fun hc => ?_) (fun hc => ?_)
  · have hf := zif_n hf hc
    refine lv_iconst (v := 0) hx hb dX4_celebrates_166 (by decide) ?_
    refine lv_iadd hx hb dX4_celebrates_167 ?_
    obtain ⟨h35, hf⟩ := zif_c hf
    obtain ⟨T36, eT36, hf⟩ := zl_i hf
    refine z_iast hx hb hK hP hG hS (zIA_m (by decide) (by decide)) (zin_i h35) dX4_celebrates_168 (fun H locs hP hS => ?_)
    rw [← eT36] at hP
    refine lv_iconst (v := 1) hx hb dX4_celebrates_169 (by decide) ?_
    obtain ⟨q1, q2⟩ := zs_i hf
    subst q1; subst q2
    exact z_zret hx hb hr (Or.inr rfl) rfl hP hS hlocks (Nat.le_of_ble_eq_true rfl) (Nat.le_of_ble_eq_true rfl) dX4_celebrates_170
  · have hf := zif_p hf hc
    refine lv_aload_n hx hb dX4_celebrates_151 rfl (lv_at hl 1 rfl) ?_
    refine lv_iload_n hx hb dX4_celebrates_152 rfl (lv_at hl 2 rfl) ?_
    refine lv_iload_n hx hb dX4_celebrates_153 rfl (lv_at hl 4 rfl) ?_
    obtain ⟨v38, T37, h39, hf⟩ := zb_i hf
    refine z_ok (z_runV (As := [.int w1, .int w3]) (rest := [.int (T32.2 2 0 x34.toNatClampNeg), .int (w2 + 6), .ref (G 2 0)]) F k_X4_strength m_1137 (c_X4_strength w1 w3 T32 T37 _ h39) hP hS (zV_m (by decide)) rfl rfl rfl rfl hl.1 (Nat.le_of_ble_eq_true rfl) dX4_celebrates_154 (Nat.le_of_ble_eq_true rfl) ⟨Nat.le_of_ble_eq_true rfl, Nat.le_of_ble_eq_true rfl⟩ rfl) hS (fun H locs hP hS => ?_)
    refine lv_iload hx hb dX4_celebrates_157 (lv_at hl 0 rfl) ?_
    refine lv_icmp_lt (tgt := 166) hx hb dX4_celebrates_159 (by decide) (fun hc => ?_) (fun hc => ?_)
    · have hf := zif_p hf hc
      refine lv_iconst (v := 0) hx hb dX4_celebrates_166 (by decide) ?_
      refine lv_iadd hx hb dX4_celebrates_167 ?_
      obtain ⟨h40, hf⟩ := zif_c hf
      obtain ⟨T41, eT41, hf⟩ := zl_i hf
      refine z_iast hx hb hK hP hG hS (zIA_m (by decide) (by decide)) (zin_i h40) dX4_celebrates_168 (fun H locs hP hS => ?_)
      rw [← eT41] at hP
      refine lv_iconst (v := 1) hx hb dX4_celebrates_169 (by decide) ?_
      obtain ⟨q1, q2⟩ := zs_i hf
      subst q1; subst q2
      exact z_zret hx hb hr (Or.inr rfl) rfl hP hS hlocks (Nat.le_of_ble_eq_true rfl) (Nat.le_of_ble_eq_true rfl) dX4_celebrates_170
    · have hf := zif_n hf hc
      refine lv_iconst (v := 1) hx hb dX4_celebrates_162 (by decide) ?_
      refine lv_goto (tgt := 167) hx hb dX4_celebrates_163 (by decide) ?_
      refine lv_iadd hx hb dX4_celebrates_167 ?_
      obtain ⟨h42, hf⟩ := zif_c hf
      obtain ⟨T43, eT43, hf⟩ := zl_i hf
      refine z_iast hx hb hK hP hG hS (zIA_m (by decide) (by decide)) (zin_i h42) dX4_celebrates_168 (fun H locs hP hS => ?_)
      rw [← eT43] at hP
      refine lv_iconst (v := 1) hx hb dX4_celebrates_169 (by decide) ?_
      obtain ⟨q1, q2⟩ := zs_i hf
      subst q1; subst q2
      exact z_zret hx hb hr (Or.inr rfl) rfl hP hS hlocks (Nat.le_of_ble_eq_true rfl) (Nat.le_of_ble_eq_true rfl) dX4_celebrates_170
set_option maxHeartbeats 4000000 in
set_option maxRecDepth 100000 in
theorem c_X4_celebrates (p0 : Int32) (T T' : zT) (v : Int32) (hf : f_X4_celebrates p0 T = some (v, T')) : zC 1 yX4_celebrates cX4_celebrates 6 (some .boolean) 3  0 0  (fun G _ => [.ref (G 0 0), .int p0]) T (fun _ => .inl (some (.int v))) T' := by
  intro l D Y S V G A hl9 hG
  refine vx_ofW (cc := cX4_celebrates) (maxL := 6) (ret := (some .boolean)) (by decide) rfl ?_
  intro p e s m args below meth c s₁ B hml hex hv
  obtain ⟨rfl, hK, hP, hA⟩ := hv
  have hx := B.exec
  have hb := B.bytes
  have hr := B.returns
  have hlocks := B.notSynchronized
  have hown : s.vm.findClass RX4 = some m.cls := findClass_of_methodNamed B.named
  have hts := atoms_spec (ws := Cond.code yX4_celebrates cX4_celebrates 6 (some .boolean) :: zWS) B.pre
  have F : zF 1 3  0 0  p l s m _ c cX4_celebrates 6 RX4 (Cond.code yX4_celebrates cX4_celebrates 6 (some .boolean)) D Y S V G A := ⟨hx, hb, hml, hown, hts, hl9, hG, hK, hA⟩
  have hS : va_S A s.heap s.heap [] := va_S.rf
  have hl := lv_entry ([.ref (G 0 0), .int p0]) (n := 6) (Nat.le_of_ble_eq_true rfl)
  rw [lg_entry_eq]
  generalize (lg_sl ([.ref (G 0 0), .int p0]) ++ List.replicate (6 - (lg_sl ([.ref (G 0 0), .int p0])).length) Slot.unset).toArray = ls at hl ⊢
  have hl : lv_has ls 6 [(0, .ref (G 0 0)), (1, .int p0)] := hl
  unfold f_X4_celebrates at hf
  refine lv_iload_n hx hb dX4_celebrates_0 rfl (lv_at hl 1 rfl) ?_
  obtain ⟨v2, T1, h3, hf⟩ := zb_i hf
  refine z_ok (z_runS (As := [.int p0]) (rest := []) F k_X4_c m_1095 (c_X4_c p0 T T1 _ h3) hP hS rfl rfl hl.1 (Nat.le_of_ble_eq_true rfl) dX4_celebrates_1 (Nat.le_of_ble_eq_true rfl) ⟨Nat.le_of_ble_eq_true rfl, Nat.le_of_ble_eq_true rfl⟩ rfl) hS (fun H locs hP hS => ?_)
  refine lv_istore_n (lv' := [(2, .int v2), (0, .ref (G 0 0)), (1, .int p0)]) hx hb dX4_celebrates_4 rfl hl (by decide) rfl (fun ls hl => ?_)
  refine lv_aload_n hx hb dX4_celebrates_5 rfl (lv_at hl 1 rfl) ?_
  refine z_get hx hb hts (fun w h => List.mem_cons_of_mem _ (ziX4 w h)) hown hK hP (zV_m (by decide)) rfl rfl 2 (by decide) (List.mem_cons_of_mem _ m_1143) rfl rfl dX4_celebrates_6 ?_
  refine lv_iload_n hx hb dX4_celebrates_9 rfl (lv_at hl 0 rfl) ?_
  refine lv_iconst (v := 2) hx hb dX4_celebrates_10 (by decide) ?_
  refine lv_iadd hx hb dX4_celebrates_11 ?_
  refine lv_dup2_11 hx hb dX4_celebrates_12 rfl rfl ?_
  obtain ⟨x5, ex5, hf⟩ := zl_i hf
  refine z_topi ex5 ?_
  obtain ⟨h4, hf⟩ := zif_c hf
  refine z_iald hx hb hK hP (zIA_m (by decide) (by decide)) (zin_i h4) dX4_celebrates_13 ?_
  refine lv_iconst (v := 1) hx hb dX4_celebrates_14 (by decide) ?_
  refine lv_iadd hx hb dX4_celebrates_15 ?_
  obtain ⟨h6, hf⟩ := zif_c hf
  obtain ⟨T7, eT7, hf⟩ := zl_i hf
  refine z_iast hx hb hK hP hG hS (zIA_m (by decide) (by decide)) (zin_i h6) dX4_celebrates_16 (fun H locs hP hS => ?_)
  rw [← eT7] at hP
  refine lv_aload_n hx hb dX4_celebrates_17 rfl (lv_at hl 1 rfl) ?_
  refine lv_iload_n hx hb dX4_celebrates_18 rfl (lv_at hl 2 rfl) ?_
  obtain ⟨v9, T8, h10, hf⟩ := zb_i hf
  refine z_ok (z_runV (As := [.int p0]) (rest := []) F k_X4_cakeFor m_1133 (c_X4_cakeFor p0 T7 T8 _ h10) hP hS (zV_m (by decide)) rfl rfl rfl rfl hl.1 (Nat.le_of_ble_eq_true rfl) dX4_celebrates_19 (Nat.le_of_ble_eq_true rfl) ⟨Nat.le_of_ble_eq_true rfl, Nat.le_of_ble_eq_true rfl⟩ rfl) hS (fun H locs hP hS => ?_)
  refine lv_istore_n (lv' := [(3, .int v9), (2, .int v2), (0, .ref (G 0 0)), (1, .int p0)]) hx hb dX4_celebrates_22 rfl hl (by decide) rfl (fun ls hl => ?_)
  refine lv_iload_n hx hb dX4_celebrates_23 rfl (lv_at hl 0 rfl) ?_
  refine lv_iconst (v := (-1)) hx hb dX4_celebrates_24 (by decide) ?_
  refine lv_icmp_ne (tgt := 41) hx hb dX4_celebrates_25 (by decide) (fun hc => ?_) (fun hc => ?_)
  · have hf := zif_n hf hc
    refine lv_aload_n hx hb dX4_celebrates_41 rfl (lv_at hl 2 rfl) ?_
    refine z_get hx hb hts (fun w h => List.mem_cons_of_mem _ (ziX4 w h)) hown hK hP (zV_m (by decide)) rfl rfl 2 (by decide) (List.mem_cons_of_mem _ m_1143) rfl rfl dX4_celebrates_42 ?_
    refine lv_bipush (v := 11) hx hb dX4_celebrates_45 (by decide) ?_
    refine lv_iload_n hx hb dX4_celebrates_47 rfl (lv_at hl 0 rfl) ?_
    refine lv_iadd hx hb dX4_celebrates_48 ?_
    refine lv_dup2_11 hx hb dX4_celebrates_49 rfl rfl ?_
    obtain ⟨x12, ex12, hf⟩ := zl_i hf
    refine z_topi ex12 ?_
    obtain ⟨h11, hf⟩ := zif_c hf
    refine z_iald hx hb hK hP (zIA_m (by decide) (by decide)) (zin_i h11) dX4_celebrates_50 ?_
    refine lv_iconst (v := 1) hx hb dX4_celebrates_51 (by decide) ?_
    refine lv_isub hx hb dX4_celebrates_52 ?_
    obtain ⟨h13, hf⟩ := zif_c hf
    obtain ⟨T14, eT14, hf⟩ := zl_i hf
    refine z_iast hx hb hK hP hG hS (zIA_m (by decide) (by decide)) (zin_i h13) dX4_celebrates_53 (fun H locs hP hS => ?_)
    rw [← eT14] at hP
    refine lv_aload_n hx hb dX4_celebrates_54 rfl (lv_at hl 2 rfl) ?_
    refine z_get hx hb hts (fun w h => List.mem_cons_of_mem _ (ziX4 w h)) hown hK hP (zV_m (by decide)) rfl rfl 2 (by decide) (List.mem_cons_of_mem _ m_1143) rfl rfl dX4_celebrates_55 ?_
    refine lv_iload_n hx hb dX4_celebrates_58 rfl (lv_at hl 1 rfl) ?_
    refine lv_iconst (v := 2) hx hb dX4_celebrates_59 (by decide) ?_
    refine lv_iadd hx hb dX4_celebrates_60 ?_
    obtain ⟨x16, ex16, hf⟩ := zl_i hf
    refine z_topi ex16 ?_
    obtain ⟨h15, hf⟩ := zif_c hf
    refine z_iald hx hb hK hP (zIA_m (by decide) (by decide)) (zin_i h15) dX4_celebrates_61 ?_
    obtain ⟨x17, ex17, hf⟩ := zl_i hf
    refine z_topi ex17 ?_
    refine lv_istore (lv' := [(4, .int x17), (3, .int v9), (2, .int v2), (0, .ref (G 0 0)), (1, .int p0)]) hx hb dX4_celebrates_62 hl (by decide) rfl (fun ls hl => ?_)
    refine lv_iload hx hb dX4_celebrates_64 (lv_at hl 0 rfl) ?_
    refine lv_aload_n hx hb dX4_celebrates_66 rfl (lv_at hl 3 rfl) ?_
    refine z_get hx hb hts (fun w h => List.mem_cons_of_mem _ (ziX4 w h)) hown hK hP (zV_m (by decide)) rfl rfl 2 (by decide) (List.mem_cons_of_mem _ m_1143) rfl rfl dX4_celebrates_67 ?_
    refine lv_iconst (v := 3) hx hb dX4_celebrates_70 (by decide) ?_
    refine z_iald_ (j := 3) hx hb hK hP (zIA_m (by decide) (by decide)) (by decide) (by decide) dX4_celebrates_71 ?_
    refine lv_icmp_ge (tgt := 80) hx hb dX4_celebrates_72 (by decide) (fun hc => ?_) (fun hc => ?_)
    · have hf := zif_p hf hc
      refine lv_aload_n hx hb dX4_celebrates_80 rfl (lv_at hl 3 rfl) ?_
      refine z_get hx hb hts (fun w h => List.mem_cons_of_mem _ (ziX4 w h)) hown hK hP (zV_m (by decide)) rfl rfl 2 (by decide) (List.mem_cons_of_mem _ m_1143) rfl rfl dX4_celebrates_81 ?_
      refine lv_iconst (v := 3) hx hb dX4_celebrates_84 (by decide) ?_
      refine z_iald_ (j := 3) hx hb hK hP (zIA_m (by decide) (by decide)) (by decide) (by decide) dX4_celebrates_85 ?_
      exact j_X4_celebrates_86 F hr hlocks hex p0 v2 v9 x17 (T14.2 2 0 3) T14 hf hP hS (lv_sub hl [3, 4, 2, 1, 0] rfl)
    · have hf := zif_n hf hc
      refine lv_iload hx hb dX4_celebrates_75 (lv_at hl 0 rfl) ?_
      refine lv_goto (tgt := 86) hx hb dX4_celebrates_77 (by decide) ?_
      exact j_X4_celebrates_86 F hr hlocks hex p0 v2 v9 x17 x17 T14 hf hP hS (lv_sub hl [3, 4, 2, 1, 0] rfl)
  · have hf := zif_p hf hc
    refine lv_aload_n hx hb dX4_celebrates_28 rfl (lv_at hl 2 rfl) ?_
    refine z_get hx hb hts (fun w h => List.mem_cons_of_mem _ (ziX4 w h)) hown hK hP (zV_m (by decide)) rfl rfl 2 (by decide) (List.mem_cons_of_mem _ m_1143) rfl rfl dX4_celebrates_29 ?_
    refine lv_bipush (v := 10) hx hb dX4_celebrates_32 (by decide) ?_
    refine lv_dup2_11 hx hb dX4_celebrates_34 rfl rfl ?_
    refine z_iald_ (j := 10) hx hb hK hP (zIA_m (by decide) (by decide)) (by decide) (by decide) dX4_celebrates_35 ?_
    refine lv_iconst (v := 1) hx hb dX4_celebrates_36 (by decide) ?_
    refine lv_iadd hx hb dX4_celebrates_37 ?_
    obtain ⟨T46, eT46, hf⟩ := zl_i hf
    refine z_iast_ (j := 10) hx hb hK hP hG hS (zIA_m (by decide) (by decide)) (by decide) (by decide) dX4_celebrates_38 (fun H locs hP hS => ?_)
    rw [← eT46] at hP
    refine lv_iconst (v := 0) hx hb dX4_celebrates_39 (by decide) ?_
    obtain ⟨q1, q2⟩ := zs_i hf
    subst q1; subst q2
    exact z_zret hx hb hr (Or.inl rfl) rfl hP hS hlocks (Nat.le_of_ble_eq_true rfl) (Nat.le_of_ble_eq_true rfl) dX4_celebrates_40

def lp_X4_passesDay_45  : Nat → Int32 → Int32 → zT → Option ((Int32 × Int32) × zT)
  | 0, _, _, _ => none
  | n + 1, u1, u2, T => (if (T.2 2 0 5) ≤ u2 then some ((u1, u2), T) else zb (f_X4_c u2 T) fun v11 T10 => zl (v11 + 4) fun x14 => if zin x14 151 = true then (if (T10.2 2 0 x14.toNatClampNeg) = (T10.2 2 0 1) then zb (f_X4_celebrates u2 T10) fun v18 T17 => (if v18 = 0 then zl (u1 + 0) fun x20 => zl (u2 + 1) fun x21 => lp_X4_passesDay_45 n x20 x21 T17 else zl (u1 + 1) fun x22 => zl (u2 + 1) fun x23 => lp_X4_passesDay_45 n x22 x23 T17) else zl (u2 + 1) fun x16 => lp_X4_passesDay_45 n u1 x16 T10) else none)
def jn_X4_passesDay_41 (w1 : Int32) (z1 : Int32) (z2 : Int32) (z3 : Int32) (T : zT) : Option (Int32 × zT) := if zin z1 151 = true then zl (wA T 2 0 (upd (T.2 2 0) z1.toNatClampNeg (z2 + z3))) fun T8 => zb (lp_X4_passesDay_45 2000 w1 0 T8) fun v25 T24 => some (v25.1, T24) else none
def f_X4_passesDay  (T : zT) : Option (Int32 × zT) := zl ((T.2 2 0 1) + 1) fun x2 => zl (wA T 2 0 (upd (T.2 2 0) 1 (x2 - x2 / 360 * 360))) fun T4 => (if (T4.2 2 0 1) = 0 then jn_X4_passesDay_41 0 0 (T4.2 2 0 0) 1 T4 else jn_X4_passesDay_41 0 0 (T4.2 2 0 0) 0 T4)
set_option maxHeartbeats 4000000 in
set_option maxRecDepth 100000 in
theorem l_X4_passesDay_45 {p : Program} {l : Launch} {e : Env} {s : State} {m : MethodId} {args : Array Value} {below : List Frame} {meth : Method} {c : Code} {Q : State → Prop} {D : va_G} {Y : Nat → ClassId} {S V : Nat → Nat} {G : Nat → Nat → Nat} {A : Nat → Prop} {c0 : Cond} {mc ms cells slots : Nat} (F : zF 1 4 mc ms p l s m args c cX4_passesDay 3 RX4 c0 D Y S V G A) (hcs : cells ≤ mc ∧ slots ≤ ms) :
    ∀ (n : Nat) (u1 : Int32) (u2 : Int32) (T : zT) (o : (Int32 × Int32) × zT) (H : Heap) (locs : List Loc) (ls : Array Slot), lp_X4_passesDay_45 n u1 u2 T = some o → zP 1 D Y G T H → va_S A s.heap H locs → lv_has ls 3 [(0, .ref (G 0 0)), (1, .int u1), (2, .int u2)] → (∀ (H : Heap) (locs : List Loc) (ls : Array Slot), zP 1 D Y G o.2 H → va_S A s.heap H locs → lv_has ls 3 [(0, .ref (G 0 0)), (1, .int o.1.1), (2, .int o.1.2)] → W p l e (zR 4 mc ms) s m args below meth c H locs cells slots Q (F0 m 97 ls [])) → W p l e (zR 4 mc ms) s m args below meth c H locs cells slots Q (F0 m 45 ls []) := by
  obtain ⟨hx, hb, hml, hown, hts, hl9, hG, hK, hA⟩ := id F
  intro n
  induction n with
  | zero =>
    intro u1 u2 T o H locs ls hf
    rw [lp_X4_passesDay_45] at hf
    cases hf
  | succ n ih =>
    intro u1 u2 T o H locs ls hf hP hS hl k0_
    rw [lp_X4_passesDay_45] at hf
    refine lv_iload_n hx hb dX4_passesDay_45 rfl (lv_at hl 2 rfl) ?_
    refine lv_aload_n hx hb dX4_passesDay_46 rfl (lv_at hl 0 rfl) ?_
    refine z_get hx hb hts (fun w h => List.mem_cons_of_mem _ (ziX4 w h)) hown hK hP (zV_m (by decide)) rfl rfl 2 (by decide) (List.mem_cons_of_mem _ m_1143) rfl rfl dX4_passesDay_47 ?_
    refine lv_iconst (v := 5) hx hb dX4_passesDay_50 (by decide) ?_
    refine z_iald_ (j := 5) hx hb hK hP (zIA_m (by decide) (by decide)) (by decide) (by decide) dX4_passesDay_51 ?_
    refine lv_icmp_ge (tgt := 97) hx hb dX4_passesDay_52 (by decide) (fun hc => ?_) (fun hc => ?_)
    · have hf := zif_p hf hc
      cases hf
      exact k0_ _ _ _ hP hS (lv_sub hl [0, 1, 2] rfl)
    · have hf := zif_n hf hc
      refine lv_aload_n hx hb dX4_passesDay_55 rfl (lv_at hl 0 rfl) ?_
      refine z_get hx hb hts (fun w h => List.mem_cons_of_mem _ (ziX4 w h)) hown hK hP (zV_m (by decide)) rfl rfl 2 (by decide) (List.mem_cons_of_mem _ m_1143) rfl rfl dX4_passesDay_56 ?_
      refine lv_iload_n hx hb dX4_passesDay_59 rfl (lv_at hl 2 rfl) ?_
      obtain ⟨v11, T10, h12, hf⟩ := zb_i hf
      refine z_ok (z_runS (As := [.int u2]) (rest := [.ref (G 2 0)]) F k_X4_c m_1095 (c_X4_c u2 T T10 _ h12) hP hS rfl rfl hl.1 (Nat.le_of_ble_eq_true rfl) dX4_passesDay_60 (Nat.le_of_ble_eq_true rfl) ⟨hcs.1, hcs.2⟩ rfl) hS (fun H locs hP hS => ?_)
      refine lv_iconst (v := 4) hx hb dX4_passesDay_63 (by decide) ?_
      refine lv_iadd hx hb dX4_passesDay_64 ?_
      obtain ⟨x14, ex14, hf⟩ := zl_i hf
      refine z_topi ex14 ?_
      obtain ⟨h13, hf⟩ := zif_c hf
      refine z_iald hx hb hK hP (zIA_m (by decide) (by decide)) (zin_i h13) dX4_passesDay_65 ?_
      refine lv_aload_n hx hb dX4_passesDay_66 rfl (lv_at hl 0 rfl) ?_
      refine z_get hx hb hts (fun w h => List.mem_cons_of_mem _ (ziX4 w h)) hown hK hP (zV_m (by decide)) rfl rfl 2 (by decide) (List.mem_cons_of_mem _ m_1143) rfl rfl dX4_passesDay_67 ?_
      refine lv_iconst (v := 1) hx hb dX4_passesDay_70 (by decide) ?_
      refine z_iald_ (j := 1) hx hb hK hP (zIA_m (by decide) (by decide)) (by decide) (by decide) dX4_passesDay_71 ?_
      refine lv_icmp_ne (tgt := 91) hx hb dX4_passesDay_72 (by decide) (fun hc => ?_) (fun hc => ?_)
      · have hf := zif_n hf hc
        obtain ⟨x16, ex16, hf⟩ := zl_i hf
        refine lv_iinc (v := x16) (lv' := [(2, .int x16), (0, .ref (G 0 0)), (1, .int u1)]) hx hb dX4_passesDay_91 hl (k := 2) rfl (by rw [ex16]; rfl) (by decide) rfl (fun ls hl => ?_)
        refine lv_goto (tgt := 45) hx hb dX4_passesDay_94 (by decide) ?_
        exact ih u1 x16 _ _ _ _ _ hf hP hS (lv_sub hl [1, 2, 0] rfl) k0_
      · have hf := zif_p hf hc
        refine lv_iload_n hx hb dX4_passesDay_75 rfl (lv_at hl 1 rfl) ?_
        refine lv_aload_n hx hb dX4_passesDay_76 rfl (lv_at hl 0 rfl) ?_
        refine lv_iload_n hx hb dX4_passesDay_77 rfl (lv_at hl 2 rfl) ?_
        obtain ⟨v18, T17, h19, hf⟩ := zb_i hf
        refine z_ok (z_runV (As := [.int u2]) (rest := [.int u1]) F k_X4_celebrates m_1129 (c_X4_celebrates u2 T10 T17 _ h19) hP hS (zV_m (by decide)) rfl rfl rfl rfl hl.1 (Nat.le_of_ble_eq_true rfl) dX4_passesDay_78 (Nat.le_of_ble_eq_true rfl) ⟨hcs.1, hcs.2⟩ rfl) hS (fun H locs hP hS => ?_)
        refine lv_if_eq (tgt := 88) hx hb dX4_passesDay_81 (by decide) (fun hc => ?_) (fun hc => ?_)
        · have hf := zif_p hf hc
          refine lv_iconst (v := 0) hx hb dX4_passesDay_88 (by decide) ?_
          refine lv_iadd hx hb dX4_passesDay_89 ?_
          obtain ⟨x20, ex20, hf⟩ := zl_i hf
          refine z_topi ex20 ?_
          refine lv_istore_n (lv' := [(1, .int x20), (0, .ref (G 0 0)), (2, .int u2)]) hx hb dX4_passesDay_90 rfl hl (by decide) rfl (fun ls hl => ?_)
          obtain ⟨x21, ex21, hf⟩ := zl_i hf
          refine lv_iinc (v := x21) (lv' := [(2, .int x21), (1, .int x20), (0, .ref (G 0 0))]) hx hb dX4_passesDay_91 hl (k := 2) rfl (by rw [ex21]; rfl) (by decide) rfl (fun ls hl => ?_)
          refine lv_goto (tgt := 45) hx hb dX4_passesDay_94 (by decide) ?_
          exact ih x20 x21 _ _ _ _ _ hf hP hS (lv_sub hl [2, 1, 0] rfl) k0_
        · have hf := zif_n hf hc
          refine lv_iconst (v := 1) hx hb dX4_passesDay_84 (by decide) ?_
          refine lv_goto (tgt := 89) hx hb dX4_passesDay_85 (by decide) ?_
          refine lv_iadd hx hb dX4_passesDay_89 ?_
          obtain ⟨x22, ex22, hf⟩ := zl_i hf
          refine z_topi ex22 ?_
          refine lv_istore_n (lv' := [(1, .int x22), (0, .ref (G 0 0)), (2, .int u2)]) hx hb dX4_passesDay_90 rfl hl (by decide) rfl (fun ls hl => ?_)
          obtain ⟨x23, ex23, hf⟩ := zl_i hf
          refine lv_iinc (v := x23) (lv' := [(2, .int x23), (1, .int x22), (0, .ref (G 0 0))]) hx hb dX4_passesDay_91 hl (k := 2) rfl (by rw [ex23]; rfl) (by decide) rfl (fun ls hl => ?_)
          refine lv_goto (tgt := 45) hx hb dX4_passesDay_94 (by decide) ?_
          exact ih x22 x23 _ _ _ _ _ hf hP hS (lv_sub hl [2, 1, 0] rfl) k0_
set_option maxHeartbeats 4000000 in
set_option maxRecDepth 100000 in
theorem j_X4_passesDay_41 {p : Program} {l : Launch} {e : Env} {s : State} {m : MethodId} {args : Array Value} {below : List Frame} {meth : Method} {c : Code} {D : va_G} {Y : Nat → ClassId} {S V : Nat → Nat} {G : Nat → Nat → Nat} {A : Nat → Prop} {c0 : Cond} (F : zF 1 4  0 0  p l s m args c cX4_passesDay 3 RX4 c0 D Y S V G A) (hr : meth.sig.returnType = (some .int)) (hlocks : meth.locks = false) (hex : ∀ x ∈ c.exceptionTable.toList, False) (w1 : Int32) (z1 : Int32) (z2 : Int32) (z3 : Int32) (T : zT) {T' : zT} {v : Int32} {H : Heap} {locs : List Loc} {ls : Array Slot} (hf : jn_X4_passesDay_41 w1 z1 z2 z3 T = some (v, T')) (hP : zP 1 D Y G T H) (hS : va_S A s.heap H locs) (hl : lv_has ls 3 [(0, .ref (G 0 0)), (1, .int w1)]) :
    W p l e (zR 4  0 0 ) s m args below meth c H locs 0 0 (vx_MQ below (zQ 1 D Y G A (.inl (some (.int v))) T') (zX 1 D Y G A (.inl (some (.int v))) T') args s  0 0  A) (F0 m 41 ls [.int z3, .int z2, .int z1, .ref (G 2 0)]) := by
  obtain ⟨hx, hb, hml, hown, hts, hl9, hG, hK, hA⟩ := id F
  unfold jn_X4_passesDay_41 at hf
  refine lv_iadd hx hb dX4_passesDay_41 ?_
  obtain ⟨h7, hf⟩ := zif_c hf
  obtain ⟨T8, eT8, hf⟩ := zl_i hf
  refine z_iast hx hb hK hP hG hS (zIA_m (by decide) (by decide)) (zin_i h7) dX4_passesDay_42 (fun H locs hP hS => ?_)
  rw [← eT8] at hP
  refine lv_iconst (v := 0) hx hb dX4_passesDay_43 (by decide) ?_
  refine lv_istore_n (lv' := [(2, .int 0), (0, .ref (G 0 0)), (1, .int w1)]) hx hb dX4_passesDay_44 rfl hl (by decide) rfl (fun ls hl => ?_)
  obtain ⟨v25, T24, h26, hf⟩ := zb_i hf
  refine l_X4_passesDay_45 F ⟨Nat.le_of_ble_eq_true rfl, Nat.le_of_ble_eq_true rfl⟩  2000 w1 0 _ _ _ _ _ h26 hP hS (lv_sub hl [1, 2, 0] rfl) (fun H locs ls hP hS hl => ?_)
  refine lv_iload_n hx hb dX4_passesDay_97 rfl (lv_at hl 1 rfl) ?_
  obtain ⟨q1, q2⟩ := zs_i hf
  subst q1; subst q2
  exact z_iret hx hb hr rfl hP hS hlocks (Nat.le_of_ble_eq_true rfl) (Nat.le_of_ble_eq_true rfl) dX4_passesDay_98
set_option maxHeartbeats 4000000 in
set_option maxRecDepth 100000 in
theorem c_X4_passesDay  (T T' : zT) (v : Int32) (hf : f_X4_passesDay  T = some (v, T')) : zC 1 yX4_passesDay cX4_passesDay 3 (some .int) 4  0 0  (fun G _ => [.ref (G 0 0)]) T (fun _ => .inl (some (.int v))) T' := by
  intro l D Y S V G A hl9 hG
  refine vx_ofW (cc := cX4_passesDay) (maxL := 3) (ret := (some .int)) (by decide) rfl ?_
  intro p e s m args below meth c s₁ B hml hex hv
  obtain ⟨rfl, hK, hP, hA⟩ := hv
  have hx := B.exec
  have hb := B.bytes
  have hr := B.returns
  have hlocks := B.notSynchronized
  have hown : s.vm.findClass RX4 = some m.cls := findClass_of_methodNamed B.named
  have hts := atoms_spec (ws := Cond.code yX4_passesDay cX4_passesDay 3 (some .int) :: zWS) B.pre
  have F : zF 1 4  0 0  p l s m _ c cX4_passesDay 3 RX4 (Cond.code yX4_passesDay cX4_passesDay 3 (some .int)) D Y S V G A := ⟨hx, hb, hml, hown, hts, hl9, hG, hK, hA⟩
  have hS : va_S A s.heap s.heap [] := va_S.rf
  have hl := lv_entry ([.ref (G 0 0)]) (n := 3) (Nat.le_of_ble_eq_true rfl)
  rw [lg_entry_eq]
  generalize (lg_sl ([.ref (G 0 0)]) ++ List.replicate (3 - (lg_sl ([.ref (G 0 0)])).length) Slot.unset).toArray = ls at hl ⊢
  have hl : lv_has ls 3 [(0, .ref (G 0 0))] := hl
  unfold f_X4_passesDay at hf
  refine lv_iconst (v := 0) hx hb dX4_passesDay_0 (by decide) ?_
  refine lv_istore_n (lv' := [(1, .int 0), (0, .ref (G 0 0))]) hx hb dX4_passesDay_1 rfl hl (by decide) rfl (fun ls hl => ?_)
  refine lv_aload_n hx hb dX4_passesDay_2 rfl (lv_at hl 1 rfl) ?_
  refine z_get hx hb hts (fun w h => List.mem_cons_of_mem _ (ziX4 w h)) hown hK hP (zV_m (by decide)) rfl rfl 2 (by decide) (List.mem_cons_of_mem _ m_1143) rfl rfl dX4_passesDay_3 ?_
  refine lv_iconst (v := 1) hx hb dX4_passesDay_6 (by decide) ?_
  refine lv_aload_n hx hb dX4_passesDay_7 rfl (lv_at hl 1 rfl) ?_
  refine z_get hx hb hts (fun w h => List.mem_cons_of_mem _ (ziX4 w h)) hown hK hP (zV_m (by decide)) rfl rfl 2 (by decide) (List.mem_cons_of_mem _ m_1143) rfl rfl dX4_passesDay_8 ?_
  refine lv_iconst (v := 1) hx hb dX4_passesDay_11 (by decide) ?_
  refine z_iald_ (j := 1) hx hb hK hP (zIA_m (by decide) (by decide)) (by decide) (by decide) dX4_passesDay_12 ?_
  refine lv_iconst (v := 1) hx hb dX4_passesDay_13 (by decide) ?_
  refine lv_iadd hx hb dX4_passesDay_14 ?_
  refine lv_sipush (v := 360) hx hb dX4_passesDay_15 (by decide) ?_
  obtain ⟨x2, ex2, hf⟩ := zl_i hf
  rw [← ex2]
  refine lv_irem hx hb dX4_passesDay_18 (by decide) ?_
  obtain ⟨T4, eT4, hf⟩ := zl_i hf
  refine z_iast_ (j := 1) hx hb hK hP hG hS (zIA_m (by decide) (by decide)) (by decide) (by decide) dX4_passesDay_19 (fun H locs hP hS => ?_)
  rw [← eT4] at hP
  refine lv_aload_n hx hb dX4_passesDay_20 rfl (lv_at hl 1 rfl) ?_
  refine z_get hx hb hts (fun w h => List.mem_cons_of_mem _ (ziX4 w h)) hown hK hP (zV_m (by decide)) rfl rfl 2 (by decide) (List.mem_cons_of_mem _ m_1143) rfl rfl dX4_passesDay_21 ?_
  refine lv_iconst (v := 0) hx hb dX4_passesDay_24 (by decide) ?_
  refine lv_dup2_11 hx hb dX4_passesDay_25 rfl rfl ?_
  refine z_iald_ (j := 0) hx hb hK hP (zIA_m (by decide) (by decide)) (by decide) (by decide) dX4_passesDay_26 ?_
  refine lv_aload_n hx hb dX4_passesDay_27 rfl (lv_at hl 1 rfl) ?_
  refine z_get hx hb hts (fun w h => List.mem_cons_of_mem _ (ziX4 w h)) hown hK hP (zV_m (by decide)) rfl rfl 2 (by decide) (List.mem_cons_of_mem _ m_1143) rfl rfl dX4_passesDay_28 ?_
  refine lv_iconst (v := 1) hx hb dX4_passesDay_31 (by decide) ?_
  refine z_iald_ (j := 1) hx hb hK hP (zIA_m (by decide) (by decide)) (by decide) (by decide) dX4_passesDay_32 ?_
  refine lv_if_ne (tgt := 40) hx hb dX4_passesDay_33 (by decide) (fun hc => ?_) (fun hc => ?_)
  · have hf := zif_n hf hc
    refine lv_iconst (v := 0) hx hb dX4_passesDay_40 (by decide) ?_
    exact j_X4_passesDay_41 F hr hlocks hex 0 0 (T4.2 2 0 0) 0 T4 hf hP hS (lv_sub hl [1, 0] rfl)
  · have hf := zif_p hf hc
    refine lv_iconst (v := 1) hx hb dX4_passesDay_36 (by decide) ?_
    refine lv_goto (tgt := 41) hx hb dX4_passesDay_37 (by decide) ?_
    exact j_X4_passesDay_41 F hr hlocks hex 0 0 (T4.2 2 0 0) 1 T4 hf hP hS (lv_sub hl [1, 0] rfl)

def lp_X4_passes_4 (w1 : Int32) : Nat → Int32 → Int32 → zT → Option ((Int32 × Int32) × zT)
  | 0, _, _, _ => none
  | n + 1, u2, u3, T => (if w1 ≤ u3 then some ((u2, u3), T) else zb (f_X4_passesDay T) fun v2 T1 => zl (u2 + v2) fun x4 => zl (u3 + 1) fun x5 => lp_X4_passes_4 w1 n x4 x5 T1)
def f_X4_passes (p0 : Int32) (T : zT) : Option (Int32 × zT) := zb (lp_X4_passes_4 p0 2000 0 0 T) fun v7 T6 => some (v7.1, T6)
set_option maxHeartbeats 4000000 in
set_option maxRecDepth 100000 in
theorem l_X4_passes_4 {p : Program} {l : Launch} {e : Env} {s : State} {m : MethodId} {args : Array Value} {below : List Frame} {meth : Method} {c : Code} {Q : State → Prop} {D : va_G} {Y : Nat → ClassId} {S V : Nat → Nat} {G : Nat → Nat → Nat} {A : Nat → Prop} {c0 : Cond} {mc ms cells slots : Nat} (F : zF 1 5 mc ms p l s m args c cX4_passes 4 RX4 c0 D Y S V G A) (hcs : cells ≤ mc ∧ slots ≤ ms) (w1 : Int32) :
    ∀ (n : Nat) (u2 : Int32) (u3 : Int32) (T : zT) (o : (Int32 × Int32) × zT) (H : Heap) (locs : List Loc) (ls : Array Slot), lp_X4_passes_4 w1 n u2 u3 T = some o → zP 1 D Y G T H → va_S A s.heap H locs → lv_has ls 4 [(0, .ref (G 0 0)), (1, .int w1), (2, .int u2), (3, .int u3)] → (∀ (H : Heap) (locs : List Loc) (ls : Array Slot), zP 1 D Y G o.2 H → va_S A s.heap H locs → lv_has ls 4 [(0, .ref (G 0 0)), (1, .int w1), (2, .int o.1.1), (3, .int o.1.2)] → W p l e (zR 5 mc ms) s m args below meth c H locs cells slots Q (F0 m 22 ls [])) → W p l e (zR 5 mc ms) s m args below meth c H locs cells slots Q (F0 m 4 ls []) := by
  obtain ⟨hx, hb, hml, hown, hts, hl9, hG, hK, hA⟩ := id F
  intro n
  induction n with
  | zero =>
    intro u2 u3 T o H locs ls hf
    rw [lp_X4_passes_4] at hf
    cases hf
  | succ n ih =>
    intro u2 u3 T o H locs ls hf hP hS hl k0_
    rw [lp_X4_passes_4] at hf
    refine lv_iload_n hx hb dX4_passes_4 rfl (lv_at hl 3 rfl) ?_
    refine lv_iload_n hx hb dX4_passes_5 rfl (lv_at hl 1 rfl) ?_
    refine lv_icmp_ge (tgt := 22) hx hb dX4_passes_6 (by decide) (fun hc => ?_) (fun hc => ?_)
    · have hf := zif_p hf hc
      cases hf
      exact k0_ _ _ _ hP hS (lv_sub hl [0, 1, 2, 3] rfl)
    · have hf := zif_n hf hc
      refine lv_iload_n hx hb dX4_passes_9 rfl (lv_at hl 2 rfl) ?_
      refine lv_aload_n hx hb dX4_passes_10 rfl (lv_at hl 0 rfl) ?_
      obtain ⟨v2, T1, h3, hf⟩ := zb_i hf
      refine z_ok (z_runV (As := []) (rest := [.int u2]) F k_X4_passesDay m_1125 (c_X4_passesDay T T1 _ h3) hP hS (zV_m (by decide)) rfl rfl rfl rfl hl.1 (Nat.le_of_ble_eq_true rfl) dX4_passes_11 (Nat.le_of_ble_eq_true rfl) ⟨hcs.1, hcs.2⟩ rfl) hS (fun H locs hP hS => ?_)
      refine lv_iadd hx hb dX4_passes_14 ?_
      obtain ⟨x4, ex4, hf⟩ := zl_i hf
      refine z_topi ex4 ?_
      refine lv_istore_n (lv' := [(2, .int x4), (0, .ref (G 0 0)), (1, .int w1), (3, .int u3)]) hx hb dX4_passes_15 rfl hl (by decide) rfl (fun ls hl => ?_)
      obtain ⟨x5, ex5, hf⟩ := zl_i hf
      refine lv_iinc (v := x5) (lv' := [(3, .int x5), (2, .int x4), (0, .ref (G 0 0)), (1, .int w1)]) hx hb dX4_passes_16 hl (k := 3) rfl (by rw [ex5]; rfl) (by decide) rfl (fun ls hl => ?_)
      refine lv_goto (tgt := 4) hx hb dX4_passes_19 (by decide) ?_
      exact ih x4 x5 _ _ _ _ _ hf hP hS (lv_sub hl [2, 3, 1, 0] rfl) k0_
set_option maxHeartbeats 4000000 in
set_option maxRecDepth 100000 in
theorem c_X4_passes (p0 : Int32) (T T' : zT) (v : Int32) (hf : f_X4_passes p0 T = some (v, T')) : zC 1 yX4_passes cX4_passes 4 (some .int) 5  0 0  (fun G _ => [.ref (G 0 0), .int p0]) T (fun _ => .inl (some (.int v))) T' := by
  intro l D Y S V G A hl9 hG
  refine vx_ofW (cc := cX4_passes) (maxL := 4) (ret := (some .int)) (by decide) rfl ?_
  intro p e s m args below meth c s₁ B hml hex hv
  obtain ⟨rfl, hK, hP, hA⟩ := hv
  have hx := B.exec
  have hb := B.bytes
  have hr := B.returns
  have hlocks := B.notSynchronized
  have hown : s.vm.findClass RX4 = some m.cls := findClass_of_methodNamed B.named
  have hts := atoms_spec (ws := Cond.code yX4_passes cX4_passes 4 (some .int) :: zWS) B.pre
  have F : zF 1 5  0 0  p l s m _ c cX4_passes 4 RX4 (Cond.code yX4_passes cX4_passes 4 (some .int)) D Y S V G A := ⟨hx, hb, hml, hown, hts, hl9, hG, hK, hA⟩
  have hS : va_S A s.heap s.heap [] := va_S.rf
  have hl := lv_entry ([.ref (G 0 0), .int p0]) (n := 4) (Nat.le_of_ble_eq_true rfl)
  rw [lg_entry_eq]
  generalize (lg_sl ([.ref (G 0 0), .int p0]) ++ List.replicate (4 - (lg_sl ([.ref (G 0 0), .int p0])).length) Slot.unset).toArray = ls at hl ⊢
  have hl : lv_has ls 4 [(0, .ref (G 0 0)), (1, .int p0)] := hl
  unfold f_X4_passes at hf
  refine lv_iconst (v := 0) hx hb dX4_passes_0 (by decide) ?_
  refine lv_istore_n (lv' := [(2, .int 0), (0, .ref (G 0 0)), (1, .int p0)]) hx hb dX4_passes_1 rfl hl (by decide) rfl (fun ls hl => ?_)
  refine lv_iconst (v := 0) hx hb dX4_passes_2 (by decide) ?_
  refine lv_istore_n (lv' := [(3, .int 0), (2, .int 0), (0, .ref (G 0 0)), (1, .int p0)]) hx hb dX4_passes_3 rfl hl (by decide) rfl (fun ls hl => ?_)
  obtain ⟨v7, T6, h8, hf⟩ := zb_i hf
  refine l_X4_passes_4 F ⟨Nat.le_of_ble_eq_true rfl, Nat.le_of_ble_eq_true rfl⟩ p0 2000 0 0 _ _ _ _ _ h8 hP hS (lv_sub hl [2, 3, 1, 0] rfl) (fun H locs ls hP hS hl => ?_)
  refine lv_iload_n hx hb dX4_passes_22 rfl (lv_at hl 2 rfl) ?_
  obtain ⟨q1, q2⟩ := zs_i hf
  subst q1; subst q2
  exact z_iret hx hb hr rfl hP hS hlocks (Nat.le_of_ble_eq_true rfl) (Nat.le_of_ble_eq_true rfl) dX4_passes_23

def f_X4_isTooLate (p0 : Int32) (T : zT) : Option (Int32 × zT) := (if ((((T.2 2 0 0) * 360) + (T.2 2 0 1)) + p0) < 36000 then some (0, T) else some (1, T))
set_option maxHeartbeats 4000000 in
set_option maxRecDepth 100000 in
theorem c_X4_isTooLate (p0 : Int32) (T T' : zT) (v : Int32) (hf : f_X4_isTooLate p0 T = some (v, T')) : zC 1 yX4_isTooLate cX4_isTooLate 2 (some .boolean) 0  0 0  (fun G _ => [.ref (G 0 0), .int p0]) T (fun _ => .inl (some (.int v))) T' := by
  intro l D Y S V G A hl9 hG
  refine vx_ofW (cc := cX4_isTooLate) (maxL := 2) (ret := (some .boolean)) (by decide) rfl ?_
  intro p e s m args below meth c s₁ B hml hex hv
  obtain ⟨rfl, hK, hP, hA⟩ := hv
  have hx := B.exec
  have hb := B.bytes
  have hr := B.returns
  have hlocks := B.notSynchronized
  have hown : s.vm.findClass RX4 = some m.cls := findClass_of_methodNamed B.named
  have hts := atoms_spec (ws := Cond.code yX4_isTooLate cX4_isTooLate 2 (some .boolean) :: zWS) B.pre
  have F : zF 1 0  0 0  p l s m _ c cX4_isTooLate 2 RX4 (Cond.code yX4_isTooLate cX4_isTooLate 2 (some .boolean)) D Y S V G A := ⟨hx, hb, hml, hown, hts, hl9, hG, hK, hA⟩
  have hS : va_S A s.heap s.heap [] := va_S.rf
  have hl := lv_entry ([.ref (G 0 0), .int p0]) (n := 2) (Nat.le_of_ble_eq_true rfl)
  rw [lg_entry_eq]
  generalize (lg_sl ([.ref (G 0 0), .int p0]) ++ List.replicate (2 - (lg_sl ([.ref (G 0 0), .int p0])).length) Slot.unset).toArray = ls at hl ⊢
  have hl : lv_has ls 2 [(0, .ref (G 0 0)), (1, .int p0)] := hl
  unfold f_X4_isTooLate at hf
  refine lv_aload_n hx hb dX4_isTooLate_0 rfl (lv_at hl 0 rfl) ?_
  refine z_get hx hb hts (fun w h => List.mem_cons_of_mem _ (ziX4 w h)) hown hK hP (zV_m (by decide)) rfl rfl 2 (by decide) (List.mem_cons_of_mem _ m_1143) rfl rfl dX4_isTooLate_1 ?_
  refine lv_iconst (v := 0) hx hb dX4_isTooLate_4 (by decide) ?_
  refine z_iald_ (j := 0) hx hb hK hP (zIA_m (by decide) (by decide)) (by decide) (by decide) dX4_isTooLate_5 ?_
  refine lv_sipush (v := 360) hx hb dX4_isTooLate_6 (by decide) ?_
  refine lv_imul hx hb dX4_isTooLate_9 ?_
  refine lv_aload_n hx hb dX4_isTooLate_10 rfl (lv_at hl 0 rfl) ?_
  refine z_get hx hb hts (fun w h => List.mem_cons_of_mem _ (ziX4 w h)) hown hK hP (zV_m (by decide)) rfl rfl 2 (by decide) (List.mem_cons_of_mem _ m_1143) rfl rfl dX4_isTooLate_11 ?_
  refine lv_iconst (v := 1) hx hb dX4_isTooLate_14 (by decide) ?_
  refine z_iald_ (j := 1) hx hb hK hP (zIA_m (by decide) (by decide)) (by decide) (by decide) dX4_isTooLate_15 ?_
  refine lv_iadd hx hb dX4_isTooLate_16 ?_
  refine lv_iload_n hx hb dX4_isTooLate_17 rfl (lv_at hl 1 rfl) ?_
  refine lv_iadd hx hb dX4_isTooLate_18 ?_
  refine lv_ldc hx hb hown (hts _ (List.mem_cons_of_mem _ m_1326)) dX4_isTooLate_19 ?_
  refine lv_icmp_lt (tgt := 28) hx hb dX4_isTooLate_21 (by decide) (fun hc => ?_) (fun hc => ?_)
  · have hf := zif_p hf hc
    refine lv_iconst (v := 0) hx hb dX4_isTooLate_28 (by decide) ?_
    obtain ⟨q1, q2⟩ := zs_i hf
    subst q1; subst q2
    exact z_zret hx hb hr (Or.inl rfl) rfl hP hS hlocks (Nat.le_of_ble_eq_true rfl) (Nat.le_of_ble_eq_true rfl) dX4_isTooLate_29
  · have hf := zif_n hf hc
    refine lv_iconst (v := 1) hx hb dX4_isTooLate_24 (by decide) ?_
    refine lv_goto (tgt := 29) hx hb dX4_isTooLate_25 (by decide) ?_
    obtain ⟨q1, q2⟩ := zs_i hf
    subst q1; subst q2
    exact z_zret hx hb hr (Or.inr rfl) rfl hP hS hlocks (Nat.le_of_ble_eq_true rfl) (Nat.le_of_ble_eq_true rfl) dX4_isTooLate_29

def lp_X4_remembers_54  : Nat → Int32 → zT → Option ((Int32) × zT)
  | 0, _, _ => none
  | n + 1, u1, T => (if 151 ≤ u1 then some (u1, T) else if zin u1 151 = true then if zin (((T.1 0 0 5) * 151) + u1) 1510 = true then zl (wA T 4 0 (upd (T.2 4 0) (((T.1 0 0 5) * 151) + u1).toNatClampNeg (T.2 2 0 u1.toNatClampNeg))) fun T3 => zl (u1 + 1) fun x4 => lp_X4_remembers_54 n x4 T3 else none else none)
def jn_X4_remembers_52  (T : zT) : Option (Unit × zT) := zb (lp_X4_remembers_54 2000 0 T) fun v6 T5 => zl ((T5.1 0 0 5) + 1) fun x8 => zl (wI T5 0 0 5 x8) fun T9 => some ((), T9)
def lp_X4_remembers_13  : Nat → Int32 → zT → Option ((Int32) × zT)
  | 0, _, _ => none
  | n + 1, u1, T => (if 1510 ≤ u1 then some (u1, T) else if zin u1 1510 = true then if zin (u1 - 151) 1510 = true then zl (wA T 4 0 (upd (T.2 4 0) (u1 - 151).toNatClampNeg (T.2 4 0 u1.toNatClampNeg))) fun T12 => zl (u1 + 1) fun x13 => lp_X4_remembers_13 n x13 T12 else none else none)
def f_X4_remembers  (T : zT) : Option (Unit × zT) := (if (T.1 0 0 5) = 10 then zb (lp_X4_remembers_13 2000 151 T) fun v15 T14 => zl ((T14.1 0 0 5) - 1) fun x17 => zl (wI T14 0 0 5 x17) fun T18 => jn_X4_remembers_52 T18 else jn_X4_remembers_52 T)
set_option maxHeartbeats 4000000 in
set_option maxRecDepth 100000 in
theorem l_X4_remembers_54 {p : Program} {l : Launch} {e : Env} {s : State} {m : MethodId} {args : Array Value} {below : List Frame} {meth : Method} {c : Code} {Q : State → Prop} {D : va_G} {Y : Nat → ClassId} {S V : Nat → Nat} {G : Nat → Nat → Nat} {A : Nat → Prop} {c0 : Cond} {mc ms cells slots : Nat} (F : zF 1 0 mc ms p l s m args c cX4_remembers 2 RX4 c0 D Y S V G A) (hcs : cells ≤ mc ∧ slots ≤ ms) :
    ∀ (n : Nat) (u1 : Int32) (T : zT) (o : (Int32) × zT) (H : Heap) (locs : List Loc) (ls : Array Slot), lp_X4_remembers_54 n u1 T = some o → zP 1 D Y G T H → va_S A s.heap H locs → lv_has ls 2 [(0, .ref (G 0 0)), (1, .int u1)] → (∀ (H : Heap) (locs : List Loc) (ls : Array Slot), zP 1 D Y G o.2 H → va_S A s.heap H locs → lv_has ls 2 [(0, .ref (G 0 0)), (1, .int o.1)] → W p l e (zR 0 mc ms) s m args below meth c H locs cells slots Q (F0 m 88 ls [])) → W p l e (zR 0 mc ms) s m args below meth c H locs cells slots Q (F0 m 54 ls []) := by
  obtain ⟨hx, hb, hml, hown, hts, hl9, hG, hK, hA⟩ := id F
  intro n
  induction n with
  | zero =>
    intro u1 T o H locs ls hf
    rw [lp_X4_remembers_54] at hf
    cases hf
  | succ n ih =>
    intro u1 T o H locs ls hf hP hS hl k0_
    rw [lp_X4_remembers_54] at hf
    refine lv_iload_n hx hb dX4_remembers_54 rfl (lv_at hl 1 rfl) ?_
    refine lv_sipush (v := 151) hx hb dX4_remembers_55 (by decide) ?_
    refine lv_icmp_ge (tgt := 88) hx hb dX4_remembers_58 (by decide) (fun hc => ?_) (fun hc => ?_)
    · have hf := zif_p hf hc
      cases hf
      exact k0_ _ _ _ hP hS (lv_sub hl [0, 1] rfl)
    · have hf := zif_n hf hc
      refine lv_aload_n hx hb dX4_remembers_61 rfl (lv_at hl 0 rfl) ?_
      refine z_get hx hb hts (fun w h => List.mem_cons_of_mem _ (ziX4 w h)) hown hK hP (zV_m (by decide)) rfl rfl 4 (by decide) (List.mem_cons_of_mem _ m_1145) rfl rfl dX4_remembers_62 ?_
      refine lv_aload_n hx hb dX4_remembers_65 rfl (lv_at hl 0 rfl) ?_
      refine z_get hx hb hts (fun w h => List.mem_cons_of_mem _ (ziX4 w h)) hown hK hP (zV_m (by decide)) rfl rfl 5 (by decide) (List.mem_cons_of_mem _ m_1146) rfl rfl dX4_remembers_66 ?_
      refine lv_sipush (v := 151) hx hb dX4_remembers_69 (by decide) ?_
      refine lv_imul hx hb dX4_remembers_72 ?_
      refine lv_iload_n hx hb dX4_remembers_73 rfl (lv_at hl 1 rfl) ?_
      refine lv_iadd hx hb dX4_remembers_74 ?_
      refine lv_aload_n hx hb dX4_remembers_75 rfl (lv_at hl 0 rfl) ?_
      refine z_get hx hb hts (fun w h => List.mem_cons_of_mem _ (ziX4 w h)) hown hK hP (zV_m (by decide)) rfl rfl 2 (by decide) (List.mem_cons_of_mem _ m_1143) rfl rfl dX4_remembers_76 ?_
      refine lv_iload_n hx hb dX4_remembers_79 rfl (lv_at hl 1 rfl) ?_
      obtain ⟨h1, hf⟩ := zif_c hf
      refine z_iald hx hb hK hP (zIA_m (by decide) (by decide)) (zin_i h1) dX4_remembers_80 ?_
      obtain ⟨h2, hf⟩ := zif_c hf
      obtain ⟨T3, eT3, hf⟩ := zl_i hf
      refine z_iast hx hb hK hP hG hS (zIA_m (by decide) (by decide)) (zin_i h2) dX4_remembers_81 (fun H locs hP hS => ?_)
      rw [← eT3] at hP
      obtain ⟨x4, ex4, hf⟩ := zl_i hf
      refine lv_iinc (v := x4) (lv' := [(1, .int x4), (0, .ref (G 0 0))]) hx hb dX4_remembers_82 hl (k := 1) rfl (by rw [ex4]; rfl) (by decide) rfl (fun ls hl => ?_)
      refine lv_goto (tgt := 54) hx hb dX4_remembers_85 (by decide) ?_
      exact ih x4 _ _ _ _ _ hf hP hS (lv_sub hl [1, 0] rfl) k0_
set_option maxHeartbeats 4000000 in
set_option maxRecDepth 100000 in
theorem j_X4_remembers_52 {p : Program} {l : Launch} {e : Env} {s : State} {m : MethodId} {args : Array Value} {below : List Frame} {meth : Method} {c : Code} {D : va_G} {Y : Nat → ClassId} {S V : Nat → Nat} {G : Nat → Nat → Nat} {A : Nat → Prop} {c0 : Cond} (F : zF 1 0  0 0  p l s m args c cX4_remembers 2 RX4 c0 D Y S V G A) (hr : meth.sig.returnType = none) (hlocks : meth.locks = false) (hex : ∀ x ∈ c.exceptionTable.toList, False) (T : zT) {T' : zT} {v : Unit} {H : Heap} {locs : List Loc} {ls : Array Slot} (hf : jn_X4_remembers_52 T = some (v, T')) (hP : zP 1 D Y G T H) (hS : va_S A s.heap H locs) (hl : lv_has ls 2 [(0, .ref (G 0 0))]) :
    W p l e (zR 0  0 0 ) s m args below meth c H locs 0 0 (vx_MQ below (zQ 1 D Y G A (.inl none) T') (zX 1 D Y G A (.inl none) T') args s  0 0  A) (F0 m 52 ls []) := by
  obtain ⟨hx, hb, hml, hown, hts, hl9, hG, hK, hA⟩ := id F
  unfold jn_X4_remembers_52 at hf
  refine lv_iconst (v := 0) hx hb dX4_remembers_52 (by decide) ?_
  refine lv_istore_n (lv' := [(1, .int 0), (0, .ref (G 0 0))]) hx hb dX4_remembers_53 rfl hl (by decide) rfl (fun ls hl => ?_)
  obtain ⟨v6, T5, h7, hf⟩ := zb_i hf
  refine l_X4_remembers_54 F ⟨Nat.le_of_ble_eq_true rfl, Nat.le_of_ble_eq_true rfl⟩  2000 0 _ _ _ _ _ h7 hP hS (lv_sub hl [1, 0] rfl) (fun H locs ls hP hS hl => ?_)
  refine lv_aload_n hx hb dX4_remembers_88 rfl (lv_at hl 0 rfl) ?_
  refine lv_dup hx hb dX4_remembers_89 rfl ?_
  refine z_get hx hb hts (fun w h => List.mem_cons_of_mem _ (ziX4 w h)) hown hK hP (zV_m (by decide)) rfl rfl 5 (by decide) (List.mem_cons_of_mem _ m_1146) rfl rfl dX4_remembers_90 ?_
  refine lv_iconst (v := 1) hx hb dX4_remembers_93 (by decide) ?_
  refine lv_iadd hx hb dX4_remembers_94 ?_
  obtain ⟨x8, ex8, hf⟩ := zl_i hf
  refine z_topi ex8 ?_
  obtain ⟨T9, eT9, hf⟩ := zl_i hf
  refine z_put hx hb hts (fun w h => List.mem_cons_of_mem _ (ziX4 w h)) tyX4 tyX4_ok nmX4 hown hK hP hG hS (zV_m (by decide)) rfl rfl 5 (by decide) (List.mem_cons_of_mem _ m_1146) rfl rfl (by decide +kernel) (Nat.le_of_ble_eq_true rfl) rfl dX4_remembers_95 (fun H locs hP hS => ?_)
  rw [← eT9] at hP
  obtain ⟨q1, q2⟩ := zs_i hf
  subst q1; subst q2
  exact z_vret hx hb hr rfl hP hS hlocks (Nat.le_of_ble_eq_true rfl) (Nat.le_of_ble_eq_true rfl) dX4_remembers_98
set_option maxHeartbeats 4000000 in
set_option maxRecDepth 100000 in
theorem l_X4_remembers_13 {p : Program} {l : Launch} {e : Env} {s : State} {m : MethodId} {args : Array Value} {below : List Frame} {meth : Method} {c : Code} {Q : State → Prop} {D : va_G} {Y : Nat → ClassId} {S V : Nat → Nat} {G : Nat → Nat → Nat} {A : Nat → Prop} {c0 : Cond} {mc ms cells slots : Nat} (F : zF 1 0 mc ms p l s m args c cX4_remembers 2 RX4 c0 D Y S V G A) (hcs : cells ≤ mc ∧ slots ≤ ms) :
    ∀ (n : Nat) (u1 : Int32) (T : zT) (o : (Int32) × zT) (H : Heap) (locs : List Loc) (ls : Array Slot), lp_X4_remembers_13 n u1 T = some o → zP 1 D Y G T H → va_S A s.heap H locs → lv_has ls 2 [(0, .ref (G 0 0)), (1, .int u1)] → (∀ (H : Heap) (locs : List Loc) (ls : Array Slot), zP 1 D Y G o.2 H → va_S A s.heap H locs → lv_has ls 2 [(0, .ref (G 0 0)), (1, .int o.1)] → W p l e (zR 0 mc ms) s m args below meth c H locs cells slots Q (F0 m 42 ls [])) → W p l e (zR 0 mc ms) s m args below meth c H locs cells slots Q (F0 m 13 ls []) := by
  obtain ⟨hx, hb, hml, hown, hts, hl9, hG, hK, hA⟩ := id F
  intro n
  induction n with
  | zero =>
    intro u1 T o H locs ls hf
    rw [lp_X4_remembers_13] at hf
    cases hf
  | succ n ih =>
    intro u1 T o H locs ls hf hP hS hl k0_
    rw [lp_X4_remembers_13] at hf
    refine lv_iload_n hx hb dX4_remembers_13 rfl (lv_at hl 1 rfl) ?_
    refine lv_sipush (v := 1510) hx hb dX4_remembers_14 (by decide) ?_
    refine lv_icmp_ge (tgt := 42) hx hb dX4_remembers_17 (by decide) (fun hc => ?_) (fun hc => ?_)
    · have hf := zif_p hf hc
      cases hf
      exact k0_ _ _ _ hP hS (lv_sub hl [0, 1] rfl)
    · have hf := zif_n hf hc
      refine lv_aload_n hx hb dX4_remembers_20 rfl (lv_at hl 0 rfl) ?_
      refine z_get hx hb hts (fun w h => List.mem_cons_of_mem _ (ziX4 w h)) hown hK hP (zV_m (by decide)) rfl rfl 4 (by decide) (List.mem_cons_of_mem _ m_1145) rfl rfl dX4_remembers_21 ?_
      refine lv_iload_n hx hb dX4_remembers_24 rfl (lv_at hl 1 rfl) ?_
      refine lv_sipush (v := 151) hx hb dX4_remembers_25 (by decide) ?_
      refine lv_isub hx hb dX4_remembers_28 ?_
      refine lv_aload_n hx hb dX4_remembers_29 rfl (lv_at hl 0 rfl) ?_
      refine z_get hx hb hts (fun w h => List.mem_cons_of_mem _ (ziX4 w h)) hown hK hP (zV_m (by decide)) rfl rfl 4 (by decide) (List.mem_cons_of_mem _ m_1145) rfl rfl dX4_remembers_30 ?_
      refine lv_iload_n hx hb dX4_remembers_33 rfl (lv_at hl 1 rfl) ?_
      obtain ⟨h10, hf⟩ := zif_c hf
      refine z_iald hx hb hK hP (zIA_m (by decide) (by decide)) (zin_i h10) dX4_remembers_34 ?_
      obtain ⟨h11, hf⟩ := zif_c hf
      obtain ⟨T12, eT12, hf⟩ := zl_i hf
      refine z_iast hx hb hK hP hG hS (zIA_m (by decide) (by decide)) (zin_i h11) dX4_remembers_35 (fun H locs hP hS => ?_)
      rw [← eT12] at hP
      obtain ⟨x13, ex13, hf⟩ := zl_i hf
      refine lv_iinc (v := x13) (lv' := [(1, .int x13), (0, .ref (G 0 0))]) hx hb dX4_remembers_36 hl (k := 1) rfl (by rw [ex13]; rfl) (by decide) rfl (fun ls hl => ?_)
      refine lv_goto (tgt := 13) hx hb dX4_remembers_39 (by decide) ?_
      exact ih x13 _ _ _ _ _ hf hP hS (lv_sub hl [1, 0] rfl) k0_
set_option maxHeartbeats 4000000 in
set_option maxRecDepth 100000 in
theorem c_X4_remembers  (T T' : zT) (v : Unit) (hf : f_X4_remembers  T = some (v, T')) : zC 1 yX4_remembers cX4_remembers 2 none 0  0 0  (fun G _ => [.ref (G 0 0)]) T (fun _ => .inl none) T' := by
  intro l D Y S V G A hl9 hG
  refine vx_ofW (cc := cX4_remembers) (maxL := 2) (ret := none) (by decide) rfl ?_
  intro p e s m args below meth c s₁ B hml hex hv
  obtain ⟨rfl, hK, hP, hA⟩ := hv
  have hx := B.exec
  have hb := B.bytes
  have hr := B.returns
  have hlocks := B.notSynchronized
  have hown : s.vm.findClass RX4 = some m.cls := findClass_of_methodNamed B.named
  have hts := atoms_spec (ws := Cond.code yX4_remembers cX4_remembers 2 none :: zWS) B.pre
  have F : zF 1 0  0 0  p l s m _ c cX4_remembers 2 RX4 (Cond.code yX4_remembers cX4_remembers 2 none) D Y S V G A := ⟨hx, hb, hml, hown, hts, hl9, hG, hK, hA⟩
  have hS : va_S A s.heap s.heap [] := va_S.rf
  have hl := lv_entry ([.ref (G 0 0)]) (n := 2) (Nat.le_of_ble_eq_true rfl)
  rw [lg_entry_eq]
  generalize (lg_sl ([.ref (G 0 0)]) ++ List.replicate (2 - (lg_sl ([.ref (G 0 0)])).length) Slot.unset).toArray = ls at hl ⊢
  have hl : lv_has ls 2 [(0, .ref (G 0 0))] := hl
  unfold f_X4_remembers at hf
  refine lv_aload_n hx hb dX4_remembers_0 rfl (lv_at hl 0 rfl) ?_
  refine z_get hx hb hts (fun w h => List.mem_cons_of_mem _ (ziX4 w h)) hown hK hP (zV_m (by decide)) rfl rfl 5 (by decide) (List.mem_cons_of_mem _ m_1146) rfl rfl dX4_remembers_1 ?_
  refine lv_bipush (v := 10) hx hb dX4_remembers_4 (by decide) ?_
  refine lv_icmp_ne (tgt := 52) hx hb dX4_remembers_6 (by decide) (fun hc => ?_) (fun hc => ?_)
  · have hf := zif_n hf hc
    exact j_X4_remembers_52 F hr hlocks hex T hf hP hS (lv_sub hl [0] rfl)
  · have hf := zif_p hf hc
    refine lv_sipush (v := 151) hx hb dX4_remembers_9 (by decide) ?_
    refine lv_istore_n (lv' := [(1, .int 151), (0, .ref (G 0 0))]) hx hb dX4_remembers_12 rfl hl (by decide) rfl (fun ls hl => ?_)
    obtain ⟨v15, T14, h16, hf⟩ := zb_i hf
    refine l_X4_remembers_13 F ⟨Nat.le_of_ble_eq_true rfl, Nat.le_of_ble_eq_true rfl⟩  2000 151 _ _ _ _ _ h16 hP hS (lv_sub hl [1, 0] rfl) (fun H locs ls hP hS hl => ?_)
    refine lv_aload_n hx hb dX4_remembers_42 rfl (lv_at hl 0 rfl) ?_
    refine lv_dup hx hb dX4_remembers_43 rfl ?_
    refine z_get hx hb hts (fun w h => List.mem_cons_of_mem _ (ziX4 w h)) hown hK hP (zV_m (by decide)) rfl rfl 5 (by decide) (List.mem_cons_of_mem _ m_1146) rfl rfl dX4_remembers_44 ?_
    refine lv_iconst (v := 1) hx hb dX4_remembers_47 (by decide) ?_
    refine lv_isub hx hb dX4_remembers_48 ?_
    obtain ⟨x17, ex17, hf⟩ := zl_i hf
    refine z_topi ex17 ?_
    obtain ⟨T18, eT18, hf⟩ := zl_i hf
    refine z_put hx hb hts (fun w h => List.mem_cons_of_mem _ (ziX4 w h)) tyX4 tyX4_ok nmX4 hown hK hP hG hS (zV_m (by decide)) rfl rfl 5 (by decide) (List.mem_cons_of_mem _ m_1146) rfl rfl (by decide +kernel) (Nat.le_of_ble_eq_true rfl) rfl dX4_remembers_49 (fun H locs hP hS => ?_)
    rw [← eT18] at hP
    exact j_X4_remembers_52 F hr hlocks hex T18 hf hP hS (lv_sub hl [0] rfl)

def lp_X4_putsAside_2  : Nat → Int32 → zT → Option ((Int32) × zT)
  | 0, _, _ => none
  | n + 1, u1, T => (if 151 ≤ u1 then some (u1, T) else if zin u1 151 = true then if zin u1 151 = true then zl (wA T 3 0 (upd (T.2 3 0) u1.toNatClampNeg (T.2 2 0 u1.toNatClampNeg))) fun T3 => zl (u1 + 1) fun x4 => lp_X4_putsAside_2 n x4 T3 else none else none)
def f_X4_putsAside  (T : zT) : Option (Unit × zT) := zb (lp_X4_putsAside_2 2000 0 T) fun v6 T5 => some ((), T5)
set_option maxHeartbeats 4000000 in
set_option maxRecDepth 100000 in
theorem l_X4_putsAside_2 {p : Program} {l : Launch} {e : Env} {s : State} {m : MethodId} {args : Array Value} {below : List Frame} {meth : Method} {c : Code} {Q : State → Prop} {D : va_G} {Y : Nat → ClassId} {S V : Nat → Nat} {G : Nat → Nat → Nat} {A : Nat → Prop} {c0 : Cond} {mc ms cells slots : Nat} (F : zF 1 0 mc ms p l s m args c cX4_putsAside 2 RX4 c0 D Y S V G A) (hcs : cells ≤ mc ∧ slots ≤ ms) :
    ∀ (n : Nat) (u1 : Int32) (T : zT) (o : (Int32) × zT) (H : Heap) (locs : List Loc) (ls : Array Slot), lp_X4_putsAside_2 n u1 T = some o → zP 1 D Y G T H → va_S A s.heap H locs → lv_has ls 2 [(0, .ref (G 0 0)), (1, .int u1)] → (∀ (H : Heap) (locs : List Loc) (ls : Array Slot), zP 1 D Y G o.2 H → va_S A s.heap H locs → lv_has ls 2 [(0, .ref (G 0 0)), (1, .int o.1)] → W p l e (zR 0 mc ms) s m args below meth c H locs cells slots Q (F0 m 27 ls [])) → W p l e (zR 0 mc ms) s m args below meth c H locs cells slots Q (F0 m 2 ls []) := by
  obtain ⟨hx, hb, hml, hown, hts, hl9, hG, hK, hA⟩ := id F
  intro n
  induction n with
  | zero =>
    intro u1 T o H locs ls hf
    rw [lp_X4_putsAside_2] at hf
    cases hf
  | succ n ih =>
    intro u1 T o H locs ls hf hP hS hl k0_
    rw [lp_X4_putsAside_2] at hf
    refine lv_iload_n hx hb dX4_putsAside_2 rfl (lv_at hl 1 rfl) ?_
    refine lv_sipush (v := 151) hx hb dX4_putsAside_3 (by decide) ?_
    refine lv_icmp_ge (tgt := 27) hx hb dX4_putsAside_6 (by decide) (fun hc => ?_) (fun hc => ?_)
    · have hf := zif_p hf hc
      cases hf
      exact k0_ _ _ _ hP hS (lv_sub hl [0, 1] rfl)
    · have hf := zif_n hf hc
      refine lv_aload_n hx hb dX4_putsAside_9 rfl (lv_at hl 0 rfl) ?_
      refine z_get hx hb hts (fun w h => List.mem_cons_of_mem _ (ziX4 w h)) hown hK hP (zV_m (by decide)) rfl rfl 3 (by decide) (List.mem_cons_of_mem _ m_1144) rfl rfl dX4_putsAside_10 ?_
      refine lv_iload_n hx hb dX4_putsAside_13 rfl (lv_at hl 1 rfl) ?_
      refine lv_aload_n hx hb dX4_putsAside_14 rfl (lv_at hl 0 rfl) ?_
      refine z_get hx hb hts (fun w h => List.mem_cons_of_mem _ (ziX4 w h)) hown hK hP (zV_m (by decide)) rfl rfl 2 (by decide) (List.mem_cons_of_mem _ m_1143) rfl rfl dX4_putsAside_15 ?_
      refine lv_iload_n hx hb dX4_putsAside_18 rfl (lv_at hl 1 rfl) ?_
      obtain ⟨h1, hf⟩ := zif_c hf
      refine z_iald hx hb hK hP (zIA_m (by decide) (by decide)) (zin_i h1) dX4_putsAside_19 ?_
      obtain ⟨h2, hf⟩ := zif_c hf
      obtain ⟨T3, eT3, hf⟩ := zl_i hf
      refine z_iast hx hb hK hP hG hS (zIA_m (by decide) (by decide)) (zin_i h2) dX4_putsAside_20 (fun H locs hP hS => ?_)
      rw [← eT3] at hP
      obtain ⟨x4, ex4, hf⟩ := zl_i hf
      refine lv_iinc (v := x4) (lv' := [(1, .int x4), (0, .ref (G 0 0))]) hx hb dX4_putsAside_21 hl (k := 1) rfl (by rw [ex4]; rfl) (by decide) rfl (fun ls hl => ?_)
      refine lv_goto (tgt := 2) hx hb dX4_putsAside_24 (by decide) ?_
      exact ih x4 _ _ _ _ _ hf hP hS (lv_sub hl [1, 0] rfl) k0_
set_option maxHeartbeats 4000000 in
set_option maxRecDepth 100000 in
theorem c_X4_putsAside  (T T' : zT) (v : Unit) (hf : f_X4_putsAside  T = some (v, T')) : zC 1 yX4_putsAside cX4_putsAside 2 none 0  0 0  (fun G _ => [.ref (G 0 0)]) T (fun _ => .inl none) T' := by
  intro l D Y S V G A hl9 hG
  refine vx_ofW (cc := cX4_putsAside) (maxL := 2) (ret := none) (by decide) rfl ?_
  intro p e s m args below meth c s₁ B hml hex hv
  obtain ⟨rfl, hK, hP, hA⟩ := hv
  have hx := B.exec
  have hb := B.bytes
  have hr := B.returns
  have hlocks := B.notSynchronized
  have hown : s.vm.findClass RX4 = some m.cls := findClass_of_methodNamed B.named
  have hts := atoms_spec (ws := Cond.code yX4_putsAside cX4_putsAside 2 none :: zWS) B.pre
  have F : zF 1 0  0 0  p l s m _ c cX4_putsAside 2 RX4 (Cond.code yX4_putsAside cX4_putsAside 2 none) D Y S V G A := ⟨hx, hb, hml, hown, hts, hl9, hG, hK, hA⟩
  have hS : va_S A s.heap s.heap [] := va_S.rf
  have hl := lv_entry ([.ref (G 0 0)]) (n := 2) (Nat.le_of_ble_eq_true rfl)
  rw [lg_entry_eq]
  generalize (lg_sl ([.ref (G 0 0)]) ++ List.replicate (2 - (lg_sl ([.ref (G 0 0)])).length) Slot.unset).toArray = ls at hl ⊢
  have hl : lv_has ls 2 [(0, .ref (G 0 0))] := hl
  unfold f_X4_putsAside at hf
  refine lv_iconst (v := 0) hx hb dX4_putsAside_0 (by decide) ?_
  refine lv_istore_n (lv' := [(1, .int 0), (0, .ref (G 0 0))]) hx hb dX4_putsAside_1 rfl hl (by decide) rfl (fun ls hl => ?_)
  obtain ⟨v6, T5, h7, hf⟩ := zb_i hf
  refine l_X4_putsAside_2 F ⟨Nat.le_of_ble_eq_true rfl, Nat.le_of_ble_eq_true rfl⟩  2000 0 _ _ _ _ _ h7 hP hS (lv_sub hl [1, 0] rfl) (fun H locs ls hP hS hl => ?_)
  obtain ⟨q1, q2⟩ := zs_i hf
  subst q1; subst q2
  exact z_vret hx hb hr rfl hP hS hlocks (Nat.le_of_ble_eq_true rfl) (Nat.le_of_ble_eq_true rfl) dX4_putsAside_27

def lp_X4_putsBack_2  : Nat → Int32 → zT → Option ((Int32) × zT)
  | 0, _, _ => none
  | n + 1, u1, T => (if 151 ≤ u1 then some (u1, T) else if zin u1 151 = true then if zin u1 151 = true then zl (wA T 2 0 (upd (T.2 2 0) u1.toNatClampNeg (T.2 3 0 u1.toNatClampNeg))) fun T3 => zl (u1 + 1) fun x4 => lp_X4_putsBack_2 n x4 T3 else none else none)
def f_X4_putsBack  (T : zT) : Option (Unit × zT) := zb (lp_X4_putsBack_2 2000 0 T) fun v6 T5 => some ((), T5)
set_option maxHeartbeats 4000000 in
set_option maxRecDepth 100000 in
theorem l_X4_putsBack_2 {p : Program} {l : Launch} {e : Env} {s : State} {m : MethodId} {args : Array Value} {below : List Frame} {meth : Method} {c : Code} {Q : State → Prop} {D : va_G} {Y : Nat → ClassId} {S V : Nat → Nat} {G : Nat → Nat → Nat} {A : Nat → Prop} {c0 : Cond} {mc ms cells slots : Nat} (F : zF 1 0 mc ms p l s m args c cX4_putsBack 2 RX4 c0 D Y S V G A) (hcs : cells ≤ mc ∧ slots ≤ ms) :
    ∀ (n : Nat) (u1 : Int32) (T : zT) (o : (Int32) × zT) (H : Heap) (locs : List Loc) (ls : Array Slot), lp_X4_putsBack_2 n u1 T = some o → zP 1 D Y G T H → va_S A s.heap H locs → lv_has ls 2 [(0, .ref (G 0 0)), (1, .int u1)] → (∀ (H : Heap) (locs : List Loc) (ls : Array Slot), zP 1 D Y G o.2 H → va_S A s.heap H locs → lv_has ls 2 [(0, .ref (G 0 0)), (1, .int o.1)] → W p l e (zR 0 mc ms) s m args below meth c H locs cells slots Q (F0 m 27 ls [])) → W p l e (zR 0 mc ms) s m args below meth c H locs cells slots Q (F0 m 2 ls []) := by
  obtain ⟨hx, hb, hml, hown, hts, hl9, hG, hK, hA⟩ := id F
  intro n
  induction n with
  | zero =>
    intro u1 T o H locs ls hf
    rw [lp_X4_putsBack_2] at hf
    cases hf
  | succ n ih =>
    intro u1 T o H locs ls hf hP hS hl k0_
    rw [lp_X4_putsBack_2] at hf
    refine lv_iload_n hx hb dX4_putsBack_2 rfl (lv_at hl 1 rfl) ?_
    refine lv_sipush (v := 151) hx hb dX4_putsBack_3 (by decide) ?_
    refine lv_icmp_ge (tgt := 27) hx hb dX4_putsBack_6 (by decide) (fun hc => ?_) (fun hc => ?_)
    · have hf := zif_p hf hc
      cases hf
      exact k0_ _ _ _ hP hS (lv_sub hl [0, 1] rfl)
    · have hf := zif_n hf hc
      refine lv_aload_n hx hb dX4_putsBack_9 rfl (lv_at hl 0 rfl) ?_
      refine z_get hx hb hts (fun w h => List.mem_cons_of_mem _ (ziX4 w h)) hown hK hP (zV_m (by decide)) rfl rfl 2 (by decide) (List.mem_cons_of_mem _ m_1143) rfl rfl dX4_putsBack_10 ?_
      refine lv_iload_n hx hb dX4_putsBack_13 rfl (lv_at hl 1 rfl) ?_
      refine lv_aload_n hx hb dX4_putsBack_14 rfl (lv_at hl 0 rfl) ?_
      refine z_get hx hb hts (fun w h => List.mem_cons_of_mem _ (ziX4 w h)) hown hK hP (zV_m (by decide)) rfl rfl 3 (by decide) (List.mem_cons_of_mem _ m_1144) rfl rfl dX4_putsBack_15 ?_
      refine lv_iload_n hx hb dX4_putsBack_18 rfl (lv_at hl 1 rfl) ?_
      obtain ⟨h1, hf⟩ := zif_c hf
      refine z_iald hx hb hK hP (zIA_m (by decide) (by decide)) (zin_i h1) dX4_putsBack_19 ?_
      obtain ⟨h2, hf⟩ := zif_c hf
      obtain ⟨T3, eT3, hf⟩ := zl_i hf
      refine z_iast hx hb hK hP hG hS (zIA_m (by decide) (by decide)) (zin_i h2) dX4_putsBack_20 (fun H locs hP hS => ?_)
      rw [← eT3] at hP
      obtain ⟨x4, ex4, hf⟩ := zl_i hf
      refine lv_iinc (v := x4) (lv' := [(1, .int x4), (0, .ref (G 0 0))]) hx hb dX4_putsBack_21 hl (k := 1) rfl (by rw [ex4]; rfl) (by decide) rfl (fun ls hl => ?_)
      refine lv_goto (tgt := 2) hx hb dX4_putsBack_24 (by decide) ?_
      exact ih x4 _ _ _ _ _ hf hP hS (lv_sub hl [1, 0] rfl) k0_
set_option maxHeartbeats 4000000 in
set_option maxRecDepth 100000 in
theorem c_X4_putsBack  (T T' : zT) (v : Unit) (hf : f_X4_putsBack  T = some (v, T')) : zC 1 yX4_putsBack cX4_putsBack 2 none 0  0 0  (fun G _ => [.ref (G 0 0)]) T (fun _ => .inl none) T' := by
  intro l D Y S V G A hl9 hG
  refine vx_ofW (cc := cX4_putsBack) (maxL := 2) (ret := none) (by decide) rfl ?_
  intro p e s m args below meth c s₁ B hml hex hv
  obtain ⟨rfl, hK, hP, hA⟩ := hv
  have hx := B.exec
  have hb := B.bytes
  have hr := B.returns
  have hlocks := B.notSynchronized
  have hown : s.vm.findClass RX4 = some m.cls := findClass_of_methodNamed B.named
  have hts := atoms_spec (ws := Cond.code yX4_putsBack cX4_putsBack 2 none :: zWS) B.pre
  have F : zF 1 0  0 0  p l s m _ c cX4_putsBack 2 RX4 (Cond.code yX4_putsBack cX4_putsBack 2 none) D Y S V G A := ⟨hx, hb, hml, hown, hts, hl9, hG, hK, hA⟩
  have hS : va_S A s.heap s.heap [] := va_S.rf
  have hl := lv_entry ([.ref (G 0 0)]) (n := 2) (Nat.le_of_ble_eq_true rfl)
  rw [lg_entry_eq]
  generalize (lg_sl ([.ref (G 0 0)]) ++ List.replicate (2 - (lg_sl ([.ref (G 0 0)])).length) Slot.unset).toArray = ls at hl ⊢
  have hl : lv_has ls 2 [(0, .ref (G 0 0))] := hl
  unfold f_X4_putsBack at hf
  refine lv_iconst (v := 0) hx hb dX4_putsBack_0 (by decide) ?_
  refine lv_istore_n (lv' := [(1, .int 0), (0, .ref (G 0 0))]) hx hb dX4_putsBack_1 rfl hl (by decide) rfl (fun ls hl => ?_)
  obtain ⟨v6, T5, h7, hf⟩ := zb_i hf
  refine l_X4_putsBack_2 F ⟨Nat.le_of_ble_eq_true rfl, Nat.le_of_ble_eq_true rfl⟩  2000 0 _ _ _ _ _ h7 hP hS (lv_sub hl [1, 0] rfl) (fun H locs ls hP hS hl => ?_)
  obtain ⟨q1, q2⟩ := zs_i hf
  subst q1; subst q2
  exact z_vret hx hb hr rfl hP hS hlocks (Nat.le_of_ble_eq_true rfl) (Nat.le_of_ble_eq_true rfl) dX4_putsBack_27

def f_X4_isLetter (p0 : Int32) (T : zT) : Option (Int32 × zT) := (if p0 < 97 then some (0, T) else (if 122 < p0 then some (0, T) else some (1, T)))
set_option maxHeartbeats 4000000 in
set_option maxRecDepth 100000 in
theorem c_X4_isLetter (p0 : Int32) (T T' : zT) (v : Int32) (hf : f_X4_isLetter p0 T = some (v, T')) : zC 1 yX4_isLetter cX4_isLetter 1 (some .boolean) 0  0 0  (fun _ _ => [.int p0]) T (fun _ => .inl (some (.int v))) T' := by
  intro l D Y S V G A hl9 hG
  refine vx_ofW (cc := cX4_isLetter) (maxL := 1) (ret := (some .boolean)) (by decide) rfl ?_
  intro p e s m args below meth c s₁ B hml hex hv
  obtain ⟨rfl, hK, hP, hA⟩ := hv
  have hx := B.exec
  have hb := B.bytes
  have hr := B.returns
  have hlocks := B.notSynchronized
  have hown : s.vm.findClass RX4 = some m.cls := findClass_of_methodNamed B.named
  have hts := atoms_spec (ws := Cond.code yX4_isLetter cX4_isLetter 1 (some .boolean) :: zWS) B.pre
  have F : zF 1 0  0 0  p l s m _ c cX4_isLetter 1 RX4 (Cond.code yX4_isLetter cX4_isLetter 1 (some .boolean)) D Y S V G A := ⟨hx, hb, hml, hown, hts, hl9, hG, hK, hA⟩
  have hS : va_S A s.heap s.heap [] := va_S.rf
  have hl := lv_entry ([.int p0]) (n := 1) (Nat.le_of_ble_eq_true rfl)
  rw [lg_entry_eq]
  generalize (lg_sl ([.int p0]) ++ List.replicate (1 - (lg_sl ([.int p0])).length) Slot.unset).toArray = ls at hl ⊢
  have hl : lv_has ls 1 [(0, .int p0)] := hl
  unfold f_X4_isLetter at hf
  refine lv_iload_n hx hb dX4_isLetter_0 rfl (lv_at hl 0 rfl) ?_
  refine lv_bipush (v := 97) hx hb dX4_isLetter_1 (by decide) ?_
  refine lv_icmp_lt (tgt := 16) hx hb dX4_isLetter_3 (by decide) (fun hc => ?_) (fun hc => ?_)
  · have hf := zif_p hf hc
    refine lv_iconst (v := 0) hx hb dX4_isLetter_16 (by decide) ?_
    obtain ⟨q1, q2⟩ := zs_i hf
    subst q1; subst q2
    exact z_zret hx hb hr (Or.inl rfl) rfl hP hS hlocks (Nat.le_of_ble_eq_true rfl) (Nat.le_of_ble_eq_true rfl) dX4_isLetter_17
  · have hf := zif_n hf hc
    refine lv_iload_n hx hb dX4_isLetter_6 rfl (lv_at hl 0 rfl) ?_
    refine lv_bipush (v := 122) hx hb dX4_isLetter_7 (by decide) ?_
    refine lv_icmp_gt (tgt := 16) hx hb dX4_isLetter_9 (by decide) (fun hc => ?_) (fun hc => ?_)
    · have hf := zif_p hf hc
      refine lv_iconst (v := 0) hx hb dX4_isLetter_16 (by decide) ?_
      obtain ⟨q1, q2⟩ := zs_i hf
      subst q1; subst q2
      exact z_zret hx hb hr (Or.inl rfl) rfl hP hS hlocks (Nat.le_of_ble_eq_true rfl) (Nat.le_of_ble_eq_true rfl) dX4_isLetter_17
    · have hf := zif_n hf hc
      refine lv_iconst (v := 1) hx hb dX4_isLetter_12 (by decide) ?_
      refine lv_goto (tgt := 17) hx hb dX4_isLetter_13 (by decide) ?_
      obtain ⟨q1, q2⟩ := zs_i hf
      subst q1; subst q2
      exact z_zret hx hb hr (Or.inr rfl) rfl hP hS hlocks (Nat.le_of_ble_eq_true rfl) (Nat.le_of_ble_eq_true rfl) dX4_isLetter_17

def f_X4_isDigit (p0 : Int32) (T : zT) : Option (Int32 × zT) := (if p0 < 48 then some (0, T) else (if 57 < p0 then some (0, T) else some (1, T)))
set_option maxHeartbeats 4000000 in
set_option maxRecDepth 100000 in
theorem c_X4_isDigit (p0 : Int32) (T T' : zT) (v : Int32) (hf : f_X4_isDigit p0 T = some (v, T')) : zC 1 yX4_isDigit cX4_isDigit 1 (some .boolean) 0  0 0  (fun _ _ => [.int p0]) T (fun _ => .inl (some (.int v))) T' := by
  intro l D Y S V G A hl9 hG
  refine vx_ofW (cc := cX4_isDigit) (maxL := 1) (ret := (some .boolean)) (by decide) rfl ?_
  intro p e s m args below meth c s₁ B hml hex hv
  obtain ⟨rfl, hK, hP, hA⟩ := hv
  have hx := B.exec
  have hb := B.bytes
  have hr := B.returns
  have hlocks := B.notSynchronized
  have hown : s.vm.findClass RX4 = some m.cls := findClass_of_methodNamed B.named
  have hts := atoms_spec (ws := Cond.code yX4_isDigit cX4_isDigit 1 (some .boolean) :: zWS) B.pre
  have F : zF 1 0  0 0  p l s m _ c cX4_isDigit 1 RX4 (Cond.code yX4_isDigit cX4_isDigit 1 (some .boolean)) D Y S V G A := ⟨hx, hb, hml, hown, hts, hl9, hG, hK, hA⟩
  have hS : va_S A s.heap s.heap [] := va_S.rf
  have hl := lv_entry ([.int p0]) (n := 1) (Nat.le_of_ble_eq_true rfl)
  rw [lg_entry_eq]
  generalize (lg_sl ([.int p0]) ++ List.replicate (1 - (lg_sl ([.int p0])).length) Slot.unset).toArray = ls at hl ⊢
  have hl : lv_has ls 1 [(0, .int p0)] := hl
  unfold f_X4_isDigit at hf
  refine lv_iload_n hx hb dX4_isDigit_0 rfl (lv_at hl 0 rfl) ?_
  refine lv_bipush (v := 48) hx hb dX4_isDigit_1 (by decide) ?_
  refine lv_icmp_lt (tgt := 16) hx hb dX4_isDigit_3 (by decide) (fun hc => ?_) (fun hc => ?_)
  · have hf := zif_p hf hc
    refine lv_iconst (v := 0) hx hb dX4_isDigit_16 (by decide) ?_
    obtain ⟨q1, q2⟩ := zs_i hf
    subst q1; subst q2
    exact z_zret hx hb hr (Or.inl rfl) rfl hP hS hlocks (Nat.le_of_ble_eq_true rfl) (Nat.le_of_ble_eq_true rfl) dX4_isDigit_17
  · have hf := zif_n hf hc
    refine lv_iload_n hx hb dX4_isDigit_6 rfl (lv_at hl 0 rfl) ?_
    refine lv_bipush (v := 57) hx hb dX4_isDigit_7 (by decide) ?_
    refine lv_icmp_gt (tgt := 16) hx hb dX4_isDigit_9 (by decide) (fun hc => ?_) (fun hc => ?_)
    · have hf := zif_p hf hc
      refine lv_iconst (v := 0) hx hb dX4_isDigit_16 (by decide) ?_
      obtain ⟨q1, q2⟩ := zs_i hf
      subst q1; subst q2
      exact z_zret hx hb hr (Or.inl rfl) rfl hP hS hlocks (Nat.le_of_ble_eq_true rfl) (Nat.le_of_ble_eq_true rfl) dX4_isDigit_17
    · have hf := zif_n hf hc
      refine lv_iconst (v := 1) hx hb dX4_isDigit_12 (by decide) ?_
      refine lv_goto (tgt := 17) hx hb dX4_isDigit_13 (by decide) ?_
      obtain ⟨q1, q2⟩ := zs_i hf
      subst q1; subst q2
      exact z_zret hx hb hr (Or.inr rfl) rfl hP hS hlocks (Nat.le_of_ble_eq_true rfl) (Nat.le_of_ble_eq_true rfl) dX4_isDigit_17

def lp_X4_next_30 (w1 : Int32) : Nat → zT → Option ((Unit) × zT)
  | 0, _ => none
  | n + 1, T => (if (T.1 0 0 17) ≤ (T.1 0 0 19) then some ((), T) else zl (T.1 0 0 19) fun x4 => if zin x4 600 = true then (if (T.2 7 0 x4.toNatClampNeg) = 32 then zl ((T.1 0 0 19) + 1) fun x5 => zl (wI T 0 0 19 x5) fun T6 => lp_X4_next_30 w1 n T6 else zl (T.1 0 0 19) fun x8 => if zin x8 600 = true then (if (T.2 7 0 x8.toNatClampNeg) = 10 then zl ((T.1 0 0 19) + 1) fun x9 => zl (wI T 0 0 19 x9) fun T10 => lp_X4_next_30 w1 n T10 else some ((), T)) else none) else none)
def lp_X4_next_220 (w2 : Int32) : Nat → zT → Option ((Unit) × zT)
  | 0, _ => none
  | n + 1, T => (if (T.1 0 0 17) ≤ (T.1 0 0 20) then some ((), T) else zl (T.1 0 0 20) fun x34 => if zin x34 600 = true then zb (f_X4_isDigit (T.2 7 0 x34.toNatClampNeg) T) fun v36 T35 => (if v36 = 0 then some ((), T35) else (if 4 ≤ ((T35.1 0 0 20) - (T35.1 0 0 19)) then zl ((T35.1 0 0 20) + 1) fun x38 => zl (wI T35 0 0 20 x38) fun T39 => lp_X4_next_220 w2 n T39 else zl (T35.1 0 0 20) fun x41 => if zin x41 600 = true then zl (((10 * (T35.1 0 0 21)) + (T35.2 7 0 x41.toNatClampNeg)) - 48) fun x42 => zl (wI T35 0 0 21 x42) fun T43 => zl ((T43.1 0 0 20) + 1) fun x44 => zl (wI T43 0 0 20 x44) fun T45 => lp_X4_next_220 w2 n T45 else none)) else none)
def jn_X4_next_296 (w2 : Int32) (T : zT) : Option (Unit × zT) := (if w2 = 0 then (if ((T.1 0 0 20) - (T.1 0 0 19)) ≤ 4 then zl (wI T 0 0 18 2) fun T50 => some ((), T50) else zl (wI T 0 0 18 4) fun T51 => some ((), T51)) else zl (wI T 0 0 18 4) fun T49 => some ((), T49))
def lp_X4_next_145 (w2 : Int32) : Nat → zT → Option ((Unit) × zT)
  | 0, _ => none
  | n + 1, T => (if (T.1 0 0 17) ≤ (T.1 0 0 20) then some ((), T) else zl (T.1 0 0 20) fun x53 => if zin x53 600 = true then zb (f_X4_isLetter (T.2 7 0 x53.toNatClampNeg) T) fun v55 T54 => (if v55 = 0 then some ((), T54) else zl ((T54.1 0 0 20) + 1) fun x57 => zl (wI T54 0 0 20 x57) fun T58 => lp_X4_next_145 w2 n T58) else none)
def jn_X4_next_102 (z0 : Int32) (T : zT) : Option (Unit × zT) := zl (T.1 0 0 19) fun x14 => zl (wI T 0 0 20 x14) fun T15 => (if (T15.1 0 0 19) = (T15.1 0 0 17) then zl (wI T15 0 0 18 0) fun T64 => some ((), T64) else zl (T15.1 0 0 19) fun x17 => if zin x17 600 = true then zb (f_X4_isLetter (T15.2 7 0 x17.toNatClampNeg) T15) fun v19 T18 => (if v19 = 0 then zl (T18.1 0 0 19) fun x22 => if zin x22 600 = true then zb (f_X4_isDigit (T18.2 7 0 x22.toNatClampNeg) T18) fun v24 T23 => (if v24 = 0 then zl ((T23.1 0 0 19) + 1) fun x26 => zl (wI T23 0 0 20 x26) fun T27 => zl (T27.1 0 0 19) fun x29 => if zin x29 600 = true then (if (T27.2 7 0 x29.toNatClampNeg) = 59 then zl (wI T27 0 0 18 3) fun T31 => some ((), T31) else zl (wI T27 0 0 18 4) fun T30 => some ((), T30)) else none else zl (wI T23 0 0 21 0) fun T32 => zb (lp_X4_next_220 z0 2000 T32) fun _v47 T46 => jn_X4_next_296 z0 T46) else none else zb (lp_X4_next_145 z0 2000 T18) fun _v60 T59 => (if z0 = 0 then zl (wI T59 0 0 18 1) fun T62 => some ((), T62) else zl (wI T59 0 0 18 4) fun T63 => some ((), T63))) else none)
def jn_X4_next_101  (T : zT) : Option (Unit × zT) := jn_X4_next_102 0 T
def jn_X4_next_82 (w1 : Int32) (T : zT) : Option (Unit × zT) := (if w1 = 0 then jn_X4_next_101 T else (if (T.1 0 0 19) = (T.1 0 0 20) then jn_X4_next_102 1 T else jn_X4_next_101 T))
def jn_X4_next_21 (z0 : Int32) (T : zT) : Option (Unit × zT) := zl (T.1 0 0 20) fun x1 => zl (wI T 0 0 19 x1) fun T2 => zb (lp_X4_next_30 z0 2000 T2) fun _v12 T11 => jn_X4_next_82 z0 T11
def jn_X4_next_16  (T : zT) : Option (Unit × zT) := jn_X4_next_21 1 T
def f_X4_next  (T : zT) : Option (Unit × zT) := (if (T.1 0 0 18) = 1 then jn_X4_next_16 T else (if (T.1 0 0 18) = 2 then jn_X4_next_16 T else jn_X4_next_21 0 T))
set_option maxHeartbeats 4000000 in
set_option maxRecDepth 100000 in
theorem l_X4_next_30 {p : Program} {l : Launch} {e : Env} {s : State} {m : MethodId} {args : Array Value} {below : List Frame} {meth : Method} {c : Code} {Q : State → Prop} {D : va_G} {Y : Nat → ClassId} {S V : Nat → Nat} {G : Nat → Nat → Nat} {A : Nat → Prop} {c0 : Cond} {mc ms cells slots : Nat} (F : zF 1 1 mc ms p l s m args c cX4_next 3 RX4 c0 D Y S V G A) (hcs : cells ≤ mc ∧ slots ≤ ms) (w1 : Int32) :
    ∀ (n : Nat) (T : zT) (o : (Unit) × zT) (H : Heap) (locs : List Loc) (ls : Array Slot), lp_X4_next_30 w1 n T = some o → zP 1 D Y G T H → va_S A s.heap H locs → lv_has ls 3 [(0, .ref (G 0 0)), (1, .int w1)] → (∀ (H : Heap) (locs : List Loc) (ls : Array Slot), zP 1 D Y G o.2 H → va_S A s.heap H locs → lv_has ls 3 [(0, .ref (G 0 0)), (1, .int w1)] → W p l e (zR 1 mc ms) s m args below meth c H locs cells slots Q (F0 m 82 ls [])) → W p l e (zR 1 mc ms) s m args below meth c H locs cells slots Q (F0 m 30 ls []) := by
  obtain ⟨hx, hb, hml, hown, hts, hl9, hG, hK, hA⟩ := id F
  intro n
  induction n with
  | zero =>
    intro  T o H locs ls hf
    rw [lp_X4_next_30] at hf
    cases hf
  | succ n ih =>
    intro  T o H locs ls hf hP hS hl k0_
    rw [lp_X4_next_30] at hf
    refine lv_aload_n hx hb dX4_next_30 rfl (lv_at hl 0 rfl) ?_
    refine z_get hx hb hts (fun w h => List.mem_cons_of_mem _ (ziX4 w h)) hown hK hP (zV_m (by decide)) rfl rfl 19 (by decide) (List.mem_cons_of_mem _ m_1160) rfl rfl dX4_next_31 ?_
    refine lv_aload_n hx hb dX4_next_34 rfl (lv_at hl 0 rfl) ?_
    refine z_get hx hb hts (fun w h => List.mem_cons_of_mem _ (ziX4 w h)) hown hK hP (zV_m (by decide)) rfl rfl 17 (by decide) (List.mem_cons_of_mem _ m_1158) rfl rfl dX4_next_35 ?_
    refine lv_icmp_ge (tgt := 82) hx hb dX4_next_38 (by decide) (fun hc => ?_) (fun hc => ?_)
    · have hf := zif_p hf hc
      cases hf
      exact k0_ _ _ _ hP hS (lv_sub hl [0, 1] rfl)
    · have hf := zif_n hf hc
      refine lv_aload_n hx hb dX4_next_41 rfl (lv_at hl 0 rfl) ?_
      refine z_get hx hb hts (fun w h => List.mem_cons_of_mem _ (ziX4 w h)) hown hK hP (zV_m (by decide)) rfl rfl 9 (by decide) (List.mem_cons_of_mem _ m_1150) rfl rfl dX4_next_42 ?_
      refine lv_aload_n hx hb dX4_next_45 rfl (lv_at hl 0 rfl) ?_
      refine z_get hx hb hts (fun w h => List.mem_cons_of_mem _ (ziX4 w h)) hown hK hP (zV_m (by decide)) rfl rfl 19 (by decide) (List.mem_cons_of_mem _ m_1160) rfl rfl dX4_next_46 ?_
      obtain ⟨x4, ex4, hf⟩ := zl_i hf
      refine z_topi ex4 ?_
      obtain ⟨h3, hf⟩ := zif_c hf
      refine z_bald hx hb hK hP (zV_m (by decide)) rfl (zin_i h3) dX4_next_49 ?_
      refine lv_bipush (v := 32) hx hb dX4_next_50 (by decide) ?_
      refine lv_icmp_eq (tgt := 69) hx hb dX4_next_52 (by decide) (fun hc => ?_) (fun hc => ?_)
      · have hf := zif_p hf hc
        refine lv_aload_n hx hb dX4_next_69 rfl (lv_at hl 0 rfl) ?_
        refine lv_dup hx hb dX4_next_70 rfl ?_
        refine z_get hx hb hts (fun w h => List.mem_cons_of_mem _ (ziX4 w h)) hown hK hP (zV_m (by decide)) rfl rfl 19 (by decide) (List.mem_cons_of_mem _ m_1160) rfl rfl dX4_next_71 ?_
        refine lv_iconst (v := 1) hx hb dX4_next_74 (by decide) ?_
        refine lv_iadd hx hb dX4_next_75 ?_
        obtain ⟨x5, ex5, hf⟩ := zl_i hf
        refine z_topi ex5 ?_
        obtain ⟨T6, eT6, hf⟩ := zl_i hf
        refine z_put hx hb hts (fun w h => List.mem_cons_of_mem _ (ziX4 w h)) tyX4 tyX4_ok nmX4 hown hK hP hG hS (zV_m (by decide)) rfl rfl 19 (by decide) (List.mem_cons_of_mem _ m_1160) rfl rfl (by decide +kernel) (Nat.le_of_ble_eq_true rfl) rfl dX4_next_76 (fun H locs hP hS => ?_)
        rw [← eT6] at hP
        refine lv_goto (tgt := 30) hx hb dX4_next_79 (by decide) ?_
        exact ih  _ _ _ _ _ hf hP hS (lv_sub hl [0, 1] rfl) k0_
      · have hf := zif_n hf hc
        refine lv_aload_n hx hb dX4_next_55 rfl (lv_at hl 0 rfl) ?_
        refine z_get hx hb hts (fun w h => List.mem_cons_of_mem _ (ziX4 w h)) hown hK hP (zV_m (by decide)) rfl rfl 9 (by decide) (List.mem_cons_of_mem _ m_1150) rfl rfl dX4_next_56 ?_
        refine lv_aload_n hx hb dX4_next_59 rfl (lv_at hl 0 rfl) ?_
        refine z_get hx hb hts (fun w h => List.mem_cons_of_mem _ (ziX4 w h)) hown hK hP (zV_m (by decide)) rfl rfl 19 (by decide) (List.mem_cons_of_mem _ m_1160) rfl rfl dX4_next_60 ?_
        obtain ⟨x8, ex8, hf⟩ := zl_i hf
        refine z_topi ex8 ?_
        obtain ⟨h7, hf⟩ := zif_c hf
        refine z_bald hx hb hK hP (zV_m (by decide)) rfl (zin_i h7) dX4_next_63 ?_
        refine lv_bipush (v := 10) hx hb dX4_next_64 (by decide) ?_
        refine lv_icmp_ne (tgt := 82) hx hb dX4_next_66 (by decide) (fun hc => ?_) (fun hc => ?_)
        · have hf := zif_n hf hc
          cases hf
          exact k0_ _ _ _ hP hS (lv_sub hl [0, 1] rfl)
        · have hf := zif_p hf hc
          refine lv_aload_n hx hb dX4_next_69 rfl (lv_at hl 0 rfl) ?_
          refine lv_dup hx hb dX4_next_70 rfl ?_
          refine z_get hx hb hts (fun w h => List.mem_cons_of_mem _ (ziX4 w h)) hown hK hP (zV_m (by decide)) rfl rfl 19 (by decide) (List.mem_cons_of_mem _ m_1160) rfl rfl dX4_next_71 ?_
          refine lv_iconst (v := 1) hx hb dX4_next_74 (by decide) ?_
          refine lv_iadd hx hb dX4_next_75 ?_
          obtain ⟨x9, ex9, hf⟩ := zl_i hf
          refine z_topi ex9 ?_
          obtain ⟨T10, eT10, hf⟩ := zl_i hf
          refine z_put hx hb hts (fun w h => List.mem_cons_of_mem _ (ziX4 w h)) tyX4 tyX4_ok nmX4 hown hK hP hG hS (zV_m (by decide)) rfl rfl 19 (by decide) (List.mem_cons_of_mem _ m_1160) rfl rfl (by decide +kernel) (Nat.le_of_ble_eq_true rfl) rfl dX4_next_76 (fun H locs hP hS => ?_)
          rw [← eT10] at hP
          refine lv_goto (tgt := 30) hx hb dX4_next_79 (by decide) ?_
          exact ih  _ _ _ _ _ hf hP hS (lv_sub hl [0, 1] rfl) k0_
set_option maxHeartbeats 4000000 in
set_option maxRecDepth 100000 in
theorem l_X4_next_220 {p : Program} {l : Launch} {e : Env} {s : State} {m : MethodId} {args : Array Value} {below : List Frame} {meth : Method} {c : Code} {Q : State → Prop} {D : va_G} {Y : Nat → ClassId} {S V : Nat → Nat} {G : Nat → Nat → Nat} {A : Nat → Prop} {c0 : Cond} {mc ms cells slots : Nat} (F : zF 1 1 mc ms p l s m args c cX4_next 3 RX4 c0 D Y S V G A) (hcs : cells ≤ mc ∧ slots ≤ ms) (w2 : Int32) :
    ∀ (n : Nat) (T : zT) (o : (Unit) × zT) (H : Heap) (locs : List Loc) (ls : Array Slot), lp_X4_next_220 w2 n T = some o → zP 1 D Y G T H → va_S A s.heap H locs → lv_has ls 3 [(0, .ref (G 0 0)), (2, .int w2)] → (∀ (H : Heap) (locs : List Loc) (ls : Array Slot), zP 1 D Y G o.2 H → va_S A s.heap H locs → lv_has ls 3 [(0, .ref (G 0 0)), (2, .int w2)] → W p l e (zR 1 mc ms) s m args below meth c H locs cells slots Q (F0 m 296 ls [])) → W p l e (zR 1 mc ms) s m args below meth c H locs cells slots Q (F0 m 220 ls []) := by
  obtain ⟨hx, hb, hml, hown, hts, hl9, hG, hK, hA⟩ := id F
  intro n
  induction n with
  | zero =>
    intro  T o H locs ls hf
    rw [lp_X4_next_220] at hf
    cases hf
  | succ n ih =>
    intro  T o H locs ls hf hP hS hl k0_
    rw [lp_X4_next_220] at hf
    refine lv_aload_n hx hb dX4_next_220 rfl (lv_at hl 0 rfl) ?_
    refine z_get hx hb hts (fun w h => List.mem_cons_of_mem _ (ziX4 w h)) hown hK hP (zV_m (by decide)) rfl rfl 20 (by decide) (List.mem_cons_of_mem _ m_1161) rfl rfl dX4_next_221 ?_
    refine lv_aload_n hx hb dX4_next_224 rfl (lv_at hl 0 rfl) ?_
    refine z_get hx hb hts (fun w h => List.mem_cons_of_mem _ (ziX4 w h)) hown hK hP (zV_m (by decide)) rfl rfl 17 (by decide) (List.mem_cons_of_mem _ m_1158) rfl rfl dX4_next_225 ?_
    refine lv_icmp_ge (tgt := 296) hx hb dX4_next_228 (by decide) (fun hc => ?_) (fun hc => ?_)
    · have hf := zif_p hf hc
      cases hf
      exact k0_ _ _ _ hP hS (lv_sub hl [0, 1] rfl)
    · have hf := zif_n hf hc
      refine lv_aload_n hx hb dX4_next_231 rfl (lv_at hl 0 rfl) ?_
      refine z_get hx hb hts (fun w h => List.mem_cons_of_mem _ (ziX4 w h)) hown hK hP (zV_m (by decide)) rfl rfl 9 (by decide) (List.mem_cons_of_mem _ m_1150) rfl rfl dX4_next_232 ?_
      refine lv_aload_n hx hb dX4_next_235 rfl (lv_at hl 0 rfl) ?_
      refine z_get hx hb hts (fun w h => List.mem_cons_of_mem _ (ziX4 w h)) hown hK hP (zV_m (by decide)) rfl rfl 20 (by decide) (List.mem_cons_of_mem _ m_1161) rfl rfl dX4_next_236 ?_
      obtain ⟨x34, ex34, hf⟩ := zl_i hf
      refine z_topi ex34 ?_
      obtain ⟨h33, hf⟩ := zif_c hf
      refine z_bald hx hb hK hP (zV_m (by decide)) rfl (zin_i h33) dX4_next_239 ?_
      obtain ⟨v36, T35, h37, hf⟩ := zb_i hf
      refine z_ok (z_runS (As := [.int (T.2 7 0 x34.toNatClampNeg)]) (rest := []) F k_X4_isDigit m_1256 (c_X4_isDigit (T.2 7 0 x34.toNatClampNeg) T T35 _ h37) hP hS rfl rfl hl.1 (Nat.le_of_ble_eq_true rfl) dX4_next_240 (Nat.le_of_ble_eq_true rfl) ⟨hcs.1, hcs.2⟩ rfl) hS (fun H locs hP hS => ?_)
      refine lv_if_eq (tgt := 296) hx hb dX4_next_243 (by decide) (fun hc => ?_) (fun hc => ?_)
      · have hf := zif_p hf hc
        cases hf
        exact k0_ _ _ _ hP hS (lv_sub hl [0, 1] rfl)
      · have hf := zif_n hf hc
        refine lv_aload_n hx hb dX4_next_246 rfl (lv_at hl 0 rfl) ?_
        refine z_get hx hb hts (fun w h => List.mem_cons_of_mem _ (ziX4 w h)) hown hK hP (zV_m (by decide)) rfl rfl 20 (by decide) (List.mem_cons_of_mem _ m_1161) rfl rfl dX4_next_247 ?_
        refine lv_aload_n hx hb dX4_next_250 rfl (lv_at hl 0 rfl) ?_
        refine z_get hx hb hts (fun w h => List.mem_cons_of_mem _ (ziX4 w h)) hown hK hP (zV_m (by decide)) rfl rfl 19 (by decide) (List.mem_cons_of_mem _ m_1160) rfl rfl dX4_next_251 ?_
        refine lv_isub hx hb dX4_next_254 ?_
        refine lv_iconst (v := 4) hx hb dX4_next_255 (by decide) ?_
        refine lv_icmp_ge (tgt := 283) hx hb dX4_next_256 (by decide) (fun hc => ?_) (fun hc => ?_)
        · have hf := zif_p hf hc
          refine lv_aload_n hx hb dX4_next_283 rfl (lv_at hl 0 rfl) ?_
          refine lv_dup hx hb dX4_next_284 rfl ?_
          refine z_get hx hb hts (fun w h => List.mem_cons_of_mem _ (ziX4 w h)) hown hK hP (zV_m (by decide)) rfl rfl 20 (by decide) (List.mem_cons_of_mem _ m_1161) rfl rfl dX4_next_285 ?_
          refine lv_iconst (v := 1) hx hb dX4_next_288 (by decide) ?_
          refine lv_iadd hx hb dX4_next_289 ?_
          obtain ⟨x38, ex38, hf⟩ := zl_i hf
          refine z_topi ex38 ?_
          obtain ⟨T39, eT39, hf⟩ := zl_i hf
          refine z_put hx hb hts (fun w h => List.mem_cons_of_mem _ (ziX4 w h)) tyX4 tyX4_ok nmX4 hown hK hP hG hS (zV_m (by decide)) rfl rfl 20 (by decide) (List.mem_cons_of_mem _ m_1161) rfl rfl (by decide +kernel) (Nat.le_of_ble_eq_true rfl) rfl dX4_next_290 (fun H locs hP hS => ?_)
          rw [← eT39] at hP
          refine lv_goto (tgt := 220) hx hb dX4_next_293 (by decide) ?_
          exact ih  _ _ _ _ _ hf hP hS (lv_sub hl [0, 1] rfl) k0_
        · have hf := zif_n hf hc
          refine lv_aload_n hx hb dX4_next_259 rfl (lv_at hl 0 rfl) ?_
          refine lv_bipush (v := 10) hx hb dX4_next_260 (by decide) ?_
          refine lv_aload_n hx hb dX4_next_262 rfl (lv_at hl 0 rfl) ?_
          refine z_get hx hb hts (fun w h => List.mem_cons_of_mem _ (ziX4 w h)) hown hK hP (zV_m (by decide)) rfl rfl 21 (by decide) (List.mem_cons_of_mem _ m_1162) rfl rfl dX4_next_263 ?_
          refine lv_imul hx hb dX4_next_266 ?_
          refine lv_aload_n hx hb dX4_next_267 rfl (lv_at hl 0 rfl) ?_
          refine z_get hx hb hts (fun w h => List.mem_cons_of_mem _ (ziX4 w h)) hown hK hP (zV_m (by decide)) rfl rfl 9 (by decide) (List.mem_cons_of_mem _ m_1150) rfl rfl dX4_next_268 ?_
          refine lv_aload_n hx hb dX4_next_271 rfl (lv_at hl 0 rfl) ?_
          refine z_get hx hb hts (fun w h => List.mem_cons_of_mem _ (ziX4 w h)) hown hK hP (zV_m (by decide)) rfl rfl 20 (by decide) (List.mem_cons_of_mem _ m_1161) rfl rfl dX4_next_272 ?_
          obtain ⟨x41, ex41, hf⟩ := zl_i hf
          refine z_topi ex41 ?_
          obtain ⟨h40, hf⟩ := zif_c hf
          refine z_bald hx hb hK hP (zV_m (by decide)) rfl (zin_i h40) dX4_next_275 ?_
          refine lv_iadd hx hb dX4_next_276 ?_
          refine lv_bipush (v := 48) hx hb dX4_next_277 (by decide) ?_
          refine lv_isub hx hb dX4_next_279 ?_
          obtain ⟨x42, ex42, hf⟩ := zl_i hf
          refine z_topi ex42 ?_
          obtain ⟨T43, eT43, hf⟩ := zl_i hf
          refine z_put hx hb hts (fun w h => List.mem_cons_of_mem _ (ziX4 w h)) tyX4 tyX4_ok nmX4 hown hK hP hG hS (zV_m (by decide)) rfl rfl 21 (by decide) (List.mem_cons_of_mem _ m_1162) rfl rfl (by decide +kernel) (Nat.le_of_ble_eq_true rfl) rfl dX4_next_280 (fun H locs hP hS => ?_)
          rw [← eT43] at hP
          refine lv_aload_n hx hb dX4_next_283 rfl (lv_at hl 0 rfl) ?_
          refine lv_dup hx hb dX4_next_284 rfl ?_
          refine z_get hx hb hts (fun w h => List.mem_cons_of_mem _ (ziX4 w h)) hown hK hP (zV_m (by decide)) rfl rfl 20 (by decide) (List.mem_cons_of_mem _ m_1161) rfl rfl dX4_next_285 ?_
          refine lv_iconst (v := 1) hx hb dX4_next_288 (by decide) ?_
          refine lv_iadd hx hb dX4_next_289 ?_
          obtain ⟨x44, ex44, hf⟩ := zl_i hf
          refine z_topi ex44 ?_
          obtain ⟨T45, eT45, hf⟩ := zl_i hf
          refine z_put hx hb hts (fun w h => List.mem_cons_of_mem _ (ziX4 w h)) tyX4 tyX4_ok nmX4 hown hK hP hG hS (zV_m (by decide)) rfl rfl 20 (by decide) (List.mem_cons_of_mem _ m_1161) rfl rfl (by decide +kernel) (Nat.le_of_ble_eq_true rfl) rfl dX4_next_290 (fun H locs hP hS => ?_)
          rw [← eT45] at hP
          refine lv_goto (tgt := 220) hx hb dX4_next_293 (by decide) ?_
          exact ih  _ _ _ _ _ hf hP hS (lv_sub hl [0, 1] rfl) k0_
set_option maxHeartbeats 4000000 in
set_option maxRecDepth 100000 in
theorem j_X4_next_296 {p : Program} {l : Launch} {e : Env} {s : State} {m : MethodId} {args : Array Value} {below : List Frame} {meth : Method} {c : Code} {D : va_G} {Y : Nat → ClassId} {S V : Nat → Nat} {G : Nat → Nat → Nat} {A : Nat → Prop} {c0 : Cond} (F : zF 1 1  0 0  p l s m args c cX4_next 3 RX4 c0 D Y S V G A) (hr : meth.sig.returnType = none) (hlocks : meth.locks = false) (hex : ∀ x ∈ c.exceptionTable.toList, False) (w2 : Int32) (T : zT) {T' : zT} {v : Unit} {H : Heap} {locs : List Loc} {ls : Array Slot} (hf : jn_X4_next_296 w2 T = some (v, T')) (hP : zP 1 D Y G T H) (hS : va_S A s.heap H locs) (hl : lv_has ls 3 [(0, .ref (G 0 0)), (2, .int w2)]) :
    W p l e (zR 1  0 0 ) s m args below meth c H locs 0 0 (vx_MQ below (zQ 1 D Y G A (.inl none) T') (zX 1 D Y G A (.inl none) T') args s  0 0  A) (F0 m 296 ls []) := by
  obtain ⟨hx, hb, hml, hown, hts, hl9, hG, hK, hA⟩ := id F
  unfold jn_X4_next_296 at hf
  refine lv_aload_n hx hb dX4_next_296 rfl (lv_at hl 0 rfl) ?_
  refine lv_iload_n hx hb dX4_next_297 rfl (lv_at hl 1 rfl) ?_
  refine lv_if_ne (tgt := 314) hx hb dX4_next_298 (by decide) (fun hc => ?_) (fun hc => ?_)
  · have hf := zif_n hf hc
    refine lv_iconst (v := 4) hx hb dX4_next_314 (by decide) ?_
    refine lv_goto (tgt := 319) hx hb dX4_next_315 (by decide) ?_
    obtain ⟨T49, eT49, hf⟩ := zl_i hf
    refine z_put hx hb hts (fun w h => List.mem_cons_of_mem _ (ziX4 w h)) tyX4 tyX4_ok nmX4 hown hK hP hG hS (zV_m (by decide)) rfl rfl 18 (by decide) (List.mem_cons_of_mem _ m_1159) rfl rfl (by decide +kernel) (Nat.le_of_ble_eq_true rfl) rfl dX4_next_319 (fun H locs hP hS => ?_)
    rw [← eT49] at hP
    refine lv_goto (tgt := 358) hx hb dX4_next_322 (by decide) ?_
    obtain ⟨q1, q2⟩ := zs_i hf
    subst q1; subst q2
    exact z_vret hx hb hr rfl hP hS hlocks (Nat.le_of_ble_eq_true rfl) (Nat.le_of_ble_eq_true rfl) dX4_next_358
  · have hf := zif_p hf hc
    refine lv_aload_n hx hb dX4_next_301 rfl (lv_at hl 0 rfl) ?_
    refine z_get hx hb hts (fun w h => List.mem_cons_of_mem _ (ziX4 w h)) hown hK hP (zV_m (by decide)) rfl rfl 20 (by decide) (List.mem_cons_of_mem _ m_1161) rfl rfl dX4_next_302 ?_
    refine lv_aload_n hx hb dX4_next_305 rfl (lv_at hl 0 rfl) ?_
    refine z_get hx hb hts (fun w h => List.mem_cons_of_mem _ (ziX4 w h)) hown hK hP (zV_m (by decide)) rfl rfl 19 (by decide) (List.mem_cons_of_mem _ m_1160) rfl rfl dX4_next_306 ?_
    refine lv_isub hx hb dX4_next_309 ?_
    refine lv_iconst (v := 4) hx hb dX4_next_310 (by decide) ?_
    refine lv_icmp_le (tgt := 318) hx hb dX4_next_311 (by decide) (fun hc => ?_) (fun hc => ?_)
    · have hf := zif_p hf hc
      refine lv_iconst (v := 2) hx hb dX4_next_318 (by decide) ?_
      obtain ⟨T50, eT50, hf⟩ := zl_i hf
      refine z_put hx hb hts (fun w h => List.mem_cons_of_mem _ (ziX4 w h)) tyX4 tyX4_ok nmX4 hown hK hP hG hS (zV_m (by decide)) rfl rfl 18 (by decide) (List.mem_cons_of_mem _ m_1159) rfl rfl (by decide +kernel) (Nat.le_of_ble_eq_true rfl) rfl dX4_next_319 (fun H locs hP hS => ?_)
      rw [← eT50] at hP
      refine lv_goto (tgt := 358) hx hb dX4_next_322 (by decide) ?_
      obtain ⟨q1, q2⟩ := zs_i hf
      subst q1; subst q2
      exact z_vret hx hb hr rfl hP hS hlocks (Nat.le_of_ble_eq_true rfl) (Nat.le_of_ble_eq_true rfl) dX4_next_358
    · have hf := zif_n hf hc
      refine lv_iconst (v := 4) hx hb dX4_next_314 (by decide) ?_
      refine lv_goto (tgt := 319) hx hb dX4_next_315 (by decide) ?_
      obtain ⟨T51, eT51, hf⟩ := zl_i hf
      refine z_put hx hb hts (fun w h => List.mem_cons_of_mem _ (ziX4 w h)) tyX4 tyX4_ok nmX4 hown hK hP hG hS (zV_m (by decide)) rfl rfl 18 (by decide) (List.mem_cons_of_mem _ m_1159) rfl rfl (by decide +kernel) (Nat.le_of_ble_eq_true rfl) rfl dX4_next_319 (fun H locs hP hS => ?_)
      rw [← eT51] at hP
      refine lv_goto (tgt := 358) hx hb dX4_next_322 (by decide) ?_
      obtain ⟨q1, q2⟩ := zs_i hf
      subst q1; subst q2
      exact z_vret hx hb hr rfl hP hS hlocks (Nat.le_of_ble_eq_true rfl) (Nat.le_of_ble_eq_true rfl) dX4_next_358
set_option maxHeartbeats 4000000 in
set_option maxRecDepth 100000 in
theorem l_X4_next_145 {p : Program} {l : Launch} {e : Env} {s : State} {m : MethodId} {args : Array Value} {below : List Frame} {meth : Method} {c : Code} {Q : State → Prop} {D : va_G} {Y : Nat → ClassId} {S V : Nat → Nat} {G : Nat → Nat → Nat} {A : Nat → Prop} {c0 : Cond} {mc ms cells slots : Nat} (F : zF 1 1 mc ms p l s m args c cX4_next 3 RX4 c0 D Y S V G A) (hcs : cells ≤ mc ∧ slots ≤ ms) (w2 : Int32) :
    ∀ (n : Nat) (T : zT) (o : (Unit) × zT) (H : Heap) (locs : List Loc) (ls : Array Slot), lp_X4_next_145 w2 n T = some o → zP 1 D Y G T H → va_S A s.heap H locs → lv_has ls 3 [(0, .ref (G 0 0)), (2, .int w2)] → (∀ (H : Heap) (locs : List Loc) (ls : Array Slot), zP 1 D Y G o.2 H → va_S A s.heap H locs → lv_has ls 3 [(0, .ref (G 0 0)), (2, .int w2)] → W p l e (zR 1 mc ms) s m args below meth c H locs cells slots Q (F0 m 184 ls [])) → W p l e (zR 1 mc ms) s m args below meth c H locs cells slots Q (F0 m 145 ls []) := by
  obtain ⟨hx, hb, hml, hown, hts, hl9, hG, hK, hA⟩ := id F
  intro n
  induction n with
  | zero =>
    intro  T o H locs ls hf
    rw [lp_X4_next_145] at hf
    cases hf
  | succ n ih =>
    intro  T o H locs ls hf hP hS hl k0_
    rw [lp_X4_next_145] at hf
    refine lv_aload_n hx hb dX4_next_145 rfl (lv_at hl 0 rfl) ?_
    refine z_get hx hb hts (fun w h => List.mem_cons_of_mem _ (ziX4 w h)) hown hK hP (zV_m (by decide)) rfl rfl 20 (by decide) (List.mem_cons_of_mem _ m_1161) rfl rfl dX4_next_146 ?_
    refine lv_aload_n hx hb dX4_next_149 rfl (lv_at hl 0 rfl) ?_
    refine z_get hx hb hts (fun w h => List.mem_cons_of_mem _ (ziX4 w h)) hown hK hP (zV_m (by decide)) rfl rfl 17 (by decide) (List.mem_cons_of_mem _ m_1158) rfl rfl dX4_next_150 ?_
    refine lv_icmp_ge (tgt := 184) hx hb dX4_next_153 (by decide) (fun hc => ?_) (fun hc => ?_)
    · have hf := zif_p hf hc
      cases hf
      exact k0_ _ _ _ hP hS (lv_sub hl [0, 1] rfl)
    · have hf := zif_n hf hc
      refine lv_aload_n hx hb dX4_next_156 rfl (lv_at hl 0 rfl) ?_
      refine z_get hx hb hts (fun w h => List.mem_cons_of_mem _ (ziX4 w h)) hown hK hP (zV_m (by decide)) rfl rfl 9 (by decide) (List.mem_cons_of_mem _ m_1150) rfl rfl dX4_next_157 ?_
      refine lv_aload_n hx hb dX4_next_160 rfl (lv_at hl 0 rfl) ?_
      refine z_get hx hb hts (fun w h => List.mem_cons_of_mem _ (ziX4 w h)) hown hK hP (zV_m (by decide)) rfl rfl 20 (by decide) (List.mem_cons_of_mem _ m_1161) rfl rfl dX4_next_161 ?_
      obtain ⟨x53, ex53, hf⟩ := zl_i hf
      refine z_topi ex53 ?_
      obtain ⟨h52, hf⟩ := zif_c hf
      refine z_bald hx hb hK hP (zV_m (by decide)) rfl (zin_i h52) dX4_next_164 ?_
      obtain ⟨v55, T54, h56, hf⟩ := zb_i hf
      refine z_ok (z_runS (As := [.int (T.2 7 0 x53.toNatClampNeg)]) (rest := []) F k_X4_isLetter m_1253 (c_X4_isLetter (T.2 7 0 x53.toNatClampNeg) T T54 _ h56) hP hS rfl rfl hl.1 (Nat.le_of_ble_eq_true rfl) dX4_next_165 (Nat.le_of_ble_eq_true rfl) ⟨hcs.1, hcs.2⟩ rfl) hS (fun H locs hP hS => ?_)
      refine lv_if_eq (tgt := 184) hx hb dX4_next_168 (by decide) (fun hc => ?_) (fun hc => ?_)
      · have hf := zif_p hf hc
        cases hf
        exact k0_ _ _ _ hP hS (lv_sub hl [0, 1] rfl)
      · have hf := zif_n hf hc
        refine lv_aload_n hx hb dX4_next_171 rfl (lv_at hl 0 rfl) ?_
        refine lv_dup hx hb dX4_next_172 rfl ?_
        refine z_get hx hb hts (fun w h => List.mem_cons_of_mem _ (ziX4 w h)) hown hK hP (zV_m (by decide)) rfl rfl 20 (by decide) (List.mem_cons_of_mem _ m_1161) rfl rfl dX4_next_173 ?_
        refine lv_iconst (v := 1) hx hb dX4_next_176 (by decide) ?_
        refine lv_iadd hx hb dX4_next_177 ?_
        obtain ⟨x57, ex57, hf⟩ := zl_i hf
        refine z_topi ex57 ?_
        obtain ⟨T58, eT58, hf⟩ := zl_i hf
        refine z_put hx hb hts (fun w h => List.mem_cons_of_mem _ (ziX4 w h)) tyX4 tyX4_ok nmX4 hown hK hP hG hS (zV_m (by decide)) rfl rfl 20 (by decide) (List.mem_cons_of_mem _ m_1161) rfl rfl (by decide +kernel) (Nat.le_of_ble_eq_true rfl) rfl dX4_next_178 (fun H locs hP hS => ?_)
        rw [← eT58] at hP
        refine lv_goto (tgt := 145) hx hb dX4_next_181 (by decide) ?_
        exact ih  _ _ _ _ _ hf hP hS (lv_sub hl [0, 1] rfl) k0_
set_option maxHeartbeats 4000000 in
set_option maxRecDepth 100000 in
theorem j_X4_next_102 {p : Program} {l : Launch} {e : Env} {s : State} {m : MethodId} {args : Array Value} {below : List Frame} {meth : Method} {c : Code} {D : va_G} {Y : Nat → ClassId} {S V : Nat → Nat} {G : Nat → Nat → Nat} {A : Nat → Prop} {c0 : Cond} (F : zF 1 1  0 0  p l s m args c cX4_next 3 RX4 c0 D Y S V G A) (hr : meth.sig.returnType = none) (hlocks : meth.locks = false) (hex : ∀ x ∈ c.exceptionTable.toList, False) (z0 : Int32) (T : zT) {T' : zT} {v : Unit} {H : Heap} {locs : List Loc} {ls : Array Slot} (hf : jn_X4_next_102 z0 T = some (v, T')) (hP : zP 1 D Y G T H) (hS : va_S A s.heap H locs) (hl : lv_has ls 3 [(0, .ref (G 0 0))]) :
    W p l e (zR 1  0 0 ) s m args below meth c H locs 0 0 (vx_MQ below (zQ 1 D Y G A (.inl none) T') (zX 1 D Y G A (.inl none) T') args s  0 0  A) (F0 m 102 ls [.int z0]) := by
  obtain ⟨hx, hb, hml, hown, hts, hl9, hG, hK, hA⟩ := id F
  unfold jn_X4_next_102 at hf
  refine lv_istore_n (lv' := [(2, .int z0), (0, .ref (G 0 0))]) hx hb dX4_next_102 rfl hl (by decide) rfl (fun ls hl => ?_)
  refine lv_aload_n hx hb dX4_next_103 rfl (lv_at hl 1 rfl) ?_
  refine lv_aload_n hx hb dX4_next_104 rfl (lv_at hl 1 rfl) ?_
  refine z_get hx hb hts (fun w h => List.mem_cons_of_mem _ (ziX4 w h)) hown hK hP (zV_m (by decide)) rfl rfl 19 (by decide) (List.mem_cons_of_mem _ m_1160) rfl rfl dX4_next_105 ?_
  obtain ⟨x14, ex14, hf⟩ := zl_i hf
  refine z_topi ex14 ?_
  obtain ⟨T15, eT15, hf⟩ := zl_i hf
  refine z_put hx hb hts (fun w h => List.mem_cons_of_mem _ (ziX4 w h)) tyX4 tyX4_ok nmX4 hown hK hP hG hS (zV_m (by decide)) rfl rfl 20 (by decide) (List.mem_cons_of_mem _ m_1161) rfl rfl (by decide +kernel) (Nat.le_of_ble_eq_true rfl) rfl dX4_next_108 (fun H locs hP hS => ?_)
  rw [← eT15] at hP
  refine lv_aload_n hx hb dX4_next_111 rfl (lv_at hl 1 rfl) ?_
  refine z_get hx hb hts (fun w h => List.mem_cons_of_mem _ (ziX4 w h)) hown hK hP (zV_m (by decide)) rfl rfl 19 (by decide) (List.mem_cons_of_mem _ m_1160) rfl rfl dX4_next_112 ?_
  refine lv_aload_n hx hb dX4_next_115 rfl (lv_at hl 1 rfl) ?_
  refine z_get hx hb hts (fun w h => List.mem_cons_of_mem _ (ziX4 w h)) hown hK hP (zV_m (by decide)) rfl rfl 17 (by decide) (List.mem_cons_of_mem _ m_1158) rfl rfl dX4_next_116 ?_
  refine lv_icmp_ne (tgt := 130) hx hb dX4_next_119 (by decide) (fun hc => ?_) (fun hc => ?_)
  · have hf := zif_n hf hc
    refine lv_aload_n hx hb dX4_next_130 rfl (lv_at hl 1 rfl) ?_
    refine z_get hx hb hts (fun w h => List.mem_cons_of_mem _ (ziX4 w h)) hown hK hP (zV_m (by decide)) rfl rfl 9 (by decide) (List.mem_cons_of_mem _ m_1150) rfl rfl dX4_next_131 ?_
    refine lv_aload_n hx hb dX4_next_134 rfl (lv_at hl 1 rfl) ?_
    refine z_get hx hb hts (fun w h => List.mem_cons_of_mem _ (ziX4 w h)) hown hK hP (zV_m (by decide)) rfl rfl 19 (by decide) (List.mem_cons_of_mem _ m_1160) rfl rfl dX4_next_135 ?_
    obtain ⟨x17, ex17, hf⟩ := zl_i hf
    refine z_topi ex17 ?_
    obtain ⟨h16, hf⟩ := zif_c hf
    refine z_bald hx hb hK hP (zV_m (by decide)) rfl (zin_i h16) dX4_next_138 ?_
    obtain ⟨v19, T18, h20, hf⟩ := zb_i hf
    refine z_ok (z_runS (As := [.int (T15.2 7 0 x17.toNatClampNeg)]) (rest := []) F k_X4_isLetter m_1253 (c_X4_isLetter (T15.2 7 0 x17.toNatClampNeg) T15 T18 _ h20) hP hS rfl rfl hl.1 (Nat.le_of_ble_eq_true rfl) dX4_next_139 (Nat.le_of_ble_eq_true rfl) ⟨Nat.le_of_ble_eq_true rfl, Nat.le_of_ble_eq_true rfl⟩ rfl) hS (fun H locs hP hS => ?_)
    refine lv_if_eq (tgt := 200) hx hb dX4_next_142 (by decide) (fun hc => ?_) (fun hc => ?_)
    · have hf := zif_p hf hc
      refine lv_aload_n hx hb dX4_next_200 rfl (lv_at hl 1 rfl) ?_
      refine z_get hx hb hts (fun w h => List.mem_cons_of_mem _ (ziX4 w h)) hown hK hP (zV_m (by decide)) rfl rfl 9 (by decide) (List.mem_cons_of_mem _ m_1150) rfl rfl dX4_next_201 ?_
      refine lv_aload_n hx hb dX4_next_204 rfl (lv_at hl 1 rfl) ?_
      refine z_get hx hb hts (fun w h => List.mem_cons_of_mem _ (ziX4 w h)) hown hK hP (zV_m (by decide)) rfl rfl 19 (by decide) (List.mem_cons_of_mem _ m_1160) rfl rfl dX4_next_205 ?_
      obtain ⟨x22, ex22, hf⟩ := zl_i hf
      refine z_topi ex22 ?_
      obtain ⟨h21, hf⟩ := zif_c hf
      refine z_bald hx hb hK hP (zV_m (by decide)) rfl (zin_i h21) dX4_next_208 ?_
      obtain ⟨v24, T23, h25, hf⟩ := zb_i hf
      refine z_ok (z_runS (As := [.int (T18.2 7 0 x22.toNatClampNeg)]) (rest := []) F k_X4_isDigit m_1256 (c_X4_isDigit (T18.2 7 0 x22.toNatClampNeg) T18 T23 _ h25) hP hS rfl rfl hl.1 (Nat.le_of_ble_eq_true rfl) dX4_next_209 (Nat.le_of_ble_eq_true rfl) ⟨Nat.le_of_ble_eq_true rfl, Nat.le_of_ble_eq_true rfl⟩ rfl) hS (fun H locs hP hS => ?_)
      refine lv_if_eq (tgt := 325) hx hb dX4_next_212 (by decide) (fun hc => ?_) (fun hc => ?_)
      · have hf := zif_p hf hc
        refine lv_aload_n hx hb dX4_next_325 rfl (lv_at hl 1 rfl) ?_
        refine lv_aload_n hx hb dX4_next_326 rfl (lv_at hl 1 rfl) ?_
        refine z_get hx hb hts (fun w h => List.mem_cons_of_mem _ (ziX4 w h)) hown hK hP (zV_m (by decide)) rfl rfl 19 (by decide) (List.mem_cons_of_mem _ m_1160) rfl rfl dX4_next_327 ?_
        refine lv_iconst (v := 1) hx hb dX4_next_330 (by decide) ?_
        refine lv_iadd hx hb dX4_next_331 ?_
        obtain ⟨x26, ex26, hf⟩ := zl_i hf
        refine z_topi ex26 ?_
        obtain ⟨T27, eT27, hf⟩ := zl_i hf
        refine z_put hx hb hts (fun w h => List.mem_cons_of_mem _ (ziX4 w h)) tyX4 tyX4_ok nmX4 hown hK hP hG hS (zV_m (by decide)) rfl rfl 20 (by decide) (List.mem_cons_of_mem _ m_1161) rfl rfl (by decide +kernel) (Nat.le_of_ble_eq_true rfl) rfl dX4_next_332 (fun H locs hP hS => ?_)
        rw [← eT27] at hP
        refine lv_aload_n hx hb dX4_next_335 rfl (lv_at hl 1 rfl) ?_
        refine lv_aload_n hx hb dX4_next_336 rfl (lv_at hl 1 rfl) ?_
        refine z_get hx hb hts (fun w h => List.mem_cons_of_mem _ (ziX4 w h)) hown hK hP (zV_m (by decide)) rfl rfl 9 (by decide) (List.mem_cons_of_mem _ m_1150) rfl rfl dX4_next_337 ?_
        refine lv_aload_n hx hb dX4_next_340 rfl (lv_at hl 1 rfl) ?_
        refine z_get hx hb hts (fun w h => List.mem_cons_of_mem _ (ziX4 w h)) hown hK hP (zV_m (by decide)) rfl rfl 19 (by decide) (List.mem_cons_of_mem _ m_1160) rfl rfl dX4_next_341 ?_
        obtain ⟨x29, ex29, hf⟩ := zl_i hf
        refine z_topi ex29 ?_
        obtain ⟨h28, hf⟩ := zif_c hf
        refine z_bald hx hb hK hP (zV_m (by decide)) rfl (zin_i h28) dX4_next_344 ?_
        refine lv_bipush (v := 59) hx hb dX4_next_345 (by decide) ?_
        refine lv_icmp_ne (tgt := 354) hx hb dX4_next_347 (by decide) (fun hc => ?_) (fun hc => ?_)
        · have hf := zif_n hf hc
          refine lv_iconst (v := 4) hx hb dX4_next_354 (by decide) ?_
          obtain ⟨T30, eT30, hf⟩ := zl_i hf
          refine z_put hx hb hts (fun w h => List.mem_cons_of_mem _ (ziX4 w h)) tyX4 tyX4_ok nmX4 hown hK hP hG hS (zV_m (by decide)) rfl rfl 18 (by decide) (List.mem_cons_of_mem _ m_1159) rfl rfl (by decide +kernel) (Nat.le_of_ble_eq_true rfl) rfl dX4_next_355 (fun H locs hP hS => ?_)
          rw [← eT30] at hP
          obtain ⟨q1, q2⟩ := zs_i hf
          subst q1; subst q2
          exact z_vret hx hb hr rfl hP hS hlocks (Nat.le_of_ble_eq_true rfl) (Nat.le_of_ble_eq_true rfl) dX4_next_358
        · have hf := zif_p hf hc
          refine lv_iconst (v := 3) hx hb dX4_next_350 (by decide) ?_
          refine lv_goto (tgt := 355) hx hb dX4_next_351 (by decide) ?_
          obtain ⟨T31, eT31, hf⟩ := zl_i hf
          refine z_put hx hb hts (fun w h => List.mem_cons_of_mem _ (ziX4 w h)) tyX4 tyX4_ok nmX4 hown hK hP hG hS (zV_m (by decide)) rfl rfl 18 (by decide) (List.mem_cons_of_mem _ m_1159) rfl rfl (by decide +kernel) (Nat.le_of_ble_eq_true rfl) rfl dX4_next_355 (fun H locs hP hS => ?_)
          rw [← eT31] at hP
          obtain ⟨q1, q2⟩ := zs_i hf
          subst q1; subst q2
          exact z_vret hx hb hr rfl hP hS hlocks (Nat.le_of_ble_eq_true rfl) (Nat.le_of_ble_eq_true rfl) dX4_next_358
      · have hf := zif_n hf hc
        refine lv_aload_n hx hb dX4_next_215 rfl (lv_at hl 1 rfl) ?_
        refine lv_iconst (v := 0) hx hb dX4_next_216 (by decide) ?_
        obtain ⟨T32, eT32, hf⟩ := zl_i hf
        refine z_put hx hb hts (fun w h => List.mem_cons_of_mem _ (ziX4 w h)) tyX4 tyX4_ok nmX4 hown hK hP hG hS (zV_m (by decide)) rfl rfl 21 (by decide) (List.mem_cons_of_mem _ m_1162) rfl rfl (by decide +kernel) (Nat.le_of_ble_eq_true rfl) rfl dX4_next_217 (fun H locs hP hS => ?_)
        rw [← eT32] at hP
        obtain ⟨v47, T46, h48, hf⟩ := zb_i hf
        refine l_X4_next_220 F ⟨Nat.le_of_ble_eq_true rfl, Nat.le_of_ble_eq_true rfl⟩ z0 2000  _ _ _ _ _ h48 hP hS (lv_sub hl [1, 0] rfl) (fun H locs ls hP hS hl => ?_)
        exact j_X4_next_296 F hr hlocks hex z0 T46 hf hP hS (lv_sub hl [0, 1] rfl)
    · have hf := zif_n hf hc
      obtain ⟨v60, T59, h61, hf⟩ := zb_i hf
      refine l_X4_next_145 F ⟨Nat.le_of_ble_eq_true rfl, Nat.le_of_ble_eq_true rfl⟩ z0 2000  _ _ _ _ _ h61 hP hS (lv_sub hl [1, 0] rfl) (fun H locs ls hP hS hl => ?_)
      refine lv_aload_n hx hb dX4_next_184 rfl (lv_at hl 0 rfl) ?_
      refine lv_iload_n hx hb dX4_next_185 rfl (lv_at hl 1 rfl) ?_
      refine lv_if_eq (tgt := 193) hx hb dX4_next_186 (by decide) (fun hc => ?_) (fun hc => ?_)
      · have hf := zif_p hf hc
        refine lv_iconst (v := 1) hx hb dX4_next_193 (by decide) ?_
        obtain ⟨T62, eT62, hf⟩ := zl_i hf
        refine z_put hx hb hts (fun w h => List.mem_cons_of_mem _ (ziX4 w h)) tyX4 tyX4_ok nmX4 hown hK hP hG hS (zV_m (by decide)) rfl rfl 18 (by decide) (List.mem_cons_of_mem _ m_1159) rfl rfl (by decide +kernel) (Nat.le_of_ble_eq_true rfl) rfl dX4_next_194 (fun H locs hP hS => ?_)
        rw [← eT62] at hP
        refine lv_goto (tgt := 358) hx hb dX4_next_197 (by decide) ?_
        obtain ⟨q1, q2⟩ := zs_i hf
        subst q1; subst q2
        exact z_vret hx hb hr rfl hP hS hlocks (Nat.le_of_ble_eq_true rfl) (Nat.le_of_ble_eq_true rfl) dX4_next_358
      · have hf := zif_n hf hc
        refine lv_iconst (v := 4) hx hb dX4_next_189 (by decide) ?_
        refine lv_goto (tgt := 194) hx hb dX4_next_190 (by decide) ?_
        obtain ⟨T63, eT63, hf⟩ := zl_i hf
        refine z_put hx hb hts (fun w h => List.mem_cons_of_mem _ (ziX4 w h)) tyX4 tyX4_ok nmX4 hown hK hP hG hS (zV_m (by decide)) rfl rfl 18 (by decide) (List.mem_cons_of_mem _ m_1159) rfl rfl (by decide +kernel) (Nat.le_of_ble_eq_true rfl) rfl dX4_next_194 (fun H locs hP hS => ?_)
        rw [← eT63] at hP
        refine lv_goto (tgt := 358) hx hb dX4_next_197 (by decide) ?_
        obtain ⟨q1, q2⟩ := zs_i hf
        subst q1; subst q2
        exact z_vret hx hb hr rfl hP hS hlocks (Nat.le_of_ble_eq_true rfl) (Nat.le_of_ble_eq_true rfl) dX4_next_358
  · have hf := zif_p hf hc
    refine lv_aload_n hx hb dX4_next_122 rfl (lv_at hl 1 rfl) ?_
    refine lv_iconst (v := 0) hx hb dX4_next_123 (by decide) ?_
    obtain ⟨T64, eT64, hf⟩ := zl_i hf
    refine z_put hx hb hts (fun w h => List.mem_cons_of_mem _ (ziX4 w h)) tyX4 tyX4_ok nmX4 hown hK hP hG hS (zV_m (by decide)) rfl rfl 18 (by decide) (List.mem_cons_of_mem _ m_1159) rfl rfl (by decide +kernel) (Nat.le_of_ble_eq_true rfl) rfl dX4_next_124 (fun H locs hP hS => ?_)
    rw [← eT64] at hP
    refine lv_goto (tgt := 358) hx hb dX4_next_127 (by decide) ?_
    obtain ⟨q1, q2⟩ := zs_i hf
    subst q1; subst q2
    exact z_vret hx hb hr rfl hP hS hlocks (Nat.le_of_ble_eq_true rfl) (Nat.le_of_ble_eq_true rfl) dX4_next_358
set_option maxHeartbeats 4000000 in
set_option maxRecDepth 100000 in
theorem j_X4_next_101 {p : Program} {l : Launch} {e : Env} {s : State} {m : MethodId} {args : Array Value} {below : List Frame} {meth : Method} {c : Code} {D : va_G} {Y : Nat → ClassId} {S V : Nat → Nat} {G : Nat → Nat → Nat} {A : Nat → Prop} {c0 : Cond} (F : zF 1 1  0 0  p l s m args c cX4_next 3 RX4 c0 D Y S V G A) (hr : meth.sig.returnType = none) (hlocks : meth.locks = false) (hex : ∀ x ∈ c.exceptionTable.toList, False) (T : zT) {T' : zT} {v : Unit} {H : Heap} {locs : List Loc} {ls : Array Slot} (hf : jn_X4_next_101 T = some (v, T')) (hP : zP 1 D Y G T H) (hS : va_S A s.heap H locs) (hl : lv_has ls 3 [(0, .ref (G 0 0))]) :
    W p l e (zR 1  0 0 ) s m args below meth c H locs 0 0 (vx_MQ below (zQ 1 D Y G A (.inl none) T') (zX 1 D Y G A (.inl none) T') args s  0 0  A) (F0 m 101 ls []) := by
  obtain ⟨hx, hb, hml, hown, hts, hl9, hG, hK, hA⟩ := id F
  unfold jn_X4_next_101 at hf
  refine lv_iconst (v := 0) hx hb dX4_next_101 (by decide) ?_
  exact j_X4_next_102 F hr hlocks hex 0 T hf hP hS (lv_sub hl [0] rfl)
set_option maxHeartbeats 4000000 in
set_option maxRecDepth 100000 in
theorem j_X4_next_82 {p : Program} {l : Launch} {e : Env} {s : State} {m : MethodId} {args : Array Value} {below : List Frame} {meth : Method} {c : Code} {D : va_G} {Y : Nat → ClassId} {S V : Nat → Nat} {G : Nat → Nat → Nat} {A : Nat → Prop} {c0 : Cond} (F : zF 1 1  0 0  p l s m args c cX4_next 3 RX4 c0 D Y S V G A) (hr : meth.sig.returnType = none) (hlocks : meth.locks = false) (hex : ∀ x ∈ c.exceptionTable.toList, False) (w1 : Int32) (T : zT) {T' : zT} {v : Unit} {H : Heap} {locs : List Loc} {ls : Array Slot} (hf : jn_X4_next_82 w1 T = some (v, T')) (hP : zP 1 D Y G T H) (hS : va_S A s.heap H locs) (hl : lv_has ls 3 [(0, .ref (G 0 0)), (1, .int w1)]) :
    W p l e (zR 1  0 0 ) s m args below meth c H locs 0 0 (vx_MQ below (zQ 1 D Y G A (.inl none) T') (zX 1 D Y G A (.inl none) T') args s  0 0  A) (F0 m 82 ls []) := by
  obtain ⟨hx, hb, hml, hown, hts, hl9, hG, hK, hA⟩ := id F
  unfold jn_X4_next_82 at hf
  refine lv_iload_n hx hb dX4_next_82 rfl (lv_at hl 1 rfl) ?_
  refine lv_if_eq (tgt := 101) hx hb dX4_next_83 (by decide) (fun hc => ?_) (fun hc => ?_)
  · have hf := zif_p hf hc
    exact j_X4_next_101 F hr hlocks hex T hf hP hS (lv_sub hl [0] rfl)
  · have hf := zif_n hf hc
    refine lv_aload_n hx hb dX4_next_86 rfl (lv_at hl 0 rfl) ?_
    refine z_get hx hb hts (fun w h => List.mem_cons_of_mem _ (ziX4 w h)) hown hK hP (zV_m (by decide)) rfl rfl 19 (by decide) (List.mem_cons_of_mem _ m_1160) rfl rfl dX4_next_87 ?_
    refine lv_aload_n hx hb dX4_next_90 rfl (lv_at hl 0 rfl) ?_
    refine z_get hx hb hts (fun w h => List.mem_cons_of_mem _ (ziX4 w h)) hown hK hP (zV_m (by decide)) rfl rfl 20 (by decide) (List.mem_cons_of_mem _ m_1161) rfl rfl dX4_next_91 ?_
    refine lv_icmp_ne (tgt := 101) hx hb dX4_next_94 (by decide) (fun hc => ?_) (fun hc => ?_)
    · have hf := zif_n hf hc
      exact j_X4_next_101 F hr hlocks hex T hf hP hS (lv_sub hl [0] rfl)
    · have hf := zif_p hf hc
      refine lv_iconst (v := 1) hx hb dX4_next_97 (by decide) ?_
      refine lv_goto (tgt := 102) hx hb dX4_next_98 (by decide) ?_
      exact j_X4_next_102 F hr hlocks hex 1 T hf hP hS (lv_sub hl [0] rfl)
set_option maxHeartbeats 4000000 in
set_option maxRecDepth 100000 in
theorem j_X4_next_21 {p : Program} {l : Launch} {e : Env} {s : State} {m : MethodId} {args : Array Value} {below : List Frame} {meth : Method} {c : Code} {D : va_G} {Y : Nat → ClassId} {S V : Nat → Nat} {G : Nat → Nat → Nat} {A : Nat → Prop} {c0 : Cond} (F : zF 1 1  0 0  p l s m args c cX4_next 3 RX4 c0 D Y S V G A) (hr : meth.sig.returnType = none) (hlocks : meth.locks = false) (hex : ∀ x ∈ c.exceptionTable.toList, False) (z0 : Int32) (T : zT) {T' : zT} {v : Unit} {H : Heap} {locs : List Loc} {ls : Array Slot} (hf : jn_X4_next_21 z0 T = some (v, T')) (hP : zP 1 D Y G T H) (hS : va_S A s.heap H locs) (hl : lv_has ls 3 [(0, .ref (G 0 0))]) :
    W p l e (zR 1  0 0 ) s m args below meth c H locs 0 0 (vx_MQ below (zQ 1 D Y G A (.inl none) T') (zX 1 D Y G A (.inl none) T') args s  0 0  A) (F0 m 21 ls [.int z0]) := by
  obtain ⟨hx, hb, hml, hown, hts, hl9, hG, hK, hA⟩ := id F
  unfold jn_X4_next_21 at hf
  refine lv_istore_n (lv' := [(1, .int z0), (0, .ref (G 0 0))]) hx hb dX4_next_21 rfl hl (by decide) rfl (fun ls hl => ?_)
  refine lv_aload_n hx hb dX4_next_22 rfl (lv_at hl 1 rfl) ?_
  refine lv_aload_n hx hb dX4_next_23 rfl (lv_at hl 1 rfl) ?_
  refine z_get hx hb hts (fun w h => List.mem_cons_of_mem _ (ziX4 w h)) hown hK hP (zV_m (by decide)) rfl rfl 20 (by decide) (List.mem_cons_of_mem _ m_1161) rfl rfl dX4_next_24 ?_
  obtain ⟨x1, ex1, hf⟩ := zl_i hf
  refine z_topi ex1 ?_
  obtain ⟨T2, eT2, hf⟩ := zl_i hf
  refine z_put hx hb hts (fun w h => List.mem_cons_of_mem _ (ziX4 w h)) tyX4 tyX4_ok nmX4 hown hK hP hG hS (zV_m (by decide)) rfl rfl 19 (by decide) (List.mem_cons_of_mem _ m_1160) rfl rfl (by decide +kernel) (Nat.le_of_ble_eq_true rfl) rfl dX4_next_27 (fun H locs hP hS => ?_)
  rw [← eT2] at hP
  obtain ⟨v12, T11, h13, hf⟩ := zb_i hf
  refine l_X4_next_30 F ⟨Nat.le_of_ble_eq_true rfl, Nat.le_of_ble_eq_true rfl⟩ z0 2000  _ _ _ _ _ h13 hP hS (lv_sub hl [1, 0] rfl) (fun H locs ls hP hS hl => ?_)
  exact j_X4_next_82 F hr hlocks hex z0 T11 hf hP hS (lv_sub hl [0, 1] rfl)
set_option maxHeartbeats 4000000 in
set_option maxRecDepth 100000 in
theorem j_X4_next_16 {p : Program} {l : Launch} {e : Env} {s : State} {m : MethodId} {args : Array Value} {below : List Frame} {meth : Method} {c : Code} {D : va_G} {Y : Nat → ClassId} {S V : Nat → Nat} {G : Nat → Nat → Nat} {A : Nat → Prop} {c0 : Cond} (F : zF 1 1  0 0  p l s m args c cX4_next 3 RX4 c0 D Y S V G A) (hr : meth.sig.returnType = none) (hlocks : meth.locks = false) (hex : ∀ x ∈ c.exceptionTable.toList, False) (T : zT) {T' : zT} {v : Unit} {H : Heap} {locs : List Loc} {ls : Array Slot} (hf : jn_X4_next_16 T = some (v, T')) (hP : zP 1 D Y G T H) (hS : va_S A s.heap H locs) (hl : lv_has ls 3 [(0, .ref (G 0 0))]) :
    W p l e (zR 1  0 0 ) s m args below meth c H locs 0 0 (vx_MQ below (zQ 1 D Y G A (.inl none) T') (zX 1 D Y G A (.inl none) T') args s  0 0  A) (F0 m 16 ls []) := by
  obtain ⟨hx, hb, hml, hown, hts, hl9, hG, hK, hA⟩ := id F
  unfold jn_X4_next_16 at hf
  refine lv_iconst (v := 1) hx hb dX4_next_16 (by decide) ?_
  refine lv_goto (tgt := 21) hx hb dX4_next_17 (by decide) ?_
  exact j_X4_next_21 F hr hlocks hex 1 T hf hP hS (lv_sub hl [0] rfl)
set_option maxHeartbeats 4000000 in
set_option maxRecDepth 100000 in
theorem c_X4_next  (T T' : zT) (v : Unit) (hf : f_X4_next  T = some (v, T')) : zC 1 yX4_next cX4_next 3 none 1  0 0  (fun G _ => [.ref (G 0 0)]) T (fun _ => .inl none) T' := by
  intro l D Y S V G A hl9 hG
  refine vx_ofW (cc := cX4_next) (maxL := 3) (ret := none) (by decide) rfl ?_
  intro p e s m args below meth c s₁ B hml hex hv
  obtain ⟨rfl, hK, hP, hA⟩ := hv
  have hx := B.exec
  have hb := B.bytes
  have hr := B.returns
  have hlocks := B.notSynchronized
  have hown : s.vm.findClass RX4 = some m.cls := findClass_of_methodNamed B.named
  have hts := atoms_spec (ws := Cond.code yX4_next cX4_next 3 none :: zWS) B.pre
  have F : zF 1 1  0 0  p l s m _ c cX4_next 3 RX4 (Cond.code yX4_next cX4_next 3 none) D Y S V G A := ⟨hx, hb, hml, hown, hts, hl9, hG, hK, hA⟩
  have hS : va_S A s.heap s.heap [] := va_S.rf
  have hl := lv_entry ([.ref (G 0 0)]) (n := 3) (Nat.le_of_ble_eq_true rfl)
  rw [lg_entry_eq]
  generalize (lg_sl ([.ref (G 0 0)]) ++ List.replicate (3 - (lg_sl ([.ref (G 0 0)])).length) Slot.unset).toArray = ls at hl ⊢
  have hl : lv_has ls 3 [(0, .ref (G 0 0))] := hl
  unfold f_X4_next at hf
  refine lv_aload_n hx hb dX4_next_0 rfl (lv_at hl 0 rfl) ?_
  refine z_get hx hb hts (fun w h => List.mem_cons_of_mem _ (ziX4 w h)) hown hK hP (zV_m (by decide)) rfl rfl 18 (by decide) (List.mem_cons_of_mem _ m_1159) rfl rfl dX4_next_1 ?_
  refine lv_iconst (v := 1) hx hb dX4_next_4 (by decide) ?_
  refine lv_icmp_eq (tgt := 16) hx hb dX4_next_5 (by decide) (fun hc => ?_) (fun hc => ?_)
  · have hf := zif_p hf hc
    exact j_X4_next_16 F hr hlocks hex T hf hP hS (lv_sub hl [0] rfl)
  · have hf := zif_n hf hc
    refine lv_aload_n hx hb dX4_next_8 rfl (lv_at hl 0 rfl) ?_
    refine z_get hx hb hts (fun w h => List.mem_cons_of_mem _ (ziX4 w h)) hown hK hP (zV_m (by decide)) rfl rfl 18 (by decide) (List.mem_cons_of_mem _ m_1159) rfl rfl dX4_next_9 ?_
    refine lv_iconst (v := 2) hx hb dX4_next_12 (by decide) ?_
    refine lv_icmp_ne (tgt := 20) hx hb dX4_next_13 (by decide) (fun hc => ?_) (fun hc => ?_)
    · have hf := zif_n hf hc
      refine lv_iconst (v := 0) hx hb dX4_next_20 (by decide) ?_
      exact j_X4_next_21 F hr hlocks hex 0 T hf hP hS (lv_sub hl [0] rfl)
    · have hf := zif_p hf hc
      exact j_X4_next_16 F hr hlocks hex T hf hP hS (lv_sub hl [0] rfl)

def f_X4_errs (p0 : Int32) (T : zT) : Option (Unit × zT) := (if (T.1 0 0 22) = 0 then zl (wI T 0 0 22 p0) fun T1 => zl (T1.1 0 0 19) fun x2 => zl (wI T1 0 0 23 x2) fun T3 => some ((), T3) else some ((), T))
set_option maxHeartbeats 4000000 in
set_option maxRecDepth 100000 in
theorem c_X4_errs (p0 : Int32) (T T' : zT) (v : Unit) (hf : f_X4_errs p0 T = some (v, T')) : zC 1 yX4_errs cX4_errs 2 none 0  0 0  (fun G _ => [.ref (G 0 0), .int p0]) T (fun _ => .inl none) T' := by
  intro l D Y S V G A hl9 hG
  refine vx_ofW (cc := cX4_errs) (maxL := 2) (ret := none) (by decide) rfl ?_
  intro p e s m args below meth c s₁ B hml hex hv
  obtain ⟨rfl, hK, hP, hA⟩ := hv
  have hx := B.exec
  have hb := B.bytes
  have hr := B.returns
  have hlocks := B.notSynchronized
  have hown : s.vm.findClass RX4 = some m.cls := findClass_of_methodNamed B.named
  have hts := atoms_spec (ws := Cond.code yX4_errs cX4_errs 2 none :: zWS) B.pre
  have F : zF 1 0  0 0  p l s m _ c cX4_errs 2 RX4 (Cond.code yX4_errs cX4_errs 2 none) D Y S V G A := ⟨hx, hb, hml, hown, hts, hl9, hG, hK, hA⟩
  have hS : va_S A s.heap s.heap [] := va_S.rf
  have hl := lv_entry ([.ref (G 0 0), .int p0]) (n := 2) (Nat.le_of_ble_eq_true rfl)
  rw [lg_entry_eq]
  generalize (lg_sl ([.ref (G 0 0), .int p0]) ++ List.replicate (2 - (lg_sl ([.ref (G 0 0), .int p0])).length) Slot.unset).toArray = ls at hl ⊢
  have hl : lv_has ls 2 [(0, .ref (G 0 0)), (1, .int p0)] := hl
  unfold f_X4_errs at hf
  refine lv_aload_n hx hb dX4_errs_0 rfl (lv_at hl 0 rfl) ?_
  refine z_get hx hb hts (fun w h => List.mem_cons_of_mem _ (ziX4 w h)) hown hK hP (zV_m (by decide)) rfl rfl 22 (by decide) (List.mem_cons_of_mem _ m_1163) rfl rfl dX4_errs_1 ?_
  refine lv_if_ne (tgt := 20) hx hb dX4_errs_4 (by decide) (fun hc => ?_) (fun hc => ?_)
  · have hf := zif_n hf hc
    obtain ⟨q1, q2⟩ := zs_i hf
    subst q1; subst q2
    exact z_vret hx hb hr rfl hP hS hlocks (Nat.le_of_ble_eq_true rfl) (Nat.le_of_ble_eq_true rfl) dX4_errs_20
  · have hf := zif_p hf hc
    refine lv_aload_n hx hb dX4_errs_7 rfl (lv_at hl 0 rfl) ?_
    refine lv_iload_n hx hb dX4_errs_8 rfl (lv_at hl 1 rfl) ?_
    obtain ⟨T1, eT1, hf⟩ := zl_i hf
    refine z_put hx hb hts (fun w h => List.mem_cons_of_mem _ (ziX4 w h)) tyX4 tyX4_ok nmX4 hown hK hP hG hS (zV_m (by decide)) rfl rfl 22 (by decide) (List.mem_cons_of_mem _ m_1163) rfl rfl (by decide +kernel) (Nat.le_of_ble_eq_true rfl) rfl dX4_errs_9 (fun H locs hP hS => ?_)
    rw [← eT1] at hP
    refine lv_aload_n hx hb dX4_errs_12 rfl (lv_at hl 0 rfl) ?_
    refine lv_aload_n hx hb dX4_errs_13 rfl (lv_at hl 0 rfl) ?_
    refine z_get hx hb hts (fun w h => List.mem_cons_of_mem _ (ziX4 w h)) hown hK hP (zV_m (by decide)) rfl rfl 19 (by decide) (List.mem_cons_of_mem _ m_1160) rfl rfl dX4_errs_14 ?_
    obtain ⟨x2, ex2, hf⟩ := zl_i hf
    refine z_topi ex2 ?_
    obtain ⟨T3, eT3, hf⟩ := zl_i hf
    refine z_put hx hb hts (fun w h => List.mem_cons_of_mem _ (ziX4 w h)) tyX4 tyX4_ok nmX4 hown hK hP hG hS (zV_m (by decide)) rfl rfl 23 (by decide) (List.mem_cons_of_mem _ m_1164) rfl rfl (by decide +kernel) (Nat.le_of_ble_eq_true rfl) rfl dX4_errs_17 (fun H locs hP hS => ?_)
    rw [← eT3] at hP
    obtain ⟨q1, q2⟩ := zs_i hf
    subst q1; subst q2
    exact z_vret hx hb hr rfl hP hS hlocks (Nat.le_of_ble_eq_true rfl) (Nat.le_of_ble_eq_true rfl) dX4_errs_20

def lp_X4_isKey_26 (w1 : Int32) : Nat → Int32 → zT → Option ((Nat × Int32) × zT)
  | 0, _, _ => none
  | n + 1, u2, T => (if 8 ≤ u2 then some ((1, u2), T) else (if ((T.1 0 0 20) - (T.1 0 0 19)) ≤ u2 then zl ((8 * w1) + u2) fun x2 => if zin x2 80 = true then (if 0 = (T.2 1 0 x2.toNatClampNeg) then zl (u2 + 1) fun x3 => lp_X4_isKey_26 w1 n x3 T else some ((0, u2), T)) else none else zl ((T.1 0 0 19) + u2) fun x5 => if zin x5 600 = true then zl (T.2 7 0 x5.toNatClampNeg) fun x6 => zl ((8 * w1) + u2) fun x8 => if zin x8 80 = true then (if x6 = (T.2 1 0 x8.toNatClampNeg) then zl (u2 + 1) fun x9 => lp_X4_isKey_26 w1 n x9 T else some ((0, u2), T)) else none else none))
def f_X4_isKey (p0 : Int32) (T : zT) : Option (Int32 × zT) := (if (T.1 0 0 18) = 1 then (if ((T.1 0 0 20) - (T.1 0 0 19)) ≤ 8 then zb (lp_X4_isKey_26 p0 2000 0 T) fun v11 T10 => if v11.1 = 0 then some (0, T10) else if v11.1 = 1 then some (1, T10) else none else some (0, T)) else some (0, T))
set_option maxHeartbeats 4000000 in
set_option maxRecDepth 100000 in
theorem l_X4_isKey_26 {p : Program} {l : Launch} {e : Env} {s : State} {m : MethodId} {args : Array Value} {below : List Frame} {meth : Method} {c : Code} {Q : State → Prop} {D : va_G} {Y : Nat → ClassId} {S V : Nat → Nat} {G : Nat → Nat → Nat} {A : Nat → Prop} {c0 : Cond} {mc ms cells slots : Nat} (F : zF 1 0 mc ms p l s m args c cX4_isKey 4 RX4 c0 D Y S V G A) (hcs : cells ≤ mc ∧ slots ≤ ms) (w1 : Int32) :
    ∀ (n : Nat) (u2 : Int32) (T : zT) (o : (Nat × Int32) × zT) (H : Heap) (locs : List Loc) (ls : Array Slot), lp_X4_isKey_26 w1 n u2 T = some o → zP 1 D Y G T H → va_S A s.heap H locs → lv_has ls 4 [(0, .ref (G 0 0)), (1, .int w1), (2, .int u2)] → (o.1.1 = 0 → ∀ (H : Heap) (locs : List Loc) (ls : Array Slot), zP 1 D Y G o.2 H → va_S A s.heap H locs → lv_has ls 4 [(0, .ref (G 0 0)), (1, .int w1), (2, .int o.1.2)] → W p l e (zR 0 mc ms) s m args below meth c H locs cells slots Q (F0 m 76 ls [])) → (o.1.1 = 1 → ∀ (H : Heap) (locs : List Loc) (ls : Array Slot), zP 1 D Y G o.2 H → va_S A s.heap H locs → lv_has ls 4 [(0, .ref (G 0 0)), (1, .int w1), (2, .int o.1.2)] → W p l e (zR 0 mc ms) s m args below meth c H locs cells slots Q (F0 m 84 ls [])) → W p l e (zR 0 mc ms) s m args below meth c H locs cells slots Q (F0 m 26 ls []) := by
  obtain ⟨hx, hb, hml, hown, hts, hl9, hG, hK, hA⟩ := id F
  intro n
  induction n with
  | zero =>
    intro u2 T o H locs ls hf
    rw [lp_X4_isKey_26] at hf
    cases hf
  | succ n ih =>
    intro u2 T o H locs ls hf hP hS hl k0_ k1_
    rw [lp_X4_isKey_26] at hf
    refine lv_iload_n hx hb dX4_isKey_26 rfl (lv_at hl 2 rfl) ?_
    refine lv_bipush (v := 8) hx hb dX4_isKey_27 (by decide) ?_
    refine lv_icmp_ge (tgt := 84) hx hb dX4_isKey_29 (by decide) (fun hc => ?_) (fun hc => ?_)
    · have hf := zif_p hf hc
      cases hf
      exact k1_ rfl _ _ _ hP hS (lv_sub hl [0, 1, 2] rfl)
    · have hf := zif_n hf hc
      refine lv_iload_n hx hb dX4_isKey_32 rfl (lv_at hl 2 rfl) ?_
      refine lv_aload_n hx hb dX4_isKey_33 rfl (lv_at hl 0 rfl) ?_
      refine z_get hx hb hts (fun w h => List.mem_cons_of_mem _ (ziX4 w h)) hown hK hP (zV_m (by decide)) rfl rfl 20 (by decide) (List.mem_cons_of_mem _ m_1161) rfl rfl dX4_isKey_34 ?_
      refine lv_aload_n hx hb dX4_isKey_37 rfl (lv_at hl 0 rfl) ?_
      refine z_get hx hb hts (fun w h => List.mem_cons_of_mem _ (ziX4 w h)) hown hK hP (zV_m (by decide)) rfl rfl 19 (by decide) (List.mem_cons_of_mem _ m_1160) rfl rfl dX4_isKey_38 ?_
      refine lv_isub hx hb dX4_isKey_41 ?_
      refine lv_icmp_ge (tgt := 59) hx hb dX4_isKey_42 (by decide) (fun hc => ?_) (fun hc => ?_)
      · have hf := zif_p hf hc
        refine lv_iconst (v := 0) hx hb dX4_isKey_59 (by decide) ?_
        refine lv_istore_n (lv' := [(3, .int 0), (0, .ref (G 0 0)), (1, .int w1), (2, .int u2)]) hx hb dX4_isKey_60 rfl hl (by decide) rfl (fun ls hl => ?_)
        refine lv_iload_n hx hb dX4_isKey_61 rfl (lv_at hl 0 rfl) ?_
        refine lv_aload_n hx hb dX4_isKey_62 rfl (lv_at hl 1 rfl) ?_
        refine z_get hx hb hts (fun w h => List.mem_cons_of_mem _ (ziX4 w h)) hown hK hP (zV_m (by decide)) rfl rfl 0 (by decide) (List.mem_cons_of_mem _ m_1141) rfl rfl dX4_isKey_63 ?_
        refine lv_bipush (v := 8) hx hb dX4_isKey_66 (by decide) ?_
        refine lv_iload_n hx hb dX4_isKey_68 rfl (lv_at hl 2 rfl) ?_
        refine lv_imul hx hb dX4_isKey_69 ?_
        refine lv_iload_n hx hb dX4_isKey_70 rfl (lv_at hl 3 rfl) ?_
        refine lv_iadd hx hb dX4_isKey_71 ?_
        obtain ⟨x2, ex2, hf⟩ := zl_i hf
        refine z_topi ex2 ?_
        obtain ⟨h1, hf⟩ := zif_c hf
        refine z_iald hx hb hK hP (zIA_m (by decide) (by decide)) (zin_i h1) dX4_isKey_72 ?_
        refine lv_icmp_eq (tgt := 78) hx hb dX4_isKey_73 (by decide) (fun hc => ?_) (fun hc => ?_)
        · have hf := zif_p hf hc
          obtain ⟨x3, ex3, hf⟩ := zl_i hf
          refine lv_iinc (v := x3) (lv' := [(2, .int x3), (3, .int 0), (0, .ref (G 0 0)), (1, .int w1)]) hx hb dX4_isKey_78 hl (k := 3) rfl (by rw [ex3]; rfl) (by decide) rfl (fun ls hl => ?_)
          refine lv_goto (tgt := 26) hx hb dX4_isKey_81 (by decide) ?_
          exact ih x3 _ _ _ _ _ hf hP hS (lv_sub hl [2, 3, 0] rfl) k0_ k1_
        · have hf := zif_n hf hc
          cases hf
          exact k0_ rfl _ _ _ hP hS (lv_sub hl [1, 2, 3] rfl)
      · have hf := zif_n hf hc
        refine lv_aload_n hx hb dX4_isKey_45 rfl (lv_at hl 0 rfl) ?_
        refine z_get hx hb hts (fun w h => List.mem_cons_of_mem _ (ziX4 w h)) hown hK hP (zV_m (by decide)) rfl rfl 9 (by decide) (List.mem_cons_of_mem _ m_1150) rfl rfl dX4_isKey_46 ?_
        refine lv_aload_n hx hb dX4_isKey_49 rfl (lv_at hl 0 rfl) ?_
        refine z_get hx hb hts (fun w h => List.mem_cons_of_mem _ (ziX4 w h)) hown hK hP (zV_m (by decide)) rfl rfl 19 (by decide) (List.mem_cons_of_mem _ m_1160) rfl rfl dX4_isKey_50 ?_
        refine lv_iload_n hx hb dX4_isKey_53 rfl (lv_at hl 2 rfl) ?_
        refine lv_iadd hx hb dX4_isKey_54 ?_
        obtain ⟨x5, ex5, hf⟩ := zl_i hf
        refine z_topi ex5 ?_
        obtain ⟨h4, hf⟩ := zif_c hf
        refine z_bald hx hb hK hP (zV_m (by decide)) rfl (zin_i h4) dX4_isKey_55 ?_
        refine lv_goto (tgt := 60) hx hb dX4_isKey_56 (by decide) ?_
        obtain ⟨x6, ex6, hf⟩ := zl_i hf
        refine z_topi ex6 ?_
        refine lv_istore_n (lv' := [(3, .int x6), (0, .ref (G 0 0)), (1, .int w1), (2, .int u2)]) hx hb dX4_isKey_60 rfl hl (by decide) rfl (fun ls hl => ?_)
        refine lv_iload_n hx hb dX4_isKey_61 rfl (lv_at hl 0 rfl) ?_
        refine lv_aload_n hx hb dX4_isKey_62 rfl (lv_at hl 1 rfl) ?_
        refine z_get hx hb hts (fun w h => List.mem_cons_of_mem _ (ziX4 w h)) hown hK hP (zV_m (by decide)) rfl rfl 0 (by decide) (List.mem_cons_of_mem _ m_1141) rfl rfl dX4_isKey_63 ?_
        refine lv_bipush (v := 8) hx hb dX4_isKey_66 (by decide) ?_
        refine lv_iload_n hx hb dX4_isKey_68 rfl (lv_at hl 2 rfl) ?_
        refine lv_imul hx hb dX4_isKey_69 ?_
        refine lv_iload_n hx hb dX4_isKey_70 rfl (lv_at hl 3 rfl) ?_
        refine lv_iadd hx hb dX4_isKey_71 ?_
        obtain ⟨x8, ex8, hf⟩ := zl_i hf
        refine z_topi ex8 ?_
        obtain ⟨h7, hf⟩ := zif_c hf
        refine z_iald hx hb hK hP (zIA_m (by decide) (by decide)) (zin_i h7) dX4_isKey_72 ?_
        refine lv_icmp_eq (tgt := 78) hx hb dX4_isKey_73 (by decide) (fun hc => ?_) (fun hc => ?_)
        · have hf := zif_p hf hc
          obtain ⟨x9, ex9, hf⟩ := zl_i hf
          refine lv_iinc (v := x9) (lv' := [(2, .int x9), (3, .int x6), (0, .ref (G 0 0)), (1, .int w1)]) hx hb dX4_isKey_78 hl (k := 3) rfl (by rw [ex9]; rfl) (by decide) rfl (fun ls hl => ?_)
          refine lv_goto (tgt := 26) hx hb dX4_isKey_81 (by decide) ?_
          exact ih x9 _ _ _ _ _ hf hP hS (lv_sub hl [2, 3, 0] rfl) k0_ k1_
        · have hf := zif_n hf hc
          cases hf
          exact k0_ rfl _ _ _ hP hS (lv_sub hl [1, 2, 3] rfl)
set_option maxHeartbeats 4000000 in
set_option maxRecDepth 100000 in
theorem c_X4_isKey (p0 : Int32) (T T' : zT) (v : Int32) (hf : f_X4_isKey p0 T = some (v, T')) : zC 1 yX4_isKey cX4_isKey 4 (some .boolean) 0  0 0  (fun G _ => [.ref (G 0 0), .int p0]) T (fun _ => .inl (some (.int v))) T' := by
  intro l D Y S V G A hl9 hG
  refine vx_ofW (cc := cX4_isKey) (maxL := 4) (ret := (some .boolean)) (by decide) rfl ?_
  intro p e s m args below meth c s₁ B hml hex hv
  obtain ⟨rfl, hK, hP, hA⟩ := hv
  have hx := B.exec
  have hb := B.bytes
  have hr := B.returns
  have hlocks := B.notSynchronized
  have hown : s.vm.findClass RX4 = some m.cls := findClass_of_methodNamed B.named
  have hts := atoms_spec (ws := Cond.code yX4_isKey cX4_isKey 4 (some .boolean) :: zWS) B.pre
  have F : zF 1 0  0 0  p l s m _ c cX4_isKey 4 RX4 (Cond.code yX4_isKey cX4_isKey 4 (some .boolean)) D Y S V G A := ⟨hx, hb, hml, hown, hts, hl9, hG, hK, hA⟩
  have hS : va_S A s.heap s.heap [] := va_S.rf
  have hl := lv_entry ([.ref (G 0 0), .int p0]) (n := 4) (Nat.le_of_ble_eq_true rfl)
  rw [lg_entry_eq]
  generalize (lg_sl ([.ref (G 0 0), .int p0]) ++ List.replicate (4 - (lg_sl ([.ref (G 0 0), .int p0])).length) Slot.unset).toArray = ls at hl ⊢
  have hl : lv_has ls 4 [(0, .ref (G 0 0)), (1, .int p0)] := hl
  unfold f_X4_isKey at hf
  refine lv_aload_n hx hb dX4_isKey_0 rfl (lv_at hl 0 rfl) ?_
  refine z_get hx hb hts (fun w h => List.mem_cons_of_mem _ (ziX4 w h)) hown hK hP (zV_m (by decide)) rfl rfl 18 (by decide) (List.mem_cons_of_mem _ m_1159) rfl rfl dX4_isKey_1 ?_
  refine lv_iconst (v := 1) hx hb dX4_isKey_4 (by decide) ?_
  refine lv_icmp_ne (tgt := 22) hx hb dX4_isKey_5 (by decide) (fun hc => ?_) (fun hc => ?_)
  · have hf := zif_n hf hc
    refine lv_iconst (v := 0) hx hb dX4_isKey_22 (by decide) ?_
    obtain ⟨q1, q2⟩ := zs_i hf
    subst q1; subst q2
    exact z_zret hx hb hr (Or.inl rfl) rfl hP hS hlocks (Nat.le_of_ble_eq_true rfl) (Nat.le_of_ble_eq_true rfl) dX4_isKey_23
  · have hf := zif_p hf hc
    refine lv_aload_n hx hb dX4_isKey_8 rfl (lv_at hl 0 rfl) ?_
    refine z_get hx hb hts (fun w h => List.mem_cons_of_mem _ (ziX4 w h)) hown hK hP (zV_m (by decide)) rfl rfl 20 (by decide) (List.mem_cons_of_mem _ m_1161) rfl rfl dX4_isKey_9 ?_
    refine lv_aload_n hx hb dX4_isKey_12 rfl (lv_at hl 0 rfl) ?_
    refine z_get hx hb hts (fun w h => List.mem_cons_of_mem _ (ziX4 w h)) hown hK hP (zV_m (by decide)) rfl rfl 19 (by decide) (List.mem_cons_of_mem _ m_1160) rfl rfl dX4_isKey_13 ?_
    refine lv_isub hx hb dX4_isKey_16 ?_
    refine lv_bipush (v := 8) hx hb dX4_isKey_17 (by decide) ?_
    refine lv_icmp_le (tgt := 24) hx hb dX4_isKey_19 (by decide) (fun hc => ?_) (fun hc => ?_)
    · have hf := zif_p hf hc
      refine lv_iconst (v := 0) hx hb dX4_isKey_24 (by decide) ?_
      refine lv_istore_n (lv' := [(2, .int 0), (0, .ref (G 0 0)), (1, .int p0)]) hx hb dX4_isKey_25 rfl hl (by decide) rfl (fun ls hl => ?_)
      obtain ⟨v11, T10, h12, hf⟩ := zb_i hf
      refine l_X4_isKey_26 F ⟨Nat.le_of_ble_eq_true rfl, Nat.le_of_ble_eq_true rfl⟩ p0 2000 0 _ _ _ _ _ h12 hP hS (lv_sub hl [1, 2, 0] rfl) (fun hc H locs ls hP hS hl => ?_) (fun hc H locs ls hP hS hl => ?_)
      · have hf := zif_p hf hc
        refine lv_iconst (v := 0) hx hb dX4_isKey_76 (by decide) ?_
        obtain ⟨q1, q2⟩ := zs_i hf
        subst q1; subst q2
        exact z_zret hx hb hr (Or.inl rfl) rfl hP hS hlocks (Nat.le_of_ble_eq_true rfl) (Nat.le_of_ble_eq_true rfl) dX4_isKey_77
      · have hf := zif_n hf (by rw [hc]; decide)
        have hf := zif_p hf hc
        refine lv_iconst (v := 1) hx hb dX4_isKey_84 (by decide) ?_
        obtain ⟨q1, q2⟩ := zs_i hf
        subst q1; subst q2
        exact z_zret hx hb hr (Or.inr rfl) rfl hP hS hlocks (Nat.le_of_ble_eq_true rfl) (Nat.le_of_ble_eq_true rfl) dX4_isKey_85
    · have hf := zif_n hf hc
      refine lv_iconst (v := 0) hx hb dX4_isKey_22 (by decide) ?_
      obtain ⟨q1, q2⟩ := zs_i hf
      subst q1; subst q2
      exact z_zret hx hb hr (Or.inl rfl) rfl hP hS hlocks (Nat.le_of_ble_eq_true rfl) (Nat.le_of_ble_eq_true rfl) dX4_isKey_23

def f_X4_goesOn  (T : zT) : Option (Unit × zT) := (if (T.1 0 0 22) = 0 then zb (f_X4_next T) fun _v2 T1 => some ((), T1) else some ((), T))
set_option maxHeartbeats 4000000 in
set_option maxRecDepth 100000 in
theorem c_X4_goesOn  (T T' : zT) (v : Unit) (hf : f_X4_goesOn  T = some (v, T')) : zC 1 yX4_goesOn cX4_goesOn 1 none 2  0 0  (fun G _ => [.ref (G 0 0)]) T (fun _ => .inl none) T' := by
  intro l D Y S V G A hl9 hG
  refine vx_ofW (cc := cX4_goesOn) (maxL := 1) (ret := none) (by decide) rfl ?_
  intro p e s m args below meth c s₁ B hml hex hv
  obtain ⟨rfl, hK, hP, hA⟩ := hv
  have hx := B.exec
  have hb := B.bytes
  have hr := B.returns
  have hlocks := B.notSynchronized
  have hown : s.vm.findClass RX4 = some m.cls := findClass_of_methodNamed B.named
  have hts := atoms_spec (ws := Cond.code yX4_goesOn cX4_goesOn 1 none :: zWS) B.pre
  have F : zF 1 2  0 0  p l s m _ c cX4_goesOn 1 RX4 (Cond.code yX4_goesOn cX4_goesOn 1 none) D Y S V G A := ⟨hx, hb, hml, hown, hts, hl9, hG, hK, hA⟩
  have hS : va_S A s.heap s.heap [] := va_S.rf
  have hl := lv_entry ([.ref (G 0 0)]) (n := 1) (Nat.le_of_ble_eq_true rfl)
  rw [lg_entry_eq]
  generalize (lg_sl ([.ref (G 0 0)]) ++ List.replicate (1 - (lg_sl ([.ref (G 0 0)])).length) Slot.unset).toArray = ls at hl ⊢
  have hl : lv_has ls 1 [(0, .ref (G 0 0))] := hl
  unfold f_X4_goesOn at hf
  refine lv_aload_n hx hb dX4_goesOn_0 rfl (lv_at hl 0 rfl) ?_
  refine z_get hx hb hts (fun w h => List.mem_cons_of_mem _ (ziX4 w h)) hown hK hP (zV_m (by decide)) rfl rfl 22 (by decide) (List.mem_cons_of_mem _ m_1163) rfl rfl dX4_goesOn_1 ?_
  refine lv_if_ne (tgt := 11) hx hb dX4_goesOn_4 (by decide) (fun hc => ?_) (fun hc => ?_)
  · have hf := zif_n hf hc
    obtain ⟨q1, q2⟩ := zs_i hf
    subst q1; subst q2
    exact z_vret hx hb hr rfl hP hS hlocks (Nat.le_of_ble_eq_true rfl) (Nat.le_of_ble_eq_true rfl) dX4_goesOn_11
  · have hf := zif_p hf hc
    refine lv_aload_n hx hb dX4_goesOn_7 rfl (lv_at hl 0 rfl) ?_
    obtain ⟨v2, T1, h3, hf⟩ := zb_i hf
    refine z_ok (z_runV (As := []) (rest := []) F k_X4_next m_1249 (c_X4_next T T1 _ h3) hP hS (zV_m (by decide)) rfl rfl rfl rfl hl.1 (Nat.le_of_ble_eq_true rfl) dX4_goesOn_8 (Nat.le_of_ble_eq_true rfl) ⟨Nat.le_of_ble_eq_true rfl, Nat.le_of_ble_eq_true rfl⟩ rfl) hS (fun H locs hP hS => ?_)
    obtain ⟨q1, q2⟩ := zs_i hf
    subst q1; subst q2
    exact z_vret hx hb hr rfl hP hS hlocks (Nat.le_of_ble_eq_true rfl) (Nat.le_of_ble_eq_true rfl) dX4_goesOn_11

def jn_X4_here_20 (w1 : Int32) (w2 : Int32) (T : zT) : Option (Int32 × zT) := (if (T.1 0 0 22) = 0 then zb (f_X4_in (T.1 0 0 21) w1 w2 T) fun v2 T1 => (if v2 = 0 then zb (f_X4_errs 2 T1) fun _v5 T4 => (if (T4.1 0 0 22) = 0 then some ((T4.1 0 0 21), T4) else some (w1, T4)) else (if (T1.1 0 0 22) = 0 then some ((T1.1 0 0 21), T1) else some (w1, T1))) else (if (T.1 0 0 22) = 0 then some ((T.1 0 0 21), T) else some (w1, T)))
def f_X4_here (p0 : Int32) (p1 : Int32) (T : zT) : Option (Int32 × zT) := (if (T.1 0 0 22) = 0 then (if (T.1 0 0 18) = 2 then jn_X4_here_20 p0 p1 T else zb (f_X4_errs 1 T) fun _v8 T7 => jn_X4_here_20 p0 p1 T7) else jn_X4_here_20 p0 p1 T)
set_option maxHeartbeats 4000000 in
set_option maxRecDepth 100000 in
theorem j_X4_here_20 {p : Program} {l : Launch} {e : Env} {s : State} {m : MethodId} {args : Array Value} {below : List Frame} {meth : Method} {c : Code} {D : va_G} {Y : Nat → ClassId} {S V : Nat → Nat} {G : Nat → Nat → Nat} {A : Nat → Prop} {c0 : Cond} (F : zF 1 1  0 0  p l s m args c cX4_here 3 RX4 c0 D Y S V G A) (hr : meth.sig.returnType = (some .int)) (hlocks : meth.locks = false) (hex : ∀ x ∈ c.exceptionTable.toList, False) (w1 : Int32) (w2 : Int32) (T : zT) {T' : zT} {v : Int32} {H : Heap} {locs : List Loc} {ls : Array Slot} (hf : jn_X4_here_20 w1 w2 T = some (v, T')) (hP : zP 1 D Y G T H) (hS : va_S A s.heap H locs) (hl : lv_has ls 3 [(0, .ref (G 0 0)), (1, .int w1), (2, .int w2)]) :
    W p l e (zR 1  0 0 ) s m args below meth c H locs 0 0 (vx_MQ below (zQ 1 D Y G A (.inl (some (.int v))) T') (zX 1 D Y G A (.inl (some (.int v))) T') args s  0 0  A) (F0 m 20 ls []) := by
  obtain ⟨hx, hb, hml, hown, hts, hl9, hG, hK, hA⟩ := id F
  unfold jn_X4_here_20 at hf
  refine lv_aload_n hx hb dX4_here_20 rfl (lv_at hl 0 rfl) ?_
  refine z_get hx hb hts (fun w h => List.mem_cons_of_mem _ (ziX4 w h)) hown hK hP (zV_m (by decide)) rfl rfl 22 (by decide) (List.mem_cons_of_mem _ m_1163) rfl rfl dX4_here_21 ?_
  refine lv_if_ne (tgt := 44) hx hb dX4_here_24 (by decide) (fun hc => ?_) (fun hc => ?_)
  · have hf := zif_n hf hc
    refine lv_aload_n hx hb dX4_here_44 rfl (lv_at hl 0 rfl) ?_
    refine z_get hx hb hts (fun w h => List.mem_cons_of_mem _ (ziX4 w h)) hown hK hP (zV_m (by decide)) rfl rfl 22 (by decide) (List.mem_cons_of_mem _ m_1163) rfl rfl dX4_here_45 ?_
    refine lv_if_ne (tgt := 58) hx hb dX4_here_48 (by decide) (fun hc => ?_) (fun hc => ?_)
    · have hf := zif_n hf hc
      refine lv_iload_n hx hb dX4_here_58 rfl (lv_at hl 1 rfl) ?_
      obtain ⟨q1, q2⟩ := zs_i hf
      subst q1; subst q2
      exact z_iret hx hb hr rfl hP hS hlocks (Nat.le_of_ble_eq_true rfl) (Nat.le_of_ble_eq_true rfl) dX4_here_59
    · have hf := zif_p hf hc
      refine lv_aload_n hx hb dX4_here_51 rfl (lv_at hl 0 rfl) ?_
      refine z_get hx hb hts (fun w h => List.mem_cons_of_mem _ (ziX4 w h)) hown hK hP (zV_m (by decide)) rfl rfl 21 (by decide) (List.mem_cons_of_mem _ m_1162) rfl rfl dX4_here_52 ?_
      refine lv_goto (tgt := 59) hx hb dX4_here_55 (by decide) ?_
      obtain ⟨q1, q2⟩ := zs_i hf
      subst q1; subst q2
      exact z_iret hx hb hr rfl hP hS hlocks (Nat.le_of_ble_eq_true rfl) (Nat.le_of_ble_eq_true rfl) dX4_here_59
  · have hf := zif_p hf hc
    refine lv_aload_n hx hb dX4_here_27 rfl (lv_at hl 0 rfl) ?_
    refine z_get hx hb hts (fun w h => List.mem_cons_of_mem _ (ziX4 w h)) hown hK hP (zV_m (by decide)) rfl rfl 21 (by decide) (List.mem_cons_of_mem _ m_1162) rfl rfl dX4_here_28 ?_
    refine lv_iload_n hx hb dX4_here_31 rfl (lv_at hl 1 rfl) ?_
    refine lv_iload_n hx hb dX4_here_32 rfl (lv_at hl 2 rfl) ?_
    obtain ⟨v2, T1, h3, hf⟩ := zb_i hf
    refine z_ok (z_runS (As := [.int (T.1 0 0 21), .int w1, .int w2]) (rest := []) F k_X4_in m_1238 (c_X4_in (T.1 0 0 21) w1 w2 T T1 _ h3) hP hS rfl rfl hl.1 (Nat.le_of_ble_eq_true rfl) dX4_here_33 (Nat.le_of_ble_eq_true rfl) ⟨Nat.le_of_ble_eq_true rfl, Nat.le_of_ble_eq_true rfl⟩ rfl) hS (fun H locs hP hS => ?_)
    refine lv_if_ne (tgt := 44) hx hb dX4_here_36 (by decide) (fun hc => ?_) (fun hc => ?_)
    · have hf := zif_n hf hc
      refine lv_aload_n hx hb dX4_here_44 rfl (lv_at hl 0 rfl) ?_
      refine z_get hx hb hts (fun w h => List.mem_cons_of_mem _ (ziX4 w h)) hown hK hP (zV_m (by decide)) rfl rfl 22 (by decide) (List.mem_cons_of_mem _ m_1163) rfl rfl dX4_here_45 ?_
      refine lv_if_ne (tgt := 58) hx hb dX4_here_48 (by decide) (fun hc => ?_) (fun hc => ?_)
      · have hf := zif_n hf hc
        refine lv_iload_n hx hb dX4_here_58 rfl (lv_at hl 1 rfl) ?_
        obtain ⟨q1, q2⟩ := zs_i hf
        subst q1; subst q2
        exact z_iret hx hb hr rfl hP hS hlocks (Nat.le_of_ble_eq_true rfl) (Nat.le_of_ble_eq_true rfl) dX4_here_59
      · have hf := zif_p hf hc
        refine lv_aload_n hx hb dX4_here_51 rfl (lv_at hl 0 rfl) ?_
        refine z_get hx hb hts (fun w h => List.mem_cons_of_mem _ (ziX4 w h)) hown hK hP (zV_m (by decide)) rfl rfl 21 (by decide) (List.mem_cons_of_mem _ m_1162) rfl rfl dX4_here_52 ?_
        refine lv_goto (tgt := 59) hx hb dX4_here_55 (by decide) ?_
        obtain ⟨q1, q2⟩ := zs_i hf
        subst q1; subst q2
        exact z_iret hx hb hr rfl hP hS hlocks (Nat.le_of_ble_eq_true rfl) (Nat.le_of_ble_eq_true rfl) dX4_here_59
    · have hf := zif_p hf hc
      refine lv_aload_n hx hb dX4_here_39 rfl (lv_at hl 0 rfl) ?_
      refine lv_iconst (v := 2) hx hb dX4_here_40 (by decide) ?_
      obtain ⟨v5, T4, h6, hf⟩ := zb_i hf
      refine z_ok (z_runV (As := [.int 2]) (rest := []) F k_X4_errs m_1263 (c_X4_errs 2 T1 T4 _ h6) hP hS (zV_m (by decide)) rfl rfl rfl rfl hl.1 (Nat.le_of_ble_eq_true rfl) dX4_here_41 (Nat.le_of_ble_eq_true rfl) ⟨Nat.le_of_ble_eq_true rfl, Nat.le_of_ble_eq_true rfl⟩ rfl) hS (fun H locs hP hS => ?_)
      refine lv_aload_n hx hb dX4_here_44 rfl (lv_at hl 0 rfl) ?_
      refine z_get hx hb hts (fun w h => List.mem_cons_of_mem _ (ziX4 w h)) hown hK hP (zV_m (by decide)) rfl rfl 22 (by decide) (List.mem_cons_of_mem _ m_1163) rfl rfl dX4_here_45 ?_
      refine lv_if_ne (tgt := 58) hx hb dX4_here_48 (by decide) (fun hc => ?_) (fun hc => ?_)
      · have hf := zif_n hf hc
        refine lv_iload_n hx hb dX4_here_58 rfl (lv_at hl 1 rfl) ?_
        obtain ⟨q1, q2⟩ := zs_i hf
        subst q1; subst q2
        exact z_iret hx hb hr rfl hP hS hlocks (Nat.le_of_ble_eq_true rfl) (Nat.le_of_ble_eq_true rfl) dX4_here_59
      · have hf := zif_p hf hc
        refine lv_aload_n hx hb dX4_here_51 rfl (lv_at hl 0 rfl) ?_
        refine z_get hx hb hts (fun w h => List.mem_cons_of_mem _ (ziX4 w h)) hown hK hP (zV_m (by decide)) rfl rfl 21 (by decide) (List.mem_cons_of_mem _ m_1162) rfl rfl dX4_here_52 ?_
        refine lv_goto (tgt := 59) hx hb dX4_here_55 (by decide) ?_
        obtain ⟨q1, q2⟩ := zs_i hf
        subst q1; subst q2
        exact z_iret hx hb hr rfl hP hS hlocks (Nat.le_of_ble_eq_true rfl) (Nat.le_of_ble_eq_true rfl) dX4_here_59
set_option maxHeartbeats 4000000 in
set_option maxRecDepth 100000 in
theorem c_X4_here (p0 : Int32) (p1 : Int32) (T T' : zT) (v : Int32) (hf : f_X4_here p0 p1 T = some (v, T')) : zC 1 yX4_here cX4_here 3 (some .int) 1  0 0  (fun G _ => [.ref (G 0 0), .int p0, .int p1]) T (fun _ => .inl (some (.int v))) T' := by
  intro l D Y S V G A hl9 hG
  refine vx_ofW (cc := cX4_here) (maxL := 3) (ret := (some .int)) (by decide) rfl ?_
  intro p e s m args below meth c s₁ B hml hex hv
  obtain ⟨rfl, hK, hP, hA⟩ := hv
  have hx := B.exec
  have hb := B.bytes
  have hr := B.returns
  have hlocks := B.notSynchronized
  have hown : s.vm.findClass RX4 = some m.cls := findClass_of_methodNamed B.named
  have hts := atoms_spec (ws := Cond.code yX4_here cX4_here 3 (some .int) :: zWS) B.pre
  have F : zF 1 1  0 0  p l s m _ c cX4_here 3 RX4 (Cond.code yX4_here cX4_here 3 (some .int)) D Y S V G A := ⟨hx, hb, hml, hown, hts, hl9, hG, hK, hA⟩
  have hS : va_S A s.heap s.heap [] := va_S.rf
  have hl := lv_entry ([.ref (G 0 0), .int p0, .int p1]) (n := 3) (Nat.le_of_ble_eq_true rfl)
  rw [lg_entry_eq]
  generalize (lg_sl ([.ref (G 0 0), .int p0, .int p1]) ++ List.replicate (3 - (lg_sl ([.ref (G 0 0), .int p0, .int p1])).length) Slot.unset).toArray = ls at hl ⊢
  have hl : lv_has ls 3 [(0, .ref (G 0 0)), (1, .int p0), (2, .int p1)] := hl
  unfold f_X4_here at hf
  refine lv_aload_n hx hb dX4_here_0 rfl (lv_at hl 0 rfl) ?_
  refine z_get hx hb hts (fun w h => List.mem_cons_of_mem _ (ziX4 w h)) hown hK hP (zV_m (by decide)) rfl rfl 22 (by decide) (List.mem_cons_of_mem _ m_1163) rfl rfl dX4_here_1 ?_
  refine lv_if_ne (tgt := 20) hx hb dX4_here_4 (by decide) (fun hc => ?_) (fun hc => ?_)
  · have hf := zif_n hf hc
    exact j_X4_here_20 F hr hlocks hex p0 p1 T hf hP hS (lv_sub hl [0, 1, 2] rfl)
  · have hf := zif_p hf hc
    refine lv_aload_n hx hb dX4_here_7 rfl (lv_at hl 0 rfl) ?_
    refine z_get hx hb hts (fun w h => List.mem_cons_of_mem _ (ziX4 w h)) hown hK hP (zV_m (by decide)) rfl rfl 18 (by decide) (List.mem_cons_of_mem _ m_1159) rfl rfl dX4_here_8 ?_
    refine lv_iconst (v := 2) hx hb dX4_here_11 (by decide) ?_
    refine lv_icmp_eq (tgt := 20) hx hb dX4_here_12 (by decide) (fun hc => ?_) (fun hc => ?_)
    · have hf := zif_p hf hc
      exact j_X4_here_20 F hr hlocks hex p0 p1 T hf hP hS (lv_sub hl [0, 1, 2] rfl)
    · have hf := zif_n hf hc
      refine lv_aload_n hx hb dX4_here_15 rfl (lv_at hl 0 rfl) ?_
      refine lv_iconst (v := 1) hx hb dX4_here_16 (by decide) ?_
      obtain ⟨v8, T7, h9, hf⟩ := zb_i hf
      refine z_ok (z_runV (As := [.int 1]) (rest := []) F k_X4_errs m_1263 (c_X4_errs 1 T T7 _ h9) hP hS (zV_m (by decide)) rfl rfl rfl rfl hl.1 (Nat.le_of_ble_eq_true rfl) dX4_here_17 (Nat.le_of_ble_eq_true rfl) ⟨Nat.le_of_ble_eq_true rfl, Nat.le_of_ble_eq_true rfl⟩ rfl) hS (fun H locs hP hS => ?_)
      exact j_X4_here_20 F hr hlocks hex p0 p1 T7 hf hP hS (lv_sub hl [0, 1, 2] rfl)

def f_X4_takesNumber (p0 : Int32) (p1 : Int32) (T : zT) : Option (Int32 × zT) := zb (f_X4_here p0 p1 T) fun v2 T1 => zb (f_X4_goesOn T1) fun _v5 T4 => some (v2, T4)
set_option maxHeartbeats 4000000 in
set_option maxRecDepth 100000 in
theorem c_X4_takesNumber (p0 : Int32) (p1 : Int32) (T T' : zT) (v : Int32) (hf : f_X4_takesNumber p0 p1 T = some (v, T')) : zC 1 yX4_takesNumber cX4_takesNumber 4 (some .int) 3  0 0  (fun G _ => [.ref (G 0 0), .int p0, .int p1]) T (fun _ => .inl (some (.int v))) T' := by
  intro l D Y S V G A hl9 hG
  refine vx_ofW (cc := cX4_takesNumber) (maxL := 4) (ret := (some .int)) (by decide) rfl ?_
  intro p e s m args below meth c s₁ B hml hex hv
  obtain ⟨rfl, hK, hP, hA⟩ := hv
  have hx := B.exec
  have hb := B.bytes
  have hr := B.returns
  have hlocks := B.notSynchronized
  have hown : s.vm.findClass RX4 = some m.cls := findClass_of_methodNamed B.named
  have hts := atoms_spec (ws := Cond.code yX4_takesNumber cX4_takesNumber 4 (some .int) :: zWS) B.pre
  have F : zF 1 3  0 0  p l s m _ c cX4_takesNumber 4 RX4 (Cond.code yX4_takesNumber cX4_takesNumber 4 (some .int)) D Y S V G A := ⟨hx, hb, hml, hown, hts, hl9, hG, hK, hA⟩
  have hS : va_S A s.heap s.heap [] := va_S.rf
  have hl := lv_entry ([.ref (G 0 0), .int p0, .int p1]) (n := 4) (Nat.le_of_ble_eq_true rfl)
  rw [lg_entry_eq]
  generalize (lg_sl ([.ref (G 0 0), .int p0, .int p1]) ++ List.replicate (4 - (lg_sl ([.ref (G 0 0), .int p0, .int p1])).length) Slot.unset).toArray = ls at hl ⊢
  have hl : lv_has ls 4 [(0, .ref (G 0 0)), (1, .int p0), (2, .int p1)] := hl
  unfold f_X4_takesNumber at hf
  refine lv_aload_n hx hb dX4_takesNumber_0 rfl (lv_at hl 0 rfl) ?_
  refine lv_iload_n hx hb dX4_takesNumber_1 rfl (lv_at hl 1 rfl) ?_
  refine lv_iload_n hx hb dX4_takesNumber_2 rfl (lv_at hl 2 rfl) ?_
  obtain ⟨v2, T1, h3, hf⟩ := zb_i hf
  refine z_ok (z_runV (As := [.int p0, .int p1]) (rest := []) F k_X4_here m_1271 (c_X4_here p0 p1 T T1 _ h3) hP hS (zV_m (by decide)) rfl rfl rfl rfl hl.1 (Nat.le_of_ble_eq_true rfl) dX4_takesNumber_3 (Nat.le_of_ble_eq_true rfl) ⟨Nat.le_of_ble_eq_true rfl, Nat.le_of_ble_eq_true rfl⟩ rfl) hS (fun H locs hP hS => ?_)
  refine lv_istore_n (lv' := [(3, .int v2), (0, .ref (G 0 0)), (1, .int p0), (2, .int p1)]) hx hb dX4_takesNumber_6 rfl hl (by decide) rfl (fun ls hl => ?_)
  refine lv_aload_n hx hb dX4_takesNumber_7 rfl (lv_at hl 1 rfl) ?_
  obtain ⟨v5, T4, h6, hf⟩ := zb_i hf
  refine z_ok (z_runV (As := []) (rest := []) F k_X4_goesOn m_1275 (c_X4_goesOn T1 T4 _ h6) hP hS (zV_m (by decide)) rfl rfl rfl rfl hl.1 (Nat.le_of_ble_eq_true rfl) dX4_takesNumber_8 (Nat.le_of_ble_eq_true rfl) ⟨Nat.le_of_ble_eq_true rfl, Nat.le_of_ble_eq_true rfl⟩ rfl) hS (fun H locs hP hS => ?_)
  refine lv_iload_n hx hb dX4_takesNumber_11 rfl (lv_at hl 0 rfl) ?_
  obtain ⟨q1, q2⟩ := zs_i hf
  subst q1; subst q2
  exact z_iret hx hb hr rfl hP hS hlocks (Nat.le_of_ble_eq_true rfl) (Nat.le_of_ble_eq_true rfl) dX4_takesNumber_12

def lp_X4_spellsHere_36  : Nat → Int32 → zT → Option ((Int32) × zT)
  | 0, _, _ => none
  | n + 1, u1, T => (if 6 ≤ u1 then some (u1, T) else (if (T.1 0 0 22) = 0 then (if ((T.1 0 0 20) - (T.1 0 0 19)) ≤ u1 then if zin u1 6 = true then zl (wA T 6 0 (upd (T.2 6 0) u1.toNatClampNeg 0)) fun T2 => zl (u1 + 1) fun x3 => lp_X4_spellsHere_36 n x3 T2 else none else zl ((T.1 0 0 19) + u1) fun x5 => if zin x5 600 = true then if zin u1 6 = true then zl (wA T 6 0 (upd (T.2 6 0) u1.toNatClampNeg (T.2 7 0 x5.toNatClampNeg))) fun T7 => zl (u1 + 1) fun x8 => lp_X4_spellsHere_36 n x8 T7 else none else none) else some (u1, T)))
def jn_X4_spellsHere_34  (T : zT) : Option (Unit × zT) := zb (lp_X4_spellsHere_36 2000 0 T) fun v10 T9 => some ((), T9)
def jn_X4_spellsHere_29  (T : zT) : Option (Unit × zT) := zb (f_X4_errs 1 T) fun _v13 T12 => jn_X4_spellsHere_34 T12
def f_X4_spellsHere  (T : zT) : Option (Unit × zT) := (if (T.1 0 0 22) = 0 then (if (T.1 0 0 18) = 1 then (if ((T.1 0 0 20) - (T.1 0 0 19)) ≤ 6 then jn_X4_spellsHere_34 T else jn_X4_spellsHere_29 T) else jn_X4_spellsHere_29 T) else jn_X4_spellsHere_34 T)
set_option maxHeartbeats 4000000 in
set_option maxRecDepth 100000 in
theorem l_X4_spellsHere_36 {p : Program} {l : Launch} {e : Env} {s : State} {m : MethodId} {args : Array Value} {below : List Frame} {meth : Method} {c : Code} {Q : State → Prop} {D : va_G} {Y : Nat → ClassId} {S V : Nat → Nat} {G : Nat → Nat → Nat} {A : Nat → Prop} {c0 : Cond} {mc ms cells slots : Nat} (F : zF 1 1 mc ms p l s m args c cX4_spellsHere 2 RX4 c0 D Y S V G A) (hcs : cells ≤ mc ∧ slots ≤ ms) :
    ∀ (n : Nat) (u1 : Int32) (T : zT) (o : (Int32) × zT) (H : Heap) (locs : List Loc) (ls : Array Slot), lp_X4_spellsHere_36 n u1 T = some o → zP 1 D Y G T H → va_S A s.heap H locs → lv_has ls 2 [(0, .ref (G 0 0)), (1, .int u1)] → (∀ (H : Heap) (locs : List Loc) (ls : Array Slot), zP 1 D Y G o.2 H → va_S A s.heap H locs → lv_has ls 2 [(0, .ref (G 0 0)), (1, .int o.1)] → W p l e (zR 1 mc ms) s m args below meth c H locs cells slots Q (F0 m 89 ls [])) → W p l e (zR 1 mc ms) s m args below meth c H locs cells slots Q (F0 m 36 ls []) := by
  obtain ⟨hx, hb, hml, hown, hts, hl9, hG, hK, hA⟩ := id F
  intro n
  induction n with
  | zero =>
    intro u1 T o H locs ls hf
    rw [lp_X4_spellsHere_36] at hf
    cases hf
  | succ n ih =>
    intro u1 T o H locs ls hf hP hS hl k0_
    rw [lp_X4_spellsHere_36] at hf
    refine lv_iload_n hx hb dX4_spellsHere_36 rfl (lv_at hl 1 rfl) ?_
    refine lv_bipush (v := 6) hx hb dX4_spellsHere_37 (by decide) ?_
    refine lv_icmp_ge (tgt := 89) hx hb dX4_spellsHere_39 (by decide) (fun hc => ?_) (fun hc => ?_)
    · have hf := zif_p hf hc
      cases hf
      exact k0_ _ _ _ hP hS (lv_sub hl [0, 1] rfl)
    · have hf := zif_n hf hc
      refine lv_aload_n hx hb dX4_spellsHere_42 rfl (lv_at hl 0 rfl) ?_
      refine z_get hx hb hts (fun w h => List.mem_cons_of_mem _ (ziX4 w h)) hown hK hP (zV_m (by decide)) rfl rfl 22 (by decide) (List.mem_cons_of_mem _ m_1163) rfl rfl dX4_spellsHere_43 ?_
      refine lv_if_ne (tgt := 89) hx hb dX4_spellsHere_46 (by decide) (fun hc => ?_) (fun hc => ?_)
      · have hf := zif_n hf hc
        cases hf
        exact k0_ _ _ _ hP hS (lv_sub hl [0, 1] rfl)
      · have hf := zif_p hf hc
        refine lv_aload_n hx hb dX4_spellsHere_49 rfl (lv_at hl 0 rfl) ?_
        refine z_get hx hb hts (fun w h => List.mem_cons_of_mem _ (ziX4 w h)) hown hK hP (zV_m (by decide)) rfl rfl 8 (by decide) (List.mem_cons_of_mem _ m_1149) rfl rfl dX4_spellsHere_50 ?_
        refine lv_iload_n hx hb dX4_spellsHere_53 rfl (lv_at hl 1 rfl) ?_
        refine lv_iload_n hx hb dX4_spellsHere_54 rfl (lv_at hl 1 rfl) ?_
        refine lv_aload_n hx hb dX4_spellsHere_55 rfl (lv_at hl 0 rfl) ?_
        refine z_get hx hb hts (fun w h => List.mem_cons_of_mem _ (ziX4 w h)) hown hK hP (zV_m (by decide)) rfl rfl 20 (by decide) (List.mem_cons_of_mem _ m_1161) rfl rfl dX4_spellsHere_56 ?_
        refine lv_aload_n hx hb dX4_spellsHere_59 rfl (lv_at hl 0 rfl) ?_
        refine z_get hx hb hts (fun w h => List.mem_cons_of_mem _ (ziX4 w h)) hown hK hP (zV_m (by decide)) rfl rfl 19 (by decide) (List.mem_cons_of_mem _ m_1160) rfl rfl dX4_spellsHere_60 ?_
        refine lv_isub hx hb dX4_spellsHere_63 ?_
        refine lv_icmp_ge (tgt := 81) hx hb dX4_spellsHere_64 (by decide) (fun hc => ?_) (fun hc => ?_)
        · have hf := zif_p hf hc
          refine lv_iconst (v := 0) hx hb dX4_spellsHere_81 (by decide) ?_
          obtain ⟨h1, hf⟩ := zif_c hf
          obtain ⟨T2, eT2, hf⟩ := zl_i hf
          refine z_iast hx hb hK hP hG hS (zIA_m (by decide) (by decide)) (zin_i h1) dX4_spellsHere_82 (fun H locs hP hS => ?_)
          rw [← eT2] at hP
          obtain ⟨x3, ex3, hf⟩ := zl_i hf
          refine lv_iinc (v := x3) (lv' := [(1, .int x3), (0, .ref (G 0 0))]) hx hb dX4_spellsHere_83 hl (k := 1) rfl (by rw [ex3]; rfl) (by decide) rfl (fun ls hl => ?_)
          refine lv_goto (tgt := 36) hx hb dX4_spellsHere_86 (by decide) ?_
          exact ih x3 _ _ _ _ _ hf hP hS (lv_sub hl [1, 0] rfl) k0_
        · have hf := zif_n hf hc
          refine lv_aload_n hx hb dX4_spellsHere_67 rfl (lv_at hl 0 rfl) ?_
          refine z_get hx hb hts (fun w h => List.mem_cons_of_mem _ (ziX4 w h)) hown hK hP (zV_m (by decide)) rfl rfl 9 (by decide) (List.mem_cons_of_mem _ m_1150) rfl rfl dX4_spellsHere_68 ?_
          refine lv_aload_n hx hb dX4_spellsHere_71 rfl (lv_at hl 0 rfl) ?_
          refine z_get hx hb hts (fun w h => List.mem_cons_of_mem _ (ziX4 w h)) hown hK hP (zV_m (by decide)) rfl rfl 19 (by decide) (List.mem_cons_of_mem _ m_1160) rfl rfl dX4_spellsHere_72 ?_
          refine lv_iload_n hx hb dX4_spellsHere_75 rfl (lv_at hl 1 rfl) ?_
          refine lv_iadd hx hb dX4_spellsHere_76 ?_
          obtain ⟨x5, ex5, hf⟩ := zl_i hf
          refine z_topi ex5 ?_
          obtain ⟨h4, hf⟩ := zif_c hf
          refine z_bald hx hb hK hP (zV_m (by decide)) rfl (zin_i h4) dX4_spellsHere_77 ?_
          refine lv_goto (tgt := 82) hx hb dX4_spellsHere_78 (by decide) ?_
          obtain ⟨h6, hf⟩ := zif_c hf
          obtain ⟨T7, eT7, hf⟩ := zl_i hf
          refine z_iast hx hb hK hP hG hS (zIA_m (by decide) (by decide)) (zin_i h6) dX4_spellsHere_82 (fun H locs hP hS => ?_)
          rw [← eT7] at hP
          obtain ⟨x8, ex8, hf⟩ := zl_i hf
          refine lv_iinc (v := x8) (lv' := [(1, .int x8), (0, .ref (G 0 0))]) hx hb dX4_spellsHere_83 hl (k := 1) rfl (by rw [ex8]; rfl) (by decide) rfl (fun ls hl => ?_)
          refine lv_goto (tgt := 36) hx hb dX4_spellsHere_86 (by decide) ?_
          exact ih x8 _ _ _ _ _ hf hP hS (lv_sub hl [1, 0] rfl) k0_
set_option maxHeartbeats 4000000 in
set_option maxRecDepth 100000 in
theorem j_X4_spellsHere_34 {p : Program} {l : Launch} {e : Env} {s : State} {m : MethodId} {args : Array Value} {below : List Frame} {meth : Method} {c : Code} {D : va_G} {Y : Nat → ClassId} {S V : Nat → Nat} {G : Nat → Nat → Nat} {A : Nat → Prop} {c0 : Cond} (F : zF 1 1  0 0  p l s m args c cX4_spellsHere 2 RX4 c0 D Y S V G A) (hr : meth.sig.returnType = none) (hlocks : meth.locks = false) (hex : ∀ x ∈ c.exceptionTable.toList, False) (T : zT) {T' : zT} {v : Unit} {H : Heap} {locs : List Loc} {ls : Array Slot} (hf : jn_X4_spellsHere_34 T = some (v, T')) (hP : zP 1 D Y G T H) (hS : va_S A s.heap H locs) (hl : lv_has ls 2 [(0, .ref (G 0 0))]) :
    W p l e (zR 1  0 0 ) s m args below meth c H locs 0 0 (vx_MQ below (zQ 1 D Y G A (.inl none) T') (zX 1 D Y G A (.inl none) T') args s  0 0  A) (F0 m 34 ls []) := by
  obtain ⟨hx, hb, hml, hown, hts, hl9, hG, hK, hA⟩ := id F
  unfold jn_X4_spellsHere_34 at hf
  refine lv_iconst (v := 0) hx hb dX4_spellsHere_34 (by decide) ?_
  refine lv_istore_n (lv' := [(1, .int 0), (0, .ref (G 0 0))]) hx hb dX4_spellsHere_35 rfl hl (by decide) rfl (fun ls hl => ?_)
  obtain ⟨v10, T9, h11, hf⟩ := zb_i hf
  refine l_X4_spellsHere_36 F ⟨Nat.le_of_ble_eq_true rfl, Nat.le_of_ble_eq_true rfl⟩  2000 0 _ _ _ _ _ h11 hP hS (lv_sub hl [1, 0] rfl) (fun H locs ls hP hS hl => ?_)
  obtain ⟨q1, q2⟩ := zs_i hf
  subst q1; subst q2
  exact z_vret hx hb hr rfl hP hS hlocks (Nat.le_of_ble_eq_true rfl) (Nat.le_of_ble_eq_true rfl) dX4_spellsHere_89
set_option maxHeartbeats 4000000 in
set_option maxRecDepth 100000 in
theorem j_X4_spellsHere_29 {p : Program} {l : Launch} {e : Env} {s : State} {m : MethodId} {args : Array Value} {below : List Frame} {meth : Method} {c : Code} {D : va_G} {Y : Nat → ClassId} {S V : Nat → Nat} {G : Nat → Nat → Nat} {A : Nat → Prop} {c0 : Cond} (F : zF 1 1  0 0  p l s m args c cX4_spellsHere 2 RX4 c0 D Y S V G A) (hr : meth.sig.returnType = none) (hlocks : meth.locks = false) (hex : ∀ x ∈ c.exceptionTable.toList, False) (T : zT) {T' : zT} {v : Unit} {H : Heap} {locs : List Loc} {ls : Array Slot} (hf : jn_X4_spellsHere_29 T = some (v, T')) (hP : zP 1 D Y G T H) (hS : va_S A s.heap H locs) (hl : lv_has ls 2 [(0, .ref (G 0 0))]) :
    W p l e (zR 1  0 0 ) s m args below meth c H locs 0 0 (vx_MQ below (zQ 1 D Y G A (.inl none) T') (zX 1 D Y G A (.inl none) T') args s  0 0  A) (F0 m 29 ls []) := by
  obtain ⟨hx, hb, hml, hown, hts, hl9, hG, hK, hA⟩ := id F
  unfold jn_X4_spellsHere_29 at hf
  refine lv_aload_n hx hb dX4_spellsHere_29 rfl (lv_at hl 0 rfl) ?_
  refine lv_iconst (v := 1) hx hb dX4_spellsHere_30 (by decide) ?_
  obtain ⟨v13, T12, h14, hf⟩ := zb_i hf
  refine z_ok (z_runV (As := [.int 1]) (rest := []) F k_X4_errs m_1263 (c_X4_errs 1 T T12 _ h14) hP hS (zV_m (by decide)) rfl rfl rfl rfl hl.1 (Nat.le_of_ble_eq_true rfl) dX4_spellsHere_31 (Nat.le_of_ble_eq_true rfl) ⟨Nat.le_of_ble_eq_true rfl, Nat.le_of_ble_eq_true rfl⟩ rfl) hS (fun H locs hP hS => ?_)
  exact j_X4_spellsHere_34 F hr hlocks hex T12 hf hP hS (lv_sub hl [0] rfl)
set_option maxHeartbeats 4000000 in
set_option maxRecDepth 100000 in
theorem c_X4_spellsHere  (T T' : zT) (v : Unit) (hf : f_X4_spellsHere  T = some (v, T')) : zC 1 yX4_spellsHere cX4_spellsHere 2 none 1  0 0  (fun G _ => [.ref (G 0 0)]) T (fun _ => .inl none) T' := by
  intro l D Y S V G A hl9 hG
  refine vx_ofW (cc := cX4_spellsHere) (maxL := 2) (ret := none) (by decide) rfl ?_
  intro p e s m args below meth c s₁ B hml hex hv
  obtain ⟨rfl, hK, hP, hA⟩ := hv
  have hx := B.exec
  have hb := B.bytes
  have hr := B.returns
  have hlocks := B.notSynchronized
  have hown : s.vm.findClass RX4 = some m.cls := findClass_of_methodNamed B.named
  have hts := atoms_spec (ws := Cond.code yX4_spellsHere cX4_spellsHere 2 none :: zWS) B.pre
  have F : zF 1 1  0 0  p l s m _ c cX4_spellsHere 2 RX4 (Cond.code yX4_spellsHere cX4_spellsHere 2 none) D Y S V G A := ⟨hx, hb, hml, hown, hts, hl9, hG, hK, hA⟩
  have hS : va_S A s.heap s.heap [] := va_S.rf
  have hl := lv_entry ([.ref (G 0 0)]) (n := 2) (Nat.le_of_ble_eq_true rfl)
  rw [lg_entry_eq]
  generalize (lg_sl ([.ref (G 0 0)]) ++ List.replicate (2 - (lg_sl ([.ref (G 0 0)])).length) Slot.unset).toArray = ls at hl ⊢
  have hl : lv_has ls 2 [(0, .ref (G 0 0))] := hl
  unfold f_X4_spellsHere at hf
  refine lv_aload_n hx hb dX4_spellsHere_0 rfl (lv_at hl 0 rfl) ?_
  refine z_get hx hb hts (fun w h => List.mem_cons_of_mem _ (ziX4 w h)) hown hK hP (zV_m (by decide)) rfl rfl 22 (by decide) (List.mem_cons_of_mem _ m_1163) rfl rfl dX4_spellsHere_1 ?_
  refine lv_if_ne (tgt := 34) hx hb dX4_spellsHere_4 (by decide) (fun hc => ?_) (fun hc => ?_)
  · have hf := zif_n hf hc
    exact j_X4_spellsHere_34 F hr hlocks hex T hf hP hS (lv_sub hl [0] rfl)
  · have hf := zif_p hf hc
    refine lv_aload_n hx hb dX4_spellsHere_7 rfl (lv_at hl 0 rfl) ?_
    refine z_get hx hb hts (fun w h => List.mem_cons_of_mem _ (ziX4 w h)) hown hK hP (zV_m (by decide)) rfl rfl 18 (by decide) (List.mem_cons_of_mem _ m_1159) rfl rfl dX4_spellsHere_8 ?_
    refine lv_iconst (v := 1) hx hb dX4_spellsHere_11 (by decide) ?_
    refine lv_icmp_ne (tgt := 29) hx hb dX4_spellsHere_12 (by decide) (fun hc => ?_) (fun hc => ?_)
    · have hf := zif_n hf hc
      exact j_X4_spellsHere_29 F hr hlocks hex T hf hP hS (lv_sub hl [0] rfl)
    · have hf := zif_p hf hc
      refine lv_aload_n hx hb dX4_spellsHere_15 rfl (lv_at hl 0 rfl) ?_
      refine z_get hx hb hts (fun w h => List.mem_cons_of_mem _ (ziX4 w h)) hown hK hP (zV_m (by decide)) rfl rfl 20 (by decide) (List.mem_cons_of_mem _ m_1161) rfl rfl dX4_spellsHere_16 ?_
      refine lv_aload_n hx hb dX4_spellsHere_19 rfl (lv_at hl 0 rfl) ?_
      refine z_get hx hb hts (fun w h => List.mem_cons_of_mem _ (ziX4 w h)) hown hK hP (zV_m (by decide)) rfl rfl 19 (by decide) (List.mem_cons_of_mem _ m_1160) rfl rfl dX4_spellsHere_20 ?_
      refine lv_isub hx hb dX4_spellsHere_23 ?_
      refine lv_bipush (v := 6) hx hb dX4_spellsHere_24 (by decide) ?_
      refine lv_icmp_le (tgt := 34) hx hb dX4_spellsHere_26 (by decide) (fun hc => ?_) (fun hc => ?_)
      · have hf := zif_p hf hc
        exact j_X4_spellsHere_34 F hr hlocks hex T hf hP hS (lv_sub hl [0] rfl)
      · have hf := zif_n hf hc
        exact j_X4_spellsHere_29 F hr hlocks hex T hf hP hS (lv_sub hl [0] rfl)

def f_X4_childHere  (T : zT) : Option (Int32 × zT) := zb (f_X4_spellsHere T) fun _v2 T1 => (if (T1.1 0 0 22) = 0 then zb (f_X4_childSpelled T1) fun v8 T7 => (if v8 = (-1) then zb (f_X4_errs 3 T7) fun _v11 T10 => (if (T10.1 0 0 22) = 0 then some (v8, T10) else some (0, T10)) else (if (T7.1 0 0 22) = 0 then some (v8, T7) else some (0, T7))) else (if (0 : Int32) = (-1) then zb (f_X4_errs 3 T1) fun _v5 T4 => (if (T4.1 0 0 22) = 0 then some (0, T4) else some (0, T4)) else (if (T1.1 0 0 22) = 0 then some (0, T1) else some (0, T1))))
set_option maxHeartbeats 4000000 in
set_option maxRecDepth 100000 in
theorem c_X4_childHere  (T T' : zT) (v : Int32) (hf : f_X4_childHere  T = some (v, T')) : zC 1 yX4_childHere cX4_childHere 2 (some .int) 2  0 0  (fun G _ => [.ref (G 0 0)]) T (fun _ => .inl (some (.int v))) T' := by
  intro l D Y S V G A hl9 hG
  refine vx_ofW (cc := cX4_childHere) (maxL := 2) (ret := (some .int)) (by decide) rfl ?_
  intro p e s m args below meth c s₁ B hml hex hv
  obtain ⟨rfl, hK, hP, hA⟩ := hv
  have hx := B.exec
  have hb := B.bytes
  have hr := B.returns
  have hlocks := B.notSynchronized
  have hown : s.vm.findClass RX4 = some m.cls := findClass_of_methodNamed B.named
  have hts := atoms_spec (ws := Cond.code yX4_childHere cX4_childHere 2 (some .int) :: zWS) B.pre
  have F : zF 1 2  0 0  p l s m _ c cX4_childHere 2 RX4 (Cond.code yX4_childHere cX4_childHere 2 (some .int)) D Y S V G A := ⟨hx, hb, hml, hown, hts, hl9, hG, hK, hA⟩
  have hS : va_S A s.heap s.heap [] := va_S.rf
  have hl := lv_entry ([.ref (G 0 0)]) (n := 2) (Nat.le_of_ble_eq_true rfl)
  rw [lg_entry_eq]
  generalize (lg_sl ([.ref (G 0 0)]) ++ List.replicate (2 - (lg_sl ([.ref (G 0 0)])).length) Slot.unset).toArray = ls at hl ⊢
  have hl : lv_has ls 2 [(0, .ref (G 0 0))] := hl
  unfold f_X4_childHere at hf
  refine lv_aload_n hx hb dX4_childHere_0 rfl (lv_at hl 0 rfl) ?_
  obtain ⟨v2, T1, h3, hf⟩ := zb_i hf
  refine z_ok (z_runV (As := []) (rest := []) F k_X4_spellsHere m_1291 (c_X4_spellsHere T T1 _ h3) hP hS (zV_m (by decide)) rfl rfl rfl rfl hl.1 (Nat.le_of_ble_eq_true rfl) dX4_childHere_1 (Nat.le_of_ble_eq_true rfl) ⟨Nat.le_of_ble_eq_true rfl, Nat.le_of_ble_eq_true rfl⟩ rfl) hS (fun H locs hP hS => ?_)
  refine lv_aload_n hx hb dX4_childHere_4 rfl (lv_at hl 0 rfl) ?_
  refine z_get hx hb hts (fun w h => List.mem_cons_of_mem _ (ziX4 w h)) hown hK hP (zV_m (by decide)) rfl rfl 22 (by decide) (List.mem_cons_of_mem _ m_1163) rfl rfl dX4_childHere_5 ?_
  refine lv_if_ne (tgt := 18) hx hb dX4_childHere_8 (by decide) (fun hc => ?_) (fun hc => ?_)
  · have hf := zif_n hf hc
    refine lv_iconst (v := 0) hx hb dX4_childHere_18 (by decide) ?_
    refine lv_istore_n (lv' := [(1, .int 0), (0, .ref (G 0 0))]) hx hb dX4_childHere_19 rfl hl (by decide) rfl (fun ls hl => ?_)
    refine lv_iload_n hx hb dX4_childHere_20 rfl (lv_at hl 0 rfl) ?_
    refine lv_iconst (v := (-1)) hx hb dX4_childHere_21 (by decide) ?_
    refine lv_icmp_ne (tgt := 30) hx hb dX4_childHere_22 (by decide) (fun hc => ?_) (fun hc => ?_)
    · have hf := zif_n hf hc
      refine lv_aload_n hx hb dX4_childHere_30 rfl (lv_at hl 1 rfl) ?_
      refine z_get hx hb hts (fun w h => List.mem_cons_of_mem _ (ziX4 w h)) hown hK hP (zV_m (by decide)) rfl rfl 22 (by decide) (List.mem_cons_of_mem _ m_1163) rfl rfl dX4_childHere_31 ?_
      refine lv_if_ne (tgt := 41) hx hb dX4_childHere_34 (by decide) (fun hc => ?_) (fun hc => ?_)
      · have hf := zif_n hf hc
        refine lv_iconst (v := 0) hx hb dX4_childHere_41 (by decide) ?_
        obtain ⟨q1, q2⟩ := zs_i hf
        subst q1; subst q2
        exact z_iret hx hb hr rfl hP hS hlocks (Nat.le_of_ble_eq_true rfl) (Nat.le_of_ble_eq_true rfl) dX4_childHere_42
      · have hf := zif_p hf hc
        refine lv_iload_n hx hb dX4_childHere_37 rfl (lv_at hl 0 rfl) ?_
        refine lv_goto (tgt := 42) hx hb dX4_childHere_38 (by decide) ?_
        obtain ⟨q1, q2⟩ := zs_i hf
        subst q1; subst q2
        exact z_iret hx hb hr rfl hP hS hlocks (Nat.le_of_ble_eq_true rfl) (Nat.le_of_ble_eq_true rfl) dX4_childHere_42
    · have hf := zif_p hf hc
      refine lv_aload_n hx hb dX4_childHere_25 rfl (lv_at hl 1 rfl) ?_
      refine lv_iconst (v := 3) hx hb dX4_childHere_26 (by decide) ?_
      obtain ⟨v5, T4, h6, hf⟩ := zb_i hf
      refine z_ok (z_runV (As := [.int 3]) (rest := []) F k_X4_errs m_1263 (c_X4_errs 3 T1 T4 _ h6) hP hS (zV_m (by decide)) rfl rfl rfl rfl hl.1 (Nat.le_of_ble_eq_true rfl) dX4_childHere_27 (Nat.le_of_ble_eq_true rfl) ⟨Nat.le_of_ble_eq_true rfl, Nat.le_of_ble_eq_true rfl⟩ rfl) hS (fun H locs hP hS => ?_)
      refine lv_aload_n hx hb dX4_childHere_30 rfl (lv_at hl 1 rfl) ?_
      refine z_get hx hb hts (fun w h => List.mem_cons_of_mem _ (ziX4 w h)) hown hK hP (zV_m (by decide)) rfl rfl 22 (by decide) (List.mem_cons_of_mem _ m_1163) rfl rfl dX4_childHere_31 ?_
      refine lv_if_ne (tgt := 41) hx hb dX4_childHere_34 (by decide) (fun hc => ?_) (fun hc => ?_)
      · have hf := zif_n hf hc
        refine lv_iconst (v := 0) hx hb dX4_childHere_41 (by decide) ?_
        obtain ⟨q1, q2⟩ := zs_i hf
        subst q1; subst q2
        exact z_iret hx hb hr rfl hP hS hlocks (Nat.le_of_ble_eq_true rfl) (Nat.le_of_ble_eq_true rfl) dX4_childHere_42
      · have hf := zif_p hf hc
        refine lv_iload_n hx hb dX4_childHere_37 rfl (lv_at hl 0 rfl) ?_
        refine lv_goto (tgt := 42) hx hb dX4_childHere_38 (by decide) ?_
        obtain ⟨q1, q2⟩ := zs_i hf
        subst q1; subst q2
        exact z_iret hx hb hr rfl hP hS hlocks (Nat.le_of_ble_eq_true rfl) (Nat.le_of_ble_eq_true rfl) dX4_childHere_42
  · have hf := zif_p hf hc
    refine lv_aload_n hx hb dX4_childHere_11 rfl (lv_at hl 0 rfl) ?_
    obtain ⟨v8, T7, h9, hf⟩ := zb_i hf
    refine z_ok (z_runV (As := []) (rest := []) F k_X4_childSpelled m_1295 (c_X4_childSpelled T1 T7 _ h9) hP hS (zV_m (by decide)) rfl rfl rfl rfl hl.1 (Nat.le_of_ble_eq_true rfl) dX4_childHere_12 (Nat.le_of_ble_eq_true rfl) ⟨Nat.le_of_ble_eq_true rfl, Nat.le_of_ble_eq_true rfl⟩ rfl) hS (fun H locs hP hS => ?_)
    refine lv_goto (tgt := 19) hx hb dX4_childHere_15 (by decide) ?_
    refine lv_istore_n (lv' := [(1, .int v8), (0, .ref (G 0 0))]) hx hb dX4_childHere_19 rfl hl (by decide) rfl (fun ls hl => ?_)
    refine lv_iload_n hx hb dX4_childHere_20 rfl (lv_at hl 0 rfl) ?_
    refine lv_iconst (v := (-1)) hx hb dX4_childHere_21 (by decide) ?_
    refine lv_icmp_ne (tgt := 30) hx hb dX4_childHere_22 (by decide) (fun hc => ?_) (fun hc => ?_)
    · have hf := zif_n hf hc
      refine lv_aload_n hx hb dX4_childHere_30 rfl (lv_at hl 1 rfl) ?_
      refine z_get hx hb hts (fun w h => List.mem_cons_of_mem _ (ziX4 w h)) hown hK hP (zV_m (by decide)) rfl rfl 22 (by decide) (List.mem_cons_of_mem _ m_1163) rfl rfl dX4_childHere_31 ?_
      refine lv_if_ne (tgt := 41) hx hb dX4_childHere_34 (by decide) (fun hc => ?_) (fun hc => ?_)
      · have hf := zif_n hf hc
        refine lv_iconst (v := 0) hx hb dX4_childHere_41 (by decide) ?_
        obtain ⟨q1, q2⟩ := zs_i hf
        subst q1; subst q2
        exact z_iret hx hb hr rfl hP hS hlocks (Nat.le_of_ble_eq_true rfl) (Nat.le_of_ble_eq_true rfl) dX4_childHere_42
      · have hf := zif_p hf hc
        refine lv_iload_n hx hb dX4_childHere_37 rfl (lv_at hl 0 rfl) ?_
        refine lv_goto (tgt := 42) hx hb dX4_childHere_38 (by decide) ?_
        obtain ⟨q1, q2⟩ := zs_i hf
        subst q1; subst q2
        exact z_iret hx hb hr rfl hP hS hlocks (Nat.le_of_ble_eq_true rfl) (Nat.le_of_ble_eq_true rfl) dX4_childHere_42
    · have hf := zif_p hf hc
      refine lv_aload_n hx hb dX4_childHere_25 rfl (lv_at hl 1 rfl) ?_
      refine lv_iconst (v := 3) hx hb dX4_childHere_26 (by decide) ?_
      obtain ⟨v11, T10, h12, hf⟩ := zb_i hf
      refine z_ok (z_runV (As := [.int 3]) (rest := []) F k_X4_errs m_1263 (c_X4_errs 3 T7 T10 _ h12) hP hS (zV_m (by decide)) rfl rfl rfl rfl hl.1 (Nat.le_of_ble_eq_true rfl) dX4_childHere_27 (Nat.le_of_ble_eq_true rfl) ⟨Nat.le_of_ble_eq_true rfl, Nat.le_of_ble_eq_true rfl⟩ rfl) hS (fun H locs hP hS => ?_)
      refine lv_aload_n hx hb dX4_childHere_30 rfl (lv_at hl 1 rfl) ?_
      refine z_get hx hb hts (fun w h => List.mem_cons_of_mem _ (ziX4 w h)) hown hK hP (zV_m (by decide)) rfl rfl 22 (by decide) (List.mem_cons_of_mem _ m_1163) rfl rfl dX4_childHere_31 ?_
      refine lv_if_ne (tgt := 41) hx hb dX4_childHere_34 (by decide) (fun hc => ?_) (fun hc => ?_)
      · have hf := zif_n hf hc
        refine lv_iconst (v := 0) hx hb dX4_childHere_41 (by decide) ?_
        obtain ⟨q1, q2⟩ := zs_i hf
        subst q1; subst q2
        exact z_iret hx hb hr rfl hP hS hlocks (Nat.le_of_ble_eq_true rfl) (Nat.le_of_ble_eq_true rfl) dX4_childHere_42
      · have hf := zif_p hf hc
        refine lv_iload_n hx hb dX4_childHere_37 rfl (lv_at hl 0 rfl) ?_
        refine lv_goto (tgt := 42) hx hb dX4_childHere_38 (by decide) ?_
        obtain ⟨q1, q2⟩ := zs_i hf
        subst q1; subst q2
        exact z_iret hx hb hr rfl hP hS hlocks (Nat.le_of_ble_eq_true rfl) (Nat.le_of_ble_eq_true rfl) dX4_childHere_42

def f_X4_readsGarden  (T : zT) : Option (Unit × zT) := (if (T.2 2 0 4) = 4 then zb (f_X4_errs 5 T) fun _v12 T11 => some ((), T11) else zb (f_X4_next T) fun _v3 T2 => zb (f_X4_takesNumber 1 12 T2) fun v6 T5 => (if (T5.1 0 0 22) = 0 then zb (f_X4_plants v6 T5) fun _v9 T8 => some ((), T8) else some ((), T5)))
set_option maxHeartbeats 4000000 in
set_option maxRecDepth 100000 in
theorem c_X4_readsGarden  (T T' : zT) (v : Unit) (hf : f_X4_readsGarden  T = some (v, T')) : zC 1 yX4_readsGarden cX4_readsGarden 2 none 4  0 0  (fun G _ => [.ref (G 0 0)]) T (fun _ => .inl none) T' := by
  intro l D Y S V G A hl9 hG
  refine vx_ofW (cc := cX4_readsGarden) (maxL := 2) (ret := none) (by decide) rfl ?_
  intro p e s m args below meth c s₁ B hml hex hv
  obtain ⟨rfl, hK, hP, hA⟩ := hv
  have hx := B.exec
  have hb := B.bytes
  have hr := B.returns
  have hlocks := B.notSynchronized
  have hown : s.vm.findClass RX4 = some m.cls := findClass_of_methodNamed B.named
  have hts := atoms_spec (ws := Cond.code yX4_readsGarden cX4_readsGarden 2 none :: zWS) B.pre
  have F : zF 1 4  0 0  p l s m _ c cX4_readsGarden 2 RX4 (Cond.code yX4_readsGarden cX4_readsGarden 2 none) D Y S V G A := ⟨hx, hb, hml, hown, hts, hl9, hG, hK, hA⟩
  have hS : va_S A s.heap s.heap [] := va_S.rf
  have hl := lv_entry ([.ref (G 0 0)]) (n := 2) (Nat.le_of_ble_eq_true rfl)
  rw [lg_entry_eq]
  generalize (lg_sl ([.ref (G 0 0)]) ++ List.replicate (2 - (lg_sl ([.ref (G 0 0)])).length) Slot.unset).toArray = ls at hl ⊢
  have hl : lv_has ls 2 [(0, .ref (G 0 0))] := hl
  unfold f_X4_readsGarden at hf
  refine lv_aload_n hx hb dX4_readsGarden_0 rfl (lv_at hl 0 rfl) ?_
  refine z_get hx hb hts (fun w h => List.mem_cons_of_mem _ (ziX4 w h)) hown hK hP (zV_m (by decide)) rfl rfl 2 (by decide) (List.mem_cons_of_mem _ m_1143) rfl rfl dX4_readsGarden_1 ?_
  refine lv_iconst (v := 4) hx hb dX4_readsGarden_4 (by decide) ?_
  refine z_iald_ (j := 4) hx hb hK hP (zIA_m (by decide) (by decide)) (by decide) (by decide) dX4_readsGarden_5 ?_
  refine lv_iconst (v := 4) hx hb dX4_readsGarden_6 (by decide) ?_
  refine lv_icmp_ne (tgt := 16) hx hb dX4_readsGarden_7 (by decide) (fun hc => ?_) (fun hc => ?_)
  · have hf := zif_n hf hc
    refine lv_aload_n hx hb dX4_readsGarden_16 rfl (lv_at hl 0 rfl) ?_
    obtain ⟨v3, T2, h4, hf⟩ := zb_i hf
    refine z_ok (z_runV (As := []) (rest := []) F k_X4_next m_1249 (c_X4_next T T2 _ h4) hP hS (zV_m (by decide)) rfl rfl rfl rfl hl.1 (Nat.le_of_ble_eq_true rfl) dX4_readsGarden_17 (Nat.le_of_ble_eq_true rfl) ⟨Nat.le_of_ble_eq_true rfl, Nat.le_of_ble_eq_true rfl⟩ rfl) hS (fun H locs hP hS => ?_)
    refine lv_aload_n hx hb dX4_readsGarden_20 rfl (lv_at hl 0 rfl) ?_
    refine lv_iconst (v := 1) hx hb dX4_readsGarden_21 (by decide) ?_
    refine lv_bipush (v := 12) hx hb dX4_readsGarden_22 (by decide) ?_
    obtain ⟨v6, T5, h7, hf⟩ := zb_i hf
    refine z_ok (z_runV (As := [.int 1, .int 12]) (rest := []) F k_X4_takesNumber m_1267 (c_X4_takesNumber 1 12 T2 T5 _ h7) hP hS (zV_m (by decide)) rfl rfl rfl rfl hl.1 (Nat.le_of_ble_eq_true rfl) dX4_readsGarden_24 (Nat.le_of_ble_eq_true rfl) ⟨Nat.le_of_ble_eq_true rfl, Nat.le_of_ble_eq_true rfl⟩ rfl) hS (fun H locs hP hS => ?_)
    refine lv_istore_n (lv' := [(1, .int v6), (0, .ref (G 0 0))]) hx hb dX4_readsGarden_27 rfl hl (by decide) rfl (fun ls hl => ?_)
    refine lv_aload_n hx hb dX4_readsGarden_28 rfl (lv_at hl 1 rfl) ?_
    refine z_get hx hb hts (fun w h => List.mem_cons_of_mem _ (ziX4 w h)) hown hK hP (zV_m (by decide)) rfl rfl 22 (by decide) (List.mem_cons_of_mem _ m_1163) rfl rfl dX4_readsGarden_29 ?_
    refine lv_if_ne (tgt := 40) hx hb dX4_readsGarden_32 (by decide) (fun hc => ?_) (fun hc => ?_)
    · have hf := zif_n hf hc
      obtain ⟨q1, q2⟩ := zs_i hf
      subst q1; subst q2
      exact z_vret hx hb hr rfl hP hS hlocks (Nat.le_of_ble_eq_true rfl) (Nat.le_of_ble_eq_true rfl) dX4_readsGarden_40
    · have hf := zif_p hf hc
      refine lv_aload_n hx hb dX4_readsGarden_35 rfl (lv_at hl 1 rfl) ?_
      refine lv_iload_n hx hb dX4_readsGarden_36 rfl (lv_at hl 0 rfl) ?_
      obtain ⟨v9, T8, h10, hf⟩ := zb_i hf
      refine z_ok (z_runV (As := [.int v6]) (rest := []) F k_X4_plants m_1083 (c_X4_plants v6 T5 T8 _ h10) hP hS (zV_m (by decide)) rfl rfl rfl rfl hl.1 (Nat.le_of_ble_eq_true rfl) dX4_readsGarden_37 (Nat.le_of_ble_eq_true rfl) ⟨Nat.le_of_ble_eq_true rfl, Nat.le_of_ble_eq_true rfl⟩ rfl) hS (fun H locs hP hS => ?_)
      obtain ⟨q1, q2⟩ := zs_i hf
      subst q1; subst q2
      exact z_vret hx hb hr rfl hP hS hlocks (Nat.le_of_ble_eq_true rfl) (Nat.le_of_ble_eq_true rfl) dX4_readsGarden_40
  · have hf := zif_p hf hc
    refine lv_aload_n hx hb dX4_readsGarden_10 rfl (lv_at hl 0 rfl) ?_
    refine lv_iconst (v := 5) hx hb dX4_readsGarden_11 (by decide) ?_
    obtain ⟨v12, T11, h13, hf⟩ := zb_i hf
    refine z_ok (z_runV (As := [.int 5]) (rest := []) F k_X4_errs m_1263 (c_X4_errs 5 T T11 _ h13) hP hS (zV_m (by decide)) rfl rfl rfl rfl hl.1 (Nat.le_of_ble_eq_true rfl) dX4_readsGarden_12 (Nat.le_of_ble_eq_true rfl) ⟨Nat.le_of_ble_eq_true rfl, Nat.le_of_ble_eq_true rfl⟩ rfl) hS (fun H locs hP hS => ?_)
    obtain ⟨q1, q2⟩ := zs_i hf
    subst q1; subst q2
    exact z_vret hx hb hr rfl hP hS hlocks (Nat.le_of_ble_eq_true rfl) (Nat.le_of_ble_eq_true rfl) dX4_readsGarden_15

def jn_X4_readsChild_45  (T : zT) : Option (Unit × zT) := zb (f_X4_goesOn T) fun _v9 T8 => zb (f_X4_takesNumber 0 5 T8) fun v12 T11 => zb (f_X4_takesNumber 1 20 T11) fun v15 T14 => zb (f_X4_takesNumber 0 99 T14) fun v18 T17 => zb (f_X4_takesNumber 0 ((T17.2 2 0 4) - 1) T17) fun v22 T21 => (if (T21.1 0 0 22) = 0 then zb (f_X4_comes v12 v15 v18 v22 T21) fun _v25 T24 => some ((), T24) else some ((), T21))
def f_X4_readsChild  (T : zT) : Option (Unit × zT) := (if (T.2 2 0 5) = 10 then zb (f_X4_errs 5 T) fun _v34 T33 => some ((), T33) else zb (f_X4_next T) fun _v3 T2 => zb (f_X4_spellsHere T2) fun _v6 T5 => (if (T5.1 0 0 22) = 0 then zb (f_X4_childSpelled T5) fun v28 T27 => (if v28 = (-1) then jn_X4_readsChild_45 T27 else zb (f_X4_errs 4 T27) fun _v31 T30 => jn_X4_readsChild_45 T30) else jn_X4_readsChild_45 T5))
set_option maxHeartbeats 4000000 in
set_option maxRecDepth 100000 in
theorem j_X4_readsChild_45 {p : Program} {l : Launch} {e : Env} {s : State} {m : MethodId} {args : Array Value} {below : List Frame} {meth : Method} {c : Code} {D : va_G} {Y : Nat → ClassId} {S V : Nat → Nat} {G : Nat → Nat → Nat} {A : Nat → Prop} {c0 : Cond} (F : zF 1 4  0 0  p l s m args c cX4_readsChild 5 RX4 c0 D Y S V G A) (hr : meth.sig.returnType = none) (hlocks : meth.locks = false) (hex : ∀ x ∈ c.exceptionTable.toList, False) (T : zT) {T' : zT} {v : Unit} {H : Heap} {locs : List Loc} {ls : Array Slot} (hf : jn_X4_readsChild_45 T = some (v, T')) (hP : zP 1 D Y G T H) (hS : va_S A s.heap H locs) (hl : lv_has ls 5 [(0, .ref (G 0 0))]) :
    W p l e (zR 4  0 0 ) s m args below meth c H locs 0 0 (vx_MQ below (zQ 1 D Y G A (.inl none) T') (zX 1 D Y G A (.inl none) T') args s  0 0  A) (F0 m 45 ls []) := by
  obtain ⟨hx, hb, hml, hown, hts, hl9, hG, hK, hA⟩ := id F
  unfold jn_X4_readsChild_45 at hf
  refine lv_aload_n hx hb dX4_readsChild_45 rfl (lv_at hl 0 rfl) ?_
  obtain ⟨v9, T8, h10, hf⟩ := zb_i hf
  refine z_ok (z_runV (As := []) (rest := []) F k_X4_goesOn m_1275 (c_X4_goesOn T T8 _ h10) hP hS (zV_m (by decide)) rfl rfl rfl rfl hl.1 (Nat.le_of_ble_eq_true rfl) dX4_readsChild_46 (Nat.le_of_ble_eq_true rfl) ⟨Nat.le_of_ble_eq_true rfl, Nat.le_of_ble_eq_true rfl⟩ rfl) hS (fun H locs hP hS => ?_)
  refine lv_aload_n hx hb dX4_readsChild_49 rfl (lv_at hl 0 rfl) ?_
  refine lv_iconst (v := 0) hx hb dX4_readsChild_50 (by decide) ?_
  refine lv_iconst (v := 5) hx hb dX4_readsChild_51 (by decide) ?_
  obtain ⟨v12, T11, h13, hf⟩ := zb_i hf
  refine z_ok (z_runV (As := [.int 0, .int 5]) (rest := []) F k_X4_takesNumber m_1267 (c_X4_takesNumber 0 5 T8 T11 _ h13) hP hS (zV_m (by decide)) rfl rfl rfl rfl hl.1 (Nat.le_of_ble_eq_true rfl) dX4_readsChild_52 (Nat.le_of_ble_eq_true rfl) ⟨Nat.le_of_ble_eq_true rfl, Nat.le_of_ble_eq_true rfl⟩ rfl) hS (fun H locs hP hS => ?_)
  refine lv_istore_n (lv' := [(1, .int v12), (0, .ref (G 0 0))]) hx hb dX4_readsChild_55 rfl hl (by decide) rfl (fun ls hl => ?_)
  refine lv_aload_n hx hb dX4_readsChild_56 rfl (lv_at hl 1 rfl) ?_
  refine lv_iconst (v := 1) hx hb dX4_readsChild_57 (by decide) ?_
  refine lv_bipush (v := 20) hx hb dX4_readsChild_58 (by decide) ?_
  obtain ⟨v15, T14, h16, hf⟩ := zb_i hf
  refine z_ok (z_runV (As := [.int 1, .int 20]) (rest := []) F k_X4_takesNumber m_1267 (c_X4_takesNumber 1 20 T11 T14 _ h16) hP hS (zV_m (by decide)) rfl rfl rfl rfl hl.1 (Nat.le_of_ble_eq_true rfl) dX4_readsChild_60 (Nat.le_of_ble_eq_true rfl) ⟨Nat.le_of_ble_eq_true rfl, Nat.le_of_ble_eq_true rfl⟩ rfl) hS (fun H locs hP hS => ?_)
  refine lv_istore_n (lv' := [(2, .int v15), (1, .int v12), (0, .ref (G 0 0))]) hx hb dX4_readsChild_63 rfl hl (by decide) rfl (fun ls hl => ?_)
  refine lv_aload_n hx hb dX4_readsChild_64 rfl (lv_at hl 2 rfl) ?_
  refine lv_iconst (v := 0) hx hb dX4_readsChild_65 (by decide) ?_
  refine lv_bipush (v := 99) hx hb dX4_readsChild_66 (by decide) ?_
  obtain ⟨v18, T17, h19, hf⟩ := zb_i hf
  refine z_ok (z_runV (As := [.int 0, .int 99]) (rest := []) F k_X4_takesNumber m_1267 (c_X4_takesNumber 0 99 T14 T17 _ h19) hP hS (zV_m (by decide)) rfl rfl rfl rfl hl.1 (Nat.le_of_ble_eq_true rfl) dX4_readsChild_68 (Nat.le_of_ble_eq_true rfl) ⟨Nat.le_of_ble_eq_true rfl, Nat.le_of_ble_eq_true rfl⟩ rfl) hS (fun H locs hP hS => ?_)
  refine lv_istore_n (lv' := [(3, .int v18), (2, .int v15), (1, .int v12), (0, .ref (G 0 0))]) hx hb dX4_readsChild_71 rfl hl (by decide) rfl (fun ls hl => ?_)
  refine lv_aload_n hx hb dX4_readsChild_72 rfl (lv_at hl 3 rfl) ?_
  refine lv_iconst (v := 0) hx hb dX4_readsChild_73 (by decide) ?_
  refine lv_aload_n hx hb dX4_readsChild_74 rfl (lv_at hl 3 rfl) ?_
  refine z_get hx hb hts (fun w h => List.mem_cons_of_mem _ (ziX4 w h)) hown hK hP (zV_m (by decide)) rfl rfl 2 (by decide) (List.mem_cons_of_mem _ m_1143) rfl rfl dX4_readsChild_75 ?_
  refine lv_iconst (v := 4) hx hb dX4_readsChild_78 (by decide) ?_
  refine z_iald_ (j := 4) hx hb hK hP (zIA_m (by decide) (by decide)) (by decide) (by decide) dX4_readsChild_79 ?_
  refine lv_iconst (v := 1) hx hb dX4_readsChild_80 (by decide) ?_
  refine lv_isub hx hb dX4_readsChild_81 ?_
  obtain ⟨v22, T21, h23, hf⟩ := zb_i hf
  refine z_ok (z_runV (As := [.int 0, .int ((T17.2 2 0 4) - 1)]) (rest := []) F k_X4_takesNumber m_1267 (c_X4_takesNumber 0 ((T17.2 2 0 4) - 1) T17 T21 _ h23) hP hS (zV_m (by decide)) rfl rfl rfl rfl hl.1 (Nat.le_of_ble_eq_true rfl) dX4_readsChild_82 (Nat.le_of_ble_eq_true rfl) ⟨Nat.le_of_ble_eq_true rfl, Nat.le_of_ble_eq_true rfl⟩ rfl) hS (fun H locs hP hS => ?_)
  refine lv_istore (lv' := [(4, .int v22), (3, .int v18), (2, .int v15), (1, .int v12), (0, .ref (G 0 0))]) hx hb dX4_readsChild_85 hl (by decide) rfl (fun ls hl => ?_)
  refine lv_aload_n hx hb dX4_readsChild_87 rfl (lv_at hl 4 rfl) ?_
  refine z_get hx hb hts (fun w h => List.mem_cons_of_mem _ (ziX4 w h)) hown hK hP (zV_m (by decide)) rfl rfl 22 (by decide) (List.mem_cons_of_mem _ m_1163) rfl rfl dX4_readsChild_88 ?_
  refine lv_if_ne (tgt := 103) hx hb dX4_readsChild_91 (by decide) (fun hc => ?_) (fun hc => ?_)
  · have hf := zif_n hf hc
    obtain ⟨q1, q2⟩ := zs_i hf
    subst q1; subst q2
    exact z_vret hx hb hr rfl hP hS hlocks (Nat.le_of_ble_eq_true rfl) (Nat.le_of_ble_eq_true rfl) dX4_readsChild_103
  · have hf := zif_p hf hc
    refine lv_aload_n hx hb dX4_readsChild_94 rfl (lv_at hl 4 rfl) ?_
    refine lv_iload_n hx hb dX4_readsChild_95 rfl (lv_at hl 3 rfl) ?_
    refine lv_iload_n hx hb dX4_readsChild_96 rfl (lv_at hl 2 rfl) ?_
    refine lv_iload_n hx hb dX4_readsChild_97 rfl (lv_at hl 1 rfl) ?_
    refine lv_iload hx hb dX4_readsChild_98 (lv_at hl 0 rfl) ?_
    obtain ⟨v25, T24, h26, hf⟩ := zb_i hf
    refine z_ok (z_runV (As := [.int v12, .int v15, .int v18, .int v22]) (rest := []) F k_X4_comes m_1091 (c_X4_comes v12 v15 v18 v22 T21 T24 _ h26) hP hS (zV_m (by decide)) rfl rfl rfl rfl hl.1 (Nat.le_of_ble_eq_true rfl) dX4_readsChild_100 (Nat.le_of_ble_eq_true rfl) ⟨Nat.le_of_ble_eq_true rfl, Nat.le_of_ble_eq_true rfl⟩ rfl) hS (fun H locs hP hS => ?_)
    obtain ⟨q1, q2⟩ := zs_i hf
    subst q1; subst q2
    exact z_vret hx hb hr rfl hP hS hlocks (Nat.le_of_ble_eq_true rfl) (Nat.le_of_ble_eq_true rfl) dX4_readsChild_103
set_option maxHeartbeats 4000000 in
set_option maxRecDepth 100000 in
theorem c_X4_readsChild  (T T' : zT) (v : Unit) (hf : f_X4_readsChild  T = some (v, T')) : zC 1 yX4_readsChild cX4_readsChild 5 none 4  0 0  (fun G _ => [.ref (G 0 0)]) T (fun _ => .inl none) T' := by
  intro l D Y S V G A hl9 hG
  refine vx_ofW (cc := cX4_readsChild) (maxL := 5) (ret := none) (by decide) rfl ?_
  intro p e s m args below meth c s₁ B hml hex hv
  obtain ⟨rfl, hK, hP, hA⟩ := hv
  have hx := B.exec
  have hb := B.bytes
  have hr := B.returns
  have hlocks := B.notSynchronized
  have hown : s.vm.findClass RX4 = some m.cls := findClass_of_methodNamed B.named
  have hts := atoms_spec (ws := Cond.code yX4_readsChild cX4_readsChild 5 none :: zWS) B.pre
  have F : zF 1 4  0 0  p l s m _ c cX4_readsChild 5 RX4 (Cond.code yX4_readsChild cX4_readsChild 5 none) D Y S V G A := ⟨hx, hb, hml, hown, hts, hl9, hG, hK, hA⟩
  have hS : va_S A s.heap s.heap [] := va_S.rf
  have hl := lv_entry ([.ref (G 0 0)]) (n := 5) (Nat.le_of_ble_eq_true rfl)
  rw [lg_entry_eq]
  generalize (lg_sl ([.ref (G 0 0)]) ++ List.replicate (5 - (lg_sl ([.ref (G 0 0)])).length) Slot.unset).toArray = ls at hl ⊢
  have hl : lv_has ls 5 [(0, .ref (G 0 0))] := hl
  unfold f_X4_readsChild at hf
  refine lv_aload_n hx hb dX4_readsChild_0 rfl (lv_at hl 0 rfl) ?_
  refine z_get hx hb hts (fun w h => List.mem_cons_of_mem _ (ziX4 w h)) hown hK hP (zV_m (by decide)) rfl rfl 2 (by decide) (List.mem_cons_of_mem _ m_1143) rfl rfl dX4_readsChild_1 ?_
  refine lv_iconst (v := 5) hx hb dX4_readsChild_4 (by decide) ?_
  refine z_iald_ (j := 5) hx hb hK hP (zIA_m (by decide) (by decide)) (by decide) (by decide) dX4_readsChild_5 ?_
  refine lv_bipush (v := 10) hx hb dX4_readsChild_6 (by decide) ?_
  refine lv_icmp_ne (tgt := 17) hx hb dX4_readsChild_8 (by decide) (fun hc => ?_) (fun hc => ?_)
  · have hf := zif_n hf hc
    refine lv_aload_n hx hb dX4_readsChild_17 rfl (lv_at hl 0 rfl) ?_
    obtain ⟨v3, T2, h4, hf⟩ := zb_i hf
    refine z_ok (z_runV (As := []) (rest := []) F k_X4_next m_1249 (c_X4_next T T2 _ h4) hP hS (zV_m (by decide)) rfl rfl rfl rfl hl.1 (Nat.le_of_ble_eq_true rfl) dX4_readsChild_18 (Nat.le_of_ble_eq_true rfl) ⟨Nat.le_of_ble_eq_true rfl, Nat.le_of_ble_eq_true rfl⟩ rfl) hS (fun H locs hP hS => ?_)
    refine lv_aload_n hx hb dX4_readsChild_21 rfl (lv_at hl 0 rfl) ?_
    obtain ⟨v6, T5, h7, hf⟩ := zb_i hf
    refine z_ok (z_runV (As := []) (rest := []) F k_X4_spellsHere m_1291 (c_X4_spellsHere T2 T5 _ h7) hP hS (zV_m (by decide)) rfl rfl rfl rfl hl.1 (Nat.le_of_ble_eq_true rfl) dX4_readsChild_22 (Nat.le_of_ble_eq_true rfl) ⟨Nat.le_of_ble_eq_true rfl, Nat.le_of_ble_eq_true rfl⟩ rfl) hS (fun H locs hP hS => ?_)
    refine lv_aload_n hx hb dX4_readsChild_25 rfl (lv_at hl 0 rfl) ?_
    refine z_get hx hb hts (fun w h => List.mem_cons_of_mem _ (ziX4 w h)) hown hK hP (zV_m (by decide)) rfl rfl 22 (by decide) (List.mem_cons_of_mem _ m_1163) rfl rfl dX4_readsChild_26 ?_
    refine lv_if_ne (tgt := 45) hx hb dX4_readsChild_29 (by decide) (fun hc => ?_) (fun hc => ?_)
    · have hf := zif_n hf hc
      exact j_X4_readsChild_45 F hr hlocks hex T5 hf hP hS (lv_sub hl [0] rfl)
    · have hf := zif_p hf hc
      refine lv_aload_n hx hb dX4_readsChild_32 rfl (lv_at hl 0 rfl) ?_
      obtain ⟨v28, T27, h29, hf⟩ := zb_i hf
      refine z_ok (z_runV (As := []) (rest := []) F k_X4_childSpelled m_1295 (c_X4_childSpelled T5 T27 _ h29) hP hS (zV_m (by decide)) rfl rfl rfl rfl hl.1 (Nat.le_of_ble_eq_true rfl) dX4_readsChild_33 (Nat.le_of_ble_eq_true rfl) ⟨Nat.le_of_ble_eq_true rfl, Nat.le_of_ble_eq_true rfl⟩ rfl) hS (fun H locs hP hS => ?_)
      refine lv_iconst (v := (-1)) hx hb dX4_readsChild_36 (by decide) ?_
      refine lv_icmp_eq (tgt := 45) hx hb dX4_readsChild_37 (by decide) (fun hc => ?_) (fun hc => ?_)
      · have hf := zif_p hf hc
        exact j_X4_readsChild_45 F hr hlocks hex T27 hf hP hS (lv_sub hl [0] rfl)
      · have hf := zif_n hf hc
        refine lv_aload_n hx hb dX4_readsChild_40 rfl (lv_at hl 0 rfl) ?_
        refine lv_iconst (v := 4) hx hb dX4_readsChild_41 (by decide) ?_
        obtain ⟨v31, T30, h32, hf⟩ := zb_i hf
        refine z_ok (z_runV (As := [.int 4]) (rest := []) F k_X4_errs m_1263 (c_X4_errs 4 T27 T30 _ h32) hP hS (zV_m (by decide)) rfl rfl rfl rfl hl.1 (Nat.le_of_ble_eq_true rfl) dX4_readsChild_42 (Nat.le_of_ble_eq_true rfl) ⟨Nat.le_of_ble_eq_true rfl, Nat.le_of_ble_eq_true rfl⟩ rfl) hS (fun H locs hP hS => ?_)
        exact j_X4_readsChild_45 F hr hlocks hex T30 hf hP hS (lv_sub hl [0] rfl)
  · have hf := zif_p hf hc
    refine lv_aload_n hx hb dX4_readsChild_11 rfl (lv_at hl 0 rfl) ?_
    refine lv_iconst (v := 5) hx hb dX4_readsChild_12 (by decide) ?_
    obtain ⟨v34, T33, h35, hf⟩ := zb_i hf
    refine z_ok (z_runV (As := [.int 5]) (rest := []) F k_X4_errs m_1263 (c_X4_errs 5 T T33 _ h35) hP hS (zV_m (by decide)) rfl rfl rfl rfl hl.1 (Nat.le_of_ble_eq_true rfl) dX4_readsChild_13 (Nat.le_of_ble_eq_true rfl) ⟨Nat.le_of_ble_eq_true rfl, Nat.le_of_ble_eq_true rfl⟩ rfl) hS (fun H locs hP hS => ?_)
    obtain ⟨q1, q2⟩ := zs_i hf
    subst q1; subst q2
    exact z_vret hx hb hr rfl hP hS hlocks (Nat.le_of_ble_eq_true rfl) (Nat.le_of_ble_eq_true rfl) dX4_readsChild_16

def jn_X4_readsBirthday_66 (w1 : Int32) (w2 : Int32) (w3 : Int32) (T : zT) : Option (Unit × zT) := (if (T.1 0 0 22) = 0 then zb (f_X4_c w1 T) fun v17 T16 => zb (f_X4_position w2 w3 T16) fun v20 T19 => if zin (v17 + 4) 151 = true then zl (wA T19 2 0 (upd (T19.2 2 0) (v17 + 4).toNatClampNeg v20)) fun T23 => zb (f_X4_next T23) fun _v25 T24 => some ((), T24) else none else some ((), T))
def f_X4_readsBirthday  (T : zT) : Option (Unit × zT) := zb (f_X4_next T) fun _v2 T1 => zb (f_X4_childHere T1) fun v5 T4 => zb (f_X4_goesOn T4) fun _v8 T7 => zb (f_X4_takesNumber 1 12 T7) fun v11 T10 => zb (f_X4_here 1 30 T10) fun v14 T13 => (if (T13.1 0 0 22) = 0 then zb (f_X4_c v5 T13) fun v28 T27 => zl (v28 + 3) fun x31 => if zin x31 151 = true then zb (f_X4_position v11 v14 T27) fun v33 T32 => zb (f_X4_reason v5 (T27.2 2 0 x31.toNatClampNeg) v33 T32) fun v36 T35 => (if v36 = 0 then jn_X4_readsBirthday_66 v5 v11 v14 T35 else zb (f_X4_errs 6 T35) fun _v39 T38 => jn_X4_readsBirthday_66 v5 v11 v14 T38) else none else jn_X4_readsBirthday_66 v5 v11 v14 T13)
set_option maxHeartbeats 4000000 in
set_option maxRecDepth 100000 in
theorem j_X4_readsBirthday_66 {p : Program} {l : Launch} {e : Env} {s : State} {m : MethodId} {args : Array Value} {below : List Frame} {meth : Method} {c : Code} {D : va_G} {Y : Nat → ClassId} {S V : Nat → Nat} {G : Nat → Nat → Nat} {A : Nat → Prop} {c0 : Cond} (F : zF 1 4  0 0  p l s m args c cX4_readsBirthday 4 RX4 c0 D Y S V G A) (hr : meth.sig.returnType = none) (hlocks : meth.locks = false) (hex : ∀ x ∈ c.exceptionTable.toList, False) (w1 : Int32) (w2 : Int32) (w3 : Int32) (T : zT) {T' : zT} {v : Unit} {H : Heap} {locs : List Loc} {ls : Array Slot} (hf : jn_X4_readsBirthday_66 w1 w2 w3 T = some (v, T')) (hP : zP 1 D Y G T H) (hS : va_S A s.heap H locs) (hl : lv_has ls 4 [(0, .ref (G 0 0)), (1, .int w1), (2, .int w2), (3, .int w3)]) :
    W p l e (zR 4  0 0 ) s m args below meth c H locs 0 0 (vx_MQ below (zQ 1 D Y G A (.inl none) T') (zX 1 D Y G A (.inl none) T') args s  0 0  A) (F0 m 66 ls []) := by
  obtain ⟨hx, hb, hml, hown, hts, hl9, hG, hK, hA⟩ := id F
  unfold jn_X4_readsBirthday_66 at hf
  refine lv_aload_n hx hb dX4_readsBirthday_66 rfl (lv_at hl 0 rfl) ?_
  refine z_get hx hb hts (fun w h => List.mem_cons_of_mem _ (ziX4 w h)) hown hK hP (zV_m (by decide)) rfl rfl 22 (by decide) (List.mem_cons_of_mem _ m_1163) rfl rfl dX4_readsBirthday_67 ?_
  refine lv_if_ne (tgt := 93) hx hb dX4_readsBirthday_70 (by decide) (fun hc => ?_) (fun hc => ?_)
  · have hf := zif_n hf hc
    obtain ⟨q1, q2⟩ := zs_i hf
    subst q1; subst q2
    exact z_vret hx hb hr rfl hP hS hlocks (Nat.le_of_ble_eq_true rfl) (Nat.le_of_ble_eq_true rfl) dX4_readsBirthday_93
  · have hf := zif_p hf hc
    refine lv_aload_n hx hb dX4_readsBirthday_73 rfl (lv_at hl 0 rfl) ?_
    refine z_get hx hb hts (fun w h => List.mem_cons_of_mem _ (ziX4 w h)) hown hK hP (zV_m (by decide)) rfl rfl 2 (by decide) (List.mem_cons_of_mem _ m_1143) rfl rfl dX4_readsBirthday_74 ?_
    refine lv_iload_n hx hb dX4_readsBirthday_77 rfl (lv_at hl 1 rfl) ?_
    obtain ⟨v17, T16, h18, hf⟩ := zb_i hf
    refine z_ok (z_runS (As := [.int w1]) (rest := [.ref (G 2 0)]) F k_X4_c m_1095 (c_X4_c w1 T T16 _ h18) hP hS rfl rfl hl.1 (Nat.le_of_ble_eq_true rfl) dX4_readsBirthday_78 (Nat.le_of_ble_eq_true rfl) ⟨Nat.le_of_ble_eq_true rfl, Nat.le_of_ble_eq_true rfl⟩ rfl) hS (fun H locs hP hS => ?_)
    refine lv_iconst (v := 4) hx hb dX4_readsBirthday_81 (by decide) ?_
    refine lv_iadd hx hb dX4_readsBirthday_82 ?_
    refine lv_iload_n hx hb dX4_readsBirthday_83 rfl (lv_at hl 2 rfl) ?_
    refine lv_iload_n hx hb dX4_readsBirthday_84 rfl (lv_at hl 3 rfl) ?_
    obtain ⟨v20, T19, h21, hf⟩ := zb_i hf
    refine z_ok (z_runS (As := [.int w2, .int w3]) (rest := [.int (v17 + 4), .ref (G 2 0)]) F k_X4_position m_1307 (c_X4_position w2 w3 T16 T19 _ h21) hP hS rfl rfl hl.1 (Nat.le_of_ble_eq_true rfl) dX4_readsBirthday_85 (Nat.le_of_ble_eq_true rfl) ⟨Nat.le_of_ble_eq_true rfl, Nat.le_of_ble_eq_true rfl⟩ rfl) hS (fun H locs hP hS => ?_)
    obtain ⟨h22, hf⟩ := zif_c hf
    obtain ⟨T23, eT23, hf⟩ := zl_i hf
    refine z_iast hx hb hK hP hG hS (zIA_m (by decide) (by decide)) (zin_i h22) dX4_readsBirthday_88 (fun H locs hP hS => ?_)
    rw [← eT23] at hP
    refine lv_aload_n hx hb dX4_readsBirthday_89 rfl (lv_at hl 0 rfl) ?_
    obtain ⟨v25, T24, h26, hf⟩ := zb_i hf
    refine z_ok (z_runV (As := []) (rest := []) F k_X4_next m_1249 (c_X4_next T23 T24 _ h26) hP hS (zV_m (by decide)) rfl rfl rfl rfl hl.1 (Nat.le_of_ble_eq_true rfl) dX4_readsBirthday_90 (Nat.le_of_ble_eq_true rfl) ⟨Nat.le_of_ble_eq_true rfl, Nat.le_of_ble_eq_true rfl⟩ rfl) hS (fun H locs hP hS => ?_)
    obtain ⟨q1, q2⟩ := zs_i hf
    subst q1; subst q2
    exact z_vret hx hb hr rfl hP hS hlocks (Nat.le_of_ble_eq_true rfl) (Nat.le_of_ble_eq_true rfl) dX4_readsBirthday_93
set_option maxHeartbeats 4000000 in
set_option maxRecDepth 100000 in
theorem c_X4_readsBirthday  (T T' : zT) (v : Unit) (hf : f_X4_readsBirthday  T = some (v, T')) : zC 1 yX4_readsBirthday cX4_readsBirthday 4 none 4  0 0  (fun G _ => [.ref (G 0 0)]) T (fun _ => .inl none) T' := by
  intro l D Y S V G A hl9 hG
  refine vx_ofW (cc := cX4_readsBirthday) (maxL := 4) (ret := none) (by decide) rfl ?_
  intro p e s m args below meth c s₁ B hml hex hv
  obtain ⟨rfl, hK, hP, hA⟩ := hv
  have hx := B.exec
  have hb := B.bytes
  have hr := B.returns
  have hlocks := B.notSynchronized
  have hown : s.vm.findClass RX4 = some m.cls := findClass_of_methodNamed B.named
  have hts := atoms_spec (ws := Cond.code yX4_readsBirthday cX4_readsBirthday 4 none :: zWS) B.pre
  have F : zF 1 4  0 0  p l s m _ c cX4_readsBirthday 4 RX4 (Cond.code yX4_readsBirthday cX4_readsBirthday 4 none) D Y S V G A := ⟨hx, hb, hml, hown, hts, hl9, hG, hK, hA⟩
  have hS : va_S A s.heap s.heap [] := va_S.rf
  have hl := lv_entry ([.ref (G 0 0)]) (n := 4) (Nat.le_of_ble_eq_true rfl)
  rw [lg_entry_eq]
  generalize (lg_sl ([.ref (G 0 0)]) ++ List.replicate (4 - (lg_sl ([.ref (G 0 0)])).length) Slot.unset).toArray = ls at hl ⊢
  have hl : lv_has ls 4 [(0, .ref (G 0 0))] := hl
  unfold f_X4_readsBirthday at hf
  refine lv_aload_n hx hb dX4_readsBirthday_0 rfl (lv_at hl 0 rfl) ?_
  obtain ⟨v2, T1, h3, hf⟩ := zb_i hf
  refine z_ok (z_runV (As := []) (rest := []) F k_X4_next m_1249 (c_X4_next T T1 _ h3) hP hS (zV_m (by decide)) rfl rfl rfl rfl hl.1 (Nat.le_of_ble_eq_true rfl) dX4_readsBirthday_1 (Nat.le_of_ble_eq_true rfl) ⟨Nat.le_of_ble_eq_true rfl, Nat.le_of_ble_eq_true rfl⟩ rfl) hS (fun H locs hP hS => ?_)
  refine lv_aload_n hx hb dX4_readsBirthday_4 rfl (lv_at hl 0 rfl) ?_
  obtain ⟨v5, T4, h6, hf⟩ := zb_i hf
  refine z_ok (z_runV (As := []) (rest := []) F k_X4_childHere m_1303 (c_X4_childHere T1 T4 _ h6) hP hS (zV_m (by decide)) rfl rfl rfl rfl hl.1 (Nat.le_of_ble_eq_true rfl) dX4_readsBirthday_5 (Nat.le_of_ble_eq_true rfl) ⟨Nat.le_of_ble_eq_true rfl, Nat.le_of_ble_eq_true rfl⟩ rfl) hS (fun H locs hP hS => ?_)
  refine lv_istore_n (lv' := [(1, .int v5), (0, .ref (G 0 0))]) hx hb dX4_readsBirthday_8 rfl hl (by decide) rfl (fun ls hl => ?_)
  refine lv_aload_n hx hb dX4_readsBirthday_9 rfl (lv_at hl 1 rfl) ?_
  obtain ⟨v8, T7, h9, hf⟩ := zb_i hf
  refine z_ok (z_runV (As := []) (rest := []) F k_X4_goesOn m_1275 (c_X4_goesOn T4 T7 _ h9) hP hS (zV_m (by decide)) rfl rfl rfl rfl hl.1 (Nat.le_of_ble_eq_true rfl) dX4_readsBirthday_10 (Nat.le_of_ble_eq_true rfl) ⟨Nat.le_of_ble_eq_true rfl, Nat.le_of_ble_eq_true rfl⟩ rfl) hS (fun H locs hP hS => ?_)
  refine lv_aload_n hx hb dX4_readsBirthday_13 rfl (lv_at hl 1 rfl) ?_
  refine lv_iconst (v := 1) hx hb dX4_readsBirthday_14 (by decide) ?_
  refine lv_bipush (v := 12) hx hb dX4_readsBirthday_15 (by decide) ?_
  obtain ⟨v11, T10, h12, hf⟩ := zb_i hf
  refine z_ok (z_runV (As := [.int 1, .int 12]) (rest := []) F k_X4_takesNumber m_1267 (c_X4_takesNumber 1 12 T7 T10 _ h12) hP hS (zV_m (by decide)) rfl rfl rfl rfl hl.1 (Nat.le_of_ble_eq_true rfl) dX4_readsBirthday_17 (Nat.le_of_ble_eq_true rfl) ⟨Nat.le_of_ble_eq_true rfl, Nat.le_of_ble_eq_true rfl⟩ rfl) hS (fun H locs hP hS => ?_)
  refine lv_istore_n (lv' := [(2, .int v11), (1, .int v5), (0, .ref (G 0 0))]) hx hb dX4_readsBirthday_20 rfl hl (by decide) rfl (fun ls hl => ?_)
  refine lv_aload_n hx hb dX4_readsBirthday_21 rfl (lv_at hl 2 rfl) ?_
  refine lv_iconst (v := 1) hx hb dX4_readsBirthday_22 (by decide) ?_
  refine lv_bipush (v := 30) hx hb dX4_readsBirthday_23 (by decide) ?_
  obtain ⟨v14, T13, h15, hf⟩ := zb_i hf
  refine z_ok (z_runV (As := [.int 1, .int 30]) (rest := []) F k_X4_here m_1271 (c_X4_here 1 30 T10 T13 _ h15) hP hS (zV_m (by decide)) rfl rfl rfl rfl hl.1 (Nat.le_of_ble_eq_true rfl) dX4_readsBirthday_25 (Nat.le_of_ble_eq_true rfl) ⟨Nat.le_of_ble_eq_true rfl, Nat.le_of_ble_eq_true rfl⟩ rfl) hS (fun H locs hP hS => ?_)
  refine lv_istore_n (lv' := [(3, .int v14), (2, .int v11), (1, .int v5), (0, .ref (G 0 0))]) hx hb dX4_readsBirthday_28 rfl hl (by decide) rfl (fun ls hl => ?_)
  refine lv_aload_n hx hb dX4_readsBirthday_29 rfl (lv_at hl 3 rfl) ?_
  refine z_get hx hb hts (fun w h => List.mem_cons_of_mem _ (ziX4 w h)) hown hK hP (zV_m (by decide)) rfl rfl 22 (by decide) (List.mem_cons_of_mem _ m_1163) rfl rfl dX4_readsBirthday_30 ?_
  refine lv_if_ne (tgt := 66) hx hb dX4_readsBirthday_33 (by decide) (fun hc => ?_) (fun hc => ?_)
  · have hf := zif_n hf hc
    exact j_X4_readsBirthday_66 F hr hlocks hex v5 v11 v14 T13 hf hP hS (lv_sub hl [3, 2, 1, 0] rfl)
  · have hf := zif_p hf hc
    refine lv_aload_n hx hb dX4_readsBirthday_36 rfl (lv_at hl 3 rfl) ?_
    refine lv_iload_n hx hb dX4_readsBirthday_37 rfl (lv_at hl 2 rfl) ?_
    refine lv_aload_n hx hb dX4_readsBirthday_38 rfl (lv_at hl 3 rfl) ?_
    refine z_get hx hb hts (fun w h => List.mem_cons_of_mem _ (ziX4 w h)) hown hK hP (zV_m (by decide)) rfl rfl 2 (by decide) (List.mem_cons_of_mem _ m_1143) rfl rfl dX4_readsBirthday_39 ?_
    refine lv_iload_n hx hb dX4_readsBirthday_42 rfl (lv_at hl 2 rfl) ?_
    obtain ⟨v28, T27, h29, hf⟩ := zb_i hf
    refine z_ok (z_runS (As := [.int v5]) (rest := [.ref (G 2 0), .int v5, .ref (G 0 0)]) F k_X4_c m_1095 (c_X4_c v5 T13 T27 _ h29) hP hS rfl rfl hl.1 (Nat.le_of_ble_eq_true rfl) dX4_readsBirthday_43 (Nat.le_of_ble_eq_true rfl) ⟨Nat.le_of_ble_eq_true rfl, Nat.le_of_ble_eq_true rfl⟩ rfl) hS (fun H locs hP hS => ?_)
    refine lv_iconst (v := 3) hx hb dX4_readsBirthday_46 (by decide) ?_
    refine lv_iadd hx hb dX4_readsBirthday_47 ?_
    obtain ⟨x31, ex31, hf⟩ := zl_i hf
    refine z_topi ex31 ?_
    obtain ⟨h30, hf⟩ := zif_c hf
    refine z_iald hx hb hK hP (zIA_m (by decide) (by decide)) (zin_i h30) dX4_readsBirthday_48 ?_
    refine lv_iload_n hx hb dX4_readsBirthday_49 rfl (lv_at hl 1 rfl) ?_
    refine lv_iload_n hx hb dX4_readsBirthday_50 rfl (lv_at hl 0 rfl) ?_
    obtain ⟨v33, T32, h34, hf⟩ := zb_i hf
    refine z_ok (z_runS (As := [.int v11, .int v14]) (rest := [.int (T27.2 2 0 x31.toNatClampNeg), .int v5, .ref (G 0 0)]) F k_X4_position m_1307 (c_X4_position v11 v14 T27 T32 _ h34) hP hS rfl rfl hl.1 (Nat.le_of_ble_eq_true rfl) dX4_readsBirthday_51 (Nat.le_of_ble_eq_true rfl) ⟨Nat.le_of_ble_eq_true rfl, Nat.le_of_ble_eq_true rfl⟩ rfl) hS (fun H locs hP hS => ?_)
    obtain ⟨v36, T35, h37, hf⟩ := zb_i hf
    refine z_ok (z_runV (As := [.int v5, .int (T27.2 2 0 x31.toNatClampNeg), .int v33]) (rest := []) F k_X4_reason m_1105 (c_X4_reason v5 (T27.2 2 0 x31.toNatClampNeg) v33 T32 T35 _ h37) hP hS (zV_m (by decide)) rfl rfl rfl rfl hl.1 (Nat.le_of_ble_eq_true rfl) dX4_readsBirthday_54 (Nat.le_of_ble_eq_true rfl) ⟨Nat.le_of_ble_eq_true rfl, Nat.le_of_ble_eq_true rfl⟩ rfl) hS (fun H locs hP hS => ?_)
    refine lv_if_eq (tgt := 66) hx hb dX4_readsBirthday_57 (by decide) (fun hc => ?_) (fun hc => ?_)
    · have hf := zif_p hf hc
      exact j_X4_readsBirthday_66 F hr hlocks hex v5 v11 v14 T35 hf hP hS (lv_sub hl [3, 2, 1, 0] rfl)
    · have hf := zif_n hf hc
      refine lv_aload_n hx hb dX4_readsBirthday_60 rfl (lv_at hl 3 rfl) ?_
      refine lv_bipush (v := 6) hx hb dX4_readsBirthday_61 (by decide) ?_
      obtain ⟨v39, T38, h40, hf⟩ := zb_i hf
      refine z_ok (z_runV (As := [.int 6]) (rest := []) F k_X4_errs m_1263 (c_X4_errs 6 T35 T38 _ h40) hP hS (zV_m (by decide)) rfl rfl rfl rfl hl.1 (Nat.le_of_ble_eq_true rfl) dX4_readsBirthday_63 (Nat.le_of_ble_eq_true rfl) ⟨Nat.le_of_ble_eq_true rfl, Nat.le_of_ble_eq_true rfl⟩ rfl) hS (fun H locs hP hS => ?_)
      exact j_X4_readsBirthday_66 F hr hlocks hex v5 v11 v14 T38 hf hP hS (lv_sub hl [3, 2, 1, 0] rfl)

def jn_X4_readsDraw_25 (w1 : Int32) (z0 : Int32) (T : zT) : Option (Unit × zT) := (if z0 = (-1) then zb (f_X4_errs 6 T) fun _v14 T13 => (if (T13.1 0 0 22) = 0 then zb (f_X4_takesDraw w1 z0 T13) fun _v17 T16 => zb (f_X4_next T16) fun _v20 T19 => some ((), T19) else some ((), T13)) else (if (T.1 0 0 22) = 0 then zb (f_X4_takesDraw w1 z0 T) fun _v8 T7 => zb (f_X4_next T7) fun _v11 T10 => some ((), T10) else some ((), T)))
def f_X4_readsDraw  (T : zT) : Option (Unit × zT) := zb (f_X4_next T) fun _v2 T1 => zb (f_X4_childHere T1) fun v5 T4 => (if (T4.1 0 0 22) = 0 then zb (f_X4_tries v5 T4) fun v23 T22 => jn_X4_readsDraw_25 v5 v23 T22 else jn_X4_readsDraw_25 v5 1 T4)
set_option maxHeartbeats 4000000 in
set_option maxRecDepth 100000 in
theorem j_X4_readsDraw_25 {p : Program} {l : Launch} {e : Env} {s : State} {m : MethodId} {args : Array Value} {below : List Frame} {meth : Method} {c : Code} {D : va_G} {Y : Nat → ClassId} {S V : Nat → Nat} {G : Nat → Nat → Nat} {A : Nat → Prop} {c0 : Cond} (F : zF 1 4  0 0  p l s m args c cX4_readsDraw 3 RX4 c0 D Y S V G A) (hr : meth.sig.returnType = none) (hlocks : meth.locks = false) (hex : ∀ x ∈ c.exceptionTable.toList, False) (w1 : Int32) (z0 : Int32) (T : zT) {T' : zT} {v : Unit} {H : Heap} {locs : List Loc} {ls : Array Slot} (hf : jn_X4_readsDraw_25 w1 z0 T = some (v, T')) (hP : zP 1 D Y G T H) (hS : va_S A s.heap H locs) (hl : lv_has ls 3 [(0, .ref (G 0 0)), (1, .int w1)]) :
    W p l e (zR 4  0 0 ) s m args below meth c H locs 0 0 (vx_MQ below (zQ 1 D Y G A (.inl none) T') (zX 1 D Y G A (.inl none) T') args s  0 0  A) (F0 m 25 ls [.int z0]) := by
  obtain ⟨hx, hb, hml, hown, hts, hl9, hG, hK, hA⟩ := id F
  unfold jn_X4_readsDraw_25 at hf
  refine lv_istore_n (lv' := [(2, .int z0), (0, .ref (G 0 0)), (1, .int w1)]) hx hb dX4_readsDraw_25 rfl hl (by decide) rfl (fun ls hl => ?_)
  refine lv_iload_n hx hb dX4_readsDraw_26 rfl (lv_at hl 0 rfl) ?_
  refine lv_iconst (v := (-1)) hx hb dX4_readsDraw_27 (by decide) ?_
  refine lv_icmp_ne (tgt := 37) hx hb dX4_readsDraw_28 (by decide) (fun hc => ?_) (fun hc => ?_)
  · have hf := zif_n hf hc
    refine lv_aload_n hx hb dX4_readsDraw_37 rfl (lv_at hl 1 rfl) ?_
    refine z_get hx hb hts (fun w h => List.mem_cons_of_mem _ (ziX4 w h)) hown hK hP (zV_m (by decide)) rfl rfl 22 (by decide) (List.mem_cons_of_mem _ m_1163) rfl rfl dX4_readsDraw_38 ?_
    refine lv_if_ne (tgt := 54) hx hb dX4_readsDraw_41 (by decide) (fun hc => ?_) (fun hc => ?_)
    · have hf := zif_n hf hc
      obtain ⟨q1, q2⟩ := zs_i hf
      subst q1; subst q2
      exact z_vret hx hb hr rfl hP hS hlocks (Nat.le_of_ble_eq_true rfl) (Nat.le_of_ble_eq_true rfl) dX4_readsDraw_54
    · have hf := zif_p hf hc
      refine lv_aload_n hx hb dX4_readsDraw_44 rfl (lv_at hl 1 rfl) ?_
      refine lv_iload_n hx hb dX4_readsDraw_45 rfl (lv_at hl 2 rfl) ?_
      refine lv_iload_n hx hb dX4_readsDraw_46 rfl (lv_at hl 0 rfl) ?_
      obtain ⟨v8, T7, h9, hf⟩ := zb_i hf
      refine z_ok (z_runV (As := [.int w1, .int z0]) (rest := []) F k_X4_takesDraw m_1117 (c_X4_takesDraw w1 z0 T T7 _ h9) hP hS (zV_m (by decide)) rfl rfl rfl rfl hl.1 (Nat.le_of_ble_eq_true rfl) dX4_readsDraw_47 (Nat.le_of_ble_eq_true rfl) ⟨Nat.le_of_ble_eq_true rfl, Nat.le_of_ble_eq_true rfl⟩ rfl) hS (fun H locs hP hS => ?_)
      refine lv_aload_n hx hb dX4_readsDraw_50 rfl (lv_at hl 1 rfl) ?_
      obtain ⟨v11, T10, h12, hf⟩ := zb_i hf
      refine z_ok (z_runV (As := []) (rest := []) F k_X4_next m_1249 (c_X4_next T7 T10 _ h12) hP hS (zV_m (by decide)) rfl rfl rfl rfl hl.1 (Nat.le_of_ble_eq_true rfl) dX4_readsDraw_51 (Nat.le_of_ble_eq_true rfl) ⟨Nat.le_of_ble_eq_true rfl, Nat.le_of_ble_eq_true rfl⟩ rfl) hS (fun H locs hP hS => ?_)
      obtain ⟨q1, q2⟩ := zs_i hf
      subst q1; subst q2
      exact z_vret hx hb hr rfl hP hS hlocks (Nat.le_of_ble_eq_true rfl) (Nat.le_of_ble_eq_true rfl) dX4_readsDraw_54
  · have hf := zif_p hf hc
    refine lv_aload_n hx hb dX4_readsDraw_31 rfl (lv_at hl 1 rfl) ?_
    refine lv_bipush (v := 6) hx hb dX4_readsDraw_32 (by decide) ?_
    obtain ⟨v14, T13, h15, hf⟩ := zb_i hf
    refine z_ok (z_runV (As := [.int 6]) (rest := []) F k_X4_errs m_1263 (c_X4_errs 6 T T13 _ h15) hP hS (zV_m (by decide)) rfl rfl rfl rfl hl.1 (Nat.le_of_ble_eq_true rfl) dX4_readsDraw_34 (Nat.le_of_ble_eq_true rfl) ⟨Nat.le_of_ble_eq_true rfl, Nat.le_of_ble_eq_true rfl⟩ rfl) hS (fun H locs hP hS => ?_)
    refine lv_aload_n hx hb dX4_readsDraw_37 rfl (lv_at hl 1 rfl) ?_
    refine z_get hx hb hts (fun w h => List.mem_cons_of_mem _ (ziX4 w h)) hown hK hP (zV_m (by decide)) rfl rfl 22 (by decide) (List.mem_cons_of_mem _ m_1163) rfl rfl dX4_readsDraw_38 ?_
    refine lv_if_ne (tgt := 54) hx hb dX4_readsDraw_41 (by decide) (fun hc => ?_) (fun hc => ?_)
    · have hf := zif_n hf hc
      obtain ⟨q1, q2⟩ := zs_i hf
      subst q1; subst q2
      exact z_vret hx hb hr rfl hP hS hlocks (Nat.le_of_ble_eq_true rfl) (Nat.le_of_ble_eq_true rfl) dX4_readsDraw_54
    · have hf := zif_p hf hc
      refine lv_aload_n hx hb dX4_readsDraw_44 rfl (lv_at hl 1 rfl) ?_
      refine lv_iload_n hx hb dX4_readsDraw_45 rfl (lv_at hl 2 rfl) ?_
      refine lv_iload_n hx hb dX4_readsDraw_46 rfl (lv_at hl 0 rfl) ?_
      obtain ⟨v17, T16, h18, hf⟩ := zb_i hf
      refine z_ok (z_runV (As := [.int w1, .int z0]) (rest := []) F k_X4_takesDraw m_1117 (c_X4_takesDraw w1 z0 T13 T16 _ h18) hP hS (zV_m (by decide)) rfl rfl rfl rfl hl.1 (Nat.le_of_ble_eq_true rfl) dX4_readsDraw_47 (Nat.le_of_ble_eq_true rfl) ⟨Nat.le_of_ble_eq_true rfl, Nat.le_of_ble_eq_true rfl⟩ rfl) hS (fun H locs hP hS => ?_)
      refine lv_aload_n hx hb dX4_readsDraw_50 rfl (lv_at hl 1 rfl) ?_
      obtain ⟨v20, T19, h21, hf⟩ := zb_i hf
      refine z_ok (z_runV (As := []) (rest := []) F k_X4_next m_1249 (c_X4_next T16 T19 _ h21) hP hS (zV_m (by decide)) rfl rfl rfl rfl hl.1 (Nat.le_of_ble_eq_true rfl) dX4_readsDraw_51 (Nat.le_of_ble_eq_true rfl) ⟨Nat.le_of_ble_eq_true rfl, Nat.le_of_ble_eq_true rfl⟩ rfl) hS (fun H locs hP hS => ?_)
      obtain ⟨q1, q2⟩ := zs_i hf
      subst q1; subst q2
      exact z_vret hx hb hr rfl hP hS hlocks (Nat.le_of_ble_eq_true rfl) (Nat.le_of_ble_eq_true rfl) dX4_readsDraw_54
set_option maxHeartbeats 4000000 in
set_option maxRecDepth 100000 in
theorem c_X4_readsDraw  (T T' : zT) (v : Unit) (hf : f_X4_readsDraw  T = some (v, T')) : zC 1 yX4_readsDraw cX4_readsDraw 3 none 4  0 0  (fun G _ => [.ref (G 0 0)]) T (fun _ => .inl none) T' := by
  intro l D Y S V G A hl9 hG
  refine vx_ofW (cc := cX4_readsDraw) (maxL := 3) (ret := none) (by decide) rfl ?_
  intro p e s m args below meth c s₁ B hml hex hv
  obtain ⟨rfl, hK, hP, hA⟩ := hv
  have hx := B.exec
  have hb := B.bytes
  have hr := B.returns
  have hlocks := B.notSynchronized
  have hown : s.vm.findClass RX4 = some m.cls := findClass_of_methodNamed B.named
  have hts := atoms_spec (ws := Cond.code yX4_readsDraw cX4_readsDraw 3 none :: zWS) B.pre
  have F : zF 1 4  0 0  p l s m _ c cX4_readsDraw 3 RX4 (Cond.code yX4_readsDraw cX4_readsDraw 3 none) D Y S V G A := ⟨hx, hb, hml, hown, hts, hl9, hG, hK, hA⟩
  have hS : va_S A s.heap s.heap [] := va_S.rf
  have hl := lv_entry ([.ref (G 0 0)]) (n := 3) (Nat.le_of_ble_eq_true rfl)
  rw [lg_entry_eq]
  generalize (lg_sl ([.ref (G 0 0)]) ++ List.replicate (3 - (lg_sl ([.ref (G 0 0)])).length) Slot.unset).toArray = ls at hl ⊢
  have hl : lv_has ls 3 [(0, .ref (G 0 0))] := hl
  unfold f_X4_readsDraw at hf
  refine lv_aload_n hx hb dX4_readsDraw_0 rfl (lv_at hl 0 rfl) ?_
  obtain ⟨v2, T1, h3, hf⟩ := zb_i hf
  refine z_ok (z_runV (As := []) (rest := []) F k_X4_next m_1249 (c_X4_next T T1 _ h3) hP hS (zV_m (by decide)) rfl rfl rfl rfl hl.1 (Nat.le_of_ble_eq_true rfl) dX4_readsDraw_1 (Nat.le_of_ble_eq_true rfl) ⟨Nat.le_of_ble_eq_true rfl, Nat.le_of_ble_eq_true rfl⟩ rfl) hS (fun H locs hP hS => ?_)
  refine lv_aload_n hx hb dX4_readsDraw_4 rfl (lv_at hl 0 rfl) ?_
  obtain ⟨v5, T4, h6, hf⟩ := zb_i hf
  refine z_ok (z_runV (As := []) (rest := []) F k_X4_childHere m_1303 (c_X4_childHere T1 T4 _ h6) hP hS (zV_m (by decide)) rfl rfl rfl rfl hl.1 (Nat.le_of_ble_eq_true rfl) dX4_readsDraw_5 (Nat.le_of_ble_eq_true rfl) ⟨Nat.le_of_ble_eq_true rfl, Nat.le_of_ble_eq_true rfl⟩ rfl) hS (fun H locs hP hS => ?_)
  refine lv_istore_n (lv' := [(1, .int v5), (0, .ref (G 0 0))]) hx hb dX4_readsDraw_8 rfl hl (by decide) rfl (fun ls hl => ?_)
  refine lv_aload_n hx hb dX4_readsDraw_9 rfl (lv_at hl 1 rfl) ?_
  refine z_get hx hb hts (fun w h => List.mem_cons_of_mem _ (ziX4 w h)) hown hK hP (zV_m (by decide)) rfl rfl 22 (by decide) (List.mem_cons_of_mem _ m_1163) rfl rfl dX4_readsDraw_10 ?_
  refine lv_if_ne (tgt := 24) hx hb dX4_readsDraw_13 (by decide) (fun hc => ?_) (fun hc => ?_)
  · have hf := zif_n hf hc
    refine lv_iconst (v := 1) hx hb dX4_readsDraw_24 (by decide) ?_
    exact j_X4_readsDraw_25 F hr hlocks hex v5 1 T4 hf hP hS (lv_sub hl [1, 0] rfl)
  · have hf := zif_p hf hc
    refine lv_aload_n hx hb dX4_readsDraw_16 rfl (lv_at hl 1 rfl) ?_
    refine lv_iload_n hx hb dX4_readsDraw_17 rfl (lv_at hl 0 rfl) ?_
    obtain ⟨v23, T22, h24, hf⟩ := zb_i hf
    refine z_ok (z_runV (As := [.int v5]) (rest := []) F k_X4_tries m_1098 (c_X4_tries v5 T4 T22 _ h24) hP hS (zV_m (by decide)) rfl rfl rfl rfl hl.1 (Nat.le_of_ble_eq_true rfl) dX4_readsDraw_18 (Nat.le_of_ble_eq_true rfl) ⟨Nat.le_of_ble_eq_true rfl, Nat.le_of_ble_eq_true rfl⟩ rfl) hS (fun H locs hP hS => ?_)
    refine lv_goto (tgt := 25) hx hb dX4_readsDraw_21 (by decide) ?_
    exact j_X4_readsDraw_25 F hr hlocks hex v5 v23 T22 hf hP hS (lv_sub hl [1, 0] rfl)

def f_X4_readsCakes  (T : zT) : Option (Unit × zT) := zb (f_X4_next T) fun _v2 T1 => zb (f_X4_takesNumber 0 5 T1) fun v5 T4 => zl (11 + v5) fun x8 => if zin x8 151 = true then zl (99 - (T4.2 2 0 x8.toNatClampNeg)) fun x9 => zb (f_X4_takesNumber 1 x9 T4) fun v11 T10 => (if (T10.1 0 0 22) = 0 then zl (11 + v5) fun x14 => if zin x14 151 = true then if zin (11 + v5) 151 = true then zl (wA T10 2 0 (upd (T10.2 2 0) (11 + v5).toNatClampNeg ((T10.2 2 0 x14.toNatClampNeg) + v11))) fun T16 => some ((), T16) else none else none else some ((), T10)) else none
set_option maxHeartbeats 4000000 in
set_option maxRecDepth 100000 in
theorem c_X4_readsCakes  (T T' : zT) (v : Unit) (hf : f_X4_readsCakes  T = some (v, T')) : zC 1 yX4_readsCakes cX4_readsCakes 4 none 4  0 0  (fun G _ => [.ref (G 0 0)]) T (fun _ => .inl none) T' := by
  intro l D Y S V G A hl9 hG
  refine vx_ofW (cc := cX4_readsCakes) (maxL := 4) (ret := none) (by decide) rfl ?_
  intro p e s m args below meth c s₁ B hml hex hv
  obtain ⟨rfl, hK, hP, hA⟩ := hv
  have hx := B.exec
  have hb := B.bytes
  have hr := B.returns
  have hlocks := B.notSynchronized
  have hown : s.vm.findClass RX4 = some m.cls := findClass_of_methodNamed B.named
  have hts := atoms_spec (ws := Cond.code yX4_readsCakes cX4_readsCakes 4 none :: zWS) B.pre
  have F : zF 1 4  0 0  p l s m _ c cX4_readsCakes 4 RX4 (Cond.code yX4_readsCakes cX4_readsCakes 4 none) D Y S V G A := ⟨hx, hb, hml, hown, hts, hl9, hG, hK, hA⟩
  have hS : va_S A s.heap s.heap [] := va_S.rf
  have hl := lv_entry ([.ref (G 0 0)]) (n := 4) (Nat.le_of_ble_eq_true rfl)
  rw [lg_entry_eq]
  generalize (lg_sl ([.ref (G 0 0)]) ++ List.replicate (4 - (lg_sl ([.ref (G 0 0)])).length) Slot.unset).toArray = ls at hl ⊢
  have hl : lv_has ls 4 [(0, .ref (G 0 0))] := hl
  unfold f_X4_readsCakes at hf
  refine lv_aload_n hx hb dX4_readsCakes_0 rfl (lv_at hl 0 rfl) ?_
  obtain ⟨v2, T1, h3, hf⟩ := zb_i hf
  refine z_ok (z_runV (As := []) (rest := []) F k_X4_next m_1249 (c_X4_next T T1 _ h3) hP hS (zV_m (by decide)) rfl rfl rfl rfl hl.1 (Nat.le_of_ble_eq_true rfl) dX4_readsCakes_1 (Nat.le_of_ble_eq_true rfl) ⟨Nat.le_of_ble_eq_true rfl, Nat.le_of_ble_eq_true rfl⟩ rfl) hS (fun H locs hP hS => ?_)
  refine lv_aload_n hx hb dX4_readsCakes_4 rfl (lv_at hl 0 rfl) ?_
  refine lv_iconst (v := 0) hx hb dX4_readsCakes_5 (by decide) ?_
  refine lv_iconst (v := 5) hx hb dX4_readsCakes_6 (by decide) ?_
  obtain ⟨v5, T4, h6, hf⟩ := zb_i hf
  refine z_ok (z_runV (As := [.int 0, .int 5]) (rest := []) F k_X4_takesNumber m_1267 (c_X4_takesNumber 0 5 T1 T4 _ h6) hP hS (zV_m (by decide)) rfl rfl rfl rfl hl.1 (Nat.le_of_ble_eq_true rfl) dX4_readsCakes_7 (Nat.le_of_ble_eq_true rfl) ⟨Nat.le_of_ble_eq_true rfl, Nat.le_of_ble_eq_true rfl⟩ rfl) hS (fun H locs hP hS => ?_)
  refine lv_istore_n (lv' := [(1, .int v5), (0, .ref (G 0 0))]) hx hb dX4_readsCakes_10 rfl hl (by decide) rfl (fun ls hl => ?_)
  refine lv_bipush (v := 99) hx hb dX4_readsCakes_11 (by decide) ?_
  refine lv_aload_n hx hb dX4_readsCakes_13 rfl (lv_at hl 1 rfl) ?_
  refine z_get hx hb hts (fun w h => List.mem_cons_of_mem _ (ziX4 w h)) hown hK hP (zV_m (by decide)) rfl rfl 2 (by decide) (List.mem_cons_of_mem _ m_1143) rfl rfl dX4_readsCakes_14 ?_
  refine lv_bipush (v := 11) hx hb dX4_readsCakes_17 (by decide) ?_
  refine lv_iload_n hx hb dX4_readsCakes_19 rfl (lv_at hl 0 rfl) ?_
  refine lv_iadd hx hb dX4_readsCakes_20 ?_
  obtain ⟨x8, ex8, hf⟩ := zl_i hf
  refine z_topi ex8 ?_
  obtain ⟨h7, hf⟩ := zif_c hf
  refine z_iald hx hb hK hP (zIA_m (by decide) (by decide)) (zin_i h7) dX4_readsCakes_21 ?_
  refine lv_isub hx hb dX4_readsCakes_22 ?_
  obtain ⟨x9, ex9, hf⟩ := zl_i hf
  refine z_topi ex9 ?_
  refine lv_istore_n (lv' := [(2, .int x9), (1, .int v5), (0, .ref (G 0 0))]) hx hb dX4_readsCakes_23 rfl hl (by decide) rfl (fun ls hl => ?_)
  refine lv_aload_n hx hb dX4_readsCakes_24 rfl (lv_at hl 2 rfl) ?_
  refine lv_iconst (v := 1) hx hb dX4_readsCakes_25 (by decide) ?_
  refine lv_iload_n hx hb dX4_readsCakes_26 rfl (lv_at hl 0 rfl) ?_
  obtain ⟨v11, T10, h12, hf⟩ := zb_i hf
  refine z_ok (z_runV (As := [.int 1, .int x9]) (rest := []) F k_X4_takesNumber m_1267 (c_X4_takesNumber 1 x9 T4 T10 _ h12) hP hS (zV_m (by decide)) rfl rfl rfl rfl hl.1 (Nat.le_of_ble_eq_true rfl) dX4_readsCakes_27 (Nat.le_of_ble_eq_true rfl) ⟨Nat.le_of_ble_eq_true rfl, Nat.le_of_ble_eq_true rfl⟩ rfl) hS (fun H locs hP hS => ?_)
  refine lv_istore_n (lv' := [(3, .int v11), (2, .int x9), (1, .int v5), (0, .ref (G 0 0))]) hx hb dX4_readsCakes_30 rfl hl (by decide) rfl (fun ls hl => ?_)
  refine lv_aload_n hx hb dX4_readsCakes_31 rfl (lv_at hl 3 rfl) ?_
  refine z_get hx hb hts (fun w h => List.mem_cons_of_mem _ (ziX4 w h)) hown hK hP (zV_m (by decide)) rfl rfl 22 (by decide) (List.mem_cons_of_mem _ m_1163) rfl rfl dX4_readsCakes_32 ?_
  refine lv_if_ne (tgt := 51) hx hb dX4_readsCakes_35 (by decide) (fun hc => ?_) (fun hc => ?_)
  · have hf := zif_n hf hc
    obtain ⟨q1, q2⟩ := zs_i hf
    subst q1; subst q2
    exact z_vret hx hb hr rfl hP hS hlocks (Nat.le_of_ble_eq_true rfl) (Nat.le_of_ble_eq_true rfl) dX4_readsCakes_51
  · have hf := zif_p hf hc
    refine lv_aload_n hx hb dX4_readsCakes_38 rfl (lv_at hl 3 rfl) ?_
    refine z_get hx hb hts (fun w h => List.mem_cons_of_mem _ (ziX4 w h)) hown hK hP (zV_m (by decide)) rfl rfl 2 (by decide) (List.mem_cons_of_mem _ m_1143) rfl rfl dX4_readsCakes_39 ?_
    refine lv_bipush (v := 11) hx hb dX4_readsCakes_42 (by decide) ?_
    refine lv_iload_n hx hb dX4_readsCakes_44 rfl (lv_at hl 2 rfl) ?_
    refine lv_iadd hx hb dX4_readsCakes_45 ?_
    refine lv_dup2_11 hx hb dX4_readsCakes_46 rfl rfl ?_
    obtain ⟨x14, ex14, hf⟩ := zl_i hf
    refine z_topi ex14 ?_
    obtain ⟨h13, hf⟩ := zif_c hf
    refine z_iald hx hb hK hP (zIA_m (by decide) (by decide)) (zin_i h13) dX4_readsCakes_47 ?_
    refine lv_iload_n hx hb dX4_readsCakes_48 rfl (lv_at hl 0 rfl) ?_
    refine lv_iadd hx hb dX4_readsCakes_49 ?_
    obtain ⟨h15, hf⟩ := zif_c hf
    obtain ⟨T16, eT16, hf⟩ := zl_i hf
    refine z_iast hx hb hK hP hG hS (zIA_m (by decide) (by decide)) (zin_i h15) dX4_readsCakes_50 (fun H locs hP hS => ?_)
    rw [← eT16] at hP
    obtain ⟨q1, q2⟩ := zs_i hf
    subst q1; subst q2
    exact z_vret hx hb hr rfl hP hS hlocks (Nat.le_of_ble_eq_true rfl) (Nat.le_of_ble_eq_true rfl) dX4_readsCakes_51

def f_X4_readsDays  (T : zT) : Option (Unit × zT) := zb (f_X4_next T) fun _v2 T1 => zb (f_X4_here 1 720 T1) fun v5 T4 => (if (T4.1 0 0 22) = 0 then zb (f_X4_isTooLate v5 T4) fun v14 T13 => (if v14 = 0 then (if (T13.1 0 0 22) = 0 then zb (f_X4_passes v5 T13) fun v17 T16 => zb (f_X4_next T16) fun _v20 T19 => some ((), T19) else some ((), T13)) else zb (f_X4_errs 2 T13) fun _v23 T22 => (if (T22.1 0 0 22) = 0 then zb (f_X4_passes v5 T22) fun v26 T25 => zb (f_X4_next T25) fun _v29 T28 => some ((), T28) else some ((), T22))) else (if (T4.1 0 0 22) = 0 then zb (f_X4_passes v5 T4) fun v8 T7 => zb (f_X4_next T7) fun _v11 T10 => some ((), T10) else some ((), T4)))
set_option maxHeartbeats 4000000 in
set_option maxRecDepth 100000 in
theorem c_X4_readsDays  (T T' : zT) (v : Unit) (hf : f_X4_readsDays  T = some (v, T')) : zC 1 yX4_readsDays cX4_readsDays 3 none 6  0 0  (fun G _ => [.ref (G 0 0)]) T (fun _ => .inl none) T' := by
  intro l D Y S V G A hl9 hG
  refine vx_ofW (cc := cX4_readsDays) (maxL := 3) (ret := none) (by decide) rfl ?_
  intro p e s m args below meth c s₁ B hml hex hv
  obtain ⟨rfl, hK, hP, hA⟩ := hv
  have hx := B.exec
  have hb := B.bytes
  have hr := B.returns
  have hlocks := B.notSynchronized
  have hown : s.vm.findClass RX4 = some m.cls := findClass_of_methodNamed B.named
  have hts := atoms_spec (ws := Cond.code yX4_readsDays cX4_readsDays 3 none :: zWS) B.pre
  have F : zF 1 6  0 0  p l s m _ c cX4_readsDays 3 RX4 (Cond.code yX4_readsDays cX4_readsDays 3 none) D Y S V G A := ⟨hx, hb, hml, hown, hts, hl9, hG, hK, hA⟩
  have hS : va_S A s.heap s.heap [] := va_S.rf
  have hl := lv_entry ([.ref (G 0 0)]) (n := 3) (Nat.le_of_ble_eq_true rfl)
  rw [lg_entry_eq]
  generalize (lg_sl ([.ref (G 0 0)]) ++ List.replicate (3 - (lg_sl ([.ref (G 0 0)])).length) Slot.unset).toArray = ls at hl ⊢
  have hl : lv_has ls 3 [(0, .ref (G 0 0))] := hl
  unfold f_X4_readsDays at hf
  refine lv_aload_n hx hb dX4_readsDays_0 rfl (lv_at hl 0 rfl) ?_
  obtain ⟨v2, T1, h3, hf⟩ := zb_i hf
  refine z_ok (z_runV (As := []) (rest := []) F k_X4_next m_1249 (c_X4_next T T1 _ h3) hP hS (zV_m (by decide)) rfl rfl rfl rfl hl.1 (Nat.le_of_ble_eq_true rfl) dX4_readsDays_1 (Nat.le_of_ble_eq_true rfl) ⟨Nat.le_of_ble_eq_true rfl, Nat.le_of_ble_eq_true rfl⟩ rfl) hS (fun H locs hP hS => ?_)
  refine lv_aload_n hx hb dX4_readsDays_4 rfl (lv_at hl 0 rfl) ?_
  refine lv_iconst (v := 1) hx hb dX4_readsDays_5 (by decide) ?_
  refine lv_sipush (v := 720) hx hb dX4_readsDays_6 (by decide) ?_
  obtain ⟨v5, T4, h6, hf⟩ := zb_i hf
  refine z_ok (z_runV (As := [.int 1, .int 720]) (rest := []) F k_X4_here m_1271 (c_X4_here 1 720 T1 T4 _ h6) hP hS (zV_m (by decide)) rfl rfl rfl rfl hl.1 (Nat.le_of_ble_eq_true rfl) dX4_readsDays_9 (Nat.le_of_ble_eq_true rfl) ⟨Nat.le_of_ble_eq_true rfl, Nat.le_of_ble_eq_true rfl⟩ rfl) hS (fun H locs hP hS => ?_)
  refine lv_istore_n (lv' := [(1, .int v5), (0, .ref (G 0 0))]) hx hb dX4_readsDays_12 rfl hl (by decide) rfl (fun ls hl => ?_)
  refine lv_aload_n hx hb dX4_readsDays_13 rfl (lv_at hl 1 rfl) ?_
  refine z_get hx hb hts (fun w h => List.mem_cons_of_mem _ (ziX4 w h)) hown hK hP (zV_m (by decide)) rfl rfl 22 (by decide) (List.mem_cons_of_mem _ m_1163) rfl rfl dX4_readsDays_14 ?_
  refine lv_if_ne (tgt := 33) hx hb dX4_readsDays_17 (by decide) (fun hc => ?_) (fun hc => ?_)
  · have hf := zif_n hf hc
    refine lv_aload_n hx hb dX4_readsDays_33 rfl (lv_at hl 1 rfl) ?_
    refine z_get hx hb hts (fun w h => List.mem_cons_of_mem _ (ziX4 w h)) hown hK hP (zV_m (by decide)) rfl rfl 22 (by decide) (List.mem_cons_of_mem _ m_1163) rfl rfl dX4_readsDays_34 ?_
    refine lv_if_ne (tgt := 50) hx hb dX4_readsDays_37 (by decide) (fun hc => ?_) (fun hc => ?_)
    · have hf := zif_n hf hc
      obtain ⟨q1, q2⟩ := zs_i hf
      subst q1; subst q2
      exact z_vret hx hb hr rfl hP hS hlocks (Nat.le_of_ble_eq_true rfl) (Nat.le_of_ble_eq_true rfl) dX4_readsDays_50
    · have hf := zif_p hf hc
      refine lv_aload_n hx hb dX4_readsDays_40 rfl (lv_at hl 1 rfl) ?_
      refine lv_iload_n hx hb dX4_readsDays_41 rfl (lv_at hl 0 rfl) ?_
      obtain ⟨v8, T7, h9, hf⟩ := zb_i hf
      refine z_ok (z_runV (As := [.int v5]) (rest := []) F k_X4_passes m_1121 (c_X4_passes v5 T4 T7 _ h9) hP hS (zV_m (by decide)) rfl rfl rfl rfl hl.1 (Nat.le_of_ble_eq_true rfl) dX4_readsDays_42 (Nat.le_of_ble_eq_true rfl) ⟨Nat.le_of_ble_eq_true rfl, Nat.le_of_ble_eq_true rfl⟩ rfl) hS (fun H locs hP hS => ?_)
      refine lv_istore_n (lv' := [(2, .int v8), (1, .int v5), (0, .ref (G 0 0))]) hx hb dX4_readsDays_45 rfl hl (by decide) rfl (fun ls hl => ?_)
      refine lv_aload_n hx hb dX4_readsDays_46 rfl (lv_at hl 2 rfl) ?_
      obtain ⟨v11, T10, h12, hf⟩ := zb_i hf
      refine z_ok (z_runV (As := []) (rest := []) F k_X4_next m_1249 (c_X4_next T7 T10 _ h12) hP hS (zV_m (by decide)) rfl rfl rfl rfl hl.1 (Nat.le_of_ble_eq_true rfl) dX4_readsDays_47 (Nat.le_of_ble_eq_true rfl) ⟨Nat.le_of_ble_eq_true rfl, Nat.le_of_ble_eq_true rfl⟩ rfl) hS (fun H locs hP hS => ?_)
      obtain ⟨q1, q2⟩ := zs_i hf
      subst q1; subst q2
      exact z_vret hx hb hr rfl hP hS hlocks (Nat.le_of_ble_eq_true rfl) (Nat.le_of_ble_eq_true rfl) dX4_readsDays_50
  · have hf := zif_p hf hc
    refine lv_aload_n hx hb dX4_readsDays_20 rfl (lv_at hl 1 rfl) ?_
    refine lv_iload_n hx hb dX4_readsDays_21 rfl (lv_at hl 0 rfl) ?_
    obtain ⟨v14, T13, h15, hf⟩ := zb_i hf
    refine z_ok (z_runV (As := [.int v5]) (rest := []) F k_X4_isTooLate m_1322 (c_X4_isTooLate v5 T4 T13 _ h15) hP hS (zV_m (by decide)) rfl rfl rfl rfl hl.1 (Nat.le_of_ble_eq_true rfl) dX4_readsDays_22 (Nat.le_of_ble_eq_true rfl) ⟨Nat.le_of_ble_eq_true rfl, Nat.le_of_ble_eq_true rfl⟩ rfl) hS (fun H locs hP hS => ?_)
    refine lv_if_eq (tgt := 33) hx hb dX4_readsDays_25 (by decide) (fun hc => ?_) (fun hc => ?_)
    · have hf := zif_p hf hc
      refine lv_aload_n hx hb dX4_readsDays_33 rfl (lv_at hl 1 rfl) ?_
      refine z_get hx hb hts (fun w h => List.mem_cons_of_mem _ (ziX4 w h)) hown hK hP (zV_m (by decide)) rfl rfl 22 (by decide) (List.mem_cons_of_mem _ m_1163) rfl rfl dX4_readsDays_34 ?_
      refine lv_if_ne (tgt := 50) hx hb dX4_readsDays_37 (by decide) (fun hc => ?_) (fun hc => ?_)
      · have hf := zif_n hf hc
        obtain ⟨q1, q2⟩ := zs_i hf
        subst q1; subst q2
        exact z_vret hx hb hr rfl hP hS hlocks (Nat.le_of_ble_eq_true rfl) (Nat.le_of_ble_eq_true rfl) dX4_readsDays_50
      · have hf := zif_p hf hc
        refine lv_aload_n hx hb dX4_readsDays_40 rfl (lv_at hl 1 rfl) ?_
        refine lv_iload_n hx hb dX4_readsDays_41 rfl (lv_at hl 0 rfl) ?_
        obtain ⟨v17, T16, h18, hf⟩ := zb_i hf
        refine z_ok (z_runV (As := [.int v5]) (rest := []) F k_X4_passes m_1121 (c_X4_passes v5 T13 T16 _ h18) hP hS (zV_m (by decide)) rfl rfl rfl rfl hl.1 (Nat.le_of_ble_eq_true rfl) dX4_readsDays_42 (Nat.le_of_ble_eq_true rfl) ⟨Nat.le_of_ble_eq_true rfl, Nat.le_of_ble_eq_true rfl⟩ rfl) hS (fun H locs hP hS => ?_)
        refine lv_istore_n (lv' := [(2, .int v17), (1, .int v5), (0, .ref (G 0 0))]) hx hb dX4_readsDays_45 rfl hl (by decide) rfl (fun ls hl => ?_)
        refine lv_aload_n hx hb dX4_readsDays_46 rfl (lv_at hl 2 rfl) ?_
        obtain ⟨v20, T19, h21, hf⟩ := zb_i hf
        refine z_ok (z_runV (As := []) (rest := []) F k_X4_next m_1249 (c_X4_next T16 T19 _ h21) hP hS (zV_m (by decide)) rfl rfl rfl rfl hl.1 (Nat.le_of_ble_eq_true rfl) dX4_readsDays_47 (Nat.le_of_ble_eq_true rfl) ⟨Nat.le_of_ble_eq_true rfl, Nat.le_of_ble_eq_true rfl⟩ rfl) hS (fun H locs hP hS => ?_)
        obtain ⟨q1, q2⟩ := zs_i hf
        subst q1; subst q2
        exact z_vret hx hb hr rfl hP hS hlocks (Nat.le_of_ble_eq_true rfl) (Nat.le_of_ble_eq_true rfl) dX4_readsDays_50
    · have hf := zif_n hf hc
      refine lv_aload_n hx hb dX4_readsDays_28 rfl (lv_at hl 1 rfl) ?_
      refine lv_iconst (v := 2) hx hb dX4_readsDays_29 (by decide) ?_
      obtain ⟨v23, T22, h24, hf⟩ := zb_i hf
      refine z_ok (z_runV (As := [.int 2]) (rest := []) F k_X4_errs m_1263 (c_X4_errs 2 T13 T22 _ h24) hP hS (zV_m (by decide)) rfl rfl rfl rfl hl.1 (Nat.le_of_ble_eq_true rfl) dX4_readsDays_30 (Nat.le_of_ble_eq_true rfl) ⟨Nat.le_of_ble_eq_true rfl, Nat.le_of_ble_eq_true rfl⟩ rfl) hS (fun H locs hP hS => ?_)
      refine lv_aload_n hx hb dX4_readsDays_33 rfl (lv_at hl 1 rfl) ?_
      refine z_get hx hb hts (fun w h => List.mem_cons_of_mem _ (ziX4 w h)) hown hK hP (zV_m (by decide)) rfl rfl 22 (by decide) (List.mem_cons_of_mem _ m_1163) rfl rfl dX4_readsDays_34 ?_
      refine lv_if_ne (tgt := 50) hx hb dX4_readsDays_37 (by decide) (fun hc => ?_) (fun hc => ?_)
      · have hf := zif_n hf hc
        obtain ⟨q1, q2⟩ := zs_i hf
        subst q1; subst q2
        exact z_vret hx hb hr rfl hP hS hlocks (Nat.le_of_ble_eq_true rfl) (Nat.le_of_ble_eq_true rfl) dX4_readsDays_50
      · have hf := zif_p hf hc
        refine lv_aload_n hx hb dX4_readsDays_40 rfl (lv_at hl 1 rfl) ?_
        refine lv_iload_n hx hb dX4_readsDays_41 rfl (lv_at hl 0 rfl) ?_
        obtain ⟨v26, T25, h27, hf⟩ := zb_i hf
        refine z_ok (z_runV (As := [.int v5]) (rest := []) F k_X4_passes m_1121 (c_X4_passes v5 T22 T25 _ h27) hP hS (zV_m (by decide)) rfl rfl rfl rfl hl.1 (Nat.le_of_ble_eq_true rfl) dX4_readsDays_42 (Nat.le_of_ble_eq_true rfl) ⟨Nat.le_of_ble_eq_true rfl, Nat.le_of_ble_eq_true rfl⟩ rfl) hS (fun H locs hP hS => ?_)
        refine lv_istore_n (lv' := [(2, .int v26), (1, .int v5), (0, .ref (G 0 0))]) hx hb dX4_readsDays_45 rfl hl (by decide) rfl (fun ls hl => ?_)
        refine lv_aload_n hx hb dX4_readsDays_46 rfl (lv_at hl 2 rfl) ?_
        obtain ⟨v29, T28, h30, hf⟩ := zb_i hf
        refine z_ok (z_runV (As := []) (rest := []) F k_X4_next m_1249 (c_X4_next T25 T28 _ h30) hP hS (zV_m (by decide)) rfl rfl rfl rfl hl.1 (Nat.le_of_ble_eq_true rfl) dX4_readsDays_47 (Nat.le_of_ble_eq_true rfl) ⟨Nat.le_of_ble_eq_true rfl, Nat.le_of_ble_eq_true rfl⟩ rfl) hS (fun H locs hP hS => ?_)
        obtain ⟨q1, q2⟩ := zs_i hf
        subst q1; subst q2
        exact z_vret hx hb hr rfl hP hS hlocks (Nat.le_of_ble_eq_true rfl) (Nat.le_of_ble_eq_true rfl) dX4_readsDays_50

def f_X4_readsLine  (T : zT) : Option (Unit × zT) := zb (f_X4_isKey 1 T) fun v2 T1 => (if v2 = 0 then zb (f_X4_isKey 2 T1) fun v5 T4 => (if v5 = 0 then zb (f_X4_isKey 3 T4) fun v8 T7 => (if v8 = 0 then zb (f_X4_isKey 4 T7) fun v11 T10 => (if v11 = 0 then zb (f_X4_isKey 5 T10) fun v14 T13 => (if v14 = 0 then zb (f_X4_isKey 6 T13) fun v17 T16 => (if v17 = 0 then zb (f_X4_errs 1 T16) fun _v20 T19 => some ((), T19) else zb (f_X4_readsDays T16) fun _v23 T22 => some ((), T22)) else zb (f_X4_readsCakes T13) fun _v26 T25 => some ((), T25)) else zb (f_X4_readsDraw T10) fun _v29 T28 => some ((), T28)) else zb (f_X4_readsBirthday T7) fun _v32 T31 => some ((), T31)) else zb (f_X4_readsChild T4) fun _v35 T34 => some ((), T34)) else zb (f_X4_readsGarden T1) fun _v38 T37 => some ((), T37))
set_option maxHeartbeats 4000000 in
set_option maxRecDepth 100000 in
theorem c_X4_readsLine  (T T' : zT) (v : Unit) (hf : f_X4_readsLine  T = some (v, T')) : zC 1 yX4_readsLine cX4_readsLine 1 none 7  0 0  (fun G _ => [.ref (G 0 0)]) T (fun _ => .inl none) T' := by
  intro l D Y S V G A hl9 hG
  refine vx_ofW (cc := cX4_readsLine) (maxL := 1) (ret := none) (by decide) rfl ?_
  intro p e s m args below meth c s₁ B hml hex hv
  obtain ⟨rfl, hK, hP, hA⟩ := hv
  have hx := B.exec
  have hb := B.bytes
  have hr := B.returns
  have hlocks := B.notSynchronized
  have hown : s.vm.findClass RX4 = some m.cls := findClass_of_methodNamed B.named
  have hts := atoms_spec (ws := Cond.code yX4_readsLine cX4_readsLine 1 none :: zWS) B.pre
  have F : zF 1 7  0 0  p l s m _ c cX4_readsLine 1 RX4 (Cond.code yX4_readsLine cX4_readsLine 1 none) D Y S V G A := ⟨hx, hb, hml, hown, hts, hl9, hG, hK, hA⟩
  have hS : va_S A s.heap s.heap [] := va_S.rf
  have hl := lv_entry ([.ref (G 0 0)]) (n := 1) (Nat.le_of_ble_eq_true rfl)
  rw [lg_entry_eq]
  generalize (lg_sl ([.ref (G 0 0)]) ++ List.replicate (1 - (lg_sl ([.ref (G 0 0)])).length) Slot.unset).toArray = ls at hl ⊢
  have hl : lv_has ls 1 [(0, .ref (G 0 0))] := hl
  unfold f_X4_readsLine at hf
  refine lv_aload_n hx hb dX4_readsLine_0 rfl (lv_at hl 0 rfl) ?_
  refine lv_iconst (v := 1) hx hb dX4_readsLine_1 (by decide) ?_
  obtain ⟨v2, T1, h3, hf⟩ := zb_i hf
  refine z_ok (z_runV (As := [.int 1]) (rest := []) F k_X4_isKey m_1259 (c_X4_isKey 1 T T1 _ h3) hP hS (zV_m (by decide)) rfl rfl rfl rfl hl.1 (Nat.le_of_ble_eq_true rfl) dX4_readsLine_2 (Nat.le_of_ble_eq_true rfl) ⟨Nat.le_of_ble_eq_true rfl, Nat.le_of_ble_eq_true rfl⟩ rfl) hS (fun H locs hP hS => ?_)
  refine lv_if_eq (tgt := 15) hx hb dX4_readsLine_5 (by decide) (fun hc => ?_) (fun hc => ?_)
  · have hf := zif_p hf hc
    refine lv_aload_n hx hb dX4_readsLine_15 rfl (lv_at hl 0 rfl) ?_
    refine lv_iconst (v := 2) hx hb dX4_readsLine_16 (by decide) ?_
    obtain ⟨v5, T4, h6, hf⟩ := zb_i hf
    refine z_ok (z_runV (As := [.int 2]) (rest := []) F k_X4_isKey m_1259 (c_X4_isKey 2 T1 T4 _ h6) hP hS (zV_m (by decide)) rfl rfl rfl rfl hl.1 (Nat.le_of_ble_eq_true rfl) dX4_readsLine_17 (Nat.le_of_ble_eq_true rfl) ⟨Nat.le_of_ble_eq_true rfl, Nat.le_of_ble_eq_true rfl⟩ rfl) hS (fun H locs hP hS => ?_)
    refine lv_if_eq (tgt := 30) hx hb dX4_readsLine_20 (by decide) (fun hc => ?_) (fun hc => ?_)
    · have hf := zif_p hf hc
      refine lv_aload_n hx hb dX4_readsLine_30 rfl (lv_at hl 0 rfl) ?_
      refine lv_iconst (v := 3) hx hb dX4_readsLine_31 (by decide) ?_
      obtain ⟨v8, T7, h9, hf⟩ := zb_i hf
      refine z_ok (z_runV (As := [.int 3]) (rest := []) F k_X4_isKey m_1259 (c_X4_isKey 3 T4 T7 _ h9) hP hS (zV_m (by decide)) rfl rfl rfl rfl hl.1 (Nat.le_of_ble_eq_true rfl) dX4_readsLine_32 (Nat.le_of_ble_eq_true rfl) ⟨Nat.le_of_ble_eq_true rfl, Nat.le_of_ble_eq_true rfl⟩ rfl) hS (fun H locs hP hS => ?_)
      refine lv_if_eq (tgt := 45) hx hb dX4_readsLine_35 (by decide) (fun hc => ?_) (fun hc => ?_)
      · have hf := zif_p hf hc
        refine lv_aload_n hx hb dX4_readsLine_45 rfl (lv_at hl 0 rfl) ?_
        refine lv_iconst (v := 4) hx hb dX4_readsLine_46 (by decide) ?_
        obtain ⟨v11, T10, h12, hf⟩ := zb_i hf
        refine z_ok (z_runV (As := [.int 4]) (rest := []) F k_X4_isKey m_1259 (c_X4_isKey 4 T7 T10 _ h12) hP hS (zV_m (by decide)) rfl rfl rfl rfl hl.1 (Nat.le_of_ble_eq_true rfl) dX4_readsLine_47 (Nat.le_of_ble_eq_true rfl) ⟨Nat.le_of_ble_eq_true rfl, Nat.le_of_ble_eq_true rfl⟩ rfl) hS (fun H locs hP hS => ?_)
        refine lv_if_eq (tgt := 60) hx hb dX4_readsLine_50 (by decide) (fun hc => ?_) (fun hc => ?_)
        · have hf := zif_p hf hc
          refine lv_aload_n hx hb dX4_readsLine_60 rfl (lv_at hl 0 rfl) ?_
          refine lv_iconst (v := 5) hx hb dX4_readsLine_61 (by decide) ?_
          obtain ⟨v14, T13, h15, hf⟩ := zb_i hf
          refine z_ok (z_runV (As := [.int 5]) (rest := []) F k_X4_isKey m_1259 (c_X4_isKey 5 T10 T13 _ h15) hP hS (zV_m (by decide)) rfl rfl rfl rfl hl.1 (Nat.le_of_ble_eq_true rfl) dX4_readsLine_62 (Nat.le_of_ble_eq_true rfl) ⟨Nat.le_of_ble_eq_true rfl, Nat.le_of_ble_eq_true rfl⟩ rfl) hS (fun H locs hP hS => ?_)
          refine lv_if_eq (tgt := 75) hx hb dX4_readsLine_65 (by decide) (fun hc => ?_) (fun hc => ?_)
          · have hf := zif_p hf hc
            refine lv_aload_n hx hb dX4_readsLine_75 rfl (lv_at hl 0 rfl) ?_
            refine lv_bipush (v := 6) hx hb dX4_readsLine_76 (by decide) ?_
            obtain ⟨v17, T16, h18, hf⟩ := zb_i hf
            refine z_ok (z_runV (As := [.int 6]) (rest := []) F k_X4_isKey m_1259 (c_X4_isKey 6 T13 T16 _ h18) hP hS (zV_m (by decide)) rfl rfl rfl rfl hl.1 (Nat.le_of_ble_eq_true rfl) dX4_readsLine_78 (Nat.le_of_ble_eq_true rfl) ⟨Nat.le_of_ble_eq_true rfl, Nat.le_of_ble_eq_true rfl⟩ rfl) hS (fun H locs hP hS => ?_)
            refine lv_if_eq (tgt := 91) hx hb dX4_readsLine_81 (by decide) (fun hc => ?_) (fun hc => ?_)
            · have hf := zif_p hf hc
              refine lv_aload_n hx hb dX4_readsLine_91 rfl (lv_at hl 0 rfl) ?_
              refine lv_iconst (v := 1) hx hb dX4_readsLine_92 (by decide) ?_
              obtain ⟨v20, T19, h21, hf⟩ := zb_i hf
              refine z_ok (z_runV (As := [.int 1]) (rest := []) F k_X4_errs m_1263 (c_X4_errs 1 T16 T19 _ h21) hP hS (zV_m (by decide)) rfl rfl rfl rfl hl.1 (Nat.le_of_ble_eq_true rfl) dX4_readsLine_93 (Nat.le_of_ble_eq_true rfl) ⟨Nat.le_of_ble_eq_true rfl, Nat.le_of_ble_eq_true rfl⟩ rfl) hS (fun H locs hP hS => ?_)
              obtain ⟨q1, q2⟩ := zs_i hf
              subst q1; subst q2
              exact z_vret hx hb hr rfl hP hS hlocks (Nat.le_of_ble_eq_true rfl) (Nat.le_of_ble_eq_true rfl) dX4_readsLine_96
            · have hf := zif_n hf hc
              refine lv_aload_n hx hb dX4_readsLine_84 rfl (lv_at hl 0 rfl) ?_
              obtain ⟨v23, T22, h24, hf⟩ := zb_i hf
              refine z_ok (z_runV (As := []) (rest := []) F k_X4_readsDays m_1318 (c_X4_readsDays T16 T22 _ h24) hP hS (zV_m (by decide)) rfl rfl rfl rfl hl.1 (Nat.le_of_ble_eq_true rfl) dX4_readsLine_85 (Nat.le_of_ble_eq_true rfl) ⟨Nat.le_of_ble_eq_true rfl, Nat.le_of_ble_eq_true rfl⟩ rfl) hS (fun H locs hP hS => ?_)
              refine lv_goto (tgt := 96) hx hb dX4_readsLine_88 (by decide) ?_
              obtain ⟨q1, q2⟩ := zs_i hf
              subst q1; subst q2
              exact z_vret hx hb hr rfl hP hS hlocks (Nat.le_of_ble_eq_true rfl) (Nat.le_of_ble_eq_true rfl) dX4_readsLine_96
          · have hf := zif_n hf hc
            refine lv_aload_n hx hb dX4_readsLine_68 rfl (lv_at hl 0 rfl) ?_
            obtain ⟨v26, T25, h27, hf⟩ := zb_i hf
            refine z_ok (z_runV (As := []) (rest := []) F k_X4_readsCakes m_1314 (c_X4_readsCakes T13 T25 _ h27) hP hS (zV_m (by decide)) rfl rfl rfl rfl hl.1 (Nat.le_of_ble_eq_true rfl) dX4_readsLine_69 (Nat.le_of_ble_eq_true rfl) ⟨Nat.le_of_ble_eq_true rfl, Nat.le_of_ble_eq_true rfl⟩ rfl) hS (fun H locs hP hS => ?_)
            refine lv_goto (tgt := 96) hx hb dX4_readsLine_72 (by decide) ?_
            obtain ⟨q1, q2⟩ := zs_i hf
            subst q1; subst q2
            exact z_vret hx hb hr rfl hP hS hlocks (Nat.le_of_ble_eq_true rfl) (Nat.le_of_ble_eq_true rfl) dX4_readsLine_96
        · have hf := zif_n hf hc
          refine lv_aload_n hx hb dX4_readsLine_53 rfl (lv_at hl 0 rfl) ?_
          obtain ⟨v29, T28, h30, hf⟩ := zb_i hf
          refine z_ok (z_runV (As := []) (rest := []) F k_X4_readsDraw m_1310 (c_X4_readsDraw T10 T28 _ h30) hP hS (zV_m (by decide)) rfl rfl rfl rfl hl.1 (Nat.le_of_ble_eq_true rfl) dX4_readsLine_54 (Nat.le_of_ble_eq_true rfl) ⟨Nat.le_of_ble_eq_true rfl, Nat.le_of_ble_eq_true rfl⟩ rfl) hS (fun H locs hP hS => ?_)
          refine lv_goto (tgt := 96) hx hb dX4_readsLine_57 (by decide) ?_
          obtain ⟨q1, q2⟩ := zs_i hf
          subst q1; subst q2
          exact z_vret hx hb hr rfl hP hS hlocks (Nat.le_of_ble_eq_true rfl) (Nat.le_of_ble_eq_true rfl) dX4_readsLine_96
      · have hf := zif_n hf hc
        refine lv_aload_n hx hb dX4_readsLine_38 rfl (lv_at hl 0 rfl) ?_
        obtain ⟨v32, T31, h33, hf⟩ := zb_i hf
        refine z_ok (z_runV (As := []) (rest := []) F k_X4_readsBirthday m_1299 (c_X4_readsBirthday T7 T31 _ h33) hP hS (zV_m (by decide)) rfl rfl rfl rfl hl.1 (Nat.le_of_ble_eq_true rfl) dX4_readsLine_39 (Nat.le_of_ble_eq_true rfl) ⟨Nat.le_of_ble_eq_true rfl, Nat.le_of_ble_eq_true rfl⟩ rfl) hS (fun H locs hP hS => ?_)
        refine lv_goto (tgt := 96) hx hb dX4_readsLine_42 (by decide) ?_
        obtain ⟨q1, q2⟩ := zs_i hf
        subst q1; subst q2
        exact z_vret hx hb hr rfl hP hS hlocks (Nat.le_of_ble_eq_true rfl) (Nat.le_of_ble_eq_true rfl) dX4_readsLine_96
    · have hf := zif_n hf hc
      refine lv_aload_n hx hb dX4_readsLine_23 rfl (lv_at hl 0 rfl) ?_
      obtain ⟨v35, T34, h36, hf⟩ := zb_i hf
      refine z_ok (z_runV (As := []) (rest := []) F k_X4_readsChild m_1287 (c_X4_readsChild T4 T34 _ h36) hP hS (zV_m (by decide)) rfl rfl rfl rfl hl.1 (Nat.le_of_ble_eq_true rfl) dX4_readsLine_24 (Nat.le_of_ble_eq_true rfl) ⟨Nat.le_of_ble_eq_true rfl, Nat.le_of_ble_eq_true rfl⟩ rfl) hS (fun H locs hP hS => ?_)
      refine lv_goto (tgt := 96) hx hb dX4_readsLine_27 (by decide) ?_
      obtain ⟨q1, q2⟩ := zs_i hf
      subst q1; subst q2
      exact z_vret hx hb hr rfl hP hS hlocks (Nat.le_of_ble_eq_true rfl) (Nat.le_of_ble_eq_true rfl) dX4_readsLine_96
  · have hf := zif_n hf hc
    refine lv_aload_n hx hb dX4_readsLine_8 rfl (lv_at hl 0 rfl) ?_
    obtain ⟨v38, T37, h39, hf⟩ := zb_i hf
    refine z_ok (z_runV (As := []) (rest := []) F k_X4_readsGarden m_1283 (c_X4_readsGarden T1 T37 _ h39) hP hS (zV_m (by decide)) rfl rfl rfl rfl hl.1 (Nat.le_of_ble_eq_true rfl) dX4_readsLine_9 (Nat.le_of_ble_eq_true rfl) ⟨Nat.le_of_ble_eq_true rfl, Nat.le_of_ble_eq_true rfl⟩ rfl) hS (fun H locs hP hS => ?_)
    refine lv_goto (tgt := 96) hx hb dX4_readsLine_12 (by decide) ?_
    obtain ⟨q1, q2⟩ := zs_i hf
    subst q1; subst q2
    exact z_vret hx hb hr rfl hP hS hlocks (Nat.le_of_ble_eq_true rfl) (Nat.le_of_ble_eq_true rfl) dX4_readsLine_96

def lp_X4_readsText_2 (w1 : Int32) : Nat → Int32 → zT → Option ((Int32) × zT)
  | 0, _, _ => none
  | n + 1, u2, T => (if 151 ≤ u2 then some (u2, T) else if zin u2 151 = true then zl (wA T 2 0 (upd (T.2 2 0) u2.toNatClampNeg 0)) fun T2 => zl (u2 + 1) fun x3 => lp_X4_readsText_2 w1 n x3 T2 else none)
def lp_X4_readsText_107  : Nat → zT → Option ((Unit) × zT)
  | 0, _ => none
  | n + 1, T => (if (T.1 0 0 22) = 0 then (if (T.1 0 0 18) = 0 then some ((), T) else (if (T.1 0 0 18) = 3 then zb (f_X4_next T) fun _v37 T36 => zb (f_X4_readsLine T36) fun _v40 T39 => lp_X4_readsText_107 n T39 else zb (f_X4_errs 1 T) fun _v34 T33 => lp_X4_readsText_107 n T33)) else some ((), T))
def jn_X4_readsText_66  (T : zT) : Option (Unit × zT) := zb (f_X4_takesNumber 0 9972 T) fun v21 T20 => zl (wA T20 2 0 (upd (T20.2 2 0) 2 v21)) fun T24 => zb (f_X4_takesNumber 0 9999 T24) fun v26 T25 => zl (wA T25 2 0 (upd (T25.2 2 0) 3 v26)) fun T29 => zl (wA T29 2 0 (upd (T29.2 2 0) 6 (T29.2 2 0 3))) fun T32 => zb (lp_X4_readsText_107 2000 T32) fun _v43 T42 => some ((), T42)
def f_X4_readsText (p0 : Int32) (T : zT) : Option (Unit × zT) := zb (lp_X4_readsText_2 p0 2000 0 T) fun v5 T4 => zl (wI T4 0 0 17 p0) fun T7 => zl (wI T7 0 0 22 0) fun T8 => zl (wI T8 0 0 18 0) fun T9 => zl (wI T9 0 0 20 0) fun T10 => zb (f_X4_next T10) fun _v12 T11 => zb (f_X4_isKey 0 T11) fun v15 T14 => (if v15 = 0 then zb (f_X4_errs 1 T14) fun _v18 T17 => jn_X4_readsText_66 T17 else zb (f_X4_next T14) fun _v46 T45 => jn_X4_readsText_66 T45)
set_option maxHeartbeats 4000000 in
set_option maxRecDepth 100000 in
theorem l_X4_readsText_2 {p : Program} {l : Launch} {e : Env} {s : State} {m : MethodId} {args : Array Value} {below : List Frame} {meth : Method} {c : Code} {Q : State → Prop} {D : va_G} {Y : Nat → ClassId} {S V : Nat → Nat} {G : Nat → Nat → Nat} {A : Nat → Prop} {c0 : Cond} {mc ms cells slots : Nat} (F : zF 1 8 mc ms p l s m args c cX4_readsText 3 RX4 c0 D Y S V G A) (hcs : cells ≤ mc ∧ slots ≤ ms) (w1 : Int32) :
    ∀ (n : Nat) (u2 : Int32) (T : zT) (o : (Int32) × zT) (H : Heap) (locs : List Loc) (ls : Array Slot), lp_X4_readsText_2 w1 n u2 T = some o → zP 1 D Y G T H → va_S A s.heap H locs → lv_has ls 3 [(0, .ref (G 0 0)), (1, .int w1), (2, .int u2)] → (∀ (H : Heap) (locs : List Loc) (ls : Array Slot), zP 1 D Y G o.2 H → va_S A s.heap H locs → lv_has ls 3 [(0, .ref (G 0 0)), (1, .int w1), (2, .int o.1)] → W p l e (zR 8 mc ms) s m args below meth c H locs cells slots Q (F0 m 22 ls [])) → W p l e (zR 8 mc ms) s m args below meth c H locs cells slots Q (F0 m 2 ls []) := by
  obtain ⟨hx, hb, hml, hown, hts, hl9, hG, hK, hA⟩ := id F
  intro n
  induction n with
  | zero =>
    intro u2 T o H locs ls hf
    rw [lp_X4_readsText_2] at hf
    cases hf
  | succ n ih =>
    intro u2 T o H locs ls hf hP hS hl k0_
    rw [lp_X4_readsText_2] at hf
    refine lv_iload_n hx hb dX4_readsText_2 rfl (lv_at hl 2 rfl) ?_
    refine lv_sipush (v := 151) hx hb dX4_readsText_3 (by decide) ?_
    refine lv_icmp_ge (tgt := 22) hx hb dX4_readsText_6 (by decide) (fun hc => ?_) (fun hc => ?_)
    · have hf := zif_p hf hc
      cases hf
      exact k0_ _ _ _ hP hS (lv_sub hl [0, 1, 2] rfl)
    · have hf := zif_n hf hc
      refine lv_aload_n hx hb dX4_readsText_9 rfl (lv_at hl 0 rfl) ?_
      refine z_get hx hb hts (fun w h => List.mem_cons_of_mem _ (ziX4 w h)) hown hK hP (zV_m (by decide)) rfl rfl 2 (by decide) (List.mem_cons_of_mem _ m_1143) rfl rfl dX4_readsText_10 ?_
      refine lv_iload_n hx hb dX4_readsText_13 rfl (lv_at hl 2 rfl) ?_
      refine lv_iconst (v := 0) hx hb dX4_readsText_14 (by decide) ?_
      obtain ⟨h1, hf⟩ := zif_c hf
      obtain ⟨T2, eT2, hf⟩ := zl_i hf
      refine z_iast hx hb hK hP hG hS (zIA_m (by decide) (by decide)) (zin_i h1) dX4_readsText_15 (fun H locs hP hS => ?_)
      rw [← eT2] at hP
      obtain ⟨x3, ex3, hf⟩ := zl_i hf
      refine lv_iinc (v := x3) (lv' := [(2, .int x3), (0, .ref (G 0 0)), (1, .int w1)]) hx hb dX4_readsText_16 hl (k := 2) rfl (by rw [ex3]; rfl) (by decide) rfl (fun ls hl => ?_)
      refine lv_goto (tgt := 2) hx hb dX4_readsText_19 (by decide) ?_
      exact ih x3 _ _ _ _ _ hf hP hS (lv_sub hl [1, 2, 0] rfl) k0_
set_option maxHeartbeats 4000000 in
set_option maxRecDepth 100000 in
theorem l_X4_readsText_107 {p : Program} {l : Launch} {e : Env} {s : State} {m : MethodId} {args : Array Value} {below : List Frame} {meth : Method} {c : Code} {Q : State → Prop} {D : va_G} {Y : Nat → ClassId} {S V : Nat → Nat} {G : Nat → Nat → Nat} {A : Nat → Prop} {c0 : Cond} {mc ms cells slots : Nat} (F : zF 1 8 mc ms p l s m args c cX4_readsText 3 RX4 c0 D Y S V G A) (hcs : cells ≤ mc ∧ slots ≤ ms) :
    ∀ (n : Nat) (T : zT) (o : (Unit) × zT) (H : Heap) (locs : List Loc) (ls : Array Slot), lp_X4_readsText_107 n T = some o → zP 1 D Y G T H → va_S A s.heap H locs → lv_has ls 3 [(0, .ref (G 0 0))] → (∀ (H : Heap) (locs : List Loc) (ls : Array Slot), zP 1 D Y G o.2 H → va_S A s.heap H locs → lv_has ls 3 [(0, .ref (G 0 0))] → W p l e (zR 8 mc ms) s m args below meth c H locs cells slots Q (F0 m 148 ls [])) → W p l e (zR 8 mc ms) s m args below meth c H locs cells slots Q (F0 m 107 ls []) := by
  obtain ⟨hx, hb, hml, hown, hts, hl9, hG, hK, hA⟩ := id F
  intro n
  induction n with
  | zero =>
    intro  T o H locs ls hf
    rw [lp_X4_readsText_107] at hf
    cases hf
  | succ n ih =>
    intro  T o H locs ls hf hP hS hl k0_
    rw [lp_X4_readsText_107] at hf
    refine lv_aload_n hx hb dX4_readsText_107 rfl (lv_at hl 0 rfl) ?_
    refine z_get hx hb hts (fun w h => List.mem_cons_of_mem _ (ziX4 w h)) hown hK hP (zV_m (by decide)) rfl rfl 22 (by decide) (List.mem_cons_of_mem _ m_1163) rfl rfl dX4_readsText_108 ?_
    refine lv_if_ne (tgt := 148) hx hb dX4_readsText_111 (by decide) (fun hc => ?_) (fun hc => ?_)
    · have hf := zif_n hf hc
      cases hf
      exact k0_ _ _ _ hP hS (lv_sub hl [0] rfl)
    · have hf := zif_p hf hc
      refine lv_aload_n hx hb dX4_readsText_114 rfl (lv_at hl 0 rfl) ?_
      refine z_get hx hb hts (fun w h => List.mem_cons_of_mem _ (ziX4 w h)) hown hK hP (zV_m (by decide)) rfl rfl 18 (by decide) (List.mem_cons_of_mem _ m_1159) rfl rfl dX4_readsText_115 ?_
      refine lv_if_eq (tgt := 148) hx hb dX4_readsText_118 (by decide) (fun hc => ?_) (fun hc => ?_)
      · have hf := zif_p hf hc
        cases hf
        exact k0_ _ _ _ hP hS (lv_sub hl [0] rfl)
      · have hf := zif_n hf hc
        refine lv_aload_n hx hb dX4_readsText_121 rfl (lv_at hl 0 rfl) ?_
        refine z_get hx hb hts (fun w h => List.mem_cons_of_mem _ (ziX4 w h)) hown hK hP (zV_m (by decide)) rfl rfl 18 (by decide) (List.mem_cons_of_mem _ m_1159) rfl rfl dX4_readsText_122 ?_
        refine lv_iconst (v := 3) hx hb dX4_readsText_125 (by decide) ?_
        refine lv_icmp_ne (tgt := 140) hx hb dX4_readsText_126 (by decide) (fun hc => ?_) (fun hc => ?_)
        · have hf := zif_n hf hc
          refine lv_aload_n hx hb dX4_readsText_140 rfl (lv_at hl 0 rfl) ?_
          refine lv_iconst (v := 1) hx hb dX4_readsText_141 (by decide) ?_
          obtain ⟨v34, T33, h35, hf⟩ := zb_i hf
          refine z_ok (z_runV (As := [.int 1]) (rest := []) F k_X4_errs m_1263 (c_X4_errs 1 T T33 _ h35) hP hS (zV_m (by decide)) rfl rfl rfl rfl hl.1 (Nat.le_of_ble_eq_true rfl) dX4_readsText_142 (Nat.le_of_ble_eq_true rfl) ⟨hcs.1, hcs.2⟩ rfl) hS (fun H locs hP hS => ?_)
          refine lv_goto (tgt := 107) hx hb dX4_readsText_145 (by decide) ?_
          exact ih  _ _ _ _ _ hf hP hS (lv_sub hl [0] rfl) k0_
        · have hf := zif_p hf hc
          refine lv_aload_n hx hb dX4_readsText_129 rfl (lv_at hl 0 rfl) ?_
          obtain ⟨v37, T36, h38, hf⟩ := zb_i hf
          refine z_ok (z_runV (As := []) (rest := []) F k_X4_next m_1249 (c_X4_next T T36 _ h38) hP hS (zV_m (by decide)) rfl rfl rfl rfl hl.1 (Nat.le_of_ble_eq_true rfl) dX4_readsText_130 (Nat.le_of_ble_eq_true rfl) ⟨hcs.1, hcs.2⟩ rfl) hS (fun H locs hP hS => ?_)
          refine lv_aload_n hx hb dX4_readsText_133 rfl (lv_at hl 0 rfl) ?_
          obtain ⟨v40, T39, h41, hf⟩ := zb_i hf
          refine z_ok (z_runV (As := []) (rest := []) F k_X4_readsLine m_1279 (c_X4_readsLine T36 T39 _ h41) hP hS (zV_m (by decide)) rfl rfl rfl rfl hl.1 (Nat.le_of_ble_eq_true rfl) dX4_readsText_134 (Nat.le_of_ble_eq_true rfl) ⟨hcs.1, hcs.2⟩ rfl) hS (fun H locs hP hS => ?_)
          refine lv_goto (tgt := 107) hx hb dX4_readsText_137 (by decide) ?_
          exact ih  _ _ _ _ _ hf hP hS (lv_sub hl [0] rfl) k0_
set_option maxHeartbeats 4000000 in
set_option maxRecDepth 100000 in
theorem j_X4_readsText_66 {p : Program} {l : Launch} {e : Env} {s : State} {m : MethodId} {args : Array Value} {below : List Frame} {meth : Method} {c : Code} {D : va_G} {Y : Nat → ClassId} {S V : Nat → Nat} {G : Nat → Nat → Nat} {A : Nat → Prop} {c0 : Cond} (F : zF 1 8  0 0  p l s m args c cX4_readsText 3 RX4 c0 D Y S V G A) (hr : meth.sig.returnType = none) (hlocks : meth.locks = false) (hex : ∀ x ∈ c.exceptionTable.toList, False) (T : zT) {T' : zT} {v : Unit} {H : Heap} {locs : List Loc} {ls : Array Slot} (hf : jn_X4_readsText_66 T = some (v, T')) (hP : zP 1 D Y G T H) (hS : va_S A s.heap H locs) (hl : lv_has ls 3 [(0, .ref (G 0 0))]) :
    W p l e (zR 8  0 0 ) s m args below meth c H locs 0 0 (vx_MQ below (zQ 1 D Y G A (.inl none) T') (zX 1 D Y G A (.inl none) T') args s  0 0  A) (F0 m 66 ls []) := by
  obtain ⟨hx, hb, hml, hown, hts, hl9, hG, hK, hA⟩ := id F
  unfold jn_X4_readsText_66 at hf
  refine lv_aload_n hx hb dX4_readsText_66 rfl (lv_at hl 0 rfl) ?_
  refine z_get hx hb hts (fun w h => List.mem_cons_of_mem _ (ziX4 w h)) hown hK hP (zV_m (by decide)) rfl rfl 2 (by decide) (List.mem_cons_of_mem _ m_1143) rfl rfl dX4_readsText_67 ?_
  refine lv_iconst (v := 2) hx hb dX4_readsText_70 (by decide) ?_
  refine lv_aload_n hx hb dX4_readsText_71 rfl (lv_at hl 0 rfl) ?_
  refine lv_iconst (v := 0) hx hb dX4_readsText_72 (by decide) ?_
  refine lv_sipush (v := 9972) hx hb dX4_readsText_73 (by decide) ?_
  obtain ⟨v21, T20, h22, hf⟩ := zb_i hf
  refine z_ok (z_runV (As := [.int 0, .int 9972]) (rest := [.int 2, .ref (G 2 0)]) F k_X4_takesNumber m_1267 (c_X4_takesNumber 0 9972 T T20 _ h22) hP hS (zV_m (by decide)) rfl rfl rfl rfl hl.1 (Nat.le_of_ble_eq_true rfl) dX4_readsText_76 (Nat.le_of_ble_eq_true rfl) ⟨Nat.le_of_ble_eq_true rfl, Nat.le_of_ble_eq_true rfl⟩ rfl) hS (fun H locs hP hS => ?_)
  obtain ⟨T24, eT24, hf⟩ := zl_i hf
  refine z_iast_ (j := 2) hx hb hK hP hG hS (zIA_m (by decide) (by decide)) (by decide) (by decide) dX4_readsText_79 (fun H locs hP hS => ?_)
  rw [← eT24] at hP
  refine lv_aload_n hx hb dX4_readsText_80 rfl (lv_at hl 0 rfl) ?_
  refine z_get hx hb hts (fun w h => List.mem_cons_of_mem _ (ziX4 w h)) hown hK hP (zV_m (by decide)) rfl rfl 2 (by decide) (List.mem_cons_of_mem _ m_1143) rfl rfl dX4_readsText_81 ?_
  refine lv_iconst (v := 3) hx hb dX4_readsText_84 (by decide) ?_
  refine lv_aload_n hx hb dX4_readsText_85 rfl (lv_at hl 0 rfl) ?_
  refine lv_iconst (v := 0) hx hb dX4_readsText_86 (by decide) ?_
  refine lv_sipush (v := 9999) hx hb dX4_readsText_87 (by decide) ?_
  obtain ⟨v26, T25, h27, hf⟩ := zb_i hf
  refine z_ok (z_runV (As := [.int 0, .int 9999]) (rest := [.int 3, .ref (G 2 0)]) F k_X4_takesNumber m_1267 (c_X4_takesNumber 0 9999 T24 T25 _ h27) hP hS (zV_m (by decide)) rfl rfl rfl rfl hl.1 (Nat.le_of_ble_eq_true rfl) dX4_readsText_90 (Nat.le_of_ble_eq_true rfl) ⟨Nat.le_of_ble_eq_true rfl, Nat.le_of_ble_eq_true rfl⟩ rfl) hS (fun H locs hP hS => ?_)
  obtain ⟨T29, eT29, hf⟩ := zl_i hf
  refine z_iast_ (j := 3) hx hb hK hP hG hS (zIA_m (by decide) (by decide)) (by decide) (by decide) dX4_readsText_93 (fun H locs hP hS => ?_)
  rw [← eT29] at hP
  refine lv_aload_n hx hb dX4_readsText_94 rfl (lv_at hl 0 rfl) ?_
  refine z_get hx hb hts (fun w h => List.mem_cons_of_mem _ (ziX4 w h)) hown hK hP (zV_m (by decide)) rfl rfl 2 (by decide) (List.mem_cons_of_mem _ m_1143) rfl rfl dX4_readsText_95 ?_
  refine lv_bipush (v := 6) hx hb dX4_readsText_98 (by decide) ?_
  refine lv_aload_n hx hb dX4_readsText_100 rfl (lv_at hl 0 rfl) ?_
  refine z_get hx hb hts (fun w h => List.mem_cons_of_mem _ (ziX4 w h)) hown hK hP (zV_m (by decide)) rfl rfl 2 (by decide) (List.mem_cons_of_mem _ m_1143) rfl rfl dX4_readsText_101 ?_
  refine lv_iconst (v := 3) hx hb dX4_readsText_104 (by decide) ?_
  refine z_iald_ (j := 3) hx hb hK hP (zIA_m (by decide) (by decide)) (by decide) (by decide) dX4_readsText_105 ?_
  obtain ⟨T32, eT32, hf⟩ := zl_i hf
  refine z_iast_ (j := 6) hx hb hK hP hG hS (zIA_m (by decide) (by decide)) (by decide) (by decide) dX4_readsText_106 (fun H locs hP hS => ?_)
  rw [← eT32] at hP
  obtain ⟨v43, T42, h44, hf⟩ := zb_i hf
  refine l_X4_readsText_107 F ⟨Nat.le_of_ble_eq_true rfl, Nat.le_of_ble_eq_true rfl⟩  2000  _ _ _ _ _ h44 hP hS (lv_sub hl [0] rfl) (fun H locs ls hP hS hl => ?_)
  obtain ⟨q1, q2⟩ := zs_i hf
  subst q1; subst q2
  exact z_vret hx hb hr rfl hP hS hlocks (Nat.le_of_ble_eq_true rfl) (Nat.le_of_ble_eq_true rfl) dX4_readsText_148
set_option maxHeartbeats 4000000 in
set_option maxRecDepth 100000 in
theorem c_X4_readsText (p0 : Int32) (T T' : zT) (v : Unit) (hf : f_X4_readsText p0 T = some (v, T')) : zC 1 yX4_readsText cX4_readsText 3 none 8  0 0  (fun G _ => [.ref (G 0 0), .int p0]) T (fun _ => .inl none) T' := by
  intro l D Y S V G A hl9 hG
  refine vx_ofW (cc := cX4_readsText) (maxL := 3) (ret := none) (by decide) rfl ?_
  intro p e s m args below meth c s₁ B hml hex hv
  obtain ⟨rfl, hK, hP, hA⟩ := hv
  have hx := B.exec
  have hb := B.bytes
  have hr := B.returns
  have hlocks := B.notSynchronized
  have hown : s.vm.findClass RX4 = some m.cls := findClass_of_methodNamed B.named
  have hts := atoms_spec (ws := Cond.code yX4_readsText cX4_readsText 3 none :: zWS) B.pre
  have F : zF 1 8  0 0  p l s m _ c cX4_readsText 3 RX4 (Cond.code yX4_readsText cX4_readsText 3 none) D Y S V G A := ⟨hx, hb, hml, hown, hts, hl9, hG, hK, hA⟩
  have hS : va_S A s.heap s.heap [] := va_S.rf
  have hl := lv_entry ([.ref (G 0 0), .int p0]) (n := 3) (Nat.le_of_ble_eq_true rfl)
  rw [lg_entry_eq]
  generalize (lg_sl ([.ref (G 0 0), .int p0]) ++ List.replicate (3 - (lg_sl ([.ref (G 0 0), .int p0])).length) Slot.unset).toArray = ls at hl ⊢
  have hl : lv_has ls 3 [(0, .ref (G 0 0)), (1, .int p0)] := hl
  unfold f_X4_readsText at hf
  refine lv_iconst (v := 0) hx hb dX4_readsText_0 (by decide) ?_
  refine lv_istore_n (lv' := [(2, .int 0), (0, .ref (G 0 0)), (1, .int p0)]) hx hb dX4_readsText_1 rfl hl (by decide) rfl (fun ls hl => ?_)
  obtain ⟨v5, T4, h6, hf⟩ := zb_i hf
  refine l_X4_readsText_2 F ⟨Nat.le_of_ble_eq_true rfl, Nat.le_of_ble_eq_true rfl⟩ p0 2000 0 _ _ _ _ _ h6 hP hS (lv_sub hl [1, 2, 0] rfl) (fun H locs ls hP hS hl => ?_)
  refine lv_aload_n hx hb dX4_readsText_22 rfl (lv_at hl 0 rfl) ?_
  refine lv_iload_n hx hb dX4_readsText_23 rfl (lv_at hl 1 rfl) ?_
  obtain ⟨T7, eT7, hf⟩ := zl_i hf
  refine z_put hx hb hts (fun w h => List.mem_cons_of_mem _ (ziX4 w h)) tyX4 tyX4_ok nmX4 hown hK hP hG hS (zV_m (by decide)) rfl rfl 17 (by decide) (List.mem_cons_of_mem _ m_1158) rfl rfl (by decide +kernel) (Nat.le_of_ble_eq_true rfl) rfl dX4_readsText_24 (fun H locs hP hS => ?_)
  rw [← eT7] at hP
  refine lv_aload_n hx hb dX4_readsText_27 rfl (lv_at hl 0 rfl) ?_
  refine lv_iconst (v := 0) hx hb dX4_readsText_28 (by decide) ?_
  obtain ⟨T8, eT8, hf⟩ := zl_i hf
  refine z_put hx hb hts (fun w h => List.mem_cons_of_mem _ (ziX4 w h)) tyX4 tyX4_ok nmX4 hown hK hP hG hS (zV_m (by decide)) rfl rfl 22 (by decide) (List.mem_cons_of_mem _ m_1163) rfl rfl (by decide +kernel) (Nat.le_of_ble_eq_true rfl) rfl dX4_readsText_29 (fun H locs hP hS => ?_)
  rw [← eT8] at hP
  refine lv_aload_n hx hb dX4_readsText_32 rfl (lv_at hl 0 rfl) ?_
  refine lv_iconst (v := 0) hx hb dX4_readsText_33 (by decide) ?_
  obtain ⟨T9, eT9, hf⟩ := zl_i hf
  refine z_put hx hb hts (fun w h => List.mem_cons_of_mem _ (ziX4 w h)) tyX4 tyX4_ok nmX4 hown hK hP hG hS (zV_m (by decide)) rfl rfl 18 (by decide) (List.mem_cons_of_mem _ m_1159) rfl rfl (by decide +kernel) (Nat.le_of_ble_eq_true rfl) rfl dX4_readsText_34 (fun H locs hP hS => ?_)
  rw [← eT9] at hP
  refine lv_aload_n hx hb dX4_readsText_37 rfl (lv_at hl 0 rfl) ?_
  refine lv_iconst (v := 0) hx hb dX4_readsText_38 (by decide) ?_
  obtain ⟨T10, eT10, hf⟩ := zl_i hf
  refine z_put hx hb hts (fun w h => List.mem_cons_of_mem _ (ziX4 w h)) tyX4 tyX4_ok nmX4 hown hK hP hG hS (zV_m (by decide)) rfl rfl 20 (by decide) (List.mem_cons_of_mem _ m_1161) rfl rfl (by decide +kernel) (Nat.le_of_ble_eq_true rfl) rfl dX4_readsText_39 (fun H locs hP hS => ?_)
  rw [← eT10] at hP
  refine lv_aload_n hx hb dX4_readsText_42 rfl (lv_at hl 0 rfl) ?_
  obtain ⟨v12, T11, h13, hf⟩ := zb_i hf
  refine z_ok (z_runV (As := []) (rest := []) F k_X4_next m_1249 (c_X4_next T10 T11 _ h13) hP hS (zV_m (by decide)) rfl rfl rfl rfl hl.1 (Nat.le_of_ble_eq_true rfl) dX4_readsText_43 (Nat.le_of_ble_eq_true rfl) ⟨Nat.le_of_ble_eq_true rfl, Nat.le_of_ble_eq_true rfl⟩ rfl) hS (fun H locs hP hS => ?_)
  refine lv_aload_n hx hb dX4_readsText_46 rfl (lv_at hl 0 rfl) ?_
  refine lv_iconst (v := 0) hx hb dX4_readsText_47 (by decide) ?_
  obtain ⟨v15, T14, h16, hf⟩ := zb_i hf
  refine z_ok (z_runV (As := [.int 0]) (rest := []) F k_X4_isKey m_1259 (c_X4_isKey 0 T11 T14 _ h16) hP hS (zV_m (by decide)) rfl rfl rfl rfl hl.1 (Nat.le_of_ble_eq_true rfl) dX4_readsText_48 (Nat.le_of_ble_eq_true rfl) ⟨Nat.le_of_ble_eq_true rfl, Nat.le_of_ble_eq_true rfl⟩ rfl) hS (fun H locs hP hS => ?_)
  refine lv_if_eq (tgt := 61) hx hb dX4_readsText_51 (by decide) (fun hc => ?_) (fun hc => ?_)
  · have hf := zif_p hf hc
    refine lv_aload_n hx hb dX4_readsText_61 rfl (lv_at hl 0 rfl) ?_
    refine lv_iconst (v := 1) hx hb dX4_readsText_62 (by decide) ?_
    obtain ⟨v18, T17, h19, hf⟩ := zb_i hf
    refine z_ok (z_runV (As := [.int 1]) (rest := []) F k_X4_errs m_1263 (c_X4_errs 1 T14 T17 _ h19) hP hS (zV_m (by decide)) rfl rfl rfl rfl hl.1 (Nat.le_of_ble_eq_true rfl) dX4_readsText_63 (Nat.le_of_ble_eq_true rfl) ⟨Nat.le_of_ble_eq_true rfl, Nat.le_of_ble_eq_true rfl⟩ rfl) hS (fun H locs hP hS => ?_)
    exact j_X4_readsText_66 F hr hlocks hex T17 hf hP hS (lv_sub hl [0] rfl)
  · have hf := zif_n hf hc
    refine lv_aload_n hx hb dX4_readsText_54 rfl (lv_at hl 0 rfl) ?_
    obtain ⟨v46, T45, h47, hf⟩ := zb_i hf
    refine z_ok (z_runV (As := []) (rest := []) F k_X4_next m_1249 (c_X4_next T14 T45 _ h47) hP hS (zV_m (by decide)) rfl rfl rfl rfl hl.1 (Nat.le_of_ble_eq_true rfl) dX4_readsText_55 (Nat.le_of_ble_eq_true rfl) ⟨Nat.le_of_ble_eq_true rfl, Nat.le_of_ble_eq_true rfl⟩ rfl) hS (fun H locs hP hS => ?_)
    refine lv_goto (tgt := 66) hx hb dX4_readsText_58 (by decide) ?_
    exact j_X4_readsText_66 F hr hlocks hex T45 hf hP hS (lv_sub hl [0] rfl)

def f_X4_feeds (p0 : Int32) (T : zT) : Option (Unit × zT) := if zin (T.1 0 0 10) 600 = true then zl (wA T 7 0 (upd (T.2 7 0) (T.1 0 0 10).toNatClampNeg (((p0 >>> (24 &&& 31)).toInt8.toInt32).toInt8.toInt32))) fun T2 => if zin ((T2.1 0 0 10) + 1) 600 = true then zl (wA T2 7 0 (upd (T2.2 7 0) ((T2.1 0 0 10) + 1).toNatClampNeg (((p0 >>> (16 &&& 31)).toInt8.toInt32).toInt8.toInt32))) fun T4 => if zin ((T4.1 0 0 10) + 2) 600 = true then zl (wA T4 7 0 (upd (T4.2 7 0) ((T4.1 0 0 10) + 2).toNatClampNeg (((p0 >>> (8 &&& 31)).toInt8.toInt32).toInt8.toInt32))) fun T6 => if zin ((T6.1 0 0 10) + 3) 600 = true then zl (wA T6 7 0 (upd (T6.2 7 0) ((T6.1 0 0 10) + 3).toNatClampNeg ((p0.toInt8.toInt32).toInt8.toInt32))) fun T8 => zl ((T8.1 0 0 10) + 4) fun x9 => zl (wI T8 0 0 10 x9) fun T10 => some ((), T10) else none else none else none else none
set_option maxHeartbeats 4000000 in
set_option maxRecDepth 100000 in
theorem c_X4_feeds (p0 : Int32) (T T' : zT) (v : Unit) (hf : f_X4_feeds p0 T = some (v, T')) : zC 1 yX4_feeds cX4_feeds 2 none 0  0 0  (fun G _ => [.ref (G 0 0), .int p0]) T (fun _ => .inl none) T' := by
  intro l D Y S V G A hl9 hG
  refine vx_ofW (cc := cX4_feeds) (maxL := 2) (ret := none) (by decide) rfl ?_
  intro p e s m args below meth c s₁ B hml hex hv
  obtain ⟨rfl, hK, hP, hA⟩ := hv
  have hx := B.exec
  have hb := B.bytes
  have hr := B.returns
  have hlocks := B.notSynchronized
  have hown : s.vm.findClass RX4 = some m.cls := findClass_of_methodNamed B.named
  have hts := atoms_spec (ws := Cond.code yX4_feeds cX4_feeds 2 none :: zWS) B.pre
  have F : zF 1 0  0 0  p l s m _ c cX4_feeds 2 RX4 (Cond.code yX4_feeds cX4_feeds 2 none) D Y S V G A := ⟨hx, hb, hml, hown, hts, hl9, hG, hK, hA⟩
  have hS : va_S A s.heap s.heap [] := va_S.rf
  have hl := lv_entry ([.ref (G 0 0), .int p0]) (n := 2) (Nat.le_of_ble_eq_true rfl)
  rw [lg_entry_eq]
  generalize (lg_sl ([.ref (G 0 0), .int p0]) ++ List.replicate (2 - (lg_sl ([.ref (G 0 0), .int p0])).length) Slot.unset).toArray = ls at hl ⊢
  have hl : lv_has ls 2 [(0, .ref (G 0 0)), (1, .int p0)] := hl
  unfold f_X4_feeds at hf
  refine lv_aload_n hx hb dX4_feeds_0 rfl (lv_at hl 0 rfl) ?_
  refine z_get hx hb hts (fun w h => List.mem_cons_of_mem _ (ziX4 w h)) hown hK hP (zV_m (by decide)) rfl rfl 9 (by decide) (List.mem_cons_of_mem _ m_1150) rfl rfl dX4_feeds_1 ?_
  refine lv_aload_n hx hb dX4_feeds_4 rfl (lv_at hl 0 rfl) ?_
  refine z_get hx hb hts (fun w h => List.mem_cons_of_mem _ (ziX4 w h)) hown hK hP (zV_m (by decide)) rfl rfl 10 (by decide) (List.mem_cons_of_mem _ m_1151) rfl rfl dX4_feeds_5 ?_
  refine lv_iload_n hx hb dX4_feeds_8 rfl (lv_at hl 1 rfl) ?_
  refine lv_bipush (v := 24) hx hb dX4_feeds_9 (by decide) ?_
  refine lv_ishr hx hb dX4_feeds_11 ?_
  refine lv_i2b hx hb dX4_feeds_12 rfl ?_
  obtain ⟨h1, hf⟩ := zif_c hf
  obtain ⟨T2, eT2, hf⟩ := zl_i hf
  refine z_bast hx hb hK hP hG hS (zV_m (by decide)) rfl (zin_i h1) rfl dX4_feeds_13 (fun H locs hP hS => ?_)
  rw [← eT2] at hP
  refine lv_aload_n hx hb dX4_feeds_14 rfl (lv_at hl 0 rfl) ?_
  refine z_get hx hb hts (fun w h => List.mem_cons_of_mem _ (ziX4 w h)) hown hK hP (zV_m (by decide)) rfl rfl 9 (by decide) (List.mem_cons_of_mem _ m_1150) rfl rfl dX4_feeds_15 ?_
  refine lv_aload_n hx hb dX4_feeds_18 rfl (lv_at hl 0 rfl) ?_
  refine z_get hx hb hts (fun w h => List.mem_cons_of_mem _ (ziX4 w h)) hown hK hP (zV_m (by decide)) rfl rfl 10 (by decide) (List.mem_cons_of_mem _ m_1151) rfl rfl dX4_feeds_19 ?_
  refine lv_iconst (v := 1) hx hb dX4_feeds_22 (by decide) ?_
  refine lv_iadd hx hb dX4_feeds_23 ?_
  refine lv_iload_n hx hb dX4_feeds_24 rfl (lv_at hl 1 rfl) ?_
  refine lv_bipush (v := 16) hx hb dX4_feeds_25 (by decide) ?_
  refine lv_ishr hx hb dX4_feeds_27 ?_
  refine lv_i2b hx hb dX4_feeds_28 rfl ?_
  obtain ⟨h3, hf⟩ := zif_c hf
  obtain ⟨T4, eT4, hf⟩ := zl_i hf
  refine z_bast hx hb hK hP hG hS (zV_m (by decide)) rfl (zin_i h3) rfl dX4_feeds_29 (fun H locs hP hS => ?_)
  rw [← eT4] at hP
  refine lv_aload_n hx hb dX4_feeds_30 rfl (lv_at hl 0 rfl) ?_
  refine z_get hx hb hts (fun w h => List.mem_cons_of_mem _ (ziX4 w h)) hown hK hP (zV_m (by decide)) rfl rfl 9 (by decide) (List.mem_cons_of_mem _ m_1150) rfl rfl dX4_feeds_31 ?_
  refine lv_aload_n hx hb dX4_feeds_34 rfl (lv_at hl 0 rfl) ?_
  refine z_get hx hb hts (fun w h => List.mem_cons_of_mem _ (ziX4 w h)) hown hK hP (zV_m (by decide)) rfl rfl 10 (by decide) (List.mem_cons_of_mem _ m_1151) rfl rfl dX4_feeds_35 ?_
  refine lv_iconst (v := 2) hx hb dX4_feeds_38 (by decide) ?_
  refine lv_iadd hx hb dX4_feeds_39 ?_
  refine lv_iload_n hx hb dX4_feeds_40 rfl (lv_at hl 1 rfl) ?_
  refine lv_bipush (v := 8) hx hb dX4_feeds_41 (by decide) ?_
  refine lv_ishr hx hb dX4_feeds_43 ?_
  refine lv_i2b hx hb dX4_feeds_44 rfl ?_
  obtain ⟨h5, hf⟩ := zif_c hf
  obtain ⟨T6, eT6, hf⟩ := zl_i hf
  refine z_bast hx hb hK hP hG hS (zV_m (by decide)) rfl (zin_i h5) rfl dX4_feeds_45 (fun H locs hP hS => ?_)
  rw [← eT6] at hP
  refine lv_aload_n hx hb dX4_feeds_46 rfl (lv_at hl 0 rfl) ?_
  refine z_get hx hb hts (fun w h => List.mem_cons_of_mem _ (ziX4 w h)) hown hK hP (zV_m (by decide)) rfl rfl 9 (by decide) (List.mem_cons_of_mem _ m_1150) rfl rfl dX4_feeds_47 ?_
  refine lv_aload_n hx hb dX4_feeds_50 rfl (lv_at hl 0 rfl) ?_
  refine z_get hx hb hts (fun w h => List.mem_cons_of_mem _ (ziX4 w h)) hown hK hP (zV_m (by decide)) rfl rfl 10 (by decide) (List.mem_cons_of_mem _ m_1151) rfl rfl dX4_feeds_51 ?_
  refine lv_iconst (v := 3) hx hb dX4_feeds_54 (by decide) ?_
  refine lv_iadd hx hb dX4_feeds_55 ?_
  refine lv_iload_n hx hb dX4_feeds_56 rfl (lv_at hl 1 rfl) ?_
  refine lv_i2b hx hb dX4_feeds_57 rfl ?_
  obtain ⟨h7, hf⟩ := zif_c hf
  obtain ⟨T8, eT8, hf⟩ := zl_i hf
  refine z_bast hx hb hK hP hG hS (zV_m (by decide)) rfl (zin_i h7) rfl dX4_feeds_58 (fun H locs hP hS => ?_)
  rw [← eT8] at hP
  refine lv_aload_n hx hb dX4_feeds_59 rfl (lv_at hl 0 rfl) ?_
  refine lv_dup hx hb dX4_feeds_60 rfl ?_
  refine z_get hx hb hts (fun w h => List.mem_cons_of_mem _ (ziX4 w h)) hown hK hP (zV_m (by decide)) rfl rfl 10 (by decide) (List.mem_cons_of_mem _ m_1151) rfl rfl dX4_feeds_61 ?_
  refine lv_iconst (v := 4) hx hb dX4_feeds_64 (by decide) ?_
  refine lv_iadd hx hb dX4_feeds_65 ?_
  obtain ⟨x9, ex9, hf⟩ := zl_i hf
  refine z_topi ex9 ?_
  obtain ⟨T10, eT10, hf⟩ := zl_i hf
  refine z_put hx hb hts (fun w h => List.mem_cons_of_mem _ (ziX4 w h)) tyX4 tyX4_ok nmX4 hown hK hP hG hS (zV_m (by decide)) rfl rfl 10 (by decide) (List.mem_cons_of_mem _ m_1151) rfl rfl (by decide +kernel) (Nat.le_of_ble_eq_true rfl) rfl dX4_feeds_66 (fun H locs hP hS => ?_)
  rw [← eT10] at hP
  obtain ⟨q1, q2⟩ := zs_i hf
  subst q1; subst q2
  exact z_vret hx hb hr rfl hP hS hlocks (Nat.le_of_ble_eq_true rfl) (Nat.le_of_ble_eq_true rfl) dX4_feeds_69

def f_X4_append (p0 : Int32) (p1 : Int32) (p2 : Int32) (p3 : Int32) (p4 : Int32) (T : zT) : Option (Int32 × zT) := (if (T.1 0 0 10) ≤ 580 then zb (f_X4_feeds p0 T) fun _v2 T1 => zb (f_X4_feeds p1 T1) fun _v5 T4 => zb (f_X4_feeds p2 T4) fun _v8 T7 => zb (f_X4_feeds p3 T7) fun _v11 T10 => zb (f_X4_feeds p4 T10) fun _v14 T13 => zb (f_X4_told (T13.1 0 0 10) T13) fun v17 T16 => some (v17, T16) else zb (f_X4_refuse 1 T) fun v20 T19 => some (v20, T19))
set_option maxHeartbeats 4000000 in
set_option maxRecDepth 100000 in
theorem c_X4_append (p0 : Int32) (p1 : Int32) (p2 : Int32) (p3 : Int32) (p4 : Int32) (T T' : zT) (v : Int32) (hf : f_X4_append p0 p1 p2 p3 p4 T = some (v, T')) : zC 1 yX4_append cX4_append 6 (some .int) 1  0 0  (fun G _ => [.ref (G 0 0), .int p0, .int p1, .int p2, .int p3, .int p4]) T (fun _ => .inl (some (.int v))) T' := by
  intro l D Y S V G A hl9 hG
  refine vx_ofW (cc := cX4_append) (maxL := 6) (ret := (some .int)) (by decide) rfl ?_
  intro p e s m args below meth c s₁ B hml hex hv
  obtain ⟨rfl, hK, hP, hA⟩ := hv
  have hx := B.exec
  have hb := B.bytes
  have hr := B.returns
  have hlocks := B.notSynchronized
  have hown : s.vm.findClass RX4 = some m.cls := findClass_of_methodNamed B.named
  have hts := atoms_spec (ws := Cond.code yX4_append cX4_append 6 (some .int) :: zWS) B.pre
  have F : zF 1 1  0 0  p l s m _ c cX4_append 6 RX4 (Cond.code yX4_append cX4_append 6 (some .int)) D Y S V G A := ⟨hx, hb, hml, hown, hts, hl9, hG, hK, hA⟩
  have hS : va_S A s.heap s.heap [] := va_S.rf
  have hl := lv_entry ([.ref (G 0 0), .int p0, .int p1, .int p2, .int p3, .int p4]) (n := 6) (Nat.le_of_ble_eq_true rfl)
  rw [lg_entry_eq]
  generalize (lg_sl ([.ref (G 0 0), .int p0, .int p1, .int p2, .int p3, .int p4]) ++ List.replicate (6 - (lg_sl ([.ref (G 0 0), .int p0, .int p1, .int p2, .int p3, .int p4])).length) Slot.unset).toArray = ls at hl ⊢
  have hl : lv_has ls 6 [(0, .ref (G 0 0)), (1, .int p0), (2, .int p1), (3, .int p2), (4, .int p3), (5, .int p4)] := hl
  unfold f_X4_append at hf
  refine lv_aload_n hx hb dX4_append_0 rfl (lv_at hl 0 rfl) ?_
  refine z_get hx hb hts (fun w h => List.mem_cons_of_mem _ (ziX4 w h)) hown hK hP (zV_m (by decide)) rfl rfl 10 (by decide) (List.mem_cons_of_mem _ m_1151) rfl rfl dX4_append_1 ?_
  refine lv_sipush (v := 580) hx hb dX4_append_4 (by decide) ?_
  refine lv_icmp_le (tgt := 16) hx hb dX4_append_7 (by decide) (fun hc => ?_) (fun hc => ?_)
  · have hf := zif_p hf hc
    refine lv_aload_n hx hb dX4_append_16 rfl (lv_at hl 0 rfl) ?_
    refine lv_iload_n hx hb dX4_append_17 rfl (lv_at hl 1 rfl) ?_
    obtain ⟨v2, T1, h3, hf⟩ := zb_i hf
    refine z_ok (z_runV (As := [.int p0]) (rest := []) F k_X4_feeds m_1226 (c_X4_feeds p0 T T1 _ h3) hP hS (zV_m (by decide)) rfl rfl rfl rfl hl.1 (Nat.le_of_ble_eq_true rfl) dX4_append_18 (Nat.le_of_ble_eq_true rfl) ⟨Nat.le_of_ble_eq_true rfl, Nat.le_of_ble_eq_true rfl⟩ rfl) hS (fun H locs hP hS => ?_)
    refine lv_aload_n hx hb dX4_append_21 rfl (lv_at hl 0 rfl) ?_
    refine lv_iload_n hx hb dX4_append_22 rfl (lv_at hl 2 rfl) ?_
    obtain ⟨v5, T4, h6, hf⟩ := zb_i hf
    refine z_ok (z_runV (As := [.int p1]) (rest := []) F k_X4_feeds m_1226 (c_X4_feeds p1 T1 T4 _ h6) hP hS (zV_m (by decide)) rfl rfl rfl rfl hl.1 (Nat.le_of_ble_eq_true rfl) dX4_append_23 (Nat.le_of_ble_eq_true rfl) ⟨Nat.le_of_ble_eq_true rfl, Nat.le_of_ble_eq_true rfl⟩ rfl) hS (fun H locs hP hS => ?_)
    refine lv_aload_n hx hb dX4_append_26 rfl (lv_at hl 0 rfl) ?_
    refine lv_iload_n hx hb dX4_append_27 rfl (lv_at hl 3 rfl) ?_
    obtain ⟨v8, T7, h9, hf⟩ := zb_i hf
    refine z_ok (z_runV (As := [.int p2]) (rest := []) F k_X4_feeds m_1226 (c_X4_feeds p2 T4 T7 _ h9) hP hS (zV_m (by decide)) rfl rfl rfl rfl hl.1 (Nat.le_of_ble_eq_true rfl) dX4_append_28 (Nat.le_of_ble_eq_true rfl) ⟨Nat.le_of_ble_eq_true rfl, Nat.le_of_ble_eq_true rfl⟩ rfl) hS (fun H locs hP hS => ?_)
    refine lv_aload_n hx hb dX4_append_31 rfl (lv_at hl 0 rfl) ?_
    refine lv_iload hx hb dX4_append_32 (lv_at hl 4 rfl) ?_
    obtain ⟨v11, T10, h12, hf⟩ := zb_i hf
    refine z_ok (z_runV (As := [.int p3]) (rest := []) F k_X4_feeds m_1226 (c_X4_feeds p3 T7 T10 _ h12) hP hS (zV_m (by decide)) rfl rfl rfl rfl hl.1 (Nat.le_of_ble_eq_true rfl) dX4_append_34 (Nat.le_of_ble_eq_true rfl) ⟨Nat.le_of_ble_eq_true rfl, Nat.le_of_ble_eq_true rfl⟩ rfl) hS (fun H locs hP hS => ?_)
    refine lv_aload_n hx hb dX4_append_37 rfl (lv_at hl 0 rfl) ?_
    refine lv_iload hx hb dX4_append_38 (lv_at hl 5 rfl) ?_
    obtain ⟨v14, T13, h15, hf⟩ := zb_i hf
    refine z_ok (z_runV (As := [.int p4]) (rest := []) F k_X4_feeds m_1226 (c_X4_feeds p4 T10 T13 _ h15) hP hS (zV_m (by decide)) rfl rfl rfl rfl hl.1 (Nat.le_of_ble_eq_true rfl) dX4_append_40 (Nat.le_of_ble_eq_true rfl) ⟨Nat.le_of_ble_eq_true rfl, Nat.le_of_ble_eq_true rfl⟩ rfl) hS (fun H locs hP hS => ?_)
    refine lv_aload_n hx hb dX4_append_43 rfl (lv_at hl 0 rfl) ?_
    refine lv_aload_n hx hb dX4_append_44 rfl (lv_at hl 0 rfl) ?_
    refine z_get hx hb hts (fun w h => List.mem_cons_of_mem _ (ziX4 w h)) hown hK hP (zV_m (by decide)) rfl rfl 10 (by decide) (List.mem_cons_of_mem _ m_1151) rfl rfl dX4_append_45 ?_
    obtain ⟨v17, T16, h18, hf⟩ := zb_i hf
    refine z_ok (z_runV (As := [.int (T13.1 0 0 10)]) (rest := []) F k_X4_told m_1230 (c_X4_told (T13.1 0 0 10) T13 T16 _ h18) hP hS (zV_m (by decide)) rfl rfl rfl rfl hl.1 (Nat.le_of_ble_eq_true rfl) dX4_append_48 (Nat.le_of_ble_eq_true rfl) ⟨Nat.le_of_ble_eq_true rfl, Nat.le_of_ble_eq_true rfl⟩ rfl) hS (fun H locs hP hS => ?_)
    obtain ⟨q1, q2⟩ := zs_i hf
    subst q1; subst q2
    exact z_iret hx hb hr rfl hP hS hlocks (Nat.le_of_ble_eq_true rfl) (Nat.le_of_ble_eq_true rfl) dX4_append_51
  · have hf := zif_n hf hc
    refine lv_aload_n hx hb dX4_append_10 rfl (lv_at hl 0 rfl) ?_
    refine lv_iconst (v := 1) hx hb dX4_append_11 (by decide) ?_
    obtain ⟨v20, T19, h21, hf⟩ := zb_i hf
    refine z_ok (z_runV (As := [.int 1]) (rest := []) F k_X4_refuse m_1222 (c_X4_refuse 1 T T19 _ h21) hP hS (zV_m (by decide)) rfl rfl rfl rfl hl.1 (Nat.le_of_ble_eq_true rfl) dX4_append_12 (Nat.le_of_ble_eq_true rfl) ⟨Nat.le_of_ble_eq_true rfl, Nat.le_of_ble_eq_true rfl⟩ rfl) hS (fun H locs hP hS => ?_)
    obtain ⟨q1, q2⟩ := zs_i hf
    subst q1; subst q2
    exact z_iret hx hb hr rfl hP hS hlocks (Nat.le_of_ble_eq_true rfl) (Nat.le_of_ble_eq_true rfl) dX4_append_15

def jn_X4_load_56 (z1 : Int32) (T : zT) : Option (Int32 × zT) := zl (wI T 0 0 14 z1) fun T13 => (if (T13.1 0 0 22) = 0 then zl (wI T13 0 0 5 0) fun T14 => zl (wI T14 0 0 7 0) fun T15 => zb (f_X4_told (T15.2 2 0 5) T15) fun v18 T17 => some (v18, T17) else zb (f_X4_putsBack T13) fun _v21 T20 => zb (f_X4_refuse 2 T20) fun v24 T23 => some (v24, T23))
def f_X4_load (p0 : Int32) (T : zT) : Option (Int32 × zT) := zb (f_X4_in p0 0 (T.1 0 0 10) T) fun v2 T1 => (if v2 = 0 then zb (f_X4_refuse 1 T1) fun v27 T26 => some (v27, T26) else zb (f_X4_putsAside T1) fun _v5 T4 => zb (f_X4_readsText p0 T4) fun _v8 T7 => zl (wI T7 0 0 10 0) fun T10 => zl (T10.1 0 0 22) fun x11 => zl (wI T10 0 0 13 x11) fun T12 => (if (T12.1 0 0 22) = 0 then jn_X4_load_56 (-1) T12 else jn_X4_load_56 (T12.1 0 0 23) T12))
set_option maxHeartbeats 4000000 in
set_option maxRecDepth 100000 in
theorem j_X4_load_56 {p : Program} {l : Launch} {e : Env} {s : State} {m : MethodId} {args : Array Value} {below : List Frame} {meth : Method} {c : Code} {D : va_G} {Y : Nat → ClassId} {S V : Nat → Nat} {G : Nat → Nat → Nat} {A : Nat → Prop} {c0 : Cond} (F : zF 1 9  0 0  p l s m args c cX4_load 2 RX4 c0 D Y S V G A) (hr : meth.sig.returnType = (some .int)) (hlocks : meth.locks = false) (hex : ∀ x ∈ c.exceptionTable.toList, False) (z1 : Int32) (T : zT) {T' : zT} {v : Int32} {H : Heap} {locs : List Loc} {ls : Array Slot} (hf : jn_X4_load_56 z1 T = some (v, T')) (hP : zP 1 D Y G T H) (hS : va_S A s.heap H locs) (hl : lv_has ls 2 [(0, .ref (G 0 0))]) :
    W p l e (zR 9  0 0 ) s m args below meth c H locs 0 0 (vx_MQ below (zQ 1 D Y G A (.inl (some (.int v))) T') (zX 1 D Y G A (.inl (some (.int v))) T') args s  0 0  A) (F0 m 56 ls [.int z1, .ref (G 0 0)]) := by
  obtain ⟨hx, hb, hml, hown, hts, hl9, hG, hK, hA⟩ := id F
  unfold jn_X4_load_56 at hf
  obtain ⟨T13, eT13, hf⟩ := zl_i hf
  refine z_put hx hb hts (fun w h => List.mem_cons_of_mem _ (ziX4 w h)) tyX4 tyX4_ok nmX4 hown hK hP hG hS (zV_m (by decide)) rfl rfl 14 (by decide) (List.mem_cons_of_mem _ m_1155) rfl rfl (by decide +kernel) (Nat.le_of_ble_eq_true rfl) rfl dX4_load_56 (fun H locs hP hS => ?_)
  rw [← eT13] at hP
  refine lv_aload_n hx hb dX4_load_59 rfl (lv_at hl 0 rfl) ?_
  refine z_get hx hb hts (fun w h => List.mem_cons_of_mem _ (ziX4 w h)) hown hK hP (zV_m (by decide)) rfl rfl 22 (by decide) (List.mem_cons_of_mem _ m_1163) rfl rfl dX4_load_60 ?_
  refine lv_if_eq (tgt := 76) hx hb dX4_load_63 (by decide) (fun hc => ?_) (fun hc => ?_)
  · have hf := zif_p hf hc
    refine lv_aload_n hx hb dX4_load_76 rfl (lv_at hl 0 rfl) ?_
    refine lv_iconst (v := 0) hx hb dX4_load_77 (by decide) ?_
    obtain ⟨T14, eT14, hf⟩ := zl_i hf
    refine z_put hx hb hts (fun w h => List.mem_cons_of_mem _ (ziX4 w h)) tyX4 tyX4_ok nmX4 hown hK hP hG hS (zV_m (by decide)) rfl rfl 5 (by decide) (List.mem_cons_of_mem _ m_1146) rfl rfl (by decide +kernel) (Nat.le_of_ble_eq_true rfl) rfl dX4_load_78 (fun H locs hP hS => ?_)
    rw [← eT14] at hP
    refine lv_aload_n hx hb dX4_load_81 rfl (lv_at hl 0 rfl) ?_
    refine lv_iconst (v := 0) hx hb dX4_load_82 (by decide) ?_
    obtain ⟨T15, eT15, hf⟩ := zl_i hf
    refine z_put hx hb hts (fun w h => List.mem_cons_of_mem _ (ziX4 w h)) tyX4 tyX4_ok nmX4 hown hK hP hG hS (zV_m (by decide)) rfl rfl 7 (by decide) (List.mem_cons_of_mem _ m_1148) rfl rfl (by decide +kernel) (Nat.le_of_ble_eq_true rfl) rfl dX4_load_83 (fun H locs hP hS => ?_)
    rw [← eT15] at hP
    refine lv_aload_n hx hb dX4_load_86 rfl (lv_at hl 0 rfl) ?_
    refine lv_aload_n hx hb dX4_load_87 rfl (lv_at hl 0 rfl) ?_
    refine z_get hx hb hts (fun w h => List.mem_cons_of_mem _ (ziX4 w h)) hown hK hP (zV_m (by decide)) rfl rfl 2 (by decide) (List.mem_cons_of_mem _ m_1143) rfl rfl dX4_load_88 ?_
    refine lv_iconst (v := 5) hx hb dX4_load_91 (by decide) ?_
    refine z_iald_ (j := 5) hx hb hK hP (zIA_m (by decide) (by decide)) (by decide) (by decide) dX4_load_92 ?_
    obtain ⟨v18, T17, h19, hf⟩ := zb_i hf
    refine z_ok (z_runV (As := [.int (T15.2 2 0 5)]) (rest := []) F k_X4_told m_1230 (c_X4_told (T15.2 2 0 5) T15 T17 _ h19) hP hS (zV_m (by decide)) rfl rfl rfl rfl hl.1 (Nat.le_of_ble_eq_true rfl) dX4_load_93 (Nat.le_of_ble_eq_true rfl) ⟨Nat.le_of_ble_eq_true rfl, Nat.le_of_ble_eq_true rfl⟩ rfl) hS (fun H locs hP hS => ?_)
    obtain ⟨q1, q2⟩ := zs_i hf
    subst q1; subst q2
    exact z_iret hx hb hr rfl hP hS hlocks (Nat.le_of_ble_eq_true rfl) (Nat.le_of_ble_eq_true rfl) dX4_load_96
  · have hf := zif_n hf hc
    refine lv_aload_n hx hb dX4_load_66 rfl (lv_at hl 0 rfl) ?_
    obtain ⟨v21, T20, h22, hf⟩ := zb_i hf
    refine z_ok (z_runV (As := []) (rest := []) F k_X4_putsBack m_1327 (c_X4_putsBack T13 T20 _ h22) hP hS (zV_m (by decide)) rfl rfl rfl rfl hl.1 (Nat.le_of_ble_eq_true rfl) dX4_load_67 (Nat.le_of_ble_eq_true rfl) ⟨Nat.le_of_ble_eq_true rfl, Nat.le_of_ble_eq_true rfl⟩ rfl) hS (fun H locs hP hS => ?_)
    refine lv_aload_n hx hb dX4_load_70 rfl (lv_at hl 0 rfl) ?_
    refine lv_iconst (v := 2) hx hb dX4_load_71 (by decide) ?_
    obtain ⟨v24, T23, h25, hf⟩ := zb_i hf
    refine z_ok (z_runV (As := [.int 2]) (rest := []) F k_X4_refuse m_1222 (c_X4_refuse 2 T20 T23 _ h25) hP hS (zV_m (by decide)) rfl rfl rfl rfl hl.1 (Nat.le_of_ble_eq_true rfl) dX4_load_72 (Nat.le_of_ble_eq_true rfl) ⟨Nat.le_of_ble_eq_true rfl, Nat.le_of_ble_eq_true rfl⟩ rfl) hS (fun H locs hP hS => ?_)
    obtain ⟨q1, q2⟩ := zs_i hf
    subst q1; subst q2
    exact z_iret hx hb hr rfl hP hS hlocks (Nat.le_of_ble_eq_true rfl) (Nat.le_of_ble_eq_true rfl) dX4_load_75
set_option maxHeartbeats 4000000 in
set_option maxRecDepth 100000 in
theorem c_X4_load (p0 : Int32) (T T' : zT) (v : Int32) (hf : f_X4_load p0 T = some (v, T')) : zC 1 yX4_load cX4_load 2 (some .int) 9  0 0  (fun G _ => [.ref (G 0 0), .int p0]) T (fun _ => .inl (some (.int v))) T' := by
  intro l D Y S V G A hl9 hG
  refine vx_ofW (cc := cX4_load) (maxL := 2) (ret := (some .int)) (by decide) rfl ?_
  intro p e s m args below meth c s₁ B hml hex hv
  obtain ⟨rfl, hK, hP, hA⟩ := hv
  have hx := B.exec
  have hb := B.bytes
  have hr := B.returns
  have hlocks := B.notSynchronized
  have hown : s.vm.findClass RX4 = some m.cls := findClass_of_methodNamed B.named
  have hts := atoms_spec (ws := Cond.code yX4_load cX4_load 2 (some .int) :: zWS) B.pre
  have F : zF 1 9  0 0  p l s m _ c cX4_load 2 RX4 (Cond.code yX4_load cX4_load 2 (some .int)) D Y S V G A := ⟨hx, hb, hml, hown, hts, hl9, hG, hK, hA⟩
  have hS : va_S A s.heap s.heap [] := va_S.rf
  have hl := lv_entry ([.ref (G 0 0), .int p0]) (n := 2) (Nat.le_of_ble_eq_true rfl)
  rw [lg_entry_eq]
  generalize (lg_sl ([.ref (G 0 0), .int p0]) ++ List.replicate (2 - (lg_sl ([.ref (G 0 0), .int p0])).length) Slot.unset).toArray = ls at hl ⊢
  have hl : lv_has ls 2 [(0, .ref (G 0 0)), (1, .int p0)] := hl
  unfold f_X4_load at hf
  refine lv_iload_n hx hb dX4_load_0 rfl (lv_at hl 1 rfl) ?_
  refine lv_iconst (v := 0) hx hb dX4_load_1 (by decide) ?_
  refine lv_aload_n hx hb dX4_load_2 rfl (lv_at hl 0 rfl) ?_
  refine z_get hx hb hts (fun w h => List.mem_cons_of_mem _ (ziX4 w h)) hown hK hP (zV_m (by decide)) rfl rfl 10 (by decide) (List.mem_cons_of_mem _ m_1151) rfl rfl dX4_load_3 ?_
  obtain ⟨v2, T1, h3, hf⟩ := zb_i hf
  refine z_ok (z_runS (As := [.int p0, .int 0, .int (T.1 0 0 10)]) (rest := []) F k_X4_in m_1238 (c_X4_in p0 0 (T.1 0 0 10) T T1 _ h3) hP hS rfl rfl hl.1 (Nat.le_of_ble_eq_true rfl) dX4_load_6 (Nat.le_of_ble_eq_true rfl) ⟨Nat.le_of_ble_eq_true rfl, Nat.le_of_ble_eq_true rfl⟩ rfl) hS (fun H locs hP hS => ?_)
  refine lv_if_ne (tgt := 18) hx hb dX4_load_9 (by decide) (fun hc => ?_) (fun hc => ?_)
  · have hf := zif_n hf hc
    refine lv_aload_n hx hb dX4_load_18 rfl (lv_at hl 0 rfl) ?_
    obtain ⟨v5, T4, h6, hf⟩ := zb_i hf
    refine z_ok (z_runV (As := []) (rest := []) F k_X4_putsAside m_1241 (c_X4_putsAside T1 T4 _ h6) hP hS (zV_m (by decide)) rfl rfl rfl rfl hl.1 (Nat.le_of_ble_eq_true rfl) dX4_load_19 (Nat.le_of_ble_eq_true rfl) ⟨Nat.le_of_ble_eq_true rfl, Nat.le_of_ble_eq_true rfl⟩ rfl) hS (fun H locs hP hS => ?_)
    refine lv_aload_n hx hb dX4_load_22 rfl (lv_at hl 0 rfl) ?_
    refine lv_iload_n hx hb dX4_load_23 rfl (lv_at hl 1 rfl) ?_
    obtain ⟨v8, T7, h9, hf⟩ := zb_i hf
    refine z_ok (z_runV (As := [.int p0]) (rest := []) F k_X4_readsText m_1245 (c_X4_readsText p0 T4 T7 _ h9) hP hS (zV_m (by decide)) rfl rfl rfl rfl hl.1 (Nat.le_of_ble_eq_true rfl) dX4_load_24 (Nat.le_of_ble_eq_true rfl) ⟨Nat.le_of_ble_eq_true rfl, Nat.le_of_ble_eq_true rfl⟩ rfl) hS (fun H locs hP hS => ?_)
    refine lv_aload_n hx hb dX4_load_27 rfl (lv_at hl 0 rfl) ?_
    refine lv_iconst (v := 0) hx hb dX4_load_28 (by decide) ?_
    obtain ⟨T10, eT10, hf⟩ := zl_i hf
    refine z_put hx hb hts (fun w h => List.mem_cons_of_mem _ (ziX4 w h)) tyX4 tyX4_ok nmX4 hown hK hP hG hS (zV_m (by decide)) rfl rfl 10 (by decide) (List.mem_cons_of_mem _ m_1151) rfl rfl (by decide +kernel) (Nat.le_of_ble_eq_true rfl) rfl dX4_load_29 (fun H locs hP hS => ?_)
    rw [← eT10] at hP
    refine lv_aload_n hx hb dX4_load_32 rfl (lv_at hl 0 rfl) ?_
    refine lv_aload_n hx hb dX4_load_33 rfl (lv_at hl 0 rfl) ?_
    refine z_get hx hb hts (fun w h => List.mem_cons_of_mem _ (ziX4 w h)) hown hK hP (zV_m (by decide)) rfl rfl 22 (by decide) (List.mem_cons_of_mem _ m_1163) rfl rfl dX4_load_34 ?_
    obtain ⟨x11, ex11, hf⟩ := zl_i hf
    refine z_topi ex11 ?_
    obtain ⟨T12, eT12, hf⟩ := zl_i hf
    refine z_put hx hb hts (fun w h => List.mem_cons_of_mem _ (ziX4 w h)) tyX4 tyX4_ok nmX4 hown hK hP hG hS (zV_m (by decide)) rfl rfl 13 (by decide) (List.mem_cons_of_mem _ m_1154) rfl rfl (by decide +kernel) (Nat.le_of_ble_eq_true rfl) rfl dX4_load_37 (fun H locs hP hS => ?_)
    rw [← eT12] at hP
    refine lv_aload_n hx hb dX4_load_40 rfl (lv_at hl 0 rfl) ?_
    refine lv_aload_n hx hb dX4_load_41 rfl (lv_at hl 0 rfl) ?_
    refine z_get hx hb hts (fun w h => List.mem_cons_of_mem _ (ziX4 w h)) hown hK hP (zV_m (by decide)) rfl rfl 22 (by decide) (List.mem_cons_of_mem _ m_1163) rfl rfl dX4_load_42 ?_
    refine lv_if_ne (tgt := 52) hx hb dX4_load_45 (by decide) (fun hc => ?_) (fun hc => ?_)
    · have hf := zif_n hf hc
      refine lv_aload_n hx hb dX4_load_52 rfl (lv_at hl 0 rfl) ?_
      refine z_get hx hb hts (fun w h => List.mem_cons_of_mem _ (ziX4 w h)) hown hK hP (zV_m (by decide)) rfl rfl 23 (by decide) (List.mem_cons_of_mem _ m_1164) rfl rfl dX4_load_53 ?_
      exact j_X4_load_56 F hr hlocks hex (T12.1 0 0 23) T12 hf hP hS (lv_sub hl [0] rfl)
    · have hf := zif_p hf hc
      refine lv_iconst (v := (-1)) hx hb dX4_load_48 (by decide) ?_
      refine lv_goto (tgt := 56) hx hb dX4_load_49 (by decide) ?_
      exact j_X4_load_56 F hr hlocks hex (-1) T12 hf hP hS (lv_sub hl [0] rfl)
  · have hf := zif_p hf hc
    refine lv_aload_n hx hb dX4_load_12 rfl (lv_at hl 0 rfl) ?_
    refine lv_iconst (v := 1) hx hb dX4_load_13 (by decide) ?_
    obtain ⟨v27, T26, h28, hf⟩ := zb_i hf
    refine z_ok (z_runV (As := [.int 1]) (rest := []) F k_X4_refuse m_1222 (c_X4_refuse 1 T1 T26 _ h28) hP hS (zV_m (by decide)) rfl rfl rfl rfl hl.1 (Nat.le_of_ble_eq_true rfl) dX4_load_14 (Nat.le_of_ble_eq_true rfl) ⟨Nat.le_of_ble_eq_true rfl, Nat.le_of_ble_eq_true rfl⟩ rfl) hS (fun H locs hP hS => ?_)
    obtain ⟨q1, q2⟩ := zs_i hf
    subst q1; subst q2
    exact z_iret hx hb hr rfl hP hS hlocks (Nat.le_of_ble_eq_true rfl) (Nat.le_of_ble_eq_true rfl) dX4_load_17

def f_X4_errorKind  (T : zT) : Option (Int32 × zT) := zb (f_X4_told (T.1 0 0 13) T) fun v2 T1 => some (v2, T1)
set_option maxHeartbeats 4000000 in
set_option maxRecDepth 100000 in
theorem c_X4_errorKind  (T T' : zT) (v : Int32) (hf : f_X4_errorKind  T = some (v, T')) : zC 1 yX4_errorKind cX4_errorKind 1 (some .int) 1  0 0  (fun G _ => [.ref (G 0 0)]) T (fun _ => .inl (some (.int v))) T' := by
  intro l D Y S V G A hl9 hG
  refine vx_ofW (cc := cX4_errorKind) (maxL := 1) (ret := (some .int)) (by decide) rfl ?_
  intro p e s m args below meth c s₁ B hml hex hv
  obtain ⟨rfl, hK, hP, hA⟩ := hv
  have hx := B.exec
  have hb := B.bytes
  have hr := B.returns
  have hlocks := B.notSynchronized
  have hown : s.vm.findClass RX4 = some m.cls := findClass_of_methodNamed B.named
  have hts := atoms_spec (ws := Cond.code yX4_errorKind cX4_errorKind 1 (some .int) :: zWS) B.pre
  have F : zF 1 1  0 0  p l s m _ c cX4_errorKind 1 RX4 (Cond.code yX4_errorKind cX4_errorKind 1 (some .int)) D Y S V G A := ⟨hx, hb, hml, hown, hts, hl9, hG, hK, hA⟩
  have hS : va_S A s.heap s.heap [] := va_S.rf
  have hl := lv_entry ([.ref (G 0 0)]) (n := 1) (Nat.le_of_ble_eq_true rfl)
  rw [lg_entry_eq]
  generalize (lg_sl ([.ref (G 0 0)]) ++ List.replicate (1 - (lg_sl ([.ref (G 0 0)])).length) Slot.unset).toArray = ls at hl ⊢
  have hl : lv_has ls 1 [(0, .ref (G 0 0))] := hl
  unfold f_X4_errorKind at hf
  refine lv_aload_n hx hb dX4_errorKind_0 rfl (lv_at hl 0 rfl) ?_
  refine lv_aload_n hx hb dX4_errorKind_1 rfl (lv_at hl 0 rfl) ?_
  refine z_get hx hb hts (fun w h => List.mem_cons_of_mem _ (ziX4 w h)) hown hK hP (zV_m (by decide)) rfl rfl 13 (by decide) (List.mem_cons_of_mem _ m_1154) rfl rfl dX4_errorKind_2 ?_
  obtain ⟨v2, T1, h3, hf⟩ := zb_i hf
  refine z_ok (z_runV (As := [.int (T.1 0 0 13)]) (rest := []) F k_X4_told m_1230 (c_X4_told (T.1 0 0 13) T T1 _ h3) hP hS (zV_m (by decide)) rfl rfl rfl rfl hl.1 (Nat.le_of_ble_eq_true rfl) dX4_errorKind_5 (Nat.le_of_ble_eq_true rfl) ⟨Nat.le_of_ble_eq_true rfl, Nat.le_of_ble_eq_true rfl⟩ rfl) hS (fun H locs hP hS => ?_)
  obtain ⟨q1, q2⟩ := zs_i hf
  subst q1; subst q2
  exact z_iret hx hb hr rfl hP hS hlocks (Nat.le_of_ble_eq_true rfl) (Nat.le_of_ble_eq_true rfl) dX4_errorKind_8

def f_X4_errorOffset  (T : zT) : Option (Int32 × zT) := zb (f_X4_told (T.1 0 0 14) T) fun v2 T1 => some (v2, T1)
set_option maxHeartbeats 4000000 in
set_option maxRecDepth 100000 in
theorem c_X4_errorOffset  (T T' : zT) (v : Int32) (hf : f_X4_errorOffset  T = some (v, T')) : zC 1 yX4_errorOffset cX4_errorOffset 1 (some .int) 1  0 0  (fun G _ => [.ref (G 0 0)]) T (fun _ => .inl (some (.int v))) T' := by
  intro l D Y S V G A hl9 hG
  refine vx_ofW (cc := cX4_errorOffset) (maxL := 1) (ret := (some .int)) (by decide) rfl ?_
  intro p e s m args below meth c s₁ B hml hex hv
  obtain ⟨rfl, hK, hP, hA⟩ := hv
  have hx := B.exec
  have hb := B.bytes
  have hr := B.returns
  have hlocks := B.notSynchronized
  have hown : s.vm.findClass RX4 = some m.cls := findClass_of_methodNamed B.named
  have hts := atoms_spec (ws := Cond.code yX4_errorOffset cX4_errorOffset 1 (some .int) :: zWS) B.pre
  have F : zF 1 1  0 0  p l s m _ c cX4_errorOffset 1 RX4 (Cond.code yX4_errorOffset cX4_errorOffset 1 (some .int)) D Y S V G A := ⟨hx, hb, hml, hown, hts, hl9, hG, hK, hA⟩
  have hS : va_S A s.heap s.heap [] := va_S.rf
  have hl := lv_entry ([.ref (G 0 0)]) (n := 1) (Nat.le_of_ble_eq_true rfl)
  rw [lg_entry_eq]
  generalize (lg_sl ([.ref (G 0 0)]) ++ List.replicate (1 - (lg_sl ([.ref (G 0 0)])).length) Slot.unset).toArray = ls at hl ⊢
  have hl : lv_has ls 1 [(0, .ref (G 0 0))] := hl
  unfold f_X4_errorOffset at hf
  refine lv_aload_n hx hb dX4_errorOffset_0 rfl (lv_at hl 0 rfl) ?_
  refine lv_aload_n hx hb dX4_errorOffset_1 rfl (lv_at hl 0 rfl) ?_
  refine z_get hx hb hts (fun w h => List.mem_cons_of_mem _ (ziX4 w h)) hown hK hP (zV_m (by decide)) rfl rfl 14 (by decide) (List.mem_cons_of_mem _ m_1155) rfl rfl dX4_errorOffset_2 ?_
  obtain ⟨v2, T1, h3, hf⟩ := zb_i hf
  refine z_ok (z_runV (As := [.int (T.1 0 0 14)]) (rest := []) F k_X4_told m_1230 (c_X4_told (T.1 0 0 14) T T1 _ h3) hP hS (zV_m (by decide)) rfl rfl rfl rfl hl.1 (Nat.le_of_ble_eq_true rfl) dX4_errorOffset_5 (Nat.le_of_ble_eq_true rfl) ⟨Nat.le_of_ble_eq_true rfl, Nat.le_of_ble_eq_true rfl⟩ rfl) hS (fun H locs hP hS => ?_)
  obtain ⟨q1, q2⟩ := zs_i hf
  subst q1; subst q2
  exact z_iret hx hb hr rfl hP hS hlocks (Nat.le_of_ble_eq_true rfl) (Nat.le_of_ble_eq_true rfl) dX4_errorOffset_8

def f_X4_year  (T : zT) : Option (Int32 × zT) := zb (f_X4_told (T.2 2 0 0) T) fun v3 T2 => some (v3, T2)
set_option maxHeartbeats 4000000 in
set_option maxRecDepth 100000 in
theorem c_X4_year  (T T' : zT) (v : Int32) (hf : f_X4_year  T = some (v, T')) : zC 1 yX4_year cX4_year 1 (some .int) 1  0 0  (fun G _ => [.ref (G 0 0)]) T (fun _ => .inl (some (.int v))) T' := by
  intro l D Y S V G A hl9 hG
  refine vx_ofW (cc := cX4_year) (maxL := 1) (ret := (some .int)) (by decide) rfl ?_
  intro p e s m args below meth c s₁ B hml hex hv
  obtain ⟨rfl, hK, hP, hA⟩ := hv
  have hx := B.exec
  have hb := B.bytes
  have hr := B.returns
  have hlocks := B.notSynchronized
  have hown : s.vm.findClass RX4 = some m.cls := findClass_of_methodNamed B.named
  have hts := atoms_spec (ws := Cond.code yX4_year cX4_year 1 (some .int) :: zWS) B.pre
  have F : zF 1 1  0 0  p l s m _ c cX4_year 1 RX4 (Cond.code yX4_year cX4_year 1 (some .int)) D Y S V G A := ⟨hx, hb, hml, hown, hts, hl9, hG, hK, hA⟩
  have hS : va_S A s.heap s.heap [] := va_S.rf
  have hl := lv_entry ([.ref (G 0 0)]) (n := 1) (Nat.le_of_ble_eq_true rfl)
  rw [lg_entry_eq]
  generalize (lg_sl ([.ref (G 0 0)]) ++ List.replicate (1 - (lg_sl ([.ref (G 0 0)])).length) Slot.unset).toArray = ls at hl ⊢
  have hl : lv_has ls 1 [(0, .ref (G 0 0))] := hl
  unfold f_X4_year at hf
  refine lv_aload_n hx hb dX4_year_0 rfl (lv_at hl 0 rfl) ?_
  refine lv_aload_n hx hb dX4_year_1 rfl (lv_at hl 0 rfl) ?_
  refine z_get hx hb hts (fun w h => List.mem_cons_of_mem _ (ziX4 w h)) hown hK hP (zV_m (by decide)) rfl rfl 2 (by decide) (List.mem_cons_of_mem _ m_1143) rfl rfl dX4_year_2 ?_
  refine lv_iconst (v := 0) hx hb dX4_year_5 (by decide) ?_
  refine z_iald_ (j := 0) hx hb hK hP (zIA_m (by decide) (by decide)) (by decide) (by decide) dX4_year_6 ?_
  obtain ⟨v3, T2, h4, hf⟩ := zb_i hf
  refine z_ok (z_runV (As := [.int (T.2 2 0 0)]) (rest := []) F k_X4_told m_1230 (c_X4_told (T.2 2 0 0) T T2 _ h4) hP hS (zV_m (by decide)) rfl rfl rfl rfl hl.1 (Nat.le_of_ble_eq_true rfl) dX4_year_7 (Nat.le_of_ble_eq_true rfl) ⟨Nat.le_of_ble_eq_true rfl, Nat.le_of_ble_eq_true rfl⟩ rfl) hS (fun H locs hP hS => ?_)
  obtain ⟨q1, q2⟩ := zs_i hf
  subst q1; subst q2
  exact z_iret hx hb hr rfl hP hS hlocks (Nat.le_of_ble_eq_true rfl) (Nat.le_of_ble_eq_true rfl) dX4_year_10
