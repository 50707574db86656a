/-! STRINGS: the JDK's methods over the claim's constants -/
theorem zb_all : ∀ i, i < 12 → (zbytes i).length < 2 ^ 31 ∧ ∀ b ∈ zbytes i, ((b &&& 255).toUInt32 % 65536).toInt32 = b ∧ (b &&& 255 = b) := by decide +kernel
theorem zb_in {i : Nat} (hi : i < 12) {k : Int32} (hk : vp_in k (zbytes i).length) : ¬ k < 0 ∧ k < nI (zbytes i).length := by
  obtain ⟨j, hj, rfl⟩ := vp_in_of hk (zb_all i hi).1
  have h2 := (zb_all i hi).1
  exact ⟨nI_pos (by omega), nI_lt hj h2⟩
theorem zb_mem {i : Nat} {k : Int32} (hk : vp_in k (zbytes i).length) : (zbytes i).getD k.toNatClampNeg 0 ∈ zbytes i := by
  have hlt : k.toNatClampNeg < (zbytes i).length := Nat.not_le.mp fun q => hk (Or.inr q)
  rw [List.getD_eq_getElem?_getD, List.getElem?_eq_getElem hlt]
  exact List.getElem_mem hlt
theorem zb_ch {i : Nat} (hi : i < 12) {k : Int32} (hk : vp_in k (zbytes i).length) : (((zbytes i).getD k.toNatClampNeg 0 &&& 255).toUInt32 % 65536).toInt32 = (zbytes i).getD k.toNatClampNeg 0 := ((zb_all i hi).2 _ (zb_mem hk)).1
theorem zb_nar {i : Nat} (hi : i < 12) {k : Int32} (hk : vp_in k (zbytes i).length) : narrow .char (.int ((zbytes i).getD k.toNatClampNeg 0)) = .int ((zbytes i).getD k.toNatClampNeg 0) := by
  obtain ⟨h1, h2⟩ := (zb_all i hi).2 _ (zb_mem hk)
  have h3 := sc_nar ((zbytes i).getD k.toNatClampNeg 0)
  rw [h2] at h3
  exact h3
section ZSTR
variable {p : Program} {l : Launch} {e : Env} {s : State} {m : MethodId} {args : Array Value} {below : List Frame} {meth : Method} {c : Code} {H : Heap} {locs : List Loc} {cells slots : Nat} {Q : State → Prop}
variable {cc : ByteArray} {pc : Nat} {ls : Array Slot} {rest : List Value} {D : va_G} {Y : Nat → ClassId} {S V : Nat → Nat} {G : Nat → Nat → Nat} {A : Nat → Prop} {w : Nat} {T : zT} {c0 : Cond} {d mc ms nL : Nat} {own : String} {R : Room}
theorem z_nret {res : Option Value ⊕ String} {v : Int32} {ty : FieldType} (hexec : p.tables.exec = Jvm.exec) (hb : c.code = cc) (hr : meth.sig.returnType = some ty) (hn : narrow ty (.int v) = .int v) (hres : res = .inl (some (.int v))) (hP : zP w D Y G T H) (hS : va_S A s.heap H locs) (hlocks : meth.locks = false) (h1 : cells ≤ mc) (h2 : slots ≤ ms) (hdg : decode cc pc = .ok (.ireturn, 1)) :
    W p l e R s m args below meth c H locs cells slots (vx_MQ below (zQ w D Y G A res T) (zX w D Y G A res T) args s mc ms A) (F0 m pc ls [.int v]) := by
  refine W.widen h1 h2 (vx_ret ?_)
  exact W.zret (v := v) hexec hb hr hn (fun t ht _ => ⟨⟨_, hres, rfl, by rw [ht]; exact hP⟩, hS.F ht⟩) hS.2.2 hdg hlocks
variable {y : MethodName} {cc' : ByteArray} {maxL' n d' mc' ms' index : Nat} {ret' : Option FieldType} {as : (Nat → Nat → Nat) → (Nat → Nat) → List Value} {res : (Nat → Nat → Nat) → Option Value ⊕ String} {T' : zT} {As : List Value}
/-- a call of a method of String, of a constant -/
theorem z_runVS (F : zF w d mc ms p l s m args c cc nL own c0 D Y S V G A) {i : Nat} (hi : i < 12) (hc : zcal y cc' maxL' ret' n) (hy : y.cls = "java/lang/String") (hlink : Cond.methodLink own index y ∈ zWS) (hC : zC w y cc' maxL' ret' d' mc' ms' as T res T') (hP : zP w D Y G T H) (hS : va_S A s.heap H locs) (has : as G S = .ref (S i) :: As) (hn : As.length = n) (hsz : ls.size = nL) (hrest : (rest.map fun v => v.category).sum ≤ 8) (hdg : decode cc pc = .ok (.invokevirtual index, 3)) (hd : d' + 1 ≤ d) (hf : cells + mc' ≤ mc ∧ slots + ms' ≤ ms) {st : List Value} (hst : st = As.reverse ++ .ref (S i) :: rest) :
    vx_Run p l e (zR d mc ms) s m args below meth c H locs cells slots mc' ms' (F0 m pc ls st) rest (zQ w D Y G A (res G) T' (Value.ref (S i) :: As).toArray) (zX w D Y G A (res G) T') A := by
  have F0' := F
  obtain ⟨hx, hb, hml, hown, hts, hl, hG, hK, hA⟩ := F
  obtain ⟨k1, k2, k3, k4, k5, k6, k7⟩ := hc
  have ok : ∀ w ∈ zWS, w.before args s = true := fun w h => hts w (List.mem_cons_of_mem _ h)
  obtain ⟨cell, g1, g2, g3, -⟩ := (hK.2.2.2.1 i hi).1.kept hS.2.1
  refine vx_runV (C := y.cls) (ret := ret') (bytes := cc') (maxL := maxL') (n := n) (Ts := c0 :: zWS) ⟨hx, hb, hml, hown, hts⟩ (hC l D Y S V G A hl hG) ⟨⟨rfl, rfl, hd, ?_, z_pay hts k4, List.mem_cons_self, ok _ k4, ok _ k3, k5, z_len k6, ok _ hlink⟩, ok _ k1, ok _ k2⟩ ⟨zB_blind, ⟨cell, g1, g2, by rw [hy]; exact g3⟩, z_pre F0' hP hS has⟩ rfl hn hsz hst (by show 2 * 0 + _ ≤ 8; omega) hdg hf
  show 8 + (maxL' + 11) + 37 * d' ≤ 37 * d
  omega
end ZSTR
set_option maxHeartbeats 4000000 in
set_option maxRecDepth 100000 in
theorem c_J0_coder_7d493 (w : Nat) (T : zT) (i : Nat) (hi : i < 12) : zC w yJ0_coder_7d493 cJ0_coder_7d493 1 (some .byte) 0 0 0 (fun _ S => [.ref (S i)]) T (fun _ => .inl (some (.int 0))) T := by
  intro l D Y S V G A hl9 hG
  refine vx_ofW (cc := cJ0_coder_7d493) (maxL := 1) (ret := (some .byte)) (by decide) rfl ?_
  intro p e s m args below meth c s₁ B hml hex hv
  obtain ⟨rfl, hK, hP, hA⟩ := hv
  have hx := B.exec
  have hb := B.bytes
  have hr := B.returns
  have hlocks := B.notSynchronized
  have hown : s.vm.findClass RJ0 = some m.cls := findClass_of_methodNamed B.named
  have hts := atoms_spec (ws := Cond.code yJ0_coder_7d493 cJ0_coder_7d493 1 (some .byte) :: zWS) B.pre
  have F : zF w 0 0 0 p l s m _ c cJ0_coder_7d493 1 RJ0 (Cond.code yJ0_coder_7d493 cJ0_coder_7d493 1 (some .byte)) D Y S V G A := ⟨hx, hb, hml, hown, hts, hl9, hG, hK, hA⟩
  have hS : va_S A s.heap s.heap [] := va_S.rf
  have hl := lv_entry ([.ref (S i)]) (n := 1) (Nat.le_of_ble_eq_true rfl)
  rw [lg_entry_eq]
  generalize (lg_sl ([.ref (S i)]) ++ List.replicate (1 - (lg_sl ([.ref (S i)])).length) Slot.unset).toArray = ls at hl ⊢
  have hl : lv_has ls 1 [(0, .ref (S i))] := hl
  obtain ⟨s1, s2, s3, s4⟩ := hK.2.2.2.1 i hi
  refine va_gets hx hb hK.2.2.2.2.2.2.1 hS hown (hts _ (List.mem_cons_of_mem _ m_223)) (fun _ h => h) dJ0_coder_7d493_0 ?_
  refine lv_if_eq (tgt := 13) hx hb dJ0_coder_7d493_3 (by decide) (fun hc => absurd hc (by decide)) (fun _ => ?_)
  refine lv_aload_n hx hb dJ0_coder_7d493_6 rfl (lv_at hl 0 rfl) ?_
  refine vk_getf hx hb s2 hS hown (hts _ (List.mem_cons_of_mem _ m_979)) (fun _ h => h) dJ0_coder_7d493_7 ?_
  refine lv_goto (tgt := 14) hx hb dJ0_coder_7d493_10 (by decide) ?_
  exact z_nret hx hb hr rfl rfl hP hS hlocks (Nat.le_of_ble_eq_true rfl) (Nat.le_of_ble_eq_true rfl) dJ0_coder_7d493_14

set_option maxHeartbeats 4000000 in
set_option maxRecDepth 100000 in
theorem c_J0_length_8abf5 (w : Nat) (T : zT) (i : Nat) (hi : i < 12) : zC w yJ0_length_8abf5 cJ0_length_8abf5 1 (some .int) 1 0 0 (fun _ S => [.ref (S i)]) T (fun _ => .inl (some (.int (nI (zbytes i).length)))) T := by
  intro l D Y S V G A hl9 hG
  refine vx_ofW (cc := cJ0_length_8abf5) (maxL := 1) (ret := (some .int)) (by decide) rfl ?_
  intro p e s m args below meth c s₁ B hml hex hv
  obtain ⟨rfl, hK, hP, hA⟩ := hv
  have hx := B.exec
  have hb := B.bytes
  have hr := B.returns
  have hlocks := B.notSynchronized
  have hown : s.vm.findClass RJ0 = some m.cls := findClass_of_methodNamed B.named
  have hts := atoms_spec (ws := Cond.code yJ0_length_8abf5 cJ0_length_8abf5 1 (some .int) :: zWS) B.pre
  have F : zF w 1 0 0 p l s m _ c cJ0_length_8abf5 1 RJ0 (Cond.code yJ0_length_8abf5 cJ0_length_8abf5 1 (some .int)) D Y S V G A := ⟨hx, hb, hml, hown, hts, hl9, hG, hK, hA⟩
  have hS : va_S A s.heap s.heap [] := va_S.rf
  have hl := lv_entry ([.ref (S i)]) (n := 1) (Nat.le_of_ble_eq_true rfl)
  rw [lg_entry_eq]
  generalize (lg_sl ([.ref (S i)]) ++ List.replicate (1 - (lg_sl ([.ref (S i)])).length) Slot.unset).toArray = ls at hl ⊢
  have hl : lv_has ls 1 [(0, .ref (S i))] := hl
  obtain ⟨s1, s2, s3, s4⟩ := hK.2.2.2.1 i hi
  refine lv_aload_n hx hb dJ0_length_8abf5_0 rfl (lv_at hl 0 rfl) ?_
  refine vk_getf hx hb s3 hS hown (hts _ (List.mem_cons_of_mem _ m_978)) (fun _ h => h) dJ0_length_8abf5_1 ?_
  refine va_tlen hx hb s4 hS rfl dJ0_length_8abf5_4 ?_
  refine lv_aload_n hx hb dJ0_length_8abf5_5 rfl (lv_at hl 0 rfl) ?_
  refine z_ok (z_runVS (As := []) (rest := [.int (nI (zbytes i).length)]) F hi k_J0_coder_7d493 rfl m_219 (c_J0_coder_7d493 w T i hi) hP hS rfl rfl hl.1 (Nat.le_of_ble_eq_true rfl) dJ0_length_8abf5_6 (Nat.le_of_ble_eq_true rfl) ⟨Nat.le_of_ble_eq_true rfl, Nat.le_of_ble_eq_true rfl⟩ rfl) hS (fun H locs hP hS => ?_)
  refine lv_ishr hx hb dJ0_length_8abf5_9 ?_
  exact z_iret hx hb hr (by rw [sb_shr0]) hP hS hlocks (Nat.le_of_ble_eq_true rfl) (Nat.le_of_ble_eq_true rfl) dJ0_length_8abf5_10

set_option maxHeartbeats 4000000 in
set_option maxRecDepth 100000 in
theorem c_J0_isLatin1_aae02 (w : Nat) (T : zT) (i : Nat) (hi : i < 12) : zC w yJ0_isLatin1_aae02 cJ0_isLatin1_aae02 1 (some .boolean) 0 0 0 (fun _ S => [.ref (S i)]) T (fun _ => .inl (some (.int 1))) T := by
  intro l D Y S V G A hl9 hG
  refine vx_ofW (cc := cJ0_isLatin1_aae02) (maxL := 1) (ret := (some .boolean)) (by decide) rfl ?_
  intro p e s m args below meth c s₁ B hml hex hv
  obtain ⟨rfl, hK, hP, hA⟩ := hv
  have hx := B.exec
  have hb := B.bytes
  have hr := B.returns
  have hlocks := B.notSynchronized
  have hown : s.vm.findClass RJ0 = some m.cls := findClass_of_methodNamed B.named
  have hts := atoms_spec (ws := Cond.code yJ0_isLatin1_aae02 cJ0_isLatin1_aae02 1 (some .boolean) :: zWS) B.pre
  have F : zF w 0 0 0 p l s m _ c cJ0_isLatin1_aae02 1 RJ0 (Cond.code yJ0_isLatin1_aae02 cJ0_isLatin1_aae02 1 (some .boolean)) D Y S V G A := ⟨hx, hb, hml, hown, hts, hl9, hG, hK, hA⟩
  have hS : va_S A s.heap s.heap [] := va_S.rf
  have hl := lv_entry ([.ref (S i)]) (n := 1) (Nat.le_of_ble_eq_true rfl)
  rw [lg_entry_eq]
  generalize (lg_sl ([.ref (S i)]) ++ List.replicate (1 - (lg_sl ([.ref (S i)])).length) Slot.unset).toArray = ls at hl ⊢
  have hl : lv_has ls 1 [(0, .ref (S i))] := hl
  obtain ⟨s1, s2, s3, s4⟩ := hK.2.2.2.1 i hi
  refine va_gets hx hb hK.2.2.2.2.2.2.1 hS hown (hts _ (List.mem_cons_of_mem _ m_223)) (fun _ h => h) dJ0_isLatin1_aae02_0 ?_
  refine lv_if_eq (tgt := 17) hx hb dJ0_isLatin1_aae02_3 (by decide) (fun hc => absurd hc (by decide)) (fun _ => ?_)
  refine lv_aload_n hx hb dJ0_isLatin1_aae02_6 rfl (lv_at hl 0 rfl) ?_
  refine vk_getf hx hb s2 hS hown (hts _ (List.mem_cons_of_mem _ m_979)) (fun _ h => h) dJ0_isLatin1_aae02_7 ?_
  refine lv_if_ne (tgt := 17) hx hb dJ0_isLatin1_aae02_10 (by decide) (fun hc => absurd rfl hc) (fun _ => ?_)
  refine lv_iconst (v := 1) hx hb dJ0_isLatin1_aae02_13 (by decide) ?_
  refine lv_goto (tgt := 18) hx hb dJ0_isLatin1_aae02_14 (by decide) ?_
  exact z_zret hx hb hr (Or.inr rfl) rfl hP hS hlocks (Nat.le_of_ble_eq_true rfl) (Nat.le_of_ble_eq_true rfl) dJ0_isLatin1_aae02_18

set_option maxHeartbeats 4000000 in
set_option maxRecDepth 100000 in
theorem c_J3_checkIndex_8e157_n (w : Nat) (T : zT) (k n : Int32) (hk : ¬ k < 0) (hn : k < n) : zC w yJ3_checkIndex_8e157 cJ3_checkIndex_8e157 3 (some .int) 0 0 0 (fun _ _ => [.int k, .int n, .null]) T (fun _ => .inl (some (.int k))) T := by
  intro l D Y S V G A hl9 hG
  refine vx_ofW (cc := cJ3_checkIndex_8e157) (maxL := 3) (ret := (some .int)) (by decide) rfl ?_
  intro p e s m args below meth c s₁ B hml hex hv
  obtain ⟨rfl, hK, hP, hA⟩ := hv
  have hx := B.exec
  have hb := B.bytes
  have hr := B.returns
  have hlocks := B.notSynchronized
  have hown : s.vm.findClass RJ3 = some m.cls := findClass_of_methodNamed B.named
  have hts := atoms_spec (ws := Cond.code yJ3_checkIndex_8e157 cJ3_checkIndex_8e157 3 (some .int) :: zWS) B.pre
  have F : zF w 0 0 0 p l s m _ c cJ3_checkIndex_8e157 3 RJ3 (Cond.code yJ3_checkIndex_8e157 cJ3_checkIndex_8e157 3 (some .int)) D Y S V G A := ⟨hx, hb, hml, hown, hts, hl9, hG, hK, hA⟩
  have hS : va_S A s.heap s.heap [] := va_S.rf
  have hl := lv_entry ([.int k, .int n, .null]) (n := 3) (Nat.le_of_ble_eq_true rfl)
  rw [lg_entry_eq]
  generalize (lg_sl ([.int k, .int n, .null]) ++ List.replicate (3 - (lg_sl ([.int k, .int n, .null])).length) Slot.unset).toArray = ls at hl ⊢
  have hl : lv_has ls 3 [(0, .int k), (1, .int n), (2, .null)] := hl
  refine lv_iload_n hx hb dJ3_checkIndex_8e157_0 rfl (lv_at hl 0 rfl) ?_
  refine lv_if_lt (tgt := 9) hx hb dJ3_checkIndex_8e157_1 (by decide) (fun hc => absurd hc hk) (fun _ => ?_)
  refine lv_iload_n hx hb dJ3_checkIndex_8e157_4 rfl (lv_at hl 0 rfl) ?_
  refine lv_iload_n hx hb dJ3_checkIndex_8e157_5 rfl (lv_at hl 1 rfl) ?_
  refine lv_icmp_lt (tgt := 16) hx hb dJ3_checkIndex_8e157_6 (by decide) (fun _ => ?_) (fun hc => absurd hn hc)
  refine lv_iload_n hx hb dJ3_checkIndex_8e157_16 rfl (lv_at hl 0 rfl) ?_
  exact z_iret hx hb hr rfl hP hS hlocks (Nat.le_of_ble_eq_true rfl) (Nat.le_of_ble_eq_true rfl) dJ3_checkIndex_8e157_17

set_option maxHeartbeats 4000000 in
set_option maxRecDepth 100000 in
theorem c_J3_checkIndex_8e157_r (w : Nat) (T : zT) (k n : Int32) (q : Nat) (hk : ¬ k < 0) (hn : k < n) : zC w yJ3_checkIndex_8e157 cJ3_checkIndex_8e157 3 (some .int) 0 0 0 (fun _ _ => [.int k, .int n, .ref q]) T (fun _ => .inl (some (.int k))) T := by
  intro l D Y S V G A hl9 hG
  refine vx_ofW (cc := cJ3_checkIndex_8e157) (maxL := 3) (ret := (some .int)) (by decide) rfl ?_
  intro p e s m args below meth c s₁ B hml hex hv
  obtain ⟨rfl, hK, hP, hA⟩ := hv
  have hx := B.exec
  have hb := B.bytes
  have hr := B.returns
  have hlocks := B.notSynchronized
  have hown : s.vm.findClass RJ3 = some m.cls := findClass_of_methodNamed B.named
  have hts := atoms_spec (ws := Cond.code yJ3_checkIndex_8e157 cJ3_checkIndex_8e157 3 (some .int) :: zWS) B.pre
  have F : zF w 0 0 0 p l s m _ c cJ3_checkIndex_8e157 3 RJ3 (Cond.code yJ3_checkIndex_8e157 cJ3_checkIndex_8e157 3 (some .int)) D Y S V G A := ⟨hx, hb, hml, hown, hts, hl9, hG, hK, hA⟩
  have hS : va_S A s.heap s.heap [] := va_S.rf
  have hl := lv_entry ([.int k, .int n, .ref q]) (n := 3) (Nat.le_of_ble_eq_true rfl)
  rw [lg_entry_eq]
  generalize (lg_sl ([.int k, .int n, .ref q]) ++ List.replicate (3 - (lg_sl ([.int k, .int n, .ref q])).length) Slot.unset).toArray = ls at hl ⊢
  have hl : lv_has ls 3 [(0, .int k), (1, .int n), (2, .ref q)] := hl
  refine lv_iload_n hx hb dJ3_checkIndex_8e157_0 rfl (lv_at hl 0 rfl) ?_
  refine lv_if_lt (tgt := 9) hx hb dJ3_checkIndex_8e157_1 (by decide) (fun hc => absurd hc hk) (fun _ => ?_)
  refine lv_iload_n hx hb dJ3_checkIndex_8e157_4 rfl (lv_at hl 0 rfl) ?_
  refine lv_iload_n hx hb dJ3_checkIndex_8e157_5 rfl (lv_at hl 1 rfl) ?_
  refine lv_icmp_lt (tgt := 16) hx hb dJ3_checkIndex_8e157_6 (by decide) (fun _ => ?_) (fun hc => absurd hn hc)
  refine lv_iload_n hx hb dJ3_checkIndex_8e157_16 rfl (lv_at hl 0 rfl) ?_
  exact z_iret hx hb hr rfl hP hS hlocks (Nat.le_of_ble_eq_true rfl) (Nat.le_of_ble_eq_true rfl) dJ3_checkIndex_8e157_17

set_option maxHeartbeats 4000000 in
set_option maxRecDepth 100000 in
theorem c_J0_checkIndex_df160 (w : Nat) (T : zT) (k n : Int32) (hk : ¬ k < 0) (hn : k < n) : zC w yJ0_checkIndex_df160 cJ0_checkIndex_df160 2 none 1 0 0 (fun _ _ => [.int k, .int n]) T (fun _ => .inl none) T := by
  intro l D Y S V G A hl9 hG
  refine vx_ofW (cc := cJ0_checkIndex_df160) (maxL := 2) (ret := none) (by decide) rfl ?_
  intro p e s m args below meth c s₁ B hml hex hv
  obtain ⟨rfl, hK, hP, hA⟩ := hv
  have hx := B.exec
  have hb := B.bytes
  have hr := B.returns
  have hlocks := B.notSynchronized
  have hown : s.vm.findClass RJ0 = some m.cls := findClass_of_methodNamed B.named
  have hts := atoms_spec (ws := Cond.code yJ0_checkIndex_df160 cJ0_checkIndex_df160 2 none :: zWS) B.pre
  have F : zF w 1 0 0 p l s m _ c cJ0_checkIndex_df160 2 RJ0 (Cond.code yJ0_checkIndex_df160 cJ0_checkIndex_df160 2 none) D Y S V G A := ⟨hx, hb, hml, hown, hts, hl9, hG, hK, hA⟩
  have hS : va_S A s.heap s.heap [] := va_S.rf
  have hl := lv_entry ([.int k, .int n]) (n := 2) (Nat.le_of_ble_eq_true rfl)
  rw [lg_entry_eq]
  generalize (lg_sl ([.int k, .int n]) ++ List.replicate (2 - (lg_sl ([.int k, .int n])).length) Slot.unset).toArray = ls at hl ⊢
  have hl : lv_has ls 2 [(0, .int k), (1, .int n)] := hl
  refine lv_iload_n hx hb dJ0_checkIndex_df160_0 rfl (lv_at hl 0 rfl) ?_
  refine lv_iload_n hx hb dJ0_checkIndex_df160_1 rfl (lv_at hl 1 rfl) ?_
  rcases hK.2.2.2.2.2.2.2.1 with hZ | ⟨q, hZ⟩
  · refine va_gets hx hb hZ hS hown (hts _ (List.mem_cons_of_mem _ m_239)) (fun _ h => h) dJ0_checkIndex_df160_2 ?_
    refine z_ok (z_runS (As := [.int k, .int n, .null]) (rest := []) F k_J3_checkIndex_8e157 m_241 (c_J3_checkIndex_8e157_n w T k n hk hn) hP hS rfl rfl hl.1 (Nat.le_of_ble_eq_true rfl) dJ0_checkIndex_df160_5 (Nat.le_of_ble_eq_true rfl) ⟨Nat.le_of_ble_eq_true rfl, Nat.le_of_ble_eq_true rfl⟩ rfl) hS (fun H locs hP hS => ?_)
    refine lv_pop hx hb dJ0_checkIndex_df160_8 rfl ?_
    exact z_vret hx hb hr rfl hP hS hlocks (Nat.le_of_ble_eq_true rfl) (Nat.le_of_ble_eq_true rfl) dJ0_checkIndex_df160_9
  · refine va_gets hx hb hZ hS hown (hts _ (List.mem_cons_of_mem _ m_239)) (fun _ h => h) dJ0_checkIndex_df160_2 ?_
    refine z_ok (z_runS (As := [.int k, .int n, .ref q]) (rest := []) F k_J3_checkIndex_8e157 m_241 (c_J3_checkIndex_8e157_r w T k n q hk hn) hP hS rfl rfl hl.1 (Nat.le_of_ble_eq_true rfl) dJ0_checkIndex_df160_5 (Nat.le_of_ble_eq_true rfl) ⟨Nat.le_of_ble_eq_true rfl, Nat.le_of_ble_eq_true rfl⟩ rfl) hS (fun H locs hP hS => ?_)
    refine lv_pop hx hb dJ0_checkIndex_df160_8 rfl ?_
    exact z_vret hx hb hr rfl hP hS hlocks (Nat.le_of_ble_eq_true rfl) (Nat.le_of_ble_eq_true rfl) dJ0_checkIndex_df160_9

set_option maxHeartbeats 4000000 in
set_option maxRecDepth 100000 in
theorem c_J1_charAt_3b067 (w : Nat) (T : zT) (i : Nat) (hi : i < 12) (k : Int32) (hk : vp_in k (zbytes i).length) : zC w yJ1_charAt_3b067 cJ1_charAt_3b067 2 (some .char) 2 0 0 (fun _ S => [.ref (S (100 + i)), .int k]) T (fun _ => .inl (some (.int ((zbytes i).getD k.toNatClampNeg 0)))) T := by
  intro l D Y S V G A hl9 hG
  refine vx_ofW (cc := cJ1_charAt_3b067) (maxL := 2) (ret := (some .char)) (by decide) rfl ?_
  intro p e s m args below meth c s₁ B hml hex hv
  obtain ⟨rfl, hK, hP, hA⟩ := hv
  have hx := B.exec
  have hb := B.bytes
  have hr := B.returns
  have hlocks := B.notSynchronized
  have hown : s.vm.findClass RJ1 = some m.cls := findClass_of_methodNamed B.named
  have hts := atoms_spec (ws := Cond.code yJ1_charAt_3b067 cJ1_charAt_3b067 2 (some .char) :: zWS) B.pre
  have F : zF w 2 0 0 p l s m _ c cJ1_charAt_3b067 2 RJ1 (Cond.code yJ1_charAt_3b067 cJ1_charAt_3b067 2 (some .char)) D Y S V G A := ⟨hx, hb, hml, hown, hts, hl9, hG, hK, hA⟩
  have hS : va_S A s.heap s.heap [] := va_S.rf
  have hl := lv_entry ([.ref (S (100 + i)), .int k]) (n := 2) (Nat.le_of_ble_eq_true rfl)
  rw [lg_entry_eq]
  generalize (lg_sl ([.ref (S (100 + i)), .int k]) ++ List.replicate (2 - (lg_sl ([.ref (S (100 + i)), .int k])).length) Slot.unset).toArray = ls at hl ⊢
  have hl : lv_has ls 2 [(0, .ref (S (100 + i))), (1, .int k)] := hl
  obtain ⟨s1, s2, s3, s4⟩ := hK.2.2.2.1 i hi
  rw [hK.2.2.2.2.2.2.2.2.1 i] at s4
  obtain ⟨hk1, hk2⟩ := zb_in hi hk
  refine lv_iload_n hx hb dJ1_charAt_3b067_0 rfl (lv_at hl 1 rfl) ?_
  refine lv_aload_n hx hb dJ1_charAt_3b067_1 rfl (lv_at hl 0 rfl) ?_
  refine va_tlen (v := nI (zbytes i).length) hx hb s4 hS rfl dJ1_charAt_3b067_2 ?_
  refine z_ok (z_runS (As := [.int k, .int (nI (zbytes i).length)]) (rest := []) F k_J0_checkIndex_df160 m_236 (c_J0_checkIndex_df160 w T k (nI (zbytes i).length) hk1 hk2) hP hS rfl rfl hl.1 (Nat.le_of_ble_eq_true rfl) dJ1_charAt_3b067_3 (Nat.le_of_ble_eq_true rfl) ⟨Nat.le_of_ble_eq_true rfl, Nat.le_of_ble_eq_true rfl⟩ rfl) hS (fun H locs hP hS => ?_)
  refine lv_aload_n hx hb dJ1_charAt_3b067_6 rfl (lv_at hl 0 rfl) ?_
  refine lv_iload_n hx hb dJ1_charAt_3b067_7 rfl (lv_at hl 1 rfl) ?_
  refine va_tb hx hb s4 hS hk rfl dJ1_charAt_3b067_8 ?_
  refine lv_sipush (v := 255) hx hb dJ1_charAt_3b067_9 (by decide) ?_
  refine lv_iand hx hb dJ1_charAt_3b067_12 ?_
  refine lv_i2c hx hb dJ1_charAt_3b067_13 (zb_ch hi hk) ?_
  exact z_nret hx hb hr (zb_nar hi hk) rfl hP hS hlocks (Nat.le_of_ble_eq_true rfl) (Nat.le_of_ble_eq_true rfl) dJ1_charAt_3b067_14

set_option maxHeartbeats 4000000 in
set_option maxRecDepth 100000 in
theorem c_J0_charAt_5068e (w : Nat) (T : zT) (i : Nat) (hi : i < 12) (k : Int32) (hk : vp_in k (zbytes i).length) : zC w yJ0_charAt_5068e cJ0_charAt_5068e 2 (some .char) 3 0 0 (fun _ S => [.ref (S i), .int k]) T (fun _ => .inl (some (.int ((zbytes i).getD k.toNatClampNeg 0)))) T := by
  intro l D Y S V G A hl9 hG
  refine vx_ofW (cc := cJ0_charAt_5068e) (maxL := 2) (ret := (some .char)) (by decide) rfl ?_
  intro p e s m args below meth c s₁ B hml hex hv
  obtain ⟨rfl, hK, hP, hA⟩ := hv
  have hx := B.exec
  have hb := B.bytes
  have hr := B.returns
  have hlocks := B.notSynchronized
  have hown : s.vm.findClass RJ0 = some m.cls := findClass_of_methodNamed B.named
  have hts := atoms_spec (ws := Cond.code yJ0_charAt_5068e cJ0_charAt_5068e 2 (some .char) :: zWS) B.pre
  have F : zF w 3 0 0 p l s m _ c cJ0_charAt_5068e 2 RJ0 (Cond.code yJ0_charAt_5068e cJ0_charAt_5068e 2 (some .char)) D Y S V G A := ⟨hx, hb, hml, hown, hts, hl9, hG, hK, hA⟩
  have hS : va_S A s.heap s.heap [] := va_S.rf
  have hl := lv_entry ([.ref (S i), .int k]) (n := 2) (Nat.le_of_ble_eq_true rfl)
  rw [lg_entry_eq]
  generalize (lg_sl ([.ref (S i), .int k]) ++ List.replicate (2 - (lg_sl ([.ref (S i), .int k])).length) Slot.unset).toArray = ls at hl ⊢
  have hl : lv_has ls 2 [(0, .ref (S i)), (1, .int k)] := hl
  obtain ⟨s1, s2, s3, s4⟩ := hK.2.2.2.1 i hi
  refine lv_aload_n hx hb dJ0_charAt_5068e_0 rfl (lv_at hl 0 rfl) ?_
  refine z_ok (z_runVS (As := []) (rest := []) F hi k_J0_isLatin1_aae02 rfl m_229 (c_J0_isLatin1_aae02 w T i hi) hP hS rfl rfl hl.1 (Nat.le_of_ble_eq_true rfl) dJ0_charAt_5068e_1 (Nat.le_of_ble_eq_true rfl) ⟨Nat.le_of_ble_eq_true rfl, Nat.le_of_ble_eq_true rfl⟩ rfl) hS (fun H locs hP hS => ?_)
  refine lv_if_eq (tgt := 16) hx hb dJ0_charAt_5068e_4 (by decide) (fun hc => absurd hc (by decide)) (fun _ => ?_)
  refine lv_aload_n hx hb dJ0_charAt_5068e_7 rfl (lv_at hl 0 rfl) ?_
  refine vk_getf hx hb s3 hS hown (hts _ (List.mem_cons_of_mem _ m_978)) (fun _ h => h) dJ0_charAt_5068e_8 ?_
  rw [hK.2.2.2.2.2.2.2.2.1 i]
  refine lv_iload_n hx hb dJ0_charAt_5068e_11 rfl (lv_at hl 1 rfl) ?_
  refine z_ok (z_runS (As := [.ref (S (100 + i)), .int k]) (rest := []) F k_J1_charAt_3b067 m_233 (c_J1_charAt_3b067 w T i hi k hk) hP hS rfl rfl hl.1 (Nat.le_of_ble_eq_true rfl) dJ0_charAt_5068e_12 (Nat.le_of_ble_eq_true rfl) ⟨Nat.le_of_ble_eq_true rfl, Nat.le_of_ble_eq_true rfl⟩ rfl) hS (fun H locs hP hS => ?_)
  exact z_nret hx hb hr (zb_nar hi hk) rfl hP hS hlocks (Nat.le_of_ble_eq_true rfl) (Nat.le_of_ble_eq_true rfl) dJ0_charAt_5068e_15
section ZSTR2
variable {p : Program} {l : Launch} {e : Env} {s : State} {m : MethodId} {args : Array Value} {below : List Frame} {meth : Method} {c : Code} {H : Heap} {locs : List Loc} {cells slots : Nat} {Q : State → Prop}
variable {cc : ByteArray} {pc : Nat} {ls : Array Slot} {rest : List Value} {D : va_G} {Y : Nat → ClassId} {S V : Nat → Nat} {G : Nat → Nat → Nat} {A : Nat → Prop} {w : Nat} {T : zT} {c0 : Cond} {d mc ms nL index : Nat} {own : String}
theorem z_slen (F : zF w d mc ms p l s m args c cc nL own c0 D Y S V G A) (hlink : Cond.methodLink own index yJ0_length_8abf5 ∈ zWS) (hP : zP w D Y G T H) (hS : va_S A s.heap H locs) {i : Nat} (hi : i < 12) (hsz : ls.size = nL) (hd : 2 ≤ d) (hrest : (rest.map fun v => v.category).sum ≤ 8) (hf : cells ≤ mc ∧ slots ≤ ms) (hdg : decode cc pc = .ok (.invokevirtual index, 3))
    (kk : ∀ (H1 : Heap) (locs1 : List Loc), zP w D Y G T H1 → va_S A s.heap H1 locs1 → W p l e (zR d mc ms) s m args below meth c H1 locs1 cells slots Q (F0 m (pc + 3) ls (.int (nI (zbytes i).length) :: rest))) : W p l e (zR d mc ms) s m args below meth c H locs cells slots Q (F0 m pc ls (.ref (S i) :: rest)) :=
  z_ok (z_runVS (As := []) (rest := rest) F hi k_J0_length_8abf5 rfl hlink (c_J0_length_8abf5 w T i hi) hP hS rfl rfl hsz hrest hdg hd hf rfl) hS kk
theorem z_schar (F : zF w d mc ms p l s m args c cc nL own c0 D Y S V G A) (hlink : Cond.methodLink own index yJ0_charAt_5068e ∈ zWS) (hP : zP w D Y G T H) (hS : va_S A s.heap H locs) {i : Nat} (hi : i < 12) {k : Int32} (hk : vp_in k (zbytes i).length) (hsz : ls.size = nL) (hd : 4 ≤ d) (hrest : (rest.map fun v => v.category).sum ≤ 8) (hf : cells ≤ mc ∧ slots ≤ ms) (hdg : decode cc pc = .ok (.invokevirtual index, 3))
    (kk : ∀ (H1 : Heap) (locs1 : List Loc), zP w D Y G T H1 → va_S A s.heap H1 locs1 → W p l e (zR d mc ms) s m args below meth c H1 locs1 cells slots Q (F0 m (pc + 3) ls (.int ((zbytes i).getD k.toNatClampNeg 0) :: rest))) : W p l e (zR d mc ms) s m args below meth c H locs cells slots Q (F0 m pc ls (.int k :: .ref (S i) :: rest)) :=
  z_ok (z_runVS (As := [.int k]) (rest := rest) F hi k_J0_charAt_5068e rfl hlink (c_J0_charAt_5068e w T i hi k hk) hP hS rfl rfl hsz hrest hdg hd hf rfl) hS kk
end ZSTR2
