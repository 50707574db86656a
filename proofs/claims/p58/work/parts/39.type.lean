/-! THE LAW'S type, by program -/
theorem ml_602 : Cond.methodLink RL 8 yJ0_length_8abf5 ∈ zWS := zws_in 602 (by decide +kernel) (by decide +kernel)
theorem ml_603 : Cond.methodLink RL 14 yJ0_charAt_5068e ∈ zWS := zws_in 603 (by decide +kernel) (by decide +kernel)
theorem ml_604 : Cond.methodLink RL 18 yX3_append ∈ zWS := zws_in 604 (by decide +kernel) (by decide +kernel)
theorem k_X3_append : zcal yX3_append cX3_append 6 (some .int) 5 := ⟨zws_in 605 (by decide +kernel) (by decide +kernel), zws_in 606 (by decide +kernel) (by decide +kernel), zws_in 31 (by decide +kernel) (by decide +kernel), zws_in 607 (by decide +kernel) (by decide +kernel), ⟨by decide +kernel, by decide +kernel⟩, by decide +kernel, by decide⟩
theorem kt_J0_charAt_5068e : zcal yJ0_charAt_5068e cJ0_charAt_5068e 2 (some .char) 1 := ⟨zws_in 226 (by decide +kernel) (by decide +kernel), zws_in 227 (by decide +kernel) (by decide +kernel), zws_in 35 (by decide +kernel) (by decide +kernel), zws_in 228 (by decide +kernel) (by decide +kernel), ⟨by decide +kernel, by decide +kernel⟩, by decide +kernel, by decide⟩
def zXT (A : Nat → Prop) (t : List Nat) (byt : Nat → Int32) (qs vs : Nat) (s : State) : Prop := zS1 t.length byt qs vs A s s.heap ∧ zLat t byt ∧ t.length ≤ 300
/-- a contract of a method that is given a text -/
def zCt (y : MethodName) (ch : Cond) (d mc ms : Nat) (t : List Nat) (byt : Nat → Int32) (qs vs : Nat) (T : zT) (v : Int32) (T' : zT) : Prop :=
  ∀ (l : Launch) (D : va_G) (Y : Nat → ClassId) (S V : Nat → Nat) (G : Nat → Nat → Nat) (A : Nat → Prop), l.flags = flags0 → zG 0 G A →
    vx_Met l y (ch :: zWS) (zR d mc ms) (va_Pc [.ref (G 0 0), .ref qs] (fun U => zB 0 D Y S V G A T U ∧ zJk A U U.heap ∧ zS1 t.length byt qs vs A U U.heap)) (zQ 0 D Y G A (.inl (some (.int v))) T') (zX 0 D Y G A (.inl (some (.int v))) T') mc ms A
section ZTR
variable {p : Program} {l : Launch} {e : Env} {s : State} {m : MethodId} {args : Array Value} {below : List Frame} {meth : Method} {c : Code} {H : Heap} {locs : List Loc} {cells slots : Nat} {Q : State → Prop}
variable {cc : ByteArray} {pc : Nat} {ls : Array Slot} {rest : List Value} {D : va_G} {Y : Nat → ClassId} {S V : Nat → Nat} {G : Nat → Nat → Nat} {A : Nat → Prop} {c0 : Cond} {w d mc ms nL index : Nat} {own : String} {T : zT} {t : List Nat} {byt : Nat → Int32} {qs vs : Nat}
theorem z_tlen (F : zF w d mc ms p l s m args c cc nL own c0 D Y S V G A) (XJ : zJk A s s.heap) (XT : zXT A t byt qs vs s) (hlink : Cond.methodLink own index yJ0_length_8abf5 ∈ zWS) (hP : zP w D Y G T H) (hS : va_S A s.heap H locs) (hsz : ls.size = nL) (hrest : (rest.map fun v => v.category).sum ≤ 8) (hdg : decode cc pc = .ok (.invokevirtual index, 3)) (hd : 2 ≤ d) (hf : cells ≤ mc ∧ slots ≤ ms)
    (kk : ∀ (H1 : Heap) (locs1 : List Loc), zP w D Y G T H1 → va_S A s.heap H1 locs1 → W p l e (zR d mc ms) s m args below meth c H1 locs1 cells slots Q (F0 m (pc + 3) ls (.int (nI t.length) :: rest))) : W p l e (zR d mc ms) s m args below meth c H locs cells slots Q (F0 m pc ls (.ref qs :: rest)) := by
  have hA := F.2.2.2.2.2.2.2.2
  refine z_jV (As := []) (F.J XJ) kj_J0_length_8abf5 hlink (cj_J0_length_8abf5 l F.2.2.2.2.2.1 D Y S V (fun q => H.size ≤ q) qs vs t.length byt) (fun _ U _ _ h => ⟨h.1, zS1.go h.2 (Vm.Alike.refl _) (fun _ _ _ => rfl)⟩) (fun U hU hW => ⟨trivial, by rw [hU]; exact (XT.1.go hW.alike hS.2.1).narrow (fun q h => hA q (Nat.le_trans hS.1 h))⟩) (va_Orecv XT.1.1 hS) hS (fun q h => hA q (Nat.le_trans hS.1 h)) (fun _ h => h) rfl rfl hsz hrest hdg hd hf rfl (fun v H1 locs1 hp hz hk hS1 => ?_)
  subst hp
  exact kk H1 locs1 (hP.keep (fun q h => hk q h (Nat.not_le.mpr h))) hS1
theorem z_tchr {k : Int32} (F : zF w d mc ms p l s m args c cc nL own c0 D Y S V G A) (XJ : zJk A s s.heap) (XT : zXT A t byt qs vs s) (hlink : Cond.methodLink own index yJ0_charAt_5068e ∈ zWS) (h : zin k t.length = true) (hP : zP w D Y G T H) (hS : va_S A s.heap H locs) (hsz : ls.size = nL) (hrest : (rest.map fun v => v.category).sum ≤ 8) (hdg : decode cc pc = .ok (.invokevirtual index, 3)) (hd : 4 ≤ d) (hf : cells ≤ mc ∧ slots ≤ ms)
    (kk : ∀ (H1 : Heap) (locs1 : List Loc), zP w D Y G T H1 → va_S A s.heap H1 locs1 → W p l e (zR d mc ms) s m args below meth c H1 locs1 cells slots Q (F0 m (pc + 3) ls (.int (nI (t.getD k.toNatClampNeg 0)) :: rest))) : W p l e (zR d mc ms) s m args below meth c H locs cells slots Q (F0 m pc ls (.int k :: .ref qs :: rest)) := by
  have hA := F.2.2.2.2.2.2.2.2
  have hn := XT.2.2
  obtain ⟨j, hj, rfl⟩ := vp_in_of (zin_i h) (by omega)
  rw [nI_clamp (by omega)] at kk
  have hx : t.getD j 0 < 128 := by
    rw [List.getD_eq_getElem?_getD, List.getElem?_eq_getElem hj]
    exact XT.2.1.1 _ (List.getElem_mem _)
  refine z_jV (As := [.int (nI j)]) (F.J XJ) kt_J0_charAt_5068e hlink (cj_J0_charAt_5068e l F.2.2.2.2.2.1 D Y S V (fun q => H.size ≤ q) qs vs t.length byt j (t.getD j 0) hj hn (XT.2.1.2 j hj) hx) (fun _ U _ _ h => ⟨h.1, zS1.go h.2 (Vm.Alike.refl _) (fun _ _ _ => rfl)⟩) (fun U hU hW => ⟨trivial, by rw [hU]; exact (XT.1.go hW.alike hS.2.1).narrow (fun q h => hA q (Nat.le_trans hS.1 h))⟩) (va_Orecv XT.1.1 hS) hS (fun q h => hA q (Nat.le_trans hS.1 h)) (fun _ h => h) rfl rfl hsz hrest hdg hd hf rfl (fun v H1 locs1 hp hz hk hS1 => ?_)
  subst hp
  exact kk H1 locs1 (hP.keep (fun q h => hk q h (Nat.not_le.mpr h))) hS1
end ZTR
def lp_L_type_t_21 (t : List Nat) (w4 : Int32) : Nat → Int32 → zT → Option ((Int32) × zT)
  | 0, _, _ => none
  | n + 1, u5, T => (if 20 ≤ u5 then some (u5, T) else zl (u5 / 4) fun x2 => if zin x2 5 = true then zl (fun (z8 : Int32) (z9 : Int32) (z10 : Int32) (T7 : zT) => if zin z8 5 = true then zl (wA T7 0 8 (upd (T7.2 0 8) z8.toNatClampNeg (z9 ||| z10))) fun T12 => zl (u5 + 1) fun x13 => lp_L_type_t_21 t w4 n x13 T12 else none) fun K3 => (if (nI t.length) ≤ (w4 + u5) then K3 x2 ((T.2 0 8 x2.toNatClampNeg) <<< (8 &&& 31)) 32 T else zl (w4 + u5) fun x6 => if zin x6 t.length = true then K3 x2 ((T.2 0 8 x2.toNatClampNeg) <<< (8 &&& 31)) (nI (t.getD x6.toNatClampNeg 0)) T else none) else none)
def lp_L_type_t_9 (t : List Nat) : Nat → Int32 → zT → Option ((Int32) × zT)
  | 0, _, _ => none
  | n + 1, u4, T => (if (nI t.length) ≤ u4 then some (u4, T) else zb (lp_L_type_t_21 t u4 21 0 T) fun v15 T14 => zbi (f_X3_append (T14.2 0 8 0) (T14.2 0 8 1) (T14.2 0 8 2) (T14.2 0 8 3) (T14.2 0 8 4) T14) fun v22 T23 => zl (zk T14 T23) fun T25 => zl (u4 + 20) fun x26 => lp_L_type_t_9 t n x26 T25)
def rg_L_type_t (t : List Nat) (w2 : Int32) (T : zT) : Option (Int32 × zT) := zb (lp_L_type_t_9 t 16 0 T) fun v28 T27 => some ((nI t.length), T27)
set_option maxHeartbeats 8000000 in
set_option maxRecDepth 100000 in
theorem l_L_type_t_21 {p : Program} {l : Launch} {e : Env} {s : State} {m : MethodId} {args : Array Value} {below : List Frame} {meth : Method} {c : Code} {Q : State → Prop} {D : va_G} {Y : Nat → ClassId} {S V : Nat → Nat} {G : Nat → Nat → Nat} {A : Nat → Prop} {byt : Nat → Int32} {qs vs : Nat} {c0 : Cond} {mc ms : Nat} {t : List Nat} {ce se : Nat} (hcm : ce ≤ mc ∧ se ≤ ms) (F : zF 5 7 mc ms p l s m args c cL_type 6 RL c0 D Y S V G A) (XJ : zJk A s s.heap) (XT : zXT A t byt qs vs s) (w4 : Int32) :
    ∀ (n cells slots : Nat) (u5 : Int32) (T : zT) (o : (Int32) × zT) (H : Heap) (locs : List Loc) (ls : Array Slot), cells + 0 * n ≤ ce → slots + 0 * n ≤ se → lp_L_type_t_21 t w4 n u5 T = some o → zP 5 D Y G T H → va_S A s.heap H locs → lv_has ls 6 [(0, .ref (G 0 0)), (1, .ref qs), (3, .ref (G 0 8)), (4, .int w4), (5, .int u5)] → (∀ (H : Heap) (locs : List Loc) (ls : Array Slot), zP 5 D Y G o.2 H → va_S A s.heap H locs → lv_has ls 6 [(0, .ref (G 0 0)), (1, .ref qs), (3, .ref (G 0 8)), (4, .int w4), (5, .int o.1)] → W p l e (zR 7 mc ms) s m args below meth c H locs ce se Q (F0 m 76 ls [])) → W p l e (zR 7 mc ms) s m args below meth c H locs cells slots Q (F0 m 21 ls []) := by
  obtain ⟨hx, hb, hml, hown, hts, hl9, hG, hK, hA⟩ := id F
  intro n
  induction n with
  | zero =>
    intro cells slots u5 T o H locs ls _ _ hf
    rw [lp_L_type_t_21] at hf
    cases hf
  | succ n ih =>
    intro cells slots u5 T o H locs ls hc1 hc2 hf hP hS hl k0_
    rw [lp_L_type_t_21] at hf
    refine lv_iload hx hb dL_type_21 (lv_at hl 4 rfl) ?_
    refine lv_bipush (v := 20) hx hb dL_type_23 (by decide) ?_
    refine lv_icmp_ge (tgt := 76) hx hb dL_type_25 (by decide) (fun hc => ?_) (fun hc => ?_)
    · have hf := zif_p hf hc
      cases hf
      refine W.widen (k := ce) (n := se) (by omega) (by omega) ?_
      exact k0_ _ _ _ hP hS (lv_sub hl [0, 1, 2, 3, 4] rfl)
    · have hf := zif_n hf hc
      refine lv_aload_n hx hb dL_type_28 rfl (lv_at hl 2 rfl) ?_
      refine lv_iload hx hb dL_type_29 (lv_at hl 4 rfl) ?_
      refine lv_iconst (v := 4) hx hb dL_type_31 (by decide) ?_
      refine lv_idiv hx hb dL_type_32 (by decide) ?_
      refine lv_aload_n hx hb dL_type_33 rfl (lv_at hl 2 rfl) ?_
      refine lv_iload hx hb dL_type_34 (lv_at hl 4 rfl) ?_
      refine lv_iconst (v := 4) hx hb dL_type_36 (by decide) ?_
      refine lv_idiv hx hb dL_type_37 (by decide) ?_
      obtain ⟨x2, ex2, hf⟩ := zl_i hf
      rw [← ex2]
      obtain ⟨h1, hf⟩ := zif_c hf
      refine z_iald hx hb hK hP (zIA_8 (by decide)) (zin_i h1) dL_type_38 ?_
      refine lv_bipush (v := 8) hx hb dL_type_39 (by decide) ?_
      refine lv_ishl hx hb dL_type_41 ?_
      refine lv_iload hx hb dL_type_42 (lv_at hl 3 rfl) ?_
      refine lv_iload hx hb dL_type_44 (lv_at hl 4 rfl) ?_
      refine lv_iadd hx hb dL_type_46 ?_
      refine lv_aload_n hx hb dL_type_47 rfl (lv_at hl 1 rfl) ?_
      refine z_tlen F XJ XT ml_602 hP hS hl.1 (Nat.le_of_ble_eq_true rfl) dL_type_48 (Nat.le_of_ble_eq_true rfl) ⟨by omega, by omega⟩ (fun H locs hP hS => ?_)
      obtain ⟨K3, eK3, hf⟩ := zl_i hf
      have J4 : ∀ (z8 : Int32) (z9 : Int32) (z10 : Int32) (T7 : zT) (H : Heap) (locs : List Loc) (ls : Array Slot), K3 z8 z9 z10 T7 = some o → zP 5 D Y G T7 H → va_S A s.heap H locs → lv_has ls 6 [(0, .ref (G 0 0)), (1, .ref qs), (3, .ref (G 0 8)), (4, .int w4), (5, .int u5)] → W p l e (zR 7 mc ms) s m args below meth c H locs (cells + 0) (slots + 0) Q (F0 m 68 ls [.int z10, .int z9, .int z8, .ref (G 0 8)]) := by
        intro z8 z9 z10 T7 H locs ls hf hP hS hl
        rw [eK3] at hf
        dsimp only at hf
        refine lv_ior hx hb dL_type_68 ?_
        obtain ⟨h11, hf⟩ := zif_c hf
        obtain ⟨T12, eT12, hf⟩ := zl_i hf
        refine z_iast hx hb hK hP hG hS (zIA_8 (by decide)) (zin_i h11) dL_type_69 (fun H locs hP hS => ?_)
        rw [← eT12] at hP
        obtain ⟨x13, ex13, hf⟩ := zl_i hf
        refine lv_iinc (v := x13) (lv' := [(5, .int x13), (0, .ref (G 0 0)), (1, .ref qs), (3, .ref (G 0 8)), (4, .int w4)]) hx hb dL_type_70 hl (k := 4) rfl (by rw [ex13]; rfl) (by decide) rfl (fun ls hl => ?_)
        refine lv_goto (tgt := 21) hx hb dL_type_73 (by decide) ?_
        exact ih (cells + 0) (slots + 0) x13 _ _ _ _ _ (by omega) (by omega) hf hP hS (lv_sub hl [1, 2, 3, 4, 0] rfl) k0_
      refine lv_icmp_ge (tgt := 66) hx hb dL_type_51 (by decide) (fun hc => ?_) (fun hc => ?_)
      · have hf := zif_p hf hc
        refine lv_bipush (v := 32) hx hb dL_type_66 (by decide) ?_
        refine W.widen (k := cells + 0) (n := slots + 0) (by omega) (by omega) ?_
        exact J4 x2 ((T.2 0 8 x2.toNatClampNeg) <<< (8 &&& 31)) 32 T _ _ _ hf hP hS (lv_sub hl [0, 1, 2, 3, 4] rfl)
      · have hf := zif_n hf hc
        refine lv_aload_n hx hb dL_type_54 rfl (lv_at hl 1 rfl) ?_
        refine lv_iload hx hb dL_type_55 (lv_at hl 3 rfl) ?_
        refine lv_iload hx hb dL_type_57 (lv_at hl 4 rfl) ?_
        refine lv_iadd hx hb dL_type_59 ?_
        obtain ⟨x6, ex6, hf⟩ := zl_i hf
        refine z_topi ex6 ?_
        obtain ⟨h5, hf⟩ := zif_c hf
        refine z_tchr F XJ XT ml_603 h5 hP hS hl.1 (Nat.le_of_ble_eq_true rfl) dL_type_60 (Nat.le_of_ble_eq_true rfl) ⟨by omega, by omega⟩ (fun H locs hP hS => ?_)
        refine lv_goto (tgt := 68) hx hb dL_type_63 (by decide) ?_
        refine W.widen (k := cells + 0) (n := slots + 0) (by omega) (by omega) ?_
        exact J4 x2 ((T.2 0 8 x2.toNatClampNeg) <<< (8 &&& 31)) (nI (t.getD x6.toNatClampNeg 0)) T _ _ _ hf hP hS (lv_sub hl [0, 1, 2, 3, 4] rfl)
set_option maxHeartbeats 8000000 in
set_option maxRecDepth 100000 in
theorem l_L_type_t_9 {p : Program} {l : Launch} {e : Env} {s : State} {m : MethodId} {args : Array Value} {below : List Frame} {meth : Method} {c : Code} {Q : State → Prop} {D : va_G} {Y : Nat → ClassId} {S V : Nat → Nat} {G : Nat → Nat → Nat} {A : Nat → Prop} {byt : Nat → Int32} {qs vs : Nat} {c0 : Cond} {mc ms : Nat} {t : List Nat} {ce se : Nat} (hcm : ce ≤ mc ∧ se ≤ ms) (F : zF 5 7 mc ms p l s m args c cL_type 6 RL c0 D Y S V G A) (XJ : zJk A s s.heap) (XT : zXT A t byt qs vs s) :
    ∀ (n cells slots : Nat) (u4 : Int32) (T : zT) (o : (Int32) × zT) (H : Heap) (locs : List Loc) (ls : Array Slot), cells + 1 * n ≤ ce → slots + 6 * n ≤ se → lp_L_type_t_9 t n u4 T = some o → zP 5 D Y G T H → va_S A s.heap H locs → lv_has ls 6 [(0, .ref (G 0 0)), (1, .ref qs), (3, .ref (G 0 8)), (4, .int u4)] → (∀ (H : Heap) (locs : List Loc) (ls : Array Slot), zP 5 D Y G o.2 H → va_S A s.heap H locs → lv_has ls 6 [(0, .ref (G 0 0)), (1, .ref qs), (3, .ref (G 0 8)), (4, .int o.1)] → W p l e (zR 7 mc ms) s m args below meth c H locs ce se Q (F0 m 102 ls [])) → W p l e (zR 7 mc ms) s m args below meth c H locs cells slots Q (F0 m 9 ls []) := by
  obtain ⟨hx, hb, hml, hown, hts, hl9, hG, hK, hA⟩ := id F
  intro n
  induction n with
  | zero =>
    intro cells slots u4 T o H locs ls _ _ hf
    rw [lp_L_type_t_9] at hf
    cases hf
  | succ n ih =>
    intro cells slots u4 T o H locs ls hc1 hc2 hf hP hS hl k0_
    rw [lp_L_type_t_9] at hf
    refine lv_iload hx hb dL_type_9 (lv_at hl 3 rfl) ?_
    refine lv_aload_n hx hb dL_type_11 rfl (lv_at hl 1 rfl) ?_
    refine z_tlen F XJ XT ml_602 hP hS hl.1 (Nat.le_of_ble_eq_true rfl) dL_type_12 (Nat.le_of_ble_eq_true rfl) ⟨by omega, by omega⟩ (fun H locs hP hS => ?_)
    refine lv_icmp_ge (tgt := 102) hx hb dL_type_15 (by decide) (fun hc => ?_) (fun hc => ?_)
    · have hf := zif_p hf hc
      cases hf
      refine W.widen (k := ce) (n := se) (by omega) (by omega) ?_
      exact k0_ _ _ _ hP hS (lv_sub hl [0, 1, 2, 3] rfl)
    · have hf := zif_n hf hc
      refine lv_iconst (v := 0) hx hb dL_type_18 (by decide) ?_
      refine lv_istore (lv' := [(5, .int 0), (0, .ref (G 0 0)), (1, .ref qs), (3, .ref (G 0 8)), (4, .int u4)]) hx hb dL_type_19 hl (by decide) rfl (fun ls hl => ?_)
      obtain ⟨v15, T14, h16, hf⟩ := zb_i hf
      refine l_L_type_t_21 (ce := cells + 0) (se := slots + 0) ⟨(by omega), (by omega)⟩ F XJ XT u4 21 (cells + 0) (slots + 0) 0 _ _ _ _ _ (by omega) (by omega) h16 hP hS (lv_sub hl [1, 2, 3, 4, 0] rfl) (fun H locs ls hP hS hl => ?_)
      refine lv_aload_n hx hb dL_type_76 rfl (lv_at hl 0 rfl) ?_
      refine lv_aload_n hx hb dL_type_77 rfl (lv_at hl 2 rfl) ?_
      refine lv_iconst (v := 0) hx hb dL_type_78 (by decide) ?_
      refine z_iald_ (j := 0) hx hb hK hP (zIA_8 (by decide)) (by decide) (by decide) dL_type_79 ?_
      refine lv_aload_n hx hb dL_type_80 rfl (lv_at hl 2 rfl) ?_
      refine lv_iconst (v := 1) hx hb dL_type_81 (by decide) ?_
      refine z_iald_ (j := 1) hx hb hK hP (zIA_8 (by decide)) (by decide) (by decide) dL_type_82 ?_
      refine lv_aload_n hx hb dL_type_83 rfl (lv_at hl 2 rfl) ?_
      refine lv_iconst (v := 2) hx hb dL_type_84 (by decide) ?_
      refine z_iald_ (j := 2) hx hb hK hP (zIA_8 (by decide)) (by decide) (by decide) dL_type_85 ?_
      refine lv_aload_n hx hb dL_type_86 rfl (lv_at hl 2 rfl) ?_
      refine lv_iconst (v := 3) hx hb dL_type_87 (by decide) ?_
      refine z_iald_ (j := 3) hx hb hK hP (zIA_8 (by decide)) (by decide) (by decide) dL_type_88 ?_
      refine lv_aload_n hx hb dL_type_89 rfl (lv_at hl 2 rfl) ?_
      refine lv_iconst (v := 4) hx hb dL_type_90 (by decide) ?_
      refine z_iald_ (j := 4) hx hb hK hP (zIA_8 (by decide)) (by decide) (by decide) dL_type_91 ?_
      obtain ⟨v22, T23, h24, hf⟩ := zbi_i hf
      obtain ⟨T25, eT25, hf⟩ := zl_i hf
      refine z_ok (z_runV (As := [.int (T14.2 0 8 0), .int (T14.2 0 8 1), .int (T14.2 0 8 2), .int (T14.2 0 8 3), .int (T14.2 0 8 4)]) (rest := []) F k_X3_append ml_604 (((c_X3_append (T14.2 0 8 0) (T14.2 0 8 1) (T14.2 0 8 2) (T14.2 0 8 3) (T14.2 0 8 4) T14 T23 (.inl v22) h24).lift (by decide))) hP hS (zV_0 (by decide)) rfl rfl rfl rfl hl.1 (Nat.le_of_ble_eq_true rfl) dL_type_92 (Nat.le_of_ble_eq_true rfl) ⟨by omega, by omega⟩ rfl) hS (fun H locs hP hS => ?_)
      rw [← eT25] at hP
      refine lv_istore_n (lv' := [(2, .int v22), (0, .ref (G 0 0)), (1, .ref qs), (3, .ref (G 0 8)), (4, .int u4), (5, .int v15)]) hx hb dL_type_95 rfl hl (by decide) rfl (fun ls hl => ?_)
      obtain ⟨x26, ex26, hf⟩ := zl_i hf
      refine lv_iinc (v := x26) (lv' := [(4, .int x26), (2, .int v22), (0, .ref (G 0 0)), (1, .ref qs), (3, .ref (G 0 8)), (5, .int v15)]) hx hb dL_type_96 hl (k := 4) rfl (by rw [ex26]; rfl) (by decide) rfl (fun ls hl => ?_)
      refine lv_goto (tgt := 9) hx hb dL_type_99 (by decide) ?_
      exact ih (cells + 1) (slots + 6) x26 _ _ _ _ _ (by omega) (by omega) hf hP hS (lv_sub hl [2, 3, 4, 0] rfl) k0_
set_option maxHeartbeats 8000000 in
set_option maxRecDepth 100000 in
theorem r_L_type_t {p : Program} {l : Launch} {e : Env} {s : State} {m : MethodId} {args : Array Value} {below : List Frame} {meth : Method} {c : Code} {Q : State → Prop} {D : va_G} {Y : Nat → ClassId} {S V : Nat → Nat} {G : Nat → Nat → Nat} {A : Nat → Prop} {byt : Nat → Int32} {qs vs : Nat} {c0 : Cond} {mc ms : Nat} {t : List Nat} {ce se : Nat} (hcm : ce ≤ mc ∧ se ≤ ms) (F : zF 5 7 mc ms p l s m args c cL_type 6 RL c0 D Y S V G A) (XJ : zJk A s s.heap) (XT : zXT A t byt qs vs s) (w2 : Int32) (cells slots : Nat) (T : zT) {T' : zT} {v : Int32} {H : Heap} {locs : List Loc} {ls : Array Slot} (hc1 : cells + 16 ≤ ce) (hc2 : slots + 96 ≤ se) (hf : rg_L_type_t t w2 T = some (v, T')) (hP : zP 5 D Y G T H) (hS : va_S A s.heap H locs) (hl : lv_has ls 6 [(0, .ref (G 0 0)), (1, .ref qs), (2, .int w2), (3, .ref (G 0 8))])
    (k0_ : ∀ (H : Heap) (locs : List Loc) (ls : Array Slot), zP 5 D Y G T' H → va_S A s.heap H locs → lv_has ls 6 [] → W p l e (zR 7 mc ms) s m args below meth c H locs ce se Q (F0 m 106 ls [.int v])) :
    W p l e (zR 7 mc ms) s m args below meth c H locs cells slots Q (F0 m 6 ls []) := by
  obtain ⟨hx, hb, hml, hown, hts, hl9, hG, hK, hA⟩ := id F
  unfold rg_L_type_t at hf
  refine lv_iconst (v := 0) hx hb dL_type_6 (by decide) ?_
  refine lv_istore (lv' := [(4, .int 0), (0, .ref (G 0 0)), (1, .ref qs), (2, .int w2), (3, .ref (G 0 8))]) hx hb dL_type_7 hl (by decide) rfl (fun ls hl => ?_)
  obtain ⟨v28, T27, h29, hf⟩ := zb_i hf
  refine l_L_type_t_9 (ce := cells + 16) (se := slots + 96) ⟨(by omega), (by omega)⟩ F XJ XT  16 (cells + 0) (slots + 0) 0 _ _ _ _ _ (by omega) (by omega) h29 hP hS (lv_sub hl [1, 2, 4, 0] rfl) (fun H locs ls hP hS hl => ?_)
  refine lv_aload_n hx hb dL_type_102 rfl (lv_at hl 1 rfl) ?_
  refine z_tlen F XJ XT ml_602 hP hS hl.1 (Nat.le_of_ble_eq_true rfl) dL_type_103 (Nat.le_of_ble_eq_true rfl) ⟨by omega, by omega⟩ (fun H locs hP hS => ?_)
  obtain ⟨q1, q2⟩ := zs_i hf
  subst q1; subst q2
  refine W.widen (k := ce) (n := se) (by omega) (by omega) ?_
  exact k0_ _ _ _ hP hS (lv_sub hl [] rfl)
def f_L_type (t : List Nat) (T : zT) : Option (Int32 × zT) := zl (wA T 0 8 (fun _ => 0)) fun T1 => zb (rg_L_type_t t 0 T1) fun v3 T2 => some (v3, T2)
set_option maxHeartbeats 8000000 in
set_option maxRecDepth 100000 in
theorem c_L_type (t : List Nat) (T T' : zT) (v : Int32) (hf : f_L_type t T = some (v, T')) (byt : Nat → Int32) (qs vs : Nat) (hL : zLat t byt) (hn : t.length ≤ 300) : zCt yL_type (Cond.code yL_type cL_type 6 (some .int)) 7 17 101 t byt qs vs T v T' := by
  intro l D Y S V G A hl9 hG
  refine vx_ofW (cc := cL_type) (maxL := 6) (ret := (some .int)) (by decide) rfl ?_
  intro p e s m args below meth c s₁ B hml hex hv
  obtain ⟨rfl, ⟨hK, hP, hA⟩, XJ, XT0⟩ := hv
  have XT : zXT A t byt qs vs s := ⟨XT0, hL, hn⟩
  have hx := B.exec
  have hb := B.bytes
  have hr := B.returns
  have hlocks := B.notSynchronized
  have hown : s.vm.findClass RL = some m.cls := findClass_of_methodNamed B.named
  have hts := atoms_spec (ws := Cond.code yL_type cL_type 6 (some .int) :: zWS) B.pre
  have F : zF 0 7 17 101 p l s m _ c cL_type 6 RL (Cond.code yL_type cL_type 6 (some .int)) D Y S V G A := ⟨hx, hb, hml, hown, hts, hl9, hG, hK, hA⟩
  have hS : va_S A s.heap s.heap [] := va_S.rf
  have hl := lv_entry ([.ref (G 0 0), .ref qs]) (n := 6) (Nat.le_of_ble_eq_true rfl)
  rw [lg_entry_eq]
  generalize (lg_sl ([.ref (G 0 0), .ref qs]) ++ List.replicate (6 - (lg_sl ([.ref (G 0 0), .ref qs])).length) Slot.unset).toArray = ls at hl ⊢
  have hl : lv_has ls 6 [(0, .ref (G 0 0)), (1, .ref qs)] := hl
  unfold f_L_type at hf
  refine lv_iconst (v := 0) hx hb dL_type_0 (by decide) ?_
  refine lv_istore_n (lv' := [(2, .int 0), (0, .ref (G 0 0)), (1, .ref qs)]) hx hb dL_type_1 rfl hl (by decide) rfl (fun ls hl => ?_)
  refine lv_iconst (v := 5) hx hb dL_type_2 (by decide) ?_
  obtain ⟨T1, eT1, hf⟩ := zl_i hf
  obtain ⟨v3, T2, h4, hf⟩ := zb_i hf
  obtain ⟨q1, q2⟩ := zs_i hf
  subst q1; subst q2
  refine z_newi F ml_153 5 (by decide) (by decide) hP hS (Nat.le_of_ble_eq_true rfl) (Nat.le_of_ble_eq_true rfl) rfl dL_type_3 (fun G9 H hG9 hgn hP hS => ?_)
  rw [← eT1] at hP
  have e00 : G9 0 0 = G 0 0 := hgn 0 0 (by decide)
  rw [← e00] at hl
  refine lv_astore_n (lv' := [(3, .ref (G9 0 8)), (2, .int 0), (0, .ref (G9 0 0)), (1, .ref qs)]) hx hb dL_type_5 rfl hl (by decide) rfl (fun ls hl => ?_)
  have F9 := zF.world F hG9
  refine r_L_type_t (ce := 17) (se := 101) ⟨(Nat.le_of_ble_eq_true rfl), (Nat.le_of_ble_eq_true rfl)⟩ F9 XJ XT 0 1 5 T1 (Nat.le_of_ble_eq_true rfl) (Nat.le_of_ble_eq_true rfl) h4 hP hS (lv_sub hl [2, 3, 1, 0] rfl) (fun H locs ls hP hS hl => ?_)
  exact z_iret hx hb hr rfl (hP.down.agree hgn) hS hlocks (Nat.le_of_ble_eq_true rfl) (Nat.le_of_ble_eq_true rfl) dL_type_106
