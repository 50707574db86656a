/-! CONSTRUCTORS of the registry, the parser, the history -/
theorem m_152 : Cond.arrayClass .byte ∈ zWS := zws_in 152 (by decide +kernel) (by decide +kernel)
theorem m_153 : Cond.arrayClass .int ∈ zWS := zws_in 153 (by decide +kernel) (by decide +kernel)
theorem m_154 : Cond.classLink RX3 27 RX1 ∈ zWS := zws_in 154 (by decide +kernel) (by decide +kernel)
theorem m_155 : Cond.instantiable RX1 9 ∈ zWS := zws_in 155 (by decide +kernel) (by decide +kernel)
theorem m_159 : Cond.methodLink RX1 3 objectInit ∈ zWS := zws_in 159 (by decide +kernel) (by decide +kernel)
theorem m_160 : Cond.classLink RX1 9 RX2 ∈ zWS := zws_in 160 (by decide +kernel) (by decide +kernel)
theorem m_194 : Cond.classLink RX3 34 RX0 ∈ zWS := zws_in 194 (by decide +kernel) (by decide +kernel)
theorem m_195 : Cond.instantiable RX0 3 ∈ zWS := zws_in 195 (by decide +kernel) (by decide +kernel)
theorem m_196 : Cond.methodLink RX3 36 yX0_init ∈ zWS := zws_in 196 (by decide +kernel) (by decide +kernel)
theorem m_199 : Cond.methodLink RX0 3 objectInit ∈ zWS := zws_in 199 (by decide +kernel) (by decide +kernel)
theorem m_200 : Cond.classLink RX0 9 RX2 ∈ zWS := zws_in 200 (by decide +kernel) (by decide +kernel)
theorem m_32 : Cond.initialized RX2 ∈ zWS := zws_in 32 (by decide +kernel) (by decide +kernel)
theorem m_33 : Cond.initialized RX1 ∈ zWS := zws_in 33 (by decide +kernel) (by decide +kernel)
theorem m_34 : Cond.initialized RX0 ∈ zWS := zws_in 34 (by decide +kernel) (by decide +kernel)
theorem m_447 : Cond.fieldLink RX3 9 "InventedBirthdays" "output" "[B" ∈ zWS := zws_in 447 (by decide +kernel) (by decide +kernel)
theorem m_477 : Cond.arrayClass .boolean ∈ zWS := zws_in 477 (by decide +kernel) (by decide +kernel)
theorem m_58 : Cond.methodLink RX3 1 objectInit ∈ zWS := zws_in 58 (by decide +kernel) (by decide +kernel)
theorem m_59 : Cond.instanceMethod objectInit ∈ zWS := zws_in 59 (by decide +kernel) (by decide +kernel)
theorem m_60 : Cond.code objectInit ⟨#[0xb1]⟩ 1 none ∈ zWS := zws_in 60 (by decide +kernel) (by decide +kernel)
theorem m_61 : Cond.classLink RX3 17 RX2 ∈ zWS := zws_in 61 (by decide +kernel) (by decide +kernel)
theorem m_62 : Cond.instantiable RX2 20 ∈ zWS := zws_in 62 (by decide +kernel) (by decide +kernel)
theorem m_66 : Cond.methodLink RX2 3 objectInit ∈ zWS := zws_in 66 (by decide +kernel) (by decide +kernel)
theorem ki_X0_init : zkci yX0_init cX0_init 2 := ⟨zws_in 197 (by decide +kernel) (by decide +kernel), zws_in 34 (by decide +kernel) (by decide +kernel), zws_in 198 (by decide +kernel) (by decide +kernel), ⟨by decide +kernel, by decide +kernel⟩, by decide +kernel, rfl, by decide⟩
theorem ki_X1_init : zkci yX1_init cX1_init 1 := ⟨zws_in 157 (by decide +kernel) (by decide +kernel), zws_in 33 (by decide +kernel) (by decide +kernel), zws_in 158 (by decide +kernel) (by decide +kernel), ⟨by decide +kernel, by decide +kernel⟩, by decide +kernel, rfl, by decide⟩
theorem ki_X2_init : zkci yX2_init cX2_init 1 := ⟨zws_in 64 (by decide +kernel) (by decide +kernel), zws_in 32 (by decide +kernel) (by decide +kernel), zws_in 65 (by decide +kernel) (by decide +kernel), ⟨by decide +kernel, by decide +kernel⟩, by decide +kernel, rfl, by decide⟩
def zgf (q : Nat) (u : Nat → Nat) : Nat → Nat := fun j => if j = 0 then q else u j
theorem zbl_1 : va_D (fun _ => True) [] := ⟨fun i j p q h => by simp at h, fun k q h => by simp at h⟩
set_option maxHeartbeats 4000000 in
set_option maxRecDepth 100000 in
theorem c_X2_init (l : Launch) (D : va_G) (Y : Nat → ClassId) (h0 sz : Nat) : zCI l yX2_init cX2_init 1 1 10 90 h0 sz (fun U => va_K D vwCl (ztys Y) U ∧ va_P D vwCl [(h0, .inr (2, zbl2))] U.heap) (fun H => ∃ u, va_P D vwCl (zrl Y (zgf h0 u)) H ∧ va_D (zAs h0 sz) (zrl Y (zgf h0 u))) := by
  refine vx_ofW (cc := cX2_init) (maxL := 1) (ret := none) (by decide) rfl ?_
  intro p e s m args below meth c s₁ B hml hex hv
  obtain ⟨rfl, ⟨hK, hP⟩, hsz⟩ := hv
  subst hsz
  have hx := B.exec
  have hb := B.bytes
  have hr := B.returns
  have hlocks := B.notSynchronized
  have hown : s.vm.findClass RX2 = some m.cls := findClass_of_methodNamed B.named
  have hin : meth.name = "<init>" := (name_of_methodNamed B.named B.method).1
  have hts := atoms_spec (ws := Cond.code yX2_init cX2_init 1 none :: zWS) B.pre
  have ok : ∀ w ∈ zWS, w.before _ s = true := fun w h => hts w (List.mem_cons_of_mem _ h)
  have hS : va_S (zAs h0 s.heap.size) s.heap s.heap [] := va_S.rf
  have hA : ∀ q, s.heap.size ≤ q → zAs h0 s.heap.size q := fun q h => Or.inr h
  have hl := lv_entry ([.ref h0]) (n := 1) (Nat.le_of_ble_eq_true rfl)
  rw [lg_entry_eq]
  generalize (lg_sl ([.ref h0]) ++ List.replicate (1 - (lg_sl ([.ref h0])).length) Slot.unset).toArray = ls at hl ⊢
  have hl : lv_has ls 1 [(0, .ref h0)] := hl
  have hD : va_D (zAs h0 s.heap.size) [(h0, .inr (2, zbl2))] := zD_iff.mpr ⟨List.pairwise_singleton _ _, fun q hq => by obtain rfl := List.mem_singleton.mp hq; exact Or.inl rfl⟩
  refine lv_aload_n hx hb dX2_init_0 rfl (lv_at hl 0 rfl) ?_
  refine W.objInit hx hb hown (ok _ m_66) (ok _ m_59) (ok _ m_60) rfl (by rw [hml]; exact hl.1) rfl dX2_init_1 (Nat.le_of_ble_eq_true rfl) (Nat.le_of_ble_eq_true rfl) ?_
  refine W.eq (g2 := F0 m 4 ls []) rfl ?_
  refine lv_aload_n hx hb dX2_init_4 rfl (lv_at hl 0 rfl) ?_
  refine lv_bipush (v := 6) hx hb dX2_init_5 (by decide) ?_
  refine va_newa (atype := .int) (ty := .int) (a0 := (6, .inl fun _ => 0)) (N' := 6) hx hb (ok _ m_153) rfl hK hP hD hS hA (fun _ => rfl) (by decide) (by decide) (Nat.le_of_ble_eq_true rfl) (Nat.le_of_ble_eq_true rfl) (Nat.le_of_ble_eq_true rfl) dX2_init_7 (fun q1 cA H hK1 hP hD hS => ?_)
  obtain rfl := (zY_of hK).1 hK1
  have hP : va_P D vwCl ([(h0, .inr (2, [.int 0, .int 0, .int 0, .int 0, .int 0, .int 0, .int 0, .int 0, .int 0, .int 0, .null, .null, .null, .null, .null, .null, .null, .null, .null, .null])), (q1, .inl (Y 0, 6, .inl fun _ => 0))]) H := hP
  have hD : va_D (zAs h0 s.heap.size) ([(h0, .inr (2, [.int 0, .int 0, .int 0, .int 0, .int 0, .int 0, .int 0, .int 0, .int 0, .int 0, .null, .null, .null, .null, .null, .null, .null, .null, .null, .null])), (q1, .inl (Y 0, 6, .inl fun _ => 0))]) := hD
  refine va_putF (D := D) (ci := 2) (v := .ref q1) (ty := .array .int) (C := RX2) (T := TX2) (N := 20) hx hb hts (fun w h => List.mem_cons_of_mem _ (ziX2 w h)) tyX2 tyX2_ok nmX2 hown hK hP hD hS 0 rfl rfl 10 (by decide) (ok _ m_89) (fun _ h9 => h9) rfl hin rfl (by decide +kernel) rfl rfl (Nat.le_of_ble_eq_true rfl) dX2_init_9 (fun H locs hP hD hS => ?_)
  have hP : va_P D vwCl ([(h0, .inr (2, [.int 0, .int 0, .int 0, .int 0, .int 0, .int 0, .int 0, .int 0, .int 0, .int 0, .ref q1, .null, .null, .null, .null, .null, .null, .null, .null, .null])), (q1, .inl (Y 0, 6, .inl fun _ => 0))]) H := hP
  have hD : va_D (zAs h0 s.heap.size) ([(h0, .inr (2, [.int 0, .int 0, .int 0, .int 0, .int 0, .int 0, .int 0, .int 0, .int 0, .int 0, .ref q1, .null, .null, .null, .null, .null, .null, .null, .null, .null])), (q1, .inl (Y 0, 6, .inl fun _ => 0))]) := hD
  refine lv_aload_n hx hb dX2_init_12 rfl (lv_at hl 0 rfl) ?_
  refine lv_iconst (v := 4) hx hb dX2_init_13 (by decide) ?_
  refine va_newa (atype := .int) (ty := .int) (a0 := (4, .inl fun _ => 0)) (N' := 4) hx hb (ok _ m_153) rfl hK hP hD hS hA (fun _ => rfl) (by decide) (by decide) (Nat.le_of_ble_eq_true rfl) (Nat.le_of_ble_eq_true rfl) (Nat.le_of_ble_eq_true rfl) dX2_init_14 (fun q2 cA H hK1 hP hD hS => ?_)
  obtain rfl := (zY_of hK).1 hK1
  have hP : va_P D vwCl ([(h0, .inr (2, [.int 0, .int 0, .int 0, .int 0, .int 0, .int 0, .int 0, .int 0, .int 0, .int 0, .ref q1, .null, .null, .null, .null, .null, .null, .null, .null, .null])), (q1, .inl (Y 0, 6, .inl fun _ => 0)), (q2, .inl (Y 0, 4, .inl fun _ => 0))]) H := hP
  have hD : va_D (zAs h0 s.heap.size) ([(h0, .inr (2, [.int 0, .int 0, .int 0, .int 0, .int 0, .int 0, .int 0, .int 0, .int 0, .int 0, .ref q1, .null, .null, .null, .null, .null, .null, .null, .null, .null])), (q1, .inl (Y 0, 6, .inl fun _ => 0)), (q2, .inl (Y 0, 4, .inl fun _ => 0))]) := hD
  refine va_putF (D := D) (ci := 2) (v := .ref q2) (ty := .array .int) (C := RX2) (T := TX2) (N := 20) hx hb hts (fun w h => List.mem_cons_of_mem _ (ziX2 w h)) tyX2 tyX2_ok nmX2 hown hK hP hD hS 0 rfl rfl 11 (by decide) (ok _ m_92) (fun _ h9 => h9) rfl hin rfl (by decide +kernel) rfl rfl (Nat.le_of_ble_eq_true rfl) dX2_init_16 (fun H locs hP hD hS => ?_)
  have hP : va_P D vwCl ([(h0, .inr (2, [.int 0, .int 0, .int 0, .int 0, .int 0, .int 0, .int 0, .int 0, .int 0, .int 0, .ref q1, .ref q2, .null, .null, .null, .null, .null, .null, .null, .null])), (q1, .inl (Y 0, 6, .inl fun _ => 0)), (q2, .inl (Y 0, 4, .inl fun _ => 0))]) H := hP
  have hD : va_D (zAs h0 s.heap.size) ([(h0, .inr (2, [.int 0, .int 0, .int 0, .int 0, .int 0, .int 0, .int 0, .int 0, .int 0, .int 0, .ref q1, .ref q2, .null, .null, .null, .null, .null, .null, .null, .null])), (q1, .inl (Y 0, 6, .inl fun _ => 0)), (q2, .inl (Y 0, 4, .inl fun _ => 0))]) := hD
  refine lv_aload_n hx hb dX2_init_19 rfl (lv_at hl 0 rfl) ?_
  refine lv_bipush (v := 10) hx hb dX2_init_20 (by decide) ?_
  refine va_newa (atype := .int) (ty := .int) (a0 := (10, .inl fun _ => 0)) (N' := 10) hx hb (ok _ m_153) rfl hK hP hD hS hA (fun _ => rfl) (by decide) (by decide) (Nat.le_of_ble_eq_true rfl) (Nat.le_of_ble_eq_true rfl) (Nat.le_of_ble_eq_true rfl) dX2_init_22 (fun q3 cA H hK1 hP hD hS => ?_)
  obtain rfl := (zY_of hK).1 hK1
  have hP : va_P D vwCl ([(h0, .inr (2, [.int 0, .int 0, .int 0, .int 0, .int 0, .int 0, .int 0, .int 0, .int 0, .int 0, .ref q1, .ref q2, .null, .null, .null, .null, .null, .null, .null, .null])), (q1, .inl (Y 0, 6, .inl fun _ => 0)), (q2, .inl (Y 0, 4, .inl fun _ => 0)), (q3, .inl (Y 0, 10, .inl fun _ => 0))]) H := hP
  have hD : va_D (zAs h0 s.heap.size) ([(h0, .inr (2, [.int 0, .int 0, .int 0, .int 0, .int 0, .int 0, .int 0, .int 0, .int 0, .int 0, .ref q1, .ref q2, .null, .null, .null, .null, .null, .null, .null, .null])), (q1, .inl (Y 0, 6, .inl fun _ => 0)), (q2, .inl (Y 0, 4, .inl fun _ => 0)), (q3, .inl (Y 0, 10, .inl fun _ => 0))]) := hD
  refine va_putF (D := D) (ci := 2) (v := .ref q3) (ty := .array .int) (C := RX2) (T := TX2) (N := 20) hx hb hts (fun w h => List.mem_cons_of_mem _ (ziX2 w h)) tyX2 tyX2_ok nmX2 hown hK hP hD hS 0 rfl rfl 12 (by decide) (ok _ m_94) (fun _ h9 => h9) rfl hin rfl (by decide +kernel) rfl rfl (Nat.le_of_ble_eq_true rfl) dX2_init_24 (fun H locs hP hD hS => ?_)
  have hP : va_P D vwCl ([(h0, .inr (2, [.int 0, .int 0, .int 0, .int 0, .int 0, .int 0, .int 0, .int 0, .int 0, .int 0, .ref q1, .ref q2, .ref q3, .null, .null, .null, .null, .null, .null, .null])), (q1, .inl (Y 0, 6, .inl fun _ => 0)), (q2, .inl (Y 0, 4, .inl fun _ => 0)), (q3, .inl (Y 0, 10, .inl fun _ => 0))]) H := hP
  have hD : va_D (zAs h0 s.heap.size) ([(h0, .inr (2, [.int 0, .int 0, .int 0, .int 0, .int 0, .int 0, .int 0, .int 0, .int 0, .int 0, .ref q1, .ref q2, .ref q3, .null, .null, .null, .null, .null, .null, .null])), (q1, .inl (Y 0, 6, .inl fun _ => 0)), (q2, .inl (Y 0, 4, .inl fun _ => 0)), (q3, .inl (Y 0, 10, .inl fun _ => 0))]) := hD
  refine lv_aload_n hx hb dX2_init_27 rfl (lv_at hl 0 rfl) ?_
  refine lv_bipush (v := 10) hx hb dX2_init_28 (by decide) ?_
  refine va_newa (atype := .int) (ty := .int) (a0 := (10, .inl fun _ => 0)) (N' := 10) hx hb (ok _ m_153) rfl hK hP hD hS hA (fun _ => rfl) (by decide) (by decide) (Nat.le_of_ble_eq_true rfl) (Nat.le_of_ble_eq_true rfl) (Nat.le_of_ble_eq_true rfl) dX2_init_30 (fun q4 cA H hK1 hP hD hS => ?_)
  obtain rfl := (zY_of hK).1 hK1
  have hP : va_P D vwCl ([(h0, .inr (2, [.int 0, .int 0, .int 0, .int 0, .int 0, .int 0, .int 0, .int 0, .int 0, .int 0, .ref q1, .ref q2, .ref q3, .null, .null, .null, .null, .null, .null, .null])), (q1, .inl (Y 0, 6, .inl fun _ => 0)), (q2, .inl (Y 0, 4, .inl fun _ => 0)), (q3, .inl (Y 0, 10, .inl fun _ => 0)), (q4, .inl (Y 0, 10, .inl fun _ => 0))]) H := hP
  have hD : va_D (zAs h0 s.heap.size) ([(h0, .inr (2, [.int 0, .int 0, .int 0, .int 0, .int 0, .int 0, .int 0, .int 0, .int 0, .int 0, .ref q1, .ref q2, .ref q3, .null, .null, .null, .null, .null, .null, .null])), (q1, .inl (Y 0, 6, .inl fun _ => 0)), (q2, .inl (Y 0, 4, .inl fun _ => 0)), (q3, .inl (Y 0, 10, .inl fun _ => 0)), (q4, .inl (Y 0, 10, .inl fun _ => 0))]) := hD
  refine va_putF (D := D) (ci := 2) (v := .ref q4) (ty := .array .int) (C := RX2) (T := TX2) (N := 20) hx hb hts (fun w h => List.mem_cons_of_mem _ (ziX2 w h)) tyX2 tyX2_ok nmX2 hown hK hP hD hS 0 rfl rfl 13 (by decide) (ok _ m_95) (fun _ h9 => h9) rfl hin rfl (by decide +kernel) rfl rfl (Nat.le_of_ble_eq_true rfl) dX2_init_32 (fun H locs hP hD hS => ?_)
  have hP : va_P D vwCl ([(h0, .inr (2, [.int 0, .int 0, .int 0, .int 0, .int 0, .int 0, .int 0, .int 0, .int 0, .int 0, .ref q1, .ref q2, .ref q3, .ref q4, .null, .null, .null, .null, .null, .null])), (q1, .inl (Y 0, 6, .inl fun _ => 0)), (q2, .inl (Y 0, 4, .inl fun _ => 0)), (q3, .inl (Y 0, 10, .inl fun _ => 0)), (q4, .inl (Y 0, 10, .inl fun _ => 0))]) H := hP
  have hD : va_D (zAs h0 s.heap.size) ([(h0, .inr (2, [.int 0, .int 0, .int 0, .int 0, .int 0, .int 0, .int 0, .int 0, .int 0, .int 0, .ref q1, .ref q2, .ref q3, .ref q4, .null, .null, .null, .null, .null, .null])), (q1, .inl (Y 0, 6, .inl fun _ => 0)), (q2, .inl (Y 0, 4, .inl fun _ => 0)), (q3, .inl (Y 0, 10, .inl fun _ => 0)), (q4, .inl (Y 0, 10, .inl fun _ => 0))]) := hD
  refine lv_aload_n hx hb dX2_init_35 rfl (lv_at hl 0 rfl) ?_
  refine lv_bipush (v := 10) hx hb dX2_init_36 (by decide) ?_
  refine va_newa (atype := .int) (ty := .int) (a0 := (10, .inl fun _ => 0)) (N' := 10) hx hb (ok _ m_153) rfl hK hP hD hS hA (fun _ => rfl) (by decide) (by decide) (Nat.le_of_ble_eq_true rfl) (Nat.le_of_ble_eq_true rfl) (Nat.le_of_ble_eq_true rfl) dX2_init_38 (fun q5 cA H hK1 hP hD hS => ?_)
  obtain rfl := (zY_of hK).1 hK1
  have hP : va_P D vwCl ([(h0, .inr (2, [.int 0, .int 0, .int 0, .int 0, .int 0, .int 0, .int 0, .int 0, .int 0, .int 0, .ref q1, .ref q2, .ref q3, .ref q4, .null, .null, .null, .null, .null, .null])), (q1, .inl (Y 0, 6, .inl fun _ => 0)), (q2, .inl (Y 0, 4, .inl fun _ => 0)), (q3, .inl (Y 0, 10, .inl fun _ => 0)), (q4, .inl (Y 0, 10, .inl fun _ => 0)), (q5, .inl (Y 0, 10, .inl fun _ => 0))]) H := hP
  have hD : va_D (zAs h0 s.heap.size) ([(h0, .inr (2, [.int 0, .int 0, .int 0, .int 0, .int 0, .int 0, .int 0, .int 0, .int 0, .int 0, .ref q1, .ref q2, .ref q3, .ref q4, .null, .null, .null, .null, .null, .null])), (q1, .inl (Y 0, 6, .inl fun _ => 0)), (q2, .inl (Y 0, 4, .inl fun _ => 0)), (q3, .inl (Y 0, 10, .inl fun _ => 0)), (q4, .inl (Y 0, 10, .inl fun _ => 0)), (q5, .inl (Y 0, 10, .inl fun _ => 0))]) := hD
  refine va_putF (D := D) (ci := 2) (v := .ref q5) (ty := .array .int) (C := RX2) (T := TX2) (N := 20) hx hb hts (fun w h => List.mem_cons_of_mem _ (ziX2 w h)) tyX2 tyX2_ok nmX2 hown hK hP hD hS 0 rfl rfl 14 (by decide) (ok _ m_97) (fun _ h9 => h9) rfl hin rfl (by decide +kernel) rfl rfl (Nat.le_of_ble_eq_true rfl) dX2_init_40 (fun H locs hP hD hS => ?_)
  have hP : va_P D vwCl ([(h0, .inr (2, [.int 0, .int 0, .int 0, .int 0, .int 0, .int 0, .int 0, .int 0, .int 0, .int 0, .ref q1, .ref q2, .ref q3, .ref q4, .ref q5, .null, .null, .null, .null, .null])), (q1, .inl (Y 0, 6, .inl fun _ => 0)), (q2, .inl (Y 0, 4, .inl fun _ => 0)), (q3, .inl (Y 0, 10, .inl fun _ => 0)), (q4, .inl (Y 0, 10, .inl fun _ => 0)), (q5, .inl (Y 0, 10, .inl fun _ => 0))]) H := hP
  have hD : va_D (zAs h0 s.heap.size) ([(h0, .inr (2, [.int 0, .int 0, .int 0, .int 0, .int 0, .int 0, .int 0, .int 0, .int 0, .int 0, .ref q1, .ref q2, .ref q3, .ref q4, .ref q5, .null, .null, .null, .null, .null])), (q1, .inl (Y 0, 6, .inl fun _ => 0)), (q2, .inl (Y 0, 4, .inl fun _ => 0)), (q3, .inl (Y 0, 10, .inl fun _ => 0)), (q4, .inl (Y 0, 10, .inl fun _ => 0)), (q5, .inl (Y 0, 10, .inl fun _ => 0))]) := hD
  refine lv_aload_n hx hb dX2_init_43 rfl (lv_at hl 0 rfl) ?_
  refine lv_bipush (v := 10) hx hb dX2_init_44 (by decide) ?_
  refine va_newa (atype := .int) (ty := .int) (a0 := (10, .inl fun _ => 0)) (N' := 10) hx hb (ok _ m_153) rfl hK hP hD hS hA (fun _ => rfl) (by decide) (by decide) (Nat.le_of_ble_eq_true rfl) (Nat.le_of_ble_eq_true rfl) (Nat.le_of_ble_eq_true rfl) dX2_init_46 (fun q6 cA H hK1 hP hD hS => ?_)
  obtain rfl := (zY_of hK).1 hK1
  have hP : va_P D vwCl ([(h0, .inr (2, [.int 0, .int 0, .int 0, .int 0, .int 0, .int 0, .int 0, .int 0, .int 0, .int 0, .ref q1, .ref q2, .ref q3, .ref q4, .ref q5, .null, .null, .null, .null, .null])), (q1, .inl (Y 0, 6, .inl fun _ => 0)), (q2, .inl (Y 0, 4, .inl fun _ => 0)), (q3, .inl (Y 0, 10, .inl fun _ => 0)), (q4, .inl (Y 0, 10, .inl fun _ => 0)), (q5, .inl (Y 0, 10, .inl fun _ => 0)), (q6, .inl (Y 0, 10, .inl fun _ => 0))]) H := hP
  have hD : va_D (zAs h0 s.heap.size) ([(h0, .inr (2, [.int 0, .int 0, .int 0, .int 0, .int 0, .int 0, .int 0, .int 0, .int 0, .int 0, .ref q1, .ref q2, .ref q3, .ref q4, .ref q5, .null, .null, .null, .null, .null])), (q1, .inl (Y 0, 6, .inl fun _ => 0)), (q2, .inl (Y 0, 4, .inl fun _ => 0)), (q3, .inl (Y 0, 10, .inl fun _ => 0)), (q4, .inl (Y 0, 10, .inl fun _ => 0)), (q5, .inl (Y 0, 10, .inl fun _ => 0)), (q6, .inl (Y 0, 10, .inl fun _ => 0))]) := hD
  refine va_putF (D := D) (ci := 2) (v := .ref q6) (ty := .array .int) (C := RX2) (T := TX2) (N := 20) hx hb hts (fun w h => List.mem_cons_of_mem _ (ziX2 w h)) tyX2 tyX2_ok nmX2 hown hK hP hD hS 0 rfl rfl 15 (by decide) (ok _ m_99) (fun _ h9 => h9) rfl hin rfl (by decide +kernel) rfl rfl (Nat.le_of_ble_eq_true rfl) dX2_init_48 (fun H locs hP hD hS => ?_)
  have hP : va_P D vwCl ([(h0, .inr (2, [.int 0, .int 0, .int 0, .int 0, .int 0, .int 0, .int 0, .int 0, .int 0, .int 0, .ref q1, .ref q2, .ref q3, .ref q4, .ref q5, .ref q6, .null, .null, .null, .null])), (q1, .inl (Y 0, 6, .inl fun _ => 0)), (q2, .inl (Y 0, 4, .inl fun _ => 0)), (q3, .inl (Y 0, 10, .inl fun _ => 0)), (q4, .inl (Y 0, 10, .inl fun _ => 0)), (q5, .inl (Y 0, 10, .inl fun _ => 0)), (q6, .inl (Y 0, 10, .inl fun _ => 0))]) H := hP
  have hD : va_D (zAs h0 s.heap.size) ([(h0, .inr (2, [.int 0, .int 0, .int 0, .int 0, .int 0, .int 0, .int 0, .int 0, .int 0, .int 0, .ref q1, .ref q2, .ref q3, .ref q4, .ref q5, .ref q6, .null, .null, .null, .null])), (q1, .inl (Y 0, 6, .inl fun _ => 0)), (q2, .inl (Y 0, 4, .inl fun _ => 0)), (q3, .inl (Y 0, 10, .inl fun _ => 0)), (q4, .inl (Y 0, 10, .inl fun _ => 0)), (q5, .inl (Y 0, 10, .inl fun _ => 0)), (q6, .inl (Y 0, 10, .inl fun _ => 0))]) := hD
  refine lv_aload_n hx hb dX2_init_51 rfl (lv_at hl 0 rfl) ?_
  refine lv_bipush (v := 10) hx hb dX2_init_52 (by decide) ?_
  refine va_newa (atype := .int) (ty := .int) (a0 := (10, .inl fun _ => 0)) (N' := 10) hx hb (ok _ m_153) rfl hK hP hD hS hA (fun _ => rfl) (by decide) (by decide) (Nat.le_of_ble_eq_true rfl) (Nat.le_of_ble_eq_true rfl) (Nat.le_of_ble_eq_true rfl) dX2_init_54 (fun q7 cA H hK1 hP hD hS => ?_)
  obtain rfl := (zY_of hK).1 hK1
  have hP : va_P D vwCl ([(h0, .inr (2, [.int 0, .int 0, .int 0, .int 0, .int 0, .int 0, .int 0, .int 0, .int 0, .int 0, .ref q1, .ref q2, .ref q3, .ref q4, .ref q5, .ref q6, .null, .null, .null, .null])), (q1, .inl (Y 0, 6, .inl fun _ => 0)), (q2, .inl (Y 0, 4, .inl fun _ => 0)), (q3, .inl (Y 0, 10, .inl fun _ => 0)), (q4, .inl (Y 0, 10, .inl fun _ => 0)), (q5, .inl (Y 0, 10, .inl fun _ => 0)), (q6, .inl (Y 0, 10, .inl fun _ => 0)), (q7, .inl (Y 0, 10, .inl fun _ => 0))]) H := hP
  have hD : va_D (zAs h0 s.heap.size) ([(h0, .inr (2, [.int 0, .int 0, .int 0, .int 0, .int 0, .int 0, .int 0, .int 0, .int 0, .int 0, .ref q1, .ref q2, .ref q3, .ref q4, .ref q5, .ref q6, .null, .null, .null, .null])), (q1, .inl (Y 0, 6, .inl fun _ => 0)), (q2, .inl (Y 0, 4, .inl fun _ => 0)), (q3, .inl (Y 0, 10, .inl fun _ => 0)), (q4, .inl (Y 0, 10, .inl fun _ => 0)), (q5, .inl (Y 0, 10, .inl fun _ => 0)), (q6, .inl (Y 0, 10, .inl fun _ => 0)), (q7, .inl (Y 0, 10, .inl fun _ => 0))]) := hD
  refine va_putF (D := D) (ci := 2) (v := .ref q7) (ty := .array .int) (C := RX2) (T := TX2) (N := 20) hx hb hts (fun w h => List.mem_cons_of_mem _ (ziX2 w h)) tyX2 tyX2_ok nmX2 hown hK hP hD hS 0 rfl rfl 16 (by decide) (ok _ m_101) (fun _ h9 => h9) rfl hin rfl (by decide +kernel) rfl rfl (Nat.le_of_ble_eq_true rfl) dX2_init_56 (fun H locs hP hD hS => ?_)
  have hP : va_P D vwCl ([(h0, .inr (2, [.int 0, .int 0, .int 0, .int 0, .int 0, .int 0, .int 0, .int 0, .int 0, .int 0, .ref q1, .ref q2, .ref q3, .ref q4, .ref q5, .ref q6, .ref q7, .null, .null, .null])), (q1, .inl (Y 0, 6, .inl fun _ => 0)), (q2, .inl (Y 0, 4, .inl fun _ => 0)), (q3, .inl (Y 0, 10, .inl fun _ => 0)), (q4, .inl (Y 0, 10, .inl fun _ => 0)), (q5, .inl (Y 0, 10, .inl fun _ => 0)), (q6, .inl (Y 0, 10, .inl fun _ => 0)), (q7, .inl (Y 0, 10, .inl fun _ => 0))]) H := hP
  have hD : va_D (zAs h0 s.heap.size) ([(h0, .inr (2, [.int 0, .int 0, .int 0, .int 0, .int 0, .int 0, .int 0, .int 0, .int 0, .int 0, .ref q1, .ref q2, .ref q3, .ref q4, .ref q5, .ref q6, .ref q7, .null, .null, .null])), (q1, .inl (Y 0, 6, .inl fun _ => 0)), (q2, .inl (Y 0, 4, .inl fun _ => 0)), (q3, .inl (Y 0, 10, .inl fun _ => 0)), (q4, .inl (Y 0, 10, .inl fun _ => 0)), (q5, .inl (Y 0, 10, .inl fun _ => 0)), (q6, .inl (Y 0, 10, .inl fun _ => 0)), (q7, .inl (Y 0, 10, .inl fun _ => 0))]) := hD
  refine lv_aload_n hx hb dX2_init_59 rfl (lv_at hl 0 rfl) ?_
  refine lv_bipush (v := 10) hx hb dX2_init_60 (by decide) ?_
  refine va_newa (atype := .int) (ty := .int) (a0 := (10, .inl fun _ => 0)) (N' := 10) hx hb (ok _ m_153) rfl hK hP hD hS hA (fun _ => rfl) (by decide) (by decide) (Nat.le_of_ble_eq_true rfl) (Nat.le_of_ble_eq_true rfl) (Nat.le_of_ble_eq_true rfl) dX2_init_62 (fun q8 cA H hK1 hP hD hS => ?_)
  obtain rfl := (zY_of hK).1 hK1
  have hP : va_P D vwCl ([(h0, .inr (2, [.int 0, .int 0, .int 0, .int 0, .int 0, .int 0, .int 0, .int 0, .int 0, .int 0, .ref q1, .ref q2, .ref q3, .ref q4, .ref q5, .ref q6, .ref q7, .null, .null, .null])), (q1, .inl (Y 0, 6, .inl fun _ => 0)), (q2, .inl (Y 0, 4, .inl fun _ => 0)), (q3, .inl (Y 0, 10, .inl fun _ => 0)), (q4, .inl (Y 0, 10, .inl fun _ => 0)), (q5, .inl (Y 0, 10, .inl fun _ => 0)), (q6, .inl (Y 0, 10, .inl fun _ => 0)), (q7, .inl (Y 0, 10, .inl fun _ => 0)), (q8, .inl (Y 0, 10, .inl fun _ => 0))]) H := hP
  have hD : va_D (zAs h0 s.heap.size) ([(h0, .inr (2, [.int 0, .int 0, .int 0, .int 0, .int 0, .int 0, .int 0, .int 0, .int 0, .int 0, .ref q1, .ref q2, .ref q3, .ref q4, .ref q5, .ref q6, .ref q7, .null, .null, .null])), (q1, .inl (Y 0, 6, .inl fun _ => 0)), (q2, .inl (Y 0, 4, .inl fun _ => 0)), (q3, .inl (Y 0, 10, .inl fun _ => 0)), (q4, .inl (Y 0, 10, .inl fun _ => 0)), (q5, .inl (Y 0, 10, .inl fun _ => 0)), (q6, .inl (Y 0, 10, .inl fun _ => 0)), (q7, .inl (Y 0, 10, .inl fun _ => 0)), (q8, .inl (Y 0, 10, .inl fun _ => 0))]) := hD
  refine va_putF (D := D) (ci := 2) (v := .ref q8) (ty := .array .int) (C := RX2) (T := TX2) (N := 20) hx hb hts (fun w h => List.mem_cons_of_mem _ (ziX2 w h)) tyX2 tyX2_ok nmX2 hown hK hP hD hS 0 rfl rfl 17 (by decide) (ok _ m_104) (fun _ h9 => h9) rfl hin rfl (by decide +kernel) rfl rfl (Nat.le_of_ble_eq_true rfl) dX2_init_64 (fun H locs hP hD hS => ?_)
  have hP : va_P D vwCl ([(h0, .inr (2, [.int 0, .int 0, .int 0, .int 0, .int 0, .int 0, .int 0, .int 0, .int 0, .int 0, .ref q1, .ref q2, .ref q3, .ref q4, .ref q5, .ref q6, .ref q7, .ref q8, .null, .null])), (q1, .inl (Y 0, 6, .inl fun _ => 0)), (q2, .inl (Y 0, 4, .inl fun _ => 0)), (q3, .inl (Y 0, 10, .inl fun _ => 0)), (q4, .inl (Y 0, 10, .inl fun _ => 0)), (q5, .inl (Y 0, 10, .inl fun _ => 0)), (q6, .inl (Y 0, 10, .inl fun _ => 0)), (q7, .inl (Y 0, 10, .inl fun _ => 0)), (q8, .inl (Y 0, 10, .inl fun _ => 0))]) H := hP
  have hD : va_D (zAs h0 s.heap.size) ([(h0, .inr (2, [.int 0, .int 0, .int 0, .int 0, .int 0, .int 0, .int 0, .int 0, .int 0, .int 0, .ref q1, .ref q2, .ref q3, .ref q4, .ref q5, .ref q6, .ref q7, .ref q8, .null, .null])), (q1, .inl (Y 0, 6, .inl fun _ => 0)), (q2, .inl (Y 0, 4, .inl fun _ => 0)), (q3, .inl (Y 0, 10, .inl fun _ => 0)), (q4, .inl (Y 0, 10, .inl fun _ => 0)), (q5, .inl (Y 0, 10, .inl fun _ => 0)), (q6, .inl (Y 0, 10, .inl fun _ => 0)), (q7, .inl (Y 0, 10, .inl fun _ => 0)), (q8, .inl (Y 0, 10, .inl fun _ => 0))]) := hD
  refine lv_aload_n hx hb dX2_init_67 rfl (lv_at hl 0 rfl) ?_
  refine lv_bipush (v := 10) hx hb dX2_init_68 (by decide) ?_
  refine va_newa (atype := .int) (ty := .int) (a0 := (10, .inl fun _ => 0)) (N' := 10) hx hb (ok _ m_153) rfl hK hP hD hS hA (fun _ => rfl) (by decide) (by decide) (Nat.le_of_ble_eq_true rfl) (Nat.le_of_ble_eq_true rfl) (Nat.le_of_ble_eq_true rfl) dX2_init_70 (fun q9 cA H hK1 hP hD hS => ?_)
  obtain rfl := (zY_of hK).1 hK1
  have hP : va_P D vwCl ([(h0, .inr (2, [.int 0, .int 0, .int 0, .int 0, .int 0, .int 0, .int 0, .int 0, .int 0, .int 0, .ref q1, .ref q2, .ref q3, .ref q4, .ref q5, .ref q6, .ref q7, .ref q8, .null, .null])), (q1, .inl (Y 0, 6, .inl fun _ => 0)), (q2, .inl (Y 0, 4, .inl fun _ => 0)), (q3, .inl (Y 0, 10, .inl fun _ => 0)), (q4, .inl (Y 0, 10, .inl fun _ => 0)), (q5, .inl (Y 0, 10, .inl fun _ => 0)), (q6, .inl (Y 0, 10, .inl fun _ => 0)), (q7, .inl (Y 0, 10, .inl fun _ => 0)), (q8, .inl (Y 0, 10, .inl fun _ => 0)), (q9, .inl (Y 0, 10, .inl fun _ => 0))]) H := hP
  have hD : va_D (zAs h0 s.heap.size) ([(h0, .inr (2, [.int 0, .int 0, .int 0, .int 0, .int 0, .int 0, .int 0, .int 0, .int 0, .int 0, .ref q1, .ref q2, .ref q3, .ref q4, .ref q5, .ref q6, .ref q7, .ref q8, .null, .null])), (q1, .inl (Y 0, 6, .inl fun _ => 0)), (q2, .inl (Y 0, 4, .inl fun _ => 0)), (q3, .inl (Y 0, 10, .inl fun _ => 0)), (q4, .inl (Y 0, 10, .inl fun _ => 0)), (q5, .inl (Y 0, 10, .inl fun _ => 0)), (q6, .inl (Y 0, 10, .inl fun _ => 0)), (q7, .inl (Y 0, 10, .inl fun _ => 0)), (q8, .inl (Y 0, 10, .inl fun _ => 0)), (q9, .inl (Y 0, 10, .inl fun _ => 0))]) := hD
  refine va_putF (D := D) (ci := 2) (v := .ref q9) (ty := .array .int) (C := RX2) (T := TX2) (N := 20) hx hb hts (fun w h => List.mem_cons_of_mem _ (ziX2 w h)) tyX2 tyX2_ok nmX2 hown hK hP hD hS 0 rfl rfl 18 (by decide) (ok _ m_107) (fun _ h9 => h9) rfl hin rfl (by decide +kernel) rfl rfl (Nat.le_of_ble_eq_true rfl) dX2_init_72 (fun H locs hP hD hS => ?_)
  have hP : va_P D vwCl ([(h0, .inr (2, [.int 0, .int 0, .int 0, .int 0, .int 0, .int 0, .int 0, .int 0, .int 0, .int 0, .ref q1, .ref q2, .ref q3, .ref q4, .ref q5, .ref q6, .ref q7, .ref q8, .ref q9, .null])), (q1, .inl (Y 0, 6, .inl fun _ => 0)), (q2, .inl (Y 0, 4, .inl fun _ => 0)), (q3, .inl (Y 0, 10, .inl fun _ => 0)), (q4, .inl (Y 0, 10, .inl fun _ => 0)), (q5, .inl (Y 0, 10, .inl fun _ => 0)), (q6, .inl (Y 0, 10, .inl fun _ => 0)), (q7, .inl (Y 0, 10, .inl fun _ => 0)), (q8, .inl (Y 0, 10, .inl fun _ => 0)), (q9, .inl (Y 0, 10, .inl fun _ => 0))]) H := hP
  have hD : va_D (zAs h0 s.heap.size) ([(h0, .inr (2, [.int 0, .int 0, .int 0, .int 0, .int 0, .int 0, .int 0, .int 0, .int 0, .int 0, .ref q1, .ref q2, .ref q3, .ref q4, .ref q5, .ref q6, .ref q7, .ref q8, .ref q9, .null])), (q1, .inl (Y 0, 6, .inl fun _ => 0)), (q2, .inl (Y 0, 4, .inl fun _ => 0)), (q3, .inl (Y 0, 10, .inl fun _ => 0)), (q4, .inl (Y 0, 10, .inl fun _ => 0)), (q5, .inl (Y 0, 10, .inl fun _ => 0)), (q6, .inl (Y 0, 10, .inl fun _ => 0)), (q7, .inl (Y 0, 10, .inl fun _ => 0)), (q8, .inl (Y 0, 10, .inl fun _ => 0)), (q9, .inl (Y 0, 10, .inl fun _ => 0))]) := hD
  refine lv_aload_n hx hb dX2_init_75 rfl (lv_at hl 0 rfl) ?_
  refine lv_bipush (v := 10) hx hb dX2_init_76 (by decide) ?_
  refine va_newa (atype := .int) (ty := .int) (a0 := (10, .inl fun _ => 0)) (N' := 10) hx hb (ok _ m_153) rfl hK hP hD hS hA (fun _ => rfl) (by decide) (by decide) (Nat.le_of_ble_eq_true rfl) (Nat.le_of_ble_eq_true rfl) (Nat.le_of_ble_eq_true rfl) dX2_init_78 (fun q10 cA H hK1 hP hD hS => ?_)
  obtain rfl := (zY_of hK).1 hK1
  have hP : va_P D vwCl ([(h0, .inr (2, [.int 0, .int 0, .int 0, .int 0, .int 0, .int 0, .int 0, .int 0, .int 0, .int 0, .ref q1, .ref q2, .ref q3, .ref q4, .ref q5, .ref q6, .ref q7, .ref q8, .ref q9, .null])), (q1, .inl (Y 0, 6, .inl fun _ => 0)), (q2, .inl (Y 0, 4, .inl fun _ => 0)), (q3, .inl (Y 0, 10, .inl fun _ => 0)), (q4, .inl (Y 0, 10, .inl fun _ => 0)), (q5, .inl (Y 0, 10, .inl fun _ => 0)), (q6, .inl (Y 0, 10, .inl fun _ => 0)), (q7, .inl (Y 0, 10, .inl fun _ => 0)), (q8, .inl (Y 0, 10, .inl fun _ => 0)), (q9, .inl (Y 0, 10, .inl fun _ => 0)), (q10, .inl (Y 0, 10, .inl fun _ => 0))]) H := hP
  have hD : va_D (zAs h0 s.heap.size) ([(h0, .inr (2, [.int 0, .int 0, .int 0, .int 0, .int 0, .int 0, .int 0, .int 0, .int 0, .int 0, .ref q1, .ref q2, .ref q3, .ref q4, .ref q5, .ref q6, .ref q7, .ref q8, .ref q9, .null])), (q1, .inl (Y 0, 6, .inl fun _ => 0)), (q2, .inl (Y 0, 4, .inl fun _ => 0)), (q3, .inl (Y 0, 10, .inl fun _ => 0)), (q4, .inl (Y 0, 10, .inl fun _ => 0)), (q5, .inl (Y 0, 10, .inl fun _ => 0)), (q6, .inl (Y 0, 10, .inl fun _ => 0)), (q7, .inl (Y 0, 10, .inl fun _ => 0)), (q8, .inl (Y 0, 10, .inl fun _ => 0)), (q9, .inl (Y 0, 10, .inl fun _ => 0)), (q10, .inl (Y 0, 10, .inl fun _ => 0))]) := hD
  refine va_putF (D := D) (ci := 2) (v := .ref q10) (ty := .array .int) (C := RX2) (T := TX2) (N := 20) hx hb hts (fun w h => List.mem_cons_of_mem _ (ziX2 w h)) tyX2 tyX2_ok nmX2 hown hK hP hD hS 0 rfl rfl 19 (by decide) (ok _ m_109) (fun _ h9 => h9) rfl hin rfl (by decide +kernel) rfl rfl (Nat.le_of_ble_eq_true rfl) dX2_init_80 (fun H locs hP hD hS => ?_)
  have hP : va_P D vwCl ([(h0, .inr (2, [.int 0, .int 0, .int 0, .int 0, .int 0, .int 0, .int 0, .int 0, .int 0, .int 0, .ref q1, .ref q2, .ref q3, .ref q4, .ref q5, .ref q6, .ref q7, .ref q8, .ref q9, .ref q10])), (q1, .inl (Y 0, 6, .inl fun _ => 0)), (q2, .inl (Y 0, 4, .inl fun _ => 0)), (q3, .inl (Y 0, 10, .inl fun _ => 0)), (q4, .inl (Y 0, 10, .inl fun _ => 0)), (q5, .inl (Y 0, 10, .inl fun _ => 0)), (q6, .inl (Y 0, 10, .inl fun _ => 0)), (q7, .inl (Y 0, 10, .inl fun _ => 0)), (q8, .inl (Y 0, 10, .inl fun _ => 0)), (q9, .inl (Y 0, 10, .inl fun _ => 0)), (q10, .inl (Y 0, 10, .inl fun _ => 0))]) H := hP
  have hD : va_D (zAs h0 s.heap.size) ([(h0, .inr (2, [.int 0, .int 0, .int 0, .int 0, .int 0, .int 0, .int 0, .int 0, .int 0, .int 0, .ref q1, .ref q2, .ref q3, .ref q4, .ref q5, .ref q6, .ref q7, .ref q8, .ref q9, .ref q10])), (q1, .inl (Y 0, 6, .inl fun _ => 0)), (q2, .inl (Y 0, 4, .inl fun _ => 0)), (q3, .inl (Y 0, 10, .inl fun _ => 0)), (q4, .inl (Y 0, 10, .inl fun _ => 0)), (q5, .inl (Y 0, 10, .inl fun _ => 0)), (q6, .inl (Y 0, 10, .inl fun _ => 0)), (q7, .inl (Y 0, 10, .inl fun _ => 0)), (q8, .inl (Y 0, 10, .inl fun _ => 0)), (q9, .inl (Y 0, 10, .inl fun _ => 0)), (q10, .inl (Y 0, 10, .inl fun _ => 0))]) := hD
  refine W.widen (k := 10) (n := 90) (Nat.le_of_ble_eq_true rfl) (Nat.le_of_ble_eq_true rfl) (vx_ret ?_)
  exact W.vret hx hb hr (fun t ht hW => ⟨⟨rfl, (fun j => [h0, q1, q2, q3, q4, q5, q6, q7, q8, q9, q10].getD j 0), by rw [ht]; exact hP, hD⟩, hS.F ht⟩) hS.2.2 dX2_init_83 hlocks
theorem z_newReg {p : Program} {l : Launch} {e : Env} {s : State} {m : MethodId} {args : Array Value} {below : List Frame} {meth : Method} {c : Code} {H : Heap} {locs : List Loc} {cells slots : Nat} {Q : State → Prop} {cc : ByteArray} {pc : Nat} {ls : Array Slot} {rest : List Value} {D : va_G} {Y : Nat → ClassId} {A : Nat → Prop} {c0 : Cond} {d mc ms nL : Nat} {ws : va_W} {own : String} {idx idx2 : Nat}
    (hx : p.tables.exec = Jvm.exec) (hb : c.code = cc) (hml : c.maxLocals = nL) (hown : s.vm.findClass own = some m.cls) (hts : ∀ w ∈ c0 :: zWS, w.before args s = true) (hK : va_K D vwCl (ztys Y) s) (hN : va_Nw (.methodLinkNest own idx2 yX2_init "InventedBirthdays") s) (hcl : Cond.classLink own idx RX2 ∈ zWS) (hsz : ls.size = nL) (hP : va_P D vwCl ws H) (hD : va_D A ws) (hS : va_S A s.heap H locs) (hA : ∀ q, s.heap.size ≤ q → A q) (hd : 2 ≤ d) (h1 : cells + 11 ≤ mc) (h2 : slots + 110 ≤ ms) (hrest : (rest.map fun v => v.category).sum + 1 ≤ 8) (d0 : decode cc pc = .ok (.new idx, 3)) (d3 : decode cc (pc + 3) = .ok (.dup, 1)) (d4 : decode cc (pc + 4) = .ok (.invokespecial idx2, 3))
    (kk : ∀ (q : Nat) (u : Nat → Nat) (H1 : Heap) (locs1 : List Loc), va_P D vwCl (ws ++ zrl Y (zgf q u)) H1 → va_D A (ws ++ zrl Y (zgf q u)) → va_S A s.heap H1 locs1 → W p l e (zR d mc ms) s m args below meth c H1 locs1 (cells + 11) (slots + 110) Q (F0 m (pc + 7) ls (.ref q :: rest))) : W p l e (zR d mc ms) s m args below meth c H locs cells slots Q (F0 m pc ls rest) := by
  obtain ⟨k1, k2, k3, k4, k5, k6, k7⟩ := ki_X2_init
  have ok : ∀ w ∈ zWS, w.before args s = true := fun w h => hts w (List.mem_cons_of_mem _ h)
  refine z_newObj (ci := 2) (fs := zbl2) (mc' := 10) (ms' := 90) (N := 20) (fun q u => zrl Y (zgf q u)) hx hb hown hts hK ziX2 tyX2_ok hcl m_62 m_32 rfl zbl2_ok hP hD hS hA (by show cells + 1 ≤ mc; omega) (by show slots + 20 ≤ ms; omega) d0 d3 (fun q H1 locs1 hS1 hq => ?_) kk
  refine vx_runIN (Ts := c0 :: zWS) (bytes := cX2_init) (maxL := 1) (n := 0) (As := []) (host := "InventedBirthdays") ⟨hx, hb, hml, hown, hts⟩ (c_X2_init l D Y q H1.size) ⟨⟨⟨rfl, rfl, hd, (by show 8 + (1 + 11) + 37 * 1 ≤ 37 * d; omega), z_pay hts k3, List.mem_cons_self⟩, ok _ k3, ok _ k2, k4, z_len k5, va_Nw.use rfl hN⟩, rfl, ok _ k1⟩
    ⟨fun a U g mk q => by
      obtain ⟨q0, ⟨q1, q2⟩, q3⟩ := q
      exact ⟨q0, ⟨va_K.moved (u := U) (U := U.calling g mk a) (Vm.Alike.refl U.vm) q1, q2⟩, q3⟩, fun U hU hW => ⟨rfl, ⟨va_K.moved hW.alike hK, fun k x hk => by
      match k, hk with
      | 0, hk => cases hk; rw [hU]; exact hq
      | k + 1, hk => simp at hk⟩, by rw [hU]⟩⟩ rfl rfl hsz rfl (by show 2 * 0 + (1 + (rest.map fun v => v.category).sum) ≤ 8; omega) d4 ⟨by show cells + 1 + 10 ≤ mc; omega, by show slots + 20 + 90 ≤ ms; omega⟩
def zbl1 : List Value := [.null, .int 0, .int 0, .int 0, .null, .int 0, .int 0, .int 0, .int 0]
/-- a new parser -/
def zpl (Y : Nat → ClassId) (h0 : Nat) (u : Nat × (Nat → Nat) × Nat) : va_W := [(h0, .inr (1, [.ref u.1, .int 0, .int 0, .int 0, .ref u.2.2, .int 0, .int 0, .int 0, .int 0])), (u.2.2, .inl (Y 1, 600, .inl fun _ => 0))] ++ zrl Y (zgf u.1 u.2.1)
set_option maxHeartbeats 4000000 in
set_option maxRecDepth 100000 in
theorem c_X1_init (l : Launch) (D : va_G) (Y : Nat → ClassId) (h0 sz : Nat) : zCI l yX1_init cX1_init 1 2 12 710 h0 sz (fun U => va_K D vwCl (ztys Y) U ∧ va_Nw (.methodLinkNest RX1 11 yX2_init "InventedBirthdays") U ∧ va_P D vwCl [(h0, .inr (1, zbl1))] U.heap) (fun H => ∃ u, va_P D vwCl (zpl Y h0 u) H ∧ va_D (zAs h0 sz) (zpl Y h0 u)) := by
  refine vx_ofW (cc := cX1_init) (maxL := 1) (ret := none) (by decide) rfl ?_
  intro p e s m args below meth c s₁ B hml hex hv
  obtain ⟨rfl, ⟨hK, hN, hP⟩, hsz⟩ := hv
  subst hsz
  have hx := B.exec
  have hb := B.bytes
  have hr := B.returns
  have hlocks := B.notSynchronized
  have hown : s.vm.findClass RX1 = some m.cls := findClass_of_methodNamed B.named
  have hin : meth.name = "<init>" := (name_of_methodNamed B.named B.method).1
  have hts := atoms_spec (ws := Cond.code yX1_init cX1_init 1 none :: zWS) B.pre
  have ok : ∀ w ∈ zWS, w.before _ s = true := fun w h => hts w (List.mem_cons_of_mem _ h)
  have hS : va_S (zAs h0 s.heap.size) s.heap s.heap [] := va_S.rf
  have hA : ∀ q, s.heap.size ≤ q → zAs h0 s.heap.size q := fun q h => Or.inr h
  have hl := lv_entry ([.ref h0]) (n := 1) (Nat.le_of_ble_eq_true rfl)
  rw [lg_entry_eq]
  generalize (lg_sl ([.ref h0]) ++ List.replicate (1 - (lg_sl ([.ref h0])).length) Slot.unset).toArray = ls at hl ⊢
  have hl : lv_has ls 1 [(0, .ref h0)] := hl
  have hD : va_D (zAs h0 s.heap.size) [(h0, .inr (1, [.null, .int 0, .int 0, .int 0, .null, .int 0, .int 0, .int 0, .int 0]))] := zD_iff.mpr ⟨List.pairwise_singleton _ _, fun q hq => by obtain rfl := List.mem_singleton.mp hq; exact Or.inl rfl⟩
  refine lv_aload_n hx hb dX1_init_0 rfl (lv_at hl 0 rfl) ?_
  refine W.objInit hx hb hown (ok _ m_159) (ok _ m_59) (ok _ m_60) rfl (by rw [hml]; exact hl.1) rfl dX1_init_1 (Nat.le_of_ble_eq_true rfl) (Nat.le_of_ble_eq_true rfl) ?_
  refine W.eq (g2 := F0 m 4 ls []) rfl ?_
  refine lv_aload_n hx hb dX1_init_4 rfl (lv_at hl 0 rfl) ?_
  refine z_newReg (ws := [(h0, .inr (1, [.null, .int 0, .int 0, .int 0, .null, .int 0, .int 0, .int 0, .int 0]))]) hx hb hml hown hts hK hN m_160 hl.1 hP hD hS hA (Nat.le_of_ble_eq_true rfl) (Nat.le_of_ble_eq_true rfl) (Nat.le_of_ble_eq_true rfl) (Nat.le_of_ble_eq_true rfl) dX1_init_5 dX1_init_8 dX1_init_9 (fun q u H locs hP hD hS => ?_)
  refine va_putF (D := D) (ci := 1) (v := .ref q) (ty := .object RX2) (C := RX1) (T := TX1) (N := 9) hx hb hts (fun w h => List.mem_cons_of_mem _ (ziX1 w h)) tyX1 tyX1_ok nmX1 hown hK hP hD hS 0 rfl rfl 0 (by decide) (ok _ m_162) (fun _ h9 => h9) rfl hin rfl (by decide +kernel) rfl rfl (Nat.le_of_ble_eq_true rfl) dX1_init_12 (fun H locs hP hD hS => ?_)
  have hP : va_P D vwCl ([(h0, .inr (1, [.ref q, .int 0, .int 0, .int 0, .null, .int 0, .int 0, .int 0, .int 0]))] ++ zrl Y (zgf q u)) H := hP
  have hD : va_D (zAs h0 s.heap.size) ([(h0, .inr (1, [.ref q, .int 0, .int 0, .int 0, .null, .int 0, .int 0, .int 0, .int 0]))] ++ zrl Y (zgf q u)) := hD
  refine lv_aload_n hx hb dX1_init_15 rfl (lv_at hl 0 rfl) ?_
  refine lv_sipush (v := 600) hx hb dX1_init_16 (by decide) ?_
  refine va_newa (atype := .byte) (ty := .byte) (a0 := (600, .inl fun _ => 0)) (N' := 600) hx hb (ok _ m_152) rfl hK hP hD hS hA (fun _ => rfl) (by decide) (by decide) (Nat.le_of_ble_eq_true rfl) (Nat.le_of_ble_eq_true rfl) (Nat.le_of_ble_eq_true rfl) dX1_init_19 (fun bq cA H hK1 hP hD hS => ?_)
  obtain rfl := (zY_of hK).2.1 hK1
  refine va_putF (D := D) (ci := 1) (v := .ref bq) (ty := .array .byte) (C := RX1) (T := TX1) (N := 9) hx hb hts (fun w h => List.mem_cons_of_mem _ (ziX1 w h)) tyX1 tyX1_ok nmX1 hown hK hP hD hS 0 rfl rfl 4 (by decide) (ok _ m_170) (fun _ h9 => h9) rfl hin rfl (by decide +kernel) rfl rfl (Nat.le_of_ble_eq_true rfl) dX1_init_21 (fun H locs hP hD hS => ?_)
  have hP : va_P D vwCl (([(h0, .inr (1, [.ref q, .int 0, .int 0, .int 0, .ref bq, .int 0, .int 0, .int 0, .int 0]))] ++ zrl Y (zgf q u)) ++ ([(bq, .inl (Y 1, 600, .inl fun _ => 0))] ++ [])) H := hP
  have hD : va_D (zAs h0 s.heap.size) (([(h0, .inr (1, [.ref q, .int 0, .int 0, .int 0, .ref bq, .int 0, .int 0, .int 0, .int 0]))] ++ zrl Y (zgf q u)) ++ ([(bq, .inl (Y 1, 600, .inl fun _ => 0))] ++ [])) := hD
  obtain ⟨hP, hD⟩ := zPD_perm hP hD (zfront _ _ _ _)
  rw [List.append_nil] at hP hD
  refine W.widen (k := 12) (n := 710) (Nat.le_of_ble_eq_true rfl) (Nat.le_of_ble_eq_true rfl) (vx_ret ?_)
  exact W.vret hx hb hr (fun t ht hW => ⟨⟨rfl, (q, u, bq), by rw [ht]; exact hP, hD⟩, hS.F ht⟩) hS.2.2 dX1_init_24 hlocks
def zbl0 : List Value := [.null, .int 0, .int 0]
/-- the row of the first i of the registries r -/
def zst (r : Nat → Nat → Nat) (i : Nat) : Nat → Option Nat := fun j => if j < i then some (r j 0) else none
def zhw (Y : Nat → ClassId) (h0 a : Nat) (r : Nat → Nat → Nat) (i : Nat) : va_W := [(h0, .inr (0, [.ref a, .int 0, .int 0])), (a, .inl (Y 3, 10, .inr (.inr (.inr (.inr (zst r i))))))] ++ zfl Y r i
set_option maxHeartbeats 4000000 in
set_option maxRecDepth 100000 in
theorem lI_X0 {p : Program} {l : Launch} {e : Env} {s : State} {m : MethodId} {args : Array Value} {below : List Frame} {meth : Method} {c : Code} {Q : State → Prop} {D : va_G} {Y : Nat → ClassId} {A : Nat → Prop} {c0 : Cond} {mc ms h0 a : Nat}
    (hx : p.tables.exec = Jvm.exec) (hb : c.code = cX0_init) (hml : c.maxLocals = 2) (hown : s.vm.findClass RX0 = some m.cls) (hts : ∀ w ∈ c0 :: zWS, w.before args s = true) (hK : va_K D vwCl (ztys Y) s) (hN : va_Nw (.methodLinkNest RX0 17 yX2_init "InventedBirthdays") s) (hA : ∀ q, s.heap.size ≤ q → A q) :
    ∀ (n i : Nat) (r : Nat → Nat → Nat) (H : Heap) (locs : List Loc) (ls : Array Slot) (cells slots : Nat), i + n = 10 → va_P D vwCl (zhw Y h0 a r i) H → va_D A (zhw Y h0 a r i) → va_S A s.heap H locs → lv_has ls 2 [(0, .ref h0), (1, .int (nI i))] → cells + 11 * n ≤ mc → slots + 110 * n ≤ ms → (∀ (r : Nat → Nat → Nat) (H : Heap) (locs : List Loc) (ls : Array Slot) (cells slots : Nat), cells ≤ mc → slots ≤ ms → va_P D vwCl (zhw Y h0 a r 10) H → va_D A (zhw Y h0 a r 10) → va_S A s.heap H locs → W p l e (zR 2 mc ms) s m args below meth c H locs cells slots Q (F0 m 43 ls [])) → W p l e (zR 2 mc ms) s m args below meth c H locs cells slots Q (F0 m 15 ls []) := by
  have ok : ∀ w ∈ zWS, w.before args s = true := fun w h => hts w (List.mem_cons_of_mem _ h)
  intro n
  induction n with
  | zero =>
    intro i r H locs ls cells slots hi hP hD hS hl hc1 hc2 kk
    obtain rfl : i = 10 := by omega
    refine lv_iload_n hx hb dX0_init_15 rfl (lv_at hl 1 rfl) ?_
    refine lv_aload_n hx hb dX0_init_16 rfl (lv_at hl 0 rfl) ?_
    refine va_get hx hb hts (fun w h => List.mem_cons_of_mem _ (ziX0 w h)) hown hK hP 0 rfl rfl 0 (by decide) (ok _ m_203) (fun _ h9 => h9) rfl dX0_init_17 ?_
    refine va_alen (v := 10) hx hb hK hP 1 3 rfl rfl rfl dX0_init_20 ?_
    exact lv_icmp_ge (tgt := 43) hx hb dX0_init_21 (by decide) (fun _ => kk r H locs ls cells slots (by omega) (by omega) hP hD hS) (fun hc => absurd (by decide) hc)
  | succ n ih =>
    intro i r H locs ls cells slots hi hP hD hS hl hc1 hc2 kk
    refine lv_iload_n hx hb dX0_init_15 rfl (lv_at hl 1 rfl) ?_
    refine lv_aload_n hx hb dX0_init_16 rfl (lv_at hl 0 rfl) ?_
    refine va_get hx hb hts (fun w h => List.mem_cons_of_mem _ (ziX0 w h)) hown hK hP 0 rfl rfl 0 (by decide) (ok _ m_203) (fun _ h9 => h9) rfl dX0_init_17 ?_
    refine va_alen (v := 10) hx hb hK hP 1 3 rfl rfl rfl dX0_init_20 ?_
    refine lv_icmp_ge (tgt := 43) hx hb dX0_init_21 (by decide) (fun hc => absurd hc (nI_ge (b := 10) (by omega) (by decide))) (fun _ => ?_)
    refine lv_aload_n hx hb dX0_init_24 rfl (lv_at hl 0 rfl) ?_
    refine va_get hx hb hts (fun w h => List.mem_cons_of_mem _ (ziX0 w h)) hown hK hP 0 rfl rfl 0 (by decide) (ok _ m_203) (fun _ h9 => h9) rfl dX0_init_25 ?_
    refine lv_iload_n hx hb dX0_init_28 rfl (lv_at hl 1 rfl) ?_
    refine z_newReg hx hb hml hown hts hK hN m_200 hl.1 hP hD hS hA (Nat.le_of_ble_eq_true rfl) (by omega) (by omega) (Nat.le_of_ble_eq_true rfl) dX0_init_29 dX0_init_32 dX0_init_33 (fun q u H locs hP hD hS => ?_)
    have hin : vp_in (nI i) 10 := zin_i (of_eq_true (q_zt (by omega) (by decide)))
    refine va_astq hx hb hK hP hD hS 1 3 (zhw Y h0 a r i).length 2 (r := (RX2, TX2, 20)) rfl rfl zapp0 rfl hin dX0_init_36 (fun H locs hP hD hS => ?_)
    have er : zfl Y r i ++ zrl Y (zgf q u) = zfl Y (fun j => if j < i then r j else zgf q u) (i + 1) := zfl_snoc i
    have es : va_up (zst r i) (nI i).toNatClampNeg (some q) = zst (fun j => if j < i then r j else zgf q u) (i + 1) := by
      funext j
      rw [nI_clamp (by omega)]
      unfold va_up zst
      by_cases h1 : j = i
      · subst h1
        rw [if_pos rfl, if_pos (by omega)]
        show some q = some ((if j < j then r j else zgf q u) 0)
        rw [if_neg (by omega)]; rfl
      · rw [if_neg h1]
        by_cases h2 : j < i
        · rw [if_pos h2, if_pos (by omega)]
          show some (r j 0) = some ((if j < i then r j else zgf q u) 0)
          rw [if_pos h2]
        · rw [if_neg h2, if_neg (by omega)]
    have ew : ((zhw Y h0 a r i ++ zrl Y (zgf q u)).set 1 (a, .inl (Y 3, 10, .inr (.inr (.inr (.inr (va_up (zst r i) (nI i).toNatClampNeg (some q)))))))) = zhw Y h0 a (fun j => if j < i then r j else zgf q u) (i + 1) := by
      rw [es]
      show [(h0, .inr (0, [.ref a, .int 0, .int 0])), (a, .inl (Y 3, 10, .inr (.inr (.inr (.inr (zst (fun j => if j < i then r j else zgf q u) (i + 1)))))))] ++ (zfl Y r i ++ zrl Y (zgf q u)) = _
      rw [er]; rfl
    have hP : va_P D vwCl (zhw Y h0 a (fun j => if j < i then r j else zgf q u) (i + 1)) H := by rw [← ew]; exact hP
    have hD : va_D A (zhw Y h0 a (fun j => if j < i then r j else zgf q u) (i + 1)) := by rw [← ew]; exact hD
    obtain ⟨x5, ex5⟩ : ∃ z, z = nI i + 1 := ⟨_, rfl⟩
    refine lv_iinc (v := x5) (lv' := [(1, .int x5), (0, .ref h0)]) hx hb dX0_init_37 hl (k := 1) rfl (by rw [ex5]; rfl) (by decide) rfl (fun ls hl => ?_)
    refine lv_goto (tgt := 15) hx hb dX0_init_40 (by decide) ?_
    rw [ex5, nI_1] at hl
    exact ih (i + 1) _ H locs ls _ _ (by omega) hP hD hS (lv_sub hl [1, 0] rfl) (by omega) (by omega) kk

set_option maxHeartbeats 4000000 in
set_option maxRecDepth 100000 in
theorem c_X0_init (l : Launch) (D : va_G) (Y : Nat → ClassId) (h0 sz : Nat) {n10 : Nat} (hn10 : n10 = 10) : zCI l yX0_init cX0_init 2 2 111 1110 h0 sz (fun U => va_K D vwCl (ztys Y) U ∧ va_Nw (.methodLinkNest RX0 17 yX2_init "InventedBirthdays") U ∧ va_AO RX2 U ∧ va_P D vwCl [(h0, .inr (0, zbl0))] U.heap) (fun H => ∃ u : Nat × (Nat → Nat → Nat), va_P D vwCl (zhw Y h0 u.1 u.2 n10) H ∧ va_D (zAs h0 sz) (zhw Y h0 u.1 u.2 n10)) := by
  subst hn10
  refine vx_ofW (cc := cX0_init) (maxL := 2) (ret := none) (by decide) rfl ?_
  intro p e s m args below meth c s₁ B hml hex hv
  obtain ⟨rfl, ⟨hK, hN, hAO, hP⟩, hsz⟩ := hv
  subst hsz
  have hx := B.exec
  have hb := B.bytes
  have hr := B.returns
  have hlocks := B.notSynchronized
  have hown : s.vm.findClass RX0 = some m.cls := findClass_of_methodNamed B.named
  have hin : meth.name = "<init>" := (name_of_methodNamed B.named B.method).1
  have hts := atoms_spec (ws := Cond.code yX0_init cX0_init 2 none :: zWS) B.pre
  have ok : ∀ w ∈ zWS, w.before _ s = true := fun w h => hts w (List.mem_cons_of_mem _ h)
  have hS : va_S (zAs h0 s.heap.size) s.heap s.heap [] := va_S.rf
  have hA : ∀ q, s.heap.size ≤ q → zAs h0 s.heap.size q := fun q h => Or.inr h
  have hl := lv_entry ([.ref h0]) (n := 2) (Nat.le_of_ble_eq_true rfl)
  rw [lg_entry_eq]
  generalize (lg_sl ([.ref h0]) ++ List.replicate (2 - (lg_sl ([.ref h0])).length) Slot.unset).toArray = ls at hl ⊢
  have hl : lv_has ls 2 [(0, .ref h0)] := hl
  have hD : va_D (zAs h0 s.heap.size) [(h0, .inr (0, [.null, .int 0, .int 0]))] := zD_iff.mpr ⟨List.pairwise_singleton _ _, fun q hq => by obtain rfl := List.mem_singleton.mp hq; exact Or.inl rfl⟩
  refine lv_aload_n hx hb dX0_init_0 rfl (lv_at hl 0 rfl) ?_
  refine W.objInit hx hb hown (ok _ m_199) (ok _ m_59) (ok _ m_60) rfl (by rw [hml]; exact hl.1) rfl dX0_init_1 (Nat.le_of_ble_eq_true rfl) (Nat.le_of_ble_eq_true rfl) ?_
  refine W.eq (g2 := F0 m 4 ls []) rfl ?_
  refine lv_aload_n hx hb dX0_init_4 rfl (lv_at hl 0 rfl) ?_
  refine lv_bipush (v := 10) hx hb dX0_init_5 (by decide) ?_
  refine va_newq (C := RX2) (N' := 10) hx hb hown (ok _ m_200) hAO hK hP hD hS hA (by decide) (by decide) (Nat.le_of_ble_eq_true rfl) (Nat.le_of_ble_eq_true rfl) (Nat.le_of_ble_eq_true rfl) dX0_init_7 (fun a cA H hK1 hP hD hS => ?_)
  obtain rfl := (zY_of hK).2.2.2 hK1
  refine va_putF (D := D) (ci := 0) (v := .ref a) (ty := .array (.object RX2)) (C := RX0) (T := TX0) (N := 3) hx hb hts (fun w h => List.mem_cons_of_mem _ (ziX0 w h)) tyX0 tyX0_ok nmX0 hown hK hP hD hS 0 rfl rfl 0 (by decide) (ok _ m_203) (fun _ h9 => h9) rfl hin rfl (by decide +kernel) rfl rfl (Nat.le_of_ble_eq_true rfl) dX0_init_10 (fun H locs hP hD hS => ?_)
  have e0 : (fun _ => none : Nat → Option Nat) = zst (fun _ _ => 0) 0 := funext fun j => (if_neg (Nat.not_lt_zero j)).symm
  have hP : va_P D vwCl (zhw Y h0 a (fun _ _ => 0) 0) H := by unfold zhw; rw [← e0]; exact hP
  have hD : va_D (zAs h0 s.heap.size) (zhw Y h0 a (fun _ _ => 0) 0) := by unfold zhw; rw [← e0]; exact hD
  refine lv_iconst (v := 0) hx hb dX0_init_13 (by decide) ?_
  refine lv_istore_n (lv' := [(1, .int 0), (0, .ref h0)]) hx hb dX0_init_14 rfl hl (by decide) rfl (fun ls hl => ?_)
  refine lI_X0 hx hb hml hown hts hK hN hA 10 0 _ H locs ls _ _ rfl hP hD hS (lv_sub hl [1, 0] rfl) (Nat.le_of_ble_eq_true rfl) (Nat.le_of_ble_eq_true rfl) (fun r H locs ls cells slots hc1 hc2 hP hD hS => ?_)
  refine W.widen (k := 111) (n := 1110) hc1 hc2 (vx_ret ?_)
  exact W.vret hx hb hr (fun t ht hW => ⟨⟨rfl, (a, r), by rw [ht]; exact hP, hD⟩, hS.F ht⟩) hS.2.2 dX0_init_43 hlocks
