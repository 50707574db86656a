/-! THE CONSTRUCTOR of the model -/
theorem m_1082 : Cond.methodLink RX4 1 objectInit ∈ zWS := zws_in 1082 (by decide +kernel) (by decide +kernel)
def zbl4 : List Value := [.null, .int 0, .null, .null, .null, .int 0, .null, .int 0, .null, .null, .int 0, .null, .int 0, .int 0, .int 0, .int 0, .int 0, .int 0, .int 0, .int 0, .int 0, .int 0, .int 0, .int 0]
theorem zbl4_ok : ∀ j, j < 24 → defaultValue (tyX4 j) = vp_V zbl4 j := fun j hj => by
  rcases (by omega : j = 0 ∨ j = 1 ∨ j = 2 ∨ j = 3 ∨ j = 4 ∨ j = 5 ∨ j = 6 ∨ j = 7 ∨ j = 8 ∨ j = 9 ∨ j = 10 ∨ j = 11 ∨ j = 12 ∨ j = 13 ∨ j = 14 ∨ j = 15 ∨ j = 16 ∨ j = 17 ∨ j = 18 ∨ j = 19 ∨ j = 20 ∨ j = 21 ∨ j = 22 ∨ j = 23) with rfl | rfl | rfl | rfl | rfl | rfl | rfl | rfl | rfl | rfl | rfl | rfl | rfl | rfl | rfl | rfl | rfl | rfl | rfl | rfl | rfl | rfl | rfl | rfl <;> rfl
theorem zM_start {D : va_G} {Y : Nat → ClassId} {A : Nat → Prop} {H : Heap} {h0 a1 a2 a3 a4 a5 a6 a7 a8 : Nat} {fk : Nat → Int32} (hf : ∀ j, j < 80 → fk j = nI (zkeys.getD j 0)) (hP : va_P D vwCl [(h0, .inr (4, [.ref a1, .int 0, .ref a2, .ref a3, .ref a4, .int 0, .ref a5, .int 0, .ref a6, .ref a7, .int 0, .ref a8, .int 0, .int 0, .int 0, .int 0, .int 0, .int 0, .int 0, .int 0, .int 0, .int 0, .int 0, .int 0])), (a1, .inl (Y 0, 80, .inl fk)), (a2, .inl (Y 0, 151, .inl fun _ => 0)), (a3, .inl (Y 0, 151, .inl fun _ => 0)), (a4, .inl (Y 0, 1510, .inl fun _ => 0)), (a5, .inl (Y 0, 302, .inl fun _ => 0)), (a6, .inl (Y 0, 6, .inl fun _ => 0)), (a7, .inl (Y 1, 600, .inl fun _ => 0)), (a8, .inl (Y 1, 40, .inl fun _ => 0))] H) (hD : va_D A [(h0, .inr (4, [.ref a1, .int 0, .ref a2, .ref a3, .ref a4, .int 0, .ref a5, .int 0, .ref a6, .ref a7, .int 0, .ref a8, .int 0, .int 0, .int 0, .int 0, .int 0, .int 0, .int 0, .int 0, .int 0, .int 0, .int 0, .int 0])), (a1, .inl (Y 0, 80, .inl fk)), (a2, .inl (Y 0, 151, .inl fun _ => 0)), (a3, .inl (Y 0, 151, .inl fun _ => 0)), (a4, .inl (Y 0, 1510, .inl fun _ => 0)), (a5, .inl (Y 0, 302, .inl fun _ => 0)), (a6, .inl (Y 0, 6, .inl fun _ => 0)), (a7, .inl (Y 1, 600, .inl fun _ => 0)), (a8, .inl (Y 1, 40, .inl fun _ => 0))]) : ∃ G, G 0 0 = h0 ∧ zP 1 D Y G zM0 H ∧ zG 1 G A := by
  obtain ⟨G, eG⟩ : ∃ G : Nat → Nat → Nat, G = fun κ _ => [h0, a1, a2, a3, a4, a5, a6, a7, a8].getD κ 0 := ⟨_, rfl⟩
  have at0 : ∀ κ ι, κ ≤ 8 → ∃ en, ([(h0, .inr (4, [.ref a1, .int 0, .ref a2, .ref a3, .ref a4, .int 0, .ref a5, .int 0, .ref a6, .ref a7, .int 0, .ref a8, .int 0, .int 0, .int 0, .int 0, .int 0, .int 0, .int 0, .int 0, .int 0, .int 0, .int 0, .int 0])), (a1, .inl (Y 0, 80, .inl fk)), (a2, .inl (Y 0, 151, .inl fun _ => 0)), (a3, .inl (Y 0, 151, .inl fun _ => 0)), (a4, .inl (Y 0, 1510, .inl fun _ => 0)), (a5, .inl (Y 0, 302, .inl fun _ => 0)), (a6, .inl (Y 0, 6, .inl fun _ => 0)), (a7, .inl (Y 1, 600, .inl fun _ => 0)), (a8, .inl (Y 1, 40, .inl fun _ => 0))] : va_W)[κ]? = some (G κ ι, en) := fun κ ι h => by
    rw [eG]
    rcases (by omega : κ = 0 ∨ κ = 1 ∨ κ = 2 ∨ κ = 3 ∨ κ = 4 ∨ κ = 5 ∨ κ = 6 ∨ κ = 7 ∨ κ = 8) with rfl | rfl | rfl | rfl | rfl | rfl | rfl | rfl | rfl <;> exact ⟨_, rfl⟩
  refine ⟨G, by rw [eG]; rfl, fun κ ι hV => ?_, fun κ ι κ' ι' hV hV' e => ?_, fun κ ι hV => ?_⟩
  · obtain ⟨h, rfl⟩ : κ ≤ 8 ∧ ι = 0 := hV
    rcases (by omega : κ = 0 ∨ κ = 1 ∨ κ = 2 ∨ κ = 3 ∨ κ = 4 ∨ κ = 5 ∨ κ = 6 ∨ κ = 7 ∨ κ = 8) with rfl | rfl | rfl | rfl | rfl | rfl | rfl | rfl | rfl
    · have h := hP 0 _ rfl
      rw [eG]; exact h
    · have h : H[a1]? = some (arrV (Y 0) 80 (fun j => .int (fk j))) := hP 1 _ rfl
      rw [eG]
      show H[a1]? = some (arrV (Y 0) 80 (fun j => .int (nI (zkeys.getD j 0))))
      rw [h]
      exact congrArg some (arr_congr fun j hj => by rw [hf j hj])
    · have h := hP 2 _ rfl
      rw [eG]; exact h
    · have h := hP 3 _ rfl
      rw [eG]; exact h
    · have h := hP 4 _ rfl
      rw [eG]; exact h
    · have h := hP 5 _ rfl
      rw [eG]; exact h
    · have h := hP 6 _ rfl
      rw [eG]; exact h
    · have h := hP 7 _ rfl
      rw [eG]; exact h
    · have h := hP 8 _ rfl
      rw [eG]; exact h
  · obtain ⟨h, rfl⟩ : κ ≤ 8 ∧ ι = 0 := hV
    obtain ⟨h', rfl⟩ : κ' ≤ 8 ∧ ι' = 0 := hV'
    obtain ⟨en, hk⟩ := at0 κ 0 h
    obtain ⟨en', hk'⟩ := at0 κ' 0 h'
    exact ⟨hD.1 κ κ' _ _ hk hk' e, rfl⟩
  · obtain ⟨h, rfl⟩ : κ ≤ 8 ∧ ι = 0 := hV
    obtain ⟨en, hk⟩ := at0 κ 0 h
    exact hD.2 κ _ hk
set_option maxHeartbeats 8000000 in
set_option maxRecDepth 100000 in
theorem c_X4_init (l : Launch) (hl9 : l.flags = flags0) (D : va_G) (Y : Nat → ClassId) (S V : Nat → Nat) (h0 sz : Nat) {T' : zT} (hT : jn_X4_init_517 zM0 = some ((), T')) : zCI l yX4_init cX4_init 2 6 8 2840 h0 sz (fun U => zK D Y S V (zAs h0 sz) U U.heap ∧ va_P D vwCl [(h0, .inr (4, zbl4))] U.heap) (fun H => ∃ G, G 0 0 = h0 ∧ zP 1 D Y G T' H ∧ zG 1 G (zAs h0 sz)) := by
  refine vx_ofW (cc := cX4_init) (maxL := 2) (ret := none) (by decide) rfl ?_
  intro p e s m args below meth c s₁ B hml hex hv
  obtain ⟨rfl, ⟨hK9, hP⟩, hsz⟩ := hv
  subst hsz
  have hx := B.exec
  have hb := B.bytes
  have hr := B.returns
  have hlocks := B.notSynchronized
  have hown : s.vm.findClass RX4 = some m.cls := findClass_of_methodNamed B.named
  have hin : meth.name = "<init>" := (name_of_methodNamed B.named B.method).1
  have hts := atoms_spec (ws := Cond.code yX4_init cX4_init 2 none :: zWS) B.pre
  have ok : ∀ w ∈ zWS, w.before _ s = true := fun w h => hts w (List.mem_cons_of_mem _ h)
  have hS : va_S (zAs h0 s.heap.size) s.heap s.heap [] := va_S.rf
  have hA : ∀ q, s.heap.size ≤ q → zAs h0 s.heap.size q := fun q h => Or.inr h
  have hl := lv_entry ([.ref h0]) (n := 2) (Nat.le_of_ble_eq_true rfl)
  rw [lg_entry_eq]
  generalize (lg_sl ([.ref h0]) ++ List.replicate (2 - (lg_sl ([.ref h0])).length) Slot.unset).toArray = ls at hl ⊢
  have hl : lv_has ls 2 [(0, .ref h0)] := hl
  have hK : va_K D vwCl (ztys Y) s := hK9.1
  have hD : va_D (zAs h0 s.heap.size) [(h0, .inr (4, zbl4))] := zD_iff.mpr ⟨List.pairwise_singleton _ _, fun q hq => by obtain rfl := List.mem_singleton.mp hq; exact Or.inl rfl⟩
  refine lv_aload_n hx hb dX4_init_0 rfl (lv_at hl 0 rfl) ?_
  refine W.objInit hx hb hown (ok _ m_1082) (ok _ m_107) (ok _ m_108) rfl (by rw [hml]; exact hl.1) rfl dX4_init_1 (Nat.le_of_ble_eq_true rfl) (Nat.le_of_ble_eq_true rfl) ?_
  refine W.eq (g2 := F0 m 4 ls []) rfl ?_
  refine lv_aload_n hx hb dX4_init_4 rfl (lv_at hl 0 rfl) ?_
  refine lv_bipush (v := 80) hx hb dX4_init_5 (by decide) ?_
  refine va_newa (atype := .int) (ty := .int) (a0 := (80, .inl fun _ => 0)) (N' := 80) hx hb (ok _ m_202) rfl hK hP hD hS hA (fun _ => rfl) (by decide) (by decide) (Nat.le_of_ble_eq_true rfl) (Nat.le_of_ble_eq_true rfl) (Nat.le_of_ble_eq_true rfl) dX4_init_7 (fun a1 cA H hK1 hP hD hS => ?_)
  obtain rfl := (zY_of hK).1 hK1
  refine lv_dup hx hb dX4_init_9 rfl ?_
  refine lv_iconst (v := 0) hx hb dX4_init_10 (by decide) ?_
  refine lv_bipush (v := 114) hx hb dX4_init_11 (by decide) ?_
  refine va_iast hx hb hK hP hD hS 1 0 rfl rfl (zin_i (by decide)) dX4_init_13 (fun H locs hP hD hS => ?_)
  obtain ⟨f1, ef1⟩ : ∃ z : Nat → Int32, z = upd (fun _ => 0) 0 114 := ⟨_, rfl⟩
  have hP : va_P D vwCl ([(h0, .inr (4, zbl4)), (a1, .inl (Y 0, 80, .inl f1))]) H := by rw [ef1]; exact hP
  have hD : va_D (zAs h0 s.heap.size) ([(h0, .inr (4, zbl4)), (a1, .inl (Y 0, 80, .inl f1))]) := by rw [ef1]; exact hD
  refine lv_dup hx hb dX4_init_14 rfl ?_
  refine lv_iconst (v := 1) hx hb dX4_init_15 (by decide) ?_
  refine lv_bipush (v := 101) hx hb dX4_init_16 (by decide) ?_
  refine va_iast hx hb hK hP hD hS 1 0 rfl rfl (zin_i (by decide)) dX4_init_18 (fun H locs hP hD hS => ?_)
  obtain ⟨f2, ef2⟩ : ∃ z : Nat → Int32, z = upd f1 1 101 := ⟨_, rfl⟩
  have hP : va_P D vwCl ([(h0, .inr (4, zbl4)), (a1, .inl (Y 0, 80, .inl f2))]) H := by rw [ef2]; exact hP
  have hD : va_D (zAs h0 s.heap.size) ([(h0, .inr (4, zbl4)), (a1, .inl (Y 0, 80, .inl f2))]) := by rw [ef2]; exact hD
  refine lv_dup hx hb dX4_init_19 rfl ?_
  refine lv_iconst (v := 2) hx hb dX4_init_20 (by decide) ?_
  refine lv_bipush (v := 103) hx hb dX4_init_21 (by decide) ?_
  refine va_iast hx hb hK hP hD hS 1 0 rfl rfl (zin_i (by decide)) dX4_init_23 (fun H locs hP hD hS => ?_)
  obtain ⟨f3, ef3⟩ : ∃ z : Nat → Int32, z = upd f2 2 103 := ⟨_, rfl⟩
  have hP : va_P D vwCl ([(h0, .inr (4, zbl4)), (a1, .inl (Y 0, 80, .inl f3))]) H := by rw [ef3]; exact hP
  have hD : va_D (zAs h0 s.heap.size) ([(h0, .inr (4, zbl4)), (a1, .inl (Y 0, 80, .inl f3))]) := by rw [ef3]; exact hD
  refine lv_dup hx hb dX4_init_24 rfl ?_
  refine lv_iconst (v := 3) hx hb dX4_init_25 (by decide) ?_
  refine lv_bipush (v := 105) hx hb dX4_init_26 (by decide) ?_
  refine va_iast hx hb hK hP hD hS 1 0 rfl rfl (zin_i (by decide)) dX4_init_28 (fun H locs hP hD hS => ?_)
  obtain ⟨f4, ef4⟩ : ∃ z : Nat → Int32, z = upd f3 3 105 := ⟨_, rfl⟩
  have hP : va_P D vwCl ([(h0, .inr (4, zbl4)), (a1, .inl (Y 0, 80, .inl f4))]) H := by rw [ef4]; exact hP
  have hD : va_D (zAs h0 s.heap.size) ([(h0, .inr (4, zbl4)), (a1, .inl (Y 0, 80, .inl f4))]) := by rw [ef4]; exact hD
  refine lv_dup hx hb dX4_init_29 rfl ?_
  refine lv_iconst (v := 4) hx hb dX4_init_30 (by decide) ?_
  refine lv_bipush (v := 115) hx hb dX4_init_31 (by decide) ?_
  refine va_iast hx hb hK hP hD hS 1 0 rfl rfl (zin_i (by decide)) dX4_init_33 (fun H locs hP hD hS => ?_)
  obtain ⟨f5, ef5⟩ : ∃ z : Nat → Int32, z = upd f4 4 115 := ⟨_, rfl⟩
  have hP : va_P D vwCl ([(h0, .inr (4, zbl4)), (a1, .inl (Y 0, 80, .inl f5))]) H := by rw [ef5]; exact hP
  have hD : va_D (zAs h0 s.heap.size) ([(h0, .inr (4, zbl4)), (a1, .inl (Y 0, 80, .inl f5))]) := by rw [ef5]; exact hD
  refine lv_dup hx hb dX4_init_34 rfl ?_
  refine lv_iconst (v := 5) hx hb dX4_init_35 (by decide) ?_
  refine lv_bipush (v := 116) hx hb dX4_init_36 (by decide) ?_
  refine va_iast hx hb hK hP hD hS 1 0 rfl rfl (zin_i (by decide)) dX4_init_38 (fun H locs hP hD hS => ?_)
  obtain ⟨f6, ef6⟩ : ∃ z : Nat → Int32, z = upd f5 5 116 := ⟨_, rfl⟩
  have hP : va_P D vwCl ([(h0, .inr (4, zbl4)), (a1, .inl (Y 0, 80, .inl f6))]) H := by rw [ef6]; exact hP
  have hD : va_D (zAs h0 s.heap.size) ([(h0, .inr (4, zbl4)), (a1, .inl (Y 0, 80, .inl f6))]) := by rw [ef6]; exact hD
  refine lv_dup hx hb dX4_init_39 rfl ?_
  refine lv_bipush (v := 6) hx hb dX4_init_40 (by decide) ?_
  refine lv_bipush (v := 114) hx hb dX4_init_42 (by decide) ?_
  refine va_iast hx hb hK hP hD hS 1 0 rfl rfl (zin_i (by decide)) dX4_init_44 (fun H locs hP hD hS => ?_)
  obtain ⟨f7, ef7⟩ : ∃ z : Nat → Int32, z = upd f6 6 114 := ⟨_, rfl⟩
  have hP : va_P D vwCl ([(h0, .inr (4, zbl4)), (a1, .inl (Y 0, 80, .inl f7))]) H := by rw [ef7]; exact hP
  have hD : va_D (zAs h0 s.heap.size) ([(h0, .inr (4, zbl4)), (a1, .inl (Y 0, 80, .inl f7))]) := by rw [ef7]; exact hD
  refine lv_dup hx hb dX4_init_45 rfl ?_
  refine lv_bipush (v := 7) hx hb dX4_init_46 (by decide) ?_
  refine lv_bipush (v := 121) hx hb dX4_init_48 (by decide) ?_
  refine va_iast hx hb hK hP hD hS 1 0 rfl rfl (zin_i (by decide)) dX4_init_50 (fun H locs hP hD hS => ?_)
  obtain ⟨f8, ef8⟩ : ∃ z : Nat → Int32, z = upd f7 7 121 := ⟨_, rfl⟩
  have hP : va_P D vwCl ([(h0, .inr (4, zbl4)), (a1, .inl (Y 0, 80, .inl f8))]) H := by rw [ef8]; exact hP
  have hD : va_D (zAs h0 s.heap.size) ([(h0, .inr (4, zbl4)), (a1, .inl (Y 0, 80, .inl f8))]) := by rw [ef8]; exact hD
  refine lv_dup hx hb dX4_init_51 rfl ?_
  refine lv_bipush (v := 8) hx hb dX4_init_52 (by decide) ?_
  refine lv_bipush (v := 103) hx hb dX4_init_54 (by decide) ?_
  refine va_iast hx hb hK hP hD hS 1 0 rfl rfl (zin_i (by decide)) dX4_init_56 (fun H locs hP hD hS => ?_)
  obtain ⟨f9, ef9⟩ : ∃ z : Nat → Int32, z = upd f8 8 103 := ⟨_, rfl⟩
  have hP : va_P D vwCl ([(h0, .inr (4, zbl4)), (a1, .inl (Y 0, 80, .inl f9))]) H := by rw [ef9]; exact hP
  have hD : va_D (zAs h0 s.heap.size) ([(h0, .inr (4, zbl4)), (a1, .inl (Y 0, 80, .inl f9))]) := by rw [ef9]; exact hD
  refine lv_dup hx hb dX4_init_57 rfl ?_
  refine lv_bipush (v := 9) hx hb dX4_init_58 (by decide) ?_
  refine lv_bipush (v := 97) hx hb dX4_init_60 (by decide) ?_
  refine va_iast hx hb hK hP hD hS 1 0 rfl rfl (zin_i (by decide)) dX4_init_62 (fun H locs hP hD hS => ?_)
  obtain ⟨f10, ef10⟩ : ∃ z : Nat → Int32, z = upd f9 9 97 := ⟨_, rfl⟩
  have hP : va_P D vwCl ([(h0, .inr (4, zbl4)), (a1, .inl (Y 0, 80, .inl f10))]) H := by rw [ef10]; exact hP
  have hD : va_D (zAs h0 s.heap.size) ([(h0, .inr (4, zbl4)), (a1, .inl (Y 0, 80, .inl f10))]) := by rw [ef10]; exact hD
  refine lv_dup hx hb dX4_init_63 rfl ?_
  refine lv_bipush (v := 10) hx hb dX4_init_64 (by decide) ?_
  refine lv_bipush (v := 114) hx hb dX4_init_66 (by decide) ?_
  refine va_iast hx hb hK hP hD hS 1 0 rfl rfl (zin_i (by decide)) dX4_init_68 (fun H locs hP hD hS => ?_)
  obtain ⟨f11, ef11⟩ : ∃ z : Nat → Int32, z = upd f10 10 114 := ⟨_, rfl⟩
  have hP : va_P D vwCl ([(h0, .inr (4, zbl4)), (a1, .inl (Y 0, 80, .inl f11))]) H := by rw [ef11]; exact hP
  have hD : va_D (zAs h0 s.heap.size) ([(h0, .inr (4, zbl4)), (a1, .inl (Y 0, 80, .inl f11))]) := by rw [ef11]; exact hD
  refine lv_dup hx hb dX4_init_69 rfl ?_
  refine lv_bipush (v := 11) hx hb dX4_init_70 (by decide) ?_
  refine lv_bipush (v := 100) hx hb dX4_init_72 (by decide) ?_
  refine va_iast hx hb hK hP hD hS 1 0 rfl rfl (zin_i (by decide)) dX4_init_74 (fun H locs hP hD hS => ?_)
  obtain ⟨f12, ef12⟩ : ∃ z : Nat → Int32, z = upd f11 11 100 := ⟨_, rfl⟩
  have hP : va_P D vwCl ([(h0, .inr (4, zbl4)), (a1, .inl (Y 0, 80, .inl f12))]) H := by rw [ef12]; exact hP
  have hD : va_D (zAs h0 s.heap.size) ([(h0, .inr (4, zbl4)), (a1, .inl (Y 0, 80, .inl f12))]) := by rw [ef12]; exact hD
  refine lv_dup hx hb dX4_init_75 rfl ?_
  refine lv_bipush (v := 12) hx hb dX4_init_76 (by decide) ?_
  refine lv_bipush (v := 101) hx hb dX4_init_78 (by decide) ?_
  refine va_iast hx hb hK hP hD hS 1 0 rfl rfl (zin_i (by decide)) dX4_init_80 (fun H locs hP hD hS => ?_)
  obtain ⟨f13, ef13⟩ : ∃ z : Nat → Int32, z = upd f12 12 101 := ⟨_, rfl⟩
  have hP : va_P D vwCl ([(h0, .inr (4, zbl4)), (a1, .inl (Y 0, 80, .inl f13))]) H := by rw [ef13]; exact hP
  have hD : va_D (zAs h0 s.heap.size) ([(h0, .inr (4, zbl4)), (a1, .inl (Y 0, 80, .inl f13))]) := by rw [ef13]; exact hD
  refine lv_dup hx hb dX4_init_81 rfl ?_
  refine lv_bipush (v := 13) hx hb dX4_init_82 (by decide) ?_
  refine lv_bipush (v := 110) hx hb dX4_init_84 (by decide) ?_
  refine va_iast hx hb hK hP hD hS 1 0 rfl rfl (zin_i (by decide)) dX4_init_86 (fun H locs hP hD hS => ?_)
  obtain ⟨f14, ef14⟩ : ∃ z : Nat → Int32, z = upd f13 13 110 := ⟨_, rfl⟩
  have hP : va_P D vwCl ([(h0, .inr (4, zbl4)), (a1, .inl (Y 0, 80, .inl f14))]) H := by rw [ef14]; exact hP
  have hD : va_D (zAs h0 s.heap.size) ([(h0, .inr (4, zbl4)), (a1, .inl (Y 0, 80, .inl f14))]) := by rw [ef14]; exact hD
  refine lv_dup hx hb dX4_init_87 rfl ?_
  refine lv_bipush (v := 14) hx hb dX4_init_88 (by decide) ?_
  refine lv_iconst (v := 0) hx hb dX4_init_90 (by decide) ?_
  refine va_iast hx hb hK hP hD hS 1 0 rfl rfl (zin_i (by decide)) dX4_init_91 (fun H locs hP hD hS => ?_)
  obtain ⟨f15, ef15⟩ : ∃ z : Nat → Int32, z = upd f14 14 0 := ⟨_, rfl⟩
  have hP : va_P D vwCl ([(h0, .inr (4, zbl4)), (a1, .inl (Y 0, 80, .inl f15))]) H := by rw [ef15]; exact hP
  have hD : va_D (zAs h0 s.heap.size) ([(h0, .inr (4, zbl4)), (a1, .inl (Y 0, 80, .inl f15))]) := by rw [ef15]; exact hD
  refine lv_dup hx hb dX4_init_92 rfl ?_
  refine lv_bipush (v := 15) hx hb dX4_init_93 (by decide) ?_
  refine lv_iconst (v := 0) hx hb dX4_init_95 (by decide) ?_
  refine va_iast hx hb hK hP hD hS 1 0 rfl rfl (zin_i (by decide)) dX4_init_96 (fun H locs hP hD hS => ?_)
  obtain ⟨f16, ef16⟩ : ∃ z : Nat → Int32, z = upd f15 15 0 := ⟨_, rfl⟩
  have hP : va_P D vwCl ([(h0, .inr (4, zbl4)), (a1, .inl (Y 0, 80, .inl f16))]) H := by rw [ef16]; exact hP
  have hD : va_D (zAs h0 s.heap.size) ([(h0, .inr (4, zbl4)), (a1, .inl (Y 0, 80, .inl f16))]) := by rw [ef16]; exact hD
  refine lv_dup hx hb dX4_init_97 rfl ?_
  refine lv_bipush (v := 16) hx hb dX4_init_98 (by decide) ?_
  refine lv_bipush (v := 99) hx hb dX4_init_100 (by decide) ?_
  refine va_iast hx hb hK hP hD hS 1 0 rfl rfl (zin_i (by decide)) dX4_init_102 (fun H locs hP hD hS => ?_)
  obtain ⟨f17, ef17⟩ : ∃ z : Nat → Int32, z = upd f16 16 99 := ⟨_, rfl⟩
  have hP : va_P D vwCl ([(h0, .inr (4, zbl4)), (a1, .inl (Y 0, 80, .inl f17))]) H := by rw [ef17]; exact hP
  have hD : va_D (zAs h0 s.heap.size) ([(h0, .inr (4, zbl4)), (a1, .inl (Y 0, 80, .inl f17))]) := by rw [ef17]; exact hD
  refine lv_dup hx hb dX4_init_103 rfl ?_
  refine lv_bipush (v := 17) hx hb dX4_init_104 (by decide) ?_
  refine lv_bipush (v := 104) hx hb dX4_init_106 (by decide) ?_
  refine va_iast hx hb hK hP hD hS 1 0 rfl rfl (zin_i (by decide)) dX4_init_108 (fun H locs hP hD hS => ?_)
  obtain ⟨f18, ef18⟩ : ∃ z : Nat → Int32, z = upd f17 17 104 := ⟨_, rfl⟩
  have hP : va_P D vwCl ([(h0, .inr (4, zbl4)), (a1, .inl (Y 0, 80, .inl f18))]) H := by rw [ef18]; exact hP
  have hD : va_D (zAs h0 s.heap.size) ([(h0, .inr (4, zbl4)), (a1, .inl (Y 0, 80, .inl f18))]) := by rw [ef18]; exact hD
  refine lv_dup hx hb dX4_init_109 rfl ?_
  refine lv_bipush (v := 18) hx hb dX4_init_110 (by decide) ?_
  refine lv_bipush (v := 105) hx hb dX4_init_112 (by decide) ?_
  refine va_iast hx hb hK hP hD hS 1 0 rfl rfl (zin_i (by decide)) dX4_init_114 (fun H locs hP hD hS => ?_)
  obtain ⟨f19, ef19⟩ : ∃ z : Nat → Int32, z = upd f18 18 105 := ⟨_, rfl⟩
  have hP : va_P D vwCl ([(h0, .inr (4, zbl4)), (a1, .inl (Y 0, 80, .inl f19))]) H := by rw [ef19]; exact hP
  have hD : va_D (zAs h0 s.heap.size) ([(h0, .inr (4, zbl4)), (a1, .inl (Y 0, 80, .inl f19))]) := by rw [ef19]; exact hD
  refine lv_dup hx hb dX4_init_115 rfl ?_
  refine lv_bipush (v := 19) hx hb dX4_init_116 (by decide) ?_
  refine lv_bipush (v := 108) hx hb dX4_init_118 (by decide) ?_
  refine va_iast hx hb hK hP hD hS 1 0 rfl rfl (zin_i (by decide)) dX4_init_120 (fun H locs hP hD hS => ?_)
  obtain ⟨f20, ef20⟩ : ∃ z : Nat → Int32, z = upd f19 19 108 := ⟨_, rfl⟩
  have hP : va_P D vwCl ([(h0, .inr (4, zbl4)), (a1, .inl (Y 0, 80, .inl f20))]) H := by rw [ef20]; exact hP
  have hD : va_D (zAs h0 s.heap.size) ([(h0, .inr (4, zbl4)), (a1, .inl (Y 0, 80, .inl f20))]) := by rw [ef20]; exact hD
  refine lv_dup hx hb dX4_init_121 rfl ?_
  refine lv_bipush (v := 20) hx hb dX4_init_122 (by decide) ?_
  refine lv_bipush (v := 100) hx hb dX4_init_124 (by decide) ?_
  refine va_iast hx hb hK hP hD hS 1 0 rfl rfl (zin_i (by decide)) dX4_init_126 (fun H locs hP hD hS => ?_)
  obtain ⟨f21, ef21⟩ : ∃ z : Nat → Int32, z = upd f20 20 100 := ⟨_, rfl⟩
  have hP : va_P D vwCl ([(h0, .inr (4, zbl4)), (a1, .inl (Y 0, 80, .inl f21))]) H := by rw [ef21]; exact hP
  have hD : va_D (zAs h0 s.heap.size) ([(h0, .inr (4, zbl4)), (a1, .inl (Y 0, 80, .inl f21))]) := by rw [ef21]; exact hD
  refine lv_dup hx hb dX4_init_127 rfl ?_
  refine lv_bipush (v := 21) hx hb dX4_init_128 (by decide) ?_
  refine lv_iconst (v := 0) hx hb dX4_init_130 (by decide) ?_
  refine va_iast hx hb hK hP hD hS 1 0 rfl rfl (zin_i (by decide)) dX4_init_131 (fun H locs hP hD hS => ?_)
  obtain ⟨f22, ef22⟩ : ∃ z : Nat → Int32, z = upd f21 21 0 := ⟨_, rfl⟩
  have hP : va_P D vwCl ([(h0, .inr (4, zbl4)), (a1, .inl (Y 0, 80, .inl f22))]) H := by rw [ef22]; exact hP
  have hD : va_D (zAs h0 s.heap.size) ([(h0, .inr (4, zbl4)), (a1, .inl (Y 0, 80, .inl f22))]) := by rw [ef22]; exact hD
  refine lv_dup hx hb dX4_init_132 rfl ?_
  refine lv_bipush (v := 22) hx hb dX4_init_133 (by decide) ?_
  refine lv_iconst (v := 0) hx hb dX4_init_135 (by decide) ?_
  refine va_iast hx hb hK hP hD hS 1 0 rfl rfl (zin_i (by decide)) dX4_init_136 (fun H locs hP hD hS => ?_)
  obtain ⟨f23, ef23⟩ : ∃ z : Nat → Int32, z = upd f22 22 0 := ⟨_, rfl⟩
  have hP : va_P D vwCl ([(h0, .inr (4, zbl4)), (a1, .inl (Y 0, 80, .inl f23))]) H := by rw [ef23]; exact hP
  have hD : va_D (zAs h0 s.heap.size) ([(h0, .inr (4, zbl4)), (a1, .inl (Y 0, 80, .inl f23))]) := by rw [ef23]; exact hD
  refine lv_dup hx hb dX4_init_137 rfl ?_
  refine lv_bipush (v := 23) hx hb dX4_init_138 (by decide) ?_
  refine lv_iconst (v := 0) hx hb dX4_init_140 (by decide) ?_
  refine va_iast hx hb hK hP hD hS 1 0 rfl rfl (zin_i (by decide)) dX4_init_141 (fun H locs hP hD hS => ?_)
  obtain ⟨f24, ef24⟩ : ∃ z : Nat → Int32, z = upd f23 23 0 := ⟨_, rfl⟩
  have hP : va_P D vwCl ([(h0, .inr (4, zbl4)), (a1, .inl (Y 0, 80, .inl f24))]) H := by rw [ef24]; exact hP
  have hD : va_D (zAs h0 s.heap.size) ([(h0, .inr (4, zbl4)), (a1, .inl (Y 0, 80, .inl f24))]) := by rw [ef24]; exact hD
  refine lv_dup hx hb dX4_init_142 rfl ?_
  refine lv_bipush (v := 24) hx hb dX4_init_143 (by decide) ?_
  refine lv_bipush (v := 98) hx hb dX4_init_145 (by decide) ?_
  refine va_iast hx hb hK hP hD hS 1 0 rfl rfl (zin_i (by decide)) dX4_init_147 (fun H locs hP hD hS => ?_)
  obtain ⟨f25, ef25⟩ : ∃ z : Nat → Int32, z = upd f24 24 98 := ⟨_, rfl⟩
  have hP : va_P D vwCl ([(h0, .inr (4, zbl4)), (a1, .inl (Y 0, 80, .inl f25))]) H := by rw [ef25]; exact hP
  have hD : va_D (zAs h0 s.heap.size) ([(h0, .inr (4, zbl4)), (a1, .inl (Y 0, 80, .inl f25))]) := by rw [ef25]; exact hD
  refine lv_dup hx hb dX4_init_148 rfl ?_
  refine lv_bipush (v := 25) hx hb dX4_init_149 (by decide) ?_
  refine lv_bipush (v := 105) hx hb dX4_init_151 (by decide) ?_
  refine va_iast hx hb hK hP hD hS 1 0 rfl rfl (zin_i (by decide)) dX4_init_153 (fun H locs hP hD hS => ?_)
  obtain ⟨f26, ef26⟩ : ∃ z : Nat → Int32, z = upd f25 25 105 := ⟨_, rfl⟩
  have hP : va_P D vwCl ([(h0, .inr (4, zbl4)), (a1, .inl (Y 0, 80, .inl f26))]) H := by rw [ef26]; exact hP
  have hD : va_D (zAs h0 s.heap.size) ([(h0, .inr (4, zbl4)), (a1, .inl (Y 0, 80, .inl f26))]) := by rw [ef26]; exact hD
  refine lv_dup hx hb dX4_init_154 rfl ?_
  refine lv_bipush (v := 26) hx hb dX4_init_155 (by decide) ?_
  refine lv_bipush (v := 114) hx hb dX4_init_157 (by decide) ?_
  refine va_iast hx hb hK hP hD hS 1 0 rfl rfl (zin_i (by decide)) dX4_init_159 (fun H locs hP hD hS => ?_)
  obtain ⟨f27, ef27⟩ : ∃ z : Nat → Int32, z = upd f26 26 114 := ⟨_, rfl⟩
  have hP : va_P D vwCl ([(h0, .inr (4, zbl4)), (a1, .inl (Y 0, 80, .inl f27))]) H := by rw [ef27]; exact hP
  have hD : va_D (zAs h0 s.heap.size) ([(h0, .inr (4, zbl4)), (a1, .inl (Y 0, 80, .inl f27))]) := by rw [ef27]; exact hD
  refine lv_dup hx hb dX4_init_160 rfl ?_
  refine lv_bipush (v := 27) hx hb dX4_init_161 (by decide) ?_
  refine lv_bipush (v := 116) hx hb dX4_init_163 (by decide) ?_
  refine va_iast hx hb hK hP hD hS 1 0 rfl rfl (zin_i (by decide)) dX4_init_165 (fun H locs hP hD hS => ?_)
  obtain ⟨f28, ef28⟩ : ∃ z : Nat → Int32, z = upd f27 27 116 := ⟨_, rfl⟩
  have hP : va_P D vwCl ([(h0, .inr (4, zbl4)), (a1, .inl (Y 0, 80, .inl f28))]) H := by rw [ef28]; exact hP
  have hD : va_D (zAs h0 s.heap.size) ([(h0, .inr (4, zbl4)), (a1, .inl (Y 0, 80, .inl f28))]) := by rw [ef28]; exact hD
  refine lv_dup hx hb dX4_init_166 rfl ?_
  refine lv_bipush (v := 28) hx hb dX4_init_167 (by decide) ?_
  refine lv_bipush (v := 104) hx hb dX4_init_169 (by decide) ?_
  refine va_iast hx hb hK hP hD hS 1 0 rfl rfl (zin_i (by decide)) dX4_init_171 (fun H locs hP hD hS => ?_)
  obtain ⟨f29, ef29⟩ : ∃ z : Nat → Int32, z = upd f28 28 104 := ⟨_, rfl⟩
  have hP : va_P D vwCl ([(h0, .inr (4, zbl4)), (a1, .inl (Y 0, 80, .inl f29))]) H := by rw [ef29]; exact hP
  have hD : va_D (zAs h0 s.heap.size) ([(h0, .inr (4, zbl4)), (a1, .inl (Y 0, 80, .inl f29))]) := by rw [ef29]; exact hD
  refine lv_dup hx hb dX4_init_172 rfl ?_
  refine lv_bipush (v := 29) hx hb dX4_init_173 (by decide) ?_
  refine lv_bipush (v := 100) hx hb dX4_init_175 (by decide) ?_
  refine va_iast hx hb hK hP hD hS 1 0 rfl rfl (zin_i (by decide)) dX4_init_177 (fun H locs hP hD hS => ?_)
  obtain ⟨f30, ef30⟩ : ∃ z : Nat → Int32, z = upd f29 29 100 := ⟨_, rfl⟩
  have hP : va_P D vwCl ([(h0, .inr (4, zbl4)), (a1, .inl (Y 0, 80, .inl f30))]) H := by rw [ef30]; exact hP
  have hD : va_D (zAs h0 s.heap.size) ([(h0, .inr (4, zbl4)), (a1, .inl (Y 0, 80, .inl f30))]) := by rw [ef30]; exact hD
  refine lv_dup hx hb dX4_init_178 rfl ?_
  refine lv_bipush (v := 30) hx hb dX4_init_179 (by decide) ?_
  refine lv_bipush (v := 97) hx hb dX4_init_181 (by decide) ?_
  refine va_iast hx hb hK hP hD hS 1 0 rfl rfl (zin_i (by decide)) dX4_init_183 (fun H locs hP hD hS => ?_)
  obtain ⟨f31, ef31⟩ : ∃ z : Nat → Int32, z = upd f30 30 97 := ⟨_, rfl⟩
  have hP : va_P D vwCl ([(h0, .inr (4, zbl4)), (a1, .inl (Y 0, 80, .inl f31))]) H := by rw [ef31]; exact hP
  have hD : va_D (zAs h0 s.heap.size) ([(h0, .inr (4, zbl4)), (a1, .inl (Y 0, 80, .inl f31))]) := by rw [ef31]; exact hD
  refine lv_dup hx hb dX4_init_184 rfl ?_
  refine lv_bipush (v := 31) hx hb dX4_init_185 (by decide) ?_
  refine lv_bipush (v := 121) hx hb dX4_init_187 (by decide) ?_
  refine va_iast hx hb hK hP hD hS 1 0 rfl rfl (zin_i (by decide)) dX4_init_189 (fun H locs hP hD hS => ?_)
  obtain ⟨f32, ef32⟩ : ∃ z : Nat → Int32, z = upd f31 31 121 := ⟨_, rfl⟩
  have hP : va_P D vwCl ([(h0, .inr (4, zbl4)), (a1, .inl (Y 0, 80, .inl f32))]) H := by rw [ef32]; exact hP
  have hD : va_D (zAs h0 s.heap.size) ([(h0, .inr (4, zbl4)), (a1, .inl (Y 0, 80, .inl f32))]) := by rw [ef32]; exact hD
  refine lv_dup hx hb dX4_init_190 rfl ?_
  refine lv_bipush (v := 32) hx hb dX4_init_191 (by decide) ?_
  refine lv_bipush (v := 100) hx hb dX4_init_193 (by decide) ?_
  refine va_iast hx hb hK hP hD hS 1 0 rfl rfl (zin_i (by decide)) dX4_init_195 (fun H locs hP hD hS => ?_)
  obtain ⟨f33, ef33⟩ : ∃ z : Nat → Int32, z = upd f32 32 100 := ⟨_, rfl⟩
  have hP : va_P D vwCl ([(h0, .inr (4, zbl4)), (a1, .inl (Y 0, 80, .inl f33))]) H := by rw [ef33]; exact hP
  have hD : va_D (zAs h0 s.heap.size) ([(h0, .inr (4, zbl4)), (a1, .inl (Y 0, 80, .inl f33))]) := by rw [ef33]; exact hD
  refine lv_dup hx hb dX4_init_196 rfl ?_
  refine lv_bipush (v := 33) hx hb dX4_init_197 (by decide) ?_
  refine lv_bipush (v := 114) hx hb dX4_init_199 (by decide) ?_
  refine va_iast hx hb hK hP hD hS 1 0 rfl rfl (zin_i (by decide)) dX4_init_201 (fun H locs hP hD hS => ?_)
  obtain ⟨f34, ef34⟩ : ∃ z : Nat → Int32, z = upd f33 33 114 := ⟨_, rfl⟩
  have hP : va_P D vwCl ([(h0, .inr (4, zbl4)), (a1, .inl (Y 0, 80, .inl f34))]) H := by rw [ef34]; exact hP
  have hD : va_D (zAs h0 s.heap.size) ([(h0, .inr (4, zbl4)), (a1, .inl (Y 0, 80, .inl f34))]) := by rw [ef34]; exact hD
  refine lv_dup hx hb dX4_init_202 rfl ?_
  refine lv_bipush (v := 34) hx hb dX4_init_203 (by decide) ?_
  refine lv_bipush (v := 97) hx hb dX4_init_205 (by decide) ?_
  refine va_iast hx hb hK hP hD hS 1 0 rfl rfl (zin_i (by decide)) dX4_init_207 (fun H locs hP hD hS => ?_)
  obtain ⟨f35, ef35⟩ : ∃ z : Nat → Int32, z = upd f34 34 97 := ⟨_, rfl⟩
  have hP : va_P D vwCl ([(h0, .inr (4, zbl4)), (a1, .inl (Y 0, 80, .inl f35))]) H := by rw [ef35]; exact hP
  have hD : va_D (zAs h0 s.heap.size) ([(h0, .inr (4, zbl4)), (a1, .inl (Y 0, 80, .inl f35))]) := by rw [ef35]; exact hD
  refine lv_dup hx hb dX4_init_208 rfl ?_
  refine lv_bipush (v := 35) hx hb dX4_init_209 (by decide) ?_
  refine lv_bipush (v := 119) hx hb dX4_init_211 (by decide) ?_
  refine va_iast hx hb hK hP hD hS 1 0 rfl rfl (zin_i (by decide)) dX4_init_213 (fun H locs hP hD hS => ?_)
  obtain ⟨f36, ef36⟩ : ∃ z : Nat → Int32, z = upd f35 35 119 := ⟨_, rfl⟩
  have hP : va_P D vwCl ([(h0, .inr (4, zbl4)), (a1, .inl (Y 0, 80, .inl f36))]) H := by rw [ef36]; exact hP
  have hD : va_D (zAs h0 s.heap.size) ([(h0, .inr (4, zbl4)), (a1, .inl (Y 0, 80, .inl f36))]) := by rw [ef36]; exact hD
  refine lv_dup hx hb dX4_init_214 rfl ?_
  refine lv_bipush (v := 36) hx hb dX4_init_215 (by decide) ?_
  refine lv_iconst (v := 0) hx hb dX4_init_217 (by decide) ?_
  refine va_iast hx hb hK hP hD hS 1 0 rfl rfl (zin_i (by decide)) dX4_init_218 (fun H locs hP hD hS => ?_)
  obtain ⟨f37, ef37⟩ : ∃ z : Nat → Int32, z = upd f36 36 0 := ⟨_, rfl⟩
  have hP : va_P D vwCl ([(h0, .inr (4, zbl4)), (a1, .inl (Y 0, 80, .inl f37))]) H := by rw [ef37]; exact hP
  have hD : va_D (zAs h0 s.heap.size) ([(h0, .inr (4, zbl4)), (a1, .inl (Y 0, 80, .inl f37))]) := by rw [ef37]; exact hD
  refine lv_dup hx hb dX4_init_219 rfl ?_
  refine lv_bipush (v := 37) hx hb dX4_init_220 (by decide) ?_
  refine lv_iconst (v := 0) hx hb dX4_init_222 (by decide) ?_
  refine va_iast hx hb hK hP hD hS 1 0 rfl rfl (zin_i (by decide)) dX4_init_223 (fun H locs hP hD hS => ?_)
  obtain ⟨f38, ef38⟩ : ∃ z : Nat → Int32, z = upd f37 37 0 := ⟨_, rfl⟩
  have hP : va_P D vwCl ([(h0, .inr (4, zbl4)), (a1, .inl (Y 0, 80, .inl f38))]) H := by rw [ef38]; exact hP
  have hD : va_D (zAs h0 s.heap.size) ([(h0, .inr (4, zbl4)), (a1, .inl (Y 0, 80, .inl f38))]) := by rw [ef38]; exact hD
  refine lv_dup hx hb dX4_init_224 rfl ?_
  refine lv_bipush (v := 38) hx hb dX4_init_225 (by decide) ?_
  refine lv_iconst (v := 0) hx hb dX4_init_227 (by decide) ?_
  refine va_iast hx hb hK hP hD hS 1 0 rfl rfl (zin_i (by decide)) dX4_init_228 (fun H locs hP hD hS => ?_)
  obtain ⟨f39, ef39⟩ : ∃ z : Nat → Int32, z = upd f38 38 0 := ⟨_, rfl⟩
  have hP : va_P D vwCl ([(h0, .inr (4, zbl4)), (a1, .inl (Y 0, 80, .inl f39))]) H := by rw [ef39]; exact hP
  have hD : va_D (zAs h0 s.heap.size) ([(h0, .inr (4, zbl4)), (a1, .inl (Y 0, 80, .inl f39))]) := by rw [ef39]; exact hD
  refine lv_dup hx hb dX4_init_229 rfl ?_
  refine lv_bipush (v := 39) hx hb dX4_init_230 (by decide) ?_
  refine lv_iconst (v := 0) hx hb dX4_init_232 (by decide) ?_
  refine va_iast hx hb hK hP hD hS 1 0 rfl rfl (zin_i (by decide)) dX4_init_233 (fun H locs hP hD hS => ?_)
  obtain ⟨f40, ef40⟩ : ∃ z : Nat → Int32, z = upd f39 39 0 := ⟨_, rfl⟩
  have hP : va_P D vwCl ([(h0, .inr (4, zbl4)), (a1, .inl (Y 0, 80, .inl f40))]) H := by rw [ef40]; exact hP
  have hD : va_D (zAs h0 s.heap.size) ([(h0, .inr (4, zbl4)), (a1, .inl (Y 0, 80, .inl f40))]) := by rw [ef40]; exact hD
  refine lv_dup hx hb dX4_init_234 rfl ?_
  refine lv_bipush (v := 40) hx hb dX4_init_235 (by decide) ?_
  refine lv_bipush (v := 99) hx hb dX4_init_237 (by decide) ?_
  refine va_iast hx hb hK hP hD hS 1 0 rfl rfl (zin_i (by decide)) dX4_init_239 (fun H locs hP hD hS => ?_)
  obtain ⟨f41, ef41⟩ : ∃ z : Nat → Int32, z = upd f40 40 99 := ⟨_, rfl⟩
  have hP : va_P D vwCl ([(h0, .inr (4, zbl4)), (a1, .inl (Y 0, 80, .inl f41))]) H := by rw [ef41]; exact hP
  have hD : va_D (zAs h0 s.heap.size) ([(h0, .inr (4, zbl4)), (a1, .inl (Y 0, 80, .inl f41))]) := by rw [ef41]; exact hD
  refine lv_dup hx hb dX4_init_240 rfl ?_
  refine lv_bipush (v := 41) hx hb dX4_init_241 (by decide) ?_
  refine lv_bipush (v := 97) hx hb dX4_init_243 (by decide) ?_
  refine va_iast hx hb hK hP hD hS 1 0 rfl rfl (zin_i (by decide)) dX4_init_245 (fun H locs hP hD hS => ?_)
  obtain ⟨f42, ef42⟩ : ∃ z : Nat → Int32, z = upd f41 41 97 := ⟨_, rfl⟩
  have hP : va_P D vwCl ([(h0, .inr (4, zbl4)), (a1, .inl (Y 0, 80, .inl f42))]) H := by rw [ef42]; exact hP
  have hD : va_D (zAs h0 s.heap.size) ([(h0, .inr (4, zbl4)), (a1, .inl (Y 0, 80, .inl f42))]) := by rw [ef42]; exact hD
  refine lv_dup hx hb dX4_init_246 rfl ?_
  refine lv_bipush (v := 42) hx hb dX4_init_247 (by decide) ?_
  refine lv_bipush (v := 107) hx hb dX4_init_249 (by decide) ?_
  refine va_iast hx hb hK hP hD hS 1 0 rfl rfl (zin_i (by decide)) dX4_init_251 (fun H locs hP hD hS => ?_)
  obtain ⟨f43, ef43⟩ : ∃ z : Nat → Int32, z = upd f42 42 107 := ⟨_, rfl⟩
  have hP : va_P D vwCl ([(h0, .inr (4, zbl4)), (a1, .inl (Y 0, 80, .inl f43))]) H := by rw [ef43]; exact hP
  have hD : va_D (zAs h0 s.heap.size) ([(h0, .inr (4, zbl4)), (a1, .inl (Y 0, 80, .inl f43))]) := by rw [ef43]; exact hD
  refine lv_dup hx hb dX4_init_252 rfl ?_
  refine lv_bipush (v := 43) hx hb dX4_init_253 (by decide) ?_
  refine lv_bipush (v := 101) hx hb dX4_init_255 (by decide) ?_
  refine va_iast hx hb hK hP hD hS 1 0 rfl rfl (zin_i (by decide)) dX4_init_257 (fun H locs hP hD hS => ?_)
  obtain ⟨f44, ef44⟩ : ∃ z : Nat → Int32, z = upd f43 43 101 := ⟨_, rfl⟩
  have hP : va_P D vwCl ([(h0, .inr (4, zbl4)), (a1, .inl (Y 0, 80, .inl f44))]) H := by rw [ef44]; exact hP
  have hD : va_D (zAs h0 s.heap.size) ([(h0, .inr (4, zbl4)), (a1, .inl (Y 0, 80, .inl f44))]) := by rw [ef44]; exact hD
  refine lv_dup hx hb dX4_init_258 rfl ?_
  refine lv_bipush (v := 44) hx hb dX4_init_259 (by decide) ?_
  refine lv_bipush (v := 115) hx hb dX4_init_261 (by decide) ?_
  refine va_iast hx hb hK hP hD hS 1 0 rfl rfl (zin_i (by decide)) dX4_init_263 (fun H locs hP hD hS => ?_)
  obtain ⟨f45, ef45⟩ : ∃ z : Nat → Int32, z = upd f44 44 115 := ⟨_, rfl⟩
  have hP : va_P D vwCl ([(h0, .inr (4, zbl4)), (a1, .inl (Y 0, 80, .inl f45))]) H := by rw [ef45]; exact hP
  have hD : va_D (zAs h0 s.heap.size) ([(h0, .inr (4, zbl4)), (a1, .inl (Y 0, 80, .inl f45))]) := by rw [ef45]; exact hD
  refine lv_dup hx hb dX4_init_264 rfl ?_
  refine lv_bipush (v := 45) hx hb dX4_init_265 (by decide) ?_
  refine lv_iconst (v := 0) hx hb dX4_init_267 (by decide) ?_
  refine va_iast hx hb hK hP hD hS 1 0 rfl rfl (zin_i (by decide)) dX4_init_268 (fun H locs hP hD hS => ?_)
  obtain ⟨f46, ef46⟩ : ∃ z : Nat → Int32, z = upd f45 45 0 := ⟨_, rfl⟩
  have hP : va_P D vwCl ([(h0, .inr (4, zbl4)), (a1, .inl (Y 0, 80, .inl f46))]) H := by rw [ef46]; exact hP
  have hD : va_D (zAs h0 s.heap.size) ([(h0, .inr (4, zbl4)), (a1, .inl (Y 0, 80, .inl f46))]) := by rw [ef46]; exact hD
  refine lv_dup hx hb dX4_init_269 rfl ?_
  refine lv_bipush (v := 46) hx hb dX4_init_270 (by decide) ?_
  refine lv_iconst (v := 0) hx hb dX4_init_272 (by decide) ?_
  refine va_iast hx hb hK hP hD hS 1 0 rfl rfl (zin_i (by decide)) dX4_init_273 (fun H locs hP hD hS => ?_)
  obtain ⟨f47, ef47⟩ : ∃ z : Nat → Int32, z = upd f46 46 0 := ⟨_, rfl⟩
  have hP : va_P D vwCl ([(h0, .inr (4, zbl4)), (a1, .inl (Y 0, 80, .inl f47))]) H := by rw [ef47]; exact hP
  have hD : va_D (zAs h0 s.heap.size) ([(h0, .inr (4, zbl4)), (a1, .inl (Y 0, 80, .inl f47))]) := by rw [ef47]; exact hD
  refine lv_dup hx hb dX4_init_274 rfl ?_
  refine lv_bipush (v := 47) hx hb dX4_init_275 (by decide) ?_
  refine lv_iconst (v := 0) hx hb dX4_init_277 (by decide) ?_
  refine va_iast hx hb hK hP hD hS 1 0 rfl rfl (zin_i (by decide)) dX4_init_278 (fun H locs hP hD hS => ?_)
  obtain ⟨f48, ef48⟩ : ∃ z : Nat → Int32, z = upd f47 47 0 := ⟨_, rfl⟩
  have hP : va_P D vwCl ([(h0, .inr (4, zbl4)), (a1, .inl (Y 0, 80, .inl f48))]) H := by rw [ef48]; exact hP
  have hD : va_D (zAs h0 s.heap.size) ([(h0, .inr (4, zbl4)), (a1, .inl (Y 0, 80, .inl f48))]) := by rw [ef48]; exact hD
  refine lv_dup hx hb dX4_init_279 rfl ?_
  refine lv_bipush (v := 48) hx hb dX4_init_280 (by decide) ?_
  refine lv_bipush (v := 100) hx hb dX4_init_282 (by decide) ?_
  refine va_iast hx hb hK hP hD hS 1 0 rfl rfl (zin_i (by decide)) dX4_init_284 (fun H locs hP hD hS => ?_)
  obtain ⟨f49, ef49⟩ : ∃ z : Nat → Int32, z = upd f48 48 100 := ⟨_, rfl⟩
  have hP : va_P D vwCl ([(h0, .inr (4, zbl4)), (a1, .inl (Y 0, 80, .inl f49))]) H := by rw [ef49]; exact hP
  have hD : va_D (zAs h0 s.heap.size) ([(h0, .inr (4, zbl4)), (a1, .inl (Y 0, 80, .inl f49))]) := by rw [ef49]; exact hD
  refine lv_dup hx hb dX4_init_285 rfl ?_
  refine lv_bipush (v := 49) hx hb dX4_init_286 (by decide) ?_
  refine lv_bipush (v := 97) hx hb dX4_init_288 (by decide) ?_
  refine va_iast hx hb hK hP hD hS 1 0 rfl rfl (zin_i (by decide)) dX4_init_290 (fun H locs hP hD hS => ?_)
  obtain ⟨f50, ef50⟩ : ∃ z : Nat → Int32, z = upd f49 49 97 := ⟨_, rfl⟩
  have hP : va_P D vwCl ([(h0, .inr (4, zbl4)), (a1, .inl (Y 0, 80, .inl f50))]) H := by rw [ef50]; exact hP
  have hD : va_D (zAs h0 s.heap.size) ([(h0, .inr (4, zbl4)), (a1, .inl (Y 0, 80, .inl f50))]) := by rw [ef50]; exact hD
  refine lv_dup hx hb dX4_init_291 rfl ?_
  refine lv_bipush (v := 50) hx hb dX4_init_292 (by decide) ?_
  refine lv_bipush (v := 121) hx hb dX4_init_294 (by decide) ?_
  refine va_iast hx hb hK hP hD hS 1 0 rfl rfl (zin_i (by decide)) dX4_init_296 (fun H locs hP hD hS => ?_)
  obtain ⟨f51, ef51⟩ : ∃ z : Nat → Int32, z = upd f50 50 121 := ⟨_, rfl⟩
  have hP : va_P D vwCl ([(h0, .inr (4, zbl4)), (a1, .inl (Y 0, 80, .inl f51))]) H := by rw [ef51]; exact hP
  have hD : va_D (zAs h0 s.heap.size) ([(h0, .inr (4, zbl4)), (a1, .inl (Y 0, 80, .inl f51))]) := by rw [ef51]; exact hD
  refine lv_dup hx hb dX4_init_297 rfl ?_
  refine lv_bipush (v := 51) hx hb dX4_init_298 (by decide) ?_
  refine lv_bipush (v := 115) hx hb dX4_init_300 (by decide) ?_
  refine va_iast hx hb hK hP hD hS 1 0 rfl rfl (zin_i (by decide)) dX4_init_302 (fun H locs hP hD hS => ?_)
  obtain ⟨f52, ef52⟩ : ∃ z : Nat → Int32, z = upd f51 51 115 := ⟨_, rfl⟩
  have hP : va_P D vwCl ([(h0, .inr (4, zbl4)), (a1, .inl (Y 0, 80, .inl f52))]) H := by rw [ef52]; exact hP
  have hD : va_D (zAs h0 s.heap.size) ([(h0, .inr (4, zbl4)), (a1, .inl (Y 0, 80, .inl f52))]) := by rw [ef52]; exact hD
  refine lv_dup hx hb dX4_init_303 rfl ?_
  refine lv_bipush (v := 52) hx hb dX4_init_304 (by decide) ?_
  refine lv_iconst (v := 0) hx hb dX4_init_306 (by decide) ?_
  refine va_iast hx hb hK hP hD hS 1 0 rfl rfl (zin_i (by decide)) dX4_init_307 (fun H locs hP hD hS => ?_)
  obtain ⟨f53, ef53⟩ : ∃ z : Nat → Int32, z = upd f52 52 0 := ⟨_, rfl⟩
  have hP : va_P D vwCl ([(h0, .inr (4, zbl4)), (a1, .inl (Y 0, 80, .inl f53))]) H := by rw [ef53]; exact hP
  have hD : va_D (zAs h0 s.heap.size) ([(h0, .inr (4, zbl4)), (a1, .inl (Y 0, 80, .inl f53))]) := by rw [ef53]; exact hD
  refine lv_dup hx hb dX4_init_308 rfl ?_
  refine lv_bipush (v := 53) hx hb dX4_init_309 (by decide) ?_
  refine lv_iconst (v := 0) hx hb dX4_init_311 (by decide) ?_
  refine va_iast hx hb hK hP hD hS 1 0 rfl rfl (zin_i (by decide)) dX4_init_312 (fun H locs hP hD hS => ?_)
  obtain ⟨f54, ef54⟩ : ∃ z : Nat → Int32, z = upd f53 53 0 := ⟨_, rfl⟩
  have hP : va_P D vwCl ([(h0, .inr (4, zbl4)), (a1, .inl (Y 0, 80, .inl f54))]) H := by rw [ef54]; exact hP
  have hD : va_D (zAs h0 s.heap.size) ([(h0, .inr (4, zbl4)), (a1, .inl (Y 0, 80, .inl f54))]) := by rw [ef54]; exact hD
  refine lv_dup hx hb dX4_init_313 rfl ?_
  refine lv_bipush (v := 54) hx hb dX4_init_314 (by decide) ?_
  refine lv_iconst (v := 0) hx hb dX4_init_316 (by decide) ?_
  refine va_iast hx hb hK hP hD hS 1 0 rfl rfl (zin_i (by decide)) dX4_init_317 (fun H locs hP hD hS => ?_)
  obtain ⟨f55, ef55⟩ : ∃ z : Nat → Int32, z = upd f54 54 0 := ⟨_, rfl⟩
  have hP : va_P D vwCl ([(h0, .inr (4, zbl4)), (a1, .inl (Y 0, 80, .inl f55))]) H := by rw [ef55]; exact hP
  have hD : va_D (zAs h0 s.heap.size) ([(h0, .inr (4, zbl4)), (a1, .inl (Y 0, 80, .inl f55))]) := by rw [ef55]; exact hD
  refine lv_dup hx hb dX4_init_318 rfl ?_
  refine lv_bipush (v := 55) hx hb dX4_init_319 (by decide) ?_
  refine lv_iconst (v := 0) hx hb dX4_init_321 (by decide) ?_
  refine va_iast hx hb hK hP hD hS 1 0 rfl rfl (zin_i (by decide)) dX4_init_322 (fun H locs hP hD hS => ?_)
  obtain ⟨f56, ef56⟩ : ∃ z : Nat → Int32, z = upd f55 55 0 := ⟨_, rfl⟩
  have hP : va_P D vwCl ([(h0, .inr (4, zbl4)), (a1, .inl (Y 0, 80, .inl f56))]) H := by rw [ef56]; exact hP
  have hD : va_D (zAs h0 s.heap.size) ([(h0, .inr (4, zbl4)), (a1, .inl (Y 0, 80, .inl f56))]) := by rw [ef56]; exact hD
  refine lv_dup hx hb dX4_init_323 rfl ?_
  refine lv_bipush (v := 56) hx hb dX4_init_324 (by decide) ?_
  refine lv_bipush (v := 97) hx hb dX4_init_326 (by decide) ?_
  refine va_iast hx hb hK hP hD hS 1 0 rfl rfl (zin_i (by decide)) dX4_init_328 (fun H locs hP hD hS => ?_)
  obtain ⟨f57, ef57⟩ : ∃ z : Nat → Int32, z = upd f56 56 97 := ⟨_, rfl⟩
  have hP : va_P D vwCl ([(h0, .inr (4, zbl4)), (a1, .inl (Y 0, 80, .inl f57))]) H := by rw [ef57]; exact hP
  have hD : va_D (zAs h0 s.heap.size) ([(h0, .inr (4, zbl4)), (a1, .inl (Y 0, 80, .inl f57))]) := by rw [ef57]; exact hD
  refine lv_dup hx hb dX4_init_329 rfl ?_
  refine lv_bipush (v := 57) hx hb dX4_init_330 (by decide) ?_
  refine lv_bipush (v := 100) hx hb dX4_init_332 (by decide) ?_
  refine va_iast hx hb hK hP hD hS 1 0 rfl rfl (zin_i (by decide)) dX4_init_334 (fun H locs hP hD hS => ?_)
  obtain ⟨f58, ef58⟩ : ∃ z : Nat → Int32, z = upd f57 57 100 := ⟨_, rfl⟩
  have hP : va_P D vwCl ([(h0, .inr (4, zbl4)), (a1, .inl (Y 0, 80, .inl f58))]) H := by rw [ef58]; exact hP
  have hD : va_D (zAs h0 s.heap.size) ([(h0, .inr (4, zbl4)), (a1, .inl (Y 0, 80, .inl f58))]) := by rw [ef58]; exact hD
  refine lv_dup hx hb dX4_init_335 rfl ?_
  refine lv_bipush (v := 58) hx hb dX4_init_336 (by decide) ?_
  refine lv_bipush (v := 97) hx hb dX4_init_338 (by decide) ?_
  refine va_iast hx hb hK hP hD hS 1 0 rfl rfl (zin_i (by decide)) dX4_init_340 (fun H locs hP hD hS => ?_)
  obtain ⟨f59, ef59⟩ : ∃ z : Nat → Int32, z = upd f58 58 97 := ⟨_, rfl⟩
  have hP : va_P D vwCl ([(h0, .inr (4, zbl4)), (a1, .inl (Y 0, 80, .inl f59))]) H := by rw [ef59]; exact hP
  have hD : va_D (zAs h0 s.heap.size) ([(h0, .inr (4, zbl4)), (a1, .inl (Y 0, 80, .inl f59))]) := by rw [ef59]; exact hD
  refine lv_dup hx hb dX4_init_341 rfl ?_
  refine lv_bipush (v := 59) hx hb dX4_init_342 (by decide) ?_
  refine lv_iconst (v := 0) hx hb dX4_init_344 (by decide) ?_
  refine va_iast hx hb hK hP hD hS 1 0 rfl rfl (zin_i (by decide)) dX4_init_345 (fun H locs hP hD hS => ?_)
  obtain ⟨f60, ef60⟩ : ∃ z : Nat → Int32, z = upd f59 59 0 := ⟨_, rfl⟩
  have hP : va_P D vwCl ([(h0, .inr (4, zbl4)), (a1, .inl (Y 0, 80, .inl f60))]) H := by rw [ef60]; exact hP
  have hD : va_D (zAs h0 s.heap.size) ([(h0, .inr (4, zbl4)), (a1, .inl (Y 0, 80, .inl f60))]) := by rw [ef60]; exact hD
  refine lv_dup hx hb dX4_init_346 rfl ?_
  refine lv_bipush (v := 60) hx hb dX4_init_347 (by decide) ?_
  refine lv_iconst (v := 0) hx hb dX4_init_349 (by decide) ?_
  refine va_iast hx hb hK hP hD hS 1 0 rfl rfl (zin_i (by decide)) dX4_init_350 (fun H locs hP hD hS => ?_)
  obtain ⟨f61, ef61⟩ : ∃ z : Nat → Int32, z = upd f60 60 0 := ⟨_, rfl⟩
  have hP : va_P D vwCl ([(h0, .inr (4, zbl4)), (a1, .inl (Y 0, 80, .inl f61))]) H := by rw [ef61]; exact hP
  have hD : va_D (zAs h0 s.heap.size) ([(h0, .inr (4, zbl4)), (a1, .inl (Y 0, 80, .inl f61))]) := by rw [ef61]; exact hD
  refine lv_dup hx hb dX4_init_351 rfl ?_
  refine lv_bipush (v := 61) hx hb dX4_init_352 (by decide) ?_
  refine lv_iconst (v := 0) hx hb dX4_init_354 (by decide) ?_
  refine va_iast hx hb hK hP hD hS 1 0 rfl rfl (zin_i (by decide)) dX4_init_355 (fun H locs hP hD hS => ?_)
  obtain ⟨f62, ef62⟩ : ∃ z : Nat → Int32, z = upd f61 61 0 := ⟨_, rfl⟩
  have hP : va_P D vwCl ([(h0, .inr (4, zbl4)), (a1, .inl (Y 0, 80, .inl f62))]) H := by rw [ef62]; exact hP
  have hD : va_D (zAs h0 s.heap.size) ([(h0, .inr (4, zbl4)), (a1, .inl (Y 0, 80, .inl f62))]) := by rw [ef62]; exact hD
  refine lv_dup hx hb dX4_init_356 rfl ?_
  refine lv_bipush (v := 62) hx hb dX4_init_357 (by decide) ?_
  refine lv_iconst (v := 0) hx hb dX4_init_359 (by decide) ?_
  refine va_iast hx hb hK hP hD hS 1 0 rfl rfl (zin_i (by decide)) dX4_init_360 (fun H locs hP hD hS => ?_)
  obtain ⟨f63, ef63⟩ : ∃ z : Nat → Int32, z = upd f62 62 0 := ⟨_, rfl⟩
  have hP : va_P D vwCl ([(h0, .inr (4, zbl4)), (a1, .inl (Y 0, 80, .inl f63))]) H := by rw [ef63]; exact hP
  have hD : va_D (zAs h0 s.heap.size) ([(h0, .inr (4, zbl4)), (a1, .inl (Y 0, 80, .inl f63))]) := by rw [ef63]; exact hD
  refine lv_dup hx hb dX4_init_361 rfl ?_
  refine lv_bipush (v := 63) hx hb dX4_init_362 (by decide) ?_
  refine lv_iconst (v := 0) hx hb dX4_init_364 (by decide) ?_
  refine va_iast hx hb hK hP hD hS 1 0 rfl rfl (zin_i (by decide)) dX4_init_365 (fun H locs hP hD hS => ?_)
  obtain ⟨f64, ef64⟩ : ∃ z : Nat → Int32, z = upd f63 63 0 := ⟨_, rfl⟩
  have hP : va_P D vwCl ([(h0, .inr (4, zbl4)), (a1, .inl (Y 0, 80, .inl f64))]) H := by rw [ef64]; exact hP
  have hD : va_D (zAs h0 s.heap.size) ([(h0, .inr (4, zbl4)), (a1, .inl (Y 0, 80, .inl f64))]) := by rw [ef64]; exact hD
  refine lv_dup hx hb dX4_init_366 rfl ?_
  refine lv_bipush (v := 64) hx hb dX4_init_367 (by decide) ?_
  refine lv_bipush (v := 98) hx hb dX4_init_369 (by decide) ?_
  refine va_iast hx hb hK hP hD hS 1 0 rfl rfl (zin_i (by decide)) dX4_init_371 (fun H locs hP hD hS => ?_)
  obtain ⟨f65, ef65⟩ : ∃ z : Nat → Int32, z = upd f64 64 98 := ⟨_, rfl⟩
  have hP : va_P D vwCl ([(h0, .inr (4, zbl4)), (a1, .inl (Y 0, 80, .inl f65))]) H := by rw [ef65]; exact hP
  have hD : va_D (zAs h0 s.heap.size) ([(h0, .inr (4, zbl4)), (a1, .inl (Y 0, 80, .inl f65))]) := by rw [ef65]; exact hD
  refine lv_dup hx hb dX4_init_372 rfl ?_
  refine lv_bipush (v := 65) hx hb dX4_init_373 (by decide) ?_
  refine lv_bipush (v := 101) hx hb dX4_init_375 (by decide) ?_
  refine va_iast hx hb hK hP hD hS 1 0 rfl rfl (zin_i (by decide)) dX4_init_377 (fun H locs hP hD hS => ?_)
  obtain ⟨f66, ef66⟩ : ∃ z : Nat → Int32, z = upd f65 65 101 := ⟨_, rfl⟩
  have hP : va_P D vwCl ([(h0, .inr (4, zbl4)), (a1, .inl (Y 0, 80, .inl f66))]) H := by rw [ef66]; exact hP
  have hD : va_D (zAs h0 s.heap.size) ([(h0, .inr (4, zbl4)), (a1, .inl (Y 0, 80, .inl f66))]) := by rw [ef66]; exact hD
  refine lv_dup hx hb dX4_init_378 rfl ?_
  refine lv_bipush (v := 66) hx hb dX4_init_379 (by decide) ?_
  refine lv_bipush (v := 110) hx hb dX4_init_381 (by decide) ?_
  refine va_iast hx hb hK hP hD hS 1 0 rfl rfl (zin_i (by decide)) dX4_init_383 (fun H locs hP hD hS => ?_)
  obtain ⟨f67, ef67⟩ : ∃ z : Nat → Int32, z = upd f66 66 110 := ⟨_, rfl⟩
  have hP : va_P D vwCl ([(h0, .inr (4, zbl4)), (a1, .inl (Y 0, 80, .inl f67))]) H := by rw [ef67]; exact hP
  have hD : va_D (zAs h0 s.heap.size) ([(h0, .inr (4, zbl4)), (a1, .inl (Y 0, 80, .inl f67))]) := by rw [ef67]; exact hD
  refine lv_dup hx hb dX4_init_384 rfl ?_
  refine lv_bipush (v := 67) hx hb dX4_init_385 (by decide) ?_
  refine lv_iconst (v := 0) hx hb dX4_init_387 (by decide) ?_
  refine va_iast hx hb hK hP hD hS 1 0 rfl rfl (zin_i (by decide)) dX4_init_388 (fun H locs hP hD hS => ?_)
  obtain ⟨f68, ef68⟩ : ∃ z : Nat → Int32, z = upd f67 67 0 := ⟨_, rfl⟩
  have hP : va_P D vwCl ([(h0, .inr (4, zbl4)), (a1, .inl (Y 0, 80, .inl f68))]) H := by rw [ef68]; exact hP
  have hD : va_D (zAs h0 s.heap.size) ([(h0, .inr (4, zbl4)), (a1, .inl (Y 0, 80, .inl f68))]) := by rw [ef68]; exact hD
  refine lv_dup hx hb dX4_init_389 rfl ?_
  refine lv_bipush (v := 68) hx hb dX4_init_390 (by decide) ?_
  refine lv_iconst (v := 0) hx hb dX4_init_392 (by decide) ?_
  refine va_iast hx hb hK hP hD hS 1 0 rfl rfl (zin_i (by decide)) dX4_init_393 (fun H locs hP hD hS => ?_)
  obtain ⟨f69, ef69⟩ : ∃ z : Nat → Int32, z = upd f68 68 0 := ⟨_, rfl⟩
  have hP : va_P D vwCl ([(h0, .inr (4, zbl4)), (a1, .inl (Y 0, 80, .inl f69))]) H := by rw [ef69]; exact hP
  have hD : va_D (zAs h0 s.heap.size) ([(h0, .inr (4, zbl4)), (a1, .inl (Y 0, 80, .inl f69))]) := by rw [ef69]; exact hD
  refine lv_dup hx hb dX4_init_394 rfl ?_
  refine lv_bipush (v := 69) hx hb dX4_init_395 (by decide) ?_
  refine lv_iconst (v := 0) hx hb dX4_init_397 (by decide) ?_
  refine va_iast hx hb hK hP hD hS 1 0 rfl rfl (zin_i (by decide)) dX4_init_398 (fun H locs hP hD hS => ?_)
  obtain ⟨f70, ef70⟩ : ∃ z : Nat → Int32, z = upd f69 69 0 := ⟨_, rfl⟩
  have hP : va_P D vwCl ([(h0, .inr (4, zbl4)), (a1, .inl (Y 0, 80, .inl f70))]) H := by rw [ef70]; exact hP
  have hD : va_D (zAs h0 s.heap.size) ([(h0, .inr (4, zbl4)), (a1, .inl (Y 0, 80, .inl f70))]) := by rw [ef70]; exact hD
  refine lv_dup hx hb dX4_init_399 rfl ?_
  refine lv_bipush (v := 70) hx hb dX4_init_400 (by decide) ?_
  refine lv_iconst (v := 0) hx hb dX4_init_402 (by decide) ?_
  refine va_iast hx hb hK hP hD hS 1 0 rfl rfl (zin_i (by decide)) dX4_init_403 (fun H locs hP hD hS => ?_)
  obtain ⟨f71, ef71⟩ : ∃ z : Nat → Int32, z = upd f70 70 0 := ⟨_, rfl⟩
  have hP : va_P D vwCl ([(h0, .inr (4, zbl4)), (a1, .inl (Y 0, 80, .inl f71))]) H := by rw [ef71]; exact hP
  have hD : va_D (zAs h0 s.heap.size) ([(h0, .inr (4, zbl4)), (a1, .inl (Y 0, 80, .inl f71))]) := by rw [ef71]; exact hD
  refine lv_dup hx hb dX4_init_404 rfl ?_
  refine lv_bipush (v := 71) hx hb dX4_init_405 (by decide) ?_
  refine lv_iconst (v := 0) hx hb dX4_init_407 (by decide) ?_
  refine va_iast hx hb hK hP hD hS 1 0 rfl rfl (zin_i (by decide)) dX4_init_408 (fun H locs hP hD hS => ?_)
  obtain ⟨f72, ef72⟩ : ∃ z : Nat → Int32, z = upd f71 71 0 := ⟨_, rfl⟩
  have hP : va_P D vwCl ([(h0, .inr (4, zbl4)), (a1, .inl (Y 0, 80, .inl f72))]) H := by rw [ef72]; exact hP
  have hD : va_D (zAs h0 s.heap.size) ([(h0, .inr (4, zbl4)), (a1, .inl (Y 0, 80, .inl f72))]) := by rw [ef72]; exact hD
  refine lv_dup hx hb dX4_init_409 rfl ?_
  refine lv_bipush (v := 72) hx hb dX4_init_410 (by decide) ?_
  refine lv_bipush (v := 99) hx hb dX4_init_412 (by decide) ?_
  refine va_iast hx hb hK hP hD hS 1 0 rfl rfl (zin_i (by decide)) dX4_init_414 (fun H locs hP hD hS => ?_)
  obtain ⟨f73, ef73⟩ : ∃ z : Nat → Int32, z = upd f72 72 99 := ⟨_, rfl⟩
  have hP : va_P D vwCl ([(h0, .inr (4, zbl4)), (a1, .inl (Y 0, 80, .inl f73))]) H := by rw [ef73]; exact hP
  have hD : va_D (zAs h0 s.heap.size) ([(h0, .inr (4, zbl4)), (a1, .inl (Y 0, 80, .inl f73))]) := by rw [ef73]; exact hD
  refine lv_dup hx hb dX4_init_415 rfl ?_
  refine lv_bipush (v := 73) hx hb dX4_init_416 (by decide) ?_
  refine lv_bipush (v := 108) hx hb dX4_init_418 (by decide) ?_
  refine va_iast hx hb hK hP hD hS 1 0 rfl rfl (zin_i (by decide)) dX4_init_420 (fun H locs hP hD hS => ?_)
  obtain ⟨f74, ef74⟩ : ∃ z : Nat → Int32, z = upd f73 73 108 := ⟨_, rfl⟩
  have hP : va_P D vwCl ([(h0, .inr (4, zbl4)), (a1, .inl (Y 0, 80, .inl f74))]) H := by rw [ef74]; exact hP
  have hD : va_D (zAs h0 s.heap.size) ([(h0, .inr (4, zbl4)), (a1, .inl (Y 0, 80, .inl f74))]) := by rw [ef74]; exact hD
  refine lv_dup hx hb dX4_init_421 rfl ?_
  refine lv_bipush (v := 74) hx hb dX4_init_422 (by decide) ?_
  refine lv_bipush (v := 101) hx hb dX4_init_424 (by decide) ?_
  refine va_iast hx hb hK hP hD hS 1 0 rfl rfl (zin_i (by decide)) dX4_init_426 (fun H locs hP hD hS => ?_)
  obtain ⟨f75, ef75⟩ : ∃ z : Nat → Int32, z = upd f74 74 101 := ⟨_, rfl⟩
  have hP : va_P D vwCl ([(h0, .inr (4, zbl4)), (a1, .inl (Y 0, 80, .inl f75))]) H := by rw [ef75]; exact hP
  have hD : va_D (zAs h0 s.heap.size) ([(h0, .inr (4, zbl4)), (a1, .inl (Y 0, 80, .inl f75))]) := by rw [ef75]; exact hD
  refine lv_dup hx hb dX4_init_427 rfl ?_
  refine lv_bipush (v := 75) hx hb dX4_init_428 (by decide) ?_
  refine lv_bipush (v := 111) hx hb dX4_init_430 (by decide) ?_
  refine va_iast hx hb hK hP hD hS 1 0 rfl rfl (zin_i (by decide)) dX4_init_432 (fun H locs hP hD hS => ?_)
  obtain ⟨f76, ef76⟩ : ∃ z : Nat → Int32, z = upd f75 75 111 := ⟨_, rfl⟩
  have hP : va_P D vwCl ([(h0, .inr (4, zbl4)), (a1, .inl (Y 0, 80, .inl f76))]) H := by rw [ef76]; exact hP
  have hD : va_D (zAs h0 s.heap.size) ([(h0, .inr (4, zbl4)), (a1, .inl (Y 0, 80, .inl f76))]) := by rw [ef76]; exact hD
  refine lv_dup hx hb dX4_init_433 rfl ?_
  refine lv_bipush (v := 76) hx hb dX4_init_434 (by decide) ?_
  refine lv_iconst (v := 0) hx hb dX4_init_436 (by decide) ?_
  refine va_iast hx hb hK hP hD hS 1 0 rfl rfl (zin_i (by decide)) dX4_init_437 (fun H locs hP hD hS => ?_)
  obtain ⟨f77, ef77⟩ : ∃ z : Nat → Int32, z = upd f76 76 0 := ⟨_, rfl⟩
  have hP : va_P D vwCl ([(h0, .inr (4, zbl4)), (a1, .inl (Y 0, 80, .inl f77))]) H := by rw [ef77]; exact hP
  have hD : va_D (zAs h0 s.heap.size) ([(h0, .inr (4, zbl4)), (a1, .inl (Y 0, 80, .inl f77))]) := by rw [ef77]; exact hD
  refine lv_dup hx hb dX4_init_438 rfl ?_
  refine lv_bipush (v := 77) hx hb dX4_init_439 (by decide) ?_
  refine lv_iconst (v := 0) hx hb dX4_init_441 (by decide) ?_
  refine va_iast hx hb hK hP hD hS 1 0 rfl rfl (zin_i (by decide)) dX4_init_442 (fun H locs hP hD hS => ?_)
  obtain ⟨f78, ef78⟩ : ∃ z : Nat → Int32, z = upd f77 77 0 := ⟨_, rfl⟩
  have hP : va_P D vwCl ([(h0, .inr (4, zbl4)), (a1, .inl (Y 0, 80, .inl f78))]) H := by rw [ef78]; exact hP
  have hD : va_D (zAs h0 s.heap.size) ([(h0, .inr (4, zbl4)), (a1, .inl (Y 0, 80, .inl f78))]) := by rw [ef78]; exact hD
  refine lv_dup hx hb dX4_init_443 rfl ?_
  refine lv_bipush (v := 78) hx hb dX4_init_444 (by decide) ?_
  refine lv_iconst (v := 0) hx hb dX4_init_446 (by decide) ?_
  refine va_iast hx hb hK hP hD hS 1 0 rfl rfl (zin_i (by decide)) dX4_init_447 (fun H locs hP hD hS => ?_)
  obtain ⟨f79, ef79⟩ : ∃ z : Nat → Int32, z = upd f78 78 0 := ⟨_, rfl⟩
  have hP : va_P D vwCl ([(h0, .inr (4, zbl4)), (a1, .inl (Y 0, 80, .inl f79))]) H := by rw [ef79]; exact hP
  have hD : va_D (zAs h0 s.heap.size) ([(h0, .inr (4, zbl4)), (a1, .inl (Y 0, 80, .inl f79))]) := by rw [ef79]; exact hD
  refine lv_dup hx hb dX4_init_448 rfl ?_
  refine lv_bipush (v := 79) hx hb dX4_init_449 (by decide) ?_
  refine lv_iconst (v := 0) hx hb dX4_init_451 (by decide) ?_
  refine va_iast hx hb hK hP hD hS 1 0 rfl rfl (zin_i (by decide)) dX4_init_452 (fun H locs hP hD hS => ?_)
  obtain ⟨f80, ef80⟩ : ∃ z : Nat → Int32, z = upd f79 79 0 := ⟨_, rfl⟩
  have hP : va_P D vwCl ([(h0, .inr (4, zbl4)), (a1, .inl (Y 0, 80, .inl f80))]) H := by rw [ef80]; exact hP
  have hD : va_D (zAs h0 s.heap.size) ([(h0, .inr (4, zbl4)), (a1, .inl (Y 0, 80, .inl f80))]) := by rw [ef80]; exact hD
  refine va_putF (D := D) (ci := 4) (v := .ref a1) (ty := .array .int) (C := RX4) (T := TX4) (N := 24) hx hb hts (fun w h => List.mem_cons_of_mem _ (ziX4 w h)) tyX4 tyX4_ok nmX4 hown hK hP hD hS 0 rfl rfl 0 (by decide) (ok _ m_1141) (fun _ h9 => h9) rfl hin rfl (by decide +kernel) rfl rfl (Nat.le_of_ble_eq_true rfl) dX4_init_453 (fun H locs hP hD hS => ?_)
  have hP : va_P D vwCl ([(h0, .inr (4, [.ref a1, .int 0, .null, .null, .null, .int 0, .null, .int 0, .null, .null, .int 0, .null, .int 0, .int 0, .int 0, .int 0, .int 0, .int 0, .int 0, .int 0, .int 0, .int 0, .int 0, .int 0])), (a1, .inl (Y 0, 80, .inl f80))]) H := hP
  have hD : va_D (zAs h0 s.heap.size) ([(h0, .inr (4, [.ref a1, .int 0, .null, .null, .null, .int 0, .null, .int 0, .null, .null, .int 0, .null, .int 0, .int 0, .int 0, .int 0, .int 0, .int 0, .int 0, .int 0, .int 0, .int 0, .int 0, .int 0])), (a1, .inl (Y 0, 80, .inl f80))]) := hD
  refine lv_aload_n hx hb dX4_init_456 rfl (lv_at hl 0 rfl) ?_
  refine lv_sipush (v := 151) hx hb dX4_init_457 (by decide) ?_
  refine va_newa (atype := .int) (ty := .int) (a0 := (151, .inl fun _ => 0)) (N' := 151) hx hb (ok _ m_202) rfl hK hP hD hS hA (fun _ => rfl) (by decide) (by decide) (Nat.le_of_ble_eq_true rfl) (Nat.le_of_ble_eq_true rfl) (Nat.le_of_ble_eq_true rfl) dX4_init_460 (fun a2 cA H hK1 hP hD hS => ?_)
  obtain rfl := (zY_of hK).1 hK1
  have hP : va_P D vwCl ([(h0, .inr (4, [.ref a1, .int 0, .null, .null, .null, .int 0, .null, .int 0, .null, .null, .int 0, .null, .int 0, .int 0, .int 0, .int 0, .int 0, .int 0, .int 0, .int 0, .int 0, .int 0, .int 0, .int 0])), (a1, .inl (Y 0, 80, .inl f80)), (a2, .inl (Y 0, 151, .inl fun _ => 0))]) H := hP
  have hD : va_D (zAs h0 s.heap.size) ([(h0, .inr (4, [.ref a1, .int 0, .null, .null, .null, .int 0, .null, .int 0, .null, .null, .int 0, .null, .int 0, .int 0, .int 0, .int 0, .int 0, .int 0, .int 0, .int 0, .int 0, .int 0, .int 0, .int 0])), (a1, .inl (Y 0, 80, .inl f80)), (a2, .inl (Y 0, 151, .inl fun _ => 0))]) := hD
  refine va_putF (D := D) (ci := 4) (v := .ref a2) (ty := .array .int) (C := RX4) (T := TX4) (N := 24) hx hb hts (fun w h => List.mem_cons_of_mem _ (ziX4 w h)) tyX4 tyX4_ok nmX4 hown hK hP hD hS 0 rfl rfl 2 (by decide) (ok _ m_1143) (fun _ h9 => h9) rfl hin rfl (by decide +kernel) rfl rfl (Nat.le_of_ble_eq_true rfl) dX4_init_462 (fun H locs hP hD hS => ?_)
  have hP : va_P D vwCl ([(h0, .inr (4, [.ref a1, .int 0, .ref a2, .null, .null, .int 0, .null, .int 0, .null, .null, .int 0, .null, .int 0, .int 0, .int 0, .int 0, .int 0, .int 0, .int 0, .int 0, .int 0, .int 0, .int 0, .int 0])), (a1, .inl (Y 0, 80, .inl f80)), (a2, .inl (Y 0, 151, .inl fun _ => 0))]) H := hP
  have hD : va_D (zAs h0 s.heap.size) ([(h0, .inr (4, [.ref a1, .int 0, .ref a2, .null, .null, .int 0, .null, .int 0, .null, .null, .int 0, .null, .int 0, .int 0, .int 0, .int 0, .int 0, .int 0, .int 0, .int 0, .int 0, .int 0, .int 0, .int 0])), (a1, .inl (Y 0, 80, .inl f80)), (a2, .inl (Y 0, 151, .inl fun _ => 0))]) := hD
  refine lv_aload_n hx hb dX4_init_465 rfl (lv_at hl 0 rfl) ?_
  refine lv_sipush (v := 151) hx hb dX4_init_466 (by decide) ?_
  refine va_newa (atype := .int) (ty := .int) (a0 := (151, .inl fun _ => 0)) (N' := 151) hx hb (ok _ m_202) rfl hK hP hD hS hA (fun _ => rfl) (by decide) (by decide) (Nat.le_of_ble_eq_true rfl) (Nat.le_of_ble_eq_true rfl) (Nat.le_of_ble_eq_true rfl) dX4_init_469 (fun a3 cA H hK1 hP hD hS => ?_)
  obtain rfl := (zY_of hK).1 hK1
  have hP : va_P D vwCl ([(h0, .inr (4, [.ref a1, .int 0, .ref a2, .null, .null, .int 0, .null, .int 0, .null, .null, .int 0, .null, .int 0, .int 0, .int 0, .int 0, .int 0, .int 0, .int 0, .int 0, .int 0, .int 0, .int 0, .int 0])), (a1, .inl (Y 0, 80, .inl f80)), (a2, .inl (Y 0, 151, .inl fun _ => 0)), (a3, .inl (Y 0, 151, .inl fun _ => 0))]) H := hP
  have hD : va_D (zAs h0 s.heap.size) ([(h0, .inr (4, [.ref a1, .int 0, .ref a2, .null, .null, .int 0, .null, .int 0, .null, .null, .int 0, .null, .int 0, .int 0, .int 0, .int 0, .int 0, .int 0, .int 0, .int 0, .int 0, .int 0, .int 0, .int 0])), (a1, .inl (Y 0, 80, .inl f80)), (a2, .inl (Y 0, 151, .inl fun _ => 0)), (a3, .inl (Y 0, 151, .inl fun _ => 0))]) := hD
  refine va_putF (D := D) (ci := 4) (v := .ref a3) (ty := .array .int) (C := RX4) (T := TX4) (N := 24) hx hb hts (fun w h => List.mem_cons_of_mem _ (ziX4 w h)) tyX4 tyX4_ok nmX4 hown hK hP hD hS 0 rfl rfl 3 (by decide) (ok _ m_1144) (fun _ h9 => h9) rfl hin rfl (by decide +kernel) rfl rfl (Nat.le_of_ble_eq_true rfl) dX4_init_471 (fun H locs hP hD hS => ?_)
  have hP : va_P D vwCl ([(h0, .inr (4, [.ref a1, .int 0, .ref a2, .ref a3, .null, .int 0, .null, .int 0, .null, .null, .int 0, .null, .int 0, .int 0, .int 0, .int 0, .int 0, .int 0, .int 0, .int 0, .int 0, .int 0, .int 0, .int 0])), (a1, .inl (Y 0, 80, .inl f80)), (a2, .inl (Y 0, 151, .inl fun _ => 0)), (a3, .inl (Y 0, 151, .inl fun _ => 0))]) H := hP
  have hD : va_D (zAs h0 s.heap.size) ([(h0, .inr (4, [.ref a1, .int 0, .ref a2, .ref a3, .null, .int 0, .null, .int 0, .null, .null, .int 0, .null, .int 0, .int 0, .int 0, .int 0, .int 0, .int 0, .int 0, .int 0, .int 0, .int 0, .int 0, .int 0])), (a1, .inl (Y 0, 80, .inl f80)), (a2, .inl (Y 0, 151, .inl fun _ => 0)), (a3, .inl (Y 0, 151, .inl fun _ => 0))]) := hD
  refine lv_aload_n hx hb dX4_init_474 rfl (lv_at hl 0 rfl) ?_
  refine lv_sipush (v := 1510) hx hb dX4_init_475 (by decide) ?_
  refine va_newa (atype := .int) (ty := .int) (a0 := (1510, .inl fun _ => 0)) (N' := 1510) hx hb (ok _ m_202) rfl hK hP hD hS hA (fun _ => rfl) (by decide) (by decide) (Nat.le_of_ble_eq_true rfl) (Nat.le_of_ble_eq_true rfl) (Nat.le_of_ble_eq_true rfl) dX4_init_478 (fun a4 cA H hK1 hP hD hS => ?_)
  obtain rfl := (zY_of hK).1 hK1
  have hP : va_P D vwCl ([(h0, .inr (4, [.ref a1, .int 0, .ref a2, .ref a3, .null, .int 0, .null, .int 0, .null, .null, .int 0, .null, .int 0, .int 0, .int 0, .int 0, .int 0, .int 0, .int 0, .int 0, .int 0, .int 0, .int 0, .int 0])), (a1, .inl (Y 0, 80, .inl f80)), (a2, .inl (Y 0, 151, .inl fun _ => 0)), (a3, .inl (Y 0, 151, .inl fun _ => 0)), (a4, .inl (Y 0, 1510, .inl fun _ => 0))]) H := hP
  have hD : va_D (zAs h0 s.heap.size) ([(h0, .inr (4, [.ref a1, .int 0, .ref a2, .ref a3, .null, .int 0, .null, .int 0, .null, .null, .int 0, .null, .int 0, .int 0, .int 0, .int 0, .int 0, .int 0, .int 0, .int 0, .int 0, .int 0, .int 0, .int 0])), (a1, .inl (Y 0, 80, .inl f80)), (a2, .inl (Y 0, 151, .inl fun _ => 0)), (a3, .inl (Y 0, 151, .inl fun _ => 0)), (a4, .inl (Y 0, 1510, .inl fun _ => 0))]) := hD
  refine va_putF (D := D) (ci := 4) (v := .ref a4) (ty := .array .int) (C := RX4) (T := TX4) (N := 24) hx hb hts (fun w h => List.mem_cons_of_mem _ (ziX4 w h)) tyX4 tyX4_ok nmX4 hown hK hP hD hS 0 rfl rfl 4 (by decide) (ok _ m_1145) (fun _ h9 => h9) rfl hin rfl (by decide +kernel) rfl rfl (Nat.le_of_ble_eq_true rfl) dX4_init_480 (fun H locs hP hD hS => ?_)
  have hP : va_P D vwCl ([(h0, .inr (4, [.ref a1, .int 0, .ref a2, .ref a3, .ref a4, .int 0, .null, .int 0, .null, .null, .int 0, .null, .int 0, .int 0, .int 0, .int 0, .int 0, .int 0, .int 0, .int 0, .int 0, .int 0, .int 0, .int 0])), (a1, .inl (Y 0, 80, .inl f80)), (a2, .inl (Y 0, 151, .inl fun _ => 0)), (a3, .inl (Y 0, 151, .inl fun _ => 0)), (a4, .inl (Y 0, 1510, .inl fun _ => 0))]) H := hP
  have hD : va_D (zAs h0 s.heap.size) ([(h0, .inr (4, [.ref a1, .int 0, .ref a2, .ref a3, .ref a4, .int 0, .null, .int 0, .null, .null, .int 0, .null, .int 0, .int 0, .int 0, .int 0, .int 0, .int 0, .int 0, .int 0, .int 0, .int 0, .int 0, .int 0])), (a1, .inl (Y 0, 80, .inl f80)), (a2, .inl (Y 0, 151, .inl fun _ => 0)), (a3, .inl (Y 0, 151, .inl fun _ => 0)), (a4, .inl (Y 0, 1510, .inl fun _ => 0))]) := hD
  refine lv_aload_n hx hb dX4_init_483 rfl (lv_at hl 0 rfl) ?_
  refine lv_sipush (v := 302) hx hb dX4_init_484 (by decide) ?_
  refine va_newa (atype := .int) (ty := .int) (a0 := (302, .inl fun _ => 0)) (N' := 302) hx hb (ok _ m_202) rfl hK hP hD hS hA (fun _ => rfl) (by decide) (by decide) (Nat.le_of_ble_eq_true rfl) (Nat.le_of_ble_eq_true rfl) (Nat.le_of_ble_eq_true rfl) dX4_init_487 (fun a5 cA H hK1 hP hD hS => ?_)
  obtain rfl := (zY_of hK).1 hK1
  have hP : va_P D vwCl ([(h0, .inr (4, [.ref a1, .int 0, .ref a2, .ref a3, .ref a4, .int 0, .null, .int 0, .null, .null, .int 0, .null, .int 0, .int 0, .int 0, .int 0, .int 0, .int 0, .int 0, .int 0, .int 0, .int 0, .int 0, .int 0])), (a1, .inl (Y 0, 80, .inl f80)), (a2, .inl (Y 0, 151, .inl fun _ => 0)), (a3, .inl (Y 0, 151, .inl fun _ => 0)), (a4, .inl (Y 0, 1510, .inl fun _ => 0)), (a5, .inl (Y 0, 302, .inl fun _ => 0))]) H := hP
  have hD : va_D (zAs h0 s.heap.size) ([(h0, .inr (4, [.ref a1, .int 0, .ref a2, .ref a3, .ref a4, .int 0, .null, .int 0, .null, .null, .int 0, .null, .int 0, .int 0, .int 0, .int 0, .int 0, .int 0, .int 0, .int 0, .int 0, .int 0, .int 0, .int 0])), (a1, .inl (Y 0, 80, .inl f80)), (a2, .inl (Y 0, 151, .inl fun _ => 0)), (a3, .inl (Y 0, 151, .inl fun _ => 0)), (a4, .inl (Y 0, 1510, .inl fun _ => 0)), (a5, .inl (Y 0, 302, .inl fun _ => 0))]) := hD
  refine va_putF (D := D) (ci := 4) (v := .ref a5) (ty := .array .int) (C := RX4) (T := TX4) (N := 24) hx hb hts (fun w h => List.mem_cons_of_mem _ (ziX4 w h)) tyX4 tyX4_ok nmX4 hown hK hP hD hS 0 rfl rfl 6 (by decide) (ok _ m_1147) (fun _ h9 => h9) rfl hin rfl (by decide +kernel) rfl rfl (Nat.le_of_ble_eq_true rfl) dX4_init_489 (fun H locs hP hD hS => ?_)
  have hP : va_P D vwCl ([(h0, .inr (4, [.ref a1, .int 0, .ref a2, .ref a3, .ref a4, .int 0, .ref a5, .int 0, .null, .null, .int 0, .null, .int 0, .int 0, .int 0, .int 0, .int 0, .int 0, .int 0, .int 0, .int 0, .int 0, .int 0, .int 0])), (a1, .inl (Y 0, 80, .inl f80)), (a2, .inl (Y 0, 151, .inl fun _ => 0)), (a3, .inl (Y 0, 151, .inl fun _ => 0)), (a4, .inl (Y 0, 1510, .inl fun _ => 0)), (a5, .inl (Y 0, 302, .inl fun _ => 0))]) H := hP
  have hD : va_D (zAs h0 s.heap.size) ([(h0, .inr (4, [.ref a1, .int 0, .ref a2, .ref a3, .ref a4, .int 0, .ref a5, .int 0, .null, .null, .int 0, .null, .int 0, .int 0, .int 0, .int 0, .int 0, .int 0, .int 0, .int 0, .int 0, .int 0, .int 0, .int 0])), (a1, .inl (Y 0, 80, .inl f80)), (a2, .inl (Y 0, 151, .inl fun _ => 0)), (a3, .inl (Y 0, 151, .inl fun _ => 0)), (a4, .inl (Y 0, 1510, .inl fun _ => 0)), (a5, .inl (Y 0, 302, .inl fun _ => 0))]) := hD
  refine lv_aload_n hx hb dX4_init_492 rfl (lv_at hl 0 rfl) ?_
  refine lv_bipush (v := 6) hx hb dX4_init_493 (by decide) ?_
  refine va_newa (atype := .int) (ty := .int) (a0 := (6, .inl fun _ => 0)) (N' := 6) hx hb (ok _ m_202) rfl hK hP hD hS hA (fun _ => rfl) (by decide) (by decide) (Nat.le_of_ble_eq_true rfl) (Nat.le_of_ble_eq_true rfl) (Nat.le_of_ble_eq_true rfl) dX4_init_495 (fun a6 cA H hK1 hP hD hS => ?_)
  obtain rfl := (zY_of hK).1 hK1
  have hP : va_P D vwCl ([(h0, .inr (4, [.ref a1, .int 0, .ref a2, .ref a3, .ref a4, .int 0, .ref a5, .int 0, .null, .null, .int 0, .null, .int 0, .int 0, .int 0, .int 0, .int 0, .int 0, .int 0, .int 0, .int 0, .int 0, .int 0, .int 0])), (a1, .inl (Y 0, 80, .inl f80)), (a2, .inl (Y 0, 151, .inl fun _ => 0)), (a3, .inl (Y 0, 151, .inl fun _ => 0)), (a4, .inl (Y 0, 1510, .inl fun _ => 0)), (a5, .inl (Y 0, 302, .inl fun _ => 0)), (a6, .inl (Y 0, 6, .inl fun _ => 0))]) H := hP
  have hD : va_D (zAs h0 s.heap.size) ([(h0, .inr (4, [.ref a1, .int 0, .ref a2, .ref a3, .ref a4, .int 0, .ref a5, .int 0, .null, .null, .int 0, .null, .int 0, .int 0, .int 0, .int 0, .int 0, .int 0, .int 0, .int 0, .int 0, .int 0, .int 0, .int 0])), (a1, .inl (Y 0, 80, .inl f80)), (a2, .inl (Y 0, 151, .inl fun _ => 0)), (a3, .inl (Y 0, 151, .inl fun _ => 0)), (a4, .inl (Y 0, 1510, .inl fun _ => 0)), (a5, .inl (Y 0, 302, .inl fun _ => 0)), (a6, .inl (Y 0, 6, .inl fun _ => 0))]) := hD
  refine va_putF (D := D) (ci := 4) (v := .ref a6) (ty := .array .int) (C := RX4) (T := TX4) (N := 24) hx hb hts (fun w h => List.mem_cons_of_mem _ (ziX4 w h)) tyX4 tyX4_ok nmX4 hown hK hP hD hS 0 rfl rfl 8 (by decide) (ok _ m_1149) (fun _ h9 => h9) rfl hin rfl (by decide +kernel) rfl rfl (Nat.le_of_ble_eq_true rfl) dX4_init_497 (fun H locs hP hD hS => ?_)
  have hP : va_P D vwCl ([(h0, .inr (4, [.ref a1, .int 0, .ref a2, .ref a3, .ref a4, .int 0, .ref a5, .int 0, .ref a6, .null, .int 0, .null, .int 0, .int 0, .int 0, .int 0, .int 0, .int 0, .int 0, .int 0, .int 0, .int 0, .int 0, .int 0])), (a1, .inl (Y 0, 80, .inl f80)), (a2, .inl (Y 0, 151, .inl fun _ => 0)), (a3, .inl (Y 0, 151, .inl fun _ => 0)), (a4, .inl (Y 0, 1510, .inl fun _ => 0)), (a5, .inl (Y 0, 302, .inl fun _ => 0)), (a6, .inl (Y 0, 6, .inl fun _ => 0))]) H := hP
  have hD : va_D (zAs h0 s.heap.size) ([(h0, .inr (4, [.ref a1, .int 0, .ref a2, .ref a3, .ref a4, .int 0, .ref a5, .int 0, .ref a6, .null, .int 0, .null, .int 0, .int 0, .int 0, .int 0, .int 0, .int 0, .int 0, .int 0, .int 0, .int 0, .int 0, .int 0])), (a1, .inl (Y 0, 80, .inl f80)), (a2, .inl (Y 0, 151, .inl fun _ => 0)), (a3, .inl (Y 0, 151, .inl fun _ => 0)), (a4, .inl (Y 0, 1510, .inl fun _ => 0)), (a5, .inl (Y 0, 302, .inl fun _ => 0)), (a6, .inl (Y 0, 6, .inl fun _ => 0))]) := hD
  refine lv_aload_n hx hb dX4_init_500 rfl (lv_at hl 0 rfl) ?_
  refine lv_sipush (v := 600) hx hb dX4_init_501 (by decide) ?_
  refine va_newa (atype := .byte) (ty := .byte) (a0 := (600, .inl fun _ => 0)) (N' := 600) hx hb (ok _ m_201) rfl hK hP hD hS hA (fun _ => rfl) (by decide) (by decide) (Nat.le_of_ble_eq_true rfl) (Nat.le_of_ble_eq_true rfl) (Nat.le_of_ble_eq_true rfl) dX4_init_504 (fun a7 cA H hK1 hP hD hS => ?_)
  obtain rfl := (zY_of hK).2.1 hK1
  have hP : va_P D vwCl ([(h0, .inr (4, [.ref a1, .int 0, .ref a2, .ref a3, .ref a4, .int 0, .ref a5, .int 0, .ref a6, .null, .int 0, .null, .int 0, .int 0, .int 0, .int 0, .int 0, .int 0, .int 0, .int 0, .int 0, .int 0, .int 0, .int 0])), (a1, .inl (Y 0, 80, .inl f80)), (a2, .inl (Y 0, 151, .inl fun _ => 0)), (a3, .inl (Y 0, 151, .inl fun _ => 0)), (a4, .inl (Y 0, 1510, .inl fun _ => 0)), (a5, .inl (Y 0, 302, .inl fun _ => 0)), (a6, .inl (Y 0, 6, .inl fun _ => 0)), (a7, .inl (Y 1, 600, .inl fun _ => 0))]) H := hP
  have hD : va_D (zAs h0 s.heap.size) ([(h0, .inr (4, [.ref a1, .int 0, .ref a2, .ref a3, .ref a4, .int 0, .ref a5, .int 0, .ref a6, .null, .int 0, .null, .int 0, .int 0, .int 0, .int 0, .int 0, .int 0, .int 0, .int 0, .int 0, .int 0, .int 0, .int 0])), (a1, .inl (Y 0, 80, .inl f80)), (a2, .inl (Y 0, 151, .inl fun _ => 0)), (a3, .inl (Y 0, 151, .inl fun _ => 0)), (a4, .inl (Y 0, 1510, .inl fun _ => 0)), (a5, .inl (Y 0, 302, .inl fun _ => 0)), (a6, .inl (Y 0, 6, .inl fun _ => 0)), (a7, .inl (Y 1, 600, .inl fun _ => 0))]) := hD
  refine va_putF (D := D) (ci := 4) (v := .ref a7) (ty := .array .byte) (C := RX4) (T := TX4) (N := 24) hx hb hts (fun w h => List.mem_cons_of_mem _ (ziX4 w h)) tyX4 tyX4_ok nmX4 hown hK hP hD hS 0 rfl rfl 9 (by decide) (ok _ m_1150) (fun _ h9 => h9) rfl hin rfl (by decide +kernel) rfl rfl (Nat.le_of_ble_eq_true rfl) dX4_init_506 (fun H locs hP hD hS => ?_)
  have hP : va_P D vwCl ([(h0, .inr (4, [.ref a1, .int 0, .ref a2, .ref a3, .ref a4, .int 0, .ref a5, .int 0, .ref a6, .ref a7, .int 0, .null, .int 0, .int 0, .int 0, .int 0, .int 0, .int 0, .int 0, .int 0, .int 0, .int 0, .int 0, .int 0])), (a1, .inl (Y 0, 80, .inl f80)), (a2, .inl (Y 0, 151, .inl fun _ => 0)), (a3, .inl (Y 0, 151, .inl fun _ => 0)), (a4, .inl (Y 0, 1510, .inl fun _ => 0)), (a5, .inl (Y 0, 302, .inl fun _ => 0)), (a6, .inl (Y 0, 6, .inl fun _ => 0)), (a7, .inl (Y 1, 600, .inl fun _ => 0))]) H := hP
  have hD : va_D (zAs h0 s.heap.size) ([(h0, .inr (4, [.ref a1, .int 0, .ref a2, .ref a3, .ref a4, .int 0, .ref a5, .int 0, .ref a6, .ref a7, .int 0, .null, .int 0, .int 0, .int 0, .int 0, .int 0, .int 0, .int 0, .int 0, .int 0, .int 0, .int 0, .int 0])), (a1, .inl (Y 0, 80, .inl f80)), (a2, .inl (Y 0, 151, .inl fun _ => 0)), (a3, .inl (Y 0, 151, .inl fun _ => 0)), (a4, .inl (Y 0, 1510, .inl fun _ => 0)), (a5, .inl (Y 0, 302, .inl fun _ => 0)), (a6, .inl (Y 0, 6, .inl fun _ => 0)), (a7, .inl (Y 1, 600, .inl fun _ => 0))]) := hD
  refine lv_aload_n hx hb dX4_init_509 rfl (lv_at hl 0 rfl) ?_
  refine lv_bipush (v := 40) hx hb dX4_init_510 (by decide) ?_
  refine va_newa (atype := .byte) (ty := .byte) (a0 := (40, .inl fun _ => 0)) (N' := 40) hx hb (ok _ m_201) rfl hK hP hD hS hA (fun _ => rfl) (by decide) (by decide) (Nat.le_of_ble_eq_true rfl) (Nat.le_of_ble_eq_true rfl) (Nat.le_of_ble_eq_true rfl) dX4_init_512 (fun a8 cA H hK1 hP hD hS => ?_)
  obtain rfl := (zY_of hK).2.1 hK1
  have hP : va_P D vwCl ([(h0, .inr (4, [.ref a1, .int 0, .ref a2, .ref a3, .ref a4, .int 0, .ref a5, .int 0, .ref a6, .ref a7, .int 0, .null, .int 0, .int 0, .int 0, .int 0, .int 0, .int 0, .int 0, .int 0, .int 0, .int 0, .int 0, .int 0])), (a1, .inl (Y 0, 80, .inl f80)), (a2, .inl (Y 0, 151, .inl fun _ => 0)), (a3, .inl (Y 0, 151, .inl fun _ => 0)), (a4, .inl (Y 0, 1510, .inl fun _ => 0)), (a5, .inl (Y 0, 302, .inl fun _ => 0)), (a6, .inl (Y 0, 6, .inl fun _ => 0)), (a7, .inl (Y 1, 600, .inl fun _ => 0)), (a8, .inl (Y 1, 40, .inl fun _ => 0))]) H := hP
  have hD : va_D (zAs h0 s.heap.size) ([(h0, .inr (4, [.ref a1, .int 0, .ref a2, .ref a3, .ref a4, .int 0, .ref a5, .int 0, .ref a6, .ref a7, .int 0, .null, .int 0, .int 0, .int 0, .int 0, .int 0, .int 0, .int 0, .int 0, .int 0, .int 0, .int 0, .int 0])), (a1, .inl (Y 0, 80, .inl f80)), (a2, .inl (Y 0, 151, .inl fun _ => 0)), (a3, .inl (Y 0, 151, .inl fun _ => 0)), (a4, .inl (Y 0, 1510, .inl fun _ => 0)), (a5, .inl (Y 0, 302, .inl fun _ => 0)), (a6, .inl (Y 0, 6, .inl fun _ => 0)), (a7, .inl (Y 1, 600, .inl fun _ => 0)), (a8, .inl (Y 1, 40, .inl fun _ => 0))]) := hD
  refine va_putF (D := D) (ci := 4) (v := .ref a8) (ty := .array .byte) (C := RX4) (T := TX4) (N := 24) hx hb hts (fun w h => List.mem_cons_of_mem _ (ziX4 w h)) tyX4 tyX4_ok nmX4 hown hK hP hD hS 0 rfl rfl 11 (by decide) (ok _ m_1152) (fun _ h9 => h9) rfl hin rfl (by decide +kernel) rfl rfl (Nat.le_of_ble_eq_true rfl) dX4_init_514 (fun H locs hP hD hS => ?_)
  have hP : va_P D vwCl ([(h0, .inr (4, [.ref a1, .int 0, .ref a2, .ref a3, .ref a4, .int 0, .ref a5, .int 0, .ref a6, .ref a7, .int 0, .ref a8, .int 0, .int 0, .int 0, .int 0, .int 0, .int 0, .int 0, .int 0, .int 0, .int 0, .int 0, .int 0])), (a1, .inl (Y 0, 80, .inl f80)), (a2, .inl (Y 0, 151, .inl fun _ => 0)), (a3, .inl (Y 0, 151, .inl fun _ => 0)), (a4, .inl (Y 0, 1510, .inl fun _ => 0)), (a5, .inl (Y 0, 302, .inl fun _ => 0)), (a6, .inl (Y 0, 6, .inl fun _ => 0)), (a7, .inl (Y 1, 600, .inl fun _ => 0)), (a8, .inl (Y 1, 40, .inl fun _ => 0))]) H := hP
  have hD : va_D (zAs h0 s.heap.size) ([(h0, .inr (4, [.ref a1, .int 0, .ref a2, .ref a3, .ref a4, .int 0, .ref a5, .int 0, .ref a6, .ref a7, .int 0, .ref a8, .int 0, .int 0, .int 0, .int 0, .int 0, .int 0, .int 0, .int 0, .int 0, .int 0, .int 0, .int 0])), (a1, .inl (Y 0, 80, .inl f80)), (a2, .inl (Y 0, 151, .inl fun _ => 0)), (a3, .inl (Y 0, 151, .inl fun _ => 0)), (a4, .inl (Y 0, 1510, .inl fun _ => 0)), (a5, .inl (Y 0, 302, .inl fun _ => 0)), (a6, .inl (Y 0, 6, .inl fun _ => 0)), (a7, .inl (Y 1, 600, .inl fun _ => 0)), (a8, .inl (Y 1, 40, .inl fun _ => 0))]) := hD
  have hf : ∀ j, j < 80 → f80 j = nI (zkeys.getD j 0) := by
    rw [ef80, ef79, ef78, ef77, ef76, ef75, ef74, ef73, ef72, ef71, ef70, ef69, ef68, ef67, ef66, ef65, ef64, ef63, ef62, ef61, ef60, ef59, ef58, ef57, ef56, ef55, ef54, ef53, ef52, ef51, ef50, ef49, ef48, ef47, ef46, ef45, ef44, ef43, ef42, ef41, ef40, ef39, ef38, ef37, ef36, ef35, ef34, ef33, ef32, ef31, ef30, ef29, ef28, ef27, ef26, ef25, ef24, ef23, ef22, ef21, ef20, ef19, ef18, ef17, ef16, ef15, ef14, ef13, ef12, ef11, ef10, ef9, ef8, ef7, ef6, ef5, ef4, ef3, ef2, ef1]
    decide +kernel
  obtain ⟨G, hG00, hP1, hG⟩ := zM_start hf hP hD
  subst hG00
  have F : zF 1 6 8 2840 p l s m _ c cX4_init 2 RX4 (Cond.code yX4_init cX4_init 2 none) D Y S V G (zAs (G 0 0) s.heap.size) := ⟨hx, hb, hml, hown, hts, hl9, hG, hK9, hA⟩
  refine W.into (fun t ht => ?_) (j_X4_init_517 F hr hlocks hex zM0 hT hP1 hS hl)
  obtain ⟨oc, g1, g2, g3⟩ := ht
  refine ⟨oc, g1, g2, ?_⟩
  rcases g3 with ⟨⟨⟨v9, hv9, ho, hp⟩, hF⟩, hE⟩ | ⟨q9, _, E, ce, L9, ⟨⟨hE, _⟩, _⟩, _⟩
  · cases hv9
    exact Or.inl ⟨⟨⟨ho, G, rfl, hp, hG⟩, hF⟩, hE⟩
  · cases hE
