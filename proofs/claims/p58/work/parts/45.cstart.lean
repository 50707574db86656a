/-! THE CONSTRUCTOR of the registry of birthdays itself -/
theorem z08 {ι : Nat} (h : ι < 8 ∨ ι = 8 ∧ (0 : Nat) ≠ 0) : ι < 8 := by
  rcases h with h | ⟨-, h⟩
  · exact h
  · exact absurd rfl h
theorem W.into {p : Program} {l : Launch} {e : Env} {s : State} {m : MethodId} {args : Array Value} {below : List Frame} {meth : Method} {c : Code} {H : Heap} {locs : List Loc} {cells slots : Nat} {Q : State → Prop} {R : Room} {g : JFrame} {Q' : State → Prop} (h : ∀ t, Q t → Q' t) (k : W p l e R s m args below meth c H locs cells slots Q g) : W p l e R s m args below meth c H locs cells slots Q' g := fun T hT X => by
  obtain ⟨t, a, b⟩ := k T hT X
  exact ⟨t, a, h t b⟩
def zbl3 : List Value := [.null, .int 0, .int 0, .int 0, .null, .null, .null, .null, .null, .null]
theorem zbl1_ok : ∀ j, j < 9 → defaultValue (tyX1 j) = vp_V zbl1 j := fun j hj => by
  rcases (by omega : j = 0 ∨ j = 1 ∨ j = 2 ∨ j = 3 ∨ j = 4 ∨ j = 5 ∨ j = 6 ∨ j = 7 ∨ j = 8) with rfl | rfl | rfl | rfl | rfl | rfl | rfl | rfl | rfl <;> rfl
theorem zbl0_ok : ∀ j, j < 3 → defaultValue (tyX0 j) = vp_V zbl0 j := fun j hj => by
  rcases (by omega : j = 0 ∨ j = 1 ∨ j = 2) with rfl | rfl | rfl <;> rfl
theorem zbl3_ok : ∀ j, j < 10 → defaultValue (tyX3 j) = vp_V zbl3 j := fun j hj => by
  rcases (by omega : j = 0 ∨ j = 1 ∨ j = 2 ∨ j = 3 ∨ j = 4 ∨ j = 5 ∨ j = 6 ∨ j = 7 ∨ j = 8 ∨ j = 9) with rfl | rfl | rfl | rfl | rfl | rfl | rfl | rfl | rfl | rfl <;> rfl
theorem arr_congr {c : ClassId} {N : Nat} {f g : Nat → Value} (h : ∀ j, j < N → f j = g j) : arrV c N f = arrV c N g := by
  unfold arrV
  rw [show (fun j : Fin N => f j.val) = (fun j : Fin N => g j.val) from funext fun j => h j.val j.isLt]
/-- the places of the eight cells that are no registry's -/
def zpos (ι : Nat) : Nat := [0, 2, 4, 1, 3, 7, 5, 6].getD ι 0
theorem zP_start {D : va_G} {Y : Nat → ClassId} {A : Nat → Prop} {H : Heap} {gn gf gr s0 s1 : Nat → Nat} {hr R : Nat → Nat → Nat} {h0 oq pq bq hq aq sq iq : Nat} {fa fb : Nat → Option Nat} (e0 : R 0 = gn) (e1 : R 1 = gf) (e2 : R 2 = gr) (e3 : ∀ j, j < 10 → R (3 + j) = hr j) (e13 : R 13 = s0) (e14 : R 14 = s1) (ea : ∀ j, j < 10 → fa j = some (hr j 0)) (eb : ∀ j, j < 2 → fb j = some ([s0 0, s1 0].getD j 0)) (hP : va_P D vwCl ([(h0, .inr (3, [.ref oq, .int 0, .int 0, .int (-1), .ref (gn 0), .ref (gf 0), .ref pq, .ref hq, .ref sq, .ref iq])), (oq, .inl (Y 1, 32, .inl fun _ => 0)), (pq, .inr (1, [.ref (gr 0), .int 0, .int 0, .int 0, .ref bq, .int 0, .int 0, .int 0, .int 0])), (bq, .inl (Y 1, 600, .inl fun _ => 0)), (hq, .inr (0, [.ref aq, .int 0, .int 0])), (aq, .inl (Y 3, 10, .inr (.inr (.inr (.inr fa))))), (sq, .inl (Y 3, 2, .inr (.inr (.inr (.inr fb))))), (iq, .inl (Y 2, 2, .inl fun _ => 0))] ++ zfl Y R 15) H) (hD : va_D A ([(h0, .inr (3, [.ref oq, .int 0, .int 0, .int (-1), .ref (gn 0), .ref (gf 0), .ref pq, .ref hq, .ref sq, .ref iq])), (oq, .inl (Y 1, 32, .inl fun _ => 0)), (pq, .inr (1, [.ref (gr 0), .int 0, .int 0, .int 0, .ref bq, .int 0, .int 0, .int 0, .int 0])), (bq, .inl (Y 1, 600, .inl fun _ => 0)), (hq, .inr (0, [.ref aq, .int 0, .int 0])), (aq, .inl (Y 3, 10, .inr (.inr (.inr (.inr fa))))), (sq, .inl (Y 3, 2, .inr (.inr (.inr (.inr fb))))), (iq, .inl (Y 2, 2, .inl fun _ => 0))] ++ zfl Y R 15)) : ∃ G, G 0 0 = h0 ∧ zP 0 D Y G zT0 H ∧ zG 0 G A := by
  subst e0; subst e1; subst e2; subst e13; subst e14
  obtain ⟨G, eG⟩ : ∃ G : Nat → Nat → Nat, G = fun κ ι => if κ = 0 then [h0, pq, hq, oq, bq, iq, aq, sq].getD ι 0 else R ι (κ - 1) := ⟨_, rfl⟩
  have hG1 : ∀ κ ι, 1 ≤ κ → G κ ι = R ι (κ - 1) := fun κ ι h => by rw [eG]; exact if_neg (by omega)
  have at1 : ∀ κ ι, 1 ≤ κ → κ ≤ 11 → ι < 15 → ([(h0, .inr (3, [.ref oq, .int 0, .int 0, .int (-1), .ref (R 0 0), .ref (R 1 0), .ref pq, .ref hq, .ref sq, .ref iq])), (oq, .inl (Y 1, 32, .inl fun _ => 0)), (pq, .inr (1, [.ref (R 2 0), .int 0, .int 0, .int 0, .ref bq, .int 0, .int 0, .int 0, .int 0])), (bq, .inl (Y 1, 600, .inl fun _ => 0)), (hq, .inr (0, [.ref aq, .int 0, .int 0])), (aq, .inl (Y 3, 10, .inr (.inr (.inr (.inr fa))))), (sq, .inl (Y 3, 2, .inr (.inr (.inr (.inr fb))))), (iq, .inl (Y 2, 2, .inl fun _ => 0))] ++ zfl Y R 15)[8 + (11 * ι + (κ - 1))]? = (zrl Y (R ι))[κ - 1]? := fun κ ι h1 h2 h3 => by
    rw [List.getElem?_append_right (by show 8 ≤ _; omega)]
    show (zfl Y R 15)[8 + (11 * ι + (κ - 1)) - 8]? = _
    rw [Nat.add_sub_cancel_left]
    exact zfl_at h3 (by omega)
  have cell1 : ∀ κ ι, 1 ≤ κ → κ ≤ 11 → (zrl Y (R ι))[κ - 1]? = some (G κ ι, zcell 0 Y G zT0 κ ι) := fun κ ι h1 h2 => by
    have k1 := hG1 1 ι (by decide)
    have k2 := hG1 2 ι (by decide)
    have k3 := hG1 3 ι (by decide)
    have k4 := hG1 4 ι (by decide)
    have k5 := hG1 5 ι (by decide)
    have k6 := hG1 6 ι (by decide)
    have k7 := hG1 7 ι (by decide)
    have k8 := hG1 8 ι (by decide)
    have k9 := hG1 9 ι (by decide)
    have k10 := hG1 10 ι (by decide)
    have k11 := hG1 11 ι (by decide)
    rcases (by omega : κ = 1 ∨ κ = 2 ∨ κ = 3 ∨ κ = 4 ∨ κ = 5 ∨ κ = 6 ∨ κ = 7 ∨ κ = 8 ∨ κ = 9 ∨ κ = 10 ∨ κ = 11) with rfl | rfl | rfl | rfl | rfl | rfl | rfl | rfl | rfl | rfl | rfl
    · rw [k1]
      show (some (R ι 0, (.inr (2, zro2 (R ι)) : va_E)) : Option (Nat × va_E)) = some (R ι 0, .inr (2, zf2 G zT0 ι))
      unfold zf2 zro2
      rw [k2, k3, k4, k5, k6, k7, k8, k9, k10, k11]; rfl
    · rw [k2]; rfl
    · rw [k3]; rfl
    · rw [k4]; rfl
    · rw [k5]; rfl
    · rw [k6]; rfl
    · rw [k7]; rfl
    · rw [k8]; rfl
    · rw [k9]; rfl
    · rw [k10]; rfl
    · rw [k11]; rfl
  have at0 : ∀ ι, ι < 8 → ∃ en, ([(h0, .inr (3, [.ref oq, .int 0, .int 0, .int (-1), .ref (R 0 0), .ref (R 1 0), .ref pq, .ref hq, .ref sq, .ref iq])), (oq, .inl (Y 1, 32, .inl fun _ => 0)), (pq, .inr (1, [.ref (R 2 0), .int 0, .int 0, .int 0, .ref bq, .int 0, .int 0, .int 0, .int 0])), (bq, .inl (Y 1, 600, .inl fun _ => 0)), (hq, .inr (0, [.ref aq, .int 0, .int 0])), (aq, .inl (Y 3, 10, .inr (.inr (.inr (.inr fa))))), (sq, .inl (Y 3, 2, .inr (.inr (.inr (.inr fb))))), (iq, .inl (Y 2, 2, .inl fun _ => 0))] ++ zfl Y R 15)[zpos ι]? = some (G 0 ι, en) := fun ι h => by
    rw [eG]
    rcases (by omega : ι = 0 ∨ ι = 1 ∨ ι = 2 ∨ ι = 3 ∨ ι = 4 ∨ ι = 5 ∨ ι = 6 ∨ ι = 7) with rfl | rfl | rfl | rfl | rfl | rfl | rfl | rfl <;> exact ⟨_, rfl⟩
  have hx : ∀ κ ι, zV 0 κ ι → ∃ k en, ([(h0, .inr (3, [.ref oq, .int 0, .int 0, .int (-1), .ref (R 0 0), .ref (R 1 0), .ref pq, .ref hq, .ref sq, .ref iq])), (oq, .inl (Y 1, 32, .inl fun _ => 0)), (pq, .inr (1, [.ref (R 2 0), .int 0, .int 0, .int 0, .ref bq, .int 0, .int 0, .int 0, .int 0])), (bq, .inl (Y 1, 600, .inl fun _ => 0)), (hq, .inr (0, [.ref aq, .int 0, .int 0])), (aq, .inl (Y 3, 10, .inr (.inr (.inr (.inr fa))))), (sq, .inl (Y 3, 2, .inr (.inr (.inr (.inr fb))))), (iq, .inl (Y 2, 2, .inl fun _ => 0))] ++ zfl Y R 15)[k]? = some (G κ ι, en) ∧ k = (if κ = 0 then zpos ι else 8 + (11 * ι + (κ - 1))) := fun κ ι hV => by
    rcases hV with ⟨rfl, h⟩ | ⟨h1, h2, h3⟩
    · obtain ⟨en, h9⟩ := at0 ι (z08 h)
      exact ⟨_, en, h9, (if_pos rfl).symm⟩
    · exact ⟨_, _, (at1 κ ι h1 h2 h3).trans (cell1 κ ι h1 h2), (if_neg (by omega)).symm⟩
  have hz : ∀ ι, ι < 8 → zpos ι < 8 := by decide
  have hzi : ∀ ι, ι < 8 → ∀ ι', ι' < 8 → zpos ι = zpos ι' → ι = ι' := by decide
  refine ⟨G, by rw [eG]; rfl, fun κ ι hV => ?_, fun κ ι κ' ι' hV hV' e => ?_, fun κ ι hV => ?_⟩
  · rcases hV with ⟨rfl, h⟩ | ⟨h1, h2, h3⟩
    · have g00 : G 0 0 = h0 := by rw [eG]; rfl
      have g01 : G 0 1 = pq := by rw [eG]; rfl
      have g02 : G 0 2 = hq := by rw [eG]; rfl
      have g03 : G 0 3 = oq := by rw [eG]; rfl
      have g04 : G 0 4 = bq := by rw [eG]; rfl
      have g05 : G 0 5 = iq := by rw [eG]; rfl
      have g06 : G 0 6 = aq := by rw [eG]; rfl
      have g07 : G 0 7 = sq := by rw [eG]; rfl
      have r0 := hG1 1 0 (by decide)
      have r1 := hG1 1 1 (by decide)
      have r2 := hG1 1 2 (by decide)
      rcases (by omega : ι = 0 ∨ ι = 1 ∨ ι = 2 ∨ ι = 3 ∨ ι = 4 ∨ ι = 5 ∨ ι = 6 ∨ ι = 7) with rfl | rfl | rfl | rfl | rfl | rfl | rfl | rfl
      · have h := hP 0 _ rfl
        show va_at D vwCl (G 0 0, .inr (3, zf3 G zT0)) H
        unfold zf3
        rw [g00, g01, g02, g03, g05, g07, r0, r1]; exact h
      · have h := hP 2 _ rfl
        show va_at D vwCl (G 0 1, .inr (1, zf1 G zT0)) H
        unfold zf1
        rw [g01, g04, r2]; exact h
      · have h := hP 4 _ rfl
        show va_at D vwCl (G 0 2, .inr (0, zf0 G zT0)) H
        unfold zf0
        rw [g02, g06]; exact h
      · have h := hP 1 _ rfl
        rw [g03]; exact h
      · have h := hP 3 _ rfl
        rw [g04]; exact h
      · have h := hP 7 _ rfl
        rw [g05]; exact h
      · have h : H[aq]? = some (arrV (Y 3) 10 (fun j => va_rf (fa j))) := hP 5 _ rfl
        rw [g06]
        show H[aq]? = some (arrV (Y 3) 10 (fun j => va_rf (some (G 1 (3 + j)))))
        rw [h]
        exact congrArg some (arr_congr fun j hj => by rw [ea j hj, hG1 1 _ (by decide), e3 j hj])
      · have h : H[sq]? = some (arrV (Y 3) 2 (fun j => va_rf (fb j))) := hP 6 _ rfl
        rw [g07]
        show H[sq]? = some (arrV (Y 3) 2 (fun j => va_rf (some (G 1 (13 + j)))))
        rw [h]
        exact congrArg some (arr_congr fun j hj => by
          rw [eb j hj, hG1 1 _ (by decide)]
          rcases (by omega : j = 0 ∨ j = 1) with rfl | rfl <;> rfl)
    · exact hP _ _ ((at1 κ ι h1 h2 h3).trans (cell1 κ ι h1 h2))
  · obtain ⟨k, en, hk, ek⟩ := hx κ ι hV
    obtain ⟨k', en', hk', ek'⟩ := hx κ' ι' hV'
    have hkk := hD.1 k k' _ _ hk hk' e
    rw [ek, ek'] at hkk
    rcases hV with ⟨rfl, h⟩ | ⟨h1, h2, h3⟩ <;> rcases hV' with ⟨rfl, h'⟩ | ⟨h1', h2', h3'⟩
    · rw [if_pos rfl, if_pos rfl] at hkk
      exact ⟨rfl, hzi ι (z08 h) ι' (z08 h') hkk⟩
    · rw [if_pos rfl, if_neg (by omega)] at hkk
      have := hz ι (z08 h); omega
    · rw [if_neg (by omega), if_pos rfl] at hkk
      have := hz ι' (z08 h'); omega
    · rw [if_neg (by omega), if_neg (by omega)] at hkk
      omega
  · obtain ⟨k, en, hk, -⟩ := hx κ ι hV
    exact hD.2 k _ hk
set_option maxHeartbeats 8000000 in
set_option maxRecDepth 100000 in
theorem c_X3_init (l : Launch) (hl9 : l.flags = flags0) (D : va_G) (Y : Nat → ClassId) (S V : Nat → Nat) (h0 sz : Nat) {T' : zT} (hT : jn_X3_init_106 zT0 = some ((), T')) : zCI l yX3_init cX3_init 2 8 172 2308 h0 sz (fun U => zK D Y S V (zAs h0 sz) U U.heap ∧ va_AO RX2 U ∧ va_P D vwCl [(h0, .inr (3, zbl3))] U.heap) (fun H => ∃ G, G 0 0 = h0 ∧ zP 0 D Y G T' H ∧ zG 0 G (zAs h0 sz)) := by
  refine vx_ofW (cc := cX3_init) (maxL := 2) (ret := none) (by decide) rfl ?_
  intro p e s m args below meth c s₁ B hml hex hv
  obtain ⟨rfl, ⟨hK9, hAO, hP⟩, hsz⟩ := hv
  subst hsz
  have hx := B.exec
  have hb := B.bytes
  have hr := B.returns
  have hlocks := B.notSynchronized
  have hown : s.vm.findClass RX3 = some m.cls := findClass_of_methodNamed B.named
  have hin : meth.name = "<init>" := (name_of_methodNamed B.named B.method).1
  have hts := atoms_spec (ws := Cond.code yX3_init cX3_init 2 none :: zWS) B.pre
  have ok : ∀ w ∈ zWS, w.before _ s = true := fun w h => hts w (List.mem_cons_of_mem _ h)
  have hS : va_S (zAs h0 s.heap.size) s.heap s.heap [] := va_S.rf
  have hA : ∀ q, s.heap.size ≤ q → zAs h0 s.heap.size q := fun q h => Or.inr h
  have hl := lv_entry ([.ref h0]) (n := 2) (Nat.le_of_ble_eq_true rfl)
  rw [lg_entry_eq]
  generalize (lg_sl ([.ref h0]) ++ List.replicate (2 - (lg_sl ([.ref h0])).length) Slot.unset).toArray = ls at hl ⊢
  have hl : lv_has ls 2 [(0, .ref h0)] := hl
  have hK : va_K D vwCl (ztys Y) s := hK9.1
  have hNe : ∀ q ∈ zNest, va_Nw (.methodLinkNest q.1 q.2.1 q.2.2 "InventedBirthdays") s := hK9.2.1
  have hD : va_D (zAs h0 s.heap.size) [(h0, .inr (3, [.null, .int 0, .int 0, .int 0, .null, .null, .null, .null, .null, .null]))] := zD_iff.mpr ⟨List.pairwise_singleton _ _, fun q hq => by obtain rfl := List.mem_singleton.mp hq; exact Or.inl rfl⟩
  refine lv_aload_n hx hb dX3_init_0 rfl (lv_at hl 0 rfl) ?_
  refine W.objInit hx hb hown (ok _ m_58) (ok _ m_59) (ok _ m_60) rfl (by rw [hml]; exact hl.1) rfl dX3_init_1 (Nat.le_of_ble_eq_true rfl) (Nat.le_of_ble_eq_true rfl) ?_
  refine W.eq (g2 := F0 m 4 ls []) rfl ?_
  refine lv_aload_n hx hb dX3_init_4 rfl (lv_at hl 0 rfl) ?_
  refine lv_bipush (v := 32) hx hb dX3_init_5 (by decide) ?_
  refine va_newa (atype := .byte) (ty := .byte) (a0 := (32, .inl fun _ => 0)) (N' := 32) hx hb (ok _ m_152) rfl hK hP hD hS hA (fun _ => rfl) (by decide) (by decide) (Nat.le_of_ble_eq_true rfl) (Nat.le_of_ble_eq_true rfl) (Nat.le_of_ble_eq_true rfl) dX3_init_7 (fun oq cA H hK1 hP hD hS => ?_)
  obtain rfl := (zY_of hK).2.1 hK1
  refine va_putF (D := D) (ci := 3) (v := .ref oq) (ty := .array .byte) (C := RX3) (T := TX3) (N := 10) hx hb hts (fun w h => List.mem_cons_of_mem _ (ziX3 w h)) tyX3 tyX3_ok nmX3 hown hK hP hD hS 0 rfl rfl 0 (by decide) (ok _ m_447) (fun _ h9 => h9) rfl hin rfl (by decide +kernel) rfl rfl (Nat.le_of_ble_eq_true rfl) dX3_init_9 (fun H locs hP hD hS => ?_)
  refine lv_aload_n hx hb dX3_init_12 rfl (lv_at hl 0 rfl) ?_
  refine lv_iconst (v := -1) hx hb dX3_init_13 (by decide) ?_
  refine va_put (D := D) (ci := 3) (v := .int (-1)) (ty := .int) (C := RX3) (T := TX3) (N := 10) hx hb hts (fun w h => List.mem_cons_of_mem _ (ziX3 w h)) tyX3 tyX3_ok nmX3 hown hK hP hD hS 0 rfl rfl 3 (by decide) (ok _ m_449) (fun _ h9 => h9) rfl (by decide +kernel) rfl rfl (Nat.le_of_ble_eq_true rfl) dX3_init_14 (fun H locs hP hD hS => ?_)
  have hP : va_P D vwCl ([(h0, .inr (3, [.ref oq, .int 0, .int 0, .int (-1), .null, .null, .null, .null, .null, .null])), (oq, .inl (Y 1, 32, .inl fun _ => 0))] ++ zfl Y (fun _ _ => 0) 0) H := hP
  have hD : va_D (zAs h0 s.heap.size) ([(h0, .inr (3, [.ref oq, .int 0, .int 0, .int (-1), .null, .null, .null, .null, .null, .null])), (oq, .inl (Y 1, 32, .inl fun _ => 0))] ++ zfl Y (fun _ _ => 0) 0) := hD
  refine lv_aload_n hx hb dX3_init_17 rfl (lv_at hl 0 rfl) ?_
  refine z_newReg hx hb hml hown hts hK (hNe (RX3, 19, yX2_init) (by decide +kernel)) m_61 hl.1 hP hD hS hA (Nat.le_of_ble_eq_true rfl) (Nat.le_of_ble_eq_true rfl) (Nat.le_of_ble_eq_true rfl) (Nat.le_of_ble_eq_true rfl) dX3_init_18 dX3_init_21 dX3_init_22 (fun n0 n1 H locs hP hD hS => ?_)
  rw [List.append_assoc, zfl_snoc] at hP hD
  obtain ⟨r1, er1⟩ : ∃ z, z = (fun j => if j < 0 then (fun _ _ => 0) j else zgf n0 n1) := ⟨_, rfl⟩
  rw [← er1] at hP hD
  refine va_putF (D := D) (ci := 3) (v := .ref n0) (ty := .object RX2) (C := RX3) (T := TX3) (N := 10) hx hb hts (fun w h => List.mem_cons_of_mem _ (ziX3 w h)) tyX3 tyX3_ok nmX3 hown hK hP hD hS 0 rfl rfl 4 (by decide) (ok _ m_450) (fun _ h9 => h9) rfl hin rfl (by decide +kernel) rfl rfl (Nat.le_of_ble_eq_true rfl) dX3_init_25 (fun H locs hP hD hS => ?_)
  have hP : va_P D vwCl ([(h0, .inr (3, [.ref oq, .int 0, .int 0, .int (-1), .ref n0, .null, .null, .null, .null, .null])), (oq, .inl (Y 1, 32, .inl fun _ => 0))] ++ zfl Y r1 1) H := hP
  have hD : va_D (zAs h0 s.heap.size) ([(h0, .inr (3, [.ref oq, .int 0, .int 0, .int (-1), .ref n0, .null, .null, .null, .null, .null])), (oq, .inl (Y 1, 32, .inl fun _ => 0))] ++ zfl Y r1 1) := hD
  refine lv_aload_n hx hb dX3_init_28 rfl (lv_at hl 0 rfl) ?_
  refine z_newReg hx hb hml hown hts hK (hNe (RX3, 19, yX2_init) (by decide +kernel)) m_61 hl.1 hP hD hS hA (Nat.le_of_ble_eq_true rfl) (Nat.le_of_ble_eq_true rfl) (Nat.le_of_ble_eq_true rfl) (Nat.le_of_ble_eq_true rfl) dX3_init_29 dX3_init_32 dX3_init_33 (fun f0 f1 H locs hP hD hS => ?_)
  rw [List.append_assoc, zfl_snoc] at hP hD
  obtain ⟨r2, er2⟩ : ∃ z, z = (fun j => if j < 1 then r1 j else zgf f0 f1) := ⟨_, rfl⟩
  rw [← er2] at hP hD
  refine va_putF (D := D) (ci := 3) (v := .ref f0) (ty := .object RX2) (C := RX3) (T := TX3) (N := 10) hx hb hts (fun w h => List.mem_cons_of_mem _ (ziX3 w h)) tyX3 tyX3_ok nmX3 hown hK hP hD hS 0 rfl rfl 5 (by decide) (ok _ m_451) (fun _ h9 => h9) rfl hin rfl (by decide +kernel) rfl rfl (Nat.le_of_ble_eq_true rfl) dX3_init_36 (fun H locs hP hD hS => ?_)
  have hP : va_P D vwCl ([(h0, .inr (3, [.ref oq, .int 0, .int 0, .int (-1), .ref n0, .ref f0, .null, .null, .null, .null])), (oq, .inl (Y 1, 32, .inl fun _ => 0))] ++ zfl Y r2 2) H := hP
  have hD : va_D (zAs h0 s.heap.size) ([(h0, .inr (3, [.ref oq, .int 0, .int 0, .int (-1), .ref n0, .ref f0, .null, .null, .null, .null])), (oq, .inl (Y 1, 32, .inl fun _ => 0))] ++ zfl Y r2 2) := hD
  refine lv_aload_n hx hb dX3_init_39 rfl (lv_at hl 0 rfl) ?_
  obtain ⟨k1, k2, k3, k4, k5, k6, k7⟩ := ki_X1_init
  refine z_newObj (ci := 1) (fs := zbl1) (mc' := 12) (ms' := 710) (N := 9) (fun q u => zpl Y q u) hx hb hown hts hK ziX1 tyX1_ok m_154 m_155 m_33 rfl zbl1_ok hP hD hS hA (Nat.le_of_ble_eq_true rfl) (Nat.le_of_ble_eq_true rfl) dX3_init_40 dX3_init_43 (fun q H1 locs1 hS1 hq => vx_runIN (Ts := _ :: zWS) (bytes := cX1_init) (maxL := 1) (n := 0) (As := []) (host := "InventedBirthdays") ⟨hx, hb, hml, hown, hts⟩ (c_X1_init l D Y q H1.size) ⟨⟨⟨rfl, rfl, (Nat.le_of_ble_eq_true rfl), (Nat.le_of_ble_eq_true rfl), z_pay hts k3, List.mem_cons_self⟩, ok _ k3, ok _ k2, k4, z_len k5, va_Nw.use rfl (hNe (RX3, 29, yX1_init) (by decide +kernel))⟩, rfl, ok _ k1⟩ ⟨fun a U g mk q => by obtain ⟨q0, ⟨q1, q2, q3⟩, q4⟩ := q; exact ⟨q0, ⟨va_K.moved (u := U) (U := U.calling g mk a) (Vm.Alike.refl U.vm) q1, va_Nw.same rfl rfl q2, q3⟩, q4⟩, fun U hU hW => ⟨rfl, ⟨va_K.moved hW.alike hK, va_Nw.warmM hW (hNe (RX1, 11, yX2_init) (by decide +kernel)), fun k x hk => by match k, hk with | 0, hk => cases hk; rw [hU]; exact hq | k + 1, hk => simp at hk⟩, by rw [hU]⟩⟩ rfl rfl hl.1 rfl (Nat.le_of_ble_eq_true rfl) dX3_init_44 ⟨(Nat.le_of_ble_eq_true rfl), (Nat.le_of_ble_eq_true rfl)⟩) (fun pq u5 H locs hP hD hS => ?_)
  obtain ⟨g0, g1, bq⟩ := u5
  obtain ⟨hP, hD⟩ := zPD_perm hP hD (zfront ([(h0, .inr (3, [.ref oq, .int 0, .int 0, .int (-1), .ref n0, .ref f0, .null, .null, .null, .null])), (oq, .inl (Y 1, 32, .inl fun _ => 0))]) (zfl Y r2 2) ([(pq, .inr (1, [.ref g0, .int 0, .int 0, .int 0, .ref bq, .int 0, .int 0, .int 0, .int 0])), (bq, .inl (Y 1, 600, .inl fun _ => 0))]) (zrl Y (zgf g0 g1)))
  rw [zfl_snoc] at hP hD
  obtain ⟨r3, er3⟩ : ∃ z, z = (fun j => if j < 2 then r2 j else zgf g0 g1) := ⟨_, rfl⟩
  rw [← er3] at hP hD
  refine va_putF (D := D) (ci := 3) (v := .ref pq) (ty := .object RX1) (C := RX3) (T := TX3) (N := 10) hx hb hts (fun w h => List.mem_cons_of_mem _ (ziX3 w h)) tyX3 tyX3_ok nmX3 hown hK hP hD hS 0 rfl rfl 6 (by decide) (ok _ m_452) (fun _ h9 => h9) rfl hin rfl (by decide +kernel) rfl rfl (Nat.le_of_ble_eq_true rfl) dX3_init_47 (fun H locs hP hD hS => ?_)
  have hP : va_P D vwCl ([(h0, .inr (3, [.ref oq, .int 0, .int 0, .int (-1), .ref n0, .ref f0, .ref pq, .null, .null, .null])), (oq, .inl (Y 1, 32, .inl fun _ => 0)), (pq, .inr (1, [.ref g0, .int 0, .int 0, .int 0, .ref bq, .int 0, .int 0, .int 0, .int 0])), (bq, .inl (Y 1, 600, .inl fun _ => 0))] ++ zfl Y r3 3) H := hP
  have hD : va_D (zAs h0 s.heap.size) ([(h0, .inr (3, [.ref oq, .int 0, .int 0, .int (-1), .ref n0, .ref f0, .ref pq, .null, .null, .null])), (oq, .inl (Y 1, 32, .inl fun _ => 0)), (pq, .inr (1, [.ref g0, .int 0, .int 0, .int 0, .ref bq, .int 0, .int 0, .int 0, .int 0])), (bq, .inl (Y 1, 600, .inl fun _ => 0))] ++ zfl Y r3 3) := hD
  refine lv_aload_n hx hb dX3_init_50 rfl (lv_at hl 0 rfl) ?_
  obtain ⟨k1, k2, k3, k4, k5, k6, k7⟩ := ki_X0_init
  obtain ⟨n10, hn10⟩ : ∃ z, z = 10 := ⟨_, rfl⟩
  refine z_newObj (ci := 0) (fs := zbl0) (mc' := 111) (ms' := 1110) (N := 3) (fun q (u : Nat × (Nat → Nat → Nat)) => zhw Y q u.1 u.2 n10) hx hb hown hts hK ziX0 tyX0_ok m_194 m_195 m_34 rfl zbl0_ok hP hD hS hA (Nat.le_of_ble_eq_true rfl) (Nat.le_of_ble_eq_true rfl) dX3_init_51 dX3_init_54 (fun q H1 locs1 hS1 hq => vx_runI (Ts := _ :: zWS) (bytes := cX0_init) (maxL := 2) (n := 0) (As := []) ⟨hx, hb, hml, hown, hts⟩ (c_X0_init l D Y q H1.size hn10) ⟨⟨rfl, rfl, (Nat.le_of_ble_eq_true rfl), (Nat.le_of_ble_eq_true rfl), z_pay hts k3, List.mem_cons_self, ok _ k3, ok _ k2, k4, z_len k5, ok _ m_196⟩, rfl, ok _ k1⟩ ⟨fun a U g mk q => by obtain ⟨q0, ⟨q1, q2, q3, q5⟩, q4⟩ := q; exact ⟨q0, ⟨va_K.moved (u := U) (U := U.calling g mk a) (Vm.Alike.refl U.vm) q1, va_Nw.same rfl rfl q2, va_AO.moved (u := U) (U := U.calling g mk a) (Vm.Alike.refl U.vm) q3, q5⟩, q4⟩, fun U hU hW => ⟨rfl, ⟨va_K.moved hW.alike hK, va_Nw.warmM hW (hNe (RX0, 17, yX2_init) (by decide +kernel)), va_AO.moved hW.alike hAO, fun k x hk => by match k, hk with | 0, hk => cases hk; rw [hU]; exact hq | k + 1, hk => simp at hk⟩, by rw [hU]⟩⟩ rfl rfl hl.1 rfl (Nat.le_of_ble_eq_true rfl) dX3_init_55 ⟨(Nat.le_of_ble_eq_true rfl), (Nat.le_of_ble_eq_true rfl)⟩) (fun hq u6 H locs hP hD hS => ?_)
  obtain ⟨aq, hr6⟩ := u6
  obtain ⟨hP, hD⟩ := zPD_perm hP hD (zfront ([(h0, .inr (3, [.ref oq, .int 0, .int 0, .int (-1), .ref n0, .ref f0, .ref pq, .null, .null, .null])), (oq, .inl (Y 1, 32, .inl fun _ => 0)), (pq, .inr (1, [.ref g0, .int 0, .int 0, .int 0, .ref bq, .int 0, .int 0, .int 0, .int 0])), (bq, .inl (Y 1, 600, .inl fun _ => 0))]) (zfl Y r3 3) ([(hq, .inr (0, [.ref aq, .int 0, .int 0])), (aq, .inl (Y 3, 10, .inr (.inr (.inr (.inr (zst hr6 n10))))))]) (zfl Y hr6 n10))
  rw [zfl_app] at hP hD
  obtain ⟨r13, er13⟩ : ∃ z, z = (fun j => if j < 3 then r3 j else hr6 (j - 3)) := ⟨_, rfl⟩
  rw [← er13] at hP hD
  obtain ⟨n13, hn13⟩ : ∃ z, z = 3 + n10 := ⟨_, rfl⟩
  rw [← hn13] at hP hD
  refine va_putF (D := D) (ci := 3) (v := .ref hq) (ty := .object RX0) (C := RX3) (T := TX3) (N := 10) hx hb hts (fun w h => List.mem_cons_of_mem _ (ziX3 w h)) tyX3 tyX3_ok nmX3 hown hK hP hD hS 0 rfl rfl 7 (by decide) (ok _ m_453) (fun _ h9 => h9) rfl hin rfl (by decide +kernel) rfl rfl (Nat.le_of_ble_eq_true rfl) dX3_init_58 (fun H locs hP hD hS => ?_)
  have hP : va_P D vwCl ([(h0, .inr (3, [.ref oq, .int 0, .int 0, .int (-1), .ref n0, .ref f0, .ref pq, .ref hq, .null, .null])), (oq, .inl (Y 1, 32, .inl fun _ => 0)), (pq, .inr (1, [.ref g0, .int 0, .int 0, .int 0, .ref bq, .int 0, .int 0, .int 0, .int 0])), (bq, .inl (Y 1, 600, .inl fun _ => 0)), (hq, .inr (0, [.ref aq, .int 0, .int 0])), (aq, .inl (Y 3, 10, .inr (.inr (.inr (.inr (zst hr6 n10))))))] ++ zfl Y r13 n13) H := hP
  have hD : va_D (zAs h0 s.heap.size) ([(h0, .inr (3, [.ref oq, .int 0, .int 0, .int (-1), .ref n0, .ref f0, .ref pq, .ref hq, .null, .null])), (oq, .inl (Y 1, 32, .inl fun _ => 0)), (pq, .inr (1, [.ref g0, .int 0, .int 0, .int 0, .ref bq, .int 0, .int 0, .int 0, .int 0])), (bq, .inl (Y 1, 600, .inl fun _ => 0)), (hq, .inr (0, [.ref aq, .int 0, .int 0])), (aq, .inl (Y 3, 10, .inr (.inr (.inr (.inr (zst hr6 n10))))))] ++ zfl Y r13 n13) := hD
  refine lv_aload_n hx hb dX3_init_61 rfl (lv_at hl 0 rfl) ?_
  refine lv_iconst (v := 2) hx hb dX3_init_62 (by decide) ?_
  refine va_newq (C := RX2) (N' := 2) hx hb hown (ok _ m_61) hAO hK hP hD hS hA (by decide) (by decide) (Nat.le_of_ble_eq_true rfl) (Nat.le_of_ble_eq_true rfl) (Nat.le_of_ble_eq_true rfl) dX3_init_63 (fun sq cA H hK1 hP hD hS => ?_)
  obtain rfl := (zY_of hK).2.2.2 hK1
  obtain ⟨hP, hD⟩ := zPD_perm hP hD (zfront1 ([(h0, .inr (3, [.ref oq, .int 0, .int 0, .int (-1), .ref n0, .ref f0, .ref pq, .ref hq, .null, .null])), (oq, .inl (Y 1, 32, .inl fun _ => 0)), (pq, .inr (1, [.ref g0, .int 0, .int 0, .int 0, .ref bq, .int 0, .int 0, .int 0, .int 0])), (bq, .inl (Y 1, 600, .inl fun _ => 0)), (hq, .inr (0, [.ref aq, .int 0, .int 0])), (aq, .inl (Y 3, 10, .inr (.inr (.inr (.inr (zst hr6 n10))))))]) (zfl Y r13 n13) ((sq, .inl (Y 3, 2, .inr (.inr (.inr (.inr (fun _ => none))))))))
  refine va_putF (D := D) (ci := 3) (v := .ref sq) (ty := .array (.object RX2)) (C := RX3) (T := TX3) (N := 10) hx hb hts (fun w h => List.mem_cons_of_mem _ (ziX3 w h)) tyX3 tyX3_ok nmX3 hown hK hP hD hS 0 rfl rfl 8 (by decide) (ok _ m_454) (fun _ h9 => h9) rfl hin rfl (by decide +kernel) rfl rfl (Nat.le_of_ble_eq_true rfl) dX3_init_66 (fun H locs hP hD hS => ?_)
  have hP : va_P D vwCl ([(h0, .inr (3, [.ref oq, .int 0, .int 0, .int (-1), .ref n0, .ref f0, .ref pq, .ref hq, .ref sq, .null])), (oq, .inl (Y 1, 32, .inl fun _ => 0)), (pq, .inr (1, [.ref g0, .int 0, .int 0, .int 0, .ref bq, .int 0, .int 0, .int 0, .int 0])), (bq, .inl (Y 1, 600, .inl fun _ => 0)), (hq, .inr (0, [.ref aq, .int 0, .int 0])), (aq, .inl (Y 3, 10, .inr (.inr (.inr (.inr (zst hr6 n10)))))), (sq, .inl (Y 3, 2, .inr (.inr (.inr (.inr (fun _ => none))))))] ++ zfl Y r13 n13) H := hP
  have hD : va_D (zAs h0 s.heap.size) ([(h0, .inr (3, [.ref oq, .int 0, .int 0, .int (-1), .ref n0, .ref f0, .ref pq, .ref hq, .ref sq, .null])), (oq, .inl (Y 1, 32, .inl fun _ => 0)), (pq, .inr (1, [.ref g0, .int 0, .int 0, .int 0, .ref bq, .int 0, .int 0, .int 0, .int 0])), (bq, .inl (Y 1, 600, .inl fun _ => 0)), (hq, .inr (0, [.ref aq, .int 0, .int 0])), (aq, .inl (Y 3, 10, .inr (.inr (.inr (.inr (zst hr6 n10)))))), (sq, .inl (Y 3, 2, .inr (.inr (.inr (.inr (fun _ => none))))))] ++ zfl Y r13 n13) := hD
  refine lv_aload_n hx hb dX3_init_69 rfl (lv_at hl 0 rfl) ?_
  refine lv_iconst (v := 2) hx hb dX3_init_70 (by decide) ?_
  refine va_newa (atype := .boolean) (ty := .boolean) (a0 := (2, .inl fun _ => 0)) (N' := 2) hx hb (ok _ m_477) rfl hK hP hD hS hA (fun _ => rfl) (by decide) (by decide) (Nat.le_of_ble_eq_true rfl) (Nat.le_of_ble_eq_true rfl) (Nat.le_of_ble_eq_true rfl) dX3_init_71 (fun iq cA H hK1 hP hD hS => ?_)
  obtain rfl := (zY_of hK).2.2.1 hK1
  obtain ⟨hP, hD⟩ := zPD_perm hP hD (zfront1 ([(h0, .inr (3, [.ref oq, .int 0, .int 0, .int (-1), .ref n0, .ref f0, .ref pq, .ref hq, .ref sq, .null])), (oq, .inl (Y 1, 32, .inl fun _ => 0)), (pq, .inr (1, [.ref g0, .int 0, .int 0, .int 0, .ref bq, .int 0, .int 0, .int 0, .int 0])), (bq, .inl (Y 1, 600, .inl fun _ => 0)), (hq, .inr (0, [.ref aq, .int 0, .int 0])), (aq, .inl (Y 3, 10, .inr (.inr (.inr (.inr (zst hr6 n10)))))), (sq, .inl (Y 3, 2, .inr (.inr (.inr (.inr (fun _ => none))))))]) (zfl Y r13 n13) ((iq, .inl (Y 2, 2, .inl fun _ => 0))))
  refine va_putF (D := D) (ci := 3) (v := .ref iq) (ty := .array .boolean) (C := RX3) (T := TX3) (N := 10) hx hb hts (fun w h => List.mem_cons_of_mem _ (ziX3 w h)) tyX3 tyX3_ok nmX3 hown hK hP hD hS 0 rfl rfl 9 (by decide) (ok _ m_455) (fun _ h9 => h9) rfl hin rfl (by decide +kernel) rfl rfl (Nat.le_of_ble_eq_true rfl) dX3_init_73 (fun H locs hP hD hS => ?_)
  have hP : va_P D vwCl ([(h0, .inr (3, [.ref oq, .int 0, .int 0, .int (-1), .ref n0, .ref f0, .ref pq, .ref hq, .ref sq, .ref iq])), (oq, .inl (Y 1, 32, .inl fun _ => 0)), (pq, .inr (1, [.ref g0, .int 0, .int 0, .int 0, .ref bq, .int 0, .int 0, .int 0, .int 0])), (bq, .inl (Y 1, 600, .inl fun _ => 0)), (hq, .inr (0, [.ref aq, .int 0, .int 0])), (aq, .inl (Y 3, 10, .inr (.inr (.inr (.inr (zst hr6 n10)))))), (sq, .inl (Y 3, 2, .inr (.inr (.inr (.inr (fun _ => none)))))), (iq, .inl (Y 2, 2, .inl fun _ => 0))] ++ zfl Y r13 n13) H := hP
  have hD : va_D (zAs h0 s.heap.size) ([(h0, .inr (3, [.ref oq, .int 0, .int 0, .int (-1), .ref n0, .ref f0, .ref pq, .ref hq, .ref sq, .ref iq])), (oq, .inl (Y 1, 32, .inl fun _ => 0)), (pq, .inr (1, [.ref g0, .int 0, .int 0, .int 0, .ref bq, .int 0, .int 0, .int 0, .int 0])), (bq, .inl (Y 1, 600, .inl fun _ => 0)), (hq, .inr (0, [.ref aq, .int 0, .int 0])), (aq, .inl (Y 3, 10, .inr (.inr (.inr (.inr (zst hr6 n10)))))), (sq, .inl (Y 3, 2, .inr (.inr (.inr (.inr (fun _ => none)))))), (iq, .inl (Y 2, 2, .inl fun _ => 0))] ++ zfl Y r13 n13) := hD
  refine lv_iconst (v := 0) hx hb dX3_init_76 (by decide) ?_
  refine lv_istore_n (lv' := [(1, .int 0), (0, .ref h0)]) hx hb dX3_init_77 rfl hl (by decide) rfl (fun ls hl => ?_)
  refine lv_iload_n hx hb dX3_init_78 rfl (lv_at hl 0 rfl) ?_
  refine lv_aload_n hx hb dX3_init_79 rfl (lv_at hl 1 rfl) ?_
  refine va_get hx hb hts (fun w h => List.mem_cons_of_mem _ (ziX3 w h)) hown hK hP 0 rfl rfl 8 (by decide) (ok _ m_454) (fun _ h9 => h9) rfl dX3_init_80 ?_
  refine va_alen (v := 2) hx hb hK hP 6 3 rfl rfl rfl dX3_init_83 ?_
  refine lv_icmp_ge (tgt := 106) hx hb dX3_init_84 (by decide) (fun hc => absurd hc (by decide)) (fun _ => ?_)
  refine lv_aload_n hx hb dX3_init_87 rfl (lv_at hl 1 rfl) ?_
  refine va_get hx hb hts (fun w h => List.mem_cons_of_mem _ (ziX3 w h)) hown hK hP 0 rfl rfl 8 (by decide) (ok _ m_454) (fun _ h9 => h9) rfl dX3_init_88 ?_
  refine lv_iload_n hx hb dX3_init_91 rfl (lv_at hl 0 rfl) ?_
  refine z_newReg hx hb hml hown hts hK (hNe (RX3, 19, yX2_init) (by decide +kernel)) m_61 hl.1 hP hD hS hA (Nat.le_of_ble_eq_true rfl) (Nat.le_of_ble_eq_true rfl) (Nat.le_of_ble_eq_true rfl) (Nat.le_of_ble_eq_true rfl) dX3_init_92 dX3_init_95 dX3_init_96 (fun s0 v0 H locs hP hD hS => ?_)
  refine va_astq hx hb hK hP hD hS 6 3 ([(h0, .inr (3, [.ref oq, .int 0, .int 0, .int (-1), .ref n0, .ref f0, .ref pq, .ref hq, .ref sq, .ref iq])), (oq, .inl (Y 1, 32, .inl fun _ => 0)), (pq, .inr (1, [.ref g0, .int 0, .int 0, .int 0, .ref bq, .int 0, .int 0, .int 0, .int 0])), (bq, .inl (Y 1, 600, .inl fun _ => 0)), (hq, .inr (0, [.ref aq, .int 0, .int 0])), (aq, .inl (Y 3, 10, .inr (.inr (.inr (.inr (zst hr6 n10)))))), (sq, .inl (Y 3, 2, .inr (.inr (.inr (.inr (fun _ => none)))))), (iq, .inl (Y 2, 2, .inl fun _ => 0))] ++ zfl Y r13 n13 : va_W).length 2 (r := (RX2, TX2, 20)) rfl rfl zapp0 rfl (zin_i (by decide)) dX3_init_99 (fun H locs hP hD hS => ?_)
  have hP : va_P D vwCl (([(h0, .inr (3, [.ref oq, .int 0, .int 0, .int (-1), .ref n0, .ref f0, .ref pq, .ref hq, .ref sq, .ref iq])), (oq, .inl (Y 1, 32, .inl fun _ => 0)), (pq, .inr (1, [.ref g0, .int 0, .int 0, .int 0, .ref bq, .int 0, .int 0, .int 0, .int 0])), (bq, .inl (Y 1, 600, .inl fun _ => 0)), (hq, .inr (0, [.ref aq, .int 0, .int 0])), (aq, .inl (Y 3, 10, .inr (.inr (.inr (.inr (zst hr6 n10)))))), (sq, .inl (Y 3, 2, .inr (.inr (.inr (.inr (va_up (fun _ => none) (0 : Int32).toNatClampNeg (some s0))))))), (iq, .inl (Y 2, 2, .inl fun _ => 0))] ++ zfl Y r13 n13) ++ zrl Y (zgf s0 v0)) H := hP
  have hD : va_D (zAs h0 s.heap.size) (([(h0, .inr (3, [.ref oq, .int 0, .int 0, .int (-1), .ref n0, .ref f0, .ref pq, .ref hq, .ref sq, .ref iq])), (oq, .inl (Y 1, 32, .inl fun _ => 0)), (pq, .inr (1, [.ref g0, .int 0, .int 0, .int 0, .ref bq, .int 0, .int 0, .int 0, .int 0])), (bq, .inl (Y 1, 600, .inl fun _ => 0)), (hq, .inr (0, [.ref aq, .int 0, .int 0])), (aq, .inl (Y 3, 10, .inr (.inr (.inr (.inr (zst hr6 n10)))))), (sq, .inl (Y 3, 2, .inr (.inr (.inr (.inr (va_up (fun _ => none) (0 : Int32).toNatClampNeg (some s0))))))), (iq, .inl (Y 2, 2, .inl fun _ => 0))] ++ zfl Y r13 n13) ++ zrl Y (zgf s0 v0)) := hD
  rw [List.append_assoc, zfl_snoc] at hP hD
  obtain ⟨r14, er14⟩ : ∃ z, z = (fun j => if j < n13 then r13 j else zgf s0 v0) := ⟨_, rfl⟩
  rw [← er14] at hP hD
  obtain ⟨n14, hn14⟩ : ∃ z, z = n13 + 1 := ⟨_, rfl⟩
  rw [← hn14] at hP hD
  refine lv_iinc (v := 1) (lv' := [(1, .int 1), (0, .ref h0)]) hx hb dX3_init_100 hl (k := 0) rfl (by decide) (by decide) rfl (fun ls hl => ?_)
  refine lv_goto (tgt := 78) hx hb dX3_init_103 (by decide) ?_
  refine lv_iload_n hx hb dX3_init_78 rfl (lv_at hl 0 rfl) ?_
  refine lv_aload_n hx hb dX3_init_79 rfl (lv_at hl 1 rfl) ?_
  refine va_get hx hb hts (fun w h => List.mem_cons_of_mem _ (ziX3 w h)) hown hK hP 0 rfl rfl 8 (by decide) (ok _ m_454) (fun _ h9 => h9) rfl dX3_init_80 ?_
  refine va_alen (v := 2) hx hb hK hP 6 3 rfl rfl rfl dX3_init_83 ?_
  refine lv_icmp_ge (tgt := 106) hx hb dX3_init_84 (by decide) (fun hc => absurd hc (by decide)) (fun _ => ?_)
  refine lv_aload_n hx hb dX3_init_87 rfl (lv_at hl 1 rfl) ?_
  refine va_get hx hb hts (fun w h => List.mem_cons_of_mem _ (ziX3 w h)) hown hK hP 0 rfl rfl 8 (by decide) (ok _ m_454) (fun _ h9 => h9) rfl dX3_init_88 ?_
  refine lv_iload_n hx hb dX3_init_91 rfl (lv_at hl 0 rfl) ?_
  refine z_newReg hx hb hml hown hts hK (hNe (RX3, 19, yX2_init) (by decide +kernel)) m_61 hl.1 hP hD hS hA (Nat.le_of_ble_eq_true rfl) (Nat.le_of_ble_eq_true rfl) (Nat.le_of_ble_eq_true rfl) (Nat.le_of_ble_eq_true rfl) dX3_init_92 dX3_init_95 dX3_init_96 (fun s1 v1 H locs hP hD hS => ?_)
  refine va_astq hx hb hK hP hD hS 6 3 ([(h0, .inr (3, [.ref oq, .int 0, .int 0, .int (-1), .ref n0, .ref f0, .ref pq, .ref hq, .ref sq, .ref iq])), (oq, .inl (Y 1, 32, .inl fun _ => 0)), (pq, .inr (1, [.ref g0, .int 0, .int 0, .int 0, .ref bq, .int 0, .int 0, .int 0, .int 0])), (bq, .inl (Y 1, 600, .inl fun _ => 0)), (hq, .inr (0, [.ref aq, .int 0, .int 0])), (aq, .inl (Y 3, 10, .inr (.inr (.inr (.inr (zst hr6 n10)))))), (sq, .inl (Y 3, 2, .inr (.inr (.inr (.inr (va_up (fun _ => none) (0 : Int32).toNatClampNeg (some s0))))))), (iq, .inl (Y 2, 2, .inl fun _ => 0))] ++ zfl Y r14 n14 : va_W).length 2 (r := (RX2, TX2, 20)) rfl rfl zapp0 rfl (zin_i (by decide)) dX3_init_99 (fun H locs hP hD hS => ?_)
  have hP : va_P D vwCl (([(h0, .inr (3, [.ref oq, .int 0, .int 0, .int (-1), .ref n0, .ref f0, .ref pq, .ref hq, .ref sq, .ref iq])), (oq, .inl (Y 1, 32, .inl fun _ => 0)), (pq, .inr (1, [.ref g0, .int 0, .int 0, .int 0, .ref bq, .int 0, .int 0, .int 0, .int 0])), (bq, .inl (Y 1, 600, .inl fun _ => 0)), (hq, .inr (0, [.ref aq, .int 0, .int 0])), (aq, .inl (Y 3, 10, .inr (.inr (.inr (.inr (zst hr6 n10)))))), (sq, .inl (Y 3, 2, .inr (.inr (.inr (.inr (va_up (va_up (fun _ => none) (0 : Int32).toNatClampNeg (some s0)) (1 : Int32).toNatClampNeg (some s1))))))), (iq, .inl (Y 2, 2, .inl fun _ => 0))] ++ zfl Y r14 n14) ++ zrl Y (zgf s1 v1)) H := hP
  have hD : va_D (zAs h0 s.heap.size) (([(h0, .inr (3, [.ref oq, .int 0, .int 0, .int (-1), .ref n0, .ref f0, .ref pq, .ref hq, .ref sq, .ref iq])), (oq, .inl (Y 1, 32, .inl fun _ => 0)), (pq, .inr (1, [.ref g0, .int 0, .int 0, .int 0, .ref bq, .int 0, .int 0, .int 0, .int 0])), (bq, .inl (Y 1, 600, .inl fun _ => 0)), (hq, .inr (0, [.ref aq, .int 0, .int 0])), (aq, .inl (Y 3, 10, .inr (.inr (.inr (.inr (zst hr6 n10)))))), (sq, .inl (Y 3, 2, .inr (.inr (.inr (.inr (va_up (va_up (fun _ => none) (0 : Int32).toNatClampNeg (some s0)) (1 : Int32).toNatClampNeg (some s1))))))), (iq, .inl (Y 2, 2, .inl fun _ => 0))] ++ zfl Y r14 n14) ++ zrl Y (zgf s1 v1)) := hD
  rw [List.append_assoc, zfl_snoc] at hP hD
  obtain ⟨r15, er15⟩ : ∃ z, z = (fun j => if j < n14 then r14 j else zgf s1 v1) := ⟨_, rfl⟩
  rw [← er15] at hP hD
  obtain ⟨n15, hn15⟩ : ∃ z, z = n14 + 1 := ⟨_, rfl⟩
  rw [← hn15] at hP hD
  refine lv_iinc (v := 2) (lv' := [(1, .int 2), (0, .ref h0)]) hx hb dX3_init_100 hl (k := 0) rfl (by decide) (by decide) rfl (fun ls hl => ?_)
  refine lv_goto (tgt := 78) hx hb dX3_init_103 (by decide) ?_
  refine lv_iload_n hx hb dX3_init_78 rfl (lv_at hl 0 rfl) ?_
  refine lv_aload_n hx hb dX3_init_79 rfl (lv_at hl 1 rfl) ?_
  refine va_get hx hb hts (fun w h => List.mem_cons_of_mem _ (ziX3 w h)) hown hK hP 0 rfl rfl 8 (by decide) (ok _ m_454) (fun _ h9 => h9) rfl dX3_init_80 ?_
  refine va_alen (v := 2) hx hb hK hP 6 3 rfl rfl rfl dX3_init_83 ?_
  refine lv_icmp_ge (tgt := 106) hx hb dX3_init_84 (by decide) (fun _ => ?_) (fun hc => absurd (by decide) hc)
  subst hn10
  subst hn13
  subst hn14
  subst hn15
  obtain ⟨G, hG00, hP0, hG⟩ := zP_start (gn := zgf n0 n1) (gf := zgf f0 f1) (gr := zgf g0 g1) (hr := hr6) (s0 := zgf s0 v0) (s1 := zgf s1 v1) (R := r15) (by rw [er15, er14, er13, er3, er2, er1]; rfl) (by rw [er15, er14, er13, er3, er2]; rfl) (by rw [er15, er14, er13, er3]; rfl) (fun j hj => by rw [er15, er14, er13]; show (if 3 + j < 3 + 10 + 1 then (if 3 + j < 3 + 10 then (if 3 + j < 3 then r3 (3 + j) else hr6 (3 + j - 3)) else _) else _) = _; rw [if_pos (by omega), if_pos (by omega), if_neg (by omega), Nat.add_sub_cancel_left]) (by rw [er15, er14]; rfl) (by rw [er15]; rfl) (fun j hj => by unfold zst; rw [if_pos hj]) (fun j hj => by rcases (by omega : j = 0 ∨ j = 1) with rfl | rfl <;> rfl) hP hD
  subst hG00
  have F : zF 0 8 172 2308 p l s m _ c cX3_init 2 RX3 (Cond.code yX3_init cX3_init 2 none) D Y S V G (zAs (G 0 0) s.heap.size) := ⟨hx, hb, hml, hown, hts, hl9, hG, hK9, hA⟩
  refine W.into (fun t ht => ?_) (j_X3_init_106 F hr hlocks hex zT0 hT hP0 hS (lv_sub hl [1] rfl))
  obtain ⟨oc, g1, g2, g3⟩ := ht
  refine ⟨oc, g1, g2, ?_⟩
  rcases g3 with ⟨⟨⟨v9, hv9, ho, hp⟩, hF⟩, hE⟩ | ⟨q9, _, E, ce, L9, ⟨⟨hE, _⟩, _⟩, _⟩
  · cases hv9
    exact Or.inl ⟨⟨⟨ho, G, rfl, hp, hG⟩, hF⟩, hE⟩
  · cases hE
