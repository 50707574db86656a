/-! THE LAW'S OWN METHODS that catch, by program -/
theorem ml_1117 : Cond.methodLink RL 66 yX3_dateAt ∈ zWS := zws_in 1117 (by decide +kernel) (by decide +kernel)
theorem ml_597 : Cond.classLink RL 34 "java/lang/IndexOutOfBoundsException" ∈ zWS := zws_in 597 (by decide +kernel) (by decide +kernel)
theorem ml_598 : Cond.classLink RL 36 "java/lang/IllegalArgumentException" ∈ zWS := zws_in 598 (by decide +kernel) (by decide +kernel)
theorem ml_641 : Cond.classLink RL 41 "java/lang/IllegalStateException" ∈ zWS := zws_in 641 (by decide +kernel) (by decide +kernel)
theorem ml_642 : Cond.methodLink RL 38 yX3_undo ∈ zWS := zws_in 642 (by decide +kernel) (by decide +kernel)
theorem ml_657 : Cond.methodLink RL 43 yX3_advance ∈ zWS := zws_in 657 (by decide +kernel) (by decide +kernel)
theorem ml_668 : Cond.methodLink RL 46 yX3_draw ∈ zWS := zws_in 668 (by decide +kernel) (by decide +kernel)
theorem ml_683 : Cond.methodLink RL 49 yX3_setBirthday ∈ zWS := zws_in 683 (by decide +kernel) (by decide +kernel)
theorem ml_703 : Cond.methodLink RL 53 yX3_forgetBirthday ∈ zWS := zws_in 703 (by decide +kernel) (by decide +kernel)
theorem ml_710 : Cond.methodLink RL 56 yX3_moveTo ∈ zWS := zws_in 710 (by decide +kernel) (by decide +kernel)
theorem ml_723 : Cond.methodLink RL 60 yX3_buyCandles ∈ zWS := zws_in 723 (by decide +kernel) (by decide +kernel)
theorem ml_732 : Cond.methodLink RL 63 yX3_bakeCakes ∈ zWS := zws_in 732 (by decide +kernel) (by decide +kernel)
theorem k_X3_advance : zcal yX3_advance cX3_advance 2 (some .int) 1 := ⟨zws_in 658 (by decide +kernel) (by decide +kernel), zws_in 659 (by decide +kernel) (by decide +kernel), zws_in 31 (by decide +kernel) (by decide +kernel), zws_in 660 (by decide +kernel) (by decide +kernel), ⟨by decide +kernel, by decide +kernel⟩, by decide +kernel, by decide⟩
theorem k_X3_bakeCakes : zcal yX3_bakeCakes cX3_bakeCakes 3 (some .int) 2 := ⟨zws_in 733 (by decide +kernel) (by decide +kernel), zws_in 734 (by decide +kernel) (by decide +kernel), zws_in 31 (by decide +kernel) (by decide +kernel), zws_in 735 (by decide +kernel) (by decide +kernel), ⟨by decide +kernel, by decide +kernel⟩, by decide +kernel, by decide⟩
theorem k_X3_buyCandles : zcal yX3_buyCandles cX3_buyCandles 2 (some .int) 1 := ⟨zws_in 724 (by decide +kernel) (by decide +kernel), zws_in 725 (by decide +kernel) (by decide +kernel), zws_in 31 (by decide +kernel) (by decide +kernel), zws_in 726 (by decide +kernel) (by decide +kernel), ⟨by decide +kernel, by decide +kernel⟩, by decide +kernel, by decide⟩
theorem k_X3_dateAt : zcal yX3_dateAt cX3_dateAt 4 (some .int) 1 := ⟨zws_in 1118 (by decide +kernel) (by decide +kernel), zws_in 1119 (by decide +kernel) (by decide +kernel), zws_in 31 (by decide +kernel) (by decide +kernel), zws_in 1120 (by decide +kernel) (by decide +kernel), ⟨by decide +kernel, by decide +kernel⟩, by decide +kernel, by decide⟩
theorem k_X3_draw : zcal yX3_draw cX3_draw 3 (some .int) 1 := ⟨zws_in 669 (by decide +kernel) (by decide +kernel), zws_in 670 (by decide +kernel) (by decide +kernel), zws_in 31 (by decide +kernel) (by decide +kernel), zws_in 671 (by decide +kernel) (by decide +kernel), ⟨by decide +kernel, by decide +kernel⟩, by decide +kernel, by decide⟩
theorem k_X3_forgetBirthday : zcal yX3_forgetBirthday cX3_forgetBirthday 3 (some .int) 1 := ⟨zws_in 704 (by decide +kernel) (by decide +kernel), zws_in 705 (by decide +kernel) (by decide +kernel), zws_in 31 (by decide +kernel) (by decide +kernel), zws_in 706 (by decide +kernel) (by decide +kernel), ⟨by decide +kernel, by decide +kernel⟩, by decide +kernel, by decide⟩
theorem k_X3_moveTo : zcal yX3_moveTo cX3_moveTo 5 (some .int) 2 := ⟨zws_in 711 (by decide +kernel) (by decide +kernel), zws_in 712 (by decide +kernel) (by decide +kernel), zws_in 31 (by decide +kernel) (by decide +kernel), zws_in 713 (by decide +kernel) (by decide +kernel), ⟨by decide +kernel, by decide +kernel⟩, by decide +kernel, by decide⟩
theorem k_X3_setBirthday : zcal yX3_setBirthday cX3_setBirthday 5 (some .int) 3 := ⟨zws_in 684 (by decide +kernel) (by decide +kernel), zws_in 685 (by decide +kernel) (by decide +kernel), zws_in 31 (by decide +kernel) (by decide +kernel), zws_in 686 (by decide +kernel) (by decide +kernel), ⟨by decide +kernel, by decide +kernel⟩, by decide +kernel, by decide⟩
theorem k_X3_undo : zcal yX3_undo cX3_undo 1 (some .int) 0 := ⟨zws_in 643 (by decide +kernel) (by decide +kernel), zws_in 644 (by decide +kernel) (by decide +kernel), zws_in 31 (by decide +kernel) (by decide +kernel), zws_in 645 (by decide +kernel) (by decide +kernel), ⟨by decide +kernel, by decide +kernel⟩, by decide +kernel, by decide⟩
def f_L_undone (T : zT) : Option (Int32 × zT) := zcat [(0, (-1))] (f_X3_undo T)
set_option maxHeartbeats 4000000 in
set_option maxRecDepth 100000 in
theorem c_L_undone (T T' : zT) (v : Int32) (hf : f_L_undone T = some (v, T')) : zCh 0 yL_undone (Cond.codeWith yL_undone cL_undone 2 (some .int) [(0, 4, 5, 41)]) 7 1 6 (fun G _ => [.ref (G 0 0)]) T (fun _ => .inl (some (.int v))) T' := by
  intro l D Y S V G A hl9 hG
  refine vx_ofWH (cc := cL_undone) (maxL := 2) (ret := some .int) (hh := [(0, 4, 5, 41)]) (by decide) rfl ?_
  intro p e s m args below meth c s₁ B hml hv9
  obtain ⟨rfl, hK, hP, hA⟩ := hv9
  have hx := B.exec
  have hb := B.bytes
  have hr := B.returns
  have hlocks := B.notSynchronized
  have hown : s.vm.findClass RL = some m.cls := findClass_of_methodNamed B.named
  have hts := atoms_spec (ws := Cond.codeWith yL_undone cL_undone 2 (some .int) [(0, 4, 5, 41)] :: zWS) B.pre
  have htab := vx_table (x := yL_undone) B (hts _ List.mem_cons_self)
  have F : zF 0 7 1 6 p l s m _ c cL_undone 2 RL (Cond.codeWith yL_undone cL_undone 2 (some .int) [(0, 4, 5, 41)]) D Y S V G A := ⟨hx, hb, hml, hown, hts, hl9, hG, hK, hA⟩
  have hS : va_S A s.heap s.heap [] := va_S.rf
  have hl := lv_entry ([.ref (G 0 0)]) (n := 2) (Nat.le_of_ble_eq_true rfl)
  rw [lg_entry_eq]
  generalize (lg_sl ([.ref (G 0 0)]) ++ List.replicate (2 - (lg_sl ([.ref (G 0 0)])).length) Slot.unset).toArray = ls at hl ⊢
  have hl : lv_has ls 2 [(0, .ref (G 0 0))] := hl
  refine lv_aload_n hx hb dL_undone_0 rfl (lv_at hl 0 rfl) ?_
  unfold f_L_undone at hf
  rcases zcat_i hf with h1 | ⟨n, h1, hn⟩
  · refine z_ok (z_runV (p := p) (e := e) (below := below) (meth := meth) (cells := 0) (slots := 0) (ls := ls) (As := []) (rest := []) F k_X3_undo ml_642 (c_X3_undo T T' (.inl v) h1) hP hS (zV_0 (by decide)) rfl rfl rfl rfl hl.1 (Nat.le_of_ble_eq_true rfl) dL_undone_1 (Nat.le_of_ble_eq_true rfl) ⟨(Nat.le_of_ble_eq_true rfl), (Nat.le_of_ble_eq_true rfl)⟩ rfl) hS (fun H locs hP hS => ?_)
    exact z_iret hx hb hr rfl hP hS hlocks (Nat.le_of_ble_eq_true rfl) (Nat.le_of_ble_eq_true rfl) dL_undone_4
  · simp only [List.mem_cons, Prod.mk.injEq, List.not_mem_nil, or_false] at hn
    obtain ⟨rfl, rfl⟩ := hn
    refine z_exs (E := "java/lang/IllegalStateException") (z_runV (p := p) (e := e) (below := below) (meth := meth) (cells := 0) (slots := 0) (ls := ls) (As := []) (rest := []) F k_X3_undo ml_642 (c_X3_undo T T' (.inr 0) h1) hP hS (zV_0 (by decide)) rfl rfl rfl rfl hl.1 (Nat.le_of_ble_eq_true rfl) dL_undone_1 (Nat.le_of_ble_eq_true rfl) ⟨(Nat.le_of_ble_eq_true rfl), (Nat.le_of_ble_eq_true rfl)⟩ rfl) hS (fun ce q9 H locs hP hS hce hcv hcl => ?_)
    refine vx_catch (own := RL) (name := "java/lang/IllegalStateException") (E := "java/lang/IllegalStateException") hown [] ⟨0, 4, 5, 41⟩ [] (htab.trans rfl) (fun z hz => by cases hz) (by decide) (by decide) (hts _ (List.mem_cons_of_mem _ ml_641)) (va_Nw.use rfl (hK.2.2.2.2.2.2.2.2.2.2.1 "java/lang/IllegalStateException" (by decide))) hce hcv hcl ?_
    refine lv_astore_n (lv' := [(1, .ref q9), (0, .ref (G 0 0))]) hx hb dL_undone_5 rfl hl (by decide) rfl (fun ls hl => ?_)
    refine lv_iconst (v := (-1)) hx hb dL_undone_6 (by decide) ?_
    exact z_iret hx hb hr rfl hP hS hlocks (Nat.le_of_ble_eq_true rfl) (Nat.le_of_ble_eq_true rfl) dL_undone_7
def f_L_advanced (p1 : Int32) (T : zT) : Option (Int32 × zT) := zcat [(1, (-2)), (0, (-3))] (f_X3_advance p1 T)
set_option maxHeartbeats 4000000 in
set_option maxRecDepth 100000 in
theorem c_L_advanced (p1 : Int32) (T T' : zT) (v : Int32) (hf : f_L_advanced p1 T = some (v, T')) : zCh 0 yL_advanced (Cond.codeWith yL_advanced cL_advanced 3 (some .int) [(0, 5, 6, 36), (0, 5, 10, 41)]) 7 1 6 (fun G _ => [.ref (G 0 0), .int p1]) T (fun _ => .inl (some (.int v))) T' := by
  intro l D Y S V G A hl9 hG
  refine vx_ofWH (cc := cL_advanced) (maxL := 3) (ret := some .int) (hh := [(0, 5, 6, 36), (0, 5, 10, 41)]) (by decide) rfl ?_
  intro p e s m args below meth c s₁ B hml hv9
  obtain ⟨rfl, hK, hP, hA⟩ := hv9
  have hx := B.exec
  have hb := B.bytes
  have hr := B.returns
  have hlocks := B.notSynchronized
  have hown : s.vm.findClass RL = some m.cls := findClass_of_methodNamed B.named
  have hts := atoms_spec (ws := Cond.codeWith yL_advanced cL_advanced 3 (some .int) [(0, 5, 6, 36), (0, 5, 10, 41)] :: zWS) B.pre
  have htab := vx_table (x := yL_advanced) B (hts _ List.mem_cons_self)
  have F : zF 0 7 1 6 p l s m _ c cL_advanced 3 RL (Cond.codeWith yL_advanced cL_advanced 3 (some .int) [(0, 5, 6, 36), (0, 5, 10, 41)]) D Y S V G A := ⟨hx, hb, hml, hown, hts, hl9, hG, hK, hA⟩
  have hS : va_S A s.heap s.heap [] := va_S.rf
  have hl := lv_entry ([.ref (G 0 0), .int p1]) (n := 3) (Nat.le_of_ble_eq_true rfl)
  rw [lg_entry_eq]
  generalize (lg_sl ([.ref (G 0 0), .int p1]) ++ List.replicate (3 - (lg_sl ([.ref (G 0 0), .int p1])).length) Slot.unset).toArray = ls at hl ⊢
  have hl : lv_has ls 3 [(0, .ref (G 0 0)), (1, .int p1)] := hl
  refine lv_aload_n hx hb dL_advanced_0 rfl (lv_at hl 0 rfl) ?_
  refine lv_iload_n hx hb dL_advanced_1 rfl (lv_at hl 1 rfl) ?_
  unfold f_L_advanced at hf
  rcases zcat_i hf with h1 | ⟨n, h1, hn⟩
  · refine z_ok (z_runV (p := p) (e := e) (below := below) (meth := meth) (cells := 0) (slots := 0) (ls := ls) (As := [.int p1]) (rest := []) F k_X3_advance ml_657 (c_X3_advance p1 T T' (.inl v) h1) hP hS (zV_0 (by decide)) rfl rfl rfl rfl hl.1 (Nat.le_of_ble_eq_true rfl) dL_advanced_2 (Nat.le_of_ble_eq_true rfl) ⟨(Nat.le_of_ble_eq_true rfl), (Nat.le_of_ble_eq_true rfl)⟩ rfl) hS (fun H locs hP hS => ?_)
    exact z_iret hx hb hr rfl hP hS hlocks (Nat.le_of_ble_eq_true rfl) (Nat.le_of_ble_eq_true rfl) dL_advanced_5
  · simp only [List.mem_cons, Prod.mk.injEq, List.not_mem_nil, or_false] at hn
    rcases hn with ⟨rfl, rfl⟩ | ⟨rfl, rfl⟩
    · refine z_exs (E := "java/lang/IllegalArgumentException") (z_runV (p := p) (e := e) (below := below) (meth := meth) (cells := 0) (slots := 0) (ls := ls) (As := [.int p1]) (rest := []) F k_X3_advance ml_657 (c_X3_advance p1 T T' (.inr 1) h1) hP hS (zV_0 (by decide)) rfl rfl rfl rfl hl.1 (Nat.le_of_ble_eq_true rfl) dL_advanced_2 (Nat.le_of_ble_eq_true rfl) ⟨(Nat.le_of_ble_eq_true rfl), (Nat.le_of_ble_eq_true rfl)⟩ rfl) hS (fun ce q9 H locs hP hS hce hcv hcl => ?_)
      refine vx_catch (own := RL) (name := "java/lang/IllegalArgumentException") (E := "java/lang/IllegalArgumentException") hown [] ⟨0, 5, 6, 36⟩ [⟨0, 5, 10, 41⟩] (htab.trans rfl) (fun z hz => by cases hz) (by decide) (by decide) (hts _ (List.mem_cons_of_mem _ ml_598)) (va_Nw.use rfl (hK.2.2.2.2.2.2.2.2.2.2.1 "java/lang/IllegalArgumentException" (by decide))) hce hcv hcl ?_
      refine lv_astore_n (lv' := [(2, .ref q9), (0, .ref (G 0 0)), (1, .int p1)]) hx hb dL_advanced_6 rfl hl (by decide) rfl (fun ls hl => ?_)
      refine lv_bipush (v := (-2)) hx hb dL_advanced_7 (by decide) ?_
      exact z_iret hx hb hr rfl hP hS hlocks (Nat.le_of_ble_eq_true rfl) (Nat.le_of_ble_eq_true rfl) dL_advanced_9
    · refine z_exs (E := "java/lang/IllegalStateException") (z_runV (p := p) (e := e) (below := below) (meth := meth) (cells := 0) (slots := 0) (ls := ls) (As := [.int p1]) (rest := []) F k_X3_advance ml_657 (c_X3_advance p1 T T' (.inr 0) h1) hP hS (zV_0 (by decide)) rfl rfl rfl rfl hl.1 (Nat.le_of_ble_eq_true rfl) dL_advanced_2 (Nat.le_of_ble_eq_true rfl) ⟨(Nat.le_of_ble_eq_true rfl), (Nat.le_of_ble_eq_true rfl)⟩ rfl) hS (fun ce q9 H locs hP hS hce hcv hcl => ?_)
      refine vx_catch (own := RL) (name := "java/lang/IllegalStateException") (E := "java/lang/IllegalStateException") hown [⟨0, 5, 6, 36⟩] ⟨0, 5, 10, 41⟩ [] (htab.trans rfl) (fun z hz => by obtain rfl := List.mem_singleton.mp hz; exact Or.inr ⟨by decide, "java/lang/IllegalArgumentException", hts _ (List.mem_cons_of_mem _ ml_598), hK.2.2.2.2.2.2.2.2.2.2.2 ("java/lang/IllegalStateException", "java/lang/IllegalArgumentException") (by decide)⟩) (by decide) (by decide) (hts _ (List.mem_cons_of_mem _ ml_641)) (va_Nw.use rfl (hK.2.2.2.2.2.2.2.2.2.2.1 "java/lang/IllegalStateException" (by decide))) hce hcv hcl ?_
      refine lv_astore_n (lv' := [(2, .ref q9), (0, .ref (G 0 0)), (1, .int p1)]) hx hb dL_advanced_10 rfl hl (by decide) rfl (fun ls hl => ?_)
      refine lv_bipush (v := (-3)) hx hb dL_advanced_11 (by decide) ?_
      exact z_iret hx hb hr rfl hP hS hlocks (Nat.le_of_ble_eq_true rfl) (Nat.le_of_ble_eq_true rfl) dL_advanced_13
def f_L_drawn (p1 : Int32) (T : zT) : Option (Int32 × zT) := zcat [(2, (-5)), (0, (-3))] (f_X3_draw p1 T)
set_option maxHeartbeats 4000000 in
set_option maxRecDepth 100000 in
theorem c_L_drawn (p1 : Int32) (T T' : zT) (v : Int32) (hf : f_L_drawn p1 T = some (v, T')) : zCh 0 yL_drawn (Cond.codeWith yL_drawn cL_drawn 3 (some .int) [(0, 5, 6, 34), (0, 5, 10, 41)]) 8 2 12 (fun G _ => [.ref (G 0 0), .int p1]) T (fun _ => .inl (some (.int v))) T' := by
  intro l D Y S V G A hl9 hG
  refine vx_ofWH (cc := cL_drawn) (maxL := 3) (ret := some .int) (hh := [(0, 5, 6, 34), (0, 5, 10, 41)]) (by decide) rfl ?_
  intro p e s m args below meth c s₁ B hml hv9
  obtain ⟨rfl, hK, hP, hA⟩ := hv9
  have hx := B.exec
  have hb := B.bytes
  have hr := B.returns
  have hlocks := B.notSynchronized
  have hown : s.vm.findClass RL = some m.cls := findClass_of_methodNamed B.named
  have hts := atoms_spec (ws := Cond.codeWith yL_drawn cL_drawn 3 (some .int) [(0, 5, 6, 34), (0, 5, 10, 41)] :: zWS) B.pre
  have htab := vx_table (x := yL_drawn) B (hts _ List.mem_cons_self)
  have F : zF 0 8 2 12 p l s m _ c cL_drawn 3 RL (Cond.codeWith yL_drawn cL_drawn 3 (some .int) [(0, 5, 6, 34), (0, 5, 10, 41)]) D Y S V G A := ⟨hx, hb, hml, hown, hts, hl9, hG, hK, hA⟩
  have hS : va_S A s.heap s.heap [] := va_S.rf
  have hl := lv_entry ([.ref (G 0 0), .int p1]) (n := 3) (Nat.le_of_ble_eq_true rfl)
  rw [lg_entry_eq]
  generalize (lg_sl ([.ref (G 0 0), .int p1]) ++ List.replicate (3 - (lg_sl ([.ref (G 0 0), .int p1])).length) Slot.unset).toArray = ls at hl ⊢
  have hl : lv_has ls 3 [(0, .ref (G 0 0)), (1, .int p1)] := hl
  refine lv_aload_n hx hb dL_drawn_0 rfl (lv_at hl 0 rfl) ?_
  refine lv_iload_n hx hb dL_drawn_1 rfl (lv_at hl 1 rfl) ?_
  unfold f_L_drawn at hf
  rcases zcat_i hf with h1 | ⟨n, h1, hn⟩
  · refine z_ok (z_runV (p := p) (e := e) (below := below) (meth := meth) (cells := 0) (slots := 0) (ls := ls) (As := [.int p1]) (rest := []) F k_X3_draw ml_668 (c_X3_draw p1 T T' (.inl v) h1) hP hS (zV_0 (by decide)) rfl rfl rfl rfl hl.1 (Nat.le_of_ble_eq_true rfl) dL_drawn_2 (Nat.le_of_ble_eq_true rfl) ⟨(Nat.le_of_ble_eq_true rfl), (Nat.le_of_ble_eq_true rfl)⟩ rfl) hS (fun H locs hP hS => ?_)
    exact z_iret hx hb hr rfl hP hS hlocks (Nat.le_of_ble_eq_true rfl) (Nat.le_of_ble_eq_true rfl) dL_drawn_5
  · simp only [List.mem_cons, Prod.mk.injEq, List.not_mem_nil, or_false] at hn
    rcases hn with ⟨rfl, rfl⟩ | ⟨rfl, rfl⟩
    · refine z_exs (E := "java/lang/IndexOutOfBoundsException") (z_runV (p := p) (e := e) (below := below) (meth := meth) (cells := 0) (slots := 0) (ls := ls) (As := [.int p1]) (rest := []) F k_X3_draw ml_668 (c_X3_draw p1 T T' (.inr 2) h1) hP hS (zV_0 (by decide)) rfl rfl rfl rfl hl.1 (Nat.le_of_ble_eq_true rfl) dL_drawn_2 (Nat.le_of_ble_eq_true rfl) ⟨(Nat.le_of_ble_eq_true rfl), (Nat.le_of_ble_eq_true rfl)⟩ rfl) hS (fun ce q9 H locs hP hS hce hcv hcl => ?_)
      refine vx_catch (own := RL) (name := "java/lang/IndexOutOfBoundsException") (E := "java/lang/IndexOutOfBoundsException") hown [] ⟨0, 5, 6, 34⟩ [⟨0, 5, 10, 41⟩] (htab.trans rfl) (fun z hz => by cases hz) (by decide) (by decide) (hts _ (List.mem_cons_of_mem _ ml_597)) (va_Nw.use rfl (hK.2.2.2.2.2.2.2.2.2.2.1 "java/lang/IndexOutOfBoundsException" (by decide))) hce hcv hcl ?_
      refine lv_astore_n (lv' := [(2, .ref q9), (0, .ref (G 0 0)), (1, .int p1)]) hx hb dL_drawn_6 rfl hl (by decide) rfl (fun ls hl => ?_)
      refine lv_bipush (v := (-5)) hx hb dL_drawn_7 (by decide) ?_
      exact z_iret hx hb hr rfl hP hS hlocks (Nat.le_of_ble_eq_true rfl) (Nat.le_of_ble_eq_true rfl) dL_drawn_9
    · refine z_exs (E := "java/lang/IllegalStateException") (z_runV (p := p) (e := e) (below := below) (meth := meth) (cells := 0) (slots := 0) (ls := ls) (As := [.int p1]) (rest := []) F k_X3_draw ml_668 (c_X3_draw p1 T T' (.inr 0) h1) hP hS (zV_0 (by decide)) rfl rfl rfl rfl hl.1 (Nat.le_of_ble_eq_true rfl) dL_drawn_2 (Nat.le_of_ble_eq_true rfl) ⟨(Nat.le_of_ble_eq_true rfl), (Nat.le_of_ble_eq_true rfl)⟩ rfl) hS (fun ce q9 H locs hP hS hce hcv hcl => ?_)
      refine vx_catch (own := RL) (name := "java/lang/IllegalStateException") (E := "java/lang/IllegalStateException") hown [⟨0, 5, 6, 34⟩] ⟨0, 5, 10, 41⟩ [] (htab.trans rfl) (fun z hz => by obtain rfl := List.mem_singleton.mp hz; exact Or.inr ⟨by decide, "java/lang/IndexOutOfBoundsException", hts _ (List.mem_cons_of_mem _ ml_597), hK.2.2.2.2.2.2.2.2.2.2.2 ("java/lang/IllegalStateException", "java/lang/IndexOutOfBoundsException") (by decide)⟩) (by decide) (by decide) (hts _ (List.mem_cons_of_mem _ ml_641)) (va_Nw.use rfl (hK.2.2.2.2.2.2.2.2.2.2.1 "java/lang/IllegalStateException" (by decide))) hce hcv hcl ?_
      refine lv_astore_n (lv' := [(2, .ref q9), (0, .ref (G 0 0)), (1, .int p1)]) hx hb dL_drawn_10 rfl hl (by decide) rfl (fun ls hl => ?_)
      refine lv_bipush (v := (-3)) hx hb dL_drawn_11 (by decide) ?_
      exact z_iret hx hb hr rfl hP hS hlocks (Nat.le_of_ble_eq_true rfl) (Nat.le_of_ble_eq_true rfl) dL_drawn_13
def f_L_set (p1 : Int32) (p2 : Int32) (p3 : Int32) (T : zT) : Option (Int32 × zT) := zcat [(2, (-5)), (1, (-2)), (0, (-3))] (f_X3_setBirthday p1 p2 p3 T)
set_option maxHeartbeats 4000000 in
set_option maxRecDepth 100000 in
theorem c_L_set (p1 : Int32) (p2 : Int32) (p3 : Int32) (T T' : zT) (v : Int32) (hf : f_L_set p1 p2 p3 T = some (v, T')) : zCh 0 yL_set (Cond.codeWith yL_set cL_set 5 (some .int) [(0, 7, 8, 34), (0, 7, 13, 36), (0, 7, 18, 41)]) 8 3 18 (fun G _ => [.ref (G 0 0), .int p1, .int p2, .int p3]) T (fun _ => .inl (some (.int v))) T' := by
  intro l D Y S V G A hl9 hG
  refine vx_ofWH (cc := cL_set) (maxL := 5) (ret := some .int) (hh := [(0, 7, 8, 34), (0, 7, 13, 36), (0, 7, 18, 41)]) (by decide) rfl ?_
  intro p e s m args below meth c s₁ B hml hv9
  obtain ⟨rfl, hK, hP, hA⟩ := hv9
  have hx := B.exec
  have hb := B.bytes
  have hr := B.returns
  have hlocks := B.notSynchronized
  have hown : s.vm.findClass RL = some m.cls := findClass_of_methodNamed B.named
  have hts := atoms_spec (ws := Cond.codeWith yL_set cL_set 5 (some .int) [(0, 7, 8, 34), (0, 7, 13, 36), (0, 7, 18, 41)] :: zWS) B.pre
  have htab := vx_table (x := yL_set) B (hts _ List.mem_cons_self)
  have F : zF 0 8 3 18 p l s m _ c cL_set 5 RL (Cond.codeWith yL_set cL_set 5 (some .int) [(0, 7, 8, 34), (0, 7, 13, 36), (0, 7, 18, 41)]) D Y S V G A := ⟨hx, hb, hml, hown, hts, hl9, hG, hK, hA⟩
  have hS : va_S A s.heap s.heap [] := va_S.rf
  have hl := lv_entry ([.ref (G 0 0), .int p1, .int p2, .int p3]) (n := 5) (Nat.le_of_ble_eq_true rfl)
  rw [lg_entry_eq]
  generalize (lg_sl ([.ref (G 0 0), .int p1, .int p2, .int p3]) ++ List.replicate (5 - (lg_sl ([.ref (G 0 0), .int p1, .int p2, .int p3])).length) Slot.unset).toArray = ls at hl ⊢
  have hl : lv_has ls 5 [(0, .ref (G 0 0)), (1, .int p1), (2, .int p2), (3, .int p3)] := hl
  refine lv_aload_n hx hb dL_set_0 rfl (lv_at hl 0 rfl) ?_
  refine lv_iload_n hx hb dL_set_1 rfl (lv_at hl 1 rfl) ?_
  refine lv_iload_n hx hb dL_set_2 rfl (lv_at hl 2 rfl) ?_
  refine lv_iload_n hx hb dL_set_3 rfl (lv_at hl 3 rfl) ?_
  unfold f_L_set at hf
  rcases zcat_i hf with h1 | ⟨n, h1, hn⟩
  · refine z_ok (z_runV (p := p) (e := e) (below := below) (meth := meth) (cells := 0) (slots := 0) (ls := ls) (As := [.int p1, .int p2, .int p3]) (rest := []) F k_X3_setBirthday ml_683 (c_X3_setBirthday p1 p2 p3 T T' (.inl v) h1) hP hS (zV_0 (by decide)) rfl rfl rfl rfl hl.1 (Nat.le_of_ble_eq_true rfl) dL_set_4 (Nat.le_of_ble_eq_true rfl) ⟨(Nat.le_of_ble_eq_true rfl), (Nat.le_of_ble_eq_true rfl)⟩ rfl) hS (fun H locs hP hS => ?_)
    exact z_iret hx hb hr rfl hP hS hlocks (Nat.le_of_ble_eq_true rfl) (Nat.le_of_ble_eq_true rfl) dL_set_7
  · simp only [List.mem_cons, Prod.mk.injEq, List.not_mem_nil, or_false] at hn
    rcases hn with ⟨rfl, rfl⟩ | ⟨rfl, rfl⟩ | ⟨rfl, rfl⟩
    · refine z_exs (E := "java/lang/IndexOutOfBoundsException") (z_runV (p := p) (e := e) (below := below) (meth := meth) (cells := 0) (slots := 0) (ls := ls) (As := [.int p1, .int p2, .int p3]) (rest := []) F k_X3_setBirthday ml_683 (c_X3_setBirthday p1 p2 p3 T T' (.inr 2) h1) hP hS (zV_0 (by decide)) rfl rfl rfl rfl hl.1 (Nat.le_of_ble_eq_true rfl) dL_set_4 (Nat.le_of_ble_eq_true rfl) ⟨(Nat.le_of_ble_eq_true rfl), (Nat.le_of_ble_eq_true rfl)⟩ rfl) hS (fun ce q9 H locs hP hS hce hcv hcl => ?_)
      refine vx_catch (own := RL) (name := "java/lang/IndexOutOfBoundsException") (E := "java/lang/IndexOutOfBoundsException") hown [] ⟨0, 7, 8, 34⟩ [⟨0, 7, 13, 36⟩, ⟨0, 7, 18, 41⟩] (htab.trans rfl) (fun z hz => by cases hz) (by decide) (by decide) (hts _ (List.mem_cons_of_mem _ ml_597)) (va_Nw.use rfl (hK.2.2.2.2.2.2.2.2.2.2.1 "java/lang/IndexOutOfBoundsException" (by decide))) hce hcv hcl ?_
      refine lv_astore (lv' := [(4, .ref q9), (0, .ref (G 0 0)), (1, .int p1), (2, .int p2), (3, .int p3)]) hx hb dL_set_8 hl (by decide) rfl (fun ls hl => ?_)
      refine lv_bipush (v := (-5)) hx hb dL_set_10 (by decide) ?_
      exact z_iret hx hb hr rfl hP hS hlocks (Nat.le_of_ble_eq_true rfl) (Nat.le_of_ble_eq_true rfl) dL_set_12
    · refine z_exs (E := "java/lang/IllegalArgumentException") (z_runV (p := p) (e := e) (below := below) (meth := meth) (cells := 0) (slots := 0) (ls := ls) (As := [.int p1, .int p2, .int p3]) (rest := []) F k_X3_setBirthday ml_683 (c_X3_setBirthday p1 p2 p3 T T' (.inr 1) h1) hP hS (zV_0 (by decide)) rfl rfl rfl rfl hl.1 (Nat.le_of_ble_eq_true rfl) dL_set_4 (Nat.le_of_ble_eq_true rfl) ⟨(Nat.le_of_ble_eq_true rfl), (Nat.le_of_ble_eq_true rfl)⟩ rfl) hS (fun ce q9 H locs hP hS hce hcv hcl => ?_)
      refine vx_catch (own := RL) (name := "java/lang/IllegalArgumentException") (E := "java/lang/IllegalArgumentException") hown [⟨0, 7, 8, 34⟩] ⟨0, 7, 13, 36⟩ [⟨0, 7, 18, 41⟩] (htab.trans rfl) (fun z hz => by obtain rfl := List.mem_singleton.mp hz; exact Or.inr ⟨by decide, "java/lang/IndexOutOfBoundsException", hts _ (List.mem_cons_of_mem _ ml_597), hK.2.2.2.2.2.2.2.2.2.2.2 ("java/lang/IllegalArgumentException", "java/lang/IndexOutOfBoundsException") (by decide)⟩) (by decide) (by decide) (hts _ (List.mem_cons_of_mem _ ml_598)) (va_Nw.use rfl (hK.2.2.2.2.2.2.2.2.2.2.1 "java/lang/IllegalArgumentException" (by decide))) hce hcv hcl ?_
      refine lv_astore (lv' := [(4, .ref q9), (0, .ref (G 0 0)), (1, .int p1), (2, .int p2), (3, .int p3)]) hx hb dL_set_13 hl (by decide) rfl (fun ls hl => ?_)
      refine lv_bipush (v := (-2)) hx hb dL_set_15 (by decide) ?_
      exact z_iret hx hb hr rfl hP hS hlocks (Nat.le_of_ble_eq_true rfl) (Nat.le_of_ble_eq_true rfl) dL_set_17
    · refine z_exs (E := "java/lang/IllegalStateException") (z_runV (p := p) (e := e) (below := below) (meth := meth) (cells := 0) (slots := 0) (ls := ls) (As := [.int p1, .int p2, .int p3]) (rest := []) F k_X3_setBirthday ml_683 (c_X3_setBirthday p1 p2 p3 T T' (.inr 0) h1) hP hS (zV_0 (by decide)) rfl rfl rfl rfl hl.1 (Nat.le_of_ble_eq_true rfl) dL_set_4 (Nat.le_of_ble_eq_true rfl) ⟨(Nat.le_of_ble_eq_true rfl), (Nat.le_of_ble_eq_true rfl)⟩ rfl) hS (fun ce q9 H locs hP hS hce hcv hcl => ?_)
      refine vx_catch (own := RL) (name := "java/lang/IllegalStateException") (E := "java/lang/IllegalStateException") hown [⟨0, 7, 8, 34⟩, ⟨0, 7, 13, 36⟩] ⟨0, 7, 18, 41⟩ [] (htab.trans rfl) (fun z hz => by rcases List.mem_cons.mp hz with rfl | hz; (exact Or.inr ⟨by decide, "java/lang/IndexOutOfBoundsException", hts _ (List.mem_cons_of_mem _ ml_597), hK.2.2.2.2.2.2.2.2.2.2.2 ("java/lang/IllegalStateException", "java/lang/IndexOutOfBoundsException") (by decide)⟩); obtain rfl := List.mem_singleton.mp hz; exact Or.inr ⟨by decide, "java/lang/IllegalArgumentException", hts _ (List.mem_cons_of_mem _ ml_598), hK.2.2.2.2.2.2.2.2.2.2.2 ("java/lang/IllegalStateException", "java/lang/IllegalArgumentException") (by decide)⟩) (by decide) (by decide) (hts _ (List.mem_cons_of_mem _ ml_641)) (va_Nw.use rfl (hK.2.2.2.2.2.2.2.2.2.2.1 "java/lang/IllegalStateException" (by decide))) hce hcv hcl ?_
      refine lv_astore (lv' := [(4, .ref q9), (0, .ref (G 0 0)), (1, .int p1), (2, .int p2), (3, .int p3)]) hx hb dL_set_18 hl (by decide) rfl (fun ls hl => ?_)
      refine lv_bipush (v := (-3)) hx hb dL_set_20 (by decide) ?_
      exact z_iret hx hb hr rfl hP hS hlocks (Nat.le_of_ble_eq_true rfl) (Nat.le_of_ble_eq_true rfl) dL_set_22
def f_L_forgotten (p1 : Int32) (T : zT) : Option (Int32 × zT) := zcat [(2, (-5))] (f_X3_forgetBirthday p1 T)
set_option maxHeartbeats 4000000 in
set_option maxRecDepth 100000 in
theorem c_L_forgotten (p1 : Int32) (T T' : zT) (v : Int32) (hf : f_L_forgotten p1 T = some (v, T')) : zCh 0 yL_forgotten (Cond.codeWith yL_forgotten cL_forgotten 3 (some .int) [(0, 5, 6, 34)]) 8 1 6 (fun G _ => [.ref (G 0 0), .int p1]) T (fun _ => .inl (some (.int v))) T' := by
  intro l D Y S V G A hl9 hG
  refine vx_ofWH (cc := cL_forgotten) (maxL := 3) (ret := some .int) (hh := [(0, 5, 6, 34)]) (by decide) rfl ?_
  intro p e s m args below meth c s₁ B hml hv9
  obtain ⟨rfl, hK, hP, hA⟩ := hv9
  have hx := B.exec
  have hb := B.bytes
  have hr := B.returns
  have hlocks := B.notSynchronized
  have hown : s.vm.findClass RL = some m.cls := findClass_of_methodNamed B.named
  have hts := atoms_spec (ws := Cond.codeWith yL_forgotten cL_forgotten 3 (some .int) [(0, 5, 6, 34)] :: zWS) B.pre
  have htab := vx_table (x := yL_forgotten) B (hts _ List.mem_cons_self)
  have F : zF 0 8 1 6 p l s m _ c cL_forgotten 3 RL (Cond.codeWith yL_forgotten cL_forgotten 3 (some .int) [(0, 5, 6, 34)]) D Y S V G A := ⟨hx, hb, hml, hown, hts, hl9, hG, hK, hA⟩
  have hS : va_S A s.heap s.heap [] := va_S.rf
  have hl := lv_entry ([.ref (G 0 0), .int p1]) (n := 3) (Nat.le_of_ble_eq_true rfl)
  rw [lg_entry_eq]
  generalize (lg_sl ([.ref (G 0 0), .int p1]) ++ List.replicate (3 - (lg_sl ([.ref (G 0 0), .int p1])).length) Slot.unset).toArray = ls at hl ⊢
  have hl : lv_has ls 3 [(0, .ref (G 0 0)), (1, .int p1)] := hl
  refine lv_aload_n hx hb dL_forgotten_0 rfl (lv_at hl 0 rfl) ?_
  refine lv_iload_n hx hb dL_forgotten_1 rfl (lv_at hl 1 rfl) ?_
  unfold f_L_forgotten at hf
  rcases zcat_i hf with h1 | ⟨n, h1, hn⟩
  · refine z_ok (z_runV (p := p) (e := e) (below := below) (meth := meth) (cells := 0) (slots := 0) (ls := ls) (As := [.int p1]) (rest := []) F k_X3_forgetBirthday ml_703 (c_X3_forgetBirthday p1 T T' (.inl v) h1) hP hS (zV_0 (by decide)) rfl rfl rfl rfl hl.1 (Nat.le_of_ble_eq_true rfl) dL_forgotten_2 (Nat.le_of_ble_eq_true rfl) ⟨(Nat.le_of_ble_eq_true rfl), (Nat.le_of_ble_eq_true rfl)⟩ rfl) hS (fun H locs hP hS => ?_)
    exact z_iret hx hb hr rfl hP hS hlocks (Nat.le_of_ble_eq_true rfl) (Nat.le_of_ble_eq_true rfl) dL_forgotten_5
  · simp only [List.mem_cons, Prod.mk.injEq, List.not_mem_nil, or_false] at hn
    obtain ⟨rfl, rfl⟩ := hn
    refine z_exs (E := "java/lang/IndexOutOfBoundsException") (z_runV (p := p) (e := e) (below := below) (meth := meth) (cells := 0) (slots := 0) (ls := ls) (As := [.int p1]) (rest := []) F k_X3_forgetBirthday ml_703 (c_X3_forgetBirthday p1 T T' (.inr 2) h1) hP hS (zV_0 (by decide)) rfl rfl rfl rfl hl.1 (Nat.le_of_ble_eq_true rfl) dL_forgotten_2 (Nat.le_of_ble_eq_true rfl) ⟨(Nat.le_of_ble_eq_true rfl), (Nat.le_of_ble_eq_true rfl)⟩ rfl) hS (fun ce q9 H locs hP hS hce hcv hcl => ?_)
    refine vx_catch (own := RL) (name := "java/lang/IndexOutOfBoundsException") (E := "java/lang/IndexOutOfBoundsException") hown [] ⟨0, 5, 6, 34⟩ [] (htab.trans rfl) (fun z hz => by cases hz) (by decide) (by decide) (hts _ (List.mem_cons_of_mem _ ml_597)) (va_Nw.use rfl (hK.2.2.2.2.2.2.2.2.2.2.1 "java/lang/IndexOutOfBoundsException" (by decide))) hce hcv hcl ?_
    refine lv_astore_n (lv' := [(2, .ref q9), (0, .ref (G 0 0)), (1, .int p1)]) hx hb dL_forgotten_6 rfl hl (by decide) rfl (fun ls hl => ?_)
    refine lv_bipush (v := (-5)) hx hb dL_forgotten_7 (by decide) ?_
    exact z_iret hx hb hr rfl hP hS hlocks (Nat.le_of_ble_eq_true rfl) (Nat.le_of_ble_eq_true rfl) dL_forgotten_9
def f_L_moved (p1 : Int32) (p2 : Int32) (T : zT) : Option (Int32 × zT) := zcat [(2, (-5)), (0, (-3))] (f_X3_moveTo p1 p2 T)
set_option maxHeartbeats 4000000 in
set_option maxRecDepth 100000 in
theorem c_L_moved (p1 : Int32) (p2 : Int32) (T T' : zT) (v : Int32) (hf : f_L_moved p1 p2 T = some (v, T')) : zCh 0 yL_moved (Cond.codeWith yL_moved cL_moved 4 (some .int) [(0, 6, 7, 34), (0, 6, 11, 41)]) 8 3 18 (fun G _ => [.ref (G 0 0), .int p1, .int p2]) T (fun _ => .inl (some (.int v))) T' := by
  intro l D Y S V G A hl9 hG
  refine vx_ofWH (cc := cL_moved) (maxL := 4) (ret := some .int) (hh := [(0, 6, 7, 34), (0, 6, 11, 41)]) (by decide) rfl ?_
  intro p e s m args below meth c s₁ B hml hv9
  obtain ⟨rfl, hK, hP, hA⟩ := hv9
  have hx := B.exec
  have hb := B.bytes
  have hr := B.returns
  have hlocks := B.notSynchronized
  have hown : s.vm.findClass RL = some m.cls := findClass_of_methodNamed B.named
  have hts := atoms_spec (ws := Cond.codeWith yL_moved cL_moved 4 (some .int) [(0, 6, 7, 34), (0, 6, 11, 41)] :: zWS) B.pre
  have htab := vx_table (x := yL_moved) B (hts _ List.mem_cons_self)
  have F : zF 0 8 3 18 p l s m _ c cL_moved 4 RL (Cond.codeWith yL_moved cL_moved 4 (some .int) [(0, 6, 7, 34), (0, 6, 11, 41)]) D Y S V G A := ⟨hx, hb, hml, hown, hts, hl9, hG, hK, hA⟩
  have hS : va_S A s.heap s.heap [] := va_S.rf
  have hl := lv_entry ([.ref (G 0 0), .int p1, .int p2]) (n := 4) (Nat.le_of_ble_eq_true rfl)
  rw [lg_entry_eq]
  generalize (lg_sl ([.ref (G 0 0), .int p1, .int p2]) ++ List.replicate (4 - (lg_sl ([.ref (G 0 0), .int p1, .int p2])).length) Slot.unset).toArray = ls at hl ⊢
  have hl : lv_has ls 4 [(0, .ref (G 0 0)), (1, .int p1), (2, .int p2)] := hl
  refine lv_aload_n hx hb dL_moved_0 rfl (lv_at hl 0 rfl) ?_
  refine lv_iload_n hx hb dL_moved_1 rfl (lv_at hl 1 rfl) ?_
  refine lv_iload_n hx hb dL_moved_2 rfl (lv_at hl 2 rfl) ?_
  unfold f_L_moved at hf
  rcases zcat_i hf with h1 | ⟨n, h1, hn⟩
  · refine z_ok (z_runV (p := p) (e := e) (below := below) (meth := meth) (cells := 0) (slots := 0) (ls := ls) (As := [.int p1, .int p2]) (rest := []) F k_X3_moveTo ml_710 (c_X3_moveTo p1 p2 T T' (.inl v) h1) hP hS (zV_0 (by decide)) rfl rfl rfl rfl hl.1 (Nat.le_of_ble_eq_true rfl) dL_moved_3 (Nat.le_of_ble_eq_true rfl) ⟨(Nat.le_of_ble_eq_true rfl), (Nat.le_of_ble_eq_true rfl)⟩ rfl) hS (fun H locs hP hS => ?_)
    exact z_iret hx hb hr rfl hP hS hlocks (Nat.le_of_ble_eq_true rfl) (Nat.le_of_ble_eq_true rfl) dL_moved_6
  · simp only [List.mem_cons, Prod.mk.injEq, List.not_mem_nil, or_false] at hn
    rcases hn with ⟨rfl, rfl⟩ | ⟨rfl, rfl⟩
    · refine z_exs (E := "java/lang/IndexOutOfBoundsException") (z_runV (p := p) (e := e) (below := below) (meth := meth) (cells := 0) (slots := 0) (ls := ls) (As := [.int p1, .int p2]) (rest := []) F k_X3_moveTo ml_710 (c_X3_moveTo p1 p2 T T' (.inr 2) h1) hP hS (zV_0 (by decide)) rfl rfl rfl rfl hl.1 (Nat.le_of_ble_eq_true rfl) dL_moved_3 (Nat.le_of_ble_eq_true rfl) ⟨(Nat.le_of_ble_eq_true rfl), (Nat.le_of_ble_eq_true rfl)⟩ rfl) hS (fun ce q9 H locs hP hS hce hcv hcl => ?_)
      refine vx_catch (own := RL) (name := "java/lang/IndexOutOfBoundsException") (E := "java/lang/IndexOutOfBoundsException") hown [] ⟨0, 6, 7, 34⟩ [⟨0, 6, 11, 41⟩] (htab.trans rfl) (fun z hz => by cases hz) (by decide) (by decide) (hts _ (List.mem_cons_of_mem _ ml_597)) (va_Nw.use rfl (hK.2.2.2.2.2.2.2.2.2.2.1 "java/lang/IndexOutOfBoundsException" (by decide))) hce hcv hcl ?_
      refine lv_astore_n (lv' := [(3, .ref q9), (0, .ref (G 0 0)), (1, .int p1), (2, .int p2)]) hx hb dL_moved_7 rfl hl (by decide) rfl (fun ls hl => ?_)
      refine lv_bipush (v := (-5)) hx hb dL_moved_8 (by decide) ?_
      exact z_iret hx hb hr rfl hP hS hlocks (Nat.le_of_ble_eq_true rfl) (Nat.le_of_ble_eq_true rfl) dL_moved_10
    · refine z_exs (E := "java/lang/IllegalStateException") (z_runV (p := p) (e := e) (below := below) (meth := meth) (cells := 0) (slots := 0) (ls := ls) (As := [.int p1, .int p2]) (rest := []) F k_X3_moveTo ml_710 (c_X3_moveTo p1 p2 T T' (.inr 0) h1) hP hS (zV_0 (by decide)) rfl rfl rfl rfl hl.1 (Nat.le_of_ble_eq_true rfl) dL_moved_3 (Nat.le_of_ble_eq_true rfl) ⟨(Nat.le_of_ble_eq_true rfl), (Nat.le_of_ble_eq_true rfl)⟩ rfl) hS (fun ce q9 H locs hP hS hce hcv hcl => ?_)
      refine vx_catch (own := RL) (name := "java/lang/IllegalStateException") (E := "java/lang/IllegalStateException") hown [⟨0, 6, 7, 34⟩] ⟨0, 6, 11, 41⟩ [] (htab.trans rfl) (fun z hz => by obtain rfl := List.mem_singleton.mp hz; exact Or.inr ⟨by decide, "java/lang/IndexOutOfBoundsException", hts _ (List.mem_cons_of_mem _ ml_597), hK.2.2.2.2.2.2.2.2.2.2.2 ("java/lang/IllegalStateException", "java/lang/IndexOutOfBoundsException") (by decide)⟩) (by decide) (by decide) (hts _ (List.mem_cons_of_mem _ ml_641)) (va_Nw.use rfl (hK.2.2.2.2.2.2.2.2.2.2.1 "java/lang/IllegalStateException" (by decide))) hce hcv hcl ?_
      refine lv_astore_n (lv' := [(3, .ref q9), (0, .ref (G 0 0)), (1, .int p1), (2, .int p2)]) hx hb dL_moved_11 rfl hl (by decide) rfl (fun ls hl => ?_)
      refine lv_bipush (v := (-3)) hx hb dL_moved_12 (by decide) ?_
      exact z_iret hx hb hr rfl hP hS hlocks (Nat.le_of_ble_eq_true rfl) (Nat.le_of_ble_eq_true rfl) dL_moved_14
def f_L_bought (p1 : Int32) (T : zT) : Option (Int32 × zT) := zcat [(1, (-2)), (0, (-3))] (f_X3_buyCandles p1 T)
set_option maxHeartbeats 4000000 in
set_option maxRecDepth 100000 in
theorem c_L_bought (p1 : Int32) (T T' : zT) (v : Int32) (hf : f_L_bought p1 T = some (v, T')) : zCh 0 yL_bought (Cond.codeWith yL_bought cL_bought 3 (some .int) [(0, 5, 6, 36), (0, 5, 10, 41)]) 7 1 6 (fun G _ => [.ref (G 0 0), .int p1]) T (fun _ => .inl (some (.int v))) T' := by
  intro l D Y S V G A hl9 hG
  refine vx_ofWH (cc := cL_bought) (maxL := 3) (ret := some .int) (hh := [(0, 5, 6, 36), (0, 5, 10, 41)]) (by decide) rfl ?_
  intro p e s m args below meth c s₁ B hml hv9
  obtain ⟨rfl, hK, hP, hA⟩ := hv9
  have hx := B.exec
  have hb := B.bytes
  have hr := B.returns
  have hlocks := B.notSynchronized
  have hown : s.vm.findClass RL = some m.cls := findClass_of_methodNamed B.named
  have hts := atoms_spec (ws := Cond.codeWith yL_bought cL_bought 3 (some .int) [(0, 5, 6, 36), (0, 5, 10, 41)] :: zWS) B.pre
  have htab := vx_table (x := yL_bought) B (hts _ List.mem_cons_self)
  have F : zF 0 7 1 6 p l s m _ c cL_bought 3 RL (Cond.codeWith yL_bought cL_bought 3 (some .int) [(0, 5, 6, 36), (0, 5, 10, 41)]) D Y S V G A := ⟨hx, hb, hml, hown, hts, hl9, hG, hK, hA⟩
  have hS : va_S A s.heap s.heap [] := va_S.rf
  have hl := lv_entry ([.ref (G 0 0), .int p1]) (n := 3) (Nat.le_of_ble_eq_true rfl)
  rw [lg_entry_eq]
  generalize (lg_sl ([.ref (G 0 0), .int p1]) ++ List.replicate (3 - (lg_sl ([.ref (G 0 0), .int p1])).length) Slot.unset).toArray = ls at hl ⊢
  have hl : lv_has ls 3 [(0, .ref (G 0 0)), (1, .int p1)] := hl
  refine lv_aload_n hx hb dL_bought_0 rfl (lv_at hl 0 rfl) ?_
  refine lv_iload_n hx hb dL_bought_1 rfl (lv_at hl 1 rfl) ?_
  unfold f_L_bought at hf
  rcases zcat_i hf with h1 | ⟨n, h1, hn⟩
  · refine z_ok (z_runV (p := p) (e := e) (below := below) (meth := meth) (cells := 0) (slots := 0) (ls := ls) (As := [.int p1]) (rest := []) F k_X3_buyCandles ml_723 (c_X3_buyCandles p1 T T' (.inl v) h1) hP hS (zV_0 (by decide)) rfl rfl rfl rfl hl.1 (Nat.le_of_ble_eq_true rfl) dL_bought_2 (Nat.le_of_ble_eq_true rfl) ⟨(Nat.le_of_ble_eq_true rfl), (Nat.le_of_ble_eq_true rfl)⟩ rfl) hS (fun H locs hP hS => ?_)
    exact z_iret hx hb hr rfl hP hS hlocks (Nat.le_of_ble_eq_true rfl) (Nat.le_of_ble_eq_true rfl) dL_bought_5
  · simp only [List.mem_cons, Prod.mk.injEq, List.not_mem_nil, or_false] at hn
    rcases hn with ⟨rfl, rfl⟩ | ⟨rfl, rfl⟩
    · refine z_exs (E := "java/lang/IllegalArgumentException") (z_runV (p := p) (e := e) (below := below) (meth := meth) (cells := 0) (slots := 0) (ls := ls) (As := [.int p1]) (rest := []) F k_X3_buyCandles ml_723 (c_X3_buyCandles p1 T T' (.inr 1) h1) hP hS (zV_0 (by decide)) rfl rfl rfl rfl hl.1 (Nat.le_of_ble_eq_true rfl) dL_bought_2 (Nat.le_of_ble_eq_true rfl) ⟨(Nat.le_of_ble_eq_true rfl), (Nat.le_of_ble_eq_true rfl)⟩ rfl) hS (fun ce q9 H locs hP hS hce hcv hcl => ?_)
      refine vx_catch (own := RL) (name := "java/lang/IllegalArgumentException") (E := "java/lang/IllegalArgumentException") hown [] ⟨0, 5, 6, 36⟩ [⟨0, 5, 10, 41⟩] (htab.trans rfl) (fun z hz => by cases hz) (by decide) (by decide) (hts _ (List.mem_cons_of_mem _ ml_598)) (va_Nw.use rfl (hK.2.2.2.2.2.2.2.2.2.2.1 "java/lang/IllegalArgumentException" (by decide))) hce hcv hcl ?_
      refine lv_astore_n (lv' := [(2, .ref q9), (0, .ref (G 0 0)), (1, .int p1)]) hx hb dL_bought_6 rfl hl (by decide) rfl (fun ls hl => ?_)
      refine lv_bipush (v := (-2)) hx hb dL_bought_7 (by decide) ?_
      exact z_iret hx hb hr rfl hP hS hlocks (Nat.le_of_ble_eq_true rfl) (Nat.le_of_ble_eq_true rfl) dL_bought_9
    · refine z_exs (E := "java/lang/IllegalStateException") (z_runV (p := p) (e := e) (below := below) (meth := meth) (cells := 0) (slots := 0) (ls := ls) (As := [.int p1]) (rest := []) F k_X3_buyCandles ml_723 (c_X3_buyCandles p1 T T' (.inr 0) h1) hP hS (zV_0 (by decide)) rfl rfl rfl rfl hl.1 (Nat.le_of_ble_eq_true rfl) dL_bought_2 (Nat.le_of_ble_eq_true rfl) ⟨(Nat.le_of_ble_eq_true rfl), (Nat.le_of_ble_eq_true rfl)⟩ rfl) hS (fun ce q9 H locs hP hS hce hcv hcl => ?_)
      refine vx_catch (own := RL) (name := "java/lang/IllegalStateException") (E := "java/lang/IllegalStateException") hown [⟨0, 5, 6, 36⟩] ⟨0, 5, 10, 41⟩ [] (htab.trans rfl) (fun z hz => by obtain rfl := List.mem_singleton.mp hz; exact Or.inr ⟨by decide, "java/lang/IllegalArgumentException", hts _ (List.mem_cons_of_mem _ ml_598), hK.2.2.2.2.2.2.2.2.2.2.2 ("java/lang/IllegalStateException", "java/lang/IllegalArgumentException") (by decide)⟩) (by decide) (by decide) (hts _ (List.mem_cons_of_mem _ ml_641)) (va_Nw.use rfl (hK.2.2.2.2.2.2.2.2.2.2.1 "java/lang/IllegalStateException" (by decide))) hce hcv hcl ?_
      refine lv_astore_n (lv' := [(2, .ref q9), (0, .ref (G 0 0)), (1, .int p1)]) hx hb dL_bought_10 rfl hl (by decide) rfl (fun ls hl => ?_)
      refine lv_bipush (v := (-3)) hx hb dL_bought_11 (by decide) ?_
      exact z_iret hx hb hr rfl hP hS hlocks (Nat.le_of_ble_eq_true rfl) (Nat.le_of_ble_eq_true rfl) dL_bought_13
def f_L_baked (p1 : Int32) (p2 : Int32) (T : zT) : Option (Int32 × zT) := zcat [(1, (-2)), (0, (-3))] (f_X3_bakeCakes p1 p2 T)
set_option maxHeartbeats 4000000 in
set_option maxRecDepth 100000 in
theorem c_L_baked (p1 : Int32) (p2 : Int32) (T T' : zT) (v : Int32) (hf : f_L_baked p1 p2 T = some (v, T')) : zCh 0 yL_baked (Cond.codeWith yL_baked cL_baked 4 (some .int) [(0, 6, 7, 36), (0, 6, 11, 41)]) 8 2 12 (fun G _ => [.ref (G 0 0), .int p1, .int p2]) T (fun _ => .inl (some (.int v))) T' := by
  intro l D Y S V G A hl9 hG
  refine vx_ofWH (cc := cL_baked) (maxL := 4) (ret := some .int) (hh := [(0, 6, 7, 36), (0, 6, 11, 41)]) (by decide) rfl ?_
  intro p e s m args below meth c s₁ B hml hv9
  obtain ⟨rfl, hK, hP, hA⟩ := hv9
  have hx := B.exec
  have hb := B.bytes
  have hr := B.returns
  have hlocks := B.notSynchronized
  have hown : s.vm.findClass RL = some m.cls := findClass_of_methodNamed B.named
  have hts := atoms_spec (ws := Cond.codeWith yL_baked cL_baked 4 (some .int) [(0, 6, 7, 36), (0, 6, 11, 41)] :: zWS) B.pre
  have htab := vx_table (x := yL_baked) B (hts _ List.mem_cons_self)
  have F : zF 0 8 2 12 p l s m _ c cL_baked 4 RL (Cond.codeWith yL_baked cL_baked 4 (some .int) [(0, 6, 7, 36), (0, 6, 11, 41)]) D Y S V G A := ⟨hx, hb, hml, hown, hts, hl9, hG, hK, hA⟩
  have hS : va_S A s.heap s.heap [] := va_S.rf
  have hl := lv_entry ([.ref (G 0 0), .int p1, .int p2]) (n := 4) (Nat.le_of_ble_eq_true rfl)
  rw [lg_entry_eq]
  generalize (lg_sl ([.ref (G 0 0), .int p1, .int p2]) ++ List.replicate (4 - (lg_sl ([.ref (G 0 0), .int p1, .int p2])).length) Slot.unset).toArray = ls at hl ⊢
  have hl : lv_has ls 4 [(0, .ref (G 0 0)), (1, .int p1), (2, .int p2)] := hl
  refine lv_aload_n hx hb dL_baked_0 rfl (lv_at hl 0 rfl) ?_
  refine lv_iload_n hx hb dL_baked_1 rfl (lv_at hl 1 rfl) ?_
  refine lv_iload_n hx hb dL_baked_2 rfl (lv_at hl 2 rfl) ?_
  unfold f_L_baked at hf
  rcases zcat_i hf with h1 | ⟨n, h1, hn⟩
  · refine z_ok (z_runV (p := p) (e := e) (below := below) (meth := meth) (cells := 0) (slots := 0) (ls := ls) (As := [.int p1, .int p2]) (rest := []) F k_X3_bakeCakes ml_732 (c_X3_bakeCakes p1 p2 T T' (.inl v) h1) hP hS (zV_0 (by decide)) rfl rfl rfl rfl hl.1 (Nat.le_of_ble_eq_true rfl) dL_baked_3 (Nat.le_of_ble_eq_true rfl) ⟨(Nat.le_of_ble_eq_true rfl), (Nat.le_of_ble_eq_true rfl)⟩ rfl) hS (fun H locs hP hS => ?_)
    exact z_iret hx hb hr rfl hP hS hlocks (Nat.le_of_ble_eq_true rfl) (Nat.le_of_ble_eq_true rfl) dL_baked_6
  · simp only [List.mem_cons, Prod.mk.injEq, List.not_mem_nil, or_false] at hn
    rcases hn with ⟨rfl, rfl⟩ | ⟨rfl, rfl⟩
    · refine z_exs (E := "java/lang/IllegalArgumentException") (z_runV (p := p) (e := e) (below := below) (meth := meth) (cells := 0) (slots := 0) (ls := ls) (As := [.int p1, .int p2]) (rest := []) F k_X3_bakeCakes ml_732 (c_X3_bakeCakes p1 p2 T T' (.inr 1) h1) hP hS (zV_0 (by decide)) rfl rfl rfl rfl hl.1 (Nat.le_of_ble_eq_true rfl) dL_baked_3 (Nat.le_of_ble_eq_true rfl) ⟨(Nat.le_of_ble_eq_true rfl), (Nat.le_of_ble_eq_true rfl)⟩ rfl) hS (fun ce q9 H locs hP hS hce hcv hcl => ?_)
      refine vx_catch (own := RL) (name := "java/lang/IllegalArgumentException") (E := "java/lang/IllegalArgumentException") hown [] ⟨0, 6, 7, 36⟩ [⟨0, 6, 11, 41⟩] (htab.trans rfl) (fun z hz => by cases hz) (by decide) (by decide) (hts _ (List.mem_cons_of_mem _ ml_598)) (va_Nw.use rfl (hK.2.2.2.2.2.2.2.2.2.2.1 "java/lang/IllegalArgumentException" (by decide))) hce hcv hcl ?_
      refine lv_astore_n (lv' := [(3, .ref q9), (0, .ref (G 0 0)), (1, .int p1), (2, .int p2)]) hx hb dL_baked_7 rfl hl (by decide) rfl (fun ls hl => ?_)
      refine lv_bipush (v := (-2)) hx hb dL_baked_8 (by decide) ?_
      exact z_iret hx hb hr rfl hP hS hlocks (Nat.le_of_ble_eq_true rfl) (Nat.le_of_ble_eq_true rfl) dL_baked_10
    · refine z_exs (E := "java/lang/IllegalStateException") (z_runV (p := p) (e := e) (below := below) (meth := meth) (cells := 0) (slots := 0) (ls := ls) (As := [.int p1, .int p2]) (rest := []) F k_X3_bakeCakes ml_732 (c_X3_bakeCakes p1 p2 T T' (.inr 0) h1) hP hS (zV_0 (by decide)) rfl rfl rfl rfl hl.1 (Nat.le_of_ble_eq_true rfl) dL_baked_3 (Nat.le_of_ble_eq_true rfl) ⟨(Nat.le_of_ble_eq_true rfl), (Nat.le_of_ble_eq_true rfl)⟩ rfl) hS (fun ce q9 H locs hP hS hce hcv hcl => ?_)
      refine vx_catch (own := RL) (name := "java/lang/IllegalStateException") (E := "java/lang/IllegalStateException") hown [⟨0, 6, 7, 36⟩] ⟨0, 6, 11, 41⟩ [] (htab.trans rfl) (fun z hz => by obtain rfl := List.mem_singleton.mp hz; exact Or.inr ⟨by decide, "java/lang/IllegalArgumentException", hts _ (List.mem_cons_of_mem _ ml_598), hK.2.2.2.2.2.2.2.2.2.2.2 ("java/lang/IllegalStateException", "java/lang/IllegalArgumentException") (by decide)⟩) (by decide) (by decide) (hts _ (List.mem_cons_of_mem _ ml_641)) (va_Nw.use rfl (hK.2.2.2.2.2.2.2.2.2.2.1 "java/lang/IllegalStateException" (by decide))) hce hcv hcl ?_
      refine lv_astore_n (lv' := [(3, .ref q9), (0, .ref (G 0 0)), (1, .int p1), (2, .int p2)]) hx hb dL_baked_11 rfl hl (by decide) rfl (fun ls hl => ?_)
      refine lv_bipush (v := (-3)) hx hb dL_baked_12 (by decide) ?_
      exact z_iret hx hb hr rfl hP hS hlocks (Nat.le_of_ble_eq_true rfl) (Nat.le_of_ble_eq_true rfl) dL_baked_14
def f_L_dateAt (p1 : Int32) (T : zT) : Option (Int32 × zT) := zcat [(2, (-5))] (f_X3_dateAt p1 T)
set_option maxHeartbeats 4000000 in
set_option maxRecDepth 100000 in
theorem c_L_dateAt (p1 : Int32) (T T' : zT) (v : Int32) (hf : f_L_dateAt p1 T = some (v, T')) : zCh 0 yL_dateAt (Cond.codeWith yL_dateAt cL_dateAt 3 (some .int) [(0, 5, 6, 34)]) 7 1 6 (fun G _ => [.ref (G 0 0), .int p1]) T (fun _ => .inl (some (.int v))) T' := by
  intro l D Y S V G A hl9 hG
  refine vx_ofWH (cc := cL_dateAt) (maxL := 3) (ret := some .int) (hh := [(0, 5, 6, 34)]) (by decide) rfl ?_
  intro p e s m args below meth c s₁ B hml hv9
  obtain ⟨rfl, hK, hP, hA⟩ := hv9
  have hx := B.exec
  have hb := B.bytes
  have hr := B.returns
  have hlocks := B.notSynchronized
  have hown : s.vm.findClass RL = some m.cls := findClass_of_methodNamed B.named
  have hts := atoms_spec (ws := Cond.codeWith yL_dateAt cL_dateAt 3 (some .int) [(0, 5, 6, 34)] :: zWS) B.pre
  have htab := vx_table (x := yL_dateAt) B (hts _ List.mem_cons_self)
  have F : zF 0 7 1 6 p l s m _ c cL_dateAt 3 RL (Cond.codeWith yL_dateAt cL_dateAt 3 (some .int) [(0, 5, 6, 34)]) D Y S V G A := ⟨hx, hb, hml, hown, hts, hl9, hG, hK, hA⟩
  have hS : va_S A s.heap s.heap [] := va_S.rf
  have hl := lv_entry ([.ref (G 0 0), .int p1]) (n := 3) (Nat.le_of_ble_eq_true rfl)
  rw [lg_entry_eq]
  generalize (lg_sl ([.ref (G 0 0), .int p1]) ++ List.replicate (3 - (lg_sl ([.ref (G 0 0), .int p1])).length) Slot.unset).toArray = ls at hl ⊢
  have hl : lv_has ls 3 [(0, .ref (G 0 0)), (1, .int p1)] := hl
  refine lv_aload_n hx hb dL_dateAt_0 rfl (lv_at hl 0 rfl) ?_
  refine lv_iload_n hx hb dL_dateAt_1 rfl (lv_at hl 1 rfl) ?_
  unfold f_L_dateAt at hf
  rcases zcat_i hf with h1 | ⟨n, h1, hn⟩
  · refine z_ok (z_runV (p := p) (e := e) (below := below) (meth := meth) (cells := 0) (slots := 0) (ls := ls) (As := [.int p1]) (rest := []) F k_X3_dateAt ml_1117 (c_X3_dateAt p1 T T' (.inl v) h1) hP hS (zV_0 (by decide)) rfl rfl rfl rfl hl.1 (Nat.le_of_ble_eq_true rfl) dL_dateAt_2 (Nat.le_of_ble_eq_true rfl) ⟨(Nat.le_of_ble_eq_true rfl), (Nat.le_of_ble_eq_true rfl)⟩ rfl) hS (fun H locs hP hS => ?_)
    exact z_iret hx hb hr rfl hP hS hlocks (Nat.le_of_ble_eq_true rfl) (Nat.le_of_ble_eq_true rfl) dL_dateAt_5
  · simp only [List.mem_cons, Prod.mk.injEq, List.not_mem_nil, or_false] at hn
    obtain ⟨rfl, rfl⟩ := hn
    refine z_exs (E := "java/lang/IndexOutOfBoundsException") (z_runV (p := p) (e := e) (below := below) (meth := meth) (cells := 0) (slots := 0) (ls := ls) (As := [.int p1]) (rest := []) F k_X3_dateAt ml_1117 (c_X3_dateAt p1 T T' (.inr 2) h1) hP hS (zV_0 (by decide)) rfl rfl rfl rfl hl.1 (Nat.le_of_ble_eq_true rfl) dL_dateAt_2 (Nat.le_of_ble_eq_true rfl) ⟨(Nat.le_of_ble_eq_true rfl), (Nat.le_of_ble_eq_true rfl)⟩ rfl) hS (fun ce q9 H locs hP hS hce hcv hcl => ?_)
    refine vx_catch (own := RL) (name := "java/lang/IndexOutOfBoundsException") (E := "java/lang/IndexOutOfBoundsException") hown [] ⟨0, 5, 6, 34⟩ [] (htab.trans rfl) (fun z hz => by cases hz) (by decide) (by decide) (hts _ (List.mem_cons_of_mem _ ml_597)) (va_Nw.use rfl (hK.2.2.2.2.2.2.2.2.2.2.1 "java/lang/IndexOutOfBoundsException" (by decide))) hce hcv hcl ?_
    refine lv_astore_n (lv' := [(2, .ref q9), (0, .ref (G 0 0)), (1, .int p1)]) hx hb dL_dateAt_6 rfl hl (by decide) rfl (fun ls hl => ?_)
    refine lv_bipush (v := (-5)) hx hb dL_dateAt_7 (by decide) ?_
    exact z_iret hx hb hr rfl hP hS hlocks (Nat.le_of_ble_eq_true rfl) (Nat.le_of_ble_eq_true rfl) dL_dateAt_9
