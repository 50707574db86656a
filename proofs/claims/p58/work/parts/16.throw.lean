/-! THROWS: new E(text), by an own method of the registry of birthdays -/
theorem zP.keep {w : Nat} {D : va_G} {Y : Nat → ClassId} {G : Nat → Nat → Nat} {T : zT} {H H1 : Heap} (h : zP w D Y G T H) (hq : ∀ q : Nat, q < H.size → H1[q]? = H[q]?) : zP w D Y G T H1 := fun κ ι hV => (h κ ι hV).kept (hq _ (h κ ι hV).lt)
theorem ztr {l : Launch} (h : l.flags = flags0) : l.stackTraces = false := by unfold Launch.stackTraces; rw [h]; decide +kernel
abbrev zup : List String := ["java/lang/RuntimeException", "java/lang/Exception"]
def zsub : List Cond := (lw_tbl.drop 485).take 160 ++ ((lw_tbl.drop 30).take 40 ++ (lw_tbl.drop 950).take 20)
theorem zsub_in {w : Cond} (h : w ∈ zsub) : w ∈ lw_tbl := by
  rcases List.mem_append.mp h with h | h
  · exact List.mem_of_mem_drop (List.mem_of_mem_take h)
  · rcases List.mem_append.mp h with h | h
    · exact List.mem_of_mem_drop (List.mem_of_mem_take h)
    · exact List.mem_of_mem_drop (List.mem_of_mem_take h)
theorem zhat {args : Array Value} {s : State} {L : List Cond} (hm : ∀ w ∈ L.filter goodWord, w ∈ zsub) (hb : ∀ w ∈ L.filter (fun w => !goodWord w), w ∈ zDecl.map Cond.declares ++ zCast.map (fun q => Cond.castable q q)) (h : ∀ w ∈ zWS, w.before args s = true) (hd : ∀ y ∈ zDecl, va_Nw (.declares y) s) (hc : ∀ q ∈ zCast, va_Nw (.castable q q) s) : ∀ w ∈ L, w.before args s = true := by
  refine vx_hat (B := zDecl.map Cond.declares ++ zCast.map (fun q => Cond.castable q q)) (fun w hw => h w (List.mem_filter.mpr ⟨zsub_in (hm w hw), (List.mem_filter.mp hw).2⟩)) hb (fun w hw => ?_)
  rcases List.mem_append.mp hw with hw | hw
  · obtain ⟨y, hy, rfl⟩ := List.mem_map.mp hw
    exact va_Nw.use rfl (hd y hy)
  · obtain ⟨q, hq, rfl⟩ := List.mem_map.mp hw
    exact va_Nw.use rfl (hc q hq)
set_option maxRecDepth 100000 in
theorem zhm_0 : ∀ w ∈ (vx_atS RX3 85 "java/lang/IllegalStateException" zup).filter goodWord, w ∈ zsub := by decide +kernel
set_option maxRecDepth 100000 in
theorem zhb_0 : ∀ w ∈ (vx_atS RX3 85 "java/lang/IllegalStateException" zup).filter (fun w => !goodWord w), w ∈ zDecl.map Cond.declares ++ zCast.map (fun q => Cond.castable q q) := by decide +kernel
set_option maxRecDepth 100000 in
theorem zhg_0 : ∀ w ∈ Cond.classLink RX3 81 "java/lang/IllegalStateException" :: Cond.initialized "java/lang/IllegalStateException" :: vx_atS RX3 85 "java/lang/IllegalStateException" zup, vx_ot w = true := by decide +kernel
set_option maxRecDepth 100000 in
theorem zhm_1 : ∀ w ∈ (vx_atS RX3 109 "java/lang/IllegalArgumentException" zup).filter goodWord, w ∈ zsub := by decide +kernel
set_option maxRecDepth 100000 in
theorem zhb_1 : ∀ w ∈ (vx_atS RX3 109 "java/lang/IllegalArgumentException" zup).filter (fun w => !goodWord w), w ∈ zDecl.map Cond.declares ++ zCast.map (fun q => Cond.castable q q) := by decide +kernel
set_option maxRecDepth 100000 in
theorem zhg_1 : ∀ w ∈ Cond.classLink RX3 105 "java/lang/IllegalArgumentException" :: Cond.initialized "java/lang/IllegalArgumentException" :: vx_atS RX3 109 "java/lang/IllegalArgumentException" zup, vx_ot w = true := by decide +kernel
set_option maxRecDepth 100000 in
theorem zhm_2 : ∀ w ∈ (vx_atS RX3 95 "java/lang/IndexOutOfBoundsException" zup).filter goodWord, w ∈ zsub := by decide +kernel
set_option maxRecDepth 100000 in
theorem zhb_2 : ∀ w ∈ (vx_atS RX3 95 "java/lang/IndexOutOfBoundsException" zup).filter (fun w => !goodWord w), w ∈ zDecl.map Cond.declares ++ zCast.map (fun q => Cond.castable q q) := by decide +kernel
set_option maxRecDepth 100000 in
theorem zhg_2 : ∀ w ∈ Cond.classLink RX3 91 "java/lang/IndexOutOfBoundsException" :: Cond.initialized "java/lang/IndexOutOfBoundsException" :: vx_atS RX3 95 "java/lang/IndexOutOfBoundsException" zup, vx_ot w = true := by decide +kernel
section ZTH
variable {p : Program} {l : Launch} {e : Env} {s : State} {m : MethodId} {args : Array Value} {below : List Frame} {meth : Method} {c : Code} {H : Heap} {locs : List Loc} {cells slots : Nat} {Q : State → Prop}
variable {cc : ByteArray} {pc : Nat} {ls : Array Slot} {rest : List Value} {D : va_G} {Y : Nat → ClassId} {S V : Nat → Nat} {G : Nat → Nat → Nat} {A : Nat → Prop} {w : Nat} {T : zT} {c0 : Cond} {d mc ms nL : Nat}
theorem mk_0 : Cond.classLink RX3 81 "java/lang/IllegalStateException" ∈ zWS := zws_in 560 (by decide +kernel) (by decide +kernel)
theorem mi_0 : Cond.initialized "java/lang/IllegalStateException" ∈ zWS := zws_in 51 (by decide +kernel) (by decide +kernel)
theorem z_throw_0 {res : Option Value ⊕ String} (F : zF w d mc ms p l s m args c cc nL RX3 c0 D Y S V G A) (si : Nat) {is : Nat} {text : String} (hq : zstrs[si]? = some ("InventedBirthdays", is, text)) (hP : zP w D Y G T H) (hS : va_S A s.heap H locs) (hsz : ls.size = nL) (hlocks : meth.locks = false) (hex : ∀ x ∈ c.exceptionTable.toList, False) (hd : 6 ≤ d) (h1 : cells + 1 ≤ mc) (h2 : slots + 6 ≤ ms) (hrest : (rest.map fun v => v.category).sum ≤ 8) (d0 : decode cc pc = .ok (.new 81, 3)) (d3 : decode cc (pc + 3) = .ok (.dup, 1)) (d4 : decode cc (pc + 4) = .ok (.ldc is, 2)) (d6 : decode cc (pc + 6) = .ok (.invokespecial 85, 3)) (d9 : decode cc (pc + 9) = .ok (.athrow, 1)) (hres : res = .inr "java/lang/IllegalStateException") :
    W p l e (zR d mc ms) s m args below meth c H locs cells slots (vx_MQ below (zQ w D Y G A res T) (zX w D Y G A res T) args s mc ms A) (F0 m pc ls rest) := by
  obtain ⟨hx, hb, hml, hown, hts, hl, hG, hK, hA⟩ := F
  have ok : ∀ w ∈ zWS, w.before args s = true := fun w h => hts w (List.mem_cons_of_mem _ h)
  obtain ⟨k1, k2, k3, k4, k5, k6, k7, k8, k9, k10, k11⟩ := hK
  refine vx_throwS (names := zup) (text := text) (is := is) (sa := S si) (A := A) hx hb (ztr hl) hown (by decide +kernel) (by decide +kernel) (ok _ mk_0) (ok _ mi_0) (k3 si _ hq) (zhat zhm_0 zhb_0 ok k10 k11.1) zhg_0 k5 k6 hS (hsz.trans hml.symm) d0 d3 d4 d6 d9 (fun x hx => (hex x hx).elim) ?_ ?_ h1 h2 hlocks (fun t _ g2 g3 => ⟨⟨hres, hP.keep g3⟩, ⟨Nat.le_trans hS.1 g2, fun q hq1 hq2 => by rw [g3 q (Nat.lt_of_lt_of_le hq1 hS.1)]; exact hS.2.1 q hq1 hq2⟩⟩) hS.2.2 h1 h2
  · show 2 + 3 < d; omega
  · show _ + (13 * (2 + 1) + 43) ≤ 37 * d; omega
theorem z_throwW_0 {res : Option Value ⊕ String} (F : zF w d mc ms p l s m args c cc nL RX3 c0 D Y S V G A) (si : Nat) {is : Nat} {text : String} (hq : zstrs[si]? = some ("InventedBirthdays", is, text)) (hP : zP w D Y G T H) (hS : va_S A s.heap H locs) (hsz : ls.size = nL) (hlocks : meth.locks = false) (hex : ∀ x ∈ c.exceptionTable.toList, False) (hd : 6 ≤ d) (h1 : cells + 1 ≤ mc) (h2 : slots + 6 ≤ ms) (hrest : (rest.map fun v => v.category).sum ≤ 8) (d0 : decode cc pc = .ok (.new 81, 3)) (d3 : decode cc (pc + 3) = .ok (.dup, 1)) (d4 : decode cc (pc + 4) = .ok (.ldc_w is, 3)) (d6 : decode cc (pc + 7) = .ok (.invokespecial 85, 3)) (d9 : decode cc (pc + 10) = .ok (.athrow, 1)) (hres : res = .inr "java/lang/IllegalStateException") :
    W p l e (zR d mc ms) s m args below meth c H locs cells slots (vx_MQ below (zQ w D Y G A res T) (zX w D Y G A res T) args s mc ms A) (F0 m pc ls rest) := by
  obtain ⟨hx, hb, hml, hown, hts, hl, hG, hK, hA⟩ := F
  have ok : ∀ w ∈ zWS, w.before args s = true := fun w h => hts w (List.mem_cons_of_mem _ h)
  obtain ⟨k1, k2, k3, k4, k5, k6, k7, k8, k9, k10, k11⟩ := hK
  refine vx_throwSW (names := zup) (text := text) (is := is) (sa := S si) (A := A) hx hb (ztr hl) hown (by decide +kernel) (by decide +kernel) (ok _ mk_0) (ok _ mi_0) (k3 si _ hq) (zhat zhm_0 zhb_0 ok k10 k11.1) zhg_0 k5 k6 hS (hsz.trans hml.symm) d0 d3 d4 d6 d9 (fun x hx => (hex x hx).elim) ?_ ?_ h1 h2 hlocks (fun t _ g2 g3 => ⟨⟨hres, hP.keep g3⟩, ⟨Nat.le_trans hS.1 g2, fun q hq1 hq2 => by rw [g3 q (Nat.lt_of_lt_of_le hq1 hS.1)]; exact hS.2.1 q hq1 hq2⟩⟩) hS.2.2 h1 h2
  · show 2 + 3 < d; omega
  · show _ + (13 * (2 + 1) + 43) ≤ 37 * d; omega
theorem mk_1 : Cond.classLink RX3 105 "java/lang/IllegalArgumentException" ∈ zWS := zws_in 618 (by decide +kernel) (by decide +kernel)
theorem mi_1 : Cond.initialized "java/lang/IllegalArgumentException" ∈ zWS := zws_in 50 (by decide +kernel) (by decide +kernel)
theorem z_throw_1 {res : Option Value ⊕ String} (F : zF w d mc ms p l s m args c cc nL RX3 c0 D Y S V G A) (si : Nat) {is : Nat} {text : String} (hq : zstrs[si]? = some ("InventedBirthdays", is, text)) (hP : zP w D Y G T H) (hS : va_S A s.heap H locs) (hsz : ls.size = nL) (hlocks : meth.locks = false) (hex : ∀ x ∈ c.exceptionTable.toList, False) (hd : 6 ≤ d) (h1 : cells + 1 ≤ mc) (h2 : slots + 6 ≤ ms) (hrest : (rest.map fun v => v.category).sum ≤ 8) (d0 : decode cc pc = .ok (.new 105, 3)) (d3 : decode cc (pc + 3) = .ok (.dup, 1)) (d4 : decode cc (pc + 4) = .ok (.ldc is, 2)) (d6 : decode cc (pc + 6) = .ok (.invokespecial 109, 3)) (d9 : decode cc (pc + 9) = .ok (.athrow, 1)) (hres : res = .inr "java/lang/IllegalArgumentException") :
    W p l e (zR d mc ms) s m args below meth c H locs cells slots (vx_MQ below (zQ w D Y G A res T) (zX w D Y G A res T) args s mc ms A) (F0 m pc ls rest) := by
  obtain ⟨hx, hb, hml, hown, hts, hl, hG, hK, hA⟩ := F
  have ok : ∀ w ∈ zWS, w.before args s = true := fun w h => hts w (List.mem_cons_of_mem _ h)
  obtain ⟨k1, k2, k3, k4, k5, k6, k7, k8, k9, k10, k11⟩ := hK
  refine vx_throwS (names := zup) (text := text) (is := is) (sa := S si) (A := A) hx hb (ztr hl) hown (by decide +kernel) (by decide +kernel) (ok _ mk_1) (ok _ mi_1) (k3 si _ hq) (zhat zhm_1 zhb_1 ok k10 k11.1) zhg_1 k5 k6 hS (hsz.trans hml.symm) d0 d3 d4 d6 d9 (fun x hx => (hex x hx).elim) ?_ ?_ h1 h2 hlocks (fun t _ g2 g3 => ⟨⟨hres, hP.keep g3⟩, ⟨Nat.le_trans hS.1 g2, fun q hq1 hq2 => by rw [g3 q (Nat.lt_of_lt_of_le hq1 hS.1)]; exact hS.2.1 q hq1 hq2⟩⟩) hS.2.2 h1 h2
  · show 2 + 3 < d; omega
  · show _ + (13 * (2 + 1) + 43) ≤ 37 * d; omega
theorem z_throwW_1 {res : Option Value ⊕ String} (F : zF w d mc ms p l s m args c cc nL RX3 c0 D Y S V G A) (si : Nat) {is : Nat} {text : String} (hq : zstrs[si]? = some ("InventedBirthdays", is, text)) (hP : zP w D Y G T H) (hS : va_S A s.heap H locs) (hsz : ls.size = nL) (hlocks : meth.locks = false) (hex : ∀ x ∈ c.exceptionTable.toList, False) (hd : 6 ≤ d) (h1 : cells + 1 ≤ mc) (h2 : slots + 6 ≤ ms) (hrest : (rest.map fun v => v.category).sum ≤ 8) (d0 : decode cc pc = .ok (.new 105, 3)) (d3 : decode cc (pc + 3) = .ok (.dup, 1)) (d4 : decode cc (pc + 4) = .ok (.ldc_w is, 3)) (d6 : decode cc (pc + 7) = .ok (.invokespecial 109, 3)) (d9 : decode cc (pc + 10) = .ok (.athrow, 1)) (hres : res = .inr "java/lang/IllegalArgumentException") :
    W p l e (zR d mc ms) s m args below meth c H locs cells slots (vx_MQ below (zQ w D Y G A res T) (zX w D Y G A res T) args s mc ms A) (F0 m pc ls rest) := by
  obtain ⟨hx, hb, hml, hown, hts, hl, hG, hK, hA⟩ := F
  have ok : ∀ w ∈ zWS, w.before args s = true := fun w h => hts w (List.mem_cons_of_mem _ h)
  obtain ⟨k1, k2, k3, k4, k5, k6, k7, k8, k9, k10, k11⟩ := hK
  refine vx_throwSW (names := zup) (text := text) (is := is) (sa := S si) (A := A) hx hb (ztr hl) hown (by decide +kernel) (by decide +kernel) (ok _ mk_1) (ok _ mi_1) (k3 si _ hq) (zhat zhm_1 zhb_1 ok k10 k11.1) zhg_1 k5 k6 hS (hsz.trans hml.symm) d0 d3 d4 d6 d9 (fun x hx => (hex x hx).elim) ?_ ?_ h1 h2 hlocks (fun t _ g2 g3 => ⟨⟨hres, hP.keep g3⟩, ⟨Nat.le_trans hS.1 g2, fun q hq1 hq2 => by rw [g3 q (Nat.lt_of_lt_of_le hq1 hS.1)]; exact hS.2.1 q hq1 hq2⟩⟩) hS.2.2 h1 h2
  · show 2 + 3 < d; omega
  · show _ + (13 * (2 + 1) + 43) ≤ 37 * d; omega
theorem mk_2 : Cond.classLink RX3 91 "java/lang/IndexOutOfBoundsException" ∈ zWS := zws_in 485 (by decide +kernel) (by decide +kernel)
theorem mi_2 : Cond.initialized "java/lang/IndexOutOfBoundsException" ∈ zWS := zws_in 52 (by decide +kernel) (by decide +kernel)
theorem z_throw_2 {res : Option Value ⊕ String} (F : zF w d mc ms p l s m args c cc nL RX3 c0 D Y S V G A) (si : Nat) {is : Nat} {text : String} (hq : zstrs[si]? = some ("InventedBirthdays", is, text)) (hP : zP w D Y G T H) (hS : va_S A s.heap H locs) (hsz : ls.size = nL) (hlocks : meth.locks = false) (hex : ∀ x ∈ c.exceptionTable.toList, False) (hd : 6 ≤ d) (h1 : cells + 1 ≤ mc) (h2 : slots + 6 ≤ ms) (hrest : (rest.map fun v => v.category).sum ≤ 8) (d0 : decode cc pc = .ok (.new 91, 3)) (d3 : decode cc (pc + 3) = .ok (.dup, 1)) (d4 : decode cc (pc + 4) = .ok (.ldc is, 2)) (d6 : decode cc (pc + 6) = .ok (.invokespecial 95, 3)) (d9 : decode cc (pc + 9) = .ok (.athrow, 1)) (hres : res = .inr "java/lang/IndexOutOfBoundsException") :
    W p l e (zR d mc ms) s m args below meth c H locs cells slots (vx_MQ below (zQ w D Y G A res T) (zX w D Y G A res T) args s mc ms A) (F0 m pc ls rest) := by
  obtain ⟨hx, hb, hml, hown, hts, hl, hG, hK, hA⟩ := F
  have ok : ∀ w ∈ zWS, w.before args s = true := fun w h => hts w (List.mem_cons_of_mem _ h)
  obtain ⟨k1, k2, k3, k4, k5, k6, k7, k8, k9, k10, k11⟩ := hK
  refine vx_throwS (names := zup) (text := text) (is := is) (sa := S si) (A := A) hx hb (ztr hl) hown (by decide +kernel) (by decide +kernel) (ok _ mk_2) (ok _ mi_2) (k3 si _ hq) (zhat zhm_2 zhb_2 ok k10 k11.1) zhg_2 k5 k6 hS (hsz.trans hml.symm) d0 d3 d4 d6 d9 (fun x hx => (hex x hx).elim) ?_ ?_ h1 h2 hlocks (fun t _ g2 g3 => ⟨⟨hres, hP.keep g3⟩, ⟨Nat.le_trans hS.1 g2, fun q hq1 hq2 => by rw [g3 q (Nat.lt_of_lt_of_le hq1 hS.1)]; exact hS.2.1 q hq1 hq2⟩⟩) hS.2.2 h1 h2
  · show 2 + 3 < d; omega
  · show _ + (13 * (2 + 1) + 43) ≤ 37 * d; omega
theorem z_throwW_2 {res : Option Value ⊕ String} (F : zF w d mc ms p l s m args c cc nL RX3 c0 D Y S V G A) (si : Nat) {is : Nat} {text : String} (hq : zstrs[si]? = some ("InventedBirthdays", is, text)) (hP : zP w D Y G T H) (hS : va_S A s.heap H locs) (hsz : ls.size = nL) (hlocks : meth.locks = false) (hex : ∀ x ∈ c.exceptionTable.toList, False) (hd : 6 ≤ d) (h1 : cells + 1 ≤ mc) (h2 : slots + 6 ≤ ms) (hrest : (rest.map fun v => v.category).sum ≤ 8) (d0 : decode cc pc = .ok (.new 91, 3)) (d3 : decode cc (pc + 3) = .ok (.dup, 1)) (d4 : decode cc (pc + 4) = .ok (.ldc_w is, 3)) (d6 : decode cc (pc + 7) = .ok (.invokespecial 95, 3)) (d9 : decode cc (pc + 10) = .ok (.athrow, 1)) (hres : res = .inr "java/lang/IndexOutOfBoundsException") :
    W p l e (zR d mc ms) s m args below meth c H locs cells slots (vx_MQ below (zQ w D Y G A res T) (zX w D Y G A res T) args s mc ms A) (F0 m pc ls rest) := by
  obtain ⟨hx, hb, hml, hown, hts, hl, hG, hK, hA⟩ := F
  have ok : ∀ w ∈ zWS, w.before args s = true := fun w h => hts w (List.mem_cons_of_mem _ h)
  obtain ⟨k1, k2, k3, k4, k5, k6, k7, k8, k9, k10, k11⟩ := hK
  refine vx_throwSW (names := zup) (text := text) (is := is) (sa := S si) (A := A) hx hb (ztr hl) hown (by decide +kernel) (by decide +kernel) (ok _ mk_2) (ok _ mi_2) (k3 si _ hq) (zhat zhm_2 zhb_2 ok k10 k11.1) zhg_2 k5 k6 hS (hsz.trans hml.symm) d0 d3 d4 d6 d9 (fun x hx => (hex x hx).elim) ?_ ?_ h1 h2 hlocks (fun t _ g2 g3 => ⟨⟨hres, hP.keep g3⟩, ⟨Nat.le_trans hS.1 g2, fun q hq1 hq2 => by rw [g3 q (Nat.lt_of_lt_of_le hq1 hS.1)]; exact hS.2.1 q hq1 hq2⟩⟩) hS.2.2 h1 h2
  · show 2 + 3 < d; omega
  · show _ + (13 * (2 + 1) + 43) ≤ 37 * d; omega
end ZTH
