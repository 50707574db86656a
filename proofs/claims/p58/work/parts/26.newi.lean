/-! AN INT ARRAY OF THE LAW'S OWN, new: the world grows by it -/
theorem zP.agree {D : va_G} {Y : Nat → ClassId} {G G' : Nat → Nat → Nat} {T : zT} {H : Heap} (h : zP 0 D Y G' T H) (e : ∀ κ ι, ¬ (κ = 0 ∧ ι = 8) → G' κ ι = G κ ι) : zP 0 D Y G T H := fun κ ι hV => by
  have hn := hV.ne
  have hc : zcell 0 Y G' T κ ι = zcell 0 Y G T κ ι := by
    have e1 : ∀ j ι, G' (j + 1) ι = G (j + 1) ι := fun j ι => e _ _ (by omega)
    have e2 : ∀ j, j ≠ 8 → G' 0 j = G 0 j := fun j hj => e _ _ (by omega)
    unfold zcell zf0 zf1 zf2 zf3
    simp only [show ∀ ι, G' 1 ι = G 1 ι from fun ι => e1 0 ι, show ∀ ι, G' 2 ι = G 2 ι from fun ι => e1 1 ι, show ∀ ι, G' 3 ι = G 3 ι from fun ι => e1 2 ι, show ∀ ι, G' 4 ι = G 4 ι from fun ι => e1 3 ι, show ∀ ι, G' 5 ι = G 5 ι from fun ι => e1 4 ι, show ∀ ι, G' 6 ι = G 6 ι from fun ι => e1 5 ι, show ∀ ι, G' 7 ι = G 7 ι from fun ι => e1 6 ι, show ∀ ι, G' 8 ι = G 8 ι from fun ι => e1 7 ι, show ∀ ι, G' 9 ι = G 9 ι from fun ι => e1 8 ι, show ∀ ι, G' 10 ι = G 10 ι from fun ι => e1 9 ι, show ∀ ι, G' 11 ι = G 11 ι from fun ι => e1 10 ι, e2 1 (by decide), e2 2 (by decide), e2 3 (by decide), e2 4 (by decide), e2 5 (by decide), e2 6 (by decide), e2 7 (by decide)]
  rw [← hc, ← e κ ι hn]
  exact h κ ι hV
section ZNI
variable {p : Program} {l : Launch} {e : Env} {s : State} {m : MethodId} {args : Array Value} {below : List Frame} {meth : Method} {c : Code} {H : Heap} {locs : List Loc} {cells slots : Nat} {Q : State → Prop}
variable {cc : ByteArray} {pc : Nat} {ls : Array Slot} {rest : List Value} {D : va_G} {Y : Nat → ClassId} {S V : Nat → Nat} {G : Nat → Nat → Nat} {A : Nat → Prop} {T : zT} {c0 : Cond} {d mc ms nL : Nat} {own : String}
theorem z_newi (F : zF 0 d mc ms p l s m args c cc nL own c0 D Y S V G A) (harr : Cond.arrayClass .int ∈ zWS) (n : Nat) (hn0 : n ≠ 0) (hn : n ≤ 1000) (hP : zP 0 D Y G T H) (hS : va_S A s.heap H locs) (hcells : cells + 1 ≤ mc) (hslots : slots + n ≤ ms) {x : Int32} (hx9 : x = nI n) (hdg : decode cc pc = .ok (.newarray .int, 2))
    (kk : ∀ (G' : Nat → Nat → Nat) (H1 : Heap), zG n G' A → (∀ κ ι, ¬ (κ = 0 ∧ ι = 8) → G' κ ι = G κ ι) → zP n D Y G' (wA T 0 8 (fun _ => 0)) H1 → va_S A s.heap H1 locs → W p l e (zR d mc ms) s m args below meth c H1 locs (cells + 1) (slots + n) Q (F0 m (pc + 2) ls (.ref (G' 0 8) :: rest))) : W p l e (zR d mc ms) s m args below meth c H locs cells slots Q (F0 m pc ls (.int x :: rest)) := by
  obtain ⟨hx, hb, hml, hown, hts, hl, hG, hK, hA⟩ := F
  subst hx9
  have ok : ∀ w ∈ zWS, w.before args s = true := fun w h => hts w (List.mem_cons_of_mem _ h)
  refine va_newa (atype := .int) (ty := .int) (a0 := (n, .inl fun _ => 0)) (N' := n) hx hb (ok _ harr) rfl hK.1 hP.list hG.list hS hA (fun _ => rfl) (nI_pos (by omega)) (nI_clamp (by omega)) (by show n * 4 ≤ 536870912; omega) hcells hslots hdg (fun q cA H1 hK1 hP1 hD1 hS1 => ?_)
  obtain rfl : cA = Y 0 := (zY_of hK.1).1 hK1
  have hq : va_at D vwCl (q, .inl (Y 0, n, .inl fun _ => 0)) H1 := hP1 _ _ zapp0
  have hAq : A q := hD1.2 _ _ zapp0
  have hold : ∀ κ ι, zV 0 κ ι → va_at D vwCl (G κ ι, zcell 0 Y G T κ ι) H1 ∧ G κ ι ≠ q := fun κ ι hV => by
    obtain ⟨k, -, hk⟩ := zL_id (Y := Y) (G := G) (T := T) hV
    have hl9 := (List.getElem?_eq_some_iff.mp hk).1
    have hk' : (zL 0 Y G T ++ [(q, (.inl (Y 0, n, .inl fun _ => 0) : va_E))])[k]? = some (G κ ι, zcell 0 Y G T κ ι) := by
      rw [List.getElem?_append_left hl9]; exact hk
    refine ⟨hP1 k _ hk', fun e9 => ?_⟩
    have := hD1.1 k (zL 0 Y G T).length _ _ hk' zapp0 e9
    omega
  obtain ⟨G', eG⟩ : ∃ G' : Nat → Nat → Nat, G' = fun κ ι => if κ = 0 ∧ ι = 8 then q else G κ ι := ⟨_, rfl⟩
  have g8 : G' 0 8 = q := by rw [eG]; exact if_pos ⟨rfl, rfl⟩
  have gn : ∀ κ ι, ¬ (κ = 0 ∧ ι = 8) → G' κ ι = G κ ι := fun κ ι h => by rw [eG]; exact if_neg h
  have hP0 : zP 0 D Y G' (wA T 0 8 (fun _ => 0)) H1 := by
    have hz : zP 0 D Y G (wA T 0 8 (fun _ => 0)) H1 := fun κ ι hV => by
      rw [zcell_congr (T := T) (T' := wA T 0 8 (fun _ => 0)) (κ := κ) (ι := ι) (fun _ => rfl) (wA_o hV.ne)]
      exact (hold κ ι hV).1
    exact hz.agree (fun κ ι h => (gn κ ι h).symm)
  have hPn : zP n D Y G' (wA T 0 8 (fun _ => 0)) H1 := fun κ ι hV => by
    rcases hV.cases with h1 | ⟨rfl, rfl⟩
    · rw [zcell_w (w' := 0) h1.ne]
      exact hP0 κ ι h1
    · have e9 : zcell n Y G' (wA T 0 8 (fun _ => 0)) 0 8 = .inl (Y 0, n, .inl fun _ => 0) := by
        show (.inl (Y 0, n, .inl ((wA T 0 8 (fun _ => 0)).2 0 8)) : va_E) = _
        rw [wA_s]
      rw [e9, g8]
      exact hq
  have hGn : zG n G' A := by
    refine ⟨fun κ ι κ' ι' h1 h2 e9 => ?_, fun κ ι hV => ?_⟩
    · rcases h1.cases with h1 | ⟨rfl, rfl⟩ <;> rcases h2.cases with h2 | ⟨rfl, rfl⟩
      · rw [gn _ _ h1.ne, gn _ _ h2.ne] at e9
        exact hG.1 _ _ _ _ h1 h2 e9
      · rw [gn _ _ h1.ne, g8] at e9
        exact absurd e9 (hold _ _ h1).2
      · rw [g8, gn _ _ h2.ne] at e9
        exact absurd e9.symm (hold _ _ h2).2
      · exact ⟨rfl, rfl⟩
    · rcases hV.cases with h1 | ⟨rfl, rfl⟩
      · rw [gn _ _ h1.ne]
        exact hG.2 κ ι h1
      · rw [g8]
        exact hAq
  have := kk G' H1 hGn gn hPn hS1
  rw [g8] at this
  exact this
end ZNI
theorem zF.world {w d mc ms : Nat} {p : Program} {l : Launch} {s : State} {m : MethodId} {args : Array Value} {c : Code} {cc : ByteArray} {nL : Nat} {own : String} {c0 : Cond} {D : va_G} {Y : Nat → ClassId} {S V : Nat → Nat} {G G' : Nat → Nat → Nat} {A : Nat → Prop} (F : zF 0 d mc ms p l s m args c cc nL own c0 D Y S V G A) (hG : zG w G' A) : zF w d mc ms p l s m args c cc nL own c0 D Y S V G' A := by
  obtain ⟨h1, h2, h3, h4, h5, h6, -, h8, h9⟩ := F
  exact ⟨h1, h2, h3, h4, h5, h6, hG, h8, h9⟩
