/-! THE CLASS'S PARSER ON A TEXT THAT IS KNOWN: tokens -/
def zAt (b : Nat → Int32) (p : Nat) (l : List Nat) : Prop := ∀ i x, l[i]? = some x → b (p + i) = nI x
theorem zAt.tl {b : Nat → Int32} {p : Nat} {a l : List Nat} (h : zAt b p (a ++ l)) : zAt b (p + a.length) l := fun i x hx => by
  rw [Nat.add_assoc]
  exact h (a.length + i) x (by rw [List.getElem?_append_right (by omega), Nat.add_sub_cancel_left]; exact hx)
theorem zAt.hd {b : Nat → Int32} {p : Nat} {a l : List Nat} (h : zAt b p (a ++ l)) : zAt b p a := fun i x hx => by
  have hi := (List.getElem?_eq_some_iff.mp hx).1
  exact h i x (by rw [List.getElem?_append_left hi]; exact hx)
theorem zAt.one {b : Nat → Int32} {p y : Nat} {l : List Nat} (h : zAt b p (y :: l)) : b p = nI y ∧ zAt b (p + 1) l := ⟨h 0 y rfl, fun i x hx => by
  rw [show p + 1 + i = p + (i + 1) by omega]
  exact h (i + 1) x (by rw [List.getElem?_cons_succ]; exact hx)⟩
theorem zwh_is {q : Nat → Bool} {m k j : Nat} (h1 : j ≤ m) (h2 : m ≤ j + k) (ha : ∀ i, j ≤ i → i < m → q i = true) (hs : m < j + k → q m = false) : zwh q j k = m := by
  have a1 : j ≤ zwh q j k := zwh_ge
  have a2 : zwh q j k ≤ j + k := zwh_le
  by_cases c1 : zwh q j k < m
  · have e1 := zwh_stop (p := q) (k := k) (j := j) (by omega)
    rw [ha _ a1 c1] at e1
    cases e1
  · by_cases c2 : m < zwh q j k
    · have e1 := zwh_all (p := q) h1 c2
      rw [hs (by omega)] at e1
      cases e1
    · omega
theorem tk_run {b : Nat → Int32} {n p f : Nat} {bl w l : List Nat} (hA : zAt b p (bl ++ (w ++ l))) (hn : p + (bl.length + (w.length + l.length)) = n) (hbl : ∀ x ∈ bl, x = 32) (hw : ∀ x ∈ w, zci (nI x) = f) (hw0 : w ≠ []) (hf : f = 1 ∨ f = 2) (hl : ∀ x, l[0]? = some x → zci (nI x) ≠ f) : ztS b n p = p + bl.length ∧ zcl b n (p + bl.length) = f ∧ ztE b n (p + bl.length) = p + bl.length + w.length := by
  have hwl : 0 < w.length := List.length_pos_iff.mpr hw0
  have c0 : ∀ i, i < bl.length → zcl b n (p + i) = 0 := fun i hi => by
    have e1 := hA.hd i bl[i] (List.getElem?_eq_getElem hi)
    rw [zcl_lt (by omega), e1, hbl _ (List.getElem_mem hi)]; decide
  have c1 : ∀ i, i < w.length → zcl b n (p + bl.length + i) = f := fun i hi => by
    have e1 := hA.tl.hd i w[i] (List.getElem?_eq_getElem hi)
    rw [zcl_lt (by omega), e1]
    exact hw _ (List.getElem_mem hi)
  have c2 : p + bl.length + w.length < n → zcl b n (p + bl.length + w.length) ≠ f := fun h => by
    have hi : 0 < l.length := by omega
    have e1 := hA.tl.tl 0 l[0] (List.getElem?_eq_getElem hi)
    rw [zcl_lt (by omega)]
    rw [Nat.add_zero] at e1
    rw [e1]
    exact hl _ (List.getElem?_eq_getElem hi)
  have c10 := c1 0 hwl
  rw [Nat.add_zero] at c10
  refine ⟨?_, c10, ?_⟩
  · unfold ztS
    refine zwh_is (by omega) (by omega) (fun i h1 h2 => ?_) (fun _ => ?_)
    · have := c0 (i - p) (by omega)
      rw [show p + (i - p) = i by omega] at this
      exact decide_eq_true this
    · rw [c10]; exact decide_eq_false (by omega)
  · unfold ztE
    rw [c10, if_pos hf]
    unfold ztR
    refine zwh_is (by omega) (by omega) (fun i h1 h2 => ?_) (fun h => ?_)
    · have := c1 (i - (p + bl.length)) (by omega)
      rw [show p + bl.length + (i - (p + bl.length)) = i by omega] at this
      exact decide_eq_true this
    · exact decide_eq_false (c2 (by omega))
/-- the parser stands at p, l is left; k: the kind of the last token -/
def zPt (T : zT) (n p k : Nat) (l : List Nat) : Prop := (T.1 0 1 2 = 0 ∧ T.1 0 1 5 = nI n ∧ T.1 0 1 6 = nI k ∧ T.1 0 1 8 = nI p) ∧ (p + l.length = n ∧ n ≤ 600 ∧ k ≤ 5) ∧ zAt (T.2 0 4) p l
theorem zPt.fr {T T' : zT} {n p k : Nat} {l : List Nat} (h : zPt T n p k l) (hf : zfr (zPr 2) T T') : zPt T' n p k l := by
  have e1 : ∀ j, T'.1 0 1 j = T.1 0 1 j := fun j => zfr_1 hf (fun z => by have := z.1; omega) j
  have e2 : T'.2 0 4 = T.2 0 4 := zfr_2 hf (fun z => by have := z.1; omega)
  obtain ⟨⟨h1, h2, h3, h4⟩, h5, h6⟩ := h
  exact ⟨⟨by rw [e1]; exact h1, by rw [e1]; exact h2, by rw [e1]; exact h3, by rw [e1]; exact h4⟩, h5, by rw [e2]; exact h6⟩
section TK
variable {T : zT} {n p k : Nat} {l : List Nat}
theorem tk_word {bl w : List Nat} {f : Nat} (h : zPt T n p k (bl ++ (w ++ l))) (hbl : ∀ x ∈ bl, x = 32) (hw : ∀ x ∈ w, zci (nI x) = f) (hw0 : w ≠ []) (hf : f = 1 ∨ f = 2) (hl : ∀ x, l[0]? = some x → zci (nI x) ≠ f) (ht : bl ≠ [] ∨ ¬ (k = 1 ∨ k = 2)) : f_X1_readToken T = some ((), zTw T f (p + bl.length) (p + bl.length + w.length)) ∧ zPt (zTw T f (p + bl.length) (p + bl.length + w.length)) n (p + bl.length + w.length) f l ∧ zAt (T.2 0 4) (p + bl.length) w := by
  obtain ⟨⟨h2, h5, h6, h8⟩, ⟨hn, hn6, hk⟩, hA⟩ := h
  rw [List.length_append, List.length_append] at hn
  obtain ⟨e1, e2, e3⟩ := tk_run hA hn hbl hw hw0 hf hl
  have r := w_read h2 h5 hn6 h8 (by omega) h6 hk
  have hne : ¬ (p + bl.length = p ∧ (k = 1 ∨ k = 2) ∧ (f = 1 ∨ f = 2)) := fun z => by
    rcases ht with ht | ht
    · exact ht (List.length_eq_zero_iff.mp (by have := z.1; omega))
    · exact ht z.2.1
  rw [e1, e2, e3, if_neg hne] at r
  refine ⟨r, ⟨⟨?_, ?_, zTw_6, zTw_8⟩, ⟨by omega, hn6, by omega⟩, ?_⟩, hA.tl.hd⟩
  · rw [zTw_j (by omega)]; exact h2
  · rw [zTw_j (by omega)]; exact h5
  · rw [zTw_2]; exact hA.tl.tl
theorem tk_semi (h : zPt T n p k (59 :: l)) : f_X1_nextIsLine T = some (1, zTw T 3 p (p + 1)) ∧ zPt (zTw T 3 p (p + 1)) n (p + 1) 3 l := by
  obtain ⟨⟨h2, h5, h6, h8⟩, ⟨hn, hn6, hk⟩, hA⟩ := h
  rw [List.length_cons] at hn
  have c0 : zcl (T.2 0 4) n p = 3 := by rw [zcl_lt (by omega), hA.one.1]; decide
  have e1 : ztS (T.2 0 4) n p = p := zwh_is (Nat.le_refl _) (by omega) (fun i a b => by omega) (fun _ => by rw [c0]; decide)
  have e3 : ztE (T.2 0 4) n p = p + 1 := by
    unfold ztE
    rw [c0, if_neg (by decide), if_pos rfl]
  have r := w_read h2 h5 hn6 h8 (by omega) h6 hk
  rw [e1, c0, e3, if_neg (fun z => by have := z.2.2; omega)] at r
  refine ⟨?_, ⟨?_, ?_, zTw_6, zTw_8⟩, ⟨by omega, hn6, by decide⟩, ?_⟩
  · unfold f_X1_nextIsLine
    rw [r, zb_s, zTw_6, if_pos (show nI 3 = (3 : Int32) from rfl), if_pos (show nI 3 = (3 : Int32) from rfl)]
  · rw [zTw_j (by omega)]; exact h2
  · rw [zTw_j (by omega)]; exact h5
  · rw [zTw_2]; exact hA.one.2
theorem tk_end (h : zPt T n p k []) : f_X1_nextIsLine T = some (0, zTw T 4 p p) := by
  obtain ⟨⟨h2, h5, h6, h8⟩, ⟨hn, hn6, hk⟩, hA⟩ := h
  have hn : p = n := hn
  have c0 : zcl (T.2 0 4) n p = 4 := by unfold zcl; rw [if_pos (by omega)]
  have e1 : ztS (T.2 0 4) n p = p := zwh_is (Nat.le_refl _) (by omega) (fun i a b => by omega) (fun _ => by rw [c0]; decide)
  have e3 : ztE (T.2 0 4) n p = p := by
    unfold ztE
    rw [c0, if_neg (by decide), if_neg (by decide)]
  have r := w_read h2 h5 hn6 h8 (by omega) h6 hk
  rw [e1, c0, e3, if_neg (fun z => by have := z.2.2; omega)] at r
  unfold f_X1_nextIsLine
  rw [r, zb_s, zTw_6, if_neg (show ¬ nI 4 = (3 : Int32) by decide), if_pos (show nI 4 = (4 : Int32) from rfl), if_neg (show ¬ nI 4 = (3 : Int32) by decide)]
/-- a token's letters against a word -/
def tq (s0 : Nat) (w : List Nat) : Bool := (zbytes s0).length == w.length && (zfn (fun i => decide (¬ nI (w.getD i 0) = (zbytes s0).getD i 0)) 0 w.length).isNone
theorem q_tok_l {s0 : Nat} {w : List Nat} (hL : (zbytes s0).length = w.length) (h7 : T.1 0 1 7 = nI p) (hb : zAt (T.2 0 4) p w) (hp : p + w.length ≤ 600) : ∀ k j f, j + k = w.length → k < f → lp_X1_tokenIs_28 s0 f (nI j) T = some ((match zfn (fun i => decide (¬ nI (w.getD i 0) = (zbytes s0).getD i 0)) j k with | some i => (0, nI i) | none => (1, nI w.length)), T) := by
  intro k
  induction k with
  | zero =>
    intro j f hj hf
    obtain ⟨f, rfl⟩ : ∃ g, f = g + 1 := ⟨f - 1, by omega⟩
    obtain rfl : j = w.length := by omega
    rw [lp_X1_tokenIs_28, hL, if_pos (Int32.le_refl _)]; rfl
  | succ k ih =>
    intro j f hj hf
    obtain ⟨f, rfl⟩ : ∃ g, f = g + 1 := ⟨f - 1, by omega⟩
    have hjw : j < w.length := by omega
    have e1 : T.2 0 4 (p + j) = nI (w.getD j 0) := by
      rw [hb j w[j] (List.getElem?_eq_getElem hjw), List.getD_eq_getElem?_getD, List.getElem?_eq_getElem hjw]; rfl
    rw [lp_X1_tokenIs_28, hL, if_neg (nI_ge (by omega) (by omega)), h7, nI_add, q_byteAt (by omega), zb_s, if_pos (of_eq_true (q_zt hjw (by omega))), nI_clamp (by omega), e1]
    unfold zfn
    by_cases hc : nI (w.getD j 0) = (zbytes s0).getD j 0
    · rw [if_pos hc, zl_s, nI_1, if_neg (by rw [decide_eq_true_eq]; exact fun z => z hc)]
      exact ih (j + 1) f (by omega) (by omega)
    · rw [if_neg hc, if_pos (decide_eq_true hc)]
theorem q_tok {s0 : Nat} {w : List Nat} (h6 : T.1 0 1 6 = nI 1) (h7 : T.1 0 1 7 = nI p) (h8 : T.1 0 1 8 = nI (p + w.length)) (hb : zAt (T.2 0 4) p w) (hp : p + w.length ≤ 600) (hs : (zbytes s0).length < 100) : f_X1_tokenIs s0 T = some ((if tq s0 w = true then 1 else 0), T) := by
  unfold f_X1_tokenIs tq
  have e1 : nI (p + w.length) - nI p = nI w.length := by rw [pk_sub (by omega), Nat.add_sub_cancel_left]
  rw [h6, if_pos (show nI 1 = (1 : Int32) from rfl), h8, h7, e1]
  by_cases hL : (zbytes s0).length = w.length
  · have e2 := q_tok_l hL h7 hb hp w.length 0 2000 (by omega) (by omega)
    rw [← nl_0] at e2
    rw [if_pos (by rw [hL]), e2, zb_s]
    cases ez : zfn (fun i => decide (¬ nI (w.getD i 0) = (zbytes s0).getD i 0)) 0 w.length with
    | none =>
      dsimp only
      rw [if_neg (by decide), if_pos rfl, hL]
      simp
    | some i =>
      dsimp only
      rw [if_pos rfl, hL]
      simp
  · rw [if_neg (by rw [q_eq (by omega) (by omega)]; exact fun z => hL z.symm)]
    have : ((zbytes s0).length == w.length) = false := by simpa using hL
    rw [this]
    rfl
/-- a number read -/
theorem q_dgst {u d : Nat} : nI u * 10 + nI (48 + d) - 48 = nI (u * 10 + d) := by
  rw [show (10 : Int32) = nI 10 from rfl, pk_mul, nI_add, nl_48, pk_sub (by omega), show u * 10 + (48 + d) - 48 = u * 10 + d by omega]
theorem zdig_val {b : Nat → Int32} {s v : Nat} (hv : v < 10000) (h : zAt b s (zdig v)) : zfo (fun i u => u * 10 + b i - 48) s (zdig v).length (nI 0) = nI v := by
  by_cases h1 : v < 10
  · rw [zdig_1 h1] at h ⊢
    have e0 : b s = nI (48 + v) := h 0 _ rfl
    show nI 0 * 10 + b s - 48 = nI v
    rw [e0, q_dgst, show 0 * 10 + v = v by omega]
  · by_cases h2 : v < 100
    · rw [zdig_2 (by omega) h2] at h ⊢
      have e0 : b s = nI (48 + v / 10) := h 0 _ rfl
      have e1 : b (s + 1) = nI (48 + v % 10) := h 1 _ rfl
      show (nI 0 * 10 + b s - 48) * 10 + b (s + 1) - 48 = nI v
      rw [e0, e1, q_dgst, q_dgst, show (0 * 10 + v / 10) * 10 + v % 10 = v by omega]
    · by_cases h3 : v < 1000
      · rw [zdig_3 (by omega) h3] at h ⊢
        have e0 : b s = nI (48 + v / 100) := h 0 _ rfl
        have e1 : b (s + 1) = nI (48 + v / 10 % 10) := h 1 _ rfl
        have e2 : b (s + 1 + 1) = nI (48 + v % 10) := h 2 _ rfl
        show ((nI 0 * 10 + b s - 48) * 10 + b (s + 1) - 48) * 10 + b (s + 1 + 1) - 48 = nI v
        rw [e0, e1, e2, q_dgst, q_dgst, q_dgst, show ((0 * 10 + v / 100) * 10 + v / 10 % 10) * 10 + v % 10 = v by omega]
      · rw [zdig_4 (by omega)] at h ⊢
        have e0 : b s = nI (48 + v / 1000) := h 0 _ rfl
        have e1 : b (s + 1) = nI (48 + v / 100 % 10) := h 1 _ rfl
        have e2 : b (s + 1 + 1) = nI (48 + v / 10 % 10) := h 2 _ rfl
        have e3 : b (s + 1 + 1 + 1) = nI (48 + v % 10) := h 3 _ rfl
        show (((nI 0 * 10 + b s - 48) * 10 + b (s + 1) - 48) * 10 + b (s + 1 + 1) - 48) * 10 + b (s + 1 + 1 + 1) - 48 = nI v
        rw [e0, e1, e2, e3, q_dgst, q_dgst, q_dgst, q_dgst, show (((0 * 10 + v / 1000) * 10 + v / 100 % 10) * 10 + v / 10 % 10) * 10 + v % 10 = v by omega]
theorem zci_dig {d : Nat} (h : d < 10) : zci (nI (48 + d)) = 2 := (zci_2 _).mpr ⟨nI_nlt (b := 48) (by omega) (by omega), nI_nlt (a := 57) (by omega) (by decide)⟩
theorem zdig_cls {v : Nat} (hv : v < 10000) : ∀ x ∈ zdig v, zci (nI x) = 2 := by
  intro x hx
  have key : ∃ d, d < 10 ∧ x = 48 + d := by
    by_cases h1 : v < 10
    · rw [zdig_1 h1] at hx
      simp only [List.mem_cons, List.not_mem_nil, or_false] at hx
      exact ⟨_, h1, hx⟩
    · by_cases h2 : v < 100
      · rw [zdig_2 (by omega) h2] at hx
        simp only [List.mem_cons, List.not_mem_nil, or_false] at hx
        rcases hx with h | h
        · exact ⟨_, by omega, h⟩
        · exact ⟨_, by omega, h⟩
      · by_cases h3 : v < 1000
        · rw [zdig_3 (by omega) h3] at hx
          simp only [List.mem_cons, List.not_mem_nil, or_false] at hx
          rcases hx with h | h | h
          · exact ⟨_, by omega, h⟩
          · exact ⟨_, by omega, h⟩
          · exact ⟨_, by omega, h⟩
        · rw [zdig_4 (by omega)] at hx
          simp only [List.mem_cons, List.not_mem_nil, or_false] at hx
          rcases hx with h | h | h | h
          · exact ⟨_, by omega, h⟩
          · exact ⟨_, by omega, h⟩
          · exact ⟨_, by omega, h⟩
          · exact ⟨_, by omega, h⟩
  obtain ⟨d, hd, rfl⟩ := key
  exact zci_dig hd
/-- what may follow a number -/
def zStp (l : List Nat) : Prop := ∀ x, l[0]? = some x → x = 32 ∨ x = 59
theorem zStp.no {f : Nat} (h : zStp l) (hf : f = 1 ∨ f = 2) : ∀ x, l[0]? = some x → zci (nI x) ≠ f := fun x hx e => by
  rcases h x hx with rfl | rfl
  · have : zci (nI 32) = 0 := by decide
    omega
  · have : zci (nI 59) = 3 := by decide
    omega
theorem zStp_nil : zStp [] := fun x hx => by cases hx
theorem zStp_32 : zStp (32 :: l) := fun x hx => Or.inl (Option.some.inj hx).symm
theorem zStp_59 : zStp (59 :: l) := fun x hx => Or.inr (Option.some.inj hx).symm
theorem tk_num {v : Nat} {lo hi : Int32} (h : zPt T n p k (32 :: (zdig v ++ l))) (hv : v < 10000) (hs : zStp l) (h1 : ¬ nI v < lo) (h2 : nI v ≤ hi) : ∃ T', f_X1_readNumber lo hi T = some (nI v, T') ∧ zPt T' n (p + 1 + (zdig v).length) 2 l ∧ zfr (fun κ ι => κ = 0 ∧ ι = 1) T T' := by
  obtain ⟨r, hP, hw⟩ := tk_word (bl := [32]) (w := zdig v) h (fun x hx => by simpa using hx) (zdig_cls hv) (fun z => by have := (zdig_len (v := v)).1; rw [z] at this; cases this) (Or.inr rfl) (hs.no (Or.inr rfl)) (Or.inl (by intro z; cases z))
  have hl4 := (zdig_len (v := v)).2
  have hpn := hP.2.1
  refine ⟨zTw T 2 (p + [32].length) (p + [32].length + (zdig v).length), ?_, by rw [show p + 1 + (zdig v).length = p + [32].length + (zdig v).length by have : ([32] : List Nat).length = 1 := rfl; omega]; exact hP, zTw_fr⟩
  have e1 : nI (p + [32].length + (zdig v).length) - nI (p + [32].length) = nI (zdig v).length := by rw [pk_sub (by omega), Nat.add_sub_cancel_left]
  have e2 := q_numl (T := zTw T 2 (p + [32].length) (p + [32].length + (zdig v).length)) (w1 := lo) (w2 := hi) zTw_8 (by omega) (zdig v).length (p + [32].length) 2000 (nI 0) rfl (by omega)
  rw [zTw_2, zdig_val hv hw] at e2
  unfold f_X1_readNumber
  rw [r, zb_s, zTw_6, if_pos (show nI 2 = (2 : Int32) from rfl), zTw_8, zTw_7, e1, if_pos (show nI (zdig v).length ≤ (4 : Int32) from nI_le (b := 4) hl4 (by decide)), zl_s, show (0 : Int32) = nI 0 from rfl, e2, zb_s]
  dsimp only
  rw [if_neg h1, if_pos h2]
/-- a name of one letter -/
theorem tk_nam {x : Nat} (h : zPt T n p k (32 :: (x :: l))) (hx1 : 97 ≤ x) (hx2 : x ≤ 122) (hs : zStp l) : ∃ T', f_X1_readName T = some (nI (x - 96), T') ∧ zPt T' n (p + 2) 1 l ∧ zfr (fun κ ι => κ = 0 ∧ ι = 1) T T' := by
  have hc : zci (nI x) = 1 := (zci_1 _).mpr ⟨nI_nlt (b := 97) hx1 (by omega), nI_nlt (a := 122) hx2 (by decide)⟩
  obtain ⟨r, hP, hw⟩ := tk_word (bl := [32]) (w := [x]) h (fun y hy => by simpa using hy) (fun y hy => by rw [List.mem_singleton.mp hy]; exact hc) (by intro z; cases z) (Or.inl rfl) (hs.no (Or.inl rfl)) (Or.inl (by intro z; cases z))
  have hpn := hP.2.1
  refine ⟨zTw T 1 (p + [32].length) (p + [32].length + [x].length), ?_, by rw [show p + 2 = p + [32].length + [x].length by have : ([32] : List Nat).length = 1 := rfl; have : [x].length = 1 := rfl; omega]; exact hP, zTw_fr⟩
  have e1 : nI (p + [32].length + [x].length) - nI (p + [32].length) = nI 1 := by rw [pk_sub (by omega), Nat.add_sub_cancel_left]; rfl
  have e3 : T.2 0 4 (p + [32].length) = nI x := hw 0 x rfl
  have e2 := q_nam31 (T := zTw T 1 (p + [32].length) (p + [32].length + [x].length)) zTw_7 zTw_8 (by omega) (by omega)
  rw [Nat.add_sub_cancel_left, zTw_2] at e2
  have e4 : zfo (fun i u => u * 27 + T.2 0 4 i - 97 + 1) (p + [32].length) [x].length 0 = nI (x - 96) := by
    show (0 : Int32) * 27 + T.2 0 4 (p + [32].length) - 97 + 1 = nI (x - 96)
    rw [e3, show (0 : Int32) * 27 = nI 0 from rfl, nI_add, nl_97, pk_sub (by omega), nI_1, show 0 + x - 97 + 1 = x - 96 by omega]
  rw [e4] at e2
  unfold f_X1_readName
  rw [r, zb_s, zTw_6, if_pos (show nI 1 = (1 : Int32) from rfl), zTw_8, zTw_7, e1, if_pos (show nI 1 ≤ (6 : Int32) by decide), e2]
end TK
