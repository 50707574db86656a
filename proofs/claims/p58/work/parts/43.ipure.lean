/-! THE BEGINNING, by evaluation -/
def zT0 : zT := (fun κ ι k => if κ = 0 ∧ ι = 0 ∧ k = 3 then -1 else 0, fun _ _ _ => 0)
def i_chk (a : Option (Unit × zT)) : Bool := match a with
  | some (_, T) => decide (T.1 0 1 1 = 0)
  | none => false
set_option maxRecDepth 100000 in
theorem i_ev : i_chk (jn_X3_init_106 zT0) = true := by decide +kernel
theorem i_beg : ∃ T1, jn_X3_init_106 zT0 = some ((), T1) ∧ T1.1 0 1 1 = 0 := by
  have h := i_ev
  cases e : jn_X3_init_106 zT0 with
  | none => rw [e] at h; cases h
  | some q =>
    rw [e] at h
    exact ⟨q.2, rfl, of_decide_eq_true h⟩
