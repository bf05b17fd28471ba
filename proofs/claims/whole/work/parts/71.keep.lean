/-! what the automaton's run leaves of the ends -/
theorem auStep_op {i : Nat} {st : List Fm} {lk o a : Int32} {q : List Fm × Int32} (h : OpOK i st) (hs : auStep st lk o a i = some q) : OpOK (i + 1) q.1 := by
  cases st with
  | nil => exact absurd hs (by simp [auStep])
  | cons f r =>
    simp only [auStep] at hs
    by_cases h0 : lk = 0
    · rw [if_pos h0] at hs
      by_cases h18 : o = 18
      · rw [if_pos h18] at hs
        rw [← Option.some.inj hs]
        exact OpOK.up h.2
      · rw [if_neg h18] at hs
        by_cases hb : auBad (f :: r) o = true
        · rw [if_pos hb] at hs; exact absurd hs (by simp)
        · rw [if_neg hb] at hs
          by_cases ho : opB o = true
          · rw [if_pos ho] at hs
            rw [← Option.some.inj hs]
            exact ⟨Or.inr ⟨i, Nat.lt_succ_self i, rfl⟩, OpOK.up h⟩
          · rw [if_neg ho] at hs
            rw [← Option.some.inj hs]
            exact OpOK.up h
    · rw [if_neg h0] at hs
      by_cases hd : o = lkDue lk
      · rw [if_pos hd] at hs
        rw [← Option.some.inj hs]
        exact ⟨Or.inr ⟨i, Nat.lt_succ_self i, rfl⟩, OpOK.up h⟩
      · rw [if_neg hd] at hs; exact absurd hs (by simp)
theorem OpOK.all {i : Nat} (hi : i < 2 ^ 31) : ∀ {st : List Fm}, OpOK i st → ∀ f ∈ st, f.2.2 = -1 ∨ ∃ j, j < 2 ^ 31 ∧ f.2.2 = nI j := by
  intro st
  induction st with
  | nil => intro _ f hf; exact absurd hf List.not_mem_nil
  | cons g r ih =>
    intro h f hf
    rcases List.mem_cons.mp hf with rfl | hf
    · exact h.1.elim Or.inl (fun ⟨j, h1, h2⟩ => Or.inr ⟨j, by omega, h2⟩)
    · exact ih h.2 f hf
theorem OpOK.no {i : Nat} (hi : i < 2 ^ 31) : ∀ {st : List Fm}, OpOK i st → NoOp i st := by
  intro st
  induction st with
  | nil => intro _; trivial
  | cons g r ih =>
    intro h
    refine ⟨fun e => ?_, ih h.2⟩
    rcases h.1 with h1 | ⟨j, h1, h2⟩
    · rw [e] at h1
      have h3 := nI_pos' hi
      rw [h1] at h3
      exact absurd h3 (by decide)
    · rw [e] at h2
      have := (nI_eq hi (by omega)).mp h2
      omega
theorem auR_keep {op ar : Nat → Int32} {x : Nat} : ∀ (f i : Nat) (st : List Fm) (lk : Int32) (E : Nat → Int32), x < i → i + f < 2 ^ 31 → NoOp x st → OpOK i st → (auR op ar f i st lk E).2 x = E x := by
  intro f
  induction f with
  | zero => intro i st lk E _ _ _ _; rfl
  | succ f ih =>
    intro i st lk E hx hi hno hop
    simp only [auR]
    cases hs : auStep st lk (op i) (ar i) i with
    | none => rfl
    | some q =>
      show (auR op ar f (i + 1) q.1 q.2 (auE st lk (op i) i E)).2 x = E x
      rw [ih (i + 1) q.1 q.2 _ (by omega) (by omega) (auStep_no hx (by omega) hno hs) (auStep_op hop hs)]
      exact auE_keep hx hno (hop.all (by omega))
