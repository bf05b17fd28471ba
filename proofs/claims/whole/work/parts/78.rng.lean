/-! the ends lie in the text -/
theorem auE_rng {i : Nat} {f : Fm} {r : List Fm} {lk o : Int32} {E : Nat → Int32} (hi : i < 2 ^ 30) (hop : OpOK i (f :: r)) (h : ∀ x, x < i → ∃ y, y < i ∧ E x = nI y) : ∀ x, x < i + 1 → ∃ y, y < i + 1 ∧ auE (f :: r) lk o i E x = nI y := by
  intro x hx
  have h0 : ∃ y, y < i + 1 ∧ upd E i (nI i) x = nI y := by
    by_cases e : x = i
    · subst e
      exact ⟨x, by omega, pk_us⟩
    · obtain ⟨y, h1, h2⟩ := h x (by omega)
      exact ⟨y, by omega, (pk_un e).trans h2⟩
  simp only [auE]
  by_cases hc : lk = 0 ∧ o = 18 ∧ ¬ f.2.2 = -1
  · rw [if_pos hc]
    by_cases e : x = f.2.2.toNatClampNeg
    · rw [← e]
      exact ⟨i, by omega, pk_us⟩
    · rw [pk_un e]
      exact h0
  · rw [if_neg hc]
    exact h0
theorem auR_rng {op ar : Nat → Int32} : ∀ (f i : Nat) (st : List Fm) (lk : Int32) (E : Nat → Int32), i + f < 2 ^ 30 → OpOK i st → (∀ x, x < i → ∃ y, y < i ∧ E x = nI y) → (auR op ar f i st lk E).1 = none → ∀ x, x < i + f → ∃ y, y < i + f ∧ (auR op ar f i st lk E).2 x = nI y := by
  intro f
  induction f with
  | zero => intro i st lk E _ _ h _ x hx; exact h x hx
  | succ f ih =>
    intro i st lk E hi hop h hw x hx
    simp only [auR] at hw ⊢
    cases hs : auStep st lk (op i) (ar i) i with
    | none => rw [hs] at hw; exact absurd hw (by simp)
    | some q =>
      rw [hs] at hw
      cases st with
      | nil => exact absurd hs (by simp [auStep])
      | cons g r =>
        have := ih (i + 1) q.1 q.2 _ (by omega) (auStep_op hop hs) (auE_rng (by omega) hop h) hw x (by omega)
        rw [show i + 1 + f = i + (f + 1) by omega] at this
        exact this
