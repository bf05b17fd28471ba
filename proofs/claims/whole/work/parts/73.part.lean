/-! the parts of a TRY -/
theorem part_of {op ar : Nat → Int32} {n j : Nat} {Ef E : Nat → Int32} {f : Fm} {r : List Fm} {lk : Int32} (hn : n ≤ 32) (hP : j < n → StrP op ar n Ef (j + 1)) (hj : j ≤ n) (hL : r.length + 1 < 6) (hop : OpOK j (f :: r)) (hbk : bk (f :: r)) (hlk : lkOK lk) (h0 : ¬ lk = 0) (h : auR op ar (n - j) j (f :: r) lk E = (none, Ef)) :
    ∃ (e : Nat) (E1 : Nat → Int32), j < n ∧ op j = lkDue lk ∧ j < e ∧ e < n ∧ EL Ef j = e ∧ blk op ar (EL Ef) (n - j) (6 - (r.length + 1) - 1) (hasK 3 (f :: r)) (hasK 16 (f :: r) || decide (op j = 16)) (j + 1) e ∧ auR op ar (n - (e + 1)) (e + 1) (f :: r) (if lk &&& 3 = 0 then 0 else lk - 1) E1 = (none, Ef) := by
  have hjn : j < n := by
    rcases Nat.lt_or_ge j n with h1 | h1
    · exact h1
    · rw [show n - j = 0 by omega] at h
      exact absurd (congrArg Prod.fst h) (by simp [auR])
  have hd : op j = lkDue lk := by
    apply Classical.byContradiction
    intro hne
    rw [show n - j = (n - (j + 1)) + 1 by omega] at h
    simp only [auR] at h
    rw [as_due0 h0 hne] at h
    exact absurd (congrArg Prod.fst h) (by simp)
  rw [show n - j = (n - (j + 1)) + 1 by omega] at h
  simp only [auR] at h
  rw [as_due h0 hd] at h
  have hn3 : ¬ op j = 3 := by
    rw [hd]
    rcases lkDue_or h0 with h1 | h1 <;> rw [h1] <;> decide
  by_cases h3 : lk &&& 3 = 0
  · have h17 : op j = 17 := by rw [hd, lkDue, if_neg h0, if_pos h3]
    have h16 : ¬ op j = 16 := by rw [h17]; decide
    rw [if_neg h16] at h
    obtain ⟨e, E1, a1, a2, a3, a4, a5⟩ := str_push hn (hP hjn) hjn hL hop hbk (Or.inl rfl) h
    refine ⟨e, E1, hjn, hd, a1, a2, a3, ?_, ?_⟩
    · rw [decide_eq_false hn3, Bool.or_false] at a4
      exact a4
    · rw [if_pos h3]
      rw [if_neg (by rw [h17]; decide)] at a5
      exact a5
  · have h16 : op j = 16 := by rw [hd, lkDue, if_neg h0, if_neg h3]
    rw [if_pos h16] at h
    obtain ⟨e, E1, a1, a2, a3, a4, a5⟩ := str_push hn (hP hjn) hjn hL hop hbk (lkOK_dec hlk h3) h
    refine ⟨e, E1, hjn, hd, a1, a2, a3, ?_, ?_⟩
    · rw [decide_eq_false hn3, Bool.or_false] at a4
      exact a4
    · rw [if_neg h3]
      rw [if_pos (Or.inr h16)] at a5
      exact a5
