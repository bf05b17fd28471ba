/-! a whole text -/
theorem str_text {op ar : Nat → Int32} {n : Nat} {E Ef : Nat → Int32} (hn : n ≤ 32) (htok : ∀ j, j < n → op j = 9 → lkOK (ar j)) (h : auR op ar n 0 [(20, 0, -1)] 0 E = (none, Ef)) : 0 < n ∧ blk op ar (EL Ef) (n + 1) 5 false false 0 (n - 1) := by
  obtain ⟨e, E1, h1, h2, h3, h4, -⟩ := str_all (Ef := Ef) hn htok n 0 (Nat.zero_le _) (by omega) (20, 0, -1) [] E (by decide) ⟨Or.inl rfl, trivial⟩ ⟨trivial, Or.inl rfl, fun _ => rfl⟩ h
  have hne : n = e + 1 := by
    rcases Nat.lt_or_ge (e + 1) n with h5 | h5
    · rw [show n - (e + 1) = (n - (e + 1) - 1) + 1 by omega] at h4
      simp only [auR, auStep] at h4
      exact absurd (congrArg Prod.fst h4) (by simp)
    · omega
  refine ⟨by omega, ?_⟩
  rw [show n - 1 = e by omega]
  exact h3
