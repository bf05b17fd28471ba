/-! all the parts of a TRY -/
theorem lk_dec {lk : Int32} {nc : Nat} (h : lkOK lk) (hc : nc < 3) (h3 : lk &&& 3 = nI (nc + 1)) : (lk - 1) &&& 3 = nI nc ∧ (4 ≤ lk - 1 ↔ 4 ≤ lk) := by
  rcases (show nc = 0 ∨ nc = 1 ∨ nc = 2 by omega) with rfl | rfl | rfl <;> rcases h with rfl | rfl | rfl | rfl | rfl | rfl <;> first | (exact absurd h3 (by decide)) | (constructor <;> decide)
theorem parts_of {op ar : Nat → Int32} {n i : Nat} {Ef : Nat → Int32} {f : Fm} {r : List Fm} (hn : n ≤ 32) (hP : ∀ j, i < j → j ≤ n → StrP op ar n Ef j) (hL : r.length + 1 < 6) (hop : OpOK i (f :: r)) (hbk : bk (f :: r)) :
    ∀ (nc : Nat) (lk : Int32) (k0 : Nat) (E : Nat → Int32), nc < 3 → lkOK lk → lk &&& 3 = nI nc → i < PT (EL Ef) i k0 → PT (EL Ef) i k0 ≤ n → auR op ar (n - PT (EL Ef) i k0) (PT (EL Ef) i k0) (f :: r) lk E = (none, Ef) →
      (∀ c, c < nc → op (PT (EL Ef) i (k0 + c)) = 16 ∧ PT (EL Ef) i (k0 + c) < EL Ef (PT (EL Ef) i (k0 + c)) ∧ EL Ef (PT (EL Ef) i (k0 + c)) < n ∧ i < PT (EL Ef) i (k0 + c) ∧ blk op ar (EL Ef) (n - PT (EL Ef) i (k0 + c)) (6 - (r.length + 1) - 1) (hasK 3 (f :: r)) true (PT (EL Ef) i (k0 + c) + 1) (EL Ef (PT (EL Ef) i (k0 + c)))) ∧
      (4 ≤ lk → op (PT (EL Ef) i (k0 + nc)) = 17 ∧ PT (EL Ef) i (k0 + nc) < EL Ef (PT (EL Ef) i (k0 + nc)) ∧ EL Ef (PT (EL Ef) i (k0 + nc)) < n ∧ i < PT (EL Ef) i (k0 + nc) ∧ blk op ar (EL Ef) (n - PT (EL Ef) i (k0 + nc)) (6 - (r.length + 1) - 1) (hasK 3 (f :: r)) (hasK 16 (f :: r)) (PT (EL Ef) i (k0 + nc) + 1) (EL Ef (PT (EL Ef) i (k0 + nc)))) ∧
      ∃ E2 : Nat → Int32, i < PT (EL Ef) i (k0 + nc + if decide (4 ≤ lk) = true then 1 else 0) ∧ PT (EL Ef) i (k0 + nc + if decide (4 ≤ lk) = true then 1 else 0) ≤ n ∧ auR op ar (n - PT (EL Ef) i (k0 + nc + if decide (4 ≤ lk) = true then 1 else 0)) (PT (EL Ef) i (k0 + nc + if decide (4 ≤ lk) = true then 1 else 0)) (f :: r) 0 E2 = (none, Ef) := by
  intro nc
  induction nc with
  | zero =>
    intro lk k0 E _ hlk h3 hi hj h
    have h3' : lk &&& 3 = 0 := h3
    by_cases h0 : lk = 0
    · subst h0
      have h4 : ¬ (4 : Int32) ≤ 0 := by decide
      refine ⟨fun c hc => absurd hc (by omega), fun hx => absurd hx h4, E, ?_⟩
      rw [decide_eq_false h4]
      exact ⟨hi, hj, h⟩
    · have h4 : 4 ≤ lk := (lkOK_17 hlk h3').mpr h0
      obtain ⟨e, E1, a1, a2, a3, a4, a5, a6, a7⟩ := part_of hn (fun hx => hP _ (by omega) (by omega)) hj hL (hop.le (by omega)) hbk hlk h0 h
      have h17 : op (PT (EL Ef) i k0) = 17 := by rw [a2, lkDue, if_neg h0, if_pos h3']
      rw [decide_eq_false (show ¬ op (PT (EL Ef) i k0) = 16 by rw [h17]; decide), Bool.or_false] at a6
      subst a5
      rw [if_pos h3'] at a7
      refine ⟨fun c hc => absurd hc (by omega), fun _ => ⟨h17, a3, a4, hi, a6⟩, E1, ?_⟩
      rw [decide_eq_true h4, if_pos rfl]
      refine ⟨?_, ?_, a7⟩
      · show i < EL Ef (PT (EL Ef) i k0) + 1
        omega
      · show EL Ef (PT (EL Ef) i k0) + 1 ≤ n
        omega
  | succ nc ih =>
    intro lk k0 E hc3 hlk h3 hi hj h
    have h3' : ¬ lk &&& 3 = 0 := by
      rw [h3]
      exact nI_ne0 (by omega) (by omega)
    have h0 : ¬ lk = 0 := fun hx => h3' (by rw [hx]; decide)
    obtain ⟨e, E1, a1, a2, a3, a4, a5, a6, a7⟩ := part_of hn (fun hx => hP _ (by omega) (by omega)) hj hL (hop.le (by omega)) hbk hlk h0 h
    have h16 : op (PT (EL Ef) i k0) = 16 := by rw [a2, lkDue, if_neg h0, if_neg h3']
    rw [decide_eq_true h16, Bool.or_true] at a6
    subst a5
    rw [if_neg h3'] at a7
    obtain ⟨d1, d2⟩ := lk_dec hlk (by omega) h3
    have hPT : PT (EL Ef) i (k0 + 1) = EL Ef (PT (EL Ef) i k0) + 1 := rfl
    obtain ⟨b1, b2, E2, b3⟩ := ih (lk - 1) (k0 + 1) E1 (by omega) (lkOK_dec hlk h3') d1 (by rw [hPT]; omega) (by rw [hPT]; omega) (by rw [hPT]; exact a7)
    refine ⟨fun c hc => ?_, fun hx => ?_, E2, ?_⟩
    · cases c with
      | zero => exact ⟨h16, a3, a4, hi, a6⟩
      | succ c =>
        have := b1 c (by omega)
        rw [show k0 + 1 + c = k0 + (c + 1) by omega] at this
        exact this
    · have := b2 (d2.mpr hx)
      rw [show k0 + 1 + nc = k0 + (nc + 1) by omega] at this
      exact this
    · rw [show k0 + (nc + 1) = k0 + 1 + nc by omega]
      rw [show decide (4 ≤ lk) = decide (4 ≤ lk - 1) from by simp only [d2]]
      exact b3
