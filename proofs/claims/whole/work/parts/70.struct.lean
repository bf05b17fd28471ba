/-! FROM THE AUTOMATON TO THE STRUCTURE -/
theorem blk_mono {op ar : Nat → Int32} {E : Nat → Nat} : ∀ (f f2 d : Nat) (t k : Bool) (i e : Nat), f ≤ f2 → blk op ar E f d t k i e → blk op ar E f2 d t k i e := by
  intro f
  induction f with
  | zero => intro f2 d t k i e _ h; exact h.elim
  | succ f ih =>
    intro f2 d t k i e hf h
    obtain ⟨g, rfl⟩ : ∃ g, f2 = g + 1 := ⟨f2 - 1, by omega⟩
    have hfg : f ≤ g := by omega
    rcases h with h | ⟨h1, h2, h3, h4, h5, h6, h7, h8, h9, h10, h11⟩
    · exact Or.inl h
    · refine Or.inr ⟨h1, h2, h3, h4, h5, h6, fun hx => ?_, fun hx => ?_, h9, h10, ih g _ _ _ _ _ hfg h11⟩
      · obtain ⟨a1, a2, a3⟩ := h7 hx
        exact ⟨a1, a2, ih g _ _ _ _ _ hfg a3⟩
      · obtain ⟨a1, a2, a3, a4, a5, a6⟩ := h8 hx
        exact ⟨a1, a2, a3, ih g _ _ _ _ _ hfg a4, fun j hj => ⟨(a5 j hj).1, (a5 j hj).2.1, ih g _ _ _ _ _ hfg (a5 j hj).2.2⟩, fun hl => ⟨(a6 hl).1, (a6 hl).2.1, ih g _ _ _ _ _ hfg (a6 hl).2.2⟩⟩
/-- no frame was begun at x -/
def NoOp (x : Nat) : List Fm → Prop
  | [] => True
  | f :: r => ¬ f.2.2 = nI x ∧ NoOp x r
theorem nI_ne {a b : Nat} (ha : a < 2 ^ 31) (hb : b < 2 ^ 31) (h : ¬ a = b) : ¬ nI a = nI b := fun e => h ((nI_eq ha hb).mp e)
theorem auStep_no {x i : Nat} {st : List Fm} {lk o a : Int32} {q : List Fm × Int32} (hx : x < i) (hi : i < 2 ^ 31) (h : NoOp x st) (hs : auStep st lk o a i = some q) : NoOp x q.1 := by
  have hne : ¬ nI i = nI x := nI_ne hi (by omega) (by omega)
  cases st with
  | nil => exact absurd hs (by simp [auStep])
  | cons f r =>
    simp only [auStep] at hs
    by_cases h0 : lk = 0
    · rw [if_pos h0] at hs
      by_cases h18 : o = 18
      · rw [if_pos h18] at hs
        have := Option.some.inj hs
        rw [← this]
        exact h.2
      · rw [if_neg h18] at hs
        by_cases hb : auBad (f :: r) o = true
        · rw [if_pos hb] at hs; exact absurd hs (by simp)
        · rw [if_neg hb] at hs
          by_cases ho : opB o = true
          · rw [if_pos ho] at hs
            have := Option.some.inj hs
            rw [← this]
            exact ⟨hne, h⟩
          · rw [if_neg ho] at hs
            have := Option.some.inj hs
            rw [← this]
            exact h
    · rw [if_neg h0] at hs
      by_cases hd : o = lkDue lk
      · rw [if_pos hd] at hs
        have := Option.some.inj hs
        rw [← this]
        exact ⟨hne, h⟩
      · rw [if_neg hd] at hs; exact absurd hs (by simp)
theorem auE_keep {x i : Nat} {st : List Fm} {lk o : Int32} {E : Nat → Int32} (hx : x < i) (h : NoOp x st) (hq : ∀ f ∈ st, f.2.2 = -1 ∨ ∃ j, j < 2 ^ 31 ∧ f.2.2 = nI j) : auE st lk o i E x = E x := by
  cases st with
  | nil => rfl
  | cons f r =>
    simp only [auE]
    have hxi : ¬ x = i := by omega
    by_cases h0 : lk = 0 ∧ o = 18 ∧ ¬ f.2.2 = -1
    · rw [if_pos h0]
      rcases hq f (List.mem_cons_self ..) with h1 | ⟨j, hj, h1⟩
      · exact absurd h1 h0.2.2
      · rw [h1, nI_clamp hj]
        have hxj : ¬ x = j := fun e => h.1 (by rw [h1, e])
        rw [pk_un hxj, pk_un hxi]
    · rw [if_neg h0, pk_un hxi]
