/-! a token that begins no block is its own end -/
theorem auE_at {i : Nat} {f : Fm} {r : List Fm} {lk o : Int32} {E : Nat → Int32} : auE (f :: r) lk o i E i = nI i := by
  simp only [auE]
  by_cases hc : lk = 0 ∧ o = 18 ∧ ¬ f.2.2 = -1
  · rw [if_pos hc]
    by_cases e : i = f.2.2.toNatClampNeg
    · rw [← e]
      exact pk_us
    · rw [pk_un e]
      exact pk_us
  · rw [if_neg hc]
    exact pk_us
theorem opB_due {lk o : Int32} (h : ¬ lk = 0) (ho : o = lkDue lk) : opB o = true := by
  subst ho
  unfold lkDue
  rw [if_neg h]
  by_cases h3 : lk &&& 3 = 0
  · rw [if_pos h3]; decide
  · rw [if_neg h3]; decide
theorem auStep_noB {i : Nat} {f : Fm} {r : List Fm} {lk o a : Int32} {q : List Fm × Int32} (ho : opB o = false) (hs : auStep (f :: r) lk o a i = some q) : q.1 = r ∨ q.1 = f :: r := by
  simp only [auStep] at hs
  by_cases h0 : lk = 0
  · rw [if_pos h0] at hs
    by_cases h18 : o = 18
    · rw [if_pos h18] at hs
      rw [← Option.some.inj hs]
      exact Or.inl rfl
    · rw [if_neg h18] at hs
      by_cases hb : auBad (f :: r) o = true
      · rw [if_pos hb] at hs; exact absurd hs (by simp)
      · rw [if_neg hb, if_neg (by rw [ho]; decide)] at hs
        rw [← Option.some.inj hs]
        exact Or.inr rfl
  · rw [if_neg h0] at hs
    by_cases hd : o = lkDue lk
    · exact absurd (opB_due h0 hd) (by rw [ho]; decide)
    · rw [if_neg hd] at hs; exact absurd hs (by simp)
theorem auR_self {op ar : Nat → Int32} : ∀ (f i : Nat) (st : List Fm) (lk : Int32) (E : Nat → Int32), i + f < 2 ^ 30 → OpOK i st → (auR op ar f i st lk E).1 = none → ∀ x, i ≤ x → x < i + f → opB (op x) = false → (auR op ar f i st lk E).2 x = nI x := by
  intro f
  induction f with
  | zero => intro i st lk E _ _ _ x h1 h2; exact absurd h2 (by omega)
  | succ f ih =>
    intro i st lk E hi hop hw x h1 h2 ho
    simp only [auR] at hw ⊢
    cases hs : auStep st lk (op i) (ar i) i with
    | none => rw [hs] at hw; exact absurd hw (by simp)
    | some q =>
      rw [hs] at hw
      cases st with
      | nil => exact absurd hs (by simp [auStep])
      | cons g r =>
        by_cases hx : x = i
        · subst hx
          have hno : NoOp x q.1 := by
            rcases auStep_noB ho hs with h | h
            · rw [h]; exact hop.2.no (by omega)
            · rw [h]; exact hop.no (by omega)
          show (auR op ar f (x + 1) q.1 q.2 (auE (g :: r) lk (op x) x E)).2 x = nI x
          rw [auR_keep f (x + 1) q.1 q.2 _ (by omega) (by omega) hno (auStep_op hop hs)]
          exact auE_at
        · exact ih (i + 1) q.1 q.2 _ (by omega) (auStep_op hop hs) hw x (by omega) (by omega) ho
/-! tokens in their ranges -/
theorem tI {o : Int32} (n : Nat) (hn : n < 2 ^ 31) (h : o.toInt = (n : Int)) : o = nI n := Int32.toInt_inj.mp (by rw [h, nI_toInt hn])
theorem tok_o {o a : Int32} (h : isTokC o a = true) : ∃ j, j < 19 ∧ o = nI j := by
  unfold isTokC at h
  by_cases h3 : o.toInt = 3
  · exact ⟨3, by decide, tI 3 (by decide) h3⟩
  rw [if_neg h3] at h
  by_cases h7 : o.toInt = 7 ∨ o.toInt = 8 ∨ o.toInt = 16
  · rcases h7 with h7 | h7 | h7
    · exact ⟨7, by decide, tI 7 (by decide) h7⟩
    · exact ⟨8, by decide, tI 8 (by decide) h7⟩
    · exact ⟨16, by decide, tI 16 (by decide) h7⟩
  rw [if_neg h7] at h
  by_cases h9 : o.toInt = 9
  · exact ⟨9, by decide, tI 9 (by decide) h9⟩
  rw [if_neg h9] at h
  by_cases h10 : o.toInt = 10 ∨ o.toInt = 11 ∨ o.toInt = 12 ∨ o.toInt = 15
  · rcases h10 with h7 | h7 | h7 | h7
    · exact ⟨10, by decide, tI 10 (by decide) h7⟩
    · exact ⟨11, by decide, tI 11 (by decide) h7⟩
    · exact ⟨12, by decide, tI 12 (by decide) h7⟩
    · exact ⟨15, by decide, tI 15 (by decide) h7⟩
  rw [if_neg h10] at h
  by_cases h13 : o.toInt = 13
  · exact ⟨13, by decide, tI 13 (by decide) h13⟩
  rw [if_neg h13] at h
  exact isB_nI (b := 19) (by decide) h
theorem and5 (a : Int32) : a = (a &&& (-5)) ||| (a &&& 4) := by
  apply Int32.toBitVec_inj.mp
  rw [Int32.toBitVec_or, Int32.toBitVec_and, Int32.toBitVec_and, ← BitVec.and_or_distrib_left]
  rw [show (Int32.toBitVec (-5) ||| Int32.toBitVec 4) = BitVec.allOnes 32 by decide, BitVec.and_allOnes]
theorem and4 (a : Int32) : a &&& 4 = 0 ∨ a &&& 4 = 4 := by
  have h : (a &&& 4).toBitVec = if a.toBitVec.getLsbD 2 then BitVec.twoPow 32 2 else 0#32 := by
    rw [Int32.toBitVec_and, show Int32.toBitVec 4 = BitVec.twoPow 32 2 by decide, BitVec.and_twoPow]
  by_cases hb : a.toBitVec.getLsbD 2 = true
  · rw [if_pos hb] at h
    exact Or.inr (Int32.toBitVec_inj.mp (h.trans (by decide)))
  · rw [if_neg hb] at h
    exact Or.inl (Int32.toBitVec_inj.mp (h.trans (by decide)))
theorem try_ok {a : Int32} (h : isB (a &&& (-5)) 3 = true) : lkOK a := by
  obtain ⟨j, hj, ej⟩ := isB_nI (b := 3) (by decide) h
  have h5 := and5 a
  rw [ej] at h5
  rcases and4 a with h4 | h4 <;> rw [h4] at h5 <;> rcases (show j = 0 ∨ j = 1 ∨ j = 2 by omega) with rfl | rfl | rfl <;> rw [h5] <;> (unfold lkOK; decide)
theorem tok_V {o a : Int32} (h : isTokC o a = true) : (o = 0 ∨ o = 1 ∨ o = 2 ∨ o = 3 ∨ o = 4 ∨ o = 5 ∨ o = 6 ∨ o = 7 ∨ o = 8 ∨ o = 9 ∨ o = 10 ∨ o = 11 ∨ o = 12 ∨ o = 13 ∨ o = 14 ∨ o = 15 ∨ o = 16 ∨ o = 17 ∨ o = 18) ∧ (o = 10 ∨ o = 11 ∨ o = 12 ∨ o = 15 → ∃ lo, lo < 3 ∧ a = nI lo) ∧ (o = 13 → ∃ pr, pr < 4 ∧ a = nI pr) ∧ (o = 3 → ∃ kk, kk < 100 ∧ a = nI kk) ∧ (o = 9 → lkOK a) := by
  refine ⟨?_, fun ho => ?_, fun ho => ?_, fun ho => ?_, fun ho => ?_⟩
  · obtain ⟨j, hj, rfl⟩ := tok_o h
    rcases (show j = 0 ∨ j = 1 ∨ j = 2 ∨ j = 3 ∨ j = 4 ∨ j = 5 ∨ j = 6 ∨ j = 7 ∨ j = 8 ∨ j = 9 ∨ j = 10 ∨ j = 11 ∨ j = 12 ∨ j = 13 ∨ j = 14 ∨ j = 15 ∨ j = 16 ∨ j = 17 ∨ j = 18 by omega) with rfl | rfl | rfl | rfl | rfl | rfl | rfl | rfl | rfl | rfl | rfl | rfl | rfl | rfl | rfl | rfl | rfl | rfl | rfl <;> decide
  · have h2 : isB a 3 = true := by rcases ho with rfl | rfl | rfl | rfl <;> exact h
    exact isB_nI (b := 3) (by decide) h2
  · subst ho
    exact isB_nI (b := 4) (by decide) h
  · subst ho
    obtain ⟨k, h1, h2⟩ := isB_nI (b := 6) (by decide) h
    exact ⟨k, by omega, h2⟩
  · subst ho
    exact try_ok h
