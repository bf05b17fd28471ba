/-! a text that the automaton takes has the structure -/
theorem bad_facts {st : List Fm} {o : Int32} (h : auBad st o = false) : ¬ o = 16 ∧ ¬ o = 17 ∧ (o = 4 ∨ o = 5 → hasK 3 st = true) ∧ (o = 8 → hasK 16 st = true) := by
  refine ⟨fun e => ?_, fun e => ?_, fun e => ?_, fun e => ?_⟩
  · subst e; simp [auBad] at h
  · subst e; simp [auBad] at h
  · rcases e with e | e
    · subst e
      cases hk : hasK 3 st with
      | true => rfl
      | false => simp [auBad, hk] at h
    · subst e
      cases hk : hasK 3 st with
      | true => rfl
      | false => simp [auBad, hk] at h
  · subst e
    cases hk : hasK 16 st with
    | true => rfl
    | false => simp [auBad, hk] at h
theorem str_all {op ar : Nat → Int32} {n : Nat} {Ef : Nat → Int32} (hn : n ≤ 32) (htok : ∀ j, j < n → op j = 9 → lkOK (ar j)) : ∀ (m i : Nat), i ≤ n → n - i ≤ m → StrP op ar n Ef i := by
  intro m
  induction m with
  | zero =>
    intro i hi hm f r E hL hop hbk h
    rw [show n - i = 0 by omega] at h
    exact absurd (congrArg Prod.fst h) (by simp [auR])
  | succ m ih =>
    intro i hi hm f r E hL hop hbk h
    rcases Nat.lt_or_ge i n with hin | hin
    · rw [show n - i = (n - (i + 1)) + 1 by omega] at h
      simp only [auR] at h
      have hfu : n + 1 - i = (n - i) + 1 := by omega
      by_cases h18 : op i = 18
      · rw [as_end rfl h18] at h
        refine ⟨i, _, Nat.le_refl _, hin, ?_, h, fun j hj hq => ?_⟩
        · rw [hfu]
          exact Or.inl ⟨rfl, h18⟩
        · rw [auE_end rfl h18 (show j < 2 ^ 31 by omega) hq, pk_us]
      · by_cases hb : auBad (f :: r) (op i) = true
        · rw [as_bad rfl h18 hb] at h
          exact absurd (congrArg Prod.fst h) (by simp)
        · have hb : auBad (f :: r) (op i) = false := by
            cases hx : auBad (f :: r) (op i) with
            | true => exact absurd hx hb
            | false => rfl
          obtain ⟨n16, n17, h45, h8⟩ := bad_facts hb
          by_cases ho : opB (op i) = true
          · have hL6 := ms_6 hL hb ho
            rw [as_push rfl h18 hb ho] at h
            by_cases h9 : op i = 9
            · rw [if_pos h9] at h
              have hlk := htok i hin h9
              obtain ⟨e1, E1, a1, a2, a3, a4, a5⟩ := str_push hn (ih (i + 1) (by omega) (by omega)) hin hL6 hop hbk hlk h
              rw [if_pos (Or.inl h9)] at a5
              rw [decide_eq_false (show ¬ op i = 3 by rw [h9]; decide), decide_eq_false n16, Bool.or_false, Bool.or_false] at a4
              obtain ⟨nc, hnc, enc⟩ := lkOK_nc hlk
              have htn : tNc ar i = nc := by unfold tNc; rw [enc, nI_clamp (by omega)]
              have hPT0 : PT (EL Ef) i 0 = e1 + 1 := by show EL Ef i + 1 = e1 + 1; rw [a3]
              obtain ⟨b1, b2, E2, b3, b4, b5⟩ := parts_of hn (fun j hj hj2 => ih j hj2 (by omega)) hL6 hop hbk nc (ar i) 0 E1 hnc hlk enc (by rw [hPT0]; omega) (by rw [hPT0]; omega) (by rw [hPT0]; exact a5)
              have hb3 : ¬ (op i = 3 ∨ op i = 10 ∨ op i = 14) := by rw [h9]; decide
              have hnx : nxI op ar (EL Ef) i = PT (EL Ef) i (0 + nc + if decide (4 ≤ ar i) = true then 1 else 0) := by
                unfold nxI tEnd tLa
                rw [if_neg hb3, if_pos h9, htn, Nat.zero_add]
              obtain ⟨e, E3, c1, c2, c3, c4, c5⟩ := ih _ b4 (by omega) f r E2 hL (hop.le (by omega)) hbk b5
              refine ⟨e, E3, by omega, c2, ?_, c4, fun j hj hq => c5 j (by omega) hq⟩
              rw [hfu]
              refine Or.inr ⟨by omega, h18, n16, n17, h45, h8, fun hx => absurd hx hb3, fun _ => ⟨by omega, hlk, by rw [a3]; omega, by rw [a3]; exact a4, fun j hj => ?_, fun hla => ?_⟩, by rw [hnx]; exact b3, by rw [hnx]; exact c1, by rw [hnx]; exact blk_mono _ _ _ _ _ _ _ (by omega) c3⟩
              · rw [htn] at hj
                have := b1 j hj
                rw [Nat.zero_add] at this
                exact ⟨this.1, this.2.1, blk_mono _ _ _ _ _ _ _ (by omega) this.2.2.2.2⟩
              · have := b2 (of_decide_eq_true hla)
                rw [Nat.zero_add] at this
                rw [htn]
                exact ⟨this.1, this.2.1, blk_mono _ _ _ _ _ _ _ (by omega) this.2.2.2.2⟩
            · rw [if_neg h9] at h
              obtain ⟨e1, E1, a1, a2, a3, a4, a5⟩ := str_push hn (ih (i + 1) (by omega) (by omega)) hin hL6 hop hbk (Or.inl rfl) h
              have hb3 : op i = 3 ∨ op i = 10 ∨ op i = 14 := by
                apply Classical.byContradiction
                intro hx
                simp only [not_or] at hx
                simp [opB, hx, h9, n16, n17] at ho
              rw [if_neg (fun hx => hx.elim h9 n16)] at a5
              rw [decide_eq_false n16, Bool.or_false] at a4
              have hnx : nxI op ar (EL Ef) i = e1 + 1 := by
                unfold nxI
                rw [if_pos hb3, a3]
              obtain ⟨e, E3, c1, c2, c3, c4, c5⟩ := ih (e1 + 1) (by omega) (by omega) f r E1 hL (hop.le (by omega)) hbk a5
              refine ⟨e, E3, by omega, c2, ?_, c4, fun j hj hq => c5 j (by omega) hq⟩
              rw [hfu]
              exact Or.inr ⟨by omega, h18, n16, n17, h45, h8, fun _ => ⟨by omega, by rw [a3]; omega, by rw [a3]; exact a4⟩, fun hx => absurd hx h9, by rw [hnx]; omega, by rw [hnx]; exact c1, by rw [hnx]; exact blk_mono _ _ _ _ _ _ _ (by omega) c3⟩
          · have ho : opB (op i) = false := by
              cases hx : opB (op i) with
              | true => exact absurd hx ho
              | false => rfl
            rw [as_on rfl h18 hb ho] at h
            have hb3 : ¬ (op i = 3 ∨ op i = 10 ∨ op i = 14) := fun hx => by
              rcases hx with h1 | h1 | h1 <;> rw [h1] at ho <;> exact absurd ho (by decide)
            have h9 : ¬ op i = 9 := fun h1 => by rw [h1] at ho; exact absurd ho (by decide)
            have hnx : nxI op ar (EL Ef) i = i + 1 := by
              unfold nxI
              rw [if_neg hb3, if_neg h9]
            obtain ⟨e, E3, c1, c2, c3, c4, c5⟩ := ih (i + 1) (by omega) (by omega) f r _ hL hop.up hbk h
            refine ⟨e, E3, by omega, c2, ?_, c4, fun j hj hq => c5 j (by omega) hq⟩
            rw [hfu]
            exact Or.inr ⟨by omega, h18, n16, n17, h45, h8, fun hx => absurd hx hb3, fun hx => absurd hx h9, by rw [hnx]; omega, by rw [hnx]; exact c1, by rw [hnx]; exact blk_mono _ _ _ _ _ _ _ (by omega) c3⟩
    · rw [show n - i = 0 by omega] at h
      exact absurd (congrArg Prod.fst h) (by simp [auR])
