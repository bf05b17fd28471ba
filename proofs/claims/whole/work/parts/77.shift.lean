/-! a text's places among all -/
theorem blk_shift {op ar opL arL : Nat → Int32} {E F : Nat → Nat} {b n : Nat} (ho : ∀ x, x < n → op (b + x) = opL x) (ha : ∀ x, x < n → ar (b + x) = arL x) (hE : ∀ x, x < n → E (b + x) = b + F x) : ∀ (f d : Nat) (t k : Bool) (i e : Nat), e < n → blk opL arL F f d t k i e → blk op ar E f d t k (b + i) (b + e) := by
  intro f
  induction f with
  | zero => intro d t k i e _ h; exact h.elim
  | succ f ih =>
    intro d t k i e hen h
    rcases h with h | ⟨h1, h2, h3, h4, h5, h6, h7, h8, h9, h10, h11⟩
    · exact Or.inl ⟨by rw [h.1], by rw [ho e hen]; exact h.2⟩
    · have hin : i < n := by omega
      have eo := ho i hin
      have ea := ha i hin
      have eE := hE i hin
      have etn : tNc ar (b + i) = tNc arL i := by unfold tNc; rw [ea]
      have etl : tLa ar (b + i) = tLa arL i := by unfold tLa; rw [ea]
      have hlt : opL i = 9 → ∀ j, j < tNc arL i + (if tLa arL i = true then 1 else 0) → PT F i j < F (PT F i j) := fun hx j hj => by
        obtain ⟨-, -, -, -, hcs, hls⟩ := h8 hx
        by_cases hj2 : j < tNc arL i
        · exact (hcs j hj2).2.1
        · by_cases hla : tLa arL i = true
          · rw [if_pos hla] at hj
            rw [show j = tNc arL i by omega]
            exact (hls hla).2.1
          · rw [if_neg hla] at hj
            omega
      have hnx9 : opL i = 9 → nxI opL arL F i = PT F i (tNc arL i + if tLa arL i = true then 1 else 0) := fun hx => by
        unfold nxI
        rw [if_neg (by rw [hx]; decide), if_pos hx]
        rfl
      have hPT : opL i = 9 → ∀ j, j ≤ tNc arL i + (if tLa arL i = true then 1 else 0) → PT E (b + i) j = b + PT F i j := fun hx j => by
        induction j with
        | zero => intro _; show E (b + i) + 1 = b + (F i + 1); omega
        | succ j ihj =>
          intro hj
          have m := PT_mono (op := opL) (ar := arL) (hlt hx) j _ (by omega) (Nat.le_refl _)
          rw [← hnx9 hx] at m
          show E (PT E (b + i) j) + 1 = b + (F (PT F i j) + 1)
          rw [ihj (by omega), hE _ (by omega)]
          omega
      have hnx : nxI op ar E (b + i) = b + nxI opL arL F i := by
        by_cases hb : opL i = 3 ∨ opL i = 10 ∨ opL i = 14
        · unfold nxI
          rw [eo, if_pos hb, if_pos hb, eE]
          omega
        · by_cases hx : opL i = 9
          · rw [hnx9 hx, ← hPT hx _ (Nat.le_refl _)]
            unfold nxI tEnd
            rw [eo, if_neg hb, if_pos hx, etn, etl]
          · unfold nxI
            rw [eo, if_neg hb, if_neg hb, if_neg hx, if_neg hx]
            omega
      refine Or.inr ⟨by omega, by rw [eo]; exact h2, by rw [eo]; exact h3, by rw [eo]; exact h4, by rw [eo]; exact h5, by rw [eo]; exact h6, fun hx => ?_, fun hx => ?_, by rw [hnx]; omega, by rw [hnx]; omega, by rw [hnx]; exact ih _ _ _ _ _ hen h11⟩
      · rw [eo] at hx
        obtain ⟨a1, a2, a3⟩ := h7 hx
        have hxn : nxI opL arL F i = F i + 1 := if_pos hx
        refine ⟨a1, by omega, ?_⟩
        rw [eE, eo]
        exact ih _ _ _ (i + 1) (F i) (by omega) a3
      · rw [eo] at hx
        obtain ⟨a1, a2, a3, a4, a5, a6⟩ := h8 hx
        have hFi : F i < n := by
          have m := PT_mono (op := opL) (ar := arL) (hlt hx) 0 _ (Nat.zero_le _) (Nat.le_refl _)
          rw [← hnx9 hx] at m
          have h0 : PT F i 0 = F i + 1 := rfl
          omega
        have hF9 : ∀ j, j < tNc arL i + (if tLa arL i = true then 1 else 0) → PT F i j < n ∧ F (PT F i j) < n := fun j hj => by
          have m := PT_mono (op := opL) (ar := arL) (hlt hx) (j + 1) _ (by omega) (Nat.le_refl _)
          rw [← hnx9 hx] at m
          have h0 : PT F i (j + 1) = F (PT F i j) + 1 := rfl
          have h1 := hlt hx j hj
          omega
        refine ⟨a1, by rw [ea]; exact a2, by omega, by rw [eE]; exact ih _ _ _ (i + 1) (F i) hFi a4, fun j hj => ?_, fun hla => ?_⟩
        · rw [etn] at hj
          obtain ⟨c1, c2⟩ := hF9 j (by omega)
          obtain ⟨d1, d2, d3⟩ := a5 j hj
          rw [hPT hx j (by omega), ho _ c1, hE _ c1]
          exact ⟨d1, by omega, ih _ _ _ (PT F i j + 1) _ c2 d3⟩
        · rw [etl] at hla
          obtain ⟨c1, c2⟩ := hF9 (tNc arL i) (by rw [if_pos hla]; omega)
          obtain ⟨d1, d2, d3⟩ := a6 hla
          rw [etn, hPT hx _ (by omega), ho _ c1, hE _ c1]
          exact ⟨d1, by omega, ih _ _ _ (PT F i (tNc arL i) + 1) _ c2 d3⟩
