/-! PURE EQUALITIES between what the class answers and what the reference answers -/
theorem i32_le {a b : Int32} : a ≤ b ↔ a.toInt ≤ b.toInt := Int32.le_iff_toInt_le
theorem i32_lt {a b : Int32} : a < b ↔ a.toInt < b.toInt := Int32.lt_iff_toInt_lt
theorem isB_inB {v b c : Int32} (h : b.toInt = c.toInt + 1) : isB v b = inB v 0 c := by
  unfold isB inB
  congr 1
  rw [decide_eq_decide, i32_lt, i32_le]
  omega
theorem lk_in {a : Int32} : (inB a 0 6 && decide (¬ a = 3)) = true ↔ lkOK a := by
  constructor
  · intro h
    obtain ⟨h1, h2⟩ := Bool.and_eq_true_iff.mp h
    obtain ⟨j, hj, rfl⟩ := inB_nI (b := 6) (by decide) h1
    have h3 := of_decide_eq_true h2
    rcases (show j = 0 ∨ j = 1 ∨ j = 2 ∨ j = 3 ∨ j = 4 ∨ j = 5 ∨ j = 6 by omega) with rfl | rfl | rfl | rfl | rfl | rfl | rfl
    · exact Or.inl rfl
    · exact Or.inr (Or.inl rfl)
    · exact Or.inr (Or.inr (Or.inl rfl))
    · exact absurd rfl h3
    · exact Or.inr (Or.inr (Or.inr (Or.inl rfl)))
    · exact Or.inr (Or.inr (Or.inr (Or.inr (Or.inl rfl))))
    · exact Or.inr (Or.inr (Or.inr (Or.inr (Or.inr rfl))))
  · intro h
    rcases h with rfl | rfl | rfl | rfl | rfl | rfl <;> decide
theorem lk_is {a : Int32} : isB (a &&& (-5)) 3 = true ↔ lkOK a := by
  constructor
  · exact try_ok
  · intro h
    rcases h with rfl | rfl | rfl | rfl | rfl | rfl <;> decide
theorem tok_fit (o a : Int32) : isTokC o a = fitM o a := by
  unfold isTokC fitM
  by_cases h3 : o.toInt = 3
  · rw [if_pos h3, if_pos h3]; exact isB_inB (by decide)
  rw [if_neg h3, if_neg h3]
  by_cases h7 : o.toInt = 7 ∨ o.toInt = 8 ∨ o.toInt = 16
  · rw [if_pos h7, if_pos h7]; exact isB_inB (by decide)
  rw [if_neg h7, if_neg h7]
  by_cases h9 : o.toInt = 9
  · rw [if_pos h9, if_pos h9, Bool.eq_iff_iff, lk_is, lk_in]
  rw [if_neg h9, if_neg h9]
  by_cases h10 : o.toInt = 10 ∨ o.toInt = 11 ∨ o.toInt = 12 ∨ o.toInt = 15
  · rw [if_pos h10, if_pos h10]; exact isB_inB (by decide)
  rw [if_neg h10, if_neg h10]
  by_cases h13 : o.toInt = 13
  · rw [if_pos h13, if_pos h13]; exact isB_inB (by decide)
  rw [if_neg h13, if_neg h13]
  exact isB_inB (by decide)
theorem p_in (p : Int32) : isB p 4 = inB p 0 3 := isB_inB (by decide)
/-! the two checks -/
theorem auR_ext {op ar op2 ar2 : Nat → Int32} : ∀ (f i : Nat) (st : List Fm) (lk : Int32) (E : Nat → Int32), (∀ j, i ≤ j → j < i + f → op j = op2 j ∧ ar j = ar2 j) → auR op ar f i st lk E = auR op2 ar2 f i st lk E := by
  intro f
  induction f with
  | zero => intro i st lk E _; rfl
  | succ f ih =>
    intro i st lk E h
    obtain ⟨h1, h2⟩ := h i (Nat.le_refl _) (by omega)
    show (match auStep st lk (op i) (ar i) i with | none => (some i, E) | some q => auR op ar f (i + 1) q.1 q.2 (auE st lk (op i) i E)) = (match auStep st lk (op2 i) (ar2 i) i with | none => (some i, E) | some q => auR op2 ar2 f (i + 1) q.1 q.2 (auE st lk (op2 i) i E))
    rw [h1, h2]
    cases auStep st lk (op2 i) (ar2 i) i with
    | none => rfl
    | some q => exact ih (i + 1) q.1 q.2 _ (fun j j1 j2 => h j (by omega) (by omega))
theorem auR_le {op ar : Nat → Int32} : ∀ (f i : Nat) (st : List Fm) (lk : Int32) (E : Nat → Int32) (w : Nat), (auR op ar f i st lk E).1 = some w → w ≤ i + f := by
  intro f
  induction f with
  | zero =>
    intro i st lk E w h
    cases st with
    | nil => exact absurd (show (none : Option Nat) = some w from h) (fun hx => by cases hx)
    | cons a b =>
      have h2 : some i = some w := h
      cases h2
      omega
  | succ f ih =>
    intro i st lk E w h
    unfold auR at h
    cases hs : auStep st lk (op i) (ar i) i with
    | none =>
      rw [hs] at h
      have h2 : some i = some w := h
      cases h2
      omega
    | some q =>
      rw [hs] at h
      have := ih (i + 1) q.1 q.2 _ w h
      omega
/-- the same text on both sides -/
def TxE (S : SS) (nn : Nat → Nat) : Prop := ∀ p, p < 4 → S 47 p = nI (nn p) ∧ ∀ j, j < nn p → S 45 (32 * p + j) = S (12 + 4 * p) j ∧ S 46 (32 * p + j) = S (13 + 4 * p) j
theorem fw_eq {S : SS} {nn : Nat → Nat} (h : TxE S nn) {p : Nat} (hp : p < 4) : fwM S p (nn p) = wN (fwC S p (nn p)).1 := by
  unfold fwM fwC
  rw [auR_E _ _ _ _ _ _ (fun _ => 0) (S (14 + 4 * p)), auR_ext (op2 := S (12 + 4 * p)) (ar2 := S (13 + 4 * p)) (nn p) 0 _ _ _ (fun j _ hj => (h p hp).2 j (by omega))]
theorem fw_none {S : SS} {p n : Nat} (hn : n ≤ 32) : wN (fwC S p n).1 < 0 ↔ (fwC S p n).1 = none := by
  cases h : (fwC S p n).1 with
  | none => exact ⟨fun _ => rfl, fun _ => show (-1 : Int32) < 0 by decide⟩
  | some w =>
    have := auR_le _ _ _ _ _ w h
    exact ⟨fun hx => absurd hx (nI_pos (n := w) (by omega)), fun hx => by cases hx⟩
/-! events -/
theorem ev_eq {S : SS} {g : GS} (h1 : RL S g) (h2 : ML S g) (i : Int32) : eAt S (gnv g) i = moEv S (gnv g) i := by
  unfold eAt moEv
  have hib : isB i 32 = inB i 0 31 := isB_inB (by decide)
  rw [hib]
  by_cases h : inB i 0 31 = true ∧ i < nI (gnv g)
  · rw [if_pos h, if_pos h]
    obtain ⟨j, hj, rfl⟩ := inB_nI (b := 31) (by decide) h.1
    have hb := h1.2.2.2.1
    have hs := h1.2.1
    have hlt : j < gnv g := (nI_ltI (by omega) (by omega)).mp h.2
    rw [nI_clamp (by omega), h2.2.2.2.2.1 j (by omega) hlt]
    exact h1.2.2.2.2.1 (gnv g - 1 - j) (by omega) (by omega)
  · rw [if_neg h, if_neg h]
/-! faults and their causes: the class numbers them from 0, the reference from 1 -/
theorem nI_dec {n : Nat} (h : 0 < n) : nI n - 1 = nI (n - 1) := by
  obtain ⟨m, rfl⟩ : ∃ m, n = m + 1 := ⟨n - 1, by omega⟩
  exact nI_pred m
theorem cz_mz {S : SS} {g : GS} (h1 : RL S g) {f : Nat} (hf : f ≤ gnf g) : ∀ k, cz S (gnf g) (nI f - 1) k = nI (mz (gfc g) f k) - 1 ∧ mz (gfc g) f k ≤ gnf g := by
  have hn := h1.2.2.2.2.2.2.2.1
  intro k
  induction k with
  | zero => exact ⟨rfl, hf⟩
  | succ k ih =>
    obtain ⟨i1, i2⟩ := ih
    show (if isB (cz S (gnf g) (nI f - 1) k) (nI (gnf g)) = true then S 6 (cz S (gnf g) (nI f - 1) k).toNatClampNeg else cz S (gnf g) (nI f - 1) k) = nI (if 0 < mz (gfc g) f k then gfc g (mz (gfc g) f k) else 0) - 1 ∧ (if 0 < mz (gfc g) f k then gfc g (mz (gfc g) f k) else 0) ≤ gnf g
    rw [i1]
    by_cases h0 : 0 < mz (gfc g) f k
    · rw [if_pos h0, nI_dec h0, if_pos (isB_of (by omega) (by omega)), nI_clamp (by omega)]
      obtain ⟨e1, e2, e3⟩ := h1.2.2.2.2.2.2.2.2 (mz (gfc g) f k - 1) (by omega)
      rw [show mz (gfc g) f k - 1 + 1 = mz (gfc g) f k by omega] at e2 e3
      exact ⟨e2, by omega⟩
    · rw [if_neg h0, show mz (gfc g) f k = 0 by omega, if_neg (by rw [isB_1 (show nI 0 - 1 < 0 by decide)]; decide)]
      exact ⟨rfl, Nat.zero_le _⟩
theorem fa_eq {S : SS} {g : GS} (h1 : RL S g) (h2 : ML S g) {f : Nat} (hf : f ≤ gnf g) (h17 : S 1 7 = nI f - 1) (k : Int32) : fAt S (gnf g) k = moFa S (gfc g) f k := by
  have hn := h1.2.2.2.2.2.2.2.1
  unfold fAt moFa
  by_cases hk : k < 0
  · rw [if_pos hk, if_pos hk]
  · rw [if_neg hk, if_neg hk, h17]
    obtain ⟨i1, i2⟩ := cz_mz h1 hf k.toNatClampNeg
    rw [i1]
    unfold fKind
    by_cases h0 : 0 < mz (gfc g) f k.toNatClampNeg
    · rw [if_pos h0, nI_dec h0, if_pos (isB_of (by omega) (by omega)), nI_clamp (by omega)]
      obtain ⟨e1, e2, e3⟩ := h1.2.2.2.2.2.2.2.2 (mz (gfc g) f k.toNatClampNeg - 1) (by omega)
      rw [show mz (gfc g) f k.toNatClampNeg - 1 + 1 = mz (gfc g) f k.toNatClampNeg by omega] at e1
      rw [e1]
      exact ((h2.2.2.2.2.2.2.2.2 _ h0 i2).1).symm
    · rw [if_neg h0, show mz (gfc g) f k.toNatClampNeg = 0 by omega, if_neg (by rw [isB_1 (show nI 0 - 1 < 0 by decide)]; decide)]
