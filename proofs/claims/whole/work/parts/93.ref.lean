/-! the reference's check and run: the states between -/
theorem good_ck {S S1 : SS} {p n : Nat} {r : Int32} (h : goodM (su S 44 3 (-1)) p n r S1) : (r = 1 ∧ ckM S p n 0 S1) ∨ (r = 0 ∧ ckM S p n (-3) S1) := by
  have hfw : fwM (su S 44 3 (-1)) p n = fwM S p n := fw_mv (fun a b hab => su_k _ _ (by omega))
  rcases h with ⟨h1, rfl, hK⟩ | ⟨h1, rfl, Y, hK, rfl⟩
  · rw [hfw] at h1
    refine Or.inl ⟨rfl, fun a b hab => ?_, Or.inl ⟨h1, rfl, ?_⟩⟩
    · rw [hK a b (by omega), su_k _ _ (by omega)]
    · rw [hK 44 3 (by omega), su_same]
  · rw [hfw] at h1
    refine Or.inr ⟨rfl, fun a b hab => ?_, Or.inr ⟨h1, rfl, ?_⟩⟩
    · rw [su_k _ _ (by omega), hK a b (by omega), su_k _ _ (by omega)]
    · rw [su_same, hfw]
/-- a state within the round of checks -/
def RdM (X S : SS) : Prop := KpR X S ∧ X 44 3 = -1
theorem RdM.good {X S S1 : SS} (hX : RdM X S) {p n : Nat} {r : Int32} (h : goodM X p n r S1) : (r = 1 ∧ fwM S p n < 0 ∧ RdM S1 S) ∨ (r = 0 ∧ ¬ fwM S p n < 0 ∧ KpR S1 S ∧ S1 44 3 = 32 * nI p + fwM S p n) := by
  have hfw : fwM X p n = fwM S p n := fw_mv (fun a b hab => hX.1 a b (by omega))
  rcases h with ⟨h1, rfl, hK⟩ | ⟨h1, rfl, Y, hK, rfl⟩
  · rw [hfw] at h1
    refine Or.inl ⟨rfl, h1, fun a b hab => ?_, ?_⟩
    · rw [hK a b (by omega), hX.1 a b hab]
    · rw [hK 44 3 (by omega)]
      exact hX.2
  · rw [hfw] at h1
    refine Or.inr ⟨rfl, h1, fun a b hab => ?_, ?_⟩
    · rw [su_k _ _ (by omega), hK a b (by omega), hX.1 a b hab]
    · rw [su_same, hfw]
def moReset (X : SS) (x : Int32) : SS := su (su (su (su (su (su (su (su (su (su (su X 44 8 0) 44 13 0) 44 18 0) 44 19 0) 44 20 0) 44 22 0) 44 11 0) 44 10 x) 53 0 0) 53 1 0) 53 2 0
theorem moReset_k (X : SS) (x : Int32) {a b : Nat} (h : ¬ ((a = 44 ∧ (b = 8 ∨ b = 13 ∨ b = 18 ∨ b = 19 ∨ b = 20 ∨ b = 22 ∨ b = 11 ∨ b = 10)) ∨ (a = 53 ∧ b < 3))) : moReset X x a b = X a b := by
  unfold moReset
  rw [su_k _ _ (by omega), su_k _ _ (by omega), su_k _ _ (by omega), su_k _ _ (by omega), su_k _ _ (by omega), su_k _ _ (by omega), su_k _ _ (by omega), su_k _ _ (by omega), su_k _ _ (by omega), su_k _ _ (by omega), su_k _ _ (by omega)]
theorem moReset_0 (X : SS) (x : Int32) {b : Nat} (h : b = 8 ∨ b = 13 ∨ b = 18 ∨ b = 19 ∨ b = 20 ∨ b = 22 ∨ b = 11) : moReset X x 44 b = 0 := by
  unfold moReset
  rw [su_k _ _ (by omega), su_k _ _ (by omega), su_k _ _ (by omega), su_k _ _ (by omega)]
  by_cases h11 : b = 11
  · subst h11; exact su_same _ _ _ _
  rw [su_k _ _ (by omega)]
  by_cases h22 : b = 22
  · subst h22; exact su_same _ _ _ _
  rw [su_k _ _ (by omega)]
  by_cases h20 : b = 20
  · subst h20; exact su_same _ _ _ _
  rw [su_k _ _ (by omega)]
  by_cases h19 : b = 19
  · subst h19; exact su_same _ _ _ _
  rw [su_k _ _ (by omega)]
  by_cases h18 : b = 18
  · subst h18; exact su_same _ _ _ _
  rw [su_k _ _ (by omega)]
  by_cases h13 : b = 13
  · subst h13; exact su_same _ _ _ _
  rw [su_k _ _ (by omega), show b = 8 by omega]
  exact su_same _ _ _ _
theorem moReset_10 (X : SS) (x : Int32) : moReset X x 44 10 = x := by
  unfold moReset
  rw [su_k _ _ (by omega), su_k _ _ (by omega), su_k _ _ (by omega), su_same]
theorem moReset_53 (X : SS) (x : Int32) {j : Nat} (h : j < 3) : moReset X x 53 j = 0 := by
  unfold moReset
  by_cases h2 : j = 2
  · subst h2; exact su_same _ _ _ _
  rw [su_k _ _ (by omega)]
  by_cases h1 : j = 1
  · subst h1; exact su_same _ _ _ _
  rw [su_k _ _ (by omega), show j = 0 by omega]
  exact su_same _ _ _ _
/-- where the loop begins -/
theorem run_init {X S : SS} {nv p : Nat} {ev : Nat → Int32} {x : Int32} (hX : RdM X S) (h24 : S 44 24 = nI nv) (hnv : nv + 300 ≤ 2 ^ 29) (hev : ∀ j, j < 32 → j < nv → S 56 j = ev (nv - 1 - j)) : MAt (moBegin (moReset X x) 0 0 (nI p) x) (moBegin (moReset X x) 0 0 (nI p) x) 0 0 0 false (32 * p) (gInit nv ev, x, fun _ => 0) ∧ moBegin (moReset X x) 0 0 (nI p) x 48 0 = 20 ∧ (∀ a b, a < 44 ∨ a = 45 ∨ a = 46 ∨ a = 47 → moBegin (moReset X x) 0 0 (nI p) x a b = S a b) ∧ moBegin (moReset X x) 0 0 (nI p) x 44 3 = -1 ∧ moBegin (moReset X x) 0 0 (nI p) x 44 21 = S 44 21 ∧ moBegin (moReset X x) 0 0 (nI p) x 44 22 = 0 := by
  have hk : ∀ a b, ¬ (((a = 48 ∨ a = 49 ∨ a = 50 ∨ a = 51) ∧ b = 0) ∨ (a = 44 ∧ (b = 8 ∨ b = 9 ∨ b = 13)) ∨ (a = 52 ∧ 3 * 0 ≤ b ∧ b < 3 * 0 + 3)) → moBegin (moReset X x) 0 0 (nI p) x a b = moReset X x a b := fun a b hab => moBegin_k _ _ _ _ _ hab
  have hMG : MG (moBegin (moReset X x) 0 0 (nI p) x) (moReset X x) (gInit nv ev) := by
    refine ⟨fun a b hab => (hk a b (by omega)).symm, ⟨?_, Nat.zero_le _, ?_, ?_, fun j j1 j2 => ?_, ?_, ?_, Nat.zero_le _, fun k h0 h1 => ?_⟩, fun j hj => ?_⟩
    · exact moReset_0 _ _ (by omega)
    · rw [moReset_k _ _ (by omega), hX.1 44 24 (by omega)]
      exact h24
    · have e1 : gnv (gInit nv ev) = nv := rfl
      have e2 : gst (gInit nv ev) = 0 := rfl
      rw [e1, e2]
      omega
    · rw [moReset_k _ _ (by omega), hX.1 56 j (by omega)]
      exact hev j j1 j2
    · exact moReset_0 _ _ (by omega)
    · exact moReset_0 _ _ (by omega)
    · exact absurd h1 (show ¬ k ≤ 0 by omega)
    · exact moReset_53 _ _ hj
  refine ⟨beg_at (lev := 0) (D := 0) (pr := p) hMG hk (moBegin_8 _ _ _ _ _) (moBegin_9 _ _ _ _ _) (moBegin_13 _ _ _ _ _) (fun j hj => moBegin_52 _ _ _ _ _ hj) (moReset_10 _ _) (moReset_0 _ _ (by omega)) (Nat.le_refl 0), moBegin_48 _ _ _ _ _, fun a b hab => ?_, ?_, ?_, ?_⟩
  · rw [hk a b (by omega), moReset_k _ _ (by omega), hX.1 a b (by omega)]
  · rw [hk 44 3 (by omega), moReset_k _ _ (by omega)]
    exact hX.2
  · rw [hk 44 21 (by omega), moReset_k _ _ (by omega), hX.1 44 21 (by omega)]
  · rw [hk 44 22 (by omega)]
    exact moReset_0 _ _ (by omega)
/-- the ends of run -/
theorem run_late {S S5 T : SS} {u : Nat × Int32 × Nat × GS} (k1 : ∀ a b, a < 44 ∨ a = 45 ∨ a = 46 ∨ a = 47 → S5 a b = S a b) (k3 : S5 44 3 = -1) (k21 : S5 44 21 = S 44 21) (k22 : S5 44 22 = 0) (h5 : u.1 = 5) (hK : MKp S5 T) (hM : ML T u.2.2.2) : PrM S T 2 u :=
  ⟨hM, fun a b hab => (hK a b (by omega)).trans (k1 a b hab), (hK 44 3 (by omega)).trans k3, Or.inl ⟨h5, rfl, (hK 44 22 (by omega)).trans k22, (hK 44 21 (by omega)).trans k21⟩⟩
theorem run_flt {S S5 T : SS} {u : Nat × Int32 × Nat × GS} (k1 : ∀ a b, a < 44 ∨ a = 45 ∨ a = 46 ∨ a = 47 → S5 a b = S a b) (k3 : S5 44 3 = -1) (k21 : S5 44 21 = S 44 21) (h5 : u.1 = 4) (hM : MG S5 T u.2.2.2) (h12 : T 44 12 = nI u.2.2.1) (h0 : 0 < u.2.2.1) (h1 : u.2.2.1 ≤ gnf u.2.2.2) : PrM S (su T 44 22 (T 44 12)) 1 u :=
  ⟨hM.2.1.mv (fun a b hab => su_k _ _ (by omega)), fun a b hab => ((su_k _ _ (by omega)).trans (hM.1 a b (by omega))).trans (k1 a b hab), ((su_k _ _ (by omega)).trans (hM.1 44 3 (by omega))).trans k3, Or.inr (Or.inl ⟨h5, rfl, (su_same _ _ _ _).trans h12, h0, h1, ((su_k _ _ (by omega)).trans (hM.1 44 21 (by omega))).trans k21⟩)⟩
theorem run_val {S S5 T : SS} {u : Nat × Int32 × Nat × GS} (k1 : ∀ a b, a < 44 ∨ a = 45 ∨ a = 46 ∨ a = 47 → S5 a b = S a b) (k3 : S5 44 3 = -1) (k22 : S5 44 22 = 0) (h5 : u.1 = 3) (hM : MG S5 T u.2.2.2) (h10 : T 44 10 = u.2.1) : PrM S (su T 44 21 (T 44 10)) 0 u :=
  ⟨hM.2.1.mv (fun a b hab => su_k _ _ (by omega)), fun a b hab => ((su_k _ _ (by omega)).trans (hM.1 a b (by omega))).trans (k1 a b hab), ((su_k _ _ (by omega)).trans (hM.1 44 3 (by omega))).trans k3, Or.inr (Or.inr ⟨h5, rfl, (su_same _ _ _ _).trans h10, ((su_k _ _ (by omega)).trans (hM.1 44 22 (by omega))).trans k22⟩)⟩
theorem GoM.mv {S X : SS} {nn : Nat → Nat} {op ar : Nat → Int32} (h : TM S op ar nn) (hk : ∀ a b, a = 45 ∨ a = 46 ∨ a = 47 → X a b = S a b) : TM X op ar nn := fun p hp => by
  obtain ⟨h1, h2, h3⟩ := h p hp
  refine ⟨h1, (hk _ _ (by omega)).trans h2, fun i i1 i2 => ?_⟩
  rw [hk 45 i (by omega), hk 46 i (by omega)]
  exact h3 i i1 i2
