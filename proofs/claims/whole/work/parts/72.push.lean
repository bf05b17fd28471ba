/-! a block begun comes to its end -/
def EL (Ef : Nat → Int32) (x : Nat) : Nat := (Ef x).toNatClampNeg
def StrP (op ar : Nat → Int32) (n : Nat) (Ef : Nat → Int32) (i : Nat) : Prop := ∀ (f : Fm) (r : List Fm) (E : Nat → Int32), r.length + 1 ≤ 6 → OpOK i (f :: r) → bk (f :: r) → auR op ar (n - i) i (f :: r) 0 E = (none, Ef) → ∃ (e : Nat) (E1 : Nat → Int32), i ≤ e ∧ e < n ∧ blk op ar (EL Ef) (n + 1 - i) (6 - (r.length + 1)) (hasK 3 (f :: r)) (hasK 16 (f :: r)) i e ∧ auR op ar (n - (e + 1)) (e + 1) r (if f.1 = 9 ∨ f.1 = 16 then f.2.1 else 0) E1 = (none, Ef) ∧ ∀ j, j < i → f.2.2 = nI j → E1 j = nI e
theorem OpOK.le {i j : Nat} (h : i ≤ j) : ∀ {st : List Fm}, OpOK i st → OpOK j st := by
  intro st
  induction st with
  | nil => intro _; trivial
  | cons f r ih =>
    intro h2
    exact ⟨h2.1.elim Or.inl (fun ⟨k, h3, h4⟩ => Or.inr ⟨k, by omega, h4⟩), ih h2.2⟩
theorem str_push {op ar : Nat → Int32} {n i : Nat} {Ef E : Nat → Int32} {f : Fm} {r : List Fm} {o lf : Int32} (hn : n ≤ 32) (hP : StrP op ar n Ef (i + 1)) (hi : i < n) (hL : r.length + 1 < 6) (hop : OpOK i (f :: r)) (hbk : bk (f :: r)) (hlf : lkOK lf) (h : auR op ar (n - (i + 1)) (i + 1) ((o, lf, nI i) :: f :: r) 0 E = (none, Ef)) :
    ∃ (e : Nat) (E1 : Nat → Int32), i < e ∧ e < n ∧ EL Ef i = e ∧ blk op ar (EL Ef) (n - i) (6 - (r.length + 1) - 1) (hasK 3 (f :: r) || decide (o = 3)) (hasK 16 (f :: r) || decide (o = 16)) (i + 1) e ∧ auR op ar (n - (e + 1)) (e + 1) (f :: r) (if o = 9 ∨ o = 16 then lf else 0) E1 = (none, Ef) := by
  obtain ⟨e, E1, h1, h2, h3, h4, h5⟩ := hP (o, lf, nI i) (f :: r) E (by simp only [List.length_cons]; omega) ⟨Or.inr ⟨i, Nat.lt_succ_self i, rfl⟩, OpOK.up hop⟩ ⟨hbk, hlf, fun hx => absurd hx (by simp)⟩ h
  have hE : Ef i = E1 i := by
    have hk := auR_keep (op := op) (ar := ar) (x := i) (n - (e + 1)) (e + 1) (f :: r) (if (o, lf, nI i).1 = 9 ∨ (o, lf, nI i).1 = 16 then (o, lf, nI i).2.1 else 0) E1 (by omega) (by omega) (hop.no (by omega)) (hop.le (by omega))
    rw [h4] at hk
    exact hk
  refine ⟨e, E1, by omega, h2, ?_, ?_, h4⟩
  · unfold EL
    rw [hE, h5 i (Nat.lt_succ_self i) rfl, nI_clamp (by omega)]
  · rw [show n + 1 - (i + 1) = n - i by omega, show 6 - ((f :: r).length + 1) = 6 - (r.length + 1) - 1 by simp only [List.length_cons]; omega] at h3
    exact h3
