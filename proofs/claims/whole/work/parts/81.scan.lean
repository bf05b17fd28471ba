/-! the reference's scan over a block of good structure -/
theorem nextO_o {x : Int32} {o : Nat} (h : opB x = true) : nextO x o = o + 1 := by unfold nextO; rw [if_pos h]
theorem nextO_e {o : Nat} : nextO 18 o = o - 1 := by unfold nextO; rw [if_neg (by decide), if_pos rfl]
theorem nextO_s {x : Int32} {o : Nat} (h : opB x = false) (h18 : ¬ x = 18) : nextO x o = o := by unfold nextO; rw [if_neg (by rw [h]; decide), if_neg h18]
theorem sc_one {r : Nat → Int32} {i o e : Nat} {x : Int32} (hx : r i = x) (h0 : 0 < o) (h1 : i < 128) (h2 : o < 200) (h : ∃ f, Sc r f (i + 1) (nextO x o) e) : ∃ f, Sc r f i o e := by
  obtain ⟨f, hf⟩ := h
  exact ⟨f + 1, Or.inr ⟨h0, h1, h2, by rw [hx]; exact hf⟩⟩
theorem sc_blk {r op ar : Nat → Int32} {E : Nat → Nat} {a b : Nat} (hr : ∀ j, a ≤ j → j < b → r j = op j) (hb : b ≤ 128) : ∀ (Fb d : Nat) (t k : Bool) (i e : Nat), a ≤ i → e < b → blk op ar E Fb d t k i e → ∀ (o e2 : Nat), 0 < o → o + d < 200 → (∃ f, Sc r f (e + 1) (o - 1) e2) → ∃ f, Sc r f i o e2 := by
  intro Fb
  induction Fb with
  | zero => intro d t k i e _ _ h; exact h.elim
  | succ f ih =>
    intro d t k i e hai heb h o e2 ho hod hs
    rcases h with h | ⟨h1, h2, h3, h4, h5, h6, h7, h8, h9, h10, h11⟩
    · obtain ⟨rfl, h18⟩ := h
      refine sc_one (x := 18) ((hr i hai heb).trans h18) ho (by omega) (by omega) ?_
      rw [nextO_e]
      exact hs
    · have hrest := ih d t k _ e (by omega) heb h11 o e2 ho hod hs
      have hri := hr i hai (by omega)
      by_cases hb3 : op i = 3 ∨ op i = 10 ∨ op i = 14
      · obtain ⟨a1, a2, a3⟩ := h7 hb3
        have hnx : nxI op ar E i = E i + 1 := if_pos hb3
        have hopb : opB (op i) = true := by rcases hb3 with hx | hx | hx <;> rw [hx] <;> decide
        refine sc_one hri ho (by omega) (by omega) ?_
        rw [nextO_o hopb]
        rw [hnx] at hrest
        exact ih _ _ _ (i + 1) (E i) (by omega) (by omega) a3 (o + 1) e2 (by omega) (by omega) hrest
      · by_cases h99 : op i = 9
        · obtain ⟨a1, a2, a3, a4, a5, a6⟩ := h8 h99
          have hnx : nxI op ar E i = PT E i (tNc ar i + if tLa ar i = true then 1 else 0) := by
            unfold nxI
            rw [if_neg hb3, if_pos h99]
            rfl
          have hlt : ∀ j, j < tNc ar i + (if tLa ar i = true then 1 else 0) → (op (PT E i j) = 16 ∨ op (PT E i j) = 17) ∧ PT E i j < E (PT E i j) ∧ ∃ t2 k2, blk op ar E f (d - 1) t2 k2 (PT E i j + 1) (E (PT E i j)) := fun j hj => by
            by_cases hj2 : j < tNc ar i
            · obtain ⟨b1, b2, b3⟩ := a5 j hj2
              exact ⟨Or.inl b1, b2, _, _, b3⟩
            · by_cases hla : tLa ar i = true
              · rw [if_pos hla] at hj
                rw [show j = tNc ar i by omega]
                obtain ⟨b1, b2, b3⟩ := a6 hla
                exact ⟨Or.inr b1, b2, _, _, b3⟩
              · rw [if_neg hla] at hj
                omega
          have hmo := PT_mono (op := op) (ar := ar) (fun j hj => (hlt j hj).2.1)
          rw [hnx] at hrest h10
          have hall : ∀ m j, j + m = tNc ar i + (if tLa ar i = true then 1 else 0) → ∃ f, Sc r f (PT E i j) o e2 := by
            intro m
            induction m with
            | zero => intro j hj; rw [show j = _ from hj]; exact hrest
            | succ m ihm =>
              intro j hj
              have hn := ihm (j + 1) (by omega)
              obtain ⟨b1, b2, t2, k2, b3⟩ := hlt j (by omega)
              have m1 := hmo 0 j (by omega) (by omega)
              have m2 := hmo (j + 1) _ (by omega) (Nat.le_refl _)
              have e0 : PT E i 0 = E i + 1 := rfl
              have e1 : PT E i (j + 1) = E (PT E i j) + 1 := rfl
              have hopb : opB (op (PT E i j)) = true := by rcases b1 with hx | hx <;> rw [hx] <;> decide
              refine sc_one (hr (PT E i j) (by omega) (by omega)) ho (by omega) (by omega) ?_
              rw [nextO_o hopb]
              rw [e1] at hn
              exact ih _ _ _ _ _ (by omega) (by omega) b3 (o + 1) e2 (by omega) (by omega) hn
          have h00 := hall _ 0 (Nat.zero_add _)
          have m2 := hmo 0 _ (Nat.zero_le _) (Nat.le_refl _)
          have e0 : PT E i 0 = E i + 1 := rfl
          rw [e0] at h00 m2
          refine sc_one hri ho (by omega) (by omega) ?_
          rw [nextO_o (by rw [h99]; decide)]
          exact ih _ _ _ (i + 1) (E i) (by omega) (by omega) a4 (o + 1) e2 (by omega) (by omega) h00
        · have hnx : nxI op ar E i = i + 1 := by
            unfold nxI
            rw [if_neg hb3, if_neg h99]
          have hopb : opB (op i) = false := by
            simp only [not_or] at hb3
            simp [opB, hb3, h99, h3, h4]
          refine sc_one hri ho (by omega) (by omega) ?_
          rw [nextO_s hopb h2]
          rw [hnx] at hrest
          exact hrest
theorem sc_fin {r : Nat → Int32} {e : Nat} (h : e < 200) : ∃ f, Sc r f e 0 e := ⟨1, Or.inl ⟨rfl, rfl, h⟩⟩
/-- a block's end, as the scan finds it -/
theorem sc_end {r op ar : Nat → Int32} {E : Nat → Nat} {a b : Nat} (hr : ∀ j, a ≤ j → j < b → r j = op j) (hb : b ≤ 128) {Fb d : Nat} {t k : Bool} {i e : Nat} (hai : a ≤ i) (heb : e < b) (hd : d < 100) (h : blk op ar E Fb d t k i e) : ∃ f, Sc r f i 1 (e + 1) :=
  sc_blk hr hb Fb d t k i e hai heb h 1 (e + 1) (by omega) (by omega) (sc_fin (by omega))
def PQ (ar : Nat → Int32) (E : Nat → Nat) (i j : Nat) : Nat := if j ≤ tNc ar i + (if tLa ar i = true then 1 else 0) then PT E i j else 0
theorem PQ_in {ar : Nat → Int32} {E : Nat → Nat} {i j : Nat} (h : j ≤ tNc ar i + (if tLa ar i = true then 1 else 0)) : PQ ar E i j = PT E i j := if_pos h
theorem tryEnd_PQ {ar : Nat → Int32} {E : Nat → Nat} {i : Nat} : tryEnd (tNc ar i) (tLa ar i) (PQ ar E i) = tEnd ar E i := PQ_in (Nat.le_refl _)
theorem try_at {S : SS} {op ar : Nat → Int32} {E : Nat → Nat} {a b : Nat} (hr : ∀ j, a ≤ j → j < b → S 45 j = op j ∧ S 46 j = ar j) (hb : b ≤ 128) {f d i e : Nat} {t k : Bool} (hai : a ≤ i) (hie : i < e) (heb : e < b) (hd : d < 100) (h99 : op i = 9) (hn2 : nxI op ar E i ≤ e) (hlk : lkOK (ar i)) (hEi : i < E i) (hbl : blk op ar E f (d - 1) t k (i + 1) (E i))
    (hcs : ∀ j, j < tNc ar i → op (PT E i j) = 16 ∧ PT E i j < E (PT E i j) ∧ blk op ar E f (d - 1) t true (PT E i j + 1) (E (PT E i j))) (hls : tLa ar i = true → op (PT E i (tNc ar i)) = 17 ∧ PT E i (tNc ar i) < E (PT E i (tNc ar i)) ∧ blk op ar E f (d - 1) t k (PT E i (tNc ar i) + 1) (E (PT E i (tNc ar i)))) :
    TryAt S i (tNc ar i) (tLa ar i) (PQ ar E i) ∧ tNc ar i < 3 ∧ ∀ j, j < tNc ar i + (if tLa ar i = true then 1 else 0) → i < PT E i j ∧ E (PT E i j) < e ∧ PT E i j < E (PT E i j) ∧ PT E i j < 128 := by
  have hb3 : ¬ (op i = 3 ∨ op i = 10 ∨ op i = 14) := by rw [h99]; decide
  have hnx : nxI op ar E i = PT E i (tNc ar i + if tLa ar i = true then 1 else 0) := by
    unfold nxI
    rw [if_neg hb3, if_pos h99]
    rfl
  obtain ⟨kk, hkk, ekk⟩ := lkOK_nc hlk
  have htn : tNc ar i = kk := by unfold tNc; rw [ekk, nI_clamp (by omega)]
  have hlt : ∀ j, j < tNc ar i + (if tLa ar i = true then 1 else 0) → PT E i j < E (PT E i j) ∧ ∃ t2 k2, blk op ar E f (d - 1) t2 k2 (PT E i j + 1) (E (PT E i j)) := fun j hj => by
    by_cases hj2 : j < tNc ar i
    · obtain ⟨b1, b2, b3⟩ := hcs j hj2
      exact ⟨b2, _, _, b3⟩
    · by_cases hla : tLa ar i = true
      · rw [if_pos hla] at hj
        rw [show j = tNc ar i by omega]
        obtain ⟨b1, b2, b3⟩ := hls hla
        exact ⟨b2, _, _, b3⟩
      · rw [if_neg hla] at hj
        omega
  have hmo := PT_mono (op := op) (ar := ar) (fun j hj => (hlt j hj).1)
  have e0 : PT E i 0 = E i + 1 := rfl
  have hpt : ∀ j, j < tNc ar i + (if tLa ar i = true then 1 else 0) → i < PT E i j ∧ E (PT E i j) < e ∧ PT E i j < E (PT E i j) ∧ PT E i j < 128 := fun j hj => by
    have m1 := hmo 0 j (by omega) (by omega)
    have m2 := hmo (j + 1) _ (by omega) (Nat.le_refl _)
    have e1 : PT E i (j + 1) = E (PT E i j) + 1 := rfl
    have := (hlt j hj).1
    omega
  have hEe : E i < e := by
    have m2 := hmo 0 _ (Nat.zero_le _) (Nat.le_refl _)
    omega
  refine ⟨⟨by omega, by omega, ?_, ?_, ?_, fun j hj => ?_, fun j hj => ?_⟩, by omega, hpt⟩
  · rw [(hr i hai (by omega)).2, htn]
    exact ekk
  · rw [(hr i hai (by omega)).2]
    exact ⟨fun h => decide_eq_true h, fun h => of_decide_eq_true h⟩
  · rw [PQ_in (Nat.zero_le _)]
    exact sc_end (fun j h1 h2 => (hr j h1 h2).1) hb (by omega) (by omega) (by omega) hbl
  · rw [PQ_in (by omega), PQ_in (by omega)]
    obtain ⟨b2, t2, k2, b3⟩ := hlt j hj
    have := hpt j hj
    exact sc_end (fun j h1 h2 => (hr j h1 h2).1) hb (by omega) (by omega) (by omega) b3
  · unfold PQ
    by_cases hj3 : j ≤ tNc ar i + (if tLa ar i = true then 1 else 0)
    · rw [if_pos hj3]
      have m2 := hmo j _ hj3 (Nat.le_refl _)
      omega
    · rw [if_neg hj3]
      omega
