/-! FROM THE STRUCTURE TO THE CONTRACTS: blocks and items of one level -/
def hIt (q d : Nat) : Nat := 7 * d + 60 * (5 - q) + 10
/-- tokens in their ranges; a token that begins no block is its own end -/
def GTx (op ar : Nat → Int32) (E sz : Nat → Nat) : Prop := ∀ p, p < 4 → ∀ i, i < sz p → VTok op ar (32 * p + i) ∧ (opB (op (32 * p + i)) = false → E (32 * p + i) = 32 * p + i)
def PIt (l : Launch) (G : WG) (op ar : Nat → Int32) (E sz : Nat → Nat) (hh q p e : Nat) (i : Nat) : Prop := ItF op ar E sz p i ∧ ∀ F, e + 200 * (5 - q) ≤ i + F → DoI l G op ar E sz F hh q p (i - 32 * p)
theorem doB_of {l : Launch} {G : WG} {op ar : Nat → Int32} {E sz : Nat → Nat} {F hh q p e i g Fb : Nat} (hq : q < 6) (hp : p < 4) (hg1 : 32 * p ≤ g) (hg2 : g < E g) (hg3 : E g < e) (he : e < 32 * p + sz p) (hig : i ≤ g) (hF : e + 200 * (5 - q) ≤ i + F) (hch : Chn op ar E (PIt l G op ar E sz hh q p (E g)) Fb (g + 1) (E g)) : DoB l G op ar E sz F (hh + 2) q p (g - 32 * p) := by
  intro S c s hok
  have e1 : 32 * p + (g - 32 * p) = g := by omega
  have hch2 : Chn op ar E (PIt l G op ar E sz hh q p (E (32 * p + (g - 32 * p)))) Fb (32 * p + (g - 32 * p + 1)) (E (32 * p + (g - 32 * p))) := by
    rw [e1, show 32 * p + (g - 32 * p + 1) = g + 1 by omega]
    exact hch
  exact m_MA_doBlockO l G S op ar E sz F hh q p c s hq hp hok (g - 32 * p) Fb (by omega) (by rw [e1]; exact hg2) (by rw [e1]; omega) hch2
theorem PT_mono {op ar : Nat → Int32} {E : Nat → Nat} {i n : Nat} (h : ∀ j, j < n → PT E i j < E (PT E i j)) : ∀ j k, j ≤ k → k ≤ n → PT E i j ≤ PT E i k := by
  intro j k
  induction k with
  | zero => intro h1 _; rw [show j = 0 by omega]; exact Nat.le_refl _
  | succ k ih =>
    intro h1 h2
    rcases (show j ≤ k ∨ j = k + 1 by omega) with h3 | h3
    · have h4 := ih h3 (by omega)
      have h5 := h k (by omega)
      show PT E i j ≤ E (PT E i k) + 1
      omega
    · rw [h3]; exact Nat.le_refl _
theorem chn_of {l : Launch} {G : WG} {op ar : Nat → Int32} {E sz : Nat → Nat} {q p : Nat} (hq : q < 6) (hp : p < 4) (hGT : GTx op ar E sz)
    (hcall : q < 5 → ∀ F pr, pr < 4 → 200 * (5 - q) ≤ F → DoP l G op ar E sz F (hIt (q + 1) 5 + 4) (q + 1) pr) :
    ∀ (d Fb : Nat) (t k : Bool) (i e : Nat), d ≤ 5 → 32 * p ≤ i → e < 32 * p + sz p → blk op ar E Fb d t k i e → Chn op ar E (PIt l G op ar E sz (hIt q d) q p e) Fb i e := by
  intro d
  induction d with
  | zero =>
    intro Fb
    induction Fb with
    | zero => intro t k i e _ _ _ h; exact h.elim
    | succ f ihf =>
      intro t k i e hd5 h32 hez h
      rcases h with h | ⟨hie, n18, n16, n17, h45, h8, h3, h9, hn1, hn2, hrest⟩
      · exact Or.inl h
      · have hnb : ¬ (op i = 3 ∨ op i = 10 ∨ op i = 14) := fun hx => absurd (h3 hx).1 (by omega)
        have hn9 : ¬ op i = 9 := fun hx => absurd (h9 hx).1 (by omega)
        have e1 : 32 * p + (i - 32 * p) = i := by omega
        have hGi := hGT p hp (i - 32 * p) (by omega)
        rw [e1] at hGi
        have hop : opB (op i) = false := by
          simp only [not_or] at hnb
          simp [opB, hnb, hn9, n16, n17]
        have hEi := hGi.2 hop
        have hnp : npI op ar i = 0 := by unfold npI; rw [if_neg hn9]
        refine Or.inr ⟨hie, n18, ⟨⟨h32, by omega, by omega, fun j hj => absurd hj (by omega), ?_, fun hx => absurd hx hn9⟩, fun F hF => ?_⟩, hn1, hn2, ihf t k _ e hd5 (by omega) hez hrest⟩
        · unfold nxI
          rw [if_neg hnb, if_neg hn9, hnp]
          show i + 1 = E i + 1
          rw [hEi]
        · refine doI_all (hB := 0) (hP := hIt (q + 1) 5 + 4) hq hp (by omega) (by rw [e1]; exact hGi.1) (by rw [e1]; exact ⟨n18, n16, n17⟩) (fun hx => absurd (by rw [e1] at hx; exact hx) hnb) (fun hx => absurd (by rw [e1] at hx; exact hx) hn9) (fun h5 pr hpr => hcall h5 F pr hpr (by omega)) (by unfold hIt; omega) (fun h5 => by unfold hIt; omega) (by unfold hIt; omega)
  | succ d ihd =>
    intro Fb
    induction Fb with
    | zero => intro t k i e _ _ _ h; exact h.elim
    | succ f ihf =>
      intro t k i e hd5 h32 hez h
      rcases h with h | ⟨hie, n18, n16, n17, h45, h8, h3, h9, hn1, hn2, hrest⟩
      · exact Or.inl h
      · have e1 : 32 * p + (i - 32 * p) = i := by omega
        have hGi := hGT p hp (i - 32 * p) (by omega)
        rw [e1] at hGi
        have hnc : op i = 9 → tNc ar i < 3 := fun hx => by
          obtain ⟨kk, hkk, ekk⟩ := lkOK_nc (h9 hx).2.1
          unfold tNc
          rw [ekk, nI_clamp (by omega)]
          exact hkk
        have hlt : op i = 9 → ∀ j, j < npI op ar i → PT E i j < E (PT E i j) := fun hx j hj => by
          obtain ⟨-, -, -, -, hcs, hls⟩ := h9 hx
          unfold npI at hj
          rw [if_pos hx] at hj
          by_cases hj2 : j < tNc ar i
          · exact (hcs j hj2).2.1
          · by_cases hla : tLa ar i = true
            · rw [if_pos hla] at hj
              rw [show j = tNc ar i by omega]
              exact (hls hla).2.1
            · rw [if_neg hla] at hj
              omega
        have hnx : nxI op ar E i = PT E i (npI op ar i) := by
          unfold nxI npI
          by_cases hb : op i = 3 ∨ op i = 10 ∨ op i = 14
          · have hn9 : ¬ op i = 9 := fun hx => by rcases hb with h1 | h1 | h1 <;> rw [h1] at hx <;> exact absurd hx (by decide)
            rw [if_pos hb, if_neg hn9]
            rfl
          · rw [if_neg hb]
            by_cases hx : op i = 9
            · rw [if_pos hx, if_pos hx]
              rfl
            · rw [if_neg hx, if_neg hx]
              have hop : opB (op i) = false := by
                simp only [not_or] at hb
                simp [opB, hb, hx, n16, n17]
              show i + 1 = E i + 1
              rw [hGi.2 hop]
        have hpt : op i = 9 → ∀ j, j < npI op ar i → i < PT E i j ∧ E (PT E i j) < e := fun hx j hj => by
          have m1 := PT_mono (op := op) (ar := ar) (hlt hx) 0 j (by omega) (by omega)
          have m2 := PT_mono (op := op) (ar := ar) (hlt hx) (j + 1) (npI op ar i) (by omega) (by omega)
          have h0 : PT E i 0 = E i + 1 := rfl
          have h1 : PT E i (j + 1) = E (PT E i j) + 1 := rfl
          have h2 := (h9 hx).2.2.1
          omega
        refine Or.inr ⟨hie, n18, ⟨⟨h32, by omega, ?_, fun j hj => ?_, hnx, fun hx => (h9 hx).2.1⟩, fun F hF => ?_⟩, hn1, hn2, ihf t k _ e hd5 (by omega) hez hrest⟩
        · unfold npI
          by_cases hx : op i = 9
          · have := hnc hx
            rw [if_pos hx]
            split <;> omega
          · rw [if_neg hx]; omega
        · have hx : op i = 9 := Classical.byContradiction (fun hx => by unfold npI at hj; rw [if_neg hx] at hj; omega)
          have h1 := hpt hx j hj
          have h2 := hlt hx j hj
          omega
        · refine doI_all (hB := hIt q d + 2) (hP := hIt (q + 1) 5 + 4) hq hp (by omega) (by rw [e1]; exact hGi.1) (by rw [e1]; exact ⟨n18, n16, n17⟩) (fun hx => ?_) (fun hx => ?_) (fun h5 pr hpr => hcall h5 F pr hpr (by omega)) (by unfold hIt; omega) (fun h5 => by unfold hIt; omega) (by unfold hIt; omega)
          · rw [e1] at hx
            obtain ⟨hd0, hEi, hbl⟩ := h3 hx
            have hxn : nxI op ar E i = E i + 1 := if_pos hx
            exact doB_of hq hp h32 hEi (by omega) hez (Nat.le_refl i) hF (ihd f _ _ (i + 1) (E i) (by omega) (by omega) (by omega) hbl)
          · rw [e1] at hx ⊢
            obtain ⟨hd0, hlk, hEi, hbl, hcs, hls⟩ := h9 hx
            have hnpe : npI op ar i = tNc ar i + (if tLa ar i = true then 1 else 0) := by unfold npI; rw [if_pos hx]
            have hEe : E i < e := by
              have m2 := PT_mono (op := op) (ar := ar) (hlt hx) 0 (npI op ar i) (by omega) (Nat.le_refl _)
              have h0 : PT E i 0 = E i + 1 := rfl
              omega
            refine ⟨hlk, fun j hj => ?_, doB_of hq hp h32 hEi hEe hez (Nat.le_refl i) hF (ihd f _ _ (i + 1) (E i) (by omega) (by omega) (by omega) hbl), fun j hj => ?_, fun hla => ?_⟩
            · have h1 := hpt hx j (by omega)
              have h2 := hlt hx j (by omega)
              omega
            · have hjn : j < npI op ar i := by rw [hnpe]; omega
              have h1 := hpt hx j hjn
              obtain ⟨-, c2, c3⟩ := hcs j hj
              exact doB_of hq hp (by omega) c2 h1.2 hez (by omega) hF (ihd f _ _ _ _ (by omega) (by omega) (by omega) c3)
            · have hjn : tNc ar i < npI op ar i := by rw [hnpe, if_pos hla]; omega
              have h1 := hpt hx (tNc ar i) hjn
              obtain ⟨-, c2, c3⟩ := hls hla
              exact doB_of hq hp (by omega) c2 h1.2 hez (by omega) hF (ihd f _ _ _ _ (by omega) (by omega) (by omega) c3)
