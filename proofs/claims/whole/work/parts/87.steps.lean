/-! so do the steps -/
theorem sTimes_ms {rec : SG → RR} (h : ∀ s, gst s.1 ≤ gst (rec s).2.2.2.1) : ∀ (k : Nat) (s : SG), gst s.1 ≤ gst (sTimes rec k s).2.2.2.1 := by
  intro k
  induction k with
  | zero => intro s; exact Nat.le_refl _
  | succ k ih =>
    intro s
    show gst s.1 ≤ gst (if (rec s).1 = 1 then rOn (rec s).2.2.2 else if (rec s).1 = 0 ∨ (rec s).1 = 2 then sTimes rec k (rec s).2.2.2 else rec s).2.2.2.1
    by_cases h1 : (rec s).1 = 1
    · rw [if_pos h1]; exact h s
    · rw [if_neg h1]
      by_cases h2 : (rec s).1 = 0 ∨ (rec s).1 = 2
      · rw [if_pos h2]; exact Nat.le_trans (h s) (ih _)
      · rw [if_neg h2]; exact h s
theorem sFin_ms (r : RR) : gst r.2.2.2.1 ≤ gst (sFin r).2.2.2 := by
  unfold sFin
  by_cases h5 : r.1 = 5
  · rw [if_pos h5]; exact Nat.le_refl _
  · rw [if_neg h5]
    by_cases ho : enOwe r.2.2.2.2.2 = true
    · rw [if_pos ho]
      exact Nat.le_refl _
    · rw [if_neg ho]
      by_cases h4 : r.1 = 4
      · rw [if_pos h4]; exact Nat.le_refl _
      · rw [if_neg h4]; exact Nat.le_refl _
theorem sTry_ms {ar : Nat → Int32} {E : Nat → Nat} {rec : Nat → Nat → SG → RR} (h : ∀ c i s, gst s.1 ≤ gst (rec c i s).2.2.2.1) (c i : Nat) (s : SG) : gst s.1 ≤ gst (sTry ar E rec c i s).2.2.2.1 := by
  have h1 : gst s.1 ≤ gst (sCat ar E rec i (rec c (i + 1) s)).2.2.2.1 := by
    unfold sCat
    by_cases h4 : (rec c (i + 1) s).1 = 4
    · rw [if_pos h4]
      by_cases h5 : fndA (fun j => isK (gfk (rec c (i + 1) s).2.2.2.1 (rec c (i + 1) s).2.2.1) (ar (PT E i j))) (tNc ar i) < tNc ar i
      · rw [if_pos h5]; exact Nat.le_trans (h _ _ _) (h _ _ _)
      · rw [if_neg h5]; exact h _ _ _
    · rw [if_neg h4]; exact h _ _ _
  unfold sTry
  by_cases h2 : (sCat ar E rec i (rec c (i + 1) s)).1 = 5 ∨ tLa ar i = false
  · rw [if_pos h2]; exact h1
  · rw [if_neg h2]
    unfold sLst
    by_cases h3 : (rec c (PT E i (tNc ar i) + 1) (sCat ar E rec i (rec c (i + 1) s)).2.2.2).1 = 0
    · rw [if_pos h3]; exact Nat.le_trans h1 (h _ _ _)
    · rw [if_neg h3]; exact Nat.le_trans h1 (h _ _ _)
theorem sItem_ms {op ar : Nat → Int32} {E sz : Nat → Nat} {rec : Nat → Nat → Nat → SG → RR} (h : ∀ q c i s, gst s.1 ≤ gst (rec q c i s).2.2.2.1) (q c i : Nat) (g : GS) (ac : Int32) (en : Nat → Nat) : gst g ≤ gst (sItem op ar E sz rec q c i g ac en).2.2.2.1 := by
  unfold sItem
  by_cases h0 : op i = 0
  · rw [if_pos h0]; exact Nat.le_refl _
  rw [if_neg h0]
  by_cases h1 : op i = 1
  · rw [if_pos h1]; exact Nat.le_refl _
  rw [if_neg h1]
  by_cases h2 : op i = 2
  · rw [if_pos h2]
    by_cases hx : ar i = 0
    · rw [if_pos hx]; exact Nat.le_refl _
    · rw [if_neg hx]; exact Nat.le_refl _
  rw [if_neg h2]
  by_cases h3 : op i = 3
  · rw [if_pos h3]; exact sTimes_ms (h q c (i + 1)) _ (g, ac, en)
  rw [if_neg h3]
  by_cases h4 : op i = 4
  · rw [if_pos h4]; exact Nat.le_refl _
  rw [if_neg h4]
  by_cases h5 : op i = 5
  · rw [if_pos h5]; exact Nat.le_refl _
  rw [if_neg h5]
  by_cases h6 : op i = 6
  · rw [if_pos h6]; exact Nat.le_refl _
  rw [if_neg h6]
  by_cases h7 : op i = 7
  · rw [if_pos h7]; exact Nat.le_refl _
  rw [if_neg h7]
  by_cases h8 : op i = 8
  · rw [if_pos h8]; exact Nat.le_refl _
  rw [if_neg h8]
  by_cases h9 : op i = 9
  · rw [if_pos h9]; exact sTry_ms (h q) c i (g, ac, en)
  rw [if_neg h9]
  by_cases h10 : op i = 10
  · rw [if_pos h10]
    have hr := h q c (i + 1) (gHold g (ar i).toNatClampNeg, ac, en)
    by_cases hx : (rec q c (i + 1) (gHold g (ar i).toNatClampNeg, ac, en)).1 = 5
    · rw [if_pos hx]; exact hr
    · rw [if_neg hx]; exact hr
  rw [if_neg h10]
  by_cases h11 : op i = 11
  · rw [if_pos h11]; exact Nat.le_refl _
  rw [if_neg h11]
  by_cases h12 : op i = 12
  · rw [if_pos h12]
    by_cases hx : en (ar i).toNatClampNeg = 0
    · rw [if_pos hx]; exact Nat.le_refl _
    · rw [if_neg hx]; exact Nat.le_refl _
  rw [if_neg h12]
  by_cases h13 : op i = 13
  · rw [if_pos h13]
    by_cases hx : q = 5
    · rw [if_pos hx]; exact Nat.le_refl _
    · rw [if_neg hx]
      by_cases hy : sz (ar i).toNatClampNeg = 0
      · rw [if_pos hy]; exact Nat.le_refl _
      · rw [if_neg hy, sCall_mn]
        exact Nat.le_trans (h (q + 1) 0 (32 * (ar i).toNatClampNeg) (g, ac, fun _ => 0)) (sFin_ms _)
  rw [if_neg h13]
  by_cases h14 : op i = 14
  · rw [if_pos h14]
    by_cases hx : ar i < ac
    · rw [if_pos hx]; exact h q c (i + 1) (g, ac, en)
    · rw [if_neg hx]; exact Nat.le_refl _
  rw [if_neg h14]
  exact Nat.le_refl _
theorem sB_ms {op ar : Nat → Int32} {E sz : Nat → Nat} : ∀ (F q c i : Nat) (s : SG), gst s.1 ≤ gst (sB op ar E sz F q c i s).2.2.2.1 := by
  intro F
  induction F with
  | zero => intro q c i s; exact Nat.le_refl _
  | succ F ih =>
    intro q c i s
    have hI : gst s.1 ≤ gst (sI op ar E sz (sB op ar E sz F) q c i s).2.2.2.1 := by
      unfold sI
      by_cases hst : 300 ≤ gst s.1
      · rw [if_pos hst]; exact Nat.le_refl _
      · rw [if_neg hst]; exact Nat.le_trans (Nat.le_succ _) (sItem_ms ih q c i (gStep s.1) s.2.1 s.2.2)
    show gst s.1 ≤ gst (if op i = 18 then rOn s else if (sI op ar E sz (sB op ar E sz F) q c i s).1 = 0 then sB op ar E sz F q c (nxI op ar E i) (sI op ar E sz (sB op ar E sz F) q c i s).2.2.2 else sI op ar E sz (sB op ar E sz F) q c i s).2.2.2.1
    by_cases h18 : op i = 18
    · rw [if_pos h18]; exact Nat.le_refl _
    · rw [if_neg h18]
      by_cases hz : (sI op ar E sz (sB op ar E sz F) q c i s).1 = 0
      · rw [if_pos hz]; exact Nat.le_trans hI (ih _ _ _ _)
      · rw [if_neg hz]; exact hI
