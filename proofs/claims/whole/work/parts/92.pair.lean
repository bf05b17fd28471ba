/-! RUN on both sides -/
theorem fw_0 {S : SS} {p : Nat} : (fwC S p 0).1 = some 0 := rfl
theorem sP0_e {op ar : Nat → Int32} {E sz : Nat → Nat} {F q p : Nat} {s : SG} (h : 0 < sz p) : sP0 op ar E sz F q p s = sB op ar E sz F q 0 (32 * p) s := by
  unfold sP0
  rw [if_neg (by omega)]
/-- what the reference's run asks of the texts -/
def GoM (S : SS) (nn : Nat → Nat) (op ar : Nat → Int32) (E : Nat → Nat) : Prop := ∀ p, p < 4 → (∀ j, j < 4 → jd nn p j → fwM S j (nn j) < 0) → 0 < nn p ∧ TM S op ar nn ∧ (∀ p, p < 4 → ∀ i, i < nn p → VTok op ar (32 * p + i)) ∧ ∀ p, p < 4 → 0 < nn p → ∃ Fb, blk op ar E Fb 5 false false (32 * p) (32 * p + nn p - 1)
theorem goM_of {S X : SS} {nn : Nat → Nat} {m : Nat} (h : LInv S nn m) (hk : ∀ a b, a = 45 ∨ a = 46 ∨ a = 47 → X a b = S a b) : GoM X nn (opG S) (arG S) (EG S nn) := by
  intro p hp hg
  have hgd : ∀ j, j < 4 → jd nn p j → (fwC S j (nn j)).1 = none := fun j hj hjd => by
    have h1 := hg j hj hjd
    rw [fw_mv (S := S) (fun a b hab => hk a b (by omega)), fw_eq h.2.1 hj, fw_none (h.1.1 j hj).1] at h1
    exact h1
  have hA : AllG S nn := fun j hj h0 => hgd j hj (Or.inr h0)
  refine ⟨?_, fun q hq => ?_, fun q hq i hi => (gtx_of h.1 hA q hq i hi).1, blk_all h.1 hA⟩
  · have h1 := hgd p hp (Or.inl rfl)
    rcases Nat.eq_zero_or_pos (nn p) with h0 | h0
    · rw [h0, fw_0] at h1
      cases h1
    · exact h0
  · obtain ⟨a1, a2, a3⟩ := h.1.1 q hq
    obtain ⟨b1, b2⟩ := h.2.1 q hq
    refine ⟨a1, (hk _ _ (by omega)).trans b1, fun i i1 i2 => ?_⟩
    obtain ⟨c1, c2⟩ := b2 (i - 32 * q) (by omega)
    rw [show 32 * q + (i - 32 * q) = i by omega] at c1 c2
    have d1 := opG_at S (p := q) (i := i - 32 * q) (by omega)
    have d2 := arG_at S (p := q) (i := i - 32 * q) (by omega)
    rw [show 32 * q + (i - 32 * q) = i by omega] at d1 d2
    rw [hk 45 i (by omega), hk 46 i (by omega), c1, c2, d1, d2]
    exact ⟨rfl, rfl⟩
theorem LInv.up {S : SS} {nn : Nat → Nat} {m : Nat} (h : LInv S nn m) : LInv S nn (m + 1) := by
  obtain ⟨h1, h2, h3, h4, g, f, h5, h6, h7, h8⟩ := h
  exact ⟨h1, h2, h3, h4, g, f, h5, h6, by omega, h8⟩
theorem rn_k {S S1 : SS} {nn : Nat → Nat} {op ar : Nat → Int32} {E sz : Nat → Nat} {F nv : Nat} {ev : Nat → Int32} {p_ x r : Int32} (ht : rnPost S nn op ar E sz F nv ev p_ x r S1) : ∀ a b, 44 ≤ a → S1 a b = S a b := by
  intro a b hab
  rcases ht with ⟨-, -, rfl⟩ | ⟨p, X, hp, -, ⟨hJ, -, rfl⟩ | ⟨hJ, hF⟩⟩
  · rfl
  · exact hJ.1.1 a b (by omega)
  · rw [hF.2.1 a b (by omega)]
    exact hJ.1.1 a b (by omega)
theorem pr_run {S S1 : SS} {nn : Nat → Nat} {m : Nat} {g : GS} {p_ x r : Int32} (h : LInv S nn m) (hv : gnv g ≤ 300 * m) (ht : rnPost S nn (opG S) (arG S) (EG S nn) nn 1200 (gnv g) (gev g) p_ x r S1) : ∀ r2 S2, rmPost S1 nn (opG S) (arG S) (EG S nn) 1200 (gnv g) (gev g) p_ x r2 S2 → r = r2 ∧ ∃ n2, LInv S2 n2 (m + 1) := by
  have hk44 := rn_k ht
  have hfw : ∀ j, j < 4 → (fwM S1 j (nn j) < 0 ↔ (fwC S j (nn j)).1 = none) := fun j hj => by
    rw [fw_mv (S := S) (fun a b hab => hk44 a b (by omega)), fw_eq h.2.1 hj]
    exact fw_none (h.1.1 j hj).1
  intro r2 S2 h2
  rcases ht with ⟨hb, rfl, rfl⟩ | ⟨p, X, hp, rfl, ht⟩
  · rcases h2 with ⟨-, rfl, rfl⟩ | ⟨p, hp, rfl, -⟩
    · exact ⟨rfl, nn, h.up⟩
    · rw [show (4 : Int32) = nI 4 from rfl, isB_of (by decide) hp] at hb
      exact absurd hb (by decide)
  · rcases h2 with ⟨hx, -⟩ | ⟨q, hq, he, h2⟩
    · rw [← p_in, show (4 : Int32) = nI 4 from rfl, isB_of (by decide) hp] at hx
      exact absurd hx (by decide)
    obtain rfl := p_eq hp hq he
    rcases ht with ⟨hJ, rfl, rfl⟩ | ⟨hJ, hF⟩
    · obtain ⟨hK, hJ⟩ := hJ
      rcases hJ with ⟨a, w, a1, a2, a3, a4, -, a6⟩ | ⟨-, hx, -⟩
      · rcases h2 with ⟨b, b1, b2, b3, b4, rfl, b6, b7⟩ | ⟨hall, -⟩
        · have hab : a = b := by
            rcases Nat.lt_trichotomy a b with hlt | hlt | hlt
            · have h1 := (hfw a a1).mp (b4 a hlt a2)
              rw [a3] at h1
              cases h1
            · exact hlt
            · exfalso
              refine a4 b hlt ⟨b2, ?_⟩
              cases hw : (fwC S b (nn b)).1 with
              | none => exact absurd ((hfw b b1).mpr hw) b3
              | some w2 => exact ⟨w2, rfl⟩
          subst hab
          refine ⟨rfl, nn, (h.keep (fun c d hcd => ?_) ?_ ?_ ?_).up⟩
          · unfold IC at hcd
            rw [b7 c d (by omega), hK.1 c d (by omega)]
          · rw [b7 41 0 (by omega)]
            exact hK.2.1
          · rw [b7 42 0 (by omega)]
            exact hK.2.2
          · rw [b7 0 2 (by omega), a6, b6, fw_mv (S := S) (fun c d hcd => hk44 c d (by omega)), fw_eq h.2.1 a1, a3]
            rfl
        · have h1 := (hfw a a1).mp (hall a a1 a2)
          rw [a3] at h1
          cases h1
      · exact absurd hx (by decide)
    · have hA := hJ.2
      have hall : (∀ j, j < 4 → ¬ jw S nn p j) ∧ X 0 2 = -1 := by
        rcases hA with ⟨a, w, -, -, -, -, hx, -⟩ | ⟨a1, -, a3, -⟩
        · exact absurd hx (by decide)
        · exact ⟨a1, a3⟩
      have hgd : ∀ j, j < 4 → jd nn p j → (fwC S j (nn j)).1 = none := fun j hj hjd => by
        cases hw : (fwC S j (nn j)).1 with
        | none => rfl
        | some w => exact absurd ⟨hjd, w, hw⟩ (hall.1 j hj)
      have hn0 : 0 < nn p := by
        have h1 := hgd p hp (Or.inl rfl)
        rcases Nat.eq_zero_or_pos (nn p) with h0 | h0
        · rw [h0, fw_0] at h1
          cases h1
        · exact h0
      rcases h2 with ⟨b, b1, b2, b3, -⟩ | ⟨-, hM⟩
      · exact absurd ((hfw b b1).mpr (hgd b b1 b2)) b3
      · rw [sP0_e hn0] at hF
        have hlv : LeV (gInit (gnv g) (gev g)) (sFin (sB (opG S) (arG S) (EG S nn) nn 1200 0 0 (32 * p) (gInit (gnv g) (gev g), x, fun _ => 0))).2.2.2 := (sB_mv 1200 0 0 (32 * p) (gInit (gnv g) (gev g), x, fun _ => 0)).tr (sFin_mv _)
        generalize sFin (sB (opG S) (arG S) (EG S nn) nn 1200 0 0 (32 * p) (gInit (gnv g) (gev g), x, fun _ => 0)) = u at hF hM hlv
        obtain ⟨f1, f2, f3⟩ := hF
        obtain ⟨m1, m2, m3, m4⟩ := hM
        have hlv2 : gnv u.2.2.2 + 0 ≤ gnv g + gst u.2.2.2 := hlv
        have hst := f1.2.1
        have hkS : ∀ a b, (11 ≤ a ∧ a < 27 ∧ ¬ a = 14 ∧ ¬ a = 18 ∧ ¬ a = 22 ∧ ¬ a = 26) ∨ a = 45 ∨ a = 46 ∨ a = 47 → S2 a b = S a b := fun a b hab => by
          rw [m2 a b (by omega), f2 a b (by omega), hJ.1.1 a b (by omega)]
        have hTK : TKc S2 nn := by
          refine ⟨fun j hj => ?_, ?_, ?_⟩
          · obtain ⟨c1, c2, c3⟩ := h.1.1 j hj
            refine ⟨c1, (hkS _ _ (by omega)).trans c2, fun i hi => ?_⟩
            rw [hkS (12 + 4 * j) i (by omega), hkS (13 + 4 * j) i (by omega)]
            exact c3 i hi
          · rw [m2 41 0 (by omega), f2 41 0 (by omega)]
            exact hJ.1.2.1
          · rw [m2 42 0 (by omega), f2 42 0 (by omega)]
            exact hJ.1.2.2
        have hTx : TxE S2 nn := fun j hj => by
          obtain ⟨c1, c2⟩ := h.2.1 j hj
          refine ⟨(hkS _ _ (by omega)).trans c1, fun i hi => ?_⟩
          rw [hkS (12 + 4 * j) i (by omega), hkS (13 + 4 * j) i (by omega), hkS 45 _ (by omega), hkS 46 _ (by omega)]
          exact c2 i hi
        have hpl : S2 0 2 = S2 44 3 := by
          rw [m2 0 2 (by omega), f2 0 2 (by omega), m3]
          exact hall.2
        have hRL : RL S2 u.2.2.2 := f1.mv (fun a b hab => m2 a b (by omega))
        have hv16 : X 1 6 = S 1 6 := hJ.1.1 1 6 (by omega)
        have hv21 : S1 44 21 = S 44 21 := hk44 44 21 (by omega)
        have e16 : S2 1 6 = S1 1 6 := m2 1 6 (by omega)
        have e17 : S2 1 7 = S1 1 7 := m2 1 7 (by omega)
        rcases f3 with ⟨u5, rfl, f17, f16⟩ | ⟨u5, rfl, f17, f0, fl, f16⟩ | ⟨u5, rfl, f16, f17⟩
        · rcases m4 with ⟨v5, rfl, m22, m21⟩ | ⟨v5, -⟩ | ⟨v5, -⟩
          · refine ⟨rfl, nn, hTK, hTx, hpl, ?_, u.2.2.2, 0, hRL, m1, by omega, Nat.zero_le _, e17.trans f17, m22⟩
            rw [e16, f16, hv16, m21, hv21]
            exact h.2.2.2.1
          · exact absurd (u5.symm.trans v5) (by decide)
          · exact absurd (u5.symm.trans v5) (by decide)
        · rcases m4 with ⟨v5, -⟩ | ⟨v5, rfl, m22, m0, ml, m21⟩ | ⟨v5, -⟩
          · exact absurd (u5.symm.trans v5) (by decide)
          · refine ⟨rfl, nn, hTK, hTx, hpl, ?_, u.2.2.2, u.2.2.1, hRL, m1, by omega, fl, e17.trans f17, m22⟩
            rw [e16, f16, hv16, m21, hv21]
            exact h.2.2.2.1
          · exact absurd (u5.symm.trans v5) (by decide)
        · rcases m4 with ⟨v5, -⟩ | ⟨v5, -⟩ | ⟨v5, rfl, m21, m22⟩
          · exact absurd (u5.symm.trans v5) (by decide)
          · exact absurd (u5.symm.trans v5) (by decide)
          · refine ⟨rfl, nn, hTK, hTx, hpl, ?_, u.2.2.2, 0, hRL, m1, by omega, Nat.zero_le _, e17.trans f17, m22⟩
            rw [e16, f16, m21]
