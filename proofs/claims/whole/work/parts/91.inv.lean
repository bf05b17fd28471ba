/-! each event is paid with a step -/
def LeV (a b : GS) : Prop := gnv b + gst a ≤ gnv a + gst b
theorem LeV.rf (g : GS) : LeV g g := Nat.le_refl _
theorem LeV.tr {a b c : GS} (h1 : LeV a b) (h2 : LeV b c) : LeV a c := by
  unfold LeV at *
  omega
theorem sTimes_mv {rec : SG → RR} (h : ∀ s, LeV s.1 (rec s).2.2.2.1) : ∀ (k : Nat) (s : SG), LeV s.1 (sTimes rec k s).2.2.2.1 := by
  intro k
  induction k with
  | zero => intro s; exact LeV.rf _
  | succ k ih =>
    intro s
    show LeV s.1 (if (rec s).1 = 1 then rOn (rec s).2.2.2 else if (rec s).1 = 0 ∨ (rec s).1 = 2 then sTimes rec k (rec s).2.2.2 else rec s).2.2.2.1
    by_cases h1 : (rec s).1 = 1
    · rw [if_pos h1]; exact h s
    · rw [if_neg h1]
      by_cases h2 : (rec s).1 = 0 ∨ (rec s).1 = 2
      · rw [if_pos h2]; exact (h s).tr (ih _)
      · rw [if_neg h2]; exact h s
theorem sFin_mv (r : RR) : LeV r.2.2.2.1 (sFin r).2.2.2 := by
  unfold sFin
  by_cases h5 : r.1 = 5
  · rw [if_pos h5]; exact LeV.rf _
  · rw [if_neg h5]
    by_cases ho : enOwe r.2.2.2.2.2 = true
    · rw [if_pos ho]; exact LeV.rf _
    · rw [if_neg ho]
      by_cases h4 : r.1 = 4
      · rw [if_pos h4]; exact LeV.rf _
      · rw [if_neg h4]; exact LeV.rf _
theorem sTry_mv {ar : Nat → Int32} {E : Nat → Nat} {rec : Nat → Nat → SG → RR} (h : ∀ c i s, LeV s.1 (rec c i s).2.2.2.1) (c i : Nat) (s : SG) : LeV s.1 (sTry ar E rec c i s).2.2.2.1 := by
  have h1 : LeV s.1 (sCat ar E rec i (rec c (i + 1) s)).2.2.2.1 := by
    unfold sCat
    by_cases h4 : (rec c (i + 1) s).1 = 4
    · rw [if_pos h4]
      by_cases h5 : fndA (fun j => isK (gfk (rec c (i + 1) s).2.2.2.1 (rec c (i + 1) s).2.2.1) (ar (PT E i j))) (tNc ar i) < tNc ar i
      · rw [if_pos h5]; exact (h _ _ _).tr (h _ _ _)
      · rw [if_neg h5]; exact h _ _ _
    · rw [if_neg h4]; exact h _ _ _
  unfold sTry
  by_cases h2 : (sCat ar E rec i (rec c (i + 1) s)).1 = 5 ∨ tLa ar i = false
  · rw [if_pos h2]; exact h1
  · rw [if_neg h2]
    unfold sLst
    by_cases h3 : (rec c (PT E i (tNc ar i) + 1) (sCat ar E rec i (rec c (i + 1) s)).2.2.2).1 = 0
    · rw [if_pos h3]; exact h1.tr (h _ _ _)
    · rw [if_neg h3]; exact h1.tr (h _ _ _)
theorem sItem_mv {op ar : Nat → Int32} {E sz : Nat → Nat} {rec : Nat → Nat → Nat → SG → RR} (h : ∀ q c i s, LeV s.1 (rec q c i s).2.2.2.1) (q c i : Nat) (g : GS) (ac : Int32) (en : Nat → Nat) : LeV g (sItem op ar E sz rec q c i (gStep g) ac en).2.2.2.1 := by
  have hs : LeV g (gStep g) := show gnv g + gst g ≤ gnv g + (gst g + 1) by omega
  unfold sItem
  by_cases h0 : op i = 0
  · rw [if_pos h0]
    show gnv g + 1 + gst g ≤ gnv g + (gst g + 1)
    omega
  rw [if_neg h0]
  by_cases h1 : op i = 1
  · rw [if_pos h1]; exact hs
  rw [if_neg h1]
  by_cases h2 : op i = 2
  · rw [if_pos h2]
    by_cases hx : ar i = 0
    · rw [if_pos hx]; exact hs
    · rw [if_neg hx]; exact hs
  rw [if_neg h2]
  by_cases h3 : op i = 3
  · rw [if_pos h3]; exact hs.tr (sTimes_mv (h q c (i + 1)) _ (gStep g, ac, en))
  rw [if_neg h3]
  by_cases h4 : op i = 4
  · rw [if_pos h4]; exact hs
  rw [if_neg h4]
  by_cases h5 : op i = 5
  · rw [if_pos h5]; exact hs
  rw [if_neg h5]
  by_cases h6 : op i = 6
  · rw [if_pos h6]; exact hs
  rw [if_neg h6]
  by_cases h7 : op i = 7
  · rw [if_pos h7]; exact hs
  rw [if_neg h7]
  by_cases h8 : op i = 8
  · rw [if_pos h8]; exact hs
  rw [if_neg h8]
  by_cases h9 : op i = 9
  · rw [if_pos h9]; exact hs.tr (sTry_mv (h q) c i (gStep g, ac, en))
  rw [if_neg h9]
  by_cases h10 : op i = 10
  · rw [if_pos h10]
    have hr : LeV (gStep g) _ := h q c (i + 1) (gHold (gStep g) (ar i).toNatClampNeg, ac, en)
    by_cases hx : (rec q c (i + 1) (gHold (gStep g) (ar i).toNatClampNeg, ac, en)).1 = 5
    · rw [if_pos hx]; exact hs.tr hr
    · rw [if_neg hx]; exact hs.tr hr
  rw [if_neg h10]
  by_cases h11 : op i = 11
  · rw [if_pos h11]; exact hs
  rw [if_neg h11]
  by_cases h12 : op i = 12
  · rw [if_pos h12]
    by_cases hx : en (ar i).toNatClampNeg = 0
    · rw [if_pos hx]; exact hs
    · rw [if_neg hx]; exact hs
  rw [if_neg h12]
  by_cases h13 : op i = 13
  · rw [if_pos h13]
    by_cases hx : q = 5
    · rw [if_pos hx]; exact hs
    · rw [if_neg hx]
      by_cases hy : sz (ar i).toNatClampNeg = 0
      · rw [if_pos hy]; exact hs
      · rw [if_neg hy, sCall_mn]
        exact hs.tr ((h (q + 1) 0 (32 * (ar i).toNatClampNeg) (gStep g, ac, fun _ => 0)).tr (sFin_mv _))
  rw [if_neg h13]
  by_cases h14 : op i = 14
  · rw [if_pos h14]
    by_cases hx : ar i < ac
    · rw [if_pos hx]; exact hs.tr (h q c (i + 1) (gStep g, ac, en))
    · rw [if_neg hx]; exact hs
  rw [if_neg h14]
  exact hs
theorem sB_mv {op ar : Nat → Int32} {E sz : Nat → Nat} : ∀ (F q c i : Nat) (s : SG), LeV s.1 (sB op ar E sz F q c i s).2.2.2.1 := by
  intro F
  induction F with
  | zero => intro q c i s; exact LeV.rf _
  | succ F ih =>
    intro q c i s
    have hI : LeV s.1 (sI op ar E sz (sB op ar E sz F) q c i s).2.2.2.1 := by
      unfold sI
      by_cases hst : 300 ≤ gst s.1
      · rw [if_pos hst]; exact LeV.rf _
      · rw [if_neg hst]; exact sItem_mv ih q c i s.1 s.2.1 s.2.2
    show LeV s.1 (if op i = 18 then rOn s else if (sI op ar E sz (sB op ar E sz F) q c i s).1 = 0 then sB op ar E sz F q c (nxI op ar E i) (sI op ar E sz (sB op ar E sz F) q c i s).2.2.2 else sI op ar E sz (sB op ar E sz F) q c i s).2.2.2.1
    by_cases h18 : op i = 18
    · rw [if_pos h18]; exact LeV.rf _
    · rw [if_neg h18]
      by_cases hz : (sI op ar E sz (sB op ar E sz F) q c i s).1 = 0
      · rw [if_pos hz]; exact hI.tr (ih _ _ _ _)
      · rw [if_neg hz]; exact hI
/-! WHAT HOLDS BETWEEN THE CALLS -/
def LInv (S : SS) (nn : Nat → Nat) (m : Nat) : Prop := TKc S nn ∧ TxE S nn ∧ S 0 2 = S 44 3 ∧ S 1 6 = S 44 21 ∧ ∃ (g : GS) (f : Nat), RL S g ∧ ML S g ∧ gnv g ≤ 300 * m ∧ f ≤ gnf g ∧ S 1 7 = nI f - 1 ∧ S 44 22 = nI f
/-- what the reference's check of one text leaves alone -/
def KpR (X S : SS) : Prop := ∀ a b, ¬ (a = 48 ∨ a = 50 ∨ (a = 44 ∧ (b = 8 ∨ b = 3))) → X a b = S a b
def ckM (S : SS) (p n : Nat) (r : Int32) (S1 : SS) : Prop := KpR S1 S ∧ ((fwM S p n < 0 ∧ r = 0 ∧ S1 44 3 = -1) ∨ (¬ fwM S p n < 0 ∧ r = -3 ∧ S1 44 3 = 32 * nI p + fwM S p n))
/-- what the reference's run leaves, when all texts are good -/
def PrM (S S1 : SS) (r : Int32) (u : Nat × Int32 × Nat × GS) : Prop := ML S1 u.2.2.2 ∧ (∀ a b, a < 44 ∨ a = 45 ∨ a = 46 ∨ a = 47 → S1 a b = S a b) ∧ S1 44 3 = -1 ∧ ((u.1 = 5 ∧ r = 2 ∧ S1 44 22 = 0 ∧ S1 44 21 = S 44 21) ∨ (u.1 = 4 ∧ r = 1 ∧ S1 44 22 = nI u.2.2.1 ∧ 0 < u.2.2.1 ∧ u.2.2.1 ≤ gnf u.2.2.2 ∧ S1 44 21 = S 44 21) ∨ (u.1 = 3 ∧ r = 0 ∧ S1 44 21 = u.2.1 ∧ S1 44 22 = 0))
def rmPost (S : SS) (nn : Nat → Nat) (op ar : Nat → Int32) (E : Nat → Nat) (F nv : Nat) (ev : Nat → Int32) (p_ x r : Int32) (S1 : SS) : Prop := (inB p_ 0 3 = false ∧ r = -1 ∧ S1 = S) ∨ ∃ p, p < 4 ∧ p_ = nI p ∧ ((∃ q, q < 4 ∧ jd nn p q ∧ ¬ fwM S q (nn q) < 0 ∧ (∀ j, j < q → jd nn p j → fwM S j (nn j) < 0) ∧ r = -3 ∧ S1 44 3 = 32 * nI q + fwM S q (nn q) ∧ KpR S1 S) ∨ ((∀ j, j < 4 → jd nn p j → fwM S j (nn j) < 0) ∧ PrM S S1 r (sFin (sB op ar E nn F 0 0 (32 * p) (gInit nv ev, x, fun _ => 0)))))
/-- the cells of which the invariant speaks, places and ends aside -/
def IC (a b : Nat) : Prop := (a = 1 ∧ (b = 5 ∨ b = 6 ∨ b = 7)) ∨ (a = 4 ∧ b = 2) ∨ a = 5 ∨ a = 6 ∨ (a = 7 ∧ b = 2) ∨ (a = 9 ∧ b = 1) ∨ a = 10 ∨ (11 ≤ a ∧ a ≤ 26 ∧ ¬ a = 14 ∧ ¬ a = 18 ∧ ¬ a = 22 ∧ ¬ a = 26) ∨ (a = 44 ∧ (b = 18 ∨ b = 19 ∨ b = 20 ∨ b = 21 ∨ b = 22 ∨ b = 24)) ∨ a = 45 ∨ a = 46 ∨ a = 47 ∨ a = 54 ∨ a = 55 ∨ a = 56
theorem RL.ic {S X : SS} {g : GS} (h : RL S g) (hk : ∀ a b, IC a b → X a b = S a b) : RL X g := h.mv (fun a b hab => hk a b (by unfold IC; rcases hab with ⟨rfl, rfl⟩ | ⟨rfl, rfl⟩ | rfl | ⟨rfl, rfl⟩ | ⟨rfl, rfl⟩ | rfl | rfl <;> omega))
theorem ML.ic {S X : SS} {g : GS} (h : ML S g) (hk : ∀ a b, IC a b → X a b = S a b) : ML X g := h.mv (fun a b hab => hk a b (by unfold IC; rcases hab with ⟨rfl, rfl | rfl | rfl | rfl⟩ | rfl | rfl | rfl <;> omega))
theorem LInv.keep {S X : SS} {nn : Nat → Nat} {m : Nat} (h : LInv S nn m) (hk : ∀ a b, IC a b → X a b = S a b) (h41 : X 41 0 = 0) (h42 : X 42 0 = 0) (h0 : X 0 2 = X 44 3) : LInv X nn m := by
  obtain ⟨h1, h2, h3, h4, g, f, h5, h6, h7, h8, h9, h10⟩ := h
  refine ⟨⟨fun p hp => ?_, h41, h42⟩, fun p hp => ?_, h0, ?_, g, f, h5.ic hk, h6.ic hk, h7, h8, (hk _ _ (by unfold IC; omega)).trans h9, (hk _ _ (by unfold IC; omega)).trans h10⟩
  · obtain ⟨a1, a2, a3⟩ := h1.1 p hp
    refine ⟨a1, (hk _ _ (by unfold IC; omega)).trans a2, fun j hj => ?_⟩
    rw [hk (12 + 4 * p) j (by unfold IC; omega), hk (13 + 4 * p) j (by unfold IC; omega)]
    exact a3 j hj
  · obtain ⟨a1, a2⟩ := h2 p hp
    refine ⟨(hk _ _ (by unfold IC; omega)).trans a1, fun j hj => ?_⟩
    rw [hk (12 + 4 * p) j (by unfold IC; omega), hk (13 + 4 * p) j (by unfold IC; omega), hk 45 _ (by unfold IC; omega), hk 46 _ (by unfold IC; omega)]
    exact a2 j hj
  · rw [hk 1 6 (by unfold IC; omega), hk 44 21 (by unfold IC; omega)]
    exact h4
/-- one text changed on both sides -/
theorem LInv.txt {S X : SS} {nn : Nat → Nat} {m p n : Nat} (h : LInv S nn m) (hp : p < 4) (hn : n ≤ 32) (hk : ∀ a b, ¬ (a = 11 + 4 * p ∨ a = 12 + 4 * p ∨ a = 13 + 4 * p ∨ (a = 45 ∧ 32 * p ≤ b ∧ b < 32 * p + 32) ∨ (a = 46 ∧ 32 * p ≤ b ∧ b < 32 * p + 32) ∨ (a = 47 ∧ b = p)) → X a b = S a b)
    (h1 : X (11 + 4 * p) 3 = nI n) (h2 : X 47 p = nI n) (h3 : ∀ j, j < n → isTokC (X (12 + 4 * p) j) (X (13 + 4 * p) j) = true ∧ X 45 (32 * p + j) = X (12 + 4 * p) j ∧ X 46 (32 * p + j) = X (13 + 4 * p) j) : LInv X (va_up nn p n) m := by
  obtain ⟨i1, i2, i3, i4, g, f, i5, i6, i7, i8, i9, i10⟩ := h
  refine ⟨⟨fun q hq => ?_, (hk _ _ (by omega)).trans i1.2.1, (hk _ _ (by omega)).trans i1.2.2⟩, fun q hq => ?_, ?_, ?_, g, f, i5.mv (fun a b hab => hk a b (by omega)), i6.mv (fun a b hab => hk a b (by omega)), i7, i8, (hk _ _ (by omega)).trans i9, (hk _ _ (by omega)).trans i10⟩
  · by_cases e : q = p
    · subst e
      rw [va_up_self]
      exact ⟨hn, h1, fun j hj => (h3 j hj).1⟩
    · rw [va_up_ne _ _ e]
      obtain ⟨a1, a2, a3⟩ := i1.1 q hq
      refine ⟨a1, (hk _ _ (by omega)).trans a2, fun j hj => ?_⟩
      rw [hk (12 + 4 * q) j (by omega), hk (13 + 4 * q) j (by omega)]
      exact a3 j hj
  · by_cases e : q = p
    · subst e
      rw [va_up_self]
      exact ⟨h2, fun j hj => (h3 j hj).2⟩
    · rw [va_up_ne _ _ e]
      obtain ⟨a1, a2⟩ := i2 q hq
      obtain ⟨b1, -, -⟩ := i1.1 q hq
      refine ⟨(hk _ _ (by omega)).trans a1, fun j hj => ?_⟩
      rw [hk (12 + 4 * q) j (by omega), hk (13 + 4 * q) j (by omega), hk 45 _ (by omega), hk 46 _ (by omega)]
      exact a2 j hj
  · rw [hk 0 2 (by omega), hk 44 3 (by omega)]
    exact i3
  · rw [hk 1 6 (by omega), hk 44 21 (by omega)]
    exact i4
theorem p_eq {p q : Nat} (hp : p < 4) (hq : q < 4) (h : nI p = nI q) : p = q := (nI_eq (by omega) (by omega)).mp h
/-! the calls, one by one -/
theorem pr_token {S S1 : SS} {nn : Nat → Nat} {m : Nat} {p_ o a r : Int32} (h : LInv S nn m) (ht : tokPost S nn p_ o a r S1) : (∀ p, p < 4 → nn p ≤ 32 ∧ S1 47 p = nI (nn p)) ∧ ∀ r2 S2, moTokPost S1 nn p_ o a r2 S2 → r = r2 ∧ ∃ n2, LInv S2 n2 m := by
  have h47 : ∀ p, p < 4 → nn p ≤ 32 ∧ S 47 p = nI (nn p) := fun p hp => ⟨(h.1.1 p hp).1, (h.2.1 p hp).1⟩
  rcases ht with ⟨hb, rfl, rfl⟩ | ⟨p, hp, rfl, hto, ht⟩
  · refine ⟨h47, fun r2 S2 h2 => ?_⟩
    rcases h2 with ⟨-, rfl, rfl⟩ | ⟨p, hp, rfl, hto, -⟩
    · exact ⟨rfl, nn, h⟩
    · rcases hb with hb | hb
      · rw [show (4 : Int32) = nI 4 from rfl, isB_of (by decide) hp] at hb
        exact absurd hb (by decide)
      · rw [tok_fit, hto] at hb
        exact absurd hb (by decide)
  · have hbad : ¬ (inB (nI p) 0 3 = false ∨ fitM o a = false) := fun hx => by
      rcases hx with hx | hx
      · rw [← p_in, show (4 : Int32) = nI 4 from rfl, isB_of (by decide) hp] at hx
        exact absurd hx (by decide)
      · rw [← tok_fit, hto] at hx
        exact absurd hx (by decide)
    rcases ht with ⟨hf, rfl, rfl⟩ | ⟨hf, rfl, rfl⟩
    · refine ⟨h47, fun r2 S2 h2 => ?_⟩
      rcases h2 with ⟨hx, -⟩ | ⟨q, hq, he, -, h2⟩
      · exact absurd hx hbad
      · obtain rfl := p_eq hp hq he
        rcases h2 with ⟨-, rfl, rfl⟩ | ⟨hx, -⟩
        · exact ⟨rfl, nn, h⟩
        · have := (h47 p hp).1
          exact absurd (show nn p = 32 by omega) hx
    · have hk : ∀ a2 b, ¬ (a2 = 11 + 4 * p ∨ a2 = 12 + 4 * p ∨ a2 = 13 + 4 * p) → tApp S p (nn p) o a a2 b = S a2 b := fun a2 b hab => by
        unfold tApp
        rw [su_k _ _ (by omega), su_k _ _ (by omega), su_k _ _ (by omega)]
      refine ⟨fun q hq => ⟨(h47 q hq).1, (hk _ _ (by omega)).trans (h47 q hq).2⟩, fun r2 S2 h2 => ?_⟩
      rcases h2 with ⟨hx, -⟩ | ⟨q, hq, he, -, h2⟩
      · exact absurd hx hbad
      · obtain rfl := p_eq hp hq he
        rcases h2 with ⟨hx, -⟩ | ⟨-, rfl, rfl⟩
        · omega
        · refine ⟨rfl, va_up nn p (nn p + 1), h.txt hp (by omega) (fun a2 b hab => ?_) ?_ ?_ (fun j hj => ?_)⟩
          · unfold moTok
            rw [su_k _ _ (by omega), su_k _ _ (by omega), su_k _ _ (by omega), hk a2 b (by omega)]
          · unfold moTok tApp
            rw [su_k _ _ (by omega), su_k _ _ (by omega), su_k _ _ (by omega), su_same]
          · unfold moTok
            rw [su_same]
          · by_cases e : j = nn p
            · subst e
              unfold moTok tApp
              rw [su_k _ _ (by omega), su_k _ _ (by omega), su_k _ _ (by omega), su_k _ _ (by omega), su_k _ _ (by omega), su_same, su_k _ _ (by omega), su_k _ _ (by omega), su_k _ _ (by omega), su_k _ _ (by omega), su_same, su_k _ _ (by omega), su_k _ _ (by omega), su_same, su_k _ _ (by omega), su_same]
              exact ⟨hto, rfl, rfl⟩
            · have x1 : moTok (tApp S p (nn p) o a) p (nn p) o a (12 + 4 * p) j = S (12 + 4 * p) j := by
                unfold moTok tApp
                rw [su_k _ _ (by omega), su_k _ _ (by omega), su_k _ _ (by omega), su_k _ _ (by omega), su_k _ _ (by omega), su_k _ _ (by omega)]
              have x2 : moTok (tApp S p (nn p) o a) p (nn p) o a (13 + 4 * p) j = S (13 + 4 * p) j := by
                unfold moTok tApp
                rw [su_k _ _ (by omega), su_k _ _ (by omega), su_k _ _ (by omega), su_k _ _ (by omega), su_k _ _ (by omega), su_k _ _ (by omega)]
              have x3 : moTok (tApp S p (nn p) o a) p (nn p) o a 45 (32 * p + j) = S 45 (32 * p + j) := by
                unfold moTok tApp
                rw [su_k _ _ (by omega), su_k _ _ (by omega), su_k _ _ (by omega), su_k _ _ (by omega), su_k _ _ (by omega), su_k _ _ (by omega)]
              have x4 : moTok (tApp S p (nn p) o a) p (nn p) o a 46 (32 * p + j) = S 46 (32 * p + j) := by
                unfold moTok tApp
                rw [su_k _ _ (by omega), su_k _ _ (by omega), su_k _ _ (by omega), su_k _ _ (by omega), su_k _ _ (by omega), su_k _ _ (by omega)]
              rw [x1, x2, x3, x4]
              exact ⟨(h.1.1 p hp).2.2 j (by omega), (h.2.1 p hp).2 j (by omega)⟩
theorem pr_wipe {S S1 : SS} {nn : Nat → Nat} {m : Nat} {p_ r : Int32} (h : LInv S nn m) (ht : (isB p_ 4 = false ∧ r = -1 ∧ S1 = S) ∨ ∃ p, p < 4 ∧ p_ = nI p ∧ r = S (11 + 4 * p) 3 ∧ S1 = su S (11 + 4 * p) 3 0) : (∀ p, p < 4 → nn p ≤ 32 ∧ S1 47 p = nI (nn p)) ∧ ∀ r2 S2, (inB p_ 0 3 = false ∧ r2 = -1 ∧ S2 = S1) ∨ (∃ p, p < 4 ∧ p_ = nI p ∧ r2 = nI (nn p) ∧ S2 = su S1 47 p 0) → r = r2 ∧ ∃ n2, LInv S2 n2 m := by
  have h47 : ∀ p, p < 4 → nn p ≤ 32 ∧ S 47 p = nI (nn p) := fun p hp => ⟨(h.1.1 p hp).1, (h.2.1 p hp).1⟩
  rcases ht with ⟨hb, rfl, rfl⟩ | ⟨p, hp, rfl, rfl, rfl⟩
  · refine ⟨h47, fun r2 S2 h2 => ?_⟩
    rcases h2 with ⟨-, rfl, rfl⟩ | ⟨p, hp, rfl, -⟩
    · exact ⟨rfl, nn, h⟩
    · rw [show (4 : Int32) = nI 4 from rfl, isB_of (by decide) hp] at hb
      exact absurd hb (by decide)
  · refine ⟨fun q hq => ⟨(h47 q hq).1, (su_k _ _ (by omega)).trans (h47 q hq).2⟩, fun r2 S2 h2 => ?_⟩
    rcases h2 with ⟨hx, -⟩ | ⟨q, hq, he, rfl, rfl⟩
    · rw [← p_in, show (4 : Int32) = nI 4 from rfl, isB_of (by decide) hp] at hx
      exact absurd hx (by decide)
    · obtain rfl := p_eq hp hq he
      refine ⟨(h.1.1 p hp).2.1, va_up nn p 0, h.txt hp (by omega) (fun a2 b hab => ?_) ?_ (su_same _ _ _ _) (fun j hj => absurd hj (Nat.not_lt_zero j))⟩
      · rw [su_k _ _ (by omega), su_k _ _ (by omega)]
      · rw [su_k _ _ (by omega), su_same]
        rfl
/-- the reference's texts in a state that the class has left -/
theorem fw_mv {S X : SS} {p n : Nat} (h : ∀ a b, a = 45 ∨ a = 46 → X a b = S a b) : fwM X p n = fwM S p n := by
  unfold fwM
  rw [show (fun j => X 45 (32 * p + j)) = (fun j => S 45 (32 * p + j)) from funext (fun j => h _ _ (by omega)), show (fun j => X 46 (32 * p + j)) = (fun j => S 46 (32 * p + j)) from funext (fun j => h _ _ (by omega))]
theorem htok_of {S : SS} {nn : Nat → Nat} {m : Nat} (h : LInv S nn m) : ∀ p, p < 4 → nn p ≤ 32 ∧ S 47 p = nI (nn p) ∧ ∀ j, j < nn p → S 45 (32 * p + j) = 9 → lkOK (S 46 (32 * p + j)) := fun p hp => by
  obtain ⟨a1, a2, a3⟩ := h.1.1 p hp
  obtain ⟨b1, b2⟩ := h.2.1 p hp
  refine ⟨a1, b1, fun j hj h9 => ?_⟩
  obtain ⟨c1, c2⟩ := b2 j hj
  rw [c1] at h9
  rw [c2]
  exact (tok_V (a3 j hj)).2.2.2.2 h9
theorem htok_mv {S X : SS} {nn : Nat → Nat} (h : ∀ p, p < 4 → nn p ≤ 32 ∧ S 47 p = nI (nn p) ∧ ∀ j, j < nn p → S 45 (32 * p + j) = 9 → lkOK (S 46 (32 * p + j))) (hk : ∀ a b, a = 45 ∨ a = 46 ∨ a = 47 → X a b = S a b) : ∀ p, p < 4 → nn p ≤ 32 ∧ X 47 p = nI (nn p) ∧ ∀ j, j < nn p → X 45 (32 * p + j) = 9 → lkOK (X 46 (32 * p + j)) := fun p hp => by
  obtain ⟨a1, a2, a3⟩ := h p hp
  refine ⟨a1, (hk _ _ (by omega)).trans a2, fun j hj => ?_⟩
  rw [hk 45 _ (by omega), hk 46 _ (by omega)]
  exact a3 j hj
theorem pr_check {S S1 : SS} {nn : Nat → Nat} {m : Nat} {p_ r : Int32} (h : LInv S nn m) (ht : (isB p_ 4 = false ∧ r = -1 ∧ S1 = S) ∨ ∃ p, p < 4 ∧ p_ = nI p ∧ jdPost S p (nn p) r S1) : (∀ p, p < 4 → nn p ≤ 32 ∧ S1 47 p = nI (nn p) ∧ ∀ j, j < nn p → S1 45 (32 * p + j) = 9 → lkOK (S1 46 (32 * p + j))) ∧ ∀ r2 S2, (inB p_ 0 3 = false ∧ r2 = -1 ∧ S2 = S1) ∨ (∃ p, p < 4 ∧ p_ = nI p ∧ ckM S1 p (nn p) r2 S2) → r = r2 ∧ ∃ n2, LInv S2 n2 m := by
  rcases ht with ⟨hb, rfl, rfl⟩ | ⟨p, hp, rfl, hj, X, hK, hE, rfl⟩
  · refine ⟨htok_of h, fun r2 S2 h2 => ?_⟩
    rcases h2 with ⟨-, rfl, rfl⟩ | ⟨p, hp, rfl, -⟩
    · exact ⟨rfl, nn, h⟩
    · rw [show (4 : Int32) = nI 4 from rfl, isB_of (by decide) hp] at hb
      exact absurd hb (by decide)
  · have hk : ∀ a b, ¬ ((39 ≤ a ∧ a ≤ 43) ∨ a = 14 + 4 * p ∨ (a = 0 ∧ b = 2)) → su X 0 2 (plC p (fwC S p (nn p)).1) a b = S a b := fun a b hab => by
      rw [su_k _ _ (by omega), hK.1 a b (by omega)]
    refine ⟨htok_mv (htok_of h) (fun a b hab => hk a b (by omega)), fun r2 S2 h2 => ?_⟩
    rcases h2 with ⟨hx, -⟩ | ⟨q, hq, he, hR, h2⟩
    · rw [← p_in, show (4 : Int32) = nI 4 from rfl, isB_of (by decide) hp] at hx
      exact absurd hx (by decide)
    · obtain rfl := p_eq hp hq he
      rw [fw_mv (S := S) (fun a b hab => hk a b (by omega)), fw_eq h.2.1 hp, fw_none (h.1.1 p hp).1] at h2
      have hinv : S2 44 3 = plC p (fwC S p (nn p)).1 → LInv S2 nn m := fun h3 => by
        refine h.keep (fun a b hab => ?_) ?_ ?_ ?_
        · unfold IC at hab
          rw [hR a b (by omega), hk a b (by omega)]
        · rw [hR 41 0 (by omega), su_k _ _ (by omega)]
          exact hK.2.1
        · rw [hR 42 0 (by omega), su_k _ _ (by omega)]
          exact hK.2.2
        · rw [h3, hR 0 2 (by omega), su_same]
      rcases h2 with ⟨a1, rfl, a3⟩ | ⟨a1, rfl, a3⟩
      · rw [a1] at hj hinv
        exact ⟨hj, nn, hinv a3⟩
      · cases hw : (fwC S p (nn p)).1 with
        | none => exact absurd hw a1
        | some w =>
          rw [hw] at hj hinv a3
          exact ⟨hj, nn, hinv a3⟩
