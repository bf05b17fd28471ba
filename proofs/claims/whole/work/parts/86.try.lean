/-! TRY: its block, the CATCH that takes the fault, the last block -/
theorem nI_8 (n t : Nat) : nI n + 8 * nI t = nI (n + 8 * t) := by
  rw [show (8 : Int32) = nI 8 from rfl, pk_mul, nI_add]
theorem fnd_lt {f : Nat → Bool} : ∀ (n : Nat), (∀ j, j < fndA f n → j < n → f j = false) ∧ (fndA f n < n → f (fndA f n) = true) ∧ fndA f n ≤ n := by
  intro n
  induction n with
  | zero => exact ⟨fun j _ hj => absurd hj (Nat.not_lt_zero j), fun h => absurd h (Nat.not_lt_zero _), Nat.le_refl _⟩
  | succ n ih =>
    obtain ⟨i1, i2, i3⟩ := ih
    show (∀ j, j < (if fndA f n < n then fndA f n else if f n = true then n else n + 1) → j < n + 1 → f j = false) ∧ ((if fndA f n < n then fndA f n else if f n = true then n else n + 1) < n + 1 → f (if fndA f n < n then fndA f n else if f n = true then n else n + 1) = true) ∧ (if fndA f n < n then fndA f n else if f n = true then n else n + 1) ≤ n + 1
    by_cases h : fndA f n < n
    · rw [if_pos h]
      exact ⟨fun j hj _ => i1 j hj (by omega), fun _ => i2 h, by omega⟩
    · rw [if_neg h]
      by_cases h2 : f n = true
      · rw [if_pos h2]
        exact ⟨fun j hj _ => i1 j (by omega) hj, fun _ => h2, by omega⟩
      · rw [if_neg h2]
        refine ⟨fun j hj hj2 => ?_, fun hx => absurd hx (Nat.lt_irrefl _), Nat.le_refl _⟩
        by_cases hjn : j = n
        · rw [hjn]
          cases hf : f n with
          | true => exact absurd hf h2
          | false => rfl
        · exact i1 j (by omega) (by omega)
section SIMT
variable {l : Launch} {G : WG} {P : SS → Prop} {S0 S : SS} {op ar : Nat → Int32} {E sz : Nat → Nat} {lev p D c d Fb F e : Nat} {t k : Bool} {i : Nat} {s : SG}
theorem sim_last (hP : StpM l G P) (hTM : TM S0 op ar sz) (hlev : lev < 6) (hp : p < 4) (hpi : 32 * p ≤ i) (hB : SimB P S0 op ar E sz F) (hd : D + 1 + d ≤ 6 * lev + 6) (hd5 : d ≤ 5) (hd0 : 0 < d) (hie : i < e) (he : e < 32 * p + sz p) (hF : e + 200 * (5 - lev) ≤ i + F)
    (hTA : ∀ T, MKp S0 T → TryAt T i (tNc ar i) (tLa ar i) (PQ ar E i)) (hpt : tLa ar i = true → i < PT E i (tNc ar i) ∧ E (PT E i (tNc ar i)) < e ∧ PT E i (tNc ar i) < E (PT E i (tNc ar i))) (hls : tLa ar i = true → blk op ar E Fb (d - 1) t k (PT E i (tNc ar i) + 1) (E (PT E i (tNc ar i))))
    {T1 T2 : SS} {c2 e2 : Nat} {r : RR} (hMC : MC S D c k) (p2 : MSk D lev T1 S) (ho : MOk S0 T1 T2 lev (D + 1) c2 e2 r) (hL : Lim lev c r.2.2.2.1 r.2.2.2.2.2)
    (hk : ∀ T, MOut S0 S T lev D c (tEnd ar E i) (if tLa ar i = false then r else sLst (sB op ar E sz F lev c (PT E i (tNc ar i) + 1)) r) → P T) :
    (tLa ar i = false → ¬ r.1 = 0 → P (moPop T2 (D + 1))) ∧ (tLa ar i = false → r.1 = 0 → P (su (moPop T2 (D + 1)) 44 9 (nI (tryEnd (tNc ar i) (tLa ar i) (PQ ar E i))))) ∧ (tLa ar i = true → P (moLast (moPop T2 (D + 1)) (D + 1) i (PQ ar E i (tNc ar i)))) := by
  have hi128 : i < 128 := by have := (hTM p hp).1; omega
  refine ⟨fun hla h0 => ?_, fun hla h0 => ?_, fun hla => ?_⟩
  · rw [if_pos hla] at hk
    exact hk _ (pop_out p2 ho hL h0)
  · rw [if_pos hla] at hk
    rw [tryEnd_PQ]
    exact hk _ (pop_on p2 ho hL h0)
  · rw [if_neg (by rw [hla]; decide)] at hk
    rw [PQ_in (by omega)]
    obtain ⟨w1, w2, w3⟩ := hpt hla
    have hbl := hls hla
    obtain ⟨e1, e2, e3, e4⟩ := ho.2.2.2.2.2
    have hn5 := ho.1
    have hkk : ∀ a b, ¬ (((a = 48 ∨ a = 49 ∨ a = 50 ∨ a = 51) ∧ b = D + 1) ∨ (a = 44 ∧ (b = 8 ∨ b = 9 ∨ b = 11))) → moLast (moPop T2 (D + 1)) (D + 1) i (PT E i (tNc ar i)) a b = T2 a b := fun a b hab => by
      unfold moLast
      rw [su_k _ _ (by omega), su_k _ _ (by omega), moEnter_k _ _ _ _ _ (by omega), moPop_k _ _ (by omega)]
    have g48 : moLast (moPop T2 (D + 1)) (D + 1) i (PT E i (tNc ar i)) 48 (D + 1) = 17 := by
      unfold moLast moEnter
      rw [su_k _ _ (by omega), su_k _ _ (by omega), su_k _ _ (by omega), su_k _ _ (by omega), su_k _ _ (by omega), su_k _ _ (by omega), su_k _ _ (by omega), su_same]
    have g50 : moLast (moPop T2 (D + 1)) (D + 1) i (PT E i (tNc ar i)) 50 (D + 1) = T2 44 12 := by
      unfold moLast moEnter
      rw [su_k _ _ (by omega), su_k _ _ (by omega), su_k _ _ (by omega), su_k _ _ (by omega), su_k _ _ (by omega), su_same, moPop_k _ _ (by omega)]
    have g51 : moLast (moPop T2 (D + 1)) (D + 1) i (PT E i (tNc ar i)) 51 (D + 1) = nI (r.1 + 8 * i) := by
      unfold moLast
      rw [su_k _ _ (by omega), su_same, moPop_k _ _ (by omega), e1, nI_8]
    have hsk : MSk D lev (moLast (moPop T2 (D + 1)) (D + 1) i (PT E i (tNc ar i))) S := (MSk.tr ⟨fun a j a1 a2 a3 => hkk a j (by omega), fun j hj => hkk 52 j (by omega)⟩ (ho.2.2.2.2.1.dn)).tr p2
    have h8 : moLast (moPop T2 (D + 1)) (D + 1) i (PT E i (tNc ar i)) 44 8 = nI (D + 1 + 1) := by
      unfold moLast
      rw [su_k _ _ (by omega), su_k _ _ (by omega)]
      exact moEnter_8 _ _ _ _ _
    have h9 : moLast (moPop T2 (D + 1)) (D + 1) i (PT E i (tNc ar i)) 44 9 = nI (PT E i (tNc ar i) + 1) := by
      unfold moLast moEnter
      rw [su_k _ _ (by omega), su_k _ _ (by omega), su_same, nI_1]
    have h11 : moLast (moPop T2 (D + 1)) (D + 1) i (PT E i (tNc ar i)) 44 11 = 0 := by
      unfold moLast
      rw [su_same]
    generalize hT3 : moLast (moPop T2 (D + 1)) (D + 1) i (PT E i (tNc ar i)) = T3 at hkk g48 g50 g51 hsk h8 h9 h11 ⊢
    have hA : MAt S0 T3 lev (D + 1) c k (PT E i (tNc ar i) + 1) r.2.2.2 := ⟨ho.2.1.scr (fun a b hab => hkk a b (by unfold MScr at hab; omega)), ⟨(hkk _ _ (by omega)).trans ho.2.2.1.1, h8, (hkk _ _ (by omega)).trans ho.2.2.1.2.2.1, fun j hj => (hkk _ _ (by omega)).trans (ho.2.2.1.2.2.2 j hj)⟩, hL, hMC.up hsk (by rw [g48]; decide), h11, h9⟩
    refine hB lev p (d - 1) (D + 1) c t k Fb (PT E i (tNc ar i) + 1) (E (PT E i (tNc ar i))) _ _ hlev hp (by omega) (by omega) (by omega) (by omega) (by omega) hbl hA (fun T4 ho4 => ?_)
    have hmn := sB_mn (op := op) (ar := ar) (E := E) (sz := sz) F lev c (PT E i (tNc ar i) + 1) r.2.2.2
    unfold sLst at hk
    generalize sB op ar E sz F lev c (PT E i (tNc ar i) + 1) r.2.2.2 = r3 at ho4 hk hmn
    rcases ho4 with ⟨h5, hl⟩ | ho4
    · rw [if_neg (by omega)] at hk
      exact hk T4 (Or.inl ⟨h5, hl⟩)
    · have f48 := (ho4.2.2.2.2.1.1 48 (D + 1) (by decide) (by decide) (Nat.le_refl _)).trans g48
      have f50 := (ho4.2.2.2.2.1.1 50 (D + 1) (by decide) (by decide) (Nat.le_refl _)).trans g50
      have f51 := (ho4.2.2.2.2.1.1 51 (D + 1) (by decide) (by decide) (Nat.le_refl _)).trans g51
      have hcl := fun {X : SS} hc hx => mcl (X := X) hP hTM hp (by omega) (by omega) (blk_end _ _ _ _ _ _ hbl).1 ho4 (by omega) (Nat.le_refl 5) hc hx
      by_cases h0 : r3.1 = 0
      · rw [if_pos h0] at hk
        by_cases hr0 : r.1 = 0
        · refine hcl (m_MO_close_lastC l G T4 (D + 1) (by omega) ho4.2.2.1.2.1 f48 i hi128 (by rw [f51, hr0]) (tNc ar i) (tLa ar i) (PQ ar E i) (hTA T4 ho4.2.1.1) (by rw [ho4.2.2.2.2.2.1, h0]; rfl)) (hk _ ?_)
          rw [tryEnd_PQ]
          refine pop_ok hsk ho4 (fun a b hab => ?_) ?_ (ho4.2.1.scr (fun a b hab => ?_)) ho4.2.2.2.1 hn5 ⟨?_, fun _ => su_same _ _ _ _, fun hx => absurd (hr0.symm.trans hx) (by decide), fun hx => absurd (hr0.symm.trans hx) (by decide)⟩
          · rw [su_k _ _ (by omega), moEnds_k _ _ _ (by omega), moPop_k _ _ (by omega)]
          · rw [su_k _ _ (by omega), moEnds_k _ _ _ (by omega)]
            exact su_same _ _ _ _
          · unfold MScr at hab
            rw [su_k _ _ (by omega), moEnds_k _ _ _ (by omega), moPop_k _ _ (by omega)]
          · unfold moEnds
            rw [su_k _ _ (by omega), su_k _ _ (by omega), su_same]
            exact (congrArg nI hr0).symm
        · refine hcl (m_MO_close_lastB l G T4 (D + 1) (by omega) ho4.2.2.1.2.1 f48 i r.1 hi128 (by omega) f51 (by rw [ho4.2.2.2.2.2.1, h0]; rfl) (nI5 hn5 hr0)) (hk _ ?_)
          refine pop_ok hsk ho4 (fun a b hab => ?_) ?_ (ho4.2.1.scr (fun a b hab => ?_)) ho4.2.2.2.1 hn5 ⟨?_, fun hx => absurd hx hr0, fun hx => ?_, fun hx => ⟨?_, (e4 hx).2.1, Nat.le_trans (e4 hx).2.2 hmn⟩⟩
          · rw [moEnds_k _ _ _ (by omega), moPop_k _ _ (by omega)]
          · rw [moEnds_k _ _ _ (by omega)]
            exact su_same _ _ _ _
          · unfold MScr at hab
            rw [moEnds_k _ _ _ (by omega), moPop_k _ _ (by omega)]
          · unfold moEnds
            rw [su_k _ _ (by omega), su_same]
          · unfold moEnds
            rw [su_same, f50]
            exact e3 hx
          · unfold moEnds
            rw [su_same, f50]
            exact (e4 hx).1
      · rw [if_neg h0] at hk
        exact hcl (m_MO_close_lastA l G T4 (D + 1) (by omega) ho4.2.2.1.2.1 f48 i r.1 hi128 (by omega) f51 (by rw [ho4.2.2.2.2.2.1]; exact nI5 ho4.1 h0)) (hk _ (pop_out hsk ho4 ho4.2.2.2.1 h0))
theorem sim_try (h : ItA l G P S0 S op ar sz lev p D c k i s) (hB : SimB P S0 op ar E sz F) (hd : D + 1 + d ≤ 6 * lev + 6) (hd5 : d ≤ 5) (hd0 : 0 < d) (hie : i < e) (he : e < 32 * p + sz p) (hF : e + 200 * (5 - lev) ≤ i + F) (h99 : op i = 9) (hn2 : nxI op ar E i ≤ e) (hlk : lkOK (ar i)) (hEi : i < E i) (hbl : blk op ar E Fb (d - 1) t k (i + 1) (E i))
    (hcs : ∀ j, j < tNc ar i → op (PT E i j) = 16 ∧ PT E i j < E (PT E i j) ∧ blk op ar E Fb (d - 1) t true (PT E i j + 1) (E (PT E i j))) (hls : tLa ar i = true → op (PT E i (tNc ar i)) = 17 ∧ PT E i (tNc ar i) < E (PT E i (tNc ar i)) ∧ blk op ar E Fb (d - 1) t k (PT E i (tNc ar i) + 1) (E (PT E i (tNc ar i))))
    (hk : ∀ T, MOut S0 S T lev D c (tEnd ar E i) (sTry ar E (sB op ar E sz F lev) c i (gStep s.1, s.2.1, s.2.2)) → P T) : P S := by
  obtain ⟨s1, -, s3, -, -, -⟩ := h.stp
  have hb := h.2.2.2.2.2.2.2.1
  have hX : ∀ a b, ¬ ((a = 44 ∧ (b = 19 ∨ b = 9 ∨ b = 20)) ∨ a = 53) → moStep S i (gst s.1) a b = S a b := fun a b hab => moStep_k _ _ _ (by omega)
  obtain ⟨p1, p2, p3, p4, p5⟩ := push_at hb hX s1 (lim_s h) 9 0 (by decide)
  refine h.go (m_MO_item_try l G S i (gst s.1) h.i128 hb.2.2.2.2.2 (by have := h.2.2.2.2.2.2.2.2.1; omega) hb.1.2.1.1 (h.opi.trans h99) (D + 1) (by have := h.2.2.2.2.2.2.1; omega) hb.2.1.2.1) ?_
  obtain ⟨hP, hTM, hlev, hp, hpi, hpi2, hD, -, -, -⟩ := id h
  have hi128 := h.i128
  have h32 := (hTM p hp).1
  have htr : ∀ T, MKp S0 T → ∀ j, 32 * p ≤ j → j < 32 * p + sz p → T 45 j = op j ∧ T 46 j = ar j := fun T hT j j1 j2 => by
    rw [hT.op, hT.ar]
    exact (hTM p hp).2.2 j j1 j2
  have hta := fun T hT => try_at (S := T) (htr T hT) (by omega) hpi hie he (show d < 100 by omega) h99 hn2 hlk hEi hbl hcs hls
  have hTA : ∀ T, MKp S0 T → TryAt T i (tNc ar i) (tLa ar i) (PQ ar E i) := fun T hT => (hta T hT).1
  obtain ⟨-, hnc3, hptx⟩ := hta S hb.1.1
  have hptl : tLa ar i = true → i < PT E i (tNc ar i) ∧ E (PT E i (tNc ar i)) < e ∧ PT E i (tNc ar i) < E (PT E i (tNc ar i)) := fun hla => by
    obtain ⟨x1, x2, x3, -⟩ := hptx (tNc ar i) (by rw [if_pos hla]; omega)
    exact ⟨x1, x2, x3⟩
  have hEe : E i < e := by
    have hb3 : ¬ (op i = 3 ∨ op i = 10 ∨ op i = 14) := by rw [h99]; decide
    have hnx : nxI op ar E i = PT E i (tNc ar i + if tLa ar i = true then 1 else 0) := by
      unfold nxI
      rw [if_neg hb3, if_pos h99]
      rfl
    have hmo := PT_mono (op := op) (ar := ar) (E := E) (i := i) (n := tNc ar i + if tLa ar i = true then 1 else 0) (fun j hj => (hptx j hj).2.2.1) 0 _ (Nat.zero_le _) (Nat.le_refl _)
    have e0 : PT E i 0 = E i + 1 := rfl
    omega
  refine hB lev p (d - 1) (D + 1) c t k Fb (i + 1) (E i) _ _ hlev hp (by omega) (by omega) (by omega) (by omega) (by omega) hbl p1 (fun T2 ho => ?_)
  have hmn := sB_mn (op := op) (ar := ar) (E := E) (sz := sz) F lev c (i + 1) (gStep s.1, s.2.1, s.2.2)
  unfold sTry sCat at hk
  generalize sB op ar E sz F lev c (i + 1) (gStep s.1, s.2.1, s.2.2) = r at ho hk hmn
  have hlst := fun {T1 T2 : SS} {c2 e2 : Nat} {r : RR} (p2 : MSk D lev T1 S) (ho : MOk S0 T1 T2 lev (D + 1) c2 e2 r) hL hk => sim_last (t := t) (Fb := Fb) hP hTM hlev hp hpi hB hd hd5 hd0 hie he hF hTA hptl (fun hla => (hls hla).2.2) (T1 := T1) (T2 := T2) (c2 := c2) (e2 := e2) (r := r) hb.2.2.2.1 p2 ho hL hk
  rcases ho with ⟨h5, hl⟩ | ho
  · rw [if_neg (show ¬ r.1 = 4 by omega), if_pos (Or.inl h5)] at hk
    exact hk T2 (Or.inl ⟨h5, hl⟩)
  · have hn5 := ho.1
    obtain ⟨e1, e2, e3, e4⟩ := ho.2.2.2.2.2
    have f48 := (ho.2.2.2.2.1.1 48 (D + 1) (by decide) (by decide) (Nat.le_refl _)).trans p3
    have f49 := (ho.2.2.2.2.1.1 49 (D + 1) (by decide) (by decide) (Nat.le_refl _)).trans p4
    have hcl := fun {X : SS} hc hx => mcl (X := X) hP hTM hp (by omega) (by omega) (blk_end _ _ _ _ _ _ hbl).1 ho (by omega) (Nat.le_refl 5) hc hx
    have hfin : ∀ {x : RR}, x.1 < 5 → (∀ T, MOut S0 S T lev D c (tEnd ar E i) (if x.1 = 5 ∨ tLa ar i = false then x else sLst (sB op ar E sz F lev c (PT E i (tNc ar i) + 1)) x) → P T) → ∀ T, MOut S0 S T lev D c (tEnd ar E i) (if tLa ar i = false then x else sLst (sB op ar E sz F lev c (PT E i (tNc ar i) + 1)) x) → P T := fun {x} hx hk T hT => by
      refine hk T ?_
      by_cases hla : tLa ar i = false
      · rw [if_pos (Or.inr hla)]
        rw [if_pos hla] at hT
        exact hT
      · rw [if_neg (fun hy => by rcases hy with hy | hy; omega; exact hla hy)]
        rw [if_neg hla] at hT
        exact hT
    by_cases h4 : r.1 = 4
    · rw [if_pos h4] at hk
      obtain ⟨e41, e42, e43⟩ := e4 h4
      have hML := ho.2.1.2.1
      have hnf := hML.2.2.2.2.2.2.2.1
      have h54 := (hML.2.2.2.2.2.2.2.2 r.2.2.1 e42 e43).1
      have hct : ∀ j, j < tNc ar i → ctF T2 r.2.2.1 (PQ ar E i) j = isK (gfk r.2.2.2.1 r.2.2.1) (ar (PT E i j)) := fun j hj => by
        obtain ⟨x1, x2, x3, -⟩ := hptx j (by omega)
        unfold ctF
        rw [h54, PQ_in (by omega), (htr T2 ho.2.1.1 (PT E i j) (by omega) (by omega)).2]
      have hPc : ∀ j, j < tNc ar i → PQ ar E i j < 128 := fun j hj => by
        rw [PQ_in (by omega)]
        exact (hptx j (by omega)).2.2.2
      obtain ⟨y1, y2, y3⟩ := fnd_lt (f := fun j => isK (gfk r.2.2.2.1 r.2.2.1) (ar (PT E i j))) (tNc ar i)
      generalize hfj : fndA (fun j => isK (gfk r.2.2.2.1 r.2.2.1) (ar (PT E i j))) (tNc ar i) = fj at hk y1 y2 y3
      by_cases hlt : fj < tNc ar i
      · rw [if_pos hlt] at hk
        obtain ⟨x1, x2, x3, x4⟩ := hptx fj (by omega)
        have hbc := (hcs fj hlt).2.2
        refine hcl (m_MO_close_caught l G T2 (D + 1) (by omega) ho.2.2.1.2.1 f48 i hi128 f49 (by rw [e1, h4]; rfl) (tNc ar i) (tLa ar i) (PQ ar E i) (hTA T2 ho.2.1.1) fj r.2.2.1 hPc (by omega) e41 (fun j hj => by rw [hct j (by omega)]; exact y1 j hj (by omega)) hlt (by rw [hct fj hlt]; exact y2 hlt)) ?_
        rw [PQ_in (by omega)]
        have hkk : ∀ a b, ¬ (((a = 48 ∨ a = 49 ∨ a = 50 ∨ a = 51) ∧ b = D + 1) ∨ (a = 44 ∧ (b = 8 ∨ b = 9 ∨ b = 11))) → moCatch T2 (D + 1) i (PT E i fj) a b = T2 a b := fun a b hab => by
          unfold moCatch
          rw [su_k _ _ (by omega), moEnter_k _ _ _ _ _ (by omega), su_k _ _ (by omega), moPop_k _ _ (by omega)]
        have g48 : moCatch T2 (D + 1) i (PT E i fj) 48 (D + 1) = 16 := by
          unfold moCatch moEnter
          rw [su_k _ _ (by omega), su_k _ _ (by omega), su_k _ _ (by omega), su_k _ _ (by omega), su_k _ _ (by omega), su_k _ _ (by omega), su_same]
        have g50 : moCatch T2 (D + 1) i (PT E i fj) 50 (D + 1) = nI r.2.2.1 := by
          unfold moCatch moEnter
          rw [su_k _ _ (by omega), su_k _ _ (by omega), su_k _ _ (by omega), su_k _ _ (by omega), su_same]
          exact e41
        have g51 : moCatch T2 (D + 1) i (PT E i fj) 51 (D + 1) = nI i := by
          unfold moCatch
          rw [su_same]
        have h8 : moCatch T2 (D + 1) i (PT E i fj) 44 8 = nI (D + 1 + 1) := by
          unfold moCatch
          rw [su_k _ _ (by omega)]
          exact moEnter_8 _ _ _ _ _
        have h9 : moCatch T2 (D + 1) i (PT E i fj) 44 9 = nI (PT E i fj + 1) := by
          unfold moCatch moEnter
          rw [su_k _ _ (by omega), su_same, nI_1]
        have h11 : moCatch T2 (D + 1) i (PT E i fj) 44 11 = 0 := by
          unfold moCatch
          rw [su_k _ _ (by omega), moEnter_k _ _ _ _ _ (by omega), su_same]
        generalize moCatch T2 (D + 1) i (PT E i fj) = T3 at hkk g48 g50 g51 h8 h9 h11 ⊢
        have hsk : MSk D lev T3 S := (MSk.tr ⟨fun a j a1 a2 a3 => hkk a j (by omega), fun j hj => hkk 52 j (by omega)⟩ (ho.2.2.2.2.1.dn)).tr p2
        have hA : MAt S0 T3 lev (D + 1) r.2.2.1 true (PT E i fj + 1) r.2.2.2 := ⟨ho.2.1.scr (fun a b hab => hkk a b (by unfold MScr at hab; omega)), ⟨(hkk _ _ (by omega)).trans ho.2.2.1.1, h8, (hkk _ _ (by omega)).trans ho.2.2.1.2.2.1, fun j hj => (hkk _ _ (by omega)).trans (ho.2.2.1.2.2.2 j hj)⟩, ⟨ho.2.2.2.1.1, e43, ho.2.2.2.1.2.2⟩, fun _ => ⟨D + 1, Nat.le_refl _, g48, g50, fun j j1 j2 => absurd j1 (by omega)⟩, h11, h9⟩
        refine hB lev p (d - 1) (D + 1) r.2.2.1 t true Fb (PT E i fj + 1) (E (PT E i fj)) _ _ hlev hp (by omega) (by omega) (by omega) (by omega) (by omega) hbc hA (fun T4 ho4 => ?_)
        have hmn2 := sB_mn (op := op) (ar := ar) (E := E) (sz := sz) F lev r.2.2.1 (PT E i fj + 1) r.2.2.2
        generalize sB op ar E sz F lev r.2.2.1 (PT E i fj + 1) r.2.2.2 = r2 at ho4 hk hmn2
        rcases ho4 with ⟨h5, hl⟩ | ho4
        · rw [if_pos (Or.inl h5)] at hk
          exact hk T4 (Or.inl ⟨h5, hl⟩)
        · have k48 := (ho4.2.2.2.2.1.1 48 (D + 1) (by decide) (by decide) (Nat.le_refl _)).trans g48
          have k51 := (ho4.2.2.2.2.1.1 51 (D + 1) (by decide) (by decide) (Nat.le_refl _)).trans g51
          have hcl4 := fun {X : SS} hc hx => mcl (X := X) hP hTM hp (by omega) (by omega) (blk_end _ _ _ _ _ _ hbc).1 ho4 (by omega) (Nat.le_refl 5) hc hx
          have hmn0 : gnf (gStep s.1) ≤ gnf r.2.2.2.1 := hmn
          obtain ⟨z1, z2, z3⟩ := hlst hsk ho4 ⟨ho4.2.2.2.1.1, by omega, ho4.2.2.2.1.2.2⟩ (hfin ho4.1 hk)
          cases hla : tLa ar i with
          | true => exact hcl4 (m_MO_close_catchC l G T4 (D + 1) (by omega) ho4.2.2.1.2.1 k48 i hi128 k51 (tNc ar i) (tLa ar i) (PQ ar E i) (hTA T4 ho4.2.1.1) hla) (z3 hla)
          | false =>
            by_cases h0 : r2.1 = 0
            · exact hcl4 (m_MO_close_catchB l G T4 (D + 1) (by omega) ho4.2.2.1.2.1 k48 i hi128 k51 (tNc ar i) (tLa ar i) (PQ ar E i) (hTA T4 ho4.2.1.1) hla (by rw [ho4.2.2.2.2.2.1, h0]; rfl)) (z2 hla h0)
            · exact hcl4 (m_MO_close_catchA l G T4 (D + 1) (by omega) ho4.2.2.1.2.1 k48 i hi128 k51 (tNc ar i) (tLa ar i) (PQ ar E i) (hTA T4 ho4.2.1.1) hla (by rw [ho4.2.2.2.2.2.1]; exact nI5 ho4.1 h0)) (z1 hla h0)
      · rw [if_neg hlt] at hk
        have hfe : fj = tNc ar i := by omega
        obtain ⟨z1, z2, z3⟩ := hlst p2 ho ho.2.2.2.1 (hfin hn5 hk)
        have hno : ∀ j, j < fj → ctF T2 r.2.2.1 (PQ ar E i) j = false := fun j hj => by
          rw [hct j (by omega)]
          exact y1 j hj (by omega)
        cases hla : tLa ar i with
        | true => exact hcl (m_MO_close_tryFC l G T2 (D + 1) (by omega) ho.2.2.1.2.1 f48 i hi128 f49 (by rw [e1, h4]; rfl) (tNc ar i) (tLa ar i) (PQ ar E i) (hTA T2 ho.2.1.1) fj r.2.2.1 hPc (by omega) e41 hno hfe hla) (z3 hla)
        | false => exact hcl (m_MO_close_tryFA l G T2 (D + 1) (by omega) ho.2.2.1.2.1 f48 i hi128 f49 (by rw [e1, h4]; rfl) (tNc ar i) (tLa ar i) (PQ ar E i) (hTA T2 ho.2.1.1) fj r.2.2.1 hPc (by omega) e41 hno hfe hla) (z1 hla (by omega))
    · rw [if_neg h4] at hk
      obtain ⟨z1, z2, z3⟩ := hlst p2 ho ho.2.2.2.1 (hfin hn5 hk)
      have hne : ¬ T2 44 11 = 4 := by
        rw [e1]
        intro hx
        exact h4 ((nI_eq (by omega) (by decide)).mp (hx.trans (show (4 : Int32) = nI 4 from rfl)))
      cases hla : tLa ar i with
      | true => exact hcl (m_MO_close_tryC l G T2 (D + 1) (by omega) ho.2.2.1.2.1 f48 i hi128 f49 (tNc ar i) (tLa ar i) (PQ ar E i) (hTA T2 ho.2.1.1) hla hne) (z3 hla)
      | false =>
        by_cases h0 : r.1 = 0
        · exact hcl (m_MO_close_tryB l G T2 (D + 1) (by omega) ho.2.2.1.2.1 f48 i hi128 f49 (tNc ar i) (tLa ar i) (PQ ar E i) (hTA T2 ho.2.1.1) hla (by rw [e1, h0]; rfl) hne) (z2 hla h0)
        · exact hcl (m_MO_close_tryA l G T2 (D + 1) (by omega) ho.2.2.1.2.1 f48 i hi128 f49 (tNc ar i) (tLa ar i) (PQ ar E i) (hTA T2 ho.2.1.1) hla (by rw [e1]; exact nI5 hn5 h0) hne) (z1 hla h0)
end SIMT
