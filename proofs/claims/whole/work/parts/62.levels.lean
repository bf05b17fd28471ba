/-! no BREAK or NEXT leaves a text; all levels -/
def NB (n : Nat) : Prop := ¬ n = 1 ∧ ¬ n = 2
theorem sTimes_nb {rec : SG → RR} : ∀ (k : Nat) (s : SG), NB (sTimes rec k s).1 := by
  intro k
  induction k with
  | zero => intro s; exact ⟨show ¬ (0 : Nat) = 1 by decide, show ¬ (0 : Nat) = 2 by decide⟩
  | succ k ih =>
    intro s
    show NB (if (rec s).1 = 1 then rOn (rec s).2.2.2 else if (rec s).1 = 0 ∨ (rec s).1 = 2 then sTimes rec k (rec s).2.2.2 else rec s).1
    by_cases h1 : (rec s).1 = 1
    · rw [if_pos h1]; exact ⟨show ¬ (0 : Nat) = 1 by decide, show ¬ (0 : Nat) = 2 by decide⟩
    · rw [if_neg h1]
      by_cases h2 : (rec s).1 = 0 ∨ (rec s).1 = 2
      · rw [if_pos h2]; exact ih _
      · rw [if_neg h2]; exact ⟨h1, fun h => h2 (Or.inr h)⟩
theorem sCall_nb (u : Nat × Int32 × Nat × GS) (ac : Int32) (en : Nat → Nat) : NB (sCall u ac en).1 := by
  unfold sCall
  split
  · exact ⟨show ¬ (5 : Nat) = 1 by decide, show ¬ (5 : Nat) = 2 by decide⟩
  · split
    · exact ⟨show ¬ (4 : Nat) = 1 by decide, show ¬ (4 : Nat) = 2 by decide⟩
    · exact ⟨show ¬ (0 : Nat) = 1 by decide, show ¬ (0 : Nat) = 2 by decide⟩
theorem nb0 : NB 0 := ⟨by decide, by decide⟩
theorem nb4 : NB 4 := ⟨by decide, by decide⟩
theorem nb3 : NB 3 := ⟨by decide, by decide⟩
theorem nb5 : NB 5 := ⟨by decide, by decide⟩
theorem sTry_nb {ar : Nat → Int32} {E : Nat → Nat} {rec : Nat → Nat → SG → RR} {c i : Nat} (s : SG) (h0 : ∀ s, NB (rec c (i + 1) s).1) (hc : ∀ j, j < tNc ar i → ∀ c2 s, NB (rec c2 (PT E i j + 1) s).1) (hl : tLa ar i = true → ∀ s, NB (rec c (PT E i (tNc ar i) + 1) s).1) : NB (sTry ar E rec c i s).1 := by
  have h1 : NB (sCat ar E rec i (rec c (i + 1) s)).1 := by
    unfold sCat
    by_cases h4 : (rec c (i + 1) s).1 = 4
    · rw [if_pos h4]
      by_cases h5 : fndA (fun j => isK (gfk (rec c (i + 1) s).2.2.2.1 (rec c (i + 1) s).2.2.1) (ar (PT E i j))) (tNc ar i) < tNc ar i
      · rw [if_pos h5]; exact hc _ h5 _ _
      · rw [if_neg h5]; exact h0 s
    · rw [if_neg h4]; exact h0 s
  unfold sTry
  by_cases h2 : (sCat ar E rec i (rec c (i + 1) s)).1 = 5 ∨ tLa ar i = false
  · rw [if_pos h2]; exact h1
  · rw [if_neg h2]
    have hla : tLa ar i = true := by
      cases hx : tLa ar i with
      | true => rfl
      | false => exact absurd (Or.inr hx) h2
    unfold sLst
    by_cases h3 : (rec c (PT E i (tNc ar i) + 1) (sCat ar E rec i (rec c (i + 1) s)).2.2.2).1 = 0
    · rw [if_pos h3]; exact h1
    · rw [if_neg h3]; exact hl hla _
theorem sB_nb {op ar : Nat → Int32} {E sz : Nat → Nat} : ∀ (F Fb d : Nat) (k : Bool) (q c i e : Nat) (s : SG), blk op ar E Fb d false k i e → NB (sB op ar E sz F q c i s).1 := by
  intro F
  induction F with
  | zero => intro Fb d k q c i e s _; exact nb5
  | succ F ih =>
    intro Fb d k q c i e s h
    cases Fb with
    | zero => exact h.elim
    | succ f =>
      show NB (if op i = 18 then rOn s else if (sI op ar E sz (sB op ar E sz F) q c i s).1 = 0 then sB op ar E sz F q c (nxI op ar E i) (sI op ar E sz (sB op ar E sz F) q c i s).2.2.2 else sI op ar E sz (sB op ar E sz F) q c i s).1
      rcases h with h | ⟨hie, n18, n16, n17, h45, h8, h3, h9, hn1, hn2, hrest⟩
      · rw [h.1, if_pos h.2]; exact nb0
      · rw [if_neg n18]
        by_cases hz : (sI op ar E sz (sB op ar E sz F) q c i s).1 = 0
        · rw [if_pos hz]; exact ih f d k q c _ e _ hrest
        · rw [if_neg hz]
          unfold sI
          by_cases hst : 300 ≤ gst s.1
          · rw [if_pos hst]; exact nb5
          · rw [if_neg hst]
            unfold sItem
            by_cases h0 : op i = 0
            · rw [if_pos h0]; exact nb0
            rw [if_neg h0]
            by_cases h1 : op i = 1
            · rw [if_pos h1]; exact nb0
            rw [if_neg h1]
            by_cases h2 : op i = 2
            · rw [if_pos h2]
              by_cases hx : ar i = 0
              · rw [if_pos hx]; exact nb4
              · rw [if_neg hx]; exact nb0
            rw [if_neg h2]
            by_cases h33 : op i = 3
            · rw [if_pos h33]; exact sTimes_nb _ _
            rw [if_neg h33]
            by_cases h4 : op i = 4
            · exact absurd (h45 (Or.inl h4)) (by decide)
            rw [if_neg h4]
            by_cases h5 : op i = 5
            · exact absurd (h45 (Or.inr h5)) (by decide)
            rw [if_neg h5]
            by_cases h6 : op i = 6
            · rw [if_pos h6]; exact nb3
            rw [if_neg h6]
            by_cases h7 : op i = 7
            · rw [if_pos h7]; exact nb4
            rw [if_neg h7]
            by_cases h88 : op i = 8
            · rw [if_pos h88]; exact nb4
            rw [if_neg h88]
            by_cases h99 : op i = 9
            · rw [if_pos h99]
              obtain ⟨-, -, -, hbl, hcs, hls⟩ := h9 h99
              exact sTry_nb _ (fun s2 => ih f _ _ q c _ _ s2 hbl) (fun j hj c2 s2 => ih f _ _ q c2 _ _ s2 (hcs j hj).2.2) (fun hla s2 => ih f _ _ q c _ _ s2 (hls hla).2.2)
            rw [if_neg h99]
            have hsub : op i = 10 ∨ op i = 14 → ∀ s2, NB (sB op ar E sz F q c (i + 1) s2).1 := fun hx s2 => by
              obtain ⟨-, -, hbl⟩ := h3 (Or.inr hx)
              rw [decide_eq_false h33] at hbl
              exact ih f _ _ q c _ _ s2 hbl
            by_cases h10 : op i = 10
            · rw [if_pos h10]
              have hr := hsub (Or.inl h10) (gHold (gStep s.1) (ar i).toNatClampNeg, s.2.1, s.2.2)
              by_cases hx : (sB op ar E sz F q c (i + 1) (gHold (gStep s.1) (ar i).toNatClampNeg, s.2.1, s.2.2)).1 = 5
              · rw [if_pos hx]; exact hr
              · rw [if_neg hx]; exact hr
            rw [if_neg h10]
            by_cases h11 : op i = 11
            · rw [if_pos h11]; exact nb0
            rw [if_neg h11]
            by_cases h12 : op i = 12
            · rw [if_pos h12]
              by_cases hx : s.2.2 (ar i).toNatClampNeg = 0
              · rw [if_pos hx]; exact nb4
              · rw [if_neg hx]; exact nb0
            rw [if_neg h12]
            by_cases h13 : op i = 13
            · rw [if_pos h13]
              by_cases hx : q = 5
              · rw [if_pos hx]; exact nb4
              · rw [if_neg hx]
                by_cases hy : sz (ar i).toNatClampNeg = 0
                · rw [if_pos hy]; exact nb0
                · rw [if_neg hy]; exact sCall_nb _ _ _
            rw [if_neg h13]
            by_cases h14 : op i = 14
            · rw [if_pos h14]
              by_cases hx : ar i < s.2.1
              · rw [if_pos hx]; exact hsub (Or.inr h14) _
              · rw [if_neg hx]; exact nb0
            rw [if_neg h14]
            exact nb0
/-- a contract is met also with what its answer implies -/
theorem Ce.imp {l : Launch} {y : MethodName} {bb : ByteArray} {n h : Nat} {G : WG} {as : List Value} {S : SS} {P Q : Nat → SS → Prop} (hc : Ce l y bb n h G as S P) (hi : ∀ e S1, P e S1 → Q e S1) : Ce l y bb n h G as S Q := by
  intro p e h1 h2 h3 s m args below hf happ hP hK
  obtain ⟨t, o, a1, a2, a3, ⟨⟨u, a, b1, b2, b3⟩, b4⟩, b5⟩ := hc p e h1 h2 h3 s m args below hf happ hP hK
  exact ⟨t, o, a1, a2, a3, ⟨⟨u, a, b1, ⟨b2.1, hi _ _ b2.2⟩, b3⟩, b4⟩, b5⟩
/-- all levels: good texts are done as they mean -/
theorem doP_all {l : Launch} {G : WG} {op ar : Nat → Int32} {E sz : Nat → Nat} (hGT : GTx op ar E sz) (hbl : ∀ p, p < 4 → 0 < sz p → ∃ Fb, blk op ar E Fb 5 false false (32 * p) (32 * p + sz p - 1)) (hsz : ∀ p, p < 4 → sz p ≤ 32) :
    ∀ (n q : Nat), q + n = 5 → ∀ F p, p < 4 → 200 * (6 - q) ≤ F → DoP l G op ar E sz F (hIt q 5 + 4) q p := by
  intro n
  induction n with
  | zero =>
    intro q hqn F p hp hF S s hok
    have hq : q = 5 := by omega
    subst hq
    refine m_MA_doProcedure l G S op ar E sz F (hIt 5 5 + 2) 5 p s (by decide) hp hok (fun S2 s2 hok2 => ?_)
    unfold sP0
    by_cases hz : sz p = 0
    · rw [if_pos hz]
      exact Ce.imp (m_MA_doBlockE l G S2 op ar E sz (hIt 5 5) 5 p 0 s2 (by decide) hp hok2 hz) (fun e S1 h => ⟨h, by rw [h.1]; exact nb0⟩)
    · rw [if_neg hz]
      obtain ⟨Fb, hb⟩ := hbl p hp (by omega)
      have h32 := hsz p hp
      have hch := chn_of (l := l) (G := G) (q := 5) (by decide) hp hGT (fun h5 => absurd h5 (by decide)) 5 Fb false false (32 * p) (32 * p + sz p - 1) (Nat.le_refl _) (Nat.le_refl _) (by omega) hb
      exact Ce.imp (m_MA_doBlockT l G S2 op ar E sz F (hIt 5 5) 5 p 0 s2 (by decide) hp hok2 Fb (by omega) (by omega) hch) (fun e S1 h => ⟨h, by rw [h.1]; exact sB_nb F Fb 5 false 5 0 (32 * p) _ s2 hb⟩)
  | succ n ih =>
    intro q hqn F p hp hF S s hok
    have hq : q < 5 := by omega
    refine m_MA_doProcedure l G S op ar E sz F (hIt q 5 + 2) q p s (by omega) hp hok (fun S2 s2 hok2 => ?_)
    unfold sP0
    by_cases hz : sz p = 0
    · rw [if_pos hz]
      exact Ce.imp (m_MA_doBlockE l G S2 op ar E sz (hIt q 5) q p 0 s2 (by omega) hp hok2 hz) (fun e S1 h => ⟨h, by rw [h.1]; exact nb0⟩)
    · rw [if_neg hz]
      obtain ⟨Fb, hb⟩ := hbl p hp (by omega)
      have h32 := hsz p hp
      have hch := chn_of (l := l) (G := G) (q := q) (by omega) hp hGT (fun h5 F2 pr hpr hF2 => ih (q + 1) (by omega) F2 pr hpr (by omega)) 5 Fb false false (32 * p) (32 * p + sz p - 1) (Nat.le_refl _) (Nat.le_refl _) (by omega) hb
      exact Ce.imp (m_MA_doBlockT l G S2 op ar E sz F (hIt q 5) q p 0 s2 (by omega) hp hok2 Fb (by omega) (by omega) hch) (fun e S1 h => ⟨h, by rw [h.1]; exact sB_nb F Fb 5 false q 0 (32 * p) _ s2 hb⟩)
