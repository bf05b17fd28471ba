/-! all items, all blocks -/
theorem sim_item {l : Launch} {G : WG} {P : SS → Prop} {S0 S : SS} {op ar : Nat → Int32} {E sz : Nat → Nat} {lev p D c d Fb F e : Nat} {t k : Bool} {i : Nat} {s : SG} (h : ItA l G P S0 S op ar sz lev p D c k i s) (hB : SimB P S0 op ar E sz F) (hV : VTok op ar i) (hAll : ∀ p, p < 4 → 0 < sz p → ∃ Fb, blk op ar E Fb 5 false false (32 * p) (32 * p + sz p - 1))
    (hd : D + 1 + d ≤ 6 * lev + 6) (hd5 : d ≤ 5) (hie : i < e) (he : e < 32 * p + sz p) (hF : e + 200 * (5 - lev) ≤ i + F) (n16 : ¬ op i = 16) (n17 : ¬ op i = 17) (h8 : op i = 8 → k = true)
    (hsub : op i = 3 ∨ op i = 10 ∨ op i = 14 → 0 < d ∧ i < E i ∧ blk op ar E Fb (d - 1) (t || decide (op i = 3)) k (i + 1) (E i))
    (htry : op i = 9 → 0 < d ∧ lkOK (ar i) ∧ i < E i ∧ blk op ar E Fb (d - 1) t k (i + 1) (E i) ∧ (∀ j, j < tNc ar i → op (PT E i j) = 16 ∧ PT E i j < E (PT E i j) ∧ blk op ar E Fb (d - 1) t true (PT E i j + 1) (E (PT E i j))) ∧ (tLa ar i = true → op (PT E i (tNc ar i)) = 17 ∧ PT E i (tNc ar i) < E (PT E i (tNc ar i)) ∧ blk op ar E Fb (d - 1) t k (PT E i (tNc ar i) + 1) (E (PT E i (tNc ar i)))))
    (hn2 : nxI op ar E i ≤ e)
    (hk : ∀ T, MOut S0 S T lev D c (nxI op ar E i) (sItem op ar E sz (sB op ar E sz F) lev c i (gStep s.1) s.2.1 s.2.2) → P T) : P S := by
  have hb := h.2.2.2.2.2.2.2.1
  have hst := h.2.2.2.2.2.2.2.2.1
  have n18 := h.2.2.2.2.2.2.2.2.2
  have hi := h.i128
  have hnx := hb.2.2.2.2.2
  have h19 := hb.1.2.1.1
  have hn18 := hb.1.2.1.2.2.2.2.2.2.1
  have hnf := hb.1.2.1.2.2.2.2.2.2.2.1
  have hE1 : op i = 3 ∨ op i = 10 ∨ op i = 14 → nxI op ar E i = E i + 1 := fun hx => by
    unfold nxI
    rw [if_pos hx]
  obtain ⟨hr, hv1, hv2, hv3⟩ := hV
  unfold sItem at hk
  rcases hr with ho | ho | ho | ho | ho | ho | ho | ho | ho | ho | ho | ho | ho | ho | ho | ho | ho | ho | ho
  · rw [nxI_s (by rw [ho]; decide), if_pos ho] at hk
    exact h.go (m_MO_item_note l G S i (gst s.1) hi hnx (by omega) h19 (h.opi.trans ho) (gnv s.1) (by have := hb.1.2.1.2.2.2.1; omega) hb.1.2.1.2.2.1) (hk _ (sim_note h))
  · rw [nxI_s (by rw [ho]; decide), if_neg (by rw [ho]; decide), if_pos ho] at hk
    refine h.go (m_MO_item_add l G S i (gst s.1) hi hnx (by omega) h19 (h.opi.trans ho)) (hk _ ?_)
    rw [h.ari, hb.2.1.2.2.1]
    exact sim_ac h _
  · rw [nxI_s (by rw [ho]; decide), if_neg (by rw [ho]; decide), if_neg (by rw [ho]; decide), if_pos ho] at hk
    by_cases ha : ar i = 0
    · rw [if_pos ha] at hk
      exact h.go (m_MO_item_div0 l G S i (gst s.1) hi hnx (by omega) h19 (h.opi.trans ho) (gnf s.1) (by omega) hn18 (h.ari.trans ha)) (hk _ (sim_rs h 6 0 _ (Nat.zero_le _)))
    · rw [if_neg ha] at hk
      refine h.go (m_MO_item_div l G S i (gst s.1) hi hnx (by omega) h19 (h.opi.trans ho) (by rw [h.ari]; exact ha)) (hk _ ?_)
      rw [h.ari, hb.2.1.2.2.1]
      exact sim_ac h _
  · have hx := hE1 (Or.inl ho)
    rw [hx, if_neg (by rw [ho]; decide), if_neg (by rw [ho]; decide), if_neg (by rw [ho]; decide), if_pos ho] at hk
    obtain ⟨kk, hkk, har⟩ := hv3 ho
    obtain ⟨a1, a2, a3⟩ := hsub (Or.inl ho)
    rw [har, nI_clamp (by omega)] at hk
    exact sim_times h hB hd hd5 a1 a2 (by omega) he hF a3 ho hkk har hk
  · rw [if_neg (by rw [ho]; decide), if_neg (by rw [ho]; decide), if_neg (by rw [ho]; decide), if_neg (by rw [ho]; decide), if_pos ho] at hk
    exact h.go (m_MO_item_break l G S i (gst s.1) hi hnx (by omega) h19 (h.opi.trans ho)) (hk _ (sim_en h 1 _ 0 0 (by decide) (by decide) (fun _ => rfl)))
  · rw [if_neg (by rw [ho]; decide), if_neg (by rw [ho]; decide), if_neg (by rw [ho]; decide), if_neg (by rw [ho]; decide), if_neg (by rw [ho]; decide), if_pos ho] at hk
    exact h.go (m_MO_item_next l G S i (gst s.1) hi hnx (by omega) h19 (h.opi.trans ho)) (hk _ (sim_en h 2 _ 0 0 (by decide) (by decide) (fun _ => rfl)))
  · rw [if_neg (by rw [ho]; decide), if_neg (by rw [ho]; decide), if_neg (by rw [ho]; decide), if_neg (by rw [ho]; decide), if_neg (by rw [ho]; decide), if_neg (by rw [ho]; decide), if_pos ho] at hk
    exact h.go (m_MO_item_return l G S i (gst s.1) hi hnx (by omega) h19 (h.opi.trans ho)) (hk _ (sim_en h 3 _ _ _ (by decide) (by decide) (fun _ => by rw [h.ari, hb.2.1.2.2.1])))
  · rw [if_neg (by rw [ho]; decide), if_neg (by rw [ho]; decide), if_neg (by rw [ho]; decide), if_neg (by rw [ho]; decide), if_neg (by rw [ho]; decide), if_neg (by rw [ho]; decide), if_neg (by rw [ho]; decide), if_pos ho] at hk
    refine h.go (m_MO_item_raise l G S i (gst s.1) hi hnx (by omega) h19 (h.opi.trans ho) (gnf s.1) (by omega) hn18) (hk _ ?_)
    rw [h.ari]
    exact sim_rs h (ar i) 0 _ (Nat.zero_le _)
  · rw [if_neg (by rw [ho]; decide), if_neg (by rw [ho]; decide), if_neg (by rw [ho]; decide), if_neg (by rw [ho]; decide), if_neg (by rw [ho]; decide), if_neg (by rw [ho]; decide), if_neg (by rw [ho]; decide), if_neg (by rw [ho]; decide), if_pos ho] at hk
    obtain ⟨b, b1, b2, b3, b4⟩ := hb.2.2.2.1 (h8 ho)
    refine h.go (m_MO_item_wrap l G S i (gst s.1) hi hnx (by omega) h19 (h.opi.trans ho) (gnf s.1) (by omega) hn18 (D + 1) b (by have := h.2.2.2.2.2.2.1; omega) hb.2.1.2.1 (by omega) b2 (fun j j1 j2 => b4 j j1 (by omega))) (hk _ ?_)
    rw [h.ari, b3]
    exact sim_rs h (ar i) c _ (Nat.le_refl _)
  · have hx : nxI op ar E i = tEnd ar E i := by
      unfold nxI
      rw [if_neg (by rw [ho]; decide), if_pos ho]
    rw [hx, if_neg (by rw [ho]; decide), if_neg (by rw [ho]; decide), if_neg (by rw [ho]; decide), if_neg (by rw [ho]; decide), if_neg (by rw [ho]; decide), if_neg (by rw [ho]; decide), if_neg (by rw [ho]; decide), if_neg (by rw [ho]; decide), if_neg (by rw [ho]; decide), if_pos ho] at hk
    obtain ⟨a1, a2, a3, a4, a5, a6⟩ := htry ho
    exact sim_try h hB hd hd5 a1 hie he hF ho hn2 a2 a3 a4 a5 a6 hk
  · have hx := hE1 (Or.inr (Or.inl ho))
    rw [hx, if_neg (by rw [ho]; decide), if_neg (by rw [ho]; decide), if_neg (by rw [ho]; decide), if_neg (by rw [ho]; decide), if_neg (by rw [ho]; decide), if_neg (by rw [ho]; decide), if_neg (by rw [ho]; decide), if_neg (by rw [ho]; decide), if_neg (by rw [ho]; decide), if_neg (by rw [ho]; decide), if_pos ho] at hk
    obtain ⟨lo, hlo, har⟩ := hv1 (Or.inl ho)
    obtain ⟨a1, a2, a3⟩ := hsub (Or.inr (Or.inl ho))
    rw [har, nI_clamp (by omega)] at hk
    exact sim_lock h hB hd hd5 a1 a2 (by omega) he hF a3 ho hlo har rfl hk
  · rw [nxI_s (by rw [ho]; decide), if_neg (by rw [ho]; decide), if_neg (by rw [ho]; decide), if_neg (by rw [ho]; decide), if_neg (by rw [ho]; decide), if_neg (by rw [ho]; decide), if_neg (by rw [ho]; decide), if_neg (by rw [ho]; decide), if_neg (by rw [ho]; decide), if_neg (by rw [ho]; decide), if_neg (by rw [ho]; decide), if_neg (by rw [ho]; decide), if_pos ho] at hk
    obtain ⟨lo, hlo, har⟩ := hv1 (Or.inr (Or.inl ho))
    rw [har, nI_clamp (by omega)] at hk
    exact h.go (m_MO_item_enter l G S i (gst s.1) hi hnx (by omega) h19 (h.opi.trans ho) lo hlo (h.ari.trans har) lev h.2.2.1 hb.2.1.1) (hk _ (sim_enter h hlo))
  · rw [nxI_s (by rw [ho]; decide), if_neg (by rw [ho]; decide), if_neg (by rw [ho]; decide), if_neg (by rw [ho]; decide), if_neg (by rw [ho]; decide), if_neg (by rw [ho]; decide), if_neg (by rw [ho]; decide), if_neg (by rw [ho]; decide), if_neg (by rw [ho]; decide), if_neg (by rw [ho]; decide), if_neg (by rw [ho]; decide), if_neg (by rw [ho]; decide), if_neg (by rw [ho]; decide), if_pos ho] at hk
    obtain ⟨lo, hlo, har⟩ := hv1 (Or.inr (Or.inr (Or.inl ho)))
    rw [har, nI_clamp (by omega)] at hk
    exact h.go (m_MO_item_leave l G S i (gst s.1) hi hnx (by omega) h19 (h.opi.trans ho) lo hlo (h.ari.trans har) lev h.2.2.1 hb.2.1.1 (gnf s.1) (by omega) hn18) (hk _ (sim_leave h hlo))
  · rw [nxI_s (by rw [ho]; decide), if_neg (by rw [ho]; decide), if_neg (by rw [ho]; decide), if_neg (by rw [ho]; decide), if_neg (by rw [ho]; decide), if_neg (by rw [ho]; decide), if_neg (by rw [ho]; decide), if_neg (by rw [ho]; decide), if_neg (by rw [ho]; decide), if_neg (by rw [ho]; decide), if_neg (by rw [ho]; decide), if_neg (by rw [ho]; decide), if_neg (by rw [ho]; decide), if_neg (by rw [ho]; decide), if_pos ho] at hk
    obtain ⟨pr, hpr, har⟩ := hv2 ho
    rw [har, nI_clamp (by omega)] at hk
    exact sim_call h hB hd (by omega) ho hpr har hAll hk
  · have hx := hE1 (Or.inr (Or.inr ho))
    rw [hx, if_neg (by rw [ho]; decide), if_neg (by rw [ho]; decide), if_neg (by rw [ho]; decide), if_neg (by rw [ho]; decide), if_neg (by rw [ho]; decide), if_neg (by rw [ho]; decide), if_neg (by rw [ho]; decide), if_neg (by rw [ho]; decide), if_neg (by rw [ho]; decide), if_neg (by rw [ho]; decide), if_neg (by rw [ho]; decide), if_neg (by rw [ho]; decide), if_neg (by rw [ho]; decide), if_neg (by rw [ho]; decide), if_pos ho] at hk
    obtain ⟨a1, a2, a3⟩ := hsub (Or.inr (Or.inr ho))
    by_cases ha : ar i < s.2.1
    · rw [if_pos ha] at hk
      exact sim_above h hB hd hd5 a1 a2 (by omega) he hF a3 ho ha hk
    · rw [if_neg ha] at hk
      obtain ⟨hP, hTM, hlev, hp, hpi, hpi2, hD, -, -, -⟩ := id h
      have hsc : ∃ f, Sc (S 45) f (i + 1) 1 (E i + 1) := sc_end (a := 32 * p) (b := 32 * p + sz p) (fun j j1 j2 => by rw [hb.1.1.op]; exact ((hTM p hp).2.2 j j1 j2).1) (by have := (hTM p hp).1; omega) (by omega) (by omega) (by omega) a3
      exact h.go (m_MO_item_above0 l G S i (gst s.1) hi hnx (by omega) h19 (h.opi.trans ho) (E i + 1) hsc (by rw [h.ari, hb.2.1.2.2.1]; exact ha)) (hk _ (sim_nx h (E i + 1)))
  · rw [nxI_s (by rw [ho]; decide), if_neg (by rw [ho]; decide), if_neg (by rw [ho]; decide), if_neg (by rw [ho]; decide), if_neg (by rw [ho]; decide), if_neg (by rw [ho]; decide), if_neg (by rw [ho]; decide), if_neg (by rw [ho]; decide), if_neg (by rw [ho]; decide), if_neg (by rw [ho]; decide), if_neg (by rw [ho]; decide), if_neg (by rw [ho]; decide), if_neg (by rw [ho]; decide), if_neg (by rw [ho]; decide), if_neg (by rw [ho]; decide), if_neg (by rw [ho]; decide)] at hk
    obtain ⟨lo, hlo, har⟩ := hv1 (Or.inr (Or.inr (Or.inr ho)))
    rw [har, nI_clamp (by omega)] at hk
    have h53 : S 53 lo = ghe (gStep s.1) lo := hb.1.2.2 lo hlo
    by_cases hh : 0 < ghe (gStep s.1) lo
    · rw [if_pos hh] at hk
      exact h.go (m_MO_item_held1 l G S i (gst s.1) hi hnx (by omega) h19 (h.opi.trans ho) lo hlo (h.ari.trans har) (by rw [h53]; exact hh)) (hk _ (sim_ac h 1))
    · rw [if_neg hh] at hk
      exact h.go (m_MO_item_held0 l G S i (gst s.1) hi hnx (by omega) h19 (h.opi.trans ho) lo hlo (h.ari.trans har) (by rw [h53]; exact hh)) (hk _ (sim_ac h 0))
  · exact absurd ho n16
  · exact absurd ho n17
  · exact absurd ho n18
theorem sim_all {l : Launch} {G : WG} {P : SS → Prop} {S0 : SS} {op ar : Nat → Int32} {E sz : Nat → Nat} (hP : StpM l G P) (hTM : TM S0 op ar sz) (hV : ∀ p, p < 4 → ∀ i, i < sz p → VTok op ar (32 * p + i)) (hAll : ∀ p, p < 4 → 0 < sz p → ∃ Fb, blk op ar E Fb 5 false false (32 * p) (32 * p + sz p - 1)) : ∀ F, SimB P S0 op ar E sz F := by
  intro F
  induction F with
  | zero =>
    intro lev p d D c t k Fb i e S s h1 h2 h3 h4 h5 h6 h7 hbl
    have := (blk_end _ _ _ _ _ _ hbl).2
    omega
  | succ F ih =>
    intro lev p d D c t k Fb i e S s hlev hp hd5 hpi he hd hF hbl hA hk
    cases Fb with
    | zero => exact hbl.elim
    | succ f =>
      have h32 := (hTM p hp).1
      have hk2 : ∀ T, MOut S0 S T lev D c e (if op i = 18 then rOn s else if (sI op ar E sz (sB op ar E sz F) lev c i s).1 = 0 then sB op ar E sz F lev c (nxI op ar E i) (sI op ar E sz (sB op ar E sz F) lev c i s).2.2.2 else sI op ar E sz (sB op ar E sz F) lev c i s) → P T := hk
      rcases hbl with ⟨rfl, h18⟩ | ⟨hie, n18, n16, n17, h45, h8, h3, h9, hn1, hn2, hrest⟩
      · rw [if_pos h18] at hk2
        exact hk2 S (Or.inr ⟨show 0 < 5 by decide, hA.1, hA.2.1, hA.2.2.1, MSk.rf _ _ _, men_on hA.2.2.2.2.1 hA.2.2.2.2.2⟩)
      · rw [if_neg n18] at hk2
        have h45 : S 45 i = op i := by
          rw [hA.1.1.op]
          exact ((hTM p hp).2.2 i hpi (by omega)).1
        by_cases hst : 300 ≤ gst s.1
        · have hsI : sI op ar E sz (sB op ar E sz F) lev c i s = (5, 0, 0, s) := by
            unfold sI
            rw [if_pos hst]
          rw [hsI, if_neg (show ¬ (5 : Nat) = 0 by decide)] at hk2
          have := hA.1.2.1.2.1
          exact hk2 S (Or.inl ⟨rfl, hA.1.1, hA.1.2.1, (show gst s.1 = 300 by omega), D, i, by omega, hA.2.1.2.1, hA.2.2.2.2.1, by omega, hA.2.2.2.2.2, by rw [h45]; exact n18⟩)
        · have hsI : sI op ar E sz (sB op ar E sz F) lev c i s = sItem op ar E sz (sB op ar E sz F) lev c i (gStep s.1) s.2.1 s.2.2 := by
            unfold sI
            rw [if_neg hst]
          rw [hsI] at hk2
          have hv := hV p hp (i - 32 * p) (by omega)
          rw [show 32 * p + (i - 32 * p) = i by omega] at hv
          refine sim_item (p := p) ⟨hP, hTM, hlev, hp, hpi, by omega, by omega, hA, by omega, n18⟩ ih hv hAll hd hd5 hie he (by omega) n16 n17 h8 h3 h9 hn2 (fun T ho => ?_)
          generalize sItem op ar E sz (sB op ar E sz F) lev c i (gStep s.1) s.2.1 s.2.2 = r at ho hk2
          rcases ho with ⟨h5, hl⟩ | ho
          · rw [if_neg (show ¬ r.1 = 0 by omega)] at hk2
            exact hk2 T (Or.inl ⟨h5, hl⟩)
          · by_cases h0 : r.1 = 0
            · rw [if_pos h0] at hk2
              obtain ⟨e1, e2, e3, e4⟩ := ho.2.2.2.2.2
              have hsk := ho.2.2.2.2.1
              refine ih lev p d D c t k f (nxI op ar E i) e T r.2.2.2 hlev hp hd5 (by omega) he hd (by omega) hrest ⟨ho.2.1, ho.2.2.1, ho.2.2.2.1, hA.2.2.2.1.mv hsk, by rw [e1, h0]; rfl, e2 h0⟩ (fun T2 ho2 => hk2 T2 ?_)
              rcases ho2 with ho2 | ⟨q1, q2, q3, q4, q5, q6⟩
              · exact Or.inl ho2
              · exact Or.inr ⟨q1, q2, q3, q4, q5.tr hsk, q6⟩
            · rw [if_neg h0] at hk2
              obtain ⟨e1, e2, e3, e4⟩ := ho.2.2.2.2.2
              exact hk2 T (Or.inr ⟨ho.1, ho.2.1, ho.2.2.1, ho.2.2.2.1, ho.2.2.2.2.1, e1, fun hx => absurd hx h0, e3, e4⟩)
