/-! a run of a procedure comes to its end; CALL; all items; all blocks -/
theorem MG.crh {S0 T : SS} {g : GS} (h : MG S0 T g) {q d : Nat} {en : Nat → Nat} (h52 : ∀ j, j < 3 → T 52 (3 * q + j) = nI (en j)) : MG S0 (crH (moPop T d) q) (gRelE g en) := by
  have h0 : MG S0 (su (moPop T d) 44 13 (nI q)) g := h.scr (fun a b hab => by unfold MScr at hab; rw [su_k _ _ (by omega), moPop_k _ _ (by omega)])
  have h1 := h0.rel (lo := 0) (by decide) (nI (en 0))
  have h2 := h1.rel (lo := 1) (by decide) (nI (en 1))
  have h3 := h2.rel (lo := 2) (by decide) (nI (en 2))
  have e0 : moPop T d 52 (3 * q) = nI (en 0) := (moPop_k _ _ (by omega)).trans (h52 0 (by decide))
  have e1 : moPop T d 52 (3 * q + 1) = nI (en 1) := (moPop_k _ _ (by omega)).trans (h52 1 (by decide))
  have e2 : moPop T d 52 (3 * q + 2) = nI (en 2) := (moPop_k _ _ (by omega)).trans (h52 2 (by decide))
  unfold crH
  rw [e0, e1, e2]
  rw [show su (moPop T d) 44 13 (nI q) 53 0 = moPop T d 53 0 from su_k _ _ (by omega)] at h1 h2 h3
  rw [show su (su (moPop T d) 44 13 (nI q)) 53 0 (moPop T d 53 0 - nI (en 0)) 53 1 = moPop T d 53 1 from (su_k _ _ (by omega)).trans (su_k _ _ (by omega))] at h2 h3
  rw [show su (su (su (moPop T d) 44 13 (nI q)) 53 0 (moPop T d 53 0 - nI (en 0))) 53 1 (moPop T d 53 1 - nI (en 1)) 53 2 = moPop T d 53 2 from ((su_k _ _ (by omega)).trans (su_k _ _ (by omega))).trans (su_k _ _ (by omega))] at h3
  exact h3
theorem owes_eq {T : SS} {q : Nat} {en : Nat → Nat} (h52 : ∀ j, j < 3 → T 52 (3 * q + j) = nI (en j)) (hb : ∀ j, j < 3 → en j < 2 ^ 31) : moOwes T q = enOwe en := by
  unfold moOwes enOwe
  rw [show T 52 (3 * q) = nI (en 0) from h52 0 (by decide), h52 1 (by decide), h52 2 (by decide)]
  simp only [nI_0lt (hb 0 (by decide)), nI_0lt (hb 1 (by decide)), nI_0lt (hb 2 (by decide))]
/-- what the closing of a run leaves -/
def FinP (S0 T X : SS) (lev D : Nat) (u : Nat × Int32 × Nat × GS) : Prop := MG S0 X u.2.2.2 ∧ X 44 13 = nI lev ∧ X 44 8 = nI D ∧ (∀ a b, 48 ≤ a → a ≤ 52 → X a b = T a b) ∧ gnf u.2.2.2 + lev ≤ gst u.2.2.2 + 1 ∧ ((u.1 = 3 ∧ X 44 11 = 0 ∧ X 44 10 = u.2.1 ∧ X 44 9 = T 51 D) ∨ (u.1 = 4 ∧ X 44 11 = 4 ∧ X 44 12 = nI u.2.2.1 ∧ 0 < u.2.2.1 ∧ u.2.2.1 ≤ gnf u.2.2.2 ∧ X 44 10 = T 50 D))
theorem fin_val {S0 T : SS} {lev D : Nat} {g : GS} {en : Nat → Nat} {v w : Int32} (hg : MG S0 T g) (h52 : ∀ j, j < 3 → T 52 (3 * lev + j) = nI (en j)) (hl : gnf g + lev ≤ gst g) (hv : v = w) : FinP S0 T (su (su (su (crH (moPop T D) lev) 44 11 0) 44 10 v) 44 9 (T 51 D)) lev D (3, w, 0, gRelE g en) := by
  refine ⟨(hg.crh (d := D) h52).scr (fun a b hab => ?_), ?_, ?_, fun a b a1 a2 => ?_, ?_, Or.inl ⟨rfl, ?_, ?_, su_same _ _ _ _⟩⟩
  · unfold MScr at hab
    rw [su_k _ _ (by omega), su_k _ _ (by omega), su_k _ _ (by omega)]
  · rw [su_k _ _ (by omega), su_k _ _ (by omega), su_k _ _ (by omega)]
    unfold crH
    rw [su_k _ _ (by omega), su_k _ _ (by omega), su_k _ _ (by omega), su_same]
  · rw [su_k _ _ (by omega), su_k _ _ (by omega), su_k _ _ (by omega), crH_k _ _ (by omega)]
    exact su_same _ _ _ _
  · rw [su_k _ _ (by omega), su_k _ _ (by omega), su_k _ _ (by omega), crH_k _ _ (by omega), moPop_k _ _ (by omega)]
  · show gnf g + lev ≤ gst g + 1
    omega
  · rw [su_k _ _ (by omega), su_k _ _ (by omega), su_same]
  · rw [su_k _ _ (by omega), su_same]
    exact hv
theorem fin_flt {S0 T : SS} {lev D f : Nat} {g : GS} {en : Nat → Nat} {v : Int32} (hg : MG S0 T g) (h52 : ∀ j, j < 3 → T 52 (3 * lev + j) = nI (en j)) (hl : gnf g + lev ≤ gst g) (h11 : T 44 11 = 4) (h12 : T 44 12 = nI f) (hf0 : 0 < f) (hf1 : f ≤ gnf g) : FinP S0 T (su (crH (moPop T D) lev) 44 10 (T 50 D)) lev D (4, v, f, gRelE g en) := by
  have hk : ∀ a b, ¬ ((a = 44 ∧ (b = 8 ∨ b = 10 ∨ b = 13)) ∨ a = 53) → su (crH (moPop T D) lev) 44 10 (T 50 D) a b = T a b := fun a b hab => by
    rw [su_k _ _ (by omega), crH_k _ _ (by omega), moPop_k _ _ (by omega)]
  refine ⟨(hg.crh (d := D) h52).scr (fun a b hab => su_k _ _ (by unfold MScr at hab; omega)), ?_, ?_, fun a b a1 a2 => hk a b (by omega), ?_, Or.inr ⟨rfl, (hk _ _ (by omega)).trans h11, (hk _ _ (by omega)).trans h12, hf0, hf1, su_same _ _ _ _⟩⟩
  · rw [su_k _ _ (by omega)]
    unfold crH
    rw [su_k _ _ (by omega), su_k _ _ (by omega), su_k _ _ (by omega), su_same]
  · rw [su_k _ _ (by omega), crH_k _ _ (by omega)]
    exact su_same _ _ _ _
  · show gnf g + lev ≤ gst g + 1
    omega
theorem fin_owe {S0 T : SS} {lev D ca : Nat} {g : GS} {en : Nat → Nat} {v : Int32} (hg : MG S0 T g) (h52 : ∀ j, j < 3 → T 52 (3 * lev + j) = nI (en j)) (hl : gnf g + lev ≤ gst g) (hca : ca ≤ gnf g) : FinP S0 T (su (moRaise (crH (moPop T D) lev) (gnf g) 4 (nI ca)) 44 10 (T 50 D)) lev D (4, v, gnf g + 1, gMk (gRelE g en) 4 ca) := by
  have hst := hg.2.1.2.1
  have hk : ∀ a b, ¬ ((a = 44 ∧ (b = 8 ∨ b = 10 ∨ b = 13 ∨ b = 11 ∨ b = 12 ∨ b = 18)) ∨ a = 53 ∨ a = 54 ∨ a = 55) → su (moRaise (crH (moPop T D) lev) (gnf g) 4 (nI ca)) 44 10 (T 50 D) a b = T a b := fun a b hab => by
    rw [su_k _ _ (by omega), moRaise_k _ _ _ _ (by omega), crH_k _ _ (by omega), moPop_k _ _ (by omega)]
  have h1 := (hg.crh (d := D) h52).mk (show gnf g < 301 by omega) 4 ca hca
  refine ⟨h1.scr (fun a b hab => ?_), ?_, ?_, fun a b a1 a2 => hk a b (by omega), ?_, Or.inr ⟨rfl, ?_, ?_, Nat.succ_pos _, Nat.le_refl _, su_same _ _ _ _⟩⟩
  · unfold MScr at hab
    rw [su_k _ _ (by omega)]
    unfold moRaise
    exact moEnds_k _ _ _ (by omega)
  · rw [su_k _ _ (by omega), moRaise_k _ _ _ _ (by omega)]
    unfold crH
    rw [su_k _ _ (by omega), su_k _ _ (by omega), su_k _ _ (by omega), su_same]
  · rw [su_k _ _ (by omega), moRaise_k _ _ _ _ (by omega), crH_k _ _ (by omega)]
    exact su_same _ _ _ _
  · show gnf g + 1 + lev ≤ gst g + 1
    omega
  · rw [su_k _ _ (by omega)]
    exact moRaise_11 _ _ _ _
  · rw [su_k _ _ (by omega)]
    unfold moRaise moEnds
    rw [su_same]
theorem fin_cl {l : Launch} {G : WG} {S0 S T : SS} {lev D c e : Nat} {r : RR} (ho : MOk S0 S T lev D c e r) (hNB : NB r.1) (hlev : lev < 6) (hD : D < 79) (h48 : T 48 D = 20) : ∃ X, Cv l y_MO_close b_MO_close 5 3 G [.ref (gA G 44)] T (fun S1 => S1 = X) ∧ FinP S0 T X lev D (sFin r) := by
  obtain ⟨o1, o2, ⟨o3, o4, o5, o6⟩, ⟨o7, o8, o9⟩, -, ⟨e1, e2, e3, e4⟩⟩ := ho
  have hst := o2.2.1.2.1
  have hn := o2.2.1.2.2.2.2.2.2.1
  have how : moOwes T lev = enOwe r.2.2.2.2.2 := owes_eq o6 (fun j hj => by have := o9 j hj; omega)
  unfold sFin
  rw [if_neg (show ¬ r.1 = 5 by omega)]
  have hpk : ∀ b, ¬ b = 8 → moPop T D 44 b = T 44 b := fun b hb => moPop_k _ _ (by omega)
  cases hw : enOwe r.2.2.2.2.2 with
  | true =>
    rw [if_pos rfl]
    rw [hw] at how
    by_cases h4 : r.1 = 4
    · rw [if_pos h4]
      have e12 : moPop T D 44 12 = nI r.2.2.1 := (hpk 12 (by decide)).trans (e4 h4).1
      refine ⟨_, m_MO_close_runO4 l G T D hD o4 h48 lev hlev o3 (by rw [e1, h4]; rfl) how (gnf r.2.2.2.1) (by omega) hn, ?_⟩
      rw [e12]
      exact fin_owe o2 o6 o7 (e4 h4).2.2
    · rw [if_neg h4]
      by_cases h3 : r.1 = 3
      · exact ⟨_, m_MO_close_runO3 l G T D hD o4 h48 lev hlev o3 (by rw [e1, h3]; rfl) how (gnf r.2.2.2.1) (by omega) hn, fin_owe (ca := 0) o2 o6 o7 (Nat.zero_le _)⟩
      · have h0 : r.1 = 0 := by
          have := hNB.1
          have := hNB.2
          omega
        exact ⟨_, m_MO_close_runO0 l G T D hD o4 h48 lev hlev o3 (by rw [e1, h0]; rfl) how (gnf r.2.2.2.1) (by omega) hn, fin_owe (ca := 0) o2 o6 o7 (Nat.zero_le _)⟩
  | false =>
    rw [if_neg (by decide)]
    rw [hw] at how
    by_cases h4 : r.1 = 4
    · rw [if_pos h4]
      obtain ⟨e41, e42, e43⟩ := e4 h4
      exact ⟨_, m_MO_close_runV4 l G T D hD o4 h48 lev hlev o3 (by rw [e1, h4]; rfl) how (gnf r.2.2.2.1) (by omega) hn, fin_flt o2 o6 o7 (by rw [e1, h4]; rfl) e41 e42 e43⟩
    · rw [if_neg h4]
      by_cases h3 : r.1 = 3
      · rw [if_pos h3]
        exact ⟨_, m_MO_close_runV3 l G T D hD o4 h48 lev hlev o3 (by rw [e1, h3]; rfl) how (gnf r.2.2.2.1) (by omega) hn, fin_val o2 o6 o7 ((hpk 12 (by decide)).trans (e3 h3))⟩
      · rw [if_neg h3]
        have h0 : r.1 = 0 := by
          have := hNB.1
          have := hNB.2
          omega
        exact ⟨_, m_MO_close_runV0 l G T D hD o4 h48 lev hlev o3 (by rw [e1, h0]; rfl) how (gnf r.2.2.2.1) (by omega) hn, fin_val o2 o6 o7 ((hpk 10 (by decide)).trans o5)⟩
/-- a text is begun: the frame, from what was there -/
theorem beg_at {S0 X T : SS} {lev D pr : Nat} {g : GS} {ac : Int32} (hg : MG S0 X g) (hk : ∀ a b, ¬ (((a = 48 ∨ a = 49 ∨ a = 50 ∨ a = 51) ∧ b = D) ∨ (a = 44 ∧ (b = 8 ∨ b = 9 ∨ b = 13)) ∨ (a = 52 ∧ 3 * lev ≤ b ∧ b < 3 * lev + 3)) → T a b = X a b) (h8 : T 44 8 = nI (D + 1)) (h9 : T 44 9 = nI (32 * pr)) (h13 : T 44 13 = nI (lev + 1)) (h52 : ∀ j, j < 3 → T 52 (3 * lev + j) = 0) (hac : X 44 10 = ac) (h11 : X 44 11 = 0) (hl : gnf g + lev ≤ gst g) : MAt S0 T lev D 0 false (32 * pr) (g, ac, fun _ => 0) :=
  ⟨hg.scr (fun a b hab => hk a b (by unfold MScr at hab; omega)), ⟨h13, h8, (hk _ _ (by omega)).trans hac, fun j hj => h52 j hj⟩, ⟨hl, Nat.zero_le _, fun j _ => Nat.zero_le _⟩, fun h => absurd h (by decide), (hk _ _ (by omega)).trans h11, h9⟩
theorem moBegin_9 (S : SS) (D q pr : Nat) (x : Int32) : moBegin S D q (nI pr) x 44 9 = nI (32 * pr) := by
  unfold moBegin moEnter
  rw [su_k _ _ (by omega), su_k _ _ (by omega), su_k _ _ (by omega), su_k _ _ (by omega), su_same, Int32.sub_add_cancel, show (32 : Int32) = nI 32 from rfl, pk_mul]
theorem moBegin_13 (S : SS) (D q : Nat) (p x : Int32) : moBegin S D q p x 44 13 = nI (q + 1) := by
  unfold moBegin
  rw [su_same]
theorem moBegin_52 (S : SS) (D q : Nat) (p x : Int32) {j : Nat} (hj : j < 3) : moBegin S D q p x 52 (3 * q + j) = 0 := by
  unfold moBegin
  rcases (show j = 0 ∨ j = 1 ∨ j = 2 by omega) with rfl | rfl | rfl
  · rw [su_k _ _ (by omega), su_k _ _ (by omega), su_k _ _ (by omega)]
    exact su_same _ _ _ _
  · rw [su_k _ _ (by omega), su_k _ _ (by omega), su_same]
  · rw [su_k _ _ (by omega), su_same]
theorem moBegin_48 (S : SS) (D q : Nat) (p x : Int32) : moBegin S D q p x 48 D = 20 := by
  unfold moBegin moEnter
  rw [su_k _ _ (by omega), su_k _ _ (by omega), su_k _ _ (by omega), su_k _ _ (by omega), su_k _ _ (by omega), su_k _ _ (by omega), su_k _ _ (by omega), su_k _ _ (by omega), su_k _ _ (by omega), su_same]
theorem moBegin_50 (S : SS) (D q : Nat) (p x : Int32) : moBegin S D q p x 50 D = x := by
  unfold moBegin moEnter
  rw [su_k _ _ (by omega), su_k _ _ (by omega), su_k _ _ (by omega), su_k _ _ (by omega), su_k _ _ (by omega), su_k _ _ (by omega), su_k _ _ (by omega), su_same]
section SIMC
variable {l : Launch} {G : WG} {P : SS → Prop} {S0 S : SS} {op ar : Nat → Int32} {E sz : Nat → Nat} {lev p D c d Fb F e : Nat} {t k : Bool} {i : Nat} {s : SG}
theorem sim_call (h : ItA l G P S0 S op ar sz lev p D c k i s) (hB : SimB P S0 op ar E sz F) (hd : D + 1 + d ≤ 6 * lev + 6) (hF : 200 * (5 - lev) ≤ F) (h13 : op i = 13) {pr : Nat} (hpr : pr < 4) (ha : ar i = nI pr) (hbl : ∀ p, p < 4 → 0 < sz p → ∃ Fb, blk op ar E Fb 5 false false (32 * p) (32 * p + sz p - 1))
    (hk : ∀ T, MOut S0 S T lev D c (i + 1) (if lev = 5 then rFa (gStep s.1) 5 0 s.2.1 s.2.2 else if sz pr = 0 then rOn (gStep s.1, s.2.1, s.2.2) else sCall (sFin (sB op ar E sz F (lev + 1) 0 (32 * pr) (gStep s.1, s.2.1, fun _ => 0))) s.2.1 s.2.2) → P T) : P S := by
  obtain ⟨s1, s2, s3, s4, s5, s6⟩ := h.stp
  have hb := h.2.2.2.2.2.2.2.1
  have hi128 := h.i128
  obtain ⟨hP, hTM, hlev, hp, hpi, hpi2, hD, -, hst, -⟩ := id h
  have hsz := (hTM pr hpr).2.1
  have h32 := (hTM pr hpr).1
  have hb47 : S 47 pr = nI (sz pr) := (hb.1.1.sz pr).trans hsz
  have hn18 := hb.1.2.1.2.2.2.2.2.2.1
  have hnf := hb.1.2.1.2.2.2.2.2.2.2.1
  by_cases h5 : lev = 5
  · rw [if_pos h5] at hk
    exact h.go (m_MO_item_deep l G S i (gst s.1) hi128 hb.2.2.2.2.2 (by omega) hb.1.2.1.1 (h.opi.trans h13) pr hpr (h.ari.trans ha) (gnf s.1) (by omega) hn18 (by rw [hb.2.1.1, h5]; rfl)) (hk _ (sim_rs h 5 0 _ (Nat.zero_le _)))
  rw [if_neg h5] at hk
  by_cases hz : sz pr = 0
  · rw [if_pos hz] at hk
    refine h.go (m_MO_item_empty l G S i (gst s.1) hi128 hb.2.2.2.2.2 (by omega) hb.1.2.1.1 (h.opi.trans h13) pr hpr (h.ari.trans ha) (lev + 1) (by omega) hb.2.1.1 (by rw [hb47, hz]; rfl)) (hk _ ?_)
    have hkk : ∀ a b, ¬ (a = 44 ∧ (b = 19 ∨ b = 9)) → moStep S i (gst s.1) a b = S a b := fun a b hab => moStep_k _ _ _ hab
    exact mout_of (k := k) (i := i) (s := s) hb (show 0 < 5 by decide) (fun a b hab => hkk a b (by omega)) s1 ((hkk _ _ (by omega)).trans hb.2.1.2.2.1) (fun j hj => (hkk _ _ (by omega)).trans (hb.2.1.2.2.2 j hj)) (lim_s h) (men_on ((hkk _ _ (by omega)).trans hb.2.2.2.2.1) s6)
  rw [if_neg hz] at hk
  refine h.go (m_MO_item_call l G S i (gst s.1) hi128 hb.2.2.2.2.2 (by omega) hb.1.2.1.1 (h.opi.trans h13) pr hpr (h.ari.trans ha) (D + 1) (by omega) hb.2.1.2.1 (lev + 1) (by omega) hb.2.1.1 (sz pr) (by omega) (by omega) hb47) ?_
  have x10 : moStep S i (gst s.1) 44 10 = s.2.1 := (moStep_k _ _ _ (by omega)).trans hb.2.1.2.2.1
  have hkk : ∀ a b, ¬ (((a = 48 ∨ a = 49 ∨ a = 50 ∨ a = 51) ∧ b = D + 1) ∨ (a = 44 ∧ (b = 8 ∨ b = 9 ∨ b = 13)) ∨ (a = 52 ∧ 3 * (lev + 1) ≤ b ∧ b < 3 * (lev + 1) + 3)) → moCall (moStep S i (gst s.1)) (D + 1) (lev + 1) (nI pr) a b = moStep S i (gst s.1) a b := fun a b hab => by
    unfold moCall
    rw [su_k _ _ (by omega), moBegin_k _ _ _ _ _ (by omega)]
  have g48 : moCall (moStep S i (gst s.1)) (D + 1) (lev + 1) (nI pr) 48 (D + 1) = 20 := by
    unfold moCall
    rw [su_k _ _ (by omega)]
    exact moBegin_48 _ _ _ _ _
  have g50 : moCall (moStep S i (gst s.1)) (D + 1) (lev + 1) (nI pr) 50 (D + 1) = s.2.1 := by
    unfold moCall
    rw [su_k _ _ (by omega), moBegin_50]
    exact x10
  have g51 : moCall (moStep S i (gst s.1)) (D + 1) (lev + 1) (nI pr) 51 (D + 1) = nI (i + 1) := by
    unfold moCall
    rw [su_same]
    exact s6
  have h8 : moCall (moStep S i (gst s.1)) (D + 1) (lev + 1) (nI pr) 44 8 = nI (D + 1 + 1) := by
    unfold moCall
    rw [su_k _ _ (by omega)]
    exact moBegin_8 _ _ _ _ _
  have h9 : moCall (moStep S i (gst s.1)) (D + 1) (lev + 1) (nI pr) 44 9 = nI (32 * pr) := by
    unfold moCall
    rw [su_k _ _ (by omega)]
    exact moBegin_9 _ _ _ _ _
  have hh13 : moCall (moStep S i (gst s.1)) (D + 1) (lev + 1) (nI pr) 44 13 = nI (lev + 1 + 1) := by
    unfold moCall
    rw [su_k _ _ (by omega)]
    exact moBegin_13 _ _ _ _ _
  have h52 : ∀ j, j < 3 → moCall (moStep S i (gst s.1)) (D + 1) (lev + 1) (nI pr) 52 (3 * (lev + 1) + j) = 0 := fun j hj => by
    unfold moCall
    rw [su_k _ _ (by omega)]
    exact moBegin_52 _ _ _ _ _ hj
  have hA := beg_at s1 hkk h8 h9 hh13 h52 x10 ((moStep_k _ _ _ (by omega)).trans hb.2.2.2.2.1) (by omega)
  generalize moCall (moStep S i (gst s.1)) (D + 1) (lev + 1) (nI pr) = T1 at hkk g48 g50 g51 hA ⊢
  obtain ⟨Fb2, hb2⟩ := hbl pr hpr (by omega)
  refine hB (lev + 1) pr 5 (D + 1) 0 false false Fb2 (32 * pr) (32 * pr + sz pr - 1) _ _ (by omega) hpr (Nat.le_refl _) (Nat.le_refl _) (by omega) (by omega) (by omega) hb2 hA (fun T2 ho => ?_)
  have hnb := sB_nb (op := op) (ar := ar) (E := E) (sz := sz) F Fb2 5 false (lev + 1) 0 (32 * pr) _ (gStep s.1, s.2.1, fun _ => 0) hb2
  have hmn := sB_mn (op := op) (ar := ar) (E := E) (sz := sz) F (lev + 1) 0 (32 * pr) (gStep s.1, s.2.1, fun _ => 0)
  have hms := sB_ms (op := op) (ar := ar) (E := E) (sz := sz) F (lev + 1) 0 (32 * pr) (gStep s.1, s.2.1, fun _ => 0)
  generalize sB op ar E sz F (lev + 1) 0 (32 * pr) (gStep s.1, s.2.1, fun _ => 0) = r at ho hk hnb hmn hms
  rcases ho with ⟨hr5, hl⟩ | ho
  · have hfin : sFin r = (5, 0, 0, r.2.2.2.1) := by
      unfold sFin
      rw [if_pos hr5]
    rw [hfin] at hk
    exact hk T2 (Or.inl ⟨rfl, hl⟩)
  · have f48 := (ho.2.2.2.2.1.1 48 (D + 1) (by decide) (by decide) (Nat.le_refl _)).trans g48
    have f50 := (ho.2.2.2.2.1.1 50 (D + 1) (by decide) (by decide) (Nat.le_refl _)).trans g50
    have f51 := (ho.2.2.2.2.1.1 51 (D + 1) (by decide) (by decide) (Nat.le_refl _)).trans g51
    obtain ⟨X, hc, x1, x2, x3, x4, x5, x6⟩ := fin_cl (l := l) (G := G) ho hnb (by omega) (by omega) f48
    refine mcl hP hTM hpr (by omega) (by omega) (blk_end _ _ _ _ _ _ hb2).1 ho (by omega) (by decide) hc (hk X ?_)
    have hsk : MSk D lev X S := ⟨fun a j a1 a2 a3 => by
        rw [x4 a j a1 (by omega), ho.2.2.2.2.1.1 a j a1 a2 (by omega), hkk a j (by omega), moStep_k _ _ _ (by omega)], fun j hj => by
        rw [x4 52 j (by decide) (by decide), ho.2.2.2.2.1.2 j (by omega), hkk 52 j (by omega), moStep_k _ _ _ (by omega)]⟩
    have hx52 : ∀ j, j < 3 → X 52 (3 * lev + j) = nI (s.2.2 j) := fun j hj => by
      rw [x4 52 _ (by decide) (by decide), ho.2.2.2.2.1.2 _ (by omega), hkk 52 _ (by omega), moStep_k _ _ _ (by omega)]
      exact hb.2.1.2.2.2 j hj
    have hms2 : gst (gStep s.1) ≤ gst (sFin r).2.2.2 := Nat.le_trans hms (sFin_ms r)
    have hmn2 : gnf (gStep s.1) ≤ gnf (sFin r).2.2.2 := Nat.le_trans hmn (sFin_mn r)
    generalize sFin r = u at x1 x5 x6 hms2 hmn2 ⊢
    have hLm : Lim lev c u.2.2.2 s.2.2 := ⟨by omega, by omega, fun j hj => by have := s4 j hj; omega⟩
    rcases x6 with ⟨y1, y2, y3, y4⟩ | ⟨y1, y2, y3, y4, y5, y6⟩
    · have hs : sCall u s.2.1 s.2.2 = rOn (u.2.2.2, u.2.1, s.2.2) := by
        unfold sCall
        rw [if_neg (by omega), if_neg (by omega)]
      rw [hs]
      exact Or.inr ⟨show 0 < 5 by decide, x1, ⟨x2, x3, y3, hx52⟩, hLm, hsk, men_on y2 (y4.trans f51)⟩
    · have hs : sCall u s.2.1 s.2.2 = (4, 0, u.2.2.1, u.2.2.2, s.2.1, s.2.2) := by
        unfold sCall
        rw [if_neg (by omega), if_pos y1]
      rw [hs]
      exact Or.inr ⟨show 4 < 5 by decide, x1, ⟨x2, x3, y6.trans f50, hx52⟩, hLm, hsk, men_fa y2 y3 y4 y5⟩
end SIMC
