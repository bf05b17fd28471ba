/-! blocks begun and left again: ABOVE, LOCK, TIMES -/
def SimB (P : SS → Prop) (S0 : SS) (op ar : Nat → Int32) (E sz : Nat → Nat) (F : Nat) : Prop :=
  ∀ (lev p d D c : Nat) (t k : Bool) (Fb i e : Nat) (S : SS) (s : SG), lev < 6 → p < 4 → d ≤ 5 → 32 * p ≤ i → e < 32 * p + sz p → D + 1 + d ≤ 6 * lev + 6 → e + 1 + 200 * (5 - lev) ≤ i + F → blk op ar E Fb d t k i e → MAt S0 S lev D c k i s → (∀ T, MOut S0 S T lev D c e (sB op ar E sz F lev c i s) → P T) → P S
theorem push_at {S0 S X : SS} {lev D c : Nat} {k : Bool} {i : Nat} {s : SG} {g : GS} (hb : MAt S0 S lev D c k i s) (hX : ∀ a b, ¬ ((a = 44 ∧ (b = 19 ∨ b = 9 ∨ b = 20)) ∨ a = 53) → X a b = S a b) (hg : MG S0 X g) (hL : Lim lev c g s.2.2) (kd dt : Int32) (hkd : ¬ kd = 16) :
    MAt S0 (moEnter X (D + 1) kd (nI i) dt) lev (D + 1) c k (i + 1) (g, s.2.1, s.2.2) ∧ MSk D lev (moEnter X (D + 1) kd (nI i) dt) S ∧ moEnter X (D + 1) kd (nI i) dt 48 (D + 1) = kd ∧ moEnter X (D + 1) kd (nI i) dt 49 (D + 1) = nI i ∧ moEnter X (D + 1) kd (nI i) dt 50 (D + 1) = dt := by
  obtain ⟨b1, ⟨b2, b3, b4, b5⟩, b6, b7, b8, b9⟩ := hb
  have hk : ∀ a b, ¬ (((a = 48 ∨ a = 49 ∨ a = 50 ∨ a = 51) ∧ b = D + 1) ∨ (a = 44 ∧ (b = 8 ∨ b = 9 ∨ b = 19 ∨ b = 20)) ∨ a = 53) → moEnter X (D + 1) kd (nI i) dt a b = S a b := fun a b hab => by
    rw [moEnter_k _ _ _ _ _ (by omega), hX a b (by omega)]
  have h48 : moEnter X (D + 1) kd (nI i) dt 48 (D + 1) = kd := by
    unfold moEnter
    rw [su_k _ _ (by omega), su_k _ _ (by omega), su_k _ _ (by omega), su_k _ _ (by omega), su_k _ _ (by omega), su_same]
  have hsk : MSk D lev (moEnter X (D + 1) kd (nI i) dt) S := ⟨fun a j h1 h2 h3 => hk a j (by omega), fun j hj => hk 52 j (by omega)⟩
  refine ⟨⟨hg.scr (fun a b hab => moEnter_k _ _ _ _ _ (by unfold MScr at hab; omega)), ⟨(hk _ _ (by omega)).trans b2, moEnter_8 _ _ _ _ _, (hk _ _ (by omega)).trans b4, fun j hj => (hk _ _ (by omega)).trans (b5 j hj)⟩, hL, b7.up hsk (by rw [h48]; exact hkd), (hk _ _ (by omega)).trans b8, ?_⟩, hsk, h48, ?_, ?_⟩
  · unfold moEnter
    rw [su_same, nI_1]
  · unfold moEnter
    rw [su_k _ _ (by omega), su_k _ _ (by omega), su_k _ _ (by omega), su_k _ _ (by omega), su_same]
  · unfold moEnter
    rw [su_k _ _ (by omega), su_k _ _ (by omega), su_k _ _ (by omega), su_same]
theorem pop_ok {S0 S T1 T2 T3 : SS} {lev D c c2 e nx n f : Nat} {v : Int32} {r : RR} {g : GS} (h1 : MSk D lev T1 S) (ho : MOk S0 T1 T2 lev (D + 1) c2 e r) (hk : ∀ a b, (a = 44 ∧ (b = 10 ∨ b = 13)) ∨ (48 ≤ a ∧ a ≤ 52) → T3 a b = T2 a b) (h8 : T3 44 8 = nI (D + 1)) (hg : MG S0 T3 g) (hL : Lim lev c g r.2.2.2.2.2) (hn : n < 5) (hE : MEn T3 nx (n, v, f, g, r.2.2.2.2.1, r.2.2.2.2.2)) : MOut S0 S T3 lev D c nx (n, v, f, g, r.2.2.2.2.1, r.2.2.2.2.2) := by
  obtain ⟨o1, o2, ⟨o3, o4, o5, o6⟩, o7, o8, o9⟩ := ho
  exact Or.inr ⟨hn, hg, ⟨(hk _ _ (by omega)).trans o3, h8, (hk _ _ (by omega)).trans o5, fun j hj => (hk _ _ (by omega)).trans (o6 j hj)⟩, hL, ⟨fun a j a1 a2 a3 => ((hk a j (by omega)).trans (o8.1 a j a1 a2 (by omega))).trans (h1.1 a j a1 a2 a3), fun j hj => ((hk 52 j (by omega)).trans (o8.2 j hj)).trans (h1.2 j hj)⟩, hE⟩
theorem rr_eta (r : RR) : (r.1, r.2.1, r.2.2.1, r.2.2.2.1, r.2.2.2.2.1, r.2.2.2.2.2) = r := rfl
/-- the block is left, the ending goes on (or the items behind it do) -/
theorem pop_on {S0 S T1 T2 : SS} {lev D c c2 e nx : Nat} {r : RR} (h1 : MSk D lev T1 S) (ho : MOk S0 T1 T2 lev (D + 1) c2 e r) (hL : Lim lev c r.2.2.2.1 r.2.2.2.2.2) (h0 : r.1 = 0) : MOut S0 S (su (moPop T2 (D + 1)) 44 9 (nI nx)) lev D c nx r := by
  refine pop_ok (n := r.1) (v := r.2.1) (f := r.2.2.1) h1 ho (fun a b hab => ?_) ?_ ?_ hL ho.1 ⟨?_, fun _ => su_same _ _ _ _, fun h => absurd (h0.symm.trans h) (by decide), fun h => absurd (h0.symm.trans h) (by decide)⟩
  · rw [su_k _ _ (by omega), moPop_k _ _ (by omega)]
  · rw [su_k _ _ (by omega)]
    exact su_same _ _ _ _
  · exact ho.2.1.scr (fun a b hab => by unfold MScr at hab; rw [su_k _ _ (by omega), moPop_k _ _ (by omega)])
  · rw [su_k _ _ (by omega), moPop_k _ _ (by omega)]
    exact ho.2.2.2.2.2.1
theorem pop_out {S0 S T1 T2 : SS} {lev D c c2 e nx : Nat} {r : RR} (h1 : MSk D lev T1 S) (ho : MOk S0 T1 T2 lev (D + 1) c2 e r) (hL : Lim lev c r.2.2.2.1 r.2.2.2.2.2) (h0 : ¬ r.1 = 0) : MOut S0 S (moPop T2 (D + 1)) lev D c nx r := by
  obtain ⟨e1, e2, e3, e4⟩ := ho.2.2.2.2.2
  refine pop_ok (n := r.1) (v := r.2.1) (f := r.2.2.1) h1 ho (fun a b hab => moPop_k _ _ (by omega)) (su_same _ _ _ _) (ho.2.1.scr (fun a b hab => moPop_k _ _ (by unfold MScr at hab; omega))) hL ho.1 ⟨(moPop_k _ _ (by omega)).trans e1, fun h => absurd h h0, fun h => (moPop_k _ _ (by omega)).trans (e3 h), fun h => ⟨(moPop_k _ _ (by omega)).trans (e4 h).1, (e4 h).2⟩⟩
section SIMB
variable {l : Launch} {G : WG} {P : SS → Prop} {S0 S : SS} {op ar : Nat → Int32} {E sz : Nat → Nat} {lev p D c d Fb F e : Nat} {t k : Bool} {i : Nat} {s : SG}
theorem sim_above (h : ItA l G P S0 S op ar sz lev p D c k i s) (hB : SimB P S0 op ar E sz F) (hd : D + 1 + d ≤ 6 * lev + 6) (hd5 : d ≤ 5) (hd0 : 0 < d) (hiE : i < E i) (hE : E i < e) (he : e < 32 * p + sz p) (hF : e + 200 * (5 - lev) ≤ i + F) (hbl : blk op ar E Fb (d - 1) t k (i + 1) (E i)) (h14 : op i = 14) (ha : ar i < s.2.1)
    (hk : ∀ T, MOut S0 S T lev D c (E i + 1) (sB op ar E sz F lev c (i + 1) (gStep s.1, s.2.1, s.2.2)) → P T) : P S := by
  obtain ⟨s1, -, -, -, -, -⟩ := h.stp
  have hb := h.2.2.2.2.2.2.2.1
  have hX : ∀ a b, ¬ ((a = 44 ∧ (b = 19 ∨ b = 9 ∨ b = 20)) ∨ a = 53) → moStep S i (gst s.1) a b = S a b := fun a b hab => moStep_k _ _ _ (by omega)
  obtain ⟨p1, p2, p3, p4, p5⟩ := push_at hb hX s1 (lim_s h) 14 0 (by decide)
  refine h.go (m_MO_item_above l G S i (gst s.1) h.i128 hb.2.2.2.2.2 (by have := h.2.2.2.2.2.2.2.2.1; omega) hb.1.2.1.1 (h.opi.trans h14) (D + 1) (by have := h.2.2.2.2.2.2.1; omega) hb.2.1.2.1 (by rw [h.ari, hb.2.1.2.2.1]; exact ha)) ?_
  obtain ⟨hP, hTM, hlev, hp, hpi, hpi2, hD, -, -, -⟩ := id h
  have hi128 := h.i128
  refine hB lev p (d - 1) (D + 1) c t k Fb (i + 1) (E i) _ _ hlev hp (by omega) (by omega) (by omega) (by omega) (by omega) hbl p1 (fun T2 ho => ?_)
  rcases ho with ⟨h5, hl⟩ | ho
  · exact hk T2 (Or.inl ⟨h5, hl⟩)
  · have hL := ho.2.2.2.1
    have f48 := (ho.2.2.2.2.1.1 48 (D + 1) (by decide) (by decide) (Nat.le_refl _)).trans p3
    have f49 := (ho.2.2.2.2.1.1 49 (D + 1) (by decide) (by decide) (Nat.le_refl _)).trans p4
    have hcl := fun {X : SS} hc hx => mcl (X := X) hP hTM hp (by omega) (by omega) (blk_end _ _ _ _ _ _ hbl).1 ho (by omega) (Nat.le_refl 5) hc hx
    by_cases h0 : (sB op ar E sz F lev c (i + 1) (gStep s.1, s.2.1, s.2.2)).1 = 0
    · have hsc : ∃ f, Sc (T2 45) f (i + 1) 1 (E i + 1) := sc_end (a := 32 * p) (b := 32 * p + sz p) (fun j j1 j2 => by rw [ho.2.1.1.op]; exact ((hTM p hp).2.2 j j1 j2).1) (by have := (hTM p hp).1; omega) (by omega) (by omega) (by omega) hbl
      exact hcl (m_MO_close_above_on l G T2 (D + 1) (by omega) ho.2.2.1.2.1 f48 i hi128 f49 (by rw [ho.2.2.2.2.2.1, h0]; rfl) (E i + 1) hsc) (hk _ (pop_on p2 ho hL h0))
    · exact hcl (m_MO_close_above_out l G T2 (D + 1) (by omega) ho.2.2.1.2.1 f48 i hi128 f49 (by rw [ho.2.2.2.2.2.1]; exact nI5 ho.1 h0)) (hk _ (pop_out p2 ho hL h0))
theorem gRel_rw {S0 T : SS} {g : GS} (h : MG S0 T g) {lo d : Nat} (hl : lo < 3) : MG S0 (su (moPop T d) 53 lo (T 53 lo - 1)) (gRel g lo 1) := by
  have h1 := (h.scr (X := moPop T d) (fun a b hab => moPop_k _ _ (by unfold MScr at hab; omega))).rel hl 1
  rw [show moPop T d 53 lo = T 53 lo from moPop_k _ _ (by omega)] at h1
  exact h1
theorem sim_lock (h : ItA l G P S0 S op ar sz lev p D c k i s) (hB : SimB P S0 op ar E sz F) (hd : D + 1 + d ≤ 6 * lev + 6) (hd5 : d ≤ 5) (hd0 : 0 < d) (hiE : i < E i) (hE : E i < e) (he : e < 32 * p + sz p) (hF : e + 200 * (5 - lev) ≤ i + F) (hbl : blk op ar E Fb (d - 1) t k (i + 1) (E i)) (h10 : op i = 10) {lo : Nat} (hlo : lo < 3) (ha : ar i = nI lo) {r : RR} (hr : r = sB op ar E sz F lev c (i + 1) (gHold (gStep s.1) lo, s.2.1, s.2.2))
    (hk : ∀ T, MOut S0 S T lev D c (E i + 1) (if r.1 = 5 then r else (r.1, r.2.1, r.2.2.1, gRel r.2.2.2.1 lo 1, r.2.2.2.2)) → P T) : P S := by
  obtain ⟨s1, s2, s3, s4, -, -⟩ := h.stp
  have hb := h.2.2.2.2.2.2.2.1
  have hX : ∀ a b, ¬ ((a = 44 ∧ (b = 19 ∨ b = 9 ∨ b = 20)) ∨ a = 53) → moHold (moStep S i (gst s.1)) lo a b = S a b := fun a b hab => by
    rw [moHold_k _ _ (by omega), moStep_k _ _ _ (by omega)]
  obtain ⟨p1, p2, p3, p4, p5⟩ := push_at hb hX (s1.hold hlo) (lim_s h) 10 (nI lo) (by decide)
  refine h.go (m_MO_item_lock l G S i (gst s.1) h.i128 hb.2.2.2.2.2 (by have := h.2.2.2.2.2.2.2.2.1; omega) hb.1.2.1.1 (h.opi.trans h10) (D + 1) (by have := h.2.2.2.2.2.2.1; omega) hb.2.1.2.1 lo hlo (h.ari.trans ha)) ?_
  obtain ⟨hP, hTM, hlev, hp, hpi, hpi2, hD, -, -, -⟩ := id h
  have hi128 := h.i128
  refine hB lev p (d - 1) (D + 1) c t k Fb (i + 1) (E i) _ _ hlev hp (by omega) (by omega) (by omega) (by omega) (by omega) hbl p1 (fun T2 ho => ?_)
  rw [← hr] at ho
  rcases ho with ⟨h5, hl⟩ | ho
  · rw [if_pos h5] at hk
    exact hk T2 (Or.inl ⟨h5, hl⟩)
  · have hn5 := ho.1
    rw [if_neg (by omega)] at hk
    have hL : Lim lev c (gRel r.2.2.2.1 lo 1) r.2.2.2.2.2 := ho.2.2.2.1
    obtain ⟨e1, e2, e3, e4⟩ := ho.2.2.2.2.2
    have f48 := (ho.2.2.2.2.1.1 48 (D + 1) (by decide) (by decide) (Nat.le_refl _)).trans p3
    have f49 := (ho.2.2.2.2.1.1 49 (D + 1) (by decide) (by decide) (Nat.le_refl _)).trans p4
    have f50 := (ho.2.2.2.2.1.1 50 (D + 1) (by decide) (by decide) (Nat.le_refl _)).trans p5
    have hcl := fun {X : SS} hc hx => mcl (X := X) hP hTM hp (by omega) (by omega) (blk_end _ _ _ _ _ _ hbl).1 ho (by omega) (Nat.le_refl 5) hc hx
    have hg := gRel_rw (d := D + 1) ho.2.1 hlo
    by_cases h0 : r.1 = 0
    · have hsc : ∃ f, Sc (T2 45) f (i + 1) 1 (E i + 1) := sc_end (a := 32 * p) (b := 32 * p + sz p) (fun j j1 j2 => by rw [ho.2.1.1.op]; exact ((hTM p hp).2.2 j j1 j2).1) (by have := (hTM p hp).1; omega) (by omega) (by omega) (by omega) hbl
      refine hcl (m_MO_close_lock_on l G T2 (D + 1) (by omega) ho.2.2.1.2.1 f48 i hi128 f49 (by rw [e1, h0]; rfl) lo hlo f50 (E i + 1) hsc) (hk _ ?_)
      refine pop_ok p2 ho (fun a b hab => ?_) ?_ (hg.scr (fun a b hab => su_k _ _ (by unfold MScr at hab; omega))) hL hn5 ⟨?_, fun _ => su_same _ _ _ _, fun hx => absurd (h0.symm.trans hx) (by decide), fun hx => absurd (h0.symm.trans hx) (by decide)⟩
      · rw [su_k _ _ (by omega), su_k _ _ (by omega), moPop_k _ _ (by omega)]
      · rw [su_k _ _ (by omega), su_k _ _ (by omega)]
        exact su_same _ _ _ _
      · rw [su_k _ _ (by omega), su_k _ _ (by omega), moPop_k _ _ (by omega)]
        exact e1
    · refine hcl (m_MO_close_lock_out l G T2 (D + 1) (by omega) ho.2.2.1.2.1 f48 i hi128 f49 lo hlo f50 (by rw [e1]; exact nI5 hn5 h0)) (hk _ ?_)
      have hkk : ∀ a b, ¬ ((a = 44 ∧ b = 8) ∨ a = 53) → su (moPop T2 (D + 1)) 53 lo (T2 53 lo - 1) a b = T2 a b := fun a b hab => by
        rw [su_k _ _ (by omega), moPop_k _ _ (by omega)]
      refine pop_ok p2 ho (fun a b hab => hkk a b (by omega)) ?_ hg hL hn5 ⟨(hkk _ _ (by omega)).trans e1, fun hx => absurd hx h0, fun hx => (hkk _ _ (by omega)).trans (e3 hx), fun hx => ⟨(hkk _ _ (by omega)).trans (e4 hx).1, (e4 hx).2⟩⟩
      rw [su_k _ _ (by omega)]
      exact su_same _ _ _ _
/-- TIMES, from a frame that has x rounds to go -/
theorem sim_rounds (hP : StpM l G P) (hTM : TM S0 op ar sz) (hlev : lev < 6) (hp : p < 4) (hpi : 32 * p ≤ i) (hB : SimB P S0 op ar E sz F) (hd : D + 1 + d ≤ 6 * lev + 6) (hd5 : d ≤ 5) (hd0 : 0 < d) (hiE : i < E i) (hE : E i < e) (he : e < 32 * p + sz p) (hF : e + 200 * (5 - lev) ≤ i + F) (hbl : blk op ar E Fb (d - 1) t k (i + 1) (E i)) :
    ∀ (x : Nat), x < 99 → ∀ (S1 : SS) (s1 : SG), MAt S0 S1 lev (D + 1) c k (i + 1) s1 → S1 48 (D + 1) = 3 → S1 49 (D + 1) = nI i → S1 50 (D + 1) = nI (x + 1) → MSk D lev S1 S → (∀ T, MOut S0 S T lev D c (E i + 1) (sTimes (sB op ar E sz F lev c (i + 1)) (x + 1) s1) → P T) → P S1 := by
  have hi128 : i < 128 := by have := (hTM p hp).1; omega
  intro x
  induction x with
  | zero =>
    intro hx S1 s1 hA q1 q2 q3 p2 hk
    refine hB lev p (d - 1) (D + 1) c t k Fb (i + 1) (E i) _ _ hlev hp (by omega) (by omega) (by omega) (by omega) (by omega) hbl hA (fun T2 ho => ?_)
    have hk2 : ∀ T, MOut S0 S T lev D c (E i + 1) (if (sB op ar E sz F lev c (i + 1) s1).1 = 1 then rOn (sB op ar E sz F lev c (i + 1) s1).2.2.2 else if (sB op ar E sz F lev c (i + 1) s1).1 = 0 ∨ (sB op ar E sz F lev c (i + 1) s1).1 = 2 then rOn (sB op ar E sz F lev c (i + 1) s1).2.2.2 else sB op ar E sz F lev c (i + 1) s1) → P T := hk
    generalize sB op ar E sz F lev c (i + 1) s1 = r at ho hk2
    rcases ho with ⟨h5, hl⟩ | ho
    · rw [if_neg (by omega), if_neg (by omega)] at hk2
      exact hk2 T2 (Or.inl ⟨h5, hl⟩)
    · have hn5 := ho.1
      obtain ⟨e1, e2, e3, e4⟩ := ho.2.2.2.2.2
      have f48 := (ho.2.2.2.2.1.1 48 (D + 1) (by decide) (by decide) (Nat.le_refl _)).trans q1
      have f49 := (ho.2.2.2.2.1.1 49 (D + 1) (by decide) (by decide) (Nat.le_refl _)).trans q2
      have f50 := (ho.2.2.2.2.1.1 50 (D + 1) (by decide) (by decide) (Nat.le_refl _)).trans q3
      have hcl := fun {X : SS} hc hx => mcl (X := X) hP hTM hp (by omega) (by omega) (blk_end _ _ _ _ _ _ hbl).1 ho (by omega) (Nat.le_refl 5) hc hx
      have hsc : ∃ f, Sc (T2 45) f (i + 1) 1 (E i + 1) := sc_end (a := 32 * p) (b := 32 * p + sz p) (fun j j1 j2 => by rw [ho.2.1.1.op]; exact ((hTM p hp).2.2 j j1 j2).1) (by have := (hTM p hp).1; omega) (by omega) (by omega) (by omega) hbl
      have hdone : MOut S0 S (su (su (moPop T2 (D + 1)) 44 9 (nI (E i + 1))) 44 11 0) lev D c (E i + 1) (rOn r.2.2.2) := by
        refine pop_ok (n := 0) (v := 0) (f := 0) p2 ho (fun a b hab => ?_) ?_ (ho.2.1.scr (fun a b hab => ?_)) ho.2.2.2.1 (by decide) (men_on (su_same _ _ _ _) ?_)
        · rw [su_k _ _ (by omega), su_k _ _ (by omega), moPop_k _ _ (by omega)]
        · rw [su_k _ _ (by omega), su_k _ _ (by omega)]
          exact su_same _ _ _ _
        · unfold MScr at hab
          rw [su_k _ _ (by omega), su_k _ _ (by omega), moPop_k _ _ (by omega)]
        · rw [su_k _ _ (by omega), su_same]
      rcases (show r.1 = 0 ∨ r.1 = 1 ∨ r.1 = 2 ∨ r.1 = 3 ∨ r.1 = 4 by omega) with h0 | h0 | h0 | h0 | h0
      · rw [if_neg (by omega), if_pos (by omega)] at hk2
        exact hcl (m_MO_close_times_done0 l G T2 (D + 1) (by omega) ho.2.2.1.2.1 f48 i hi128 f49 (by rw [e1, h0]; rfl) 1 (by decide) f50 (by decide) (E i + 1) hsc) (hk2 _ hdone)
      · rw [if_pos (by omega)] at hk2
        exact hcl (m_MO_close_times_break l G T2 (D + 1) (by omega) ho.2.2.1.2.1 f48 i hi128 f49 (by rw [e1, h0]; rfl) 1 (by decide) f50 (E i + 1) hsc) (hk2 _ hdone)
      · rw [if_neg (by omega), if_pos (by omega)] at hk2
        exact hcl (m_MO_close_times_done2 l G T2 (D + 1) (by omega) ho.2.2.1.2.1 f48 i hi128 f49 (by rw [e1, h0]; rfl) 1 (by decide) f50 (by decide) (E i + 1) hsc) (hk2 _ hdone)
      · rw [if_neg (by omega), if_neg (by omega)] at hk2
        exact hcl (m_MO_close_times_out3 l G T2 (D + 1) (by omega) ho.2.2.1.2.1 f48 i hi128 f49 (by rw [e1, h0]; rfl) 1 (by decide) f50) (hk2 _ (pop_out p2 ho ho.2.2.2.1 (by omega)))
      · rw [if_neg (by omega), if_neg (by omega)] at hk2
        exact hcl (m_MO_close_times_out4 l G T2 (D + 1) (by omega) ho.2.2.1.2.1 f48 i hi128 f49 (by rw [e1, h0]; rfl) 1 (by decide) f50) (hk2 _ (pop_out p2 ho ho.2.2.2.1 (by omega)))
  | succ x ih =>
    intro hx S1 s1 hA q1 q2 q3 p2 hk
    refine hB lev p (d - 1) (D + 1) c t k Fb (i + 1) (E i) _ _ hlev hp (by omega) (by omega) (by omega) (by omega) (by omega) hbl hA (fun T2 ho => ?_)
    have hk2 : ∀ T, MOut S0 S T lev D c (E i + 1) (if (sB op ar E sz F lev c (i + 1) s1).1 = 1 then rOn (sB op ar E sz F lev c (i + 1) s1).2.2.2 else if (sB op ar E sz F lev c (i + 1) s1).1 = 0 ∨ (sB op ar E sz F lev c (i + 1) s1).1 = 2 then sTimes (sB op ar E sz F lev c (i + 1)) (x + 1) (sB op ar E sz F lev c (i + 1) s1).2.2.2 else sB op ar E sz F lev c (i + 1) s1) → P T := hk
    generalize sB op ar E sz F lev c (i + 1) s1 = r at ho hk2
    rcases ho with ⟨h5, hl⟩ | ho
    · rw [if_neg (by omega), if_neg (by omega)] at hk2
      exact hk2 T2 (Or.inl ⟨h5, hl⟩)
    · have hn5 := ho.1
      obtain ⟨e1, e2, e3, e4⟩ := ho.2.2.2.2.2
      have f48 := (ho.2.2.2.2.1.1 48 (D + 1) (by decide) (by decide) (Nat.le_refl _)).trans q1
      have f49 := (ho.2.2.2.2.1.1 49 (D + 1) (by decide) (by decide) (Nat.le_refl _)).trans q2
      have f50 := (ho.2.2.2.2.1.1 50 (D + 1) (by decide) (by decide) (Nat.le_refl _)).trans q3
      have hcl := fun {X : SS} hc hx => mcl (X := X) hP hTM hp (by omega) (by omega) (blk_end _ _ _ _ _ _ hbl).1 ho (by omega) (Nat.le_refl 5) hc hx
      have hsc : ∃ f, Sc (T2 45) f (i + 1) 1 (E i + 1) := sc_end (a := 32 * p) (b := 32 * p + sz p) (fun j j1 j2 => by rw [ho.2.1.1.op]; exact ((hTM p hp).2.2 j j1 j2).1) (by have := (hTM p hp).1; omega) (by omega) (by omega) (by omega) hbl
      have hdone : MOut S0 S (su (su (moPop T2 (D + 1)) 44 9 (nI (E i + 1))) 44 11 0) lev D c (E i + 1) (rOn r.2.2.2) := by
        refine pop_ok (n := 0) (v := 0) (f := 0) p2 ho (fun a b hab => ?_) ?_ (ho.2.1.scr (fun a b hab => ?_)) ho.2.2.2.1 (by decide) (men_on (su_same _ _ _ _) ?_)
        · rw [su_k _ _ (by omega), su_k _ _ (by omega), moPop_k _ _ (by omega)]
        · rw [su_k _ _ (by omega), su_k _ _ (by omega)]
          exact su_same _ _ _ _
        · unfold MScr at hab
          rw [su_k _ _ (by omega), su_k _ _ (by omega), moPop_k _ _ (by omega)]
        · rw [su_k _ _ (by omega), su_same]
      have hagain : (∀ T, MOut S0 S T lev D c (E i + 1) (sTimes (sB op ar E sz F lev c (i + 1)) (x + 1) r.2.2.2) → P T) → P (su (moEnter (moPop T2 (D + 1)) (D + 1) 3 (nI i) (nI (x + 1 + 1 - 1))) 44 11 0) := fun hk3 => by
        have hkk : ∀ a b, ¬ (((a = 48 ∨ a = 49 ∨ a = 50 ∨ a = 51) ∧ b = D + 1) ∨ (a = 44 ∧ (b = 8 ∨ b = 9 ∨ b = 11))) → su (moEnter (moPop T2 (D + 1)) (D + 1) 3 (nI i) (nI (x + 1 + 1 - 1))) 44 11 0 a b = T2 a b := fun a b hab => by
          rw [su_k _ _ (by omega), moEnter_k _ _ _ _ _ (by omega), moPop_k _ _ (by omega)]
        have g48 : su (moEnter (moPop T2 (D + 1)) (D + 1) 3 (nI i) (nI (x + 1 + 1 - 1))) 44 11 0 48 (D + 1) = 3 := by
          unfold moEnter
          rw [su_k _ _ (by omega), su_k _ _ (by omega), su_k _ _ (by omega), su_k _ _ (by omega), su_k _ _ (by omega), su_k _ _ (by omega), su_same]
        have hsk : MSk D lev (su (moEnter (moPop T2 (D + 1)) (D + 1) 3 (nI i) (nI (x + 1 + 1 - 1))) 44 11 0) T2 := ⟨fun a j a1 a2 a3 => hkk a j (by omega), fun j hj => hkk 52 j (by omega)⟩
        have hsk2 : MSk D lev T2 S1 := ho.2.2.2.2.1.dn
        have hsk3 : MSk D lev (su (moEnter (moPop T2 (D + 1)) (D + 1) 3 (nI i) (nI (x + 1 + 1 - 1))) 44 11 0) S1 := hsk.tr hsk2
        refine ih (by omega) _ r.2.2.2 ⟨ho.2.1.scr (fun a b hab => hkk a b (by unfold MScr at hab; omega)), ⟨(hkk _ _ (by omega)).trans ho.2.2.1.1, ?_, (hkk _ _ (by omega)).trans ho.2.2.1.2.2.1, fun j hj => (hkk _ _ (by omega)).trans (ho.2.2.1.2.2.2 j hj)⟩, ho.2.2.2.1, ?_, su_same _ _ _ _, ?_⟩ g48 ?_ ?_ (hsk3.tr p2) hk3
        · rw [su_k _ _ (by omega)]
          exact moEnter_8 _ _ _ _ _
        · intro hkt
          obtain ⟨b, b1, b2, b3, b4⟩ := hA.2.2.2.1 hkt
          have hbn : ¬ b = D + 1 := fun hx => by
            rw [hx, q1] at b2
            exact absurd b2 (by decide)
          refine ⟨b, b1, (hsk3.1 48 b (by decide) (by decide) (by omega)).trans b2, (hsk3.1 50 b (by decide) (by decide) (by omega)).trans b3, fun j j1 j2 => ?_⟩
          by_cases hj : j = D + 1
          · rw [hj, g48]
            decide
          · rw [hsk3.1 48 j (by decide) (by decide) (by omega)]
            exact b4 j j1 j2
        · unfold moEnter
          rw [su_k _ _ (by omega), su_same, nI_1]
        · unfold moEnter
          rw [su_k _ _ (by omega), su_k _ _ (by omega), su_k _ _ (by omega), su_k _ _ (by omega), su_k _ _ (by omega), su_same]
        · unfold moEnter
          rw [su_k _ _ (by omega), su_k _ _ (by omega), su_k _ _ (by omega), su_k _ _ (by omega), su_same]
          rfl
      rcases (show r.1 = 0 ∨ r.1 = 1 ∨ r.1 = 2 ∨ r.1 = 3 ∨ r.1 = 4 by omega) with h0 | h0 | h0 | h0 | h0
      · rw [if_neg (by omega), if_pos (by omega)] at hk2
        exact hcl (m_MO_close_times_again0 l G T2 (D + 1) (by omega) ho.2.2.1.2.1 f48 i hi128 f49 (by rw [e1, h0]; rfl) (x + 1 + 1) (by omega) f50 (by omega)) (hagain hk2)
      · rw [if_pos (by omega)] at hk2
        exact hcl (m_MO_close_times_break l G T2 (D + 1) (by omega) ho.2.2.1.2.1 f48 i hi128 f49 (by rw [e1, h0]; rfl) (x + 1 + 1) (by omega) f50 (E i + 1) hsc) (hk2 _ hdone)
      · rw [if_neg (by omega), if_pos (by omega)] at hk2
        exact hcl (m_MO_close_times_again2 l G T2 (D + 1) (by omega) ho.2.2.1.2.1 f48 i hi128 f49 (by rw [e1, h0]; rfl) (x + 1 + 1) (by omega) f50 (by omega)) (hagain hk2)
      · rw [if_neg (by omega), if_neg (by omega)] at hk2
        exact hcl (m_MO_close_times_out3 l G T2 (D + 1) (by omega) ho.2.2.1.2.1 f48 i hi128 f49 (by rw [e1, h0]; rfl) (x + 1 + 1) (by omega) f50) (hk2 _ (pop_out p2 ho ho.2.2.2.1 (by omega)))
      · rw [if_neg (by omega), if_neg (by omega)] at hk2
        exact hcl (m_MO_close_times_out4 l G T2 (D + 1) (by omega) ho.2.2.1.2.1 f48 i hi128 f49 (by rw [e1, h0]; rfl) (x + 1 + 1) (by omega) f50) (hk2 _ (pop_out p2 ho ho.2.2.2.1 (by omega)))
theorem sim_times (h : ItA l G P S0 S op ar sz lev p D c k i s) (hB : SimB P S0 op ar E sz F) (hd : D + 1 + d ≤ 6 * lev + 6) (hd5 : d ≤ 5) (hd0 : 0 < d) (hiE : i < E i) (hE : E i < e) (he : e < 32 * p + sz p) (hF : e + 200 * (5 - lev) ≤ i + F) (hbl : blk op ar E Fb (d - 1) t k (i + 1) (E i)) (h3 : op i = 3) {kk : Nat} (hkk : kk < 100) (ha : ar i = nI kk)
    (hk : ∀ T, MOut S0 S T lev D c (E i + 1) (sTimes (sB op ar E sz F lev c (i + 1)) kk (gStep s.1, s.2.1, s.2.2)) → P T) : P S := by
  obtain ⟨s1, -, -, -, -, -⟩ := h.stp
  have hb := h.2.2.2.2.2.2.2.1
  have hX : ∀ a b, ¬ ((a = 44 ∧ (b = 19 ∨ b = 9 ∨ b = 20)) ∨ a = 53) → moStep S i (gst s.1) a b = S a b := fun a b hab => moStep_k _ _ _ (by omega)
  obtain ⟨hP, hTM, hlev, hp, hpi, hpi2, hD, -, -, -⟩ := id h
  cases kk with
  | zero =>
    have hsc : ∃ f, Sc (S 45) f (i + 1) 1 (E i + 1) := sc_end (a := 32 * p) (b := 32 * p + sz p) (fun j j1 j2 => by rw [hb.1.1.op]; exact ((hTM p hp).2.2 j j1 j2).1) (by have := (hTM p hp).1; omega) (by omega) (by omega) (by omega) hbl
    exact h.go (m_MO_item_times0 l G S i (gst s.1) h.i128 hb.2.2.2.2.2 (by have := h.2.2.2.2.2.2.2.2.1; omega) hb.1.2.1.1 (h.opi.trans h3) (E i + 1) hsc (h.ari.trans ha)) (hk _ (sim_nx h (E i + 1)))
  | succ x =>
    obtain ⟨p1, p2, p3, p4, p5⟩ := push_at hb hX s1 (lim_s h) 3 (S 46 i) (by decide)
    refine h.go (m_MO_item_times l G S i (gst s.1) h.i128 hb.2.2.2.2.2 (by have := h.2.2.2.2.2.2.2.2.1; omega) hb.1.2.1.1 (h.opi.trans h3) (D + 1) (by have := h.2.2.2.2.2.2.1; omega) hb.2.1.2.1 (by rw [h.ari, ha]; exact nI_ne0 (by omega) (by omega))) ?_
    exact sim_rounds hP hTM hlev hp hpi hB hd hd5 hd0 hiE hE he hF hbl x (by omega) _ _ p1 p3 p4 (p5.trans (h.ari.trans ha)) p2 hk
end SIMB
