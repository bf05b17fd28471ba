/-! THE REFERENCE'S LOOP DOES WHAT THE TEXTS MEAN: one step of it, what it needs; then the simple items -/
def StpM (l : Launch) (G : WG) (P : SS → Prop) : Prop :=
  (∀ (S T : SS) (D h : Nat), h ≤ 5 → D < 79 → S 44 8 = nI (D + 1) → (¬ S 44 11 = 0 ∨ ∃ i, i < 128 ∧ S 44 9 = nI i ∧ S 45 i = 18) → Cv l y_MO_close b_MO_close 5 h G [.ref (gA G 44)] S (fun S1 => S1 = T) → P T → P S) ∧
  (∀ (S T : SS) (D i st : Nat), D < 79 → S 44 8 = nI (D + 1) → S 44 11 = 0 → i < 128 → S 44 9 = nI i → ¬ S 45 i = 18 → st < 300 → S 44 19 = nI st → Cv l y_MO_item b_MO_item 3 3 G [.ref (gA G 44)] S (fun S1 => S1 = T) → P T → P S)
/-- the texts as the reference has them -/
def TM (S0 : SS) (op ar : Nat → Int32) (sz : Nat → Nat) : Prop := ∀ p, p < 4 → sz p ≤ 32 ∧ S0 47 p = nI (sz p) ∧ ∀ i, 32 * p ≤ i → i < 32 * p + sz p → S0 45 i = op i ∧ S0 46 i = ar i
theorem MKp.op {S0 S : SS} (h : MKp S0 S) (j : Nat) : S 45 j = S0 45 j := h 45 j (by omega)
theorem MKp.ar {S0 S : SS} (h : MKp S0 S) (j : Nat) : S 46 j = S0 46 j := h 46 j (by omega)
theorem MKp.sz {S0 S : SS} (h : MKp S0 S) (j : Nat) : S 47 j = S0 47 j := h 47 j (by omega)
theorem nI5 {n : Nat} (h : n < 5) (h0 : ¬ n = 0) : ¬ nI n = 0 := nI_ne0 (by omega) (by omega)
theorem blk_end {op ar : Nat → Int32} {E : Nat → Nat} : ∀ (Fb d : Nat) (t k : Bool) (i e : Nat), blk op ar E Fb d t k i e → op e = 18 ∧ i ≤ e := by
  intro Fb
  induction Fb with
  | zero => intro d t k i e h; exact h.elim
  | succ f ih =>
    intro d t k i e h
    rcases h with h | ⟨h1, -, -, -, -, -, -, -, h9, h10, h11⟩
    · exact ⟨h.2, by omega⟩
    · exact ⟨(ih _ _ _ _ _ h11).1, by omega⟩
/-- a close-step where the items have come to an end -/
theorem mcl {l : Launch} {G : WG} {P : SS → Prop} {S0 S T X : SS} {op ar : Nat → Int32} {sz : Nat → Nat} {lev D c e p : Nat} {r : RR} (hP : StpM l G P) (hTM : TM S0 op ar sz) (hp : p < 4) (he1 : 32 * p ≤ e) (he2 : e < 32 * p + sz p) (h18 : op e = 18) (ho : MOk S0 S T lev D c e r) (hD : D < 79) {h : Nat} (hh : h ≤ 5) (hc : Cv l y_MO_close b_MO_close 5 h G [.ref (gA G 44)] T (fun S1 => S1 = X)) (h2 : P X) : P T := by
  obtain ⟨o1, o2, o3, o4, o5, o6⟩ := ho
  refine hP.1 T X D h hh hD o3.2.1 ?_ hc h2
  by_cases h0 : r.1 = 0
  · obtain ⟨t1, t2, t3⟩ := hTM p hp
    exact Or.inr ⟨e, by omega, o6.2.1 h0, by rw [o2.1.op, (t3 e he1 he2).1]; exact h18⟩
  · exact Or.inl (by rw [o6.1]; exact nI5 o1 h0)
/-- what an item starts from -/
def ItA (l : Launch) (G : WG) (P : SS → Prop) (S0 S : SS) (op ar : Nat → Int32) (sz : Nat → Nat) (lev p D c : Nat) (k : Bool) (i : Nat) (s : SG) : Prop := StpM l G P ∧ TM S0 op ar sz ∧ lev < 6 ∧ p < 4 ∧ 32 * p ≤ i ∧ i < 32 * p + sz p ∧ D < 40 ∧ MAt S0 S lev D c k i s ∧ gst s.1 < 300 ∧ ¬ op i = 18
theorem ItA.opi {l : Launch} {G : WG} {P : SS → Prop} {S0 S : SS} {op ar : Nat → Int32} {sz : Nat → Nat} {lev p D c : Nat} {k : Bool} {i : Nat} {s : SG} (h : ItA l G P S0 S op ar sz lev p D c k i s) : S 45 i = op i := by
  obtain ⟨-, h1, -, h2, h3, h4, -, h5, -⟩ := h
  rw [h5.1.1.op]
  exact ((h1 p h2).2.2 i h3 h4).1
theorem ItA.ari {l : Launch} {G : WG} {P : SS → Prop} {S0 S : SS} {op ar : Nat → Int32} {sz : Nat → Nat} {lev p D c : Nat} {k : Bool} {i : Nat} {s : SG} (h : ItA l G P S0 S op ar sz lev p D c k i s) : S 46 i = ar i := by
  obtain ⟨-, h1, -, h2, h3, h4, -, h5, -⟩ := h
  rw [h5.1.1.ar]
  exact ((h1 p h2).2.2 i h3 h4).2
theorem ItA.i128 {l : Launch} {G : WG} {P : SS → Prop} {S0 S : SS} {op ar : Nat → Int32} {sz : Nat → Nat} {lev p D c : Nat} {k : Bool} {i : Nat} {s : SG} (h : ItA l G P S0 S op ar sz lev p D c k i s) : i < 128 := by
  obtain ⟨-, h1, -, h2, h3, h4, -⟩ := h
  have := (h1 p h2).1
  omega
/-- one item-step -/
theorem ItA.go {l : Launch} {G : WG} {P : SS → Prop} {S0 S T : SS} {op ar : Nat → Int32} {sz : Nat → Nat} {lev p D c : Nat} {k : Bool} {i : Nat} {s : SG} (h : ItA l G P S0 S op ar sz lev p D c k i s) (hc : Cv l y_MO_item b_MO_item 3 3 G [.ref (gA G 44)] S (fun S1 => S1 = T)) (h2 : P T) : P S := by
  have h1 := h.i128
  have h3 := h.opi
  obtain ⟨a1, a2, a3, a4, a5, a6, a7, ⟨b1, b2, b3, b4, b5, b6⟩, a9, a10⟩ := h
  exact a1.2 S T D i (gst s.1) (by omega) b2.2.1 b5 h1 b6 (by rw [h3]; exact a10) a9 b1.2.1.1 hc h2
/-- the step is counted: what the item then works on -/
theorem ItA.stp {l : Launch} {G : WG} {P : SS → Prop} {S0 S : SS} {op ar : Nat → Int32} {sz : Nat → Nat} {lev p D c : Nat} {k : Bool} {i : Nat} {s : SG} (h : ItA l G P S0 S op ar sz lev p D c k i s) : MG S0 (moStep S i (gst s.1)) (gStep s.1) ∧ gnf (gStep s.1) + lev + 1 ≤ gst (gStep s.1) ∧ c ≤ gnf (gStep s.1) ∧ (∀ j, j < 3 → s.2.2 j + 1 ≤ gst (gStep s.1)) ∧ gst (gStep s.1) ≤ 300 ∧ moStep S i (gst s.1) 44 9 = nI (i + 1) := by
  obtain ⟨a1, a2, a3, a4, a5, a6, a7, ⟨b1, b2, ⟨b3, b4, b5⟩, -⟩, a9, a10⟩ := h
  refine ⟨b1.step a9 i, ?_, b4, fun j hj => ?_, ?_, ?_⟩
  · show gnf s.1 + lev + 1 ≤ gst s.1 + 1
    omega
  · have := b5 j hj
    show s.2.2 j + 1 ≤ gst s.1 + 1
    omega
  · show gst s.1 + 1 ≤ 300
    omega
  · unfold moStep
    rw [su_same]
/-- an item that leaves the stack alone has been done -/
theorem mout_of {S0 S T : SS} {lev D c nx : Nat} {k : Bool} {i : Nat} {s : SG} {r : RR} (hA : MAt S0 S lev D c k i s) (hn : r.1 < 5) (hT : ∀ a b, (a = 44 ∧ (b = 8 ∨ b = 13)) ∨ (48 ≤ a ∧ a ≤ 51) ∨ (a = 52 ∧ b < 3 * lev) → T a b = S a b) (hg : MG S0 T r.2.2.2.1) (h10 : T 44 10 = r.2.2.2.2.1) (h52 : ∀ j, j < 3 → T 52 (3 * lev + j) = nI (r.2.2.2.2.2 j)) (hL : Lim lev c r.2.2.2.1 r.2.2.2.2.2) (hE : MEn T nx r) : MOut S0 S T lev D c nx r := by
  obtain ⟨b1, b2, -⟩ := hA
  exact Or.inr ⟨hn, hg, ⟨(hT _ _ (by omega)).trans b2.1, (hT _ _ (by omega)).trans b2.2.1, h10, h52⟩, hL, ⟨fun a j h1 h2 _ => hT a j (by omega), fun j hj => hT 52 j (by omega)⟩, hE⟩
theorem men_on {T : SS} {nx : Nat} {s : SG} (h1 : T 44 11 = 0) (h2 : T 44 9 = nI nx) : MEn T nx (rOn s) := ⟨h1, fun _ => h2, fun h => absurd h (show ¬ (0 : Nat) = 3 by decide), fun h => absurd h (show ¬ (0 : Nat) = 4 by decide)⟩
theorem men_fa {T : SS} {nx f : Nat} {v : Int32} {s : SG} (h1 : T 44 11 = 4) (h2 : T 44 12 = nI f) (h3 : 0 < f) (h4 : f ≤ gnf s.1) : MEn T nx ((4, v, f, s) : RR) := ⟨h1, fun h => absurd h (show ¬ (4 : Nat) = 0 by decide), fun h => absurd h (show ¬ (4 : Nat) = 3 by decide), fun _ => ⟨h2, h3, h4⟩⟩
theorem nxI_s {op ar : Nat → Int32} {E : Nat → Nat} {i : Nat} (h : ¬ op i = 3 ∧ ¬ op i = 10 ∧ ¬ op i = 14 ∧ ¬ op i = 9) : nxI op ar E i = i + 1 := by
  unfold nxI
  rw [if_neg (fun hx => by rcases hx with hx | hx | hx; exact h.1 hx; exact h.2.1 hx; exact h.2.2.1 hx), if_neg h.2.2.2]
/-- an item that raises -/
theorem sim_rs {l : Launch} {G : WG} {P : SS → Prop} {S0 S : SS} {op ar : Nat → Int32} {sz : Nat → Nat} {lev p D c : Nat} {k : Bool} {i : Nat} {s : SG} (h : ItA l G P S0 S op ar sz lev p D c k i s) (kd : Int32) (ca nx : Nat) (hca : ca ≤ c) : MOut S0 S (moRaise (moStep S i (gst s.1)) (gnf s.1) kd (nI ca)) lev D c nx (rFa (gStep s.1) kd ca s.2.1 s.2.2) := by
  obtain ⟨s1, s2, s3, s4, s5, s6⟩ := h.stp
  have hb := h.2.2.2.2.2.2.2.1
  have hgn : gnf (gStep s.1) = gnf s.1 := rfl
  have hk : ∀ a b, ¬ ((a = 44 ∧ (b = 18 ∨ b = 11 ∨ b = 12 ∨ b = 19 ∨ b = 9)) ∨ a = 54 ∨ a = 55) → moRaise (moStep S i (gst s.1)) (gnf s.1) kd (nI ca) a b = S a b := fun a b hab => by
    rw [moRaise_k _ _ _ _ (by omega), moStep_k _ _ _ (by omega)]
  refine mout_of (k := k) (i := i) (s := s) hb (show 4 < 5 by decide) (fun a b hab => hk a b (by omega)) ?_ ((hk _ _ (by omega)).trans hb.2.1.2.2.1) (fun j hj => (hk _ _ (by omega)).trans (hb.2.1.2.2.2 j hj)) ⟨?_, ?_, fun j hj => ?_⟩ (men_fa ?_ ?_ ?_ ?_)
  · have h1 := s1.mk (by omega) kd ca (by omega)
    rw [hgn] at h1
    refine h1.scr (fun a b hab => ?_)
    unfold moRaise
    unfold MScr at hab
    exact moEnds_k _ _ _ (by omega)
  · show gnf (gStep s.1) + 1 + lev ≤ gst (gStep s.1)
    omega
  · show c ≤ gnf (gStep s.1) + 1
    omega
  · have := s4 j hj
    show s.2.2 j ≤ gst (gStep s.1)
    omega
  · exact moRaise_11 _ _ _ _
  · unfold moRaise moEnds
    rw [su_same]
    rfl
  · exact Nat.succ_pos _
  · exact Nat.le_refl _
section SIMI
variable {l : Launch} {G : WG} {P : SS → Prop} {S0 S : SS} {op ar : Nat → Int32} {E sz : Nat → Nat} {lev p D c : Nat} {k : Bool} {i : Nat} {s : SG} {rec : Nat → Nat → Nat → SG → RR}
theorem lim_s (h : ItA l G P S0 S op ar sz lev p D c k i s) : Lim lev c (gStep s.1) s.2.2 := by
  obtain ⟨s1, s2, s3, s4, s5, s6⟩ := h.stp
  exact ⟨by omega, s3, fun j hj => by have := s4 j hj; omega⟩
/-- items that only change the account -/
theorem sim_ac (h : ItA l G P S0 S op ar sz lev p D c k i s) (v : Int32) : MOut S0 S (su (moStep S i (gst s.1)) 44 10 v) lev D c (i + 1) (rOn (gStep s.1, v, s.2.2)) := by
  obtain ⟨s1, s2, s3, s4, s5, s6⟩ := h.stp
  have hb := h.2.2.2.2.2.2.2.1
  have hk : ∀ a b, ¬ (a = 44 ∧ (b = 19 ∨ b = 9 ∨ b = 10)) → su (moStep S i (gst s.1)) 44 10 v a b = S a b := fun a b hab => by
    rw [su_k _ _ (by omega), moStep_k _ _ _ (by omega)]
  refine mout_of (k := k) (i := i) (s := s) hb (show 0 < 5 by decide) (fun a b hab => hk a b (by omega)) (s1.scr (fun a b hab => su_k _ _ (by unfold MScr at hab; omega))) (su_same _ _ _ _) (fun j hj => (hk _ _ (by omega)).trans (hb.2.1.2.2.2 j hj)) (lim_s h) (men_on ((hk _ _ (by omega)).trans hb.2.2.2.2.1) ?_)
  rw [su_k _ _ (by omega)]
  exact s6
/-- items that only go on, elsewhere -/
theorem sim_nx (h : ItA l G P S0 S op ar sz lev p D c k i s) (e : Nat) : MOut S0 S (su (moStep S i (gst s.1)) 44 9 (nI e)) lev D c e (rOn (gStep s.1, s.2.1, s.2.2)) := by
  obtain ⟨s1, s2, s3, s4, s5, s6⟩ := h.stp
  have hb := h.2.2.2.2.2.2.2.1
  have hk : ∀ a b, ¬ (a = 44 ∧ (b = 19 ∨ b = 9)) → su (moStep S i (gst s.1)) 44 9 (nI e) a b = S a b := fun a b hab => by
    rw [su_k _ _ (by omega), moStep_k _ _ _ (by omega)]
  exact mout_of (k := k) (i := i) (s := s) hb (show 0 < 5 by decide) (fun a b hab => hk a b (by omega)) (s1.scr (fun a b hab => su_k _ _ (by unfold MScr at hab; omega))) ((hk _ _ (by omega)).trans hb.2.1.2.2.1) (fun j hj => (hk _ _ (by omega)).trans (hb.2.1.2.2.2 j hj)) (lim_s h) (men_on ((hk _ _ (by omega)).trans hb.2.2.2.2.1) (su_same _ _ _ _))
/-- BREAK, NEXT, RETURN -/
theorem sim_en (h : ItA l G P S0 S op ar sz lev p D c k i s) (n nx : Nat) (v v2 : Int32) (h0 : 0 < n) (h4 : n < 4) (h3 : n = 3 → v = v2) : MOut S0 S (moEnds (moStep S i (gst s.1)) (nI n) v) lev D c nx (n, v2, 0, gStep s.1, s.2.1, s.2.2) := by
  obtain ⟨s1, s2, s3, s4, s5, s6⟩ := h.stp
  have hb := h.2.2.2.2.2.2.2.1
  have hk : ∀ a b, ¬ (a = 44 ∧ (b = 19 ∨ b = 9 ∨ b = 11 ∨ b = 12)) → moEnds (moStep S i (gst s.1)) (nI n) v a b = S a b := fun a b hab => by
    rw [moEnds_k _ _ _ (by omega), moStep_k _ _ _ (by omega)]
  refine mout_of (k := k) (i := i) (s := s) hb (show n < 5 by omega) (fun a b hab => hk a b (by omega)) (s1.scr (fun a b hab => moEnds_k _ _ _ (by unfold MScr at hab; omega))) ((hk _ _ (by omega)).trans hb.2.1.2.2.1) (fun j hj => (hk _ _ (by omega)).trans (hb.2.1.2.2.2 j hj)) (lim_s h) ⟨?_, fun hx => absurd hx (show ¬ n = 0 by omega), fun hx => ?_, fun hx => absurd hx (show ¬ n = 4 by omega)⟩
  · unfold moEnds
    rw [su_k _ _ (by omega), su_same]
  · unfold moEnds
    rw [su_same]
    exact h3 hx
theorem sim_note (h : ItA l G P S0 S op ar sz lev p D c k i s) : MOut S0 S (moNote (moStep S i (gst s.1)) (gnv s.1) (S 46 i)) lev D c (i + 1) (rOn (gNote (gStep s.1) (ar i), s.2.1, s.2.2)) := by
  obtain ⟨s1, s2, s3, s4, s5, s6⟩ := h.stp
  have hb := h.2.2.2.2.2.2.2.1
  have hk : ∀ a b, ¬ ((a = 44 ∧ (b = 19 ∨ b = 9 ∨ b = 24)) ∨ a = 56) → moNote (moStep S i (gst s.1)) (gnv s.1) (S 46 i) a b = S a b := fun a b hab => by
    rw [moNote_k _ _ _ (by omega), moStep_k _ _ _ (by omega)]
  refine mout_of (k := k) (i := i) (s := s) hb (show 0 < 5 by decide) (fun a b hab => hk a b (by omega)) ?_ ((hk _ _ (by omega)).trans hb.2.1.2.2.1) (fun j hj => (hk _ _ (by omega)).trans (hb.2.1.2.2.2 j hj)) (lim_s h) (men_on ((hk _ _ (by omega)).trans hb.2.2.2.2.1) ?_)
  · rw [h.ari]
    refine s1.note ?_ (ar i)
    have := hb.1.2.1.2.2.2.1
    show gnv s.1 + 301 ≤ 2 ^ 29 + (gst s.1 + 1)
    omega
  · rw [moNote_k _ _ _ (by omega)]
    exact s6
theorem sim_enter (h : ItA l G P S0 S op ar sz lev p D c k i s) {lo : Nat} (hlo : lo < 3) : MOut S0 S (su (moHold (moStep S i (gst s.1)) lo) 52 (3 * lev + lo) (S 52 (3 * lev + lo) + 1)) lev D c (i + 1) (rOn (gHold (gStep s.1) lo, s.2.1, va_up s.2.2 lo (s.2.2 lo + 1))) := by
  obtain ⟨s1, s2, s3, s4, s5, s6⟩ := h.stp
  have hb := h.2.2.2.2.2.2.2.1
  have hk : ∀ a b, ¬ ((a = 44 ∧ (b = 19 ∨ b = 9 ∨ b = 20)) ∨ a = 53 ∨ (a = 52 ∧ b = 3 * lev + lo)) → su (moHold (moStep S i (gst s.1)) lo) 52 (3 * lev + lo) (S 52 (3 * lev + lo) + 1) a b = S a b := fun a b hab => by
    rw [su_k _ _ (by omega), moHold_k _ _ (by omega), moStep_k _ _ _ (by omega)]
  refine mout_of (k := k) (i := i) (s := s) hb (show 0 < 5 by decide) (fun a b hab => hk a b (by omega)) ((s1.hold hlo).scr (fun a b hab => su_k _ _ (by unfold MScr at hab; omega))) ((hk _ _ (by omega)).trans hb.2.1.2.2.1) (fun j hj => ?_) ⟨?_, s3, fun j hj => ?_⟩ (men_on ((hk _ _ (by omega)).trans hb.2.2.2.2.1) ?_)
  · show _ = nI (va_up s.2.2 lo (s.2.2 lo + 1) j)
    by_cases e : j = lo
    · subst e
      rw [su_same, va_up_self, hb.2.1.2.2.2 j hj, nI_1]
    · rw [va_up_ne _ _ e, hk _ _ (by omega)]
      exact hb.2.1.2.2.2 j hj
  · show gnf (gStep s.1) + lev ≤ gst (gStep s.1)
    omega
  · show va_up s.2.2 lo (s.2.2 lo + 1) j ≤ gst (gStep s.1)
    by_cases e : j = lo
    · subst e
      rw [va_up_self]
      exact s4 j hj
    · rw [va_up_ne _ _ e]
      have := s4 j hj
      omega
  · rw [su_k _ _ (by omega), moHold_k _ _ (by omega)]
    exact s6
theorem sim_leave (h : ItA l G P S0 S op ar sz lev p D c k i s) {lo : Nat} (hlo : lo < 3) : MOut S0 S (moLeave (moStep S i (gst s.1)) lev lo (gnf s.1)) lev D c (i + 1) (if s.2.2 lo = 0 then rFa (gStep s.1) 4 0 s.2.1 s.2.2 else rOn (gRel (gStep s.1) lo 1, s.2.1, va_up s.2.2 lo (s.2.2 lo - 1))) := by
  obtain ⟨s1, s2, s3, s4, s5, s6⟩ := h.stp
  have hb := h.2.2.2.2.2.2.2.1
  have h52 : moStep S i (gst s.1) 52 (3 * lev + lo) = nI (s.2.2 lo) := by
    rw [moStep_k _ _ _ (by omega)]
    exact hb.2.1.2.2.2 lo hlo
  have hle := s4 lo hlo
  unfold moLeave
  rw [h52]
  by_cases h0 : s.2.2 lo = 0
  · rw [if_pos h0, h0, if_pos nI_0]
    exact sim_rs h 4 0 _ (Nat.zero_le _)
  · rw [if_neg h0, if_neg (nI_ne0 (by omega) (by omega))]
    have hk : ∀ a b, ¬ ((a = 44 ∧ (b = 19 ∨ b = 9)) ∨ a = 53 ∨ (a = 52 ∧ b = 3 * lev + lo)) → su (su (moStep S i (gst s.1)) 52 (3 * lev + lo) (nI (s.2.2 lo) - 1)) 53 lo (moStep S i (gst s.1) 53 lo - 1) a b = S a b := fun a b hab => by
      rw [su_k _ _ (by omega), su_k _ _ (by omega), moStep_k _ _ _ (by omega)]
    refine mout_of (k := k) (i := i) (s := s) hb (show 0 < 5 by decide) (fun a b hab => hk a b (by omega)) ?_ ((hk _ _ (by omega)).trans hb.2.1.2.2.1) (fun j hj => ?_) ⟨?_, s3, fun j hj => ?_⟩ (men_on ((hk _ _ (by omega)).trans hb.2.2.2.2.1) ?_)
    · have h1 := (s1.scr (X := su (moStep S i (gst s.1)) 52 (3 * lev + lo) (nI (s.2.2 lo) - 1)) (fun a b hab => su_k _ _ (by unfold MScr at hab; omega))).rel hlo 1
      rw [show su (moStep S i (gst s.1)) 52 (3 * lev + lo) (nI (s.2.2 lo) - 1) 53 lo = moStep S i (gst s.1) 53 lo from su_k _ _ (by omega)] at h1
      exact h1
    · show _ = nI (va_up s.2.2 lo (s.2.2 lo - 1) j)
      by_cases e : j = lo
      · subst e
        rw [su_k _ _ (by omega), su_same, va_up_self, show s.2.2 j = s.2.2 j - 1 + 1 by omega, nI_pred]
        rfl
      · rw [va_up_ne _ _ e, hk _ _ (by omega)]
        exact hb.2.1.2.2.2 j hj
    · show gnf (gStep s.1) + lev ≤ gst (gStep s.1)
      omega
    · show va_up s.2.2 lo (s.2.2 lo - 1) j ≤ gst (gStep s.1)
      have := s4 j hj
      by_cases e : j = lo
      · subst e
        rw [va_up_self]
        omega
      · rw [va_up_ne _ _ e]
        omega
    · rw [su_k _ _ (by omega), su_k _ _ (by omega)]
      exact s6
end SIMI
