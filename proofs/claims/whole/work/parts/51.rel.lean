/-! THE CLASS'S CELLS AND THE MEANING'S STATE -/
/-- what a run leaves behind, however it ends: steps, events, most, faults -/
def RL (S : SS) (g : GS) : Prop := S 1 5 = nI (gst g) ∧ gst g ≤ 300 ∧ S 9 1 = nI (gnv g) ∧ gnv g + 300 ≤ 2 ^ 29 + gst g ∧ (∀ j, j < gnv g → gnv g ≤ j + 32 → S 10 (j % 32) = gev g j) ∧ S 7 2 = gmo g ∧ S 4 2 = nI (gnf g) ∧ gnf g ≤ 301 ∧ (∀ k, k < gnf g → S 5 k = gfk g (k + 1) ∧ S 6 k = nI (gfc g (k + 1)) - 1 ∧ gfc g (k + 1) ≤ k)
def RK (S : SS) (g : GS) : Prop := (∀ l, l < 3 → S 8 l = ghe g l) ∧ S 7 1 = gSum (ghe g)
def RG (S : SS) (g : GS) : Prop := RL S g ∧ RK S g
/-- the frame of level q: procedure p, caught c, account, entered -/
def RF (S : SS) (q p c : Nat) (ac : Int32) (en : Nat → Nat) : Prop := S (27 + 2 * q) 1 = nI p ∧ S (27 + 2 * q) 2 = ac ∧ S (27 + 2 * q) 4 = nI c - 1 ∧ ∀ l, l < 3 → S (28 + 2 * q) l = nI (en l) ∧ en l ≤ 300
/-- what the doing at level q leaves alone -/
def Kb (q : Nat) (X S : SS) : Prop := ∀ a b, (a = 1 ∧ ¬ b = 5) ∨ a = 0 ∨ (11 ≤ a ∧ a < 27 + 2 * q) ∨ (a = 27 + 2 * q ∧ (b = 1 ∨ b = 4)) ∨ 39 ≤ a → X a b = S a b
theorem Kb.rf (q : Nat) (S : SS) : Kb q S S := fun _ _ _ => rfl
theorem Kb.tr {q : Nat} {X Y S : SS} (h1 : Kb q Y X) (h2 : Kb q X S) : Kb q Y S := fun a b h => (h1 a b h).trans (h2 a b h)
theorem Kb.up {q : Nat} {X S : SS} (h : Kb (q + 1) X S) : Kb q X S := fun a b hab => h a b (by omega)
theorem RL.mv {S X : SS} {g : GS} (h : RL S g) (hk : ∀ a b, (a = 1 ∧ b = 5) ∨ (a = 9 ∧ b = 1) ∨ a = 10 ∨ (a = 7 ∧ b = 2) ∨ (a = 4 ∧ b = 2) ∨ a = 5 ∨ a = 6 → X a b = S a b) : RL X g := by
  obtain ⟨h1, h2, h3, h4, h5, h6, h7, h8, h9⟩ := h
  refine ⟨(hk _ _ (by omega)).trans h1, h2, (hk _ _ (by omega)).trans h3, h4, fun j a b => (hk _ _ (by omega)).trans (h5 j a b), (hk _ _ (by omega)).trans h6, (hk _ _ (by omega)).trans h7, h8, fun k hkk => ?_⟩
  obtain ⟨e1, e2, e3⟩ := h9 k hkk
  exact ⟨(hk _ _ (by omega)).trans e1, (hk _ _ (by omega)).trans e2, e3⟩
theorem RK.mv {S X : SS} {g : GS} (h : RK S g) (hk : ∀ a b, a = 8 ∨ (a = 7 ∧ b = 1) → X a b = S a b) : RK X g :=
  ⟨fun l hl => (hk _ _ (by omega)).trans (h.1 l hl), (hk _ _ (by omega)).trans h.2⟩
theorem RF.mv {S X : SS} {q p c : Nat} {ac : Int32} {en : Nat → Nat} (h : RF S q p c ac en) (hk : ∀ a b, a = 27 + 2 * q ∨ a = 28 + 2 * q → X a b = S a b) : RF X q p c ac en :=
  ⟨(hk _ _ (by omega)).trans h.1, (hk _ _ (by omega)).trans h.2.1, (hk _ _ (by omega)).trans h.2.2.1, fun l hl => ⟨(hk _ _ (by omega)).trans (h.2.2.2 l hl).1, (h.2.2.2 l hl).2⟩⟩
theorem RG.step {S : SS} {g : GS} (h : RG S g) (h3 : gst g < 300) : RG (su S 1 5 (nI (gst g + 1))) (gStep g) := by
  obtain ⟨⟨h1, h2, h3', h4, h5, h6, h7, h8, h9⟩, hk⟩ := h
  refine ⟨⟨su_same _ _ _ _, ?_, (su_k _ _ (by omega)).trans h3', ?_, fun j a b => (su_k _ _ (by omega)).trans (h5 j a b), (su_k _ _ (by omega)).trans h6, (su_k _ _ (by omega)).trans h7, h8, fun k hkk => ?_⟩, hk.mv (fun a b hab => su_k _ _ (by omega))⟩
  · show gst g + 1 ≤ 300
    omega
  · show gnv g + 300 ≤ 2 ^ 29 + (gst g + 1)
    omega
  · obtain ⟨e1, e2, e3⟩ := h9 k hkk
    exact ⟨(su_k _ _ (by omega)).trans e1, (su_k _ _ (by omega)).trans e2, e3⟩
theorem RG.note {S : SS} {g : GS} (h : RG S g) (hs : gnv g + 301 ≤ 2 ^ 29 + gst g) (a : Int32) : RG (eNote S (gnv g) a) (gNote g a) := by
  obtain ⟨⟨h1, h2, h3, h4, h5, h6, h7, h8, h9⟩, hk⟩ := h
  unfold eNote
  refine ⟨⟨by rw [su_k _ _ (by omega), su_k _ _ (by omega)]; exact h1, h2, su_same _ _ _ _, ?_, fun j hj1 hj2 => ?_, by rw [su_k _ _ (by omega), su_k _ _ (by omega)]; exact h6, by rw [su_k _ _ (by omega), su_k _ _ (by omega)]; exact h7, h8, fun k hkk => ?_⟩, hk.mv (fun a b hab => by rw [su_k _ _ (by omega), su_k _ _ (by omega)])⟩
  · show gnv g + 1 + 300 ≤ 2 ^ 29 + gst g
    omega
  · rw [su_k _ _ (by omega)]
    have hj1' : j < gnv g + 1 := hj1
    have hj2' : gnv g + 1 ≤ j + 32 := hj2
    show su S 10 (gnv g % 32) a 10 (j % 32) = upd (gev g) (gnv g) a j
    by_cases e : j = gnv g
    · subst e
      rw [su_same, pk_us]
    · rw [su_k _ _ (by omega), pk_un e]
      exact h5 j (by omega) (by omega)
  · obtain ⟨e1, e2, e3⟩ := h9 k hkk
    exact ⟨by rw [su_k _ _ (by omega), su_k _ _ (by omega)]; exact e1, by rw [su_k _ _ (by omega), su_k _ _ (by omega)]; exact e2, e3⟩
theorem gSum_up (h : Nat → Int32) {l : Nat} (hl : l < 3) (v : Int32) : gSum (upd h l (h l + v)) = gSum h + v := by
  rcases (show l = 0 ∨ l = 1 ∨ l = 2 by omega) with rfl | rfl | rfl
  · show h 0 + v + h 1 + h 2 = h 0 + h 1 + h 2 + v
    ac_rfl
  · show h 0 + (h 1 + v) + h 2 = h 0 + h 1 + h 2 + v
    ac_rfl
  · show h 0 + h 1 + (h 2 + v) = h 0 + h 1 + h 2 + v
    ac_rfl
theorem RG.hold {S : SS} {g : GS} (h : RG S g) {l : Nat} (hl : l < 3) : RG (lHold S l) (gHold g l) := by
  obtain ⟨⟨h1, h2, h3, h4, h5, h6, h7, h8, h9⟩, hk1, hk2⟩ := h
  unfold lHold
  refine ⟨⟨by rw [su_k _ _ (by omega), su_k _ _ (by omega), su_k _ _ (by omega)]; exact h1, h2, by rw [su_k _ _ (by omega), su_k _ _ (by omega), su_k _ _ (by omega)]; exact h3, h4, fun j a b => by rw [su_k _ _ (by omega), su_k _ _ (by omega), su_k _ _ (by omega)]; exact h5 j a b, ?_, by rw [su_k _ _ (by omega), su_k _ _ (by omega), su_k _ _ (by omega)]; exact h7, h8, fun k hkk => ?_⟩, fun l2 hl2 => ?_, ?_⟩
  · rw [su_same, h6, hk2]
    show _ = (if gmo g < gSum (upd (ghe g) l (ghe g l + 1)) then gSum (upd (ghe g) l (ghe g l + 1)) else gmo g)
    rw [gSum_up _ hl]
  · obtain ⟨e1, e2, e3⟩ := h9 k hkk
    exact ⟨by rw [su_k _ _ (by omega), su_k _ _ (by omega), su_k _ _ (by omega)]; exact e1, by rw [su_k _ _ (by omega), su_k _ _ (by omega), su_k _ _ (by omega)]; exact e2, e3⟩
  · rw [su_k _ _ (by omega), su_k _ _ (by omega)]
    show _ = upd (ghe g) l (ghe g l + 1) l2
    by_cases e : l2 = l
    · subst e
      rw [su_same, pk_us, hk1 l2 hl2]
    · rw [su_k _ _ (by omega), pk_un e, hk1 l2 hl2]
  · rw [su_k _ _ (by omega), su_same, hk2]
    show _ = gSum (upd (ghe g) l (ghe g l + 1))
    rw [gSum_up _ hl]
theorem RG.rel {S : SS} {g : GS} (h : RG S g) {l : Nat} (hl : l < 3) (n : Int32) : RG (lRel S l n) (gRel g l n) := by
  obtain ⟨hL, hk1, hk2⟩ := h
  unfold lRel
  have hn : ∀ x : Int32, x - n = x + -n := fun x => Int32.sub_eq_add_neg ..
  refine ⟨hL.mv (fun a b hab => by rw [su_k _ _ (by omega), su_k _ _ (by omega)]), fun l2 hl2 => ?_, ?_⟩
  · rw [su_k _ _ (by omega)]
    show _ = upd (ghe g) l (ghe g l - n) l2
    by_cases e : l2 = l
    · subst e
      rw [su_same, pk_us, hk1 l2 hl2]
    · rw [su_k _ _ (by omega), pk_un e, hk1 l2 hl2]
  · rw [su_same, hk2]
    show _ = gSum (upd (ghe g) l (ghe g l - n))
    rw [hn, hn, gSum_up _ hl]
theorem RG.mk {S : SS} {g : GS} (h : RG S g) (hn : gnf g < 301) (k : Int32) (c : Nat) (hc : c ≤ gnf g) : RG (fMk S (gnf g) k (nI c - 1)) (gMk g k c) := by
  obtain ⟨⟨h1, h2, h3, h4, h5, h6, h7, h8, h9⟩, hk⟩ := h
  unfold fMk
  refine ⟨⟨by rw [su_k _ _ (by omega), su_k _ _ (by omega), su_k _ _ (by omega)]; exact h1, h2, by rw [su_k _ _ (by omega), su_k _ _ (by omega), su_k _ _ (by omega)]; exact h3, h4, fun j a b => by rw [su_k _ _ (by omega), su_k _ _ (by omega), su_k _ _ (by omega)]; exact h5 j a b, by rw [su_k _ _ (by omega), su_k _ _ (by omega), su_k _ _ (by omega)]; exact h6, su_same _ _ _ _, ?_, fun j hj => ?_⟩, hk.mv (fun a b hab => by rw [su_k _ _ (by omega), su_k _ _ (by omega), su_k _ _ (by omega)])⟩
  · show gnf g + 1 ≤ 301
    omega
  · have hj' : j < gnf g + 1 := hj
    show _ = upd (gfk g) (gnf g + 1) k (j + 1) ∧ _ = nI (va_up (gfc g) (gnf g + 1) c (j + 1)) - 1 ∧ va_up (gfc g) (gnf g + 1) c (j + 1) ≤ j
    by_cases e : j = gnf g
    · subst e
      rw [pk_us, va_up_self, su_k _ _ (by omega), su_k _ _ (by omega), su_same, su_k _ _ (by omega), su_same]
      exact ⟨rfl, rfl, hc⟩
    · rw [pk_un (by omega), va_up_ne _ _ (by omega), su_k _ _ (by omega), su_k _ _ (by omega), su_k _ _ (by omega), su_k _ _ (by omega), su_k _ _ (by omega), su_k _ _ (by omega)]
      exact h9 j (by omega)
