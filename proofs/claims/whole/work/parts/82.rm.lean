/-! THE REFERENCE'S CELLS AND THE MEANING'S STATE -/
def MScr (a b : Nat) : Prop := (48 ≤ a ∧ a ≤ 52) ∨ (a = 44 ∧ 8 ≤ b ∧ b ≤ 13)
def ML (S : SS) (g : GS) : Prop := S 44 19 = nI (gst g) ∧ gst g ≤ 300 ∧ S 44 24 = nI (gnv g) ∧ gnv g + 300 ≤ 2 ^ 29 + gst g ∧ (∀ j, j < 32 → j < gnv g → S 56 j = gev g (gnv g - 1 - j)) ∧ S 44 20 = gmo g ∧ S 44 18 = nI (gnf g) ∧ gnf g ≤ 301 ∧ (∀ k, 0 < k → k ≤ gnf g → S 54 k = gfk g k ∧ S 55 k = nI (gfc g k) ∧ gfc g k < k)
def MH (S : SS) (g : GS) : Prop := ∀ l, l < 3 → S 53 l = ghe g l
def MKp (S0 S : SS) : Prop := ∀ a b, (a < 44 ∨ a = 45 ∨ a = 46 ∨ a = 47 ∨ (a = 44 ∧ (b = 3 ∨ b = 21 ∨ b = 22))) → S a b = S0 a b
def MG (S0 S : SS) (g : GS) : Prop := MKp S0 S ∧ ML S g ∧ MH S g
theorem ML.mv {S X : SS} {g : GS} (h : ML S g) (hk : ∀ a b, (a = 44 ∧ (b = 18 ∨ b = 19 ∨ b = 20 ∨ b = 24)) ∨ a = 54 ∨ a = 55 ∨ a = 56 → X a b = S a b) : ML X g := by
  obtain ⟨h1, h2, h3, h4, h5, h6, h7, h8, h9⟩ := h
  refine ⟨(hk _ _ (by omega)).trans h1, h2, (hk _ _ (by omega)).trans h3, h4, fun j a b => (hk _ _ (by omega)).trans (h5 j a b), (hk _ _ (by omega)).trans h6, (hk _ _ (by omega)).trans h7, h8, fun k h0 hkk => ?_⟩
  obtain ⟨e1, e2, e3⟩ := h9 k h0 hkk
  exact ⟨(hk _ _ (by omega)).trans e1, (hk _ _ (by omega)).trans e2, e3⟩
theorem MH.mv {S X : SS} {g : GS} (h : MH S g) (hk : ∀ b, X 53 b = S 53 b) : MH X g := fun l hl => (hk l).trans (h l hl)
theorem MKp.mv {S0 S X : SS} (h : MKp S0 S) (hk : ∀ a b, (a < 44 ∨ a = 45 ∨ a = 46 ∨ a = 47 ∨ (a = 44 ∧ (b = 3 ∨ b = 21 ∨ b = 22))) → X a b = S a b) : MKp S0 X := fun a b hab => (hk a b hab).trans (h a b hab)
theorem MG.scr {S0 S X : SS} {g : GS} (h : MG S0 S g) (hk : ∀ a b, ¬ MScr a b → X a b = S a b) : MG S0 X g := by
  refine ⟨h.1.mv (fun a b hab => hk a b ?_), h.2.1.mv (fun a b hab => hk a b ?_), h.2.2.mv (fun b => hk 53 b ?_)⟩ <;> (unfold MScr; omega)
theorem MG.step {S0 S : SS} {g : GS} (h : MG S0 S g) (h3 : gst g < 300) (i : Nat) : MG S0 (moStep S i (gst g)) (gStep g) := by
  obtain ⟨hk, ⟨h1, h2, h3', h4, h5, h6, h7, h8, h9⟩, hh⟩ := h
  refine ⟨hk.mv (fun a b hab => moStep_k _ _ _ (by omega)), ⟨?_, ?_, (moStep_k _ _ _ (by omega)).trans h3', ?_, fun j a b => (moStep_k _ _ _ (by omega)).trans (h5 j a b), (moStep_k _ _ _ (by omega)).trans h6, (moStep_k _ _ _ (by omega)).trans h7, h8, fun k h0 hkk => ?_⟩, hh.mv (fun b => moStep_k _ _ _ (by omega))⟩
  · unfold moStep
    rw [su_k _ _ (by omega), su_same]
    rfl
  · show gst g + 1 ≤ 300
    omega
  · show gnv g + 300 ≤ 2 ^ 29 + (gst g + 1)
    omega
  · obtain ⟨e1, e2, e3⟩ := h9 k h0 hkk
    exact ⟨(moStep_k _ _ _ (by omega)).trans e1, (moStep_k _ _ _ (by omega)).trans e2, e3⟩
theorem moNote_56 (S : SS) (n : Nat) (a : Int32) {j : Nat} (hj : j < 32) : moNote S n a 56 j = if j = 0 then a else S 56 (j - 1) := by
  unfold moNote
  rw [su_k _ _ (by omega)]
  by_cases h : j = 0
  · subst h
    rw [su_same, if_pos rfl]
  · rw [su_k _ _ (by omega), va_up_self, if_neg h]
    unfold shf
    rw [if_pos (by omega)]
theorem MG.note {S0 S : SS} {g : GS} (h : MG S0 S g) (hs : gnv g + 301 ≤ 2 ^ 29 + gst g) (a : Int32) : MG S0 (moNote S (gnv g) a) (gNote g a) := by
  obtain ⟨hk, ⟨h1, h2, h3, h4, h5, h6, h7, h8, h9⟩, hh⟩ := h
  refine ⟨hk.mv (fun a b hab => moNote_k _ _ _ (by omega)), ⟨(moNote_k _ _ _ (by omega)).trans h1, h2, ?_, ?_, fun j hj1 hj2 => ?_, (moNote_k _ _ _ (by omega)).trans h6, (moNote_k _ _ _ (by omega)).trans h7, h8, fun k h0 hkk => ?_⟩, hh.mv (fun b => moNote_k _ _ _ (by omega))⟩
  · unfold moNote
    rw [su_same]
    rfl
  · show gnv g + 1 + 300 ≤ 2 ^ 29 + gst g
    omega
  · rw [moNote_56 _ _ _ hj1]
    have hj3 : j < gnv g + 1 := hj2
    show _ = upd (gev g) (gnv g) a (gnv g + 1 - 1 - j)
    by_cases e : j = 0
    · subst e
      rw [if_pos rfl, show gnv g + 1 - 1 - 0 = gnv g by omega, pk_us]
    · rw [if_neg e, pk_un (by omega), h5 (j - 1) (by omega) (by omega)]
      congr 1
      omega
  · obtain ⟨e1, e2, e3⟩ := h9 k h0 hkk
    exact ⟨(moNote_k _ _ _ (by omega)).trans e1, (moNote_k _ _ _ (by omega)).trans e2, e3⟩
theorem moHold_53 (S : SS) (i j : Nat) : moHold S i 53 j = upd (S 53) i (S 53 i + 1) j := by
  have h : su S 53 i (S 53 i + 1) 53 j = upd (S 53) i (S 53 i + 1) j := by rw [su_row]
  unfold moHold
  split
  · rw [su_k _ _ (by omega)]
    exact h
  · exact h
theorem upd3 {f h : Nat → Int32} (he : ∀ l, l < 3 → f l = h l) {i : Nat} (hi : i < 3) (v : Int32) {j : Nat} (hj : j < 3) : upd f i v j = upd h i v j := by
  by_cases e : j = i
  · subst e
    rw [pk_us, pk_us]
  · rw [pk_un e, pk_un e]
    exact he j hj
theorem MG.hold {S0 S : SS} {g : GS} (h : MG S0 S g) {lo : Nat} (hl : lo < 3) : MG S0 (moHold S lo) (gHold g lo) := by
  obtain ⟨hk, ⟨h1, h2, h3, h4, h5, h6, h7, h8, h9⟩, hh⟩ := h
  have hu : ∀ j, j < 3 → upd (S 53) lo (S 53 lo + 1) j = upd (ghe g) lo (ghe g lo + 1) j := fun j hj => by
    rw [hh lo hl]
    exact upd3 hh hl _ hj
  refine ⟨hk.mv (fun a b hab => moHold_k _ _ (by omega)), ⟨(moHold_k _ _ (by omega)).trans h1, h2, (moHold_k _ _ (by omega)).trans h3, h4, fun j a b => (moHold_k _ _ (by omega)).trans (h5 j a b), ?_, (moHold_k _ _ (by omega)).trans h7, h8, fun k h0 hkk => ?_⟩, fun j hj => ?_⟩
  · unfold moHold
    rw [su_k _ _ (by omega), su_row, hu 0 (by decide), hu 1 (by decide), hu 2 (by decide), h6]
    show _ = if gmo g < upd (ghe g) lo (ghe g lo + 1) 0 + upd (ghe g) lo (ghe g lo + 1) 1 + upd (ghe g) lo (ghe g lo + 1) 2 then upd (ghe g) lo (ghe g lo + 1) 0 + upd (ghe g) lo (ghe g lo + 1) 1 + upd (ghe g) lo (ghe g lo + 1) 2 else gmo g
    by_cases hc : gmo g < upd (ghe g) lo (ghe g lo + 1) 0 + upd (ghe g) lo (ghe g lo + 1) 1 + upd (ghe g) lo (ghe g lo + 1) 2
    · rw [if_pos hc, if_pos hc, su_same]
    · rw [if_neg hc, if_neg hc, su_k _ _ (by omega)]
      exact h6
  · obtain ⟨e1, e2, e3⟩ := h9 k h0 hkk
    exact ⟨(moHold_k _ _ (by omega)).trans e1, (moHold_k _ _ (by omega)).trans e2, e3⟩
  · rw [moHold_53]
    exact hu j hj
theorem MG.rel {S0 S : SS} {g : GS} (h : MG S0 S g) {lo : Nat} (hl : lo < 3) (n : Int32) : MG S0 (su S 53 lo (S 53 lo - n)) (gRel g lo n) := by
  obtain ⟨hk, hL, hh⟩ := h
  refine ⟨hk.mv (fun a b hab => su_k _ _ (by omega)), hL.mv (fun a b hab => su_k _ _ (by omega)), fun j hj => ?_⟩
  rw [su_row, hh lo hl]
  exact upd3 hh hl _ hj
theorem MG.mk {S0 S : SS} {g : GS} (h : MG S0 S g) (hn : gnf g < 301) (k : Int32) (c : Nat) (hc : c ≤ gnf g) : MG S0 (moMade S (gnf g) k (nI c)) (gMk g k c) := by
  obtain ⟨hk, ⟨h1, h2, h3, h4, h5, h6, h7, h8, h9⟩, hh⟩ := h
  refine ⟨hk.mv (fun a b hab => moMade_k _ _ _ _ (by omega)), ⟨(moMade_k _ _ _ _ (by omega)).trans h1, h2, (moMade_k _ _ _ _ (by omega)).trans h3, h4, fun j a b => (moMade_k _ _ _ _ (by omega)).trans (h5 j a b), (moMade_k _ _ _ _ (by omega)).trans h6, ?_, ?_, fun j h0 hj => ?_⟩, hh.mv (fun b => moMade_k _ _ _ _ (by omega))⟩
  · unfold moMade
    rw [su_k _ _ (by omega), su_k _ _ (by omega), su_same]
    rfl
  · show gnf g + 1 ≤ 301
    omega
  · have hj' : j ≤ gnf g + 1 := hj
    show _ = upd (gfk g) (gnf g + 1) k j ∧ _ = nI (va_up (gfc g) (gnf g + 1) c j) ∧ va_up (gfc g) (gnf g + 1) c j < j
    by_cases e : j = gnf g + 1
    · subst e
      unfold moMade
      rw [pk_us, va_up_self, su_k _ _ (by omega), su_same, su_same]
      exact ⟨rfl, rfl, by omega⟩
    · rw [pk_un e, va_up_ne _ _ e, moMade_k _ _ _ _ (by omega), moMade_k _ _ _ _ (by omega)]
      exact h9 j h0 (by omega)
/-- the frame on top: its number D, the level of the run, account, what it has entered -/
def MF (S : SS) (lev D : Nat) (ac : Int32) (en : Nat → Nat) : Prop := S 44 13 = nI (lev + 1) ∧ S 44 8 = nI (D + 1) ∧ S 44 10 = ac ∧ ∀ l, l < 3 → S 52 (3 * lev + l) = nI (en l)
/-- the stack up to D and the runs around are as before -/
def MSk (D lev : Nat) (T S : SS) : Prop := (∀ a j, 48 ≤ a → a ≤ 51 → j ≤ D → T a j = S a j) ∧ ∀ j, j < 3 * lev → T 52 j = S 52 j
theorem MSk.rf (D lev : Nat) (S : SS) : MSk D lev S S := ⟨fun _ _ _ _ _ => rfl, fun _ _ => rfl⟩
theorem MSk.tr {D lev : Nat} {T X S : SS} (h1 : MSk D lev T X) (h2 : MSk D lev X S) : MSk D lev T S := ⟨fun a j ha hb hj => (h1.1 a j ha hb hj).trans (h2.1 a j ha hb hj), fun j hj => (h1.2 j hj).trans (h2.2 j hj)⟩
theorem MSk.dn {D lev : Nat} {T S : SS} (h : MSk (D + 1) lev T S) : MSk D lev T S := ⟨fun a j ha hb hj => h.1 a j ha hb (by omega), h.2⟩
/-- the innermost CATCH of the stack has the fault c -/
def MC (S : SS) (D c : Nat) (k : Bool) : Prop := k = true → ∃ b, b ≤ D ∧ S 48 b = 16 ∧ S 50 b = nI c ∧ ∀ j, b < j → j ≤ D → ¬ S 48 j = 16
theorem MC.mv {S T : SS} {D c lev : Nat} {k : Bool} (h : MC S D c k) (hs : MSk D lev T S) : MC T D c k := fun hk => by
  obtain ⟨b, h1, h2, h3, h4⟩ := h hk
  exact ⟨b, h1, (hs.1 48 b (by decide) (by decide) h1).trans h2, (hs.1 50 b (by decide) (by decide) h1).trans h3, fun j a1 a2 => by rw [hs.1 48 j (by decide) (by decide) a2]; exact h4 j a1 a2⟩
theorem MC.up {S T : SS} {D c lev : Nat} {k : Bool} (h : MC S D c k) (hs : MSk D lev T S) (ht : ¬ T 48 (D + 1) = 16) : MC T (D + 1) c k := fun hk => by
  obtain ⟨b, h1, h2, h3, h4⟩ := h.mv hs hk
  refine ⟨b, by omega, h2, h3, fun j a1 a2 => ?_⟩
  by_cases e : j = D + 1
  · rw [e]; exact ht
  · exact h4 j a1 (by omega)
/-- before the item at i -/
def MAt (S0 S : SS) (lev D c : Nat) (k : Bool) (i : Nat) (s : SG) : Prop := MG S0 S s.1 ∧ MF S lev D s.2.1 s.2.2 ∧ Lim lev c s.1 s.2.2 ∧ MC S D c k ∧ S 44 11 = 0 ∧ S 44 9 = nI i
/-- where the loop says that it is too late -/
def MLate (S0 T : SS) (g : GS) : Prop := MKp S0 T ∧ ML T g ∧ gst g = 300 ∧ ∃ D i, D < 79 ∧ T 44 8 = nI (D + 1) ∧ T 44 11 = 0 ∧ i < 128 ∧ T 44 9 = nI i ∧ ¬ T 45 i = 18
/-- the ending under way -/
def MEn (T : SS) (nx : Nat) (r : RR) : Prop := T 44 11 = nI r.1 ∧ (r.1 = 0 → T 44 9 = nI nx) ∧ (r.1 = 3 → T 44 12 = r.2.1) ∧ (r.1 = 4 → T 44 12 = nI r.2.2.1 ∧ 0 < r.2.2.1 ∧ r.2.2.1 ≤ gnf r.2.2.2.1)
/-- behind an item, or behind the items of a block: the frame D is still on top -/
def MOk (S0 S T : SS) (lev D c nx : Nat) (r : RR) : Prop := r.1 < 5 ∧ MG S0 T r.2.2.2.1 ∧ MF T lev D r.2.2.2.2.1 r.2.2.2.2.2 ∧ Lim lev c r.2.2.2.1 r.2.2.2.2.2 ∧ MSk D lev T S ∧ MEn T nx r
def MOut (S0 S T : SS) (lev D c nx : Nat) (r : RR) : Prop := (r.1 = 5 ∧ MLate S0 T r.2.2.2.1) ∨ MOk S0 S T lev D c nx r
