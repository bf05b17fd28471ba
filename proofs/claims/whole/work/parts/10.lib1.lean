/-! THE WORLD BY PLACES: cell k of 57 stands at the address gA G k; 0 .. 43 are the class's, 44 .. 56 the reference's. All that changes are ints: S k j is int j of cell k. -/
def wl (ad : Nat → Nat) (N : Nat) (f : Nat → va_E) : va_W := (List.range N).map (fun k => (ad k, f k))
theorem wl_get {ad : Nat → Nat} {N k : Nat} {f : Nat → va_E} (h : k < N) : (wl ad N f)[k]? = some (ad k, f k) := by
  simp [wl, h]
theorem wl_at {ad : Nat → Nat} {N k : Nat} {f : Nat → va_E} {e : va_E} (h : k < N) (he : f k = e) : (wl ad N f)[k]? = some (ad k, e) := by
  rw [wl_get h, he]
theorem wl_in {ad : Nat → Nat} {N k : Nat} {f : Nat → va_E} {q : Nat × va_E} (h : (wl ad N f)[k]? = some q) : k < N ∧ q = (ad k, f k) := by
  have hl : k < (wl ad N f).length := (List.getElem?_eq_some_iff.mp h).1
  have hk : k < N := by simpa [wl] using hl
  rw [wl_get hk] at h
  exact ⟨hk, (Option.some.inj h).symm⟩
theorem wl_set {ad : Nat → Nat} {N k : Nat} {f : Nat → va_E} {e : va_E} : (wl ad N f).set k (ad k, e) = wl ad N (va_up f k e) := by
  apply List.ext_getElem?
  intro j
  by_cases hN : j < N
  · rw [wl_get hN]
    by_cases hj : k = j
    · subst hj
      rw [List.getElem?_set_self (by simpa [wl] using hN), va_up_self]
    · rw [List.getElem?_set_ne hj, wl_get hN, va_up_ne _ _ (Ne.symm hj)]
  · rw [List.getElem?_eq_none (by simp [wl]; omega), List.getElem?_eq_none (by simp [wl]; omega)]
def wl_inj (ad : Nat → Nat) (N : Nat) : Prop := ∀ i j, i < N → j < N → ad i = ad j → i = j
theorem wl_D {ad : Nat → Nat} {N : Nat} {f : Nat → va_E} {A : Nat → Prop} (h : wl_inj ad N) (hA : ∀ k, k < N → A (ad k)) : va_D A (wl ad N f) := by
  refine ⟨fun i j p q hp hq e => ?_, fun k q hq => ?_⟩
  · obtain ⟨h1, rfl⟩ := wl_in hp
    obtain ⟨h2, rfl⟩ := wl_in hq
    exact h i j h1 h2 e
  · obtain ⟨h1, rfl⟩ := wl_in hq
    exact hA k h1
/-- the world's fixed data: class numbers and slots; the array classes; the addresses of the cells; of the enum's constants -/
abbrev WG : Type := va_G × (ClassId × ClassId × ClassId × ClassId) × (Nat → Nat) × (Nat → Nat)
def gD (G : WG) : va_G := G.1
def gI (G : WG) : ClassId := G.2.1.1
def gZ (G : WG) : ClassId := G.2.1.2.1
def gT (G : WG) : ClassId := G.2.1.2.2.1
def gF (G : WG) : ClassId := G.2.1.2.2.2
def gA (G : WG) : Nat → Nat := G.2.2.1
def gE (G : WG) : Nat → Nat := G.2.2.2
abbrev SS : Type := Nat → Nat → Int32
def sh (G : WG) (k : Nat) (r : Nat → Int32) : va_E := match k with
  | 0 => .inr (0, [.ref (gA G 1), .ref (gA G 39), .int (r 2)])
  | 1 => .inr (1, [.ref (gA G 2), .ref (gA G 3), .ref (gA G 4), .ref (gA G 7), .ref (gA G 9), .int (r 5), .int (r 6), .int (r 7)])
  | 2 => .inl (gT G, 4, .inr (.inr (.inr (.inr (fun j => some (gA G (11 + 4 * j)))))))
  | 3 => .inl (gF G, 6, .inr (.inr (.inr (.inr (fun j => some (gA G (27 + 2 * j)))))))
  | 4 => .inr (2, [.ref (gA G 5), .ref (gA G 6), .int (r 2)])
  | 5 => .inl (gI G, 301, .inl r)
  | 6 => .inl (gI G, 301, .inl r)
  | 7 => .inr (3, [.ref (gA G 8), .int (r 1), .int (r 2)])
  | 8 => .inl (gI G, 3, .inl r)
  | 9 => .inr (4, [.ref (gA G 10), .int (r 1)])
  | 10 => .inl (gI G, 32, .inl r)
  | 11 => .inr (5, [.ref (gA G 12), .ref (gA G 13), .ref (gA G 14), .int (r 3)])
  | 15 => .inr (5, [.ref (gA G 16), .ref (gA G 17), .ref (gA G 18), .int (r 3)])
  | 19 => .inr (5, [.ref (gA G 20), .ref (gA G 21), .ref (gA G 22), .int (r 3)])
  | 23 => .inr (5, [.ref (gA G 24), .ref (gA G 25), .ref (gA G 26), .int (r 3)])
  | 12 | 13 | 14 | 16 | 17 | 18 | 20 | 21 | 22 | 24 | 25 | 26 => .inl (gI G, 32, .inl r)
  | 27 => .inr (6, [.ref (gA G 28), .int (r 1), .int (r 2), .int (r 3), .int (r 4)])
  | 29 => .inr (6, [.ref (gA G 30), .int (r 1), .int (r 2), .int (r 3), .int (r 4)])
  | 31 => .inr (6, [.ref (gA G 32), .int (r 1), .int (r 2), .int (r 3), .int (r 4)])
  | 33 => .inr (6, [.ref (gA G 34), .int (r 1), .int (r 2), .int (r 3), .int (r 4)])
  | 35 => .inr (6, [.ref (gA G 36), .int (r 1), .int (r 2), .int (r 3), .int (r 4)])
  | 37 => .inr (6, [.ref (gA G 38), .int (r 1), .int (r 2), .int (r 3), .int (r 4)])
  | 28 | 30 | 32 | 34 | 36 | 38 => .inl (gI G, 3, .inl r)
  | 39 => .inr (7, [.ref (gA G 40), .ref (gA G 41), .ref (gA G 42), .ref (gA G 43), .int (r 4)])
  | 40 => .inl (gI G, 7, .inl r)
  | 41 => .inl (gZ G, 7, .inl r)
  | 42 => .inl (gZ G, 7, .inl r)
  | 43 => .inl (gI G, 7, .inl r)
  | 44 => .inr (8, [.ref (gA G 45), .ref (gA G 46), .ref (gA G 47), .int (r 3), .ref (gA G 48), .ref (gA G 49), .ref (gA G 50), .ref (gA G 51), .int (r 8), .int (r 9), .int (r 10), .int (r 11), .int (r 12), .int (r 13), .ref (gA G 52), .ref (gA G 53), .ref (gA G 54), .ref (gA G 55), .int (r 18), .int (r 19), .int (r 20), .int (r 21), .int (r 22), .ref (gA G 56), .int (r 24)])
  | 45 | 46 => .inl (gI G, 128, .inl r)
  | 47 => .inl (gI G, 4, .inl r)
  | 48 | 49 | 50 | 51 => .inl (gI G, 80, .inl r)
  | 52 => .inl (gI G, 18, .inl r)
  | 53 => .inl (gI G, 3, .inl r)
  | 54 | 55 => .inl (gI G, 700, .inl r)
  | _ => .inl (gI G, 32, .inl r)
def fS (G : WG) (S : SS) : Nat → va_E := fun k => sh G k (S k)
def su (S : SS) (k j : Nat) (v : Int32) : SS := va_up S k (upd (S k) j v)
theorem su_same (S : SS) (k j : Nat) (v : Int32) : su S k j v k j = v := by simp [su, va_up, upd]
theorem su_cell (S : SS) {k a : Nat} (j : Nat) (v : Int32) (h : a ≠ k) : su S k j v a = S a := by simp [su, va_up, h]
theorem su_int (S : SS) {k j b : Nat} (a : Nat) (v : Int32) (h : b ≠ j) : su S k j v a b = S a b := by
  by_cases ha : a = k
  · subst ha
    simp [su, va_up, upd, h]
  · simp [su, va_up, ha]
theorem fS_up {G : WG} {S : SS} {k : Nat} {r : Nat → Int32} {e : va_E} (h : sh G k r = e) : va_up (fS G S) k e = fS G (va_up S k r) := by
  funext a
  by_cases ha : a = k
  · subst ha
    simp [va_up, fS, h]
  · simp [va_up, fS, ha]
theorem sh_T (G : WG) (r : Nat → Int32) {p : Nat} (h : p < 4) : sh G (11 + 4 * p) r = .inr (5, [.ref (gA G (12 + 4 * p)), .ref (gA G (13 + 4 * p)), .ref (gA G (14 + 4 * p)), .int (r 3)]) := by
  rcases (show p = 0 ∨ p = 1 ∨ p = 2 ∨ p = 3 by omega) with rfl | rfl | rfl | rfl <;> rfl
theorem sh_T1 (G : WG) (r : Nat → Int32) {p : Nat} (h : p < 4) : sh G (12 + 4 * p) r = .inl (gI G, 32, .inl r) := by
  rcases (show p = 0 ∨ p = 1 ∨ p = 2 ∨ p = 3 by omega) with rfl | rfl | rfl | rfl <;> rfl
theorem sh_T2 (G : WG) (r : Nat → Int32) {p : Nat} (h : p < 4) : sh G (13 + 4 * p) r = .inl (gI G, 32, .inl r) := by
  rcases (show p = 0 ∨ p = 1 ∨ p = 2 ∨ p = 3 by omega) with rfl | rfl | rfl | rfl <;> rfl
theorem sh_T3 (G : WG) (r : Nat → Int32) {p : Nat} (h : p < 4) : sh G (14 + 4 * p) r = .inl (gI G, 32, .inl r) := by
  rcases (show p = 0 ∨ p = 1 ∨ p = 2 ∨ p = 3 by omega) with rfl | rfl | rfl | rfl <;> rfl
theorem sh_F (G : WG) (r : Nat → Int32) {p : Nat} (h : p < 6) : sh G (27 + 2 * p) r = .inr (6, [.ref (gA G (28 + 2 * p)), .int (r 1), .int (r 2), .int (r 3), .int (r 4)]) := by
  rcases (show p = 0 ∨ p = 1 ∨ p = 2 ∨ p = 3 ∨ p = 4 ∨ p = 5 by omega) with rfl | rfl | rfl | rfl | rfl | rfl <;> rfl
theorem sh_F1 (G : WG) (r : Nat → Int32) {p : Nat} (h : p < 6) : sh G (28 + 2 * p) r = .inl (gI G, 3, .inl r) := by
  rcases (show p = 0 ∨ p = 1 ∨ p = 2 ∨ p = 3 ∨ p = 4 ∨ p = 5 by omega) with rfl | rfl | rfl | rfl | rfl | rfl <;> rfl
abbrev tyL (G : WG) : List (ClassId × FieldType) := [(gI G, .int), (gZ G, .boolean), (gT G, .object "EndingsLab$Text"), (gF G, .object "EndingsLab$Frame")]
abbrev enL : List String := ["ON", "BROKEN", "NEXT_TIME", "VALUE", "FAULT", "TOO_LATE"]
def AA (G : WG) : Nat → Prop := fun q => ∃ k, k < 57 ∧ gA G k = q
theorem AA_in (G : WG) : ∀ k, k < 57 → AA G (gA G k) := fun k h => ⟨k, h, rfl⟩
def isNest : Cond → Bool
  | .fieldLinkNest .. => true
  | .methodLinkNest .. => true
  | _ => false
theorem nw_nest : NW.all isNest = true := by decide +kernel
theorem nw_warm {w : Cond} (hw : isNest w = true) {s U : State} (hW : s.WarmedH U.vm) (h : va_Nw w s) : va_Nw w U := by
  cases w <;> first | exact va_Nw.warmF hW h | exact va_Nw.warmM hW h | (exfalso; revert hw; simp [isNest])
theorem nw_same {w : Cond} (hw : isNest w = true) {s U : State} (hW : s.vm = U.vm) (h : va_Nw w s) : va_Nw w U := by
  cases w <;> first | exact va_Nw.same rfl hW h | (exfalso; revert hw; simp [isNest])
/-- what stays the same all through: classes, array classes, the nest's links, the enum's constants; the cells are apart -/
def KK (G : WG) (U : State) : Prop := va_K (gD G) clsL (tyL G) U ∧ wl_inj (gA G) 57 ∧ (∀ w ∈ NW, va_Nw w U) ∧ va_En "EndingsLab$Ending" "LEndingsLab$Ending;" enL [] (gE G) (AA G) U U.heap
theorem KK.warm {G : WG} {s U : State} (h : KK G s) (hW : s.WarmedH U.vm) (hq : ∀ a : Nat, a < s.heap.size → ¬ AA G a → U.heap[a]? = s.heap[a]?) : KK G U :=
  ⟨va_K.moved hW.alike h.1, h.2.1, fun w hw => nw_warm (List.all_eq_true.mp nw_nest w hw) hW (h.2.2.1 w hw), (h.2.2.2.kept hq).moved hW.alike⟩
theorem KK.same {G : WG} {s U : State} (h : KK G s) (hv : s.vm = U.vm) (hh : s.heap = U.heap) : KK G U := by
  have ha : s.vm.Alike U.vm := by rw [hv]; exact Vm.Alike.refl _
  exact ⟨va_K.moved ha h.1, h.2.1, fun w hw => nw_same (List.all_eq_true.mp nw_nest w hw) hv (h.2.2.1 w hw), by rw [← hh]; exact h.2.2.2.moved ha⟩
def WD (G : WG) (S : SS) (U : State) : Prop := va_P (gD G) clsL (wl (gA G) 57 (fS G S)) U.heap ∧ KK G U
def Pw (G : WG) (as : List Value) (S : SS) : Array Value → State → Prop := va_Pc as (WD G S)
theorem Pw_blind (G : WG) (as : List Value) (S : SS) : FrameBlind (Pw G as S) := by
  intro a U g mk h
  exact ⟨h.1, h.2.1, h.2.2.same (U := U.calling g mk a) rfl rfl⟩
def rmF (n : Nat) : Room := { frames := n, cells := 0, slots := 0, locals := 40 * n }
theorem good_gw {w : Cond} {l : List Cond} (h : w ∈ GW) : GoodIn GW (w :: GW) := by
  intro x hx
  rcases List.mem_cons.mp hx with rfl | hx
  · exact ⟨h, good_of_word (gw_good h)⟩
  · exact ⟨hx, good_of_word (gw_good hx)⟩
