/-! THE COMMON AUTOMATON of the two checks: a stack of blocks begun (kind, what its TRY still lacks behind it, place of the opener), and lk, what the TRY before lacks now -/
abbrev Fm : Type := Int32 × Int32 × Int32
def hasK (x : Int32) : List Fm → Bool
  | [] => false
  | f :: r => hasK x r || decide (f.1 = x)
def lkOK (x : Int32) : Prop := x = 0 ∨ x = 1 ∨ x = 2 ∨ x = 4 ∨ x = 5 ∨ x = 6
def lkDue (lk : Int32) : Int32 := if lk = 0 then 0 else if lk &&& 3 = 0 then 17 else 16
def auBad (st : List Fm) (o : Int32) : Bool := decide (o = 16) || decide (o = 17) || ((decide (o = 4) || decide (o = 5)) && !hasK 3 st) || (decide (o = 8) && !hasK 16 st) || (opB o && decide (st.length = 6))
def auStep (st : List Fm) (lk o a : Int32) (i : Nat) : Option (List Fm × Int32) := match st with
  | [] => none
  | f :: r =>
    if lk = 0 then
      if o = 18 then some (r, if f.1 = 9 ∨ f.1 = 16 then f.2.1 else 0)
      else if auBad (f :: r) o = true then none
      else if opB o = true then some ((o, if o = 9 then a else 0, nI i) :: f :: r, 0)
      else some (f :: r, 0)
    else if o = lkDue lk then some ((o, if o = 16 then lk - 1 else 0, nI i) :: f :: r, 0) else none
def auE (st : List Fm) (lk o : Int32) (i : Nat) (E : Nat → Int32) : Nat → Int32 := match st with
  | [] => E
  | f :: _ => if lk = 0 ∧ o = 18 ∧ ¬ f.2.2 = -1 then upd (upd E i (nI i)) f.2.2.toNatClampNeg (nI i) else upd E i (nI i)
def auR (op ar : Nat → Int32) : Nat → Nat → List Fm → Int32 → (Nat → Int32) → Option Nat × (Nat → Int32)
  | 0, i, st, _, E => (match st with | [] => none | _ => some i, E)
  | f + 1, i, st, lk, E => match auStep st lk (op i) (ar i) i with
    | none => (some i, E)
    | some q => auR op ar f (i + 1) q.1 q.2 (auE st lk (op i) i E)
theorem auR_E (op ar : Nat → Int32) : ∀ (f i : Nat) (st : List Fm) (lk : Int32) (E E2 : Nat → Int32), (auR op ar f i st lk E).1 = (auR op ar f i st lk E2).1 := by
  intro f
  induction f with
  | zero => intro i st lk E E2; rfl
  | succ f ih =>
    intro i st lk E E2
    simp only [auR]
    cases auStep st lk (op i) (ar i) i with
    | none => rfl
    | some q => exact ih _ _ _ _ _
def wN (w : Option Nat) : Int32 := match w with
  | none => -1
  | some i => nI i
/-- the bottom frame is the text's own block -/
def bk : List Fm → Prop
  | [] => True
  | f :: r => bk r ∧ lkOK f.2.1 ∧ (r = [] → f.1 = 20)
/-- the stack in the reference's rows -/
def RepS (X : SS) : List Fm → Prop
  | [] => True
  | f :: r => X 48 r.length = f.1 ∧ X 50 r.length = f.2.1 ∧ RepS X r
theorem RepS.mv {X Y : SS} : ∀ {st : List Fm}, RepS X st → (∀ k, k < st.length → Y 48 k = X 48 k ∧ Y 50 k = X 50 k) → RepS Y st := by
  intro st
  induction st with
  | nil => intro _ _; trivial
  | cons f r ih =>
    intro h hk
    obtain ⟨h1, h2, h3⟩ := h
    have h0 := hk r.length (by simp)
    exact ⟨h0.1.trans h1, h0.2.trans h2, ih h3 (fun k hk2 => hk k (by simp; omega))⟩
theorem RepS.has {X : SS} (x : Int32) : ∀ {st : List Fm}, RepS X st → insB (X 48) x st.length = hasK x st := by
  intro st
  induction st with
  | nil => intro _; rfl
  | cons f r ih =>
    intro h
    obtain ⟨h1, h2, h3⟩ := h
    show (insB (X 48) x r.length || decide (X 48 r.length = x)) = (hasK x r || decide (f.1 = x))
    rw [ih h3, h1]
theorem moOpen_k (S : SS) (D : Nat) (x y : Int32) {a b : Nat} (h : ¬ (((a = 48 ∨ a = 50) ∧ b = D) ∨ (a = 44 ∧ b = 8))) : moOpen S D x y a b = S a b := by
  unfold moOpen
  rw [su_k _ _ (by omega), su_k _ _ (by omega), su_k _ _ (by omega)]
theorem moOpen_48 (S : SS) (D : Nat) (x y : Int32) : moOpen S D x y 48 D = x := by
  unfold moOpen
  rw [su_k _ _ (by omega), su_k _ _ (by omega), su_same]
theorem moOpen_50 (S : SS) (D : Nat) (x y : Int32) : moOpen S D x y 50 D = y := by
  unfold moOpen
  rw [su_k _ _ (by omega), su_same]
theorem moOpen_8 (S : SS) (D : Nat) (x y : Int32) : moOpen S D x y 44 8 = nI (D + 1) := by
  unfold moOpen
  rw [su_same]
theorem RepS.push {X : SS} {st : List Fm} (h : RepS X st) (x y z : Int32) : RepS (moOpen X st.length x y) ((x, y, z) :: st) :=
  ⟨moOpen_48 _ _ _ _, moOpen_50 _ _ _ _, h.mv (fun k hk => ⟨moOpen_k _ _ _ _ (by omega), moOpen_k _ _ _ _ (by omega)⟩)⟩
/-- all but the check's own rows is as before -/
def KpM (X S : SS) : Prop := ∀ a b, ¬ (a = 48 ∨ a = 50 ∨ (a = 44 ∧ b = 8)) → X a b = S a b
theorem KpM.psh {X S : SS} (h : KpM X S) (D : Nat) (x y : Int32) : KpM (moOpen X D x y) S := fun a b hab => (moOpen_k _ _ _ _ (by omega)).trans (h a b hab)
theorem KpM.pop {X S : SS} (h : KpM X S) (v : Int32) : KpM (su X 44 8 v) S := fun a b hab => (su_k _ _ (by omega)).trans (h a b hab)
theorem lkOK_dec {x : Int32} (h : lkOK x) (h0 : ¬ x &&& 3 = 0) : lkOK (x - 1) := by
  rcases h with rfl | rfl | rfl | rfl | rfl | rfl <;> first | exact absurd (by decide) h0 | (unfold lkOK; decide)
theorem lkOK_and {x : Int32} (h : lkOK x) : (0 < x &&& 3 ↔ ¬ x &&& 3 = 0) := by
  rcases h with rfl | rfl | rfl | rfl | rfl | rfl <;> decide
theorem lkOK_17 {x : Int32} (h : lkOK x) (h0 : x &&& 3 = 0) : (4 ≤ x ↔ ¬ x = 0) := by
  rcases h with rfl | rfl | rfl | rfl | rfl | rfl <;> first | decide | exact absurd h0 (by decide)
theorem lkDue_0 {x : Int32} : lkDue x = 0 ↔ x = 0 := by
  unfold lkDue
  constructor
  · intro h
    apply Classical.byContradiction
    intro hx
    rw [if_neg hx] at h
    by_cases h3 : x &&& 3 = 0
    · rw [if_pos h3] at h; exact absurd h (by decide)
    · rw [if_neg h3] at h; exact absurd h (by decide)
  · intro h; rw [if_pos h]
