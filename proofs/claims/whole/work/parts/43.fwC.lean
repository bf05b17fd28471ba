/-! the class's firstWrong is the automaton: written by wip/gen/p43.py -/
def RepC (X : SS) : List Fm → Prop
  | [] => True
  | f :: r => X 40 (r.length + 1) = f.2.2 ∧ X 41 (r.length + 1) = b2i (hasK 3 (f :: r)) ∧ X 42 (r.length + 1) = b2i (hasK 16 (f :: r)) ∧ (¬ r = [] → X 43 r.length = f.2.1) ∧ RepC X r
theorem RepC.mv {X Y : SS} : ∀ {st : List Fm}, RepC X st → (∀ k, k ≤ st.length → Y 40 k = X 40 k ∧ Y 41 k = X 41 k ∧ Y 42 k = X 42 k) → (∀ k, k < st.length → Y 43 k = X 43 k) → RepC Y st := by
  intro st
  induction st with
  | nil => intro _ _ _; trivial
  | cons f r ih =>
    intro h hk h3
    obtain ⟨h1, h2, h4, h5, h6⟩ := h
    have h0 := hk (r.length + 1) (by simp)
    exact ⟨h0.1.trans h1, h0.2.1.trans h2, h0.2.2.trans h4, fun hr => (h3 r.length (by simp)).trans (h5 hr), ih h6 (fun k hk2 => hk k (by simp only [List.length_cons]; omega)) (fun k hk2 => h3 k (by simp only [List.length_cons]; omega))⟩
theorem chPush_k (S : SS) (D : Nat) (q : Int32) (t c : Bool) {a b : Nat} (h : ¬ (((40 ≤ a ∧ a ≤ 43) ∧ b = D + 1) ∨ (a = 39 ∧ b = 4))) : chPush S D q t c a b = S a b := by
  unfold chPush
  rw [su_k _ _ (by omega), su_k _ _ (by omega), su_k _ _ (by omega), su_k _ _ (by omega), su_k _ _ (by omega)]
theorem chPush_41 (S : SS) (D : Nat) (q : Int32) (t c : Bool) : chPush S D q t c 41 (D + 1) = b2i t := by
  unfold chPush
  rw [su_k _ _ (by omega), su_k _ _ (by omega), su_k _ _ (by omega), su_k _ _ (by omega), su_same]
theorem chPush_42 (S : SS) (D : Nat) (q : Int32) (t c : Bool) : chPush S D q t c 42 (D + 1) = b2i c := by
  unfold chPush
  rw [su_k _ _ (by omega), su_k _ _ (by omega), su_k _ _ (by omega), su_same]
theorem chPush_39 (S : SS) (D : Nat) (q : Int32) (t c : Bool) : chPush S D q t c 39 4 = nI (D + 1) := by
  unfold chPush
  rw [su_k _ _ (by omega), su_k _ _ (by omega), su_same]
theorem chPush_40 (S : SS) (D : Nat) (q : Int32) (t c : Bool) : chPush S D q t c 40 (D + 1) = q := by
  unfold chPush
  rw [su_k _ _ (by omega), su_same]
theorem chPush_43 (S : SS) (D : Nat) (q : Int32) (t c : Bool) : chPush S D q t c 43 (D + 1) = 0 := by
  unfold chPush
  rw [su_same]
theorem RepC.push {X : SS} {st : List Fm} (h : RepC X st) {f : Fm} {t c : Bool} (ht : t = hasK 3 (f :: st)) (hc : c = hasK 16 (f :: st)) (h43 : ¬ st = [] → X 43 st.length = f.2.1) : RepC (chPush X st.length f.2.2 t c) (f :: st) := by
  refine ⟨chPush_40 _ _ _ _ _, by rw [chPush_41, ht], by rw [chPush_42, hc], fun hr => (chPush_k _ _ _ _ _ (by omega)).trans (h43 hr), h.mv (fun k hk => ⟨chPush_k _ _ _ _ _ (by omega), chPush_k _ _ _ _ _ (by omega), chPush_k _ _ _ _ _ (by omega)⟩) (fun k hk => chPush_k _ _ _ _ _ (by omega))⟩
theorem RepC.one {X : SS} {st : List Fm} (h : RepC X st) {T i : Nat} (v : Int32) (hT : T < 39) : RepC (su X T i v) st := h.mv (fun k _ => ⟨su_k _ _ (by omega), su_k _ _ (by omega), su_k _ _ (by omega)⟩) (fun k _ => su_k _ _ (by omega))
theorem RepC.lac {X : SS} {st : List Fm} (h : RepC X st) {D : Nat} (v : Int32) (hD : D = st.length) : RepC (su X 43 D v) st := h.mv (fun k _ => ⟨su_k _ _ (by omega), su_k _ _ (by omega), su_k _ _ (by omega)⟩) (fun k hk => su_k _ _ (by omega))
theorem msB_eq (D : Nat) (ti ca : Bool) (lk o : Int32) : msB D ti ca lk o = if lk = 0 then (if o = 16 ∨ o = 17 then false else if o = 4 ∨ o = 5 then ti else if o = 8 then ca else if o = 3 ∨ o = 9 ∨ o = 10 ∨ o = 14 then decide (D + 1 < 6) else true) else decide (o = lkDue lk) := by
  unfold msB
  simp only [show ∀ k : Int32, (o = k) = (o.toInt = k.toInt) from fun k => propext Int32.toInt_inj.symm]
  rfl
theorem ms_bad {f : Fm} {r : List Fm} {o : Int32} (hL : r.length + 1 ≤ 6) (h18 : ¬ o = 18) : msB r.length (hasK 3 (f :: r)) (hasK 16 (f :: r)) 0 o = !auBad (f :: r) o := by
  rw [msB_eq, if_pos rfl]
  by_cases h16 : o = 16
  · subst h16; simp [auBad]
  by_cases h17 : o = 17
  · subst h17; simp [auBad]
  by_cases h4 : o = 4
  · subst h4; simp [auBad, opB]
  by_cases h5 : o = 5
  · subst h5; simp [auBad, opB]
  by_cases h8 : o = 8
  · subst h8; simp [auBad, opB]
  have hd : decide (r.length + 1 < 6) = !decide (r.length + 1 = 6) := by
    by_cases h6 : r.length + 1 = 6
    · rw [decide_eq_true h6, decide_eq_false (by omega)]; rfl
    · rw [decide_eq_false h6, decide_eq_true (by omega)]; rfl
  have hne : auBad (f :: r) o = (opB o && decide (r.length + 1 = 6)) := by
    simp [auBad, h16, h17, h4, h5, h8]
  rw [hne, if_neg (by simp [h16, h17]), if_neg (by simp [h4, h5]), if_neg h8]
  by_cases h3 : o = 3 ∨ o = 9 ∨ o = 10 ∨ o = 14
  · rw [if_pos h3, hd]
    have : opB o = true := by rcases h3 with rfl | rfl | rfl | rfl <;> decide
    rw [this]; rfl
  · rw [if_neg h3]
    have : opB o = false := by
      simp only [not_or] at h3
      simp [opB, h3, h16, h17]
    rw [this]; rfl
theorem ms_no {f : Fm} {r : List Fm} {lk o a : Int32} {i : Nat} (hL : r.length + 1 ≤ 6) (h : msB r.length (hasK 3 (f :: r)) (hasK 16 (f :: r)) lk o = false) : auStep (f :: r) lk o a i = none := by
  by_cases h0 : lk = 0
  · subst h0
    by_cases h18 : o = 18
    · subst h18
      rw [msB_eq, if_pos rfl, if_neg (by decide), if_neg (by decide), if_neg (by decide), if_neg (by decide)] at h
      exact absurd h (by decide)
    · rw [ms_bad hL h18] at h
      exact as_bad rfl h18 (by simpa using h)
  · rw [msB_eq, if_neg h0] at h
    exact as_due0 h0 (of_decide_eq_false h)
theorem ms_due {D : Nat} {t c : Bool} {lk o : Int32} (h0 : ¬ lk = 0) (h : msB D t c lk o = true) : o = lkDue lk := by
  rw [msB_eq, if_neg h0] at h
  exact of_decide_eq_true h
theorem lkDue_or {lk : Int32} (h0 : ¬ lk = 0) : lkDue lk = 16 ∨ lkDue lk = 17 := by
  unfold lkDue
  rw [if_neg h0]
  by_cases h : lk &&& 3 = 0
  · rw [if_pos h]; exact Or.inr rfl
  · rw [if_neg h]; exact Or.inl rfl
theorem ms_lk0 {D : Nat} {t c : Bool} {lk o : Int32} (h : msB D t c lk o = true) (h16 : ¬ o = 16) (h17 : ¬ o = 17) : lk = 0 := Classical.byContradiction (fun h0 => (lkDue_or h0).elim (fun e => h16 ((ms_due h0 h).trans e)) (fun e => h17 ((ms_due h0 h).trans e)))
theorem ms_lkn {D : Nat} {t c : Bool} {lk o : Int32} (h : msB D t c lk o = true) (h16 : o = 16 ∨ o = 17) : ¬ lk = 0 := fun h0 => by
  rw [msB_eq, if_pos h0, if_pos h16] at h
  exact absurd h (by decide)
theorem ms_ok {f : Fm} {r : List Fm} {lk o : Int32} (hL : r.length + 1 ≤ 6) (h0 : lk = 0) (h18 : ¬ o = 18) (h : msB r.length (hasK 3 (f :: r)) (hasK 16 (f :: r)) lk o = true) : auBad (f :: r) o = false := by
  subst h0
  rw [ms_bad hL h18] at h
  simpa using h
theorem ms_6 {f : Fm} {r : List Fm} {o : Int32} (hL : r.length + 1 ≤ 6) (hb : auBad (f :: r) o = false) (ho : opB o = true) : r.length + 1 < 6 := by
  have h : ¬ (f :: r).length = 6 := fun h6 => by
    simp only [auBad, Bool.or_eq_false_iff] at hb
    rw [ho, decide_eq_true h6] at hb
    exact absurd hb.2 (by decide)
  have h2 : ¬ r.length + 1 = 6 := h
  omega
/-- places of openers -/
def OpOK (i : Nat) : List Fm → Prop
  | [] => True
  | f :: r => (f.2.2 = -1 ∨ ∃ j, j < i ∧ f.2.2 = nI j) ∧ OpOK i r
theorem OpOK.up {i : Nat} : ∀ {st : List Fm}, OpOK i st → OpOK (i + 1) st := by
  intro st
  induction st with
  | nil => intro _; trivial
  | cons f r ih =>
    intro h
    exact ⟨h.1.elim Or.inl (fun ⟨j, h1, h2⟩ => Or.inr ⟨j, by omega, h2⟩), ih h.2⟩
def KpC (p : Nat) (X S : SS) : Prop := (∀ a b, ¬ ((39 ≤ a ∧ a ≤ 43) ∨ a = 14 + 4 * p) → X a b = S a b) ∧ X 41 0 = 0 ∧ X 42 0 = 0
theorem KpC.su {p : Nat} {X S : SS} (h : KpC p X S) {k j : Nat} (v : Int32) (hk : k = 39 ∨ k = 43 ∨ k = 14 + 4 * p) (hp : p < 4) : KpC p (su X k j v) S :=
  ⟨fun a b hab => (su_k _ _ (by omega)).trans (h.1 a b hab), (su_k _ _ (by omega)).trans h.2.1, (su_k _ _ (by omega)).trans h.2.2⟩
theorem KpC.psh {p : Nat} {X S : SS} (h : KpC p X S) (D : Nat) (q : Int32) (t c : Bool) : KpC p (chPush X D q t c) S :=
  ⟨fun a b hab => (chPush_k _ _ _ _ _ (by omega)).trans (h.1 a b hab), (chPush_k _ _ _ _ _ (by omega)).trans h.2.1, (chPush_k _ _ _ _ _ (by omega)).trans h.2.2⟩
def fwC (S : SS) (p n : Nat) : Option Nat × (Nat → Int32) := auR (S (12 + 4 * p)) (S (13 + 4 * p)) n 0 [(20, 0, -1)] 0 (S (14 + 4 * p))
theorem su_row (S : SS) (k j : Nat) (v : Int32) : su S k j v k = upd (S k) j v := by
  unfold su
  rw [va_up_self]
theorem chPush_T (S : SS) (D : Nat) (q : Int32) (t c : Bool) {a : Nat} (h : a < 39) : chPush S D q t c a = S a := by
  funext b
  exact chPush_k _ _ _ _ _ (by omega)
theorem auE_no {f : Fm} {r : List Fm} {lk o : Int32} {i : Nat} {E : Nat → Int32} (h : ¬ o = 18 ∨ f.2.2 = -1) : auE (f :: r) lk o i E = upd E i (nI i) := by
  simp only [auE]
  rw [if_neg (fun h2 => h.elim (fun h3 => h3 h2.2.1) (fun h3 => h2.2.2 h3))]
theorem auE_end {f : Fm} {r : List Fm} {lk o : Int32} {i j : Nat} {E : Nat → Int32} (h0 : lk = 0) (ho : o = 18) (hj : j < 2 ^ 31) (hq : f.2.2 = nI j) : auE (f :: r) lk o i E = upd (upd E i (nI i)) j (nI i) := by
  simp only [auE]
  rw [if_pos ⟨h0, ho, by rw [hq]; exact fun h => absurd (h ▸ nI_pos' hj) (by decide)⟩, hq, nI_clamp hj]
def lf0 : List Fm → Prop
  | [] => True
  | f :: r => (¬ (f.1 = 9 ∨ f.1 = 16) → f.2.1 = 0) ∧ lf0 r
theorem left0 {f : Fm} {r : List Fm} (h : lf0 (f :: r)) : (if f.1 = 9 ∨ f.1 = 16 then f.2.1 else 0) = f.2.1 := by
  by_cases hf : f.1 = 9 ∨ f.1 = 16
  · rw [if_pos hf]
  · rw [if_neg hf, h.1 hf]
set_option maxHeartbeats 4000000 in
set_option maxRecDepth 100000 in
theorem m_CH_firstWrong_loop (l : Launch) (G : WG) (S : SS) (p n : Nat) (hp : p < 4) (hn : n ≤ 32) (hsz : S (11 + 4 * p) 3 = nI n) (htok : ∀ j, j < n → S (12 + 4 * p) j = 9 → lkOK (S (13 + 4 * p) j)) (h410 : S 41 0 = 0) (h420 : S 42 0 = 0) {pp_ : Program} {ee_ : Env} {ss_ : State} {mm_ : MethodId} {be_ : List Frame} {me_ : Method} {co_ : Code} (hx : pp_.tables.exec = Jvm.exec) (hb : co_.code = b_CH_firstWrong) (hr : me_.sig.returnType = (some (.int))) (hlk : me_.locks = false) (hml : co_.maxLocals = 3) (hC : CC G "EndingsLab$Checker" ss_ mm_ ([.ref (gA G 39), .ref (gA G (11 + 4 * p))] : List Value).toArray (AA G)) :
    ∀ (f : Nat) (i : Nat) (X : SS) (st : List Fm) (lk : Int32), i ≤ n → n < i + f → RepC X st → X 39 4 = nI st.length → st.length ≤ 6 → (¬ st = [] → X 43 st.length = lk) → KpC p X S → lkOK lk → (¬ lk = 0 → st.length < 6) → bk st → OpOK i st → lf0 st → auR (S (12 + 4 * p)) (S (13 + 4 * p)) (n - i) i st lk (X (14 + 4 * p)) = fwC S p n →  ∀ (H : Heap) (locs : List Loc) (ls : Array Slot), va_P (gD G) clsL (wl (gA G) 57 (fS G X)) H → va_S (AA G) ss_.heap H locs → lv_has ls 3 [(0, .ref (gA G 39)), (1, .ref (gA G (11 + 4 * p))), (2, .int (nI i))] → W pp_ l ee_ (rmF 2) ss_ mm_ ([.ref (gA G 39), .ref (gA G (11 + 4 * p))] : List Value).toArray be_ me_ co_ H locs 0 0 (MQ be_ (va_Qi (fun x S1 => x = wN (fwC S p n).1 ∧ S1 (14 + 4 * p) = (fwC S p n).2 ∧ KpC p S1 S) (WD G) (AA G)) ([.ref (gA G 39), .ref (gA G (11 + 4 * p))] : List Value).toArray ss_ 0 0 (AA G)) (F0 mm_ 14 ls []) := by
  intro f
  induction f with
  | zero =>
    intro i X st lk hi hf hR hD hL h43 hK hlok hl6 hbk hop hlf hA H locs ls hP hS hl
    exact absurd hf (by omega)
  | succ f ih =>
    intro i X st lk hi hf hR hD hL h43 hK hlok hl6 hbk hop hlf hA H locs ls hP hS hl
    refine lv_iload_n hx hb d_CH_firstWrong_14 rfl (lv_at hl 2 rfl) ?_
    refine lv_aload_n hx hb d_CH_firstWrong_15 rfl (lv_at hl 1 rfl) ?_
    refine r_getN hx hb hC hP i_TE (11 + 4 * p) (by omega) (sh_T G _ hp) rfl 3 (by decide) k_CH_33 rfl d_CH_firstWrong_16 ?_
    rw [show X (11 + 4 * p) 3 = nI n from ((hK.1 _ _ (by omega)).trans hsz)]
    refine lv_icmp_ge (tgt := 56) hx hb d_CH_firstWrong_19 (by decide) (fun c_19 => ?_) (fun c_19 => ?_)
    · have c_19 : n ≤ i := (q_le (a := n) (b := i) rfl rfl (by omega) (by omega)).mp c_19
      refine lv_aload_n hx hb d_CH_firstWrong_56 rfl (lv_at hl 0 rfl) ?_
      refine r_get hx hb hC hP i_CH (39) (by decide) rfl rfl 4 (by decide) l_CH_25 rfl d_CH_firstWrong_57 ?_
      rw [show X 39 4 = nI st.length from hD]
      refine lv_if_ne (tgt := 67) hx hb d_CH_firstWrong_60 (by decide) (fun c_60 => ?_) (fun c_60 => ?_)
      · have c_60 : ¬ st.length = 0 := fun h => c_60 ((q_eq (a := st.length) (b := 0) rfl rfl (by omega) (by omega)).mpr h)
        refine lv_aload_n hx hb d_CH_firstWrong_67 rfl (lv_at hl 1 rfl) ?_
        refine r_getN hx hb hC hP i_TE (11 + 4 * p) (by omega) (sh_T G _ hp) rfl 3 (by decide) k_CH_33 rfl d_CH_firstWrong_68 ?_
        rw [show X (11 + 4 * p) 3 = nI n from ((hK.1 _ _ (by omega)).trans hsz)]
        exact e_i hx hb hr hlk hC hP hS d_CH_firstWrong_71 ⟨by rw [show n - i = 0 by omega] at hA; rw [← hA]; cases st with | nil => exact absurd rfl c_60 | cons fr r => (show nI n = nI i; rw [show n = i by omega]), by rw [show n - i = 0 by omega] at hA; rw [← hA]; rfl, hK⟩
      · have c_60 : st.length = 0 := (q_eq (a := st.length) (b := 0) rfl rfl (by omega) (by omega)).mp c_60
        refine lv_iconst (v := (-1)) hx hb d_CH_firstWrong_63 (by decide) ?_
        refine lv_goto (tgt := 71) hx hb d_CH_firstWrong_64 (by decide) ?_
        exact e_i hx hb hr hlk hC hP hS d_CH_firstWrong_71 ⟨by obtain rfl : st = [] := List.eq_nil_of_length_eq_zero c_60; rw [show n - i = 0 by omega] at hA; rw [← hA]; rfl, by rw [show n - i = 0 by omega] at hA; rw [← hA]; rfl, hK⟩
    · have c_19 : ¬ n ≤ i := fun h => c_19 ((q_le (a := n) (b := i) rfl rfl (by omega) (by omega)).mpr h)
      obtain ⟨o, ho⟩ : ∃ o, o = S (12 + 4 * p) i := ⟨_, rfl⟩
      obtain ⟨a, ha⟩ : ∃ a, a = S (13 + 4 * p) i := ⟨_, rfl⟩
      have hA2 : (match auStep st lk o a i with | none => (some i, X (14 + 4 * p)) | some q => auR (S (12 + 4 * p)) (S (13 + 4 * p)) (n - (i + 1)) (i + 1) q.1 q.2 (auE st lk o i (X (14 + 4 * p)))) = fwC S p n := by rw [show n - i = (n - (i + 1)) + 1 by omega] at hA; rw [ho, ha]; exact hA
      refine lv_aload_n hx hb d_CH_firstWrong_22 rfl (lv_at hl 0 rfl) ?_
      refine r_get hx hb hC hP i_CH (39) (by decide) rfl rfl 4 (by decide) l_CH_25 rfl d_CH_firstWrong_23 ?_
      rw [show X 39 4 = nI st.length from hD]
      refine lv_if_eq (tgt := 42) hx hb d_CH_firstWrong_26 (by decide) (fun c_26 => ?_) (fun c_26 => ?_)
      · have c_26 : st.length = 0 := (q_eq (a := st.length) (b := 0) rfl rfl (by omega) (by omega)).mp c_26
        obtain rfl : st = [] := List.eq_nil_of_length_eq_zero c_26
        refine lv_iload_n hx hb d_CH_firstWrong_42 rfl (lv_at hl 2 rfl) ?_
        exact e_i hx hb hr hlk hC hP hS d_CH_firstWrong_43 ⟨by rw [← hA2]; rfl, by rw [← hA2]; rfl, hK⟩
      · have c_26 : ¬ st.length = 0 := fun h => c_26 ((q_eq (a := st.length) (b := 0) rfl rfl (by omega) (by omega)).mpr h)
        obtain ⟨fr, r, rfl⟩ : ∃ fr r, st = fr :: r := by cases st with | nil => exact absurd rfl c_26 | cons fr r => exact ⟨fr, r, rfl⟩
        have hL2 : r.length + 1 ≤ 6 := hL
        have h43 : X 43 (r.length + 1) = lk := h43 (by simp)
        refine lv_aload_n hx hb d_CH_firstWrong_29 rfl (lv_at hl 0 rfl) ?_
        refine lv_aload_n hx hb d_CH_firstWrong_30 rfl (lv_at hl 1 rfl) ?_
        refine r_getN hx hb hC hP i_TE (11 + 4 * p) (by omega) (sh_T G _ hp) rfl 0 (by decide) k_CH_38 rfl d_CH_firstWrong_31 ?_
        refine lv_iload_n hx hb d_CH_firstWrong_34 rfl (lv_at hl 2 rfl) ?_
        refine r_ild hx hb hC hP (12 + 4 * p) (by omega) (sh_T1 G _ hp) i rfl (by omega) (by decide) d_CH_firstWrong_35 ?_
        rw [show X (12 + 4 * p) i = o from ((hK.1 _ _ (by omega)).trans ho.symm)]
        refine r_i hC hS (r_runV (np := 1) (As := [.int o]) (rest := []) hx hb hml hC hP hS (by decide) rfl rfl (m_CH_mayStand l G X r.length (by omega) hD lk o h43 (hasK 3 (fr :: r)) (hasK 16 (fr :: r)) hR.2.1 hR.2.2.1) l_CH_41 im_CH_mayStand se_CH_mayStand in_CH c_CH_mayStand_in (by decide +kernel) ⟨by simp only [rmF]; omega, by simp only [rmF]; omega⟩ rfl hl.1 (Nat.le_of_ble_eq_true rfl) d_CH_firstWrong_36 ⟨Nat.le_refl _, Nat.le_refl _⟩) (fun r_36 S_36 H locs hw hP hS => ?_)
        obtain ⟨rfl, hSe⟩ := hw
        rw [hSe] at hP
        refine lv_if_ne (tgt := 44) hx hb d_CH_firstWrong_39 (by decide) (fun c_39 => ?_) (fun c_39 => ?_)
        · have c_39 := b2i_t c_39
          refine lv_aload_n hx hb d_CH_firstWrong_44 rfl (lv_at hl 0 rfl) ?_
          refine lv_aload_n hx hb d_CH_firstWrong_45 rfl (lv_at hl 1 rfl) ?_
          refine lv_iload_n hx hb d_CH_firstWrong_46 rfl (lv_at hl 2 rfl) ?_
          by_cases hc : o = 18
          · have hlk0 : lk = 0 := ms_lk0 c_39 (by rw [hc]; decide) (by rw [hc]; decide)
            rcases hop.1 with hq | ⟨j, hji, hq⟩
            · refine r_v hC hS (r_runV (np := 2) (As := [.ref (gA G (11 + 4 * p)), .int (nI i)]) (rest := []) hx hb hml hC hP hS (by decide) rfl rfl (m_CH_take_endR l G X p i hp (by omega) ((hK.1 _ _ (by omega)).trans (ho.symm.trans hc)) r.length (by omega) hD (hR.1.trans hq)) l_CH_45 im_CH_take se_CH_take in_CH c_CH_take_in (by decide +kernel) ⟨by simp only [rmF]; omega, by simp only [rmF]; omega⟩ rfl hl.1 (Nat.le_of_ble_eq_true rfl) d_CH_firstWrong_47 ⟨Nat.le_refl _, Nat.le_refl _⟩) (fun S_47 H locs hw hP hS => ?_)
              rw [hw] at hP
              refine lv_iinc (v := nI (i + 1)) (lv' := [(2, .int (nI (i + 1))), (0, .ref (gA G 39)), (1, .ref (gA G (11 + 4 * p)))]) hx hb d_CH_firstWrong_50 hl (k := 2) rfl (nI_1 _) (by decide) rfl (fun ls hl => ?_)
              refine lv_goto (tgt := 14) hx hb d_CH_firstWrong_53 (by decide) ?_
              exact ih (i + 1) _ r (if fr.1 = 9 ∨ fr.1 = 16 then fr.2.1 else 0) (by omega) (by omega) (hR.2.2.2.2.mv (fun k hk => ⟨by rw [su_k _ _ (by omega), su_k _ _ (by omega)], by rw [su_k _ _ (by omega), su_k _ _ (by omega)], by rw [su_k _ _ (by omega), su_k _ _ (by omega)]⟩) (fun k hk => by rw [su_k _ _ (by omega), su_k _ _ (by omega)])) (su_same _ _ _ _) (by omega) (fun hr => by rw [su_k _ _ (by omega), su_k _ _ (by omega), hR.2.2.2.1 hr]; exact (left0 hlf).symm) ((hK.su _ (Or.inr (Or.inr rfl)) hp).su _ (Or.inl rfl) hp) (by split; exact hbk.2.1; exact Or.inl rfl) (fun _ => by omega) hbk.1 hop.2.up hlf.2 (by rw [as_end hlk0 hc] at hA2; rw [su_cell _ _ _ (by omega), su_row, ← auE_no (Or.inr hq) (lk := lk) (o := o) (r := r) (E := X (14 + 4 * p))]; exact hA2) _ _ _ hP hS (lv_sub hl [1, 2, 0] rfl)
            · refine r_v hC hS (r_runV (np := 2) (As := [.ref (gA G (11 + 4 * p)), .int (nI i)]) (rest := []) hx hb hml hC hP hS (by decide) rfl rfl (m_CH_take_endJ l G X p i hp (by omega) ((hK.1 _ _ (by omega)).trans (ho.symm.trans hc)) r.length (by omega) hD j (by omega) (hR.1.trans hq)) l_CH_45 im_CH_take se_CH_take in_CH c_CH_take_in (by decide +kernel) ⟨by simp only [rmF]; omega, by simp only [rmF]; omega⟩ rfl hl.1 (Nat.le_of_ble_eq_true rfl) d_CH_firstWrong_47 ⟨Nat.le_refl _, Nat.le_refl _⟩) (fun S_47 H locs hw hP hS => ?_)
              rw [hw] at hP
              refine lv_iinc (v := nI (i + 1)) (lv' := [(2, .int (nI (i + 1))), (0, .ref (gA G 39)), (1, .ref (gA G (11 + 4 * p)))]) hx hb d_CH_firstWrong_50 hl (k := 2) rfl (nI_1 _) (by decide) rfl (fun ls hl => ?_)
              refine lv_goto (tgt := 14) hx hb d_CH_firstWrong_53 (by decide) ?_
              exact ih (i + 1) _ r (if fr.1 = 9 ∨ fr.1 = 16 then fr.2.1 else 0) (by omega) (by omega) (hR.2.2.2.2.mv (fun k hk => ⟨by rw [su_k _ _ (by omega), su_k _ _ (by omega), su_k _ _ (by omega)], by rw [su_k _ _ (by omega), su_k _ _ (by omega), su_k _ _ (by omega)], by rw [su_k _ _ (by omega), su_k _ _ (by omega), su_k _ _ (by omega)]⟩) (fun k hk => by rw [su_k _ _ (by omega), su_k _ _ (by omega), su_k _ _ (by omega)])) (su_same _ _ _ _) (by omega) (fun hr => by rw [su_k _ _ (by omega), su_k _ _ (by omega), su_k _ _ (by omega), hR.2.2.2.1 hr]; exact (left0 hlf).symm) (((hK.su _ (Or.inr (Or.inr rfl)) hp).su _ (Or.inr (Or.inr rfl)) hp).su _ (Or.inl rfl) hp) (by split; exact hbk.2.1; exact Or.inl rfl) (fun _ => by omega) hbk.1 hop.2.up hlf.2 (by rw [as_end hlk0 hc] at hA2; rw [su_cell _ _ _ (by omega), su_row, su_row, ← auE_end (r := r) (E := X (14 + 4 * p)) hlk0 hc (show j < 2 ^ 31 by omega) hq]; exact hA2) _ _ _ hP hS (lv_sub hl [1, 2, 0] rfl)
          have hc18 := hc
          clear hc
          by_cases hc : o = 16
          · have hlk0 : ¬ lk = 0 := ms_lkn c_39 (by rw [hc]; decide)
            have hdu := ms_due hlk0 c_39
            have hL6 : r.length + 1 < 6 := hl6 hlk0
            refine r_v hC hS (r_runV (np := 2) (As := [.ref (gA G (11 + 4 * p)), .int (nI i)]) (rest := []) hx hb hml hC hP hS (by decide) rfl rfl (m_CH_take_catch l G X p i hp (by omega) ((hK.1 _ _ (by omega)).trans (ho.symm.trans hc)) r.length (by omega) hD (hasK 3 (fr :: r)) (hasK 16 (fr :: r)) hR.2.1 hR.2.2.1) l_CH_45 im_CH_take se_CH_take in_CH c_CH_take_in (by decide +kernel) ⟨by simp only [rmF]; omega, by simp only [rmF]; omega⟩ rfl hl.1 (Nat.le_of_ble_eq_true rfl) d_CH_firstWrong_47 ⟨Nat.le_refl _, Nat.le_refl _⟩) (fun S_47 H locs hw hP hS => ?_)
            rw [hw] at hP
            refine lv_iinc (v := nI (i + 1)) (lv' := [(2, .int (nI (i + 1))), (0, .ref (gA G 39)), (1, .ref (gA G (11 + 4 * p)))]) hx hb d_CH_firstWrong_50 hl (k := 2) rfl (nI_1 _) (by decide) rfl (fun ls hl => ?_)
            refine lv_goto (tgt := 14) hx hb d_CH_firstWrong_53 (by decide) ?_
            exact ih (i + 1) _ ((o, (lk - 1), nI i) :: fr :: r) 0 (by omega) (by omega) (RepC.push (f := (o, (lk - 1), nI i)) ((hR.one _ (by omega)).lac _ rfl) (by simp [hasK, hc]) (by simp [hasK, hc]) (fun _ => (su_same _ _ _ _).trans (by rw [h43]))) (chPush_39 _ _ _ _ _) (by simp only [List.length_cons]; omega) (fun _ => chPush_43 _ _ _ _ _) ((hK.su _ (Or.inr (Or.inr rfl)) hp).su _ (Or.inr (Or.inl rfl)) hp |>.psh _ _ _ _) (Or.inl rfl) (fun h => absurd rfl h) ⟨hbk, (lkOK_dec hlok (fun h => absurd (hc.symm.trans hdu) (by rw [lkDue, if_neg hlk0, if_pos h]; decide))), fun h => absurd h (by simp)⟩ ⟨Or.inr ⟨i, by omega, rfl⟩, hop.up⟩ ⟨fun h => absurd (Or.inr hc) h, hlf⟩ (by rw [as_due hlk0 hdu, if_pos hc] at hA2; rw [chPush_T _ _ _ _ _ (by omega), su_cell _ _ _ (by omega), su_row, ← auE_no (f := fr) (r := r) (lk := lk) (Or.inl hc18)]; exact hA2) _ _ _ hP hS (lv_sub hl [1, 2, 0] rfl)
          have hc16 := hc
          clear hc
          by_cases hc : o = 17
          · have hlk0 : ¬ lk = 0 := ms_lkn c_39 (by rw [hc]; decide)
            have hdu := ms_due hlk0 c_39
            have hL6 : r.length + 1 < 6 := hl6 hlk0
            refine r_v hC hS (r_runV (np := 2) (As := [.ref (gA G (11 + 4 * p)), .int (nI i)]) (rest := []) hx hb hml hC hP hS (by decide) rfl rfl (m_CH_take_last l G X p i hp (by omega) ((hK.1 _ _ (by omega)).trans (ho.symm.trans hc)) r.length (by omega) hD (hasK 3 (fr :: r)) (hasK 16 (fr :: r)) hR.2.1 hR.2.2.1) l_CH_45 im_CH_take se_CH_take in_CH c_CH_take_in (by decide +kernel) ⟨by simp only [rmF]; omega, by simp only [rmF]; omega⟩ rfl hl.1 (Nat.le_of_ble_eq_true rfl) d_CH_firstWrong_47 ⟨Nat.le_refl _, Nat.le_refl _⟩) (fun S_47 H locs hw hP hS => ?_)
            rw [hw] at hP
            refine lv_iinc (v := nI (i + 1)) (lv' := [(2, .int (nI (i + 1))), (0, .ref (gA G 39)), (1, .ref (gA G (11 + 4 * p)))]) hx hb d_CH_firstWrong_50 hl (k := 2) rfl (nI_1 _) (by decide) rfl (fun ls hl => ?_)
            refine lv_goto (tgt := 14) hx hb d_CH_firstWrong_53 (by decide) ?_
            exact ih (i + 1) _ ((o, 0, nI i) :: fr :: r) 0 (by omega) (by omega) (RepC.push (f := (o, 0, nI i)) ((hR.one _ (by omega)).lac _ rfl) (by simp [hasK, hc]) (by simp [hasK, hc]) (fun _ => su_same _ _ _ _)) (chPush_39 _ _ _ _ _) (by simp only [List.length_cons]; omega) (fun _ => chPush_43 _ _ _ _ _) ((hK.su _ (Or.inr (Or.inr rfl)) hp).su _ (Or.inr (Or.inl rfl)) hp |>.psh _ _ _ _) (Or.inl rfl) (fun h => absurd rfl h) ⟨hbk, (Or.inl rfl), fun h => absurd h (by simp)⟩ ⟨Or.inr ⟨i, by omega, rfl⟩, hop.up⟩ ⟨fun _ => rfl, hlf⟩ (by rw [as_due hlk0 hdu, if_neg (by rw [hc]; decide)] at hA2; rw [chPush_T _ _ _ _ _ (by omega), su_cell _ _ _ (by omega), su_row, ← auE_no (f := fr) (r := r) (lk := lk) (Or.inl hc18)]; exact hA2) _ _ _ hP hS (lv_sub hl [1, 2, 0] rfl)
          have hc17 := hc
          clear hc
          have hlk0 : lk = 0 := ms_lk0 c_39 hc16 hc17
          have hbd := ms_ok hL2 hlk0 hc18 c_39
          by_cases hc : o = 9
          · have hopb : opB o = true := by rw [hc]; decide
            have hL6 := ms_6 hL2 hbd hopb
            refine r_v hC hS (r_runV (np := 2) (As := [.ref (gA G (11 + 4 * p)), .int (nI i)]) (rest := []) hx hb hml hC hP hS (by decide) rfl rfl (m_CH_take_try l G X p i hp (by omega) ((hK.1 _ _ (by omega)).trans (ho.symm.trans hc)) r.length (by omega) hD (hasK 3 (fr :: r)) (hasK 16 (fr :: r)) hR.2.1 hR.2.2.1) l_CH_45 im_CH_take se_CH_take in_CH c_CH_take_in (by decide +kernel) ⟨by simp only [rmF]; omega, by simp only [rmF]; omega⟩ rfl hl.1 (Nat.le_of_ble_eq_true rfl) d_CH_firstWrong_47 ⟨Nat.le_refl _, Nat.le_refl _⟩) (fun S_47 H locs hw hP hS => ?_)
            rw [hw] at hP
            refine lv_iinc (v := nI (i + 1)) (lv' := [(2, .int (nI (i + 1))), (0, .ref (gA G 39)), (1, .ref (gA G (11 + 4 * p)))]) hx hb d_CH_firstWrong_50 hl (k := 2) rfl (nI_1 _) (by decide) rfl (fun ls hl => ?_)
            refine lv_goto (tgt := 14) hx hb d_CH_firstWrong_53 (by decide) ?_
            exact ih (i + 1) _ ((o, a, nI i) :: fr :: r) 0 (by omega) (by omega) (RepC.push (f := (o, a, nI i)) ((hR.one _ (by omega)).lac _ rfl) (by simp [hasK, hc]) (by simp [hasK, hc]) (fun _ => (su_same _ _ _ _).trans ((hK.1 _ _ (by omega)).trans ha.symm))) (chPush_39 _ _ _ _ _) (by simp only [List.length_cons]; omega) (fun _ => chPush_43 _ _ _ _ _) ((hK.su _ (Or.inr (Or.inr rfl)) hp).su _ (Or.inr (Or.inl rfl)) hp |>.psh _ _ _ _) (Or.inl rfl) (fun h => absurd rfl h) ⟨hbk, (ha ▸ htok i (by omega) (ho ▸ hc)), fun h => absurd h (by simp)⟩ ⟨Or.inr ⟨i, by omega, rfl⟩, hop.up⟩ ⟨fun h => absurd (Or.inl hc) h, hlf⟩ (by rw [as_push hlk0 hc18 hbd hopb, if_pos hc] at hA2; rw [chPush_T _ _ _ _ _ (by omega), su_cell _ _ _ (by omega), su_row, ← auE_no (f := fr) (r := r) (lk := lk) (Or.inl hc18)]; exact hA2) _ _ _ hP hS (lv_sub hl [1, 2, 0] rfl)
          have hc9 := hc
          clear hc
          by_cases hc : o = 3
          · have hopb : opB o = true := by rw [hc]; decide
            have hL6 := ms_6 hL2 hbd hopb
            refine r_v hC hS (r_runV (np := 2) (As := [.ref (gA G (11 + 4 * p)), .int (nI i)]) (rest := []) hx hb hml hC hP hS (by decide) rfl rfl (m_CH_take_times l G X p i hp (by omega) ((hK.1 _ _ (by omega)).trans (ho.symm.trans hc)) r.length (by omega) hD (hasK 3 (fr :: r)) (hasK 16 (fr :: r)) hR.2.1 hR.2.2.1) l_CH_45 im_CH_take se_CH_take in_CH c_CH_take_in (by decide +kernel) ⟨by simp only [rmF]; omega, by simp only [rmF]; omega⟩ rfl hl.1 (Nat.le_of_ble_eq_true rfl) d_CH_firstWrong_47 ⟨Nat.le_refl _, Nat.le_refl _⟩) (fun S_47 H locs hw hP hS => ?_)
            rw [hw] at hP
            refine lv_iinc (v := nI (i + 1)) (lv' := [(2, .int (nI (i + 1))), (0, .ref (gA G 39)), (1, .ref (gA G (11 + 4 * p)))]) hx hb d_CH_firstWrong_50 hl (k := 2) rfl (nI_1 _) (by decide) rfl (fun ls hl => ?_)
            refine lv_goto (tgt := 14) hx hb d_CH_firstWrong_53 (by decide) ?_
            exact ih (i + 1) _ ((o, 0, nI i) :: fr :: r) 0 (by omega) (by omega) (RepC.push (f := (o, 0, nI i)) (hR.one _ (by omega)) (by simp [hasK, hc]) (by simp [hasK, hc]) (fun _ => (su_k _ _ (by simp only [List.length_cons]; omega)).trans (h43.trans hlk0))) (chPush_39 _ _ _ _ _) (by simp only [List.length_cons]; omega) (fun _ => chPush_43 _ _ _ _ _) ((hK.su _ (Or.inr (Or.inr rfl)) hp).psh _ _ _ _) (Or.inl rfl) (fun h => absurd rfl h) ⟨hbk, (Or.inl rfl), fun h => absurd h (by simp)⟩ ⟨Or.inr ⟨i, by omega, rfl⟩, hop.up⟩ ⟨fun _ => rfl, hlf⟩ (by rw [as_push hlk0 hc18 hbd hopb, if_neg (by rw [hc]; decide)] at hA2; rw [chPush_T _ _ _ _ _ (by omega), su_row, ← auE_no (f := fr) (r := r) (lk := lk) (Or.inl hc18)]; exact hA2) _ _ _ hP hS (lv_sub hl [1, 2, 0] rfl)
          have hc3 := hc
          clear hc
          by_cases hc : o = 10
          · have hopb : opB o = true := by rw [hc]; decide
            have hL6 := ms_6 hL2 hbd hopb
            refine r_v hC hS (r_runV (np := 2) (As := [.ref (gA G (11 + 4 * p)), .int (nI i)]) (rest := []) hx hb hml hC hP hS (by decide) rfl rfl (m_CH_take_blk10 l G X p i hp (by omega) ((hK.1 _ _ (by omega)).trans (ho.symm.trans hc)) r.length (by omega) hD (hasK 3 (fr :: r)) (hasK 16 (fr :: r)) hR.2.1 hR.2.2.1) l_CH_45 im_CH_take se_CH_take in_CH c_CH_take_in (by decide +kernel) ⟨by simp only [rmF]; omega, by simp only [rmF]; omega⟩ rfl hl.1 (Nat.le_of_ble_eq_true rfl) d_CH_firstWrong_47 ⟨Nat.le_refl _, Nat.le_refl _⟩) (fun S_47 H locs hw hP hS => ?_)
            rw [hw] at hP
            refine lv_iinc (v := nI (i + 1)) (lv' := [(2, .int (nI (i + 1))), (0, .ref (gA G 39)), (1, .ref (gA G (11 + 4 * p)))]) hx hb d_CH_firstWrong_50 hl (k := 2) rfl (nI_1 _) (by decide) rfl (fun ls hl => ?_)
            refine lv_goto (tgt := 14) hx hb d_CH_firstWrong_53 (by decide) ?_
            exact ih (i + 1) _ ((o, 0, nI i) :: fr :: r) 0 (by omega) (by omega) (RepC.push (f := (o, 0, nI i)) (hR.one _ (by omega)) (by simp [hasK, hc]) (by simp [hasK, hc]) (fun _ => (su_k _ _ (by simp only [List.length_cons]; omega)).trans (h43.trans hlk0))) (chPush_39 _ _ _ _ _) (by simp only [List.length_cons]; omega) (fun _ => chPush_43 _ _ _ _ _) ((hK.su _ (Or.inr (Or.inr rfl)) hp).psh _ _ _ _) (Or.inl rfl) (fun h => absurd rfl h) ⟨hbk, (Or.inl rfl), fun h => absurd h (by simp)⟩ ⟨Or.inr ⟨i, by omega, rfl⟩, hop.up⟩ ⟨fun _ => rfl, hlf⟩ (by rw [as_push hlk0 hc18 hbd hopb, if_neg (by rw [hc]; decide)] at hA2; rw [chPush_T _ _ _ _ _ (by omega), su_row, ← auE_no (f := fr) (r := r) (lk := lk) (Or.inl hc18)]; exact hA2) _ _ _ hP hS (lv_sub hl [1, 2, 0] rfl)
          have hc10 := hc
          clear hc
          by_cases hc : o = 14
          · have hopb : opB o = true := by rw [hc]; decide
            have hL6 := ms_6 hL2 hbd hopb
            refine r_v hC hS (r_runV (np := 2) (As := [.ref (gA G (11 + 4 * p)), .int (nI i)]) (rest := []) hx hb hml hC hP hS (by decide) rfl rfl (m_CH_take_blk14 l G X p i hp (by omega) ((hK.1 _ _ (by omega)).trans (ho.symm.trans hc)) r.length (by omega) hD (hasK 3 (fr :: r)) (hasK 16 (fr :: r)) hR.2.1 hR.2.2.1) l_CH_45 im_CH_take se_CH_take in_CH c_CH_take_in (by decide +kernel) ⟨by simp only [rmF]; omega, by simp only [rmF]; omega⟩ rfl hl.1 (Nat.le_of_ble_eq_true rfl) d_CH_firstWrong_47 ⟨Nat.le_refl _, Nat.le_refl _⟩) (fun S_47 H locs hw hP hS => ?_)
            rw [hw] at hP
            refine lv_iinc (v := nI (i + 1)) (lv' := [(2, .int (nI (i + 1))), (0, .ref (gA G 39)), (1, .ref (gA G (11 + 4 * p)))]) hx hb d_CH_firstWrong_50 hl (k := 2) rfl (nI_1 _) (by decide) rfl (fun ls hl => ?_)
            refine lv_goto (tgt := 14) hx hb d_CH_firstWrong_53 (by decide) ?_
            exact ih (i + 1) _ ((o, 0, nI i) :: fr :: r) 0 (by omega) (by omega) (RepC.push (f := (o, 0, nI i)) (hR.one _ (by omega)) (by simp [hasK, hc]) (by simp [hasK, hc]) (fun _ => (su_k _ _ (by simp only [List.length_cons]; omega)).trans (h43.trans hlk0))) (chPush_39 _ _ _ _ _) (by simp only [List.length_cons]; omega) (fun _ => chPush_43 _ _ _ _ _) ((hK.su _ (Or.inr (Or.inr rfl)) hp).psh _ _ _ _) (Or.inl rfl) (fun h => absurd rfl h) ⟨hbk, (Or.inl rfl), fun h => absurd h (by simp)⟩ ⟨Or.inr ⟨i, by omega, rfl⟩, hop.up⟩ ⟨fun _ => rfl, hlf⟩ (by rw [as_push hlk0 hc18 hbd hopb, if_neg (by rw [hc]; decide)] at hA2; rw [chPush_T _ _ _ _ _ (by omega), su_row, ← auE_no (f := fr) (r := r) (lk := lk) (Or.inl hc18)]; exact hA2) _ _ _ hP hS (lv_sub hl [1, 2, 0] rfl)
          have hc14 := hc
          clear hc
          have hc : ¬ o = 3 ∧ ¬ o = 9 ∧ ¬ o = 10 ∧ ¬ o = 14 ∧ ¬ o = 16 ∧ ¬ o = 17 ∧ ¬ o = 18 := ⟨hc3, hc9, hc10, hc14, hc16, hc17, hc18⟩
          have hopb : opB o = false := by simp [opB, hc3, hc9, hc10, hc14, hc16, hc17]
          refine r_v hC hS (r_runV (np := 2) (As := [.ref (gA G (11 + 4 * p)), .int (nI i)]) (rest := []) hx hb hml hC hP hS (by decide) rfl rfl (m_CH_take_plain l G X p i hp (by omega) (by rw [show X (12 + 4 * p) i = o from (hK.1 _ _ (by omega)).trans ho.symm]; exact hc)) l_CH_45 im_CH_take se_CH_take in_CH c_CH_take_in (by decide +kernel) ⟨by simp only [rmF]; omega, by simp only [rmF]; omega⟩ rfl hl.1 (Nat.le_of_ble_eq_true rfl) d_CH_firstWrong_47 ⟨Nat.le_refl _, Nat.le_refl _⟩) (fun S_47 H locs hw hP hS => ?_)
          rw [hw] at hP
          refine lv_iinc (v := nI (i + 1)) (lv' := [(2, .int (nI (i + 1))), (0, .ref (gA G 39)), (1, .ref (gA G (11 + 4 * p)))]) hx hb d_CH_firstWrong_50 hl (k := 2) rfl (nI_1 _) (by decide) rfl (fun ls hl => ?_)
          refine lv_goto (tgt := 14) hx hb d_CH_firstWrong_53 (by decide) ?_
          exact ih (i + 1) _ (fr :: r) 0 (by omega) (by omega) (hR.mv (fun k hk => ⟨su_k _ _ (by omega), su_k _ _ (by omega), su_k _ _ (by omega)⟩) (fun k hk => su_k _ _ (by omega))) ((su_k _ _ (by omega)).trans hD) hL (fun _ => (su_k _ _ (by omega)).trans (h43.trans hlk0)) (hK.su _ (Or.inr (Or.inr rfl)) hp) (Or.inl rfl) (fun h => absurd rfl h) hbk hop.up hlf (by rw [as_on hlk0 hc18 hbd hopb] at hA2; rw [su_row, ← auE_no (f := fr) (r := r) (lk := lk) (Or.inl hc18)]; exact hA2) _ _ _ hP hS (lv_sub hl [1, 2, 0] rfl)
        · have c_39 := b2i_f c_39
          refine lv_iload_n hx hb d_CH_firstWrong_42 rfl (lv_at hl 2 rfl) ?_
          exact e_i hx hb hr hlk hC hP hS d_CH_firstWrong_43 ⟨by rw [ms_no hL2 c_39] at hA2; rw [← hA2]; rfl, by rw [ms_no hL2 c_39] at hA2; rw [← hA2], hK⟩

set_option maxHeartbeats 4000000 in
set_option maxRecDepth 100000 in
theorem m_CH_firstWrong (l : Launch) (G : WG) (S : SS) (p n : Nat) (hp : p < 4) (hn : n ≤ 32) (hsz : S (11 + 4 * p) 3 = nI n) (htok : ∀ j, j < n → S (12 + 4 * p) j = 9 → lkOK (S (13 + 4 * p) j)) (h410 : S 41 0 = 0) (h420 : S 42 0 = 0) : Ci l y_CH_firstWrong b_CH_firstWrong 3 (some (.int)) 2 G [.ref (gA G 39), .ref (gA G (11 + 4 * p))] S (fun x S1 => x = wN (fwC S p n).1 ∧ S1 (14 + 4 * p) = (fwC S p n).2 ∧ KpC p S1 S) := by
  refine mk l (by decide +kernel) (Nat.le_of_ble_eq_true rfl) ?_
  intro pp_ ee_ ss_ mm_ be_ me_ co_ ls hx hb hr hlk hml hC hP hS hl
  have hl : lv_has ls 3 [(0, .ref (gA G 39)), (1, .ref (gA G (11 + 4 * p)))] := hl
  refine lv_aload_n hx hb d_CH_firstWrong_0 rfl (lv_at hl 0 rfl) ?_
  refine lv_iconst (v := 0) hx hb d_CH_firstWrong_1 (by decide) ?_
  refine r_put hx hb hC hP hS i_CH t_CH t_CH_ok n_CH (39) (by decide) rfl rfl 4 (by decide) l_CH_25 rfl rfl rfl (Nat.le_of_ble_eq_true rfl) d_CH_firstWrong_2 (fun H locs hP hS => ?_)
  refine lv_aload_n hx hb d_CH_firstWrong_5 rfl (lv_at hl 0 rfl) ?_
  refine lv_iconst (v := (-1)) hx hb d_CH_firstWrong_6 (by decide) ?_
  refine lv_iconst (v := 0) hx hb d_CH_firstWrong_7 (by decide) ?_
  refine lv_iconst (v := 0) hx hb d_CH_firstWrong_8 (by decide) ?_
  refine r_v hC hS (r_runV (np := 3) (As := [.int (-1), .int 0, .int 0]) (rest := []) hx hb hml hC hP hS (by decide) rfl rfl (m_CH_open l G (su S 39 4 0) 0 (by omega) (su_same _ _ _ _) (-1) false false false false (by rw [su_cell _ _ _ (by decide)]; exact h410) (by rw [su_cell _ _ _ (by decide)]; exact h420)) l_CH_29 im_CH_open se_CH_open in_CH c_CH_open_in (by decide +kernel) ⟨by simp only [rmF]; omega, by simp only [rmF]; omega⟩ rfl hl.1 (Nat.le_of_ble_eq_true rfl) d_CH_firstWrong_9 ⟨Nat.le_refl _, Nat.le_refl _⟩) (fun S_9 H locs hw hP hS => ?_)
  rw [hw] at hP
  refine lv_iconst (v := 0) hx hb d_CH_firstWrong_12 (by decide) ?_
  refine lv_istore_n (lv' := [(2, .int 0), (0, .ref (gA G 39)), (1, .ref (gA G (11 + 4 * p)))]) hx hb d_CH_firstWrong_13 rfl hl (by decide) rfl (fun ls hl => ?_)
  exact m_CH_firstWrong_loop l G S p n hp hn hsz htok h410 h420 hx hb hr hlk hml hC (n + 1) 0 _ [(20, 0, -1)] 0 (Nat.zero_le _) (by omega) (RepC.push (X := su S 39 4 0) (st := []) (f := (20, 0, -1)) trivial rfl rfl (fun h => absurd rfl h)) (chPush_39 _ _ _ _ _) (by decide) (fun _ => chPush_43 _ _ _ _ _) ((KpC.su ⟨fun _ _ _ => rfl, h410, h420⟩ _ (Or.inl rfl) hp).psh _ _ _ _) (Or.inl rfl) (fun h => absurd rfl h) ⟨trivial, Or.inl rfl, fun _ => rfl⟩ ⟨Or.inl rfl, trivial⟩ ⟨fun _ => rfl, trivial⟩ (by rw [chPush_T _ _ _ _ _ (by omega), su_cell _ _ _ (by omega)]; rfl) _ _ _ hP hS (lv_sub hl [1, 2, 0] rfl)

