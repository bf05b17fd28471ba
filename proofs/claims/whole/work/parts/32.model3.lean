/-! reference: note, behind, part, behindTry, token, wipe, event: written by wip/gen/p32.py -/
def shf (r : Nat → Int32) (k j : Nat) : Int32 := if k < j ∧ j ≤ 31 then r (j - 1) else r j
theorem shf_step (S : SS) {k : Nat} (h0 : 0 < k) (h : k ≤ 31) : su (va_up S 56 (shf (S 56) k)) 56 k (va_up S 56 (shf (S 56) k) 56 (k - 1)) = va_up S 56 (shf (S 56) (k - 1)) := by
  funext a b
  by_cases ha : a = 56
  · subst ha
    simp only [su, va_up_self, upd]
    by_cases hb : b = k
    · subst hb
      rw [if_pos rfl]
      simp only [shf]
      rw [if_neg (by omega), if_pos (by omega)]
    · rw [if_neg hb]
      simp only [shf]
      by_cases h1 : k < b ∧ b ≤ 31
      · rw [if_pos h1, if_pos (by omega)]
      · rw [if_neg h1, if_neg (by omega)]
  · simp only [su, va_up_ne _ _ ha]
theorem shf_0 (S : SS) : va_up S 56 (shf (S 56) 31) = S := by
  funext a b
  by_cases ha : a = 56
  · subst ha
    simp only [va_up_self, shf]
    rw [if_neg (by omega)]
  · simp only [va_up_ne _ _ ha]
def moNote (S : SS) (n : Nat) (a : Int32) : SS := su (su (va_up S 56 (shf (S 56) 0)) 56 0 a) 44 24 (nI (n + 1))
set_option maxHeartbeats 4000000 in
set_option maxRecDepth 100000 in
theorem m_MO_note_loop (l : Launch) (G : WG) (S : SS) (n : Nat) (hn : n < 2 ^ 30) (hs : S 44 24 = nI n) (a : Int32) {pp_ : Program} {ee_ : Env} {ss_ : State} {mm_ : MethodId} {be_ : List Frame} {me_ : Method} {co_ : Code} (hx : pp_.tables.exec = Jvm.exec) (hb : co_.code = b_MO_note) (hr : me_.sig.returnType = none) (hlk : me_.locks = false) (hml : co_.maxLocals = 3) (hC : CC G "EndingsLabModel" ss_ mm_ ([.ref (gA G 44), .int a] : List Value).toArray (AA G)) :
    ∀ (f : Nat) (k : Nat), k ≤ 31 → k < f →  ∀ (H : Heap) (locs : List Loc) (ls : Array Slot), va_P (gD G) clsL (wl (gA G) 57 (fS G (va_up S 56 (shf (S 56) k)))) H → va_S (AA G) ss_.heap H locs → lv_has ls 3 [(0, .ref (gA G 44)), (1, .int a), (2, .int (nI k))] → W pp_ l ee_ (rmF 0) ss_ mm_ ([.ref (gA G 44), .int a] : List Value).toArray be_ me_ co_ H locs 0 0 (MQ be_ (va_Qv (fun S1 => S1 = moNote S n a) (WD G) (AA G)) ([.ref (gA G 44), .int a] : List Value).toArray ss_ 0 0 (AA G)) (F0 mm_ 3 ls []) := by
  intro f
  induction f with
  | zero =>
    intro k hk hf H locs ls hP hS hl
    exact absurd hf (by omega)
  | succ f ih =>
    intro k hk hf H locs ls hP hS hl
    refine lv_iload_n hx hb d_MO_note_3 rfl (lv_at hl 2 rfl) ?_
    refine lv_if_le (tgt := 27) hx hb d_MO_note_4 (by decide) (fun c_4 => ?_) (fun c_4 => ?_)
    · have c_4 : k ≤ 0 := (q_le (a := k) (b := 0) rfl rfl (by omega) (by omega)).mp c_4
      refine lv_aload_n hx hb d_MO_note_27 rfl (lv_at hl 0 rfl) ?_
      refine r_get hx hb hC hP i_MO (44) (by decide) rfl rfl 23 (by decide) l_MO_47 rfl d_MO_note_28 ?_
      refine lv_iconst (v := 0) hx hb d_MO_note_31 (by decide) ?_
      refine lv_iload_n hx hb d_MO_note_32 rfl (lv_at hl 1 rfl) ?_
      refine r_ist hx hb hC hP hS (56) (by decide) (fun _ => rfl) 0 rfl (by decide) (by decide) d_MO_note_33 (fun H locs hP hS => ?_)
      refine lv_aload_n hx hb d_MO_note_34 rfl (lv_at hl 0 rfl) ?_
      refine lv_dup hx hb d_MO_note_35 rfl ?_
      refine r_get hx hb hC hP i_MO (44) (by decide) rfl rfl 24 (by decide) l_MO_143 rfl d_MO_note_36 ?_
      rw [show (su (va_up S 56 (shf (S 56) k)) 56 0 a) 44 24 = (va_up S 56 (shf (S 56) k)) 44 24 from by rw [su_cell _ _ _ (by decide)]]
      rw [show (va_up S 56 (shf (S 56) k)) 44 24 = nI n from (by rw [va_up_ne _ _ (by decide)]; exact hs)]
      refine lv_iconst (v := 1) hx hb d_MO_note_39 (by decide) ?_
      refine lv_iadd hx hb d_MO_note_40 ?_
      rw [show (nI n) + 1 = nI (n + 1) from nI_1 n]
      refine r_put hx hb hC hP hS i_MO t_MO t_MO_ok n_MO (44) (by decide) rfl rfl 24 (by decide) l_MO_143 rfl rfl rfl (Nat.le_of_ble_eq_true rfl) d_MO_note_41 (fun H locs hP hS => ?_)
      exact e_v hx hb hr hlk hC hP hS d_MO_note_44 (by rw [show k = 0 by omega]; rfl)
    · have c_4 : ¬ k ≤ 0 := fun h => c_4 ((q_le (a := k) (b := 0) rfl rfl (by omega) (by omega)).mpr h)
      refine lv_aload_n hx hb d_MO_note_7 rfl (lv_at hl 0 rfl) ?_
      refine r_get hx hb hC hP i_MO (44) (by decide) rfl rfl 23 (by decide) l_MO_47 rfl d_MO_note_8 ?_
      refine lv_iload_n hx hb d_MO_note_11 rfl (lv_at hl 2 rfl) ?_
      refine lv_aload_n hx hb d_MO_note_12 rfl (lv_at hl 0 rfl) ?_
      refine r_get hx hb hC hP i_MO (44) (by decide) rfl rfl 23 (by decide) l_MO_47 rfl d_MO_note_13 ?_
      refine lv_iload_n hx hb d_MO_note_16 rfl (lv_at hl 2 rfl) ?_
      refine lv_iconst (v := 1) hx hb d_MO_note_17 (by decide) ?_
      refine lv_isub hx hb d_MO_note_18 ?_
      rw [show (nI k) - 1 = nI (k - 1) from (by rw [show (1 : Int32) = nI 1 from rfl]; exact pk_sub (by omega))]
      refine r_ild hx hb hC hP (56) (by decide) rfl (k - 1) rfl (by omega) (by decide) d_MO_note_19 ?_
      refine r_ist hx hb hC hP hS (56) (by decide) (fun _ => rfl) k rfl (by omega) (by decide) d_MO_note_20 (fun H locs hP hS => ?_)
      refine lv_iinc (v := nI (k - 1)) (lv' := [(2, .int (nI (k - 1))), (0, .ref (gA G 44)), (1, .int a)]) hx hb d_MO_note_21 hl (k := 2) rfl (sb_m1 (by omega)) (by decide) rfl (fun ls hl => ?_)
      refine lv_goto (tgt := 3) hx hb d_MO_note_24 (by decide) ?_
      rw [shf_step S (by omega) hk] at hP
      exact ih (k - 1) (by omega) (by omega) _ _ _ hP hS (lv_sub hl [1, 2, 0] rfl)

set_option maxHeartbeats 4000000 in
set_option maxRecDepth 100000 in
theorem m_MO_note (l : Launch) (G : WG) (S : SS) (n : Nat) (hn : n < 2 ^ 30) (hs : S 44 24 = nI n) (a : Int32) : Cv l y_MO_note b_MO_note 3 0 G [.ref (gA G 44), .int a] S (fun S1 => S1 = moNote S n a) := by
  refine mk l (by decide +kernel) (Nat.le_of_ble_eq_true rfl) ?_
  intro pp_ ee_ ss_ mm_ be_ me_ co_ ls hx hb hr hlk hml hC hP hS hl
  have hl : lv_has ls 3 [(0, .ref (gA G 44)), (1, .int a)] := hl
  refine lv_bipush (v := 31) hx hb d_MO_note_0 (by decide) ?_
  refine lv_istore_n (lv' := [(2, .int 31), (0, .ref (gA G 44)), (1, .int a)]) hx hb d_MO_note_2 rfl hl (by decide) rfl (fun ls hl => ?_)
  rw [← shf_0 S] at hP
  exact m_MO_note_loop l G S n hn hs a hx hb hr hlk hml hC 32 31 (by omega) (by omega) _ _ _ hP hS (lv_sub hl [1, 2, 0] rfl)

def nextO (x : Int32) (o : Nat) : Nat := if opB x = true then o + 1 else if x = 18 then o - 1 else o
/-- scanning from i with o blocks open ends at e -/
def Sc (r : Nat → Int32) : Nat → Nat → Nat → Nat → Prop
  | 0, _, _, _ => False
  | f + 1, i, o, e => (o = 0 ∧ i = e ∧ i < 200) ∨ (0 < o ∧ i < 128 ∧ o < 200 ∧ Sc r f (i + 1) (nextO (r i) o) e)
set_option maxHeartbeats 4000000 in
set_option maxRecDepth 100000 in
theorem m_MO_behind_loop (l : Launch) (G : WG) (S : SS) (b e : Nat) (hb9 : b < 200) (hsc : ∃ f, Sc (S 45) f b 1 e) {pp_ : Program} {ee_ : Env} {ss_ : State} {mm_ : MethodId} {be_ : List Frame} {me_ : Method} {co_ : Code} (hx : pp_.tables.exec = Jvm.exec) (hb : co_.code = b_MO_behind) (hr : me_.sig.returnType = (some (.int))) (hlk : me_.locks = false) (hml : co_.maxLocals = 4) (hC : CC G "EndingsLabModel" ss_ mm_ ([.ref (gA G 44), .int (nI b)] : List Value).toArray (AA G)) :
    ∀ (f : Nat) (o i : Nat), Sc (S 45) f i o e →  ∀ (H : Heap) (locs : List Loc) (ls : Array Slot), va_P (gD G) clsL (wl (gA G) 57 (fS G S)) H → va_S (AA G) ss_.heap H locs → lv_has ls 4 [(0, .ref (gA G 44)), (1, .int (nI b)), (2, .int (nI o)), (3, .int (nI i))] → W pp_ l ee_ (rmF 1) ss_ mm_ ([.ref (gA G 44), .int (nI b)] : List Value).toArray be_ me_ co_ H locs 0 0 (MQ be_ (va_Qi (fun r S1 => r = nI e ∧ S1 = S) (WD G) (AA G)) ([.ref (gA G 44), .int (nI b)] : List Value).toArray ss_ 0 0 (AA G)) (F0 mm_ 4 ls []) := by
  intro f
  induction f with
  | zero =>
    intro o i hsc2 H locs ls hP hS hl
    exact hsc2.elim
  | succ f ih =>
    intro o i hsc2 H locs ls hP hS hl
    have ho2 : o < 200 := by rcases hsc2 with h | h <;> omega
    have hi2 : i < 200 := by rcases hsc2 with h | h <;> omega
    refine lv_iload_n hx hb d_MO_behind_4 rfl (lv_at hl 2 rfl) ?_
    refine lv_if_le (tgt := 43) hx hb d_MO_behind_5 (by decide) (fun c_5 => ?_) (fun c_5 => ?_)
    · have c_5 : o ≤ 0 := (q_le (a := o) (b := 0) rfl rfl (by omega) (by omega)).mp c_5
      refine lv_iload_n hx hb d_MO_behind_43 rfl (lv_at hl 3 rfl) ?_
      exact e_i hx hb hr hlk hC hP hS d_MO_behind_44 ⟨by rcases hsc2 with h | h; exact (by rw [h.2.1]); exact absurd h.1 (by omega), rfl⟩
    · have c_5 : ¬ o ≤ 0 := fun h => c_5 ((q_le (a := o) (b := 0) rfl rfl (by omega) (by omega)).mpr h)
      obtain ⟨h128, hnx⟩ : i < 128 ∧ Sc (S 45) f (i + 1) (nextO (S 45 i) o) e := by
        rcases hsc2 with h | h
        · exact absurd h.1 (by omega)
        · exact ⟨h.2.1, h.2.2.2⟩
      refine lv_aload_n hx hb d_MO_behind_8 rfl (lv_at hl 0 rfl) ?_
      refine r_get hx hb hC hP i_MO (44) (by decide) rfl rfl 0 (by decide) l_MO_7 rfl d_MO_behind_9 ?_
      refine lv_iload_n hx hb d_MO_behind_12 rfl (lv_at hl 3 rfl) ?_
      refine r_ild hx hb hC hP (45) (by decide) rfl i rfl (by omega) (by decide) d_MO_behind_13 ?_
      refine r_i hC hS (r_runS (np := 1) (As := [.int (S 45 i)]) (rest := []) hx hb hml hC hP hS (m_MO_opens l G S (S 45 i)) l_MO_69 st_MO_opens in_MO c_MO_opens_in (by decide +kernel) ⟨by simp only [rmF]; omega, by simp only [rmF]; omega⟩ rfl hl.1 (Nat.le_of_ble_eq_true rfl) d_MO_behind_14 ⟨Nat.le_refl _, Nat.le_refl _⟩) (fun r_14 S_14 H locs hw hP hS => ?_)
      obtain ⟨rfl, hSe⟩ := hw
      rw [hSe] at hP
      refine lv_if_eq (tgt := 23) hx hb d_MO_behind_17 (by decide) (fun c_17 => ?_) (fun c_17 => ?_)
      · have c_17 := b2i_f c_17
        refine lv_aload_n hx hb d_MO_behind_23 rfl (lv_at hl 0 rfl) ?_
        refine r_get hx hb hC hP i_MO (44) (by decide) rfl rfl 0 (by decide) l_MO_7 rfl d_MO_behind_24 ?_
        refine lv_iload_n hx hb d_MO_behind_27 rfl (lv_at hl 3 rfl) ?_
        refine r_ild hx hb hC hP (45) (by decide) rfl i rfl (by omega) (by decide) d_MO_behind_28 ?_
        refine lv_bipush (v := 18) hx hb d_MO_behind_29 (by decide) ?_
        refine lv_icmp_ne (tgt := 37) hx hb d_MO_behind_31 (by decide) (fun c_31 => ?_) (fun c_31 => ?_)
        · refine lv_iinc (v := nI (i + 1)) (lv' := [(3, .int (nI (i + 1))), (0, .ref (gA G 44)), (1, .int (nI b)), (2, .int (nI o))]) hx hb d_MO_behind_37 hl (k := 3) rfl (nI_1 _) (by decide) rfl (fun ls hl => ?_)
          refine lv_goto (tgt := 4) hx hb d_MO_behind_40 (by decide) ?_
          exact ih (o) (i + 1) (by have h := hnx; rw [nextO, if_neg (by rw [c_17]; decide), if_neg c_31] at h; exact h) _ _ _ hP hS (lv_sub hl [1, 2, 3, 0] rfl)
        · refine lv_iinc (v := nI (o - 1)) (lv' := [(2, .int (nI (o - 1))), (0, .ref (gA G 44)), (1, .int (nI b)), (3, .int (nI i))]) hx hb d_MO_behind_34 hl (k := 2) rfl (sb_m1 (by omega)) (by decide) rfl (fun ls hl => ?_)
          refine lv_iinc (v := nI (i + 1)) (lv' := [(3, .int (nI (i + 1))), (2, .int (nI (o - 1))), (0, .ref (gA G 44)), (1, .int (nI b))]) hx hb d_MO_behind_37 hl (k := 3) rfl (nI_1 _) (by decide) rfl (fun ls hl => ?_)
          refine lv_goto (tgt := 4) hx hb d_MO_behind_40 (by decide) ?_
          exact ih (o - 1) (i + 1) (by have h := hnx; rw [nextO, if_neg (by rw [c_17]; decide), if_pos c_31] at h; exact h) _ _ _ hP hS (lv_sub hl [2, 3, 1, 0] rfl)
      · have c_17 := b2i_t c_17
        refine lv_iinc (v := nI (o + 1)) (lv' := [(2, .int (nI (o + 1))), (0, .ref (gA G 44)), (1, .int (nI b)), (3, .int (nI i))]) hx hb d_MO_behind_20 hl (k := 2) rfl (nI_1 _) (by decide) rfl (fun ls hl => ?_)
        refine lv_aload_n hx hb d_MO_behind_23 rfl (lv_at hl 1 rfl) ?_
        refine r_get hx hb hC hP i_MO (44) (by decide) rfl rfl 0 (by decide) l_MO_7 rfl d_MO_behind_24 ?_
        refine lv_iload_n hx hb d_MO_behind_27 rfl (lv_at hl 3 rfl) ?_
        refine r_ild hx hb hC hP (45) (by decide) rfl i rfl (by omega) (by decide) d_MO_behind_28 ?_
        refine lv_bipush (v := 18) hx hb d_MO_behind_29 (by decide) ?_
        refine lv_icmp_ne (tgt := 37) hx hb d_MO_behind_31 (by decide) (fun c_31 => ?_) (fun c_31 => ?_)
        · refine lv_iinc (v := nI (i + 1)) (lv' := [(3, .int (nI (i + 1))), (2, .int (nI (o + 1))), (0, .ref (gA G 44)), (1, .int (nI b))]) hx hb d_MO_behind_37 hl (k := 3) rfl (nI_1 _) (by decide) rfl (fun ls hl => ?_)
          refine lv_goto (tgt := 4) hx hb d_MO_behind_40 (by decide) ?_
          exact ih (o + 1) (i + 1) (by have h := hnx; rw [nextO, if_pos c_17] at h; exact h) _ _ _ hP hS (lv_sub hl [2, 3, 1, 0] rfl)
        · refine lv_iinc (v := nI ((o + 1) - 1)) (lv' := [(2, .int (nI ((o + 1) - 1))), (0, .ref (gA G 44)), (1, .int (nI b)), (3, .int (nI i))]) hx hb d_MO_behind_34 hl (k := 0) rfl (sb_m1 (by omega)) (by decide) rfl (fun ls hl => ?_)
          refine lv_iinc (v := nI (i + 1)) (lv' := [(3, .int (nI (i + 1))), (2, .int (nI ((o + 1) - 1))), (0, .ref (gA G 44)), (1, .int (nI b))]) hx hb d_MO_behind_37 hl (k := 3) rfl (nI_1 _) (by decide) rfl (fun ls hl => ?_)
          refine lv_goto (tgt := 4) hx hb d_MO_behind_40 (by decide) ?_
          exact ih ((o + 1) - 1) (i + 1) (by exfalso; rw [c_31] at c_17; exact absurd c_17 (by decide)) _ _ _ hP hS (lv_sub hl [2, 3, 1, 0] rfl)

set_option maxHeartbeats 4000000 in
set_option maxRecDepth 100000 in
theorem m_MO_behind (l : Launch) (G : WG) (S : SS) (b e : Nat) (hb9 : b < 200) (hsc : ∃ f, Sc (S 45) f b 1 e) : Ci l y_MO_behind b_MO_behind 4 (some (.int)) 1 G [.ref (gA G 44), .int (nI b)] S (fun r S1 => r = nI e ∧ S1 = S) := by
  refine mk l (by decide +kernel) (Nat.le_of_ble_eq_true rfl) ?_
  intro pp_ ee_ ss_ mm_ be_ me_ co_ ls hx hb hr hlk hml hC hP hS hl
  have hl : lv_has ls 4 [(0, .ref (gA G 44)), (1, .int (nI b))] := hl
  refine lv_iconst (v := 1) hx hb d_MO_behind_0 (by decide) ?_
  refine lv_istore_n (lv' := [(2, .int 1), (0, .ref (gA G 44)), (1, .int (nI b))]) hx hb d_MO_behind_1 rfl hl (by decide) rfl (fun ls hl => ?_)
  refine lv_iload_n hx hb d_MO_behind_2 rfl (lv_at hl 2 rfl) ?_
  refine lv_istore_n (lv' := [(3, .int (nI b)), (2, .int 1), (0, .ref (gA G 44)), (1, .int (nI b))]) hx hb d_MO_behind_3 rfl hl (by decide) rfl (fun ls hl => ?_)
  obtain ⟨f0, hf0⟩ := hsc
  exact m_MO_behind_loop l G S b e hb9 ⟨f0, hf0⟩ hx hb hr hlk hml hC f0 1 b hf0 _ _ _ hP hS (lv_sub hl [2, 3, 1, 0] rfl)

set_option maxHeartbeats 4000000 in
set_option maxRecDepth 100000 in
theorem m_MO_part_loop (l : Launch) (G : WG) (S : SS) (t kk : Nat) (P : Nat → Nat) (ht : t < 128) (hkk : kk < 100) (h0 : ∃ f, Sc (S 45) f (t + 1) 1 (P 0)) (hs : ∀ j, j < kk → ∃ f, Sc (S 45) f (P j + 1) 1 (P (j + 1))) (hP9 : ∀ j, j ≤ kk → P j < 150) {pp_ : Program} {ee_ : Env} {ss_ : State} {mm_ : MethodId} {be_ : List Frame} {me_ : Method} {co_ : Code} (hx : pp_.tables.exec = Jvm.exec) (hb : co_.code = b_MO_part) (hr : me_.sig.returnType = (some (.int))) (hlk : me_.locks = false) (hml : co_.maxLocals = 5) (hC : CC G "EndingsLabModel" ss_ mm_ ([.ref (gA G 44), .int (nI t), .int (nI kk)] : List Value).toArray (AA G)) :
    ∀ (f : Nat) (j : Nat), j ≤ kk → kk < j + f →  ∀ (H : Heap) (locs : List Loc) (ls : Array Slot), va_P (gD G) clsL (wl (gA G) 57 (fS G S)) H → va_S (AA G) ss_.heap H locs → lv_has ls 5 [(0, .ref (gA G 44)), (1, .int (nI t)), (2, .int (nI kk)), (3, .int (nI (P j))), (4, .int (nI j))] → W pp_ l ee_ (rmF 2) ss_ mm_ ([.ref (gA G 44), .int (nI t), .int (nI kk)] : List Value).toArray be_ me_ co_ H locs 0 0 (MQ be_ (va_Qi (fun r S1 => r = nI (P kk) ∧ S1 = S) (WD G) (AA G)) ([.ref (gA G 44), .int (nI t), .int (nI kk)] : List Value).toArray ss_ 0 0 (AA G)) (F0 mm_ 11 ls []) := by
  intro f
  induction f with
  | zero =>
    intro j hj hf H locs ls hP hS hl
    exact absurd hf (by omega)
  | succ f ih =>
    intro j hj hf H locs ls hP hS hl
    have hPj := hP9 j hj
    refine lv_iload hx hb d_MO_part_11 (lv_at hl 4 rfl) ?_
    refine lv_iload_n hx hb d_MO_part_13 rfl (lv_at hl 2 rfl) ?_
    refine lv_icmp_ge (tgt := 31) hx hb d_MO_part_14 (by decide) (fun c_14 => ?_) (fun c_14 => ?_)
    · have c_14 : kk ≤ j := (q_le (a := kk) (b := j) rfl rfl (by omega) (by omega)).mp c_14
      refine lv_iload_n hx hb d_MO_part_31 rfl (lv_at hl 3 rfl) ?_
      exact e_i hx hb hr hlk hC hP hS d_MO_part_32 ⟨by rw [show j = kk by omega], rfl⟩
    · have c_14 : ¬ kk ≤ j := fun h => c_14 ((q_le (a := kk) (b := j) rfl rfl (by omega) (by omega)).mpr h)
      refine lv_aload_n hx hb d_MO_part_17 rfl (lv_at hl 0 rfl) ?_
      refine lv_iload_n hx hb d_MO_part_18 rfl (lv_at hl 3 rfl) ?_
      refine lv_iconst (v := 1) hx hb d_MO_part_19 (by decide) ?_
      refine lv_iadd hx hb d_MO_part_20 ?_
      rw [show (nI (P j)) + 1 = nI (P j + 1) from nI_1 _]
      refine r_i hC hS (r_runV (np := 1) (As := [.int (nI (P j + 1))]) (rest := []) hx hb hml hC hP hS (by decide) rfl rfl (m_MO_behind l G S (P j + 1) (P (j + 1)) (by omega) (hs j (by omega))) l_MO_79 im_MO_behind se_MO_behind in_MO c_MO_behind_in (by decide +kernel) ⟨by simp only [rmF]; omega, by simp only [rmF]; omega⟩ rfl hl.1 (Nat.le_of_ble_eq_true rfl) d_MO_part_21 ⟨Nat.le_refl _, Nat.le_refl _⟩) (fun r_21 S_21 H locs hw hP hS => ?_)
      obtain ⟨rfl, hSe⟩ := hw
      rw [hSe] at hP
      refine lv_istore_n (lv' := [(3, .int (nI (P (j + 1)))), (0, .ref (gA G 44)), (1, .int (nI t)), (2, .int (nI kk)), (4, .int (nI j))]) hx hb d_MO_part_24 rfl hl (by decide) rfl (fun ls hl => ?_)
      refine lv_iinc (v := nI (j + 1)) (lv' := [(4, .int (nI (j + 1))), (3, .int (nI (P (j + 1)))), (0, .ref (gA G 44)), (1, .int (nI t)), (2, .int (nI kk))]) hx hb d_MO_part_25 hl (k := 4) rfl (nI_1 _) (by decide) rfl (fun ls hl => ?_)
      refine lv_goto (tgt := 11) hx hb d_MO_part_28 (by decide) ?_
      exact ih (j + 1) (by omega) (by omega) _ _ _ hP hS (lv_sub hl [2, 3, 4, 1, 0] rfl)

set_option maxHeartbeats 4000000 in
set_option maxRecDepth 100000 in
theorem m_MO_part (l : Launch) (G : WG) (S : SS) (t kk : Nat) (P : Nat → Nat) (ht : t < 128) (hkk : kk < 100) (h0 : ∃ f, Sc (S 45) f (t + 1) 1 (P 0)) (hs : ∀ j, j < kk → ∃ f, Sc (S 45) f (P j + 1) 1 (P (j + 1))) (hP9 : ∀ j, j ≤ kk → P j < 150) : Ci l y_MO_part b_MO_part 5 (some (.int)) 2 G [.ref (gA G 44), .int (nI t), .int (nI kk)] S (fun r S1 => r = nI (P kk) ∧ S1 = S) := by
  refine mk l (by decide +kernel) (Nat.le_of_ble_eq_true rfl) ?_
  intro pp_ ee_ ss_ mm_ be_ me_ co_ ls hx hb hr hlk hml hC hP hS hl
  have hl : lv_has ls 5 [(0, .ref (gA G 44)), (1, .int (nI t)), (2, .int (nI kk))] := hl
  refine lv_aload_n hx hb d_MO_part_0 rfl (lv_at hl 0 rfl) ?_
  refine lv_iload_n hx hb d_MO_part_1 rfl (lv_at hl 1 rfl) ?_
  refine lv_iconst (v := 1) hx hb d_MO_part_2 (by decide) ?_
  refine lv_iadd hx hb d_MO_part_3 ?_
  rw [show (nI t) + 1 = nI (t + 1) from nI_1 _]
  refine r_i hC hS (r_runV (np := 1) (As := [.int (nI (t + 1))]) (rest := []) hx hb hml hC hP hS (by decide) rfl rfl (m_MO_behind l G S (t + 1) (P 0) (by omega) h0) l_MO_79 im_MO_behind se_MO_behind in_MO c_MO_behind_in (by decide +kernel) ⟨by simp only [rmF]; omega, by simp only [rmF]; omega⟩ rfl hl.1 (Nat.le_of_ble_eq_true rfl) d_MO_part_4 ⟨Nat.le_refl _, Nat.le_refl _⟩) (fun r_4 S_4 H locs hw hP hS => ?_)
  obtain ⟨rfl, hSe⟩ := hw
  rw [hSe] at hP
  refine lv_istore_n (lv' := [(3, .int (nI (P 0))), (0, .ref (gA G 44)), (1, .int (nI t)), (2, .int (nI kk))]) hx hb d_MO_part_7 rfl hl (by decide) rfl (fun ls hl => ?_)
  refine lv_iconst (v := 0) hx hb d_MO_part_8 (by decide) ?_
  refine lv_istore (lv' := [(4, .int 0), (3, .int (nI (P 0))), (0, .ref (gA G 44)), (1, .int (nI t)), (2, .int (nI kk))]) hx hb d_MO_part_9 hl (by decide) rfl (fun ls hl => ?_)
  exact m_MO_part_loop l G S t kk P ht hkk h0 hs hP9 hx hb hr hlk hml hC (kk + 1) 0 (Nat.zero_le _) (by omega) _ _ _ hP hS (lv_sub hl [2, 3, 4, 1, 0] rfl)

/-- the parts of a TRY at t: nc catches, then perhaps a last block; P j is the place behind block j -/
def TryAt (S : SS) (t nc : Nat) (la : Bool) (P : Nat → Nat) : Prop := t < 128 ∧ nc < 4 ∧ S 46 t &&& 3 = nI nc ∧ (4 ≤ S 46 t ↔ la = true) ∧ (∃ f, Sc (S 45) f (t + 1) 1 (P 0)) ∧ (∀ j, j < nc + (if la = true then 1 else 0) → ∃ f, Sc (S 45) f (P j + 1) 1 (P (j + 1))) ∧ (∀ j, j ≤ nc + 1 → P j < 150)
def tryEnd (nc : Nat) (la : Bool) (P : Nat → Nat) : Nat := P (nc + (if la = true then 1 else 0))
set_option maxHeartbeats 4000000 in
set_option maxRecDepth 100000 in
theorem m_MO_behindTry (l : Launch) (G : WG) (S : SS) (t nc : Nat) (la : Bool) (P : Nat → Nat) (hT : TryAt S t nc la P) : Ci l y_MO_behindTry b_MO_behindTry 3 (some (.int)) 3 G [.ref (gA G 44), .int (nI t)] S (fun r S1 => r = nI (tryEnd nc la P) ∧ S1 = S) := by
  obtain ⟨ht, hnc4, hnc, hla4, h0, hs, hP9⟩ := hT
  have hPnc := hP9 nc (by omega)
  refine mk l (by decide +kernel) (Nat.le_of_ble_eq_true rfl) ?_
  intro pp_ ee_ ss_ mm_ be_ me_ co_ ls hx hb hr hlk hml hC hP hS hl
  have hl : lv_has ls 3 [(0, .ref (gA G 44)), (1, .int (nI t))] := hl
  refine lv_aload_n hx hb d_MO_behindTry_0 rfl (lv_at hl 0 rfl) ?_
  refine lv_iload_n hx hb d_MO_behindTry_1 rfl (lv_at hl 1 rfl) ?_
  refine lv_aload_n hx hb d_MO_behindTry_2 rfl (lv_at hl 0 rfl) ?_
  refine r_get hx hb hC hP i_MO (44) (by decide) rfl rfl 1 (by decide) l_MO_13 rfl d_MO_behindTry_3 ?_
  refine lv_iload_n hx hb d_MO_behindTry_6 rfl (lv_at hl 1 rfl) ?_
  refine r_ild hx hb hC hP (46) (by decide) rfl t rfl (by omega) (by decide) d_MO_behindTry_7 ?_
  refine lv_iconst (v := 3) hx hb d_MO_behindTry_8 (by decide) ?_
  refine lv_iand hx hb d_MO_behindTry_9 ?_
  rw [show (S 46 t) &&& 3 = nI nc from hnc]
  refine r_i hC hS (r_runV (np := 2) (As := [.int (nI t), .int (nI nc)]) (rest := []) hx hb hml hC hP hS (by decide) rfl rfl (m_MO_part l G S t nc P (by omega) (by omega) h0 (fun j hj => hs j (by omega)) (fun j hj => hP9 j (by omega))) l_MO_82 im_MO_part se_MO_part in_MO c_MO_part_in (by decide +kernel) ⟨by simp only [rmF]; omega, by simp only [rmF]; omega⟩ rfl hl.1 (Nat.le_of_ble_eq_true rfl) d_MO_behindTry_10 ⟨Nat.le_refl _, Nat.le_refl _⟩) (fun r_10 S_10 H locs hw hP hS => ?_)
  obtain ⟨rfl, hSe⟩ := hw
  rw [hSe] at hP
  refine lv_istore_n (lv' := [(2, .int (nI (P nc))), (0, .ref (gA G 44)), (1, .int (nI t))]) hx hb d_MO_behindTry_13 rfl hl (by decide) rfl (fun ls hl => ?_)
  refine lv_aload_n hx hb d_MO_behindTry_14 rfl (lv_at hl 1 rfl) ?_
  refine r_get hx hb hC hP i_MO (44) (by decide) rfl rfl 1 (by decide) l_MO_13 rfl d_MO_behindTry_15 ?_
  refine lv_iload_n hx hb d_MO_behindTry_18 rfl (lv_at hl 2 rfl) ?_
  refine r_ild hx hb hC hP (46) (by decide) rfl t rfl (by omega) (by decide) d_MO_behindTry_19 ?_
  refine lv_iconst (v := 4) hx hb d_MO_behindTry_20 (by decide) ?_
  refine lv_icmp_lt (tgt := 34) hx hb d_MO_behindTry_21 (by decide) (fun c_21 => ?_) (fun c_21 => ?_)
  · have hla : la = false := Bool.eq_false_iff.mpr (fun h => absurd (hla4.mpr h) (Int32.not_le.mpr c_21))
    refine lv_iload_n hx hb d_MO_behindTry_34 rfl (lv_at hl 0 rfl) ?_
    exact e_i hx hb hr hlk hC hP hS d_MO_behindTry_35 ⟨by rw [tryEnd, hla]; rfl, rfl⟩
  · have hla : la = true := hla4.mp (Int32.not_lt.mp c_21)
    refine lv_aload_n hx hb d_MO_behindTry_24 rfl (lv_at hl 1 rfl) ?_
    refine lv_iload_n hx hb d_MO_behindTry_25 rfl (lv_at hl 0 rfl) ?_
    refine lv_iconst (v := 1) hx hb d_MO_behindTry_26 (by decide) ?_
    refine lv_iadd hx hb d_MO_behindTry_27 ?_
    rw [show (nI (P nc)) + 1 = nI (P nc + 1) from nI_1 _]
    refine r_i hC hS (r_runV (np := 1) (As := [.int (nI (P nc + 1))]) (rest := []) hx hb hml hC hP hS (by decide) rfl rfl (m_MO_behind l G S (P nc + 1) (P (nc + 1)) (by omega) (hs nc (by rw [if_pos hla]; omega))) l_MO_79 im_MO_behind se_MO_behind in_MO c_MO_behind_in (by decide +kernel) ⟨by simp only [rmF]; omega, by simp only [rmF]; omega⟩ rfl hl.1 (Nat.le_of_ble_eq_true rfl) d_MO_behindTry_28 ⟨Nat.le_refl _, Nat.le_refl _⟩) (fun r_28 S_28 H locs hw hP hS => ?_)
    obtain ⟨rfl, hSe⟩ := hw
    rw [hSe] at hP
    refine lv_goto (tgt := 35) hx hb d_MO_behindTry_31 (by decide) ?_
    exact e_i hx hb hr hlk hC hP hS d_MO_behindTry_35 ⟨by rw [tryEnd, hla]; rfl, rfl⟩

