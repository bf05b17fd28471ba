/-! Text.behind, Faults.causeOf, catches, releaseEntered, the lab's short methods: written by wip/gen/p22.py -/
def pe (E : Nat → Nat) (i : Nat) : Nat → Nat
  | 0 => E i
  | k + 1 => E (pe E i k + 1)
set_option maxHeartbeats 4000000 in
set_option maxRecDepth 100000 in
theorem m_TE_behind_loop (l : Launch) (G : WG) (S : SS) (p i n np : Nat) (hp : p < 4) (hn : n ≤ 32) (hi : i < n) (hs : S (11 + 4 * p) 3 = nI n) (E : Nat → Nat) (hE : ∀ j, j < n → S (14 + 4 * p) j = nI (E j) ∧ E j < 32) (hnp : np ≤ 3) (hc : tCat S p i + b2i (tLast S p i) = nI np) (hb9 : ∀ k, k < np → pe E i k + 1 < n) {pp_ : Program} {ee_ : Env} {ss_ : State} {mm_ : MethodId} {be_ : List Frame} {me_ : Method} {co_ : Code} (hx : pp_.tables.exec = Jvm.exec) (hb : co_.code = b_TE_behind) (hr : me_.sig.returnType = (some (.int))) (hlk : me_.locks = false) (hml : co_.maxLocals = 5) (hC : CC G "EndingsLab$Text" ss_ mm_ ([.ref (gA G (11 + 4 * p)), .int (nI i)] : List Value).toArray (AA G)) :
    ∀ (f : Nat) (k : Nat), k ≤ np → np < k + f → pe E i k < 32 →  ∀ (H : Heap) (locs : List Loc) (ls : Array Slot), va_P (gD G) clsL (wl (gA G) 57 (fS G S)) H → va_S (AA G) ss_.heap H locs → lv_has ls 5 [(0, .ref (gA G (11 + 4 * p))), (1, .int (nI i)), (2, .int (nI np)), (3, .int (nI (pe E i k))), (4, .int (nI k))] → W pp_ l ee_ (rmF 1) ss_ mm_ ([.ref (gA G (11 + 4 * p)), .int (nI i)] : List Value).toArray be_ me_ co_ H locs 0 0 (MQ be_ (va_Qi (fun r S1 => r = nI (pe E i np + 1) ∧ S1 = S) (WD G) (AA G)) ([.ref (gA G (11 + 4 * p)), .int (nI i)] : List Value).toArray ss_ 0 0 (AA G)) (F0 mm_ 30 ls []) := by
  intro f
  induction f with
  | zero =>
    intro k hk hf hpe H locs ls hP hS hl
    exact absurd hf (by omega)
  | succ f ih =>
    intro k hk hf hpe H locs ls hP hS hl
    refine lv_iload hx hb d_TE_behind_30 (lv_at hl 4 rfl) ?_
    refine lv_iload_n hx hb d_TE_behind_32 rfl (lv_at hl 2 rfl) ?_
    refine lv_icmp_ge (tgt := 61) hx hb d_TE_behind_33 (by decide) (fun c_33 => ?_) (fun c_33 => ?_)
    · have c_33 : np ≤ k := (q_le (a := np) (b := k) rfl rfl (by omega) (by omega)).mp c_33
      refine lv_iload_n hx hb d_TE_behind_61 rfl (lv_at hl 3 rfl) ?_
      refine lv_iconst (v := 1) hx hb d_TE_behind_62 (by decide) ?_
      refine lv_iadd hx hb d_TE_behind_63 ?_
      rw [show (nI (pe E i k)) + 1 = nI (pe E i k + 1) from nI_1 _]
      exact e_i hx hb hr hlk hC hP hS d_TE_behind_64 ⟨by first | (rw [show k = np by omega]) | (exfalso; have := hb9 k (by omega); omega), rfl⟩
    · have c_33 : ¬ np ≤ k := fun h => c_33 ((q_le (a := np) (b := k) rfl rfl (by omega) (by omega)).mpr h)
      refine lv_iload_n hx hb d_TE_behind_36 rfl (lv_at hl 3 rfl) ?_
      refine lv_iconst (v := 1) hx hb d_TE_behind_37 (by decide) ?_
      refine lv_iadd hx hb d_TE_behind_38 ?_
      rw [show (nI (pe E i k)) + 1 = nI (pe E i k + 1) from nI_1 _]
      refine lv_aload_n hx hb d_TE_behind_39 rfl (lv_at hl 0 rfl) ?_
      refine r_get hx hb hC hP i_TE (11 + 4 * p) (by omega) (sh_T G _ hp) rfl 3 (by decide) l_TE_21 rfl d_TE_behind_40 ?_
      rw [show S (11 + 4 * p) 3 = nI n from hs]
      refine lv_icmp_ge (tgt := 61) hx hb d_TE_behind_43 (by decide) (fun c_43 => ?_) (fun c_43 => ?_)
      · have c_43 : n ≤ pe E i k + 1 := (q_le (a := n) (b := pe E i k + 1) rfl rfl (by omega) (by omega)).mp c_43
        refine lv_iload_n hx hb d_TE_behind_61 rfl (lv_at hl 3 rfl) ?_
        refine lv_iconst (v := 1) hx hb d_TE_behind_62 (by decide) ?_
        refine lv_iadd hx hb d_TE_behind_63 ?_
        rw [show (nI (pe E i k)) + 1 = nI (pe E i k + 1) from nI_1 _]
        exact e_i hx hb hr hlk hC hP hS d_TE_behind_64 ⟨by first | (rw [show k = np by omega]) | (exfalso; have := hb9 k (by omega); omega), rfl⟩
      · have c_43 : ¬ n ≤ pe E i k + 1 := fun h => c_43 ((q_le (a := n) (b := pe E i k + 1) rfl rfl (by omega) (by omega)).mpr h)
        refine lv_aload_n hx hb d_TE_behind_46 rfl (lv_at hl 0 rfl) ?_
        refine r_get hx hb hC hP i_TE (11 + 4 * p) (by omega) (sh_T G _ hp) rfl 2 (by decide) l_TE_18 rfl d_TE_behind_47 ?_
        refine lv_iload_n hx hb d_TE_behind_50 rfl (lv_at hl 3 rfl) ?_
        refine lv_iconst (v := 1) hx hb d_TE_behind_51 (by decide) ?_
        refine lv_iadd hx hb d_TE_behind_52 ?_
        rw [show (nI (pe E i k)) + 1 = nI (pe E i k + 1) from nI_1 _]
        refine r_ild hx hb hC hP (14 + 4 * p) (by omega) (sh_T3 G _ hp) (pe E i k + 1) rfl (by omega) (by decide) d_TE_behind_53 ?_
        rw [show S (14 + 4 * p) (pe E i k + 1) = nI (pe E i (k + 1)) from (hE _ (by omega)).1]
        refine lv_istore_n (lv' := [(3, .int (nI (pe E i (k + 1)))), (0, .ref (gA G (11 + 4 * p))), (1, .int (nI i)), (2, .int (nI np)), (4, .int (nI k))]) hx hb d_TE_behind_54 rfl hl (by decide) rfl (fun ls hl => ?_)
        refine lv_iinc (v := nI (k + 1)) (lv' := [(4, .int (nI (k + 1))), (3, .int (nI (pe E i (k + 1)))), (0, .ref (gA G (11 + 4 * p))), (1, .int (nI i)), (2, .int (nI np))]) hx hb d_TE_behind_55 hl (k := 4) rfl (nI_1 _) (by decide) rfl (fun ls hl => ?_)
        refine lv_goto (tgt := 30) hx hb d_TE_behind_58 (by decide) ?_
        exact ih (k + 1) (by omega) (by omega) (hE _ (by omega)).2 _ _ _ hP hS (lv_sub hl [2, 3, 4, 1, 0] rfl)

set_option maxHeartbeats 4000000 in
set_option maxRecDepth 100000 in
theorem m_TE_behind (l : Launch) (G : WG) (S : SS) (p i n np : Nat) (hp : p < 4) (hn : n ≤ 32) (hi : i < n) (hs : S (11 + 4 * p) 3 = nI n) (E : Nat → Nat) (hE : ∀ j, j < n → S (14 + 4 * p) j = nI (E j) ∧ E j < 32) (hnp : np ≤ 3) (hc : tCat S p i + b2i (tLast S p i) = nI np) (hb9 : ∀ k, k < np → pe E i k + 1 < n) : Ci l y_TE_behind b_TE_behind 5 (some (.int)) 1 G [.ref (gA G (11 + 4 * p)), .int (nI i)] S (fun r S1 => r = nI (pe E i np + 1) ∧ S1 = S) := by
  refine mk l (by decide +kernel) (Nat.le_of_ble_eq_true rfl) ?_
  intro pp_ ee_ ss_ mm_ be_ me_ co_ ls hx hb hr hlk hml hC hP hS hl
  have hl : lv_has ls 5 [(0, .ref (gA G (11 + 4 * p))), (1, .int (nI i))] := hl
  refine lv_aload_n hx hb d_TE_behind_0 rfl (lv_at hl 0 rfl) ?_
  refine lv_iload_n hx hb d_TE_behind_1 rfl (lv_at hl 1 rfl) ?_
  refine r_i hC hS (r_runV (np := 1) (As := [.int (nI i)]) (rest := []) hx hb hml hC hP hS (by omega) (sh_T G _ hp) rfl (m_TE_catchesOf l G S p i hp (by omega)) l_TE_25 im_TE_catchesOf se_TE_catchesOf in_TE c_TE_catchesOf_in (by decide +kernel) ⟨by simp only [rmF]; omega, by simp only [rmF]; omega⟩ rfl hl.1 (Nat.le_of_ble_eq_true rfl) d_TE_behind_2 ⟨Nat.le_refl _, Nat.le_refl _⟩) (fun r_2 S_2 H locs hw hP hS => ?_)
  obtain ⟨rfl, hSe⟩ := hw
  rw [hSe] at hP
  refine lv_aload_n hx hb d_TE_behind_5 rfl (lv_at hl 0 rfl) ?_
  refine lv_iload_n hx hb d_TE_behind_6 rfl (lv_at hl 1 rfl) ?_
  refine r_i hC hS (r_runV (np := 1) (As := [.int (nI i)]) (rest := [.int (tCat S p i)]) hx hb hml hC hP hS (by omega) (sh_T G _ hp) rfl (m_TE_hasLast l G S p i hp (by omega)) l_TE_29 im_TE_hasLast se_TE_hasLast in_TE c_TE_hasLast_in (by decide +kernel) ⟨by simp only [rmF]; omega, by simp only [rmF]; omega⟩ rfl hl.1 (Nat.le_of_ble_eq_true rfl) d_TE_behind_7 ⟨Nat.le_refl _, Nat.le_refl _⟩) (fun r_7 S_7 H locs hw hP hS => ?_)
  obtain ⟨rfl, hSe⟩ := hw
  rw [hSe] at hP
  refine lv_if_eq (tgt := 17) hx hb d_TE_behind_10 (by decide) (fun c_10 => ?_) (fun c_10 => ?_)
  · have c_10 := b2i_f c_10
    refine lv_iconst (v := 0) hx hb d_TE_behind_17 (by decide) ?_
    refine lv_iadd hx hb d_TE_behind_18 ?_
    rw [show (tCat S p i) + 0 = nI np from (by have h := hc; rw [c_10] at h; exact h)]
    refine lv_istore_n (lv' := [(2, .int (nI np)), (0, .ref (gA G (11 + 4 * p))), (1, .int (nI i))]) hx hb d_TE_behind_19 rfl hl (by decide) rfl (fun ls hl => ?_)
    refine lv_aload_n hx hb d_TE_behind_20 rfl (lv_at hl 1 rfl) ?_
    refine r_get hx hb hC hP i_TE (11 + 4 * p) (by omega) (sh_T G _ hp) rfl 2 (by decide) l_TE_18 rfl d_TE_behind_21 ?_
    refine lv_iload_n hx hb d_TE_behind_24 rfl (lv_at hl 2 rfl) ?_
    refine r_ild hx hb hC hP (14 + 4 * p) (by omega) (sh_T3 G _ hp) i rfl (by omega) (by decide) d_TE_behind_25 ?_
    rw [show S (14 + 4 * p) i = nI (pe E i 0) from (hE _ (by omega)).1]
    refine lv_istore_n (lv' := [(3, .int (nI (pe E i 0))), (2, .int (nI np)), (0, .ref (gA G (11 + 4 * p))), (1, .int (nI i))]) hx hb d_TE_behind_26 rfl hl (by decide) rfl (fun ls hl => ?_)
    refine lv_iconst (v := 0) hx hb d_TE_behind_27 (by decide) ?_
    refine lv_istore (lv' := [(4, .int 0), (3, .int (nI (pe E i 0))), (2, .int (nI np)), (0, .ref (gA G (11 + 4 * p))), (1, .int (nI i))]) hx hb d_TE_behind_28 hl (by decide) rfl (fun ls hl => ?_)
    exact m_TE_behind_loop l G S p i n np hp hn hi hs E hE hnp hc hb9 hx hb hr hlk hml hC (np + 1) 0 (Nat.zero_le _) (by omega) (hE _ (by omega)).2 _ _ _ hP hS (lv_sub hl [3, 4, 2, 1, 0] rfl)
  · have c_10 := b2i_t c_10
    refine lv_iconst (v := 1) hx hb d_TE_behind_13 (by decide) ?_
    refine lv_goto (tgt := 18) hx hb d_TE_behind_14 (by decide) ?_
    refine lv_iadd hx hb d_TE_behind_18 ?_
    rw [show (tCat S p i) + 1 = nI np from (by have h := hc; rw [c_10] at h; exact h)]
    refine lv_istore_n (lv' := [(2, .int (nI np)), (0, .ref (gA G (11 + 4 * p))), (1, .int (nI i))]) hx hb d_TE_behind_19 rfl hl (by decide) rfl (fun ls hl => ?_)
    refine lv_aload_n hx hb d_TE_behind_20 rfl (lv_at hl 1 rfl) ?_
    refine r_get hx hb hC hP i_TE (11 + 4 * p) (by omega) (sh_T G _ hp) rfl 2 (by decide) l_TE_18 rfl d_TE_behind_21 ?_
    refine lv_iload_n hx hb d_TE_behind_24 rfl (lv_at hl 2 rfl) ?_
    refine r_ild hx hb hC hP (14 + 4 * p) (by omega) (sh_T3 G _ hp) i rfl (by omega) (by decide) d_TE_behind_25 ?_
    rw [show S (14 + 4 * p) i = nI (pe E i 0) from (hE _ (by omega)).1]
    refine lv_istore_n (lv' := [(3, .int (nI (pe E i 0))), (2, .int (nI np)), (0, .ref (gA G (11 + 4 * p))), (1, .int (nI i))]) hx hb d_TE_behind_26 rfl hl (by decide) rfl (fun ls hl => ?_)
    refine lv_iconst (v := 0) hx hb d_TE_behind_27 (by decide) ?_
    refine lv_istore (lv' := [(4, .int 0), (3, .int (nI (pe E i 0))), (2, .int (nI np)), (0, .ref (gA G (11 + 4 * p))), (1, .int (nI i))]) hx hb d_TE_behind_28 hl (by decide) rfl (fun ls hl => ?_)
    exact m_TE_behind_loop l G S p i n np hp hn hi hs E hE hnp hc hb9 hx hb hr hlk hml hC (np + 1) 0 (Nat.zero_le _) (by omega) (hE _ (by omega)).2 _ _ _ hP hS (lv_sub hl [3, 4, 2, 1, 0] rfl)

/-- the k-th cause, class's numbers: i from 0, -1 is none -/
def cz (S : SS) (n : Nat) (i : Int32) : Nat → Int32
  | 0 => i
  | k + 1 => if isB (cz S n i k) (nI n) = true then S 6 (cz S n i k).toNatClampNeg else cz S n i k
theorem cz_out {S : SS} {n : Nat} {i : Int32} {k : Nat} (h : isB (cz S n i k) (nI n) = false) : ∀ m, k ≤ m → cz S n i m = cz S n i k := by
  intro m hm
  induction m with
  | zero => rw [show k = 0 by omega]
  | succ m ih =>
    rcases (show k = m + 1 ∨ k ≤ m by omega) with h1 | h1
    · rw [h1]
    · show (if isB (cz S n i m) (nI n) = true then _ else _) = _
      rw [ih h1, h]
      rfl
theorem cz_down {S : SS} {n : Nat} {i : Int32} (hn : n ≤ 301) (hi : i < nI n) (hc : ∀ j, j < n → -1 ≤ S 6 j ∧ S 6 j < nI j) : ∀ k, isB (cz S n i k) (nI n) = true → (cz S n i k).toNatClampNeg + k < n := by
  intro k
  induction k with
  | zero =>
    intro h
    obtain ⟨j, hj, e⟩ := isB_nI (by omega) h
    rw [e, nI_clamp (by omega)]
    exact hj
  | succ k ih =>
    intro h
    by_cases hk : isB (cz S n i k) (nI n) = true
    · have h1 := ih hk
      obtain ⟨j, hj, e⟩ := isB_nI (by omega) hk
      rw [e, nI_clamp (by omega)] at h1
      obtain ⟨j2, hj2, e2⟩ := isB_nI (by omega) h
      have e3 : cz S n i (k + 1) = S 6 j := by
        show (if isB (cz S n i k) (nI n) = true then S 6 (cz S n i k).toNatClampNeg else _) = _
        rw [if_pos hk, e, nI_clamp (by omega)]
      have h4 := (hc j hj).2
      rw [← e3, e2] at h4
      have h5 := (nI_ltI (by omega) (by omega)).mp h4
      rw [e2, nI_clamp (by omega)]
      omega
    · have e3 : cz S n i (k + 1) = cz S n i k := by
        show (if isB (cz S n i k) (nI n) = true then _ else _) = _
        rw [if_neg hk]
      rw [e3] at h
      exact absurd h hk
set_option maxHeartbeats 4000000 in
set_option maxRecDepth 100000 in
theorem m_FA_causeOf_loop (l : Launch) (G : WG) (S : SS) (n kk : Nat) (hn : n ≤ 301) (hk : kk < 2 ^ 31) (hs : S 4 2 = nI n) (i : Int32) (hi : i < nI n) (hc : ∀ j, j < n → -1 ≤ S 6 j ∧ S 6 j < nI j) {pp_ : Program} {ee_ : Env} {ss_ : State} {mm_ : MethodId} {be_ : List Frame} {me_ : Method} {co_ : Code} (hx : pp_.tables.exec = Jvm.exec) (hb : co_.code = b_FA_causeOf) (hr : me_.sig.returnType = (some (.int))) (hlk : me_.locks = false) (hml : co_.maxLocals = 5) (hC : CC G "EndingsLab$Faults" ss_ mm_ ([.ref (gA G 4), .int i, .int (nI kk)] : List Value).toArray (AA G)) :
    ∀ (f : Nat) (j : Nat), j ≤ kk → j ≤ 301 → 301 < j + f →  ∀ (H : Heap) (locs : List Loc) (ls : Array Slot), va_P (gD G) clsL (wl (gA G) 57 (fS G S)) H → va_S (AA G) ss_.heap H locs → lv_has ls 5 [(0, .ref (gA G 4)), (1, .int i), (2, .int (nI kk)), (3, .int (cz S n i j)), (4, .int (nI j))] → W pp_ l ee_ (rmF 1) ss_ mm_ ([.ref (gA G 4), .int i, .int (nI kk)] : List Value).toArray be_ me_ co_ H locs 0 0 (MQ be_ (va_Qi (fun r S1 => r = cz S n i kk ∧ S1 = S) (WD G) (AA G)) ([.ref (gA G 4), .int i, .int (nI kk)] : List Value).toArray ss_ 0 0 (AA G)) (F0 mm_ 5 ls []) := by
  intro f
  induction f with
  | zero =>
    intro j hj hj3 hf H locs ls hP hS hl
    exact absurd hf (by omega)
  | succ f ih =>
    intro j hj hj3 hf H locs ls hP hS hl
    refine lv_iload hx hb d_FA_causeOf_5 (lv_at hl 4 rfl) ?_
    refine lv_iload_n hx hb d_FA_causeOf_7 rfl (lv_at hl 2 rfl) ?_
    refine lv_icmp_ge (tgt := 35) hx hb d_FA_causeOf_8 (by decide) (fun c_8 => ?_) (fun c_8 => ?_)
    · have c_8 : kk ≤ j := (q_le (a := kk) (b := j) rfl rfl (by omega) (by omega)).mp c_8
      refine lv_iload_n hx hb d_FA_causeOf_35 rfl (lv_at hl 3 rfl) ?_
      exact e_i hx hb hr hlk hC hP hS d_FA_causeOf_36 ⟨by first | (rw [show j = kk by omega]; done) | exact (cz_out c_19 kk (by omega)).symm, rfl⟩
    · have c_8 : ¬ kk ≤ j := fun h => c_8 ((q_le (a := kk) (b := j) rfl rfl (by omega) (by omega)).mpr h)
      refine lv_iload_n hx hb d_FA_causeOf_11 rfl (lv_at hl 3 rfl) ?_
      refine lv_aload_n hx hb d_FA_causeOf_12 rfl (lv_at hl 0 rfl) ?_
      refine r_get hx hb hC hP i_FA (4) (by decide) rfl rfl 2 (by decide) l_FA_18 rfl d_FA_causeOf_13 ?_
      rw [show S 4 2 = nI n from hs]
      refine r_i hC hS (r_runSN (np := 2) (As := [.int (cz S n i j), .int (nI n)]) (rest := []) hx hb hml hC hP hS (m_LB_isBelow l G S (cz S n i j) (nI n)) k_FA_22 st_LB_isBelow in_LB c_LB_isBelow_in (by decide +kernel) ⟨by simp only [rmF]; omega, by simp only [rmF]; omega⟩ rfl hl.1 (Nat.le_of_ble_eq_true rfl) d_FA_causeOf_16 ⟨Nat.le_refl _, Nat.le_refl _⟩) (fun r_16 S_16 H locs hw hP hS => ?_)
      obtain ⟨rfl, hSe⟩ := hw
      rw [hSe] at hP
      refine lv_if_eq (tgt := 35) hx hb d_FA_causeOf_19 (by decide) (fun c_19 => ?_) (fun c_19 => ?_)
      · have c_19 := b2i_f c_19
        refine lv_iload_n hx hb d_FA_causeOf_35 rfl (lv_at hl 3 rfl) ?_
        exact e_i hx hb hr hlk hC hP hS d_FA_causeOf_36 ⟨by first | (rw [show j = kk by omega]; done) | exact (cz_out c_19 kk (by omega)).symm, rfl⟩
      · have c_19 := b2i_t c_19
        obtain ⟨c, hcn, hce⟩ := isB_nI (by omega) c_19
        have hdn := cz_down hn hi hc j c_19
        refine lv_aload_n hx hb d_FA_causeOf_22 rfl (lv_at hl 0 rfl) ?_
        refine r_get hx hb hC hP i_FA (4) (by decide) rfl rfl 1 (by decide) l_FA_15 rfl d_FA_causeOf_23 ?_
        refine lv_iload_n hx hb d_FA_causeOf_26 rfl (lv_at hl 3 rfl) ?_
        refine r_ild hx hb hC hP (6) (by decide) rfl c hce (by omega) (by decide) d_FA_causeOf_27 ?_
        rw [show S 6 c = cz S n i (j + 1) from (by show _ = (if isB (cz S n i j) (nI n) = true then S 6 (cz S n i j).toNatClampNeg else _); rw [if_pos c_19, hce, nI_clamp (by omega)])]
        refine lv_istore_n (lv' := [(3, .int (cz S n i (j + 1))), (0, .ref (gA G 4)), (1, .int i), (2, .int (nI kk)), (4, .int (nI j))]) hx hb d_FA_causeOf_28 rfl hl (by decide) rfl (fun ls hl => ?_)
        refine lv_iinc (v := nI (j + 1)) (lv' := [(4, .int (nI (j + 1))), (3, .int (cz S n i (j + 1))), (0, .ref (gA G 4)), (1, .int i), (2, .int (nI kk))]) hx hb d_FA_causeOf_29 hl (k := 4) rfl (nI_1 _) (by decide) rfl (fun ls hl => ?_)
        refine lv_goto (tgt := 5) hx hb d_FA_causeOf_32 (by decide) ?_
        exact ih (j + 1) (by omega) (by omega) (by omega) _ _ _ hP hS (lv_sub hl [2, 3, 4, 1, 0] rfl)

set_option maxHeartbeats 4000000 in
set_option maxRecDepth 100000 in
theorem m_FA_causeOf (l : Launch) (G : WG) (S : SS) (n kk : Nat) (hn : n ≤ 301) (hk : kk < 2 ^ 31) (hs : S 4 2 = nI n) (i : Int32) (hi : i < nI n) (hc : ∀ j, j < n → -1 ≤ S 6 j ∧ S 6 j < nI j) : Ci l y_FA_causeOf b_FA_causeOf 5 (some (.int)) 1 G [.ref (gA G 4), .int i, .int (nI kk)] S (fun r S1 => r = cz S n i kk ∧ S1 = S) := by
  refine mk l (by decide +kernel) (Nat.le_of_ble_eq_true rfl) ?_
  intro pp_ ee_ ss_ mm_ be_ me_ co_ ls hx hb hr hlk hml hC hP hS hl
  have hl : lv_has ls 5 [(0, .ref (gA G 4)), (1, .int i), (2, .int (nI kk))] := hl
  refine lv_iload_n hx hb d_FA_causeOf_0 rfl (lv_at hl 1 rfl) ?_
  refine lv_istore_n (lv' := [(3, .int i), (0, .ref (gA G 4)), (1, .int i), (2, .int (nI kk))]) hx hb d_FA_causeOf_1 rfl hl (by decide) rfl (fun ls hl => ?_)
  refine lv_iconst (v := 0) hx hb d_FA_causeOf_2 (by decide) ?_
  refine lv_istore (lv' := [(4, .int 0), (3, .int i), (0, .ref (gA G 4)), (1, .int i), (2, .int (nI kk))]) hx hb d_FA_causeOf_3 hl (by decide) rfl (fun ls hl => ?_)
  exact m_FA_causeOf_loop l G S n kk hn hk hs i hi hc hx hb hr hlk hml hC 302 0 (Nat.zero_le _) (by omega) (by omega) _ _ _ hP hS (lv_sub hl [2, 3, 4, 1, 0] rfl)

set_option maxHeartbeats 4000000 in
set_option maxRecDepth 100000 in
theorem m_LB_value (l : Launch) (G : WG) (S : SS)  : Ci l y_LB_value b_LB_value 1 (some (.int)) 0 G [.ref (gA G 0)] S (fun r S1 => r = S 1 6 ∧ S1 = S) := by
  refine mk l (by decide +kernel) (Nat.le_of_ble_eq_true rfl) ?_
  intro pp_ ee_ ss_ mm_ be_ me_ co_ ls hx hb hr hlk hml hC hP hS hl
  have hl : lv_has ls 1 [(0, .ref (gA G 0))] := hl
  refine lv_aload_n hx hb d_LB_value_0 rfl (lv_at hl 0 rfl) ?_
  refine r_get hx hb hC hP i_LB (0) (by decide) rfl rfl 0 (by decide) l_LB_12 rfl d_LB_value_1 ?_
  refine r_getN hx hb hC hP i_MA (1) (by decide) rfl rfl 6 (by decide) k_LB_61 rfl d_LB_value_4 ?_
  exact e_i hx hb hr hlk hC hP hS d_LB_value_7 ⟨rfl, rfl⟩

set_option maxHeartbeats 4000000 in
set_option maxRecDepth 100000 in
theorem m_LB_steps (l : Launch) (G : WG) (S : SS)  : Ci l y_LB_steps b_LB_steps 1 (some (.int)) 0 G [.ref (gA G 0)] S (fun r S1 => r = S 1 5 ∧ S1 = S) := by
  refine mk l (by decide +kernel) (Nat.le_of_ble_eq_true rfl) ?_
  intro pp_ ee_ ss_ mm_ be_ me_ co_ ls hx hb hr hlk hml hC hP hS hl
  have hl : lv_has ls 1 [(0, .ref (gA G 0))] := hl
  refine lv_aload_n hx hb d_LB_steps_0 rfl (lv_at hl 0 rfl) ?_
  refine r_get hx hb hC hP i_LB (0) (by decide) rfl rfl 0 (by decide) l_LB_12 rfl d_LB_steps_1 ?_
  refine r_getN hx hb hC hP i_MA (1) (by decide) rfl rfl 5 (by decide) k_LB_79 rfl d_LB_steps_4 ?_
  exact e_i hx hb hr hlk hC hP hS d_LB_steps_7 ⟨rfl, rfl⟩

set_option maxHeartbeats 4000000 in
set_option maxRecDepth 100000 in
theorem m_LB_events (l : Launch) (G : WG) (S : SS)  : Ci l y_LB_events b_LB_events 1 (some (.int)) 0 G [.ref (gA G 0)] S (fun r S1 => r = S 9 1 ∧ S1 = S) := by
  refine mk l (by decide +kernel) (Nat.le_of_ble_eq_true rfl) ?_
  intro pp_ ee_ ss_ mm_ be_ me_ co_ ls hx hb hr hlk hml hC hP hS hl
  have hl : lv_has ls 1 [(0, .ref (gA G 0))] := hl
  refine lv_aload_n hx hb d_LB_events_0 rfl (lv_at hl 0 rfl) ?_
  refine r_get hx hb hC hP i_LB (0) (by decide) rfl rfl 0 (by decide) l_LB_12 rfl d_LB_events_1 ?_
  refine r_getN hx hb hC hP i_MA (1) (by decide) rfl rfl 4 (by decide) k_LB_82 rfl d_LB_events_4 ?_
  refine r_getN hx hb hC hP i_EV (9) (by decide) rfl rfl 1 (by decide) k_LB_86 rfl d_LB_events_7 ?_
  exact e_i hx hb hr hlk hC hP hS d_LB_events_10 ⟨rfl, rfl⟩

set_option maxHeartbeats 4000000 in
set_option maxRecDepth 100000 in
theorem m_LB_most (l : Launch) (G : WG) (S : SS)  : Ci l y_LB_most b_LB_most 1 (some (.int)) 0 G [.ref (gA G 0)] S (fun r S1 => r = S 7 2 ∧ S1 = S) := by
  refine mk l (by decide +kernel) (Nat.le_of_ble_eq_true rfl) ?_
  intro pp_ ee_ ss_ mm_ be_ me_ co_ ls hx hb hr hlk hml hC hP hS hl
  have hl : lv_has ls 1 [(0, .ref (gA G 0))] := hl
  refine lv_aload_n hx hb d_LB_most_0 rfl (lv_at hl 0 rfl) ?_
  refine r_get hx hb hC hP i_LB (0) (by decide) rfl rfl 0 (by decide) l_LB_12 rfl d_LB_most_1 ?_
  refine r_getN hx hb hC hP i_MA (1) (by decide) rfl rfl 3 (by decide) k_LB_94 rfl d_LB_most_4 ?_
  refine r_getN hx hb hC hP i_LO (7) (by decide) rfl rfl 2 (by decide) k_LB_98 rfl d_LB_most_7 ?_
  exact e_i hx hb hr hlk hC hP hS d_LB_most_10 ⟨rfl, rfl⟩

set_option maxHeartbeats 4000000 in
set_option maxRecDepth 100000 in
theorem m_LB_place (l : Launch) (G : WG) (S : SS)  : Ci l y_LB_place b_LB_place 1 (some (.int)) 0 G [.ref (gA G 0)] S (fun r S1 => r = S 0 2 ∧ S1 = S) := by
  refine mk l (by decide +kernel) (Nat.le_of_ble_eq_true rfl) ?_
  intro pp_ ee_ ss_ mm_ be_ me_ co_ ls hx hb hr hlk hml hC hP hS hl
  have hl : lv_has ls 1 [(0, .ref (gA G 0))] := hl
  refine lv_aload_n hx hb d_LB_place_0 rfl (lv_at hl 0 rfl) ?_
  refine r_get hx hb hC hP i_LB (0) (by decide) rfl rfl 2 (by decide) l_LB_23 rfl d_LB_place_1 ?_
  exact e_i hx hb hr hlk hC hP hS d_LB_place_4 ⟨rfl, rfl⟩

set_option maxHeartbeats 4000000 in
set_option maxRecDepth 100000 in
theorem m_LB_event (l : Launch) (G : WG) (S : SS) (n : Nat) (hn : n < 2 ^ 31) (hs : S 9 1 = nI n) (i : Int32) : Ci l y_LB_event b_LB_event 2 (some (.int)) 2 G [.ref (gA G 0), .int i] S (fun r S1 => r = eAt S n i ∧ S1 = S) := by
  refine mk l (by decide +kernel) (Nat.le_of_ble_eq_true rfl) ?_
  intro pp_ ee_ ss_ mm_ be_ me_ co_ ls hx hb hr hlk hml hC hP hS hl
  have hl : lv_has ls 2 [(0, .ref (gA G 0)), (1, .int i)] := hl
  refine lv_aload_n hx hb d_LB_event_0 rfl (lv_at hl 0 rfl) ?_
  refine r_get hx hb hC hP i_LB (0) (by decide) rfl rfl 0 (by decide) l_LB_12 rfl d_LB_event_1 ?_
  refine r_getN hx hb hC hP i_MA (1) (by decide) rfl rfl 4 (by decide) k_LB_82 rfl d_LB_event_4 ?_
  refine lv_iload_n hx hb d_LB_event_7 rfl (lv_at hl 1 rfl) ?_
  refine r_i hC hS (r_runV (np := 1) (As := [.int i]) (rest := []) hx hb hml hC hP hS (by decide) rfl rfl (m_EV_fromLast l G S n (by omega) hs i) l_LB_91 im_EV_fromLast se_EV_fromLast in_EV c_EV_fromLast_in (by decide +kernel) ⟨by simp only [rmF]; omega, by simp only [rmF]; omega⟩ rfl hl.1 (Nat.le_of_ble_eq_true rfl) d_LB_event_8 ⟨Nat.le_refl _, Nat.le_refl _⟩) (fun r_8 S_8 H locs hw hP hS => ?_)
  obtain ⟨rfl, hSe⟩ := hw
  rw [hSe] at hP
  exact e_i hx hb hr hlk hC hP hS d_LB_event_11 ⟨rfl, rfl⟩

def fAt (S : SS) (n : Nat) (k : Int32) : Int32 := if k < 0 then -1 else fKind S (cz S n (S 1 7) k.toNatClampNeg) n
set_option maxHeartbeats 4000000 in
set_option maxRecDepth 100000 in
theorem m_LB_fault (l : Launch) (G : WG) (S : SS) (n : Nat) (hn : n ≤ 301) (hs : S 4 2 = nI n) (hi : S 1 7 < nI n) (hc : ∀ j, j < n → -1 ≤ S 6 j ∧ S 6 j < nI j) (k : Int32) : Ci l y_LB_fault b_LB_fault 2 (some (.int)) 2 G [.ref (gA G 0), .int k] S (fun r S1 => r = fAt S n k ∧ S1 = S) := by
  refine mk l (by decide +kernel) (Nat.le_of_ble_eq_true rfl) ?_
  intro pp_ ee_ ss_ mm_ be_ me_ co_ ls hx hb hr hlk hml hC hP hS hl
  have hl : lv_has ls 2 [(0, .ref (gA G 0)), (1, .int k)] := hl
  refine lv_iload_n hx hb d_LB_fault_0 rfl (lv_at hl 1 rfl) ?_
  refine lv_if_ge (tgt := 8) hx hb d_LB_fault_1 (by decide) (fun c_1 => ?_) (fun c_1 => ?_)
  · obtain ⟨kk, hkk, hke⟩ := nI_of (x := k) (by first | assumption | exact Int32.not_lt.mpr (by assumption))
    subst hke
    refine lv_aload_n hx hb d_LB_fault_8 rfl (lv_at hl 0 rfl) ?_
    refine r_get hx hb hC hP i_LB (0) (by decide) rfl rfl 0 (by decide) l_LB_12 rfl d_LB_fault_9 ?_
    refine r_getN hx hb hC hP i_MA (1) (by decide) rfl rfl 2 (by decide) k_LB_64 rfl d_LB_fault_12 ?_
    refine lv_aload_n hx hb d_LB_fault_15 rfl (lv_at hl 0 rfl) ?_
    refine r_get hx hb hC hP i_LB (0) (by decide) rfl rfl 0 (by decide) l_LB_12 rfl d_LB_fault_16 ?_
    refine r_getN hx hb hC hP i_MA (1) (by decide) rfl rfl 2 (by decide) k_LB_64 rfl d_LB_fault_19 ?_
    refine lv_aload_n hx hb d_LB_fault_22 rfl (lv_at hl 0 rfl) ?_
    refine r_get hx hb hC hP i_LB (0) (by decide) rfl rfl 0 (by decide) l_LB_12 rfl d_LB_fault_23 ?_
    refine r_getN hx hb hC hP i_MA (1) (by decide) rfl rfl 7 (by decide) k_LB_68 rfl d_LB_fault_26 ?_
    refine lv_iload_n hx hb d_LB_fault_29 rfl (lv_at hl 1 rfl) ?_
    refine r_i hC hS (r_runV (np := 2) (As := [.int (S 1 7), .int (nI kk)]) (rest := [.ref (gA G 4)]) hx hb hml hC hP hS (by decide) rfl rfl (m_FA_causeOf l G S n kk (by omega) (by omega) hs (S 1 7) hi hc) l_LB_71 im_FA_causeOf se_FA_causeOf in_FA c_FA_causeOf_in (by decide +kernel) ⟨by simp only [rmF]; omega, by simp only [rmF]; omega⟩ rfl hl.1 (Nat.le_of_ble_eq_true rfl) d_LB_fault_30 ⟨Nat.le_refl _, Nat.le_refl _⟩) (fun r_30 S_30 H locs hw hP hS => ?_)
    obtain ⟨rfl, hSe⟩ := hw
    rw [hSe] at hP
    refine r_i hC hS (r_runV (np := 1) (As := [.int (cz S n (S 1 7) kk)]) (rest := []) hx hb hml hC hP hS (by decide) rfl rfl (m_FA_kindOf l G S n (by omega) hs (cz S n (S 1 7) kk)) l_LB_76 im_FA_kindOf se_FA_kindOf in_FA c_FA_kindOf_in (by decide +kernel) ⟨by simp only [rmF]; omega, by simp only [rmF]; omega⟩ rfl hl.1 (Nat.le_of_ble_eq_true rfl) d_LB_fault_33 ⟨Nat.le_refl _, Nat.le_refl _⟩) (fun r_33 S_33 H locs hw hP hS => ?_)
    obtain ⟨rfl, hSe⟩ := hw
    rw [hSe] at hP
    exact e_i hx hb hr hlk hC hP hS d_LB_fault_36 ⟨by rw [fAt, if_neg (nI_pos hkk), nI_clamp hkk], rfl⟩
  · refine lv_iconst (v := (-1)) hx hb d_LB_fault_4 (by decide) ?_
    refine lv_goto (tgt := 36) hx hb d_LB_fault_5 (by decide) ?_
    exact e_i hx hb hr hlk hC hP hS d_LB_fault_36 ⟨(if_pos (by first | assumption | exact Int32.not_le.mp (by assumption))).symm, rfl⟩

def rel1 (S : SS) (q i : Nat) : SS := if 0 < S (28 + 2 * q) i then lRel S i (S (28 + 2 * q) i) else S
theorem lRel_keep (S : SS) (i : Nat) (n : Int32) {a : Nat} (h7 : a ≠ 7) (h8 : a ≠ 8) : lRel S i n a = S a := by
  unfold lRel
  rw [su_cell _ _ _ h7, su_cell _ _ _ h8]
def owes (S : SS) (q : Nat) : Bool := decide (0 < S (28 + 2 * q) 0) || decide (0 < S (28 + 2 * q) 1) || decide (0 < S (28 + 2 * q) 2)
def relF (S : SS) (q i : Nat) (X : SS) : SS := if 0 < S (28 + 2 * q) i then lRel X i (S (28 + 2 * q) i) else X
def relE (S : SS) (q : Nat) : SS := relF S q 2 (relF S q 1 (relF S q 0 S))
