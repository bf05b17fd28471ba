/-! the class's judge, check, judgeAll: written by wip/gen/p44.py -/
def plC (p : Nat) (w : Option Nat) : Int32 := match w with
  | none => -1
  | some i => 32 * nI p + nI i
def jdPost (S : SS) (p n : Nat) (r : Int32) (S1 : SS) : Prop := (r = match (fwC S p n).1 with | none => 0 | some _ => -3) ∧ ∃ X, KpC p X S ∧ X (14 + 4 * p) = (fwC S p n).2 ∧ S1 = su X 0 2 (plC p (fwC S p n).1)
theorem wN_m1 {w : Option Nat} (h : ∀ i, w = some i → i < 2 ^ 31) (h1 : wN w = -1) : w = none := by
  cases w with
  | none => rfl
  | some i =>
    have h2 : nI i = -1 := h1
    have h3 := nI_pos' (n := i) (h i rfl)
    rw [h2] at h3
    exact absurd h3 (by decide)
theorem wN_no {w : Option Nat} (h1 : ¬ wN w = -1) : ∃ i, w = some i := by
  cases w with
  | none => exact absurd rfl h1
  | some i => exact ⟨i, rfl⟩
theorem auR_lt (op ar : Nat → Int32) : ∀ (f i : Nat) (st : List Fm) (lk : Int32) (E : Nat → Int32) (w : Nat), (auR op ar f i st lk E).1 = some w → w ≤ i + f := by
  intro f
  induction f with
  | zero =>
    intro i st lk E w h
    cases st with
    | nil => cases h
    | cons a r => have : i = w := Option.some.inj h; omega
  | succ f ih =>
    intro i st lk E w h
    simp only [auR] at h
    cases hs : auStep st lk (op i) (ar i) i with
    | none => rw [hs] at h; have : i = w := Option.some.inj h; omega
    | some q => rw [hs] at h; have := ih _ _ _ _ _ h; omega
theorem fwC_lt {S : SS} {p n w : Nat} (hn : n ≤ 32) (h : (fwC S p n).1 = some w) : w < 2 ^ 31 := by
  have := auR_lt _ _ _ _ _ _ _ _ h
  omega
set_option maxHeartbeats 4000000 in
set_option maxRecDepth 100000 in
theorem m_LB_judge (l : Launch) (G : WG) (S : SS) (p n : Nat) (hp : p < 4) (hn : n ≤ 32) (hsz : S (11 + 4 * p) 3 = nI n) (htok : ∀ j, j < n → S (12 + 4 * p) j = 9 → lkOK (S (13 + 4 * p) j)) (h410 : S 41 0 = 0) (h420 : S 42 0 = 0) : Ci l y_LB_judge b_LB_judge 3 (some (.int)) 3 G [.ref (gA G 0), .int (nI p)] S (jdPost S p n) := by
  refine mk l (by decide +kernel) (Nat.le_of_ble_eq_true rfl) ?_
  intro pp_ ee_ ss_ mm_ be_ me_ co_ ls hx hb hr hlk hml hC hP hS hl
  have hl : lv_has ls 3 [(0, .ref (gA G 0)), (1, .int (nI p))] := hl
  refine lv_aload_n hx hb d_LB_judge_0 rfl (lv_at hl 0 rfl) ?_
  refine r_get hx hb hC hP i_LB (0) (by decide) rfl rfl 1 (by decide) l_LB_19 rfl d_LB_judge_1 ?_
  refine lv_aload_n hx hb d_LB_judge_4 rfl (lv_at hl 0 rfl) ?_
  refine r_get hx hb hC hP i_LB (0) (by decide) rfl rfl 0 (by decide) l_LB_12 rfl d_LB_judge_5 ?_
  refine r_getN hx hb hC hP i_MA (1) (by decide) rfl rfl 0 (by decide) k_LB_34 rfl d_LB_judge_8 ?_
  refine lv_iload_n hx hb d_LB_judge_11 rfl (lv_at hl 1 rfl) ?_
  refine r_text hx hb hC hP p rfl (by omega) d_LB_judge_12 ?_
  refine r_i hC hS (r_runV (np := 1) (As := [.ref (gA G (11 + 4 * p))]) (rest := []) hx hb hml hC hP hS (by decide) rfl rfl (m_CH_firstWrong l G S p n hp hn hsz htok h410 h420) l_LB_103 im_CH_firstWrong se_CH_firstWrong in_CH c_CH_firstWrong_in (by decide +kernel) ⟨by simp only [rmF]; omega, by simp only [rmF]; omega⟩ rfl hl.1 (Nat.le_of_ble_eq_true rfl) d_LB_judge_13 ⟨Nat.le_refl _, Nat.le_refl _⟩) (fun r_13 S_13 H locs hw hP hS => ?_)
  obtain ⟨rfl, hrow, hKc⟩ := hw
  refine lv_istore_n (lv' := [(2, .int (wN (fwC S p n).1)), (0, .ref (gA G 0)), (1, .int (nI p))]) hx hb d_LB_judge_16 rfl hl (by decide) rfl (fun ls hl => ?_)
  refine lv_aload_n hx hb d_LB_judge_17 rfl (lv_at hl 1 rfl) ?_
  refine lv_iload_n hx hb d_LB_judge_18 rfl (lv_at hl 0 rfl) ?_
  refine lv_iconst (v := (-1)) hx hb d_LB_judge_19 (by decide) ?_
  refine lv_icmp_ne (tgt := 27) hx hb d_LB_judge_20 (by decide) (fun c_20 => ?_) (fun c_20 => ?_)
  · obtain ⟨wi, hw_c_20⟩ := wN_no c_20
    refine lv_bipush (v := 32) hx hb d_LB_judge_27 (by decide) ?_
    refine lv_iload_n hx hb d_LB_judge_29 rfl (lv_at hl 2 rfl) ?_
    refine lv_imul hx hb d_LB_judge_30 ?_
    refine lv_iload_n hx hb d_LB_judge_31 rfl (lv_at hl 0 rfl) ?_
    refine lv_iadd hx hb d_LB_judge_32 ?_
    refine r_put hx hb hC hP hS i_LB t_LB t_LB_ok n_LB (0) (by decide) rfl rfl 2 (by decide) l_LB_23 rfl rfl rfl (Nat.le_of_ble_eq_true rfl) d_LB_judge_33 (fun H locs hP hS => ?_)
    refine lv_iload_n hx hb d_LB_judge_36 rfl (lv_at hl 0 rfl) ?_
    refine lv_iconst (v := (-1)) hx hb d_LB_judge_37 (by decide) ?_
    refine lv_icmp_ne (tgt := 45) hx hb d_LB_judge_38 (by decide) (fun c_38 => ?_) (fun c_38 => ?_)
    · obtain ⟨wi, hw_c_38⟩ := wN_no c_38
      refine lv_bipush (v := (-3)) hx hb d_LB_judge_45 (by decide) ?_
      exact e_i hx hb hr hlk hC hP hS d_LB_judge_47 ⟨by rw [hw_c_20], _, hKc, hrow, by rw [hw_c_20] <;> rfl⟩
    · have hw_c_38 := wN_m1 (fun i h => fwC_lt hn h) c_38
      refine lv_iconst (v := 0) hx hb d_LB_judge_41 (by decide) ?_
      refine lv_goto (tgt := 47) hx hb d_LB_judge_42 (by decide) ?_
      exact e_i hx hb hr hlk hC hP hS d_LB_judge_47 (by exfalso; first | exact c_38 c_20 | exact c_20 c_38)
  · have hw_c_20 := wN_m1 (fun i h => fwC_lt hn h) c_20
    refine lv_iconst (v := (-1)) hx hb d_LB_judge_23 (by decide) ?_
    refine lv_goto (tgt := 33) hx hb d_LB_judge_24 (by decide) ?_
    refine r_put hx hb hC hP hS i_LB t_LB t_LB_ok n_LB (0) (by decide) rfl rfl 2 (by decide) l_LB_23 rfl rfl rfl (Nat.le_of_ble_eq_true rfl) d_LB_judge_33 (fun H locs hP hS => ?_)
    refine lv_iload_n hx hb d_LB_judge_36 rfl (lv_at hl 0 rfl) ?_
    refine lv_iconst (v := (-1)) hx hb d_LB_judge_37 (by decide) ?_
    refine lv_icmp_ne (tgt := 45) hx hb d_LB_judge_38 (by decide) (fun c_38 => ?_) (fun c_38 => ?_)
    · obtain ⟨wi, hw_c_38⟩ := wN_no c_38
      refine lv_bipush (v := (-3)) hx hb d_LB_judge_45 (by decide) ?_
      exact e_i hx hb hr hlk hC hP hS d_LB_judge_47 (by exfalso; first | exact c_38 c_20 | exact c_20 c_38)
    · have hw_c_38 := wN_m1 (fun i h => fwC_lt hn h) c_38
      refine lv_iconst (v := 0) hx hb d_LB_judge_41 (by decide) ?_
      refine lv_goto (tgt := 47) hx hb d_LB_judge_42 (by decide) ?_
      exact e_i hx hb hr hlk hC hP hS d_LB_judge_47 ⟨by rw [hw_c_20], _, hKc, hrow, by rw [hw_c_20] <;> rfl⟩

def TXc (S : SS) (nn : Nat → Nat) : Prop := (∀ p, p < 4 → nn p ≤ 32 ∧ S (11 + 4 * p) 3 = nI (nn p) ∧ ∀ j, j < nn p → S (12 + 4 * p) j = 9 → lkOK (S (13 + 4 * p) j)) ∧ S 41 0 = 0 ∧ S 42 0 = 0
theorem TXc.mv {S X : SS} {nn : Nat → Nat} (h : TXc S nn) (hk : ∀ p, p < 4 → X (11 + 4 * p) = S (11 + 4 * p) ∧ X (12 + 4 * p) = S (12 + 4 * p) ∧ X (13 + 4 * p) = S (13 + 4 * p)) (h1 : X 41 0 = 0) (h2 : X 42 0 = 0) : TXc X nn := by
  refine ⟨fun p hp => ?_, h1, h2⟩
  obtain ⟨e1, e2, e3⟩ := hk p hp
  rw [e1, e2, e3]
  exact h.1 p hp
theorem fwC_mv {S X : SS} {p n : Nat} (e2 : X (12 + 4 * p) = S (12 + 4 * p)) (e3 : X (13 + 4 * p) = S (13 + 4 * p)) (e4 : X (14 + 4 * p) = S (14 + 4 * p)) : fwC X p n = fwC S p n := by
  unfold fwC
  rw [e2, e3, e4]
set_option maxHeartbeats 4000000 in
set_option maxRecDepth 100000 in
theorem m_LB_check (l : Launch) (G : WG) (S : SS) (nn : Nat → Nat) (hTX : TXc S nn) (p_ : Int32) : Ci l y_LB_check b_LB_check 2 (some (.int)) 4 G [.ref (gA G 0), .int p_] S (fun r S1 => (isB p_ 4 = false ∧ r = -1 ∧ S1 = S) ∨ ∃ p, p < 4 ∧ p_ = nI p ∧ jdPost S p (nn p) r S1) := by
  refine mk l (by decide +kernel) (Nat.le_of_ble_eq_true rfl) ?_
  intro pp_ ee_ ss_ mm_ be_ me_ co_ ls hx hb hr hlk hml hC hP hS hl
  have hl : lv_has ls 2 [(0, .ref (gA G 0)), (1, .int p_)] := hl
  refine lv_iload_n hx hb d_LB_check_0 rfl (lv_at hl 1 rfl) ?_
  refine lv_iconst (v := 4) hx hb d_LB_check_1 (by decide) ?_
  refine r_i hC hS (r_runS (np := 2) (As := [.int p_, .int 4]) (rest := []) hx hb hml hC hP hS (m_LB_isBelow l G S p_ 4) l_LB_27 st_LB_isBelow in_LB c_LB_isBelow_in (by decide +kernel) ⟨by simp only [rmF]; omega, by simp only [rmF]; omega⟩ rfl hl.1 (Nat.le_of_ble_eq_true rfl) d_LB_check_2 ⟨Nat.le_refl _, Nat.le_refl _⟩) (fun r_2 S_2 H locs hw hP hS => ?_)
  obtain ⟨rfl, hSe⟩ := hw
  rw [hSe] at hP
  refine lv_if_eq (tgt := 16) hx hb d_LB_check_5 (by decide) (fun c_5 => ?_) (fun c_5 => ?_)
  · have c_5 := b2i_f c_5
    refine lv_iconst (v := (-1)) hx hb d_LB_check_16 (by decide) ?_
    exact e_i hx hb hr hlk hC hP hS d_LB_check_17 (Or.inl ⟨by assumption, rfl, rfl⟩)
  · have c_5 := b2i_t c_5
    obtain ⟨p, hp, rfl⟩ := isB_nI (b := 4) (by omega) c_5
    refine lv_aload_n hx hb d_LB_check_8 rfl (lv_at hl 0 rfl) ?_
    refine lv_iload_n hx hb d_LB_check_9 rfl (lv_at hl 1 rfl) ?_
    refine r_i hC hS (r_runV (np := 1) (As := [.int (nI p)]) (rest := []) hx hb hml hC hP hS (by decide) rfl rfl (m_LB_judge l G S p (nn p) hp (hTX.1 p hp).1 (hTX.1 p hp).2.1 (hTX.1 p hp).2.2 hTX.2.1 hTX.2.2) l_LB_50 im_LB_judge se_LB_judge in_LB c_LB_judge_in (by decide +kernel) ⟨by simp only [rmF]; omega, by simp only [rmF]; omega⟩ rfl hl.1 (Nat.le_of_ble_eq_true rfl) d_LB_check_10 ⟨Nat.le_refl _, Nat.le_refl _⟩) (fun r_10 S_10 H locs hw hP hS => ?_)
    refine lv_goto (tgt := 17) hx hb d_LB_check_13 (by decide) ?_
    exact e_i hx hb hr hlk hC hP hS d_LB_check_17 (Or.inr ⟨p, hp, rfl, hw⟩)

def jd (nn : Nat → Nat) (q p : Nat) : Prop := p = q ∨ 0 < nn p
def jw (S : SS) (nn : Nat → Nat) (q p : Nat) : Prop := jd nn q p ∧ ∃ w, (fwC S p (nn p)).1 = some w
/-- what a round of judgements leaves: the texts, the tokens, all else but the check's rows, the ends and the place -/
def KpJ (X S : SS) : Prop := (∀ a b, ¬ ((39 ≤ a ∧ a ≤ 43) ∨ a = 14 ∨ a = 18 ∨ a = 22 ∨ a = 26 ∨ (a = 0 ∧ b = 2)) → X a b = S a b) ∧ X 41 0 = 0 ∧ X 42 0 = 0
def jaPost (S : SS) (nn : Nat → Nat) (q : Nat) (r : Int32) (S1 : SS) : Prop := KpJ S1 S ∧ ((∃ p w, p < 4 ∧ jd nn q p ∧ (fwC S p (nn p)).1 = some w ∧ (∀ j, j < p → ¬ jw S nn q j) ∧ r = -3 ∧ S1 0 2 = 32 * nI p + nI w) ∨ ((∀ j, j < 4 → ¬ jw S nn q j) ∧ r = 0 ∧ S1 0 2 = -1 ∧ ∀ j, j < 4 → jd nn q j → S1 (14 + 4 * j) = (fwC S j (nn j)).2))
theorem KpJ.row {X S : SS} (h : KpJ X S) {a : Nat} (ha : ¬ ((39 ≤ a ∧ a ≤ 43) ∨ a = 14 ∨ a = 18 ∨ a = 22 ∨ a = 26 ∨ a = 0)) : X a = S a := by
  funext b
  exact h.1 a b (by omega)
theorem TXc.kj {S X : SS} {nn : Nat → Nat} (h : TXc S nn) (hK : KpJ X S) : TXc X nn := h.mv (fun p hp => ⟨hK.row (by omega), hK.row (by omega), hK.row (by omega)⟩) hK.2.1 hK.2.2
theorem KpJ.judged {X Y S : SS} (h : KpJ X S) {p : Nat} (hp : p < 4) (hY : KpC p Y X) (v : Int32) : KpJ (su Y 0 2 v) S :=
  ⟨fun a b hab => by rw [su_k _ _ (by omega), hY.1 a b (by omega)]; exact h.1 a b hab, by rw [su_k _ _ (by omega)]; exact hY.2.1, by rw [su_k _ _ (by omega)]; exact hY.2.2⟩
theorem KpC.row {p : Nat} {Y X : SS} (h : KpC p Y X) {a : Nat} (ha : ¬ ((39 ≤ a ∧ a ≤ 43) ∨ a = 14 + 4 * p)) : Y a = X a := by
  funext b
  exact h.1 a b ha
set_option maxHeartbeats 4000000 in
set_option maxRecDepth 100000 in
theorem m_LB_judgeAll_loop (l : Launch) (G : WG) (S : SS) (nn : Nat → Nat) (hTX : TXc S nn) (q : Nat) (hq : q < 4) {pp_ : Program} {ee_ : Env} {ss_ : State} {mm_ : MethodId} {be_ : List Frame} {me_ : Method} {co_ : Code} (hx : pp_.tables.exec = Jvm.exec) (hb : co_.code = b_LB_judgeAll) (hr : me_.sig.returnType = (some (.int))) (hlk : me_.locks = false) (hml : co_.maxLocals = 3) (hC : CC G "EndingsLab" ss_ mm_ ([.ref (gA G 0), .int (nI q)] : List Value).toArray (AA G)) :
    ∀ (f : Nat) (p : Nat) (X : SS), p ≤ 4 → 4 < p + f → KpJ X S → (∀ j, j < p → ¬ jw S nn q j) → (∀ j, j < p → jd nn q j → X (14 + 4 * j) = (fwC S j (nn j)).2) → (∀ j, p ≤ j → j < 4 → X (14 + 4 * j) = S (14 + 4 * j)) → (q < p → X 0 2 = -1) →  ∀ (H : Heap) (locs : List Loc) (ls : Array Slot), va_P (gD G) clsL (wl (gA G) 57 (fS G X)) H → va_S (AA G) ss_.heap H locs → lv_has ls 3 [(0, .ref (gA G 0)), (1, .int (nI q)), (2, .int (nI p))] → W pp_ l ee_ (rmF 4) ss_ mm_ ([.ref (gA G 0), .int (nI q)] : List Value).toArray be_ me_ co_ H locs 0 0 (MQ be_ (va_Qi (jaPost S nn q) (WD G) (AA G)) ([.ref (gA G 0), .int (nI q)] : List Value).toArray ss_ 0 0 (AA G)) (F0 mm_ 2 ls []) := by
  intro f
  induction f with
  | zero =>
    intro p X hp4 hf hK hno hend hlt hpl H locs ls hP hS hl
    exact absurd hf (by omega)
  | succ f ih =>
    intro p X hp4 hf hK hno hend hlt hpl H locs ls hP hS hl
    have hnn32 := fun hp : p < 4 => (hTX.1 p hp).1
    refine lv_iload_n hx hb d_LB_judgeAll_2 rfl (lv_at hl 2 rfl) ?_
    refine lv_iconst (v := 4) hx hb d_LB_judgeAll_3 (by decide) ?_
    refine lv_icmp_ge (tgt := 46) hx hb d_LB_judgeAll_4 (by decide) (fun c_4 => ?_) (fun c_4 => ?_)
    · have c_4 : 4 ≤ p := (q_le (a := 4) (b := p) rfl rfl (by omega) (by omega)).mp c_4
      refine lv_iconst (v := 0) hx hb d_LB_judgeAll_46 (by decide) ?_
      exact e_i hx hb hr hlk hC hP hS d_LB_judgeAll_47 ⟨hK, Or.inr ⟨fun j hj => hno j (by omega), rfl, hpl (by omega), fun j hj hjj => hend j (by omega) hjj⟩⟩
    · have c_4 : ¬ 4 ≤ p := fun h => c_4 ((q_le (a := 4) (b := p) rfl rfl (by omega) (by omega)).mpr h)
      have hp : p < 4 := by omega
      refine lv_iload_n hx hb d_LB_judgeAll_7 rfl (lv_at hl 2 rfl) ?_
      refine lv_iload_n hx hb d_LB_judgeAll_8 rfl (lv_at hl 1 rfl) ?_
      refine lv_icmp_eq (tgt := 27) hx hb d_LB_judgeAll_9 (by decide) (fun c_9 => ?_) (fun c_9 => ?_)
      · have c_9 : p = q := (q_eq (a := p) (b := q) rfl rfl (by omega) (by omega)).mp c_9
        have hjd : jd nn q p := Or.inl c_9
        refine lv_aload_n hx hb d_LB_judgeAll_27 rfl (lv_at hl 0 rfl) ?_
        refine lv_iload_n hx hb d_LB_judgeAll_28 rfl (lv_at hl 2 rfl) ?_
        refine r_i hC hS (r_runV (np := 1) (As := [.int (nI p)]) (rest := []) hx hb hml hC hP hS (by decide) rfl rfl (m_LB_judge l G X p (nn p) hp ((hTX.kj hK).1 p hp).1 ((hTX.kj hK).1 p hp).2.1 ((hTX.kj hK).1 p hp).2.2 hK.2.1 hK.2.2) l_LB_50 im_LB_judge se_LB_judge in_LB c_LB_judge_in (by decide +kernel) ⟨by simp only [rmF]; omega, by simp only [rmF]; omega⟩ rfl hl.1 (Nat.le_of_ble_eq_true rfl) d_LB_judgeAll_29 ⟨Nat.le_refl _, Nat.le_refl _⟩) (fun r_29 S_29 H locs hw hP hS => ?_)
        obtain ⟨hjr, Y, hY, hYr, rfl⟩ := hw
        rw [fwC_mv (hK.row (by omega)) (hK.row (by omega)) (hlt p (Nat.le_refl p) hp)] at hjr hYr hP
        refine lv_bipush (v := (-3)) hx hb d_LB_judgeAll_32 (by decide) ?_
        refine lv_icmp_ne (tgt := 40) hx hb d_LB_judgeAll_34 (by decide) (fun c_34 => ?_) (fun c_34 => ?_)
        · have hw0 : (fwC S p (nn p)).1 = none := by cases hw9 : (fwC S p (nn p)).1 with | none => rfl | some wi => (rw [hw9] at hjr; exact absurd hjr c_34)
          rw [hw0] at hP
          refine lv_iinc (v := nI (p + 1)) (lv' := [(2, .int (nI (p + 1))), (0, .ref (gA G 0)), (1, .int (nI q))]) hx hb d_LB_judgeAll_40 hl (k := 2) rfl (nI_1 _) (by decide) rfl (fun ls hl => ?_)
          refine lv_goto (tgt := 2) hx hb d_LB_judgeAll_43 (by decide) ?_
          exact ih (p + 1) _ (by omega) (by omega) (hK.judged hp hY _) (fun j hj => (Nat.lt_or_ge j p).elim (hno j) (fun h => by rw [show j = p by omega]; exact fun ⟨_, w9, e9⟩ => by rw [hw0] at e9; cases e9)) (fun j hj hjj => by rw [su_cell _ _ _ (by omega)]; rcases Nat.lt_or_ge j p with h | h; rw [hY.row (by omega)]; exact hend j h hjj; rw [show j = p by omega]; exact hYr) (fun j hj1 hj2 => by rw [su_cell _ _ _ (by omega), hY.row (by omega)]; exact hlt j (by omega) hj2) (fun _ => su_same _ _ _ _) _ _ _ hP hS (lv_sub hl [1, 2, 0] rfl)
        · obtain ⟨wi, hw1⟩ : ∃ wi, (fwC S p (nn p)).1 = some wi := by cases hw9 : (fwC S p (nn p)).1 with | none => (rw [hw9] at hjr; rw [hjr] at c_34; exact absurd c_34 (by decide)) | some wi => exact ⟨wi, rfl⟩
          refine lv_bipush (v := (-3)) hx hb d_LB_judgeAll_37 (by decide) ?_
          exact e_i hx hb hr hlk hC hP hS d_LB_judgeAll_39 ⟨hK.judged hp hY _, Or.inl ⟨p, wi, hp, hjd, hw1, hno, rfl, by rw [su_same, hw1]; rfl⟩⟩
      · have c_9 : ¬ p = q := fun h => c_9 ((q_eq (a := p) (b := q) rfl rfl (by omega) (by omega)).mpr h)
        refine lv_aload_n hx hb d_LB_judgeAll_12 rfl (lv_at hl 0 rfl) ?_
        refine r_get hx hb hC hP i_LB (0) (by decide) rfl rfl 0 (by decide) l_LB_12 rfl d_LB_judgeAll_13 ?_
        refine r_getN hx hb hC hP i_MA (1) (by decide) rfl rfl 0 (by decide) k_LB_34 rfl d_LB_judgeAll_16 ?_
        refine lv_iload_n hx hb d_LB_judgeAll_19 rfl (lv_at hl 2 rfl) ?_
        refine r_text hx hb hC hP p rfl (by omega) d_LB_judgeAll_20 ?_
        refine r_getN hx hb hC hP i_TE (11 + 4 * p) (by omega) (sh_T G _ hp) rfl 3 (by decide) k_LB_43 rfl d_LB_judgeAll_21 ?_
        rw [show X (11 + 4 * p) 3 = nI (nn p) from ((hTX.kj hK).1 p hp).2.1]
        refine lv_if_le (tgt := 40) hx hb d_LB_judgeAll_24 (by decide) (fun c_24 => ?_) (fun c_24 => ?_)
        · have c_24 : nn p ≤ 0 := (q_le (a := nn p) (b := 0) rfl rfl (by omega) (by omega)).mp c_24
          have hjn : ¬ jd nn q p := fun h => h.elim c_9 (fun h => by omega)
          refine lv_iinc (v := nI (p + 1)) (lv' := [(2, .int (nI (p + 1))), (0, .ref (gA G 0)), (1, .int (nI q))]) hx hb d_LB_judgeAll_40 hl (k := 2) rfl (nI_1 _) (by decide) rfl (fun ls hl => ?_)
          refine lv_goto (tgt := 2) hx hb d_LB_judgeAll_43 (by decide) ?_
          exact ih (p + 1) _ (by omega) (by omega) hK (fun j hj => (Nat.lt_or_ge j p).elim (hno j) (fun h => by rw [show j = p by omega]; exact fun h2 => hjn h2.1)) (fun j hj hjj => (Nat.lt_or_ge j p).elim (fun h => hend j h hjj) (fun h => absurd (by rw [← show j = p by omega]; exact hjj) hjn)) (fun j hj1 hj2 => hlt j (by omega) hj2) (fun h => hpl (by have : ¬ p = q := c_9; omega)) _ _ _ hP hS (lv_sub hl [1, 2, 0] rfl)
        · have c_24 : ¬ nn p ≤ 0 := fun h => c_24 ((q_le (a := nn p) (b := 0) rfl rfl (by omega) (by omega)).mpr h)
          have hjd : jd nn q p := Or.inr (by omega)
          refine lv_aload_n hx hb d_LB_judgeAll_27 rfl (lv_at hl 0 rfl) ?_
          refine lv_iload_n hx hb d_LB_judgeAll_28 rfl (lv_at hl 2 rfl) ?_
          refine r_i hC hS (r_runV (np := 1) (As := [.int (nI p)]) (rest := []) hx hb hml hC hP hS (by decide) rfl rfl (m_LB_judge l G X p (nn p) hp ((hTX.kj hK).1 p hp).1 ((hTX.kj hK).1 p hp).2.1 ((hTX.kj hK).1 p hp).2.2 hK.2.1 hK.2.2) l_LB_50 im_LB_judge se_LB_judge in_LB c_LB_judge_in (by decide +kernel) ⟨by simp only [rmF]; omega, by simp only [rmF]; omega⟩ rfl hl.1 (Nat.le_of_ble_eq_true rfl) d_LB_judgeAll_29 ⟨Nat.le_refl _, Nat.le_refl _⟩) (fun r_29 S_29 H locs hw hP hS => ?_)
          obtain ⟨hjr, Y, hY, hYr, rfl⟩ := hw
          rw [fwC_mv (hK.row (by omega)) (hK.row (by omega)) (hlt p (Nat.le_refl p) hp)] at hjr hYr hP
          refine lv_bipush (v := (-3)) hx hb d_LB_judgeAll_32 (by decide) ?_
          refine lv_icmp_ne (tgt := 40) hx hb d_LB_judgeAll_34 (by decide) (fun c_34 => ?_) (fun c_34 => ?_)
          · have hw0 : (fwC S p (nn p)).1 = none := by cases hw9 : (fwC S p (nn p)).1 with | none => rfl | some wi => (rw [hw9] at hjr; exact absurd hjr c_34)
            rw [hw0] at hP
            refine lv_iinc (v := nI (p + 1)) (lv' := [(2, .int (nI (p + 1))), (0, .ref (gA G 0)), (1, .int (nI q))]) hx hb d_LB_judgeAll_40 hl (k := 2) rfl (nI_1 _) (by decide) rfl (fun ls hl => ?_)
            refine lv_goto (tgt := 2) hx hb d_LB_judgeAll_43 (by decide) ?_
            exact ih (p + 1) _ (by omega) (by omega) (hK.judged hp hY _) (fun j hj => (Nat.lt_or_ge j p).elim (hno j) (fun h => by rw [show j = p by omega]; exact fun ⟨_, w9, e9⟩ => by rw [hw0] at e9; cases e9)) (fun j hj hjj => by rw [su_cell _ _ _ (by omega)]; rcases Nat.lt_or_ge j p with h | h; rw [hY.row (by omega)]; exact hend j h hjj; rw [show j = p by omega]; exact hYr) (fun j hj1 hj2 => by rw [su_cell _ _ _ (by omega), hY.row (by omega)]; exact hlt j (by omega) hj2) (fun _ => su_same _ _ _ _) _ _ _ hP hS (lv_sub hl [1, 2, 0] rfl)
          · obtain ⟨wi, hw1⟩ : ∃ wi, (fwC S p (nn p)).1 = some wi := by cases hw9 : (fwC S p (nn p)).1 with | none => (rw [hw9] at hjr; rw [hjr] at c_34; exact absurd c_34 (by decide)) | some wi => exact ⟨wi, rfl⟩
            refine lv_bipush (v := (-3)) hx hb d_LB_judgeAll_37 (by decide) ?_
            exact e_i hx hb hr hlk hC hP hS d_LB_judgeAll_39 ⟨hK.judged hp hY _, Or.inl ⟨p, wi, hp, hjd, hw1, hno, rfl, by rw [su_same, hw1]; rfl⟩⟩

set_option maxHeartbeats 4000000 in
set_option maxRecDepth 100000 in
theorem m_LB_judgeAll (l : Launch) (G : WG) (S : SS) (nn : Nat → Nat) (hTX : TXc S nn) (q : Nat) (hq : q < 4) : Ci l y_LB_judgeAll b_LB_judgeAll 3 (some (.int)) 4 G [.ref (gA G 0), .int (nI q)] S (jaPost S nn q) := by
  refine mk l (by decide +kernel) (Nat.le_of_ble_eq_true rfl) ?_
  intro pp_ ee_ ss_ mm_ be_ me_ co_ ls hx hb hr hlk hml hC hP hS hl
  have hl : lv_has ls 3 [(0, .ref (gA G 0)), (1, .int (nI q))] := hl
  refine lv_iconst (v := 0) hx hb d_LB_judgeAll_0 (by decide) ?_
  refine lv_istore_n (lv' := [(2, .int 0), (0, .ref (gA G 0)), (1, .int (nI q))]) hx hb d_LB_judgeAll_1 rfl hl (by decide) rfl (fun ls hl => ?_)
  exact m_LB_judgeAll_loop l G S nn hTX q hq hx hb hr hlk hml hC 5 0 _ (by omega) (by omega) ⟨fun _ _ _ => rfl, hTX.2.1, hTX.2.2⟩ (fun j hj => absurd hj (by omega)) (fun j hj => absurd hj (by omega)) (fun _ _ _ => rfl) (fun h => absurd h (by omega)) _ _ _ hP hS (lv_sub hl [1, 2, 0] rfl)

