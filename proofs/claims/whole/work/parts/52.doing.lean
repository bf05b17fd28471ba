/-! the class's doings over a block's contract: written by wip/gen/p52.py -/
def TRx (S : SS) (op ar : Nat → Int32) (E sz : Nat → Nat) : Prop := ∀ p, p < 4 → S (11 + 4 * p) 3 = nI (sz p) ∧ sz p ≤ 32 ∧ ∀ i, i < sz p → S (12 + 4 * p) i = op (32 * p + i) ∧ S (13 + 4 * p) i = ar (32 * p + i) ∧ S (14 + 4 * p) i = nI (E (32 * p + i) - 32 * p) ∧ 32 * p ≤ E (32 * p + i) ∧ E (32 * p + i) < 32 * p + sz p
theorem TRx.kb {S X : SS} {op ar : Nat → Int32} {E sz : Nat → Nat} {q : Nat} (h : TRx S op ar E sz) (hk : Kb q X S) : TRx X op ar E sz := by
  intro p hp
  obtain ⟨h1, h2, h3⟩ := h p hp
  refine ⟨(hk _ _ (by omega)).trans h1, h2, fun i hi => ?_⟩
  obtain ⟨e1, e2, e3, e4⟩ := h3 i hi
  exact ⟨(hk _ _ (by omega)).trans e1, (hk _ _ (by omega)).trans e2, (hk _ _ (by omega)).trans e3, e4⟩
def Lim (q c : Nat) (g : GS) (en : Nat → Nat) : Prop := gnf g + q ≤ gst g ∧ c ≤ gnf g ∧ ∀ l, l < 3 → en l ≤ gst g
def OKs (S : SS) (op ar : Nat → Int32) (E sz : Nat → Nat) (q p c : Nat) (s : SG) : Prop := TRx S op ar E sz ∧ RG S s.1 ∧ RF S q p c s.2.1 s.2.2 ∧ Lim q c s.1 s.2.2
/-- what a doing at level q comes to: the meaning's answer r, the cells behind it -/
def BlkP (S S1 : SS) (q p c e : Nat) (r : RR) : Prop := e = r.1 ∧ Kb q S1 S ∧ RL S1 r.2.2.2.1 ∧ (¬ r.1 = 5 → RK S1 r.2.2.2.1 ∧ RF S1 q p c r.2.2.2.2.1 r.2.2.2.2.2 ∧ Lim q c r.2.2.2.1 r.2.2.2.2.2 ∧ (r.1 = 3 → S1 (27 + 2 * q) 3 = r.2.1) ∧ (r.1 = 4 → S1 (27 + 2 * q) 3 = nI r.2.2.1 - 1 ∧ 0 < r.2.2.1 ∧ r.2.2.1 ≤ gnf r.2.2.2.1))
theorem BlkP.ok {S S1 : SS} {op ar : Nat → Int32} {E sz : Nat → Nat} {q p c e : Nat} {r : RR} (h : BlkP S S1 q p c e r) (hT : TRx S op ar E sz) (h5 : ¬ e = 5) : OKs S1 op ar E sz q p c r.2.2.2 := by
  obtain ⟨h1, h2, h3, h4⟩ := h
  subst h1
  obtain ⟨k1, k2, k3, -⟩ := h4 h5
  exact ⟨hT.kb h2, ⟨h3, k1⟩, k2, k3⟩
/-- behind another doing -/
theorem BlkP.pre {S S0 S1 : SS} {q p c e : Nat} {r : RR} (h : BlkP S0 S1 q p c e r) (hk : Kb q S0 S) : BlkP S S1 q p c e r := ⟨h.1, h.2.1.tr hk, h.2.2⟩
section DOB
variable (l : Launch) (G : WG) (op ar : Nat → Int32) (E sz : Nat → Nat)
/-- the contract of doBlock for the block that the token o of text p begins -/
def DoB (F h q p o : Nat) : Prop := ∀ (S : SS) (c : Nat) (s : SG), OKs S op ar E sz q p c s → Ce l y_MA_doBlock b_MA_doBlock 8 h G [.ref (gA G 1), .int (nI q), .int (nI o)] S (fun e S1 => BlkP S S1 q p c e (sB op ar E sz F q c (32 * p + o + 1) s))
end DOB
theorem OKs.hold {S : SS} {op ar : Nat → Int32} {E sz : Nat → Nat} {q p c : Nat} {s : SG} (h : OKs S op ar E sz q p c s) {l : Nat} (hl : l < 3) : OKs (lHold S l) op ar E sz q p c (gHold s.1 l, s.2.1, s.2.2) := by
  obtain ⟨h1, h2, h3, h4⟩ := h
  have hk : ∀ a b, ¬ (a = 7 ∨ a = 8) → lHold S l a b = S a b := fun a b hab => by
    unfold lHold
    rw [su_k _ _ (by omega), su_k _ _ (by omega), su_k _ _ (by omega)]
  exact ⟨h1.kb (q := q) (fun a b hab => hk a b (by omega)), h2.hold hl, h3.mv (fun a b hab => hk a b (by omega)), h4⟩
theorem lHold_kb (S : SS) (q l : Nat) : Kb q (lHold S l) S := fun a b hab => by
  unfold lHold
  rw [su_k _ _ (by omega), su_k _ _ (by omega), su_k _ _ (by omega)]
theorem lRel_kb (S : SS) (q l : Nat) (n : Int32) : Kb q (lRel S l n) S := fun a b hab => by
  unfold lRel
  rw [su_k _ _ (by omega), su_k _ _ (by omega)]
def rLk (r : RR) (l : Nat) : RR := if r.1 = 5 then r else (r.1, r.2.1, r.2.2.1, gRel r.2.2.2.1 l 1, r.2.2.2.2)
theorem BlkP.lock {S S0 S1 : SS} {q p c e : Nat} {r : RR} (h : BlkP S0 S1 q p c e r) (hk : Kb q S0 S) {l : Nat} (hl : l < 3) : BlkP S (lRel S1 l 1) q p c e (rLk r l) := by
  obtain ⟨h1, h2, h3, h4⟩ := h
  have hc : ∀ a b, ¬ (a = 7 ∨ a = 8) → lRel S1 l 1 a b = S1 a b := fun a b hab => by
    unfold lRel
    rw [su_k _ _ (by omega), su_k _ _ (by omega)]
  have h72 : lRel S1 l 1 7 2 = S1 7 2 := by
    unfold lRel
    rw [su_k _ _ (by omega), su_k _ _ (by omega)]
  have hRL : ∀ g, RL S1 g → RL (lRel S1 l 1) g := fun g hg => hg.mv (fun a b hab => by
    rcases (show (a = 7 ∧ b = 2) ∨ ¬ (a = 7 ∨ a = 8) by omega) with ⟨rfl, rfl⟩ | h9
    · exact h72
    · exact hc a b h9)
  unfold rLk
  by_cases h5 : r.1 = 5
  · rw [if_pos h5]
    exact ⟨h1, ((lRel_kb S1 q l 1).tr h2).tr hk, hRL _ h3, fun hn => absurd h5 hn⟩
  · rw [if_neg h5]
    obtain ⟨k1, k2, k3, k4, k5⟩ := h4 h5
    have hG := RG.rel (S := S1) ⟨h3, k1⟩ hl 1
    exact ⟨h1, ((lRel_kb S1 q l 1).tr h2).tr hk, hG.1, fun _ => ⟨hG.2, k2.mv (fun a b hab => hc a b (by omega)), k3, fun h9 => (hc _ _ (by omega)).trans (k4 h9), fun h9 => ⟨(hc _ _ (by omega)).trans (k5 h9).1, (k5 h9).2⟩⟩⟩
set_option maxHeartbeats 4000000 in
set_option maxRecDepth 100000 in
theorem m_MA_doLock (l : Launch) (G : WG) (S : SS) (op ar : Nat → Int32) (E sz : Nat → Nat) (F h q p c o : Nat) (s : SG) (hq : q < 6) (hp : p < 4) (hok : OKs S op ar E sz q p c s) (hB : DoB l G op ar E sz F h q p o) (lo : Nat) (hlo : lo < 3) : Ce l y_MA_doLock b_MA_doLock 5 (h + 2) G [.ref (gA G 1), .int (nI q), .int (nI o), .int (nI lo)] S (fun e S1 => BlkP S S1 q p c e (rLk (sB op ar E sz F q c (32 * p + o + 1) (gHold s.1 lo, s.2.1, s.2.2)) lo)) := by
  refine mk l (by decide +kernel) (Nat.le_of_ble_eq_true rfl) ?_
  intro pp_ ee_ ss_ mm_ be_ me_ co_ ls hx hb hr hlk hml hC hP hS hl
  have hl : lv_has ls 5 [(0, .ref (gA G 1)), (1, .int (nI q)), (2, .int (nI o)), (3, .int (nI lo))] := hl
  refine lv_aload_n hx hb d_MA_doLock_0 rfl (lv_at hl 0 rfl) ?_
  refine r_get hx hb hC hP i_MA (1) (by decide) rfl rfl 3 (by decide) l_MA_33 rfl d_MA_doLock_1 ?_
  refine lv_iload_n hx hb d_MA_doLock_4 rfl (lv_at hl 3 rfl) ?_
  refine r_v hC hS (r_runV (np := 1) (As := [.int (nI lo)]) (rest := []) hx hb hml hC hP hS (by decide) rfl rfl (m_LO_hold l G S lo (by omega)) l_MA_203 im_LO_hold se_LO_hold in_LO c_LO_hold_in (by decide +kernel) ⟨by simp only [rmF]; omega, by simp only [rmF]; omega⟩ rfl hl.1 (Nat.le_of_ble_eq_true rfl) d_MA_doLock_5 ⟨Nat.le_refl _, Nat.le_refl _⟩) (fun S_5 H locs hw hP hS => ?_)
  rw [hw] at hP
  refine lv_aload_n hx hb d_MA_doLock_8 rfl (lv_at hl 0 rfl) ?_
  refine lv_iload_n hx hb d_MA_doLock_9 rfl (lv_at hl 1 rfl) ?_
  refine lv_iload_n hx hb d_MA_doLock_10 rfl (lv_at hl 2 rfl) ?_
  refine r_e (post := fun e S1 => BlkP (lHold S lo) S1 q p c e (sB op ar E sz F q c (32 * p + o + 1) (gHold s.1 lo, s.2.1, s.2.2))) hC hS (r_runV (np := 2) (As := [.int (nI q), .int (nI o)]) (rest := []) hx hb hml hC hP hS (by decide) rfl rfl (hB (lHold S lo) c (gHold s.1 lo, s.2.1, s.2.2) (hok.hold hlo)) l_MA_82 im_MA_doBlock se_MA_doBlock in_MA c_MA_doBlock_in (by decide +kernel) ⟨by simp only [rmF]; omega, by simp only [rmF]; omega⟩ rfl hl.1 (Nat.le_of_ble_eq_true rfl) d_MA_doLock_11 ⟨Nat.le_refl _, Nat.le_refl _⟩) (fun i_11 S_11 H locs hi_11 hw hP hS => ?_)
  have hw_11 := hw
  refine lv_astore (lv' := [(4, .ref (gE G i_11)), (0, .ref (gA G 1)), (1, .int (nI q)), (2, .int (nI o)), (3, .int (nI lo))]) hx hb d_MA_doLock_14 hl (by decide) rfl (fun ls hl => ?_)
  refine lv_aload_n hx hb d_MA_doLock_16 rfl (lv_at hl 1 rfl) ?_
  refine r_get hx hb hC hP i_MA (1) (by decide) rfl rfl 3 (by decide) l_MA_33 rfl d_MA_doLock_17 ?_
  refine lv_iload_n hx hb d_MA_doLock_20 rfl (lv_at hl 4 rfl) ?_
  refine lv_iconst (v := 1) hx hb d_MA_doLock_21 (by decide) ?_
  refine r_v hC hS (r_runV (np := 2) (As := [.int (nI lo), .int 1]) (rest := []) hx hb hml hC hP hS (by decide) rfl rfl (m_LO_release l G S_11 lo (by omega) 1) l_MA_107 im_LO_release se_LO_release in_LO c_LO_release_in (by decide +kernel) ⟨by simp only [rmF]; omega, by simp only [rmF]; omega⟩ rfl hl.1 (Nat.le_of_ble_eq_true rfl) d_MA_doLock_22 ⟨Nat.le_refl _, Nat.le_refl _⟩) (fun S_22 H locs hw hP hS => ?_)
  rw [hw] at hP
  refine lv_aload hx hb d_MA_doLock_25 (lv_at hl 0 rfl) ?_
  exact e_e (post := fun e S1 => BlkP S S1 q p c e (rLk (sB op ar E sz F q c (32 * p + o + 1) (gHold s.1 lo, s.2.1, s.2.2)) lo)) hx hb hr hlk hC hP hS d_MA_doLock_27 hi_11 (hw_11.lock (lHold_kb S q lo) hlo)

