/-! the class's doings over a block's contract: written by wip/gen/p52.py -/
def TRx (S : SS) (op ar : Nat → Int32) (E sz : Nat → Nat) : Prop := ∀ p, p < 4 → S (11 + 4 * p) 3 = nI (sz p) ∧ sz p ≤ 32 ∧ ∀ i, i < sz p → S (12 + 4 * p) i = op (32 * p + i) ∧ S (13 + 4 * p) i = ar (32 * p + i) ∧ S (14 + 4 * p) i = nI (E (32 * p + i) - 32 * p) ∧ 32 * p ≤ E (32 * p + i) ∧ E (32 * p + i) < 32 * p + sz p
theorem TRx.kb {S X : SS} {op ar : Nat → Int32} {E sz : Nat → Nat} {q : Nat} (h : TRx S op ar E sz) (hk : Kb q X S) : TRx X op ar E sz := by
  intro p hp
  obtain ⟨h1, h2, h3⟩ := h p hp
  refine ⟨(hk _ _ (by omega)).trans h1, h2, fun i hi => ?_⟩
  obtain ⟨e1, e2, e3, e4⟩ := h3 i hi
  exact ⟨(hk _ _ (by omega)).trans e1, (hk _ _ (by omega)).trans e2, (hk _ _ (by omega)).trans e3, e4⟩
def Lim (q c : Nat) (g : GS) (en : Nat → Nat) : Prop := gnf g + q ≤ gst g ∧ c ≤ gnf g ∧ ∀ l, l < 3 → en l ≤ gst g
def OKs (S : SS) (op ar : Nat → Int32) (E sz : Nat → Nat) (q p c : Nat) (s : SG) : Prop := TRx S op ar E sz ∧ RG S s.1 ∧ RF S q p c s.2.1 s.2.2 ∧ Lim q c s.1 s.2.2
/-- what a doing at level q comes to: the meaning's answer r, the cells behind it -/
def BlkP (S S1 : SS) (q p c n0 e : Nat) (r : RR) : Prop := e = r.1 ∧ Kb q S1 S ∧ RL S1 r.2.2.2.1 ∧ (¬ r.1 = 5 → n0 ≤ gnf r.2.2.2.1 ∧ RK S1 r.2.2.2.1 ∧ RF S1 q p c r.2.2.2.2.1 r.2.2.2.2.2 ∧ Lim q c r.2.2.2.1 r.2.2.2.2.2 ∧ (r.1 = 3 → S1 (27 + 2 * q) 3 = r.2.1) ∧ (r.1 = 4 → S1 (27 + 2 * q) 3 = nI r.2.2.1 - 1 ∧ 0 < r.2.2.1 ∧ r.2.2.1 ≤ gnf r.2.2.2.1))
theorem BlkP.ok {S S1 : SS} {op ar : Nat → Int32} {E sz : Nat → Nat} {q p c n0 e : Nat} {r : RR} (h : BlkP S S1 q p c n0 e r) (hT : TRx S op ar E sz) (h5 : ¬ e = 5) : OKs S1 op ar E sz q p c r.2.2.2 := by
  obtain ⟨h1, h2, h3, h4⟩ := h
  subst h1
  obtain ⟨-, k1, k2, k3, -⟩ := h4 h5
  exact ⟨hT.kb h2, ⟨h3, k1⟩, k2, k3⟩
/-- behind another doing -/
theorem BlkP.pre {S S0 S1 : SS} {q p c n0 e : Nat} {r : RR} (h : BlkP S0 S1 q p c n0 e r) (hk : Kb q S0 S) : BlkP S S1 q p c n0 e r := ⟨h.1, h.2.1.tr hk, h.2.2⟩
section DOB
variable (l : Launch) (G : WG) (op ar : Nat → Int32) (E sz : Nat → Nat)
/-- the contract of doBlock for the block that the token o of text p begins -/
def DoB (F h q p o : Nat) : Prop := ∀ (S : SS) (c : Nat) (s : SG), OKs S op ar E sz q p c s → Ce l y_MA_doBlock b_MA_doBlock 8 h G [.ref (gA G 1), .int (nI q), .int (nI o)] S (fun e S1 => BlkP S S1 q p c (gnf s.1) e (sB op ar E sz F q c (32 * p + o + 1) s))
end DOB
theorem OKs.hold {S : SS} {op ar : Nat → Int32} {E sz : Nat → Nat} {q p c : Nat} {s : SG} (h : OKs S op ar E sz q p c s) {l : Nat} (hl : l < 3) : OKs (lHold S l) op ar E sz q p c (gHold s.1 l, s.2.1, s.2.2) := by
  obtain ⟨h1, h2, h3, h4⟩ := h
  have hk : ∀ a b, ¬ (a = 7 ∨ a = 8) → lHold S l a b = S a b := fun a b hab => by
    unfold lHold
    rw [su_k _ _ (by omega), su_k _ _ (by omega), su_k _ _ (by omega)]
  exact ⟨h1.kb (q := q) (fun a b hab => hk a b (by omega)), h2.hold hl, h3.mv (fun a b hab => hk a b (by omega)), h4⟩
theorem lHold_kb (S : SS) (q l : Nat) : Kb q (lHold S l) S := fun a b hab => by
  unfold lHold
  rw [su_k _ _ (by omega), su_k _ _ (by omega), su_k _ _ (by omega)]
theorem lRel_kb (S : SS) (q l : Nat) (n : Int32) : Kb q (lRel S l n) S := fun a b hab => by
  unfold lRel
  rw [su_k _ _ (by omega), su_k _ _ (by omega)]
def rLk (r : RR) (l : Nat) : RR := if r.1 = 5 then r else (r.1, r.2.1, r.2.2.1, gRel r.2.2.2.1 l 1, r.2.2.2.2)
theorem BlkP.lock {S S0 S1 : SS} {q p c n0 e : Nat} {r : RR} (h : BlkP S0 S1 q p c n0 e r) (hk : Kb q S0 S) {l : Nat} (hl : l < 3) : BlkP S (lRel S1 l 1) q p c n0 e (rLk r l) := by
  obtain ⟨h1, h2, h3, h4⟩ := h
  have hc : ∀ a b, ¬ (a = 7 ∨ a = 8) → lRel S1 l 1 a b = S1 a b := fun a b hab => by
    unfold lRel
    rw [su_k _ _ (by omega), su_k _ _ (by omega)]
  have h72 : lRel S1 l 1 7 2 = S1 7 2 := by
    unfold lRel
    rw [su_k _ _ (by omega), su_k _ _ (by omega)]
  have hRL : ∀ g, RL S1 g → RL (lRel S1 l 1) g := fun g hg => hg.mv (fun a b hab => by
    rcases (show (a = 7 ∧ b = 2) ∨ ¬ (a = 7 ∨ a = 8) by omega) with ⟨rfl, rfl⟩ | h9
    · exact h72
    · exact hc a b h9)
  unfold rLk
  by_cases h5 : r.1 = 5
  · rw [if_pos h5]
    exact ⟨h1, ((lRel_kb S1 q l 1).tr h2).tr hk, hRL _ h3, fun hn => absurd h5 hn⟩
  · rw [if_neg h5]
    obtain ⟨k0, k1, k2, k3, k4, k5⟩ := h4 h5
    have hG := RG.rel (S := S1) ⟨h3, k1⟩ hl 1
    exact ⟨h1, ((lRel_kb S1 q l 1).tr h2).tr hk, hG.1, fun _ => ⟨k0, hG.2, k2.mv (fun a b hab => hc a b (by omega)), k3, fun h9 => (hc _ _ (by omega)).trans (k4 h9), fun h9 => ⟨(hc _ _ (by omega)).trans (k5 h9).1, (k5 h9).2⟩⟩⟩
set_option maxHeartbeats 4000000 in
set_option maxRecDepth 100000 in
theorem m_MA_doLock (l : Launch) (G : WG) (S : SS) (op ar : Nat → Int32) (E sz : Nat → Nat) (F h q p c o : Nat) (s : SG) (hq : q < 6) (hp : p < 4) (hok : OKs S op ar E sz q p c s) (hB : DoB l G op ar E sz F h q p o) (lo : Nat) (hlo : lo < 3) : Ce l y_MA_doLock b_MA_doLock 5 (h + 2) G [.ref (gA G 1), .int (nI q), .int (nI o), .int (nI lo)] S (fun e S1 => BlkP S S1 q p c (gnf s.1) e (rLk (sB op ar E sz F q c (32 * p + o + 1) (gHold s.1 lo, s.2.1, s.2.2)) lo)) := by
  refine mk l (by decide +kernel) (Nat.le_of_ble_eq_true rfl) ?_
  intro pp_ ee_ ss_ mm_ be_ me_ co_ ls hx hb hr hlk hml hC hP hS hl
  have hl : lv_has ls 5 [(0, .ref (gA G 1)), (1, .int (nI q)), (2, .int (nI o)), (3, .int (nI lo))] := hl
  refine lv_aload_n hx hb d_MA_doLock_0 rfl (lv_at hl 0 rfl) ?_
  refine r_get hx hb hC hP i_MA (1) (by decide) rfl rfl 3 (by decide) l_MA_33 rfl d_MA_doLock_1 ?_
  refine lv_iload_n hx hb d_MA_doLock_4 rfl (lv_at hl 3 rfl) ?_
  refine r_v hC hS (r_runV (np := 1) (As := [.int (nI lo)]) (rest := []) hx hb hml hC hP hS (by decide) rfl rfl (m_LO_hold l G S lo (by omega)) l_MA_203 im_LO_hold se_LO_hold in_LO c_LO_hold_in (by decide +kernel) ⟨by simp only [rmF]; omega, by simp only [rmF]; omega⟩ rfl hl.1 (Nat.le_of_ble_eq_true rfl) d_MA_doLock_5 ⟨Nat.le_refl _, Nat.le_refl _⟩) (fun S_5 H locs hw hP hS => ?_)
  rw [hw] at hP
  refine lv_aload_n hx hb d_MA_doLock_8 rfl (lv_at hl 0 rfl) ?_
  refine lv_iload_n hx hb d_MA_doLock_9 rfl (lv_at hl 1 rfl) ?_
  refine lv_iload_n hx hb d_MA_doLock_10 rfl (lv_at hl 2 rfl) ?_
  refine r_e (post := fun e S1 => BlkP (lHold S lo) S1 q p c (gnf (gHold s.1 lo, s.2.1, s.2.2).1) e (sB op ar E sz F q c (32 * p + o + 1) (gHold s.1 lo, s.2.1, s.2.2))) hC hS (r_runV (np := 2) (As := [.int (nI q), .int (nI o)]) (rest := []) hx hb hml hC hP hS (by decide) rfl rfl (hB (lHold S lo) c (gHold s.1 lo, s.2.1, s.2.2) (hok.hold hlo)) l_MA_82 im_MA_doBlock se_MA_doBlock in_MA c_MA_doBlock_in (by decide +kernel) ⟨by simp only [rmF]; omega, by simp only [rmF]; omega⟩ rfl hl.1 (Nat.le_of_ble_eq_true rfl) d_MA_doLock_11 ⟨Nat.le_refl _, Nat.le_refl _⟩) (fun i_11 S_11 H locs hi_11 hw hP hS => ?_)
  have hw_11 := hw
  refine lv_astore (lv' := [(4, .ref (gE G i_11)), (0, .ref (gA G 1)), (1, .int (nI q)), (2, .int (nI o)), (3, .int (nI lo))]) hx hb d_MA_doLock_14 hl (by decide) rfl (fun ls hl => ?_)
  refine lv_aload_n hx hb d_MA_doLock_16 rfl (lv_at hl 1 rfl) ?_
  refine r_get hx hb hC hP i_MA (1) (by decide) rfl rfl 3 (by decide) l_MA_33 rfl d_MA_doLock_17 ?_
  refine lv_iload_n hx hb d_MA_doLock_20 rfl (lv_at hl 4 rfl) ?_
  refine lv_iconst (v := 1) hx hb d_MA_doLock_21 (by decide) ?_
  refine r_v hC hS (r_runV (np := 2) (As := [.int (nI lo), .int 1]) (rest := []) hx hb hml hC hP hS (by decide) rfl rfl (m_LO_release l G S_11 lo (by omega) 1) l_MA_107 im_LO_release se_LO_release in_LO c_LO_release_in (by decide +kernel) ⟨by simp only [rmF]; omega, by simp only [rmF]; omega⟩ rfl hl.1 (Nat.le_of_ble_eq_true rfl) d_MA_doLock_22 ⟨Nat.le_refl _, Nat.le_refl _⟩) (fun S_22 H locs hw hP hS => ?_)
  rw [hw] at hP
  refine lv_aload hx hb d_MA_doLock_25 (lv_at hl 0 rfl) ?_
  exact e_e (post := fun e S1 => BlkP S S1 q p c (gnf s.1) e (rLk (sB op ar E sz F q c (32 * p + o + 1) (gHold s.1 lo, s.2.1, s.2.2)) lo)) hx hb hr hlk hC hP hS d_MA_doLock_27 hi_11 (hw_11.lock (lHold_kb S q lo) hlo)

theorem OKs.cth {S : SS} {op ar : Nat → Int32} {E sz : Nat → Nat} {q p c id : Nat} {s : SG} (h : OKs S op ar E sz q p c s) (hq : q < 6) (hid : id ≤ gnf s.1) : OKs (su S (27 + 2 * q) 4 (nI id - 1)) op ar E sz q p id s := by
  obtain ⟨h1, ⟨h2, h2'⟩, h3, h4⟩ := h
  refine ⟨fun p2 hp2 => ?_, ⟨h2.mv (fun a b hab => su_k _ _ (by omega)), h2'.mv (fun a b hab => su_k _ _ (by omega))⟩, ⟨(su_k _ _ (by omega)).trans h3.1, (su_k _ _ (by omega)).trans h3.2.1, su_same _ _ _ _, fun l hl => ⟨(su_k _ _ (by omega)).trans (h3.2.2.2 l hl).1, (h3.2.2.2 l hl).2⟩⟩, h4.1, hid, h4.2.2⟩
  obtain ⟨e1, e2, e3⟩ := h1 p2 hp2
  refine ⟨(su_k _ _ (by omega)).trans e1, e2, fun i hi => ?_⟩
  obtain ⟨f1, f2, f3, f4⟩ := e3 i hi
  exact ⟨(su_k _ _ (by omega)).trans f1, (su_k _ _ (by omega)).trans f2, (su_k _ _ (by omega)).trans f3, f4⟩
theorem BlkP.uncatch {S S1 : SS} {q p c id n0 e : Nat} {r : RR} {v : Int32} (h : BlkP (su S (27 + 2 * q) 4 v) S1 q p id n0 e r) (hq : q < 6) (hc4 : S (27 + 2 * q) 4 = nI c - 1) (hc : c ≤ n0) : BlkP S (su S1 (27 + 2 * q) 4 (S (27 + 2 * q) 4)) q p c n0 e r := by
  obtain ⟨h1, h2, h3, h4⟩ := h
  refine ⟨h1, fun a b hab => ?_, h3.mv (fun a b hab => su_k _ _ (by omega)), fun h5 => ?_⟩
  · by_cases hab2 : a = 27 + 2 * q ∧ b = 4
    · obtain ⟨rfl, rfl⟩ := hab2
      exact su_same _ _ _ _
    · rw [su_k _ _ hab2, h2 a b hab, su_k _ _ hab2]
  · obtain ⟨k0, k1, k2, k3, k4, k5⟩ := h4 h5
    exact ⟨k0, k1.mv (fun a b hab => su_k _ _ (by omega)), ⟨(su_k _ _ (by omega)).trans k2.1, (su_k _ _ (by omega)).trans k2.2.1, (su_same _ _ _ _).trans hc4, fun l hl => ⟨(su_k _ _ (by omega)).trans (k2.2.2.2 l hl).1, (k2.2.2.2 l hl).2⟩⟩, ⟨k3.1, Nat.le_trans hc k0, k3.2.2⟩, fun h9 => (su_k _ _ (by omega)).trans (k4 h9), fun h9 => ⟨(su_k _ _ (by omega)).trans (k5 h9).1, (k5 h9).2⟩⟩
set_option maxHeartbeats 4000000 in
set_option maxRecDepth 100000 in
theorem m_MA_doCatch (l : Launch) (G : WG) (S : SS) (op ar : Nat → Int32) (E sz : Nat → Nat) (F h q p c o : Nat) (s : SG) (hq : q < 6) (hp : p < 4) (hok : OKs S op ar E sz q p c s) (hB : DoB l G op ar E sz F h q p o) (id : Nat) (hid : id ≤ gnf s.1) (hcar : S (27 + 2 * q) 3 = nI id - 1) : Ce l y_MA_doCatch b_MA_doCatch 6 (h + 1) G [.ref (gA G 1), .int (nI q), .int (nI o)] S (fun e S1 => BlkP S S1 q p c (gnf s.1) e (sB op ar E sz F q id (32 * p + o + 1) s)) := by
  refine mk l (by decide +kernel) (Nat.le_of_ble_eq_true rfl) ?_
  intro pp_ ee_ ss_ mm_ be_ me_ co_ ls hx hb hr hlk hml hC hP hS hl
  have hl : lv_has ls 6 [(0, .ref (gA G 1)), (1, .int (nI q)), (2, .int (nI o))] := hl
  refine lv_aload_n hx hb d_MA_doCatch_0 rfl (lv_at hl 0 rfl) ?_
  refine r_get hx hb hC hP i_MA (1) (by decide) rfl rfl 1 (by decide) l_MA_19 rfl d_MA_doCatch_1 ?_
  refine lv_iload_n hx hb d_MA_doCatch_4 rfl (lv_at hl 1 rfl) ?_
  refine r_frame hx hb hC hP q rfl (by omega) d_MA_doCatch_5 ?_
  refine lv_astore_n (lv' := [(3, .ref (gA G (27 + 2 * q))), (0, .ref (gA G 1)), (1, .int (nI q)), (2, .int (nI o))]) hx hb d_MA_doCatch_6 rfl hl (by decide) rfl (fun ls hl => ?_)
  refine lv_aload_n hx hb d_MA_doCatch_7 rfl (lv_at hl 0 rfl) ?_
  refine r_getN hx hb hC hP i_FR (27 + 2 * q) (by omega) (sh_F G _ hq) rfl 4 (by decide) k_MA_154 rfl d_MA_doCatch_8 ?_
  refine lv_istore (lv' := [(4, .int (S (27 + 2 * q) 4)), (3, .ref (gA G (27 + 2 * q))), (0, .ref (gA G 1)), (1, .int (nI q)), (2, .int (nI o))]) hx hb d_MA_doCatch_11 hl (by decide) rfl (fun ls hl => ?_)
  refine lv_aload_n hx hb d_MA_doCatch_13 rfl (lv_at hl 1 rfl) ?_
  refine lv_aload_n hx hb d_MA_doCatch_14 rfl (lv_at hl 1 rfl) ?_
  refine r_getN hx hb hC hP i_FR (27 + 2 * q) (by omega) (sh_F G _ hq) rfl 3 (by decide) k_MA_76 rfl d_MA_doCatch_15 ?_
  rw [show S (27 + 2 * q) 3 = nI id - 1 from hcar]
  refine r_putN hx hb hC hP hS i_FR t_FR t_FR_ok n_FR (27 + 2 * q) (by omega) (sh_F G _ hq) rfl 4 (by decide) k_MA_154 rfl rfl (by rw [sh_F G _ hq]; rfl) (Nat.le_of_ble_eq_true rfl) d_MA_doCatch_18 (fun H locs hP hS => ?_)
  refine lv_aload_n hx hb d_MA_doCatch_21 rfl (lv_at hl 2 rfl) ?_
  refine lv_iload_n hx hb d_MA_doCatch_22 rfl (lv_at hl 3 rfl) ?_
  refine lv_iload_n hx hb d_MA_doCatch_23 rfl (lv_at hl 4 rfl) ?_
  refine r_e (post := fun e S1 => BlkP (su S (27 + 2 * q) 4 (nI id - 1)) S1 q p id (gnf s.1) e (sB op ar E sz F q id (32 * p + o + 1) s)) hC hS (r_runV (np := 2) (As := [.int (nI q), .int (nI o)]) (rest := []) hx hb hml hC hP hS (by decide) rfl rfl (hB (su S (27 + 2 * q) 4 (nI id - 1)) id s (hok.cth hq hid)) l_MA_82 im_MA_doBlock se_MA_doBlock in_MA c_MA_doBlock_in (by decide +kernel) ⟨by simp only [rmF]; omega, by simp only [rmF]; omega⟩ rfl hl.1 (Nat.le_of_ble_eq_true rfl) d_MA_doCatch_24 ⟨Nat.le_refl _, Nat.le_refl _⟩) (fun i_24 S_24 H locs hi_24 hw hP hS => ?_)
  have hw_24 := hw
  refine lv_astore (lv' := [(5, .ref (gE G i_24)), (4, .int (S (27 + 2 * q) 4)), (3, .ref (gA G (27 + 2 * q))), (0, .ref (gA G 1)), (1, .int (nI q)), (2, .int (nI o))]) hx hb d_MA_doCatch_27 hl (by decide) rfl (fun ls hl => ?_)
  refine lv_aload_n hx hb d_MA_doCatch_29 rfl (lv_at hl 2 rfl) ?_
  refine lv_iload hx hb d_MA_doCatch_30 (lv_at hl 1 rfl) ?_
  refine r_putN hx hb hC hP hS i_FR t_FR t_FR_ok n_FR (27 + 2 * q) (by omega) (sh_F G _ hq) rfl 4 (by decide) k_MA_154 rfl rfl (by rw [sh_F G _ hq]; rfl) (Nat.le_of_ble_eq_true rfl) d_MA_doCatch_32 (fun H locs hP hS => ?_)
  refine lv_aload hx hb d_MA_doCatch_35 (lv_at hl 0 rfl) ?_
  exact e_e (post := fun e S1 => BlkP S S1 q p c (gnf s.1) e (sB op ar E sz F q id (32 * p + o + 1) s)) hx hb hr hlk hC hP hS d_MA_doCatch_37 hi_24 (hw_24.uncatch hq hok.2.2.1.2.2.1 hok.2.2.2.2.1)

/-- the state behind an ending r that isn't LATE -/
def Aft (S : SS) (op ar : Nat → Int32) (E sz : Nat → Nat) (q p c : Nat) (r : RR) : Prop := ¬ r.1 = 5 ∧ OKs S op ar E sz q p c r.2.2.2 ∧ (r.1 = 3 → S (27 + 2 * q) 3 = r.2.1) ∧ (r.1 = 4 → S (27 + 2 * q) 3 = nI r.2.2.1 - 1 ∧ 0 < r.2.2.1 ∧ r.2.2.1 ≤ gnf r.2.2.2.1)
theorem BlkP.aft {S S1 : SS} {op ar : Nat → Int32} {E sz : Nat → Nat} {q p c n0 e : Nat} {r : RR} (h : BlkP S S1 q p c n0 e r) (hT : TRx S op ar E sz) (h5 : ¬ e = 5) : Aft S1 op ar E sz q p c r := by
  have ho := h.ok hT h5
  obtain ⟨h1, h2, h3, h4⟩ := h
  subst h1
  obtain ⟨k0, k1, k2, k3, k4, k5⟩ := h4 h5
  exact ⟨h5, ho, k4, k5⟩
theorem BlkP.last {S S1 : SS} {op ar : Nat → Int32} {E sz : Nat → Nat} {q p c e : Nat} {r : RR} {rec : SG → RR} (hA : Aft S op ar E sz q p c r) (h : BlkP S S1 q p c (gnf r.2.2.2.1) e (rec r.2.2.2)) (he : e = 0) (hq : q < 6) : BlkP S (su S1 (27 + 2 * q) 3 (S (27 + 2 * q) 3)) q p c (gnf r.2.2.2.1) r.1 (sLst rec r) := by
  obtain ⟨h1, h2, h3, h4⟩ := h
  subst he
  obtain ⟨a1, a2, a3, a4⟩ := hA
  unfold sLst
  rw [if_pos h1.symm]
  obtain ⟨k0, k1, k2, k3, k4, k5⟩ := h4 (by omega)
  refine ⟨rfl, fun a b hab => ?_, h3.mv (fun a b hab => su_k _ _ (by omega)), fun _ => ⟨k0, k1.mv (fun a b hab => su_k _ _ (by omega)), ⟨(su_k _ _ (by omega)).trans k2.1, (su_k _ _ (by omega)).trans k2.2.1, (su_k _ _ (by omega)).trans k2.2.2.1, fun l hl => ⟨(su_k _ _ (by omega)).trans (k2.2.2.2 l hl).1, (k2.2.2.2 l hl).2⟩⟩, k3, fun h9 => (su_same _ _ _ _).trans (a3 h9), fun h9 => ⟨(su_same _ _ _ _).trans (a4 h9).1, (a4 h9).2.1, Nat.le_trans (a4 h9).2.2 k0⟩⟩⟩
  rw [su_k _ _ (by omega)]
  exact h2 a b hab
theorem BlkP.last1 {S S1 : SS} {q p c e : Nat} {r : RR} {rec : SG → RR} (h : BlkP S S1 q p c (gnf r.2.2.2.1) e (rec r.2.2.2)) (he : ¬ e = 0) : BlkP S S1 q p c (gnf r.2.2.2.1) e (sLst rec r) := by
  unfold sLst
  rw [if_neg (by rw [← h.1]; exact he)]
  exact h
set_option maxHeartbeats 4000000 in
set_option maxRecDepth 100000 in
theorem m_MA_doLast (l : Launch) (G : WG) (S : SS) (op ar : Nat → Int32) (E sz : Nat → Nat) (F h q p c o : Nat) (r : RR) (hq : q < 6) (hp : p < 4) (hA : Aft S op ar E sz q p c r) (hr6 : r.1 < 6) (hB : DoB l G op ar E sz F h q p o) : Ce l y_MA_doLast b_MA_doLast 7 (h + 1) G [.ref (gA G 1), .int (nI q), .int (nI o), .ref (gE G r.1)] S (fun e S1 => BlkP S S1 q p c (gnf r.2.2.2.1) e (sLst (sB op ar E sz F q c (32 * p + o + 1)) r)) := by
  refine mk l (by decide +kernel) (Nat.le_of_ble_eq_true rfl) ?_
  intro pp_ ee_ ss_ mm_ be_ me_ co_ ls hx hb hr hlk hml hC hP hS hl
  have hl : lv_has ls 7 [(0, .ref (gA G 1)), (1, .int (nI q)), (2, .int (nI o)), (3, .ref (gE G r.1))] := hl
  refine lv_aload_n hx hb d_MA_doLast_0 rfl (lv_at hl 0 rfl) ?_
  refine r_get hx hb hC hP i_MA (1) (by decide) rfl rfl 1 (by decide) l_MA_19 rfl d_MA_doLast_1 ?_
  refine lv_iload_n hx hb d_MA_doLast_4 rfl (lv_at hl 1 rfl) ?_
  refine r_frame hx hb hC hP q rfl (by omega) d_MA_doLast_5 ?_
  refine lv_astore (lv' := [(4, .ref (gA G (27 + 2 * q))), (0, .ref (gA G 1)), (1, .int (nI q)), (2, .int (nI o)), (3, .ref (gE G r.1))]) hx hb d_MA_doLast_6 hl (by decide) rfl (fun ls hl => ?_)
  refine lv_aload hx hb d_MA_doLast_8 (lv_at hl 0 rfl) ?_
  refine r_getN hx hb hC hP i_FR (27 + 2 * q) (by omega) (sh_F G _ hq) rfl 3 (by decide) k_MA_76 rfl d_MA_doLast_10 ?_
  refine lv_istore (lv' := [(5, .int (S (27 + 2 * q) 3)), (4, .ref (gA G (27 + 2 * q))), (0, .ref (gA G 1)), (1, .int (nI q)), (2, .int (nI o)), (3, .ref (gE G r.1))]) hx hb d_MA_doLast_13 hl (by decide) rfl (fun ls hl => ?_)
  refine lv_aload_n hx hb d_MA_doLast_15 rfl (lv_at hl 2 rfl) ?_
  refine lv_iload_n hx hb d_MA_doLast_16 rfl (lv_at hl 3 rfl) ?_
  refine lv_iload_n hx hb d_MA_doLast_17 rfl (lv_at hl 4 rfl) ?_
  refine r_e (post := fun e S1 => BlkP S S1 q p c (gnf r.2.2.2.1) e (sB op ar E sz F q c (32 * p + o + 1) r.2.2.2)) hC hS (r_runV (np := 2) (As := [.int (nI q), .int (nI o)]) (rest := []) hx hb hml hC hP hS (by decide) rfl rfl (hB S c r.2.2.2 hA.2.1) l_MA_82 im_MA_doBlock se_MA_doBlock in_MA c_MA_doBlock_in (by decide +kernel) ⟨by simp only [rmF]; omega, by simp only [rmF]; omega⟩ rfl hl.1 (Nat.le_of_ble_eq_true rfl) d_MA_doLast_18 ⟨Nat.le_refl _, Nat.le_refl _⟩) (fun i_18 S_18 H locs hi_18 hw hP hS => ?_)
  have hw_18 := hw
  refine lv_astore (lv' := [(6, .ref (gE G i_18)), (5, .int (S (27 + 2 * q) 3)), (4, .ref (gA G (27 + 2 * q))), (0, .ref (gA G 1)), (1, .int (nI q)), (2, .int (nI o)), (3, .ref (gE G r.1))]) hx hb d_MA_doLast_21 hl (by decide) rfl (fun ls hl => ?_)
  refine lv_aload hx hb d_MA_doLast_23 (lv_at hl 0 rfl) ?_
  refine r_enum hx hb hC hS 0 (by decide) l_MA_86 d_MA_doLast_25 ?_
  refine lv_acmp_eq (rx := some (gE G i_18)) (ry := some (gE G 0)) (tgt := 34) hx hb d_MA_doLast_28 (by decide) (fun c_28 => ?_) (fun c_28 => ?_)
  · have c_28 := gE_eq hC.2.2.1 hi_18 (by decide) c_28
    refine lv_aload hx hb d_MA_doLast_34 (lv_at hl 2 rfl) ?_
    refine lv_iload hx hb d_MA_doLast_36 (lv_at hl 1 rfl) ?_
    refine r_putN hx hb hC hP hS i_FR t_FR t_FR_ok n_FR (27 + 2 * q) (by omega) (sh_F G _ hq) rfl 3 (by decide) k_MA_76 rfl rfl (by rw [sh_F G _ hq]; rfl) (Nat.le_of_ble_eq_true rfl) d_MA_doLast_38 (fun H locs hP hS => ?_)
    refine lv_aload_n hx hb d_MA_doLast_41 rfl (lv_at hl 6 rfl) ?_
    exact e_e (post := fun e S1 => BlkP S S1 q p c (gnf r.2.2.2.1) e (sLst (sB op ar E sz F q c (32 * p + o + 1)) r)) hx hb hr hlk hC hP hS d_MA_doLast_42 hr6 (BlkP.last hA hw_18 c_28 hq)
  · have c_28 := gE_ne c_28
    refine lv_aload hx hb d_MA_doLast_31 (lv_at hl 0 rfl) ?_
    exact e_e (post := fun e S1 => BlkP S S1 q p c (gnf r.2.2.2.1) e (sLst (sB op ar E sz F q c (32 * p + o + 1)) r)) hx hb hr hlk hC hP hS d_MA_doLast_33 hi_18 (BlkP.last1 hw_18 c_28)

theorem BlkP.on {S X : SS} {op ar : Nat → Int32} {E sz : Nat → Nat} {q p c n0 : Nat} {s : SG} (h : OKs X op ar E sz q p c s) (hk : Kb q X S) (hn : n0 ≤ gnf s.1) : BlkP S X q p c n0 0 (rOn s) :=
  ⟨rfl, hk, h.2.1.1, fun _ => ⟨hn, h.2.1.2, h.2.2.1, h.2.2.2, fun h9 => absurd h9 (show ¬ (0 : Nat) = 3 by decide), fun h9 => absurd h9 (show ¬ (0 : Nat) = 4 by decide)⟩⟩
theorem BlkP.n0 {S S1 : SS} {q p c n1 n0 e : Nat} {r : RR} (h : BlkP S S1 q p c n1 e r) (hn : n0 ≤ n1) : BlkP S S1 q p c n0 e r := ⟨h.1, h.2.1, h.2.2.1, fun h5 => ⟨Nat.le_trans hn (h.2.2.2 h5).1, (h.2.2.2 h5).2⟩⟩
set_option maxHeartbeats 4000000 in
set_option maxRecDepth 100000 in
theorem m_MA_doTimes_loop (l : Launch) (G : WG) (S : SS) (op ar : Nat → Int32) (E sz : Nat → Nat) (F h q p c o : Nat) (s : SG) (hq : q < 6) (hp : p < 4) (hok : OKs S op ar E sz q p c s) (hB : DoB l G op ar E sz F h q p o) (kk : Nat) (hkk : kk < 100) {pp_ : Program} {ee_ : Env} {ss_ : State} {mm_ : MethodId} {be_ : List Frame} {me_ : Method} {co_ : Code} (hx : pp_.tables.exec = Jvm.exec) (hb : co_.code = b_MA_doTimes) (hr : me_.sig.returnType = (some (.object "EndingsLab$Ending"))) (hlk : me_.locks = false) (hml : co_.maxLocals = 6) (hC : CC G "EndingsLab$Machine" ss_ mm_ ([.ref (gA G 1), .int (nI q), .int (nI o), .int (nI kk)] : List Value).toArray (AA G)) :
    ∀ (f : Nat) (j : Nat) (X : SS) (t : SG), j ≤ kk → kk < j + f → OKs X op ar E sz q p c t → Kb q X S → gnf s.1 ≤ gnf t.1 → sTimes (sB op ar E sz F q c (32 * p + o + 1)) (kk - j) t = sTimes (sB op ar E sz F q c (32 * p + o + 1)) kk s →  ∀ (H : Heap) (locs : List Loc) (ls : Array Slot), va_P (gD G) clsL (wl (gA G) 57 (fS G X)) H → va_S (AA G) ss_.heap H locs → lv_has ls 6 [(0, .ref (gA G 1)), (1, .int (nI q)), (2, .int (nI o)), (3, .int (nI kk)), (4, .int (nI j))] → W pp_ l ee_ (rmF (h + 1)) ss_ mm_ ([.ref (gA G 1), .int (nI q), .int (nI o), .int (nI kk)] : List Value).toArray be_ me_ co_ H locs 0 0 (MQ be_ (va_Qr (S := Nat × SS) (fun u => u.1 < 6 ∧ (fun e S1 => BlkP S S1 q p c (gnf s.1) e (sTimes (sB op ar E sz F q c (32 * p + o + 1)) kk s)) u.1 u.2) (fun u b t => b = gE G u.1 ∧ WD G u.2 t) (AA G)) ([.ref (gA G 1), .int (nI q), .int (nI o), .int (nI kk)] : List Value).toArray ss_ 0 0 (AA G)) (F0 mm_ 3 ls []) := by
  intro f
  induction f with
  | zero =>
    intro j X t hj hf hX hK hn9 hR H locs ls hP hS hl
    exact absurd hf (by omega)
  | succ f ih =>
    intro j X t hj hf hX hK hn9 hR H locs ls hP hS hl
    refine lv_iload hx hb d_MA_doTimes_3 (lv_at hl 4 rfl) ?_
    refine lv_iload_n hx hb d_MA_doTimes_5 rfl (lv_at hl 3 rfl) ?_
    refine lv_icmp_ge (tgt := 54) hx hb d_MA_doTimes_6 (by decide) (fun c_6 => ?_) (fun c_6 => ?_)
    · have c_6 : kk ≤ j := (q_le (a := kk) (b := j) rfl rfl (by omega) (by omega)).mp c_6
      refine r_enum hx hb hC hS 0 (by decide) l_MA_86 d_MA_doTimes_54 ?_
      exact e_e (post := fun e S1 => BlkP S S1 q p c (gnf s.1) e (sTimes (sB op ar E sz F q c (32 * p + o + 1)) kk s)) hx hb hr hlk hC hP hS d_MA_doTimes_57 (by decide) (by rw [← hR, show kk - j = 0 by omega]; exact BlkP.on hX hK hn9)
    · have c_6 : ¬ kk ≤ j := fun h => c_6 ((q_le (a := kk) (b := j) rfl rfl (by omega) (by omega)).mpr h)
      rw [show kk - j = (kk - (j + 1)) + 1 by omega] at hR
      refine lv_aload_n hx hb d_MA_doTimes_9 rfl (lv_at hl 0 rfl) ?_
      refine lv_iload_n hx hb d_MA_doTimes_10 rfl (lv_at hl 1 rfl) ?_
      refine lv_iload_n hx hb d_MA_doTimes_11 rfl (lv_at hl 2 rfl) ?_
      refine r_e (post := fun e S1 => BlkP X S1 q p c (gnf t.1) e (sB op ar E sz F q c (32 * p + o + 1) t)) hC hS (r_runV (np := 2) (As := [.int (nI q), .int (nI o)]) (rest := []) hx hb hml hC hP hS (by decide) rfl rfl (hB X c t hX) l_MA_82 im_MA_doBlock se_MA_doBlock in_MA c_MA_doBlock_in (by decide +kernel) ⟨by simp only [rmF]; omega, by simp only [rmF]; omega⟩ rfl hl.1 (Nat.le_of_ble_eq_true rfl) d_MA_doTimes_12 ⟨Nat.le_refl _, Nat.le_refl _⟩) (fun i_12 S_12 H locs hi_12 hw hP hS => ?_)
      have hw_12 := hw
      refine lv_astore (lv' := [(5, .ref (gE G i_12)), (0, .ref (gA G 1)), (1, .int (nI q)), (2, .int (nI o)), (3, .int (nI kk)), (4, .int (nI j))]) hx hb d_MA_doTimes_15 hl (by decide) rfl (fun ls hl => ?_)
      refine lv_aload hx hb d_MA_doTimes_17 (lv_at hl 0 rfl) ?_
      refine r_enum hx hb hC hS 1 (by decide) l_MA_148 d_MA_doTimes_19 ?_
      refine lv_acmp_ne (rx := some (gE G i_12)) (ry := some (gE G 1)) (tgt := 29) hx hb d_MA_doTimes_22 (by decide) (fun c_22 => ?_) (fun c_22 => ?_)
      · have c_22 := gE_ne c_22
        refine lv_aload hx hb d_MA_doTimes_29 (lv_at hl 0 rfl) ?_
        refine r_enum hx hb hC hS 0 (by decide) l_MA_86 d_MA_doTimes_31 ?_
        refine lv_acmp_eq (rx := some (gE G i_12)) (ry := some (gE G 0)) (tgt := 48) hx hb d_MA_doTimes_34 (by decide) (fun c_34 => ?_) (fun c_34 => ?_)
        · have c_34 := gE_eq hC.2.2.1 hi_12 (by decide) c_34
          refine lv_iinc (v := nI (j + 1)) (lv' := [(4, .int (nI (j + 1))), (5, .ref (gE G i_12)), (0, .ref (gA G 1)), (1, .int (nI q)), (2, .int (nI o)), (3, .int (nI kk))]) hx hb d_MA_doTimes_48 hl (k := 5) rfl (nI_1 _) (by decide) rfl (fun ls hl => ?_)
          refine lv_goto (tgt := 3) hx hb d_MA_doTimes_51 (by decide) ?_
          exact ih (j + 1) S_12 (sB op ar E sz F q c (32 * p + o + 1) t).2.2.2 (by omega) (by omega) (hw_12.ok hX.1 (by omega)) (hw_12.2.1.tr hK) (Nat.le_trans hn9 (hw_12.2.2.2 (by rw [← hw_12.1]; omega)).1) (by rw [← hR]; show _ = (if _ then _ else if _ then _ else _); rw [if_neg (by rw [← hw_12.1]; exact c_22), if_pos (by rw [← hw_12.1]; first | exact Or.inl c_34 | exact Or.inr c_42)]) _ _ _ hP hS (lv_sub hl [2, 3, 4, 5, 0] rfl)
        · have c_34 := gE_ne c_34
          refine lv_aload hx hb d_MA_doTimes_37 (lv_at hl 0 rfl) ?_
          refine r_enum hx hb hC hS 2 (by decide) l_MA_151 d_MA_doTimes_39 ?_
          refine lv_acmp_eq (rx := some (gE G i_12)) (ry := some (gE G 2)) (tgt := 48) hx hb d_MA_doTimes_42 (by decide) (fun c_42 => ?_) (fun c_42 => ?_)
          · have c_42 := gE_eq hC.2.2.1 hi_12 (by decide) c_42
            refine lv_iinc (v := nI (j + 1)) (lv' := [(4, .int (nI (j + 1))), (5, .ref (gE G i_12)), (0, .ref (gA G 1)), (1, .int (nI q)), (2, .int (nI o)), (3, .int (nI kk))]) hx hb d_MA_doTimes_48 hl (k := 5) rfl (nI_1 _) (by decide) rfl (fun ls hl => ?_)
            refine lv_goto (tgt := 3) hx hb d_MA_doTimes_51 (by decide) ?_
            exact ih (j + 1) S_12 (sB op ar E sz F q c (32 * p + o + 1) t).2.2.2 (by omega) (by omega) (hw_12.ok hX.1 (by omega)) (hw_12.2.1.tr hK) (Nat.le_trans hn9 (hw_12.2.2.2 (by rw [← hw_12.1]; omega)).1) (by rw [← hR]; show _ = (if _ then _ else if _ then _ else _); rw [if_neg (by rw [← hw_12.1]; exact c_22), if_pos (by rw [← hw_12.1]; first | exact Or.inl c_34 | exact Or.inr c_42)]) _ _ _ hP hS (lv_sub hl [2, 3, 4, 5, 0] rfl)
          · have c_42 := gE_ne c_42
            refine lv_aload hx hb d_MA_doTimes_45 (lv_at hl 0 rfl) ?_
            exact e_e (post := fun e S1 => BlkP S S1 q p c (gnf s.1) e (sTimes (sB op ar E sz F q c (32 * p + o + 1)) kk s)) hx hb hr hlk hC hP hS d_MA_doTimes_47 hi_12 (by rw [← hR]; show BlkP _ _ _ _ _ _ _ (if _ then _ else if _ then _ else _); rw [if_neg (by rw [← hw_12.1]; exact c_22), if_neg (by rw [← hw_12.1]; exact fun h => h.elim c_34 c_42)]; exact (hw_12.pre hK).n0 hn9)
      · have c_22 := gE_eq hC.2.2.1 hi_12 (by decide) c_22
        refine r_enum hx hb hC hS 0 (by decide) l_MA_86 d_MA_doTimes_25 ?_
        exact e_e (post := fun e S1 => BlkP S S1 q p c (gnf s.1) e (sTimes (sB op ar E sz F q c (32 * p + o + 1)) kk s)) hx hb hr hlk hC hP hS d_MA_doTimes_28 (by decide) (by rw [← hR]; show BlkP _ _ _ _ _ _ _ (if _ then _ else _); rw [if_pos (by rw [← hw_12.1]; exact c_22)]; exact BlkP.on (hw_12.ok hX.1 (by omega)) (hw_12.2.1.tr hK) (Nat.le_trans hn9 (hw_12.2.2.2 (by rw [← hw_12.1]; omega)).1))

set_option maxHeartbeats 4000000 in
set_option maxRecDepth 100000 in
theorem m_MA_doTimes (l : Launch) (G : WG) (S : SS) (op ar : Nat → Int32) (E sz : Nat → Nat) (F h q p c o : Nat) (s : SG) (hq : q < 6) (hp : p < 4) (hok : OKs S op ar E sz q p c s) (hB : DoB l G op ar E sz F h q p o) (kk : Nat) (hkk : kk < 100) : Ce l y_MA_doTimes b_MA_doTimes 6 (h + 1) G [.ref (gA G 1), .int (nI q), .int (nI o), .int (nI kk)] S (fun e S1 => BlkP S S1 q p c (gnf s.1) e (sTimes (sB op ar E sz F q c (32 * p + o + 1)) kk s)) := by
  refine mk l (by decide +kernel) (Nat.le_of_ble_eq_true rfl) ?_
  intro pp_ ee_ ss_ mm_ be_ me_ co_ ls hx hb hr hlk hml hC hP hS hl
  have hl : lv_has ls 6 [(0, .ref (gA G 1)), (1, .int (nI q)), (2, .int (nI o)), (3, .int (nI kk))] := hl
  refine lv_iconst (v := 0) hx hb d_MA_doTimes_0 (by decide) ?_
  refine lv_istore (lv' := [(4, .int 0), (0, .ref (gA G 1)), (1, .int (nI q)), (2, .int (nI o)), (3, .int (nI kk))]) hx hb d_MA_doTimes_1 hl (by decide) rfl (fun ls hl => ?_)
  exact m_MA_doTimes_loop l G S op ar E sz F h q p c o s hq hp hok hB kk hkk hx hb hr hlk hml hC (kk + 1) 0 _ s (Nat.zero_le _) (by omega) hok (Kb.rf q S) (Nat.le_refl _) rfl _ _ _ hP hS (lv_sub hl [1, 2, 3, 4, 0] rfl)

