/-! the class's doProcedure, doCall: written by wip/gen/p53.py -/
theorem upd_id (h : Nat → Int32) (l : Nat) : upd h l (h l - 0) = h := by
  funext j
  by_cases e : j = l
  · subst e; rw [pk_us]; exact Int32.sub_zero _
  · rw [pk_un e]
theorem gRel_0 (g : GS) (l : Nat) : gRel g l 0 = g := by
  unfold gRel
  rw [upd_id]
  rfl
theorem nI_0lt {k : Nat} (h : k < 2 ^ 31) : (0 : Int32) < nI k ↔ 0 < k := q_lt (a := 0) (b := k) rfl rfl (by decide) h
theorem relF_rg {S X : SS} {g : GS} {q i k : Nat} (hX : RG X g) (hi : i < 3) (hk : k < 2 ^ 31) (he : S (28 + 2 * q) i = nI k) : RG (relF S q i X) (gRel g i (nI k)) := by
  unfold relF
  by_cases h0 : 0 < k
  · rw [he, if_pos ((nI_0lt hk).mpr h0)]
    exact hX.rel hi _
  · have hk0 : k = 0 := by omega
    subst hk0
    rw [he, if_neg (fun h => h0 ((nI_0lt hk).mp h))]
    show RG X (gRel g i 0)
    rw [gRel_0]
    exact hX
theorem relE_rg {S : SS} {g : GS} {q p c : Nat} {ac : Int32} {en : Nat → Nat} (hX : RG S g) (hF : RF S q p c ac en) : RG (relE S q) (gRelE g en) := by
  have h0 := hF.2.2.2 0 (by decide)
  have h1 := hF.2.2.2 1 (by decide)
  have h2 := hF.2.2.2 2 (by decide)
  exact relF_rg (relF_rg (relF_rg hX (by decide) (by omega) h0.1) (by decide) (by omega) h1.1) (by decide) (by omega) h2.1
theorem relF_k (S X : SS) (q i : Nat) {a b : Nat} (h : ¬ (a = 8 ∨ (a = 7 ∧ b = 1))) : relF S q i X a b = X a b := by
  unfold relF
  split
  · unfold lRel
    rw [su_k _ _ (by omega), su_k _ _ (by omega)]
  · rfl
theorem relE_k (S : SS) (q : Nat) {a b : Nat} (h : ¬ (a = 8 ∨ (a = 7 ∧ b = 1))) : relE S q a b = S a b := by
  unfold relE
  rw [relF_k _ _ _ _ h, relF_k _ _ _ _ h, relF_k _ _ _ _ h]
theorem owes_en {S : SS} {q p c : Nat} {ac : Int32} {en : Nat → Nat} (hF : RF S q p c ac en) : owes S q = enOwe en := by
  have h0 := hF.2.2.2 0 (by decide)
  have h1 := hF.2.2.2 1 (by decide)
  have h2 := hF.2.2.2 2 (by decide)
  unfold owes enOwe
  rw [h0.1, h1.1, h2.1]
  simp only [nI_0lt (show en 0 < 2 ^ 31 by omega), nI_0lt (show en 1 < 2 ^ 31 by omega), nI_0lt (show en 2 < 2 ^ 31 by omega)]
def ProcP (S S1 : SS) (q n0 e : Nat) (u : Nat × Int32 × Nat × GS) : Prop := e = u.1 ∧ Kb q S1 S ∧ RL S1 u.2.2.2 ∧ (¬ u.1 = 5 → n0 ≤ gnf u.2.2.2 ∧ RK S1 u.2.2.2 ∧ gnf u.2.2.2 + q ≤ gst u.2.2.2 + 1 ∧ (u.1 = 3 → S1 (27 + 2 * q) 3 = u.2.1) ∧ (u.1 = 4 → S1 (27 + 2 * q) 3 = nI u.2.2.1 - 1 ∧ 0 < u.2.2.1 ∧ u.2.2.1 ≤ gnf u.2.2.2))
section DOP
variable (l : Launch) (G : WG) (op ar : Nat → Int32) (E sz : Nat → Nat)
def sP0 (F q p : Nat) (s : SG) : RR := if sz p = 0 then rOn s else sB op ar E sz F q 0 (32 * p) s
/-- the contract of doBlock for a text's own block -/
def DoT (F h q p : Nat) : Prop := ∀ (S : SS) (s : SG), OKs S op ar E sz q p 0 s → Ce l y_MA_doBlock b_MA_doBlock 8 h G [.ref (gA G 1), .int (nI q), .int (-1)] S (fun e S1 => BlkP S S1 q p 0 (gnf s.1) e (sP0 op ar E sz F q p s) ∧ ¬ e = 1 ∧ ¬ e = 2)
end DOP
theorem gRelE_nf (g : GS) (en : Nat → Nat) : gnf (gRelE g en) = gnf g := rfl
theorem gRelE_st (g : GS) (en : Nat → Nat) : gst (gRelE g en) = gst g := rfl
/-- the carried answer of an ending, the account taken for ON -/
theorem fin5 {S S1 : SS} {q p n0 e : Nat} {r : RR} (h : BlkP S S1 q p 0 n0 e r) (h5 : e = 5) : ProcP S S1 q n0 e (sFin r) := by
  obtain ⟨h1, h2, h3, -⟩ := h
  subst h1
  unfold sFin
  rw [if_pos h5]
  exact ⟨h5, h2, h3, fun h9 => absurd rfl h9⟩
theorem finO {S S1 X : SS} {q p n0 e : Nat} {r : RR} {k : Nat} (h : BlkP S S1 q p 0 n0 e r) (h5 : ¬ e = 5) (hq : q < 6) (how : enOwe r.2.2.2.2.2 = true) (hX : RG X r.2.2.2.1) (hXk : ∀ a b, ¬ (a = 27 + 2 * q ∧ b = 3) → X a b = S1 a b) (hk : k = if r.1 = 4 then r.2.2.1 else 0) (hF : RF X q p 0 r.2.2.2.2.1 r.2.2.2.2.2) : ProcP S (mRaise (relE X q) (gnf r.2.2.2.1) q 4 (nI k - 1)) q n0 4 (sFin r) := by
  obtain ⟨h1, h2, h3, h4⟩ := h
  subst h1
  obtain ⟨k0, k1, k2, k3, k4, k5⟩ := h4 h5
  unfold sFin
  rw [if_neg h5, if_pos how, ← hk]
  have hkn : k ≤ gnf r.2.2.2.1 := by
    rw [hk]
    by_cases h9 : r.1 = 4
    · rw [if_pos h9]; exact (k5 h9).2.2
    · rw [if_neg h9]; omega
  have hst := h3.2.1
  have hlim := k3.1
  have hG := RG.mk (S := relE X q) (relE_rg hX hF) (by rw [gRelE_nf]; omega) 4 k (by rw [gRelE_nf]; exact hkn)
  rw [gRelE_nf] at hG
  unfold mRaise
  refine ⟨rfl, fun a b hab => ?_, hG.1.mv (fun a b hab => su_k _ _ (by omega)), fun _ => ⟨?_, hG.2.mv (fun a b hab => su_k _ _ (by omega)), ?_, fun h9 => absurd h9 (show ¬ (4 : Nat) = 3 by decide), fun _ => ⟨(su_same _ _ _ _).trans (nI_pred _).symm, Nat.succ_pos _, ?_⟩⟩⟩
  · rw [su_k _ _ (by omega)]
    unfold fMk
    rw [su_k _ _ (by omega), su_k _ _ (by omega), su_k _ _ (by omega), relE_k _ _ (by omega), hXk a b (by omega)]
    exact h2 a b hab
  · show n0 ≤ gnf r.2.2.2.1 + 1
    omega
  · show gnf r.2.2.2.1 + 1 + q ≤ gst r.2.2.2.1 + 1
    omega
  · show gnf r.2.2.2.1 + 1 ≤ gnf r.2.2.2.1 + 1
    omega
theorem finN {S S1 X : SS} {q p n0 e e2 : Nat} {r : RR} (h : BlkP S S1 q p 0 n0 e r) (h5 : ¬ e = 5) (hq : q < 6) (how : enOwe r.2.2.2.2.2 = false) (hX : RG X r.2.2.2.1) (hXk : ∀ a b, ¬ (a = 27 + 2 * q ∧ b = 3) → X a b = S1 a b) (hF : RF X q p 0 r.2.2.2.2.1 r.2.2.2.2.2) (he2 : e2 = if e = 4 then 4 else 3) (h12 : ¬ e = 1 ∧ ¬ e = 2) (h6 : e < 6) (hcar : X (27 + 2 * q) 3 = if e = 0 then r.2.2.2.2.1 else S1 (27 + 2 * q) 3) : ProcP S (relE X q) q n0 e2 (sFin r) := by
  obtain ⟨h1, h2, h3, h4⟩ := h
  subst h1
  obtain ⟨k0, k1, k2, k3, k4, k5⟩ := h4 h5
  have hst := h3.2.1
  have hlim := k3.1
  have hG := relE_rg hX hF
  have hkb : Kb q (relE X q) S := fun a b hab => by
    rw [relE_k _ _ (by omega), hXk a b (by omega)]
    exact h2 a b hab
  unfold sFin
  rw [if_neg h5, if_neg (by rw [how]; decide)]
  by_cases h9 : r.1 = 4
  · rw [if_pos h9]
    rw [if_pos h9] at he2
    subst he2
    refine ⟨rfl, hkb, hG.1, fun _ => ⟨k0, hG.2, by rw [gRelE_nf, gRelE_st]; omega, fun h8 => absurd h8 (show ¬ (4 : Nat) = 3 by decide), fun _ => ⟨?_, (k5 h9).2⟩⟩⟩
    rw [relE_k _ _ (by omega), hcar, if_neg (by omega)]
    exact (k5 h9).1
  · rw [if_neg h9]
    rw [if_neg h9] at he2
    subst he2
    refine ⟨rfl, hkb, hG.1, fun _ => ⟨k0, hG.2, by rw [gRelE_nf, gRelE_st]; omega, fun _ => ?_, fun h8 => absurd h8 (show ¬ (3 : Nat) = 4 by decide)⟩⟩
    rw [relE_k _ _ (by omega), hcar]
    show _ = (if r.1 = 3 then r.2.1 else r.2.2.2.2.1)
    by_cases h0 : r.1 = 0
    · rw [if_pos h0, if_neg (by omega)]
    · rw [if_neg h0]
      by_cases h3' : r.1 = 3
      · rw [if_pos h3']; exact k4 h3'
      · exact absurd h5 (by omega)
set_option maxHeartbeats 4000000 in
set_option maxRecDepth 100000 in
theorem m_MA_doProcedure (l : Launch) (G : WG) (S : SS) (op ar : Nat → Int32) (E sz : Nat → Nat) (F h q p : Nat) (s : SG) (hq : q < 6) (hp : p < 4) (hok : OKs S op ar E sz q p 0 s) (hT : DoT l G op ar E sz F h q p) : Ce l y_MA_doProcedure b_MA_doProcedure 4 (h + 2) G [.ref (gA G 1), .int (nI q)] S (fun e S1 => ProcP S S1 q (gnf s.1) e (sFin (sP0 op ar E sz F q p s))) := by
  refine mk l (by decide +kernel) (Nat.le_of_ble_eq_true rfl) ?_
  intro pp_ ee_ ss_ mm_ be_ me_ co_ ls hx hb hr hlk hml hC hP hS hl
  have hl : lv_has ls 4 [(0, .ref (gA G 1)), (1, .int (nI q))] := hl
  refine lv_aload_n hx hb d_MA_doProcedure_0 rfl (lv_at hl 0 rfl) ?_
  refine r_get hx hb hC hP i_MA (1) (by decide) rfl rfl 1 (by decide) l_MA_19 rfl d_MA_doProcedure_1 ?_
  refine lv_iload_n hx hb d_MA_doProcedure_4 rfl (lv_at hl 1 rfl) ?_
  refine r_frame hx hb hC hP q rfl (by omega) d_MA_doProcedure_5 ?_
  refine lv_astore_n (lv' := [(2, .ref (gA G (27 + 2 * q))), (0, .ref (gA G 1)), (1, .int (nI q))]) hx hb d_MA_doProcedure_6 rfl hl (by decide) rfl (fun ls hl => ?_)
  refine lv_aload_n hx hb d_MA_doProcedure_7 rfl (lv_at hl 1 rfl) ?_
  refine lv_iload_n hx hb d_MA_doProcedure_8 rfl (lv_at hl 2 rfl) ?_
  refine lv_iconst (v := (-1)) hx hb d_MA_doProcedure_9 (by decide) ?_
  refine r_e (post := fun e S1 => BlkP S S1 q p 0 (gnf s.1) e (sP0 op ar E sz F q p s) ∧ ¬ e = 1 ∧ ¬ e = 2) hC hS (r_runV (np := 2) (As := [.int (nI q), .int (-1)]) (rest := []) hx hb hml hC hP hS (by decide) rfl rfl (hT S s hok) l_MA_82 im_MA_doBlock se_MA_doBlock in_MA c_MA_doBlock_in (by decide +kernel) ⟨by simp only [rmF]; omega, by simp only [rmF]; omega⟩ rfl hl.1 (Nat.le_of_ble_eq_true rfl) d_MA_doProcedure_10 ⟨Nat.le_refl _, Nat.le_refl _⟩) (fun i_10 S_10 H locs hi_10 hw hP hS => ?_)
  obtain ⟨hw_10, h12⟩ := hw
  refine lv_astore_n (lv' := [(3, .ref (gE G i_10)), (2, .ref (gA G (27 + 2 * q))), (0, .ref (gA G 1)), (1, .int (nI q))]) hx hb d_MA_doProcedure_13 rfl hl (by decide) rfl (fun ls hl => ?_)
  refine lv_aload_n hx hb d_MA_doProcedure_14 rfl (lv_at hl 0 rfl) ?_
  refine r_enum hx hb hC hS 5 (by decide) l_MA_67 d_MA_doProcedure_15 ?_
  refine lv_acmp_ne (rx := some (gE G i_10)) (ry := some (gE G 5)) (tgt := 23) hx hb d_MA_doProcedure_18 (by decide) (fun c_18 => ?_) (fun c_18 => ?_)
  · have c_18 := gE_ne c_18
    have hRL := hw_10.2.2.1
    obtain ⟨k0, k1, k2, k3, k4, k5⟩ := hw_10.2.2.2 (by rw [← hw_10.1]; exact c_18)
    have hnf3 : (gnf (sP0 op ar E sz F q p s).2.2.2.1) < 301 := by have h1 := k3.1; have h2 := hRL.2.1; omega
    refine lv_aload_n hx hb d_MA_doProcedure_23 rfl (lv_at hl 0 rfl) ?_
    refine r_enum hx hb hC hS 0 (by decide) l_MA_86 d_MA_doProcedure_24 ?_
    refine lv_acmp_ne (rx := some (gE G i_10)) (ry := some (gE G 0)) (tgt := 42) hx hb d_MA_doProcedure_27 (by decide) (fun c_27 => ?_) (fun c_27 => ?_)
    · have c_27 := gE_ne c_27
      refine lv_aload_n hx hb d_MA_doProcedure_42 rfl (lv_at hl 2 rfl) ?_
      refine lv_aload_n hx hb d_MA_doProcedure_43 rfl (lv_at hl 1 rfl) ?_
      refine r_i hC hS (r_runV (np := 1) (As := [.ref (gA G (27 + 2 * q))]) (rest := []) hx hb hml hC hP hS (by decide) rfl rfl (m_MA_releaseEntered l G S_10 q hq) l_MA_95 im_MA_releaseEntered se_MA_releaseEntered in_MA c_MA_releaseEntered_in (by decide +kernel) ⟨by simp only [rmF]; omega, by simp only [rmF]; omega⟩ rfl hl.1 (Nat.le_of_ble_eq_true rfl) d_MA_doProcedure_44 ⟨Nat.le_refl _, Nat.le_refl _⟩) (fun r_44 S_44 H locs hw hP hS => ?_)
      obtain ⟨rfl, hSe⟩ := hw
      rw [hSe] at hP
      refine lv_if_eq (tgt := 72) hx hb d_MA_doProcedure_47 (by decide) (fun c_47 => ?_) (fun c_47 => ?_)
      · have c_47 := b2i_f c_47
        refine lv_aload_n hx hb d_MA_doProcedure_72 rfl (lv_at hl 0 rfl) ?_
        exact e_e (post := fun e S1 => ProcP S S1 q (gnf s.1) e (sFin (sP0 op ar E sz F q p s))) hx hb hr hlk hC hP hS d_MA_doProcedure_73 hi_10 (finN hw_10 c_18 hq ((owes_en k2).symm.trans c_47) ⟨hRL, k1⟩ (fun _ _ _ => rfl) k2 (by have h1 := h12.1; have h2 := h12.2; by_cases h4 : i_10 = 4; rw [if_pos h4]; exact h4; rw [if_neg h4]; omega) h12 hi_10 (by rw [if_neg c_27]))
      · have c_47 := b2i_t c_47
        refine lv_aload_n hx hb d_MA_doProcedure_50 rfl (lv_at hl 2 rfl) ?_
        refine lv_aload_n hx hb d_MA_doProcedure_51 rfl (lv_at hl 1 rfl) ?_
        refine lv_iconst (v := 4) hx hb d_MA_doProcedure_52 (by decide) ?_
        refine lv_aload_n hx hb d_MA_doProcedure_53 rfl (lv_at hl 0 rfl) ?_
        refine r_enum hx hb hC hS 4 (by decide) l_MA_73 d_MA_doProcedure_54 ?_
        refine lv_acmp_ne (rx := some (gE G i_10)) (ry := some (gE G 4)) (tgt := 67) hx hb d_MA_doProcedure_57 (by decide) (fun c_57 => ?_) (fun c_57 => ?_)
        · have c_57 := gE_ne c_57
          refine lv_iconst (v := (-1)) hx hb d_MA_doProcedure_67 (by decide) ?_
          refine r_e (post := fun e S1 => e = 4 ∧ S1 = mRaise (relE S_10 q) (gnf (sP0 op ar E sz F q p s).2.2.2.1) q 4 (-1)) hC hS (r_runV (np := 3) (As := [.ref (gA G (27 + 2 * q)), .int 4, .int (-1)]) (rest := []) hx hb hml hC hP hS (by decide) rfl rfl (m_MA_raise l G (relE S_10 q) (gnf (sP0 op ar E sz F q p s).2.2.2.1) q hnf3 hq (by rw [relE_k _ _ (by omega)]; exact hRL.2.2.2.2.2.2.1) 4 (-1)) l_MA_99 im_MA_raise se_MA_raise in_MA c_MA_raise_in (by decide +kernel) ⟨by simp only [rmF]; omega, by simp only [rmF]; omega⟩ rfl hl.1 (Nat.le_of_ble_eq_true rfl) d_MA_doProcedure_68 ⟨Nat.le_refl _, Nat.le_refl _⟩) (fun i_68 S_68 H locs hi_68 hw hP hS => ?_)
          obtain ⟨rfl, hSe⟩ := hw
          rw [hSe] at hP
          exact e_e (post := fun e S1 => ProcP S S1 q (gnf s.1) e (sFin (sP0 op ar E sz F q p s))) hx hb hr hlk hC hP hS d_MA_doProcedure_71 (by decide) (finO (k := 0) hw_10 c_18 hq ((owes_en k2).symm.trans c_47) ⟨hRL, k1⟩ (fun _ _ _ => rfl) (by rw [if_neg (by rw [← hw_10.1]; exact c_57)]) k2)
        · have c_57 := gE_eq hC.2.2.1 hi_10 (by decide) c_57
          refine lv_aload_n hx hb d_MA_doProcedure_60 rfl (lv_at hl 1 rfl) ?_
          refine r_getN hx hb hC hP i_FR (27 + 2 * q) (by omega) (sh_F G _ hq) rfl 3 (by decide) k_MA_76 rfl d_MA_doProcedure_61 ?_
          rw [show (relE S_10 q) (27 + 2 * q) 3 = S_10 (27 + 2 * q) 3 from by rw [relE_k _ _ (by omega)]]
          refine lv_goto (tgt := 68) hx hb d_MA_doProcedure_64 (by decide) ?_
          refine r_e (post := fun e S1 => e = 4 ∧ S1 = mRaise (relE S_10 q) (gnf (sP0 op ar E sz F q p s).2.2.2.1) q 4 (S_10 (27 + 2 * q) 3)) hC hS (r_runV (np := 3) (As := [.ref (gA G (27 + 2 * q)), .int 4, .int (S_10 (27 + 2 * q) 3)]) (rest := []) hx hb hml hC hP hS (by decide) rfl rfl (m_MA_raise l G (relE S_10 q) (gnf (sP0 op ar E sz F q p s).2.2.2.1) q hnf3 hq (by rw [relE_k _ _ (by omega)]; exact hRL.2.2.2.2.2.2.1) 4 (S_10 (27 + 2 * q) 3)) l_MA_99 im_MA_raise se_MA_raise in_MA c_MA_raise_in (by decide +kernel) ⟨by simp only [rmF]; omega, by simp only [rmF]; omega⟩ rfl hl.1 (Nat.le_of_ble_eq_true rfl) d_MA_doProcedure_68 ⟨Nat.le_refl _, Nat.le_refl _⟩) (fun i_68 S_68 H locs hi_68 hw hP hS => ?_)
          obtain ⟨rfl, hSe⟩ := hw
          rw [hSe] at hP
          exact e_e (post := fun e S1 => ProcP S S1 q (gnf s.1) e (sFin (sP0 op ar E sz F q p s))) hx hb hr hlk hC hP hS d_MA_doProcedure_71 (by decide) (by have h9 := finO (k := (sP0 op ar E sz F q p s).2.2.1) hw_10 c_18 hq ((owes_en k2).symm.trans c_47) ⟨hRL, k1⟩ (fun _ _ _ => rfl) (by rw [if_pos (by rw [← hw_10.1]; exact c_57)]) k2; rw [← (k5 (by rw [← hw_10.1]; exact c_57)).1] at h9; exact h9)
    · have c_27 := gE_eq hC.2.2.1 hi_10 (by decide) c_27
      refine lv_aload_n hx hb d_MA_doProcedure_30 rfl (lv_at hl 1 rfl) ?_
      refine lv_aload_n hx hb d_MA_doProcedure_31 rfl (lv_at hl 1 rfl) ?_
      refine r_getN hx hb hC hP i_FR (27 + 2 * q) (by omega) (sh_F G _ hq) rfl 2 (by decide) k_MA_89 rfl d_MA_doProcedure_32 ?_
      refine r_putN hx hb hC hP hS i_FR t_FR t_FR_ok n_FR (27 + 2 * q) (by omega) (sh_F G _ hq) rfl 3 (by decide) k_MA_76 rfl rfl (by rw [sh_F G _ hq]; rfl) (Nat.le_of_ble_eq_true rfl) d_MA_doProcedure_35 (fun H locs hP hS => ?_)
      refine r_enum hx hb hC hS 3 (by decide) l_MA_92 d_MA_doProcedure_38 ?_
      refine lv_astore_n (lv' := [(3, .ref (gE G 3)), (2, .ref (gA G (27 + 2 * q))), (0, .ref (gA G 1)), (1, .int (nI q))]) hx hb d_MA_doProcedure_41 rfl hl (by decide) rfl (fun ls hl => ?_)
      refine lv_aload_n hx hb d_MA_doProcedure_42 rfl (lv_at hl 2 rfl) ?_
      refine lv_aload_n hx hb d_MA_doProcedure_43 rfl (lv_at hl 1 rfl) ?_
      refine r_i hC hS (r_runV (np := 1) (As := [.ref (gA G (27 + 2 * q))]) (rest := []) hx hb hml hC hP hS (by decide) rfl rfl (m_MA_releaseEntered l G (su S_10 (27 + 2 * q) 3 (S_10 (27 + 2 * q) 2)) q hq) l_MA_95 im_MA_releaseEntered se_MA_releaseEntered in_MA c_MA_releaseEntered_in (by decide +kernel) ⟨by simp only [rmF]; omega, by simp only [rmF]; omega⟩ rfl hl.1 (Nat.le_of_ble_eq_true rfl) d_MA_doProcedure_44 ⟨Nat.le_refl _, Nat.le_refl _⟩) (fun r_44 S_44 H locs hw hP hS => ?_)
      obtain ⟨rfl, hSe⟩ := hw
      rw [hSe] at hP
      refine lv_if_eq (tgt := 72) hx hb d_MA_doProcedure_47 (by decide) (fun c_47 => ?_) (fun c_47 => ?_)
      · have c_47 := b2i_f c_47
        refine lv_aload_n hx hb d_MA_doProcedure_72 rfl (lv_at hl 0 rfl) ?_
        exact e_e (post := fun e S1 => ProcP S S1 q (gnf s.1) e (sFin (sP0 op ar E sz F q p s))) hx hb hr hlk hC hP hS d_MA_doProcedure_73 (by decide) (finN hw_10 c_18 hq ((owes_en (show RF (su S_10 (27 + 2 * q) 3 (S_10 (27 + 2 * q) 2)) q p 0 (sP0 op ar E sz F q p s).2.2.2.2.1 (sP0 op ar E sz F q p s).2.2.2.2.2 from ⟨(su_k _ _ (by omega)).trans k2.1, (su_k _ _ (by omega)).trans k2.2.1, (su_k _ _ (by omega)).trans k2.2.2.1, fun l hl => ⟨(su_k _ _ (by omega)).trans (k2.2.2.2 l hl).1, (k2.2.2.2 l hl).2⟩⟩)).symm.trans c_47) (show RG (su S_10 (27 + 2 * q) 3 (S_10 (27 + 2 * q) 2)) (sP0 op ar E sz F q p s).2.2.2.1 from ⟨hRL.mv (fun a b hab => su_k _ _ (by omega)), k1.mv (fun a b hab => su_k _ _ (by omega))⟩) (fun a b hab => su_k _ _ hab) (show RF (su S_10 (27 + 2 * q) 3 (S_10 (27 + 2 * q) 2)) q p 0 (sP0 op ar E sz F q p s).2.2.2.2.1 (sP0 op ar E sz F q p s).2.2.2.2.2 from ⟨(su_k _ _ (by omega)).trans k2.1, (su_k _ _ (by omega)).trans k2.2.1, (su_k _ _ (by omega)).trans k2.2.2.1, fun l hl => ⟨(su_k _ _ (by omega)).trans (k2.2.2.2 l hl).1, (k2.2.2.2 l hl).2⟩⟩) (by rw [if_neg (by rw [c_27]; decide)]) h12 hi_10 (by rw [if_pos c_27]; exact (su_same _ _ _ _).trans k2.2.1))
      · have c_47 := b2i_t c_47
        refine lv_aload_n hx hb d_MA_doProcedure_50 rfl (lv_at hl 2 rfl) ?_
        refine lv_aload_n hx hb d_MA_doProcedure_51 rfl (lv_at hl 1 rfl) ?_
        refine lv_iconst (v := 4) hx hb d_MA_doProcedure_52 (by decide) ?_
        refine lv_aload_n hx hb d_MA_doProcedure_53 rfl (lv_at hl 0 rfl) ?_
        refine r_enum hx hb hC hS 4 (by decide) l_MA_73 d_MA_doProcedure_54 ?_
        refine lv_acmp_ne (rx := some (gE G 3)) (ry := some (gE G 4)) (tgt := 67) hx hb d_MA_doProcedure_57 (by decide) (fun _ => ?_) (fun h => absurd (gE_eq hC.2.2.1 (by decide) (by decide) h) (by decide))
        refine lv_iconst (v := (-1)) hx hb d_MA_doProcedure_67 (by decide) ?_
        refine r_e (post := fun e S1 => e = 4 ∧ S1 = mRaise (relE (su S_10 (27 + 2 * q) 3 (S_10 (27 + 2 * q) 2)) q) (gnf (sP0 op ar E sz F q p s).2.2.2.1) q 4 (-1)) hC hS (r_runV (np := 3) (As := [.ref (gA G (27 + 2 * q)), .int 4, .int (-1)]) (rest := []) hx hb hml hC hP hS (by decide) rfl rfl (m_MA_raise l G (relE (su S_10 (27 + 2 * q) 3 (S_10 (27 + 2 * q) 2)) q) (gnf (sP0 op ar E sz F q p s).2.2.2.1) q hnf3 hq (by rw [relE_k _ _ (by omega), su_cell _ _ _ (by omega)]; exact hRL.2.2.2.2.2.2.1) 4 (-1)) l_MA_99 im_MA_raise se_MA_raise in_MA c_MA_raise_in (by decide +kernel) ⟨by simp only [rmF]; omega, by simp only [rmF]; omega⟩ rfl hl.1 (Nat.le_of_ble_eq_true rfl) d_MA_doProcedure_68 ⟨Nat.le_refl _, Nat.le_refl _⟩) (fun i_68 S_68 H locs hi_68 hw hP hS => ?_)
        obtain ⟨rfl, hSe⟩ := hw
        rw [hSe] at hP
        exact e_e (post := fun e S1 => ProcP S S1 q (gnf s.1) e (sFin (sP0 op ar E sz F q p s))) hx hb hr hlk hC hP hS d_MA_doProcedure_71 (by decide) (finO (k := 0) hw_10 c_18 hq ((owes_en (show RF (su S_10 (27 + 2 * q) 3 (S_10 (27 + 2 * q) 2)) q p 0 (sP0 op ar E sz F q p s).2.2.2.2.1 (sP0 op ar E sz F q p s).2.2.2.2.2 from ⟨(su_k _ _ (by omega)).trans k2.1, (su_k _ _ (by omega)).trans k2.2.1, (su_k _ _ (by omega)).trans k2.2.2.1, fun l hl => ⟨(su_k _ _ (by omega)).trans (k2.2.2.2 l hl).1, (k2.2.2.2 l hl).2⟩⟩)).symm.trans c_47) (show RG (su S_10 (27 + 2 * q) 3 (S_10 (27 + 2 * q) 2)) (sP0 op ar E sz F q p s).2.2.2.1 from ⟨hRL.mv (fun a b hab => su_k _ _ (by omega)), k1.mv (fun a b hab => su_k _ _ (by omega))⟩) (fun a b hab => su_k _ _ hab) (by rw [if_neg (by rw [← hw_10.1, c_27]; decide)]) (show RF (su S_10 (27 + 2 * q) 3 (S_10 (27 + 2 * q) 2)) q p 0 (sP0 op ar E sz F q p s).2.2.2.2.1 (sP0 op ar E sz F q p s).2.2.2.2.2 from ⟨(su_k _ _ (by omega)).trans k2.1, (su_k _ _ (by omega)).trans k2.2.1, (su_k _ _ (by omega)).trans k2.2.2.1, fun l hl => ⟨(su_k _ _ (by omega)).trans (k2.2.2.2 l hl).1, (k2.2.2.2 l hl).2⟩⟩))
  · have c_18 := gE_eq hC.2.2.1 hi_10 (by decide) c_18
    refine lv_aload_n hx hb d_MA_doProcedure_21 rfl (lv_at hl 0 rfl) ?_
    exact e_e (post := fun e S1 => ProcP S S1 q (gnf s.1) e (sFin (sP0 op ar E sz F q p s))) hx hb hr hlk hC hP hS d_MA_doProcedure_22 hi_10 (fin5 hw_10 c_18)

