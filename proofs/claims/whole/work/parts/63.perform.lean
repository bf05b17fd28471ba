/-! the class's perform: written by wip/gen/p63.py -/
def gInit (nv : Nat) (ev : Nat → Int32) : GS := ((0, nv, 0), 0, ev, fun _ => 0, fun _ => 0, fun _ => 0)
def pfX (S : SS) (p : Nat) (x : Int32) : SS := frBegin (su (su (lFree (su S 4 2 0)) 1 5 0) 1 7 (-1)) 0 (nI p) x
theorem lFree_k (S : SS) {a b : Nat} (h : ¬ ((a = 8 ∧ b < 3) ∨ (a = 7 ∧ (b = 1 ∨ b = 2)))) : lFree S a b = S a b := by
  unfold lFree
  rw [su_k _ _ (by omega), su_k _ _ (by omega), su_k _ _ (by omega), su_k _ _ (by omega), su_k _ _ (by omega)]
theorem pfX_k (S : SS) (p : Nat) (x : Int32) {a b : Nat} (h : ¬ (a = 27 ∨ a = 28 ∨ (a = 1 ∧ (b = 5 ∨ b = 7)) ∨ a = 8 ∨ a = 7 ∨ a = 4)) : pfX S p x a b = S a b := by
  unfold pfX
  rw [frBegin_k _ _ _ _ (by omega), su_k _ _ (by omega), su_k _ _ (by omega), lFree_k _ (by omega), su_k _ _ (by omega)]
theorem gInit_st (nv : Nat) (ev : Nat → Int32) : gst (gInit nv ev) = 0 := rfl
theorem gInit_nv (nv : Nat) (ev : Nat → Int32) : gnv (gInit nv ev) = nv := rfl
theorem pfX_ok {S : SS} {op ar : Nat → Int32} {E sz : Nat → Nat} {nv : Nat} {ev : Nat → Int32} (hT : TRx S op ar E sz) (h9 : S 9 1 = nI nv) (hnv : nv + 300 ≤ 2 ^ 29) (hev : ∀ j, j < nv → nv ≤ j + 32 → S 10 (j % 32) = ev j) (p : Nat) (x : Int32) : OKs (pfX S p x) op ar E sz 0 p 0 (gInit nv ev, x, fun _ => 0) := by
  refine ⟨fun p2 hp2 => ?_, ⟨⟨?_, by rw [gInit_st]; exact Nat.zero_le _, ?_, ?_, fun j h1 h2 => ?_, ?_, ?_, Nat.zero_le _, fun k hk => absurd hk (Nat.not_lt_zero k)⟩, fun l hl => ?_, ?_⟩, frBegin_rf _ _ _ _, Nat.le_refl _, Nat.le_refl _, fun l hl => Nat.le_refl _⟩
  · obtain ⟨e1, e2, e3⟩ := hT p2 hp2
    refine ⟨(pfX_k _ _ _ (by omega)).trans e1, e2, fun i hi => ?_⟩
    obtain ⟨f1, f2, f3, f4⟩ := e3 i hi
    exact ⟨(pfX_k _ _ _ (by omega)).trans f1, (pfX_k _ _ _ (by omega)).trans f2, (pfX_k _ _ _ (by omega)).trans f3, f4⟩
  · unfold pfX
    rw [frBegin_k _ _ _ _ (by omega), su_k _ _ (by omega), su_same]
    rfl
  · exact (pfX_k _ _ _ (by omega)).trans h9
  · rw [gInit_st, gInit_nv]
    omega
  · exact (pfX_k _ _ _ (by omega)).trans (hev j h1 h2)
  · unfold pfX lFree
    rw [frBegin_k _ _ _ _ (by omega), su_k _ _ (by omega), su_k _ _ (by omega), su_same]
    rfl
  · unfold pfX
    rw [frBegin_k _ _ _ _ (by omega), su_k _ _ (by omega), su_k _ _ (by omega), lFree_k _ (by omega), su_same]
    rfl
  · unfold pfX
    rw [frBegin_k _ _ _ _ (by omega), su_k _ _ (by omega), su_k _ _ (by omega)]
    unfold lFree
    rcases (show l = 0 ∨ l = 1 ∨ l = 2 by omega) with rfl | rfl | rfl
    · rw [su_k _ _ (by omega), su_k _ _ (by omega), su_k _ _ (by omega), su_k _ _ (by omega), su_same]; rfl
    · rw [su_k _ _ (by omega), su_k _ _ (by omega), su_k _ _ (by omega), su_same]; rfl
    · rw [su_k _ _ (by omega), su_k _ _ (by omega), su_same]; rfl
  · unfold pfX lFree
    rw [frBegin_k _ _ _ _ (by omega), su_k _ _ (by omega), su_k _ _ (by omega), su_k _ _ (by omega), su_same]
    rfl
theorem pfX_17 (S : SS) (p : Nat) (x : Int32) : pfX S p x 1 7 = -1 := by
  unfold pfX
  rw [frBegin_k _ _ _ _ (by omega), su_same]
def PfP (S S1 : SS) (r : Int32) (u : Nat × Int32 × Nat × GS) : Prop := RL S1 u.2.2.2 ∧ (∀ a b, a = 0 ∨ (11 ≤ a ∧ a < 27) ∨ 39 ≤ a → S1 a b = S a b) ∧ ((u.1 = 5 ∧ r = 2 ∧ S1 1 7 = -1 ∧ S1 1 6 = S 1 6) ∨ (u.1 = 4 ∧ r = 1 ∧ S1 1 7 = nI u.2.2.1 - 1 ∧ 0 < u.2.2.1 ∧ u.2.2.1 ≤ gnf u.2.2.2 ∧ S1 1 6 = S 1 6) ∨ (u.1 = 3 ∧ r = 0 ∧ S1 1 6 = u.2.1 ∧ S1 1 7 = -1))
theorem pf5 {S S1 : SS} {p e n0 : Nat} {x : Int32} {u : Nat × Int32 × Nat × GS} (h : ProcP (pfX S p x) S1 0 n0 e u) (h5 : e = 5) : PfP S S1 2 u := by
  obtain ⟨h1, h2, h3, -⟩ := h
  subst h1
  exact ⟨h3, fun a b hab => (h2 a b (by omega)).trans (pfX_k _ _ _ (by omega)), Or.inl ⟨h5, rfl, (h2 _ _ (by omega)).trans (pfX_17 _ _ _), (h2 _ _ (by omega)).trans (pfX_k _ _ _ (by omega))⟩⟩
theorem pf4 {S S1 : SS} {p e n0 : Nat} {x : Int32} {u : Nat × Int32 × Nat × GS} (h : ProcP (pfX S p x) S1 0 n0 e u) (h4 : e = 4) : PfP S (su S1 1 7 (S1 (27 + 2 * 0) 3)) 1 u := by
  obtain ⟨h1, h2, h3, h9⟩ := h
  subst h1
  obtain ⟨k0, k1, k2, k3, k4⟩ := h9 (by omega)
  exact ⟨h3.mv (fun a b hab => su_k _ _ (by omega)), fun a b hab => by rw [su_k _ _ (by omega), h2 a b (by omega)]; exact pfX_k _ _ _ (by omega), Or.inr (Or.inl ⟨h4, rfl, (su_same _ _ _ _).trans (k4 h4).1, (k4 h4).2.1, (k4 h4).2.2, by rw [su_k _ _ (by omega), h2 _ _ (by omega)]; exact pfX_k _ _ _ (by omega)⟩)⟩
theorem pf3 {S S1 : SS} {p e n0 : Nat} {x : Int32} {u : Nat × Int32 × Nat × GS} (h : ProcP (pfX S p x) S1 0 n0 e u) (h3' : e = 3) : PfP S (su S1 1 6 (S1 (27 + 2 * 0) 3)) 0 u := by
  obtain ⟨h1, h2, h3, h9⟩ := h
  subst h1
  obtain ⟨k0, k1, k2, k3, k4⟩ := h9 (by omega)
  exact ⟨h3.mv (fun a b hab => su_k _ _ (by omega)), fun a b hab => by rw [su_k _ _ (by omega), h2 a b (by omega)]; exact pfX_k _ _ _ (by omega), Or.inr (Or.inr ⟨h3', rfl, (su_same _ _ _ _).trans (k3 h3'), by rw [su_k _ _ (by omega), h2 _ _ (by omega)]; exact pfX_17 _ _ _⟩)⟩
set_option maxHeartbeats 4000000 in
set_option maxRecDepth 100000 in
theorem m_MA_perform (l : Launch) (G : WG) (S : SS) (op ar : Nat → Int32) (E sz : Nat → Nat) (F h p nv : Nat) (x : Int32) (ev : Nat → Int32) (hp : p < 4) (hT : TRx S op ar E sz) (h9 : S 9 1 = nI nv) (hnv : nv + 300 ≤ 2 ^ 29) (hev : ∀ j, j < nv → nv ≤ j + 32 → S 10 (j % 32) = ev j) (hPr : DoP l G op ar E sz F h 0 p) : Ci l y_MA_perform b_MA_perform 4 (some (.int)) (h + 2) G [.ref (gA G 1), .int (nI p), .int x] S (fun r S1 => PfP S S1 r (sFin (sP0 op ar E sz F 0 p (gInit nv ev, x, fun _ => 0)))) := by
  refine mk l (by decide +kernel) (Nat.le_of_ble_eq_true rfl) ?_
  intro pp_ ee_ ss_ mm_ be_ me_ co_ ls hx hb hr hlk hml hC hP hS hl
  have hl : lv_has ls 4 [(0, .ref (gA G 1)), (1, .int (nI p)), (2, .int x)] := hl
  refine lv_aload_n hx hb d_MA_perform_0 rfl (lv_at hl 0 rfl) ?_
  refine r_get hx hb hC hP i_MA (1) (by decide) rfl rfl 2 (by decide) l_MA_26 rfl d_MA_perform_1 ?_
  refine r_v hC hS (r_runV (np := 0) (As := []) (rest := []) hx hb hml hC hP hS (by decide) rfl rfl (m_FA_forget l G S) l_MA_50 im_FA_forget se_FA_forget in_FA c_FA_forget_in (by decide +kernel) ⟨by simp only [rmF]; omega, by simp only [rmF]; omega⟩ rfl hl.1 (Nat.le_of_ble_eq_true rfl) d_MA_perform_4 ⟨Nat.le_refl _, Nat.le_refl _⟩) (fun S_4 H locs hw hP hS => ?_)
  obtain rfl := hw
  refine lv_aload_n hx hb d_MA_perform_7 rfl (lv_at hl 0 rfl) ?_
  refine r_get hx hb hC hP i_MA (1) (by decide) rfl rfl 3 (by decide) l_MA_33 rfl d_MA_perform_8 ?_
  refine r_v hC hS (r_runV (np := 0) (As := []) (rest := []) hx hb hml hC hP hS (by decide) rfl rfl (m_LO_free l G (su S 4 2 0)) l_MA_53 im_LO_free se_LO_free in_LO c_LO_free_in (by decide +kernel) ⟨by simp only [rmF]; omega, by simp only [rmF]; omega⟩ rfl hl.1 (Nat.le_of_ble_eq_true rfl) d_MA_perform_11 ⟨Nat.le_refl _, Nat.le_refl _⟩) (fun S_11 H locs hw hP hS => ?_)
  obtain rfl := hw
  refine lv_aload_n hx hb d_MA_perform_14 rfl (lv_at hl 0 rfl) ?_
  refine lv_iconst (v := 0) hx hb d_MA_perform_15 (by decide) ?_
  refine r_put hx hb hC hP hS i_MA t_MA t_MA_ok n_MA (1) (by decide) rfl rfl 5 (by decide) l_MA_56 rfl rfl rfl (Nat.le_of_ble_eq_true rfl) d_MA_perform_16 (fun H locs hP hS => ?_)
  refine lv_aload_n hx hb d_MA_perform_19 rfl (lv_at hl 0 rfl) ?_
  refine lv_iconst (v := (-1)) hx hb d_MA_perform_20 (by decide) ?_
  refine r_put hx hb hC hP hS i_MA t_MA t_MA_ok n_MA (1) (by decide) rfl rfl 7 (by decide) l_MA_44 rfl rfl rfl (Nat.le_of_ble_eq_true rfl) d_MA_perform_21 (fun H locs hP hS => ?_)
  refine lv_aload_n hx hb d_MA_perform_24 rfl (lv_at hl 0 rfl) ?_
  refine r_get hx hb hC hP i_MA (1) (by decide) rfl rfl 1 (by decide) l_MA_19 rfl d_MA_perform_25 ?_
  refine lv_iconst (v := 0) hx hb d_MA_perform_28 (by decide) ?_
  refine r_frame hx hb hC hP 0 rfl (by decide) d_MA_perform_29 ?_
  refine lv_iload_n hx hb d_MA_perform_30 rfl (lv_at hl 1 rfl) ?_
  refine lv_iload_n hx hb d_MA_perform_31 rfl (lv_at hl 2 rfl) ?_
  refine r_v hC hS (r_runV (np := 2) (As := [.int (nI p), .int x]) (rest := []) hx hb hml hC hP hS (by omega) (sh_F G _ (show 0 < 6 by decide)) rfl (m_FR_begin l G (su (su (lFree (su S 4 2 0)) 1 5 0) 1 7 (-1)) 0 (by omega) (nI p) x) l_MA_59 im_FR_begin se_FR_begin in_FR c_FR_begin_in (by decide +kernel) ⟨by simp only [rmF]; omega, by simp only [rmF]; omega⟩ rfl hl.1 (Nat.le_of_ble_eq_true rfl) d_MA_perform_32 ⟨Nat.le_refl _, Nat.le_refl _⟩) (fun S_32 H locs hw hP hS => ?_)
  rw [hw] at hP
  refine lv_aload_n hx hb d_MA_perform_35 rfl (lv_at hl 0 rfl) ?_
  refine lv_iconst (v := 0) hx hb d_MA_perform_36 (by decide) ?_
  refine r_e (post := fun e S1 => ProcP (pfX S p x) S1 0 0 e (sFin (sP0 op ar E sz F 0 p (gInit nv ev, x, fun _ => 0)))) hC hS (r_runV (np := 1) (As := [.int 0]) (rest := []) hx hb hml hC hP hS (by decide) rfl rfl (show Ce l y_MA_doProcedure b_MA_doProcedure 4 h G [.ref (gA G 1), .int 0] (pfX S p x) (fun e S1 => ProcP (pfX S p x) S1 0 0 e (sFin (sP0 op ar E sz F 0 p (gInit nv ev, x, fun _ => 0)))) from hPr (pfX S p x) (gInit nv ev, x, fun _ => 0) (pfX_ok hT h9 hnv hev p x)) l_MA_63 im_MA_doProcedure se_MA_doProcedure in_MA c_MA_doProcedure_in (by decide +kernel) ⟨by simp only [rmF]; omega, by simp only [rmF]; omega⟩ rfl hl.1 (Nat.le_of_ble_eq_true rfl) d_MA_perform_37 ⟨Nat.le_refl _, Nat.le_refl _⟩) (fun i_37 S_37 H locs hi_37 hw hP hS => ?_)
  have hw_37 := hw
  refine lv_astore_n (lv' := [(3, .ref (gE G i_37)), (0, .ref (gA G 1)), (1, .int (nI p)), (2, .int x)]) hx hb d_MA_perform_40 rfl hl (by decide) rfl (fun ls hl => ?_)
  refine lv_aload_n hx hb d_MA_perform_41 rfl (lv_at hl 0 rfl) ?_
  refine r_enum hx hb hC hS 5 (by decide) l_MA_67 d_MA_perform_42 ?_
  refine lv_acmp_ne (rx := some (gE G i_37)) (ry := some (gE G 5)) (tgt := 50) hx hb d_MA_perform_45 (by decide) (fun c_45 => ?_) (fun c_45 => ?_)
  · have c_45 := gE_ne c_45
    refine lv_aload_n hx hb d_MA_perform_50 rfl (lv_at hl 0 rfl) ?_
    refine r_enum hx hb hC hS 4 (by decide) l_MA_73 d_MA_perform_51 ?_
    refine lv_acmp_ne (rx := some (gE G i_37)) (ry := some (gE G 4)) (tgt := 72) hx hb d_MA_perform_54 (by decide) (fun c_54 => ?_) (fun c_54 => ?_)
    · have c_54 := gE_ne c_54
      refine lv_aload_n hx hb d_MA_perform_72 rfl (lv_at hl 1 rfl) ?_
      refine lv_aload_n hx hb d_MA_perform_73 rfl (lv_at hl 1 rfl) ?_
      refine r_get hx hb hC hP i_MA (1) (by decide) rfl rfl 1 (by decide) l_MA_19 rfl d_MA_perform_74 ?_
      refine lv_iconst (v := 0) hx hb d_MA_perform_77 (by decide) ?_
      refine r_frame hx hb hC hP 0 rfl (by decide) d_MA_perform_78 ?_
      refine r_getN hx hb hC hP i_FR (27 + 2 * 0) (by omega) (sh_F G _ (show 0 < 6 by decide)) rfl 3 (by decide) k_MA_76 rfl d_MA_perform_79 ?_
      refine r_put hx hb hC hP hS i_MA t_MA t_MA_ok n_MA (1) (by decide) rfl rfl 6 (by decide) l_MA_79 rfl rfl rfl (Nat.le_of_ble_eq_true rfl) d_MA_perform_82 (fun H locs hP hS => ?_)
      refine lv_iconst (v := 0) hx hb d_MA_perform_85 (by decide) ?_
      exact e_i hx hb hr hlk hC hP hS d_MA_perform_86 (pf3 hw_37 (by have h8 := hw_37.1; rcases sFin_or (sP0 op ar E sz F 0 p (gInit nv ev, x, fun _ => 0)) with h7 | h7 | h7 <;> omega))
    · have c_54 := gE_eq hC.2.2.1 hi_37 (by decide) c_54
      refine lv_aload_n hx hb d_MA_perform_57 rfl (lv_at hl 1 rfl) ?_
      refine lv_aload_n hx hb d_MA_perform_58 rfl (lv_at hl 1 rfl) ?_
      refine r_get hx hb hC hP i_MA (1) (by decide) rfl rfl 1 (by decide) l_MA_19 rfl d_MA_perform_59 ?_
      refine lv_iconst (v := 0) hx hb d_MA_perform_62 (by decide) ?_
      refine r_frame hx hb hC hP 0 rfl (by decide) d_MA_perform_63 ?_
      refine r_getN hx hb hC hP i_FR (27 + 2 * 0) (by omega) (sh_F G _ (show 0 < 6 by decide)) rfl 3 (by decide) k_MA_76 rfl d_MA_perform_64 ?_
      refine r_put hx hb hC hP hS i_MA t_MA t_MA_ok n_MA (1) (by decide) rfl rfl 7 (by decide) l_MA_44 rfl rfl rfl (Nat.le_of_ble_eq_true rfl) d_MA_perform_67 (fun H locs hP hS => ?_)
      refine lv_iconst (v := 1) hx hb d_MA_perform_70 (by decide) ?_
      exact e_i hx hb hr hlk hC hP hS d_MA_perform_71 (pf4 hw_37 c_54)
  · have c_45 := gE_eq hC.2.2.1 hi_37 (by decide) c_45
    refine lv_iconst (v := 2) hx hb d_MA_perform_48 (by decide) ?_
    exact e_i hx hb hr hlk hC hP hS d_MA_perform_49 (pf5 hw_37 c_45)

