/-! releaseEntered, catches, isToken, token, wipe: written by wip/gen/p23.py -/
set_option maxHeartbeats 4000000 in
set_option maxRecDepth 100000 in
theorem m_MA_releaseEntered (l : Launch) (G : WG) (S : SS) (q : Nat) (hq : q < 6) : Ci l y_MA_releaseEntered b_MA_releaseEntered 4 (some (.boolean)) 1 G [.ref (gA G 1), .ref (gA G (27 + 2 * q))] S (fun r S1 => r = b2i (owes S q) ∧ S1 = relE S q) := by
  refine mk l (by decide +kernel) (Nat.le_of_ble_eq_true rfl) ?_
  intro pp_ ee_ ss_ mm_ be_ me_ co_ ls hx hb hr hlk hml hC hP hS hl
  have hl : lv_has ls 4 [(0, .ref (gA G 1)), (1, .ref (gA G (27 + 2 * q)))] := hl
  refine lv_iconst (v := 0) hx hb d_MA_releaseEntered_0 (by decide) ?_
  refine lv_istore_n (lv' := [(2, .int 0), (0, .ref (gA G 1)), (1, .ref (gA G (27 + 2 * q)))]) hx hb d_MA_releaseEntered_1 rfl hl (by decide) rfl (fun ls hl => ?_)
  refine lv_iconst (v := 0) hx hb d_MA_releaseEntered_2 (by decide) ?_
  refine lv_istore_n (lv' := [(3, .int 0), (2, .int 0), (0, .ref (gA G 1)), (1, .ref (gA G (27 + 2 * q)))]) hx hb d_MA_releaseEntered_3 rfl hl (by decide) rfl (fun ls hl => ?_)
  refine lv_iload_n hx hb d_MA_releaseEntered_4 rfl (lv_at hl 0 rfl) ?_
  refine lv_iconst (v := 3) hx hb d_MA_releaseEntered_5 (by decide) ?_
  refine lv_icmp_ge (tgt := 40) hx hb d_MA_releaseEntered_6 (by decide) (fun h => absurd h (by decide)) (fun _ => ?_)
  refine lv_aload_n hx hb d_MA_releaseEntered_9 rfl (lv_at hl 3 rfl) ?_
  refine r_getN hx hb hC hP i_FR (27 + 2 * q) (by omega) (sh_F G _ hq) rfl 0 (by decide) k_MA_103 rfl d_MA_releaseEntered_10 ?_
  refine lv_iload_n hx hb d_MA_releaseEntered_13 rfl (lv_at hl 0 rfl) ?_
  refine r_ild hx hb hC hP (28 + 2 * q) (by omega) (sh_F1 G _ hq) 0 rfl (by decide) (by decide) d_MA_releaseEntered_14 ?_
  refine lv_if_le (tgt := 34) hx hb d_MA_releaseEntered_15 (by decide) (fun c_15 => ?_) (fun c_15 => ?_)
  · refine lv_iinc (v := 1) (lv' := [(3, .int 1), (2, .int 0), (0, .ref (gA G 1)), (1, .ref (gA G (27 + 2 * q)))]) hx hb d_MA_releaseEntered_34 hl (k := 0) rfl (by decide) (by decide) rfl (fun ls hl => ?_)
    refine lv_goto (tgt := 4) hx hb d_MA_releaseEntered_37 (by decide) ?_
    refine lv_iload_n hx hb d_MA_releaseEntered_4 rfl (lv_at hl 0 rfl) ?_
    refine lv_iconst (v := 3) hx hb d_MA_releaseEntered_5 (by decide) ?_
    refine lv_icmp_ge (tgt := 40) hx hb d_MA_releaseEntered_6 (by decide) (fun h => absurd h (by decide)) (fun _ => ?_)
    refine lv_aload_n hx hb d_MA_releaseEntered_9 rfl (lv_at hl 3 rfl) ?_
    refine r_getN hx hb hC hP i_FR (27 + 2 * q) (by omega) (sh_F G _ hq) rfl 0 (by decide) k_MA_103 rfl d_MA_releaseEntered_10 ?_
    refine lv_iload_n hx hb d_MA_releaseEntered_13 rfl (lv_at hl 0 rfl) ?_
    refine r_ild hx hb hC hP (28 + 2 * q) (by omega) (sh_F1 G _ hq) 1 rfl (by decide) (by decide) d_MA_releaseEntered_14 ?_
    refine lv_if_le (tgt := 34) hx hb d_MA_releaseEntered_15 (by decide) (fun c_15x => ?_) (fun c_15x => ?_)
    · refine lv_iinc (v := 2) (lv' := [(3, .int 2), (2, .int 0), (0, .ref (gA G 1)), (1, .ref (gA G (27 + 2 * q)))]) hx hb d_MA_releaseEntered_34 hl (k := 0) rfl (by decide) (by decide) rfl (fun ls hl => ?_)
      refine lv_goto (tgt := 4) hx hb d_MA_releaseEntered_37 (by decide) ?_
      refine lv_iload_n hx hb d_MA_releaseEntered_4 rfl (lv_at hl 0 rfl) ?_
      refine lv_iconst (v := 3) hx hb d_MA_releaseEntered_5 (by decide) ?_
      refine lv_icmp_ge (tgt := 40) hx hb d_MA_releaseEntered_6 (by decide) (fun h => absurd h (by decide)) (fun _ => ?_)
      refine lv_aload_n hx hb d_MA_releaseEntered_9 rfl (lv_at hl 3 rfl) ?_
      refine r_getN hx hb hC hP i_FR (27 + 2 * q) (by omega) (sh_F G _ hq) rfl 0 (by decide) k_MA_103 rfl d_MA_releaseEntered_10 ?_
      refine lv_iload_n hx hb d_MA_releaseEntered_13 rfl (lv_at hl 0 rfl) ?_
      refine r_ild hx hb hC hP (28 + 2 * q) (by omega) (sh_F1 G _ hq) 2 rfl (by decide) (by decide) d_MA_releaseEntered_14 ?_
      refine lv_if_le (tgt := 34) hx hb d_MA_releaseEntered_15 (by decide) (fun c_15xx => ?_) (fun c_15xx => ?_)
      · refine lv_iinc (v := 3) (lv' := [(3, .int 3), (2, .int 0), (0, .ref (gA G 1)), (1, .ref (gA G (27 + 2 * q)))]) hx hb d_MA_releaseEntered_34 hl (k := 0) rfl (by decide) (by decide) rfl (fun ls hl => ?_)
        refine lv_goto (tgt := 4) hx hb d_MA_releaseEntered_37 (by decide) ?_
        refine lv_iload_n hx hb d_MA_releaseEntered_4 rfl (lv_at hl 0 rfl) ?_
        refine lv_iconst (v := 3) hx hb d_MA_releaseEntered_5 (by decide) ?_
        refine lv_icmp_ge (tgt := 40) hx hb d_MA_releaseEntered_6 (by decide) (fun _ => ?_) (fun h => absurd h (by decide))
        refine lv_iload_n hx hb d_MA_releaseEntered_40 rfl (lv_at hl 1 rfl) ?_
        exact e_z hx hb hr hlk hC hP hS d_MA_releaseEntered_41 (by decide) ⟨by rw [owes, decide_eq_false (Int32.not_lt.mpr c_15), decide_eq_false (Int32.not_lt.mpr c_15x), decide_eq_false (Int32.not_lt.mpr c_15xx)]; rfl, by rw [relE, relF, relF, relF, if_neg (Int32.not_lt.mpr c_15), if_neg (Int32.not_lt.mpr c_15x), if_neg (Int32.not_lt.mpr c_15xx)] <;> rfl⟩
      · refine lv_aload_n hx hb d_MA_releaseEntered_18 rfl (lv_at hl 2 rfl) ?_
        refine r_get hx hb hC hP i_MA (1) (by decide) rfl rfl 3 (by decide) l_MA_33 rfl d_MA_releaseEntered_19 ?_
        refine lv_iload_n hx hb d_MA_releaseEntered_22 rfl (lv_at hl 0 rfl) ?_
        refine lv_aload_n hx hb d_MA_releaseEntered_23 rfl (lv_at hl 3 rfl) ?_
        refine r_getN hx hb hC hP i_FR (27 + 2 * q) (by omega) (sh_F G _ hq) rfl 0 (by decide) k_MA_103 rfl d_MA_releaseEntered_24 ?_
        refine lv_iload_n hx hb d_MA_releaseEntered_27 rfl (lv_at hl 0 rfl) ?_
        refine r_ild hx hb hC hP (28 + 2 * q) (by omega) (sh_F1 G _ hq) 2 rfl (by decide) (by decide) d_MA_releaseEntered_28 ?_
        refine r_v hC hS (r_runV (np := 2) (As := [.int 2, .int (S (28 + 2 * q) 2)]) (rest := []) hx hb hml hC hP hS (by decide) rfl rfl (m_LO_release l G S 2 (by omega) (S (28 + 2 * q) 2)) l_MA_107 im_LO_release se_LO_release in_LO c_LO_release_in (by decide +kernel) ⟨by simp only [rmF]; omega, by simp only [rmF]; omega⟩ rfl hl.1 (Nat.le_of_ble_eq_true rfl) d_MA_releaseEntered_29 ⟨Nat.le_refl _, Nat.le_refl _⟩) (fun S_29 H locs hw hP hS => ?_)
        rw [hw] at hP
        unfold lRel at hP
        refine lv_iconst (v := 1) hx hb d_MA_releaseEntered_32 (by decide) ?_
        refine lv_istore_n (lv' := [(2, .int 1), (3, .int 2), (0, .ref (gA G 1)), (1, .ref (gA G (27 + 2 * q)))]) hx hb d_MA_releaseEntered_33 rfl hl (by decide) rfl (fun ls hl => ?_)
        refine lv_iinc (v := 3) (lv' := [(3, .int 3), (2, .int 1), (0, .ref (gA G 1)), (1, .ref (gA G (27 + 2 * q)))]) hx hb d_MA_releaseEntered_34 hl (k := 1) rfl (by decide) (by decide) rfl (fun ls hl => ?_)
        refine lv_goto (tgt := 4) hx hb d_MA_releaseEntered_37 (by decide) ?_
        refine lv_iload_n hx hb d_MA_releaseEntered_4 rfl (lv_at hl 0 rfl) ?_
        refine lv_iconst (v := 3) hx hb d_MA_releaseEntered_5 (by decide) ?_
        refine lv_icmp_ge (tgt := 40) hx hb d_MA_releaseEntered_6 (by decide) (fun _ => ?_) (fun h => absurd h (by decide))
        refine lv_iload_n hx hb d_MA_releaseEntered_40 rfl (lv_at hl 1 rfl) ?_
        exact e_z hx hb hr hlk hC hP hS d_MA_releaseEntered_41 (by decide) ⟨by rw [owes, decide_eq_false (Int32.not_lt.mpr c_15), decide_eq_false (Int32.not_lt.mpr c_15x), decide_eq_true (Int32.not_le.mp c_15xx)]; rfl, by rw [relE, relF, relF, relF, if_neg (Int32.not_lt.mpr c_15), if_neg (Int32.not_lt.mpr c_15x), if_pos (Int32.not_le.mp c_15xx)] <;> rfl⟩
    · refine lv_aload_n hx hb d_MA_releaseEntered_18 rfl (lv_at hl 2 rfl) ?_
      refine r_get hx hb hC hP i_MA (1) (by decide) rfl rfl 3 (by decide) l_MA_33 rfl d_MA_releaseEntered_19 ?_
      refine lv_iload_n hx hb d_MA_releaseEntered_22 rfl (lv_at hl 0 rfl) ?_
      refine lv_aload_n hx hb d_MA_releaseEntered_23 rfl (lv_at hl 3 rfl) ?_
      refine r_getN hx hb hC hP i_FR (27 + 2 * q) (by omega) (sh_F G _ hq) rfl 0 (by decide) k_MA_103 rfl d_MA_releaseEntered_24 ?_
      refine lv_iload_n hx hb d_MA_releaseEntered_27 rfl (lv_at hl 0 rfl) ?_
      refine r_ild hx hb hC hP (28 + 2 * q) (by omega) (sh_F1 G _ hq) 1 rfl (by decide) (by decide) d_MA_releaseEntered_28 ?_
      refine r_v hC hS (r_runV (np := 2) (As := [.int 1, .int (S (28 + 2 * q) 1)]) (rest := []) hx hb hml hC hP hS (by decide) rfl rfl (m_LO_release l G S 1 (by omega) (S (28 + 2 * q) 1)) l_MA_107 im_LO_release se_LO_release in_LO c_LO_release_in (by decide +kernel) ⟨by simp only [rmF]; omega, by simp only [rmF]; omega⟩ rfl hl.1 (Nat.le_of_ble_eq_true rfl) d_MA_releaseEntered_29 ⟨Nat.le_refl _, Nat.le_refl _⟩) (fun S_29 H locs hw hP hS => ?_)
      rw [hw] at hP
      unfold lRel at hP
      refine lv_iconst (v := 1) hx hb d_MA_releaseEntered_32 (by decide) ?_
      refine lv_istore_n (lv' := [(2, .int 1), (3, .int 1), (0, .ref (gA G 1)), (1, .ref (gA G (27 + 2 * q)))]) hx hb d_MA_releaseEntered_33 rfl hl (by decide) rfl (fun ls hl => ?_)
      refine lv_iinc (v := 2) (lv' := [(3, .int 2), (2, .int 1), (0, .ref (gA G 1)), (1, .ref (gA G (27 + 2 * q)))]) hx hb d_MA_releaseEntered_34 hl (k := 1) rfl (by decide) (by decide) rfl (fun ls hl => ?_)
      refine lv_goto (tgt := 4) hx hb d_MA_releaseEntered_37 (by decide) ?_
      refine lv_iload_n hx hb d_MA_releaseEntered_4 rfl (lv_at hl 0 rfl) ?_
      refine lv_iconst (v := 3) hx hb d_MA_releaseEntered_5 (by decide) ?_
      refine lv_icmp_ge (tgt := 40) hx hb d_MA_releaseEntered_6 (by decide) (fun h => absurd h (by decide)) (fun _ => ?_)
      refine lv_aload_n hx hb d_MA_releaseEntered_9 rfl (lv_at hl 3 rfl) ?_
      refine r_getN hx hb hC hP i_FR (27 + 2 * q) (by omega) (sh_F G _ hq) rfl 0 (by decide) k_MA_103 rfl d_MA_releaseEntered_10 ?_
      refine lv_iload_n hx hb d_MA_releaseEntered_13 rfl (lv_at hl 0 rfl) ?_
      refine r_ild hx hb hC hP (28 + 2 * q) (by omega) (sh_F1 G _ hq) 2 rfl (by decide) (by decide) d_MA_releaseEntered_14 ?_
      rw [show (su (su S 8 1 (S 8 1 - (S (28 + 2 * q) 1))) 7 1 (S 7 1 - (S (28 + 2 * q) 1))) (28 + 2 * q) 2 = S (28 + 2 * q) 2 from by rw [su_cell _ _ _ (by omega), su_cell _ _ _ (by omega)]]
      refine lv_if_le (tgt := 34) hx hb d_MA_releaseEntered_15 (by decide) (fun c_15xx => ?_) (fun c_15xx => ?_)
      · refine lv_iinc (v := 3) (lv' := [(3, .int 3), (2, .int 1), (0, .ref (gA G 1)), (1, .ref (gA G (27 + 2 * q)))]) hx hb d_MA_releaseEntered_34 hl (k := 0) rfl (by decide) (by decide) rfl (fun ls hl => ?_)
        refine lv_goto (tgt := 4) hx hb d_MA_releaseEntered_37 (by decide) ?_
        refine lv_iload_n hx hb d_MA_releaseEntered_4 rfl (lv_at hl 0 rfl) ?_
        refine lv_iconst (v := 3) hx hb d_MA_releaseEntered_5 (by decide) ?_
        refine lv_icmp_ge (tgt := 40) hx hb d_MA_releaseEntered_6 (by decide) (fun _ => ?_) (fun h => absurd h (by decide))
        refine lv_iload_n hx hb d_MA_releaseEntered_40 rfl (lv_at hl 1 rfl) ?_
        exact e_z hx hb hr hlk hC hP hS d_MA_releaseEntered_41 (by decide) ⟨by rw [owes, decide_eq_false (Int32.not_lt.mpr c_15), decide_eq_true (Int32.not_le.mp c_15x), decide_eq_false (Int32.not_lt.mpr c_15xx)]; rfl, by rw [relE, relF, relF, relF, if_neg (Int32.not_lt.mpr c_15), if_pos (Int32.not_le.mp c_15x), if_neg (Int32.not_lt.mpr c_15xx)] <;> rfl⟩
      · refine lv_aload_n hx hb d_MA_releaseEntered_18 rfl (lv_at hl 2 rfl) ?_
        refine r_get hx hb hC hP i_MA (1) (by decide) rfl rfl 3 (by decide) l_MA_33 rfl d_MA_releaseEntered_19 ?_
        refine lv_iload_n hx hb d_MA_releaseEntered_22 rfl (lv_at hl 0 rfl) ?_
        refine lv_aload_n hx hb d_MA_releaseEntered_23 rfl (lv_at hl 3 rfl) ?_
        refine r_getN hx hb hC hP i_FR (27 + 2 * q) (by omega) (sh_F G _ hq) rfl 0 (by decide) k_MA_103 rfl d_MA_releaseEntered_24 ?_
        refine lv_iload_n hx hb d_MA_releaseEntered_27 rfl (lv_at hl 0 rfl) ?_
        refine r_ild hx hb hC hP (28 + 2 * q) (by omega) (sh_F1 G _ hq) 2 rfl (by decide) (by decide) d_MA_releaseEntered_28 ?_
        rw [show (su (su S 8 1 (S 8 1 - (S (28 + 2 * q) 1))) 7 1 (S 7 1 - (S (28 + 2 * q) 1))) (28 + 2 * q) 2 = S (28 + 2 * q) 2 from by rw [su_cell _ _ _ (by omega), su_cell _ _ _ (by omega)]]
        refine r_v hC hS (r_runV (np := 2) (As := [.int 2, .int (S (28 + 2 * q) 2)]) (rest := []) hx hb hml hC hP hS (by decide) rfl rfl (m_LO_release l G (su (su S 8 1 (S 8 1 - (S (28 + 2 * q) 1))) 7 1 (S 7 1 - (S (28 + 2 * q) 1))) 2 (by omega) (S (28 + 2 * q) 2)) l_MA_107 im_LO_release se_LO_release in_LO c_LO_release_in (by decide +kernel) ⟨by simp only [rmF]; omega, by simp only [rmF]; omega⟩ rfl hl.1 (Nat.le_of_ble_eq_true rfl) d_MA_releaseEntered_29 ⟨Nat.le_refl _, Nat.le_refl _⟩) (fun S_29 H locs hw hP hS => ?_)
        rw [hw] at hP
        unfold lRel at hP
        refine lv_iconst (v := 1) hx hb d_MA_releaseEntered_32 (by decide) ?_
        refine lv_istore_n (lv' := [(2, .int 1), (3, .int 2), (0, .ref (gA G 1)), (1, .ref (gA G (27 + 2 * q)))]) hx hb d_MA_releaseEntered_33 rfl hl (by decide) rfl (fun ls hl => ?_)
        refine lv_iinc (v := 3) (lv' := [(3, .int 3), (2, .int 1), (0, .ref (gA G 1)), (1, .ref (gA G (27 + 2 * q)))]) hx hb d_MA_releaseEntered_34 hl (k := 1) rfl (by decide) (by decide) rfl (fun ls hl => ?_)
        refine lv_goto (tgt := 4) hx hb d_MA_releaseEntered_37 (by decide) ?_
        refine lv_iload_n hx hb d_MA_releaseEntered_4 rfl (lv_at hl 0 rfl) ?_
        refine lv_iconst (v := 3) hx hb d_MA_releaseEntered_5 (by decide) ?_
        refine lv_icmp_ge (tgt := 40) hx hb d_MA_releaseEntered_6 (by decide) (fun _ => ?_) (fun h => absurd h (by decide))
        refine lv_iload_n hx hb d_MA_releaseEntered_40 rfl (lv_at hl 1 rfl) ?_
        exact e_z hx hb hr hlk hC hP hS d_MA_releaseEntered_41 (by decide) ⟨by rw [owes, decide_eq_false (Int32.not_lt.mpr c_15), decide_eq_true (Int32.not_le.mp c_15x), decide_eq_true (Int32.not_le.mp c_15xx)]; rfl, by rw [relE, relF, relF, relF, if_neg (Int32.not_lt.mpr c_15), if_pos (Int32.not_le.mp c_15x), if_pos (Int32.not_le.mp c_15xx)] <;> rfl⟩
  · refine lv_aload_n hx hb d_MA_releaseEntered_18 rfl (lv_at hl 2 rfl) ?_
    refine r_get hx hb hC hP i_MA (1) (by decide) rfl rfl 3 (by decide) l_MA_33 rfl d_MA_releaseEntered_19 ?_
    refine lv_iload_n hx hb d_MA_releaseEntered_22 rfl (lv_at hl 0 rfl) ?_
    refine lv_aload_n hx hb d_MA_releaseEntered_23 rfl (lv_at hl 3 rfl) ?_
    refine r_getN hx hb hC hP i_FR (27 + 2 * q) (by omega) (sh_F G _ hq) rfl 0 (by decide) k_MA_103 rfl d_MA_releaseEntered_24 ?_
    refine lv_iload_n hx hb d_MA_releaseEntered_27 rfl (lv_at hl 0 rfl) ?_
    refine r_ild hx hb hC hP (28 + 2 * q) (by omega) (sh_F1 G _ hq) 0 rfl (by decide) (by decide) d_MA_releaseEntered_28 ?_
    refine r_v hC hS (r_runV (np := 2) (As := [.int 0, .int (S (28 + 2 * q) 0)]) (rest := []) hx hb hml hC hP hS (by decide) rfl rfl (m_LO_release l G S 0 (by omega) (S (28 + 2 * q) 0)) l_MA_107 im_LO_release se_LO_release in_LO c_LO_release_in (by decide +kernel) ⟨by simp only [rmF]; omega, by simp only [rmF]; omega⟩ rfl hl.1 (Nat.le_of_ble_eq_true rfl) d_MA_releaseEntered_29 ⟨Nat.le_refl _, Nat.le_refl _⟩) (fun S_29 H locs hw hP hS => ?_)
    rw [hw] at hP
    unfold lRel at hP
    refine lv_iconst (v := 1) hx hb d_MA_releaseEntered_32 (by decide) ?_
    refine lv_istore_n (lv' := [(2, .int 1), (3, .int 0), (0, .ref (gA G 1)), (1, .ref (gA G (27 + 2 * q)))]) hx hb d_MA_releaseEntered_33 rfl hl (by decide) rfl (fun ls hl => ?_)
    refine lv_iinc (v := 1) (lv' := [(3, .int 1), (2, .int 1), (0, .ref (gA G 1)), (1, .ref (gA G (27 + 2 * q)))]) hx hb d_MA_releaseEntered_34 hl (k := 1) rfl (by decide) (by decide) rfl (fun ls hl => ?_)
    refine lv_goto (tgt := 4) hx hb d_MA_releaseEntered_37 (by decide) ?_
    refine lv_iload_n hx hb d_MA_releaseEntered_4 rfl (lv_at hl 0 rfl) ?_
    refine lv_iconst (v := 3) hx hb d_MA_releaseEntered_5 (by decide) ?_
    refine lv_icmp_ge (tgt := 40) hx hb d_MA_releaseEntered_6 (by decide) (fun h => absurd h (by decide)) (fun _ => ?_)
    refine lv_aload_n hx hb d_MA_releaseEntered_9 rfl (lv_at hl 3 rfl) ?_
    refine r_getN hx hb hC hP i_FR (27 + 2 * q) (by omega) (sh_F G _ hq) rfl 0 (by decide) k_MA_103 rfl d_MA_releaseEntered_10 ?_
    refine lv_iload_n hx hb d_MA_releaseEntered_13 rfl (lv_at hl 0 rfl) ?_
    refine r_ild hx hb hC hP (28 + 2 * q) (by omega) (sh_F1 G _ hq) 1 rfl (by decide) (by decide) d_MA_releaseEntered_14 ?_
    rw [show (su (su S 8 0 (S 8 0 - (S (28 + 2 * q) 0))) 7 1 (S 7 1 - (S (28 + 2 * q) 0))) (28 + 2 * q) 1 = S (28 + 2 * q) 1 from by rw [su_cell _ _ _ (by omega), su_cell _ _ _ (by omega)]]
    refine lv_if_le (tgt := 34) hx hb d_MA_releaseEntered_15 (by decide) (fun c_15x => ?_) (fun c_15x => ?_)
    · refine lv_iinc (v := 2) (lv' := [(3, .int 2), (2, .int 1), (0, .ref (gA G 1)), (1, .ref (gA G (27 + 2 * q)))]) hx hb d_MA_releaseEntered_34 hl (k := 0) rfl (by decide) (by decide) rfl (fun ls hl => ?_)
      refine lv_goto (tgt := 4) hx hb d_MA_releaseEntered_37 (by decide) ?_
      refine lv_iload_n hx hb d_MA_releaseEntered_4 rfl (lv_at hl 0 rfl) ?_
      refine lv_iconst (v := 3) hx hb d_MA_releaseEntered_5 (by decide) ?_
      refine lv_icmp_ge (tgt := 40) hx hb d_MA_releaseEntered_6 (by decide) (fun h => absurd h (by decide)) (fun _ => ?_)
      refine lv_aload_n hx hb d_MA_releaseEntered_9 rfl (lv_at hl 3 rfl) ?_
      refine r_getN hx hb hC hP i_FR (27 + 2 * q) (by omega) (sh_F G _ hq) rfl 0 (by decide) k_MA_103 rfl d_MA_releaseEntered_10 ?_
      refine lv_iload_n hx hb d_MA_releaseEntered_13 rfl (lv_at hl 0 rfl) ?_
      refine r_ild hx hb hC hP (28 + 2 * q) (by omega) (sh_F1 G _ hq) 2 rfl (by decide) (by decide) d_MA_releaseEntered_14 ?_
      rw [show (su (su S 8 0 (S 8 0 - (S (28 + 2 * q) 0))) 7 1 (S 7 1 - (S (28 + 2 * q) 0))) (28 + 2 * q) 2 = S (28 + 2 * q) 2 from by rw [su_cell _ _ _ (by omega), su_cell _ _ _ (by omega)]]
      refine lv_if_le (tgt := 34) hx hb d_MA_releaseEntered_15 (by decide) (fun c_15xx => ?_) (fun c_15xx => ?_)
      · refine lv_iinc (v := 3) (lv' := [(3, .int 3), (2, .int 1), (0, .ref (gA G 1)), (1, .ref (gA G (27 + 2 * q)))]) hx hb d_MA_releaseEntered_34 hl (k := 0) rfl (by decide) (by decide) rfl (fun ls hl => ?_)
        refine lv_goto (tgt := 4) hx hb d_MA_releaseEntered_37 (by decide) ?_
        refine lv_iload_n hx hb d_MA_releaseEntered_4 rfl (lv_at hl 0 rfl) ?_
        refine lv_iconst (v := 3) hx hb d_MA_releaseEntered_5 (by decide) ?_
        refine lv_icmp_ge (tgt := 40) hx hb d_MA_releaseEntered_6 (by decide) (fun _ => ?_) (fun h => absurd h (by decide))
        refine lv_iload_n hx hb d_MA_releaseEntered_40 rfl (lv_at hl 1 rfl) ?_
        exact e_z hx hb hr hlk hC hP hS d_MA_releaseEntered_41 (by decide) ⟨by rw [owes, decide_eq_true (Int32.not_le.mp c_15), decide_eq_false (Int32.not_lt.mpr c_15x), decide_eq_false (Int32.not_lt.mpr c_15xx)]; rfl, by rw [relE, relF, relF, relF, if_pos (Int32.not_le.mp c_15), if_neg (Int32.not_lt.mpr c_15x), if_neg (Int32.not_lt.mpr c_15xx)] <;> rfl⟩
      · refine lv_aload_n hx hb d_MA_releaseEntered_18 rfl (lv_at hl 2 rfl) ?_
        refine r_get hx hb hC hP i_MA (1) (by decide) rfl rfl 3 (by decide) l_MA_33 rfl d_MA_releaseEntered_19 ?_
        refine lv_iload_n hx hb d_MA_releaseEntered_22 rfl (lv_at hl 0 rfl) ?_
        refine lv_aload_n hx hb d_MA_releaseEntered_23 rfl (lv_at hl 3 rfl) ?_
        refine r_getN hx hb hC hP i_FR (27 + 2 * q) (by omega) (sh_F G _ hq) rfl 0 (by decide) k_MA_103 rfl d_MA_releaseEntered_24 ?_
        refine lv_iload_n hx hb d_MA_releaseEntered_27 rfl (lv_at hl 0 rfl) ?_
        refine r_ild hx hb hC hP (28 + 2 * q) (by omega) (sh_F1 G _ hq) 2 rfl (by decide) (by decide) d_MA_releaseEntered_28 ?_
        rw [show (su (su S 8 0 (S 8 0 - (S (28 + 2 * q) 0))) 7 1 (S 7 1 - (S (28 + 2 * q) 0))) (28 + 2 * q) 2 = S (28 + 2 * q) 2 from by rw [su_cell _ _ _ (by omega), su_cell _ _ _ (by omega)]]
        refine r_v hC hS (r_runV (np := 2) (As := [.int 2, .int (S (28 + 2 * q) 2)]) (rest := []) hx hb hml hC hP hS (by decide) rfl rfl (m_LO_release l G (su (su S 8 0 (S 8 0 - (S (28 + 2 * q) 0))) 7 1 (S 7 1 - (S (28 + 2 * q) 0))) 2 (by omega) (S (28 + 2 * q) 2)) l_MA_107 im_LO_release se_LO_release in_LO c_LO_release_in (by decide +kernel) ⟨by simp only [rmF]; omega, by simp only [rmF]; omega⟩ rfl hl.1 (Nat.le_of_ble_eq_true rfl) d_MA_releaseEntered_29 ⟨Nat.le_refl _, Nat.le_refl _⟩) (fun S_29 H locs hw hP hS => ?_)
        rw [hw] at hP
        unfold lRel at hP
        refine lv_iconst (v := 1) hx hb d_MA_releaseEntered_32 (by decide) ?_
        refine lv_istore_n (lv' := [(2, .int 1), (3, .int 2), (0, .ref (gA G 1)), (1, .ref (gA G (27 + 2 * q)))]) hx hb d_MA_releaseEntered_33 rfl hl (by decide) rfl (fun ls hl => ?_)
        refine lv_iinc (v := 3) (lv' := [(3, .int 3), (2, .int 1), (0, .ref (gA G 1)), (1, .ref (gA G (27 + 2 * q)))]) hx hb d_MA_releaseEntered_34 hl (k := 1) rfl (by decide) (by decide) rfl (fun ls hl => ?_)
        refine lv_goto (tgt := 4) hx hb d_MA_releaseEntered_37 (by decide) ?_
        refine lv_iload_n hx hb d_MA_releaseEntered_4 rfl (lv_at hl 0 rfl) ?_
        refine lv_iconst (v := 3) hx hb d_MA_releaseEntered_5 (by decide) ?_
        refine lv_icmp_ge (tgt := 40) hx hb d_MA_releaseEntered_6 (by decide) (fun _ => ?_) (fun h => absurd h (by decide))
        refine lv_iload_n hx hb d_MA_releaseEntered_40 rfl (lv_at hl 1 rfl) ?_
        exact e_z hx hb hr hlk hC hP hS d_MA_releaseEntered_41 (by decide) ⟨by rw [owes, decide_eq_true (Int32.not_le.mp c_15), decide_eq_false (Int32.not_lt.mpr c_15x), decide_eq_true (Int32.not_le.mp c_15xx)]; rfl, by rw [relE, relF, relF, relF, if_pos (Int32.not_le.mp c_15), if_neg (Int32.not_lt.mpr c_15x), if_pos (Int32.not_le.mp c_15xx)] <;> rfl⟩
    · refine lv_aload_n hx hb d_MA_releaseEntered_18 rfl (lv_at hl 2 rfl) ?_
      refine r_get hx hb hC hP i_MA (1) (by decide) rfl rfl 3 (by decide) l_MA_33 rfl d_MA_releaseEntered_19 ?_
      refine lv_iload_n hx hb d_MA_releaseEntered_22 rfl (lv_at hl 0 rfl) ?_
      refine lv_aload_n hx hb d_MA_releaseEntered_23 rfl (lv_at hl 3 rfl) ?_
      refine r_getN hx hb hC hP i_FR (27 + 2 * q) (by omega) (sh_F G _ hq) rfl 0 (by decide) k_MA_103 rfl d_MA_releaseEntered_24 ?_
      refine lv_iload_n hx hb d_MA_releaseEntered_27 rfl (lv_at hl 0 rfl) ?_
      refine r_ild hx hb hC hP (28 + 2 * q) (by omega) (sh_F1 G _ hq) 1 rfl (by decide) (by decide) d_MA_releaseEntered_28 ?_
      rw [show (su (su S 8 0 (S 8 0 - (S (28 + 2 * q) 0))) 7 1 (S 7 1 - (S (28 + 2 * q) 0))) (28 + 2 * q) 1 = S (28 + 2 * q) 1 from by rw [su_cell _ _ _ (by omega), su_cell _ _ _ (by omega)]]
      refine r_v hC hS (r_runV (np := 2) (As := [.int 1, .int (S (28 + 2 * q) 1)]) (rest := []) hx hb hml hC hP hS (by decide) rfl rfl (m_LO_release l G (su (su S 8 0 (S 8 0 - (S (28 + 2 * q) 0))) 7 1 (S 7 1 - (S (28 + 2 * q) 0))) 1 (by omega) (S (28 + 2 * q) 1)) l_MA_107 im_LO_release se_LO_release in_LO c_LO_release_in (by decide +kernel) ⟨by simp only [rmF]; omega, by simp only [rmF]; omega⟩ rfl hl.1 (Nat.le_of_ble_eq_true rfl) d_MA_releaseEntered_29 ⟨Nat.le_refl _, Nat.le_refl _⟩) (fun S_29 H locs hw hP hS => ?_)
      rw [hw] at hP
      unfold lRel at hP
      refine lv_iconst (v := 1) hx hb d_MA_releaseEntered_32 (by decide) ?_
      refine lv_istore_n (lv' := [(2, .int 1), (3, .int 1), (0, .ref (gA G 1)), (1, .ref (gA G (27 + 2 * q)))]) hx hb d_MA_releaseEntered_33 rfl hl (by decide) rfl (fun ls hl => ?_)
      refine lv_iinc (v := 2) (lv' := [(3, .int 2), (2, .int 1), (0, .ref (gA G 1)), (1, .ref (gA G (27 + 2 * q)))]) hx hb d_MA_releaseEntered_34 hl (k := 1) rfl (by decide) (by decide) rfl (fun ls hl => ?_)
      refine lv_goto (tgt := 4) hx hb d_MA_releaseEntered_37 (by decide) ?_
      refine lv_iload_n hx hb d_MA_releaseEntered_4 rfl (lv_at hl 0 rfl) ?_
      refine lv_iconst (v := 3) hx hb d_MA_releaseEntered_5 (by decide) ?_
      refine lv_icmp_ge (tgt := 40) hx hb d_MA_releaseEntered_6 (by decide) (fun h => absurd h (by decide)) (fun _ => ?_)
      refine lv_aload_n hx hb d_MA_releaseEntered_9 rfl (lv_at hl 3 rfl) ?_
      refine r_getN hx hb hC hP i_FR (27 + 2 * q) (by omega) (sh_F G _ hq) rfl 0 (by decide) k_MA_103 rfl d_MA_releaseEntered_10 ?_
      refine lv_iload_n hx hb d_MA_releaseEntered_13 rfl (lv_at hl 0 rfl) ?_
      refine r_ild hx hb hC hP (28 + 2 * q) (by omega) (sh_F1 G _ hq) 2 rfl (by decide) (by decide) d_MA_releaseEntered_14 ?_
      rw [show (su (su (su (su S 8 0 (S 8 0 - (S (28 + 2 * q) 0))) 7 1 (S 7 1 - (S (28 + 2 * q) 0))) 8 1 ((su (su S 8 0 (S 8 0 - (S (28 + 2 * q) 0))) 7 1 (S 7 1 - (S (28 + 2 * q) 0))) 8 1 - (S (28 + 2 * q) 1))) 7 1 ((su (su S 8 0 (S 8 0 - (S (28 + 2 * q) 0))) 7 1 (S 7 1 - (S (28 + 2 * q) 0))) 7 1 - (S (28 + 2 * q) 1))) (28 + 2 * q) 2 = S (28 + 2 * q) 2 from by rw [su_cell _ _ _ (by omega), su_cell _ _ _ (by omega), su_cell _ _ _ (by omega), su_cell _ _ _ (by omega)]]
      refine lv_if_le (tgt := 34) hx hb d_MA_releaseEntered_15 (by decide) (fun c_15xx => ?_) (fun c_15xx => ?_)
      · refine lv_iinc (v := 3) (lv' := [(3, .int 3), (2, .int 1), (0, .ref (gA G 1)), (1, .ref (gA G (27 + 2 * q)))]) hx hb d_MA_releaseEntered_34 hl (k := 0) rfl (by decide) (by decide) rfl (fun ls hl => ?_)
        refine lv_goto (tgt := 4) hx hb d_MA_releaseEntered_37 (by decide) ?_
        refine lv_iload_n hx hb d_MA_releaseEntered_4 rfl (lv_at hl 0 rfl) ?_
        refine lv_iconst (v := 3) hx hb d_MA_releaseEntered_5 (by decide) ?_
        refine lv_icmp_ge (tgt := 40) hx hb d_MA_releaseEntered_6 (by decide) (fun _ => ?_) (fun h => absurd h (by decide))
        refine lv_iload_n hx hb d_MA_releaseEntered_40 rfl (lv_at hl 1 rfl) ?_
        exact e_z hx hb hr hlk hC hP hS d_MA_releaseEntered_41 (by decide) ⟨by rw [owes, decide_eq_true (Int32.not_le.mp c_15), decide_eq_true (Int32.not_le.mp c_15x), decide_eq_false (Int32.not_lt.mpr c_15xx)]; rfl, by rw [relE, relF, relF, relF, if_pos (Int32.not_le.mp c_15), if_pos (Int32.not_le.mp c_15x), if_neg (Int32.not_lt.mpr c_15xx)] <;> rfl⟩
      · refine lv_aload_n hx hb d_MA_releaseEntered_18 rfl (lv_at hl 2 rfl) ?_
        refine r_get hx hb hC hP i_MA (1) (by decide) rfl rfl 3 (by decide) l_MA_33 rfl d_MA_releaseEntered_19 ?_
        refine lv_iload_n hx hb d_MA_releaseEntered_22 rfl (lv_at hl 0 rfl) ?_
        refine lv_aload_n hx hb d_MA_releaseEntered_23 rfl (lv_at hl 3 rfl) ?_
        refine r_getN hx hb hC hP i_FR (27 + 2 * q) (by omega) (sh_F G _ hq) rfl 0 (by decide) k_MA_103 rfl d_MA_releaseEntered_24 ?_
        refine lv_iload_n hx hb d_MA_releaseEntered_27 rfl (lv_at hl 0 rfl) ?_
        refine r_ild hx hb hC hP (28 + 2 * q) (by omega) (sh_F1 G _ hq) 2 rfl (by decide) (by decide) d_MA_releaseEntered_28 ?_
        rw [show (su (su (su (su S 8 0 (S 8 0 - (S (28 + 2 * q) 0))) 7 1 (S 7 1 - (S (28 + 2 * q) 0))) 8 1 ((su (su S 8 0 (S 8 0 - (S (28 + 2 * q) 0))) 7 1 (S 7 1 - (S (28 + 2 * q) 0))) 8 1 - (S (28 + 2 * q) 1))) 7 1 ((su (su S 8 0 (S 8 0 - (S (28 + 2 * q) 0))) 7 1 (S 7 1 - (S (28 + 2 * q) 0))) 7 1 - (S (28 + 2 * q) 1))) (28 + 2 * q) 2 = S (28 + 2 * q) 2 from by rw [su_cell _ _ _ (by omega), su_cell _ _ _ (by omega), su_cell _ _ _ (by omega), su_cell _ _ _ (by omega)]]
        refine r_v hC hS (r_runV (np := 2) (As := [.int 2, .int (S (28 + 2 * q) 2)]) (rest := []) hx hb hml hC hP hS (by decide) rfl rfl (m_LO_release l G (su (su (su (su S 8 0 (S 8 0 - (S (28 + 2 * q) 0))) 7 1 (S 7 1 - (S (28 + 2 * q) 0))) 8 1 ((su (su S 8 0 (S 8 0 - (S (28 + 2 * q) 0))) 7 1 (S 7 1 - (S (28 + 2 * q) 0))) 8 1 - (S (28 + 2 * q) 1))) 7 1 ((su (su S 8 0 (S 8 0 - (S (28 + 2 * q) 0))) 7 1 (S 7 1 - (S (28 + 2 * q) 0))) 7 1 - (S (28 + 2 * q) 1))) 2 (by omega) (S (28 + 2 * q) 2)) l_MA_107 im_LO_release se_LO_release in_LO c_LO_release_in (by decide +kernel) ⟨by simp only [rmF]; omega, by simp only [rmF]; omega⟩ rfl hl.1 (Nat.le_of_ble_eq_true rfl) d_MA_releaseEntered_29 ⟨Nat.le_refl _, Nat.le_refl _⟩) (fun S_29 H locs hw hP hS => ?_)
        rw [hw] at hP
        unfold lRel at hP
        refine lv_iconst (v := 1) hx hb d_MA_releaseEntered_32 (by decide) ?_
        refine lv_istore_n (lv' := [(2, .int 1), (3, .int 2), (0, .ref (gA G 1)), (1, .ref (gA G (27 + 2 * q)))]) hx hb d_MA_releaseEntered_33 rfl hl (by decide) rfl (fun ls hl => ?_)
        refine lv_iinc (v := 3) (lv' := [(3, .int 3), (2, .int 1), (0, .ref (gA G 1)), (1, .ref (gA G (27 + 2 * q)))]) hx hb d_MA_releaseEntered_34 hl (k := 1) rfl (by decide) (by decide) rfl (fun ls hl => ?_)
        refine lv_goto (tgt := 4) hx hb d_MA_releaseEntered_37 (by decide) ?_
        refine lv_iload_n hx hb d_MA_releaseEntered_4 rfl (lv_at hl 0 rfl) ?_
        refine lv_iconst (v := 3) hx hb d_MA_releaseEntered_5 (by decide) ?_
        refine lv_icmp_ge (tgt := 40) hx hb d_MA_releaseEntered_6 (by decide) (fun _ => ?_) (fun h => absurd h (by decide))
        refine lv_iload_n hx hb d_MA_releaseEntered_40 rfl (lv_at hl 1 rfl) ?_
        exact e_z hx hb hr hlk hC hP hS d_MA_releaseEntered_41 (by decide) ⟨by rw [owes, decide_eq_true (Int32.not_le.mp c_15), decide_eq_true (Int32.not_le.mp c_15x), decide_eq_true (Int32.not_le.mp c_15xx)]; rfl, by rw [relE, relF, relF, relF, if_pos (Int32.not_le.mp c_15), if_pos (Int32.not_le.mp c_15x), if_pos (Int32.not_le.mp c_15xx)] <;> rfl⟩

set_option maxHeartbeats 4000000 in
set_option maxRecDepth 100000 in
theorem m_MA_catches (l : Launch) (G : WG) (S : SS) (n q p j : Nat) (hn : n ≤ 301) (hq : q < 6) (hp : p < 4) (hj : j < 32) (hs : S 4 2 = nI n) (hpr : S (27 + 2 * q) 1 = nI p) : Ci l y_MA_catches b_MA_catches 3 (some (.boolean)) 2 G [.ref (gA G 1), .int (nI q), .int (nI j)] S (fun r S1 => r = b2i (isK (fKind S (S (27 + 2 * q) 3) n) (S (13 + 4 * p) j)) ∧ S1 = S) := by
  refine mk l (by decide +kernel) (Nat.le_of_ble_eq_true rfl) ?_
  intro pp_ ee_ ss_ mm_ be_ me_ co_ ls hx hb hr hlk hml hC hP hS hl
  have hl : lv_has ls 3 [(0, .ref (gA G 1)), (1, .int (nI q)), (2, .int (nI j))] := hl
  refine lv_aload_n hx hb d_MA_catches_0 rfl (lv_at hl 0 rfl) ?_
  refine r_get hx hb hC hP i_MA (1) (by decide) rfl rfl 2 (by decide) l_MA_26 rfl d_MA_catches_1 ?_
  refine lv_aload_n hx hb d_MA_catches_4 rfl (lv_at hl 0 rfl) ?_
  refine r_get hx hb hC hP i_MA (1) (by decide) rfl rfl 1 (by decide) l_MA_19 rfl d_MA_catches_5 ?_
  refine lv_iload_n hx hb d_MA_catches_8 rfl (lv_at hl 1 rfl) ?_
  refine r_frame hx hb hC hP q rfl (by omega) d_MA_catches_9 ?_
  refine r_getN hx hb hC hP i_FR (27 + 2 * q) (by omega) (sh_F G _ hq) rfl 3 (by decide) k_MA_76 rfl d_MA_catches_10 ?_
  refine r_i hC hS (r_runV (np := 1) (As := [.int (S (27 + 2 * q) 3)]) (rest := []) hx hb hml hC hP hS (by decide) rfl rfl (m_FA_kindOf l G S n (by omega) hs (S (27 + 2 * q) 3)) l_MA_197 im_FA_kindOf se_FA_kindOf in_FA c_FA_kindOf_in (by decide +kernel) ⟨by simp only [rmF]; omega, by simp only [rmF]; omega⟩ rfl hl.1 (Nat.le_of_ble_eq_true rfl) d_MA_catches_13 ⟨Nat.le_refl _, Nat.le_refl _⟩) (fun r_13 S_13 H locs hw hP hS => ?_)
  obtain ⟨rfl, hSe⟩ := hw
  rw [hSe] at hP
  refine lv_aload_n hx hb d_MA_catches_16 rfl (lv_at hl 0 rfl) ?_
  refine lv_iload_n hx hb d_MA_catches_17 rfl (lv_at hl 1 rfl) ?_
  refine r_r (post := fun i S1 => i = 11 + 4 * p ∧ S1 = S) hC hS (r_runV (np := 1) (As := [.int (nI q)]) (rest := [.int (fKind S (S (27 + 2 * q) 3) n)]) hx hb hml hC hP hS (by decide) rfl rfl (m_MA_textOf l G S q p (by omega) hp hpr) l_MA_113 im_MA_textOf se_MA_textOf in_MA c_MA_textOf_in (by decide +kernel) ⟨by simp only [rmF]; omega, by simp only [rmF]; omega⟩ rfl hl.1 (Nat.le_of_ble_eq_true rfl) d_MA_catches_18 ⟨Nat.le_refl _, Nat.le_refl _⟩) (fun i_18 S_18 H locs hw hP hS => ?_)
  obtain ⟨rfl, hSe⟩ := hw
  rw [hSe] at hP
  refine r_getN hx hb hC hP i_TE (11 + 4 * p) (by omega) (sh_T G _ hp) rfl 1 (by decide) k_MA_130 rfl d_MA_catches_21 ?_
  refine lv_iload_n hx hb d_MA_catches_24 rfl (lv_at hl 2 rfl) ?_
  refine r_ild hx hb hC hP (13 + 4 * p) (by omega) (sh_T2 G _ hp) j rfl (by omega) (by decide) d_MA_catches_25 ?_
  refine r_i hC hS (r_runSN (np := 2) (As := [.int (fKind S (S (27 + 2 * q) 3) n), .int (S (13 + 4 * p) j)]) (rest := []) hx hb hml hC hP hS (m_LB_isOfKind l G S (fKind S (S (27 + 2 * q) 3) n) (S (13 + 4 * p) j)) k_MA_200 st_LB_isOfKind in_LB c_LB_isOfKind_in (by decide +kernel) ⟨by simp only [rmF]; omega, by simp only [rmF]; omega⟩ rfl hl.1 (Nat.le_of_ble_eq_true rfl) d_MA_catches_26 ⟨Nat.le_refl _, Nat.le_refl _⟩) (fun r_26 S_26 H locs hw hP hS => ?_)
  obtain ⟨rfl, hSe⟩ := hw
  rw [hSe] at hP
  exact e_z hx hb hr hlk hC hP hS d_MA_catches_29 (b2i_nar _) ⟨rfl, rfl⟩

def isTokC (o a : Int32) : Bool := if o.toInt = 3 then isB a 6 else if o.toInt = 7 ∨ o.toInt = 8 ∨ o.toInt = 16 then isB a 7 else if o.toInt = 9 then isB (a &&& (-5)) 3 else if o.toInt = 10 ∨ o.toInt = 11 ∨ o.toInt = 12 ∨ o.toInt = 15 then isB a 3 else if o.toInt = 13 then isB a 4 else isB o 19
set_option maxHeartbeats 4000000 in
set_option maxRecDepth 100000 in
theorem m_LB_isToken (l : Launch) (G : WG) (S : SS) (o a : Int32) : Ci l y_LB_isToken b_LB_isToken 2 (some (.boolean)) 1 G [.int o, .int a] S (fun r S1 => r = b2i (isTokC o a) ∧ S1 = S) := by
  refine mk l (by decide +kernel) (Nat.le_of_ble_eq_true rfl) ?_
  intro pp_ ee_ ss_ mm_ be_ me_ co_ ls hx hb hr hlk hml hC hP hS hl
  have hl : lv_has ls 2 [(0, .int o), (1, .int a)] := hl
  refine lv_iload_n hx hb d_LB_isToken_0 rfl (lv_at hl 0 rfl) ?_
  by_cases hlo_1 : (o).toInt < 3 ∨ 16 < (o).toInt
  · refine lv_tableOut (tgt := 107) hx hb d_LB_isToken_1 hlo_1 (by decide) ?_
    refine lv_iload_n hx hb d_LB_isToken_107 rfl (lv_at hl 0 rfl) ?_
    refine lv_bipush (v := 19) hx hb d_LB_isToken_108 (by decide) ?_
    refine r_i hC hS (r_runS (np := 2) (As := [.int o, .int 19]) (rest := []) hx hb hml hC hP hS (m_LB_isBelow l G S o 19) l_LB_27 st_LB_isBelow in_LB c_LB_isBelow_in (by decide +kernel) ⟨by simp only [rmF]; omega, by simp only [rmF]; omega⟩ rfl hl.1 (Nat.le_of_ble_eq_true rfl) d_LB_isToken_110 ⟨Nat.le_refl _, Nat.le_refl _⟩) (fun r_110 S_110 H locs hw hP hS => ?_)
    obtain ⟨rfl, hSe⟩ := hw
    rw [hSe] at hP
    exact e_z hx hb hr hlk hC hP hS d_LB_isToken_113 (b2i_nar _) ⟨by first | (simp only [isTokC, hk_1]; rfl) | (rw [isTokC, if_neg (by omega), if_neg (by omega), if_neg (by omega), if_neg (by omega), if_neg (by omega)]), rfl⟩
  · obtain ⟨h1_1, h2_1⟩ := not_or.mp hlo_1
    rcases (show (o).toInt = 3 ∨ (o).toInt = 4 ∨ (o).toInt = 5 ∨ (o).toInt = 6 ∨ (o).toInt = 7 ∨ (o).toInt = 8 ∨ (o).toInt = 9 ∨ (o).toInt = 10 ∨ (o).toInt = 11 ∨ (o).toInt = 12 ∨ (o).toInt = 13 ∨ (o).toInt = 14 ∨ (o).toInt = 15 ∨ (o).toInt = 16 by omega) with hk_1 | hk_1 | hk_1 | hk_1 | hk_1 | hk_1 | hk_1 | hk_1 | hk_1 | hk_1 | hk_1 | hk_1 | hk_1 | hk_1
    · refine lv_tableIn (off := 71) (tgt := 72) hx hb d_LB_isToken_1 h1_1 h2_1 (by rw [hk_1]; rfl) (by decide) ?_
      refine lv_iload_n hx hb d_LB_isToken_72 rfl (lv_at hl 1 rfl) ?_
      refine lv_bipush (v := 6) hx hb d_LB_isToken_73 (by decide) ?_
      refine r_i hC hS (r_runS (np := 2) (As := [.int a, .int 6]) (rest := []) hx hb hml hC hP hS (m_LB_isBelow l G S a 6) l_LB_27 st_LB_isBelow in_LB c_LB_isBelow_in (by decide +kernel) ⟨by simp only [rmF]; omega, by simp only [rmF]; omega⟩ rfl hl.1 (Nat.le_of_ble_eq_true rfl) d_LB_isToken_75 ⟨Nat.le_refl _, Nat.le_refl _⟩) (fun r_75 S_75 H locs hw hP hS => ?_)
      obtain ⟨rfl, hSe⟩ := hw
      rw [hSe] at hP
      exact e_z hx hb hr hlk hC hP hS d_LB_isToken_78 (b2i_nar _) ⟨by first | (simp only [isTokC, hk_1]; rfl) | (rw [isTokC, if_neg (by omega), if_neg (by omega), if_neg (by omega), if_neg (by omega), if_neg (by omega)]), rfl⟩
    · refine lv_tableIn (off := 106) (tgt := 107) hx hb d_LB_isToken_1 h1_1 h2_1 (by rw [hk_1]; rfl) (by decide) ?_
      refine lv_iload_n hx hb d_LB_isToken_107 rfl (lv_at hl 0 rfl) ?_
      refine lv_bipush (v := 19) hx hb d_LB_isToken_108 (by decide) ?_
      refine r_i hC hS (r_runS (np := 2) (As := [.int o, .int 19]) (rest := []) hx hb hml hC hP hS (m_LB_isBelow l G S o 19) l_LB_27 st_LB_isBelow in_LB c_LB_isBelow_in (by decide +kernel) ⟨by simp only [rmF]; omega, by simp only [rmF]; omega⟩ rfl hl.1 (Nat.le_of_ble_eq_true rfl) d_LB_isToken_110 ⟨Nat.le_refl _, Nat.le_refl _⟩) (fun r_110 S_110 H locs hw hP hS => ?_)
      obtain ⟨rfl, hSe⟩ := hw
      rw [hSe] at hP
      exact e_z hx hb hr hlk hC hP hS d_LB_isToken_113 (b2i_nar _) ⟨by first | (simp only [isTokC, hk_1]; rfl) | (rw [isTokC, if_neg (by omega), if_neg (by omega), if_neg (by omega), if_neg (by omega), if_neg (by omega)]), rfl⟩
    · refine lv_tableIn (off := 106) (tgt := 107) hx hb d_LB_isToken_1 h1_1 h2_1 (by rw [hk_1]; rfl) (by decide) ?_
      refine lv_iload_n hx hb d_LB_isToken_107 rfl (lv_at hl 0 rfl) ?_
      refine lv_bipush (v := 19) hx hb d_LB_isToken_108 (by decide) ?_
      refine r_i hC hS (r_runS (np := 2) (As := [.int o, .int 19]) (rest := []) hx hb hml hC hP hS (m_LB_isBelow l G S o 19) l_LB_27 st_LB_isBelow in_LB c_LB_isBelow_in (by decide +kernel) ⟨by simp only [rmF]; omega, by simp only [rmF]; omega⟩ rfl hl.1 (Nat.le_of_ble_eq_true rfl) d_LB_isToken_110 ⟨Nat.le_refl _, Nat.le_refl _⟩) (fun r_110 S_110 H locs hw hP hS => ?_)
      obtain ⟨rfl, hSe⟩ := hw
      rw [hSe] at hP
      exact e_z hx hb hr hlk hC hP hS d_LB_isToken_113 (b2i_nar _) ⟨by first | (simp only [isTokC, hk_1]; rfl) | (rw [isTokC, if_neg (by omega), if_neg (by omega), if_neg (by omega), if_neg (by omega), if_neg (by omega)]), rfl⟩
    · refine lv_tableIn (off := 106) (tgt := 107) hx hb d_LB_isToken_1 h1_1 h2_1 (by rw [hk_1]; rfl) (by decide) ?_
      refine lv_iload_n hx hb d_LB_isToken_107 rfl (lv_at hl 0 rfl) ?_
      refine lv_bipush (v := 19) hx hb d_LB_isToken_108 (by decide) ?_
      refine r_i hC hS (r_runS (np := 2) (As := [.int o, .int 19]) (rest := []) hx hb hml hC hP hS (m_LB_isBelow l G S o 19) l_LB_27 st_LB_isBelow in_LB c_LB_isBelow_in (by decide +kernel) ⟨by simp only [rmF]; omega, by simp only [rmF]; omega⟩ rfl hl.1 (Nat.le_of_ble_eq_true rfl) d_LB_isToken_110 ⟨Nat.le_refl _, Nat.le_refl _⟩) (fun r_110 S_110 H locs hw hP hS => ?_)
      obtain ⟨rfl, hSe⟩ := hw
      rw [hSe] at hP
      exact e_z hx hb hr hlk hC hP hS d_LB_isToken_113 (b2i_nar _) ⟨by first | (simp only [isTokC, hk_1]; rfl) | (rw [isTokC, if_neg (by omega), if_neg (by omega), if_neg (by omega), if_neg (by omega), if_neg (by omega)]), rfl⟩
    · refine lv_tableIn (off := 78) (tgt := 79) hx hb d_LB_isToken_1 h1_1 h2_1 (by rw [hk_1]; rfl) (by decide) ?_
      refine lv_iload_n hx hb d_LB_isToken_79 rfl (lv_at hl 1 rfl) ?_
      refine lv_bipush (v := 7) hx hb d_LB_isToken_80 (by decide) ?_
      refine r_i hC hS (r_runS (np := 2) (As := [.int a, .int 7]) (rest := []) hx hb hml hC hP hS (m_LB_isBelow l G S a 7) l_LB_27 st_LB_isBelow in_LB c_LB_isBelow_in (by decide +kernel) ⟨by simp only [rmF]; omega, by simp only [rmF]; omega⟩ rfl hl.1 (Nat.le_of_ble_eq_true rfl) d_LB_isToken_82 ⟨Nat.le_refl _, Nat.le_refl _⟩) (fun r_82 S_82 H locs hw hP hS => ?_)
      obtain ⟨rfl, hSe⟩ := hw
      rw [hSe] at hP
      exact e_z hx hb hr hlk hC hP hS d_LB_isToken_85 (b2i_nar _) ⟨by first | (simp only [isTokC, hk_1]; rfl) | (rw [isTokC, if_neg (by omega), if_neg (by omega), if_neg (by omega), if_neg (by omega), if_neg (by omega)]), rfl⟩
    · refine lv_tableIn (off := 78) (tgt := 79) hx hb d_LB_isToken_1 h1_1 h2_1 (by rw [hk_1]; rfl) (by decide) ?_
      refine lv_iload_n hx hb d_LB_isToken_79 rfl (lv_at hl 1 rfl) ?_
      refine lv_bipush (v := 7) hx hb d_LB_isToken_80 (by decide) ?_
      refine r_i hC hS (r_runS (np := 2) (As := [.int a, .int 7]) (rest := []) hx hb hml hC hP hS (m_LB_isBelow l G S a 7) l_LB_27 st_LB_isBelow in_LB c_LB_isBelow_in (by decide +kernel) ⟨by simp only [rmF]; omega, by simp only [rmF]; omega⟩ rfl hl.1 (Nat.le_of_ble_eq_true rfl) d_LB_isToken_82 ⟨Nat.le_refl _, Nat.le_refl _⟩) (fun r_82 S_82 H locs hw hP hS => ?_)
      obtain ⟨rfl, hSe⟩ := hw
      rw [hSe] at hP
      exact e_z hx hb hr hlk hC hP hS d_LB_isToken_85 (b2i_nar _) ⟨by first | (simp only [isTokC, hk_1]; rfl) | (rw [isTokC, if_neg (by omega), if_neg (by omega), if_neg (by omega), if_neg (by omega), if_neg (by omega)]), rfl⟩
    · refine lv_tableIn (off := 85) (tgt := 86) hx hb d_LB_isToken_1 h1_1 h2_1 (by rw [hk_1]; rfl) (by decide) ?_
      refine lv_iload_n hx hb d_LB_isToken_86 rfl (lv_at hl 1 rfl) ?_
      refine lv_bipush (v := (-5)) hx hb d_LB_isToken_87 (by decide) ?_
      refine lv_iand hx hb d_LB_isToken_89 ?_
      refine lv_iconst (v := 3) hx hb d_LB_isToken_90 (by decide) ?_
      refine r_i hC hS (r_runS (np := 2) (As := [.int (a &&& (-5)), .int 3]) (rest := []) hx hb hml hC hP hS (m_LB_isBelow l G S (a &&& (-5)) 3) l_LB_27 st_LB_isBelow in_LB c_LB_isBelow_in (by decide +kernel) ⟨by simp only [rmF]; omega, by simp only [rmF]; omega⟩ rfl hl.1 (Nat.le_of_ble_eq_true rfl) d_LB_isToken_91 ⟨Nat.le_refl _, Nat.le_refl _⟩) (fun r_91 S_91 H locs hw hP hS => ?_)
      obtain ⟨rfl, hSe⟩ := hw
      rw [hSe] at hP
      exact e_z hx hb hr hlk hC hP hS d_LB_isToken_94 (b2i_nar _) ⟨by first | (simp only [isTokC, hk_1]; rfl) | (rw [isTokC, if_neg (by omega), if_neg (by omega), if_neg (by omega), if_neg (by omega), if_neg (by omega)]), rfl⟩
    · refine lv_tableIn (off := 94) (tgt := 95) hx hb d_LB_isToken_1 h1_1 h2_1 (by rw [hk_1]; rfl) (by decide) ?_
      refine lv_iload_n hx hb d_LB_isToken_95 rfl (lv_at hl 1 rfl) ?_
      refine lv_iconst (v := 3) hx hb d_LB_isToken_96 (by decide) ?_
      refine r_i hC hS (r_runS (np := 2) (As := [.int a, .int 3]) (rest := []) hx hb hml hC hP hS (m_LB_isBelow l G S a 3) l_LB_27 st_LB_isBelow in_LB c_LB_isBelow_in (by decide +kernel) ⟨by simp only [rmF]; omega, by simp only [rmF]; omega⟩ rfl hl.1 (Nat.le_of_ble_eq_true rfl) d_LB_isToken_97 ⟨Nat.le_refl _, Nat.le_refl _⟩) (fun r_97 S_97 H locs hw hP hS => ?_)
      obtain ⟨rfl, hSe⟩ := hw
      rw [hSe] at hP
      exact e_z hx hb hr hlk hC hP hS d_LB_isToken_100 (b2i_nar _) ⟨by first | (simp only [isTokC, hk_1]; rfl) | (rw [isTokC, if_neg (by omega), if_neg (by omega), if_neg (by omega), if_neg (by omega), if_neg (by omega)]), rfl⟩
    · refine lv_tableIn (off := 94) (tgt := 95) hx hb d_LB_isToken_1 h1_1 h2_1 (by rw [hk_1]; rfl) (by decide) ?_
      refine lv_iload_n hx hb d_LB_isToken_95 rfl (lv_at hl 1 rfl) ?_
      refine lv_iconst (v := 3) hx hb d_LB_isToken_96 (by decide) ?_
      refine r_i hC hS (r_runS (np := 2) (As := [.int a, .int 3]) (rest := []) hx hb hml hC hP hS (m_LB_isBelow l G S a 3) l_LB_27 st_LB_isBelow in_LB c_LB_isBelow_in (by decide +kernel) ⟨by simp only [rmF]; omega, by simp only [rmF]; omega⟩ rfl hl.1 (Nat.le_of_ble_eq_true rfl) d_LB_isToken_97 ⟨Nat.le_refl _, Nat.le_refl _⟩) (fun r_97 S_97 H locs hw hP hS => ?_)
      obtain ⟨rfl, hSe⟩ := hw
      rw [hSe] at hP
      exact e_z hx hb hr hlk hC hP hS d_LB_isToken_100 (b2i_nar _) ⟨by first | (simp only [isTokC, hk_1]; rfl) | (rw [isTokC, if_neg (by omega), if_neg (by omega), if_neg (by omega), if_neg (by omega), if_neg (by omega)]), rfl⟩
    · refine lv_tableIn (off := 94) (tgt := 95) hx hb d_LB_isToken_1 h1_1 h2_1 (by rw [hk_1]; rfl) (by decide) ?_
      refine lv_iload_n hx hb d_LB_isToken_95 rfl (lv_at hl 1 rfl) ?_
      refine lv_iconst (v := 3) hx hb d_LB_isToken_96 (by decide) ?_
      refine r_i hC hS (r_runS (np := 2) (As := [.int a, .int 3]) (rest := []) hx hb hml hC hP hS (m_LB_isBelow l G S a 3) l_LB_27 st_LB_isBelow in_LB c_LB_isBelow_in (by decide +kernel) ⟨by simp only [rmF]; omega, by simp only [rmF]; omega⟩ rfl hl.1 (Nat.le_of_ble_eq_true rfl) d_LB_isToken_97 ⟨Nat.le_refl _, Nat.le_refl _⟩) (fun r_97 S_97 H locs hw hP hS => ?_)
      obtain ⟨rfl, hSe⟩ := hw
      rw [hSe] at hP
      exact e_z hx hb hr hlk hC hP hS d_LB_isToken_100 (b2i_nar _) ⟨by first | (simp only [isTokC, hk_1]; rfl) | (rw [isTokC, if_neg (by omega), if_neg (by omega), if_neg (by omega), if_neg (by omega), if_neg (by omega)]), rfl⟩
    · refine lv_tableIn (off := 100) (tgt := 101) hx hb d_LB_isToken_1 h1_1 h2_1 (by rw [hk_1]; rfl) (by decide) ?_
      refine lv_iload_n hx hb d_LB_isToken_101 rfl (lv_at hl 1 rfl) ?_
      refine lv_iconst (v := 4) hx hb d_LB_isToken_102 (by decide) ?_
      refine r_i hC hS (r_runS (np := 2) (As := [.int a, .int 4]) (rest := []) hx hb hml hC hP hS (m_LB_isBelow l G S a 4) l_LB_27 st_LB_isBelow in_LB c_LB_isBelow_in (by decide +kernel) ⟨by simp only [rmF]; omega, by simp only [rmF]; omega⟩ rfl hl.1 (Nat.le_of_ble_eq_true rfl) d_LB_isToken_103 ⟨Nat.le_refl _, Nat.le_refl _⟩) (fun r_103 S_103 H locs hw hP hS => ?_)
      obtain ⟨rfl, hSe⟩ := hw
      rw [hSe] at hP
      exact e_z hx hb hr hlk hC hP hS d_LB_isToken_106 (b2i_nar _) ⟨by first | (simp only [isTokC, hk_1]; rfl) | (rw [isTokC, if_neg (by omega), if_neg (by omega), if_neg (by omega), if_neg (by omega), if_neg (by omega)]), rfl⟩
    · refine lv_tableIn (off := 106) (tgt := 107) hx hb d_LB_isToken_1 h1_1 h2_1 (by rw [hk_1]; rfl) (by decide) ?_
      refine lv_iload_n hx hb d_LB_isToken_107 rfl (lv_at hl 0 rfl) ?_
      refine lv_bipush (v := 19) hx hb d_LB_isToken_108 (by decide) ?_
      refine r_i hC hS (r_runS (np := 2) (As := [.int o, .int 19]) (rest := []) hx hb hml hC hP hS (m_LB_isBelow l G S o 19) l_LB_27 st_LB_isBelow in_LB c_LB_isBelow_in (by decide +kernel) ⟨by simp only [rmF]; omega, by simp only [rmF]; omega⟩ rfl hl.1 (Nat.le_of_ble_eq_true rfl) d_LB_isToken_110 ⟨Nat.le_refl _, Nat.le_refl _⟩) (fun r_110 S_110 H locs hw hP hS => ?_)
      obtain ⟨rfl, hSe⟩ := hw
      rw [hSe] at hP
      exact e_z hx hb hr hlk hC hP hS d_LB_isToken_113 (b2i_nar _) ⟨by first | (simp only [isTokC, hk_1]; rfl) | (rw [isTokC, if_neg (by omega), if_neg (by omega), if_neg (by omega), if_neg (by omega), if_neg (by omega)]), rfl⟩
    · refine lv_tableIn (off := 94) (tgt := 95) hx hb d_LB_isToken_1 h1_1 h2_1 (by rw [hk_1]; rfl) (by decide) ?_
      refine lv_iload_n hx hb d_LB_isToken_95 rfl (lv_at hl 1 rfl) ?_
      refine lv_iconst (v := 3) hx hb d_LB_isToken_96 (by decide) ?_
      refine r_i hC hS (r_runS (np := 2) (As := [.int a, .int 3]) (rest := []) hx hb hml hC hP hS (m_LB_isBelow l G S a 3) l_LB_27 st_LB_isBelow in_LB c_LB_isBelow_in (by decide +kernel) ⟨by simp only [rmF]; omega, by simp only [rmF]; omega⟩ rfl hl.1 (Nat.le_of_ble_eq_true rfl) d_LB_isToken_97 ⟨Nat.le_refl _, Nat.le_refl _⟩) (fun r_97 S_97 H locs hw hP hS => ?_)
      obtain ⟨rfl, hSe⟩ := hw
      rw [hSe] at hP
      exact e_z hx hb hr hlk hC hP hS d_LB_isToken_100 (b2i_nar _) ⟨by first | (simp only [isTokC, hk_1]; rfl) | (rw [isTokC, if_neg (by omega), if_neg (by omega), if_neg (by omega), if_neg (by omega), if_neg (by omega)]), rfl⟩
    · refine lv_tableIn (off := 78) (tgt := 79) hx hb d_LB_isToken_1 h1_1 h2_1 (by rw [hk_1]; rfl) (by decide) ?_
      refine lv_iload_n hx hb d_LB_isToken_79 rfl (lv_at hl 1 rfl) ?_
      refine lv_bipush (v := 7) hx hb d_LB_isToken_80 (by decide) ?_
      refine r_i hC hS (r_runS (np := 2) (As := [.int a, .int 7]) (rest := []) hx hb hml hC hP hS (m_LB_isBelow l G S a 7) l_LB_27 st_LB_isBelow in_LB c_LB_isBelow_in (by decide +kernel) ⟨by simp only [rmF]; omega, by simp only [rmF]; omega⟩ rfl hl.1 (Nat.le_of_ble_eq_true rfl) d_LB_isToken_82 ⟨Nat.le_refl _, Nat.le_refl _⟩) (fun r_82 S_82 H locs hw hP hS => ?_)
      obtain ⟨rfl, hSe⟩ := hw
      rw [hSe] at hP
      exact e_z hx hb hr hlk hC hP hS d_LB_isToken_85 (b2i_nar _) ⟨by first | (simp only [isTokC, hk_1]; rfl) | (rw [isTokC, if_neg (by omega), if_neg (by omega), if_neg (by omega), if_neg (by omega), if_neg (by omega)]), rfl⟩

set_option maxHeartbeats 4000000 in
set_option maxRecDepth 100000 in
theorem m_LB_wipe (l : Launch) (G : WG) (S : SS) (p_ : Int32) : Ci l y_LB_wipe b_LB_wipe 2 (some (.int)) 1 G [.ref (gA G 0), .int p_] S (fun r S1 => (isB p_ 4 = false ∧ r = -1 ∧ S1 = S) ∨ ∃ p, p < 4 ∧ p_ = nI p ∧ r = S (11 + 4 * p) 3 ∧ S1 = su S (11 + 4 * p) 3 0) := by
  refine mk l (by decide +kernel) (Nat.le_of_ble_eq_true rfl) ?_
  intro pp_ ee_ ss_ mm_ be_ me_ co_ ls hx hb hr hlk hml hC hP hS hl
  have hl : lv_has ls 2 [(0, .ref (gA G 0)), (1, .int p_)] := hl
  refine lv_iload_n hx hb d_LB_wipe_0 rfl (lv_at hl 1 rfl) ?_
  refine lv_iconst (v := 4) hx hb d_LB_wipe_1 (by decide) ?_
  refine r_i hC hS (r_runS (np := 2) (As := [.int p_, .int 4]) (rest := []) hx hb hml hC hP hS (m_LB_isBelow l G S p_ 4) l_LB_27 st_LB_isBelow in_LB c_LB_isBelow_in (by decide +kernel) ⟨by simp only [rmF]; omega, by simp only [rmF]; omega⟩ rfl hl.1 (Nat.le_of_ble_eq_true rfl) d_LB_wipe_2 ⟨Nat.le_refl _, Nat.le_refl _⟩) (fun r_2 S_2 H locs hw hP hS => ?_)
  obtain ⟨rfl, hSe⟩ := hw
  rw [hSe] at hP
  refine lv_if_ne (tgt := 10) hx hb d_LB_wipe_5 (by decide) (fun c_5 => ?_) (fun c_5 => ?_)
  · have c_5 := b2i_t c_5
    obtain ⟨p, hp, rfl⟩ := isB_nI (b := 4) (by omega) c_5
    refine lv_aload_n hx hb d_LB_wipe_10 rfl (lv_at hl 0 rfl) ?_
    refine r_get hx hb hC hP i_LB (0) (by decide) rfl rfl 0 (by decide) l_LB_12 rfl d_LB_wipe_11 ?_
    refine r_getN hx hb hC hP i_MA (1) (by decide) rfl rfl 0 (by decide) k_LB_34 rfl d_LB_wipe_14 ?_
    refine lv_iload_n hx hb d_LB_wipe_17 rfl (lv_at hl 1 rfl) ?_
    refine r_text hx hb hC hP p rfl (by omega) d_LB_wipe_18 ?_
    refine r_i hC hS (r_runV (np := 0) (As := []) (rest := []) hx hb hml hC hP hS (by omega) (sh_T G _ hp) rfl (m_TE_clear l G S p hp) l_LB_46 im_TE_clear se_TE_clear in_TE c_TE_clear_in (by decide +kernel) ⟨by simp only [rmF]; omega, by simp only [rmF]; omega⟩ rfl hl.1 (Nat.le_of_ble_eq_true rfl) d_LB_wipe_19 ⟨Nat.le_refl _, Nat.le_refl _⟩) (fun r_19 S_19 H locs hw hP hS => ?_)
    obtain ⟨rfl, hSe⟩ := hw
    rw [hSe] at hP
    exact e_i hx hb hr hlk hC hP hS d_LB_wipe_22 (Or.inr ⟨p, hp, rfl, rfl, rfl⟩)
  · have c_5 := b2i_f c_5
    refine lv_iconst (v := (-1)) hx hb d_LB_wipe_8 (by decide) ?_
    exact e_i hx hb hr hlk hC hP hS d_LB_wipe_9 (Or.inl ⟨by assumption, rfl, rfl⟩)

def tokPost (S : SS) (nn : Nat → Nat) (p_ o a r : Int32) (S1 : SS) : Prop := ((isB p_ 4 = false ∨ isTokC o a = false) ∧ r = -1 ∧ S1 = S) ∨ ∃ p, p < 4 ∧ p_ = nI p ∧ isTokC o a = true ∧ ((¬ nn p < 32 ∧ r = -2 ∧ S1 = S) ∨ (nn p < 32 ∧ r = nI (nn p + 1) ∧ S1 = tApp S p (nn p) o a))
set_option maxHeartbeats 4000000 in
set_option maxRecDepth 100000 in
theorem m_LB_token (l : Launch) (G : WG) (S : SS) (nn : Nat → Nat) (hnn : ∀ p, p < 4 → nn p ≤ 32 ∧ S (11 + 4 * p) 3 = nI (nn p)) (p_ o a : Int32) : Ci l y_LB_token b_LB_token 5 (some (.int)) 2 G [.ref (gA G 0), .int p_, .int o, .int a] S (tokPost S nn p_ o a) := by
  refine mk l (by decide +kernel) (Nat.le_of_ble_eq_true rfl) ?_
  intro pp_ ee_ ss_ mm_ be_ me_ co_ ls hx hb hr hlk hml hC hP hS hl
  have hl : lv_has ls 5 [(0, .ref (gA G 0)), (1, .int p_), (2, .int o), (3, .int a)] := hl
  refine lv_iload_n hx hb d_LB_token_0 rfl (lv_at hl 1 rfl) ?_
  refine lv_iconst (v := 4) hx hb d_LB_token_1 (by decide) ?_
  refine r_i hC hS (r_runS (np := 2) (As := [.int p_, .int 4]) (rest := []) hx hb hml hC hP hS (m_LB_isBelow l G S p_ 4) l_LB_27 st_LB_isBelow in_LB c_LB_isBelow_in (by decide +kernel) ⟨by simp only [rmF]; omega, by simp only [rmF]; omega⟩ rfl hl.1 (Nat.le_of_ble_eq_true rfl) d_LB_token_2 ⟨Nat.le_refl _, Nat.le_refl _⟩) (fun r_2 S_2 H locs hw hP hS => ?_)
  obtain ⟨rfl, hSe⟩ := hw
  rw [hSe] at hP
  refine lv_if_eq (tgt := 16) hx hb d_LB_token_5 (by decide) (fun c_5 => ?_) (fun c_5 => ?_)
  · have c_5 := b2i_f c_5
    refine lv_iconst (v := (-1)) hx hb d_LB_token_16 (by decide) ?_
    exact e_i hx hb hr hlk hC hP hS d_LB_token_17 (Or.inl ⟨by first | exact Or.inl (by assumption) | exact Or.inr (by assumption), rfl, rfl⟩)
  · have c_5 := b2i_t c_5
    obtain ⟨p, hp, rfl⟩ := isB_nI (b := 4) (by omega) c_5
    refine lv_iload_n hx hb d_LB_token_8 rfl (lv_at hl 2 rfl) ?_
    refine lv_iload_n hx hb d_LB_token_9 rfl (lv_at hl 3 rfl) ?_
    refine r_i hC hS (r_runS (np := 2) (As := [.int o, .int a]) (rest := []) hx hb hml hC hP hS (m_LB_isToken l G S o a) l_LB_31 st_LB_isToken in_LB c_LB_isToken_in (by decide +kernel) ⟨by simp only [rmF]; omega, by simp only [rmF]; omega⟩ rfl hl.1 (Nat.le_of_ble_eq_true rfl) d_LB_token_10 ⟨Nat.le_refl _, Nat.le_refl _⟩) (fun r_10 S_10 H locs hw hP hS => ?_)
    obtain ⟨rfl, hSe⟩ := hw
    rw [hSe] at hP
    refine lv_if_ne (tgt := 18) hx hb d_LB_token_13 (by decide) (fun c_13 => ?_) (fun c_13 => ?_)
    · have c_13 := b2i_t c_13
      refine lv_aload_n hx hb d_LB_token_18 rfl (lv_at hl 0 rfl) ?_
      refine r_get hx hb hC hP i_LB (0) (by decide) rfl rfl 0 (by decide) l_LB_12 rfl d_LB_token_19 ?_
      refine r_getN hx hb hC hP i_MA (1) (by decide) rfl rfl 0 (by decide) k_LB_34 rfl d_LB_token_22 ?_
      refine lv_iload_n hx hb d_LB_token_25 rfl (lv_at hl 1 rfl) ?_
      refine r_text hx hb hC hP p rfl (by omega) d_LB_token_26 ?_
      refine lv_astore (lv' := [(4, .ref (gA G (11 + 4 * p))), (0, .ref (gA G 0)), (1, .int (nI p)), (2, .int o), (3, .int a)]) hx hb d_LB_token_27 hl (by decide) rfl (fun ls hl => ?_)
      refine lv_aload hx hb d_LB_token_29 (lv_at hl 0 rfl) ?_
      refine lv_iload_n hx hb d_LB_token_31 rfl (lv_at hl 3 rfl) ?_
      refine lv_iload_n hx hb d_LB_token_32 rfl (lv_at hl 4 rfl) ?_
      refine r_i hC hS (r_runV (np := 2) (As := [.int o, .int a]) (rest := []) hx hb hml hC hP hS (by omega) (sh_T G _ hp) rfl (m_TE_append l G S p (nn p) hp (hnn _ hp).1 (hnn _ hp).2 o a) l_LB_38 im_TE_append se_TE_append in_TE c_TE_append_in (by decide +kernel) ⟨by simp only [rmF]; omega, by simp only [rmF]; omega⟩ rfl hl.1 (Nat.le_of_ble_eq_true rfl) d_LB_token_33 ⟨Nat.le_refl _, Nat.le_refl _⟩) (fun r_33 S_33 H locs hw hP hS => ?_)
      obtain ⟨rfl, hSe⟩ := hw
      rw [hSe] at hP
      refine lv_if_eq (tgt := 47) hx hb d_LB_token_36 (by decide) (fun c_36 => ?_) (fun c_36 => ?_)
      · have c_36 := b2i_f c_36
        have c_36 := of_decide_eq_false c_36
        rw [if_neg c_36] at hP
        refine lv_bipush (v := (-2)) hx hb d_LB_token_47 (by decide) ?_
        exact e_i hx hb hr hlk hC hP hS d_LB_token_49 (Or.inr ⟨p, hp, rfl, by assumption, Or.inl ⟨by assumption, rfl, rfl⟩⟩)
      · have c_36 := b2i_t c_36
        have c_36 := of_decide_eq_true c_36
        rw [if_pos c_36] at hP
        refine lv_aload hx hb d_LB_token_39 (lv_at hl 0 rfl) ?_
        refine r_getN hx hb hC hP i_TE (11 + 4 * p) (by omega) (sh_T G _ hp) rfl 3 (by decide) k_LB_43 rfl d_LB_token_41 ?_
        refine lv_goto (tgt := 49) hx hb d_LB_token_44 (by decide) ?_
        exact e_i hx hb hr hlk hC hP hS d_LB_token_49 (Or.inr ⟨p, hp, rfl, by assumption, Or.inr ⟨by assumption, by rw [tApp, su_same], rfl⟩⟩)
    · have c_13 := b2i_f c_13
      refine lv_iconst (v := (-1)) hx hb d_LB_token_16 (by decide) ?_
      exact e_i hx hb hr hlk hC hP hS d_LB_token_17 (Or.inl ⟨by first | exact Or.inl (by assumption) | exact Or.inr (by assumption), rfl, rfl⟩)

