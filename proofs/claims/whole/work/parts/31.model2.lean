/-! reference: hold, begin, caught, call, leave, note, inside, behind, part, behindTry: written by wip/gen/p31.py -/
def moHold (S : SS) (i : Nat) : SS :=
  if su S 53 i (S 53 i + 1) 44 20 < su S 53 i (S 53 i + 1) 53 0 + su S 53 i (S 53 i + 1) 53 1 + su S 53 i (S 53 i + 1) 53 2 then su (su S 53 i (S 53 i + 1)) 44 20 (su S 53 i (S 53 i + 1) 53 0 + su S 53 i (S 53 i + 1) 53 1 + su S 53 i (S 53 i + 1) 53 2) else su S 53 i (S 53 i + 1)
set_option maxHeartbeats 4000000 in
set_option maxRecDepth 100000 in
theorem m_MO_hold (l : Launch) (G : WG) (S : SS) (i : Nat) (hi : i < 3) : Cv l y_MO_hold b_MO_hold 3 0 G [.ref (gA G 44), .int (nI i)] S (fun S1 => S1 = moHold S i) := by
  refine mk l (by decide +kernel) (Nat.le_of_ble_eq_true rfl) ?_
  intro pp_ ee_ ss_ mm_ be_ me_ co_ ls hx hb hr hlk hml hC hP hS hl
  have hl : lv_has ls 3 [(0, .ref (gA G 44)), (1, .int (nI i))] := hl
  refine lv_aload_n hx hb d_MO_hold_0 rfl (lv_at hl 0 rfl) ?_
  refine r_get hx hb hC hP i_MO (44) (by decide) rfl rfl 15 (by decide) l_MO_38 rfl d_MO_hold_1 ?_
  refine lv_iload_n hx hb d_MO_hold_4 rfl (lv_at hl 1 rfl) ?_
  refine lv_dup2_11 hx hb d_MO_hold_5 rfl rfl ?_
  refine r_ild hx hb hC hP (53) (by decide) rfl i rfl (by omega) (by decide) d_MO_hold_6 ?_
  refine lv_iconst (v := 1) hx hb d_MO_hold_7 (by decide) ?_
  refine lv_iadd hx hb d_MO_hold_8 ?_
  refine r_ist hx hb hC hP hS (53) (by decide) (fun _ => rfl) i rfl (by omega) (by decide) d_MO_hold_9 (fun H locs hP hS => ?_)
  refine lv_aload_n hx hb d_MO_hold_10 rfl (lv_at hl 0 rfl) ?_
  refine r_get hx hb hC hP i_MO (44) (by decide) rfl rfl 15 (by decide) l_MO_38 rfl d_MO_hold_11 ?_
  refine lv_iconst (v := 0) hx hb d_MO_hold_14 (by decide) ?_
  refine r_ild hx hb hC hP (53) (by decide) rfl 0 rfl (by decide) (by decide) d_MO_hold_15 ?_
  refine lv_aload_n hx hb d_MO_hold_16 rfl (lv_at hl 0 rfl) ?_
  refine r_get hx hb hC hP i_MO (44) (by decide) rfl rfl 15 (by decide) l_MO_38 rfl d_MO_hold_17 ?_
  refine lv_iconst (v := 1) hx hb d_MO_hold_20 (by decide) ?_
  refine r_ild hx hb hC hP (53) (by decide) rfl 1 rfl (by decide) (by decide) d_MO_hold_21 ?_
  refine lv_iadd hx hb d_MO_hold_22 ?_
  refine lv_aload_n hx hb d_MO_hold_23 rfl (lv_at hl 0 rfl) ?_
  refine r_get hx hb hC hP i_MO (44) (by decide) rfl rfl 15 (by decide) l_MO_38 rfl d_MO_hold_24 ?_
  refine lv_iconst (v := 2) hx hb d_MO_hold_27 (by decide) ?_
  refine r_ild hx hb hC hP (53) (by decide) rfl 2 rfl (by decide) (by decide) d_MO_hold_28 ?_
  refine lv_iadd hx hb d_MO_hold_29 ?_
  refine lv_istore_n (lv' := [(2, .int ((((su S 53 i ((S 53 i) + 1)) 53 0) + ((su S 53 i ((S 53 i) + 1)) 53 1)) + ((su S 53 i ((S 53 i) + 1)) 53 2))), (0, .ref (gA G 44)), (1, .int (nI i))]) hx hb d_MO_hold_30 rfl hl (by decide) rfl (fun ls hl => ?_)
  refine lv_iload_n hx hb d_MO_hold_31 rfl (lv_at hl 0 rfl) ?_
  refine lv_aload_n hx hb d_MO_hold_32 rfl (lv_at hl 1 rfl) ?_
  refine r_get hx hb hC hP i_MO (44) (by decide) rfl rfl 20 (by decide) l_MO_104 rfl d_MO_hold_33 ?_
  rw [show (su S 53 i ((S 53 i) + 1)) 44 20 = S 44 20 from by rw [su_cell _ _ _ (by decide)]]
  refine lv_icmp_le (tgt := 44) hx hb d_MO_hold_36 (by decide) (fun c_36 => ?_) (fun c_36 => ?_)
  · exact e_v hx hb hr hlk hC hP hS d_MO_hold_44 (by first | exact (if_neg (by first | assumption | exact Int32.not_lt.mpr (by assumption))).symm | exact (if_pos (by first | assumption | exact Int32.not_le.mp (by assumption))).symm)
  · refine lv_aload_n hx hb d_MO_hold_39 rfl (lv_at hl 1 rfl) ?_
    refine lv_iload_n hx hb d_MO_hold_40 rfl (lv_at hl 0 rfl) ?_
    refine r_put hx hb hC hP hS i_MO t_MO t_MO_ok n_MO (44) (by decide) rfl rfl 20 (by decide) l_MO_104 rfl rfl rfl (Nat.le_of_ble_eq_true rfl) d_MO_hold_41 (fun H locs hP hS => ?_)
    exact e_v hx hb hr hlk hC hP hS d_MO_hold_44 (by first | exact (if_neg (by first | assumption | exact Int32.not_lt.mpr (by assumption))).symm | exact (if_pos (by first | assumption | exact Int32.not_le.mp (by assumption))).symm)

def moBegin (S : SS) (D q : Nat) (p x : Int32) : SS := su (su (su (su (moEnter S D 20 (32 * p - 1) x) 52 (3 * q) 0) 52 (3 * q + 1) 0) 52 (3 * q + 2) 0) 44 13 (nI (q + 1))
theorem moEnter_44 (S : SS) (D : Nat) (a b c : Int32) {j : Nat} (h8 : j ≠ 8) (h9 : j ≠ 9) : moEnter S D a b c 44 j = S 44 j := by
  unfold moEnter
  rw [su_int _ _ _ h9, su_int _ _ _ h8, su_cell _ _ _ (by decide), su_cell _ _ _ (by decide), su_cell _ _ _ (by decide), su_cell _ _ _ (by decide)]
theorem nI_m3 (q j : Nat) : (3 : Int32) * nI q + nI j = nI (3 * q + j) := by
  rw [show (3 : Int32) = nI 3 from rfl, pk_mul, nI_add]
set_option maxHeartbeats 4000000 in
set_option maxRecDepth 100000 in
theorem m_MO_begin (l : Launch) (G : WG) (S : SS) (D q : Nat) (hD8 : D < 80) (hD : S 44 8 = nI D) (hq6 : q < 6) (hq : S 44 13 = nI q) (p x : Int32) : Cv l y_MO_begin b_MO_begin 4 1 G [.ref (gA G 44), .int p, .int x] S (fun S1 => S1 = moBegin S D q p x) := by
  refine mk l (by decide +kernel) (Nat.le_of_ble_eq_true rfl) ?_
  intro pp_ ee_ ss_ mm_ be_ me_ co_ ls hx hb hr hlk hml hC hP hS hl
  have hl : lv_has ls 4 [(0, .ref (gA G 44)), (1, .int p), (2, .int x)] := hl
  refine lv_aload_n hx hb d_MO_begin_0 rfl (lv_at hl 0 rfl) ?_
  refine lv_bipush (v := 20) hx hb d_MO_begin_1 (by decide) ?_
  refine lv_bipush (v := 32) hx hb d_MO_begin_3 (by decide) ?_
  refine lv_iload_n hx hb d_MO_begin_5 rfl (lv_at hl 1 rfl) ?_
  refine lv_imul hx hb d_MO_begin_6 ?_
  refine lv_iconst (v := 1) hx hb d_MO_begin_7 (by decide) ?_
  refine lv_isub hx hb d_MO_begin_8 ?_
  refine lv_iload_n hx hb d_MO_begin_9 rfl (lv_at hl 2 rfl) ?_
  refine r_v hC hS (r_runV (np := 3) (As := [.int 20, .int ((32 * p) - 1), .int x]) (rest := []) hx hb hml hC hP hS (by decide) rfl rfl (m_MO_enter l G S D (by omega) hD 20 ((32 * p) - 1) x) l_MO_107 im_MO_enter se_MO_enter in_MO c_MO_enter_in (by decide +kernel) ⟨by simp only [rmF]; omega, by simp only [rmF]; omega⟩ rfl hl.1 (Nat.le_of_ble_eq_true rfl) d_MO_begin_10 ⟨Nat.le_refl _, Nat.le_refl _⟩) (fun S_10 H locs hw hP hS => ?_)
  rw [hw] at hP
  refine lv_iconst (v := 0) hx hb d_MO_begin_13 (by decide) ?_
  refine lv_istore_n (lv' := [(3, .int 0), (0, .ref (gA G 44)), (1, .int p), (2, .int x)]) hx hb d_MO_begin_14 rfl hl (by decide) rfl (fun ls hl => ?_)
  refine lv_iload_n hx hb d_MO_begin_15 rfl (lv_at hl 0 rfl) ?_
  refine lv_iconst (v := 3) hx hb d_MO_begin_16 (by decide) ?_
  refine lv_icmp_ge (tgt := 40) hx hb d_MO_begin_17 (by decide) (fun h => absurd h (by decide)) (fun _ => ?_)
  refine lv_aload_n hx hb d_MO_begin_20 rfl (lv_at hl 1 rfl) ?_
  refine r_get hx hb hC hP i_MO (44) (by decide) rfl rfl 14 (by decide) l_MO_35 rfl d_MO_begin_21 ?_
  refine lv_iconst (v := 3) hx hb d_MO_begin_24 (by decide) ?_
  refine lv_aload_n hx hb d_MO_begin_25 rfl (lv_at hl 1 rfl) ?_
  refine r_get hx hb hC hP i_MO (44) (by decide) rfl rfl 13 (by decide) l_MO_111 rfl d_MO_begin_26 ?_
  rw [show (moEnter S D 20 ((32 * p) - 1) x) 44 13 = nI q from (by rw [moEnter_44 _ _ _ _ _ (by decide) (by decide)]; exact hq)]
  refine lv_imul hx hb d_MO_begin_29 ?_
  refine lv_iload_n hx hb d_MO_begin_30 rfl (lv_at hl 0 rfl) ?_
  refine lv_iadd hx hb d_MO_begin_31 ?_
  rw [show (3 * (nI q)) + 0 = nI (3 * q) from (nI_m3 q 0)]
  refine lv_iconst (v := 0) hx hb d_MO_begin_32 (by decide) ?_
  refine r_ist hx hb hC hP hS (52) (by decide) (fun _ => rfl) (3 * q) rfl (by omega) (by decide) d_MO_begin_33 (fun H locs hP hS => ?_)
  refine lv_iinc (v := 1) (lv' := [(3, .int 1), (0, .ref (gA G 44)), (1, .int p), (2, .int x)]) hx hb d_MO_begin_34 hl (k := 0) rfl (by decide) (by decide) rfl (fun ls hl => ?_)
  refine lv_goto (tgt := 15) hx hb d_MO_begin_37 (by decide) ?_
  refine lv_iload_n hx hb d_MO_begin_15 rfl (lv_at hl 0 rfl) ?_
  refine lv_iconst (v := 3) hx hb d_MO_begin_16 (by decide) ?_
  refine lv_icmp_ge (tgt := 40) hx hb d_MO_begin_17 (by decide) (fun h => absurd h (by decide)) (fun _ => ?_)
  refine lv_aload_n hx hb d_MO_begin_20 rfl (lv_at hl 1 rfl) ?_
  refine r_get hx hb hC hP i_MO (44) (by decide) rfl rfl 14 (by decide) l_MO_35 rfl d_MO_begin_21 ?_
  refine lv_iconst (v := 3) hx hb d_MO_begin_24 (by decide) ?_
  refine lv_aload_n hx hb d_MO_begin_25 rfl (lv_at hl 1 rfl) ?_
  refine r_get hx hb hC hP i_MO (44) (by decide) rfl rfl 13 (by decide) l_MO_111 rfl d_MO_begin_26 ?_
  rw [show (su (moEnter S D 20 ((32 * p) - 1) x) 52 (3 * q) 0) 44 13 = (moEnter S D 20 ((32 * p) - 1) x) 44 13 from by rw [su_cell _ _ _ (by decide)]]
  rw [show (moEnter S D 20 ((32 * p) - 1) x) 44 13 = nI q from (by rw [moEnter_44 _ _ _ _ _ (by decide) (by decide)]; exact hq)]
  refine lv_imul hx hb d_MO_begin_29 ?_
  refine lv_iload_n hx hb d_MO_begin_30 rfl (lv_at hl 0 rfl) ?_
  refine lv_iadd hx hb d_MO_begin_31 ?_
  rw [show (3 * (nI q)) + 1 = nI (3 * q + 1) from (nI_m3 q 1)]
  refine lv_iconst (v := 0) hx hb d_MO_begin_32 (by decide) ?_
  refine r_ist hx hb hC hP hS (52) (by decide) (fun _ => rfl) (3 * q + 1) rfl (by omega) (by decide) d_MO_begin_33 (fun H locs hP hS => ?_)
  refine lv_iinc (v := 2) (lv' := [(3, .int 2), (0, .ref (gA G 44)), (1, .int p), (2, .int x)]) hx hb d_MO_begin_34 hl (k := 0) rfl (by decide) (by decide) rfl (fun ls hl => ?_)
  refine lv_goto (tgt := 15) hx hb d_MO_begin_37 (by decide) ?_
  refine lv_iload_n hx hb d_MO_begin_15 rfl (lv_at hl 0 rfl) ?_
  refine lv_iconst (v := 3) hx hb d_MO_begin_16 (by decide) ?_
  refine lv_icmp_ge (tgt := 40) hx hb d_MO_begin_17 (by decide) (fun h => absurd h (by decide)) (fun _ => ?_)
  refine lv_aload_n hx hb d_MO_begin_20 rfl (lv_at hl 1 rfl) ?_
  refine r_get hx hb hC hP i_MO (44) (by decide) rfl rfl 14 (by decide) l_MO_35 rfl d_MO_begin_21 ?_
  refine lv_iconst (v := 3) hx hb d_MO_begin_24 (by decide) ?_
  refine lv_aload_n hx hb d_MO_begin_25 rfl (lv_at hl 1 rfl) ?_
  refine r_get hx hb hC hP i_MO (44) (by decide) rfl rfl 13 (by decide) l_MO_111 rfl d_MO_begin_26 ?_
  rw [show (su (su (moEnter S D 20 ((32 * p) - 1) x) 52 (3 * q) 0) 52 (3 * q + 1) 0) 44 13 = (moEnter S D 20 ((32 * p) - 1) x) 44 13 from by rw [su_cell _ _ _ (by decide), su_cell _ _ _ (by decide)]]
  rw [show (moEnter S D 20 ((32 * p) - 1) x) 44 13 = nI q from (by rw [moEnter_44 _ _ _ _ _ (by decide) (by decide)]; exact hq)]
  refine lv_imul hx hb d_MO_begin_29 ?_
  refine lv_iload_n hx hb d_MO_begin_30 rfl (lv_at hl 0 rfl) ?_
  refine lv_iadd hx hb d_MO_begin_31 ?_
  rw [show (3 * (nI q)) + 2 = nI (3 * q + 2) from (nI_m3 q 2)]
  refine lv_iconst (v := 0) hx hb d_MO_begin_32 (by decide) ?_
  refine r_ist hx hb hC hP hS (52) (by decide) (fun _ => rfl) (3 * q + 2) rfl (by omega) (by decide) d_MO_begin_33 (fun H locs hP hS => ?_)
  refine lv_iinc (v := 3) (lv' := [(3, .int 3), (0, .ref (gA G 44)), (1, .int p), (2, .int x)]) hx hb d_MO_begin_34 hl (k := 0) rfl (by decide) (by decide) rfl (fun ls hl => ?_)
  refine lv_goto (tgt := 15) hx hb d_MO_begin_37 (by decide) ?_
  refine lv_iload_n hx hb d_MO_begin_15 rfl (lv_at hl 0 rfl) ?_
  refine lv_iconst (v := 3) hx hb d_MO_begin_16 (by decide) ?_
  refine lv_icmp_ge (tgt := 40) hx hb d_MO_begin_17 (by decide) (fun _ => ?_) (fun h => absurd h (by decide))
  refine lv_aload_n hx hb d_MO_begin_40 rfl (lv_at hl 1 rfl) ?_
  refine lv_dup hx hb d_MO_begin_41 rfl ?_
  refine r_get hx hb hC hP i_MO (44) (by decide) rfl rfl 13 (by decide) l_MO_111 rfl d_MO_begin_42 ?_
  rw [show (su (su (su (moEnter S D 20 ((32 * p) - 1) x) 52 (3 * q) 0) 52 (3 * q + 1) 0) 52 (3 * q + 2) 0) 44 13 = (moEnter S D 20 ((32 * p) - 1) x) 44 13 from by rw [su_cell _ _ _ (by decide), su_cell _ _ _ (by decide), su_cell _ _ _ (by decide)]]
  rw [show (moEnter S D 20 ((32 * p) - 1) x) 44 13 = nI q from (by rw [moEnter_44 _ _ _ _ _ (by decide) (by decide)]; exact hq)]
  refine lv_iconst (v := 1) hx hb d_MO_begin_45 (by decide) ?_
  refine lv_iadd hx hb d_MO_begin_46 ?_
  rw [show (nI q) + 1 = nI (q + 1) from nI_1 q]
  refine r_put hx hb hC hP hS i_MO t_MO t_MO_ok n_MO (44) (by decide) rfl rfl 13 (by decide) l_MO_111 rfl rfl rfl (Nat.le_of_ble_eq_true rfl) d_MO_begin_47 (fun H locs hP hS => ?_)
  exact e_v hx hb hr hlk hC hP hS d_MO_begin_50 rfl

theorem moBegin_8 (S : SS) (D q : Nat) (p x : Int32) : moBegin S D q p x 44 8 = nI (D + 1) := by
  unfold moBegin moEnter
  rw [su_int _ _ _ (by decide), su_cell _ _ _ (by decide), su_cell _ _ _ (by decide), su_cell _ _ _ (by decide), su_int _ _ _ (by decide), su_same]
def moCall (S : SS) (D q : Nat) (p : Int32) : SS := su (moBegin S D q p (S 44 10)) 51 D (S 44 9)
set_option maxHeartbeats 4000000 in
set_option maxRecDepth 100000 in
theorem m_MO_call (l : Launch) (G : WG) (S : SS) (D q : Nat) (hD8 : D < 80) (hD : S 44 8 = nI D) (hq6 : q < 6) (hq : S 44 13 = nI q) (p : Int32) : Cv l y_MO_call b_MO_call 3 2 G [.ref (gA G 44), .int p] S (fun S1 => S1 = moCall S D q p) := by
  refine mk l (by decide +kernel) (Nat.le_of_ble_eq_true rfl) ?_
  intro pp_ ee_ ss_ mm_ be_ me_ co_ ls hx hb hr hlk hml hC hP hS hl
  have hl : lv_has ls 3 [(0, .ref (gA G 44)), (1, .int p)] := hl
  refine lv_aload_n hx hb d_MO_call_0 rfl (lv_at hl 0 rfl) ?_
  refine r_get hx hb hC hP i_MO (44) (by decide) rfl rfl 9 (by decide) l_MO_86 rfl d_MO_call_1 ?_
  refine lv_istore_n (lv' := [(2, .int (S 44 9)), (0, .ref (gA G 44)), (1, .int p)]) hx hb d_MO_call_4 rfl hl (by decide) rfl (fun ls hl => ?_)
  refine lv_aload_n hx hb d_MO_call_5 rfl (lv_at hl 1 rfl) ?_
  refine lv_iload_n hx hb d_MO_call_6 rfl (lv_at hl 2 rfl) ?_
  refine lv_aload_n hx hb d_MO_call_7 rfl (lv_at hl 1 rfl) ?_
  refine r_get hx hb hC hP i_MO (44) (by decide) rfl rfl 10 (by decide) l_MO_121 rfl d_MO_call_8 ?_
  refine r_v hC hS (r_runV (np := 2) (As := [.int p, .int (S 44 10)]) (rest := []) hx hb hml hC hP hS (by decide) rfl rfl (m_MO_begin l G S D q (by omega) hD (by omega) hq p (S 44 10)) l_MO_140 im_MO_begin se_MO_begin in_MO c_MO_begin_in (by decide +kernel) ⟨by simp only [rmF]; omega, by simp only [rmF]; omega⟩ rfl hl.1 (Nat.le_of_ble_eq_true rfl) d_MO_call_11 ⟨Nat.le_refl _, Nat.le_refl _⟩) (fun S_11 H locs hw hP hS => ?_)
  rw [hw] at hP
  refine lv_aload_n hx hb d_MO_call_14 rfl (lv_at hl 1 rfl) ?_
  refine r_get hx hb hC hP i_MO (44) (by decide) rfl rfl 7 (by decide) l_MO_32 rfl d_MO_call_15 ?_
  refine lv_aload_n hx hb d_MO_call_18 rfl (lv_at hl 1 rfl) ?_
  refine r_get hx hb hC hP i_MO (44) (by decide) rfl rfl 8 (by decide) l_MO_58 rfl d_MO_call_19 ?_
  rw [show (moBegin S D q p (S 44 10)) 44 8 = nI (D + 1) from (moBegin_8 _ _ _ _ _)]
  refine lv_iconst (v := 1) hx hb d_MO_call_22 (by decide) ?_
  refine lv_isub hx hb d_MO_call_23 ?_
  rw [show (nI (D + 1)) - 1 = nI D from nI_pred D]
  refine lv_iload_n hx hb d_MO_call_24 rfl (lv_at hl 0 rfl) ?_
  refine r_ist hx hb hC hP hS (51) (by decide) (fun _ => rfl) D rfl (by omega) (by decide) d_MO_call_25 (fun H locs hP hS => ?_)
  exact e_v hx hb hr hlk hC hP hS d_MO_call_26 rfl

theorem nI_lv (q i : Nat) : (3 : Int32) * nI (q + 1) - 3 + nI i = nI (3 * q + i) := by
  rw [show (3 : Int32) = nI 3 from rfl, pk_mul, pk_sub (by omega), nI_add]
  congr 1
def moLeave (S : SS) (q i n : Nat) : SS := if S 52 (3 * q + i) = 0 then moRaise S n 4 0 else su (su S 52 (3 * q + i) (S 52 (3 * q + i) - 1)) 53 i (S 53 i - 1)
set_option maxHeartbeats 4000000 in
set_option maxRecDepth 100000 in
theorem m_MO_leave (l : Launch) (G : WG) (S : SS) (q i n : Nat) (hn6 : n < 600) (hn : S 44 18 = nI n) (hq6 : q < 6) (hq : S 44 13 = nI (q + 1)) (hi : i < 3) : Cv l y_MO_leave b_MO_leave 3 2 G [.ref (gA G 44), .int (nI i)] S (fun S1 => S1 = moLeave S q i n) := by
  refine mk l (by decide +kernel) (Nat.le_of_ble_eq_true rfl) ?_
  intro pp_ ee_ ss_ mm_ be_ me_ co_ ls hx hb hr hlk hml hC hP hS hl
  have hl : lv_has ls 3 [(0, .ref (gA G 44)), (1, .int (nI i))] := hl
  refine lv_iconst (v := 3) hx hb d_MO_leave_0 (by decide) ?_
  refine lv_aload_n hx hb d_MO_leave_1 rfl (lv_at hl 0 rfl) ?_
  refine r_get hx hb hC hP i_MO (44) (by decide) rfl rfl 13 (by decide) l_MO_111 rfl d_MO_leave_2 ?_
  rw [show S 44 13 = nI (q + 1) from hq]
  refine lv_imul hx hb d_MO_leave_5 ?_
  refine lv_iconst (v := 3) hx hb d_MO_leave_6 (by decide) ?_
  refine lv_isub hx hb d_MO_leave_7 ?_
  refine lv_iload_n hx hb d_MO_leave_8 rfl (lv_at hl 1 rfl) ?_
  refine lv_iadd hx hb d_MO_leave_9 ?_
  rw [show ((3 * (nI (q + 1))) - 3) + (nI i) = nI (3 * q + i) from (nI_lv q i)]
  refine lv_istore_n (lv' := [(2, .int (nI (3 * q + i))), (0, .ref (gA G 44)), (1, .int (nI i))]) hx hb d_MO_leave_10 rfl hl (by decide) rfl (fun ls hl => ?_)
  refine lv_aload_n hx hb d_MO_leave_11 rfl (lv_at hl 1 rfl) ?_
  refine r_get hx hb hC hP i_MO (44) (by decide) rfl rfl 14 (by decide) l_MO_35 rfl d_MO_leave_12 ?_
  refine lv_iload_n hx hb d_MO_leave_15 rfl (lv_at hl 0 rfl) ?_
  refine r_ild hx hb hC hP (52) (by decide) rfl (3 * q + i) rfl (by omega) (by decide) d_MO_leave_16 ?_
  refine lv_if_ne (tgt := 27) hx hb d_MO_leave_17 (by decide) (fun c_17 => ?_) (fun c_17 => ?_)
  · refine lv_aload_n hx hb d_MO_leave_27 rfl (lv_at hl 1 rfl) ?_
    refine r_get hx hb hC hP i_MO (44) (by decide) rfl rfl 14 (by decide) l_MO_35 rfl d_MO_leave_28 ?_
    refine lv_iload_n hx hb d_MO_leave_31 rfl (lv_at hl 0 rfl) ?_
    refine lv_dup2_11 hx hb d_MO_leave_32 rfl rfl ?_
    refine r_ild hx hb hC hP (52) (by decide) rfl (3 * q + i) rfl (by omega) (by decide) d_MO_leave_33 ?_
    refine lv_iconst (v := 1) hx hb d_MO_leave_34 (by decide) ?_
    refine lv_isub hx hb d_MO_leave_35 ?_
    refine r_ist hx hb hC hP hS (52) (by decide) (fun _ => rfl) (3 * q + i) rfl (by omega) (by decide) d_MO_leave_36 (fun H locs hP hS => ?_)
    refine lv_aload_n hx hb d_MO_leave_37 rfl (lv_at hl 1 rfl) ?_
    refine r_get hx hb hC hP i_MO (44) (by decide) rfl rfl 15 (by decide) l_MO_38 rfl d_MO_leave_38 ?_
    refine lv_iload_n hx hb d_MO_leave_41 rfl (lv_at hl 2 rfl) ?_
    refine lv_dup2_11 hx hb d_MO_leave_42 rfl rfl ?_
    refine r_ild hx hb hC hP (53) (by decide) rfl i rfl (by omega) (by decide) d_MO_leave_43 ?_
    rw [show (su S 52 (3 * q + i) ((S 52 (3 * q + i)) - 1)) 53 i = S 53 i from by rw [su_cell _ _ _ (by decide)]]
    refine lv_iconst (v := 1) hx hb d_MO_leave_44 (by decide) ?_
    refine lv_isub hx hb d_MO_leave_45 ?_
    refine r_ist hx hb hC hP hS (53) (by decide) (fun _ => rfl) i rfl (by omega) (by decide) d_MO_leave_46 (fun H locs hP hS => ?_)
    exact e_v hx hb hr hlk hC hP hS d_MO_leave_47 (by first | exact (if_neg (by assumption)).symm | exact (if_pos (by assumption)).symm)
  · refine lv_aload_n hx hb d_MO_leave_20 rfl (lv_at hl 1 rfl) ?_
    refine lv_iconst (v := 4) hx hb d_MO_leave_21 (by decide) ?_
    refine lv_iconst (v := 0) hx hb d_MO_leave_22 (by decide) ?_
    refine r_v hC hS (r_runV (np := 2) (As := [.int 4, .int 0]) (rest := []) hx hb hml hC hP hS (by decide) rfl rfl (m_MO_raise l G S n (by omega) hn 4 0) l_MO_124 im_MO_raise se_MO_raise in_MO c_MO_raise_in (by decide +kernel) ⟨by simp only [rmF]; omega, by simp only [rmF]; omega⟩ rfl hl.1 (Nat.le_of_ble_eq_true rfl) d_MO_leave_23 ⟨Nat.le_refl _, Nat.le_refl _⟩) (fun S_23 H locs hw hP hS => ?_)
    rw [hw] at hP
    exact e_v hx hb hr hlk hC hP hS d_MO_leave_26 (by first | exact (if_neg (by assumption)).symm | exact (if_pos (by assumption)).symm)

set_option maxHeartbeats 4000000 in
set_option maxRecDepth 100000 in
theorem m_MO_caught_loop (l : Launch) (G : WG) (S : SS) (D b : Nat) (hD8 : D ≤ 80) (hD : S 44 8 = nI D) (hb9 : b < D) (hk : S 48 b = 16) (hno : ∀ j, b < j → j < D → ¬ S 48 j = 16) {pp_ : Program} {ee_ : Env} {ss_ : State} {mm_ : MethodId} {be_ : List Frame} {me_ : Method} {co_ : Code} (hx : pp_.tables.exec = Jvm.exec) (hb : co_.code = b_MO_caught) (hr : me_.sig.returnType = (some (.int))) (hlk : me_.locks = false) (hml : co_.maxLocals = 2) (hC : CC G "EndingsLabModel" ss_ mm_ ([.ref (gA G 44)] : List Value).toArray (AA G)) :
    ∀ (f : Nat) (j : Nat), b ≤ j → j < D → j < b + f →  ∀ (H : Heap) (locs : List Loc) (ls : Array Slot), va_P (gD G) clsL (wl (gA G) 57 (fS G S)) H → va_S (AA G) ss_.heap H locs → lv_has ls 2 [(0, .ref (gA G 44)), (1, .int (nI j))] → W pp_ l ee_ (rmF 0) ss_ mm_ ([.ref (gA G 44)] : List Value).toArray be_ me_ co_ H locs 0 0 (MQ be_ (va_Qi (fun r S1 => r = S 50 b ∧ S1 = S) (WD G) (AA G)) ([.ref (gA G 44)] : List Value).toArray ss_ 0 0 (AA G)) (F0 mm_ 7 ls []) := by
  intro f
  induction f with
  | zero =>
    intro j hbj hjD hf H locs ls hP hS hl
    exact absurd hf (by omega)
  | succ f ih =>
    intro j hbj hjD hf H locs ls hP hS hl
    refine lv_aload_n hx hb d_MO_caught_7 rfl (lv_at hl 0 rfl) ?_
    refine r_get hx hb hC hP i_MO (44) (by decide) rfl rfl 4 (by decide) l_MO_23 rfl d_MO_caught_8 ?_
    refine lv_iload_n hx hb d_MO_caught_11 rfl (lv_at hl 1 rfl) ?_
    refine r_ild hx hb hC hP (48) (by decide) rfl j rfl (by omega) (by decide) d_MO_caught_12 ?_
    refine lv_bipush (v := 16) hx hb d_MO_caught_13 (by decide) ?_
    refine lv_icmp_eq (tgt := 24) hx hb d_MO_caught_15 (by decide) (fun c_15 => ?_) (fun c_15 => ?_)
    · have hjb : j = b := Classical.byContradiction (fun h => hno j (by omega) hjD c_15)
      refine lv_aload_n hx hb d_MO_caught_24 rfl (lv_at hl 0 rfl) ?_
      refine r_get hx hb hC hP i_MO (44) (by decide) rfl rfl 6 (by decide) l_MO_29 rfl d_MO_caught_25 ?_
      refine lv_iload_n hx hb d_MO_caught_28 rfl (lv_at hl 1 rfl) ?_
      refine r_ild hx hb hC hP (50) (by decide) rfl j rfl (by omega) (by decide) d_MO_caught_29 ?_
      exact e_i hx hb hr hlk hC hP hS d_MO_caught_30 ⟨by rw [hjb], rfl⟩
    · have hjb : b < j := Nat.lt_of_le_of_ne hbj (fun h => c_15 (h ▸ hk))
      refine lv_iinc (v := nI (j - 1)) (lv' := [(1, .int (nI (j - 1))), (0, .ref (gA G 44))]) hx hb d_MO_caught_18 hl (k := 1) rfl (sb_m1 (by omega)) (by decide) rfl (fun ls hl => ?_)
      refine lv_goto (tgt := 7) hx hb d_MO_caught_21 (by decide) ?_
      exact ih (j - 1) (by omega) (by omega) (by omega) _ _ _ hP hS (lv_sub hl [1, 0] rfl)

set_option maxHeartbeats 4000000 in
set_option maxRecDepth 100000 in
theorem m_MO_caught (l : Launch) (G : WG) (S : SS) (D b : Nat) (hD8 : D ≤ 80) (hD : S 44 8 = nI D) (hb9 : b < D) (hk : S 48 b = 16) (hno : ∀ j, b < j → j < D → ¬ S 48 j = 16) : Ci l y_MO_caught b_MO_caught 2 (some (.int)) 0 G [.ref (gA G 44)] S (fun r S1 => r = S 50 b ∧ S1 = S) := by
  refine mk l (by decide +kernel) (Nat.le_of_ble_eq_true rfl) ?_
  intro pp_ ee_ ss_ mm_ be_ me_ co_ ls hx hb hr hlk hml hC hP hS hl
  have hl : lv_has ls 2 [(0, .ref (gA G 44))] := hl
  refine lv_aload_n hx hb d_MO_caught_0 rfl (lv_at hl 0 rfl) ?_
  refine r_get hx hb hC hP i_MO (44) (by decide) rfl rfl 8 (by decide) l_MO_58 rfl d_MO_caught_1 ?_
  rw [show S 44 8 = nI D from hD]
  refine lv_iconst (v := 1) hx hb d_MO_caught_4 (by decide) ?_
  refine lv_isub hx hb d_MO_caught_5 ?_
  rw [show (nI D) - 1 = nI (D - 1) from (by rw [show (1 : Int32) = nI 1 from rfl]; exact pk_sub (by omega))]
  refine lv_istore_n (lv' := [(1, .int (nI (D - 1))), (0, .ref (gA G 44))]) hx hb d_MO_caught_6 rfl hl (by decide) rfl (fun ls hl => ?_)
  exact m_MO_caught_loop l G S D b hD8 hD hb9 hk hno hx hb hr hlk hml hC (D + 1) (D - 1) (by omega) (by omega) (by omega) _ _ _ hP hS (lv_sub hl [1, 0] rfl)

def insB (r : Nat → Int32) (x : Int32) : Nat → Bool
  | 0 => false
  | n + 1 => insB r x n || decide (r n = x)
theorem insB_t {r : Nat → Int32} {x : Int32} {j D : Nat} (hj : j < D) (h : r j = x) : insB r x D = true := by
  induction D with
  | zero => exact absurd hj (by omega)
  | succ D ih =>
    rcases (show j = D ∨ j < D by omega) with e | e
    · subst e
      simp [insB, h]
    · simp [insB, ih e]
set_option maxHeartbeats 4000000 in
set_option maxRecDepth 100000 in
theorem m_MO_inside_loop (l : Launch) (G : WG) (S : SS) (D : Nat) (hD8 : D ≤ 80) (hD : S 44 8 = nI D) (x : Int32) {pp_ : Program} {ee_ : Env} {ss_ : State} {mm_ : MethodId} {be_ : List Frame} {me_ : Method} {co_ : Code} (hx : pp_.tables.exec = Jvm.exec) (hb : co_.code = b_MO_inside) (hr : me_.sig.returnType = (some (.boolean))) (hlk : me_.locks = false) (hml : co_.maxLocals = 3) (hC : CC G "EndingsLabModel" ss_ mm_ ([.ref (gA G 44), .int x] : List Value).toArray (AA G)) :
    ∀ (f : Nat) (j : Nat), j ≤ D → D < j + f → insB (S 48) x j = false →  ∀ (H : Heap) (locs : List Loc) (ls : Array Slot), va_P (gD G) clsL (wl (gA G) 57 (fS G S)) H → va_S (AA G) ss_.heap H locs → lv_has ls 3 [(0, .ref (gA G 44)), (1, .int x), (2, .int (nI j))] → W pp_ l ee_ (rmF 0) ss_ mm_ ([.ref (gA G 44), .int x] : List Value).toArray be_ me_ co_ H locs 0 0 (MQ be_ (va_Qi (fun r S1 => r = b2i (insB (S 48) x D) ∧ S1 = S) (WD G) (AA G)) ([.ref (gA G 44), .int x] : List Value).toArray ss_ 0 0 (AA G)) (F0 mm_ 2 ls []) := by
  intro f
  induction f with
  | zero =>
    intro j hjD hf hin H locs ls hP hS hl
    exact absurd hf (by omega)
  | succ f ih =>
    intro j hjD hf hin H locs ls hP hS hl
    refine lv_iload_n hx hb d_MO_inside_2 rfl (lv_at hl 2 rfl) ?_
    refine lv_aload_n hx hb d_MO_inside_3 rfl (lv_at hl 0 rfl) ?_
    refine r_get hx hb hC hP i_MO (44) (by decide) rfl rfl 8 (by decide) l_MO_58 rfl d_MO_inside_4 ?_
    rw [show S 44 8 = nI D from hD]
    refine lv_icmp_ge (tgt := 28) hx hb d_MO_inside_7 (by decide) (fun c_7 => ?_) (fun c_7 => ?_)
    · have c_7 : D ≤ j := (q_le (a := D) (b := j) rfl rfl (by omega) (by omega)).mp c_7
      refine lv_iconst (v := 0) hx hb d_MO_inside_28 (by decide) ?_
      exact e_z hx hb hr hlk hC hP hS d_MO_inside_29 (by decide) ⟨by rw [show D = j by omega, hin]; rfl, rfl⟩
    · have c_7 : ¬ D ≤ j := fun h => c_7 ((q_le (a := D) (b := j) rfl rfl (by omega) (by omega)).mpr h)
      refine lv_aload_n hx hb d_MO_inside_10 rfl (lv_at hl 0 rfl) ?_
      refine r_get hx hb hC hP i_MO (44) (by decide) rfl rfl 4 (by decide) l_MO_23 rfl d_MO_inside_11 ?_
      refine lv_iload_n hx hb d_MO_inside_14 rfl (lv_at hl 2 rfl) ?_
      refine r_ild hx hb hC hP (48) (by decide) rfl j rfl (by omega) (by decide) d_MO_inside_15 ?_
      refine lv_iload_n hx hb d_MO_inside_16 rfl (lv_at hl 1 rfl) ?_
      refine lv_icmp_ne (tgt := 22) hx hb d_MO_inside_17 (by decide) (fun c_17 => ?_) (fun c_17 => ?_)
      · refine lv_iinc (v := nI (j + 1)) (lv' := [(2, .int (nI (j + 1))), (0, .ref (gA G 44)), (1, .int x)]) hx hb d_MO_inside_22 hl (k := 2) rfl (nI_1 _) (by decide) rfl (fun ls hl => ?_)
        refine lv_goto (tgt := 2) hx hb d_MO_inside_25 (by decide) ?_
        exact ih (j + 1) (by omega) (by omega) (by show (insB (S 48) x j || _) = false; rw [hin, decide_eq_false c_17]; rfl) _ _ _ hP hS (lv_sub hl [1, 2, 0] rfl)
      · refine lv_iconst (v := 1) hx hb d_MO_inside_20 (by decide) ?_
        exact e_z hx hb hr hlk hC hP hS d_MO_inside_21 (by decide) ⟨by rw [insB_t (j := j) (by omega) c_17]; rfl, rfl⟩

set_option maxHeartbeats 4000000 in
set_option maxRecDepth 100000 in
theorem m_MO_inside (l : Launch) (G : WG) (S : SS) (D : Nat) (hD8 : D ≤ 80) (hD : S 44 8 = nI D) (x : Int32) : Ci l y_MO_inside b_MO_inside 3 (some (.boolean)) 0 G [.ref (gA G 44), .int x] S (fun r S1 => r = b2i (insB (S 48) x D) ∧ S1 = S) := by
  refine mk l (by decide +kernel) (Nat.le_of_ble_eq_true rfl) ?_
  intro pp_ ee_ ss_ mm_ be_ me_ co_ ls hx hb hr hlk hml hC hP hS hl
  have hl : lv_has ls 3 [(0, .ref (gA G 44)), (1, .int x)] := hl
  refine lv_iconst (v := 0) hx hb d_MO_inside_0 (by decide) ?_
  refine lv_istore_n (lv' := [(2, .int 0), (0, .ref (gA G 44)), (1, .int x)]) hx hb d_MO_inside_1 rfl hl (by decide) rfl (fun ls hl => ?_)
  exact m_MO_inside_loop l G S D hD8 hD x hx hb hr hlk hml hC (D + 1) 0 (Nat.zero_le _) (by omega) rfl _ _ _ hP hS (lv_sub hl [1, 2, 0] rfl)

