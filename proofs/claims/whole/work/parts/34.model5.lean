/-! reference: what its steps leave alone; item by the token, ends of blocks: written by wip/gen/p34.py -/
theorem su_k (S : SS) {k j a b : Nat} (v : Int32) (h : ¬ (a = k ∧ b = j)) : su S k j v a b = S a b := by
  by_cases ha : a = k
  · exact su_int _ _ _ (fun hb => h ⟨ha, hb⟩)
  · rw [su_cell _ _ _ ha]
theorem moEnter_k (S : SS) (D : Nat) (x y z : Int32) {a b : Nat} (h : ¬ (((a = 48 ∨ a = 49 ∨ a = 50 ∨ a = 51) ∧ b = D) ∨ (a = 44 ∧ (b = 8 ∨ b = 9)))) : moEnter S D x y z a b = S a b := by
  unfold moEnter
  rw [su_k _ _ (by omega), su_k _ _ (by omega), su_k _ _ (by omega), su_k _ _ (by omega), su_k _ _ (by omega), su_k _ _ (by omega)]
theorem moEnds_k (S : SS) (x y : Int32) {a b : Nat} (h : ¬ (a = 44 ∧ (b = 11 ∨ b = 12))) : moEnds S x y a b = S a b := by
  unfold moEnds
  rw [su_k _ _ (by omega), su_k _ _ (by omega)]
theorem moMade_k (S : SS) (n : Nat) (x y : Int32) {a b : Nat} (h : ¬ ((a = 44 ∧ b = 18) ∨ ((a = 54 ∨ a = 55) ∧ b = n + 1))) : moMade S n x y a b = S a b := by
  unfold moMade
  rw [su_k _ _ (by omega), su_k _ _ (by omega), su_k _ _ (by omega)]
theorem moRaise_k (S : SS) (n : Nat) (x y : Int32) {a b : Nat} (h : ¬ ((a = 44 ∧ (b = 18 ∨ b = 11 ∨ b = 12)) ∨ ((a = 54 ∨ a = 55) ∧ b = n + 1))) : moRaise S n x y a b = S a b := by
  unfold moRaise
  rw [moEnds_k _ _ _ (by omega), moMade_k _ _ _ _ (by omega)]
theorem moHold_k (S : SS) (i : Nat) {a b : Nat} (h : ¬ ((a = 53 ∧ b = i) ∨ (a = 44 ∧ b = 20))) : moHold S i a b = S a b := by
  unfold moHold
  split
  · rw [su_k _ _ (by omega), su_k _ _ (by omega)]
  · rw [su_k _ _ (by omega)]
theorem moNote_k (S : SS) (n : Nat) (x : Int32) {a b : Nat} (h : ¬ (a = 56 ∨ (a = 44 ∧ b = 24))) : moNote S n x a b = S a b := by
  unfold moNote
  rw [su_k _ _ (by omega), su_k _ _ (by omega), va_up_ne _ _ (by omega)]
theorem moBegin_k (S : SS) (D q : Nat) (x y : Int32) {a b : Nat} (h : ¬ (((a = 48 ∨ a = 49 ∨ a = 50 ∨ a = 51) ∧ b = D) ∨ (a = 44 ∧ (b = 8 ∨ b = 9 ∨ b = 13)) ∨ (a = 52 ∧ 3 * q ≤ b ∧ b < 3 * q + 3))) : moBegin S D q x y a b = S a b := by
  unfold moBegin
  rw [su_k _ _ (by omega), su_k _ _ (by omega), su_k _ _ (by omega), su_k _ _ (by omega), moEnter_k _ _ _ _ _ (by omega)]
def moStep (S : SS) (i st : Nat) : SS := su (su S 44 19 (nI (st + 1))) 44 9 (nI (i + 1))
theorem moStep_k (S : SS) (i st : Nat) {a b : Nat} (h : ¬ (a = 44 ∧ (b = 19 ∨ b = 9))) : moStep S i st a b = S a b := by
  unfold moStep
  rw [su_k _ _ (by omega), su_k _ _ (by omega)]
set_option maxHeartbeats 4000000 in
set_option maxRecDepth 100000 in
theorem m_MO_item_note (l : Launch) (G : WG) (S : SS) (i st : Nat) (hi : i < 128) (hnx : S 44 9 = nI i) (hst9 : st < 1000) (hst : S 44 19 = nI st) (hop : S 45 i = 0) (nev : Nat) (hev9 : nev < 2 ^ 30) (hev : S 44 24 = nI nev) : Cv l y_MO_item b_MO_item 3 3 G [.ref (gA G 44)] S (fun S1 => S1 = moNote (moStep S i st) nev (S 46 i)) := by
  refine mk l (by decide +kernel) (Nat.le_of_ble_eq_true rfl) ?_
  intro pp_ ee_ ss_ mm_ be_ me_ co_ ls hx hb hr hlk hml hC hP hS hl
  have hl : lv_has ls 3 [(0, .ref (gA G 44))] := hl
  refine lv_aload_n hx hb d_MO_item_0 rfl (lv_at hl 0 rfl) ?_
  refine r_get hx hb hC hP i_MO (44) (by decide) rfl rfl 9 (by decide) l_MO_86 rfl d_MO_item_1 ?_
  rw [show S 44 9 = nI i from hnx]
  refine lv_istore_n (lv' := [(1, .int (nI i)), (0, .ref (gA G 44))]) hx hb d_MO_item_4 rfl hl (by decide) rfl (fun ls hl => ?_)
  refine lv_aload_n hx hb d_MO_item_5 rfl (lv_at hl 1 rfl) ?_
  refine r_get hx hb hC hP i_MO (44) (by decide) rfl rfl 1 (by decide) l_MO_13 rfl d_MO_item_6 ?_
  refine lv_iload_n hx hb d_MO_item_9 rfl (lv_at hl 0 rfl) ?_
  refine r_ild hx hb hC hP (46) (by decide) rfl i rfl (by omega) (by decide) d_MO_item_10 ?_
  refine lv_istore_n (lv' := [(2, .int (S 46 i)), (1, .int (nI i)), (0, .ref (gA G 44))]) hx hb d_MO_item_11 rfl hl (by decide) rfl (fun ls hl => ?_)
  refine lv_aload_n hx hb d_MO_item_12 rfl (lv_at hl 2 rfl) ?_
  refine lv_dup hx hb d_MO_item_13 rfl ?_
  refine r_get hx hb hC hP i_MO (44) (by decide) rfl rfl 19 (by decide) l_MO_114 rfl d_MO_item_14 ?_
  rw [show S 44 19 = nI st from hst]
  refine lv_iconst (v := 1) hx hb d_MO_item_17 (by decide) ?_
  refine lv_iadd hx hb d_MO_item_18 ?_
  rw [show (nI st) + 1 = nI (st + 1) from nI_1 _]
  refine r_put hx hb hC hP hS i_MO t_MO t_MO_ok n_MO (44) (by decide) rfl rfl 19 (by decide) l_MO_114 rfl rfl rfl (Nat.le_of_ble_eq_true rfl) d_MO_item_19 (fun H locs hP hS => ?_)
  refine lv_aload_n hx hb d_MO_item_22 rfl (lv_at hl 2 rfl) ?_
  refine lv_dup hx hb d_MO_item_23 rfl ?_
  refine r_get hx hb hC hP i_MO (44) (by decide) rfl rfl 9 (by decide) l_MO_86 rfl d_MO_item_24 ?_
  rw [show (su S 44 19 (nI (st + 1))) 44 9 = S 44 9 from by rw [su_int _ _ _ (by decide)]]
  rw [show S 44 9 = nI i from hnx]
  refine lv_iconst (v := 1) hx hb d_MO_item_27 (by decide) ?_
  refine lv_iadd hx hb d_MO_item_28 ?_
  rw [show (nI i) + 1 = nI (i + 1) from nI_1 _]
  refine r_put hx hb hC hP hS i_MO t_MO t_MO_ok n_MO (44) (by decide) rfl rfl 9 (by decide) l_MO_86 rfl rfl rfl (Nat.le_of_ble_eq_true rfl) d_MO_item_29 (fun H locs hP hS => ?_)
  refine lv_aload_n hx hb d_MO_item_32 rfl (lv_at hl 2 rfl) ?_
  refine r_get hx hb hC hP i_MO (44) (by decide) rfl rfl 0 (by decide) l_MO_7 rfl d_MO_item_33 ?_
  refine lv_iload_n hx hb d_MO_item_36 rfl (lv_at hl 1 rfl) ?_
  refine r_ild hx hb hC hP (45) (by decide) rfl i rfl (by omega) (by decide) d_MO_item_37 ?_
  rw [show (su (su S 44 19 (nI (st + 1))) 44 9 (nI (i + 1))) 45 i = S 45 i from by rw [su_cell _ _ _ (by decide), su_cell _ _ _ (by decide)]]
  rw [show S 45 i = 0 from hop]
  refine lv_tableIn (off := 74) (tgt := 112) hx hb d_MO_item_38 (by decide) (by decide) (by decide) (by decide) ?_
  refine lv_aload_n hx hb d_MO_item_112 rfl (lv_at hl 2 rfl) ?_
  refine lv_iload_n hx hb d_MO_item_113 rfl (lv_at hl 0 rfl) ?_
  refine r_v hC hS (r_runV (np := 1) (As := [.int (S 46 i)]) (rest := []) hx hb hml hC hP hS (by decide) rfl rfl (m_MO_note l G (su (su S 44 19 (nI (st + 1))) 44 9 (nI (i + 1))) nev (by omega) (by rw [su_int _ _ _ (by decide), su_int _ _ _ (by decide)]; exact hev) (S 46 i)) l_MO_117 im_MO_note se_MO_note in_MO c_MO_note_in (by decide +kernel) ⟨by simp only [rmF]; omega, by simp only [rmF]; omega⟩ rfl hl.1 (Nat.le_of_ble_eq_true rfl) d_MO_item_114 ⟨Nat.le_refl _, Nat.le_refl _⟩) (fun S_114 H locs hw hP hS => ?_)
  rw [hw] at hP
  refine lv_goto (tgt := 389) hx hb d_MO_item_117 (by decide) ?_
  exact e_v hx hb hr hlk hC hP hS d_MO_item_389 rfl

set_option maxHeartbeats 4000000 in
set_option maxRecDepth 100000 in
theorem m_MO_item_add (l : Launch) (G : WG) (S : SS) (i st : Nat) (hi : i < 128) (hnx : S 44 9 = nI i) (hst9 : st < 1000) (hst : S 44 19 = nI st) (hop : S 45 i = 1) : Cv l y_MO_item b_MO_item 3 3 G [.ref (gA G 44)] S (fun S1 => S1 = su (moStep S i st) 44 10 (S 44 10 + S 46 i)) := by
  refine mk l (by decide +kernel) (Nat.le_of_ble_eq_true rfl) ?_
  intro pp_ ee_ ss_ mm_ be_ me_ co_ ls hx hb hr hlk hml hC hP hS hl
  have hl : lv_has ls 3 [(0, .ref (gA G 44))] := hl
  refine lv_aload_n hx hb d_MO_item_0 rfl (lv_at hl 0 rfl) ?_
  refine r_get hx hb hC hP i_MO (44) (by decide) rfl rfl 9 (by decide) l_MO_86 rfl d_MO_item_1 ?_
  rw [show S 44 9 = nI i from hnx]
  refine lv_istore_n (lv' := [(1, .int (nI i)), (0, .ref (gA G 44))]) hx hb d_MO_item_4 rfl hl (by decide) rfl (fun ls hl => ?_)
  refine lv_aload_n hx hb d_MO_item_5 rfl (lv_at hl 1 rfl) ?_
  refine r_get hx hb hC hP i_MO (44) (by decide) rfl rfl 1 (by decide) l_MO_13 rfl d_MO_item_6 ?_
  refine lv_iload_n hx hb d_MO_item_9 rfl (lv_at hl 0 rfl) ?_
  refine r_ild hx hb hC hP (46) (by decide) rfl i rfl (by omega) (by decide) d_MO_item_10 ?_
  refine lv_istore_n (lv' := [(2, .int (S 46 i)), (1, .int (nI i)), (0, .ref (gA G 44))]) hx hb d_MO_item_11 rfl hl (by decide) rfl (fun ls hl => ?_)
  refine lv_aload_n hx hb d_MO_item_12 rfl (lv_at hl 2 rfl) ?_
  refine lv_dup hx hb d_MO_item_13 rfl ?_
  refine r_get hx hb hC hP i_MO (44) (by decide) rfl rfl 19 (by decide) l_MO_114 rfl d_MO_item_14 ?_
  rw [show S 44 19 = nI st from hst]
  refine lv_iconst (v := 1) hx hb d_MO_item_17 (by decide) ?_
  refine lv_iadd hx hb d_MO_item_18 ?_
  rw [show (nI st) + 1 = nI (st + 1) from nI_1 _]
  refine r_put hx hb hC hP hS i_MO t_MO t_MO_ok n_MO (44) (by decide) rfl rfl 19 (by decide) l_MO_114 rfl rfl rfl (Nat.le_of_ble_eq_true rfl) d_MO_item_19 (fun H locs hP hS => ?_)
  refine lv_aload_n hx hb d_MO_item_22 rfl (lv_at hl 2 rfl) ?_
  refine lv_dup hx hb d_MO_item_23 rfl ?_
  refine r_get hx hb hC hP i_MO (44) (by decide) rfl rfl 9 (by decide) l_MO_86 rfl d_MO_item_24 ?_
  rw [show (su S 44 19 (nI (st + 1))) 44 9 = S 44 9 from by rw [su_int _ _ _ (by decide)]]
  rw [show S 44 9 = nI i from hnx]
  refine lv_iconst (v := 1) hx hb d_MO_item_27 (by decide) ?_
  refine lv_iadd hx hb d_MO_item_28 ?_
  rw [show (nI i) + 1 = nI (i + 1) from nI_1 _]
  refine r_put hx hb hC hP hS i_MO t_MO t_MO_ok n_MO (44) (by decide) rfl rfl 9 (by decide) l_MO_86 rfl rfl rfl (Nat.le_of_ble_eq_true rfl) d_MO_item_29 (fun H locs hP hS => ?_)
  refine lv_aload_n hx hb d_MO_item_32 rfl (lv_at hl 2 rfl) ?_
  refine r_get hx hb hC hP i_MO (44) (by decide) rfl rfl 0 (by decide) l_MO_7 rfl d_MO_item_33 ?_
  refine lv_iload_n hx hb d_MO_item_36 rfl (lv_at hl 1 rfl) ?_
  refine r_ild hx hb hC hP (45) (by decide) rfl i rfl (by omega) (by decide) d_MO_item_37 ?_
  rw [show (su (su S 44 19 (nI (st + 1))) 44 9 (nI (i + 1))) 45 i = S 45 i from by rw [su_cell _ _ _ (by decide), su_cell _ _ _ (by decide)]]
  rw [show S 45 i = 1 from hop]
  refine lv_tableIn (off := 82) (tgt := 120) hx hb d_MO_item_38 (by decide) (by decide) (by decide) (by decide) ?_
  refine lv_aload_n hx hb d_MO_item_120 rfl (lv_at hl 2 rfl) ?_
  refine lv_dup hx hb d_MO_item_121 rfl ?_
  refine r_get hx hb hC hP i_MO (44) (by decide) rfl rfl 10 (by decide) l_MO_121 rfl d_MO_item_122 ?_
  rw [show (su (su S 44 19 (nI (st + 1))) 44 9 (nI (i + 1))) 44 10 = S 44 10 from by rw [su_int _ _ _ (by decide), su_int _ _ _ (by decide)]]
  refine lv_iload_n hx hb d_MO_item_125 rfl (lv_at hl 0 rfl) ?_
  refine lv_iadd hx hb d_MO_item_126 ?_
  refine r_put hx hb hC hP hS i_MO t_MO t_MO_ok n_MO (44) (by decide) rfl rfl 10 (by decide) l_MO_121 rfl rfl rfl (Nat.le_of_ble_eq_true rfl) d_MO_item_127 (fun H locs hP hS => ?_)
  refine lv_goto (tgt := 389) hx hb d_MO_item_130 (by decide) ?_
  exact e_v hx hb hr hlk hC hP hS d_MO_item_389 rfl

set_option maxHeartbeats 4000000 in
set_option maxRecDepth 100000 in
theorem m_MO_item_div0 (l : Launch) (G : WG) (S : SS) (i st : Nat) (hi : i < 128) (hnx : S 44 9 = nI i) (hst9 : st < 1000) (hst : S 44 19 = nI st) (hop : S 45 i = 2) (n : Nat) (hn6 : n < 600) (hn : S 44 18 = nI n) (ha : S 46 i = 0) : Cv l y_MO_item b_MO_item 3 3 G [.ref (gA G 44)] S (fun S1 => S1 = moRaise (moStep S i st) n 6 0) := by
  refine mk l (by decide +kernel) (Nat.le_of_ble_eq_true rfl) ?_
  intro pp_ ee_ ss_ mm_ be_ me_ co_ ls hx hb hr hlk hml hC hP hS hl
  have hl : lv_has ls 3 [(0, .ref (gA G 44))] := hl
  refine lv_aload_n hx hb d_MO_item_0 rfl (lv_at hl 0 rfl) ?_
  refine r_get hx hb hC hP i_MO (44) (by decide) rfl rfl 9 (by decide) l_MO_86 rfl d_MO_item_1 ?_
  rw [show S 44 9 = nI i from hnx]
  refine lv_istore_n (lv' := [(1, .int (nI i)), (0, .ref (gA G 44))]) hx hb d_MO_item_4 rfl hl (by decide) rfl (fun ls hl => ?_)
  refine lv_aload_n hx hb d_MO_item_5 rfl (lv_at hl 1 rfl) ?_
  refine r_get hx hb hC hP i_MO (44) (by decide) rfl rfl 1 (by decide) l_MO_13 rfl d_MO_item_6 ?_
  refine lv_iload_n hx hb d_MO_item_9 rfl (lv_at hl 0 rfl) ?_
  refine r_ild hx hb hC hP (46) (by decide) rfl i rfl (by omega) (by decide) d_MO_item_10 ?_
  rw [show S 46 i = 0 from ha]
  refine lv_istore_n (lv' := [(2, .int 0), (1, .int (nI i)), (0, .ref (gA G 44))]) hx hb d_MO_item_11 rfl hl (by decide) rfl (fun ls hl => ?_)
  refine lv_aload_n hx hb d_MO_item_12 rfl (lv_at hl 2 rfl) ?_
  refine lv_dup hx hb d_MO_item_13 rfl ?_
  refine r_get hx hb hC hP i_MO (44) (by decide) rfl rfl 19 (by decide) l_MO_114 rfl d_MO_item_14 ?_
  rw [show S 44 19 = nI st from hst]
  refine lv_iconst (v := 1) hx hb d_MO_item_17 (by decide) ?_
  refine lv_iadd hx hb d_MO_item_18 ?_
  rw [show (nI st) + 1 = nI (st + 1) from nI_1 _]
  refine r_put hx hb hC hP hS i_MO t_MO t_MO_ok n_MO (44) (by decide) rfl rfl 19 (by decide) l_MO_114 rfl rfl rfl (Nat.le_of_ble_eq_true rfl) d_MO_item_19 (fun H locs hP hS => ?_)
  refine lv_aload_n hx hb d_MO_item_22 rfl (lv_at hl 2 rfl) ?_
  refine lv_dup hx hb d_MO_item_23 rfl ?_
  refine r_get hx hb hC hP i_MO (44) (by decide) rfl rfl 9 (by decide) l_MO_86 rfl d_MO_item_24 ?_
  rw [show (su S 44 19 (nI (st + 1))) 44 9 = S 44 9 from by rw [su_int _ _ _ (by decide)]]
  rw [show S 44 9 = nI i from hnx]
  refine lv_iconst (v := 1) hx hb d_MO_item_27 (by decide) ?_
  refine lv_iadd hx hb d_MO_item_28 ?_
  rw [show (nI i) + 1 = nI (i + 1) from nI_1 _]
  refine r_put hx hb hC hP hS i_MO t_MO t_MO_ok n_MO (44) (by decide) rfl rfl 9 (by decide) l_MO_86 rfl rfl rfl (Nat.le_of_ble_eq_true rfl) d_MO_item_29 (fun H locs hP hS => ?_)
  refine lv_aload_n hx hb d_MO_item_32 rfl (lv_at hl 2 rfl) ?_
  refine r_get hx hb hC hP i_MO (44) (by decide) rfl rfl 0 (by decide) l_MO_7 rfl d_MO_item_33 ?_
  refine lv_iload_n hx hb d_MO_item_36 rfl (lv_at hl 1 rfl) ?_
  refine r_ild hx hb hC hP (45) (by decide) rfl i rfl (by omega) (by decide) d_MO_item_37 ?_
  rw [show (su (su S 44 19 (nI (st + 1))) 44 9 (nI (i + 1))) 45 i = S 45 i from by rw [su_cell _ _ _ (by decide), su_cell _ _ _ (by decide)]]
  rw [show S 45 i = 2 from hop]
  refine lv_tableIn (off := 95) (tgt := 133) hx hb d_MO_item_38 (by decide) (by decide) (by decide) (by decide) ?_
  refine lv_iload_n hx hb d_MO_item_133 rfl (lv_at hl 0 rfl) ?_
  refine lv_if_ne (tgt := 147) hx hb d_MO_item_134 (by decide) (fun h => absurd h (by decide)) (fun _ => ?_)
  refine lv_aload_n hx hb d_MO_item_137 rfl (lv_at hl 2 rfl) ?_
  refine lv_bipush (v := 6) hx hb d_MO_item_138 (by decide) ?_
  refine lv_iconst (v := 0) hx hb d_MO_item_140 (by decide) ?_
  refine r_v hC hS (r_runV (np := 2) (As := [.int 6, .int 0]) (rest := []) hx hb hml hC hP hS (by decide) rfl rfl (m_MO_raise l G (su (su S 44 19 (nI (st + 1))) 44 9 (nI (i + 1))) n (by omega) (by rw [su_int _ _ _ (by decide), su_int _ _ _ (by decide)]; exact hn) 6 0) l_MO_124 im_MO_raise se_MO_raise in_MO c_MO_raise_in (by decide +kernel) ⟨by simp only [rmF]; omega, by simp only [rmF]; omega⟩ rfl hl.1 (Nat.le_of_ble_eq_true rfl) d_MO_item_141 ⟨Nat.le_refl _, Nat.le_refl _⟩) (fun S_141 H locs hw hP hS => ?_)
  rw [hw] at hP
  refine lv_goto (tgt := 389) hx hb d_MO_item_144 (by decide) ?_
  exact e_v hx hb hr hlk hC hP hS d_MO_item_389 rfl

set_option maxHeartbeats 4000000 in
set_option maxRecDepth 100000 in
theorem m_MO_item_div (l : Launch) (G : WG) (S : SS) (i st : Nat) (hi : i < 128) (hnx : S 44 9 = nI i) (hst9 : st < 1000) (hst : S 44 19 = nI st) (hop : S 45 i = 2) (ha : ¬ S 46 i = 0) : Cv l y_MO_item b_MO_item 3 3 G [.ref (gA G 44)] S (fun S1 => S1 = su (moStep S i st) 44 10 (S 44 10 / S 46 i)) := by
  refine mk l (by decide +kernel) (Nat.le_of_ble_eq_true rfl) ?_
  intro pp_ ee_ ss_ mm_ be_ me_ co_ ls hx hb hr hlk hml hC hP hS hl
  have hl : lv_has ls 3 [(0, .ref (gA G 44))] := hl
  refine lv_aload_n hx hb d_MO_item_0 rfl (lv_at hl 0 rfl) ?_
  refine r_get hx hb hC hP i_MO (44) (by decide) rfl rfl 9 (by decide) l_MO_86 rfl d_MO_item_1 ?_
  rw [show S 44 9 = nI i from hnx]
  refine lv_istore_n (lv' := [(1, .int (nI i)), (0, .ref (gA G 44))]) hx hb d_MO_item_4 rfl hl (by decide) rfl (fun ls hl => ?_)
  refine lv_aload_n hx hb d_MO_item_5 rfl (lv_at hl 1 rfl) ?_
  refine r_get hx hb hC hP i_MO (44) (by decide) rfl rfl 1 (by decide) l_MO_13 rfl d_MO_item_6 ?_
  refine lv_iload_n hx hb d_MO_item_9 rfl (lv_at hl 0 rfl) ?_
  refine r_ild hx hb hC hP (46) (by decide) rfl i rfl (by omega) (by decide) d_MO_item_10 ?_
  refine lv_istore_n (lv' := [(2, .int (S 46 i)), (1, .int (nI i)), (0, .ref (gA G 44))]) hx hb d_MO_item_11 rfl hl (by decide) rfl (fun ls hl => ?_)
  refine lv_aload_n hx hb d_MO_item_12 rfl (lv_at hl 2 rfl) ?_
  refine lv_dup hx hb d_MO_item_13 rfl ?_
  refine r_get hx hb hC hP i_MO (44) (by decide) rfl rfl 19 (by decide) l_MO_114 rfl d_MO_item_14 ?_
  rw [show S 44 19 = nI st from hst]
  refine lv_iconst (v := 1) hx hb d_MO_item_17 (by decide) ?_
  refine lv_iadd hx hb d_MO_item_18 ?_
  rw [show (nI st) + 1 = nI (st + 1) from nI_1 _]
  refine r_put hx hb hC hP hS i_MO t_MO t_MO_ok n_MO (44) (by decide) rfl rfl 19 (by decide) l_MO_114 rfl rfl rfl (Nat.le_of_ble_eq_true rfl) d_MO_item_19 (fun H locs hP hS => ?_)
  refine lv_aload_n hx hb d_MO_item_22 rfl (lv_at hl 2 rfl) ?_
  refine lv_dup hx hb d_MO_item_23 rfl ?_
  refine r_get hx hb hC hP i_MO (44) (by decide) rfl rfl 9 (by decide) l_MO_86 rfl d_MO_item_24 ?_
  rw [show (su S 44 19 (nI (st + 1))) 44 9 = S 44 9 from by rw [su_int _ _ _ (by decide)]]
  rw [show S 44 9 = nI i from hnx]
  refine lv_iconst (v := 1) hx hb d_MO_item_27 (by decide) ?_
  refine lv_iadd hx hb d_MO_item_28 ?_
  rw [show (nI i) + 1 = nI (i + 1) from nI_1 _]
  refine r_put hx hb hC hP hS i_MO t_MO t_MO_ok n_MO (44) (by decide) rfl rfl 9 (by decide) l_MO_86 rfl rfl rfl (Nat.le_of_ble_eq_true rfl) d_MO_item_29 (fun H locs hP hS => ?_)
  refine lv_aload_n hx hb d_MO_item_32 rfl (lv_at hl 2 rfl) ?_
  refine r_get hx hb hC hP i_MO (44) (by decide) rfl rfl 0 (by decide) l_MO_7 rfl d_MO_item_33 ?_
  refine lv_iload_n hx hb d_MO_item_36 rfl (lv_at hl 1 rfl) ?_
  refine r_ild hx hb hC hP (45) (by decide) rfl i rfl (by omega) (by decide) d_MO_item_37 ?_
  rw [show (su (su S 44 19 (nI (st + 1))) 44 9 (nI (i + 1))) 45 i = S 45 i from by rw [su_cell _ _ _ (by decide), su_cell _ _ _ (by decide)]]
  rw [show S 45 i = 2 from hop]
  refine lv_tableIn (off := 95) (tgt := 133) hx hb d_MO_item_38 (by decide) (by decide) (by decide) (by decide) ?_
  refine lv_iload_n hx hb d_MO_item_133 rfl (lv_at hl 0 rfl) ?_
  refine lv_if_ne (tgt := 147) hx hb d_MO_item_134 (by decide) (fun c_134 => ?_) (fun c_134 => absurd c_134 ha)
  refine lv_aload_n hx hb d_MO_item_147 rfl (lv_at hl 2 rfl) ?_
  refine lv_dup hx hb d_MO_item_148 rfl ?_
  refine r_get hx hb hC hP i_MO (44) (by decide) rfl rfl 10 (by decide) l_MO_121 rfl d_MO_item_149 ?_
  rw [show (su (su S 44 19 (nI (st + 1))) 44 9 (nI (i + 1))) 44 10 = S 44 10 from by rw [su_int _ _ _ (by decide), su_int _ _ _ (by decide)]]
  refine lv_iload_n hx hb d_MO_item_152 rfl (lv_at hl 0 rfl) ?_
  refine lv_idiv hx hb d_MO_item_153 ha ?_
  refine r_put hx hb hC hP hS i_MO t_MO t_MO_ok n_MO (44) (by decide) rfl rfl 10 (by decide) l_MO_121 rfl rfl rfl (Nat.le_of_ble_eq_true rfl) d_MO_item_154 (fun H locs hP hS => ?_)
  refine lv_goto (tgt := 389) hx hb d_MO_item_157 (by decide) ?_
  exact e_v hx hb hr hlk hC hP hS d_MO_item_389 rfl

set_option maxHeartbeats 4000000 in
set_option maxRecDepth 100000 in
theorem m_MO_item_times0 (l : Launch) (G : WG) (S : SS) (i st : Nat) (hi : i < 128) (hnx : S 44 9 = nI i) (hst9 : st < 1000) (hst : S 44 19 = nI st) (hop : S 45 i = 3) (e : Nat) (hsc : ∃ f, Sc (S 45) f (i + 1) 1 e) (ha : S 46 i = 0) : Cv l y_MO_item b_MO_item 3 3 G [.ref (gA G 44)] S (fun S1 => S1 = su (moStep S i st) 44 9 (nI e)) := by
  refine mk l (by decide +kernel) (Nat.le_of_ble_eq_true rfl) ?_
  intro pp_ ee_ ss_ mm_ be_ me_ co_ ls hx hb hr hlk hml hC hP hS hl
  have hl : lv_has ls 3 [(0, .ref (gA G 44))] := hl
  refine lv_aload_n hx hb d_MO_item_0 rfl (lv_at hl 0 rfl) ?_
  refine r_get hx hb hC hP i_MO (44) (by decide) rfl rfl 9 (by decide) l_MO_86 rfl d_MO_item_1 ?_
  rw [show S 44 9 = nI i from hnx]
  refine lv_istore_n (lv' := [(1, .int (nI i)), (0, .ref (gA G 44))]) hx hb d_MO_item_4 rfl hl (by decide) rfl (fun ls hl => ?_)
  refine lv_aload_n hx hb d_MO_item_5 rfl (lv_at hl 1 rfl) ?_
  refine r_get hx hb hC hP i_MO (44) (by decide) rfl rfl 1 (by decide) l_MO_13 rfl d_MO_item_6 ?_
  refine lv_iload_n hx hb d_MO_item_9 rfl (lv_at hl 0 rfl) ?_
  refine r_ild hx hb hC hP (46) (by decide) rfl i rfl (by omega) (by decide) d_MO_item_10 ?_
  rw [show S 46 i = 0 from ha]
  refine lv_istore_n (lv' := [(2, .int 0), (1, .int (nI i)), (0, .ref (gA G 44))]) hx hb d_MO_item_11 rfl hl (by decide) rfl (fun ls hl => ?_)
  refine lv_aload_n hx hb d_MO_item_12 rfl (lv_at hl 2 rfl) ?_
  refine lv_dup hx hb d_MO_item_13 rfl ?_
  refine r_get hx hb hC hP i_MO (44) (by decide) rfl rfl 19 (by decide) l_MO_114 rfl d_MO_item_14 ?_
  rw [show S 44 19 = nI st from hst]
  refine lv_iconst (v := 1) hx hb d_MO_item_17 (by decide) ?_
  refine lv_iadd hx hb d_MO_item_18 ?_
  rw [show (nI st) + 1 = nI (st + 1) from nI_1 _]
  refine r_put hx hb hC hP hS i_MO t_MO t_MO_ok n_MO (44) (by decide) rfl rfl 19 (by decide) l_MO_114 rfl rfl rfl (Nat.le_of_ble_eq_true rfl) d_MO_item_19 (fun H locs hP hS => ?_)
  refine lv_aload_n hx hb d_MO_item_22 rfl (lv_at hl 2 rfl) ?_
  refine lv_dup hx hb d_MO_item_23 rfl ?_
  refine r_get hx hb hC hP i_MO (44) (by decide) rfl rfl 9 (by decide) l_MO_86 rfl d_MO_item_24 ?_
  rw [show (su S 44 19 (nI (st + 1))) 44 9 = S 44 9 from by rw [su_int _ _ _ (by decide)]]
  rw [show S 44 9 = nI i from hnx]
  refine lv_iconst (v := 1) hx hb d_MO_item_27 (by decide) ?_
  refine lv_iadd hx hb d_MO_item_28 ?_
  rw [show (nI i) + 1 = nI (i + 1) from nI_1 _]
  refine r_put hx hb hC hP hS i_MO t_MO t_MO_ok n_MO (44) (by decide) rfl rfl 9 (by decide) l_MO_86 rfl rfl rfl (Nat.le_of_ble_eq_true rfl) d_MO_item_29 (fun H locs hP hS => ?_)
  refine lv_aload_n hx hb d_MO_item_32 rfl (lv_at hl 2 rfl) ?_
  refine r_get hx hb hC hP i_MO (44) (by decide) rfl rfl 0 (by decide) l_MO_7 rfl d_MO_item_33 ?_
  refine lv_iload_n hx hb d_MO_item_36 rfl (lv_at hl 1 rfl) ?_
  refine r_ild hx hb hC hP (45) (by decide) rfl i rfl (by omega) (by decide) d_MO_item_37 ?_
  rw [show (su (su S 44 19 (nI (st + 1))) 44 9 (nI (i + 1))) 45 i = S 45 i from by rw [su_cell _ _ _ (by decide), su_cell _ _ _ (by decide)]]
  rw [show S 45 i = 3 from hop]
  refine lv_tableIn (off := 122) (tgt := 160) hx hb d_MO_item_38 (by decide) (by decide) (by decide) (by decide) ?_
  refine lv_iload_n hx hb d_MO_item_160 rfl (lv_at hl 0 rfl) ?_
  refine lv_if_ne (tgt := 178) hx hb d_MO_item_161 (by decide) (fun h => absurd h (by decide)) (fun _ => ?_)
  refine lv_aload_n hx hb d_MO_item_164 rfl (lv_at hl 2 rfl) ?_
  refine lv_aload_n hx hb d_MO_item_165 rfl (lv_at hl 2 rfl) ?_
  refine lv_iload_n hx hb d_MO_item_166 rfl (lv_at hl 1 rfl) ?_
  refine lv_iconst (v := 1) hx hb d_MO_item_167 (by decide) ?_
  refine lv_iadd hx hb d_MO_item_168 ?_
  rw [show (nI i) + 1 = nI (i + 1) from nI_1 _]
  refine r_i hC hS (r_runV (np := 1) (As := [.int (nI (i + 1))]) (rest := [.ref (gA G 44)]) hx hb hml hC hP hS (by decide) rfl rfl (m_MO_behind l G (su (su S 44 19 (nI (st + 1))) 44 9 (nI (i + 1))) (i + 1) e (by omega) (by rw [su_cell _ _ _ (by decide), su_cell _ _ _ (by decide)]; exact hsc)) l_MO_79 im_MO_behind se_MO_behind in_MO c_MO_behind_in (by decide +kernel) ⟨by simp only [rmF]; omega, by simp only [rmF]; omega⟩ rfl hl.1 (Nat.le_of_ble_eq_true rfl) d_MO_item_169 ⟨Nat.le_refl _, Nat.le_refl _⟩) (fun r_169 S_169 H locs hw hP hS => ?_)
  obtain ⟨rfl, hSe⟩ := hw
  rw [hSe] at hP
  refine r_put hx hb hC hP hS i_MO t_MO t_MO_ok n_MO (44) (by decide) rfl rfl 9 (by decide) l_MO_86 rfl rfl rfl (Nat.le_of_ble_eq_true rfl) d_MO_item_172 (fun H locs hP hS => ?_)
  refine lv_goto (tgt := 389) hx hb d_MO_item_175 (by decide) ?_
  exact e_v hx hb hr hlk hC hP hS d_MO_item_389 rfl

set_option maxHeartbeats 4000000 in
set_option maxRecDepth 100000 in
theorem m_MO_item_times (l : Launch) (G : WG) (S : SS) (i st : Nat) (hi : i < 128) (hnx : S 44 9 = nI i) (hst9 : st < 1000) (hst : S 44 19 = nI st) (hop : S 45 i = 3) (D : Nat) (hD8 : D < 80) (hD : S 44 8 = nI D) (ha : ¬ S 46 i = 0) : Cv l y_MO_item b_MO_item 3 3 G [.ref (gA G 44)] S (fun S1 => S1 = moEnter (moStep S i st) D 3 (nI i) (S 46 i)) := by
  refine mk l (by decide +kernel) (Nat.le_of_ble_eq_true rfl) ?_
  intro pp_ ee_ ss_ mm_ be_ me_ co_ ls hx hb hr hlk hml hC hP hS hl
  have hl : lv_has ls 3 [(0, .ref (gA G 44))] := hl
  refine lv_aload_n hx hb d_MO_item_0 rfl (lv_at hl 0 rfl) ?_
  refine r_get hx hb hC hP i_MO (44) (by decide) rfl rfl 9 (by decide) l_MO_86 rfl d_MO_item_1 ?_
  rw [show S 44 9 = nI i from hnx]
  refine lv_istore_n (lv' := [(1, .int (nI i)), (0, .ref (gA G 44))]) hx hb d_MO_item_4 rfl hl (by decide) rfl (fun ls hl => ?_)
  refine lv_aload_n hx hb d_MO_item_5 rfl (lv_at hl 1 rfl) ?_
  refine r_get hx hb hC hP i_MO (44) (by decide) rfl rfl 1 (by decide) l_MO_13 rfl d_MO_item_6 ?_
  refine lv_iload_n hx hb d_MO_item_9 rfl (lv_at hl 0 rfl) ?_
  refine r_ild hx hb hC hP (46) (by decide) rfl i rfl (by omega) (by decide) d_MO_item_10 ?_
  refine lv_istore_n (lv' := [(2, .int (S 46 i)), (1, .int (nI i)), (0, .ref (gA G 44))]) hx hb d_MO_item_11 rfl hl (by decide) rfl (fun ls hl => ?_)
  refine lv_aload_n hx hb d_MO_item_12 rfl (lv_at hl 2 rfl) ?_
  refine lv_dup hx hb d_MO_item_13 rfl ?_
  refine r_get hx hb hC hP i_MO (44) (by decide) rfl rfl 19 (by decide) l_MO_114 rfl d_MO_item_14 ?_
  rw [show S 44 19 = nI st from hst]
  refine lv_iconst (v := 1) hx hb d_MO_item_17 (by decide) ?_
  refine lv_iadd hx hb d_MO_item_18 ?_
  rw [show (nI st) + 1 = nI (st + 1) from nI_1 _]
  refine r_put hx hb hC hP hS i_MO t_MO t_MO_ok n_MO (44) (by decide) rfl rfl 19 (by decide) l_MO_114 rfl rfl rfl (Nat.le_of_ble_eq_true rfl) d_MO_item_19 (fun H locs hP hS => ?_)
  refine lv_aload_n hx hb d_MO_item_22 rfl (lv_at hl 2 rfl) ?_
  refine lv_dup hx hb d_MO_item_23 rfl ?_
  refine r_get hx hb hC hP i_MO (44) (by decide) rfl rfl 9 (by decide) l_MO_86 rfl d_MO_item_24 ?_
  rw [show (su S 44 19 (nI (st + 1))) 44 9 = S 44 9 from by rw [su_int _ _ _ (by decide)]]
  rw [show S 44 9 = nI i from hnx]
  refine lv_iconst (v := 1) hx hb d_MO_item_27 (by decide) ?_
  refine lv_iadd hx hb d_MO_item_28 ?_
  rw [show (nI i) + 1 = nI (i + 1) from nI_1 _]
  refine r_put hx hb hC hP hS i_MO t_MO t_MO_ok n_MO (44) (by decide) rfl rfl 9 (by decide) l_MO_86 rfl rfl rfl (Nat.le_of_ble_eq_true rfl) d_MO_item_29 (fun H locs hP hS => ?_)
  refine lv_aload_n hx hb d_MO_item_32 rfl (lv_at hl 2 rfl) ?_
  refine r_get hx hb hC hP i_MO (44) (by decide) rfl rfl 0 (by decide) l_MO_7 rfl d_MO_item_33 ?_
  refine lv_iload_n hx hb d_MO_item_36 rfl (lv_at hl 1 rfl) ?_
  refine r_ild hx hb hC hP (45) (by decide) rfl i rfl (by omega) (by decide) d_MO_item_37 ?_
  rw [show (su (su S 44 19 (nI (st + 1))) 44 9 (nI (i + 1))) 45 i = S 45 i from by rw [su_cell _ _ _ (by decide), su_cell _ _ _ (by decide)]]
  rw [show S 45 i = 3 from hop]
  refine lv_tableIn (off := 122) (tgt := 160) hx hb d_MO_item_38 (by decide) (by decide) (by decide) (by decide) ?_
  refine lv_iload_n hx hb d_MO_item_160 rfl (lv_at hl 0 rfl) ?_
  refine lv_if_ne (tgt := 178) hx hb d_MO_item_161 (by decide) (fun c_161 => ?_) (fun c_161 => absurd c_161 ha)
  refine lv_aload_n hx hb d_MO_item_178 rfl (lv_at hl 2 rfl) ?_
  refine lv_iconst (v := 3) hx hb d_MO_item_179 (by decide) ?_
  refine lv_iload_n hx hb d_MO_item_180 rfl (lv_at hl 1 rfl) ?_
  refine lv_iload_n hx hb d_MO_item_181 rfl (lv_at hl 0 rfl) ?_
  refine r_v hC hS (r_runV (np := 3) (As := [.int 3, .int (nI i), .int (S 46 i)]) (rest := []) hx hb hml hC hP hS (by decide) rfl rfl (m_MO_enter l G (su (su S 44 19 (nI (st + 1))) 44 9 (nI (i + 1))) D (by omega) (by rw [su_int _ _ _ (by decide), su_int _ _ _ (by decide)]; exact hD) 3 (nI i) (S 46 i)) l_MO_107 im_MO_enter se_MO_enter in_MO c_MO_enter_in (by decide +kernel) ⟨by simp only [rmF]; omega, by simp only [rmF]; omega⟩ rfl hl.1 (Nat.le_of_ble_eq_true rfl) d_MO_item_182 ⟨Nat.le_refl _, Nat.le_refl _⟩) (fun S_182 H locs hw hP hS => ?_)
  rw [hw] at hP
  refine lv_goto (tgt := 389) hx hb d_MO_item_185 (by decide) ?_
  exact e_v hx hb hr hlk hC hP hS d_MO_item_389 rfl

set_option maxHeartbeats 4000000 in
set_option maxRecDepth 100000 in
theorem m_MO_item_break (l : Launch) (G : WG) (S : SS) (i st : Nat) (hi : i < 128) (hnx : S 44 9 = nI i) (hst9 : st < 1000) (hst : S 44 19 = nI st) (hop : S 45 i = 4) : Cv l y_MO_item b_MO_item 3 3 G [.ref (gA G 44)] S (fun S1 => S1 = moEnds (moStep S i st) 1 0) := by
  refine mk l (by decide +kernel) (Nat.le_of_ble_eq_true rfl) ?_
  intro pp_ ee_ ss_ mm_ be_ me_ co_ ls hx hb hr hlk hml hC hP hS hl
  have hl : lv_has ls 3 [(0, .ref (gA G 44))] := hl
  refine lv_aload_n hx hb d_MO_item_0 rfl (lv_at hl 0 rfl) ?_
  refine r_get hx hb hC hP i_MO (44) (by decide) rfl rfl 9 (by decide) l_MO_86 rfl d_MO_item_1 ?_
  rw [show S 44 9 = nI i from hnx]
  refine lv_istore_n (lv' := [(1, .int (nI i)), (0, .ref (gA G 44))]) hx hb d_MO_item_4 rfl hl (by decide) rfl (fun ls hl => ?_)
  refine lv_aload_n hx hb d_MO_item_5 rfl (lv_at hl 1 rfl) ?_
  refine r_get hx hb hC hP i_MO (44) (by decide) rfl rfl 1 (by decide) l_MO_13 rfl d_MO_item_6 ?_
  refine lv_iload_n hx hb d_MO_item_9 rfl (lv_at hl 0 rfl) ?_
  refine r_ild hx hb hC hP (46) (by decide) rfl i rfl (by omega) (by decide) d_MO_item_10 ?_
  refine lv_istore_n (lv' := [(2, .int (S 46 i)), (1, .int (nI i)), (0, .ref (gA G 44))]) hx hb d_MO_item_11 rfl hl (by decide) rfl (fun ls hl => ?_)
  refine lv_aload_n hx hb d_MO_item_12 rfl (lv_at hl 2 rfl) ?_
  refine lv_dup hx hb d_MO_item_13 rfl ?_
  refine r_get hx hb hC hP i_MO (44) (by decide) rfl rfl 19 (by decide) l_MO_114 rfl d_MO_item_14 ?_
  rw [show S 44 19 = nI st from hst]
  refine lv_iconst (v := 1) hx hb d_MO_item_17 (by decide) ?_
  refine lv_iadd hx hb d_MO_item_18 ?_
  rw [show (nI st) + 1 = nI (st + 1) from nI_1 _]
  refine r_put hx hb hC hP hS i_MO t_MO t_MO_ok n_MO (44) (by decide) rfl rfl 19 (by decide) l_MO_114 rfl rfl rfl (Nat.le_of_ble_eq_true rfl) d_MO_item_19 (fun H locs hP hS => ?_)
  refine lv_aload_n hx hb d_MO_item_22 rfl (lv_at hl 2 rfl) ?_
  refine lv_dup hx hb d_MO_item_23 rfl ?_
  refine r_get hx hb hC hP i_MO (44) (by decide) rfl rfl 9 (by decide) l_MO_86 rfl d_MO_item_24 ?_
  rw [show (su S 44 19 (nI (st + 1))) 44 9 = S 44 9 from by rw [su_int _ _ _ (by decide)]]
  rw [show S 44 9 = nI i from hnx]
  refine lv_iconst (v := 1) hx hb d_MO_item_27 (by decide) ?_
  refine lv_iadd hx hb d_MO_item_28 ?_
  rw [show (nI i) + 1 = nI (i + 1) from nI_1 _]
  refine r_put hx hb hC hP hS i_MO t_MO t_MO_ok n_MO (44) (by decide) rfl rfl 9 (by decide) l_MO_86 rfl rfl rfl (Nat.le_of_ble_eq_true rfl) d_MO_item_29 (fun H locs hP hS => ?_)
  refine lv_aload_n hx hb d_MO_item_32 rfl (lv_at hl 2 rfl) ?_
  refine r_get hx hb hC hP i_MO (44) (by decide) rfl rfl 0 (by decide) l_MO_7 rfl d_MO_item_33 ?_
  refine lv_iload_n hx hb d_MO_item_36 rfl (lv_at hl 1 rfl) ?_
  refine r_ild hx hb hC hP (45) (by decide) rfl i rfl (by omega) (by decide) d_MO_item_37 ?_
  rw [show (su (su S 44 19 (nI (st + 1))) 44 9 (nI (i + 1))) 45 i = S 45 i from by rw [su_cell _ _ _ (by decide), su_cell _ _ _ (by decide)]]
  rw [show S 45 i = 4 from hop]
  refine lv_tableIn (off := 150) (tgt := 188) hx hb d_MO_item_38 (by decide) (by decide) (by decide) (by decide) ?_
  refine lv_aload_n hx hb d_MO_item_188 rfl (lv_at hl 2 rfl) ?_
  refine lv_iconst (v := 1) hx hb d_MO_item_189 (by decide) ?_
  refine lv_iconst (v := 0) hx hb d_MO_item_190 (by decide) ?_
  refine r_v hC hS (r_runV (np := 2) (As := [.int 1, .int 0]) (rest := []) hx hb hml hC hP hS (by decide) rfl rfl (m_MO_ends l G (su (su S 44 19 (nI (st + 1))) 44 9 (nI (i + 1))) 1 0) l_MO_101 im_MO_ends se_MO_ends in_MO c_MO_ends_in (by decide +kernel) ⟨by simp only [rmF]; omega, by simp only [rmF]; omega⟩ rfl hl.1 (Nat.le_of_ble_eq_true rfl) d_MO_item_191 ⟨Nat.le_refl _, Nat.le_refl _⟩) (fun S_191 H locs hw hP hS => ?_)
  rw [hw] at hP
  refine lv_goto (tgt := 389) hx hb d_MO_item_194 (by decide) ?_
  exact e_v hx hb hr hlk hC hP hS d_MO_item_389 rfl

set_option maxHeartbeats 4000000 in
set_option maxRecDepth 100000 in
theorem m_MO_item_next (l : Launch) (G : WG) (S : SS) (i st : Nat) (hi : i < 128) (hnx : S 44 9 = nI i) (hst9 : st < 1000) (hst : S 44 19 = nI st) (hop : S 45 i = 5) : Cv l y_MO_item b_MO_item 3 3 G [.ref (gA G 44)] S (fun S1 => S1 = moEnds (moStep S i st) 2 0) := by
  refine mk l (by decide +kernel) (Nat.le_of_ble_eq_true rfl) ?_
  intro pp_ ee_ ss_ mm_ be_ me_ co_ ls hx hb hr hlk hml hC hP hS hl
  have hl : lv_has ls 3 [(0, .ref (gA G 44))] := hl
  refine lv_aload_n hx hb d_MO_item_0 rfl (lv_at hl 0 rfl) ?_
  refine r_get hx hb hC hP i_MO (44) (by decide) rfl rfl 9 (by decide) l_MO_86 rfl d_MO_item_1 ?_
  rw [show S 44 9 = nI i from hnx]
  refine lv_istore_n (lv' := [(1, .int (nI i)), (0, .ref (gA G 44))]) hx hb d_MO_item_4 rfl hl (by decide) rfl (fun ls hl => ?_)
  refine lv_aload_n hx hb d_MO_item_5 rfl (lv_at hl 1 rfl) ?_
  refine r_get hx hb hC hP i_MO (44) (by decide) rfl rfl 1 (by decide) l_MO_13 rfl d_MO_item_6 ?_
  refine lv_iload_n hx hb d_MO_item_9 rfl (lv_at hl 0 rfl) ?_
  refine r_ild hx hb hC hP (46) (by decide) rfl i rfl (by omega) (by decide) d_MO_item_10 ?_
  refine lv_istore_n (lv' := [(2, .int (S 46 i)), (1, .int (nI i)), (0, .ref (gA G 44))]) hx hb d_MO_item_11 rfl hl (by decide) rfl (fun ls hl => ?_)
  refine lv_aload_n hx hb d_MO_item_12 rfl (lv_at hl 2 rfl) ?_
  refine lv_dup hx hb d_MO_item_13 rfl ?_
  refine r_get hx hb hC hP i_MO (44) (by decide) rfl rfl 19 (by decide) l_MO_114 rfl d_MO_item_14 ?_
  rw [show S 44 19 = nI st from hst]
  refine lv_iconst (v := 1) hx hb d_MO_item_17 (by decide) ?_
  refine lv_iadd hx hb d_MO_item_18 ?_
  rw [show (nI st) + 1 = nI (st + 1) from nI_1 _]
  refine r_put hx hb hC hP hS i_MO t_MO t_MO_ok n_MO (44) (by decide) rfl rfl 19 (by decide) l_MO_114 rfl rfl rfl (Nat.le_of_ble_eq_true rfl) d_MO_item_19 (fun H locs hP hS => ?_)
  refine lv_aload_n hx hb d_MO_item_22 rfl (lv_at hl 2 rfl) ?_
  refine lv_dup hx hb d_MO_item_23 rfl ?_
  refine r_get hx hb hC hP i_MO (44) (by decide) rfl rfl 9 (by decide) l_MO_86 rfl d_MO_item_24 ?_
  rw [show (su S 44 19 (nI (st + 1))) 44 9 = S 44 9 from by rw [su_int _ _ _ (by decide)]]
  rw [show S 44 9 = nI i from hnx]
  refine lv_iconst (v := 1) hx hb d_MO_item_27 (by decide) ?_
  refine lv_iadd hx hb d_MO_item_28 ?_
  rw [show (nI i) + 1 = nI (i + 1) from nI_1 _]
  refine r_put hx hb hC hP hS i_MO t_MO t_MO_ok n_MO (44) (by decide) rfl rfl 9 (by decide) l_MO_86 rfl rfl rfl (Nat.le_of_ble_eq_true rfl) d_MO_item_29 (fun H locs hP hS => ?_)
  refine lv_aload_n hx hb d_MO_item_32 rfl (lv_at hl 2 rfl) ?_
  refine r_get hx hb hC hP i_MO (44) (by decide) rfl rfl 0 (by decide) l_MO_7 rfl d_MO_item_33 ?_
  refine lv_iload_n hx hb d_MO_item_36 rfl (lv_at hl 1 rfl) ?_
  refine r_ild hx hb hC hP (45) (by decide) rfl i rfl (by omega) (by decide) d_MO_item_37 ?_
  rw [show (su (su S 44 19 (nI (st + 1))) 44 9 (nI (i + 1))) 45 i = S 45 i from by rw [su_cell _ _ _ (by decide), su_cell _ _ _ (by decide)]]
  rw [show S 45 i = 5 from hop]
  refine lv_tableIn (off := 159) (tgt := 197) hx hb d_MO_item_38 (by decide) (by decide) (by decide) (by decide) ?_
  refine lv_aload_n hx hb d_MO_item_197 rfl (lv_at hl 2 rfl) ?_
  refine lv_iconst (v := 2) hx hb d_MO_item_198 (by decide) ?_
  refine lv_iconst (v := 0) hx hb d_MO_item_199 (by decide) ?_
  refine r_v hC hS (r_runV (np := 2) (As := [.int 2, .int 0]) (rest := []) hx hb hml hC hP hS (by decide) rfl rfl (m_MO_ends l G (su (su S 44 19 (nI (st + 1))) 44 9 (nI (i + 1))) 2 0) l_MO_101 im_MO_ends se_MO_ends in_MO c_MO_ends_in (by decide +kernel) ⟨by simp only [rmF]; omega, by simp only [rmF]; omega⟩ rfl hl.1 (Nat.le_of_ble_eq_true rfl) d_MO_item_200 ⟨Nat.le_refl _, Nat.le_refl _⟩) (fun S_200 H locs hw hP hS => ?_)
  rw [hw] at hP
  refine lv_goto (tgt := 389) hx hb d_MO_item_203 (by decide) ?_
  exact e_v hx hb hr hlk hC hP hS d_MO_item_389 rfl

set_option maxHeartbeats 4000000 in
set_option maxRecDepth 100000 in
theorem m_MO_item_return (l : Launch) (G : WG) (S : SS) (i st : Nat) (hi : i < 128) (hnx : S 44 9 = nI i) (hst9 : st < 1000) (hst : S 44 19 = nI st) (hop : S 45 i = 6) : Cv l y_MO_item b_MO_item 3 3 G [.ref (gA G 44)] S (fun S1 => S1 = moEnds (moStep S i st) 3 (S 44 10 + S 46 i)) := by
  refine mk l (by decide +kernel) (Nat.le_of_ble_eq_true rfl) ?_
  intro pp_ ee_ ss_ mm_ be_ me_ co_ ls hx hb hr hlk hml hC hP hS hl
  have hl : lv_has ls 3 [(0, .ref (gA G 44))] := hl
  refine lv_aload_n hx hb d_MO_item_0 rfl (lv_at hl 0 rfl) ?_
  refine r_get hx hb hC hP i_MO (44) (by decide) rfl rfl 9 (by decide) l_MO_86 rfl d_MO_item_1 ?_
  rw [show S 44 9 = nI i from hnx]
  refine lv_istore_n (lv' := [(1, .int (nI i)), (0, .ref (gA G 44))]) hx hb d_MO_item_4 rfl hl (by decide) rfl (fun ls hl => ?_)
  refine lv_aload_n hx hb d_MO_item_5 rfl (lv_at hl 1 rfl) ?_
  refine r_get hx hb hC hP i_MO (44) (by decide) rfl rfl 1 (by decide) l_MO_13 rfl d_MO_item_6 ?_
  refine lv_iload_n hx hb d_MO_item_9 rfl (lv_at hl 0 rfl) ?_
  refine r_ild hx hb hC hP (46) (by decide) rfl i rfl (by omega) (by decide) d_MO_item_10 ?_
  refine lv_istore_n (lv' := [(2, .int (S 46 i)), (1, .int (nI i)), (0, .ref (gA G 44))]) hx hb d_MO_item_11 rfl hl (by decide) rfl (fun ls hl => ?_)
  refine lv_aload_n hx hb d_MO_item_12 rfl (lv_at hl 2 rfl) ?_
  refine lv_dup hx hb d_MO_item_13 rfl ?_
  refine r_get hx hb hC hP i_MO (44) (by decide) rfl rfl 19 (by decide) l_MO_114 rfl d_MO_item_14 ?_
  rw [show S 44 19 = nI st from hst]
  refine lv_iconst (v := 1) hx hb d_MO_item_17 (by decide) ?_
  refine lv_iadd hx hb d_MO_item_18 ?_
  rw [show (nI st) + 1 = nI (st + 1) from nI_1 _]
  refine r_put hx hb hC hP hS i_MO t_MO t_MO_ok n_MO (44) (by decide) rfl rfl 19 (by decide) l_MO_114 rfl rfl rfl (Nat.le_of_ble_eq_true rfl) d_MO_item_19 (fun H locs hP hS => ?_)
  refine lv_aload_n hx hb d_MO_item_22 rfl (lv_at hl 2 rfl) ?_
  refine lv_dup hx hb d_MO_item_23 rfl ?_
  refine r_get hx hb hC hP i_MO (44) (by decide) rfl rfl 9 (by decide) l_MO_86 rfl d_MO_item_24 ?_
  rw [show (su S 44 19 (nI (st + 1))) 44 9 = S 44 9 from by rw [su_int _ _ _ (by decide)]]
  rw [show S 44 9 = nI i from hnx]
  refine lv_iconst (v := 1) hx hb d_MO_item_27 (by decide) ?_
  refine lv_iadd hx hb d_MO_item_28 ?_
  rw [show (nI i) + 1 = nI (i + 1) from nI_1 _]
  refine r_put hx hb hC hP hS i_MO t_MO t_MO_ok n_MO (44) (by decide) rfl rfl 9 (by decide) l_MO_86 rfl rfl rfl (Nat.le_of_ble_eq_true rfl) d_MO_item_29 (fun H locs hP hS => ?_)
  refine lv_aload_n hx hb d_MO_item_32 rfl (lv_at hl 2 rfl) ?_
  refine r_get hx hb hC hP i_MO (44) (by decide) rfl rfl 0 (by decide) l_MO_7 rfl d_MO_item_33 ?_
  refine lv_iload_n hx hb d_MO_item_36 rfl (lv_at hl 1 rfl) ?_
  refine r_ild hx hb hC hP (45) (by decide) rfl i rfl (by omega) (by decide) d_MO_item_37 ?_
  rw [show (su (su S 44 19 (nI (st + 1))) 44 9 (nI (i + 1))) 45 i = S 45 i from by rw [su_cell _ _ _ (by decide), su_cell _ _ _ (by decide)]]
  rw [show S 45 i = 6 from hop]
  refine lv_tableIn (off := 168) (tgt := 206) hx hb d_MO_item_38 (by decide) (by decide) (by decide) (by decide) ?_
  refine lv_aload_n hx hb d_MO_item_206 rfl (lv_at hl 2 rfl) ?_
  refine lv_iconst (v := 3) hx hb d_MO_item_207 (by decide) ?_
  refine lv_aload_n hx hb d_MO_item_208 rfl (lv_at hl 2 rfl) ?_
  refine r_get hx hb hC hP i_MO (44) (by decide) rfl rfl 10 (by decide) l_MO_121 rfl d_MO_item_209 ?_
  rw [show (su (su S 44 19 (nI (st + 1))) 44 9 (nI (i + 1))) 44 10 = S 44 10 from by rw [su_int _ _ _ (by decide), su_int _ _ _ (by decide)]]
  refine lv_iload_n hx hb d_MO_item_212 rfl (lv_at hl 0 rfl) ?_
  refine lv_iadd hx hb d_MO_item_213 ?_
  refine r_v hC hS (r_runV (np := 2) (As := [.int 3, .int ((S 44 10) + (S 46 i))]) (rest := []) hx hb hml hC hP hS (by decide) rfl rfl (m_MO_ends l G (su (su S 44 19 (nI (st + 1))) 44 9 (nI (i + 1))) 3 ((S 44 10) + (S 46 i))) l_MO_101 im_MO_ends se_MO_ends in_MO c_MO_ends_in (by decide +kernel) ⟨by simp only [rmF]; omega, by simp only [rmF]; omega⟩ rfl hl.1 (Nat.le_of_ble_eq_true rfl) d_MO_item_214 ⟨Nat.le_refl _, Nat.le_refl _⟩) (fun S_214 H locs hw hP hS => ?_)
  rw [hw] at hP
  refine lv_goto (tgt := 389) hx hb d_MO_item_217 (by decide) ?_
  exact e_v hx hb hr hlk hC hP hS d_MO_item_389 rfl

set_option maxHeartbeats 4000000 in
set_option maxRecDepth 100000 in
theorem m_MO_item_raise (l : Launch) (G : WG) (S : SS) (i st : Nat) (hi : i < 128) (hnx : S 44 9 = nI i) (hst9 : st < 1000) (hst : S 44 19 = nI st) (hop : S 45 i = 7) (n : Nat) (hn6 : n < 600) (hn : S 44 18 = nI n) : Cv l y_MO_item b_MO_item 3 3 G [.ref (gA G 44)] S (fun S1 => S1 = moRaise (moStep S i st) n (S 46 i) 0) := by
  refine mk l (by decide +kernel) (Nat.le_of_ble_eq_true rfl) ?_
  intro pp_ ee_ ss_ mm_ be_ me_ co_ ls hx hb hr hlk hml hC hP hS hl
  have hl : lv_has ls 3 [(0, .ref (gA G 44))] := hl
  refine lv_aload_n hx hb d_MO_item_0 rfl (lv_at hl 0 rfl) ?_
  refine r_get hx hb hC hP i_MO (44) (by decide) rfl rfl 9 (by decide) l_MO_86 rfl d_MO_item_1 ?_
  rw [show S 44 9 = nI i from hnx]
  refine lv_istore_n (lv' := [(1, .int (nI i)), (0, .ref (gA G 44))]) hx hb d_MO_item_4 rfl hl (by decide) rfl (fun ls hl => ?_)
  refine lv_aload_n hx hb d_MO_item_5 rfl (lv_at hl 1 rfl) ?_
  refine r_get hx hb hC hP i_MO (44) (by decide) rfl rfl 1 (by decide) l_MO_13 rfl d_MO_item_6 ?_
  refine lv_iload_n hx hb d_MO_item_9 rfl (lv_at hl 0 rfl) ?_
  refine r_ild hx hb hC hP (46) (by decide) rfl i rfl (by omega) (by decide) d_MO_item_10 ?_
  refine lv_istore_n (lv' := [(2, .int (S 46 i)), (1, .int (nI i)), (0, .ref (gA G 44))]) hx hb d_MO_item_11 rfl hl (by decide) rfl (fun ls hl => ?_)
  refine lv_aload_n hx hb d_MO_item_12 rfl (lv_at hl 2 rfl) ?_
  refine lv_dup hx hb d_MO_item_13 rfl ?_
  refine r_get hx hb hC hP i_MO (44) (by decide) rfl rfl 19 (by decide) l_MO_114 rfl d_MO_item_14 ?_
  rw [show S 44 19 = nI st from hst]
  refine lv_iconst (v := 1) hx hb d_MO_item_17 (by decide) ?_
  refine lv_iadd hx hb d_MO_item_18 ?_
  rw [show (nI st) + 1 = nI (st + 1) from nI_1 _]
  refine r_put hx hb hC hP hS i_MO t_MO t_MO_ok n_MO (44) (by decide) rfl rfl 19 (by decide) l_MO_114 rfl rfl rfl (Nat.le_of_ble_eq_true rfl) d_MO_item_19 (fun H locs hP hS => ?_)
  refine lv_aload_n hx hb d_MO_item_22 rfl (lv_at hl 2 rfl) ?_
  refine lv_dup hx hb d_MO_item_23 rfl ?_
  refine r_get hx hb hC hP i_MO (44) (by decide) rfl rfl 9 (by decide) l_MO_86 rfl d_MO_item_24 ?_
  rw [show (su S 44 19 (nI (st + 1))) 44 9 = S 44 9 from by rw [su_int _ _ _ (by decide)]]
  rw [show S 44 9 = nI i from hnx]
  refine lv_iconst (v := 1) hx hb d_MO_item_27 (by decide) ?_
  refine lv_iadd hx hb d_MO_item_28 ?_
  rw [show (nI i) + 1 = nI (i + 1) from nI_1 _]
  refine r_put hx hb hC hP hS i_MO t_MO t_MO_ok n_MO (44) (by decide) rfl rfl 9 (by decide) l_MO_86 rfl rfl rfl (Nat.le_of_ble_eq_true rfl) d_MO_item_29 (fun H locs hP hS => ?_)
  refine lv_aload_n hx hb d_MO_item_32 rfl (lv_at hl 2 rfl) ?_
  refine r_get hx hb hC hP i_MO (44) (by decide) rfl rfl 0 (by decide) l_MO_7 rfl d_MO_item_33 ?_
  refine lv_iload_n hx hb d_MO_item_36 rfl (lv_at hl 1 rfl) ?_
  refine r_ild hx hb hC hP (45) (by decide) rfl i rfl (by omega) (by decide) d_MO_item_37 ?_
  rw [show (su (su S 44 19 (nI (st + 1))) 44 9 (nI (i + 1))) 45 i = S 45 i from by rw [su_cell _ _ _ (by decide), su_cell _ _ _ (by decide)]]
  rw [show S 45 i = 7 from hop]
  refine lv_tableIn (off := 182) (tgt := 220) hx hb d_MO_item_38 (by decide) (by decide) (by decide) (by decide) ?_
  refine lv_aload_n hx hb d_MO_item_220 rfl (lv_at hl 2 rfl) ?_
  refine lv_iload_n hx hb d_MO_item_221 rfl (lv_at hl 0 rfl) ?_
  refine lv_iconst (v := 0) hx hb d_MO_item_222 (by decide) ?_
  refine r_v hC hS (r_runV (np := 2) (As := [.int (S 46 i), .int 0]) (rest := []) hx hb hml hC hP hS (by decide) rfl rfl (m_MO_raise l G (su (su S 44 19 (nI (st + 1))) 44 9 (nI (i + 1))) n (by omega) (by rw [su_int _ _ _ (by decide), su_int _ _ _ (by decide)]; exact hn) (S 46 i) 0) l_MO_124 im_MO_raise se_MO_raise in_MO c_MO_raise_in (by decide +kernel) ⟨by simp only [rmF]; omega, by simp only [rmF]; omega⟩ rfl hl.1 (Nat.le_of_ble_eq_true rfl) d_MO_item_223 ⟨Nat.le_refl _, Nat.le_refl _⟩) (fun S_223 H locs hw hP hS => ?_)
  rw [hw] at hP
  refine lv_goto (tgt := 389) hx hb d_MO_item_226 (by decide) ?_
  exact e_v hx hb hr hlk hC hP hS d_MO_item_389 rfl

set_option maxHeartbeats 4000000 in
set_option maxRecDepth 100000 in
theorem m_MO_item_wrap (l : Launch) (G : WG) (S : SS) (i st : Nat) (hi : i < 128) (hnx : S 44 9 = nI i) (hst9 : st < 1000) (hst : S 44 19 = nI st) (hop : S 45 i = 8) (n : Nat) (hn6 : n < 600) (hn : S 44 18 = nI n) (D b : Nat) (hD8 : D ≤ 80) (hD : S 44 8 = nI D) (hb9 : b < D) (hk9 : S 48 b = 16) (hno : ∀ j, b < j → j < D → ¬ S 48 j = 16) : Cv l y_MO_item b_MO_item 3 3 G [.ref (gA G 44)] S (fun S1 => S1 = moRaise (moStep S i st) n (S 46 i) (S 50 b)) := by
  refine mk l (by decide +kernel) (Nat.le_of_ble_eq_true rfl) ?_
  intro pp_ ee_ ss_ mm_ be_ me_ co_ ls hx hb hr hlk hml hC hP hS hl
  have hl : lv_has ls 3 [(0, .ref (gA G 44))] := hl
  refine lv_aload_n hx hb d_MO_item_0 rfl (lv_at hl 0 rfl) ?_
  refine r_get hx hb hC hP i_MO (44) (by decide) rfl rfl 9 (by decide) l_MO_86 rfl d_MO_item_1 ?_
  rw [show S 44 9 = nI i from hnx]
  refine lv_istore_n (lv' := [(1, .int (nI i)), (0, .ref (gA G 44))]) hx hb d_MO_item_4 rfl hl (by decide) rfl (fun ls hl => ?_)
  refine lv_aload_n hx hb d_MO_item_5 rfl (lv_at hl 1 rfl) ?_
  refine r_get hx hb hC hP i_MO (44) (by decide) rfl rfl 1 (by decide) l_MO_13 rfl d_MO_item_6 ?_
  refine lv_iload_n hx hb d_MO_item_9 rfl (lv_at hl 0 rfl) ?_
  refine r_ild hx hb hC hP (46) (by decide) rfl i rfl (by omega) (by decide) d_MO_item_10 ?_
  refine lv_istore_n (lv' := [(2, .int (S 46 i)), (1, .int (nI i)), (0, .ref (gA G 44))]) hx hb d_MO_item_11 rfl hl (by decide) rfl (fun ls hl => ?_)
  refine lv_aload_n hx hb d_MO_item_12 rfl (lv_at hl 2 rfl) ?_
  refine lv_dup hx hb d_MO_item_13 rfl ?_
  refine r_get hx hb hC hP i_MO (44) (by decide) rfl rfl 19 (by decide) l_MO_114 rfl d_MO_item_14 ?_
  rw [show S 44 19 = nI st from hst]
  refine lv_iconst (v := 1) hx hb d_MO_item_17 (by decide) ?_
  refine lv_iadd hx hb d_MO_item_18 ?_
  rw [show (nI st) + 1 = nI (st + 1) from nI_1 _]
  refine r_put hx hb hC hP hS i_MO t_MO t_MO_ok n_MO (44) (by decide) rfl rfl 19 (by decide) l_MO_114 rfl rfl rfl (Nat.le_of_ble_eq_true rfl) d_MO_item_19 (fun H locs hP hS => ?_)
  refine lv_aload_n hx hb d_MO_item_22 rfl (lv_at hl 2 rfl) ?_
  refine lv_dup hx hb d_MO_item_23 rfl ?_
  refine r_get hx hb hC hP i_MO (44) (by decide) rfl rfl 9 (by decide) l_MO_86 rfl d_MO_item_24 ?_
  rw [show (su S 44 19 (nI (st + 1))) 44 9 = S 44 9 from by rw [su_int _ _ _ (by decide)]]
  rw [show S 44 9 = nI i from hnx]
  refine lv_iconst (v := 1) hx hb d_MO_item_27 (by decide) ?_
  refine lv_iadd hx hb d_MO_item_28 ?_
  rw [show (nI i) + 1 = nI (i + 1) from nI_1 _]
  refine r_put hx hb hC hP hS i_MO t_MO t_MO_ok n_MO (44) (by decide) rfl rfl 9 (by decide) l_MO_86 rfl rfl rfl (Nat.le_of_ble_eq_true rfl) d_MO_item_29 (fun H locs hP hS => ?_)
  refine lv_aload_n hx hb d_MO_item_32 rfl (lv_at hl 2 rfl) ?_
  refine r_get hx hb hC hP i_MO (44) (by decide) rfl rfl 0 (by decide) l_MO_7 rfl d_MO_item_33 ?_
  refine lv_iload_n hx hb d_MO_item_36 rfl (lv_at hl 1 rfl) ?_
  refine r_ild hx hb hC hP (45) (by decide) rfl i rfl (by omega) (by decide) d_MO_item_37 ?_
  rw [show (su (su S 44 19 (nI (st + 1))) 44 9 (nI (i + 1))) 45 i = S 45 i from by rw [su_cell _ _ _ (by decide), su_cell _ _ _ (by decide)]]
  rw [show S 45 i = 8 from hop]
  refine lv_tableIn (off := 191) (tgt := 229) hx hb d_MO_item_38 (by decide) (by decide) (by decide) (by decide) ?_
  refine lv_aload_n hx hb d_MO_item_229 rfl (lv_at hl 2 rfl) ?_
  refine lv_iload_n hx hb d_MO_item_230 rfl (lv_at hl 0 rfl) ?_
  refine lv_aload_n hx hb d_MO_item_231 rfl (lv_at hl 2 rfl) ?_
  refine r_i hC hS (r_runV (np := 0) (As := []) (rest := [.int (S 46 i), .ref (gA G 44)]) hx hb hml hC hP hS (by decide) rfl rfl (m_MO_caught l G (su (su S 44 19 (nI (st + 1))) 44 9 (nI (i + 1))) D b (by omega) (by rw [su_int _ _ _ (by decide), su_int _ _ _ (by decide)]; exact hD) hb9 (by rw [su_cell _ _ _ (by decide), su_cell _ _ _ (by decide)]; exact hk9) (fun j h1 h2 => by rw [su_cell _ _ _ (by decide), su_cell _ _ _ (by decide)]; exact hno j h1 h2)) l_MO_127 im_MO_caught se_MO_caught in_MO c_MO_caught_in (by decide +kernel) ⟨by simp only [rmF]; omega, by simp only [rmF]; omega⟩ rfl hl.1 (Nat.le_of_ble_eq_true rfl) d_MO_item_232 ⟨Nat.le_refl _, Nat.le_refl _⟩) (fun r_232 S_232 H locs hw hP hS => ?_)
  obtain ⟨rfl, hSe⟩ := hw
  rw [hSe] at hP
  rw [show (su (su S 44 19 (nI (st + 1))) 44 9 (nI (i + 1))) 50 b = S 50 b from by rw [su_cell _ _ _ (by decide), su_cell _ _ _ (by decide)]]
  refine r_v hC hS (r_runV (np := 2) (As := [.int (S 46 i), .int (S 50 b)]) (rest := []) hx hb hml hC hP hS (by decide) rfl rfl (m_MO_raise l G (su (su S 44 19 (nI (st + 1))) 44 9 (nI (i + 1))) n (by omega) (by rw [su_int _ _ _ (by decide), su_int _ _ _ (by decide)]; exact hn) (S 46 i) (S 50 b)) l_MO_124 im_MO_raise se_MO_raise in_MO c_MO_raise_in (by decide +kernel) ⟨by simp only [rmF]; omega, by simp only [rmF]; omega⟩ rfl hl.1 (Nat.le_of_ble_eq_true rfl) d_MO_item_235 ⟨Nat.le_refl _, Nat.le_refl _⟩) (fun S_235 H locs hw hP hS => ?_)
  rw [hw] at hP
  refine lv_goto (tgt := 389) hx hb d_MO_item_238 (by decide) ?_
  exact e_v hx hb hr hlk hC hP hS d_MO_item_389 rfl

set_option maxHeartbeats 4000000 in
set_option maxRecDepth 100000 in
theorem m_MO_item_try (l : Launch) (G : WG) (S : SS) (i st : Nat) (hi : i < 128) (hnx : S 44 9 = nI i) (hst9 : st < 1000) (hst : S 44 19 = nI st) (hop : S 45 i = 9) (D : Nat) (hD8 : D < 80) (hD : S 44 8 = nI D) : Cv l y_MO_item b_MO_item 3 3 G [.ref (gA G 44)] S (fun S1 => S1 = moEnter (moStep S i st) D 9 (nI i) 0) := by
  refine mk l (by decide +kernel) (Nat.le_of_ble_eq_true rfl) ?_
  intro pp_ ee_ ss_ mm_ be_ me_ co_ ls hx hb hr hlk hml hC hP hS hl
  have hl : lv_has ls 3 [(0, .ref (gA G 44))] := hl
  refine lv_aload_n hx hb d_MO_item_0 rfl (lv_at hl 0 rfl) ?_
  refine r_get hx hb hC hP i_MO (44) (by decide) rfl rfl 9 (by decide) l_MO_86 rfl d_MO_item_1 ?_
  rw [show S 44 9 = nI i from hnx]
  refine lv_istore_n (lv' := [(1, .int (nI i)), (0, .ref (gA G 44))]) hx hb d_MO_item_4 rfl hl (by decide) rfl (fun ls hl => ?_)
  refine lv_aload_n hx hb d_MO_item_5 rfl (lv_at hl 1 rfl) ?_
  refine r_get hx hb hC hP i_MO (44) (by decide) rfl rfl 1 (by decide) l_MO_13 rfl d_MO_item_6 ?_
  refine lv_iload_n hx hb d_MO_item_9 rfl (lv_at hl 0 rfl) ?_
  refine r_ild hx hb hC hP (46) (by decide) rfl i rfl (by omega) (by decide) d_MO_item_10 ?_
  refine lv_istore_n (lv' := [(2, .int (S 46 i)), (1, .int (nI i)), (0, .ref (gA G 44))]) hx hb d_MO_item_11 rfl hl (by decide) rfl (fun ls hl => ?_)
  refine lv_aload_n hx hb d_MO_item_12 rfl (lv_at hl 2 rfl) ?_
  refine lv_dup hx hb d_MO_item_13 rfl ?_
  refine r_get hx hb hC hP i_MO (44) (by decide) rfl rfl 19 (by decide) l_MO_114 rfl d_MO_item_14 ?_
  rw [show S 44 19 = nI st from hst]
  refine lv_iconst (v := 1) hx hb d_MO_item_17 (by decide) ?_
  refine lv_iadd hx hb d_MO_item_18 ?_
  rw [show (nI st) + 1 = nI (st + 1) from nI_1 _]
  refine r_put hx hb hC hP hS i_MO t_MO t_MO_ok n_MO (44) (by decide) rfl rfl 19 (by decide) l_MO_114 rfl rfl rfl (Nat.le_of_ble_eq_true rfl) d_MO_item_19 (fun H locs hP hS => ?_)
  refine lv_aload_n hx hb d_MO_item_22 rfl (lv_at hl 2 rfl) ?_
  refine lv_dup hx hb d_MO_item_23 rfl ?_
  refine r_get hx hb hC hP i_MO (44) (by decide) rfl rfl 9 (by decide) l_MO_86 rfl d_MO_item_24 ?_
  rw [show (su S 44 19 (nI (st + 1))) 44 9 = S 44 9 from by rw [su_int _ _ _ (by decide)]]
  rw [show S 44 9 = nI i from hnx]
  refine lv_iconst (v := 1) hx hb d_MO_item_27 (by decide) ?_
  refine lv_iadd hx hb d_MO_item_28 ?_
  rw [show (nI i) + 1 = nI (i + 1) from nI_1 _]
  refine r_put hx hb hC hP hS i_MO t_MO t_MO_ok n_MO (44) (by decide) rfl rfl 9 (by decide) l_MO_86 rfl rfl rfl (Nat.le_of_ble_eq_true rfl) d_MO_item_29 (fun H locs hP hS => ?_)
  refine lv_aload_n hx hb d_MO_item_32 rfl (lv_at hl 2 rfl) ?_
  refine r_get hx hb hC hP i_MO (44) (by decide) rfl rfl 0 (by decide) l_MO_7 rfl d_MO_item_33 ?_
  refine lv_iload_n hx hb d_MO_item_36 rfl (lv_at hl 1 rfl) ?_
  refine r_ild hx hb hC hP (45) (by decide) rfl i rfl (by omega) (by decide) d_MO_item_37 ?_
  rw [show (su (su S 44 19 (nI (st + 1))) 44 9 (nI (i + 1))) 45 i = S 45 i from by rw [su_cell _ _ _ (by decide), su_cell _ _ _ (by decide)]]
  rw [show S 45 i = 9 from hop]
  refine lv_tableIn (off := 203) (tgt := 241) hx hb d_MO_item_38 (by decide) (by decide) (by decide) (by decide) ?_
  refine lv_aload_n hx hb d_MO_item_241 rfl (lv_at hl 2 rfl) ?_
  refine lv_bipush (v := 9) hx hb d_MO_item_242 (by decide) ?_
  refine lv_iload_n hx hb d_MO_item_244 rfl (lv_at hl 1 rfl) ?_
  refine lv_iconst (v := 0) hx hb d_MO_item_245 (by decide) ?_
  refine r_v hC hS (r_runV (np := 3) (As := [.int 9, .int (nI i), .int 0]) (rest := []) hx hb hml hC hP hS (by decide) rfl rfl (m_MO_enter l G (su (su S 44 19 (nI (st + 1))) 44 9 (nI (i + 1))) D (by omega) (by rw [su_int _ _ _ (by decide), su_int _ _ _ (by decide)]; exact hD) 9 (nI i) 0) l_MO_107 im_MO_enter se_MO_enter in_MO c_MO_enter_in (by decide +kernel) ⟨by simp only [rmF]; omega, by simp only [rmF]; omega⟩ rfl hl.1 (Nat.le_of_ble_eq_true rfl) d_MO_item_246 ⟨Nat.le_refl _, Nat.le_refl _⟩) (fun S_246 H locs hw hP hS => ?_)
  rw [hw] at hP
  refine lv_goto (tgt := 389) hx hb d_MO_item_249 (by decide) ?_
  exact e_v hx hb hr hlk hC hP hS d_MO_item_389 rfl

set_option maxHeartbeats 4000000 in
set_option maxRecDepth 100000 in
theorem m_MO_item_lock (l : Launch) (G : WG) (S : SS) (i st : Nat) (hi : i < 128) (hnx : S 44 9 = nI i) (hst9 : st < 1000) (hst : S 44 19 = nI st) (hop : S 45 i = 10) (D : Nat) (hD8 : D < 80) (hD : S 44 8 = nI D) (lo : Nat) (hlo3 : lo < 3) (hlo : S 46 i = nI lo) : Cv l y_MO_item b_MO_item 3 3 G [.ref (gA G 44)] S (fun S1 => S1 = moEnter (moHold (moStep S i st) lo) D 10 (nI i) (nI lo)) := by
  refine mk l (by decide +kernel) (Nat.le_of_ble_eq_true rfl) ?_
  intro pp_ ee_ ss_ mm_ be_ me_ co_ ls hx hb hr hlk hml hC hP hS hl
  have hl : lv_has ls 3 [(0, .ref (gA G 44))] := hl
  refine lv_aload_n hx hb d_MO_item_0 rfl (lv_at hl 0 rfl) ?_
  refine r_get hx hb hC hP i_MO (44) (by decide) rfl rfl 9 (by decide) l_MO_86 rfl d_MO_item_1 ?_
  rw [show S 44 9 = nI i from hnx]
  refine lv_istore_n (lv' := [(1, .int (nI i)), (0, .ref (gA G 44))]) hx hb d_MO_item_4 rfl hl (by decide) rfl (fun ls hl => ?_)
  refine lv_aload_n hx hb d_MO_item_5 rfl (lv_at hl 1 rfl) ?_
  refine r_get hx hb hC hP i_MO (44) (by decide) rfl rfl 1 (by decide) l_MO_13 rfl d_MO_item_6 ?_
  refine lv_iload_n hx hb d_MO_item_9 rfl (lv_at hl 0 rfl) ?_
  refine r_ild hx hb hC hP (46) (by decide) rfl i rfl (by omega) (by decide) d_MO_item_10 ?_
  rw [show S 46 i = nI lo from hlo]
  refine lv_istore_n (lv' := [(2, .int (nI lo)), (1, .int (nI i)), (0, .ref (gA G 44))]) hx hb d_MO_item_11 rfl hl (by decide) rfl (fun ls hl => ?_)
  refine lv_aload_n hx hb d_MO_item_12 rfl (lv_at hl 2 rfl) ?_
  refine lv_dup hx hb d_MO_item_13 rfl ?_
  refine r_get hx hb hC hP i_MO (44) (by decide) rfl rfl 19 (by decide) l_MO_114 rfl d_MO_item_14 ?_
  rw [show S 44 19 = nI st from hst]
  refine lv_iconst (v := 1) hx hb d_MO_item_17 (by decide) ?_
  refine lv_iadd hx hb d_MO_item_18 ?_
  rw [show (nI st) + 1 = nI (st + 1) from nI_1 _]
  refine r_put hx hb hC hP hS i_MO t_MO t_MO_ok n_MO (44) (by decide) rfl rfl 19 (by decide) l_MO_114 rfl rfl rfl (Nat.le_of_ble_eq_true rfl) d_MO_item_19 (fun H locs hP hS => ?_)
  refine lv_aload_n hx hb d_MO_item_22 rfl (lv_at hl 2 rfl) ?_
  refine lv_dup hx hb d_MO_item_23 rfl ?_
  refine r_get hx hb hC hP i_MO (44) (by decide) rfl rfl 9 (by decide) l_MO_86 rfl d_MO_item_24 ?_
  rw [show (su S 44 19 (nI (st + 1))) 44 9 = S 44 9 from by rw [su_int _ _ _ (by decide)]]
  rw [show S 44 9 = nI i from hnx]
  refine lv_iconst (v := 1) hx hb d_MO_item_27 (by decide) ?_
  refine lv_iadd hx hb d_MO_item_28 ?_
  rw [show (nI i) + 1 = nI (i + 1) from nI_1 _]
  refine r_put hx hb hC hP hS i_MO t_MO t_MO_ok n_MO (44) (by decide) rfl rfl 9 (by decide) l_MO_86 rfl rfl rfl (Nat.le_of_ble_eq_true rfl) d_MO_item_29 (fun H locs hP hS => ?_)
  refine lv_aload_n hx hb d_MO_item_32 rfl (lv_at hl 2 rfl) ?_
  refine r_get hx hb hC hP i_MO (44) (by decide) rfl rfl 0 (by decide) l_MO_7 rfl d_MO_item_33 ?_
  refine lv_iload_n hx hb d_MO_item_36 rfl (lv_at hl 1 rfl) ?_
  refine r_ild hx hb hC hP (45) (by decide) rfl i rfl (by omega) (by decide) d_MO_item_37 ?_
  rw [show (su (su S 44 19 (nI (st + 1))) 44 9 (nI (i + 1))) 45 i = S 45 i from by rw [su_cell _ _ _ (by decide), su_cell _ _ _ (by decide)]]
  rw [show S 45 i = 10 from hop]
  refine lv_tableIn (off := 214) (tgt := 252) hx hb d_MO_item_38 (by decide) (by decide) (by decide) (by decide) ?_
  refine lv_aload_n hx hb d_MO_item_252 rfl (lv_at hl 2 rfl) ?_
  refine lv_iload_n hx hb d_MO_item_253 rfl (lv_at hl 0 rfl) ?_
  refine r_v hC hS (r_runV (np := 1) (As := [.int (nI lo)]) (rest := []) hx hb hml hC hP hS (by decide) rfl rfl (m_MO_hold l G (su (su S 44 19 (nI (st + 1))) 44 9 (nI (i + 1))) lo (by omega)) l_MO_131 im_MO_hold se_MO_hold in_MO c_MO_hold_in (by decide +kernel) ⟨by simp only [rmF]; omega, by simp only [rmF]; omega⟩ rfl hl.1 (Nat.le_of_ble_eq_true rfl) d_MO_item_254 ⟨Nat.le_refl _, Nat.le_refl _⟩) (fun S_254 H locs hw hP hS => ?_)
  rw [hw] at hP
  refine lv_aload_n hx hb d_MO_item_257 rfl (lv_at hl 2 rfl) ?_
  refine lv_bipush (v := 10) hx hb d_MO_item_258 (by decide) ?_
  refine lv_iload_n hx hb d_MO_item_260 rfl (lv_at hl 1 rfl) ?_
  refine lv_iload_n hx hb d_MO_item_261 rfl (lv_at hl 0 rfl) ?_
  refine r_v hC hS (r_runV (np := 3) (As := [.int 10, .int (nI i), .int (nI lo)]) (rest := []) hx hb hml hC hP hS (by decide) rfl rfl (m_MO_enter l G (moHold (su (su S 44 19 (nI (st + 1))) 44 9 (nI (i + 1))) lo) D (by omega) (by rw [moHold_k _ _ (by omega), su_int _ _ _ (by decide), su_int _ _ _ (by decide)]; exact hD) 10 (nI i) (nI lo)) l_MO_107 im_MO_enter se_MO_enter in_MO c_MO_enter_in (by decide +kernel) ⟨by simp only [rmF]; omega, by simp only [rmF]; omega⟩ rfl hl.1 (Nat.le_of_ble_eq_true rfl) d_MO_item_262 ⟨Nat.le_refl _, Nat.le_refl _⟩) (fun S_262 H locs hw hP hS => ?_)
  rw [hw] at hP
  refine lv_goto (tgt := 389) hx hb d_MO_item_265 (by decide) ?_
  exact e_v hx hb hr hlk hC hP hS d_MO_item_389 rfl

set_option maxHeartbeats 4000000 in
set_option maxRecDepth 100000 in
theorem m_MO_item_enter (l : Launch) (G : WG) (S : SS) (i st : Nat) (hi : i < 128) (hnx : S 44 9 = nI i) (hst9 : st < 1000) (hst : S 44 19 = nI st) (hop : S 45 i = 11) (lo : Nat) (hlo3 : lo < 3) (hlo : S 46 i = nI lo) (q : Nat) (hq6 : q < 6) (hq : S 44 13 = nI (q + 1)) : Cv l y_MO_item b_MO_item 3 3 G [.ref (gA G 44)] S (fun S1 => S1 = su (moHold (moStep S i st) lo) 52 (3 * q + lo) (S 52 (3 * q + lo) + 1)) := by
  refine mk l (by decide +kernel) (Nat.le_of_ble_eq_true rfl) ?_
  intro pp_ ee_ ss_ mm_ be_ me_ co_ ls hx hb hr hlk hml hC hP hS hl
  have hl : lv_has ls 3 [(0, .ref (gA G 44))] := hl
  refine lv_aload_n hx hb d_MO_item_0 rfl (lv_at hl 0 rfl) ?_
  refine r_get hx hb hC hP i_MO (44) (by decide) rfl rfl 9 (by decide) l_MO_86 rfl d_MO_item_1 ?_
  rw [show S 44 9 = nI i from hnx]
  refine lv_istore_n (lv' := [(1, .int (nI i)), (0, .ref (gA G 44))]) hx hb d_MO_item_4 rfl hl (by decide) rfl (fun ls hl => ?_)
  refine lv_aload_n hx hb d_MO_item_5 rfl (lv_at hl 1 rfl) ?_
  refine r_get hx hb hC hP i_MO (44) (by decide) rfl rfl 1 (by decide) l_MO_13 rfl d_MO_item_6 ?_
  refine lv_iload_n hx hb d_MO_item_9 rfl (lv_at hl 0 rfl) ?_
  refine r_ild hx hb hC hP (46) (by decide) rfl i rfl (by omega) (by decide) d_MO_item_10 ?_
  rw [show S 46 i = nI lo from hlo]
  refine lv_istore_n (lv' := [(2, .int (nI lo)), (1, .int (nI i)), (0, .ref (gA G 44))]) hx hb d_MO_item_11 rfl hl (by decide) rfl (fun ls hl => ?_)
  refine lv_aload_n hx hb d_MO_item_12 rfl (lv_at hl 2 rfl) ?_
  refine lv_dup hx hb d_MO_item_13 rfl ?_
  refine r_get hx hb hC hP i_MO (44) (by decide) rfl rfl 19 (by decide) l_MO_114 rfl d_MO_item_14 ?_
  rw [show S 44 19 = nI st from hst]
  refine lv_iconst (v := 1) hx hb d_MO_item_17 (by decide) ?_
  refine lv_iadd hx hb d_MO_item_18 ?_
  rw [show (nI st) + 1 = nI (st + 1) from nI_1 _]
  refine r_put hx hb hC hP hS i_MO t_MO t_MO_ok n_MO (44) (by decide) rfl rfl 19 (by decide) l_MO_114 rfl rfl rfl (Nat.le_of_ble_eq_true rfl) d_MO_item_19 (fun H locs hP hS => ?_)
  refine lv_aload_n hx hb d_MO_item_22 rfl (lv_at hl 2 rfl) ?_
  refine lv_dup hx hb d_MO_item_23 rfl ?_
  refine r_get hx hb hC hP i_MO (44) (by decide) rfl rfl 9 (by decide) l_MO_86 rfl d_MO_item_24 ?_
  rw [show (su S 44 19 (nI (st + 1))) 44 9 = S 44 9 from by rw [su_int _ _ _ (by decide)]]
  rw [show S 44 9 = nI i from hnx]
  refine lv_iconst (v := 1) hx hb d_MO_item_27 (by decide) ?_
  refine lv_iadd hx hb d_MO_item_28 ?_
  rw [show (nI i) + 1 = nI (i + 1) from nI_1 _]
  refine r_put hx hb hC hP hS i_MO t_MO t_MO_ok n_MO (44) (by decide) rfl rfl 9 (by decide) l_MO_86 rfl rfl rfl (Nat.le_of_ble_eq_true rfl) d_MO_item_29 (fun H locs hP hS => ?_)
  refine lv_aload_n hx hb d_MO_item_32 rfl (lv_at hl 2 rfl) ?_
  refine r_get hx hb hC hP i_MO (44) (by decide) rfl rfl 0 (by decide) l_MO_7 rfl d_MO_item_33 ?_
  refine lv_iload_n hx hb d_MO_item_36 rfl (lv_at hl 1 rfl) ?_
  refine r_ild hx hb hC hP (45) (by decide) rfl i rfl (by omega) (by decide) d_MO_item_37 ?_
  rw [show (su (su S 44 19 (nI (st + 1))) 44 9 (nI (i + 1))) 45 i = S 45 i from by rw [su_cell _ _ _ (by decide), su_cell _ _ _ (by decide)]]
  rw [show S 45 i = 11 from hop]
  refine lv_tableIn (off := 230) (tgt := 268) hx hb d_MO_item_38 (by decide) (by decide) (by decide) (by decide) ?_
  refine lv_aload_n hx hb d_MO_item_268 rfl (lv_at hl 2 rfl) ?_
  refine lv_iload_n hx hb d_MO_item_269 rfl (lv_at hl 0 rfl) ?_
  refine r_v hC hS (r_runV (np := 1) (As := [.int (nI lo)]) (rest := []) hx hb hml hC hP hS (by decide) rfl rfl (m_MO_hold l G (su (su S 44 19 (nI (st + 1))) 44 9 (nI (i + 1))) lo (by omega)) l_MO_131 im_MO_hold se_MO_hold in_MO c_MO_hold_in (by decide +kernel) ⟨by simp only [rmF]; omega, by simp only [rmF]; omega⟩ rfl hl.1 (Nat.le_of_ble_eq_true rfl) d_MO_item_270 ⟨Nat.le_refl _, Nat.le_refl _⟩) (fun S_270 H locs hw hP hS => ?_)
  rw [hw] at hP
  refine lv_aload_n hx hb d_MO_item_273 rfl (lv_at hl 2 rfl) ?_
  refine r_get hx hb hC hP i_MO (44) (by decide) rfl rfl 14 (by decide) l_MO_35 rfl d_MO_item_274 ?_
  refine lv_iconst (v := 3) hx hb d_MO_item_277 (by decide) ?_
  refine lv_aload_n hx hb d_MO_item_278 rfl (lv_at hl 2 rfl) ?_
  refine r_get hx hb hC hP i_MO (44) (by decide) rfl rfl 13 (by decide) l_MO_111 rfl d_MO_item_279 ?_
  rw [show (moHold (su (su S 44 19 (nI (st + 1))) 44 9 (nI (i + 1))) lo) 44 13 = S 44 13 from by rw [moHold_k _ _ (by omega), su_int _ _ _ (by decide), su_int _ _ _ (by decide)]]
  rw [show S 44 13 = nI (q + 1) from hq]
  refine lv_imul hx hb d_MO_item_282 ?_
  refine lv_iconst (v := 3) hx hb d_MO_item_283 (by decide) ?_
  refine lv_isub hx hb d_MO_item_284 ?_
  refine lv_iload_n hx hb d_MO_item_285 rfl (lv_at hl 0 rfl) ?_
  refine lv_iadd hx hb d_MO_item_286 ?_
  rw [show ((3 * (nI (q + 1))) - 3) + (nI lo) = nI (3 * q + lo) from (nI_lv q lo)]
  refine lv_dup2_11 hx hb d_MO_item_287 rfl rfl ?_
  refine r_ild hx hb hC hP (52) (by decide) rfl (3 * q + lo) rfl (by omega) (by decide) d_MO_item_288 ?_
  rw [show (moHold (su (su S 44 19 (nI (st + 1))) 44 9 (nI (i + 1))) lo) 52 (3 * q + lo) = S 52 (3 * q + lo) from by rw [moHold_k _ _ (by omega), su_cell _ _ _ (by decide), su_cell _ _ _ (by decide)]]
  refine lv_iconst (v := 1) hx hb d_MO_item_289 (by decide) ?_
  refine lv_iadd hx hb d_MO_item_290 ?_
  refine r_ist hx hb hC hP hS (52) (by decide) (fun _ => rfl) (3 * q + lo) rfl (by omega) (by decide) d_MO_item_291 (fun H locs hP hS => ?_)
  refine lv_goto (tgt := 389) hx hb d_MO_item_292 (by decide) ?_
  exact e_v hx hb hr hlk hC hP hS d_MO_item_389 rfl

set_option maxHeartbeats 4000000 in
set_option maxRecDepth 100000 in
theorem m_MO_item_leave (l : Launch) (G : WG) (S : SS) (i st : Nat) (hi : i < 128) (hnx : S 44 9 = nI i) (hst9 : st < 1000) (hst : S 44 19 = nI st) (hop : S 45 i = 12) (lo : Nat) (hlo3 : lo < 3) (hlo : S 46 i = nI lo) (q : Nat) (hq6 : q < 6) (hq : S 44 13 = nI (q + 1)) (n : Nat) (hn6 : n < 600) (hn : S 44 18 = nI n) : Cv l y_MO_item b_MO_item 3 3 G [.ref (gA G 44)] S (fun S1 => S1 = moLeave (moStep S i st) q lo n) := by
  refine mk l (by decide +kernel) (Nat.le_of_ble_eq_true rfl) ?_
  intro pp_ ee_ ss_ mm_ be_ me_ co_ ls hx hb hr hlk hml hC hP hS hl
  have hl : lv_has ls 3 [(0, .ref (gA G 44))] := hl
  refine lv_aload_n hx hb d_MO_item_0 rfl (lv_at hl 0 rfl) ?_
  refine r_get hx hb hC hP i_MO (44) (by decide) rfl rfl 9 (by decide) l_MO_86 rfl d_MO_item_1 ?_
  rw [show S 44 9 = nI i from hnx]
  refine lv_istore_n (lv' := [(1, .int (nI i)), (0, .ref (gA G 44))]) hx hb d_MO_item_4 rfl hl (by decide) rfl (fun ls hl => ?_)
  refine lv_aload_n hx hb d_MO_item_5 rfl (lv_at hl 1 rfl) ?_
  refine r_get hx hb hC hP i_MO (44) (by decide) rfl rfl 1 (by decide) l_MO_13 rfl d_MO_item_6 ?_
  refine lv_iload_n hx hb d_MO_item_9 rfl (lv_at hl 0 rfl) ?_
  refine r_ild hx hb hC hP (46) (by decide) rfl i rfl (by omega) (by decide) d_MO_item_10 ?_
  rw [show S 46 i = nI lo from hlo]
  refine lv_istore_n (lv' := [(2, .int (nI lo)), (1, .int (nI i)), (0, .ref (gA G 44))]) hx hb d_MO_item_11 rfl hl (by decide) rfl (fun ls hl => ?_)
  refine lv_aload_n hx hb d_MO_item_12 rfl (lv_at hl 2 rfl) ?_
  refine lv_dup hx hb d_MO_item_13 rfl ?_
  refine r_get hx hb hC hP i_MO (44) (by decide) rfl rfl 19 (by decide) l_MO_114 rfl d_MO_item_14 ?_
  rw [show S 44 19 = nI st from hst]
  refine lv_iconst (v := 1) hx hb d_MO_item_17 (by decide) ?_
  refine lv_iadd hx hb d_MO_item_18 ?_
  rw [show (nI st) + 1 = nI (st + 1) from nI_1 _]
  refine r_put hx hb hC hP hS i_MO t_MO t_MO_ok n_MO (44) (by decide) rfl rfl 19 (by decide) l_MO_114 rfl rfl rfl (Nat.le_of_ble_eq_true rfl) d_MO_item_19 (fun H locs hP hS => ?_)
  refine lv_aload_n hx hb d_MO_item_22 rfl (lv_at hl 2 rfl) ?_
  refine lv_dup hx hb d_MO_item_23 rfl ?_
  refine r_get hx hb hC hP i_MO (44) (by decide) rfl rfl 9 (by decide) l_MO_86 rfl d_MO_item_24 ?_
  rw [show (su S 44 19 (nI (st + 1))) 44 9 = S 44 9 from by rw [su_int _ _ _ (by decide)]]
  rw [show S 44 9 = nI i from hnx]
  refine lv_iconst (v := 1) hx hb d_MO_item_27 (by decide) ?_
  refine lv_iadd hx hb d_MO_item_28 ?_
  rw [show (nI i) + 1 = nI (i + 1) from nI_1 _]
  refine r_put hx hb hC hP hS i_MO t_MO t_MO_ok n_MO (44) (by decide) rfl rfl 9 (by decide) l_MO_86 rfl rfl rfl (Nat.le_of_ble_eq_true rfl) d_MO_item_29 (fun H locs hP hS => ?_)
  refine lv_aload_n hx hb d_MO_item_32 rfl (lv_at hl 2 rfl) ?_
  refine r_get hx hb hC hP i_MO (44) (by decide) rfl rfl 0 (by decide) l_MO_7 rfl d_MO_item_33 ?_
  refine lv_iload_n hx hb d_MO_item_36 rfl (lv_at hl 1 rfl) ?_
  refine r_ild hx hb hC hP (45) (by decide) rfl i rfl (by omega) (by decide) d_MO_item_37 ?_
  rw [show (su (su S 44 19 (nI (st + 1))) 44 9 (nI (i + 1))) 45 i = S 45 i from by rw [su_cell _ _ _ (by decide), su_cell _ _ _ (by decide)]]
  rw [show S 45 i = 12 from hop]
  refine lv_tableIn (off := 257) (tgt := 295) hx hb d_MO_item_38 (by decide) (by decide) (by decide) (by decide) ?_
  refine lv_aload_n hx hb d_MO_item_295 rfl (lv_at hl 2 rfl) ?_
  refine lv_iload_n hx hb d_MO_item_296 rfl (lv_at hl 0 rfl) ?_
  refine r_v hC hS (r_runV (np := 1) (As := [.int (nI lo)]) (rest := []) hx hb hml hC hP hS (by decide) rfl rfl (m_MO_leave l G (su (su S 44 19 (nI (st + 1))) 44 9 (nI (i + 1))) q lo n (by omega) (by rw [su_int _ _ _ (by decide), su_int _ _ _ (by decide)]; exact hn) (by omega) (by rw [su_int _ _ _ (by decide), su_int _ _ _ (by decide)]; exact hq) (by omega)) l_MO_134 im_MO_leave se_MO_leave in_MO c_MO_leave_in (by decide +kernel) ⟨by simp only [rmF]; omega, by simp only [rmF]; omega⟩ rfl hl.1 (Nat.le_of_ble_eq_true rfl) d_MO_item_297 ⟨Nat.le_refl _, Nat.le_refl _⟩) (fun S_297 H locs hw hP hS => ?_)
  rw [hw] at hP
  refine lv_goto (tgt := 389) hx hb d_MO_item_300 (by decide) ?_
  exact e_v hx hb hr hlk hC hP hS d_MO_item_389 rfl

set_option maxHeartbeats 4000000 in
set_option maxRecDepth 100000 in
theorem m_MO_item_deep (l : Launch) (G : WG) (S : SS) (i st : Nat) (hi : i < 128) (hnx : S 44 9 = nI i) (hst9 : st < 1000) (hst : S 44 19 = nI st) (hop : S 45 i = 13) (pr : Nat) (hpr4 : pr < 4) (hpr : S 46 i = nI pr) (n : Nat) (hn6 : n < 600) (hn : S 44 18 = nI n) (hq : S 44 13 = 6) : Cv l y_MO_item b_MO_item 3 3 G [.ref (gA G 44)] S (fun S1 => S1 = moRaise (moStep S i st) n 5 0) := by
  refine mk l (by decide +kernel) (Nat.le_of_ble_eq_true rfl) ?_
  intro pp_ ee_ ss_ mm_ be_ me_ co_ ls hx hb hr hlk hml hC hP hS hl
  have hl : lv_has ls 3 [(0, .ref (gA G 44))] := hl
  refine lv_aload_n hx hb d_MO_item_0 rfl (lv_at hl 0 rfl) ?_
  refine r_get hx hb hC hP i_MO (44) (by decide) rfl rfl 9 (by decide) l_MO_86 rfl d_MO_item_1 ?_
  rw [show S 44 9 = nI i from hnx]
  refine lv_istore_n (lv' := [(1, .int (nI i)), (0, .ref (gA G 44))]) hx hb d_MO_item_4 rfl hl (by decide) rfl (fun ls hl => ?_)
  refine lv_aload_n hx hb d_MO_item_5 rfl (lv_at hl 1 rfl) ?_
  refine r_get hx hb hC hP i_MO (44) (by decide) rfl rfl 1 (by decide) l_MO_13 rfl d_MO_item_6 ?_
  refine lv_iload_n hx hb d_MO_item_9 rfl (lv_at hl 0 rfl) ?_
  refine r_ild hx hb hC hP (46) (by decide) rfl i rfl (by omega) (by decide) d_MO_item_10 ?_
  rw [show S 46 i = nI pr from hpr]
  refine lv_istore_n (lv' := [(2, .int (nI pr)), (1, .int (nI i)), (0, .ref (gA G 44))]) hx hb d_MO_item_11 rfl hl (by decide) rfl (fun ls hl => ?_)
  refine lv_aload_n hx hb d_MO_item_12 rfl (lv_at hl 2 rfl) ?_
  refine lv_dup hx hb d_MO_item_13 rfl ?_
  refine r_get hx hb hC hP i_MO (44) (by decide) rfl rfl 19 (by decide) l_MO_114 rfl d_MO_item_14 ?_
  rw [show S 44 19 = nI st from hst]
  refine lv_iconst (v := 1) hx hb d_MO_item_17 (by decide) ?_
  refine lv_iadd hx hb d_MO_item_18 ?_
  rw [show (nI st) + 1 = nI (st + 1) from nI_1 _]
  refine r_put hx hb hC hP hS i_MO t_MO t_MO_ok n_MO (44) (by decide) rfl rfl 19 (by decide) l_MO_114 rfl rfl rfl (Nat.le_of_ble_eq_true rfl) d_MO_item_19 (fun H locs hP hS => ?_)
  refine lv_aload_n hx hb d_MO_item_22 rfl (lv_at hl 2 rfl) ?_
  refine lv_dup hx hb d_MO_item_23 rfl ?_
  refine r_get hx hb hC hP i_MO (44) (by decide) rfl rfl 9 (by decide) l_MO_86 rfl d_MO_item_24 ?_
  rw [show (su S 44 19 (nI (st + 1))) 44 9 = S 44 9 from by rw [su_int _ _ _ (by decide)]]
  rw [show S 44 9 = nI i from hnx]
  refine lv_iconst (v := 1) hx hb d_MO_item_27 (by decide) ?_
  refine lv_iadd hx hb d_MO_item_28 ?_
  rw [show (nI i) + 1 = nI (i + 1) from nI_1 _]
  refine r_put hx hb hC hP hS i_MO t_MO t_MO_ok n_MO (44) (by decide) rfl rfl 9 (by decide) l_MO_86 rfl rfl rfl (Nat.le_of_ble_eq_true rfl) d_MO_item_29 (fun H locs hP hS => ?_)
  refine lv_aload_n hx hb d_MO_item_32 rfl (lv_at hl 2 rfl) ?_
  refine r_get hx hb hC hP i_MO (44) (by decide) rfl rfl 0 (by decide) l_MO_7 rfl d_MO_item_33 ?_
  refine lv_iload_n hx hb d_MO_item_36 rfl (lv_at hl 1 rfl) ?_
  refine r_ild hx hb hC hP (45) (by decide) rfl i rfl (by omega) (by decide) d_MO_item_37 ?_
  rw [show (su (su S 44 19 (nI (st + 1))) 44 9 (nI (i + 1))) 45 i = S 45 i from by rw [su_cell _ _ _ (by decide), su_cell _ _ _ (by decide)]]
  rw [show S 45 i = 13 from hop]
  refine lv_tableIn (off := 265) (tgt := 303) hx hb d_MO_item_38 (by decide) (by decide) (by decide) (by decide) ?_
  refine lv_aload_n hx hb d_MO_item_303 rfl (lv_at hl 2 rfl) ?_
  refine r_get hx hb hC hP i_MO (44) (by decide) rfl rfl 13 (by decide) l_MO_111 rfl d_MO_item_304 ?_
  rw [show (su (su S 44 19 (nI (st + 1))) 44 9 (nI (i + 1))) 44 13 = S 44 13 from by rw [su_int _ _ _ (by decide), su_int _ _ _ (by decide)]]
  rw [show S 44 13 = 6 from hq]
  refine lv_bipush (v := 6) hx hb d_MO_item_307 (by decide) ?_
  refine lv_icmp_ne (tgt := 321) hx hb d_MO_item_309 (by decide) (fun h => absurd h (by decide)) (fun _ => ?_)
  refine lv_aload_n hx hb d_MO_item_312 rfl (lv_at hl 2 rfl) ?_
  refine lv_iconst (v := 5) hx hb d_MO_item_313 (by decide) ?_
  refine lv_iconst (v := 0) hx hb d_MO_item_314 (by decide) ?_
  refine r_v hC hS (r_runV (np := 2) (As := [.int 5, .int 0]) (rest := []) hx hb hml hC hP hS (by decide) rfl rfl (m_MO_raise l G (su (su S 44 19 (nI (st + 1))) 44 9 (nI (i + 1))) n (by omega) (by rw [su_int _ _ _ (by decide), su_int _ _ _ (by decide)]; exact hn) 5 0) l_MO_124 im_MO_raise se_MO_raise in_MO c_MO_raise_in (by decide +kernel) ⟨by simp only [rmF]; omega, by simp only [rmF]; omega⟩ rfl hl.1 (Nat.le_of_ble_eq_true rfl) d_MO_item_315 ⟨Nat.le_refl _, Nat.le_refl _⟩) (fun S_315 H locs hw hP hS => ?_)
  rw [hw] at hP
  refine lv_goto (tgt := 389) hx hb d_MO_item_318 (by decide) ?_
  exact e_v hx hb hr hlk hC hP hS d_MO_item_389 rfl

set_option maxHeartbeats 4000000 in
set_option maxRecDepth 100000 in
theorem m_MO_item_empty (l : Launch) (G : WG) (S : SS) (i st : Nat) (hi : i < 128) (hnx : S 44 9 = nI i) (hst9 : st < 1000) (hst : S 44 19 = nI st) (hop : S 45 i = 13) (pr : Nat) (hpr4 : pr < 4) (hpr : S 46 i = nI pr) (q : Nat) (hq6 : q < 6) (hq : S 44 13 = nI q) (hsz : S 47 pr = 0) : Cv l y_MO_item b_MO_item 3 3 G [.ref (gA G 44)] S (fun S1 => S1 = moStep S i st) := by
  refine mk l (by decide +kernel) (Nat.le_of_ble_eq_true rfl) ?_
  intro pp_ ee_ ss_ mm_ be_ me_ co_ ls hx hb hr hlk hml hC hP hS hl
  have hl : lv_has ls 3 [(0, .ref (gA G 44))] := hl
  refine lv_aload_n hx hb d_MO_item_0 rfl (lv_at hl 0 rfl) ?_
  refine r_get hx hb hC hP i_MO (44) (by decide) rfl rfl 9 (by decide) l_MO_86 rfl d_MO_item_1 ?_
  rw [show S 44 9 = nI i from hnx]
  refine lv_istore_n (lv' := [(1, .int (nI i)), (0, .ref (gA G 44))]) hx hb d_MO_item_4 rfl hl (by decide) rfl (fun ls hl => ?_)
  refine lv_aload_n hx hb d_MO_item_5 rfl (lv_at hl 1 rfl) ?_
  refine r_get hx hb hC hP i_MO (44) (by decide) rfl rfl 1 (by decide) l_MO_13 rfl d_MO_item_6 ?_
  refine lv_iload_n hx hb d_MO_item_9 rfl (lv_at hl 0 rfl) ?_
  refine r_ild hx hb hC hP (46) (by decide) rfl i rfl (by omega) (by decide) d_MO_item_10 ?_
  rw [show S 46 i = nI pr from hpr]
  refine lv_istore_n (lv' := [(2, .int (nI pr)), (1, .int (nI i)), (0, .ref (gA G 44))]) hx hb d_MO_item_11 rfl hl (by decide) rfl (fun ls hl => ?_)
  refine lv_aload_n hx hb d_MO_item_12 rfl (lv_at hl 2 rfl) ?_
  refine lv_dup hx hb d_MO_item_13 rfl ?_
  refine r_get hx hb hC hP i_MO (44) (by decide) rfl rfl 19 (by decide) l_MO_114 rfl d_MO_item_14 ?_
  rw [show S 44 19 = nI st from hst]
  refine lv_iconst (v := 1) hx hb d_MO_item_17 (by decide) ?_
  refine lv_iadd hx hb d_MO_item_18 ?_
  rw [show (nI st) + 1 = nI (st + 1) from nI_1 _]
  refine r_put hx hb hC hP hS i_MO t_MO t_MO_ok n_MO (44) (by decide) rfl rfl 19 (by decide) l_MO_114 rfl rfl rfl (Nat.le_of_ble_eq_true rfl) d_MO_item_19 (fun H locs hP hS => ?_)
  refine lv_aload_n hx hb d_MO_item_22 rfl (lv_at hl 2 rfl) ?_
  refine lv_dup hx hb d_MO_item_23 rfl ?_
  refine r_get hx hb hC hP i_MO (44) (by decide) rfl rfl 9 (by decide) l_MO_86 rfl d_MO_item_24 ?_
  rw [show (su S 44 19 (nI (st + 1))) 44 9 = S 44 9 from by rw [su_int _ _ _ (by decide)]]
  rw [show S 44 9 = nI i from hnx]
  refine lv_iconst (v := 1) hx hb d_MO_item_27 (by decide) ?_
  refine lv_iadd hx hb d_MO_item_28 ?_
  rw [show (nI i) + 1 = nI (i + 1) from nI_1 _]
  refine r_put hx hb hC hP hS i_MO t_MO t_MO_ok n_MO (44) (by decide) rfl rfl 9 (by decide) l_MO_86 rfl rfl rfl (Nat.le_of_ble_eq_true rfl) d_MO_item_29 (fun H locs hP hS => ?_)
  refine lv_aload_n hx hb d_MO_item_32 rfl (lv_at hl 2 rfl) ?_
  refine r_get hx hb hC hP i_MO (44) (by decide) rfl rfl 0 (by decide) l_MO_7 rfl d_MO_item_33 ?_
  refine lv_iload_n hx hb d_MO_item_36 rfl (lv_at hl 1 rfl) ?_
  refine r_ild hx hb hC hP (45) (by decide) rfl i rfl (by omega) (by decide) d_MO_item_37 ?_
  rw [show (su (su S 44 19 (nI (st + 1))) 44 9 (nI (i + 1))) 45 i = S 45 i from by rw [su_cell _ _ _ (by decide), su_cell _ _ _ (by decide)]]
  rw [show S 45 i = 13 from hop]
  refine lv_tableIn (off := 265) (tgt := 303) hx hb d_MO_item_38 (by decide) (by decide) (by decide) (by decide) ?_
  refine lv_aload_n hx hb d_MO_item_303 rfl (lv_at hl 2 rfl) ?_
  refine r_get hx hb hC hP i_MO (44) (by decide) rfl rfl 13 (by decide) l_MO_111 rfl d_MO_item_304 ?_
  rw [show (su (su S 44 19 (nI (st + 1))) 44 9 (nI (i + 1))) 44 13 = S 44 13 from by rw [su_int _ _ _ (by decide), su_int _ _ _ (by decide)]]
  rw [show S 44 13 = nI q from hq]
  refine lv_bipush (v := 6) hx hb d_MO_item_307 (by decide) ?_
  refine lv_icmp_ne (tgt := 321) hx hb d_MO_item_309 (by decide) (fun c_309 => ?_) (fun c_309 => absurd ((q_eq (a := q) (b := 6) rfl rfl (by omega) (by omega)).mp c_309) (by omega))
  refine lv_aload_n hx hb d_MO_item_321 rfl (lv_at hl 2 rfl) ?_
  refine r_get hx hb hC hP i_MO (44) (by decide) rfl rfl 2 (by decide) l_MO_16 rfl d_MO_item_322 ?_
  refine lv_iload_n hx hb d_MO_item_325 rfl (lv_at hl 0 rfl) ?_
  refine r_ild hx hb hC hP (47) (by decide) rfl pr rfl (by omega) (by decide) d_MO_item_326 ?_
  rw [show (su (su S 44 19 (nI (st + 1))) 44 9 (nI (i + 1))) 47 pr = S 47 pr from by rw [su_cell _ _ _ (by decide), su_cell _ _ _ (by decide)]]
  rw [show S 47 pr = 0 from hsz]
  refine lv_if_le (tgt := 389) hx hb d_MO_item_327 (by decide) (fun _ => ?_) (fun h => absurd h (by decide))
  exact e_v hx hb hr hlk hC hP hS d_MO_item_389 rfl

set_option maxHeartbeats 4000000 in
set_option maxRecDepth 100000 in
theorem m_MO_item_call (l : Launch) (G : WG) (S : SS) (i st : Nat) (hi : i < 128) (hnx : S 44 9 = nI i) (hst9 : st < 1000) (hst : S 44 19 = nI st) (hop : S 45 i = 13) (pr : Nat) (hpr4 : pr < 4) (hpr : S 46 i = nI pr) (D : Nat) (hD8 : D < 80) (hD : S 44 8 = nI D) (q : Nat) (hq6 : q < 6) (hq : S 44 13 = nI q) (sz : Nat) (hsz0 : 0 < sz) (hsz9 : sz < 100) (hsz : S 47 pr = nI sz) : Cv l y_MO_item b_MO_item 3 3 G [.ref (gA G 44)] S (fun S1 => S1 = moCall (moStep S i st) D q (nI pr)) := by
  refine mk l (by decide +kernel) (Nat.le_of_ble_eq_true rfl) ?_
  intro pp_ ee_ ss_ mm_ be_ me_ co_ ls hx hb hr hlk hml hC hP hS hl
  have hl : lv_has ls 3 [(0, .ref (gA G 44))] := hl
  refine lv_aload_n hx hb d_MO_item_0 rfl (lv_at hl 0 rfl) ?_
  refine r_get hx hb hC hP i_MO (44) (by decide) rfl rfl 9 (by decide) l_MO_86 rfl d_MO_item_1 ?_
  rw [show S 44 9 = nI i from hnx]
  refine lv_istore_n (lv' := [(1, .int (nI i)), (0, .ref (gA G 44))]) hx hb d_MO_item_4 rfl hl (by decide) rfl (fun ls hl => ?_)
  refine lv_aload_n hx hb d_MO_item_5 rfl (lv_at hl 1 rfl) ?_
  refine r_get hx hb hC hP i_MO (44) (by decide) rfl rfl 1 (by decide) l_MO_13 rfl d_MO_item_6 ?_
  refine lv_iload_n hx hb d_MO_item_9 rfl (lv_at hl 0 rfl) ?_
  refine r_ild hx hb hC hP (46) (by decide) rfl i rfl (by omega) (by decide) d_MO_item_10 ?_
  rw [show S 46 i = nI pr from hpr]
  refine lv_istore_n (lv' := [(2, .int (nI pr)), (1, .int (nI i)), (0, .ref (gA G 44))]) hx hb d_MO_item_11 rfl hl (by decide) rfl (fun ls hl => ?_)
  refine lv_aload_n hx hb d_MO_item_12 rfl (lv_at hl 2 rfl) ?_
  refine lv_dup hx hb d_MO_item_13 rfl ?_
  refine r_get hx hb hC hP i_MO (44) (by decide) rfl rfl 19 (by decide) l_MO_114 rfl d_MO_item_14 ?_
  rw [show S 44 19 = nI st from hst]
  refine lv_iconst (v := 1) hx hb d_MO_item_17 (by decide) ?_
  refine lv_iadd hx hb d_MO_item_18 ?_
  rw [show (nI st) + 1 = nI (st + 1) from nI_1 _]
  refine r_put hx hb hC hP hS i_MO t_MO t_MO_ok n_MO (44) (by decide) rfl rfl 19 (by decide) l_MO_114 rfl rfl rfl (Nat.le_of_ble_eq_true rfl) d_MO_item_19 (fun H locs hP hS => ?_)
  refine lv_aload_n hx hb d_MO_item_22 rfl (lv_at hl 2 rfl) ?_
  refine lv_dup hx hb d_MO_item_23 rfl ?_
  refine r_get hx hb hC hP i_MO (44) (by decide) rfl rfl 9 (by decide) l_MO_86 rfl d_MO_item_24 ?_
  rw [show (su S 44 19 (nI (st + 1))) 44 9 = S 44 9 from by rw [su_int _ _ _ (by decide)]]
  rw [show S 44 9 = nI i from hnx]
  refine lv_iconst (v := 1) hx hb d_MO_item_27 (by decide) ?_
  refine lv_iadd hx hb d_MO_item_28 ?_
  rw [show (nI i) + 1 = nI (i + 1) from nI_1 _]
  refine r_put hx hb hC hP hS i_MO t_MO t_MO_ok n_MO (44) (by decide) rfl rfl 9 (by decide) l_MO_86 rfl rfl rfl (Nat.le_of_ble_eq_true rfl) d_MO_item_29 (fun H locs hP hS => ?_)
  refine lv_aload_n hx hb d_MO_item_32 rfl (lv_at hl 2 rfl) ?_
  refine r_get hx hb hC hP i_MO (44) (by decide) rfl rfl 0 (by decide) l_MO_7 rfl d_MO_item_33 ?_
  refine lv_iload_n hx hb d_MO_item_36 rfl (lv_at hl 1 rfl) ?_
  refine r_ild hx hb hC hP (45) (by decide) rfl i rfl (by omega) (by decide) d_MO_item_37 ?_
  rw [show (su (su S 44 19 (nI (st + 1))) 44 9 (nI (i + 1))) 45 i = S 45 i from by rw [su_cell _ _ _ (by decide), su_cell _ _ _ (by decide)]]
  rw [show S 45 i = 13 from hop]
  refine lv_tableIn (off := 265) (tgt := 303) hx hb d_MO_item_38 (by decide) (by decide) (by decide) (by decide) ?_
  refine lv_aload_n hx hb d_MO_item_303 rfl (lv_at hl 2 rfl) ?_
  refine r_get hx hb hC hP i_MO (44) (by decide) rfl rfl 13 (by decide) l_MO_111 rfl d_MO_item_304 ?_
  rw [show (su (su S 44 19 (nI (st + 1))) 44 9 (nI (i + 1))) 44 13 = S 44 13 from by rw [su_int _ _ _ (by decide), su_int _ _ _ (by decide)]]
  rw [show S 44 13 = nI q from hq]
  refine lv_bipush (v := 6) hx hb d_MO_item_307 (by decide) ?_
  refine lv_icmp_ne (tgt := 321) hx hb d_MO_item_309 (by decide) (fun c_309 => ?_) (fun c_309 => absurd ((q_eq (a := q) (b := 6) rfl rfl (by omega) (by omega)).mp c_309) (by omega))
  refine lv_aload_n hx hb d_MO_item_321 rfl (lv_at hl 2 rfl) ?_
  refine r_get hx hb hC hP i_MO (44) (by decide) rfl rfl 2 (by decide) l_MO_16 rfl d_MO_item_322 ?_
  refine lv_iload_n hx hb d_MO_item_325 rfl (lv_at hl 0 rfl) ?_
  refine r_ild hx hb hC hP (47) (by decide) rfl pr rfl (by omega) (by decide) d_MO_item_326 ?_
  rw [show (su (su S 44 19 (nI (st + 1))) 44 9 (nI (i + 1))) 47 pr = S 47 pr from by rw [su_cell _ _ _ (by decide), su_cell _ _ _ (by decide)]]
  rw [show S 47 pr = nI sz from hsz]
  refine lv_if_le (tgt := 389) hx hb d_MO_item_327 (by decide) (fun c_327 => absurd ((q_le (a := sz) (b := 0) rfl rfl (by omega) (by omega)).mp c_327) (by omega)) (fun c_327 => ?_)
  refine lv_aload_n hx hb d_MO_item_330 rfl (lv_at hl 2 rfl) ?_
  refine lv_iload_n hx hb d_MO_item_331 rfl (lv_at hl 0 rfl) ?_
  refine r_v hC hS (r_runV (np := 1) (As := [.int (nI pr)]) (rest := []) hx hb hml hC hP hS (by decide) rfl rfl (m_MO_call l G (su (su S 44 19 (nI (st + 1))) 44 9 (nI (i + 1))) D q (by omega) (by rw [su_int _ _ _ (by decide), su_int _ _ _ (by decide)]; exact hD) (by omega) (by rw [su_int _ _ _ (by decide), su_int _ _ _ (by decide)]; exact hq) (nI pr)) l_MO_137 im_MO_call se_MO_call in_MO c_MO_call_in (by decide +kernel) ⟨by simp only [rmF]; omega, by simp only [rmF]; omega⟩ rfl hl.1 (Nat.le_of_ble_eq_true rfl) d_MO_item_332 ⟨Nat.le_refl _, Nat.le_refl _⟩) (fun S_332 H locs hw hP hS => ?_)
  rw [hw] at hP
  refine lv_goto (tgt := 389) hx hb d_MO_item_335 (by decide) ?_
  exact e_v hx hb hr hlk hC hP hS d_MO_item_389 rfl

set_option maxHeartbeats 4000000 in
set_option maxRecDepth 100000 in
theorem m_MO_item_above (l : Launch) (G : WG) (S : SS) (i st : Nat) (hi : i < 128) (hnx : S 44 9 = nI i) (hst9 : st < 1000) (hst : S 44 19 = nI st) (hop : S 45 i = 14) (D : Nat) (hD8 : D < 80) (hD : S 44 8 = nI D) (ha : S 46 i < S 44 10) : Cv l y_MO_item b_MO_item 3 3 G [.ref (gA G 44)] S (fun S1 => S1 = moEnter (moStep S i st) D 14 (nI i) 0) := by
  refine mk l (by decide +kernel) (Nat.le_of_ble_eq_true rfl) ?_
  intro pp_ ee_ ss_ mm_ be_ me_ co_ ls hx hb hr hlk hml hC hP hS hl
  have hl : lv_has ls 3 [(0, .ref (gA G 44))] := hl
  refine lv_aload_n hx hb d_MO_item_0 rfl (lv_at hl 0 rfl) ?_
  refine r_get hx hb hC hP i_MO (44) (by decide) rfl rfl 9 (by decide) l_MO_86 rfl d_MO_item_1 ?_
  rw [show S 44 9 = nI i from hnx]
  refine lv_istore_n (lv' := [(1, .int (nI i)), (0, .ref (gA G 44))]) hx hb d_MO_item_4 rfl hl (by decide) rfl (fun ls hl => ?_)
  refine lv_aload_n hx hb d_MO_item_5 rfl (lv_at hl 1 rfl) ?_
  refine r_get hx hb hC hP i_MO (44) (by decide) rfl rfl 1 (by decide) l_MO_13 rfl d_MO_item_6 ?_
  refine lv_iload_n hx hb d_MO_item_9 rfl (lv_at hl 0 rfl) ?_
  refine r_ild hx hb hC hP (46) (by decide) rfl i rfl (by omega) (by decide) d_MO_item_10 ?_
  refine lv_istore_n (lv' := [(2, .int (S 46 i)), (1, .int (nI i)), (0, .ref (gA G 44))]) hx hb d_MO_item_11 rfl hl (by decide) rfl (fun ls hl => ?_)
  refine lv_aload_n hx hb d_MO_item_12 rfl (lv_at hl 2 rfl) ?_
  refine lv_dup hx hb d_MO_item_13 rfl ?_
  refine r_get hx hb hC hP i_MO (44) (by decide) rfl rfl 19 (by decide) l_MO_114 rfl d_MO_item_14 ?_
  rw [show S 44 19 = nI st from hst]
  refine lv_iconst (v := 1) hx hb d_MO_item_17 (by decide) ?_
  refine lv_iadd hx hb d_MO_item_18 ?_
  rw [show (nI st) + 1 = nI (st + 1) from nI_1 _]
  refine r_put hx hb hC hP hS i_MO t_MO t_MO_ok n_MO (44) (by decide) rfl rfl 19 (by decide) l_MO_114 rfl rfl rfl (Nat.le_of_ble_eq_true rfl) d_MO_item_19 (fun H locs hP hS => ?_)
  refine lv_aload_n hx hb d_MO_item_22 rfl (lv_at hl 2 rfl) ?_
  refine lv_dup hx hb d_MO_item_23 rfl ?_
  refine r_get hx hb hC hP i_MO (44) (by decide) rfl rfl 9 (by decide) l_MO_86 rfl d_MO_item_24 ?_
  rw [show (su S 44 19 (nI (st + 1))) 44 9 = S 44 9 from by rw [su_int _ _ _ (by decide)]]
  rw [show S 44 9 = nI i from hnx]
  refine lv_iconst (v := 1) hx hb d_MO_item_27 (by decide) ?_
  refine lv_iadd hx hb d_MO_item_28 ?_
  rw [show (nI i) + 1 = nI (i + 1) from nI_1 _]
  refine r_put hx hb hC hP hS i_MO t_MO t_MO_ok n_MO (44) (by decide) rfl rfl 9 (by decide) l_MO_86 rfl rfl rfl (Nat.le_of_ble_eq_true rfl) d_MO_item_29 (fun H locs hP hS => ?_)
  refine lv_aload_n hx hb d_MO_item_32 rfl (lv_at hl 2 rfl) ?_
  refine r_get hx hb hC hP i_MO (44) (by decide) rfl rfl 0 (by decide) l_MO_7 rfl d_MO_item_33 ?_
  refine lv_iload_n hx hb d_MO_item_36 rfl (lv_at hl 1 rfl) ?_
  refine r_ild hx hb hC hP (45) (by decide) rfl i rfl (by omega) (by decide) d_MO_item_37 ?_
  rw [show (su (su S 44 19 (nI (st + 1))) 44 9 (nI (i + 1))) 45 i = S 45 i from by rw [su_cell _ _ _ (by decide), su_cell _ _ _ (by decide)]]
  rw [show S 45 i = 14 from hop]
  refine lv_tableIn (off := 300) (tgt := 338) hx hb d_MO_item_38 (by decide) (by decide) (by decide) (by decide) ?_
  refine lv_aload_n hx hb d_MO_item_338 rfl (lv_at hl 2 rfl) ?_
  refine r_get hx hb hC hP i_MO (44) (by decide) rfl rfl 10 (by decide) l_MO_121 rfl d_MO_item_339 ?_
  rw [show (su (su S 44 19 (nI (st + 1))) 44 9 (nI (i + 1))) 44 10 = S 44 10 from by rw [su_int _ _ _ (by decide), su_int _ _ _ (by decide)]]
  refine lv_iload_n hx hb d_MO_item_342 rfl (lv_at hl 0 rfl) ?_
  refine lv_icmp_le (tgt := 357) hx hb d_MO_item_343 (by decide) (fun c_343 => absurd ha (Int32.not_lt.mpr c_343)) (fun c_343 => ?_)
  refine lv_aload_n hx hb d_MO_item_346 rfl (lv_at hl 2 rfl) ?_
  refine lv_bipush (v := 14) hx hb d_MO_item_347 (by decide) ?_
  refine lv_iload_n hx hb d_MO_item_349 rfl (lv_at hl 1 rfl) ?_
  refine lv_iconst (v := 0) hx hb d_MO_item_350 (by decide) ?_
  refine r_v hC hS (r_runV (np := 3) (As := [.int 14, .int (nI i), .int 0]) (rest := []) hx hb hml hC hP hS (by decide) rfl rfl (m_MO_enter l G (su (su S 44 19 (nI (st + 1))) 44 9 (nI (i + 1))) D (by omega) (by rw [su_int _ _ _ (by decide), su_int _ _ _ (by decide)]; exact hD) 14 (nI i) 0) l_MO_107 im_MO_enter se_MO_enter in_MO c_MO_enter_in (by decide +kernel) ⟨by simp only [rmF]; omega, by simp only [rmF]; omega⟩ rfl hl.1 (Nat.le_of_ble_eq_true rfl) d_MO_item_351 ⟨Nat.le_refl _, Nat.le_refl _⟩) (fun S_351 H locs hw hP hS => ?_)
  rw [hw] at hP
  refine lv_goto (tgt := 389) hx hb d_MO_item_354 (by decide) ?_
  exact e_v hx hb hr hlk hC hP hS d_MO_item_389 rfl

set_option maxHeartbeats 4000000 in
set_option maxRecDepth 100000 in
theorem m_MO_item_above0 (l : Launch) (G : WG) (S : SS) (i st : Nat) (hi : i < 128) (hnx : S 44 9 = nI i) (hst9 : st < 1000) (hst : S 44 19 = nI st) (hop : S 45 i = 14) (e : Nat) (hsc : ∃ f, Sc (S 45) f (i + 1) 1 e) (ha : ¬ S 46 i < S 44 10) : Cv l y_MO_item b_MO_item 3 3 G [.ref (gA G 44)] S (fun S1 => S1 = su (moStep S i st) 44 9 (nI e)) := by
  refine mk l (by decide +kernel) (Nat.le_of_ble_eq_true rfl) ?_
  intro pp_ ee_ ss_ mm_ be_ me_ co_ ls hx hb hr hlk hml hC hP hS hl
  have hl : lv_has ls 3 [(0, .ref (gA G 44))] := hl
  refine lv_aload_n hx hb d_MO_item_0 rfl (lv_at hl 0 rfl) ?_
  refine r_get hx hb hC hP i_MO (44) (by decide) rfl rfl 9 (by decide) l_MO_86 rfl d_MO_item_1 ?_
  rw [show S 44 9 = nI i from hnx]
  refine lv_istore_n (lv' := [(1, .int (nI i)), (0, .ref (gA G 44))]) hx hb d_MO_item_4 rfl hl (by decide) rfl (fun ls hl => ?_)
  refine lv_aload_n hx hb d_MO_item_5 rfl (lv_at hl 1 rfl) ?_
  refine r_get hx hb hC hP i_MO (44) (by decide) rfl rfl 1 (by decide) l_MO_13 rfl d_MO_item_6 ?_
  refine lv_iload_n hx hb d_MO_item_9 rfl (lv_at hl 0 rfl) ?_
  refine r_ild hx hb hC hP (46) (by decide) rfl i rfl (by omega) (by decide) d_MO_item_10 ?_
  refine lv_istore_n (lv' := [(2, .int (S 46 i)), (1, .int (nI i)), (0, .ref (gA G 44))]) hx hb d_MO_item_11 rfl hl (by decide) rfl (fun ls hl => ?_)
  refine lv_aload_n hx hb d_MO_item_12 rfl (lv_at hl 2 rfl) ?_
  refine lv_dup hx hb d_MO_item_13 rfl ?_
  refine r_get hx hb hC hP i_MO (44) (by decide) rfl rfl 19 (by decide) l_MO_114 rfl d_MO_item_14 ?_
  rw [show S 44 19 = nI st from hst]
  refine lv_iconst (v := 1) hx hb d_MO_item_17 (by decide) ?_
  refine lv_iadd hx hb d_MO_item_18 ?_
  rw [show (nI st) + 1 = nI (st + 1) from nI_1 _]
  refine r_put hx hb hC hP hS i_MO t_MO t_MO_ok n_MO (44) (by decide) rfl rfl 19 (by decide) l_MO_114 rfl rfl rfl (Nat.le_of_ble_eq_true rfl) d_MO_item_19 (fun H locs hP hS => ?_)
  refine lv_aload_n hx hb d_MO_item_22 rfl (lv_at hl 2 rfl) ?_
  refine lv_dup hx hb d_MO_item_23 rfl ?_
  refine r_get hx hb hC hP i_MO (44) (by decide) rfl rfl 9 (by decide) l_MO_86 rfl d_MO_item_24 ?_
  rw [show (su S 44 19 (nI (st + 1))) 44 9 = S 44 9 from by rw [su_int _ _ _ (by decide)]]
  rw [show S 44 9 = nI i from hnx]
  refine lv_iconst (v := 1) hx hb d_MO_item_27 (by decide) ?_
  refine lv_iadd hx hb d_MO_item_28 ?_
  rw [show (nI i) + 1 = nI (i + 1) from nI_1 _]
  refine r_put hx hb hC hP hS i_MO t_MO t_MO_ok n_MO (44) (by decide) rfl rfl 9 (by decide) l_MO_86 rfl rfl rfl (Nat.le_of_ble_eq_true rfl) d_MO_item_29 (fun H locs hP hS => ?_)
  refine lv_aload_n hx hb d_MO_item_32 rfl (lv_at hl 2 rfl) ?_
  refine r_get hx hb hC hP i_MO (44) (by decide) rfl rfl 0 (by decide) l_MO_7 rfl d_MO_item_33 ?_
  refine lv_iload_n hx hb d_MO_item_36 rfl (lv_at hl 1 rfl) ?_
  refine r_ild hx hb hC hP (45) (by decide) rfl i rfl (by omega) (by decide) d_MO_item_37 ?_
  rw [show (su (su S 44 19 (nI (st + 1))) 44 9 (nI (i + 1))) 45 i = S 45 i from by rw [su_cell _ _ _ (by decide), su_cell _ _ _ (by decide)]]
  rw [show S 45 i = 14 from hop]
  refine lv_tableIn (off := 300) (tgt := 338) hx hb d_MO_item_38 (by decide) (by decide) (by decide) (by decide) ?_
  refine lv_aload_n hx hb d_MO_item_338 rfl (lv_at hl 2 rfl) ?_
  refine r_get hx hb hC hP i_MO (44) (by decide) rfl rfl 10 (by decide) l_MO_121 rfl d_MO_item_339 ?_
  rw [show (su (su S 44 19 (nI (st + 1))) 44 9 (nI (i + 1))) 44 10 = S 44 10 from by rw [su_int _ _ _ (by decide), su_int _ _ _ (by decide)]]
  refine lv_iload_n hx hb d_MO_item_342 rfl (lv_at hl 0 rfl) ?_
  refine lv_icmp_le (tgt := 357) hx hb d_MO_item_343 (by decide) (fun c_343 => ?_) (fun c_343 => absurd (Int32.not_lt.mp ha) c_343)
  refine lv_aload_n hx hb d_MO_item_357 rfl (lv_at hl 2 rfl) ?_
  refine lv_aload_n hx hb d_MO_item_358 rfl (lv_at hl 2 rfl) ?_
  refine lv_iload_n hx hb d_MO_item_359 rfl (lv_at hl 1 rfl) ?_
  refine lv_iconst (v := 1) hx hb d_MO_item_360 (by decide) ?_
  refine lv_iadd hx hb d_MO_item_361 ?_
  rw [show (nI i) + 1 = nI (i + 1) from nI_1 _]
  refine r_i hC hS (r_runV (np := 1) (As := [.int (nI (i + 1))]) (rest := [.ref (gA G 44)]) hx hb hml hC hP hS (by decide) rfl rfl (m_MO_behind l G (su (su S 44 19 (nI (st + 1))) 44 9 (nI (i + 1))) (i + 1) e (by omega) (by rw [su_cell _ _ _ (by decide), su_cell _ _ _ (by decide)]; exact hsc)) l_MO_79 im_MO_behind se_MO_behind in_MO c_MO_behind_in (by decide +kernel) ⟨by simp only [rmF]; omega, by simp only [rmF]; omega⟩ rfl hl.1 (Nat.le_of_ble_eq_true rfl) d_MO_item_362 ⟨Nat.le_refl _, Nat.le_refl _⟩) (fun r_362 S_362 H locs hw hP hS => ?_)
  obtain ⟨rfl, hSe⟩ := hw
  rw [hSe] at hP
  refine r_put hx hb hC hP hS i_MO t_MO t_MO_ok n_MO (44) (by decide) rfl rfl 9 (by decide) l_MO_86 rfl rfl rfl (Nat.le_of_ble_eq_true rfl) d_MO_item_365 (fun H locs hP hS => ?_)
  refine lv_goto (tgt := 389) hx hb d_MO_item_368 (by decide) ?_
  exact e_v hx hb hr hlk hC hP hS d_MO_item_389 rfl

set_option maxHeartbeats 4000000 in
set_option maxRecDepth 100000 in
theorem m_MO_item_held1 (l : Launch) (G : WG) (S : SS) (i st : Nat) (hi : i < 128) (hnx : S 44 9 = nI i) (hst9 : st < 1000) (hst : S 44 19 = nI st) (hop : S 45 i = 15) (lo : Nat) (hlo3 : lo < 3) (hlo : S 46 i = nI lo) (hh : 0 < S 53 lo) : Cv l y_MO_item b_MO_item 3 3 G [.ref (gA G 44)] S (fun S1 => S1 = su (moStep S i st) 44 10 1) := by
  refine mk l (by decide +kernel) (Nat.le_of_ble_eq_true rfl) ?_
  intro pp_ ee_ ss_ mm_ be_ me_ co_ ls hx hb hr hlk hml hC hP hS hl
  have hl : lv_has ls 3 [(0, .ref (gA G 44))] := hl
  refine lv_aload_n hx hb d_MO_item_0 rfl (lv_at hl 0 rfl) ?_
  refine r_get hx hb hC hP i_MO (44) (by decide) rfl rfl 9 (by decide) l_MO_86 rfl d_MO_item_1 ?_
  rw [show S 44 9 = nI i from hnx]
  refine lv_istore_n (lv' := [(1, .int (nI i)), (0, .ref (gA G 44))]) hx hb d_MO_item_4 rfl hl (by decide) rfl (fun ls hl => ?_)
  refine lv_aload_n hx hb d_MO_item_5 rfl (lv_at hl 1 rfl) ?_
  refine r_get hx hb hC hP i_MO (44) (by decide) rfl rfl 1 (by decide) l_MO_13 rfl d_MO_item_6 ?_
  refine lv_iload_n hx hb d_MO_item_9 rfl (lv_at hl 0 rfl) ?_
  refine r_ild hx hb hC hP (46) (by decide) rfl i rfl (by omega) (by decide) d_MO_item_10 ?_
  rw [show S 46 i = nI lo from hlo]
  refine lv_istore_n (lv' := [(2, .int (nI lo)), (1, .int (nI i)), (0, .ref (gA G 44))]) hx hb d_MO_item_11 rfl hl (by decide) rfl (fun ls hl => ?_)
  refine lv_aload_n hx hb d_MO_item_12 rfl (lv_at hl 2 rfl) ?_
  refine lv_dup hx hb d_MO_item_13 rfl ?_
  refine r_get hx hb hC hP i_MO (44) (by decide) rfl rfl 19 (by decide) l_MO_114 rfl d_MO_item_14 ?_
  rw [show S 44 19 = nI st from hst]
  refine lv_iconst (v := 1) hx hb d_MO_item_17 (by decide) ?_
  refine lv_iadd hx hb d_MO_item_18 ?_
  rw [show (nI st) + 1 = nI (st + 1) from nI_1 _]
  refine r_put hx hb hC hP hS i_MO t_MO t_MO_ok n_MO (44) (by decide) rfl rfl 19 (by decide) l_MO_114 rfl rfl rfl (Nat.le_of_ble_eq_true rfl) d_MO_item_19 (fun H locs hP hS => ?_)
  refine lv_aload_n hx hb d_MO_item_22 rfl (lv_at hl 2 rfl) ?_
  refine lv_dup hx hb d_MO_item_23 rfl ?_
  refine r_get hx hb hC hP i_MO (44) (by decide) rfl rfl 9 (by decide) l_MO_86 rfl d_MO_item_24 ?_
  rw [show (su S 44 19 (nI (st + 1))) 44 9 = S 44 9 from by rw [su_int _ _ _ (by decide)]]
  rw [show S 44 9 = nI i from hnx]
  refine lv_iconst (v := 1) hx hb d_MO_item_27 (by decide) ?_
  refine lv_iadd hx hb d_MO_item_28 ?_
  rw [show (nI i) + 1 = nI (i + 1) from nI_1 _]
  refine r_put hx hb hC hP hS i_MO t_MO t_MO_ok n_MO (44) (by decide) rfl rfl 9 (by decide) l_MO_86 rfl rfl rfl (Nat.le_of_ble_eq_true rfl) d_MO_item_29 (fun H locs hP hS => ?_)
  refine lv_aload_n hx hb d_MO_item_32 rfl (lv_at hl 2 rfl) ?_
  refine r_get hx hb hC hP i_MO (44) (by decide) rfl rfl 0 (by decide) l_MO_7 rfl d_MO_item_33 ?_
  refine lv_iload_n hx hb d_MO_item_36 rfl (lv_at hl 1 rfl) ?_
  refine r_ild hx hb hC hP (45) (by decide) rfl i rfl (by omega) (by decide) d_MO_item_37 ?_
  rw [show (su (su S 44 19 (nI (st + 1))) 44 9 (nI (i + 1))) 45 i = S 45 i from by rw [su_cell _ _ _ (by decide), su_cell _ _ _ (by decide)]]
  rw [show S 45 i = 15 from hop]
  refine lv_tableOut (tgt := 371) hx hb d_MO_item_38 (by decide) (by decide) ?_
  refine lv_aload_n hx hb d_MO_item_371 rfl (lv_at hl 2 rfl) ?_
  refine lv_aload_n hx hb d_MO_item_372 rfl (lv_at hl 2 rfl) ?_
  refine r_get hx hb hC hP i_MO (44) (by decide) rfl rfl 15 (by decide) l_MO_38 rfl d_MO_item_373 ?_
  refine lv_iload_n hx hb d_MO_item_376 rfl (lv_at hl 0 rfl) ?_
  refine r_ild hx hb hC hP (53) (by decide) rfl lo rfl (by omega) (by decide) d_MO_item_377 ?_
  rw [show (su (su S 44 19 (nI (st + 1))) 44 9 (nI (i + 1))) 53 lo = S 53 lo from by rw [su_cell _ _ _ (by decide), su_cell _ _ _ (by decide)]]
  refine lv_if_le (tgt := 385) hx hb d_MO_item_378 (by decide) (fun c_378 => absurd hh (Int32.not_lt.mpr c_378)) (fun c_378 => ?_)
  refine lv_iconst (v := 1) hx hb d_MO_item_381 (by decide) ?_
  refine lv_goto (tgt := 386) hx hb d_MO_item_382 (by decide) ?_
  refine r_put hx hb hC hP hS i_MO t_MO t_MO_ok n_MO (44) (by decide) rfl rfl 10 (by decide) l_MO_121 rfl rfl rfl (Nat.le_of_ble_eq_true rfl) d_MO_item_386 (fun H locs hP hS => ?_)
  exact e_v hx hb hr hlk hC hP hS d_MO_item_389 rfl

set_option maxHeartbeats 4000000 in
set_option maxRecDepth 100000 in
theorem m_MO_item_held0 (l : Launch) (G : WG) (S : SS) (i st : Nat) (hi : i < 128) (hnx : S 44 9 = nI i) (hst9 : st < 1000) (hst : S 44 19 = nI st) (hop : S 45 i = 15) (lo : Nat) (hlo3 : lo < 3) (hlo : S 46 i = nI lo) (hh : ¬ 0 < S 53 lo) : Cv l y_MO_item b_MO_item 3 3 G [.ref (gA G 44)] S (fun S1 => S1 = su (moStep S i st) 44 10 0) := by
  refine mk l (by decide +kernel) (Nat.le_of_ble_eq_true rfl) ?_
  intro pp_ ee_ ss_ mm_ be_ me_ co_ ls hx hb hr hlk hml hC hP hS hl
  have hl : lv_has ls 3 [(0, .ref (gA G 44))] := hl
  refine lv_aload_n hx hb d_MO_item_0 rfl (lv_at hl 0 rfl) ?_
  refine r_get hx hb hC hP i_MO (44) (by decide) rfl rfl 9 (by decide) l_MO_86 rfl d_MO_item_1 ?_
  rw [show S 44 9 = nI i from hnx]
  refine lv_istore_n (lv' := [(1, .int (nI i)), (0, .ref (gA G 44))]) hx hb d_MO_item_4 rfl hl (by decide) rfl (fun ls hl => ?_)
  refine lv_aload_n hx hb d_MO_item_5 rfl (lv_at hl 1 rfl) ?_
  refine r_get hx hb hC hP i_MO (44) (by decide) rfl rfl 1 (by decide) l_MO_13 rfl d_MO_item_6 ?_
  refine lv_iload_n hx hb d_MO_item_9 rfl (lv_at hl 0 rfl) ?_
  refine r_ild hx hb hC hP (46) (by decide) rfl i rfl (by omega) (by decide) d_MO_item_10 ?_
  rw [show S 46 i = nI lo from hlo]
  refine lv_istore_n (lv' := [(2, .int (nI lo)), (1, .int (nI i)), (0, .ref (gA G 44))]) hx hb d_MO_item_11 rfl hl (by decide) rfl (fun ls hl => ?_)
  refine lv_aload_n hx hb d_MO_item_12 rfl (lv_at hl 2 rfl) ?_
  refine lv_dup hx hb d_MO_item_13 rfl ?_
  refine r_get hx hb hC hP i_MO (44) (by decide) rfl rfl 19 (by decide) l_MO_114 rfl d_MO_item_14 ?_
  rw [show S 44 19 = nI st from hst]
  refine lv_iconst (v := 1) hx hb d_MO_item_17 (by decide) ?_
  refine lv_iadd hx hb d_MO_item_18 ?_
  rw [show (nI st) + 1 = nI (st + 1) from nI_1 _]
  refine r_put hx hb hC hP hS i_MO t_MO t_MO_ok n_MO (44) (by decide) rfl rfl 19 (by decide) l_MO_114 rfl rfl rfl (Nat.le_of_ble_eq_true rfl) d_MO_item_19 (fun H locs hP hS => ?_)
  refine lv_aload_n hx hb d_MO_item_22 rfl (lv_at hl 2 rfl) ?_
  refine lv_dup hx hb d_MO_item_23 rfl ?_
  refine r_get hx hb hC hP i_MO (44) (by decide) rfl rfl 9 (by decide) l_MO_86 rfl d_MO_item_24 ?_
  rw [show (su S 44 19 (nI (st + 1))) 44 9 = S 44 9 from by rw [su_int _ _ _ (by decide)]]
  rw [show S 44 9 = nI i from hnx]
  refine lv_iconst (v := 1) hx hb d_MO_item_27 (by decide) ?_
  refine lv_iadd hx hb d_MO_item_28 ?_
  rw [show (nI i) + 1 = nI (i + 1) from nI_1 _]
  refine r_put hx hb hC hP hS i_MO t_MO t_MO_ok n_MO (44) (by decide) rfl rfl 9 (by decide) l_MO_86 rfl rfl rfl (Nat.le_of_ble_eq_true rfl) d_MO_item_29 (fun H locs hP hS => ?_)
  refine lv_aload_n hx hb d_MO_item_32 rfl (lv_at hl 2 rfl) ?_
  refine r_get hx hb hC hP i_MO (44) (by decide) rfl rfl 0 (by decide) l_MO_7 rfl d_MO_item_33 ?_
  refine lv_iload_n hx hb d_MO_item_36 rfl (lv_at hl 1 rfl) ?_
  refine r_ild hx hb hC hP (45) (by decide) rfl i rfl (by omega) (by decide) d_MO_item_37 ?_
  rw [show (su (su S 44 19 (nI (st + 1))) 44 9 (nI (i + 1))) 45 i = S 45 i from by rw [su_cell _ _ _ (by decide), su_cell _ _ _ (by decide)]]
  rw [show S 45 i = 15 from hop]
  refine lv_tableOut (tgt := 371) hx hb d_MO_item_38 (by decide) (by decide) ?_
  refine lv_aload_n hx hb d_MO_item_371 rfl (lv_at hl 2 rfl) ?_
  refine lv_aload_n hx hb d_MO_item_372 rfl (lv_at hl 2 rfl) ?_
  refine r_get hx hb hC hP i_MO (44) (by decide) rfl rfl 15 (by decide) l_MO_38 rfl d_MO_item_373 ?_
  refine lv_iload_n hx hb d_MO_item_376 rfl (lv_at hl 0 rfl) ?_
  refine r_ild hx hb hC hP (53) (by decide) rfl lo rfl (by omega) (by decide) d_MO_item_377 ?_
  rw [show (su (su S 44 19 (nI (st + 1))) 44 9 (nI (i + 1))) 53 lo = S 53 lo from by rw [su_cell _ _ _ (by decide), su_cell _ _ _ (by decide)]]
  refine lv_if_le (tgt := 385) hx hb d_MO_item_378 (by decide) (fun c_378 => ?_) (fun c_378 => absurd (Int32.not_lt.mp hh) c_378)
  refine lv_iconst (v := 0) hx hb d_MO_item_385 (by decide) ?_
  refine r_put hx hb hC hP hS i_MO t_MO t_MO_ok n_MO (44) (by decide) rfl rfl 10 (by decide) l_MO_121 rfl rfl rfl (Nat.le_of_ble_eq_true rfl) d_MO_item_386 (fun H locs hP hS => ?_)
  exact e_v hx hb hr hlk hC hP hS d_MO_item_389 rfl

