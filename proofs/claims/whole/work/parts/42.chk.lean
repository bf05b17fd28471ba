/-! the class's Checker: its short methods: written by wip/gen/p42.py -/
def chPush (S : SS) (D : Nat) (q : Int32) (t c : Bool) : SS := su (su (su (su (su S 41 (D + 1) (b2i t)) 42 (D + 1) (b2i c)) 39 4 (nI (D + 1))) 40 (D + 1) q) 43 (D + 1) 0
set_option maxHeartbeats 4000000 in
set_option maxRecDepth 100000 in
theorem m_CH_open (l : Launch) (G : WG) (S : SS) (D : Nat) (hD6 : D < 6) (hD : S 39 4 = nI D) (q : Int32) (t c x y : Bool) (hx9 : S 41 D = b2i x) (hy9 : S 42 D = b2i y) : Cv l y_CH_open b_CH_open 4 0 G [.ref (gA G 39), .int q, .int (b2i t), .int (b2i c)] S (fun S1 => S1 = chPush S D q (t || x) (c || y)) := by
  refine mk l (by decide +kernel) (Nat.le_of_ble_eq_true rfl) ?_
  intro pp_ ee_ ss_ mm_ be_ me_ co_ ls hx hb hr hlk hml hC hP hS hl
  have hl : lv_has ls 4 [(0, .ref (gA G 39)), (1, .int q), (2, .int (b2i t)), (3, .int (b2i c))] := hl
  refine lv_aload_n hx hb d_CH_open_0 rfl (lv_at hl 0 rfl) ?_
  refine r_get hx hb hC hP i_CH (39) (by decide) rfl rfl 4 (by decide) l_CH_25 rfl d_CH_open_1 ?_
  rw [show S 39 4 = nI D from hD]
  refine lv_bipush (v := 6) hx hb d_CH_open_4 (by decide) ?_
  refine lv_icmp_lt (tgt := 10) hx hb d_CH_open_6 (by decide) (fun c_6 => ?_) (fun c_6 => ?_)
  · have c_6 : D < 6 := (q_lt (a := D) (b := 6) rfl rfl (by omega) (by omega)).mp c_6
    refine lv_aload_n hx hb d_CH_open_10 rfl (lv_at hl 0 rfl) ?_
    refine r_get hx hb hC hP i_CH (39) (by decide) rfl rfl 1 (by decide) l_CH_15 rfl d_CH_open_11 ?_
    refine lv_aload_n hx hb d_CH_open_14 rfl (lv_at hl 0 rfl) ?_
    refine r_get hx hb hC hP i_CH (39) (by decide) rfl rfl 4 (by decide) l_CH_25 rfl d_CH_open_15 ?_
    rw [show S 39 4 = nI D from hD]
    refine lv_iconst (v := 1) hx hb d_CH_open_18 (by decide) ?_
    refine lv_iadd hx hb d_CH_open_19 ?_
    rw [show (nI D) + 1 = nI (D + 1) from nI_1 _]
    refine lv_iload_n hx hb d_CH_open_20 rfl (lv_at hl 2 rfl) ?_
    refine lv_if_ne (tgt := 36) hx hb d_CH_open_21 (by decide) (fun c_21 => ?_) (fun c_21 => ?_)
    · have c_21 := b2i_t c_21
      refine lv_iconst (v := 1) hx hb d_CH_open_36 (by decide) ?_
      refine lv_goto (tgt := 41) hx hb d_CH_open_37 (by decide) ?_
      refine r_zst hx hb hC hP hS (41) (by decide) (fun _ => rfl) (D + 1) rfl (by omega) (by decide) (by decide) d_CH_open_41 (fun H locs hP hS => ?_)
      refine lv_aload_n hx hb d_CH_open_42 rfl (lv_at hl 0 rfl) ?_
      refine r_get hx hb hC hP i_CH (39) (by decide) rfl rfl 2 (by decide) l_CH_19 rfl d_CH_open_43 ?_
      refine lv_aload_n hx hb d_CH_open_46 rfl (lv_at hl 0 rfl) ?_
      refine r_get hx hb hC hP i_CH (39) (by decide) rfl rfl 4 (by decide) l_CH_25 rfl d_CH_open_47 ?_
      rw [show (su S 41 (D + 1) 1) 39 4 = S 39 4 from by rw [su_cell _ _ _ (by decide)]]
      rw [show S 39 4 = nI D from hD]
      refine lv_iconst (v := 1) hx hb d_CH_open_50 (by decide) ?_
      refine lv_iadd hx hb d_CH_open_51 ?_
      rw [show (nI D) + 1 = nI (D + 1) from nI_1 _]
      refine lv_iload_n hx hb d_CH_open_52 rfl (lv_at hl 3 rfl) ?_
      refine lv_if_ne (tgt := 68) hx hb d_CH_open_53 (by decide) (fun c_53 => ?_) (fun c_53 => ?_)
      · have c_53 := b2i_t c_53
        refine lv_iconst (v := 1) hx hb d_CH_open_68 (by decide) ?_
        refine lv_goto (tgt := 73) hx hb d_CH_open_69 (by decide) ?_
        refine r_zst hx hb hC hP hS (42) (by decide) (fun _ => rfl) (D + 1) rfl (by omega) (by decide) (by decide) d_CH_open_73 (fun H locs hP hS => ?_)
        refine lv_aload_n hx hb d_CH_open_74 rfl (lv_at hl 0 rfl) ?_
        refine lv_dup hx hb d_CH_open_75 rfl ?_
        refine r_get hx hb hC hP i_CH (39) (by decide) rfl rfl 4 (by decide) l_CH_25 rfl d_CH_open_76 ?_
        rw [show (su (su S 41 (D + 1) 1) 42 (D + 1) 1) 39 4 = S 39 4 from by rw [su_cell _ _ _ (by decide), su_cell _ _ _ (by decide)]]
        rw [show S 39 4 = nI D from hD]
        refine lv_iconst (v := 1) hx hb d_CH_open_79 (by decide) ?_
        refine lv_iadd hx hb d_CH_open_80 ?_
        rw [show (nI D) + 1 = nI (D + 1) from nI_1 _]
        refine r_put hx hb hC hP hS i_CH t_CH t_CH_ok n_CH (39) (by decide) rfl rfl 4 (by decide) l_CH_25 rfl rfl rfl (Nat.le_of_ble_eq_true rfl) d_CH_open_81 (fun H locs hP hS => ?_)
        refine lv_aload_n hx hb d_CH_open_84 rfl (lv_at hl 0 rfl) ?_
        refine r_get hx hb hC hP i_CH (39) (by decide) rfl rfl 0 (by decide) l_CH_9 rfl d_CH_open_85 ?_
        refine lv_aload_n hx hb d_CH_open_88 rfl (lv_at hl 0 rfl) ?_
        refine r_get hx hb hC hP i_CH (39) (by decide) rfl rfl 4 (by decide) l_CH_25 rfl d_CH_open_89 ?_
        rw [show (su (su (su S 41 (D + 1) 1) 42 (D + 1) 1) 39 4 (nI (D + 1))) 39 4 = nI (D + 1) from by rw [su_same]]
        refine lv_iload_n hx hb d_CH_open_92 rfl (lv_at hl 1 rfl) ?_
        refine r_ist hx hb hC hP hS (40) (by decide) (fun _ => rfl) (D + 1) rfl (by omega) (by decide) d_CH_open_93 (fun H locs hP hS => ?_)
        refine lv_aload_n hx hb d_CH_open_94 rfl (lv_at hl 0 rfl) ?_
        refine r_get hx hb hC hP i_CH (39) (by decide) rfl rfl 3 (by decide) l_CH_22 rfl d_CH_open_95 ?_
        refine lv_aload_n hx hb d_CH_open_98 rfl (lv_at hl 0 rfl) ?_
        refine r_get hx hb hC hP i_CH (39) (by decide) rfl rfl 4 (by decide) l_CH_25 rfl d_CH_open_99 ?_
        rw [show (su (su (su (su S 41 (D + 1) 1) 42 (D + 1) 1) 39 4 (nI (D + 1))) 40 (D + 1) q) 39 4 = nI (D + 1) from by rw [su_cell _ _ _ (by decide), su_same]]
        refine lv_iconst (v := 0) hx hb d_CH_open_102 (by decide) ?_
        refine r_ist hx hb hC hP hS (43) (by decide) (fun _ => rfl) (D + 1) rfl (by omega) (by decide) d_CH_open_103 (fun H locs hP hS => ?_)
        exact e_v hx hb hr hlk hC hP hS d_CH_open_104 (by rw [chPush, c_21, c_53] <;> rfl)
      · have c_53 := b2i_f c_53
        refine lv_aload_n hx hb d_CH_open_56 rfl (lv_at hl 0 rfl) ?_
        refine r_get hx hb hC hP i_CH (39) (by decide) rfl rfl 2 (by decide) l_CH_19 rfl d_CH_open_57 ?_
        refine lv_aload_n hx hb d_CH_open_60 rfl (lv_at hl 0 rfl) ?_
        refine r_get hx hb hC hP i_CH (39) (by decide) rfl rfl 4 (by decide) l_CH_25 rfl d_CH_open_61 ?_
        rw [show (su S 41 (D + 1) 1) 39 4 = S 39 4 from by rw [su_cell _ _ _ (by decide)]]
        rw [show S 39 4 = nI D from hD]
        refine r_zld hx hb hC hP (42) (by decide) rfl D rfl (by omega) (by decide) d_CH_open_64 ?_
        rw [show (su S 41 (D + 1) 1) 42 D = S 42 D from by rw [su_cell _ _ _ (by decide)]]
        rw [show S 42 D = b2i y from hy9]
        refine lv_if_eq (tgt := 72) hx hb d_CH_open_65 (by decide) (fun c_65 => ?_) (fun c_65 => ?_)
        · have c_65 := b2i_f c_65
          refine lv_iconst (v := 0) hx hb d_CH_open_72 (by decide) ?_
          refine r_zst hx hb hC hP hS (42) (by decide) (fun _ => rfl) (D + 1) rfl (by omega) (by decide) (by decide) d_CH_open_73 (fun H locs hP hS => ?_)
          refine lv_aload_n hx hb d_CH_open_74 rfl (lv_at hl 0 rfl) ?_
          refine lv_dup hx hb d_CH_open_75 rfl ?_
          refine r_get hx hb hC hP i_CH (39) (by decide) rfl rfl 4 (by decide) l_CH_25 rfl d_CH_open_76 ?_
          rw [show (su (su S 41 (D + 1) 1) 42 (D + 1) 0) 39 4 = S 39 4 from by rw [su_cell _ _ _ (by decide), su_cell _ _ _ (by decide)]]
          rw [show S 39 4 = nI D from hD]
          refine lv_iconst (v := 1) hx hb d_CH_open_79 (by decide) ?_
          refine lv_iadd hx hb d_CH_open_80 ?_
          rw [show (nI D) + 1 = nI (D + 1) from nI_1 _]
          refine r_put hx hb hC hP hS i_CH t_CH t_CH_ok n_CH (39) (by decide) rfl rfl 4 (by decide) l_CH_25 rfl rfl rfl (Nat.le_of_ble_eq_true rfl) d_CH_open_81 (fun H locs hP hS => ?_)
          refine lv_aload_n hx hb d_CH_open_84 rfl (lv_at hl 0 rfl) ?_
          refine r_get hx hb hC hP i_CH (39) (by decide) rfl rfl 0 (by decide) l_CH_9 rfl d_CH_open_85 ?_
          refine lv_aload_n hx hb d_CH_open_88 rfl (lv_at hl 0 rfl) ?_
          refine r_get hx hb hC hP i_CH (39) (by decide) rfl rfl 4 (by decide) l_CH_25 rfl d_CH_open_89 ?_
          rw [show (su (su (su S 41 (D + 1) 1) 42 (D + 1) 0) 39 4 (nI (D + 1))) 39 4 = nI (D + 1) from by rw [su_same]]
          refine lv_iload_n hx hb d_CH_open_92 rfl (lv_at hl 1 rfl) ?_
          refine r_ist hx hb hC hP hS (40) (by decide) (fun _ => rfl) (D + 1) rfl (by omega) (by decide) d_CH_open_93 (fun H locs hP hS => ?_)
          refine lv_aload_n hx hb d_CH_open_94 rfl (lv_at hl 0 rfl) ?_
          refine r_get hx hb hC hP i_CH (39) (by decide) rfl rfl 3 (by decide) l_CH_22 rfl d_CH_open_95 ?_
          refine lv_aload_n hx hb d_CH_open_98 rfl (lv_at hl 0 rfl) ?_
          refine r_get hx hb hC hP i_CH (39) (by decide) rfl rfl 4 (by decide) l_CH_25 rfl d_CH_open_99 ?_
          rw [show (su (su (su (su S 41 (D + 1) 1) 42 (D + 1) 0) 39 4 (nI (D + 1))) 40 (D + 1) q) 39 4 = nI (D + 1) from by rw [su_cell _ _ _ (by decide), su_same]]
          refine lv_iconst (v := 0) hx hb d_CH_open_102 (by decide) ?_
          refine r_ist hx hb hC hP hS (43) (by decide) (fun _ => rfl) (D + 1) rfl (by omega) (by decide) d_CH_open_103 (fun H locs hP hS => ?_)
          exact e_v hx hb hr hlk hC hP hS d_CH_open_104 (by rw [chPush, c_21, c_53, c_65] <;> rfl)
        · have c_65 := b2i_t c_65
          refine lv_iconst (v := 1) hx hb d_CH_open_68 (by decide) ?_
          refine lv_goto (tgt := 73) hx hb d_CH_open_69 (by decide) ?_
          refine r_zst hx hb hC hP hS (42) (by decide) (fun _ => rfl) (D + 1) rfl (by omega) (by decide) (by decide) d_CH_open_73 (fun H locs hP hS => ?_)
          refine lv_aload_n hx hb d_CH_open_74 rfl (lv_at hl 0 rfl) ?_
          refine lv_dup hx hb d_CH_open_75 rfl ?_
          refine r_get hx hb hC hP i_CH (39) (by decide) rfl rfl 4 (by decide) l_CH_25 rfl d_CH_open_76 ?_
          rw [show (su (su S 41 (D + 1) 1) 42 (D + 1) 1) 39 4 = S 39 4 from by rw [su_cell _ _ _ (by decide), su_cell _ _ _ (by decide)]]
          rw [show S 39 4 = nI D from hD]
          refine lv_iconst (v := 1) hx hb d_CH_open_79 (by decide) ?_
          refine lv_iadd hx hb d_CH_open_80 ?_
          rw [show (nI D) + 1 = nI (D + 1) from nI_1 _]
          refine r_put hx hb hC hP hS i_CH t_CH t_CH_ok n_CH (39) (by decide) rfl rfl 4 (by decide) l_CH_25 rfl rfl rfl (Nat.le_of_ble_eq_true rfl) d_CH_open_81 (fun H locs hP hS => ?_)
          refine lv_aload_n hx hb d_CH_open_84 rfl (lv_at hl 0 rfl) ?_
          refine r_get hx hb hC hP i_CH (39) (by decide) rfl rfl 0 (by decide) l_CH_9 rfl d_CH_open_85 ?_
          refine lv_aload_n hx hb d_CH_open_88 rfl (lv_at hl 0 rfl) ?_
          refine r_get hx hb hC hP i_CH (39) (by decide) rfl rfl 4 (by decide) l_CH_25 rfl d_CH_open_89 ?_
          rw [show (su (su (su S 41 (D + 1) 1) 42 (D + 1) 1) 39 4 (nI (D + 1))) 39 4 = nI (D + 1) from by rw [su_same]]
          refine lv_iload_n hx hb d_CH_open_92 rfl (lv_at hl 1 rfl) ?_
          refine r_ist hx hb hC hP hS (40) (by decide) (fun _ => rfl) (D + 1) rfl (by omega) (by decide) d_CH_open_93 (fun H locs hP hS => ?_)
          refine lv_aload_n hx hb d_CH_open_94 rfl (lv_at hl 0 rfl) ?_
          refine r_get hx hb hC hP i_CH (39) (by decide) rfl rfl 3 (by decide) l_CH_22 rfl d_CH_open_95 ?_
          refine lv_aload_n hx hb d_CH_open_98 rfl (lv_at hl 0 rfl) ?_
          refine r_get hx hb hC hP i_CH (39) (by decide) rfl rfl 4 (by decide) l_CH_25 rfl d_CH_open_99 ?_
          rw [show (su (su (su (su S 41 (D + 1) 1) 42 (D + 1) 1) 39 4 (nI (D + 1))) 40 (D + 1) q) 39 4 = nI (D + 1) from by rw [su_cell _ _ _ (by decide), su_same]]
          refine lv_iconst (v := 0) hx hb d_CH_open_102 (by decide) ?_
          refine r_ist hx hb hC hP hS (43) (by decide) (fun _ => rfl) (D + 1) rfl (by omega) (by decide) d_CH_open_103 (fun H locs hP hS => ?_)
          exact e_v hx hb hr hlk hC hP hS d_CH_open_104 (by rw [chPush, c_21, c_53, c_65] <;> rfl)
    · have c_21 := b2i_f c_21
      refine lv_aload_n hx hb d_CH_open_24 rfl (lv_at hl 0 rfl) ?_
      refine r_get hx hb hC hP i_CH (39) (by decide) rfl rfl 1 (by decide) l_CH_15 rfl d_CH_open_25 ?_
      refine lv_aload_n hx hb d_CH_open_28 rfl (lv_at hl 0 rfl) ?_
      refine r_get hx hb hC hP i_CH (39) (by decide) rfl rfl 4 (by decide) l_CH_25 rfl d_CH_open_29 ?_
      rw [show S 39 4 = nI D from hD]
      refine r_zld hx hb hC hP (41) (by decide) rfl D rfl (by omega) (by decide) d_CH_open_32 ?_
      rw [show S 41 D = b2i x from hx9]
      refine lv_if_eq (tgt := 40) hx hb d_CH_open_33 (by decide) (fun c_33 => ?_) (fun c_33 => ?_)
      · have c_33 := b2i_f c_33
        refine lv_iconst (v := 0) hx hb d_CH_open_40 (by decide) ?_
        refine r_zst hx hb hC hP hS (41) (by decide) (fun _ => rfl) (D + 1) rfl (by omega) (by decide) (by decide) d_CH_open_41 (fun H locs hP hS => ?_)
        refine lv_aload_n hx hb d_CH_open_42 rfl (lv_at hl 0 rfl) ?_
        refine r_get hx hb hC hP i_CH (39) (by decide) rfl rfl 2 (by decide) l_CH_19 rfl d_CH_open_43 ?_
        refine lv_aload_n hx hb d_CH_open_46 rfl (lv_at hl 0 rfl) ?_
        refine r_get hx hb hC hP i_CH (39) (by decide) rfl rfl 4 (by decide) l_CH_25 rfl d_CH_open_47 ?_
        rw [show (su S 41 (D + 1) 0) 39 4 = S 39 4 from by rw [su_cell _ _ _ (by decide)]]
        rw [show S 39 4 = nI D from hD]
        refine lv_iconst (v := 1) hx hb d_CH_open_50 (by decide) ?_
        refine lv_iadd hx hb d_CH_open_51 ?_
        rw [show (nI D) + 1 = nI (D + 1) from nI_1 _]
        refine lv_iload_n hx hb d_CH_open_52 rfl (lv_at hl 3 rfl) ?_
        refine lv_if_ne (tgt := 68) hx hb d_CH_open_53 (by decide) (fun c_53 => ?_) (fun c_53 => ?_)
        · have c_53 := b2i_t c_53
          refine lv_iconst (v := 1) hx hb d_CH_open_68 (by decide) ?_
          refine lv_goto (tgt := 73) hx hb d_CH_open_69 (by decide) ?_
          refine r_zst hx hb hC hP hS (42) (by decide) (fun _ => rfl) (D + 1) rfl (by omega) (by decide) (by decide) d_CH_open_73 (fun H locs hP hS => ?_)
          refine lv_aload_n hx hb d_CH_open_74 rfl (lv_at hl 0 rfl) ?_
          refine lv_dup hx hb d_CH_open_75 rfl ?_
          refine r_get hx hb hC hP i_CH (39) (by decide) rfl rfl 4 (by decide) l_CH_25 rfl d_CH_open_76 ?_
          rw [show (su (su S 41 (D + 1) 0) 42 (D + 1) 1) 39 4 = S 39 4 from by rw [su_cell _ _ _ (by decide), su_cell _ _ _ (by decide)]]
          rw [show S 39 4 = nI D from hD]
          refine lv_iconst (v := 1) hx hb d_CH_open_79 (by decide) ?_
          refine lv_iadd hx hb d_CH_open_80 ?_
          rw [show (nI D) + 1 = nI (D + 1) from nI_1 _]
          refine r_put hx hb hC hP hS i_CH t_CH t_CH_ok n_CH (39) (by decide) rfl rfl 4 (by decide) l_CH_25 rfl rfl rfl (Nat.le_of_ble_eq_true rfl) d_CH_open_81 (fun H locs hP hS => ?_)
          refine lv_aload_n hx hb d_CH_open_84 rfl (lv_at hl 0 rfl) ?_
          refine r_get hx hb hC hP i_CH (39) (by decide) rfl rfl 0 (by decide) l_CH_9 rfl d_CH_open_85 ?_
          refine lv_aload_n hx hb d_CH_open_88 rfl (lv_at hl 0 rfl) ?_
          refine r_get hx hb hC hP i_CH (39) (by decide) rfl rfl 4 (by decide) l_CH_25 rfl d_CH_open_89 ?_
          rw [show (su (su (su S 41 (D + 1) 0) 42 (D + 1) 1) 39 4 (nI (D + 1))) 39 4 = nI (D + 1) from by rw [su_same]]
          refine lv_iload_n hx hb d_CH_open_92 rfl (lv_at hl 1 rfl) ?_
          refine r_ist hx hb hC hP hS (40) (by decide) (fun _ => rfl) (D + 1) rfl (by omega) (by decide) d_CH_open_93 (fun H locs hP hS => ?_)
          refine lv_aload_n hx hb d_CH_open_94 rfl (lv_at hl 0 rfl) ?_
          refine r_get hx hb hC hP i_CH (39) (by decide) rfl rfl 3 (by decide) l_CH_22 rfl d_CH_open_95 ?_
          refine lv_aload_n hx hb d_CH_open_98 rfl (lv_at hl 0 rfl) ?_
          refine r_get hx hb hC hP i_CH (39) (by decide) rfl rfl 4 (by decide) l_CH_25 rfl d_CH_open_99 ?_
          rw [show (su (su (su (su S 41 (D + 1) 0) 42 (D + 1) 1) 39 4 (nI (D + 1))) 40 (D + 1) q) 39 4 = nI (D + 1) from by rw [su_cell _ _ _ (by decide), su_same]]
          refine lv_iconst (v := 0) hx hb d_CH_open_102 (by decide) ?_
          refine r_ist hx hb hC hP hS (43) (by decide) (fun _ => rfl) (D + 1) rfl (by omega) (by decide) d_CH_open_103 (fun H locs hP hS => ?_)
          exact e_v hx hb hr hlk hC hP hS d_CH_open_104 (by rw [chPush, c_21, c_33, c_53] <;> rfl)
        · have c_53 := b2i_f c_53
          refine lv_aload_n hx hb d_CH_open_56 rfl (lv_at hl 0 rfl) ?_
          refine r_get hx hb hC hP i_CH (39) (by decide) rfl rfl 2 (by decide) l_CH_19 rfl d_CH_open_57 ?_
          refine lv_aload_n hx hb d_CH_open_60 rfl (lv_at hl 0 rfl) ?_
          refine r_get hx hb hC hP i_CH (39) (by decide) rfl rfl 4 (by decide) l_CH_25 rfl d_CH_open_61 ?_
          rw [show (su S 41 (D + 1) 0) 39 4 = S 39 4 from by rw [su_cell _ _ _ (by decide)]]
          rw [show S 39 4 = nI D from hD]
          refine r_zld hx hb hC hP (42) (by decide) rfl D rfl (by omega) (by decide) d_CH_open_64 ?_
          rw [show (su S 41 (D + 1) 0) 42 D = S 42 D from by rw [su_cell _ _ _ (by decide)]]
          rw [show S 42 D = b2i y from hy9]
          refine lv_if_eq (tgt := 72) hx hb d_CH_open_65 (by decide) (fun c_65 => ?_) (fun c_65 => ?_)
          · have c_65 := b2i_f c_65
            refine lv_iconst (v := 0) hx hb d_CH_open_72 (by decide) ?_
            refine r_zst hx hb hC hP hS (42) (by decide) (fun _ => rfl) (D + 1) rfl (by omega) (by decide) (by decide) d_CH_open_73 (fun H locs hP hS => ?_)
            refine lv_aload_n hx hb d_CH_open_74 rfl (lv_at hl 0 rfl) ?_
            refine lv_dup hx hb d_CH_open_75 rfl ?_
            refine r_get hx hb hC hP i_CH (39) (by decide) rfl rfl 4 (by decide) l_CH_25 rfl d_CH_open_76 ?_
            rw [show (su (su S 41 (D + 1) 0) 42 (D + 1) 0) 39 4 = S 39 4 from by rw [su_cell _ _ _ (by decide), su_cell _ _ _ (by decide)]]
            rw [show S 39 4 = nI D from hD]
            refine lv_iconst (v := 1) hx hb d_CH_open_79 (by decide) ?_
            refine lv_iadd hx hb d_CH_open_80 ?_
            rw [show (nI D) + 1 = nI (D + 1) from nI_1 _]
            refine r_put hx hb hC hP hS i_CH t_CH t_CH_ok n_CH (39) (by decide) rfl rfl 4 (by decide) l_CH_25 rfl rfl rfl (Nat.le_of_ble_eq_true rfl) d_CH_open_81 (fun H locs hP hS => ?_)
            refine lv_aload_n hx hb d_CH_open_84 rfl (lv_at hl 0 rfl) ?_
            refine r_get hx hb hC hP i_CH (39) (by decide) rfl rfl 0 (by decide) l_CH_9 rfl d_CH_open_85 ?_
            refine lv_aload_n hx hb d_CH_open_88 rfl (lv_at hl 0 rfl) ?_
            refine r_get hx hb hC hP i_CH (39) (by decide) rfl rfl 4 (by decide) l_CH_25 rfl d_CH_open_89 ?_
            rw [show (su (su (su S 41 (D + 1) 0) 42 (D + 1) 0) 39 4 (nI (D + 1))) 39 4 = nI (D + 1) from by rw [su_same]]
            refine lv_iload_n hx hb d_CH_open_92 rfl (lv_at hl 1 rfl) ?_
            refine r_ist hx hb hC hP hS (40) (by decide) (fun _ => rfl) (D + 1) rfl (by omega) (by decide) d_CH_open_93 (fun H locs hP hS => ?_)
            refine lv_aload_n hx hb d_CH_open_94 rfl (lv_at hl 0 rfl) ?_
            refine r_get hx hb hC hP i_CH (39) (by decide) rfl rfl 3 (by decide) l_CH_22 rfl d_CH_open_95 ?_
            refine lv_aload_n hx hb d_CH_open_98 rfl (lv_at hl 0 rfl) ?_
            refine r_get hx hb hC hP i_CH (39) (by decide) rfl rfl 4 (by decide) l_CH_25 rfl d_CH_open_99 ?_
            rw [show (su (su (su (su S 41 (D + 1) 0) 42 (D + 1) 0) 39 4 (nI (D + 1))) 40 (D + 1) q) 39 4 = nI (D + 1) from by rw [su_cell _ _ _ (by decide), su_same]]
            refine lv_iconst (v := 0) hx hb d_CH_open_102 (by decide) ?_
            refine r_ist hx hb hC hP hS (43) (by decide) (fun _ => rfl) (D + 1) rfl (by omega) (by decide) d_CH_open_103 (fun H locs hP hS => ?_)
            exact e_v hx hb hr hlk hC hP hS d_CH_open_104 (by rw [chPush, c_21, c_33, c_53, c_65] <;> rfl)
          · have c_65 := b2i_t c_65
            refine lv_iconst (v := 1) hx hb d_CH_open_68 (by decide) ?_
            refine lv_goto (tgt := 73) hx hb d_CH_open_69 (by decide) ?_
            refine r_zst hx hb hC hP hS (42) (by decide) (fun _ => rfl) (D + 1) rfl (by omega) (by decide) (by decide) d_CH_open_73 (fun H locs hP hS => ?_)
            refine lv_aload_n hx hb d_CH_open_74 rfl (lv_at hl 0 rfl) ?_
            refine lv_dup hx hb d_CH_open_75 rfl ?_
            refine r_get hx hb hC hP i_CH (39) (by decide) rfl rfl 4 (by decide) l_CH_25 rfl d_CH_open_76 ?_
            rw [show (su (su S 41 (D + 1) 0) 42 (D + 1) 1) 39 4 = S 39 4 from by rw [su_cell _ _ _ (by decide), su_cell _ _ _ (by decide)]]
            rw [show S 39 4 = nI D from hD]
            refine lv_iconst (v := 1) hx hb d_CH_open_79 (by decide) ?_
            refine lv_iadd hx hb d_CH_open_80 ?_
            rw [show (nI D) + 1 = nI (D + 1) from nI_1 _]
            refine r_put hx hb hC hP hS i_CH t_CH t_CH_ok n_CH (39) (by decide) rfl rfl 4 (by decide) l_CH_25 rfl rfl rfl (Nat.le_of_ble_eq_true rfl) d_CH_open_81 (fun H locs hP hS => ?_)
            refine lv_aload_n hx hb d_CH_open_84 rfl (lv_at hl 0 rfl) ?_
            refine r_get hx hb hC hP i_CH (39) (by decide) rfl rfl 0 (by decide) l_CH_9 rfl d_CH_open_85 ?_
            refine lv_aload_n hx hb d_CH_open_88 rfl (lv_at hl 0 rfl) ?_
            refine r_get hx hb hC hP i_CH (39) (by decide) rfl rfl 4 (by decide) l_CH_25 rfl d_CH_open_89 ?_
            rw [show (su (su (su S 41 (D + 1) 0) 42 (D + 1) 1) 39 4 (nI (D + 1))) 39 4 = nI (D + 1) from by rw [su_same]]
            refine lv_iload_n hx hb d_CH_open_92 rfl (lv_at hl 1 rfl) ?_
            refine r_ist hx hb hC hP hS (40) (by decide) (fun _ => rfl) (D + 1) rfl (by omega) (by decide) d_CH_open_93 (fun H locs hP hS => ?_)
            refine lv_aload_n hx hb d_CH_open_94 rfl (lv_at hl 0 rfl) ?_
            refine r_get hx hb hC hP i_CH (39) (by decide) rfl rfl 3 (by decide) l_CH_22 rfl d_CH_open_95 ?_
            refine lv_aload_n hx hb d_CH_open_98 rfl (lv_at hl 0 rfl) ?_
            refine r_get hx hb hC hP i_CH (39) (by decide) rfl rfl 4 (by decide) l_CH_25 rfl d_CH_open_99 ?_
            rw [show (su (su (su (su S 41 (D + 1) 0) 42 (D + 1) 1) 39 4 (nI (D + 1))) 40 (D + 1) q) 39 4 = nI (D + 1) from by rw [su_cell _ _ _ (by decide), su_same]]
            refine lv_iconst (v := 0) hx hb d_CH_open_102 (by decide) ?_
            refine r_ist hx hb hC hP hS (43) (by decide) (fun _ => rfl) (D + 1) rfl (by omega) (by decide) d_CH_open_103 (fun H locs hP hS => ?_)
            exact e_v hx hb hr hlk hC hP hS d_CH_open_104 (by rw [chPush, c_21, c_33, c_53, c_65] <;> rfl)
      · have c_33 := b2i_t c_33
        refine lv_iconst (v := 1) hx hb d_CH_open_36 (by decide) ?_
        refine lv_goto (tgt := 41) hx hb d_CH_open_37 (by decide) ?_
        refine r_zst hx hb hC hP hS (41) (by decide) (fun _ => rfl) (D + 1) rfl (by omega) (by decide) (by decide) d_CH_open_41 (fun H locs hP hS => ?_)
        refine lv_aload_n hx hb d_CH_open_42 rfl (lv_at hl 0 rfl) ?_
        refine r_get hx hb hC hP i_CH (39) (by decide) rfl rfl 2 (by decide) l_CH_19 rfl d_CH_open_43 ?_
        refine lv_aload_n hx hb d_CH_open_46 rfl (lv_at hl 0 rfl) ?_
        refine r_get hx hb hC hP i_CH (39) (by decide) rfl rfl 4 (by decide) l_CH_25 rfl d_CH_open_47 ?_
        rw [show (su S 41 (D + 1) 1) 39 4 = S 39 4 from by rw [su_cell _ _ _ (by decide)]]
        rw [show S 39 4 = nI D from hD]
        refine lv_iconst (v := 1) hx hb d_CH_open_50 (by decide) ?_
        refine lv_iadd hx hb d_CH_open_51 ?_
        rw [show (nI D) + 1 = nI (D + 1) from nI_1 _]
        refine lv_iload_n hx hb d_CH_open_52 rfl (lv_at hl 3 rfl) ?_
        refine lv_if_ne (tgt := 68) hx hb d_CH_open_53 (by decide) (fun c_53 => ?_) (fun c_53 => ?_)
        · have c_53 := b2i_t c_53
          refine lv_iconst (v := 1) hx hb d_CH_open_68 (by decide) ?_
          refine lv_goto (tgt := 73) hx hb d_CH_open_69 (by decide) ?_
          refine r_zst hx hb hC hP hS (42) (by decide) (fun _ => rfl) (D + 1) rfl (by omega) (by decide) (by decide) d_CH_open_73 (fun H locs hP hS => ?_)
          refine lv_aload_n hx hb d_CH_open_74 rfl (lv_at hl 0 rfl) ?_
          refine lv_dup hx hb d_CH_open_75 rfl ?_
          refine r_get hx hb hC hP i_CH (39) (by decide) rfl rfl 4 (by decide) l_CH_25 rfl d_CH_open_76 ?_
          rw [show (su (su S 41 (D + 1) 1) 42 (D + 1) 1) 39 4 = S 39 4 from by rw [su_cell _ _ _ (by decide), su_cell _ _ _ (by decide)]]
          rw [show S 39 4 = nI D from hD]
          refine lv_iconst (v := 1) hx hb d_CH_open_79 (by decide) ?_
          refine lv_iadd hx hb d_CH_open_80 ?_
          rw [show (nI D) + 1 = nI (D + 1) from nI_1 _]
          refine r_put hx hb hC hP hS i_CH t_CH t_CH_ok n_CH (39) (by decide) rfl rfl 4 (by decide) l_CH_25 rfl rfl rfl (Nat.le_of_ble_eq_true rfl) d_CH_open_81 (fun H locs hP hS => ?_)
          refine lv_aload_n hx hb d_CH_open_84 rfl (lv_at hl 0 rfl) ?_
          refine r_get hx hb hC hP i_CH (39) (by decide) rfl rfl 0 (by decide) l_CH_9 rfl d_CH_open_85 ?_
          refine lv_aload_n hx hb d_CH_open_88 rfl (lv_at hl 0 rfl) ?_
          refine r_get hx hb hC hP i_CH (39) (by decide) rfl rfl 4 (by decide) l_CH_25 rfl d_CH_open_89 ?_
          rw [show (su (su (su S 41 (D + 1) 1) 42 (D + 1) 1) 39 4 (nI (D + 1))) 39 4 = nI (D + 1) from by rw [su_same]]
          refine lv_iload_n hx hb d_CH_open_92 rfl (lv_at hl 1 rfl) ?_
          refine r_ist hx hb hC hP hS (40) (by decide) (fun _ => rfl) (D + 1) rfl (by omega) (by decide) d_CH_open_93 (fun H locs hP hS => ?_)
          refine lv_aload_n hx hb d_CH_open_94 rfl (lv_at hl 0 rfl) ?_
          refine r_get hx hb hC hP i_CH (39) (by decide) rfl rfl 3 (by decide) l_CH_22 rfl d_CH_open_95 ?_
          refine lv_aload_n hx hb d_CH_open_98 rfl (lv_at hl 0 rfl) ?_
          refine r_get hx hb hC hP i_CH (39) (by decide) rfl rfl 4 (by decide) l_CH_25 rfl d_CH_open_99 ?_
          rw [show (su (su (su (su S 41 (D + 1) 1) 42 (D + 1) 1) 39 4 (nI (D + 1))) 40 (D + 1) q) 39 4 = nI (D + 1) from by rw [su_cell _ _ _ (by decide), su_same]]
          refine lv_iconst (v := 0) hx hb d_CH_open_102 (by decide) ?_
          refine r_ist hx hb hC hP hS (43) (by decide) (fun _ => rfl) (D + 1) rfl (by omega) (by decide) d_CH_open_103 (fun H locs hP hS => ?_)
          exact e_v hx hb hr hlk hC hP hS d_CH_open_104 (by rw [chPush, c_21, c_33, c_53] <;> rfl)
        · have c_53 := b2i_f c_53
          refine lv_aload_n hx hb d_CH_open_56 rfl (lv_at hl 0 rfl) ?_
          refine r_get hx hb hC hP i_CH (39) (by decide) rfl rfl 2 (by decide) l_CH_19 rfl d_CH_open_57 ?_
          refine lv_aload_n hx hb d_CH_open_60 rfl (lv_at hl 0 rfl) ?_
          refine r_get hx hb hC hP i_CH (39) (by decide) rfl rfl 4 (by decide) l_CH_25 rfl d_CH_open_61 ?_
          rw [show (su S 41 (D + 1) 1) 39 4 = S 39 4 from by rw [su_cell _ _ _ (by decide)]]
          rw [show S 39 4 = nI D from hD]
          refine r_zld hx hb hC hP (42) (by decide) rfl D rfl (by omega) (by decide) d_CH_open_64 ?_
          rw [show (su S 41 (D + 1) 1) 42 D = S 42 D from by rw [su_cell _ _ _ (by decide)]]
          rw [show S 42 D = b2i y from hy9]
          refine lv_if_eq (tgt := 72) hx hb d_CH_open_65 (by decide) (fun c_65 => ?_) (fun c_65 => ?_)
          · have c_65 := b2i_f c_65
            refine lv_iconst (v := 0) hx hb d_CH_open_72 (by decide) ?_
            refine r_zst hx hb hC hP hS (42) (by decide) (fun _ => rfl) (D + 1) rfl (by omega) (by decide) (by decide) d_CH_open_73 (fun H locs hP hS => ?_)
            refine lv_aload_n hx hb d_CH_open_74 rfl (lv_at hl 0 rfl) ?_
            refine lv_dup hx hb d_CH_open_75 rfl ?_
            refine r_get hx hb hC hP i_CH (39) (by decide) rfl rfl 4 (by decide) l_CH_25 rfl d_CH_open_76 ?_
            rw [show (su (su S 41 (D + 1) 1) 42 (D + 1) 0) 39 4 = S 39 4 from by rw [su_cell _ _ _ (by decide), su_cell _ _ _ (by decide)]]
            rw [show S 39 4 = nI D from hD]
            refine lv_iconst (v := 1) hx hb d_CH_open_79 (by decide) ?_
            refine lv_iadd hx hb d_CH_open_80 ?_
            rw [show (nI D) + 1 = nI (D + 1) from nI_1 _]
            refine r_put hx hb hC hP hS i_CH t_CH t_CH_ok n_CH (39) (by decide) rfl rfl 4 (by decide) l_CH_25 rfl rfl rfl (Nat.le_of_ble_eq_true rfl) d_CH_open_81 (fun H locs hP hS => ?_)
            refine lv_aload_n hx hb d_CH_open_84 rfl (lv_at hl 0 rfl) ?_
            refine r_get hx hb hC hP i_CH (39) (by decide) rfl rfl 0 (by decide) l_CH_9 rfl d_CH_open_85 ?_
            refine lv_aload_n hx hb d_CH_open_88 rfl (lv_at hl 0 rfl) ?_
            refine r_get hx hb hC hP i_CH (39) (by decide) rfl rfl 4 (by decide) l_CH_25 rfl d_CH_open_89 ?_
            rw [show (su (su (su S 41 (D + 1) 1) 42 (D + 1) 0) 39 4 (nI (D + 1))) 39 4 = nI (D + 1) from by rw [su_same]]
            refine lv_iload_n hx hb d_CH_open_92 rfl (lv_at hl 1 rfl) ?_
            refine r_ist hx hb hC hP hS (40) (by decide) (fun _ => rfl) (D + 1) rfl (by omega) (by decide) d_CH_open_93 (fun H locs hP hS => ?_)
            refine lv_aload_n hx hb d_CH_open_94 rfl (lv_at hl 0 rfl) ?_
            refine r_get hx hb hC hP i_CH (39) (by decide) rfl rfl 3 (by decide) l_CH_22 rfl d_CH_open_95 ?_
            refine lv_aload_n hx hb d_CH_open_98 rfl (lv_at hl 0 rfl) ?_
            refine r_get hx hb hC hP i_CH (39) (by decide) rfl rfl 4 (by decide) l_CH_25 rfl d_CH_open_99 ?_
            rw [show (su (su (su (su S 41 (D + 1) 1) 42 (D + 1) 0) 39 4 (nI (D + 1))) 40 (D + 1) q) 39 4 = nI (D + 1) from by rw [su_cell _ _ _ (by decide), su_same]]
            refine lv_iconst (v := 0) hx hb d_CH_open_102 (by decide) ?_
            refine r_ist hx hb hC hP hS (43) (by decide) (fun _ => rfl) (D + 1) rfl (by omega) (by decide) d_CH_open_103 (fun H locs hP hS => ?_)
            exact e_v hx hb hr hlk hC hP hS d_CH_open_104 (by rw [chPush, c_21, c_33, c_53, c_65] <;> rfl)
          · have c_65 := b2i_t c_65
            refine lv_iconst (v := 1) hx hb d_CH_open_68 (by decide) ?_
            refine lv_goto (tgt := 73) hx hb d_CH_open_69 (by decide) ?_
            refine r_zst hx hb hC hP hS (42) (by decide) (fun _ => rfl) (D + 1) rfl (by omega) (by decide) (by decide) d_CH_open_73 (fun H locs hP hS => ?_)
            refine lv_aload_n hx hb d_CH_open_74 rfl (lv_at hl 0 rfl) ?_
            refine lv_dup hx hb d_CH_open_75 rfl ?_
            refine r_get hx hb hC hP i_CH (39) (by decide) rfl rfl 4 (by decide) l_CH_25 rfl d_CH_open_76 ?_
            rw [show (su (su S 41 (D + 1) 1) 42 (D + 1) 1) 39 4 = S 39 4 from by rw [su_cell _ _ _ (by decide), su_cell _ _ _ (by decide)]]
            rw [show S 39 4 = nI D from hD]
            refine lv_iconst (v := 1) hx hb d_CH_open_79 (by decide) ?_
            refine lv_iadd hx hb d_CH_open_80 ?_
            rw [show (nI D) + 1 = nI (D + 1) from nI_1 _]
            refine r_put hx hb hC hP hS i_CH t_CH t_CH_ok n_CH (39) (by decide) rfl rfl 4 (by decide) l_CH_25 rfl rfl rfl (Nat.le_of_ble_eq_true rfl) d_CH_open_81 (fun H locs hP hS => ?_)
            refine lv_aload_n hx hb d_CH_open_84 rfl (lv_at hl 0 rfl) ?_
            refine r_get hx hb hC hP i_CH (39) (by decide) rfl rfl 0 (by decide) l_CH_9 rfl d_CH_open_85 ?_
            refine lv_aload_n hx hb d_CH_open_88 rfl (lv_at hl 0 rfl) ?_
            refine r_get hx hb hC hP i_CH (39) (by decide) rfl rfl 4 (by decide) l_CH_25 rfl d_CH_open_89 ?_
            rw [show (su (su (su S 41 (D + 1) 1) 42 (D + 1) 1) 39 4 (nI (D + 1))) 39 4 = nI (D + 1) from by rw [su_same]]
            refine lv_iload_n hx hb d_CH_open_92 rfl (lv_at hl 1 rfl) ?_
            refine r_ist hx hb hC hP hS (40) (by decide) (fun _ => rfl) (D + 1) rfl (by omega) (by decide) d_CH_open_93 (fun H locs hP hS => ?_)
            refine lv_aload_n hx hb d_CH_open_94 rfl (lv_at hl 0 rfl) ?_
            refine r_get hx hb hC hP i_CH (39) (by decide) rfl rfl 3 (by decide) l_CH_22 rfl d_CH_open_95 ?_
            refine lv_aload_n hx hb d_CH_open_98 rfl (lv_at hl 0 rfl) ?_
            refine r_get hx hb hC hP i_CH (39) (by decide) rfl rfl 4 (by decide) l_CH_25 rfl d_CH_open_99 ?_
            rw [show (su (su (su (su S 41 (D + 1) 1) 42 (D + 1) 1) 39 4 (nI (D + 1))) 40 (D + 1) q) 39 4 = nI (D + 1) from by rw [su_cell _ _ _ (by decide), su_same]]
            refine lv_iconst (v := 0) hx hb d_CH_open_102 (by decide) ?_
            refine r_ist hx hb hC hP hS (43) (by decide) (fun _ => rfl) (D + 1) rfl (by omega) (by decide) d_CH_open_103 (fun H locs hP hS => ?_)
            exact e_v hx hb hr hlk hC hP hS d_CH_open_104 (by rw [chPush, c_21, c_33, c_53, c_65] <;> rfl)
  · have c_6 : ¬ D < 6 := fun h => c_6 ((q_lt (a := D) (b := 6) rfl rfl (by omega) (by omega)).mpr h)
    exact e_v hx hb hr hlk hC hP hS d_CH_open_9 (by exfalso; omega)

set_option maxHeartbeats 4000000 in
set_option maxRecDepth 100000 in
theorem m_CH_closeR (l : Launch) (G : WG) (S : SS) (D p i : Nat) (hp : p < 4) (hi : i < 32) (hD6 : D < 6) (hD : S 39 4 = nI (D + 1)) (hq : S 40 (D + 1) = -1) : Cv l y_CH_close b_CH_close 3 0 G [.ref (gA G 39), .ref (gA G (11 + 4 * p)), .int (nI i)] S (fun S1 => S1 = su S 39 4 (nI D)) := by
  refine mk l (by decide +kernel) (Nat.le_of_ble_eq_true rfl) ?_
  intro pp_ ee_ ss_ mm_ be_ me_ co_ ls hx hb hr hlk hml hC hP hS hl
  have hl : lv_has ls 3 [(0, .ref (gA G 39)), (1, .ref (gA G (11 + 4 * p))), (2, .int (nI i))] := hl
  refine lv_aload_n hx hb d_CH_close_0 rfl (lv_at hl 0 rfl) ?_
  refine r_get hx hb hC hP i_CH (39) (by decide) rfl rfl 0 (by decide) l_CH_9 rfl d_CH_close_1 ?_
  refine lv_aload_n hx hb d_CH_close_4 rfl (lv_at hl 0 rfl) ?_
  refine r_get hx hb hC hP i_CH (39) (by decide) rfl rfl 4 (by decide) l_CH_25 rfl d_CH_close_5 ?_
  rw [show S 39 4 = nI (D + 1) from hD]
  refine r_ild hx hb hC hP (40) (by decide) rfl (D + 1) rfl (by omega) (by decide) d_CH_close_8 ?_
  rw [show S 40 (D + 1) = (-1) from hq]
  refine lv_iconst (v := (-1)) hx hb d_CH_close_9 (by decide) ?_
  refine lv_icmp_eq (tgt := 28) hx hb d_CH_close_10 (by decide) (fun _ => ?_) (fun h => absurd h (by decide))
  refine lv_aload_n hx hb d_CH_close_28 rfl (lv_at hl 0 rfl) ?_
  refine lv_dup hx hb d_CH_close_29 rfl ?_
  refine r_get hx hb hC hP i_CH (39) (by decide) rfl rfl 4 (by decide) l_CH_25 rfl d_CH_close_30 ?_
  rw [show S 39 4 = nI (D + 1) from hD]
  refine lv_iconst (v := 1) hx hb d_CH_close_33 (by decide) ?_
  refine lv_isub hx hb d_CH_close_34 ?_
  rw [show (nI (D + 1)) - 1 = nI D from nI_pred _]
  refine r_put hx hb hC hP hS i_CH t_CH t_CH_ok n_CH (39) (by decide) rfl rfl 4 (by decide) l_CH_25 rfl rfl rfl (Nat.le_of_ble_eq_true rfl) d_CH_close_35 (fun H locs hP hS => ?_)
  exact e_v hx hb hr hlk hC hP hS d_CH_close_38 rfl

set_option maxHeartbeats 4000000 in
set_option maxRecDepth 100000 in
theorem m_CH_closeJ (l : Launch) (G : WG) (S : SS) (D p i : Nat) (hp : p < 4) (hi : i < 32) (hD6 : D < 6) (hD : S 39 4 = nI (D + 1)) (j : Nat) (hj : j < 32) (hq : S 40 (D + 1) = nI j) : Cv l y_CH_close b_CH_close 3 0 G [.ref (gA G 39), .ref (gA G (11 + 4 * p)), .int (nI i)] S (fun S1 => S1 = su (su S (14 + 4 * p) j (nI i)) 39 4 (nI D)) := by
  refine mk l (by decide +kernel) (Nat.le_of_ble_eq_true rfl) ?_
  intro pp_ ee_ ss_ mm_ be_ me_ co_ ls hx hb hr hlk hml hC hP hS hl
  have hl : lv_has ls 3 [(0, .ref (gA G 39)), (1, .ref (gA G (11 + 4 * p))), (2, .int (nI i))] := hl
  refine lv_aload_n hx hb d_CH_close_0 rfl (lv_at hl 0 rfl) ?_
  refine r_get hx hb hC hP i_CH (39) (by decide) rfl rfl 0 (by decide) l_CH_9 rfl d_CH_close_1 ?_
  refine lv_aload_n hx hb d_CH_close_4 rfl (lv_at hl 0 rfl) ?_
  refine r_get hx hb hC hP i_CH (39) (by decide) rfl rfl 4 (by decide) l_CH_25 rfl d_CH_close_5 ?_
  rw [show S 39 4 = nI (D + 1) from hD]
  refine r_ild hx hb hC hP (40) (by decide) rfl (D + 1) rfl (by omega) (by decide) d_CH_close_8 ?_
  rw [show S 40 (D + 1) = nI j from hq]
  refine lv_iconst (v := (-1)) hx hb d_CH_close_9 (by decide) ?_
  refine lv_icmp_eq (tgt := 28) hx hb d_CH_close_10 (by decide) (fun c_10 => absurd c_10 (fun h => absurd (h ▸ nI_pos' (n := j) (by omega)) (by decide))) (fun c_10 => ?_)
  refine lv_aload_n hx hb d_CH_close_13 rfl (lv_at hl 1 rfl) ?_
  refine r_getN hx hb hC hP i_TE (11 + 4 * p) (by omega) (sh_T G _ hp) rfl 2 (by decide) k_CH_49 rfl d_CH_close_14 ?_
  refine lv_aload_n hx hb d_CH_close_17 rfl (lv_at hl 0 rfl) ?_
  refine r_get hx hb hC hP i_CH (39) (by decide) rfl rfl 0 (by decide) l_CH_9 rfl d_CH_close_18 ?_
  refine lv_aload_n hx hb d_CH_close_21 rfl (lv_at hl 0 rfl) ?_
  refine r_get hx hb hC hP i_CH (39) (by decide) rfl rfl 4 (by decide) l_CH_25 rfl d_CH_close_22 ?_
  rw [show S 39 4 = nI (D + 1) from hD]
  refine r_ild hx hb hC hP (40) (by decide) rfl (D + 1) rfl (by omega) (by decide) d_CH_close_25 ?_
  rw [show S 40 (D + 1) = nI j from hq]
  refine lv_iload_n hx hb d_CH_close_26 rfl (lv_at hl 2 rfl) ?_
  refine r_ist hx hb hC hP hS (14 + 4 * p) (by omega) (fun r => sh_T3 G r hp) j rfl (by omega) (by decide) d_CH_close_27 (fun H locs hP hS => ?_)
  refine lv_aload_n hx hb d_CH_close_28 rfl (lv_at hl 0 rfl) ?_
  refine lv_dup hx hb d_CH_close_29 rfl ?_
  refine r_get hx hb hC hP i_CH (39) (by decide) rfl rfl 4 (by decide) l_CH_25 rfl d_CH_close_30 ?_
  rw [show (su S (14 + 4 * p) j (nI i)) 39 4 = S 39 4 from by rw [su_cell _ _ _ (by omega)]]
  rw [show S 39 4 = nI (D + 1) from hD]
  refine lv_iconst (v := 1) hx hb d_CH_close_33 (by decide) ?_
  refine lv_isub hx hb d_CH_close_34 ?_
  rw [show (nI (D + 1)) - 1 = nI D from nI_pred _]
  refine r_put hx hb hC hP hS i_CH t_CH t_CH_ok n_CH (39) (by decide) rfl rfl 4 (by decide) l_CH_25 rfl rfl rfl (Nat.le_of_ble_eq_true rfl) d_CH_close_35 (fun H locs hP hS => ?_)
  exact e_v hx hb hr hlk hC hP hS d_CH_close_38 rfl

def msB (D : Nat) (ti ca : Bool) (lk o : Int32) : Bool := if lk = 0 then (if o.toInt = 16 ∨ o.toInt = 17 then false else if o.toInt = 4 ∨ o.toInt = 5 then ti else if o.toInt = 8 then ca else if o.toInt = 3 ∨ o.toInt = 9 ∨ o.toInt = 10 ∨ o.toInt = 14 then decide (D + 1 < 6) else true) else decide (o = lkDue lk)
set_option maxHeartbeats 4000000 in
set_option maxRecDepth 100000 in
theorem m_CH_mayStand (l : Launch) (G : WG) (S : SS) (D : Nat) (hD6 : D < 6) (hD : S 39 4 = nI (D + 1)) (lk o : Int32) (hlk9 : S 43 (D + 1) = lk) (ti ca : Bool) (hti : S 41 (D + 1) = b2i ti) (hca : S 42 (D + 1) = b2i ca) : Ci l y_CH_mayStand b_CH_mayStand 2 (some (.boolean)) 0 G [.ref (gA G 39), .int o] S (fun r S1 => r = b2i (msB D ti ca lk o) ∧ S1 = S) := by
  refine mk l (by decide +kernel) (Nat.le_of_ble_eq_true rfl) ?_
  intro pp_ ee_ ss_ mm_ be_ me_ co_ ls hx hb hr hlk hml hC hP hS hl
  have hl : lv_has ls 2 [(0, .ref (gA G 39)), (1, .int o)] := hl
  refine lv_aload_n hx hb d_CH_mayStand_0 rfl (lv_at hl 0 rfl) ?_
  refine r_get hx hb hC hP i_CH (39) (by decide) rfl rfl 3 (by decide) l_CH_22 rfl d_CH_mayStand_1 ?_
  refine lv_aload_n hx hb d_CH_mayStand_4 rfl (lv_at hl 0 rfl) ?_
  refine r_get hx hb hC hP i_CH (39) (by decide) rfl rfl 4 (by decide) l_CH_25 rfl d_CH_mayStand_5 ?_
  rw [show S 39 4 = nI (D + 1) from hD]
  refine r_ild hx hb hC hP (43) (by decide) rfl (D + 1) rfl (by omega) (by decide) d_CH_mayStand_8 ?_
  rw [show S 43 (D + 1) = lk from hlk9]
  refine lv_if_eq (tgt := 43) hx hb d_CH_mayStand_9 (by decide) (fun c_9 => ?_) (fun c_9 => ?_)
  · refine lv_iload_n hx hb d_CH_mayStand_43 rfl (lv_at hl 1 rfl) ?_
    by_cases hlo_44 : (o).toInt < 3 ∨ 17 < (o).toInt
    · refine lv_tableOut (tgt := 157) hx hb d_CH_mayStand_44 hlo_44 (by decide) ?_
      refine lv_iconst (v := 1) hx hb d_CH_mayStand_157 (by decide) ?_
      exact e_z hx hb hr hlk hC hP hS d_CH_mayStand_158 (by decide) ⟨by rw [msB, if_pos c_9]; first | (simp only [hk_44]; rfl) | (rw [if_neg (by omega), if_neg (by omega), if_neg (by omega), if_neg (by omega)] <;> rfl), rfl⟩
    · obtain ⟨h1_44, h2_44⟩ := not_or.mp hlo_44
      rcases (show (o).toInt = 3 ∨ (o).toInt = 4 ∨ (o).toInt = 5 ∨ (o).toInt = 6 ∨ (o).toInt = 7 ∨ (o).toInt = 8 ∨ (o).toInt = 9 ∨ (o).toInt = 10 ∨ (o).toInt = 11 ∨ (o).toInt = 12 ∨ (o).toInt = 13 ∨ (o).toInt = 14 ∨ (o).toInt = 15 ∨ (o).toInt = 16 ∨ (o).toInt = 17 by omega) with hk_44 | hk_44 | hk_44 | hk_44 | hk_44 | hk_44 | hk_44 | hk_44 | hk_44 | hk_44 | hk_44 | hk_44 | hk_44 | hk_44 | hk_44
      · refine lv_tableIn (off := 98) (tgt := 142) hx hb d_CH_mayStand_44 h1_44 h2_44 (by rw [hk_44]; rfl) (by decide) ?_
        refine lv_aload_n hx hb d_CH_mayStand_142 rfl (lv_at hl 0 rfl) ?_
        refine r_get hx hb hC hP i_CH (39) (by decide) rfl rfl 4 (by decide) l_CH_25 rfl d_CH_mayStand_143 ?_
        rw [show S 39 4 = nI (D + 1) from hD]
        refine lv_bipush (v := 6) hx hb d_CH_mayStand_146 (by decide) ?_
        refine lv_icmp_ge (tgt := 155) hx hb d_CH_mayStand_148 (by decide) (fun c_148 => ?_) (fun c_148 => ?_)
        · have c_148 : 6 ≤ D + 1 := (q_le (a := 6) (b := D + 1) rfl rfl (by omega) (by omega)).mp c_148
          refine lv_iconst (v := 0) hx hb d_CH_mayStand_155 (by decide) ?_
          exact e_z hx hb hr hlk hC hP hS d_CH_mayStand_156 (by decide) ⟨by rw [msB, if_pos c_9]; simp only [hk_44]; rw [show decide (D + 1 < 6) = false from decide_eq_false (by omega)] <;> rfl, rfl⟩
        · have c_148 : ¬ 6 ≤ D + 1 := fun h => c_148 ((q_le (a := 6) (b := D + 1) rfl rfl (by omega) (by omega)).mpr h)
          refine lv_iconst (v := 1) hx hb d_CH_mayStand_151 (by decide) ?_
          refine lv_goto (tgt := 156) hx hb d_CH_mayStand_152 (by decide) ?_
          exact e_z hx hb hr hlk hC hP hS d_CH_mayStand_156 (by decide) ⟨by rw [msB, if_pos c_9]; simp only [hk_44]; rw [show decide (D + 1 < 6) = true from decide_eq_true (by omega)] <;> rfl, rfl⟩
      · refine lv_tableIn (off := 78) (tgt := 122) hx hb d_CH_mayStand_44 h1_44 h2_44 (by rw [hk_44]; rfl) (by decide) ?_
        refine lv_aload_n hx hb d_CH_mayStand_122 rfl (lv_at hl 0 rfl) ?_
        refine r_get hx hb hC hP i_CH (39) (by decide) rfl rfl 1 (by decide) l_CH_15 rfl d_CH_mayStand_123 ?_
        refine lv_aload_n hx hb d_CH_mayStand_126 rfl (lv_at hl 0 rfl) ?_
        refine r_get hx hb hC hP i_CH (39) (by decide) rfl rfl 4 (by decide) l_CH_25 rfl d_CH_mayStand_127 ?_
        rw [show S 39 4 = nI (D + 1) from hD]
        refine r_zld hx hb hC hP (41) (by decide) rfl (D + 1) rfl (by omega) (by decide) d_CH_mayStand_130 ?_
        rw [show S 41 (D + 1) = b2i ti from hti]
        exact e_z hx hb hr hlk hC hP hS d_CH_mayStand_131 (b2i_nar _) ⟨by rw [msB, if_pos c_9]; first | (simp only [hk_44]; rfl) | (rw [if_neg (by omega), if_neg (by omega), if_neg (by omega), if_neg (by omega)] <;> rfl), rfl⟩
      · refine lv_tableIn (off := 78) (tgt := 122) hx hb d_CH_mayStand_44 h1_44 h2_44 (by rw [hk_44]; rfl) (by decide) ?_
        refine lv_aload_n hx hb d_CH_mayStand_122 rfl (lv_at hl 0 rfl) ?_
        refine r_get hx hb hC hP i_CH (39) (by decide) rfl rfl 1 (by decide) l_CH_15 rfl d_CH_mayStand_123 ?_
        refine lv_aload_n hx hb d_CH_mayStand_126 rfl (lv_at hl 0 rfl) ?_
        refine r_get hx hb hC hP i_CH (39) (by decide) rfl rfl 4 (by decide) l_CH_25 rfl d_CH_mayStand_127 ?_
        rw [show S 39 4 = nI (D + 1) from hD]
        refine r_zld hx hb hC hP (41) (by decide) rfl (D + 1) rfl (by omega) (by decide) d_CH_mayStand_130 ?_
        rw [show S 41 (D + 1) = b2i ti from hti]
        exact e_z hx hb hr hlk hC hP hS d_CH_mayStand_131 (b2i_nar _) ⟨by rw [msB, if_pos c_9]; first | (simp only [hk_44]; rfl) | (rw [if_neg (by omega), if_neg (by omega), if_neg (by omega), if_neg (by omega)] <;> rfl), rfl⟩
      · refine lv_tableIn (off := 113) (tgt := 157) hx hb d_CH_mayStand_44 h1_44 h2_44 (by rw [hk_44]; rfl) (by decide) ?_
        refine lv_iconst (v := 1) hx hb d_CH_mayStand_157 (by decide) ?_
        exact e_z hx hb hr hlk hC hP hS d_CH_mayStand_158 (by decide) ⟨by rw [msB, if_pos c_9]; first | (simp only [hk_44]; rfl) | (rw [if_neg (by omega), if_neg (by omega), if_neg (by omega), if_neg (by omega)] <;> rfl), rfl⟩
      · refine lv_tableIn (off := 113) (tgt := 157) hx hb d_CH_mayStand_44 h1_44 h2_44 (by rw [hk_44]; rfl) (by decide) ?_
        refine lv_iconst (v := 1) hx hb d_CH_mayStand_157 (by decide) ?_
        exact e_z hx hb hr hlk hC hP hS d_CH_mayStand_158 (by decide) ⟨by rw [msB, if_pos c_9]; first | (simp only [hk_44]; rfl) | (rw [if_neg (by omega), if_neg (by omega), if_neg (by omega), if_neg (by omega)] <;> rfl), rfl⟩
      · refine lv_tableIn (off := 88) (tgt := 132) hx hb d_CH_mayStand_44 h1_44 h2_44 (by rw [hk_44]; rfl) (by decide) ?_
        refine lv_aload_n hx hb d_CH_mayStand_132 rfl (lv_at hl 0 rfl) ?_
        refine r_get hx hb hC hP i_CH (39) (by decide) rfl rfl 2 (by decide) l_CH_19 rfl d_CH_mayStand_133 ?_
        refine lv_aload_n hx hb d_CH_mayStand_136 rfl (lv_at hl 0 rfl) ?_
        refine r_get hx hb hC hP i_CH (39) (by decide) rfl rfl 4 (by decide) l_CH_25 rfl d_CH_mayStand_137 ?_
        rw [show S 39 4 = nI (D + 1) from hD]
        refine r_zld hx hb hC hP (42) (by decide) rfl (D + 1) rfl (by omega) (by decide) d_CH_mayStand_140 ?_
        rw [show S 42 (D + 1) = b2i ca from hca]
        exact e_z hx hb hr hlk hC hP hS d_CH_mayStand_141 (b2i_nar _) ⟨by rw [msB, if_pos c_9]; first | (simp only [hk_44]; rfl) | (rw [if_neg (by omega), if_neg (by omega), if_neg (by omega), if_neg (by omega)] <;> rfl), rfl⟩
      · refine lv_tableIn (off := 98) (tgt := 142) hx hb d_CH_mayStand_44 h1_44 h2_44 (by rw [hk_44]; rfl) (by decide) ?_
        refine lv_aload_n hx hb d_CH_mayStand_142 rfl (lv_at hl 0 rfl) ?_
        refine r_get hx hb hC hP i_CH (39) (by decide) rfl rfl 4 (by decide) l_CH_25 rfl d_CH_mayStand_143 ?_
        rw [show S 39 4 = nI (D + 1) from hD]
        refine lv_bipush (v := 6) hx hb d_CH_mayStand_146 (by decide) ?_
        refine lv_icmp_ge (tgt := 155) hx hb d_CH_mayStand_148 (by decide) (fun c_148 => ?_) (fun c_148 => ?_)
        · have c_148 : 6 ≤ D + 1 := (q_le (a := 6) (b := D + 1) rfl rfl (by omega) (by omega)).mp c_148
          refine lv_iconst (v := 0) hx hb d_CH_mayStand_155 (by decide) ?_
          exact e_z hx hb hr hlk hC hP hS d_CH_mayStand_156 (by decide) ⟨by rw [msB, if_pos c_9]; simp only [hk_44]; rw [show decide (D + 1 < 6) = false from decide_eq_false (by omega)] <;> rfl, rfl⟩
        · have c_148 : ¬ 6 ≤ D + 1 := fun h => c_148 ((q_le (a := 6) (b := D + 1) rfl rfl (by omega) (by omega)).mpr h)
          refine lv_iconst (v := 1) hx hb d_CH_mayStand_151 (by decide) ?_
          refine lv_goto (tgt := 156) hx hb d_CH_mayStand_152 (by decide) ?_
          exact e_z hx hb hr hlk hC hP hS d_CH_mayStand_156 (by decide) ⟨by rw [msB, if_pos c_9]; simp only [hk_44]; rw [show decide (D + 1 < 6) = true from decide_eq_true (by omega)] <;> rfl, rfl⟩
      · refine lv_tableIn (off := 98) (tgt := 142) hx hb d_CH_mayStand_44 h1_44 h2_44 (by rw [hk_44]; rfl) (by decide) ?_
        refine lv_aload_n hx hb d_CH_mayStand_142 rfl (lv_at hl 0 rfl) ?_
        refine r_get hx hb hC hP i_CH (39) (by decide) rfl rfl 4 (by decide) l_CH_25 rfl d_CH_mayStand_143 ?_
        rw [show S 39 4 = nI (D + 1) from hD]
        refine lv_bipush (v := 6) hx hb d_CH_mayStand_146 (by decide) ?_
        refine lv_icmp_ge (tgt := 155) hx hb d_CH_mayStand_148 (by decide) (fun c_148 => ?_) (fun c_148 => ?_)
        · have c_148 : 6 ≤ D + 1 := (q_le (a := 6) (b := D + 1) rfl rfl (by omega) (by omega)).mp c_148
          refine lv_iconst (v := 0) hx hb d_CH_mayStand_155 (by decide) ?_
          exact e_z hx hb hr hlk hC hP hS d_CH_mayStand_156 (by decide) ⟨by rw [msB, if_pos c_9]; simp only [hk_44]; rw [show decide (D + 1 < 6) = false from decide_eq_false (by omega)] <;> rfl, rfl⟩
        · have c_148 : ¬ 6 ≤ D + 1 := fun h => c_148 ((q_le (a := 6) (b := D + 1) rfl rfl (by omega) (by omega)).mpr h)
          refine lv_iconst (v := 1) hx hb d_CH_mayStand_151 (by decide) ?_
          refine lv_goto (tgt := 156) hx hb d_CH_mayStand_152 (by decide) ?_
          exact e_z hx hb hr hlk hC hP hS d_CH_mayStand_156 (by decide) ⟨by rw [msB, if_pos c_9]; simp only [hk_44]; rw [show decide (D + 1 < 6) = true from decide_eq_true (by omega)] <;> rfl, rfl⟩
      · refine lv_tableIn (off := 113) (tgt := 157) hx hb d_CH_mayStand_44 h1_44 h2_44 (by rw [hk_44]; rfl) (by decide) ?_
        refine lv_iconst (v := 1) hx hb d_CH_mayStand_157 (by decide) ?_
        exact e_z hx hb hr hlk hC hP hS d_CH_mayStand_158 (by decide) ⟨by rw [msB, if_pos c_9]; first | (simp only [hk_44]; rfl) | (rw [if_neg (by omega), if_neg (by omega), if_neg (by omega), if_neg (by omega)] <;> rfl), rfl⟩
      · refine lv_tableIn (off := 113) (tgt := 157) hx hb d_CH_mayStand_44 h1_44 h2_44 (by rw [hk_44]; rfl) (by decide) ?_
        refine lv_iconst (v := 1) hx hb d_CH_mayStand_157 (by decide) ?_
        exact e_z hx hb hr hlk hC hP hS d_CH_mayStand_158 (by decide) ⟨by rw [msB, if_pos c_9]; first | (simp only [hk_44]; rfl) | (rw [if_neg (by omega), if_neg (by omega), if_neg (by omega), if_neg (by omega)] <;> rfl), rfl⟩
      · refine lv_tableIn (off := 113) (tgt := 157) hx hb d_CH_mayStand_44 h1_44 h2_44 (by rw [hk_44]; rfl) (by decide) ?_
        refine lv_iconst (v := 1) hx hb d_CH_mayStand_157 (by decide) ?_
        exact e_z hx hb hr hlk hC hP hS d_CH_mayStand_158 (by decide) ⟨by rw [msB, if_pos c_9]; first | (simp only [hk_44]; rfl) | (rw [if_neg (by omega), if_neg (by omega), if_neg (by omega), if_neg (by omega)] <;> rfl), rfl⟩
      · refine lv_tableIn (off := 98) (tgt := 142) hx hb d_CH_mayStand_44 h1_44 h2_44 (by rw [hk_44]; rfl) (by decide) ?_
        refine lv_aload_n hx hb d_CH_mayStand_142 rfl (lv_at hl 0 rfl) ?_
        refine r_get hx hb hC hP i_CH (39) (by decide) rfl rfl 4 (by decide) l_CH_25 rfl d_CH_mayStand_143 ?_
        rw [show S 39 4 = nI (D + 1) from hD]
        refine lv_bipush (v := 6) hx hb d_CH_mayStand_146 (by decide) ?_
        refine lv_icmp_ge (tgt := 155) hx hb d_CH_mayStand_148 (by decide) (fun c_148 => ?_) (fun c_148 => ?_)
        · have c_148 : 6 ≤ D + 1 := (q_le (a := 6) (b := D + 1) rfl rfl (by omega) (by omega)).mp c_148
          refine lv_iconst (v := 0) hx hb d_CH_mayStand_155 (by decide) ?_
          exact e_z hx hb hr hlk hC hP hS d_CH_mayStand_156 (by decide) ⟨by rw [msB, if_pos c_9]; simp only [hk_44]; rw [show decide (D + 1 < 6) = false from decide_eq_false (by omega)] <;> rfl, rfl⟩
        · have c_148 : ¬ 6 ≤ D + 1 := fun h => c_148 ((q_le (a := 6) (b := D + 1) rfl rfl (by omega) (by omega)).mpr h)
          refine lv_iconst (v := 1) hx hb d_CH_mayStand_151 (by decide) ?_
          refine lv_goto (tgt := 156) hx hb d_CH_mayStand_152 (by decide) ?_
          exact e_z hx hb hr hlk hC hP hS d_CH_mayStand_156 (by decide) ⟨by rw [msB, if_pos c_9]; simp only [hk_44]; rw [show decide (D + 1 < 6) = true from decide_eq_true (by omega)] <;> rfl, rfl⟩
      · refine lv_tableIn (off := 113) (tgt := 157) hx hb d_CH_mayStand_44 h1_44 h2_44 (by rw [hk_44]; rfl) (by decide) ?_
        refine lv_iconst (v := 1) hx hb d_CH_mayStand_157 (by decide) ?_
        exact e_z hx hb hr hlk hC hP hS d_CH_mayStand_158 (by decide) ⟨by rw [msB, if_pos c_9]; first | (simp only [hk_44]; rfl) | (rw [if_neg (by omega), if_neg (by omega), if_neg (by omega), if_neg (by omega)] <;> rfl), rfl⟩
      · refine lv_tableIn (off := 76) (tgt := 120) hx hb d_CH_mayStand_44 h1_44 h2_44 (by rw [hk_44]; rfl) (by decide) ?_
        refine lv_iconst (v := 0) hx hb d_CH_mayStand_120 (by decide) ?_
        exact e_z hx hb hr hlk hC hP hS d_CH_mayStand_121 (by decide) ⟨by rw [msB, if_pos c_9]; first | (simp only [hk_44]; rfl) | (rw [if_neg (by omega), if_neg (by omega), if_neg (by omega), if_neg (by omega)] <;> rfl), rfl⟩
      · refine lv_tableIn (off := 76) (tgt := 120) hx hb d_CH_mayStand_44 h1_44 h2_44 (by rw [hk_44]; rfl) (by decide) ?_
        refine lv_iconst (v := 0) hx hb d_CH_mayStand_120 (by decide) ?_
        exact e_z hx hb hr hlk hC hP hS d_CH_mayStand_121 (by decide) ⟨by rw [msB, if_pos c_9]; first | (simp only [hk_44]; rfl) | (rw [if_neg (by omega), if_neg (by omega), if_neg (by omega), if_neg (by omega)] <;> rfl), rfl⟩
  · refine lv_iload_n hx hb d_CH_mayStand_12 rfl (lv_at hl 1 rfl) ?_
    refine lv_aload_n hx hb d_CH_mayStand_13 rfl (lv_at hl 0 rfl) ?_
    refine r_get hx hb hC hP i_CH (39) (by decide) rfl rfl 3 (by decide) l_CH_22 rfl d_CH_mayStand_14 ?_
    refine lv_aload_n hx hb d_CH_mayStand_17 rfl (lv_at hl 0 rfl) ?_
    refine r_get hx hb hC hP i_CH (39) (by decide) rfl rfl 4 (by decide) l_CH_25 rfl d_CH_mayStand_18 ?_
    rw [show S 39 4 = nI (D + 1) from hD]
    refine r_ild hx hb hC hP (43) (by decide) rfl (D + 1) rfl (by omega) (by decide) d_CH_mayStand_21 ?_
    rw [show S 43 (D + 1) = lk from hlk9]
    refine lv_iconst (v := 3) hx hb d_CH_mayStand_22 (by decide) ?_
    refine lv_iand hx hb d_CH_mayStand_23 ?_
    refine lv_if_eq (tgt := 32) hx hb d_CH_mayStand_24 (by decide) (fun c_24 => ?_) (fun c_24 => ?_)
    · refine lv_bipush (v := 17) hx hb d_CH_mayStand_32 (by decide) ?_
      refine lv_icmp_ne (tgt := 41) hx hb d_CH_mayStand_34 (by decide) (fun c_34 => ?_) (fun c_34 => ?_)
      · refine lv_iconst (v := 0) hx hb d_CH_mayStand_41 (by decide) ?_
        exact e_z hx hb hr hlk hC hP hS d_CH_mayStand_42 (by decide) ⟨by rw [msB, if_neg c_9, lkDue, if_neg c_9, if_pos c_24, decide_eq_false c_34] <;> rfl, rfl⟩
      · refine lv_iconst (v := 1) hx hb d_CH_mayStand_37 (by decide) ?_
        refine lv_goto (tgt := 42) hx hb d_CH_mayStand_38 (by decide) ?_
        exact e_z hx hb hr hlk hC hP hS d_CH_mayStand_42 (by decide) ⟨by rw [msB, if_neg c_9, lkDue, if_neg c_9, if_pos c_24, decide_eq_true c_34] <;> rfl, rfl⟩
    · refine lv_bipush (v := 16) hx hb d_CH_mayStand_27 (by decide) ?_
      refine lv_goto (tgt := 34) hx hb d_CH_mayStand_29 (by decide) ?_
      refine lv_icmp_ne (tgt := 41) hx hb d_CH_mayStand_34 (by decide) (fun c_34 => ?_) (fun c_34 => ?_)
      · refine lv_iconst (v := 0) hx hb d_CH_mayStand_41 (by decide) ?_
        exact e_z hx hb hr hlk hC hP hS d_CH_mayStand_42 (by decide) ⟨by rw [msB, if_neg c_9, lkDue, if_neg c_9, if_neg c_24, decide_eq_false c_34] <;> rfl, rfl⟩
      · refine lv_iconst (v := 1) hx hb d_CH_mayStand_37 (by decide) ?_
        refine lv_goto (tgt := 42) hx hb d_CH_mayStand_38 (by decide) ?_
        exact e_z hx hb hr hlk hC hP hS d_CH_mayStand_42 (by decide) ⟨by rw [msB, if_neg c_9, lkDue, if_neg c_9, if_neg c_24, decide_eq_true c_34] <;> rfl, rfl⟩

set_option maxHeartbeats 4000000 in
set_option maxRecDepth 100000 in
theorem m_CH_take_try (l : Launch) (G : WG) (S : SS) (p i : Nat) (hp : p < 4) (hi : i < 32) (hop : S (12 + 4 * p) i = 9) (D : Nat) (hD6 : D + 1 < 6) (hD : S 39 4 = nI (D + 1)) (ti ca : Bool) (hti : S 41 (D + 1) = b2i ti) (hca : S 42 (D + 1) = b2i ca) : Cv l y_CH_take b_CH_take 3 1 G [.ref (gA G 39), .ref (gA G (11 + 4 * p)), .int (nI i)] S (fun S1 => S1 = chPush (su (su S (14 + 4 * p) i (nI i)) 43 (D + 1) (S (13 + 4 * p) i)) (D + 1) (nI i) (false || ti) (false || ca)) := by
  refine mk l (by decide +kernel) (Nat.le_of_ble_eq_true rfl) ?_
  intro pp_ ee_ ss_ mm_ be_ me_ co_ ls hx hb hr hlk hml hC hP hS hl
  have hl : lv_has ls 3 [(0, .ref (gA G 39)), (1, .ref (gA G (11 + 4 * p))), (2, .int (nI i))] := hl
  refine lv_aload_n hx hb d_CH_take_0 rfl (lv_at hl 1 rfl) ?_
  refine r_getN hx hb hC hP i_TE (11 + 4 * p) (by omega) (sh_T G _ hp) rfl 2 (by decide) k_CH_49 rfl d_CH_take_1 ?_
  refine lv_iload_n hx hb d_CH_take_4 rfl (lv_at hl 2 rfl) ?_
  refine lv_iload_n hx hb d_CH_take_5 rfl (lv_at hl 2 rfl) ?_
  refine r_ist hx hb hC hP hS (14 + 4 * p) (by omega) (fun r => sh_T3 G r hp) i rfl (by omega) (by decide) d_CH_take_6 (fun H locs hP hS => ?_)
  refine lv_aload_n hx hb d_CH_take_7 rfl (lv_at hl 1 rfl) ?_
  refine r_getN hx hb hC hP i_TE (11 + 4 * p) (by omega) (sh_T G _ hp) rfl 0 (by decide) k_CH_38 rfl d_CH_take_8 ?_
  refine lv_iload_n hx hb d_CH_take_11 rfl (lv_at hl 2 rfl) ?_
  refine r_ild hx hb hC hP (12 + 4 * p) (by omega) (sh_T1 G _ hp) i rfl (by omega) (by decide) d_CH_take_12 ?_
  rw [show (su S (14 + 4 * p) i (nI i)) (12 + 4 * p) i = S (12 + 4 * p) i from by rw [su_cell _ _ _ (by omega)]]
  rw [show S (12 + 4 * p) i = 9 from hop]
  refine lv_tableIn (off := 88) (tgt := 101) hx hb d_CH_take_13 (by decide) (by decide) (by decide) (by decide) ?_
  refine lv_aload_n hx hb d_CH_take_101 rfl (lv_at hl 0 rfl) ?_
  refine r_get hx hb hC hP i_CH (39) (by decide) rfl rfl 3 (by decide) l_CH_22 rfl d_CH_take_102 ?_
  refine lv_aload_n hx hb d_CH_take_105 rfl (lv_at hl 0 rfl) ?_
  refine r_get hx hb hC hP i_CH (39) (by decide) rfl rfl 4 (by decide) l_CH_25 rfl d_CH_take_106 ?_
  rw [show (su S (14 + 4 * p) i (nI i)) 39 4 = S 39 4 from by rw [su_cell _ _ _ (by omega)]]
  rw [show S 39 4 = nI (D + 1) from hD]
  refine lv_aload_n hx hb d_CH_take_109 rfl (lv_at hl 1 rfl) ?_
  refine r_getN hx hb hC hP i_TE (11 + 4 * p) (by omega) (sh_T G _ hp) rfl 1 (by decide) k_CH_55 rfl d_CH_take_110 ?_
  refine lv_iload_n hx hb d_CH_take_113 rfl (lv_at hl 2 rfl) ?_
  refine r_ild hx hb hC hP (13 + 4 * p) (by omega) (sh_T2 G _ hp) i rfl (by omega) (by decide) d_CH_take_114 ?_
  rw [show (su S (14 + 4 * p) i (nI i)) (13 + 4 * p) i = S (13 + 4 * p) i from by rw [su_cell _ _ _ (by omega)]]
  refine r_ist hx hb hC hP hS (43) (by decide) (fun _ => rfl) (D + 1) rfl (by omega) (by decide) d_CH_take_115 (fun H locs hP hS => ?_)
  refine lv_aload_n hx hb d_CH_take_116 rfl (lv_at hl 0 rfl) ?_
  refine lv_iload_n hx hb d_CH_take_117 rfl (lv_at hl 2 rfl) ?_
  refine lv_iconst (v := 0) hx hb d_CH_take_118 (by decide) ?_
  refine lv_iconst (v := 0) hx hb d_CH_take_119 (by decide) ?_
  refine r_v hC hS (r_runV (np := 3) (As := [.int (nI i), .int 0, .int 0]) (rest := []) hx hb hml hC hP hS (by decide) rfl rfl (m_CH_open l G (su (su S (14 + 4 * p) i (nI i)) 43 (D + 1) (S (13 + 4 * p) i)) (D + 1) (by omega) (by rw [su_cell _ _ _ (by decide), su_cell _ _ _ (by omega)]; exact hD) (nI i) false false ti ca (by rw [su_cell _ _ _ (by decide), su_cell _ _ _ (by omega)]; exact hti) (by rw [su_cell _ _ _ (by decide), su_cell _ _ _ (by omega)]; exact hca)) l_CH_29 im_CH_open se_CH_open in_CH c_CH_open_in (by decide +kernel) ⟨by simp only [rmF]; omega, by simp only [rmF]; omega⟩ rfl hl.1 (Nat.le_of_ble_eq_true rfl) d_CH_take_120 ⟨Nat.le_refl _, Nat.le_refl _⟩) (fun S_120 H locs hw hP hS => ?_)
  rw [hw] at hP
  refine lv_goto (tgt := 189) hx hb d_CH_take_123 (by decide) ?_
  exact e_v hx hb hr hlk hC hP hS d_CH_take_189 rfl

set_option maxHeartbeats 4000000 in
set_option maxRecDepth 100000 in
theorem m_CH_take_catch (l : Launch) (G : WG) (S : SS) (p i : Nat) (hp : p < 4) (hi : i < 32) (hop : S (12 + 4 * p) i = 16) (D : Nat) (hD6 : D + 1 < 6) (hD : S 39 4 = nI (D + 1)) (ti ca : Bool) (hti : S 41 (D + 1) = b2i ti) (hca : S 42 (D + 1) = b2i ca) : Cv l y_CH_take b_CH_take 3 1 G [.ref (gA G 39), .ref (gA G (11 + 4 * p)), .int (nI i)] S (fun S1 => S1 = chPush (su (su S (14 + 4 * p) i (nI i)) 43 (D + 1) (S 43 (D + 1) - 1)) (D + 1) (nI i) (false || ti) (true || ca)) := by
  refine mk l (by decide +kernel) (Nat.le_of_ble_eq_true rfl) ?_
  intro pp_ ee_ ss_ mm_ be_ me_ co_ ls hx hb hr hlk hml hC hP hS hl
  have hl : lv_has ls 3 [(0, .ref (gA G 39)), (1, .ref (gA G (11 + 4 * p))), (2, .int (nI i))] := hl
  refine lv_aload_n hx hb d_CH_take_0 rfl (lv_at hl 1 rfl) ?_
  refine r_getN hx hb hC hP i_TE (11 + 4 * p) (by omega) (sh_T G _ hp) rfl 2 (by decide) k_CH_49 rfl d_CH_take_1 ?_
  refine lv_iload_n hx hb d_CH_take_4 rfl (lv_at hl 2 rfl) ?_
  refine lv_iload_n hx hb d_CH_take_5 rfl (lv_at hl 2 rfl) ?_
  refine r_ist hx hb hC hP hS (14 + 4 * p) (by omega) (fun r => sh_T3 G r hp) i rfl (by omega) (by decide) d_CH_take_6 (fun H locs hP hS => ?_)
  refine lv_aload_n hx hb d_CH_take_7 rfl (lv_at hl 1 rfl) ?_
  refine r_getN hx hb hC hP i_TE (11 + 4 * p) (by omega) (sh_T G _ hp) rfl 0 (by decide) k_CH_38 rfl d_CH_take_8 ?_
  refine lv_iload_n hx hb d_CH_take_11 rfl (lv_at hl 2 rfl) ?_
  refine r_ild hx hb hC hP (12 + 4 * p) (by omega) (sh_T1 G _ hp) i rfl (by omega) (by decide) d_CH_take_12 ?_
  rw [show (su S (14 + 4 * p) i (nI i)) (12 + 4 * p) i = S (12 + 4 * p) i from by rw [su_cell _ _ _ (by omega)]]
  rw [show S (12 + 4 * p) i = 16 from hop]
  refine lv_tableIn (off := 113) (tgt := 126) hx hb d_CH_take_13 (by decide) (by decide) (by decide) (by decide) ?_
  refine lv_aload_n hx hb d_CH_take_126 rfl (lv_at hl 0 rfl) ?_
  refine r_get hx hb hC hP i_CH (39) (by decide) rfl rfl 3 (by decide) l_CH_22 rfl d_CH_take_127 ?_
  refine lv_aload_n hx hb d_CH_take_130 rfl (lv_at hl 0 rfl) ?_
  refine r_get hx hb hC hP i_CH (39) (by decide) rfl rfl 4 (by decide) l_CH_25 rfl d_CH_take_131 ?_
  rw [show (su S (14 + 4 * p) i (nI i)) 39 4 = S 39 4 from by rw [su_cell _ _ _ (by omega)]]
  rw [show S 39 4 = nI (D + 1) from hD]
  refine lv_dup2_11 hx hb d_CH_take_134 rfl rfl ?_
  refine r_ild hx hb hC hP (43) (by decide) rfl (D + 1) rfl (by omega) (by decide) d_CH_take_135 ?_
  rw [show (su S (14 + 4 * p) i (nI i)) 43 (D + 1) = S 43 (D + 1) from by rw [su_cell _ _ _ (by omega)]]
  refine lv_iconst (v := 1) hx hb d_CH_take_136 (by decide) ?_
  refine lv_isub hx hb d_CH_take_137 ?_
  refine r_ist hx hb hC hP hS (43) (by decide) (fun _ => rfl) (D + 1) rfl (by omega) (by decide) d_CH_take_138 (fun H locs hP hS => ?_)
  refine lv_aload_n hx hb d_CH_take_139 rfl (lv_at hl 0 rfl) ?_
  refine lv_iload_n hx hb d_CH_take_140 rfl (lv_at hl 2 rfl) ?_
  refine lv_iconst (v := 0) hx hb d_CH_take_141 (by decide) ?_
  refine lv_iconst (v := 1) hx hb d_CH_take_142 (by decide) ?_
  refine r_v hC hS (r_runV (np := 3) (As := [.int (nI i), .int 0, .int 1]) (rest := []) hx hb hml hC hP hS (by decide) rfl rfl (m_CH_open l G (su (su S (14 + 4 * p) i (nI i)) 43 (D + 1) ((S 43 (D + 1)) - 1)) (D + 1) (by omega) (by rw [su_cell _ _ _ (by decide), su_cell _ _ _ (by omega)]; exact hD) (nI i) false true ti ca (by rw [su_cell _ _ _ (by decide), su_cell _ _ _ (by omega)]; exact hti) (by rw [su_cell _ _ _ (by decide), su_cell _ _ _ (by omega)]; exact hca)) l_CH_29 im_CH_open se_CH_open in_CH c_CH_open_in (by decide +kernel) ⟨by simp only [rmF]; omega, by simp only [rmF]; omega⟩ rfl hl.1 (Nat.le_of_ble_eq_true rfl) d_CH_take_143 ⟨Nat.le_refl _, Nat.le_refl _⟩) (fun S_143 H locs hw hP hS => ?_)
  rw [hw] at hP
  refine lv_goto (tgt := 189) hx hb d_CH_take_146 (by decide) ?_
  exact e_v hx hb hr hlk hC hP hS d_CH_take_189 rfl

set_option maxHeartbeats 4000000 in
set_option maxRecDepth 100000 in
theorem m_CH_take_last (l : Launch) (G : WG) (S : SS) (p i : Nat) (hp : p < 4) (hi : i < 32) (hop : S (12 + 4 * p) i = 17) (D : Nat) (hD6 : D + 1 < 6) (hD : S 39 4 = nI (D + 1)) (ti ca : Bool) (hti : S 41 (D + 1) = b2i ti) (hca : S 42 (D + 1) = b2i ca) : Cv l y_CH_take b_CH_take 3 1 G [.ref (gA G 39), .ref (gA G (11 + 4 * p)), .int (nI i)] S (fun S1 => S1 = chPush (su (su S (14 + 4 * p) i (nI i)) 43 (D + 1) 0) (D + 1) (nI i) (false || ti) (false || ca)) := by
  refine mk l (by decide +kernel) (Nat.le_of_ble_eq_true rfl) ?_
  intro pp_ ee_ ss_ mm_ be_ me_ co_ ls hx hb hr hlk hml hC hP hS hl
  have hl : lv_has ls 3 [(0, .ref (gA G 39)), (1, .ref (gA G (11 + 4 * p))), (2, .int (nI i))] := hl
  refine lv_aload_n hx hb d_CH_take_0 rfl (lv_at hl 1 rfl) ?_
  refine r_getN hx hb hC hP i_TE (11 + 4 * p) (by omega) (sh_T G _ hp) rfl 2 (by decide) k_CH_49 rfl d_CH_take_1 ?_
  refine lv_iload_n hx hb d_CH_take_4 rfl (lv_at hl 2 rfl) ?_
  refine lv_iload_n hx hb d_CH_take_5 rfl (lv_at hl 2 rfl) ?_
  refine r_ist hx hb hC hP hS (14 + 4 * p) (by omega) (fun r => sh_T3 G r hp) i rfl (by omega) (by decide) d_CH_take_6 (fun H locs hP hS => ?_)
  refine lv_aload_n hx hb d_CH_take_7 rfl (lv_at hl 1 rfl) ?_
  refine r_getN hx hb hC hP i_TE (11 + 4 * p) (by omega) (sh_T G _ hp) rfl 0 (by decide) k_CH_38 rfl d_CH_take_8 ?_
  refine lv_iload_n hx hb d_CH_take_11 rfl (lv_at hl 2 rfl) ?_
  refine r_ild hx hb hC hP (12 + 4 * p) (by omega) (sh_T1 G _ hp) i rfl (by omega) (by decide) d_CH_take_12 ?_
  rw [show (su S (14 + 4 * p) i (nI i)) (12 + 4 * p) i = S (12 + 4 * p) i from by rw [su_cell _ _ _ (by omega)]]
  rw [show S (12 + 4 * p) i = 17 from hop]
  refine lv_tableIn (off := 136) (tgt := 149) hx hb d_CH_take_13 (by decide) (by decide) (by decide) (by decide) ?_
  refine lv_aload_n hx hb d_CH_take_149 rfl (lv_at hl 0 rfl) ?_
  refine r_get hx hb hC hP i_CH (39) (by decide) rfl rfl 3 (by decide) l_CH_22 rfl d_CH_take_150 ?_
  refine lv_aload_n hx hb d_CH_take_153 rfl (lv_at hl 0 rfl) ?_
  refine r_get hx hb hC hP i_CH (39) (by decide) rfl rfl 4 (by decide) l_CH_25 rfl d_CH_take_154 ?_
  rw [show (su S (14 + 4 * p) i (nI i)) 39 4 = S 39 4 from by rw [su_cell _ _ _ (by omega)]]
  rw [show S 39 4 = nI (D + 1) from hD]
  refine lv_iconst (v := 0) hx hb d_CH_take_157 (by decide) ?_
  refine r_ist hx hb hC hP hS (43) (by decide) (fun _ => rfl) (D + 1) rfl (by omega) (by decide) d_CH_take_158 (fun H locs hP hS => ?_)
  refine lv_aload_n hx hb d_CH_take_159 rfl (lv_at hl 0 rfl) ?_
  refine lv_iload_n hx hb d_CH_take_160 rfl (lv_at hl 2 rfl) ?_
  refine lv_iconst (v := 0) hx hb d_CH_take_161 (by decide) ?_
  refine lv_iconst (v := 0) hx hb d_CH_take_162 (by decide) ?_
  refine r_v hC hS (r_runV (np := 3) (As := [.int (nI i), .int 0, .int 0]) (rest := []) hx hb hml hC hP hS (by decide) rfl rfl (m_CH_open l G (su (su S (14 + 4 * p) i (nI i)) 43 (D + 1) 0) (D + 1) (by omega) (by rw [su_cell _ _ _ (by decide), su_cell _ _ _ (by omega)]; exact hD) (nI i) false false ti ca (by rw [su_cell _ _ _ (by decide), su_cell _ _ _ (by omega)]; exact hti) (by rw [su_cell _ _ _ (by decide), su_cell _ _ _ (by omega)]; exact hca)) l_CH_29 im_CH_open se_CH_open in_CH c_CH_open_in (by decide +kernel) ⟨by simp only [rmF]; omega, by simp only [rmF]; omega⟩ rfl hl.1 (Nat.le_of_ble_eq_true rfl) d_CH_take_163 ⟨Nat.le_refl _, Nat.le_refl _⟩) (fun S_163 H locs hw hP hS => ?_)
  rw [hw] at hP
  refine lv_goto (tgt := 189) hx hb d_CH_take_166 (by decide) ?_
  exact e_v hx hb hr hlk hC hP hS d_CH_take_189 rfl

set_option maxHeartbeats 4000000 in
set_option maxRecDepth 100000 in
theorem m_CH_take_times (l : Launch) (G : WG) (S : SS) (p i : Nat) (hp : p < 4) (hi : i < 32) (hop : S (12 + 4 * p) i = 3) (D : Nat) (hD6 : D + 1 < 6) (hD : S 39 4 = nI (D + 1)) (ti ca : Bool) (hti : S 41 (D + 1) = b2i ti) (hca : S 42 (D + 1) = b2i ca) : Cv l y_CH_take b_CH_take 3 1 G [.ref (gA G 39), .ref (gA G (11 + 4 * p)), .int (nI i)] S (fun S1 => S1 = chPush (su S (14 + 4 * p) i (nI i)) (D + 1) (nI i) (true || ti) (false || ca)) := by
  refine mk l (by decide +kernel) (Nat.le_of_ble_eq_true rfl) ?_
  intro pp_ ee_ ss_ mm_ be_ me_ co_ ls hx hb hr hlk hml hC hP hS hl
  have hl : lv_has ls 3 [(0, .ref (gA G 39)), (1, .ref (gA G (11 + 4 * p))), (2, .int (nI i))] := hl
  refine lv_aload_n hx hb d_CH_take_0 rfl (lv_at hl 1 rfl) ?_
  refine r_getN hx hb hC hP i_TE (11 + 4 * p) (by omega) (sh_T G _ hp) rfl 2 (by decide) k_CH_49 rfl d_CH_take_1 ?_
  refine lv_iload_n hx hb d_CH_take_4 rfl (lv_at hl 2 rfl) ?_
  refine lv_iload_n hx hb d_CH_take_5 rfl (lv_at hl 2 rfl) ?_
  refine r_ist hx hb hC hP hS (14 + 4 * p) (by omega) (fun r => sh_T3 G r hp) i rfl (by omega) (by decide) d_CH_take_6 (fun H locs hP hS => ?_)
  refine lv_aload_n hx hb d_CH_take_7 rfl (lv_at hl 1 rfl) ?_
  refine r_getN hx hb hC hP i_TE (11 + 4 * p) (by omega) (sh_T G _ hp) rfl 0 (by decide) k_CH_38 rfl d_CH_take_8 ?_
  refine lv_iload_n hx hb d_CH_take_11 rfl (lv_at hl 2 rfl) ?_
  refine r_ild hx hb hC hP (12 + 4 * p) (by omega) (sh_T1 G _ hp) i rfl (by omega) (by decide) d_CH_take_12 ?_
  rw [show (su S (14 + 4 * p) i (nI i)) (12 + 4 * p) i = S (12 + 4 * p) i from by rw [su_cell _ _ _ (by omega)]]
  rw [show S (12 + 4 * p) i = 3 from hop]
  refine lv_tableIn (off := 156) (tgt := 169) hx hb d_CH_take_13 (by decide) (by decide) (by decide) (by decide) ?_
  refine lv_aload_n hx hb d_CH_take_169 rfl (lv_at hl 0 rfl) ?_
  refine lv_iload_n hx hb d_CH_take_170 rfl (lv_at hl 2 rfl) ?_
  refine lv_iconst (v := 1) hx hb d_CH_take_171 (by decide) ?_
  refine lv_iconst (v := 0) hx hb d_CH_take_172 (by decide) ?_
  refine r_v hC hS (r_runV (np := 3) (As := [.int (nI i), .int 1, .int 0]) (rest := []) hx hb hml hC hP hS (by decide) rfl rfl (m_CH_open l G (su S (14 + 4 * p) i (nI i)) (D + 1) (by omega) (by rw [su_cell _ _ _ (by omega)]; exact hD) (nI i) true false ti ca (by rw [su_cell _ _ _ (by omega)]; exact hti) (by rw [su_cell _ _ _ (by omega)]; exact hca)) l_CH_29 im_CH_open se_CH_open in_CH c_CH_open_in (by decide +kernel) ⟨by simp only [rmF]; omega, by simp only [rmF]; omega⟩ rfl hl.1 (Nat.le_of_ble_eq_true rfl) d_CH_take_173 ⟨Nat.le_refl _, Nat.le_refl _⟩) (fun S_173 H locs hw hP hS => ?_)
  rw [hw] at hP
  refine lv_goto (tgt := 189) hx hb d_CH_take_176 (by decide) ?_
  exact e_v hx hb hr hlk hC hP hS d_CH_take_189 rfl

set_option maxHeartbeats 4000000 in
set_option maxRecDepth 100000 in
theorem m_CH_take_blk10 (l : Launch) (G : WG) (S : SS) (p i : Nat) (hp : p < 4) (hi : i < 32) (hop : S (12 + 4 * p) i = 10) (D : Nat) (hD6 : D + 1 < 6) (hD : S 39 4 = nI (D + 1)) (ti ca : Bool) (hti : S 41 (D + 1) = b2i ti) (hca : S 42 (D + 1) = b2i ca) : Cv l y_CH_take b_CH_take 3 1 G [.ref (gA G 39), .ref (gA G (11 + 4 * p)), .int (nI i)] S (fun S1 => S1 = chPush (su S (14 + 4 * p) i (nI i)) (D + 1) (nI i) (false || ti) (false || ca)) := by
  refine mk l (by decide +kernel) (Nat.le_of_ble_eq_true rfl) ?_
  intro pp_ ee_ ss_ mm_ be_ me_ co_ ls hx hb hr hlk hml hC hP hS hl
  have hl : lv_has ls 3 [(0, .ref (gA G 39)), (1, .ref (gA G (11 + 4 * p))), (2, .int (nI i))] := hl
  refine lv_aload_n hx hb d_CH_take_0 rfl (lv_at hl 1 rfl) ?_
  refine r_getN hx hb hC hP i_TE (11 + 4 * p) (by omega) (sh_T G _ hp) rfl 2 (by decide) k_CH_49 rfl d_CH_take_1 ?_
  refine lv_iload_n hx hb d_CH_take_4 rfl (lv_at hl 2 rfl) ?_
  refine lv_iload_n hx hb d_CH_take_5 rfl (lv_at hl 2 rfl) ?_
  refine r_ist hx hb hC hP hS (14 + 4 * p) (by omega) (fun r => sh_T3 G r hp) i rfl (by omega) (by decide) d_CH_take_6 (fun H locs hP hS => ?_)
  refine lv_aload_n hx hb d_CH_take_7 rfl (lv_at hl 1 rfl) ?_
  refine r_getN hx hb hC hP i_TE (11 + 4 * p) (by omega) (sh_T G _ hp) rfl 0 (by decide) k_CH_38 rfl d_CH_take_8 ?_
  refine lv_iload_n hx hb d_CH_take_11 rfl (lv_at hl 2 rfl) ?_
  refine r_ild hx hb hC hP (12 + 4 * p) (by omega) (sh_T1 G _ hp) i rfl (by omega) (by decide) d_CH_take_12 ?_
  rw [show (su S (14 + 4 * p) i (nI i)) (12 + 4 * p) i = S (12 + 4 * p) i from by rw [su_cell _ _ _ (by omega)]]
  rw [show S (12 + 4 * p) i = 10 from hop]
  refine lv_tableIn (off := 166) (tgt := 179) hx hb d_CH_take_13 (by decide) (by decide) (by decide) (by decide) ?_
  refine lv_aload_n hx hb d_CH_take_179 rfl (lv_at hl 0 rfl) ?_
  refine lv_iload_n hx hb d_CH_take_180 rfl (lv_at hl 2 rfl) ?_
  refine lv_iconst (v := 0) hx hb d_CH_take_181 (by decide) ?_
  refine lv_iconst (v := 0) hx hb d_CH_take_182 (by decide) ?_
  refine r_v hC hS (r_runV (np := 3) (As := [.int (nI i), .int 0, .int 0]) (rest := []) hx hb hml hC hP hS (by decide) rfl rfl (m_CH_open l G (su S (14 + 4 * p) i (nI i)) (D + 1) (by omega) (by rw [su_cell _ _ _ (by omega)]; exact hD) (nI i) false false ti ca (by rw [su_cell _ _ _ (by omega)]; exact hti) (by rw [su_cell _ _ _ (by omega)]; exact hca)) l_CH_29 im_CH_open se_CH_open in_CH c_CH_open_in (by decide +kernel) ⟨by simp only [rmF]; omega, by simp only [rmF]; omega⟩ rfl hl.1 (Nat.le_of_ble_eq_true rfl) d_CH_take_183 ⟨Nat.le_refl _, Nat.le_refl _⟩) (fun S_183 H locs hw hP hS => ?_)
  rw [hw] at hP
  refine lv_goto (tgt := 189) hx hb d_CH_take_186 (by decide) ?_
  exact e_v hx hb hr hlk hC hP hS d_CH_take_189 rfl

set_option maxHeartbeats 4000000 in
set_option maxRecDepth 100000 in
theorem m_CH_take_blk14 (l : Launch) (G : WG) (S : SS) (p i : Nat) (hp : p < 4) (hi : i < 32) (hop : S (12 + 4 * p) i = 14) (D : Nat) (hD6 : D + 1 < 6) (hD : S 39 4 = nI (D + 1)) (ti ca : Bool) (hti : S 41 (D + 1) = b2i ti) (hca : S 42 (D + 1) = b2i ca) : Cv l y_CH_take b_CH_take 3 1 G [.ref (gA G 39), .ref (gA G (11 + 4 * p)), .int (nI i)] S (fun S1 => S1 = chPush (su S (14 + 4 * p) i (nI i)) (D + 1) (nI i) (false || ti) (false || ca)) := by
  refine mk l (by decide +kernel) (Nat.le_of_ble_eq_true rfl) ?_
  intro pp_ ee_ ss_ mm_ be_ me_ co_ ls hx hb hr hlk hml hC hP hS hl
  have hl : lv_has ls 3 [(0, .ref (gA G 39)), (1, .ref (gA G (11 + 4 * p))), (2, .int (nI i))] := hl
  refine lv_aload_n hx hb d_CH_take_0 rfl (lv_at hl 1 rfl) ?_
  refine r_getN hx hb hC hP i_TE (11 + 4 * p) (by omega) (sh_T G _ hp) rfl 2 (by decide) k_CH_49 rfl d_CH_take_1 ?_
  refine lv_iload_n hx hb d_CH_take_4 rfl (lv_at hl 2 rfl) ?_
  refine lv_iload_n hx hb d_CH_take_5 rfl (lv_at hl 2 rfl) ?_
  refine r_ist hx hb hC hP hS (14 + 4 * p) (by omega) (fun r => sh_T3 G r hp) i rfl (by omega) (by decide) d_CH_take_6 (fun H locs hP hS => ?_)
  refine lv_aload_n hx hb d_CH_take_7 rfl (lv_at hl 1 rfl) ?_
  refine r_getN hx hb hC hP i_TE (11 + 4 * p) (by omega) (sh_T G _ hp) rfl 0 (by decide) k_CH_38 rfl d_CH_take_8 ?_
  refine lv_iload_n hx hb d_CH_take_11 rfl (lv_at hl 2 rfl) ?_
  refine r_ild hx hb hC hP (12 + 4 * p) (by omega) (sh_T1 G _ hp) i rfl (by omega) (by decide) d_CH_take_12 ?_
  rw [show (su S (14 + 4 * p) i (nI i)) (12 + 4 * p) i = S (12 + 4 * p) i from by rw [su_cell _ _ _ (by omega)]]
  rw [show S (12 + 4 * p) i = 14 from hop]
  refine lv_tableIn (off := 166) (tgt := 179) hx hb d_CH_take_13 (by decide) (by decide) (by decide) (by decide) ?_
  refine lv_aload_n hx hb d_CH_take_179 rfl (lv_at hl 0 rfl) ?_
  refine lv_iload_n hx hb d_CH_take_180 rfl (lv_at hl 2 rfl) ?_
  refine lv_iconst (v := 0) hx hb d_CH_take_181 (by decide) ?_
  refine lv_iconst (v := 0) hx hb d_CH_take_182 (by decide) ?_
  refine r_v hC hS (r_runV (np := 3) (As := [.int (nI i), .int 0, .int 0]) (rest := []) hx hb hml hC hP hS (by decide) rfl rfl (m_CH_open l G (su S (14 + 4 * p) i (nI i)) (D + 1) (by omega) (by rw [su_cell _ _ _ (by omega)]; exact hD) (nI i) false false ti ca (by rw [su_cell _ _ _ (by omega)]; exact hti) (by rw [su_cell _ _ _ (by omega)]; exact hca)) l_CH_29 im_CH_open se_CH_open in_CH c_CH_open_in (by decide +kernel) ⟨by simp only [rmF]; omega, by simp only [rmF]; omega⟩ rfl hl.1 (Nat.le_of_ble_eq_true rfl) d_CH_take_183 ⟨Nat.le_refl _, Nat.le_refl _⟩) (fun S_183 H locs hw hP hS => ?_)
  rw [hw] at hP
  refine lv_goto (tgt := 189) hx hb d_CH_take_186 (by decide) ?_
  exact e_v hx hb hr hlk hC hP hS d_CH_take_189 rfl

set_option maxHeartbeats 4000000 in
set_option maxRecDepth 100000 in
theorem m_CH_take_endR (l : Launch) (G : WG) (S : SS) (p i : Nat) (hp : p < 4) (hi : i < 32) (hop : S (12 + 4 * p) i = 18) (D : Nat) (hD6 : D < 6) (hD : S 39 4 = nI (D + 1)) (hq : S 40 (D + 1) = -1) : Cv l y_CH_take b_CH_take 3 1 G [.ref (gA G 39), .ref (gA G (11 + 4 * p)), .int (nI i)] S (fun S1 => S1 = su (su S (14 + 4 * p) i (nI i)) 39 4 (nI D)) := by
  refine mk l (by decide +kernel) (Nat.le_of_ble_eq_true rfl) ?_
  intro pp_ ee_ ss_ mm_ be_ me_ co_ ls hx hb hr hlk hml hC hP hS hl
  have hl : lv_has ls 3 [(0, .ref (gA G 39)), (1, .ref (gA G (11 + 4 * p))), (2, .int (nI i))] := hl
  refine lv_aload_n hx hb d_CH_take_0 rfl (lv_at hl 1 rfl) ?_
  refine r_getN hx hb hC hP i_TE (11 + 4 * p) (by omega) (sh_T G _ hp) rfl 2 (by decide) k_CH_49 rfl d_CH_take_1 ?_
  refine lv_iload_n hx hb d_CH_take_4 rfl (lv_at hl 2 rfl) ?_
  refine lv_iload_n hx hb d_CH_take_5 rfl (lv_at hl 2 rfl) ?_
  refine r_ist hx hb hC hP hS (14 + 4 * p) (by omega) (fun r => sh_T3 G r hp) i rfl (by omega) (by decide) d_CH_take_6 (fun H locs hP hS => ?_)
  refine lv_aload_n hx hb d_CH_take_7 rfl (lv_at hl 1 rfl) ?_
  refine r_getN hx hb hC hP i_TE (11 + 4 * p) (by omega) (sh_T G _ hp) rfl 0 (by decide) k_CH_38 rfl d_CH_take_8 ?_
  refine lv_iload_n hx hb d_CH_take_11 rfl (lv_at hl 2 rfl) ?_
  refine r_ild hx hb hC hP (12 + 4 * p) (by omega) (sh_T1 G _ hp) i rfl (by omega) (by decide) d_CH_take_12 ?_
  rw [show (su S (14 + 4 * p) i (nI i)) (12 + 4 * p) i = S (12 + 4 * p) i from by rw [su_cell _ _ _ (by omega)]]
  rw [show S (12 + 4 * p) i = 18 from hop]
  refine lv_tableIn (off := 79) (tgt := 92) hx hb d_CH_take_13 (by decide) (by decide) (by decide) (by decide) ?_
  refine lv_aload_n hx hb d_CH_take_92 rfl (lv_at hl 0 rfl) ?_
  refine lv_aload_n hx hb d_CH_take_93 rfl (lv_at hl 1 rfl) ?_
  refine lv_iload_n hx hb d_CH_take_94 rfl (lv_at hl 2 rfl) ?_
  refine r_v hC hS (r_runV (np := 2) (As := [.ref (gA G (11 + 4 * p)), .int (nI i)]) (rest := []) hx hb hml hC hP hS (by decide) rfl rfl (m_CH_closeR l G (su S (14 + 4 * p) i (nI i)) D p i hp hi hD6 (by rw [su_cell _ _ _ (by omega)]; exact hD) (by rw [su_cell _ _ _ (by omega)]; exact hq)) l_CH_52 im_CH_close se_CH_close in_CH c_CH_close_in (by decide +kernel) ⟨by simp only [rmF]; omega, by simp only [rmF]; omega⟩ rfl hl.1 (Nat.le_of_ble_eq_true rfl) d_CH_take_95 ⟨Nat.le_refl _, Nat.le_refl _⟩) (fun S_95 H locs hw hP hS => ?_)
  rw [hw] at hP
  refine lv_goto (tgt := 189) hx hb d_CH_take_98 (by decide) ?_
  exact e_v hx hb hr hlk hC hP hS d_CH_take_189 rfl

set_option maxHeartbeats 4000000 in
set_option maxRecDepth 100000 in
theorem m_CH_take_endJ (l : Launch) (G : WG) (S : SS) (p i : Nat) (hp : p < 4) (hi : i < 32) (hop : S (12 + 4 * p) i = 18) (D : Nat) (hD6 : D < 6) (hD : S 39 4 = nI (D + 1)) (j : Nat) (hj : j < 32) (hq : S 40 (D + 1) = nI j) : Cv l y_CH_take b_CH_take 3 1 G [.ref (gA G 39), .ref (gA G (11 + 4 * p)), .int (nI i)] S (fun S1 => S1 = su (su (su S (14 + 4 * p) i (nI i)) (14 + 4 * p) j (nI i)) 39 4 (nI D)) := by
  refine mk l (by decide +kernel) (Nat.le_of_ble_eq_true rfl) ?_
  intro pp_ ee_ ss_ mm_ be_ me_ co_ ls hx hb hr hlk hml hC hP hS hl
  have hl : lv_has ls 3 [(0, .ref (gA G 39)), (1, .ref (gA G (11 + 4 * p))), (2, .int (nI i))] := hl
  refine lv_aload_n hx hb d_CH_take_0 rfl (lv_at hl 1 rfl) ?_
  refine r_getN hx hb hC hP i_TE (11 + 4 * p) (by omega) (sh_T G _ hp) rfl 2 (by decide) k_CH_49 rfl d_CH_take_1 ?_
  refine lv_iload_n hx hb d_CH_take_4 rfl (lv_at hl 2 rfl) ?_
  refine lv_iload_n hx hb d_CH_take_5 rfl (lv_at hl 2 rfl) ?_
  refine r_ist hx hb hC hP hS (14 + 4 * p) (by omega) (fun r => sh_T3 G r hp) i rfl (by omega) (by decide) d_CH_take_6 (fun H locs hP hS => ?_)
  refine lv_aload_n hx hb d_CH_take_7 rfl (lv_at hl 1 rfl) ?_
  refine r_getN hx hb hC hP i_TE (11 + 4 * p) (by omega) (sh_T G _ hp) rfl 0 (by decide) k_CH_38 rfl d_CH_take_8 ?_
  refine lv_iload_n hx hb d_CH_take_11 rfl (lv_at hl 2 rfl) ?_
  refine r_ild hx hb hC hP (12 + 4 * p) (by omega) (sh_T1 G _ hp) i rfl (by omega) (by decide) d_CH_take_12 ?_
  rw [show (su S (14 + 4 * p) i (nI i)) (12 + 4 * p) i = S (12 + 4 * p) i from by rw [su_cell _ _ _ (by omega)]]
  rw [show S (12 + 4 * p) i = 18 from hop]
  refine lv_tableIn (off := 79) (tgt := 92) hx hb d_CH_take_13 (by decide) (by decide) (by decide) (by decide) ?_
  refine lv_aload_n hx hb d_CH_take_92 rfl (lv_at hl 0 rfl) ?_
  refine lv_aload_n hx hb d_CH_take_93 rfl (lv_at hl 1 rfl) ?_
  refine lv_iload_n hx hb d_CH_take_94 rfl (lv_at hl 2 rfl) ?_
  refine r_v hC hS (r_runV (np := 2) (As := [.ref (gA G (11 + 4 * p)), .int (nI i)]) (rest := []) hx hb hml hC hP hS (by decide) rfl rfl (m_CH_closeJ l G (su S (14 + 4 * p) i (nI i)) D p i hp hi hD6 (by rw [su_cell _ _ _ (by omega)]; exact hD) j hj (by rw [su_cell _ _ _ (by omega)]; exact hq)) l_CH_52 im_CH_close se_CH_close in_CH c_CH_close_in (by decide +kernel) ⟨by simp only [rmF]; omega, by simp only [rmF]; omega⟩ rfl hl.1 (Nat.le_of_ble_eq_true rfl) d_CH_take_95 ⟨Nat.le_refl _, Nat.le_refl _⟩) (fun S_95 H locs hw hP hS => ?_)
  rw [hw] at hP
  refine lv_goto (tgt := 189) hx hb d_CH_take_98 (by decide) ?_
  exact e_v hx hb hr hlk hC hP hS d_CH_take_189 rfl

set_option maxHeartbeats 4000000 in
set_option maxRecDepth 100000 in
theorem m_CH_take_plain (l : Launch) (G : WG) (S : SS) (p i : Nat) (hp : p < 4) (hi : i < 32) (hop : ¬ S (12 + 4 * p) i = 3 ∧ ¬ S (12 + 4 * p) i = 9 ∧ ¬ S (12 + 4 * p) i = 10 ∧ ¬ S (12 + 4 * p) i = 14 ∧ ¬ S (12 + 4 * p) i = 16 ∧ ¬ S (12 + 4 * p) i = 17 ∧ ¬ S (12 + 4 * p) i = 18) : Cv l y_CH_take b_CH_take 3 1 G [.ref (gA G 39), .ref (gA G (11 + 4 * p)), .int (nI i)] S (fun S1 => S1 = su S (14 + 4 * p) i (nI i)) := by
  refine mk l (by decide +kernel) (Nat.le_of_ble_eq_true rfl) ?_
  intro pp_ ee_ ss_ mm_ be_ me_ co_ ls hx hb hr hlk hml hC hP hS hl
  have hl : lv_has ls 3 [(0, .ref (gA G 39)), (1, .ref (gA G (11 + 4 * p))), (2, .int (nI i))] := hl
  refine lv_aload_n hx hb d_CH_take_0 rfl (lv_at hl 1 rfl) ?_
  refine r_getN hx hb hC hP i_TE (11 + 4 * p) (by omega) (sh_T G _ hp) rfl 2 (by decide) k_CH_49 rfl d_CH_take_1 ?_
  refine lv_iload_n hx hb d_CH_take_4 rfl (lv_at hl 2 rfl) ?_
  refine lv_iload_n hx hb d_CH_take_5 rfl (lv_at hl 2 rfl) ?_
  refine r_ist hx hb hC hP hS (14 + 4 * p) (by omega) (fun r => sh_T3 G r hp) i rfl (by omega) (by decide) d_CH_take_6 (fun H locs hP hS => ?_)
  refine lv_aload_n hx hb d_CH_take_7 rfl (lv_at hl 1 rfl) ?_
  refine r_getN hx hb hC hP i_TE (11 + 4 * p) (by omega) (sh_T G _ hp) rfl 0 (by decide) k_CH_38 rfl d_CH_take_8 ?_
  refine lv_iload_n hx hb d_CH_take_11 rfl (lv_at hl 2 rfl) ?_
  refine r_ild hx hb hC hP (12 + 4 * p) (by omega) (sh_T1 G _ hp) i rfl (by omega) (by decide) d_CH_take_12 ?_
  rw [show (su S (14 + 4 * p) i (nI i)) (12 + 4 * p) i = S (12 + 4 * p) i from by rw [su_cell _ _ _ (by omega)]]
  by_cases hlo_13 : (S (12 + 4 * p) i).toInt < 3 ∨ 18 < (S (12 + 4 * p) i).toInt
  · refine lv_tableOut (tgt := 189) hx hb d_CH_take_13 hlo_13 (by decide) ?_
    exact e_v hx hb hr hlk hC hP hS d_CH_take_189 rfl
  · obtain ⟨h1_13, h2_13⟩ := not_or.mp hlo_13
    rcases (show (S (12 + 4 * p) i).toInt = 3 ∨ (S (12 + 4 * p) i).toInt = 4 ∨ (S (12 + 4 * p) i).toInt = 5 ∨ (S (12 + 4 * p) i).toInt = 6 ∨ (S (12 + 4 * p) i).toInt = 7 ∨ (S (12 + 4 * p) i).toInt = 8 ∨ (S (12 + 4 * p) i).toInt = 9 ∨ (S (12 + 4 * p) i).toInt = 10 ∨ (S (12 + 4 * p) i).toInt = 11 ∨ (S (12 + 4 * p) i).toInt = 12 ∨ (S (12 + 4 * p) i).toInt = 13 ∨ (S (12 + 4 * p) i).toInt = 14 ∨ (S (12 + 4 * p) i).toInt = 15 ∨ (S (12 + 4 * p) i).toInt = 16 ∨ (S (12 + 4 * p) i).toInt = 17 ∨ (S (12 + 4 * p) i).toInt = 18 by omega) with hk_13 | hk_13 | hk_13 | hk_13 | hk_13 | hk_13 | hk_13 | hk_13 | hk_13 | hk_13 | hk_13 | hk_13 | hk_13 | hk_13 | hk_13 | hk_13
    · exact absurd (Int32.toInt_inj.mp (show (S (12 + 4 * p) i).toInt = (3 : Int32).toInt by rw [hk_13]; rfl)) hop.1
    · refine lv_tableIn (off := 176) (tgt := 189) hx hb d_CH_take_13 h1_13 h2_13 (by rw [hk_13]; rfl) (by decide) ?_
      exact e_v hx hb hr hlk hC hP hS d_CH_take_189 rfl
    · refine lv_tableIn (off := 176) (tgt := 189) hx hb d_CH_take_13 h1_13 h2_13 (by rw [hk_13]; rfl) (by decide) ?_
      exact e_v hx hb hr hlk hC hP hS d_CH_take_189 rfl
    · refine lv_tableIn (off := 176) (tgt := 189) hx hb d_CH_take_13 h1_13 h2_13 (by rw [hk_13]; rfl) (by decide) ?_
      exact e_v hx hb hr hlk hC hP hS d_CH_take_189 rfl
    · refine lv_tableIn (off := 176) (tgt := 189) hx hb d_CH_take_13 h1_13 h2_13 (by rw [hk_13]; rfl) (by decide) ?_
      exact e_v hx hb hr hlk hC hP hS d_CH_take_189 rfl
    · refine lv_tableIn (off := 176) (tgt := 189) hx hb d_CH_take_13 h1_13 h2_13 (by rw [hk_13]; rfl) (by decide) ?_
      exact e_v hx hb hr hlk hC hP hS d_CH_take_189 rfl
    · exact absurd (Int32.toInt_inj.mp (show (S (12 + 4 * p) i).toInt = (9 : Int32).toInt by rw [hk_13]; rfl)) hop.2.1
    · exact absurd (Int32.toInt_inj.mp (show (S (12 + 4 * p) i).toInt = (10 : Int32).toInt by rw [hk_13]; rfl)) hop.2.2.1
    · refine lv_tableIn (off := 176) (tgt := 189) hx hb d_CH_take_13 h1_13 h2_13 (by rw [hk_13]; rfl) (by decide) ?_
      exact e_v hx hb hr hlk hC hP hS d_CH_take_189 rfl
    · refine lv_tableIn (off := 176) (tgt := 189) hx hb d_CH_take_13 h1_13 h2_13 (by rw [hk_13]; rfl) (by decide) ?_
      exact e_v hx hb hr hlk hC hP hS d_CH_take_189 rfl
    · refine lv_tableIn (off := 176) (tgt := 189) hx hb d_CH_take_13 h1_13 h2_13 (by rw [hk_13]; rfl) (by decide) ?_
      exact e_v hx hb hr hlk hC hP hS d_CH_take_189 rfl
    · exact absurd (Int32.toInt_inj.mp (show (S (12 + 4 * p) i).toInt = (14 : Int32).toInt by rw [hk_13]; rfl)) hop.2.2.2.1
    · refine lv_tableIn (off := 176) (tgt := 189) hx hb d_CH_take_13 h1_13 h2_13 (by rw [hk_13]; rfl) (by decide) ?_
      exact e_v hx hb hr hlk hC hP hS d_CH_take_189 rfl
    · exact absurd (Int32.toInt_inj.mp (show (S (12 + 4 * p) i).toInt = (16 : Int32).toInt by rw [hk_13]; rfl)) hop.2.2.2.2.1
    · exact absurd (Int32.toInt_inj.mp (show (S (12 + 4 * p) i).toInt = (17 : Int32).toInt by rw [hk_13]; rfl)) hop.2.2.2.2.2.1
    · exact absurd (Int32.toInt_inj.mp (show (S (12 + 4 * p) i).toInt = (18 : Int32).toInt by rw [hk_13]; rfl)) hop.2.2.2.2.2.2

