/-! reference: close by cases: written by wip/gen/p36.py -/
def moPop (S : SS) (d : Nat) : SS := su S 44 8 (nI d)
theorem moPop_k (S : SS) (d : Nat) {a b : Nat} (h : ¬ (a = 44 ∧ b = 8)) : moPop S d a b = S a b := su_k _ _ h
theorem nI_d8 (h t : Nat) (hh : h < 8) (ht : t < 128) : nI (h + 8 * t) / 8 = nI t := by
  rw [show (8 : Int32) = nI 8 from rfl, pk_div (by omega) (by decide) (by decide)]
  congr 1
  omega
theorem nI_r8 (h t : Nat) (hh : h < 8) (ht : t < 128) : nI (h + 8 * t) - nI (h + 8 * t) / 8 * 8 = nI h := by
  rw [show (8 : Int32) = nI 8 from rfl, pk_rem (by omega) (by decide) (by decide)]
  congr 1
  omega
set_option maxHeartbeats 4000000 in
set_option maxRecDepth 100000 in
theorem m_MO_close_times_again0 (l : Launch) (G : WG) (S : SS) (d : Nat) (hd8 : d < 79) (hdp : S 44 8 = nI (d + 1)) (hkd : S 48 d = 3) (t : Nat) (ht : t < 128) (hat : S 49 d = nI t) (hen : S 44 11 = 0) (x : Nat) (hx9 : x < 100) (hda : S 50 d = nI x) (hx1 : 1 < x) : Cv l y_MO_close b_MO_close 5 5 G [.ref (gA G 44)] S (fun S1 => S1 = su (moEnter (moPop S d) d 3 (nI t) (nI (x - 1))) 44 11 0) := by
  refine mk l (by decide +kernel) (Nat.le_of_ble_eq_true rfl) ?_
  intro pp_ ee_ ss_ mm_ be_ me_ co_ ls hx hb hr hlk hml hC hP hS hl
  have hl : lv_has ls 5 [(0, .ref (gA G 44))] := hl
  refine lv_aload_n hx hb d_MO_close_0 rfl (lv_at hl 0 rfl) ?_
  refine lv_dup hx hb d_MO_close_1 rfl ?_
  refine r_get hx hb hC hP i_MO (44) (by decide) rfl rfl 8 (by decide) l_MO_58 rfl d_MO_close_2 ?_
  rw [show S 44 8 = nI (d + 1) from hdp]
  refine lv_iconst (v := 1) hx hb d_MO_close_5 (by decide) ?_
  refine lv_isub hx hb d_MO_close_6 ?_
  rw [show (nI (d + 1)) - 1 = nI d from nI_pred d]
  refine r_put hx hb hC hP hS i_MO t_MO t_MO_ok n_MO (44) (by decide) rfl rfl 8 (by decide) l_MO_58 rfl rfl rfl (Nat.le_of_ble_eq_true rfl) d_MO_close_7 (fun H locs hP hS => ?_)
  refine lv_aload_n hx hb d_MO_close_10 rfl (lv_at hl 0 rfl) ?_
  refine r_get hx hb hC hP i_MO (44) (by decide) rfl rfl 4 (by decide) l_MO_23 rfl d_MO_close_11 ?_
  refine lv_aload_n hx hb d_MO_close_14 rfl (lv_at hl 0 rfl) ?_
  refine r_get hx hb hC hP i_MO (44) (by decide) rfl rfl 8 (by decide) l_MO_58 rfl d_MO_close_15 ?_
  rw [show (su S 44 8 (nI d)) 44 8 = nI d from by rw [su_same]]
  refine r_ild hx hb hC hP (48) (by decide) rfl d rfl (by omega) (by decide) d_MO_close_18 ?_
  rw [show (su S 44 8 (nI d)) 48 d = S 48 d from by rw [su_cell _ _ _ (by decide)]]
  rw [show S 48 d = 3 from hkd]
  refine lv_istore_n (lv' := [(1, .int 3), (0, .ref (gA G 44))]) hx hb d_MO_close_19 rfl hl (by decide) rfl (fun ls hl => ?_)
  refine lv_aload_n hx hb d_MO_close_20 rfl (lv_at hl 1 rfl) ?_
  refine r_get hx hb hC hP i_MO (44) (by decide) rfl rfl 5 (by decide) l_MO_26 rfl d_MO_close_21 ?_
  refine lv_aload_n hx hb d_MO_close_24 rfl (lv_at hl 1 rfl) ?_
  refine r_get hx hb hC hP i_MO (44) (by decide) rfl rfl 8 (by decide) l_MO_58 rfl d_MO_close_25 ?_
  rw [show (su S 44 8 (nI d)) 44 8 = nI d from by rw [su_same]]
  refine r_ild hx hb hC hP (49) (by decide) rfl d rfl (by omega) (by decide) d_MO_close_28 ?_
  rw [show (su S 44 8 (nI d)) 49 d = S 49 d from by rw [su_cell _ _ _ (by decide)]]
  rw [show S 49 d = nI t from hat]
  refine lv_istore_n (lv' := [(2, .int (nI t)), (1, .int 3), (0, .ref (gA G 44))]) hx hb d_MO_close_29 rfl hl (by decide) rfl (fun ls hl => ?_)
  refine lv_aload_n hx hb d_MO_close_30 rfl (lv_at hl 2 rfl) ?_
  refine r_get hx hb hC hP i_MO (44) (by decide) rfl rfl 6 (by decide) l_MO_29 rfl d_MO_close_31 ?_
  refine lv_aload_n hx hb d_MO_close_34 rfl (lv_at hl 2 rfl) ?_
  refine r_get hx hb hC hP i_MO (44) (by decide) rfl rfl 8 (by decide) l_MO_58 rfl d_MO_close_35 ?_
  rw [show (su S 44 8 (nI d)) 44 8 = nI d from by rw [su_same]]
  refine r_ild hx hb hC hP (50) (by decide) rfl d rfl (by omega) (by decide) d_MO_close_38 ?_
  rw [show (su S 44 8 (nI d)) 50 d = S 50 d from by rw [su_cell _ _ _ (by decide)]]
  rw [show S 50 d = nI x from hda]
  refine lv_istore_n (lv' := [(3, .int (nI x)), (2, .int (nI t)), (1, .int 3), (0, .ref (gA G 44))]) hx hb d_MO_close_39 rfl hl (by decide) rfl (fun ls hl => ?_)
  refine lv_iload_n hx hb d_MO_close_40 rfl (lv_at hl 2 rfl) ?_
  refine lv_iconst (v := 3) hx hb d_MO_close_41 (by decide) ?_
  refine lv_icmp_ne (tgt := 117) hx hb d_MO_close_42 (by decide) (fun h => absurd h (by decide)) (fun _ => ?_)
  refine lv_aload_n hx hb d_MO_close_45 rfl (lv_at hl 3 rfl) ?_
  refine r_get hx hb hC hP i_MO (44) (by decide) rfl rfl 11 (by decide) l_MO_92 rfl d_MO_close_46 ?_
  rw [show (su S 44 8 (nI d)) 44 11 = S 44 11 from by rw [su_int _ _ _ (by decide)]]
  rw [show S 44 11 = 0 from hen]
  refine lv_if_ne (tgt := 57) hx hb d_MO_close_49 (by decide) (fun h => absurd h (by decide)) (fun _ => ?_)
  refine lv_iload_n hx hb d_MO_close_52 rfl (lv_at hl 0 rfl) ?_
  refine lv_iconst (v := 1) hx hb d_MO_close_53 (by decide) ?_
  refine lv_icmp_gt (tgt := 70) hx hb d_MO_close_54 (by decide) (fun c_54 => ?_) (fun c_54 => absurd hx1 (fun h => c_54 ((q_lt (a := 1) (b := x) rfl rfl (by omega) (by omega)).mpr h)))
  refine lv_aload_n hx hb d_MO_close_70 rfl (lv_at hl 3 rfl) ?_
  refine lv_iconst (v := 3) hx hb d_MO_close_71 (by decide) ?_
  refine lv_iload_n hx hb d_MO_close_72 rfl (lv_at hl 1 rfl) ?_
  refine lv_iload_n hx hb d_MO_close_73 rfl (lv_at hl 0 rfl) ?_
  refine lv_iconst (v := 1) hx hb d_MO_close_74 (by decide) ?_
  refine lv_isub hx hb d_MO_close_75 ?_
  rw [show (nI x) - 1 = nI (x - 1) from (by rw [show (1 : Int32) = nI 1 from rfl]; exact pk_sub (by omega))]
  refine r_v hC hS (r_runV (np := 3) (As := [.int 3, .int (nI t), .int (nI (x - 1))]) (rest := []) hx hb hml hC hP hS (by decide) rfl rfl (m_MO_enter l G (su S 44 8 (nI d)) d (by omega) (by rw [su_same]) 3 (nI t) (nI (x - 1))) l_MO_107 im_MO_enter se_MO_enter in_MO c_MO_enter_in (by decide +kernel) ⟨by simp only [rmF]; omega, by simp only [rmF]; omega⟩ rfl hl.1 (Nat.le_of_ble_eq_true rfl) d_MO_close_76 ⟨Nat.le_refl _, Nat.le_refl _⟩) (fun S_76 H locs hw hP hS => ?_)
  rw [hw] at hP
  refine lv_goto (tgt := 101) hx hb d_MO_close_79 (by decide) ?_
  refine lv_aload_n hx hb d_MO_close_101 rfl (lv_at hl 3 rfl) ?_
  refine r_get hx hb hC hP i_MO (44) (by decide) rfl rfl 11 (by decide) l_MO_92 rfl d_MO_close_102 ?_
  rw [show (moEnter (su S 44 8 (nI d)) d 3 (nI t) (nI (x - 1))) 44 11 = S 44 11 from by rw [moEnter_k _ _ _ _ _ (by omega), su_int _ _ _ (by decide)]]
  rw [show S 44 11 = 0 from hen]
  refine lv_iconst (v := 2) hx hb d_MO_close_105 (by decide) ?_
  refine lv_icmp_gt (tgt := 330) hx hb d_MO_close_106 (by decide) (fun h => absurd h (by decide)) (fun _ => ?_)
  refine lv_aload_n hx hb d_MO_close_109 rfl (lv_at hl 3 rfl) ?_
  refine lv_iconst (v := 0) hx hb d_MO_close_110 (by decide) ?_
  refine r_put hx hb hC hP hS i_MO t_MO t_MO_ok n_MO (44) (by decide) rfl rfl 11 (by decide) l_MO_92 rfl rfl rfl (Nat.le_of_ble_eq_true rfl) d_MO_close_111 (fun H locs hP hS => ?_)
  refine lv_goto (tgt := 330) hx hb d_MO_close_114 (by decide) ?_
  exact e_v hx hb hr hlk hC hP hS d_MO_close_330 rfl

set_option maxHeartbeats 4000000 in
set_option maxRecDepth 100000 in
theorem m_MO_close_times_done0 (l : Launch) (G : WG) (S : SS) (d : Nat) (hd8 : d < 79) (hdp : S 44 8 = nI (d + 1)) (hkd : S 48 d = 3) (t : Nat) (ht : t < 128) (hat : S 49 d = nI t) (hen : S 44 11 = 0) (x : Nat) (hx9 : x < 100) (hda : S 50 d = nI x) (hx1 : x ≤ 1) (e : Nat) (hsc : ∃ f, Sc (S 45) f (t + 1) 1 e) : Cv l y_MO_close b_MO_close 5 5 G [.ref (gA G 44)] S (fun S1 => S1 = su (su (moPop S d) 44 9 (nI e)) 44 11 0) := by
  refine mk l (by decide +kernel) (Nat.le_of_ble_eq_true rfl) ?_
  intro pp_ ee_ ss_ mm_ be_ me_ co_ ls hx hb hr hlk hml hC hP hS hl
  have hl : lv_has ls 5 [(0, .ref (gA G 44))] := hl
  refine lv_aload_n hx hb d_MO_close_0 rfl (lv_at hl 0 rfl) ?_
  refine lv_dup hx hb d_MO_close_1 rfl ?_
  refine r_get hx hb hC hP i_MO (44) (by decide) rfl rfl 8 (by decide) l_MO_58 rfl d_MO_close_2 ?_
  rw [show S 44 8 = nI (d + 1) from hdp]
  refine lv_iconst (v := 1) hx hb d_MO_close_5 (by decide) ?_
  refine lv_isub hx hb d_MO_close_6 ?_
  rw [show (nI (d + 1)) - 1 = nI d from nI_pred d]
  refine r_put hx hb hC hP hS i_MO t_MO t_MO_ok n_MO (44) (by decide) rfl rfl 8 (by decide) l_MO_58 rfl rfl rfl (Nat.le_of_ble_eq_true rfl) d_MO_close_7 (fun H locs hP hS => ?_)
  refine lv_aload_n hx hb d_MO_close_10 rfl (lv_at hl 0 rfl) ?_
  refine r_get hx hb hC hP i_MO (44) (by decide) rfl rfl 4 (by decide) l_MO_23 rfl d_MO_close_11 ?_
  refine lv_aload_n hx hb d_MO_close_14 rfl (lv_at hl 0 rfl) ?_
  refine r_get hx hb hC hP i_MO (44) (by decide) rfl rfl 8 (by decide) l_MO_58 rfl d_MO_close_15 ?_
  rw [show (su S 44 8 (nI d)) 44 8 = nI d from by rw [su_same]]
  refine r_ild hx hb hC hP (48) (by decide) rfl d rfl (by omega) (by decide) d_MO_close_18 ?_
  rw [show (su S 44 8 (nI d)) 48 d = S 48 d from by rw [su_cell _ _ _ (by decide)]]
  rw [show S 48 d = 3 from hkd]
  refine lv_istore_n (lv' := [(1, .int 3), (0, .ref (gA G 44))]) hx hb d_MO_close_19 rfl hl (by decide) rfl (fun ls hl => ?_)
  refine lv_aload_n hx hb d_MO_close_20 rfl (lv_at hl 1 rfl) ?_
  refine r_get hx hb hC hP i_MO (44) (by decide) rfl rfl 5 (by decide) l_MO_26 rfl d_MO_close_21 ?_
  refine lv_aload_n hx hb d_MO_close_24 rfl (lv_at hl 1 rfl) ?_
  refine r_get hx hb hC hP i_MO (44) (by decide) rfl rfl 8 (by decide) l_MO_58 rfl d_MO_close_25 ?_
  rw [show (su S 44 8 (nI d)) 44 8 = nI d from by rw [su_same]]
  refine r_ild hx hb hC hP (49) (by decide) rfl d rfl (by omega) (by decide) d_MO_close_28 ?_
  rw [show (su S 44 8 (nI d)) 49 d = S 49 d from by rw [su_cell _ _ _ (by decide)]]
  rw [show S 49 d = nI t from hat]
  refine lv_istore_n (lv' := [(2, .int (nI t)), (1, .int 3), (0, .ref (gA G 44))]) hx hb d_MO_close_29 rfl hl (by decide) rfl (fun ls hl => ?_)
  refine lv_aload_n hx hb d_MO_close_30 rfl (lv_at hl 2 rfl) ?_
  refine r_get hx hb hC hP i_MO (44) (by decide) rfl rfl 6 (by decide) l_MO_29 rfl d_MO_close_31 ?_
  refine lv_aload_n hx hb d_MO_close_34 rfl (lv_at hl 2 rfl) ?_
  refine r_get hx hb hC hP i_MO (44) (by decide) rfl rfl 8 (by decide) l_MO_58 rfl d_MO_close_35 ?_
  rw [show (su S 44 8 (nI d)) 44 8 = nI d from by rw [su_same]]
  refine r_ild hx hb hC hP (50) (by decide) rfl d rfl (by omega) (by decide) d_MO_close_38 ?_
  rw [show (su S 44 8 (nI d)) 50 d = S 50 d from by rw [su_cell _ _ _ (by decide)]]
  rw [show S 50 d = nI x from hda]
  refine lv_istore_n (lv' := [(3, .int (nI x)), (2, .int (nI t)), (1, .int 3), (0, .ref (gA G 44))]) hx hb d_MO_close_39 rfl hl (by decide) rfl (fun ls hl => ?_)
  refine lv_iload_n hx hb d_MO_close_40 rfl (lv_at hl 2 rfl) ?_
  refine lv_iconst (v := 3) hx hb d_MO_close_41 (by decide) ?_
  refine lv_icmp_ne (tgt := 117) hx hb d_MO_close_42 (by decide) (fun h => absurd h (by decide)) (fun _ => ?_)
  refine lv_aload_n hx hb d_MO_close_45 rfl (lv_at hl 3 rfl) ?_
  refine r_get hx hb hC hP i_MO (44) (by decide) rfl rfl 11 (by decide) l_MO_92 rfl d_MO_close_46 ?_
  rw [show (su S 44 8 (nI d)) 44 11 = S 44 11 from by rw [su_int _ _ _ (by decide)]]
  rw [show S 44 11 = 0 from hen]
  refine lv_if_ne (tgt := 57) hx hb d_MO_close_49 (by decide) (fun h => absurd h (by decide)) (fun _ => ?_)
  refine lv_iload_n hx hb d_MO_close_52 rfl (lv_at hl 0 rfl) ?_
  refine lv_iconst (v := 1) hx hb d_MO_close_53 (by decide) ?_
  refine lv_icmp_gt (tgt := 70) hx hb d_MO_close_54 (by decide) (fun c_54 => absurd ((q_lt (a := 1) (b := x) rfl rfl (by omega) (by omega)).mp c_54) (by omega)) (fun c_54 => ?_)
  refine lv_aload_n hx hb d_MO_close_57 rfl (lv_at hl 3 rfl) ?_
  refine r_get hx hb hC hP i_MO (44) (by decide) rfl rfl 11 (by decide) l_MO_92 rfl d_MO_close_58 ?_
  rw [show (su S 44 8 (nI d)) 44 11 = S 44 11 from by rw [su_int _ _ _ (by decide)]]
  rw [show S 44 11 = 0 from hen]
  refine lv_iconst (v := 2) hx hb d_MO_close_61 (by decide) ?_
  refine lv_icmp_ne (tgt := 82) hx hb d_MO_close_62 (by decide) (fun _ => ?_) (fun h => absurd h (by decide))
  refine lv_aload_n hx hb d_MO_close_82 rfl (lv_at hl 3 rfl) ?_
  refine r_get hx hb hC hP i_MO (44) (by decide) rfl rfl 11 (by decide) l_MO_92 rfl d_MO_close_83 ?_
  rw [show (su S 44 8 (nI d)) 44 11 = S 44 11 from by rw [su_int _ _ _ (by decide)]]
  rw [show S 44 11 = 0 from hen]
  refine lv_iconst (v := 2) hx hb d_MO_close_86 (by decide) ?_
  refine lv_icmp_gt (tgt := 101) hx hb d_MO_close_87 (by decide) (fun h => absurd h (by decide)) (fun _ => ?_)
  refine lv_aload_n hx hb d_MO_close_90 rfl (lv_at hl 3 rfl) ?_
  refine lv_aload_n hx hb d_MO_close_91 rfl (lv_at hl 3 rfl) ?_
  refine lv_iload_n hx hb d_MO_close_92 rfl (lv_at hl 1 rfl) ?_
  refine lv_iconst (v := 1) hx hb d_MO_close_93 (by decide) ?_
  refine lv_iadd hx hb d_MO_close_94 ?_
  rw [show (nI t) + 1 = nI (t + 1) from nI_1 _]
  refine r_i hC hS (r_runV (np := 1) (As := [.int (nI (t + 1))]) (rest := [.ref (gA G 44)]) hx hb hml hC hP hS (by decide) rfl rfl (m_MO_behind l G (su S 44 8 (nI d)) (t + 1) e (by omega) (by rw [su_cell _ _ _ (by decide)]; exact hsc)) l_MO_79 im_MO_behind se_MO_behind in_MO c_MO_behind_in (by decide +kernel) ⟨by simp only [rmF]; omega, by simp only [rmF]; omega⟩ rfl hl.1 (Nat.le_of_ble_eq_true rfl) d_MO_close_95 ⟨Nat.le_refl _, Nat.le_refl _⟩) (fun r_95 S_95 H locs hw hP hS => ?_)
  obtain ⟨rfl, hSe⟩ := hw
  rw [hSe] at hP
  refine r_put hx hb hC hP hS i_MO t_MO t_MO_ok n_MO (44) (by decide) rfl rfl 9 (by decide) l_MO_86 rfl rfl rfl (Nat.le_of_ble_eq_true rfl) d_MO_close_98 (fun H locs hP hS => ?_)
  refine lv_aload_n hx hb d_MO_close_101 rfl (lv_at hl 3 rfl) ?_
  refine r_get hx hb hC hP i_MO (44) (by decide) rfl rfl 11 (by decide) l_MO_92 rfl d_MO_close_102 ?_
  rw [show (su (su S 44 8 (nI d)) 44 9 (nI e)) 44 11 = S 44 11 from by rw [su_int _ _ _ (by decide), su_int _ _ _ (by decide)]]
  rw [show S 44 11 = 0 from hen]
  refine lv_iconst (v := 2) hx hb d_MO_close_105 (by decide) ?_
  refine lv_icmp_gt (tgt := 330) hx hb d_MO_close_106 (by decide) (fun h => absurd h (by decide)) (fun _ => ?_)
  refine lv_aload_n hx hb d_MO_close_109 rfl (lv_at hl 3 rfl) ?_
  refine lv_iconst (v := 0) hx hb d_MO_close_110 (by decide) ?_
  refine r_put hx hb hC hP hS i_MO t_MO t_MO_ok n_MO (44) (by decide) rfl rfl 11 (by decide) l_MO_92 rfl rfl rfl (Nat.le_of_ble_eq_true rfl) d_MO_close_111 (fun H locs hP hS => ?_)
  refine lv_goto (tgt := 330) hx hb d_MO_close_114 (by decide) ?_
  exact e_v hx hb hr hlk hC hP hS d_MO_close_330 rfl

set_option maxHeartbeats 4000000 in
set_option maxRecDepth 100000 in
theorem m_MO_close_times_again2 (l : Launch) (G : WG) (S : SS) (d : Nat) (hd8 : d < 79) (hdp : S 44 8 = nI (d + 1)) (hkd : S 48 d = 3) (t : Nat) (ht : t < 128) (hat : S 49 d = nI t) (hen : S 44 11 = 2) (x : Nat) (hx9 : x < 100) (hda : S 50 d = nI x) (hx1 : 1 < x) : Cv l y_MO_close b_MO_close 5 5 G [.ref (gA G 44)] S (fun S1 => S1 = su (moEnter (moPop S d) d 3 (nI t) (nI (x - 1))) 44 11 0) := by
  refine mk l (by decide +kernel) (Nat.le_of_ble_eq_true rfl) ?_
  intro pp_ ee_ ss_ mm_ be_ me_ co_ ls hx hb hr hlk hml hC hP hS hl
  have hl : lv_has ls 5 [(0, .ref (gA G 44))] := hl
  refine lv_aload_n hx hb d_MO_close_0 rfl (lv_at hl 0 rfl) ?_
  refine lv_dup hx hb d_MO_close_1 rfl ?_
  refine r_get hx hb hC hP i_MO (44) (by decide) rfl rfl 8 (by decide) l_MO_58 rfl d_MO_close_2 ?_
  rw [show S 44 8 = nI (d + 1) from hdp]
  refine lv_iconst (v := 1) hx hb d_MO_close_5 (by decide) ?_
  refine lv_isub hx hb d_MO_close_6 ?_
  rw [show (nI (d + 1)) - 1 = nI d from nI_pred d]
  refine r_put hx hb hC hP hS i_MO t_MO t_MO_ok n_MO (44) (by decide) rfl rfl 8 (by decide) l_MO_58 rfl rfl rfl (Nat.le_of_ble_eq_true rfl) d_MO_close_7 (fun H locs hP hS => ?_)
  refine lv_aload_n hx hb d_MO_close_10 rfl (lv_at hl 0 rfl) ?_
  refine r_get hx hb hC hP i_MO (44) (by decide) rfl rfl 4 (by decide) l_MO_23 rfl d_MO_close_11 ?_
  refine lv_aload_n hx hb d_MO_close_14 rfl (lv_at hl 0 rfl) ?_
  refine r_get hx hb hC hP i_MO (44) (by decide) rfl rfl 8 (by decide) l_MO_58 rfl d_MO_close_15 ?_
  rw [show (su S 44 8 (nI d)) 44 8 = nI d from by rw [su_same]]
  refine r_ild hx hb hC hP (48) (by decide) rfl d rfl (by omega) (by decide) d_MO_close_18 ?_
  rw [show (su S 44 8 (nI d)) 48 d = S 48 d from by rw [su_cell _ _ _ (by decide)]]
  rw [show S 48 d = 3 from hkd]
  refine lv_istore_n (lv' := [(1, .int 3), (0, .ref (gA G 44))]) hx hb d_MO_close_19 rfl hl (by decide) rfl (fun ls hl => ?_)
  refine lv_aload_n hx hb d_MO_close_20 rfl (lv_at hl 1 rfl) ?_
  refine r_get hx hb hC hP i_MO (44) (by decide) rfl rfl 5 (by decide) l_MO_26 rfl d_MO_close_21 ?_
  refine lv_aload_n hx hb d_MO_close_24 rfl (lv_at hl 1 rfl) ?_
  refine r_get hx hb hC hP i_MO (44) (by decide) rfl rfl 8 (by decide) l_MO_58 rfl d_MO_close_25 ?_
  rw [show (su S 44 8 (nI d)) 44 8 = nI d from by rw [su_same]]
  refine r_ild hx hb hC hP (49) (by decide) rfl d rfl (by omega) (by decide) d_MO_close_28 ?_
  rw [show (su S 44 8 (nI d)) 49 d = S 49 d from by rw [su_cell _ _ _ (by decide)]]
  rw [show S 49 d = nI t from hat]
  refine lv_istore_n (lv' := [(2, .int (nI t)), (1, .int 3), (0, .ref (gA G 44))]) hx hb d_MO_close_29 rfl hl (by decide) rfl (fun ls hl => ?_)
  refine lv_aload_n hx hb d_MO_close_30 rfl (lv_at hl 2 rfl) ?_
  refine r_get hx hb hC hP i_MO (44) (by decide) rfl rfl 6 (by decide) l_MO_29 rfl d_MO_close_31 ?_
  refine lv_aload_n hx hb d_MO_close_34 rfl (lv_at hl 2 rfl) ?_
  refine r_get hx hb hC hP i_MO (44) (by decide) rfl rfl 8 (by decide) l_MO_58 rfl d_MO_close_35 ?_
  rw [show (su S 44 8 (nI d)) 44 8 = nI d from by rw [su_same]]
  refine r_ild hx hb hC hP (50) (by decide) rfl d rfl (by omega) (by decide) d_MO_close_38 ?_
  rw [show (su S 44 8 (nI d)) 50 d = S 50 d from by rw [su_cell _ _ _ (by decide)]]
  rw [show S 50 d = nI x from hda]
  refine lv_istore_n (lv' := [(3, .int (nI x)), (2, .int (nI t)), (1, .int 3), (0, .ref (gA G 44))]) hx hb d_MO_close_39 rfl hl (by decide) rfl (fun ls hl => ?_)
  refine lv_iload_n hx hb d_MO_close_40 rfl (lv_at hl 2 rfl) ?_
  refine lv_iconst (v := 3) hx hb d_MO_close_41 (by decide) ?_
  refine lv_icmp_ne (tgt := 117) hx hb d_MO_close_42 (by decide) (fun h => absurd h (by decide)) (fun _ => ?_)
  refine lv_aload_n hx hb d_MO_close_45 rfl (lv_at hl 3 rfl) ?_
  refine r_get hx hb hC hP i_MO (44) (by decide) rfl rfl 11 (by decide) l_MO_92 rfl d_MO_close_46 ?_
  rw [show (su S 44 8 (nI d)) 44 11 = S 44 11 from by rw [su_int _ _ _ (by decide)]]
  rw [show S 44 11 = 2 from hen]
  refine lv_if_ne (tgt := 57) hx hb d_MO_close_49 (by decide) (fun _ => ?_) (fun h => absurd h (by decide))
  refine lv_aload_n hx hb d_MO_close_57 rfl (lv_at hl 3 rfl) ?_
  refine r_get hx hb hC hP i_MO (44) (by decide) rfl rfl 11 (by decide) l_MO_92 rfl d_MO_close_58 ?_
  rw [show (su S 44 8 (nI d)) 44 11 = S 44 11 from by rw [su_int _ _ _ (by decide)]]
  rw [show S 44 11 = 2 from hen]
  refine lv_iconst (v := 2) hx hb d_MO_close_61 (by decide) ?_
  refine lv_icmp_ne (tgt := 82) hx hb d_MO_close_62 (by decide) (fun h => absurd h (by decide)) (fun _ => ?_)
  refine lv_iload_n hx hb d_MO_close_65 rfl (lv_at hl 0 rfl) ?_
  refine lv_iconst (v := 1) hx hb d_MO_close_66 (by decide) ?_
  refine lv_icmp_le (tgt := 82) hx hb d_MO_close_67 (by decide) (fun c_67 => absurd ((q_le (a := x) (b := 1) rfl rfl (by omega) (by omega)).mp c_67) (by omega)) (fun c_67 => ?_)
  refine lv_aload_n hx hb d_MO_close_70 rfl (lv_at hl 3 rfl) ?_
  refine lv_iconst (v := 3) hx hb d_MO_close_71 (by decide) ?_
  refine lv_iload_n hx hb d_MO_close_72 rfl (lv_at hl 1 rfl) ?_
  refine lv_iload_n hx hb d_MO_close_73 rfl (lv_at hl 0 rfl) ?_
  refine lv_iconst (v := 1) hx hb d_MO_close_74 (by decide) ?_
  refine lv_isub hx hb d_MO_close_75 ?_
  rw [show (nI x) - 1 = nI (x - 1) from (by rw [show (1 : Int32) = nI 1 from rfl]; exact pk_sub (by omega))]
  refine r_v hC hS (r_runV (np := 3) (As := [.int 3, .int (nI t), .int (nI (x - 1))]) (rest := []) hx hb hml hC hP hS (by decide) rfl rfl (m_MO_enter l G (su S 44 8 (nI d)) d (by omega) (by rw [su_same]) 3 (nI t) (nI (x - 1))) l_MO_107 im_MO_enter se_MO_enter in_MO c_MO_enter_in (by decide +kernel) ⟨by simp only [rmF]; omega, by simp only [rmF]; omega⟩ rfl hl.1 (Nat.le_of_ble_eq_true rfl) d_MO_close_76 ⟨Nat.le_refl _, Nat.le_refl _⟩) (fun S_76 H locs hw hP hS => ?_)
  rw [hw] at hP
  refine lv_goto (tgt := 101) hx hb d_MO_close_79 (by decide) ?_
  refine lv_aload_n hx hb d_MO_close_101 rfl (lv_at hl 3 rfl) ?_
  refine r_get hx hb hC hP i_MO (44) (by decide) rfl rfl 11 (by decide) l_MO_92 rfl d_MO_close_102 ?_
  rw [show (moEnter (su S 44 8 (nI d)) d 3 (nI t) (nI (x - 1))) 44 11 = S 44 11 from by rw [moEnter_k _ _ _ _ _ (by omega), su_int _ _ _ (by decide)]]
  rw [show S 44 11 = 2 from hen]
  refine lv_iconst (v := 2) hx hb d_MO_close_105 (by decide) ?_
  refine lv_icmp_gt (tgt := 330) hx hb d_MO_close_106 (by decide) (fun h => absurd h (by decide)) (fun _ => ?_)
  refine lv_aload_n hx hb d_MO_close_109 rfl (lv_at hl 3 rfl) ?_
  refine lv_iconst (v := 0) hx hb d_MO_close_110 (by decide) ?_
  refine r_put hx hb hC hP hS i_MO t_MO t_MO_ok n_MO (44) (by decide) rfl rfl 11 (by decide) l_MO_92 rfl rfl rfl (Nat.le_of_ble_eq_true rfl) d_MO_close_111 (fun H locs hP hS => ?_)
  refine lv_goto (tgt := 330) hx hb d_MO_close_114 (by decide) ?_
  exact e_v hx hb hr hlk hC hP hS d_MO_close_330 rfl

set_option maxHeartbeats 4000000 in
set_option maxRecDepth 100000 in
theorem m_MO_close_times_done2 (l : Launch) (G : WG) (S : SS) (d : Nat) (hd8 : d < 79) (hdp : S 44 8 = nI (d + 1)) (hkd : S 48 d = 3) (t : Nat) (ht : t < 128) (hat : S 49 d = nI t) (hen : S 44 11 = 2) (x : Nat) (hx9 : x < 100) (hda : S 50 d = nI x) (hx1 : x ≤ 1) (e : Nat) (hsc : ∃ f, Sc (S 45) f (t + 1) 1 e) : Cv l y_MO_close b_MO_close 5 5 G [.ref (gA G 44)] S (fun S1 => S1 = su (su (moPop S d) 44 9 (nI e)) 44 11 0) := by
  refine mk l (by decide +kernel) (Nat.le_of_ble_eq_true rfl) ?_
  intro pp_ ee_ ss_ mm_ be_ me_ co_ ls hx hb hr hlk hml hC hP hS hl
  have hl : lv_has ls 5 [(0, .ref (gA G 44))] := hl
  refine lv_aload_n hx hb d_MO_close_0 rfl (lv_at hl 0 rfl) ?_
  refine lv_dup hx hb d_MO_close_1 rfl ?_
  refine r_get hx hb hC hP i_MO (44) (by decide) rfl rfl 8 (by decide) l_MO_58 rfl d_MO_close_2 ?_
  rw [show S 44 8 = nI (d + 1) from hdp]
  refine lv_iconst (v := 1) hx hb d_MO_close_5 (by decide) ?_
  refine lv_isub hx hb d_MO_close_6 ?_
  rw [show (nI (d + 1)) - 1 = nI d from nI_pred d]
  refine r_put hx hb hC hP hS i_MO t_MO t_MO_ok n_MO (44) (by decide) rfl rfl 8 (by decide) l_MO_58 rfl rfl rfl (Nat.le_of_ble_eq_true rfl) d_MO_close_7 (fun H locs hP hS => ?_)
  refine lv_aload_n hx hb d_MO_close_10 rfl (lv_at hl 0 rfl) ?_
  refine r_get hx hb hC hP i_MO (44) (by decide) rfl rfl 4 (by decide) l_MO_23 rfl d_MO_close_11 ?_
  refine lv_aload_n hx hb d_MO_close_14 rfl (lv_at hl 0 rfl) ?_
  refine r_get hx hb hC hP i_MO (44) (by decide) rfl rfl 8 (by decide) l_MO_58 rfl d_MO_close_15 ?_
  rw [show (su S 44 8 (nI d)) 44 8 = nI d from by rw [su_same]]
  refine r_ild hx hb hC hP (48) (by decide) rfl d rfl (by omega) (by decide) d_MO_close_18 ?_
  rw [show (su S 44 8 (nI d)) 48 d = S 48 d from by rw [su_cell _ _ _ (by decide)]]
  rw [show S 48 d = 3 from hkd]
  refine lv_istore_n (lv' := [(1, .int 3), (0, .ref (gA G 44))]) hx hb d_MO_close_19 rfl hl (by decide) rfl (fun ls hl => ?_)
  refine lv_aload_n hx hb d_MO_close_20 rfl (lv_at hl 1 rfl) ?_
  refine r_get hx hb hC hP i_MO (44) (by decide) rfl rfl 5 (by decide) l_MO_26 rfl d_MO_close_21 ?_
  refine lv_aload_n hx hb d_MO_close_24 rfl (lv_at hl 1 rfl) ?_
  refine r_get hx hb hC hP i_MO (44) (by decide) rfl rfl 8 (by decide) l_MO_58 rfl d_MO_close_25 ?_
  rw [show (su S 44 8 (nI d)) 44 8 = nI d from by rw [su_same]]
  refine r_ild hx hb hC hP (49) (by decide) rfl d rfl (by omega) (by decide) d_MO_close_28 ?_
  rw [show (su S 44 8 (nI d)) 49 d = S 49 d from by rw [su_cell _ _ _ (by decide)]]
  rw [show S 49 d = nI t from hat]
  refine lv_istore_n (lv' := [(2, .int (nI t)), (1, .int 3), (0, .ref (gA G 44))]) hx hb d_MO_close_29 rfl hl (by decide) rfl (fun ls hl => ?_)
  refine lv_aload_n hx hb d_MO_close_30 rfl (lv_at hl 2 rfl) ?_
  refine r_get hx hb hC hP i_MO (44) (by decide) rfl rfl 6 (by decide) l_MO_29 rfl d_MO_close_31 ?_
  refine lv_aload_n hx hb d_MO_close_34 rfl (lv_at hl 2 rfl) ?_
  refine r_get hx hb hC hP i_MO (44) (by decide) rfl rfl 8 (by decide) l_MO_58 rfl d_MO_close_35 ?_
  rw [show (su S 44 8 (nI d)) 44 8 = nI d from by rw [su_same]]
  refine r_ild hx hb hC hP (50) (by decide) rfl d rfl (by omega) (by decide) d_MO_close_38 ?_
  rw [show (su S 44 8 (nI d)) 50 d = S 50 d from by rw [su_cell _ _ _ (by decide)]]
  rw [show S 50 d = nI x from hda]
  refine lv_istore_n (lv' := [(3, .int (nI x)), (2, .int (nI t)), (1, .int 3), (0, .ref (gA G 44))]) hx hb d_MO_close_39 rfl hl (by decide) rfl (fun ls hl => ?_)
  refine lv_iload_n hx hb d_MO_close_40 rfl (lv_at hl 2 rfl) ?_
  refine lv_iconst (v := 3) hx hb d_MO_close_41 (by decide) ?_
  refine lv_icmp_ne (tgt := 117) hx hb d_MO_close_42 (by decide) (fun h => absurd h (by decide)) (fun _ => ?_)
  refine lv_aload_n hx hb d_MO_close_45 rfl (lv_at hl 3 rfl) ?_
  refine r_get hx hb hC hP i_MO (44) (by decide) rfl rfl 11 (by decide) l_MO_92 rfl d_MO_close_46 ?_
  rw [show (su S 44 8 (nI d)) 44 11 = S 44 11 from by rw [su_int _ _ _ (by decide)]]
  rw [show S 44 11 = 2 from hen]
  refine lv_if_ne (tgt := 57) hx hb d_MO_close_49 (by decide) (fun _ => ?_) (fun h => absurd h (by decide))
  refine lv_aload_n hx hb d_MO_close_57 rfl (lv_at hl 3 rfl) ?_
  refine r_get hx hb hC hP i_MO (44) (by decide) rfl rfl 11 (by decide) l_MO_92 rfl d_MO_close_58 ?_
  rw [show (su S 44 8 (nI d)) 44 11 = S 44 11 from by rw [su_int _ _ _ (by decide)]]
  rw [show S 44 11 = 2 from hen]
  refine lv_iconst (v := 2) hx hb d_MO_close_61 (by decide) ?_
  refine lv_icmp_ne (tgt := 82) hx hb d_MO_close_62 (by decide) (fun h => absurd h (by decide)) (fun _ => ?_)
  refine lv_iload_n hx hb d_MO_close_65 rfl (lv_at hl 0 rfl) ?_
  refine lv_iconst (v := 1) hx hb d_MO_close_66 (by decide) ?_
  refine lv_icmp_le (tgt := 82) hx hb d_MO_close_67 (by decide) (fun c_67 => ?_) (fun c_67 => absurd (show x ≤ 1 by omega) (fun h => c_67 ((q_le (a := x) (b := 1) rfl rfl (by omega) (by omega)).mpr h)))
  refine lv_aload_n hx hb d_MO_close_82 rfl (lv_at hl 3 rfl) ?_
  refine r_get hx hb hC hP i_MO (44) (by decide) rfl rfl 11 (by decide) l_MO_92 rfl d_MO_close_83 ?_
  rw [show (su S 44 8 (nI d)) 44 11 = S 44 11 from by rw [su_int _ _ _ (by decide)]]
  rw [show S 44 11 = 2 from hen]
  refine lv_iconst (v := 2) hx hb d_MO_close_86 (by decide) ?_
  refine lv_icmp_gt (tgt := 101) hx hb d_MO_close_87 (by decide) (fun h => absurd h (by decide)) (fun _ => ?_)
  refine lv_aload_n hx hb d_MO_close_90 rfl (lv_at hl 3 rfl) ?_
  refine lv_aload_n hx hb d_MO_close_91 rfl (lv_at hl 3 rfl) ?_
  refine lv_iload_n hx hb d_MO_close_92 rfl (lv_at hl 1 rfl) ?_
  refine lv_iconst (v := 1) hx hb d_MO_close_93 (by decide) ?_
  refine lv_iadd hx hb d_MO_close_94 ?_
  rw [show (nI t) + 1 = nI (t + 1) from nI_1 _]
  refine r_i hC hS (r_runV (np := 1) (As := [.int (nI (t + 1))]) (rest := [.ref (gA G 44)]) hx hb hml hC hP hS (by decide) rfl rfl (m_MO_behind l G (su S 44 8 (nI d)) (t + 1) e (by omega) (by rw [su_cell _ _ _ (by decide)]; exact hsc)) l_MO_79 im_MO_behind se_MO_behind in_MO c_MO_behind_in (by decide +kernel) ⟨by simp only [rmF]; omega, by simp only [rmF]; omega⟩ rfl hl.1 (Nat.le_of_ble_eq_true rfl) d_MO_close_95 ⟨Nat.le_refl _, Nat.le_refl _⟩) (fun r_95 S_95 H locs hw hP hS => ?_)
  obtain ⟨rfl, hSe⟩ := hw
  rw [hSe] at hP
  refine r_put hx hb hC hP hS i_MO t_MO t_MO_ok n_MO (44) (by decide) rfl rfl 9 (by decide) l_MO_86 rfl rfl rfl (Nat.le_of_ble_eq_true rfl) d_MO_close_98 (fun H locs hP hS => ?_)
  refine lv_aload_n hx hb d_MO_close_101 rfl (lv_at hl 3 rfl) ?_
  refine r_get hx hb hC hP i_MO (44) (by decide) rfl rfl 11 (by decide) l_MO_92 rfl d_MO_close_102 ?_
  rw [show (su (su S 44 8 (nI d)) 44 9 (nI e)) 44 11 = S 44 11 from by rw [su_int _ _ _ (by decide), su_int _ _ _ (by decide)]]
  rw [show S 44 11 = 2 from hen]
  refine lv_iconst (v := 2) hx hb d_MO_close_105 (by decide) ?_
  refine lv_icmp_gt (tgt := 330) hx hb d_MO_close_106 (by decide) (fun h => absurd h (by decide)) (fun _ => ?_)
  refine lv_aload_n hx hb d_MO_close_109 rfl (lv_at hl 3 rfl) ?_
  refine lv_iconst (v := 0) hx hb d_MO_close_110 (by decide) ?_
  refine r_put hx hb hC hP hS i_MO t_MO t_MO_ok n_MO (44) (by decide) rfl rfl 11 (by decide) l_MO_92 rfl rfl rfl (Nat.le_of_ble_eq_true rfl) d_MO_close_111 (fun H locs hP hS => ?_)
  refine lv_goto (tgt := 330) hx hb d_MO_close_114 (by decide) ?_
  exact e_v hx hb hr hlk hC hP hS d_MO_close_330 rfl

set_option maxHeartbeats 4000000 in
set_option maxRecDepth 100000 in
theorem m_MO_close_times_break (l : Launch) (G : WG) (S : SS) (d : Nat) (hd8 : d < 79) (hdp : S 44 8 = nI (d + 1)) (hkd : S 48 d = 3) (t : Nat) (ht : t < 128) (hat : S 49 d = nI t) (hen : S 44 11 = 1) (x : Nat) (hx9 : x < 100) (hda : S 50 d = nI x) (e : Nat) (hsc : ∃ f, Sc (S 45) f (t + 1) 1 e) : Cv l y_MO_close b_MO_close 5 5 G [.ref (gA G 44)] S (fun S1 => S1 = su (su (moPop S d) 44 9 (nI e)) 44 11 0) := by
  refine mk l (by decide +kernel) (Nat.le_of_ble_eq_true rfl) ?_
  intro pp_ ee_ ss_ mm_ be_ me_ co_ ls hx hb hr hlk hml hC hP hS hl
  have hl : lv_has ls 5 [(0, .ref (gA G 44))] := hl
  refine lv_aload_n hx hb d_MO_close_0 rfl (lv_at hl 0 rfl) ?_
  refine lv_dup hx hb d_MO_close_1 rfl ?_
  refine r_get hx hb hC hP i_MO (44) (by decide) rfl rfl 8 (by decide) l_MO_58 rfl d_MO_close_2 ?_
  rw [show S 44 8 = nI (d + 1) from hdp]
  refine lv_iconst (v := 1) hx hb d_MO_close_5 (by decide) ?_
  refine lv_isub hx hb d_MO_close_6 ?_
  rw [show (nI (d + 1)) - 1 = nI d from nI_pred d]
  refine r_put hx hb hC hP hS i_MO t_MO t_MO_ok n_MO (44) (by decide) rfl rfl 8 (by decide) l_MO_58 rfl rfl rfl (Nat.le_of_ble_eq_true rfl) d_MO_close_7 (fun H locs hP hS => ?_)
  refine lv_aload_n hx hb d_MO_close_10 rfl (lv_at hl 0 rfl) ?_
  refine r_get hx hb hC hP i_MO (44) (by decide) rfl rfl 4 (by decide) l_MO_23 rfl d_MO_close_11 ?_
  refine lv_aload_n hx hb d_MO_close_14 rfl (lv_at hl 0 rfl) ?_
  refine r_get hx hb hC hP i_MO (44) (by decide) rfl rfl 8 (by decide) l_MO_58 rfl d_MO_close_15 ?_
  rw [show (su S 44 8 (nI d)) 44 8 = nI d from by rw [su_same]]
  refine r_ild hx hb hC hP (48) (by decide) rfl d rfl (by omega) (by decide) d_MO_close_18 ?_
  rw [show (su S 44 8 (nI d)) 48 d = S 48 d from by rw [su_cell _ _ _ (by decide)]]
  rw [show S 48 d = 3 from hkd]
  refine lv_istore_n (lv' := [(1, .int 3), (0, .ref (gA G 44))]) hx hb d_MO_close_19 rfl hl (by decide) rfl (fun ls hl => ?_)
  refine lv_aload_n hx hb d_MO_close_20 rfl (lv_at hl 1 rfl) ?_
  refine r_get hx hb hC hP i_MO (44) (by decide) rfl rfl 5 (by decide) l_MO_26 rfl d_MO_close_21 ?_
  refine lv_aload_n hx hb d_MO_close_24 rfl (lv_at hl 1 rfl) ?_
  refine r_get hx hb hC hP i_MO (44) (by decide) rfl rfl 8 (by decide) l_MO_58 rfl d_MO_close_25 ?_
  rw [show (su S 44 8 (nI d)) 44 8 = nI d from by rw [su_same]]
  refine r_ild hx hb hC hP (49) (by decide) rfl d rfl (by omega) (by decide) d_MO_close_28 ?_
  rw [show (su S 44 8 (nI d)) 49 d = S 49 d from by rw [su_cell _ _ _ (by decide)]]
  rw [show S 49 d = nI t from hat]
  refine lv_istore_n (lv' := [(2, .int (nI t)), (1, .int 3), (0, .ref (gA G 44))]) hx hb d_MO_close_29 rfl hl (by decide) rfl (fun ls hl => ?_)
  refine lv_aload_n hx hb d_MO_close_30 rfl (lv_at hl 2 rfl) ?_
  refine r_get hx hb hC hP i_MO (44) (by decide) rfl rfl 6 (by decide) l_MO_29 rfl d_MO_close_31 ?_
  refine lv_aload_n hx hb d_MO_close_34 rfl (lv_at hl 2 rfl) ?_
  refine r_get hx hb hC hP i_MO (44) (by decide) rfl rfl 8 (by decide) l_MO_58 rfl d_MO_close_35 ?_
  rw [show (su S 44 8 (nI d)) 44 8 = nI d from by rw [su_same]]
  refine r_ild hx hb hC hP (50) (by decide) rfl d rfl (by omega) (by decide) d_MO_close_38 ?_
  rw [show (su S 44 8 (nI d)) 50 d = S 50 d from by rw [su_cell _ _ _ (by decide)]]
  rw [show S 50 d = nI x from hda]
  refine lv_istore_n (lv' := [(3, .int (nI x)), (2, .int (nI t)), (1, .int 3), (0, .ref (gA G 44))]) hx hb d_MO_close_39 rfl hl (by decide) rfl (fun ls hl => ?_)
  refine lv_iload_n hx hb d_MO_close_40 rfl (lv_at hl 2 rfl) ?_
  refine lv_iconst (v := 3) hx hb d_MO_close_41 (by decide) ?_
  refine lv_icmp_ne (tgt := 117) hx hb d_MO_close_42 (by decide) (fun h => absurd h (by decide)) (fun _ => ?_)
  refine lv_aload_n hx hb d_MO_close_45 rfl (lv_at hl 3 rfl) ?_
  refine r_get hx hb hC hP i_MO (44) (by decide) rfl rfl 11 (by decide) l_MO_92 rfl d_MO_close_46 ?_
  rw [show (su S 44 8 (nI d)) 44 11 = S 44 11 from by rw [su_int _ _ _ (by decide)]]
  rw [show S 44 11 = 1 from hen]
  refine lv_if_ne (tgt := 57) hx hb d_MO_close_49 (by decide) (fun _ => ?_) (fun h => absurd h (by decide))
  refine lv_aload_n hx hb d_MO_close_57 rfl (lv_at hl 3 rfl) ?_
  refine r_get hx hb hC hP i_MO (44) (by decide) rfl rfl 11 (by decide) l_MO_92 rfl d_MO_close_58 ?_
  rw [show (su S 44 8 (nI d)) 44 11 = S 44 11 from by rw [su_int _ _ _ (by decide)]]
  rw [show S 44 11 = 1 from hen]
  refine lv_iconst (v := 2) hx hb d_MO_close_61 (by decide) ?_
  refine lv_icmp_ne (tgt := 82) hx hb d_MO_close_62 (by decide) (fun _ => ?_) (fun h => absurd h (by decide))
  refine lv_aload_n hx hb d_MO_close_82 rfl (lv_at hl 3 rfl) ?_
  refine r_get hx hb hC hP i_MO (44) (by decide) rfl rfl 11 (by decide) l_MO_92 rfl d_MO_close_83 ?_
  rw [show (su S 44 8 (nI d)) 44 11 = S 44 11 from by rw [su_int _ _ _ (by decide)]]
  rw [show S 44 11 = 1 from hen]
  refine lv_iconst (v := 2) hx hb d_MO_close_86 (by decide) ?_
  refine lv_icmp_gt (tgt := 101) hx hb d_MO_close_87 (by decide) (fun h => absurd h (by decide)) (fun _ => ?_)
  refine lv_aload_n hx hb d_MO_close_90 rfl (lv_at hl 3 rfl) ?_
  refine lv_aload_n hx hb d_MO_close_91 rfl (lv_at hl 3 rfl) ?_
  refine lv_iload_n hx hb d_MO_close_92 rfl (lv_at hl 1 rfl) ?_
  refine lv_iconst (v := 1) hx hb d_MO_close_93 (by decide) ?_
  refine lv_iadd hx hb d_MO_close_94 ?_
  rw [show (nI t) + 1 = nI (t + 1) from nI_1 _]
  refine r_i hC hS (r_runV (np := 1) (As := [.int (nI (t + 1))]) (rest := [.ref (gA G 44)]) hx hb hml hC hP hS (by decide) rfl rfl (m_MO_behind l G (su S 44 8 (nI d)) (t + 1) e (by omega) (by rw [su_cell _ _ _ (by decide)]; exact hsc)) l_MO_79 im_MO_behind se_MO_behind in_MO c_MO_behind_in (by decide +kernel) ⟨by simp only [rmF]; omega, by simp only [rmF]; omega⟩ rfl hl.1 (Nat.le_of_ble_eq_true rfl) d_MO_close_95 ⟨Nat.le_refl _, Nat.le_refl _⟩) (fun r_95 S_95 H locs hw hP hS => ?_)
  obtain ⟨rfl, hSe⟩ := hw
  rw [hSe] at hP
  refine r_put hx hb hC hP hS i_MO t_MO t_MO_ok n_MO (44) (by decide) rfl rfl 9 (by decide) l_MO_86 rfl rfl rfl (Nat.le_of_ble_eq_true rfl) d_MO_close_98 (fun H locs hP hS => ?_)
  refine lv_aload_n hx hb d_MO_close_101 rfl (lv_at hl 3 rfl) ?_
  refine r_get hx hb hC hP i_MO (44) (by decide) rfl rfl 11 (by decide) l_MO_92 rfl d_MO_close_102 ?_
  rw [show (su (su S 44 8 (nI d)) 44 9 (nI e)) 44 11 = S 44 11 from by rw [su_int _ _ _ (by decide), su_int _ _ _ (by decide)]]
  rw [show S 44 11 = 1 from hen]
  refine lv_iconst (v := 2) hx hb d_MO_close_105 (by decide) ?_
  refine lv_icmp_gt (tgt := 330) hx hb d_MO_close_106 (by decide) (fun h => absurd h (by decide)) (fun _ => ?_)
  refine lv_aload_n hx hb d_MO_close_109 rfl (lv_at hl 3 rfl) ?_
  refine lv_iconst (v := 0) hx hb d_MO_close_110 (by decide) ?_
  refine r_put hx hb hC hP hS i_MO t_MO t_MO_ok n_MO (44) (by decide) rfl rfl 11 (by decide) l_MO_92 rfl rfl rfl (Nat.le_of_ble_eq_true rfl) d_MO_close_111 (fun H locs hP hS => ?_)
  refine lv_goto (tgt := 330) hx hb d_MO_close_114 (by decide) ?_
  exact e_v hx hb hr hlk hC hP hS d_MO_close_330 rfl

set_option maxHeartbeats 4000000 in
set_option maxRecDepth 100000 in
theorem m_MO_close_times_out3 (l : Launch) (G : WG) (S : SS) (d : Nat) (hd8 : d < 79) (hdp : S 44 8 = nI (d + 1)) (hkd : S 48 d = 3) (t : Nat) (ht : t < 128) (hat : S 49 d = nI t) (hen : S 44 11 = 3) (x : Nat) (hx9 : x < 100) (hda : S 50 d = nI x) : Cv l y_MO_close b_MO_close 5 5 G [.ref (gA G 44)] S (fun S1 => S1 = moPop S d) := by
  refine mk l (by decide +kernel) (Nat.le_of_ble_eq_true rfl) ?_
  intro pp_ ee_ ss_ mm_ be_ me_ co_ ls hx hb hr hlk hml hC hP hS hl
  have hl : lv_has ls 5 [(0, .ref (gA G 44))] := hl
  refine lv_aload_n hx hb d_MO_close_0 rfl (lv_at hl 0 rfl) ?_
  refine lv_dup hx hb d_MO_close_1 rfl ?_
  refine r_get hx hb hC hP i_MO (44) (by decide) rfl rfl 8 (by decide) l_MO_58 rfl d_MO_close_2 ?_
  rw [show S 44 8 = nI (d + 1) from hdp]
  refine lv_iconst (v := 1) hx hb d_MO_close_5 (by decide) ?_
  refine lv_isub hx hb d_MO_close_6 ?_
  rw [show (nI (d + 1)) - 1 = nI d from nI_pred d]
  refine r_put hx hb hC hP hS i_MO t_MO t_MO_ok n_MO (44) (by decide) rfl rfl 8 (by decide) l_MO_58 rfl rfl rfl (Nat.le_of_ble_eq_true rfl) d_MO_close_7 (fun H locs hP hS => ?_)
  refine lv_aload_n hx hb d_MO_close_10 rfl (lv_at hl 0 rfl) ?_
  refine r_get hx hb hC hP i_MO (44) (by decide) rfl rfl 4 (by decide) l_MO_23 rfl d_MO_close_11 ?_
  refine lv_aload_n hx hb d_MO_close_14 rfl (lv_at hl 0 rfl) ?_
  refine r_get hx hb hC hP i_MO (44) (by decide) rfl rfl 8 (by decide) l_MO_58 rfl d_MO_close_15 ?_
  rw [show (su S 44 8 (nI d)) 44 8 = nI d from by rw [su_same]]
  refine r_ild hx hb hC hP (48) (by decide) rfl d rfl (by omega) (by decide) d_MO_close_18 ?_
  rw [show (su S 44 8 (nI d)) 48 d = S 48 d from by rw [su_cell _ _ _ (by decide)]]
  rw [show S 48 d = 3 from hkd]
  refine lv_istore_n (lv' := [(1, .int 3), (0, .ref (gA G 44))]) hx hb d_MO_close_19 rfl hl (by decide) rfl (fun ls hl => ?_)
  refine lv_aload_n hx hb d_MO_close_20 rfl (lv_at hl 1 rfl) ?_
  refine r_get hx hb hC hP i_MO (44) (by decide) rfl rfl 5 (by decide) l_MO_26 rfl d_MO_close_21 ?_
  refine lv_aload_n hx hb d_MO_close_24 rfl (lv_at hl 1 rfl) ?_
  refine r_get hx hb hC hP i_MO (44) (by decide) rfl rfl 8 (by decide) l_MO_58 rfl d_MO_close_25 ?_
  rw [show (su S 44 8 (nI d)) 44 8 = nI d from by rw [su_same]]
  refine r_ild hx hb hC hP (49) (by decide) rfl d rfl (by omega) (by decide) d_MO_close_28 ?_
  rw [show (su S 44 8 (nI d)) 49 d = S 49 d from by rw [su_cell _ _ _ (by decide)]]
  rw [show S 49 d = nI t from hat]
  refine lv_istore_n (lv' := [(2, .int (nI t)), (1, .int 3), (0, .ref (gA G 44))]) hx hb d_MO_close_29 rfl hl (by decide) rfl (fun ls hl => ?_)
  refine lv_aload_n hx hb d_MO_close_30 rfl (lv_at hl 2 rfl) ?_
  refine r_get hx hb hC hP i_MO (44) (by decide) rfl rfl 6 (by decide) l_MO_29 rfl d_MO_close_31 ?_
  refine lv_aload_n hx hb d_MO_close_34 rfl (lv_at hl 2 rfl) ?_
  refine r_get hx hb hC hP i_MO (44) (by decide) rfl rfl 8 (by decide) l_MO_58 rfl d_MO_close_35 ?_
  rw [show (su S 44 8 (nI d)) 44 8 = nI d from by rw [su_same]]
  refine r_ild hx hb hC hP (50) (by decide) rfl d rfl (by omega) (by decide) d_MO_close_38 ?_
  rw [show (su S 44 8 (nI d)) 50 d = S 50 d from by rw [su_cell _ _ _ (by decide)]]
  rw [show S 50 d = nI x from hda]
  refine lv_istore_n (lv' := [(3, .int (nI x)), (2, .int (nI t)), (1, .int 3), (0, .ref (gA G 44))]) hx hb d_MO_close_39 rfl hl (by decide) rfl (fun ls hl => ?_)
  refine lv_iload_n hx hb d_MO_close_40 rfl (lv_at hl 2 rfl) ?_
  refine lv_iconst (v := 3) hx hb d_MO_close_41 (by decide) ?_
  refine lv_icmp_ne (tgt := 117) hx hb d_MO_close_42 (by decide) (fun h => absurd h (by decide)) (fun _ => ?_)
  refine lv_aload_n hx hb d_MO_close_45 rfl (lv_at hl 3 rfl) ?_
  refine r_get hx hb hC hP i_MO (44) (by decide) rfl rfl 11 (by decide) l_MO_92 rfl d_MO_close_46 ?_
  rw [show (su S 44 8 (nI d)) 44 11 = S 44 11 from by rw [su_int _ _ _ (by decide)]]
  rw [show S 44 11 = 3 from hen]
  refine lv_if_ne (tgt := 57) hx hb d_MO_close_49 (by decide) (fun _ => ?_) (fun h => absurd h (by decide))
  refine lv_aload_n hx hb d_MO_close_57 rfl (lv_at hl 3 rfl) ?_
  refine r_get hx hb hC hP i_MO (44) (by decide) rfl rfl 11 (by decide) l_MO_92 rfl d_MO_close_58 ?_
  rw [show (su S 44 8 (nI d)) 44 11 = S 44 11 from by rw [su_int _ _ _ (by decide)]]
  rw [show S 44 11 = 3 from hen]
  refine lv_iconst (v := 2) hx hb d_MO_close_61 (by decide) ?_
  refine lv_icmp_ne (tgt := 82) hx hb d_MO_close_62 (by decide) (fun _ => ?_) (fun h => absurd h (by decide))
  refine lv_aload_n hx hb d_MO_close_82 rfl (lv_at hl 3 rfl) ?_
  refine r_get hx hb hC hP i_MO (44) (by decide) rfl rfl 11 (by decide) l_MO_92 rfl d_MO_close_83 ?_
  rw [show (su S 44 8 (nI d)) 44 11 = S 44 11 from by rw [su_int _ _ _ (by decide)]]
  rw [show S 44 11 = 3 from hen]
  refine lv_iconst (v := 2) hx hb d_MO_close_86 (by decide) ?_
  refine lv_icmp_gt (tgt := 101) hx hb d_MO_close_87 (by decide) (fun _ => ?_) (fun h => absurd h (by decide))
  refine lv_aload_n hx hb d_MO_close_101 rfl (lv_at hl 3 rfl) ?_
  refine r_get hx hb hC hP i_MO (44) (by decide) rfl rfl 11 (by decide) l_MO_92 rfl d_MO_close_102 ?_
  rw [show (su S 44 8 (nI d)) 44 11 = S 44 11 from by rw [su_int _ _ _ (by decide)]]
  rw [show S 44 11 = 3 from hen]
  refine lv_iconst (v := 2) hx hb d_MO_close_105 (by decide) ?_
  refine lv_icmp_gt (tgt := 330) hx hb d_MO_close_106 (by decide) (fun _ => ?_) (fun h => absurd h (by decide))
  exact e_v hx hb hr hlk hC hP hS d_MO_close_330 rfl

set_option maxHeartbeats 4000000 in
set_option maxRecDepth 100000 in
theorem m_MO_close_times_out4 (l : Launch) (G : WG) (S : SS) (d : Nat) (hd8 : d < 79) (hdp : S 44 8 = nI (d + 1)) (hkd : S 48 d = 3) (t : Nat) (ht : t < 128) (hat : S 49 d = nI t) (hen : S 44 11 = 4) (x : Nat) (hx9 : x < 100) (hda : S 50 d = nI x) : Cv l y_MO_close b_MO_close 5 5 G [.ref (gA G 44)] S (fun S1 => S1 = moPop S d) := by
  refine mk l (by decide +kernel) (Nat.le_of_ble_eq_true rfl) ?_
  intro pp_ ee_ ss_ mm_ be_ me_ co_ ls hx hb hr hlk hml hC hP hS hl
  have hl : lv_has ls 5 [(0, .ref (gA G 44))] := hl
  refine lv_aload_n hx hb d_MO_close_0 rfl (lv_at hl 0 rfl) ?_
  refine lv_dup hx hb d_MO_close_1 rfl ?_
  refine r_get hx hb hC hP i_MO (44) (by decide) rfl rfl 8 (by decide) l_MO_58 rfl d_MO_close_2 ?_
  rw [show S 44 8 = nI (d + 1) from hdp]
  refine lv_iconst (v := 1) hx hb d_MO_close_5 (by decide) ?_
  refine lv_isub hx hb d_MO_close_6 ?_
  rw [show (nI (d + 1)) - 1 = nI d from nI_pred d]
  refine r_put hx hb hC hP hS i_MO t_MO t_MO_ok n_MO (44) (by decide) rfl rfl 8 (by decide) l_MO_58 rfl rfl rfl (Nat.le_of_ble_eq_true rfl) d_MO_close_7 (fun H locs hP hS => ?_)
  refine lv_aload_n hx hb d_MO_close_10 rfl (lv_at hl 0 rfl) ?_
  refine r_get hx hb hC hP i_MO (44) (by decide) rfl rfl 4 (by decide) l_MO_23 rfl d_MO_close_11 ?_
  refine lv_aload_n hx hb d_MO_close_14 rfl (lv_at hl 0 rfl) ?_
  refine r_get hx hb hC hP i_MO (44) (by decide) rfl rfl 8 (by decide) l_MO_58 rfl d_MO_close_15 ?_
  rw [show (su S 44 8 (nI d)) 44 8 = nI d from by rw [su_same]]
  refine r_ild hx hb hC hP (48) (by decide) rfl d rfl (by omega) (by decide) d_MO_close_18 ?_
  rw [show (su S 44 8 (nI d)) 48 d = S 48 d from by rw [su_cell _ _ _ (by decide)]]
  rw [show S 48 d = 3 from hkd]
  refine lv_istore_n (lv' := [(1, .int 3), (0, .ref (gA G 44))]) hx hb d_MO_close_19 rfl hl (by decide) rfl (fun ls hl => ?_)
  refine lv_aload_n hx hb d_MO_close_20 rfl (lv_at hl 1 rfl) ?_
  refine r_get hx hb hC hP i_MO (44) (by decide) rfl rfl 5 (by decide) l_MO_26 rfl d_MO_close_21 ?_
  refine lv_aload_n hx hb d_MO_close_24 rfl (lv_at hl 1 rfl) ?_
  refine r_get hx hb hC hP i_MO (44) (by decide) rfl rfl 8 (by decide) l_MO_58 rfl d_MO_close_25 ?_
  rw [show (su S 44 8 (nI d)) 44 8 = nI d from by rw [su_same]]
  refine r_ild hx hb hC hP (49) (by decide) rfl d rfl (by omega) (by decide) d_MO_close_28 ?_
  rw [show (su S 44 8 (nI d)) 49 d = S 49 d from by rw [su_cell _ _ _ (by decide)]]
  rw [show S 49 d = nI t from hat]
  refine lv_istore_n (lv' := [(2, .int (nI t)), (1, .int 3), (0, .ref (gA G 44))]) hx hb d_MO_close_29 rfl hl (by decide) rfl (fun ls hl => ?_)
  refine lv_aload_n hx hb d_MO_close_30 rfl (lv_at hl 2 rfl) ?_
  refine r_get hx hb hC hP i_MO (44) (by decide) rfl rfl 6 (by decide) l_MO_29 rfl d_MO_close_31 ?_
  refine lv_aload_n hx hb d_MO_close_34 rfl (lv_at hl 2 rfl) ?_
  refine r_get hx hb hC hP i_MO (44) (by decide) rfl rfl 8 (by decide) l_MO_58 rfl d_MO_close_35 ?_
  rw [show (su S 44 8 (nI d)) 44 8 = nI d from by rw [su_same]]
  refine r_ild hx hb hC hP (50) (by decide) rfl d rfl (by omega) (by decide) d_MO_close_38 ?_
  rw [show (su S 44 8 (nI d)) 50 d = S 50 d from by rw [su_cell _ _ _ (by decide)]]
  rw [show S 50 d = nI x from hda]
  refine lv_istore_n (lv' := [(3, .int (nI x)), (2, .int (nI t)), (1, .int 3), (0, .ref (gA G 44))]) hx hb d_MO_close_39 rfl hl (by decide) rfl (fun ls hl => ?_)
  refine lv_iload_n hx hb d_MO_close_40 rfl (lv_at hl 2 rfl) ?_
  refine lv_iconst (v := 3) hx hb d_MO_close_41 (by decide) ?_
  refine lv_icmp_ne (tgt := 117) hx hb d_MO_close_42 (by decide) (fun h => absurd h (by decide)) (fun _ => ?_)
  refine lv_aload_n hx hb d_MO_close_45 rfl (lv_at hl 3 rfl) ?_
  refine r_get hx hb hC hP i_MO (44) (by decide) rfl rfl 11 (by decide) l_MO_92 rfl d_MO_close_46 ?_
  rw [show (su S 44 8 (nI d)) 44 11 = S 44 11 from by rw [su_int _ _ _ (by decide)]]
  rw [show S 44 11 = 4 from hen]
  refine lv_if_ne (tgt := 57) hx hb d_MO_close_49 (by decide) (fun _ => ?_) (fun h => absurd h (by decide))
  refine lv_aload_n hx hb d_MO_close_57 rfl (lv_at hl 3 rfl) ?_
  refine r_get hx hb hC hP i_MO (44) (by decide) rfl rfl 11 (by decide) l_MO_92 rfl d_MO_close_58 ?_
  rw [show (su S 44 8 (nI d)) 44 11 = S 44 11 from by rw [su_int _ _ _ (by decide)]]
  rw [show S 44 11 = 4 from hen]
  refine lv_iconst (v := 2) hx hb d_MO_close_61 (by decide) ?_
  refine lv_icmp_ne (tgt := 82) hx hb d_MO_close_62 (by decide) (fun _ => ?_) (fun h => absurd h (by decide))
  refine lv_aload_n hx hb d_MO_close_82 rfl (lv_at hl 3 rfl) ?_
  refine r_get hx hb hC hP i_MO (44) (by decide) rfl rfl 11 (by decide) l_MO_92 rfl d_MO_close_83 ?_
  rw [show (su S 44 8 (nI d)) 44 11 = S 44 11 from by rw [su_int _ _ _ (by decide)]]
  rw [show S 44 11 = 4 from hen]
  refine lv_iconst (v := 2) hx hb d_MO_close_86 (by decide) ?_
  refine lv_icmp_gt (tgt := 101) hx hb d_MO_close_87 (by decide) (fun _ => ?_) (fun h => absurd h (by decide))
  refine lv_aload_n hx hb d_MO_close_101 rfl (lv_at hl 3 rfl) ?_
  refine r_get hx hb hC hP i_MO (44) (by decide) rfl rfl 11 (by decide) l_MO_92 rfl d_MO_close_102 ?_
  rw [show (su S 44 8 (nI d)) 44 11 = S 44 11 from by rw [su_int _ _ _ (by decide)]]
  rw [show S 44 11 = 4 from hen]
  refine lv_iconst (v := 2) hx hb d_MO_close_105 (by decide) ?_
  refine lv_icmp_gt (tgt := 330) hx hb d_MO_close_106 (by decide) (fun _ => ?_) (fun h => absurd h (by decide))
  exact e_v hx hb hr hlk hC hP hS d_MO_close_330 rfl

set_option maxHeartbeats 4000000 in
set_option maxRecDepth 100000 in
theorem m_MO_close_lock_on (l : Launch) (G : WG) (S : SS) (d : Nat) (hd8 : d < 79) (hdp : S 44 8 = nI (d + 1)) (hkd : S 48 d = 10) (t : Nat) (ht : t < 128) (hat : S 49 d = nI t) (hen : S 44 11 = 0) (lo : Nat) (hlo3 : lo < 3) (hda : S 50 d = nI lo) (e : Nat) (hsc : ∃ f, Sc (S 45) f (t + 1) 1 e) : Cv l y_MO_close b_MO_close 5 5 G [.ref (gA G 44)] S (fun S1 => S1 = su (su (moPop S d) 53 lo (S 53 lo - 1)) 44 9 (nI e)) := by
  refine mk l (by decide +kernel) (Nat.le_of_ble_eq_true rfl) ?_
  intro pp_ ee_ ss_ mm_ be_ me_ co_ ls hx hb hr hlk hml hC hP hS hl
  have hl : lv_has ls 5 [(0, .ref (gA G 44))] := hl
  refine lv_aload_n hx hb d_MO_close_0 rfl (lv_at hl 0 rfl) ?_
  refine lv_dup hx hb d_MO_close_1 rfl ?_
  refine r_get hx hb hC hP i_MO (44) (by decide) rfl rfl 8 (by decide) l_MO_58 rfl d_MO_close_2 ?_
  rw [show S 44 8 = nI (d + 1) from hdp]
  refine lv_iconst (v := 1) hx hb d_MO_close_5 (by decide) ?_
  refine lv_isub hx hb d_MO_close_6 ?_
  rw [show (nI (d + 1)) - 1 = nI d from nI_pred d]
  refine r_put hx hb hC hP hS i_MO t_MO t_MO_ok n_MO (44) (by decide) rfl rfl 8 (by decide) l_MO_58 rfl rfl rfl (Nat.le_of_ble_eq_true rfl) d_MO_close_7 (fun H locs hP hS => ?_)
  refine lv_aload_n hx hb d_MO_close_10 rfl (lv_at hl 0 rfl) ?_
  refine r_get hx hb hC hP i_MO (44) (by decide) rfl rfl 4 (by decide) l_MO_23 rfl d_MO_close_11 ?_
  refine lv_aload_n hx hb d_MO_close_14 rfl (lv_at hl 0 rfl) ?_
  refine r_get hx hb hC hP i_MO (44) (by decide) rfl rfl 8 (by decide) l_MO_58 rfl d_MO_close_15 ?_
  rw [show (su S 44 8 (nI d)) 44 8 = nI d from by rw [su_same]]
  refine r_ild hx hb hC hP (48) (by decide) rfl d rfl (by omega) (by decide) d_MO_close_18 ?_
  rw [show (su S 44 8 (nI d)) 48 d = S 48 d from by rw [su_cell _ _ _ (by decide)]]
  rw [show S 48 d = 10 from hkd]
  refine lv_istore_n (lv' := [(1, .int 10), (0, .ref (gA G 44))]) hx hb d_MO_close_19 rfl hl (by decide) rfl (fun ls hl => ?_)
  refine lv_aload_n hx hb d_MO_close_20 rfl (lv_at hl 1 rfl) ?_
  refine r_get hx hb hC hP i_MO (44) (by decide) rfl rfl 5 (by decide) l_MO_26 rfl d_MO_close_21 ?_
  refine lv_aload_n hx hb d_MO_close_24 rfl (lv_at hl 1 rfl) ?_
  refine r_get hx hb hC hP i_MO (44) (by decide) rfl rfl 8 (by decide) l_MO_58 rfl d_MO_close_25 ?_
  rw [show (su S 44 8 (nI d)) 44 8 = nI d from by rw [su_same]]
  refine r_ild hx hb hC hP (49) (by decide) rfl d rfl (by omega) (by decide) d_MO_close_28 ?_
  rw [show (su S 44 8 (nI d)) 49 d = S 49 d from by rw [su_cell _ _ _ (by decide)]]
  rw [show S 49 d = nI t from hat]
  refine lv_istore_n (lv' := [(2, .int (nI t)), (1, .int 10), (0, .ref (gA G 44))]) hx hb d_MO_close_29 rfl hl (by decide) rfl (fun ls hl => ?_)
  refine lv_aload_n hx hb d_MO_close_30 rfl (lv_at hl 2 rfl) ?_
  refine r_get hx hb hC hP i_MO (44) (by decide) rfl rfl 6 (by decide) l_MO_29 rfl d_MO_close_31 ?_
  refine lv_aload_n hx hb d_MO_close_34 rfl (lv_at hl 2 rfl) ?_
  refine r_get hx hb hC hP i_MO (44) (by decide) rfl rfl 8 (by decide) l_MO_58 rfl d_MO_close_35 ?_
  rw [show (su S 44 8 (nI d)) 44 8 = nI d from by rw [su_same]]
  refine r_ild hx hb hC hP (50) (by decide) rfl d rfl (by omega) (by decide) d_MO_close_38 ?_
  rw [show (su S 44 8 (nI d)) 50 d = S 50 d from by rw [su_cell _ _ _ (by decide)]]
  rw [show S 50 d = nI lo from hda]
  refine lv_istore_n (lv' := [(3, .int (nI lo)), (2, .int (nI t)), (1, .int 10), (0, .ref (gA G 44))]) hx hb d_MO_close_39 rfl hl (by decide) rfl (fun ls hl => ?_)
  refine lv_iload_n hx hb d_MO_close_40 rfl (lv_at hl 2 rfl) ?_
  refine lv_iconst (v := 3) hx hb d_MO_close_41 (by decide) ?_
  refine lv_icmp_ne (tgt := 117) hx hb d_MO_close_42 (by decide) (fun _ => ?_) (fun h => absurd h (by decide))
  refine lv_iload_n hx hb d_MO_close_117 rfl (lv_at hl 2 rfl) ?_
  refine lv_bipush (v := 10) hx hb d_MO_close_118 (by decide) ?_
  refine lv_icmp_ne (tgt := 154) hx hb d_MO_close_120 (by decide) (fun h => absurd h (by decide)) (fun _ => ?_)
  refine lv_aload_n hx hb d_MO_close_123 rfl (lv_at hl 3 rfl) ?_
  refine r_get hx hb hC hP i_MO (44) (by decide) rfl rfl 15 (by decide) l_MO_38 rfl d_MO_close_124 ?_
  refine lv_iload_n hx hb d_MO_close_127 rfl (lv_at hl 0 rfl) ?_
  refine lv_dup2_11 hx hb d_MO_close_128 rfl rfl ?_
  refine r_ild hx hb hC hP (53) (by decide) rfl lo rfl (by omega) (by decide) d_MO_close_129 ?_
  rw [show (su S 44 8 (nI d)) 53 lo = S 53 lo from by rw [su_cell _ _ _ (by decide)]]
  refine lv_iconst (v := 1) hx hb d_MO_close_130 (by decide) ?_
  refine lv_isub hx hb d_MO_close_131 ?_
  refine r_ist hx hb hC hP hS (53) (by decide) (fun _ => rfl) lo rfl (by omega) (by decide) d_MO_close_132 (fun H locs hP hS => ?_)
  refine lv_aload_n hx hb d_MO_close_133 rfl (lv_at hl 3 rfl) ?_
  refine r_get hx hb hC hP i_MO (44) (by decide) rfl rfl 11 (by decide) l_MO_92 rfl d_MO_close_134 ?_
  rw [show (su (su S 44 8 (nI d)) 53 lo ((S 53 lo) - 1)) 44 11 = S 44 11 from by rw [su_cell _ _ _ (by decide), su_int _ _ _ (by decide)]]
  rw [show S 44 11 = 0 from hen]
  refine lv_if_ne (tgt := 330) hx hb d_MO_close_137 (by decide) (fun h => absurd h (by decide)) (fun _ => ?_)
  refine lv_aload_n hx hb d_MO_close_140 rfl (lv_at hl 3 rfl) ?_
  refine lv_aload_n hx hb d_MO_close_141 rfl (lv_at hl 3 rfl) ?_
  refine lv_iload_n hx hb d_MO_close_142 rfl (lv_at hl 1 rfl) ?_
  refine lv_iconst (v := 1) hx hb d_MO_close_143 (by decide) ?_
  refine lv_iadd hx hb d_MO_close_144 ?_
  rw [show (nI t) + 1 = nI (t + 1) from nI_1 _]
  refine r_i hC hS (r_runV (np := 1) (As := [.int (nI (t + 1))]) (rest := [.ref (gA G 44)]) hx hb hml hC hP hS (by decide) rfl rfl (m_MO_behind l G (su (su S 44 8 (nI d)) 53 lo ((S 53 lo) - 1)) (t + 1) e (by omega) (by rw [su_cell _ _ _ (by decide), su_cell _ _ _ (by decide)]; exact hsc)) l_MO_79 im_MO_behind se_MO_behind in_MO c_MO_behind_in (by decide +kernel) ⟨by simp only [rmF]; omega, by simp only [rmF]; omega⟩ rfl hl.1 (Nat.le_of_ble_eq_true rfl) d_MO_close_145 ⟨Nat.le_refl _, Nat.le_refl _⟩) (fun r_145 S_145 H locs hw hP hS => ?_)
  obtain ⟨rfl, hSe⟩ := hw
  rw [hSe] at hP
  refine r_put hx hb hC hP hS i_MO t_MO t_MO_ok n_MO (44) (by decide) rfl rfl 9 (by decide) l_MO_86 rfl rfl rfl (Nat.le_of_ble_eq_true rfl) d_MO_close_148 (fun H locs hP hS => ?_)
  refine lv_goto (tgt := 330) hx hb d_MO_close_151 (by decide) ?_
  exact e_v hx hb hr hlk hC hP hS d_MO_close_330 rfl

set_option maxHeartbeats 4000000 in
set_option maxRecDepth 100000 in
theorem m_MO_close_lock_out (l : Launch) (G : WG) (S : SS) (d : Nat) (hd8 : d < 79) (hdp : S 44 8 = nI (d + 1)) (hkd : S 48 d = 10) (t : Nat) (ht : t < 128) (hat : S 49 d = nI t) (lo : Nat) (hlo3 : lo < 3) (hda : S 50 d = nI lo) (hen : ¬ S 44 11 = 0) : Cv l y_MO_close b_MO_close 5 5 G [.ref (gA G 44)] S (fun S1 => S1 = su (moPop S d) 53 lo (S 53 lo - 1)) := by
  refine mk l (by decide +kernel) (Nat.le_of_ble_eq_true rfl) ?_
  intro pp_ ee_ ss_ mm_ be_ me_ co_ ls hx hb hr hlk hml hC hP hS hl
  have hl : lv_has ls 5 [(0, .ref (gA G 44))] := hl
  refine lv_aload_n hx hb d_MO_close_0 rfl (lv_at hl 0 rfl) ?_
  refine lv_dup hx hb d_MO_close_1 rfl ?_
  refine r_get hx hb hC hP i_MO (44) (by decide) rfl rfl 8 (by decide) l_MO_58 rfl d_MO_close_2 ?_
  rw [show S 44 8 = nI (d + 1) from hdp]
  refine lv_iconst (v := 1) hx hb d_MO_close_5 (by decide) ?_
  refine lv_isub hx hb d_MO_close_6 ?_
  rw [show (nI (d + 1)) - 1 = nI d from nI_pred d]
  refine r_put hx hb hC hP hS i_MO t_MO t_MO_ok n_MO (44) (by decide) rfl rfl 8 (by decide) l_MO_58 rfl rfl rfl (Nat.le_of_ble_eq_true rfl) d_MO_close_7 (fun H locs hP hS => ?_)
  refine lv_aload_n hx hb d_MO_close_10 rfl (lv_at hl 0 rfl) ?_
  refine r_get hx hb hC hP i_MO (44) (by decide) rfl rfl 4 (by decide) l_MO_23 rfl d_MO_close_11 ?_
  refine lv_aload_n hx hb d_MO_close_14 rfl (lv_at hl 0 rfl) ?_
  refine r_get hx hb hC hP i_MO (44) (by decide) rfl rfl 8 (by decide) l_MO_58 rfl d_MO_close_15 ?_
  rw [show (su S 44 8 (nI d)) 44 8 = nI d from by rw [su_same]]
  refine r_ild hx hb hC hP (48) (by decide) rfl d rfl (by omega) (by decide) d_MO_close_18 ?_
  rw [show (su S 44 8 (nI d)) 48 d = S 48 d from by rw [su_cell _ _ _ (by decide)]]
  rw [show S 48 d = 10 from hkd]
  refine lv_istore_n (lv' := [(1, .int 10), (0, .ref (gA G 44))]) hx hb d_MO_close_19 rfl hl (by decide) rfl (fun ls hl => ?_)
  refine lv_aload_n hx hb d_MO_close_20 rfl (lv_at hl 1 rfl) ?_
  refine r_get hx hb hC hP i_MO (44) (by decide) rfl rfl 5 (by decide) l_MO_26 rfl d_MO_close_21 ?_
  refine lv_aload_n hx hb d_MO_close_24 rfl (lv_at hl 1 rfl) ?_
  refine r_get hx hb hC hP i_MO (44) (by decide) rfl rfl 8 (by decide) l_MO_58 rfl d_MO_close_25 ?_
  rw [show (su S 44 8 (nI d)) 44 8 = nI d from by rw [su_same]]
  refine r_ild hx hb hC hP (49) (by decide) rfl d rfl (by omega) (by decide) d_MO_close_28 ?_
  rw [show (su S 44 8 (nI d)) 49 d = S 49 d from by rw [su_cell _ _ _ (by decide)]]
  rw [show S 49 d = nI t from hat]
  refine lv_istore_n (lv' := [(2, .int (nI t)), (1, .int 10), (0, .ref (gA G 44))]) hx hb d_MO_close_29 rfl hl (by decide) rfl (fun ls hl => ?_)
  refine lv_aload_n hx hb d_MO_close_30 rfl (lv_at hl 2 rfl) ?_
  refine r_get hx hb hC hP i_MO (44) (by decide) rfl rfl 6 (by decide) l_MO_29 rfl d_MO_close_31 ?_
  refine lv_aload_n hx hb d_MO_close_34 rfl (lv_at hl 2 rfl) ?_
  refine r_get hx hb hC hP i_MO (44) (by decide) rfl rfl 8 (by decide) l_MO_58 rfl d_MO_close_35 ?_
  rw [show (su S 44 8 (nI d)) 44 8 = nI d from by rw [su_same]]
  refine r_ild hx hb hC hP (50) (by decide) rfl d rfl (by omega) (by decide) d_MO_close_38 ?_
  rw [show (su S 44 8 (nI d)) 50 d = S 50 d from by rw [su_cell _ _ _ (by decide)]]
  rw [show S 50 d = nI lo from hda]
  refine lv_istore_n (lv' := [(3, .int (nI lo)), (2, .int (nI t)), (1, .int 10), (0, .ref (gA G 44))]) hx hb d_MO_close_39 rfl hl (by decide) rfl (fun ls hl => ?_)
  refine lv_iload_n hx hb d_MO_close_40 rfl (lv_at hl 2 rfl) ?_
  refine lv_iconst (v := 3) hx hb d_MO_close_41 (by decide) ?_
  refine lv_icmp_ne (tgt := 117) hx hb d_MO_close_42 (by decide) (fun _ => ?_) (fun h => absurd h (by decide))
  refine lv_iload_n hx hb d_MO_close_117 rfl (lv_at hl 2 rfl) ?_
  refine lv_bipush (v := 10) hx hb d_MO_close_118 (by decide) ?_
  refine lv_icmp_ne (tgt := 154) hx hb d_MO_close_120 (by decide) (fun h => absurd h (by decide)) (fun _ => ?_)
  refine lv_aload_n hx hb d_MO_close_123 rfl (lv_at hl 3 rfl) ?_
  refine r_get hx hb hC hP i_MO (44) (by decide) rfl rfl 15 (by decide) l_MO_38 rfl d_MO_close_124 ?_
  refine lv_iload_n hx hb d_MO_close_127 rfl (lv_at hl 0 rfl) ?_
  refine lv_dup2_11 hx hb d_MO_close_128 rfl rfl ?_
  refine r_ild hx hb hC hP (53) (by decide) rfl lo rfl (by omega) (by decide) d_MO_close_129 ?_
  rw [show (su S 44 8 (nI d)) 53 lo = S 53 lo from by rw [su_cell _ _ _ (by decide)]]
  refine lv_iconst (v := 1) hx hb d_MO_close_130 (by decide) ?_
  refine lv_isub hx hb d_MO_close_131 ?_
  refine r_ist hx hb hC hP hS (53) (by decide) (fun _ => rfl) lo rfl (by omega) (by decide) d_MO_close_132 (fun H locs hP hS => ?_)
  refine lv_aload_n hx hb d_MO_close_133 rfl (lv_at hl 3 rfl) ?_
  refine r_get hx hb hC hP i_MO (44) (by decide) rfl rfl 11 (by decide) l_MO_92 rfl d_MO_close_134 ?_
  rw [show (su (su S 44 8 (nI d)) 53 lo ((S 53 lo) - 1)) 44 11 = S 44 11 from by rw [su_cell _ _ _ (by decide), su_int _ _ _ (by decide)]]
  refine lv_if_ne (tgt := 330) hx hb d_MO_close_137 (by decide) (fun c_137 => ?_) (fun c_137 => absurd c_137 hen)
  exact e_v hx hb hr hlk hC hP hS d_MO_close_330 rfl

set_option maxHeartbeats 4000000 in
set_option maxRecDepth 100000 in
theorem m_MO_close_above_on (l : Launch) (G : WG) (S : SS) (d : Nat) (hd8 : d < 79) (hdp : S 44 8 = nI (d + 1)) (hkd : S 48 d = 14) (t : Nat) (ht : t < 128) (hat : S 49 d = nI t) (hen : S 44 11 = 0) (e : Nat) (hsc : ∃ f, Sc (S 45) f (t + 1) 1 e) : Cv l y_MO_close b_MO_close 5 5 G [.ref (gA G 44)] S (fun S1 => S1 = su (moPop S d) 44 9 (nI e)) := by
  refine mk l (by decide +kernel) (Nat.le_of_ble_eq_true rfl) ?_
  intro pp_ ee_ ss_ mm_ be_ me_ co_ ls hx hb hr hlk hml hC hP hS hl
  have hl : lv_has ls 5 [(0, .ref (gA G 44))] := hl
  refine lv_aload_n hx hb d_MO_close_0 rfl (lv_at hl 0 rfl) ?_
  refine lv_dup hx hb d_MO_close_1 rfl ?_
  refine r_get hx hb hC hP i_MO (44) (by decide) rfl rfl 8 (by decide) l_MO_58 rfl d_MO_close_2 ?_
  rw [show S 44 8 = nI (d + 1) from hdp]
  refine lv_iconst (v := 1) hx hb d_MO_close_5 (by decide) ?_
  refine lv_isub hx hb d_MO_close_6 ?_
  rw [show (nI (d + 1)) - 1 = nI d from nI_pred d]
  refine r_put hx hb hC hP hS i_MO t_MO t_MO_ok n_MO (44) (by decide) rfl rfl 8 (by decide) l_MO_58 rfl rfl rfl (Nat.le_of_ble_eq_true rfl) d_MO_close_7 (fun H locs hP hS => ?_)
  refine lv_aload_n hx hb d_MO_close_10 rfl (lv_at hl 0 rfl) ?_
  refine r_get hx hb hC hP i_MO (44) (by decide) rfl rfl 4 (by decide) l_MO_23 rfl d_MO_close_11 ?_
  refine lv_aload_n hx hb d_MO_close_14 rfl (lv_at hl 0 rfl) ?_
  refine r_get hx hb hC hP i_MO (44) (by decide) rfl rfl 8 (by decide) l_MO_58 rfl d_MO_close_15 ?_
  rw [show (su S 44 8 (nI d)) 44 8 = nI d from by rw [su_same]]
  refine r_ild hx hb hC hP (48) (by decide) rfl d rfl (by omega) (by decide) d_MO_close_18 ?_
  rw [show (su S 44 8 (nI d)) 48 d = S 48 d from by rw [su_cell _ _ _ (by decide)]]
  rw [show S 48 d = 14 from hkd]
  refine lv_istore_n (lv' := [(1, .int 14), (0, .ref (gA G 44))]) hx hb d_MO_close_19 rfl hl (by decide) rfl (fun ls hl => ?_)
  refine lv_aload_n hx hb d_MO_close_20 rfl (lv_at hl 1 rfl) ?_
  refine r_get hx hb hC hP i_MO (44) (by decide) rfl rfl 5 (by decide) l_MO_26 rfl d_MO_close_21 ?_
  refine lv_aload_n hx hb d_MO_close_24 rfl (lv_at hl 1 rfl) ?_
  refine r_get hx hb hC hP i_MO (44) (by decide) rfl rfl 8 (by decide) l_MO_58 rfl d_MO_close_25 ?_
  rw [show (su S 44 8 (nI d)) 44 8 = nI d from by rw [su_same]]
  refine r_ild hx hb hC hP (49) (by decide) rfl d rfl (by omega) (by decide) d_MO_close_28 ?_
  rw [show (su S 44 8 (nI d)) 49 d = S 49 d from by rw [su_cell _ _ _ (by decide)]]
  rw [show S 49 d = nI t from hat]
  refine lv_istore_n (lv' := [(2, .int (nI t)), (1, .int 14), (0, .ref (gA G 44))]) hx hb d_MO_close_29 rfl hl (by decide) rfl (fun ls hl => ?_)
  refine lv_aload_n hx hb d_MO_close_30 rfl (lv_at hl 2 rfl) ?_
  refine r_get hx hb hC hP i_MO (44) (by decide) rfl rfl 6 (by decide) l_MO_29 rfl d_MO_close_31 ?_
  refine lv_aload_n hx hb d_MO_close_34 rfl (lv_at hl 2 rfl) ?_
  refine r_get hx hb hC hP i_MO (44) (by decide) rfl rfl 8 (by decide) l_MO_58 rfl d_MO_close_35 ?_
  rw [show (su S 44 8 (nI d)) 44 8 = nI d from by rw [su_same]]
  refine r_ild hx hb hC hP (50) (by decide) rfl d rfl (by omega) (by decide) d_MO_close_38 ?_
  rw [show (su S 44 8 (nI d)) 50 d = S 50 d from by rw [su_cell _ _ _ (by decide)]]
  refine lv_istore_n (lv' := [(3, .int (S 50 d)), (2, .int (nI t)), (1, .int 14), (0, .ref (gA G 44))]) hx hb d_MO_close_39 rfl hl (by decide) rfl (fun ls hl => ?_)
  refine lv_iload_n hx hb d_MO_close_40 rfl (lv_at hl 2 rfl) ?_
  refine lv_iconst (v := 3) hx hb d_MO_close_41 (by decide) ?_
  refine lv_icmp_ne (tgt := 117) hx hb d_MO_close_42 (by decide) (fun _ => ?_) (fun h => absurd h (by decide))
  refine lv_iload_n hx hb d_MO_close_117 rfl (lv_at hl 2 rfl) ?_
  refine lv_bipush (v := 10) hx hb d_MO_close_118 (by decide) ?_
  refine lv_icmp_ne (tgt := 154) hx hb d_MO_close_120 (by decide) (fun _ => ?_) (fun h => absurd h (by decide))
  refine lv_iload_n hx hb d_MO_close_154 rfl (lv_at hl 2 rfl) ?_
  refine lv_bipush (v := 14) hx hb d_MO_close_155 (by decide) ?_
  refine lv_icmp_ne (tgt := 181) hx hb d_MO_close_157 (by decide) (fun h => absurd h (by decide)) (fun _ => ?_)
  refine lv_aload_n hx hb d_MO_close_160 rfl (lv_at hl 3 rfl) ?_
  refine r_get hx hb hC hP i_MO (44) (by decide) rfl rfl 11 (by decide) l_MO_92 rfl d_MO_close_161 ?_
  rw [show (su S 44 8 (nI d)) 44 11 = S 44 11 from by rw [su_int _ _ _ (by decide)]]
  rw [show S 44 11 = 0 from hen]
  refine lv_if_ne (tgt := 330) hx hb d_MO_close_164 (by decide) (fun h => absurd h (by decide)) (fun _ => ?_)
  refine lv_aload_n hx hb d_MO_close_167 rfl (lv_at hl 3 rfl) ?_
  refine lv_aload_n hx hb d_MO_close_168 rfl (lv_at hl 3 rfl) ?_
  refine lv_iload_n hx hb d_MO_close_169 rfl (lv_at hl 1 rfl) ?_
  refine lv_iconst (v := 1) hx hb d_MO_close_170 (by decide) ?_
  refine lv_iadd hx hb d_MO_close_171 ?_
  rw [show (nI t) + 1 = nI (t + 1) from nI_1 _]
  refine r_i hC hS (r_runV (np := 1) (As := [.int (nI (t + 1))]) (rest := [.ref (gA G 44)]) hx hb hml hC hP hS (by decide) rfl rfl (m_MO_behind l G (su S 44 8 (nI d)) (t + 1) e (by omega) (by rw [su_cell _ _ _ (by decide)]; exact hsc)) l_MO_79 im_MO_behind se_MO_behind in_MO c_MO_behind_in (by decide +kernel) ⟨by simp only [rmF]; omega, by simp only [rmF]; omega⟩ rfl hl.1 (Nat.le_of_ble_eq_true rfl) d_MO_close_172 ⟨Nat.le_refl _, Nat.le_refl _⟩) (fun r_172 S_172 H locs hw hP hS => ?_)
  obtain ⟨rfl, hSe⟩ := hw
  rw [hSe] at hP
  refine r_put hx hb hC hP hS i_MO t_MO t_MO_ok n_MO (44) (by decide) rfl rfl 9 (by decide) l_MO_86 rfl rfl rfl (Nat.le_of_ble_eq_true rfl) d_MO_close_175 (fun H locs hP hS => ?_)
  refine lv_goto (tgt := 330) hx hb d_MO_close_178 (by decide) ?_
  exact e_v hx hb hr hlk hC hP hS d_MO_close_330 rfl

set_option maxHeartbeats 4000000 in
set_option maxRecDepth 100000 in
theorem m_MO_close_above_out (l : Launch) (G : WG) (S : SS) (d : Nat) (hd8 : d < 79) (hdp : S 44 8 = nI (d + 1)) (hkd : S 48 d = 14) (t : Nat) (ht : t < 128) (hat : S 49 d = nI t) (hen : ¬ S 44 11 = 0) : Cv l y_MO_close b_MO_close 5 5 G [.ref (gA G 44)] S (fun S1 => S1 = moPop S d) := by
  refine mk l (by decide +kernel) (Nat.le_of_ble_eq_true rfl) ?_
  intro pp_ ee_ ss_ mm_ be_ me_ co_ ls hx hb hr hlk hml hC hP hS hl
  have hl : lv_has ls 5 [(0, .ref (gA G 44))] := hl
  refine lv_aload_n hx hb d_MO_close_0 rfl (lv_at hl 0 rfl) ?_
  refine lv_dup hx hb d_MO_close_1 rfl ?_
  refine r_get hx hb hC hP i_MO (44) (by decide) rfl rfl 8 (by decide) l_MO_58 rfl d_MO_close_2 ?_
  rw [show S 44 8 = nI (d + 1) from hdp]
  refine lv_iconst (v := 1) hx hb d_MO_close_5 (by decide) ?_
  refine lv_isub hx hb d_MO_close_6 ?_
  rw [show (nI (d + 1)) - 1 = nI d from nI_pred d]
  refine r_put hx hb hC hP hS i_MO t_MO t_MO_ok n_MO (44) (by decide) rfl rfl 8 (by decide) l_MO_58 rfl rfl rfl (Nat.le_of_ble_eq_true rfl) d_MO_close_7 (fun H locs hP hS => ?_)
  refine lv_aload_n hx hb d_MO_close_10 rfl (lv_at hl 0 rfl) ?_
  refine r_get hx hb hC hP i_MO (44) (by decide) rfl rfl 4 (by decide) l_MO_23 rfl d_MO_close_11 ?_
  refine lv_aload_n hx hb d_MO_close_14 rfl (lv_at hl 0 rfl) ?_
  refine r_get hx hb hC hP i_MO (44) (by decide) rfl rfl 8 (by decide) l_MO_58 rfl d_MO_close_15 ?_
  rw [show (su S 44 8 (nI d)) 44 8 = nI d from by rw [su_same]]
  refine r_ild hx hb hC hP (48) (by decide) rfl d rfl (by omega) (by decide) d_MO_close_18 ?_
  rw [show (su S 44 8 (nI d)) 48 d = S 48 d from by rw [su_cell _ _ _ (by decide)]]
  rw [show S 48 d = 14 from hkd]
  refine lv_istore_n (lv' := [(1, .int 14), (0, .ref (gA G 44))]) hx hb d_MO_close_19 rfl hl (by decide) rfl (fun ls hl => ?_)
  refine lv_aload_n hx hb d_MO_close_20 rfl (lv_at hl 1 rfl) ?_
  refine r_get hx hb hC hP i_MO (44) (by decide) rfl rfl 5 (by decide) l_MO_26 rfl d_MO_close_21 ?_
  refine lv_aload_n hx hb d_MO_close_24 rfl (lv_at hl 1 rfl) ?_
  refine r_get hx hb hC hP i_MO (44) (by decide) rfl rfl 8 (by decide) l_MO_58 rfl d_MO_close_25 ?_
  rw [show (su S 44 8 (nI d)) 44 8 = nI d from by rw [su_same]]
  refine r_ild hx hb hC hP (49) (by decide) rfl d rfl (by omega) (by decide) d_MO_close_28 ?_
  rw [show (su S 44 8 (nI d)) 49 d = S 49 d from by rw [su_cell _ _ _ (by decide)]]
  rw [show S 49 d = nI t from hat]
  refine lv_istore_n (lv' := [(2, .int (nI t)), (1, .int 14), (0, .ref (gA G 44))]) hx hb d_MO_close_29 rfl hl (by decide) rfl (fun ls hl => ?_)
  refine lv_aload_n hx hb d_MO_close_30 rfl (lv_at hl 2 rfl) ?_
  refine r_get hx hb hC hP i_MO (44) (by decide) rfl rfl 6 (by decide) l_MO_29 rfl d_MO_close_31 ?_
  refine lv_aload_n hx hb d_MO_close_34 rfl (lv_at hl 2 rfl) ?_
  refine r_get hx hb hC hP i_MO (44) (by decide) rfl rfl 8 (by decide) l_MO_58 rfl d_MO_close_35 ?_
  rw [show (su S 44 8 (nI d)) 44 8 = nI d from by rw [su_same]]
  refine r_ild hx hb hC hP (50) (by decide) rfl d rfl (by omega) (by decide) d_MO_close_38 ?_
  rw [show (su S 44 8 (nI d)) 50 d = S 50 d from by rw [su_cell _ _ _ (by decide)]]
  refine lv_istore_n (lv' := [(3, .int (S 50 d)), (2, .int (nI t)), (1, .int 14), (0, .ref (gA G 44))]) hx hb d_MO_close_39 rfl hl (by decide) rfl (fun ls hl => ?_)
  refine lv_iload_n hx hb d_MO_close_40 rfl (lv_at hl 2 rfl) ?_
  refine lv_iconst (v := 3) hx hb d_MO_close_41 (by decide) ?_
  refine lv_icmp_ne (tgt := 117) hx hb d_MO_close_42 (by decide) (fun _ => ?_) (fun h => absurd h (by decide))
  refine lv_iload_n hx hb d_MO_close_117 rfl (lv_at hl 2 rfl) ?_
  refine lv_bipush (v := 10) hx hb d_MO_close_118 (by decide) ?_
  refine lv_icmp_ne (tgt := 154) hx hb d_MO_close_120 (by decide) (fun _ => ?_) (fun h => absurd h (by decide))
  refine lv_iload_n hx hb d_MO_close_154 rfl (lv_at hl 2 rfl) ?_
  refine lv_bipush (v := 14) hx hb d_MO_close_155 (by decide) ?_
  refine lv_icmp_ne (tgt := 181) hx hb d_MO_close_157 (by decide) (fun h => absurd h (by decide)) (fun _ => ?_)
  refine lv_aload_n hx hb d_MO_close_160 rfl (lv_at hl 3 rfl) ?_
  refine r_get hx hb hC hP i_MO (44) (by decide) rfl rfl 11 (by decide) l_MO_92 rfl d_MO_close_161 ?_
  rw [show (su S 44 8 (nI d)) 44 11 = S 44 11 from by rw [su_int _ _ _ (by decide)]]
  refine lv_if_ne (tgt := 330) hx hb d_MO_close_164 (by decide) (fun c_164 => ?_) (fun c_164 => absurd c_164 hen)
  exact e_v hx hb hr hlk hC hP hS d_MO_close_330 rfl

theorem pop45 (S : SS) (d : Nat) : su S 44 8 (nI d) 45 = S 45 := su_cell _ _ _ (by decide)
theorem pop46 (S : SS) (d : Nat) : su S 44 8 (nI d) 46 = S 46 := su_cell _ _ _ (by decide)
set_option maxHeartbeats 4000000 in
set_option maxRecDepth 100000 in
theorem m_MO_close_catchA (l : Launch) (G : WG) (S : SS) (d : Nat) (hd8 : d < 79) (hdp : S 44 8 = nI (d + 1)) (hkd : S 48 d = 16) (t : Nat) (ht : t < 128) (hgo : S 51 d = nI t) (nc : Nat) (la : Bool) (P : Nat → Nat) (hT : TryAt S t nc la P) (hla : la = false) (hen : ¬ S 44 11 = 0) : Cv l y_MO_close b_MO_close 5 5 G [.ref (gA G 44)] S (fun S1 => S1 = moPop S d) := by
  refine mk l (by decide +kernel) (Nat.le_of_ble_eq_true rfl) ?_
  intro pp_ ee_ ss_ mm_ be_ me_ co_ ls hx hb hr hlk hml hC hP hS hl
  have hl : lv_has ls 5 [(0, .ref (gA G 44))] := hl
  refine lv_aload_n hx hb d_MO_close_0 rfl (lv_at hl 0 rfl) ?_
  refine lv_dup hx hb d_MO_close_1 rfl ?_
  refine r_get hx hb hC hP i_MO (44) (by decide) rfl rfl 8 (by decide) l_MO_58 rfl d_MO_close_2 ?_
  rw [show S 44 8 = nI (d + 1) from hdp]
  refine lv_iconst (v := 1) hx hb d_MO_close_5 (by decide) ?_
  refine lv_isub hx hb d_MO_close_6 ?_
  rw [show (nI (d + 1)) - 1 = nI d from nI_pred d]
  refine r_put hx hb hC hP hS i_MO t_MO t_MO_ok n_MO (44) (by decide) rfl rfl 8 (by decide) l_MO_58 rfl rfl rfl (Nat.le_of_ble_eq_true rfl) d_MO_close_7 (fun H locs hP hS => ?_)
  refine lv_aload_n hx hb d_MO_close_10 rfl (lv_at hl 0 rfl) ?_
  refine r_get hx hb hC hP i_MO (44) (by decide) rfl rfl 4 (by decide) l_MO_23 rfl d_MO_close_11 ?_
  refine lv_aload_n hx hb d_MO_close_14 rfl (lv_at hl 0 rfl) ?_
  refine r_get hx hb hC hP i_MO (44) (by decide) rfl rfl 8 (by decide) l_MO_58 rfl d_MO_close_15 ?_
  rw [show (su S 44 8 (nI d)) 44 8 = nI d from by rw [su_same]]
  refine r_ild hx hb hC hP (48) (by decide) rfl d rfl (by omega) (by decide) d_MO_close_18 ?_
  rw [show (su S 44 8 (nI d)) 48 d = S 48 d from by rw [su_cell _ _ _ (by decide)]]
  rw [show S 48 d = 16 from hkd]
  refine lv_istore_n (lv' := [(1, .int 16), (0, .ref (gA G 44))]) hx hb d_MO_close_19 rfl hl (by decide) rfl (fun ls hl => ?_)
  refine lv_aload_n hx hb d_MO_close_20 rfl (lv_at hl 1 rfl) ?_
  refine r_get hx hb hC hP i_MO (44) (by decide) rfl rfl 5 (by decide) l_MO_26 rfl d_MO_close_21 ?_
  refine lv_aload_n hx hb d_MO_close_24 rfl (lv_at hl 1 rfl) ?_
  refine r_get hx hb hC hP i_MO (44) (by decide) rfl rfl 8 (by decide) l_MO_58 rfl d_MO_close_25 ?_
  rw [show (su S 44 8 (nI d)) 44 8 = nI d from by rw [su_same]]
  refine r_ild hx hb hC hP (49) (by decide) rfl d rfl (by omega) (by decide) d_MO_close_28 ?_
  rw [show (su S 44 8 (nI d)) 49 d = S 49 d from by rw [su_cell _ _ _ (by decide)]]
  refine lv_istore_n (lv' := [(2, .int (S 49 d)), (1, .int 16), (0, .ref (gA G 44))]) hx hb d_MO_close_29 rfl hl (by decide) rfl (fun ls hl => ?_)
  refine lv_aload_n hx hb d_MO_close_30 rfl (lv_at hl 2 rfl) ?_
  refine r_get hx hb hC hP i_MO (44) (by decide) rfl rfl 6 (by decide) l_MO_29 rfl d_MO_close_31 ?_
  refine lv_aload_n hx hb d_MO_close_34 rfl (lv_at hl 2 rfl) ?_
  refine r_get hx hb hC hP i_MO (44) (by decide) rfl rfl 8 (by decide) l_MO_58 rfl d_MO_close_35 ?_
  rw [show (su S 44 8 (nI d)) 44 8 = nI d from by rw [su_same]]
  refine r_ild hx hb hC hP (50) (by decide) rfl d rfl (by omega) (by decide) d_MO_close_38 ?_
  rw [show (su S 44 8 (nI d)) 50 d = S 50 d from by rw [su_cell _ _ _ (by decide)]]
  refine lv_istore_n (lv' := [(3, .int (S 50 d)), (2, .int (S 49 d)), (1, .int 16), (0, .ref (gA G 44))]) hx hb d_MO_close_39 rfl hl (by decide) rfl (fun ls hl => ?_)
  refine lv_iload_n hx hb d_MO_close_40 rfl (lv_at hl 2 rfl) ?_
  refine lv_iconst (v := 3) hx hb d_MO_close_41 (by decide) ?_
  refine lv_icmp_ne (tgt := 117) hx hb d_MO_close_42 (by decide) (fun _ => ?_) (fun h => absurd h (by decide))
  refine lv_iload_n hx hb d_MO_close_117 rfl (lv_at hl 2 rfl) ?_
  refine lv_bipush (v := 10) hx hb d_MO_close_118 (by decide) ?_
  refine lv_icmp_ne (tgt := 154) hx hb d_MO_close_120 (by decide) (fun _ => ?_) (fun h => absurd h (by decide))
  refine lv_iload_n hx hb d_MO_close_154 rfl (lv_at hl 2 rfl) ?_
  refine lv_bipush (v := 14) hx hb d_MO_close_155 (by decide) ?_
  refine lv_icmp_ne (tgt := 181) hx hb d_MO_close_157 (by decide) (fun _ => ?_) (fun h => absurd h (by decide))
  refine lv_iload_n hx hb d_MO_close_181 rfl (lv_at hl 2 rfl) ?_
  refine lv_bipush (v := 9) hx hb d_MO_close_182 (by decide) ?_
  refine lv_icmp_ne (tgt := 256) hx hb d_MO_close_184 (by decide) (fun _ => ?_) (fun h => absurd h (by decide))
  refine lv_iload_n hx hb d_MO_close_256 rfl (lv_at hl 2 rfl) ?_
  refine lv_bipush (v := 16) hx hb d_MO_close_257 (by decide) ?_
  refine lv_icmp_ne (tgt := 278) hx hb d_MO_close_259 (by decide) (fun h => absurd h (by decide)) (fun _ => ?_)
  refine lv_aload_n hx hb d_MO_close_262 rfl (lv_at hl 3 rfl) ?_
  refine lv_aload_n hx hb d_MO_close_263 rfl (lv_at hl 3 rfl) ?_
  refine r_get hx hb hC hP i_MO (44) (by decide) rfl rfl 7 (by decide) l_MO_32 rfl d_MO_close_264 ?_
  refine lv_aload_n hx hb d_MO_close_267 rfl (lv_at hl 3 rfl) ?_
  refine r_get hx hb hC hP i_MO (44) (by decide) rfl rfl 8 (by decide) l_MO_58 rfl d_MO_close_268 ?_
  rw [show (su S 44 8 (nI d)) 44 8 = nI d from by rw [su_same]]
  refine r_ild hx hb hC hP (51) (by decide) rfl d rfl (by omega) (by decide) d_MO_close_271 ?_
  rw [show (su S 44 8 (nI d)) 51 d = S 51 d from by rw [su_cell _ _ _ (by decide)]]
  rw [show S 51 d = nI t from hgo]
  refine r_v hC hS (r_runV (np := 1) (As := [.int (nI t)]) (rest := []) hx hb hml hC hP hS (by decide) rfl rfl (m_MO_lastOfA l G (su S 44 8 (nI d)) t nc la P (hT.mv (pop45 S d) (pop46 S d)) hla (by rw [su_int _ _ _ (by decide)]; exact hen)) l_MO_152 im_MO_lastOf se_MO_lastOf in_MO c_MO_lastOf_in (by decide +kernel) ⟨by simp only [rmF]; omega, by simp only [rmF]; omega⟩ rfl hl.1 (Nat.le_of_ble_eq_true rfl) d_MO_close_272 ⟨Nat.le_refl _, Nat.le_refl _⟩) (fun S_272 H locs hw hP hS => ?_)
  rw [hw] at hP
  refine lv_goto (tgt := 330) hx hb d_MO_close_275 (by decide) ?_
  exact e_v hx hb hr hlk hC hP hS d_MO_close_330 rfl

set_option maxHeartbeats 4000000 in
set_option maxRecDepth 100000 in
theorem m_MO_close_catchB (l : Launch) (G : WG) (S : SS) (d : Nat) (hd8 : d < 79) (hdp : S 44 8 = nI (d + 1)) (hkd : S 48 d = 16) (t : Nat) (ht : t < 128) (hgo : S 51 d = nI t) (nc : Nat) (la : Bool) (P : Nat → Nat) (hT : TryAt S t nc la P) (hla : la = false) (hen : S 44 11 = 0) : Cv l y_MO_close b_MO_close 5 5 G [.ref (gA G 44)] S (fun S1 => S1 = su (moPop S d) 44 9 (nI (tryEnd nc la P))) := by
  refine mk l (by decide +kernel) (Nat.le_of_ble_eq_true rfl) ?_
  intro pp_ ee_ ss_ mm_ be_ me_ co_ ls hx hb hr hlk hml hC hP hS hl
  have hl : lv_has ls 5 [(0, .ref (gA G 44))] := hl
  refine lv_aload_n hx hb d_MO_close_0 rfl (lv_at hl 0 rfl) ?_
  refine lv_dup hx hb d_MO_close_1 rfl ?_
  refine r_get hx hb hC hP i_MO (44) (by decide) rfl rfl 8 (by decide) l_MO_58 rfl d_MO_close_2 ?_
  rw [show S 44 8 = nI (d + 1) from hdp]
  refine lv_iconst (v := 1) hx hb d_MO_close_5 (by decide) ?_
  refine lv_isub hx hb d_MO_close_6 ?_
  rw [show (nI (d + 1)) - 1 = nI d from nI_pred d]
  refine r_put hx hb hC hP hS i_MO t_MO t_MO_ok n_MO (44) (by decide) rfl rfl 8 (by decide) l_MO_58 rfl rfl rfl (Nat.le_of_ble_eq_true rfl) d_MO_close_7 (fun H locs hP hS => ?_)
  refine lv_aload_n hx hb d_MO_close_10 rfl (lv_at hl 0 rfl) ?_
  refine r_get hx hb hC hP i_MO (44) (by decide) rfl rfl 4 (by decide) l_MO_23 rfl d_MO_close_11 ?_
  refine lv_aload_n hx hb d_MO_close_14 rfl (lv_at hl 0 rfl) ?_
  refine r_get hx hb hC hP i_MO (44) (by decide) rfl rfl 8 (by decide) l_MO_58 rfl d_MO_close_15 ?_
  rw [show (su S 44 8 (nI d)) 44 8 = nI d from by rw [su_same]]
  refine r_ild hx hb hC hP (48) (by decide) rfl d rfl (by omega) (by decide) d_MO_close_18 ?_
  rw [show (su S 44 8 (nI d)) 48 d = S 48 d from by rw [su_cell _ _ _ (by decide)]]
  rw [show S 48 d = 16 from hkd]
  refine lv_istore_n (lv' := [(1, .int 16), (0, .ref (gA G 44))]) hx hb d_MO_close_19 rfl hl (by decide) rfl (fun ls hl => ?_)
  refine lv_aload_n hx hb d_MO_close_20 rfl (lv_at hl 1 rfl) ?_
  refine r_get hx hb hC hP i_MO (44) (by decide) rfl rfl 5 (by decide) l_MO_26 rfl d_MO_close_21 ?_
  refine lv_aload_n hx hb d_MO_close_24 rfl (lv_at hl 1 rfl) ?_
  refine r_get hx hb hC hP i_MO (44) (by decide) rfl rfl 8 (by decide) l_MO_58 rfl d_MO_close_25 ?_
  rw [show (su S 44 8 (nI d)) 44 8 = nI d from by rw [su_same]]
  refine r_ild hx hb hC hP (49) (by decide) rfl d rfl (by omega) (by decide) d_MO_close_28 ?_
  rw [show (su S 44 8 (nI d)) 49 d = S 49 d from by rw [su_cell _ _ _ (by decide)]]
  refine lv_istore_n (lv' := [(2, .int (S 49 d)), (1, .int 16), (0, .ref (gA G 44))]) hx hb d_MO_close_29 rfl hl (by decide) rfl (fun ls hl => ?_)
  refine lv_aload_n hx hb d_MO_close_30 rfl (lv_at hl 2 rfl) ?_
  refine r_get hx hb hC hP i_MO (44) (by decide) rfl rfl 6 (by decide) l_MO_29 rfl d_MO_close_31 ?_
  refine lv_aload_n hx hb d_MO_close_34 rfl (lv_at hl 2 rfl) ?_
  refine r_get hx hb hC hP i_MO (44) (by decide) rfl rfl 8 (by decide) l_MO_58 rfl d_MO_close_35 ?_
  rw [show (su S 44 8 (nI d)) 44 8 = nI d from by rw [su_same]]
  refine r_ild hx hb hC hP (50) (by decide) rfl d rfl (by omega) (by decide) d_MO_close_38 ?_
  rw [show (su S 44 8 (nI d)) 50 d = S 50 d from by rw [su_cell _ _ _ (by decide)]]
  refine lv_istore_n (lv' := [(3, .int (S 50 d)), (2, .int (S 49 d)), (1, .int 16), (0, .ref (gA G 44))]) hx hb d_MO_close_39 rfl hl (by decide) rfl (fun ls hl => ?_)
  refine lv_iload_n hx hb d_MO_close_40 rfl (lv_at hl 2 rfl) ?_
  refine lv_iconst (v := 3) hx hb d_MO_close_41 (by decide) ?_
  refine lv_icmp_ne (tgt := 117) hx hb d_MO_close_42 (by decide) (fun _ => ?_) (fun h => absurd h (by decide))
  refine lv_iload_n hx hb d_MO_close_117 rfl (lv_at hl 2 rfl) ?_
  refine lv_bipush (v := 10) hx hb d_MO_close_118 (by decide) ?_
  refine lv_icmp_ne (tgt := 154) hx hb d_MO_close_120 (by decide) (fun _ => ?_) (fun h => absurd h (by decide))
  refine lv_iload_n hx hb d_MO_close_154 rfl (lv_at hl 2 rfl) ?_
  refine lv_bipush (v := 14) hx hb d_MO_close_155 (by decide) ?_
  refine lv_icmp_ne (tgt := 181) hx hb d_MO_close_157 (by decide) (fun _ => ?_) (fun h => absurd h (by decide))
  refine lv_iload_n hx hb d_MO_close_181 rfl (lv_at hl 2 rfl) ?_
  refine lv_bipush (v := 9) hx hb d_MO_close_182 (by decide) ?_
  refine lv_icmp_ne (tgt := 256) hx hb d_MO_close_184 (by decide) (fun _ => ?_) (fun h => absurd h (by decide))
  refine lv_iload_n hx hb d_MO_close_256 rfl (lv_at hl 2 rfl) ?_
  refine lv_bipush (v := 16) hx hb d_MO_close_257 (by decide) ?_
  refine lv_icmp_ne (tgt := 278) hx hb d_MO_close_259 (by decide) (fun h => absurd h (by decide)) (fun _ => ?_)
  refine lv_aload_n hx hb d_MO_close_262 rfl (lv_at hl 3 rfl) ?_
  refine lv_aload_n hx hb d_MO_close_263 rfl (lv_at hl 3 rfl) ?_
  refine r_get hx hb hC hP i_MO (44) (by decide) rfl rfl 7 (by decide) l_MO_32 rfl d_MO_close_264 ?_
  refine lv_aload_n hx hb d_MO_close_267 rfl (lv_at hl 3 rfl) ?_
  refine r_get hx hb hC hP i_MO (44) (by decide) rfl rfl 8 (by decide) l_MO_58 rfl d_MO_close_268 ?_
  rw [show (su S 44 8 (nI d)) 44 8 = nI d from by rw [su_same]]
  refine r_ild hx hb hC hP (51) (by decide) rfl d rfl (by omega) (by decide) d_MO_close_271 ?_
  rw [show (su S 44 8 (nI d)) 51 d = S 51 d from by rw [su_cell _ _ _ (by decide)]]
  rw [show S 51 d = nI t from hgo]
  refine r_v hC hS (r_runV (np := 1) (As := [.int (nI t)]) (rest := []) hx hb hml hC hP hS (by decide) rfl rfl (m_MO_lastOfB l G (su S 44 8 (nI d)) t nc la P (hT.mv (pop45 S d) (pop46 S d)) hla (by rw [su_int _ _ _ (by decide)]; exact hen)) l_MO_152 im_MO_lastOf se_MO_lastOf in_MO c_MO_lastOf_in (by decide +kernel) ⟨by simp only [rmF]; omega, by simp only [rmF]; omega⟩ rfl hl.1 (Nat.le_of_ble_eq_true rfl) d_MO_close_272 ⟨Nat.le_refl _, Nat.le_refl _⟩) (fun S_272 H locs hw hP hS => ?_)
  rw [hw] at hP
  refine lv_goto (tgt := 330) hx hb d_MO_close_275 (by decide) ?_
  exact e_v hx hb hr hlk hC hP hS d_MO_close_330 rfl

set_option maxHeartbeats 4000000 in
set_option maxRecDepth 100000 in
theorem m_MO_close_catchC (l : Launch) (G : WG) (S : SS) (d : Nat) (hd8 : d < 79) (hdp : S 44 8 = nI (d + 1)) (hkd : S 48 d = 16) (t : Nat) (ht : t < 128) (hgo : S 51 d = nI t) (nc : Nat) (la : Bool) (P : Nat → Nat) (hT : TryAt S t nc la P) (hla : la = true) : Cv l y_MO_close b_MO_close 5 5 G [.ref (gA G 44)] S (fun S1 => S1 = moLast (moPop S d) d t (P nc)) := by
  refine mk l (by decide +kernel) (Nat.le_of_ble_eq_true rfl) ?_
  intro pp_ ee_ ss_ mm_ be_ me_ co_ ls hx hb hr hlk hml hC hP hS hl
  have hl : lv_has ls 5 [(0, .ref (gA G 44))] := hl
  refine lv_aload_n hx hb d_MO_close_0 rfl (lv_at hl 0 rfl) ?_
  refine lv_dup hx hb d_MO_close_1 rfl ?_
  refine r_get hx hb hC hP i_MO (44) (by decide) rfl rfl 8 (by decide) l_MO_58 rfl d_MO_close_2 ?_
  rw [show S 44 8 = nI (d + 1) from hdp]
  refine lv_iconst (v := 1) hx hb d_MO_close_5 (by decide) ?_
  refine lv_isub hx hb d_MO_close_6 ?_
  rw [show (nI (d + 1)) - 1 = nI d from nI_pred d]
  refine r_put hx hb hC hP hS i_MO t_MO t_MO_ok n_MO (44) (by decide) rfl rfl 8 (by decide) l_MO_58 rfl rfl rfl (Nat.le_of_ble_eq_true rfl) d_MO_close_7 (fun H locs hP hS => ?_)
  refine lv_aload_n hx hb d_MO_close_10 rfl (lv_at hl 0 rfl) ?_
  refine r_get hx hb hC hP i_MO (44) (by decide) rfl rfl 4 (by decide) l_MO_23 rfl d_MO_close_11 ?_
  refine lv_aload_n hx hb d_MO_close_14 rfl (lv_at hl 0 rfl) ?_
  refine r_get hx hb hC hP i_MO (44) (by decide) rfl rfl 8 (by decide) l_MO_58 rfl d_MO_close_15 ?_
  rw [show (su S 44 8 (nI d)) 44 8 = nI d from by rw [su_same]]
  refine r_ild hx hb hC hP (48) (by decide) rfl d rfl (by omega) (by decide) d_MO_close_18 ?_
  rw [show (su S 44 8 (nI d)) 48 d = S 48 d from by rw [su_cell _ _ _ (by decide)]]
  rw [show S 48 d = 16 from hkd]
  refine lv_istore_n (lv' := [(1, .int 16), (0, .ref (gA G 44))]) hx hb d_MO_close_19 rfl hl (by decide) rfl (fun ls hl => ?_)
  refine lv_aload_n hx hb d_MO_close_20 rfl (lv_at hl 1 rfl) ?_
  refine r_get hx hb hC hP i_MO (44) (by decide) rfl rfl 5 (by decide) l_MO_26 rfl d_MO_close_21 ?_
  refine lv_aload_n hx hb d_MO_close_24 rfl (lv_at hl 1 rfl) ?_
  refine r_get hx hb hC hP i_MO (44) (by decide) rfl rfl 8 (by decide) l_MO_58 rfl d_MO_close_25 ?_
  rw [show (su S 44 8 (nI d)) 44 8 = nI d from by rw [su_same]]
  refine r_ild hx hb hC hP (49) (by decide) rfl d rfl (by omega) (by decide) d_MO_close_28 ?_
  rw [show (su S 44 8 (nI d)) 49 d = S 49 d from by rw [su_cell _ _ _ (by decide)]]
  refine lv_istore_n (lv' := [(2, .int (S 49 d)), (1, .int 16), (0, .ref (gA G 44))]) hx hb d_MO_close_29 rfl hl (by decide) rfl (fun ls hl => ?_)
  refine lv_aload_n hx hb d_MO_close_30 rfl (lv_at hl 2 rfl) ?_
  refine r_get hx hb hC hP i_MO (44) (by decide) rfl rfl 6 (by decide) l_MO_29 rfl d_MO_close_31 ?_
  refine lv_aload_n hx hb d_MO_close_34 rfl (lv_at hl 2 rfl) ?_
  refine r_get hx hb hC hP i_MO (44) (by decide) rfl rfl 8 (by decide) l_MO_58 rfl d_MO_close_35 ?_
  rw [show (su S 44 8 (nI d)) 44 8 = nI d from by rw [su_same]]
  refine r_ild hx hb hC hP (50) (by decide) rfl d rfl (by omega) (by decide) d_MO_close_38 ?_
  rw [show (su S 44 8 (nI d)) 50 d = S 50 d from by rw [su_cell _ _ _ (by decide)]]
  refine lv_istore_n (lv' := [(3, .int (S 50 d)), (2, .int (S 49 d)), (1, .int 16), (0, .ref (gA G 44))]) hx hb d_MO_close_39 rfl hl (by decide) rfl (fun ls hl => ?_)
  refine lv_iload_n hx hb d_MO_close_40 rfl (lv_at hl 2 rfl) ?_
  refine lv_iconst (v := 3) hx hb d_MO_close_41 (by decide) ?_
  refine lv_icmp_ne (tgt := 117) hx hb d_MO_close_42 (by decide) (fun _ => ?_) (fun h => absurd h (by decide))
  refine lv_iload_n hx hb d_MO_close_117 rfl (lv_at hl 2 rfl) ?_
  refine lv_bipush (v := 10) hx hb d_MO_close_118 (by decide) ?_
  refine lv_icmp_ne (tgt := 154) hx hb d_MO_close_120 (by decide) (fun _ => ?_) (fun h => absurd h (by decide))
  refine lv_iload_n hx hb d_MO_close_154 rfl (lv_at hl 2 rfl) ?_
  refine lv_bipush (v := 14) hx hb d_MO_close_155 (by decide) ?_
  refine lv_icmp_ne (tgt := 181) hx hb d_MO_close_157 (by decide) (fun _ => ?_) (fun h => absurd h (by decide))
  refine lv_iload_n hx hb d_MO_close_181 rfl (lv_at hl 2 rfl) ?_
  refine lv_bipush (v := 9) hx hb d_MO_close_182 (by decide) ?_
  refine lv_icmp_ne (tgt := 256) hx hb d_MO_close_184 (by decide) (fun _ => ?_) (fun h => absurd h (by decide))
  refine lv_iload_n hx hb d_MO_close_256 rfl (lv_at hl 2 rfl) ?_
  refine lv_bipush (v := 16) hx hb d_MO_close_257 (by decide) ?_
  refine lv_icmp_ne (tgt := 278) hx hb d_MO_close_259 (by decide) (fun h => absurd h (by decide)) (fun _ => ?_)
  refine lv_aload_n hx hb d_MO_close_262 rfl (lv_at hl 3 rfl) ?_
  refine lv_aload_n hx hb d_MO_close_263 rfl (lv_at hl 3 rfl) ?_
  refine r_get hx hb hC hP i_MO (44) (by decide) rfl rfl 7 (by decide) l_MO_32 rfl d_MO_close_264 ?_
  refine lv_aload_n hx hb d_MO_close_267 rfl (lv_at hl 3 rfl) ?_
  refine r_get hx hb hC hP i_MO (44) (by decide) rfl rfl 8 (by decide) l_MO_58 rfl d_MO_close_268 ?_
  rw [show (su S 44 8 (nI d)) 44 8 = nI d from by rw [su_same]]
  refine r_ild hx hb hC hP (51) (by decide) rfl d rfl (by omega) (by decide) d_MO_close_271 ?_
  rw [show (su S 44 8 (nI d)) 51 d = S 51 d from by rw [su_cell _ _ _ (by decide)]]
  rw [show S 51 d = nI t from hgo]
  refine r_v hC hS (r_runV (np := 1) (As := [.int (nI t)]) (rest := []) hx hb hml hC hP hS (by decide) rfl rfl (m_MO_lastOfC l G (su S 44 8 (nI d)) t nc la P (hT.mv (pop45 S d) (pop46 S d)) d (by omega) (by rw [su_same]) hla) l_MO_152 im_MO_lastOf se_MO_lastOf in_MO c_MO_lastOf_in (by decide +kernel) ⟨by simp only [rmF]; omega, by simp only [rmF]; omega⟩ rfl hl.1 (Nat.le_of_ble_eq_true rfl) d_MO_close_272 ⟨Nat.le_refl _, Nat.le_refl _⟩) (fun S_272 H locs hw hP hS => ?_)
  rw [hw] at hP
  refine lv_goto (tgt := 330) hx hb d_MO_close_275 (by decide) ?_
  exact e_v hx hb hr hlk hC hP hS d_MO_close_330 rfl

set_option maxHeartbeats 4000000 in
set_option maxRecDepth 100000 in
theorem m_MO_close_tryA (l : Launch) (G : WG) (S : SS) (d : Nat) (hd8 : d < 79) (hdp : S 44 8 = nI (d + 1)) (hkd : S 48 d = 9) (t : Nat) (ht : t < 128) (hat : S 49 d = nI t) (nc : Nat) (la : Bool) (P : Nat → Nat) (hT : TryAt S t nc la P) (hla : la = false) (hen : ¬ S 44 11 = 0) (h4 : ¬ S 44 11 = 4) : Cv l y_MO_close b_MO_close 5 5 G [.ref (gA G 44)] S (fun S1 => S1 = moPop S d) := by
  refine mk l (by decide +kernel) (Nat.le_of_ble_eq_true rfl) ?_
  intro pp_ ee_ ss_ mm_ be_ me_ co_ ls hx hb hr hlk hml hC hP hS hl
  have hl : lv_has ls 5 [(0, .ref (gA G 44))] := hl
  refine lv_aload_n hx hb d_MO_close_0 rfl (lv_at hl 0 rfl) ?_
  refine lv_dup hx hb d_MO_close_1 rfl ?_
  refine r_get hx hb hC hP i_MO (44) (by decide) rfl rfl 8 (by decide) l_MO_58 rfl d_MO_close_2 ?_
  rw [show S 44 8 = nI (d + 1) from hdp]
  refine lv_iconst (v := 1) hx hb d_MO_close_5 (by decide) ?_
  refine lv_isub hx hb d_MO_close_6 ?_
  rw [show (nI (d + 1)) - 1 = nI d from nI_pred d]
  refine r_put hx hb hC hP hS i_MO t_MO t_MO_ok n_MO (44) (by decide) rfl rfl 8 (by decide) l_MO_58 rfl rfl rfl (Nat.le_of_ble_eq_true rfl) d_MO_close_7 (fun H locs hP hS => ?_)
  refine lv_aload_n hx hb d_MO_close_10 rfl (lv_at hl 0 rfl) ?_
  refine r_get hx hb hC hP i_MO (44) (by decide) rfl rfl 4 (by decide) l_MO_23 rfl d_MO_close_11 ?_
  refine lv_aload_n hx hb d_MO_close_14 rfl (lv_at hl 0 rfl) ?_
  refine r_get hx hb hC hP i_MO (44) (by decide) rfl rfl 8 (by decide) l_MO_58 rfl d_MO_close_15 ?_
  rw [show (su S 44 8 (nI d)) 44 8 = nI d from by rw [su_same]]
  refine r_ild hx hb hC hP (48) (by decide) rfl d rfl (by omega) (by decide) d_MO_close_18 ?_
  rw [show (su S 44 8 (nI d)) 48 d = S 48 d from by rw [su_cell _ _ _ (by decide)]]
  rw [show S 48 d = 9 from hkd]
  refine lv_istore_n (lv' := [(1, .int 9), (0, .ref (gA G 44))]) hx hb d_MO_close_19 rfl hl (by decide) rfl (fun ls hl => ?_)
  refine lv_aload_n hx hb d_MO_close_20 rfl (lv_at hl 1 rfl) ?_
  refine r_get hx hb hC hP i_MO (44) (by decide) rfl rfl 5 (by decide) l_MO_26 rfl d_MO_close_21 ?_
  refine lv_aload_n hx hb d_MO_close_24 rfl (lv_at hl 1 rfl) ?_
  refine r_get hx hb hC hP i_MO (44) (by decide) rfl rfl 8 (by decide) l_MO_58 rfl d_MO_close_25 ?_
  rw [show (su S 44 8 (nI d)) 44 8 = nI d from by rw [su_same]]
  refine r_ild hx hb hC hP (49) (by decide) rfl d rfl (by omega) (by decide) d_MO_close_28 ?_
  rw [show (su S 44 8 (nI d)) 49 d = S 49 d from by rw [su_cell _ _ _ (by decide)]]
  rw [show S 49 d = nI t from hat]
  refine lv_istore_n (lv' := [(2, .int (nI t)), (1, .int 9), (0, .ref (gA G 44))]) hx hb d_MO_close_29 rfl hl (by decide) rfl (fun ls hl => ?_)
  refine lv_aload_n hx hb d_MO_close_30 rfl (lv_at hl 2 rfl) ?_
  refine r_get hx hb hC hP i_MO (44) (by decide) rfl rfl 6 (by decide) l_MO_29 rfl d_MO_close_31 ?_
  refine lv_aload_n hx hb d_MO_close_34 rfl (lv_at hl 2 rfl) ?_
  refine r_get hx hb hC hP i_MO (44) (by decide) rfl rfl 8 (by decide) l_MO_58 rfl d_MO_close_35 ?_
  rw [show (su S 44 8 (nI d)) 44 8 = nI d from by rw [su_same]]
  refine r_ild hx hb hC hP (50) (by decide) rfl d rfl (by omega) (by decide) d_MO_close_38 ?_
  rw [show (su S 44 8 (nI d)) 50 d = S 50 d from by rw [su_cell _ _ _ (by decide)]]
  refine lv_istore_n (lv' := [(3, .int (S 50 d)), (2, .int (nI t)), (1, .int 9), (0, .ref (gA G 44))]) hx hb d_MO_close_39 rfl hl (by decide) rfl (fun ls hl => ?_)
  refine lv_iload_n hx hb d_MO_close_40 rfl (lv_at hl 2 rfl) ?_
  refine lv_iconst (v := 3) hx hb d_MO_close_41 (by decide) ?_
  refine lv_icmp_ne (tgt := 117) hx hb d_MO_close_42 (by decide) (fun _ => ?_) (fun h => absurd h (by decide))
  refine lv_iload_n hx hb d_MO_close_117 rfl (lv_at hl 2 rfl) ?_
  refine lv_bipush (v := 10) hx hb d_MO_close_118 (by decide) ?_
  refine lv_icmp_ne (tgt := 154) hx hb d_MO_close_120 (by decide) (fun _ => ?_) (fun h => absurd h (by decide))
  refine lv_iload_n hx hb d_MO_close_154 rfl (lv_at hl 2 rfl) ?_
  refine lv_bipush (v := 14) hx hb d_MO_close_155 (by decide) ?_
  refine lv_icmp_ne (tgt := 181) hx hb d_MO_close_157 (by decide) (fun _ => ?_) (fun h => absurd h (by decide))
  refine lv_iload_n hx hb d_MO_close_181 rfl (lv_at hl 2 rfl) ?_
  refine lv_bipush (v := 9) hx hb d_MO_close_182 (by decide) ?_
  refine lv_icmp_ne (tgt := 256) hx hb d_MO_close_184 (by decide) (fun h => absurd h (by decide)) (fun _ => ?_)
  refine lv_aload_n hx hb d_MO_close_187 rfl (lv_at hl 3 rfl) ?_
  refine r_get hx hb hC hP i_MO (44) (by decide) rfl rfl 11 (by decide) l_MO_92 rfl d_MO_close_188 ?_
  rw [show (su S 44 8 (nI d)) 44 11 = S 44 11 from by rw [su_int _ _ _ (by decide)]]
  refine lv_iconst (v := 4) hx hb d_MO_close_191 (by decide) ?_
  refine lv_icmp_ne (tgt := 203) hx hb d_MO_close_192 (by decide) (fun c_192 => ?_) (fun c_192 => absurd c_192 h4)
  refine lv_iconst (v := (-1)) hx hb d_MO_close_203 (by decide) ?_
  refine lv_istore (lv' := [(4, .int (-1)), (3, .int (S 50 d)), (2, .int (nI t)), (1, .int 9), (0, .ref (gA G 44))]) hx hb d_MO_close_204 hl (by decide) rfl (fun ls hl => ?_)
  refine lv_iload hx hb d_MO_close_206 (lv_at hl 0 rfl) ?_
  refine lv_if_ge (tgt := 219) hx hb d_MO_close_208 (by decide) (fun h => absurd h (by decide)) (fun _ => ?_)
  refine lv_aload_n hx hb d_MO_close_211 rfl (lv_at hl 4 rfl) ?_
  refine lv_iload_n hx hb d_MO_close_212 rfl (lv_at hl 2 rfl) ?_
  refine r_v hC hS (r_runV (np := 1) (As := [.int (nI t)]) (rest := []) hx hb hml hC hP hS (by decide) rfl rfl (m_MO_lastOfA l G (su S 44 8 (nI d)) t nc la P (hT.mv (pop45 S d) (pop46 S d)) hla (by rw [su_int _ _ _ (by decide)]; exact hen)) l_MO_152 im_MO_lastOf se_MO_lastOf in_MO c_MO_lastOf_in (by decide +kernel) ⟨by simp only [rmF]; omega, by simp only [rmF]; omega⟩ rfl hl.1 (Nat.le_of_ble_eq_true rfl) d_MO_close_213 ⟨Nat.le_refl _, Nat.le_refl _⟩) (fun S_213 H locs hw hP hS => ?_)
  rw [hw] at hP
  refine lv_goto (tgt := 253) hx hb d_MO_close_216 (by decide) ?_
  refine lv_goto (tgt := 330) hx hb d_MO_close_253 (by decide) ?_
  exact e_v hx hb hr hlk hC hP hS d_MO_close_330 rfl

set_option maxHeartbeats 4000000 in
set_option maxRecDepth 100000 in
theorem m_MO_close_tryB (l : Launch) (G : WG) (S : SS) (d : Nat) (hd8 : d < 79) (hdp : S 44 8 = nI (d + 1)) (hkd : S 48 d = 9) (t : Nat) (ht : t < 128) (hat : S 49 d = nI t) (nc : Nat) (la : Bool) (P : Nat → Nat) (hT : TryAt S t nc la P) (hla : la = false) (hen : S 44 11 = 0) (h4 : ¬ S 44 11 = 4) : Cv l y_MO_close b_MO_close 5 5 G [.ref (gA G 44)] S (fun S1 => S1 = su (moPop S d) 44 9 (nI (tryEnd nc la P))) := by
  refine mk l (by decide +kernel) (Nat.le_of_ble_eq_true rfl) ?_
  intro pp_ ee_ ss_ mm_ be_ me_ co_ ls hx hb hr hlk hml hC hP hS hl
  have hl : lv_has ls 5 [(0, .ref (gA G 44))] := hl
  refine lv_aload_n hx hb d_MO_close_0 rfl (lv_at hl 0 rfl) ?_
  refine lv_dup hx hb d_MO_close_1 rfl ?_
  refine r_get hx hb hC hP i_MO (44) (by decide) rfl rfl 8 (by decide) l_MO_58 rfl d_MO_close_2 ?_
  rw [show S 44 8 = nI (d + 1) from hdp]
  refine lv_iconst (v := 1) hx hb d_MO_close_5 (by decide) ?_
  refine lv_isub hx hb d_MO_close_6 ?_
  rw [show (nI (d + 1)) - 1 = nI d from nI_pred d]
  refine r_put hx hb hC hP hS i_MO t_MO t_MO_ok n_MO (44) (by decide) rfl rfl 8 (by decide) l_MO_58 rfl rfl rfl (Nat.le_of_ble_eq_true rfl) d_MO_close_7 (fun H locs hP hS => ?_)
  refine lv_aload_n hx hb d_MO_close_10 rfl (lv_at hl 0 rfl) ?_
  refine r_get hx hb hC hP i_MO (44) (by decide) rfl rfl 4 (by decide) l_MO_23 rfl d_MO_close_11 ?_
  refine lv_aload_n hx hb d_MO_close_14 rfl (lv_at hl 0 rfl) ?_
  refine r_get hx hb hC hP i_MO (44) (by decide) rfl rfl 8 (by decide) l_MO_58 rfl d_MO_close_15 ?_
  rw [show (su S 44 8 (nI d)) 44 8 = nI d from by rw [su_same]]
  refine r_ild hx hb hC hP (48) (by decide) rfl d rfl (by omega) (by decide) d_MO_close_18 ?_
  rw [show (su S 44 8 (nI d)) 48 d = S 48 d from by rw [su_cell _ _ _ (by decide)]]
  rw [show S 48 d = 9 from hkd]
  refine lv_istore_n (lv' := [(1, .int 9), (0, .ref (gA G 44))]) hx hb d_MO_close_19 rfl hl (by decide) rfl (fun ls hl => ?_)
  refine lv_aload_n hx hb d_MO_close_20 rfl (lv_at hl 1 rfl) ?_
  refine r_get hx hb hC hP i_MO (44) (by decide) rfl rfl 5 (by decide) l_MO_26 rfl d_MO_close_21 ?_
  refine lv_aload_n hx hb d_MO_close_24 rfl (lv_at hl 1 rfl) ?_
  refine r_get hx hb hC hP i_MO (44) (by decide) rfl rfl 8 (by decide) l_MO_58 rfl d_MO_close_25 ?_
  rw [show (su S 44 8 (nI d)) 44 8 = nI d from by rw [su_same]]
  refine r_ild hx hb hC hP (49) (by decide) rfl d rfl (by omega) (by decide) d_MO_close_28 ?_
  rw [show (su S 44 8 (nI d)) 49 d = S 49 d from by rw [su_cell _ _ _ (by decide)]]
  rw [show S 49 d = nI t from hat]
  refine lv_istore_n (lv' := [(2, .int (nI t)), (1, .int 9), (0, .ref (gA G 44))]) hx hb d_MO_close_29 rfl hl (by decide) rfl (fun ls hl => ?_)
  refine lv_aload_n hx hb d_MO_close_30 rfl (lv_at hl 2 rfl) ?_
  refine r_get hx hb hC hP i_MO (44) (by decide) rfl rfl 6 (by decide) l_MO_29 rfl d_MO_close_31 ?_
  refine lv_aload_n hx hb d_MO_close_34 rfl (lv_at hl 2 rfl) ?_
  refine r_get hx hb hC hP i_MO (44) (by decide) rfl rfl 8 (by decide) l_MO_58 rfl d_MO_close_35 ?_
  rw [show (su S 44 8 (nI d)) 44 8 = nI d from by rw [su_same]]
  refine r_ild hx hb hC hP (50) (by decide) rfl d rfl (by omega) (by decide) d_MO_close_38 ?_
  rw [show (su S 44 8 (nI d)) 50 d = S 50 d from by rw [su_cell _ _ _ (by decide)]]
  refine lv_istore_n (lv' := [(3, .int (S 50 d)), (2, .int (nI t)), (1, .int 9), (0, .ref (gA G 44))]) hx hb d_MO_close_39 rfl hl (by decide) rfl (fun ls hl => ?_)
  refine lv_iload_n hx hb d_MO_close_40 rfl (lv_at hl 2 rfl) ?_
  refine lv_iconst (v := 3) hx hb d_MO_close_41 (by decide) ?_
  refine lv_icmp_ne (tgt := 117) hx hb d_MO_close_42 (by decide) (fun _ => ?_) (fun h => absurd h (by decide))
  refine lv_iload_n hx hb d_MO_close_117 rfl (lv_at hl 2 rfl) ?_
  refine lv_bipush (v := 10) hx hb d_MO_close_118 (by decide) ?_
  refine lv_icmp_ne (tgt := 154) hx hb d_MO_close_120 (by decide) (fun _ => ?_) (fun h => absurd h (by decide))
  refine lv_iload_n hx hb d_MO_close_154 rfl (lv_at hl 2 rfl) ?_
  refine lv_bipush (v := 14) hx hb d_MO_close_155 (by decide) ?_
  refine lv_icmp_ne (tgt := 181) hx hb d_MO_close_157 (by decide) (fun _ => ?_) (fun h => absurd h (by decide))
  refine lv_iload_n hx hb d_MO_close_181 rfl (lv_at hl 2 rfl) ?_
  refine lv_bipush (v := 9) hx hb d_MO_close_182 (by decide) ?_
  refine lv_icmp_ne (tgt := 256) hx hb d_MO_close_184 (by decide) (fun h => absurd h (by decide)) (fun _ => ?_)
  refine lv_aload_n hx hb d_MO_close_187 rfl (lv_at hl 3 rfl) ?_
  refine r_get hx hb hC hP i_MO (44) (by decide) rfl rfl 11 (by decide) l_MO_92 rfl d_MO_close_188 ?_
  rw [show (su S 44 8 (nI d)) 44 11 = S 44 11 from by rw [su_int _ _ _ (by decide)]]
  refine lv_iconst (v := 4) hx hb d_MO_close_191 (by decide) ?_
  refine lv_icmp_ne (tgt := 203) hx hb d_MO_close_192 (by decide) (fun c_192 => ?_) (fun c_192 => absurd c_192 h4)
  refine lv_iconst (v := (-1)) hx hb d_MO_close_203 (by decide) ?_
  refine lv_istore (lv' := [(4, .int (-1)), (3, .int (S 50 d)), (2, .int (nI t)), (1, .int 9), (0, .ref (gA G 44))]) hx hb d_MO_close_204 hl (by decide) rfl (fun ls hl => ?_)
  refine lv_iload hx hb d_MO_close_206 (lv_at hl 0 rfl) ?_
  refine lv_if_ge (tgt := 219) hx hb d_MO_close_208 (by decide) (fun h => absurd h (by decide)) (fun _ => ?_)
  refine lv_aload_n hx hb d_MO_close_211 rfl (lv_at hl 4 rfl) ?_
  refine lv_iload_n hx hb d_MO_close_212 rfl (lv_at hl 2 rfl) ?_
  refine r_v hC hS (r_runV (np := 1) (As := [.int (nI t)]) (rest := []) hx hb hml hC hP hS (by decide) rfl rfl (m_MO_lastOfB l G (su S 44 8 (nI d)) t nc la P (hT.mv (pop45 S d) (pop46 S d)) hla (by rw [su_int _ _ _ (by decide)]; exact hen)) l_MO_152 im_MO_lastOf se_MO_lastOf in_MO c_MO_lastOf_in (by decide +kernel) ⟨by simp only [rmF]; omega, by simp only [rmF]; omega⟩ rfl hl.1 (Nat.le_of_ble_eq_true rfl) d_MO_close_213 ⟨Nat.le_refl _, Nat.le_refl _⟩) (fun S_213 H locs hw hP hS => ?_)
  rw [hw] at hP
  refine lv_goto (tgt := 253) hx hb d_MO_close_216 (by decide) ?_
  refine lv_goto (tgt := 330) hx hb d_MO_close_253 (by decide) ?_
  exact e_v hx hb hr hlk hC hP hS d_MO_close_330 rfl

set_option maxHeartbeats 4000000 in
set_option maxRecDepth 100000 in
theorem m_MO_close_tryC (l : Launch) (G : WG) (S : SS) (d : Nat) (hd8 : d < 79) (hdp : S 44 8 = nI (d + 1)) (hkd : S 48 d = 9) (t : Nat) (ht : t < 128) (hat : S 49 d = nI t) (nc : Nat) (la : Bool) (P : Nat → Nat) (hT : TryAt S t nc la P) (hla : la = true) (h4 : ¬ S 44 11 = 4) : Cv l y_MO_close b_MO_close 5 5 G [.ref (gA G 44)] S (fun S1 => S1 = moLast (moPop S d) d t (P nc)) := by
  refine mk l (by decide +kernel) (Nat.le_of_ble_eq_true rfl) ?_
  intro pp_ ee_ ss_ mm_ be_ me_ co_ ls hx hb hr hlk hml hC hP hS hl
  have hl : lv_has ls 5 [(0, .ref (gA G 44))] := hl
  refine lv_aload_n hx hb d_MO_close_0 rfl (lv_at hl 0 rfl) ?_
  refine lv_dup hx hb d_MO_close_1 rfl ?_
  refine r_get hx hb hC hP i_MO (44) (by decide) rfl rfl 8 (by decide) l_MO_58 rfl d_MO_close_2 ?_
  rw [show S 44 8 = nI (d + 1) from hdp]
  refine lv_iconst (v := 1) hx hb d_MO_close_5 (by decide) ?_
  refine lv_isub hx hb d_MO_close_6 ?_
  rw [show (nI (d + 1)) - 1 = nI d from nI_pred d]
  refine r_put hx hb hC hP hS i_MO t_MO t_MO_ok n_MO (44) (by decide) rfl rfl 8 (by decide) l_MO_58 rfl rfl rfl (Nat.le_of_ble_eq_true rfl) d_MO_close_7 (fun H locs hP hS => ?_)
  refine lv_aload_n hx hb d_MO_close_10 rfl (lv_at hl 0 rfl) ?_
  refine r_get hx hb hC hP i_MO (44) (by decide) rfl rfl 4 (by decide) l_MO_23 rfl d_MO_close_11 ?_
  refine lv_aload_n hx hb d_MO_close_14 rfl (lv_at hl 0 rfl) ?_
  refine r_get hx hb hC hP i_MO (44) (by decide) rfl rfl 8 (by decide) l_MO_58 rfl d_MO_close_15 ?_
  rw [show (su S 44 8 (nI d)) 44 8 = nI d from by rw [su_same]]
  refine r_ild hx hb hC hP (48) (by decide) rfl d rfl (by omega) (by decide) d_MO_close_18 ?_
  rw [show (su S 44 8 (nI d)) 48 d = S 48 d from by rw [su_cell _ _ _ (by decide)]]
  rw [show S 48 d = 9 from hkd]
  refine lv_istore_n (lv' := [(1, .int 9), (0, .ref (gA G 44))]) hx hb d_MO_close_19 rfl hl (by decide) rfl (fun ls hl => ?_)
  refine lv_aload_n hx hb d_MO_close_20 rfl (lv_at hl 1 rfl) ?_
  refine r_get hx hb hC hP i_MO (44) (by decide) rfl rfl 5 (by decide) l_MO_26 rfl d_MO_close_21 ?_
  refine lv_aload_n hx hb d_MO_close_24 rfl (lv_at hl 1 rfl) ?_
  refine r_get hx hb hC hP i_MO (44) (by decide) rfl rfl 8 (by decide) l_MO_58 rfl d_MO_close_25 ?_
  rw [show (su S 44 8 (nI d)) 44 8 = nI d from by rw [su_same]]
  refine r_ild hx hb hC hP (49) (by decide) rfl d rfl (by omega) (by decide) d_MO_close_28 ?_
  rw [show (su S 44 8 (nI d)) 49 d = S 49 d from by rw [su_cell _ _ _ (by decide)]]
  rw [show S 49 d = nI t from hat]
  refine lv_istore_n (lv' := [(2, .int (nI t)), (1, .int 9), (0, .ref (gA G 44))]) hx hb d_MO_close_29 rfl hl (by decide) rfl (fun ls hl => ?_)
  refine lv_aload_n hx hb d_MO_close_30 rfl (lv_at hl 2 rfl) ?_
  refine r_get hx hb hC hP i_MO (44) (by decide) rfl rfl 6 (by decide) l_MO_29 rfl d_MO_close_31 ?_
  refine lv_aload_n hx hb d_MO_close_34 rfl (lv_at hl 2 rfl) ?_
  refine r_get hx hb hC hP i_MO (44) (by decide) rfl rfl 8 (by decide) l_MO_58 rfl d_MO_close_35 ?_
  rw [show (su S 44 8 (nI d)) 44 8 = nI d from by rw [su_same]]
  refine r_ild hx hb hC hP (50) (by decide) rfl d rfl (by omega) (by decide) d_MO_close_38 ?_
  rw [show (su S 44 8 (nI d)) 50 d = S 50 d from by rw [su_cell _ _ _ (by decide)]]
  refine lv_istore_n (lv' := [(3, .int (S 50 d)), (2, .int (nI t)), (1, .int 9), (0, .ref (gA G 44))]) hx hb d_MO_close_39 rfl hl (by decide) rfl (fun ls hl => ?_)
  refine lv_iload_n hx hb d_MO_close_40 rfl (lv_at hl 2 rfl) ?_
  refine lv_iconst (v := 3) hx hb d_MO_close_41 (by decide) ?_
  refine lv_icmp_ne (tgt := 117) hx hb d_MO_close_42 (by decide) (fun _ => ?_) (fun h => absurd h (by decide))
  refine lv_iload_n hx hb d_MO_close_117 rfl (lv_at hl 2 rfl) ?_
  refine lv_bipush (v := 10) hx hb d_MO_close_118 (by decide) ?_
  refine lv_icmp_ne (tgt := 154) hx hb d_MO_close_120 (by decide) (fun _ => ?_) (fun h => absurd h (by decide))
  refine lv_iload_n hx hb d_MO_close_154 rfl (lv_at hl 2 rfl) ?_
  refine lv_bipush (v := 14) hx hb d_MO_close_155 (by decide) ?_
  refine lv_icmp_ne (tgt := 181) hx hb d_MO_close_157 (by decide) (fun _ => ?_) (fun h => absurd h (by decide))
  refine lv_iload_n hx hb d_MO_close_181 rfl (lv_at hl 2 rfl) ?_
  refine lv_bipush (v := 9) hx hb d_MO_close_182 (by decide) ?_
  refine lv_icmp_ne (tgt := 256) hx hb d_MO_close_184 (by decide) (fun h => absurd h (by decide)) (fun _ => ?_)
  refine lv_aload_n hx hb d_MO_close_187 rfl (lv_at hl 3 rfl) ?_
  refine r_get hx hb hC hP i_MO (44) (by decide) rfl rfl 11 (by decide) l_MO_92 rfl d_MO_close_188 ?_
  rw [show (su S 44 8 (nI d)) 44 11 = S 44 11 from by rw [su_int _ _ _ (by decide)]]
  refine lv_iconst (v := 4) hx hb d_MO_close_191 (by decide) ?_
  refine lv_icmp_ne (tgt := 203) hx hb d_MO_close_192 (by decide) (fun c_192 => ?_) (fun c_192 => absurd c_192 h4)
  refine lv_iconst (v := (-1)) hx hb d_MO_close_203 (by decide) ?_
  refine lv_istore (lv' := [(4, .int (-1)), (3, .int (S 50 d)), (2, .int (nI t)), (1, .int 9), (0, .ref (gA G 44))]) hx hb d_MO_close_204 hl (by decide) rfl (fun ls hl => ?_)
  refine lv_iload hx hb d_MO_close_206 (lv_at hl 0 rfl) ?_
  refine lv_if_ge (tgt := 219) hx hb d_MO_close_208 (by decide) (fun h => absurd h (by decide)) (fun _ => ?_)
  refine lv_aload_n hx hb d_MO_close_211 rfl (lv_at hl 4 rfl) ?_
  refine lv_iload_n hx hb d_MO_close_212 rfl (lv_at hl 2 rfl) ?_
  refine r_v hC hS (r_runV (np := 1) (As := [.int (nI t)]) (rest := []) hx hb hml hC hP hS (by decide) rfl rfl (m_MO_lastOfC l G (su S 44 8 (nI d)) t nc la P (hT.mv (pop45 S d) (pop46 S d)) d (by omega) (by rw [su_same]) hla) l_MO_152 im_MO_lastOf se_MO_lastOf in_MO c_MO_lastOf_in (by decide +kernel) ⟨by simp only [rmF]; omega, by simp only [rmF]; omega⟩ rfl hl.1 (Nat.le_of_ble_eq_true rfl) d_MO_close_213 ⟨Nat.le_refl _, Nat.le_refl _⟩) (fun S_213 H locs hw hP hS => ?_)
  rw [hw] at hP
  refine lv_goto (tgt := 253) hx hb d_MO_close_216 (by decide) ?_
  refine lv_goto (tgt := 330) hx hb d_MO_close_253 (by decide) ?_
  exact e_v hx hb hr hlk hC hP hS d_MO_close_330 rfl

set_option maxHeartbeats 4000000 in
set_option maxRecDepth 100000 in
theorem m_MO_close_tryFA (l : Launch) (G : WG) (S : SS) (d : Nat) (hd8 : d < 79) (hdp : S 44 8 = nI (d + 1)) (hkd : S 48 d = 9) (t : Nat) (ht : t < 128) (hat : S 49 d = nI t) (hen : S 44 11 = 4) (nc : Nat) (la : Bool) (P : Nat → Nat) (hT : TryAt S t nc la P) (c en : Nat) (hPc : ∀ j, j < nc → P j < 128) (hen7 : en < 700) (hed : S 44 12 = nI en) (hno : ∀ j, j < c → ctF S en P j = false) (hc : c = nc) (hla : la = false) : Cv l y_MO_close b_MO_close 5 5 G [.ref (gA G 44)] S (fun S1 => S1 = moPop S d) := by
  refine mk l (by decide +kernel) (Nat.le_of_ble_eq_true rfl) ?_
  intro pp_ ee_ ss_ mm_ be_ me_ co_ ls hx hb hr hlk hml hC hP hS hl
  have hl : lv_has ls 5 [(0, .ref (gA G 44))] := hl
  refine lv_aload_n hx hb d_MO_close_0 rfl (lv_at hl 0 rfl) ?_
  refine lv_dup hx hb d_MO_close_1 rfl ?_
  refine r_get hx hb hC hP i_MO (44) (by decide) rfl rfl 8 (by decide) l_MO_58 rfl d_MO_close_2 ?_
  rw [show S 44 8 = nI (d + 1) from hdp]
  refine lv_iconst (v := 1) hx hb d_MO_close_5 (by decide) ?_
  refine lv_isub hx hb d_MO_close_6 ?_
  rw [show (nI (d + 1)) - 1 = nI d from nI_pred d]
  refine r_put hx hb hC hP hS i_MO t_MO t_MO_ok n_MO (44) (by decide) rfl rfl 8 (by decide) l_MO_58 rfl rfl rfl (Nat.le_of_ble_eq_true rfl) d_MO_close_7 (fun H locs hP hS => ?_)
  refine lv_aload_n hx hb d_MO_close_10 rfl (lv_at hl 0 rfl) ?_
  refine r_get hx hb hC hP i_MO (44) (by decide) rfl rfl 4 (by decide) l_MO_23 rfl d_MO_close_11 ?_
  refine lv_aload_n hx hb d_MO_close_14 rfl (lv_at hl 0 rfl) ?_
  refine r_get hx hb hC hP i_MO (44) (by decide) rfl rfl 8 (by decide) l_MO_58 rfl d_MO_close_15 ?_
  rw [show (su S 44 8 (nI d)) 44 8 = nI d from by rw [su_same]]
  refine r_ild hx hb hC hP (48) (by decide) rfl d rfl (by omega) (by decide) d_MO_close_18 ?_
  rw [show (su S 44 8 (nI d)) 48 d = S 48 d from by rw [su_cell _ _ _ (by decide)]]
  rw [show S 48 d = 9 from hkd]
  refine lv_istore_n (lv' := [(1, .int 9), (0, .ref (gA G 44))]) hx hb d_MO_close_19 rfl hl (by decide) rfl (fun ls hl => ?_)
  refine lv_aload_n hx hb d_MO_close_20 rfl (lv_at hl 1 rfl) ?_
  refine r_get hx hb hC hP i_MO (44) (by decide) rfl rfl 5 (by decide) l_MO_26 rfl d_MO_close_21 ?_
  refine lv_aload_n hx hb d_MO_close_24 rfl (lv_at hl 1 rfl) ?_
  refine r_get hx hb hC hP i_MO (44) (by decide) rfl rfl 8 (by decide) l_MO_58 rfl d_MO_close_25 ?_
  rw [show (su S 44 8 (nI d)) 44 8 = nI d from by rw [su_same]]
  refine r_ild hx hb hC hP (49) (by decide) rfl d rfl (by omega) (by decide) d_MO_close_28 ?_
  rw [show (su S 44 8 (nI d)) 49 d = S 49 d from by rw [su_cell _ _ _ (by decide)]]
  rw [show S 49 d = nI t from hat]
  refine lv_istore_n (lv' := [(2, .int (nI t)), (1, .int 9), (0, .ref (gA G 44))]) hx hb d_MO_close_29 rfl hl (by decide) rfl (fun ls hl => ?_)
  refine lv_aload_n hx hb d_MO_close_30 rfl (lv_at hl 2 rfl) ?_
  refine r_get hx hb hC hP i_MO (44) (by decide) rfl rfl 6 (by decide) l_MO_29 rfl d_MO_close_31 ?_
  refine lv_aload_n hx hb d_MO_close_34 rfl (lv_at hl 2 rfl) ?_
  refine r_get hx hb hC hP i_MO (44) (by decide) rfl rfl 8 (by decide) l_MO_58 rfl d_MO_close_35 ?_
  rw [show (su S 44 8 (nI d)) 44 8 = nI d from by rw [su_same]]
  refine r_ild hx hb hC hP (50) (by decide) rfl d rfl (by omega) (by decide) d_MO_close_38 ?_
  rw [show (su S 44 8 (nI d)) 50 d = S 50 d from by rw [su_cell _ _ _ (by decide)]]
  refine lv_istore_n (lv' := [(3, .int (S 50 d)), (2, .int (nI t)), (1, .int 9), (0, .ref (gA G 44))]) hx hb d_MO_close_39 rfl hl (by decide) rfl (fun ls hl => ?_)
  refine lv_iload_n hx hb d_MO_close_40 rfl (lv_at hl 2 rfl) ?_
  refine lv_iconst (v := 3) hx hb d_MO_close_41 (by decide) ?_
  refine lv_icmp_ne (tgt := 117) hx hb d_MO_close_42 (by decide) (fun _ => ?_) (fun h => absurd h (by decide))
  refine lv_iload_n hx hb d_MO_close_117 rfl (lv_at hl 2 rfl) ?_
  refine lv_bipush (v := 10) hx hb d_MO_close_118 (by decide) ?_
  refine lv_icmp_ne (tgt := 154) hx hb d_MO_close_120 (by decide) (fun _ => ?_) (fun h => absurd h (by decide))
  refine lv_iload_n hx hb d_MO_close_154 rfl (lv_at hl 2 rfl) ?_
  refine lv_bipush (v := 14) hx hb d_MO_close_155 (by decide) ?_
  refine lv_icmp_ne (tgt := 181) hx hb d_MO_close_157 (by decide) (fun _ => ?_) (fun h => absurd h (by decide))
  refine lv_iload_n hx hb d_MO_close_181 rfl (lv_at hl 2 rfl) ?_
  refine lv_bipush (v := 9) hx hb d_MO_close_182 (by decide) ?_
  refine lv_icmp_ne (tgt := 256) hx hb d_MO_close_184 (by decide) (fun h => absurd h (by decide)) (fun _ => ?_)
  refine lv_aload_n hx hb d_MO_close_187 rfl (lv_at hl 3 rfl) ?_
  refine r_get hx hb hC hP i_MO (44) (by decide) rfl rfl 11 (by decide) l_MO_92 rfl d_MO_close_188 ?_
  rw [show (su S 44 8 (nI d)) 44 11 = S 44 11 from by rw [su_int _ _ _ (by decide)]]
  rw [show S 44 11 = 4 from hen]
  refine lv_iconst (v := 4) hx hb d_MO_close_191 (by decide) ?_
  refine lv_icmp_ne (tgt := 203) hx hb d_MO_close_192 (by decide) (fun h => absurd h (by decide)) (fun _ => ?_)
  refine lv_aload_n hx hb d_MO_close_195 rfl (lv_at hl 3 rfl) ?_
  refine lv_iload_n hx hb d_MO_close_196 rfl (lv_at hl 1 rfl) ?_
  refine r_i hC hS (r_runV (np := 1) (As := [.int (nI t)]) (rest := []) hx hb hml hC hP hS (by decide) rfl rfl (m_MO_catcher l G (su S 44 8 (nI d)) t nc c en la P (hT.mv (pop45 S d) (pop46 S d)) hPc (by omega) (by rw [su_int _ _ _ (by decide)]; exact hed) (by omega) (fun j hj => hno j hj) (fun h => absurd h (by omega))) l_MO_149 im_MO_catcher se_MO_catcher in_MO c_MO_catcher_in (by decide +kernel) ⟨by simp only [rmF]; omega, by simp only [rmF]; omega⟩ rfl hl.1 (Nat.le_of_ble_eq_true rfl) d_MO_close_197 ⟨Nat.le_refl _, Nat.le_refl _⟩) (fun r_197 S_197 H locs hw hP hS => ?_)
  obtain ⟨rfl, hSe⟩ := hw
  rw [hSe] at hP
  rw [if_neg (by omega)]
  refine lv_goto (tgt := 204) hx hb d_MO_close_200 (by decide) ?_
  refine lv_istore (lv' := [(4, .int (-1)), (3, .int (S 50 d)), (2, .int (nI t)), (1, .int 9), (0, .ref (gA G 44))]) hx hb d_MO_close_204 hl (by decide) rfl (fun ls hl => ?_)
  refine lv_iload hx hb d_MO_close_206 (lv_at hl 0 rfl) ?_
  refine lv_if_ge (tgt := 219) hx hb d_MO_close_208 (by decide) (fun h => absurd h (by decide)) (fun _ => ?_)
  refine lv_aload_n hx hb d_MO_close_211 rfl (lv_at hl 4 rfl) ?_
  refine lv_iload_n hx hb d_MO_close_212 rfl (lv_at hl 2 rfl) ?_
  refine r_v hC hS (r_runV (np := 1) (As := [.int (nI t)]) (rest := []) hx hb hml hC hP hS (by decide) rfl rfl (m_MO_lastOfA l G (su S 44 8 (nI d)) t nc la P (hT.mv (pop45 S d) (pop46 S d)) hla (by rw [su_int _ _ _ (by decide), hen]; decide)) l_MO_152 im_MO_lastOf se_MO_lastOf in_MO c_MO_lastOf_in (by decide +kernel) ⟨by simp only [rmF]; omega, by simp only [rmF]; omega⟩ rfl hl.1 (Nat.le_of_ble_eq_true rfl) d_MO_close_213 ⟨Nat.le_refl _, Nat.le_refl _⟩) (fun S_213 H locs hw hP hS => ?_)
  rw [hw] at hP
  refine lv_goto (tgt := 253) hx hb d_MO_close_216 (by decide) ?_
  refine lv_goto (tgt := 330) hx hb d_MO_close_253 (by decide) ?_
  exact e_v hx hb hr hlk hC hP hS d_MO_close_330 rfl

set_option maxHeartbeats 4000000 in
set_option maxRecDepth 100000 in
theorem m_MO_close_tryFC (l : Launch) (G : WG) (S : SS) (d : Nat) (hd8 : d < 79) (hdp : S 44 8 = nI (d + 1)) (hkd : S 48 d = 9) (t : Nat) (ht : t < 128) (hat : S 49 d = nI t) (hen : S 44 11 = 4) (nc : Nat) (la : Bool) (P : Nat → Nat) (hT : TryAt S t nc la P) (c en : Nat) (hPc : ∀ j, j < nc → P j < 128) (hen7 : en < 700) (hed : S 44 12 = nI en) (hno : ∀ j, j < c → ctF S en P j = false) (hc : c = nc) (hla : la = true) : Cv l y_MO_close b_MO_close 5 5 G [.ref (gA G 44)] S (fun S1 => S1 = moLast (moPop S d) d t (P nc)) := by
  refine mk l (by decide +kernel) (Nat.le_of_ble_eq_true rfl) ?_
  intro pp_ ee_ ss_ mm_ be_ me_ co_ ls hx hb hr hlk hml hC hP hS hl
  have hl : lv_has ls 5 [(0, .ref (gA G 44))] := hl
  refine lv_aload_n hx hb d_MO_close_0 rfl (lv_at hl 0 rfl) ?_
  refine lv_dup hx hb d_MO_close_1 rfl ?_
  refine r_get hx hb hC hP i_MO (44) (by decide) rfl rfl 8 (by decide) l_MO_58 rfl d_MO_close_2 ?_
  rw [show S 44 8 = nI (d + 1) from hdp]
  refine lv_iconst (v := 1) hx hb d_MO_close_5 (by decide) ?_
  refine lv_isub hx hb d_MO_close_6 ?_
  rw [show (nI (d + 1)) - 1 = nI d from nI_pred d]
  refine r_put hx hb hC hP hS i_MO t_MO t_MO_ok n_MO (44) (by decide) rfl rfl 8 (by decide) l_MO_58 rfl rfl rfl (Nat.le_of_ble_eq_true rfl) d_MO_close_7 (fun H locs hP hS => ?_)
  refine lv_aload_n hx hb d_MO_close_10 rfl (lv_at hl 0 rfl) ?_
  refine r_get hx hb hC hP i_MO (44) (by decide) rfl rfl 4 (by decide) l_MO_23 rfl d_MO_close_11 ?_
  refine lv_aload_n hx hb d_MO_close_14 rfl (lv_at hl 0 rfl) ?_
  refine r_get hx hb hC hP i_MO (44) (by decide) rfl rfl 8 (by decide) l_MO_58 rfl d_MO_close_15 ?_
  rw [show (su S 44 8 (nI d)) 44 8 = nI d from by rw [su_same]]
  refine r_ild hx hb hC hP (48) (by decide) rfl d rfl (by omega) (by decide) d_MO_close_18 ?_
  rw [show (su S 44 8 (nI d)) 48 d = S 48 d from by rw [su_cell _ _ _ (by decide)]]
  rw [show S 48 d = 9 from hkd]
  refine lv_istore_n (lv' := [(1, .int 9), (0, .ref (gA G 44))]) hx hb d_MO_close_19 rfl hl (by decide) rfl (fun ls hl => ?_)
  refine lv_aload_n hx hb d_MO_close_20 rfl (lv_at hl 1 rfl) ?_
  refine r_get hx hb hC hP i_MO (44) (by decide) rfl rfl 5 (by decide) l_MO_26 rfl d_MO_close_21 ?_
  refine lv_aload_n hx hb d_MO_close_24 rfl (lv_at hl 1 rfl) ?_
  refine r_get hx hb hC hP i_MO (44) (by decide) rfl rfl 8 (by decide) l_MO_58 rfl d_MO_close_25 ?_
  rw [show (su S 44 8 (nI d)) 44 8 = nI d from by rw [su_same]]
  refine r_ild hx hb hC hP (49) (by decide) rfl d rfl (by omega) (by decide) d_MO_close_28 ?_
  rw [show (su S 44 8 (nI d)) 49 d = S 49 d from by rw [su_cell _ _ _ (by decide)]]
  rw [show S 49 d = nI t from hat]
  refine lv_istore_n (lv' := [(2, .int (nI t)), (1, .int 9), (0, .ref (gA G 44))]) hx hb d_MO_close_29 rfl hl (by decide) rfl (fun ls hl => ?_)
  refine lv_aload_n hx hb d_MO_close_30 rfl (lv_at hl 2 rfl) ?_
  refine r_get hx hb hC hP i_MO (44) (by decide) rfl rfl 6 (by decide) l_MO_29 rfl d_MO_close_31 ?_
  refine lv_aload_n hx hb d_MO_close_34 rfl (lv_at hl 2 rfl) ?_
  refine r_get hx hb hC hP i_MO (44) (by decide) rfl rfl 8 (by decide) l_MO_58 rfl d_MO_close_35 ?_
  rw [show (su S 44 8 (nI d)) 44 8 = nI d from by rw [su_same]]
  refine r_ild hx hb hC hP (50) (by decide) rfl d rfl (by omega) (by decide) d_MO_close_38 ?_
  rw [show (su S 44 8 (nI d)) 50 d = S 50 d from by rw [su_cell _ _ _ (by decide)]]
  refine lv_istore_n (lv' := [(3, .int (S 50 d)), (2, .int (nI t)), (1, .int 9), (0, .ref (gA G 44))]) hx hb d_MO_close_39 rfl hl (by decide) rfl (fun ls hl => ?_)
  refine lv_iload_n hx hb d_MO_close_40 rfl (lv_at hl 2 rfl) ?_
  refine lv_iconst (v := 3) hx hb d_MO_close_41 (by decide) ?_
  refine lv_icmp_ne (tgt := 117) hx hb d_MO_close_42 (by decide) (fun _ => ?_) (fun h => absurd h (by decide))
  refine lv_iload_n hx hb d_MO_close_117 rfl (lv_at hl 2 rfl) ?_
  refine lv_bipush (v := 10) hx hb d_MO_close_118 (by decide) ?_
  refine lv_icmp_ne (tgt := 154) hx hb d_MO_close_120 (by decide) (fun _ => ?_) (fun h => absurd h (by decide))
  refine lv_iload_n hx hb d_MO_close_154 rfl (lv_at hl 2 rfl) ?_
  refine lv_bipush (v := 14) hx hb d_MO_close_155 (by decide) ?_
  refine lv_icmp_ne (tgt := 181) hx hb d_MO_close_157 (by decide) (fun _ => ?_) (fun h => absurd h (by decide))
  refine lv_iload_n hx hb d_MO_close_181 rfl (lv_at hl 2 rfl) ?_
  refine lv_bipush (v := 9) hx hb d_MO_close_182 (by decide) ?_
  refine lv_icmp_ne (tgt := 256) hx hb d_MO_close_184 (by decide) (fun h => absurd h (by decide)) (fun _ => ?_)
  refine lv_aload_n hx hb d_MO_close_187 rfl (lv_at hl 3 rfl) ?_
  refine r_get hx hb hC hP i_MO (44) (by decide) rfl rfl 11 (by decide) l_MO_92 rfl d_MO_close_188 ?_
  rw [show (su S 44 8 (nI d)) 44 11 = S 44 11 from by rw [su_int _ _ _ (by decide)]]
  rw [show S 44 11 = 4 from hen]
  refine lv_iconst (v := 4) hx hb d_MO_close_191 (by decide) ?_
  refine lv_icmp_ne (tgt := 203) hx hb d_MO_close_192 (by decide) (fun h => absurd h (by decide)) (fun _ => ?_)
  refine lv_aload_n hx hb d_MO_close_195 rfl (lv_at hl 3 rfl) ?_
  refine lv_iload_n hx hb d_MO_close_196 rfl (lv_at hl 1 rfl) ?_
  refine r_i hC hS (r_runV (np := 1) (As := [.int (nI t)]) (rest := []) hx hb hml hC hP hS (by decide) rfl rfl (m_MO_catcher l G (su S 44 8 (nI d)) t nc c en la P (hT.mv (pop45 S d) (pop46 S d)) hPc (by omega) (by rw [su_int _ _ _ (by decide)]; exact hed) (by omega) (fun j hj => hno j hj) (fun h => absurd h (by omega))) l_MO_149 im_MO_catcher se_MO_catcher in_MO c_MO_catcher_in (by decide +kernel) ⟨by simp only [rmF]; omega, by simp only [rmF]; omega⟩ rfl hl.1 (Nat.le_of_ble_eq_true rfl) d_MO_close_197 ⟨Nat.le_refl _, Nat.le_refl _⟩) (fun r_197 S_197 H locs hw hP hS => ?_)
  obtain ⟨rfl, hSe⟩ := hw
  rw [hSe] at hP
  rw [if_neg (by omega)]
  refine lv_goto (tgt := 204) hx hb d_MO_close_200 (by decide) ?_
  refine lv_istore (lv' := [(4, .int (-1)), (3, .int (S 50 d)), (2, .int (nI t)), (1, .int 9), (0, .ref (gA G 44))]) hx hb d_MO_close_204 hl (by decide) rfl (fun ls hl => ?_)
  refine lv_iload hx hb d_MO_close_206 (lv_at hl 0 rfl) ?_
  refine lv_if_ge (tgt := 219) hx hb d_MO_close_208 (by decide) (fun h => absurd h (by decide)) (fun _ => ?_)
  refine lv_aload_n hx hb d_MO_close_211 rfl (lv_at hl 4 rfl) ?_
  refine lv_iload_n hx hb d_MO_close_212 rfl (lv_at hl 2 rfl) ?_
  refine r_v hC hS (r_runV (np := 1) (As := [.int (nI t)]) (rest := []) hx hb hml hC hP hS (by decide) rfl rfl (m_MO_lastOfC l G (su S 44 8 (nI d)) t nc la P (hT.mv (pop45 S d) (pop46 S d)) d (by omega) (by rw [su_same]) hla) l_MO_152 im_MO_lastOf se_MO_lastOf in_MO c_MO_lastOf_in (by decide +kernel) ⟨by simp only [rmF]; omega, by simp only [rmF]; omega⟩ rfl hl.1 (Nat.le_of_ble_eq_true rfl) d_MO_close_213 ⟨Nat.le_refl _, Nat.le_refl _⟩) (fun S_213 H locs hw hP hS => ?_)
  rw [hw] at hP
  refine lv_goto (tgt := 253) hx hb d_MO_close_216 (by decide) ?_
  refine lv_goto (tgt := 330) hx hb d_MO_close_253 (by decide) ?_
  exact e_v hx hb hr hlk hC hP hS d_MO_close_330 rfl

def moCatch (S : SS) (d t : Nat) (p : Nat) : SS := su (moEnter (su (moPop S d) 44 11 0) d 16 (nI p) (S 44 12)) 51 d (nI t)
set_option maxHeartbeats 4000000 in
set_option maxRecDepth 100000 in
theorem m_MO_close_caught (l : Launch) (G : WG) (S : SS) (d : Nat) (hd8 : d < 79) (hdp : S 44 8 = nI (d + 1)) (hkd : S 48 d = 9) (t : Nat) (ht : t < 128) (hat : S 49 d = nI t) (hen : S 44 11 = 4) (nc : Nat) (la : Bool) (P : Nat → Nat) (hT : TryAt S t nc la P) (c en : Nat) (hPc : ∀ j, j < nc → P j < 128) (hen7 : en < 700) (hed : S 44 12 = nI en) (hno : ∀ j, j < c → ctF S en P j = false) (hc : c < nc) (hyes : ctF S en P c = true) : Cv l y_MO_close b_MO_close 5 5 G [.ref (gA G 44)] S (fun S1 => S1 = moCatch S d t (P c)) := by
  obtain ⟨_, hnc4, hnc, hla4, h0, hs, hP9⟩ := id hT
  refine mk l (by decide +kernel) (Nat.le_of_ble_eq_true rfl) ?_
  intro pp_ ee_ ss_ mm_ be_ me_ co_ ls hx hb hr hlk hml hC hP hS hl
  have hl : lv_has ls 5 [(0, .ref (gA G 44))] := hl
  refine lv_aload_n hx hb d_MO_close_0 rfl (lv_at hl 0 rfl) ?_
  refine lv_dup hx hb d_MO_close_1 rfl ?_
  refine r_get hx hb hC hP i_MO (44) (by decide) rfl rfl 8 (by decide) l_MO_58 rfl d_MO_close_2 ?_
  rw [show S 44 8 = nI (d + 1) from hdp]
  refine lv_iconst (v := 1) hx hb d_MO_close_5 (by decide) ?_
  refine lv_isub hx hb d_MO_close_6 ?_
  rw [show (nI (d + 1)) - 1 = nI d from nI_pred d]
  refine r_put hx hb hC hP hS i_MO t_MO t_MO_ok n_MO (44) (by decide) rfl rfl 8 (by decide) l_MO_58 rfl rfl rfl (Nat.le_of_ble_eq_true rfl) d_MO_close_7 (fun H locs hP hS => ?_)
  refine lv_aload_n hx hb d_MO_close_10 rfl (lv_at hl 0 rfl) ?_
  refine r_get hx hb hC hP i_MO (44) (by decide) rfl rfl 4 (by decide) l_MO_23 rfl d_MO_close_11 ?_
  refine lv_aload_n hx hb d_MO_close_14 rfl (lv_at hl 0 rfl) ?_
  refine r_get hx hb hC hP i_MO (44) (by decide) rfl rfl 8 (by decide) l_MO_58 rfl d_MO_close_15 ?_
  rw [show (su S 44 8 (nI d)) 44 8 = nI d from by rw [su_same]]
  refine r_ild hx hb hC hP (48) (by decide) rfl d rfl (by omega) (by decide) d_MO_close_18 ?_
  rw [show (su S 44 8 (nI d)) 48 d = S 48 d from by rw [su_cell _ _ _ (by decide)]]
  rw [show S 48 d = 9 from hkd]
  refine lv_istore_n (lv' := [(1, .int 9), (0, .ref (gA G 44))]) hx hb d_MO_close_19 rfl hl (by decide) rfl (fun ls hl => ?_)
  refine lv_aload_n hx hb d_MO_close_20 rfl (lv_at hl 1 rfl) ?_
  refine r_get hx hb hC hP i_MO (44) (by decide) rfl rfl 5 (by decide) l_MO_26 rfl d_MO_close_21 ?_
  refine lv_aload_n hx hb d_MO_close_24 rfl (lv_at hl 1 rfl) ?_
  refine r_get hx hb hC hP i_MO (44) (by decide) rfl rfl 8 (by decide) l_MO_58 rfl d_MO_close_25 ?_
  rw [show (su S 44 8 (nI d)) 44 8 = nI d from by rw [su_same]]
  refine r_ild hx hb hC hP (49) (by decide) rfl d rfl (by omega) (by decide) d_MO_close_28 ?_
  rw [show (su S 44 8 (nI d)) 49 d = S 49 d from by rw [su_cell _ _ _ (by decide)]]
  rw [show S 49 d = nI t from hat]
  refine lv_istore_n (lv' := [(2, .int (nI t)), (1, .int 9), (0, .ref (gA G 44))]) hx hb d_MO_close_29 rfl hl (by decide) rfl (fun ls hl => ?_)
  refine lv_aload_n hx hb d_MO_close_30 rfl (lv_at hl 2 rfl) ?_
  refine r_get hx hb hC hP i_MO (44) (by decide) rfl rfl 6 (by decide) l_MO_29 rfl d_MO_close_31 ?_
  refine lv_aload_n hx hb d_MO_close_34 rfl (lv_at hl 2 rfl) ?_
  refine r_get hx hb hC hP i_MO (44) (by decide) rfl rfl 8 (by decide) l_MO_58 rfl d_MO_close_35 ?_
  rw [show (su S 44 8 (nI d)) 44 8 = nI d from by rw [su_same]]
  refine r_ild hx hb hC hP (50) (by decide) rfl d rfl (by omega) (by decide) d_MO_close_38 ?_
  rw [show (su S 44 8 (nI d)) 50 d = S 50 d from by rw [su_cell _ _ _ (by decide)]]
  refine lv_istore_n (lv' := [(3, .int (S 50 d)), (2, .int (nI t)), (1, .int 9), (0, .ref (gA G 44))]) hx hb d_MO_close_39 rfl hl (by decide) rfl (fun ls hl => ?_)
  refine lv_iload_n hx hb d_MO_close_40 rfl (lv_at hl 2 rfl) ?_
  refine lv_iconst (v := 3) hx hb d_MO_close_41 (by decide) ?_
  refine lv_icmp_ne (tgt := 117) hx hb d_MO_close_42 (by decide) (fun _ => ?_) (fun h => absurd h (by decide))
  refine lv_iload_n hx hb d_MO_close_117 rfl (lv_at hl 2 rfl) ?_
  refine lv_bipush (v := 10) hx hb d_MO_close_118 (by decide) ?_
  refine lv_icmp_ne (tgt := 154) hx hb d_MO_close_120 (by decide) (fun _ => ?_) (fun h => absurd h (by decide))
  refine lv_iload_n hx hb d_MO_close_154 rfl (lv_at hl 2 rfl) ?_
  refine lv_bipush (v := 14) hx hb d_MO_close_155 (by decide) ?_
  refine lv_icmp_ne (tgt := 181) hx hb d_MO_close_157 (by decide) (fun _ => ?_) (fun h => absurd h (by decide))
  refine lv_iload_n hx hb d_MO_close_181 rfl (lv_at hl 2 rfl) ?_
  refine lv_bipush (v := 9) hx hb d_MO_close_182 (by decide) ?_
  refine lv_icmp_ne (tgt := 256) hx hb d_MO_close_184 (by decide) (fun h => absurd h (by decide)) (fun _ => ?_)
  refine lv_aload_n hx hb d_MO_close_187 rfl (lv_at hl 3 rfl) ?_
  refine r_get hx hb hC hP i_MO (44) (by decide) rfl rfl 11 (by decide) l_MO_92 rfl d_MO_close_188 ?_
  rw [show (su S 44 8 (nI d)) 44 11 = S 44 11 from by rw [su_int _ _ _ (by decide)]]
  rw [show S 44 11 = 4 from hen]
  refine lv_iconst (v := 4) hx hb d_MO_close_191 (by decide) ?_
  refine lv_icmp_ne (tgt := 203) hx hb d_MO_close_192 (by decide) (fun h => absurd h (by decide)) (fun _ => ?_)
  refine lv_aload_n hx hb d_MO_close_195 rfl (lv_at hl 3 rfl) ?_
  refine lv_iload_n hx hb d_MO_close_196 rfl (lv_at hl 1 rfl) ?_
  refine r_i hC hS (r_runV (np := 1) (As := [.int (nI t)]) (rest := []) hx hb hml hC hP hS (by decide) rfl rfl (m_MO_catcher l G (su S 44 8 (nI d)) t nc c en la P (hT.mv (pop45 S d) (pop46 S d)) hPc (by omega) (by rw [su_int _ _ _ (by decide)]; exact hed) (by omega) (fun j hj => hno j hj) (fun _ => hyes)) l_MO_149 im_MO_catcher se_MO_catcher in_MO c_MO_catcher_in (by decide +kernel) ⟨by simp only [rmF]; omega, by simp only [rmF]; omega⟩ rfl hl.1 (Nat.le_of_ble_eq_true rfl) d_MO_close_197 ⟨Nat.le_refl _, Nat.le_refl _⟩) (fun r_197 S_197 H locs hw hP hS => ?_)
  obtain ⟨rfl, hSe⟩ := hw
  rw [hSe] at hP
  rw [if_pos (by omega)]
  refine lv_goto (tgt := 204) hx hb d_MO_close_200 (by decide) ?_
  refine lv_istore (lv' := [(4, .int (nI c)), (3, .int (S 50 d)), (2, .int (nI t)), (1, .int 9), (0, .ref (gA G 44))]) hx hb d_MO_close_204 hl (by decide) rfl (fun ls hl => ?_)
  refine lv_iload hx hb d_MO_close_206 (lv_at hl 0 rfl) ?_
  refine lv_if_ge (tgt := 219) hx hb d_MO_close_208 (by decide) (fun c_208 => ?_) (fun c_208 => absurd (show 0 ≤ c by omega) (fun h => c_208 ((q_le (a := 0) (b := c) rfl rfl (by omega) (by omega)).mpr h)))
  refine lv_aload_n hx hb d_MO_close_219 rfl (lv_at hl 4 rfl) ?_
  refine lv_iconst (v := 0) hx hb d_MO_close_220 (by decide) ?_
  refine r_put hx hb hC hP hS i_MO t_MO t_MO_ok n_MO (44) (by decide) rfl rfl 11 (by decide) l_MO_92 rfl rfl rfl (Nat.le_of_ble_eq_true rfl) d_MO_close_221 (fun H locs hP hS => ?_)
  refine lv_aload_n hx hb d_MO_close_224 rfl (lv_at hl 4 rfl) ?_
  refine lv_bipush (v := 16) hx hb d_MO_close_225 (by decide) ?_
  refine lv_aload_n hx hb d_MO_close_227 rfl (lv_at hl 4 rfl) ?_
  refine lv_iload_n hx hb d_MO_close_228 rfl (lv_at hl 2 rfl) ?_
  refine lv_iload hx hb d_MO_close_229 (lv_at hl 0 rfl) ?_
  refine r_i hC hS (r_runV (np := 2) (As := [.int (nI t), .int (nI c)]) (rest := [.int 16, .ref (gA G 44)]) hx hb hml hC hP hS (by decide) rfl rfl (m_MO_part l G (su (su S 44 8 (nI d)) 44 11 0) t c P (by omega) (by omega) (by rw [su_cell _ _ _ (by decide), su_cell _ _ _ (by decide)]; exact h0) (fun j2 hj2 => by rw [su_cell _ _ _ (by decide), su_cell _ _ _ (by decide)]; exact hs j2 (by omega)) (fun j2 hj2 => hP9 j2 (by omega))) l_MO_82 im_MO_part se_MO_part in_MO c_MO_part_in (by decide +kernel) ⟨by simp only [rmF]; omega, by simp only [rmF]; omega⟩ rfl hl.1 (Nat.le_of_ble_eq_true rfl) d_MO_close_231 ⟨Nat.le_refl _, Nat.le_refl _⟩) (fun r_231 S_231 H locs hw hP hS => ?_)
  obtain ⟨rfl, hSe⟩ := hw
  rw [hSe] at hP
  refine lv_aload_n hx hb d_MO_close_234 rfl (lv_at hl 4 rfl) ?_
  refine r_get hx hb hC hP i_MO (44) (by decide) rfl rfl 12 (by decide) l_MO_95 rfl d_MO_close_235 ?_
  rw [show (su (su S 44 8 (nI d)) 44 11 0) 44 12 = S 44 12 from by rw [su_int _ _ _ (by decide), su_int _ _ _ (by decide)]]
  refine r_v hC hS (r_runV (np := 3) (As := [.int 16, .int (nI (P c)), .int (S 44 12)]) (rest := []) hx hb hml hC hP hS (by decide) rfl rfl (m_MO_enter l G (su (su S 44 8 (nI d)) 44 11 0) d (by omega) (by rw [su_int _ _ _ (by decide), su_same]) 16 (nI (P c)) (S 44 12)) l_MO_107 im_MO_enter se_MO_enter in_MO c_MO_enter_in (by decide +kernel) ⟨by simp only [rmF]; omega, by simp only [rmF]; omega⟩ rfl hl.1 (Nat.le_of_ble_eq_true rfl) d_MO_close_238 ⟨Nat.le_refl _, Nat.le_refl _⟩) (fun S_238 H locs hw hP hS => ?_)
  rw [hw] at hP
  refine lv_aload_n hx hb d_MO_close_241 rfl (lv_at hl 4 rfl) ?_
  refine r_get hx hb hC hP i_MO (44) (by decide) rfl rfl 7 (by decide) l_MO_32 rfl d_MO_close_242 ?_
  refine lv_aload_n hx hb d_MO_close_245 rfl (lv_at hl 4 rfl) ?_
  refine r_get hx hb hC hP i_MO (44) (by decide) rfl rfl 8 (by decide) l_MO_58 rfl d_MO_close_246 ?_
  rw [show (moEnter (su (su S 44 8 (nI d)) 44 11 0) d 16 (nI (P c)) (S 44 12)) 44 8 = nI (d + 1) from (moEnter_8 _ _ _ _ _)]
  refine lv_iconst (v := 1) hx hb d_MO_close_249 (by decide) ?_
  refine lv_isub hx hb d_MO_close_250 ?_
  rw [show (nI (d + 1)) - 1 = nI d from nI_pred d]
  refine lv_iload_n hx hb d_MO_close_251 rfl (lv_at hl 2 rfl) ?_
  refine r_ist hx hb hC hP hS (51) (by decide) (fun _ => rfl) d rfl (by omega) (by decide) d_MO_close_252 (fun H locs hP hS => ?_)
  refine lv_goto (tgt := 330) hx hb d_MO_close_253 (by decide) ?_
  exact e_v hx hb hr hlk hC hP hS d_MO_close_330 rfl

set_option maxHeartbeats 4000000 in
set_option maxRecDepth 100000 in
theorem m_MO_close_lastA (l : Launch) (G : WG) (S : SS) (d : Nat) (hd8 : d < 79) (hdp : S 44 8 = nI (d + 1)) (hkd : S 48 d = 17) (t h : Nat) (ht : t < 128) (hh8 : h < 8) (hgo : S 51 d = nI (h + 8 * t)) (hen : ¬ S 44 11 = 0) : Cv l y_MO_close b_MO_close 5 5 G [.ref (gA G 44)] S (fun S1 => S1 = moPop S d) := by
  refine mk l (by decide +kernel) (Nat.le_of_ble_eq_true rfl) ?_
  intro pp_ ee_ ss_ mm_ be_ me_ co_ ls hx hb hr hlk hml hC hP hS hl
  have hl : lv_has ls 5 [(0, .ref (gA G 44))] := hl
  refine lv_aload_n hx hb d_MO_close_0 rfl (lv_at hl 0 rfl) ?_
  refine lv_dup hx hb d_MO_close_1 rfl ?_
  refine r_get hx hb hC hP i_MO (44) (by decide) rfl rfl 8 (by decide) l_MO_58 rfl d_MO_close_2 ?_
  rw [show S 44 8 = nI (d + 1) from hdp]
  refine lv_iconst (v := 1) hx hb d_MO_close_5 (by decide) ?_
  refine lv_isub hx hb d_MO_close_6 ?_
  rw [show (nI (d + 1)) - 1 = nI d from nI_pred d]
  refine r_put hx hb hC hP hS i_MO t_MO t_MO_ok n_MO (44) (by decide) rfl rfl 8 (by decide) l_MO_58 rfl rfl rfl (Nat.le_of_ble_eq_true rfl) d_MO_close_7 (fun H locs hP hS => ?_)
  refine lv_aload_n hx hb d_MO_close_10 rfl (lv_at hl 0 rfl) ?_
  refine r_get hx hb hC hP i_MO (44) (by decide) rfl rfl 4 (by decide) l_MO_23 rfl d_MO_close_11 ?_
  refine lv_aload_n hx hb d_MO_close_14 rfl (lv_at hl 0 rfl) ?_
  refine r_get hx hb hC hP i_MO (44) (by decide) rfl rfl 8 (by decide) l_MO_58 rfl d_MO_close_15 ?_
  rw [show (su S 44 8 (nI d)) 44 8 = nI d from by rw [su_same]]
  refine r_ild hx hb hC hP (48) (by decide) rfl d rfl (by omega) (by decide) d_MO_close_18 ?_
  rw [show (su S 44 8 (nI d)) 48 d = S 48 d from by rw [su_cell _ _ _ (by decide)]]
  rw [show S 48 d = 17 from hkd]
  refine lv_istore_n (lv' := [(1, .int 17), (0, .ref (gA G 44))]) hx hb d_MO_close_19 rfl hl (by decide) rfl (fun ls hl => ?_)
  refine lv_aload_n hx hb d_MO_close_20 rfl (lv_at hl 1 rfl) ?_
  refine r_get hx hb hC hP i_MO (44) (by decide) rfl rfl 5 (by decide) l_MO_26 rfl d_MO_close_21 ?_
  refine lv_aload_n hx hb d_MO_close_24 rfl (lv_at hl 1 rfl) ?_
  refine r_get hx hb hC hP i_MO (44) (by decide) rfl rfl 8 (by decide) l_MO_58 rfl d_MO_close_25 ?_
  rw [show (su S 44 8 (nI d)) 44 8 = nI d from by rw [su_same]]
  refine r_ild hx hb hC hP (49) (by decide) rfl d rfl (by omega) (by decide) d_MO_close_28 ?_
  rw [show (su S 44 8 (nI d)) 49 d = S 49 d from by rw [su_cell _ _ _ (by decide)]]
  refine lv_istore_n (lv' := [(2, .int (S 49 d)), (1, .int 17), (0, .ref (gA G 44))]) hx hb d_MO_close_29 rfl hl (by decide) rfl (fun ls hl => ?_)
  refine lv_aload_n hx hb d_MO_close_30 rfl (lv_at hl 2 rfl) ?_
  refine r_get hx hb hC hP i_MO (44) (by decide) rfl rfl 6 (by decide) l_MO_29 rfl d_MO_close_31 ?_
  refine lv_aload_n hx hb d_MO_close_34 rfl (lv_at hl 2 rfl) ?_
  refine r_get hx hb hC hP i_MO (44) (by decide) rfl rfl 8 (by decide) l_MO_58 rfl d_MO_close_35 ?_
  rw [show (su S 44 8 (nI d)) 44 8 = nI d from by rw [su_same]]
  refine r_ild hx hb hC hP (50) (by decide) rfl d rfl (by omega) (by decide) d_MO_close_38 ?_
  rw [show (su S 44 8 (nI d)) 50 d = S 50 d from by rw [su_cell _ _ _ (by decide)]]
  refine lv_istore_n (lv' := [(3, .int (S 50 d)), (2, .int (S 49 d)), (1, .int 17), (0, .ref (gA G 44))]) hx hb d_MO_close_39 rfl hl (by decide) rfl (fun ls hl => ?_)
  refine lv_iload_n hx hb d_MO_close_40 rfl (lv_at hl 2 rfl) ?_
  refine lv_iconst (v := 3) hx hb d_MO_close_41 (by decide) ?_
  refine lv_icmp_ne (tgt := 117) hx hb d_MO_close_42 (by decide) (fun _ => ?_) (fun h => absurd h (by decide))
  refine lv_iload_n hx hb d_MO_close_117 rfl (lv_at hl 2 rfl) ?_
  refine lv_bipush (v := 10) hx hb d_MO_close_118 (by decide) ?_
  refine lv_icmp_ne (tgt := 154) hx hb d_MO_close_120 (by decide) (fun _ => ?_) (fun h => absurd h (by decide))
  refine lv_iload_n hx hb d_MO_close_154 rfl (lv_at hl 2 rfl) ?_
  refine lv_bipush (v := 14) hx hb d_MO_close_155 (by decide) ?_
  refine lv_icmp_ne (tgt := 181) hx hb d_MO_close_157 (by decide) (fun _ => ?_) (fun h => absurd h (by decide))
  refine lv_iload_n hx hb d_MO_close_181 rfl (lv_at hl 2 rfl) ?_
  refine lv_bipush (v := 9) hx hb d_MO_close_182 (by decide) ?_
  refine lv_icmp_ne (tgt := 256) hx hb d_MO_close_184 (by decide) (fun _ => ?_) (fun h => absurd h (by decide))
  refine lv_iload_n hx hb d_MO_close_256 rfl (lv_at hl 2 rfl) ?_
  refine lv_bipush (v := 16) hx hb d_MO_close_257 (by decide) ?_
  refine lv_icmp_ne (tgt := 278) hx hb d_MO_close_259 (by decide) (fun _ => ?_) (fun h => absurd h (by decide))
  refine lv_iload_n hx hb d_MO_close_278 rfl (lv_at hl 2 rfl) ?_
  refine lv_bipush (v := 17) hx hb d_MO_close_279 (by decide) ?_
  refine lv_icmp_ne (tgt := 316) hx hb d_MO_close_281 (by decide) (fun h => absurd h (by decide)) (fun _ => ?_)
  refine lv_aload_n hx hb d_MO_close_284 rfl (lv_at hl 3 rfl) ?_
  refine lv_aload_n hx hb d_MO_close_285 rfl (lv_at hl 3 rfl) ?_
  refine r_get hx hb hC hP i_MO (44) (by decide) rfl rfl 7 (by decide) l_MO_32 rfl d_MO_close_286 ?_
  refine lv_aload_n hx hb d_MO_close_289 rfl (lv_at hl 3 rfl) ?_
  refine r_get hx hb hC hP i_MO (44) (by decide) rfl rfl 8 (by decide) l_MO_58 rfl d_MO_close_290 ?_
  rw [show (su S 44 8 (nI d)) 44 8 = nI d from by rw [su_same]]
  refine r_ild hx hb hC hP (51) (by decide) rfl d rfl (by omega) (by decide) d_MO_close_293 ?_
  rw [show (su S 44 8 (nI d)) 51 d = S 51 d from by rw [su_cell _ _ _ (by decide)]]
  rw [show S 51 d = nI (h + 8 * t) from hgo]
  refine lv_bipush (v := 8) hx hb d_MO_close_294 (by decide) ?_
  refine lv_idiv hx hb d_MO_close_296 (by decide) ?_
  rw [show (nI (h + 8 * t)) / 8 = nI t from (nI_d8 h t hh8 ht)]
  refine lv_aload_n hx hb d_MO_close_297 rfl (lv_at hl 3 rfl) ?_
  refine r_get hx hb hC hP i_MO (44) (by decide) rfl rfl 7 (by decide) l_MO_32 rfl d_MO_close_298 ?_
  refine lv_aload_n hx hb d_MO_close_301 rfl (lv_at hl 3 rfl) ?_
  refine r_get hx hb hC hP i_MO (44) (by decide) rfl rfl 8 (by decide) l_MO_58 rfl d_MO_close_302 ?_
  rw [show (su S 44 8 (nI d)) 44 8 = nI d from by rw [su_same]]
  refine r_ild hx hb hC hP (51) (by decide) rfl d rfl (by omega) (by decide) d_MO_close_305 ?_
  rw [show (su S 44 8 (nI d)) 51 d = S 51 d from by rw [su_cell _ _ _ (by decide)]]
  rw [show S 51 d = nI (h + 8 * t) from hgo]
  refine lv_bipush (v := 8) hx hb d_MO_close_306 (by decide) ?_
  refine lv_irem hx hb d_MO_close_308 (by decide) ?_
  rw [show (nI (h + 8 * t)) - (nI (h + 8 * t)) / 8 * 8 = nI h from (nI_r8 h t hh8 ht)]
  refine lv_iload_n hx hb d_MO_close_309 rfl (lv_at hl 0 rfl) ?_
  refine r_v hC hS (r_runV (np := 3) (As := [.int (nI t), .int (nI h), .int (S 50 d)]) (rest := []) hx hb hml hC hP hS (by decide) rfl rfl (m_MO_closeLastA l G (su S 44 8 (nI d)) t (nI h) (S 50 d) (by rw [su_int _ _ _ (by decide)]; exact hen)) l_MO_155 im_MO_closeLast se_MO_closeLast in_MO c_MO_closeLast_in (by decide +kernel) ⟨by simp only [rmF]; omega, by simp only [rmF]; omega⟩ rfl hl.1 (Nat.le_of_ble_eq_true rfl) d_MO_close_310 ⟨Nat.le_refl _, Nat.le_refl _⟩) (fun S_310 H locs hw hP hS => ?_)
  rw [hw] at hP
  refine lv_goto (tgt := 330) hx hb d_MO_close_313 (by decide) ?_
  exact e_v hx hb hr hlk hC hP hS d_MO_close_330 rfl

set_option maxHeartbeats 4000000 in
set_option maxRecDepth 100000 in
theorem m_MO_close_lastB (l : Launch) (G : WG) (S : SS) (d : Nat) (hd8 : d < 79) (hdp : S 44 8 = nI (d + 1)) (hkd : S 48 d = 17) (t h : Nat) (ht : t < 128) (hh8 : h < 8) (hgo : S 51 d = nI (h + 8 * t)) (hen : S 44 11 = 0) (hh : ¬ nI h = 0) : Cv l y_MO_close b_MO_close 5 5 G [.ref (gA G 44)] S (fun S1 => S1 = moEnds (moPop S d) (nI h) (S 50 d)) := by
  refine mk l (by decide +kernel) (Nat.le_of_ble_eq_true rfl) ?_
  intro pp_ ee_ ss_ mm_ be_ me_ co_ ls hx hb hr hlk hml hC hP hS hl
  have hl : lv_has ls 5 [(0, .ref (gA G 44))] := hl
  refine lv_aload_n hx hb d_MO_close_0 rfl (lv_at hl 0 rfl) ?_
  refine lv_dup hx hb d_MO_close_1 rfl ?_
  refine r_get hx hb hC hP i_MO (44) (by decide) rfl rfl 8 (by decide) l_MO_58 rfl d_MO_close_2 ?_
  rw [show S 44 8 = nI (d + 1) from hdp]
  refine lv_iconst (v := 1) hx hb d_MO_close_5 (by decide) ?_
  refine lv_isub hx hb d_MO_close_6 ?_
  rw [show (nI (d + 1)) - 1 = nI d from nI_pred d]
  refine r_put hx hb hC hP hS i_MO t_MO t_MO_ok n_MO (44) (by decide) rfl rfl 8 (by decide) l_MO_58 rfl rfl rfl (Nat.le_of_ble_eq_true rfl) d_MO_close_7 (fun H locs hP hS => ?_)
  refine lv_aload_n hx hb d_MO_close_10 rfl (lv_at hl 0 rfl) ?_
  refine r_get hx hb hC hP i_MO (44) (by decide) rfl rfl 4 (by decide) l_MO_23 rfl d_MO_close_11 ?_
  refine lv_aload_n hx hb d_MO_close_14 rfl (lv_at hl 0 rfl) ?_
  refine r_get hx hb hC hP i_MO (44) (by decide) rfl rfl 8 (by decide) l_MO_58 rfl d_MO_close_15 ?_
  rw [show (su S 44 8 (nI d)) 44 8 = nI d from by rw [su_same]]
  refine r_ild hx hb hC hP (48) (by decide) rfl d rfl (by omega) (by decide) d_MO_close_18 ?_
  rw [show (su S 44 8 (nI d)) 48 d = S 48 d from by rw [su_cell _ _ _ (by decide)]]
  rw [show S 48 d = 17 from hkd]
  refine lv_istore_n (lv' := [(1, .int 17), (0, .ref (gA G 44))]) hx hb d_MO_close_19 rfl hl (by decide) rfl (fun ls hl => ?_)
  refine lv_aload_n hx hb d_MO_close_20 rfl (lv_at hl 1 rfl) ?_
  refine r_get hx hb hC hP i_MO (44) (by decide) rfl rfl 5 (by decide) l_MO_26 rfl d_MO_close_21 ?_
  refine lv_aload_n hx hb d_MO_close_24 rfl (lv_at hl 1 rfl) ?_
  refine r_get hx hb hC hP i_MO (44) (by decide) rfl rfl 8 (by decide) l_MO_58 rfl d_MO_close_25 ?_
  rw [show (su S 44 8 (nI d)) 44 8 = nI d from by rw [su_same]]
  refine r_ild hx hb hC hP (49) (by decide) rfl d rfl (by omega) (by decide) d_MO_close_28 ?_
  rw [show (su S 44 8 (nI d)) 49 d = S 49 d from by rw [su_cell _ _ _ (by decide)]]
  refine lv_istore_n (lv' := [(2, .int (S 49 d)), (1, .int 17), (0, .ref (gA G 44))]) hx hb d_MO_close_29 rfl hl (by decide) rfl (fun ls hl => ?_)
  refine lv_aload_n hx hb d_MO_close_30 rfl (lv_at hl 2 rfl) ?_
  refine r_get hx hb hC hP i_MO (44) (by decide) rfl rfl 6 (by decide) l_MO_29 rfl d_MO_close_31 ?_
  refine lv_aload_n hx hb d_MO_close_34 rfl (lv_at hl 2 rfl) ?_
  refine r_get hx hb hC hP i_MO (44) (by decide) rfl rfl 8 (by decide) l_MO_58 rfl d_MO_close_35 ?_
  rw [show (su S 44 8 (nI d)) 44 8 = nI d from by rw [su_same]]
  refine r_ild hx hb hC hP (50) (by decide) rfl d rfl (by omega) (by decide) d_MO_close_38 ?_
  rw [show (su S 44 8 (nI d)) 50 d = S 50 d from by rw [su_cell _ _ _ (by decide)]]
  refine lv_istore_n (lv' := [(3, .int (S 50 d)), (2, .int (S 49 d)), (1, .int 17), (0, .ref (gA G 44))]) hx hb d_MO_close_39 rfl hl (by decide) rfl (fun ls hl => ?_)
  refine lv_iload_n hx hb d_MO_close_40 rfl (lv_at hl 2 rfl) ?_
  refine lv_iconst (v := 3) hx hb d_MO_close_41 (by decide) ?_
  refine lv_icmp_ne (tgt := 117) hx hb d_MO_close_42 (by decide) (fun _ => ?_) (fun h => absurd h (by decide))
  refine lv_iload_n hx hb d_MO_close_117 rfl (lv_at hl 2 rfl) ?_
  refine lv_bipush (v := 10) hx hb d_MO_close_118 (by decide) ?_
  refine lv_icmp_ne (tgt := 154) hx hb d_MO_close_120 (by decide) (fun _ => ?_) (fun h => absurd h (by decide))
  refine lv_iload_n hx hb d_MO_close_154 rfl (lv_at hl 2 rfl) ?_
  refine lv_bipush (v := 14) hx hb d_MO_close_155 (by decide) ?_
  refine lv_icmp_ne (tgt := 181) hx hb d_MO_close_157 (by decide) (fun _ => ?_) (fun h => absurd h (by decide))
  refine lv_iload_n hx hb d_MO_close_181 rfl (lv_at hl 2 rfl) ?_
  refine lv_bipush (v := 9) hx hb d_MO_close_182 (by decide) ?_
  refine lv_icmp_ne (tgt := 256) hx hb d_MO_close_184 (by decide) (fun _ => ?_) (fun h => absurd h (by decide))
  refine lv_iload_n hx hb d_MO_close_256 rfl (lv_at hl 2 rfl) ?_
  refine lv_bipush (v := 16) hx hb d_MO_close_257 (by decide) ?_
  refine lv_icmp_ne (tgt := 278) hx hb d_MO_close_259 (by decide) (fun _ => ?_) (fun h => absurd h (by decide))
  refine lv_iload_n hx hb d_MO_close_278 rfl (lv_at hl 2 rfl) ?_
  refine lv_bipush (v := 17) hx hb d_MO_close_279 (by decide) ?_
  refine lv_icmp_ne (tgt := 316) hx hb d_MO_close_281 (by decide) (fun h => absurd h (by decide)) (fun _ => ?_)
  refine lv_aload_n hx hb d_MO_close_284 rfl (lv_at hl 3 rfl) ?_
  refine lv_aload_n hx hb d_MO_close_285 rfl (lv_at hl 3 rfl) ?_
  refine r_get hx hb hC hP i_MO (44) (by decide) rfl rfl 7 (by decide) l_MO_32 rfl d_MO_close_286 ?_
  refine lv_aload_n hx hb d_MO_close_289 rfl (lv_at hl 3 rfl) ?_
  refine r_get hx hb hC hP i_MO (44) (by decide) rfl rfl 8 (by decide) l_MO_58 rfl d_MO_close_290 ?_
  rw [show (su S 44 8 (nI d)) 44 8 = nI d from by rw [su_same]]
  refine r_ild hx hb hC hP (51) (by decide) rfl d rfl (by omega) (by decide) d_MO_close_293 ?_
  rw [show (su S 44 8 (nI d)) 51 d = S 51 d from by rw [su_cell _ _ _ (by decide)]]
  rw [show S 51 d = nI (h + 8 * t) from hgo]
  refine lv_bipush (v := 8) hx hb d_MO_close_294 (by decide) ?_
  refine lv_idiv hx hb d_MO_close_296 (by decide) ?_
  rw [show (nI (h + 8 * t)) / 8 = nI t from (nI_d8 h t hh8 ht)]
  refine lv_aload_n hx hb d_MO_close_297 rfl (lv_at hl 3 rfl) ?_
  refine r_get hx hb hC hP i_MO (44) (by decide) rfl rfl 7 (by decide) l_MO_32 rfl d_MO_close_298 ?_
  refine lv_aload_n hx hb d_MO_close_301 rfl (lv_at hl 3 rfl) ?_
  refine r_get hx hb hC hP i_MO (44) (by decide) rfl rfl 8 (by decide) l_MO_58 rfl d_MO_close_302 ?_
  rw [show (su S 44 8 (nI d)) 44 8 = nI d from by rw [su_same]]
  refine r_ild hx hb hC hP (51) (by decide) rfl d rfl (by omega) (by decide) d_MO_close_305 ?_
  rw [show (su S 44 8 (nI d)) 51 d = S 51 d from by rw [su_cell _ _ _ (by decide)]]
  rw [show S 51 d = nI (h + 8 * t) from hgo]
  refine lv_bipush (v := 8) hx hb d_MO_close_306 (by decide) ?_
  refine lv_irem hx hb d_MO_close_308 (by decide) ?_
  rw [show (nI (h + 8 * t)) - (nI (h + 8 * t)) / 8 * 8 = nI h from (nI_r8 h t hh8 ht)]
  refine lv_iload_n hx hb d_MO_close_309 rfl (lv_at hl 0 rfl) ?_
  refine r_v hC hS (r_runV (np := 3) (As := [.int (nI t), .int (nI h), .int (S 50 d)]) (rest := []) hx hb hml hC hP hS (by decide) rfl rfl (m_MO_closeLastB l G (su S 44 8 (nI d)) t (nI h) (S 50 d) (by rw [su_int _ _ _ (by decide)]; exact hen) hh) l_MO_155 im_MO_closeLast se_MO_closeLast in_MO c_MO_closeLast_in (by decide +kernel) ⟨by simp only [rmF]; omega, by simp only [rmF]; omega⟩ rfl hl.1 (Nat.le_of_ble_eq_true rfl) d_MO_close_310 ⟨Nat.le_refl _, Nat.le_refl _⟩) (fun S_310 H locs hw hP hS => ?_)
  rw [hw] at hP
  refine lv_goto (tgt := 330) hx hb d_MO_close_313 (by decide) ?_
  exact e_v hx hb hr hlk hC hP hS d_MO_close_330 rfl

set_option maxHeartbeats 4000000 in
set_option maxRecDepth 100000 in
theorem m_MO_close_lastC (l : Launch) (G : WG) (S : SS) (d : Nat) (hd8 : d < 79) (hdp : S 44 8 = nI (d + 1)) (hkd : S 48 d = 17) (t : Nat) (ht : t < 128) (hgo : S 51 d = nI (0 + 8 * t)) (nc : Nat) (la : Bool) (P : Nat → Nat) (hT : TryAt S t nc la P) (hen : S 44 11 = 0) : Cv l y_MO_close b_MO_close 5 5 G [.ref (gA G 44)] S (fun S1 => S1 = su (moEnds (moPop S d) 0 (S 50 d)) 44 9 (nI (tryEnd nc la P))) := by
  refine mk l (by decide +kernel) (Nat.le_of_ble_eq_true rfl) ?_
  intro pp_ ee_ ss_ mm_ be_ me_ co_ ls hx hb hr hlk hml hC hP hS hl
  have hl : lv_has ls 5 [(0, .ref (gA G 44))] := hl
  refine lv_aload_n hx hb d_MO_close_0 rfl (lv_at hl 0 rfl) ?_
  refine lv_dup hx hb d_MO_close_1 rfl ?_
  refine r_get hx hb hC hP i_MO (44) (by decide) rfl rfl 8 (by decide) l_MO_58 rfl d_MO_close_2 ?_
  rw [show S 44 8 = nI (d + 1) from hdp]
  refine lv_iconst (v := 1) hx hb d_MO_close_5 (by decide) ?_
  refine lv_isub hx hb d_MO_close_6 ?_
  rw [show (nI (d + 1)) - 1 = nI d from nI_pred d]
  refine r_put hx hb hC hP hS i_MO t_MO t_MO_ok n_MO (44) (by decide) rfl rfl 8 (by decide) l_MO_58 rfl rfl rfl (Nat.le_of_ble_eq_true rfl) d_MO_close_7 (fun H locs hP hS => ?_)
  refine lv_aload_n hx hb d_MO_close_10 rfl (lv_at hl 0 rfl) ?_
  refine r_get hx hb hC hP i_MO (44) (by decide) rfl rfl 4 (by decide) l_MO_23 rfl d_MO_close_11 ?_
  refine lv_aload_n hx hb d_MO_close_14 rfl (lv_at hl 0 rfl) ?_
  refine r_get hx hb hC hP i_MO (44) (by decide) rfl rfl 8 (by decide) l_MO_58 rfl d_MO_close_15 ?_
  rw [show (su S 44 8 (nI d)) 44 8 = nI d from by rw [su_same]]
  refine r_ild hx hb hC hP (48) (by decide) rfl d rfl (by omega) (by decide) d_MO_close_18 ?_
  rw [show (su S 44 8 (nI d)) 48 d = S 48 d from by rw [su_cell _ _ _ (by decide)]]
  rw [show S 48 d = 17 from hkd]
  refine lv_istore_n (lv' := [(1, .int 17), (0, .ref (gA G 44))]) hx hb d_MO_close_19 rfl hl (by decide) rfl (fun ls hl => ?_)
  refine lv_aload_n hx hb d_MO_close_20 rfl (lv_at hl 1 rfl) ?_
  refine r_get hx hb hC hP i_MO (44) (by decide) rfl rfl 5 (by decide) l_MO_26 rfl d_MO_close_21 ?_
  refine lv_aload_n hx hb d_MO_close_24 rfl (lv_at hl 1 rfl) ?_
  refine r_get hx hb hC hP i_MO (44) (by decide) rfl rfl 8 (by decide) l_MO_58 rfl d_MO_close_25 ?_
  rw [show (su S 44 8 (nI d)) 44 8 = nI d from by rw [su_same]]
  refine r_ild hx hb hC hP (49) (by decide) rfl d rfl (by omega) (by decide) d_MO_close_28 ?_
  rw [show (su S 44 8 (nI d)) 49 d = S 49 d from by rw [su_cell _ _ _ (by decide)]]
  refine lv_istore_n (lv' := [(2, .int (S 49 d)), (1, .int 17), (0, .ref (gA G 44))]) hx hb d_MO_close_29 rfl hl (by decide) rfl (fun ls hl => ?_)
  refine lv_aload_n hx hb d_MO_close_30 rfl (lv_at hl 2 rfl) ?_
  refine r_get hx hb hC hP i_MO (44) (by decide) rfl rfl 6 (by decide) l_MO_29 rfl d_MO_close_31 ?_
  refine lv_aload_n hx hb d_MO_close_34 rfl (lv_at hl 2 rfl) ?_
  refine r_get hx hb hC hP i_MO (44) (by decide) rfl rfl 8 (by decide) l_MO_58 rfl d_MO_close_35 ?_
  rw [show (su S 44 8 (nI d)) 44 8 = nI d from by rw [su_same]]
  refine r_ild hx hb hC hP (50) (by decide) rfl d rfl (by omega) (by decide) d_MO_close_38 ?_
  rw [show (su S 44 8 (nI d)) 50 d = S 50 d from by rw [su_cell _ _ _ (by decide)]]
  refine lv_istore_n (lv' := [(3, .int (S 50 d)), (2, .int (S 49 d)), (1, .int 17), (0, .ref (gA G 44))]) hx hb d_MO_close_39 rfl hl (by decide) rfl (fun ls hl => ?_)
  refine lv_iload_n hx hb d_MO_close_40 rfl (lv_at hl 2 rfl) ?_
  refine lv_iconst (v := 3) hx hb d_MO_close_41 (by decide) ?_
  refine lv_icmp_ne (tgt := 117) hx hb d_MO_close_42 (by decide) (fun _ => ?_) (fun h => absurd h (by decide))
  refine lv_iload_n hx hb d_MO_close_117 rfl (lv_at hl 2 rfl) ?_
  refine lv_bipush (v := 10) hx hb d_MO_close_118 (by decide) ?_
  refine lv_icmp_ne (tgt := 154) hx hb d_MO_close_120 (by decide) (fun _ => ?_) (fun h => absurd h (by decide))
  refine lv_iload_n hx hb d_MO_close_154 rfl (lv_at hl 2 rfl) ?_
  refine lv_bipush (v := 14) hx hb d_MO_close_155 (by decide) ?_
  refine lv_icmp_ne (tgt := 181) hx hb d_MO_close_157 (by decide) (fun _ => ?_) (fun h => absurd h (by decide))
  refine lv_iload_n hx hb d_MO_close_181 rfl (lv_at hl 2 rfl) ?_
  refine lv_bipush (v := 9) hx hb d_MO_close_182 (by decide) ?_
  refine lv_icmp_ne (tgt := 256) hx hb d_MO_close_184 (by decide) (fun _ => ?_) (fun h => absurd h (by decide))
  refine lv_iload_n hx hb d_MO_close_256 rfl (lv_at hl 2 rfl) ?_
  refine lv_bipush (v := 16) hx hb d_MO_close_257 (by decide) ?_
  refine lv_icmp_ne (tgt := 278) hx hb d_MO_close_259 (by decide) (fun _ => ?_) (fun h => absurd h (by decide))
  refine lv_iload_n hx hb d_MO_close_278 rfl (lv_at hl 2 rfl) ?_
  refine lv_bipush (v := 17) hx hb d_MO_close_279 (by decide) ?_
  refine lv_icmp_ne (tgt := 316) hx hb d_MO_close_281 (by decide) (fun h => absurd h (by decide)) (fun _ => ?_)
  refine lv_aload_n hx hb d_MO_close_284 rfl (lv_at hl 3 rfl) ?_
  refine lv_aload_n hx hb d_MO_close_285 rfl (lv_at hl 3 rfl) ?_
  refine r_get hx hb hC hP i_MO (44) (by decide) rfl rfl 7 (by decide) l_MO_32 rfl d_MO_close_286 ?_
  refine lv_aload_n hx hb d_MO_close_289 rfl (lv_at hl 3 rfl) ?_
  refine r_get hx hb hC hP i_MO (44) (by decide) rfl rfl 8 (by decide) l_MO_58 rfl d_MO_close_290 ?_
  rw [show (su S 44 8 (nI d)) 44 8 = nI d from by rw [su_same]]
  refine r_ild hx hb hC hP (51) (by decide) rfl d rfl (by omega) (by decide) d_MO_close_293 ?_
  rw [show (su S 44 8 (nI d)) 51 d = S 51 d from by rw [su_cell _ _ _ (by decide)]]
  rw [show S 51 d = nI (0 + 8 * t) from hgo]
  refine lv_bipush (v := 8) hx hb d_MO_close_294 (by decide) ?_
  refine lv_idiv hx hb d_MO_close_296 (by decide) ?_
  rw [show (nI (0 + 8 * t)) / 8 = nI t from (nI_d8 0 t (by decide) ht)]
  refine lv_aload_n hx hb d_MO_close_297 rfl (lv_at hl 3 rfl) ?_
  refine r_get hx hb hC hP i_MO (44) (by decide) rfl rfl 7 (by decide) l_MO_32 rfl d_MO_close_298 ?_
  refine lv_aload_n hx hb d_MO_close_301 rfl (lv_at hl 3 rfl) ?_
  refine r_get hx hb hC hP i_MO (44) (by decide) rfl rfl 8 (by decide) l_MO_58 rfl d_MO_close_302 ?_
  rw [show (su S 44 8 (nI d)) 44 8 = nI d from by rw [su_same]]
  refine r_ild hx hb hC hP (51) (by decide) rfl d rfl (by omega) (by decide) d_MO_close_305 ?_
  rw [show (su S 44 8 (nI d)) 51 d = S 51 d from by rw [su_cell _ _ _ (by decide)]]
  rw [show S 51 d = nI (0 + 8 * t) from hgo]
  refine lv_bipush (v := 8) hx hb d_MO_close_306 (by decide) ?_
  refine lv_irem hx hb d_MO_close_308 (by decide) ?_
  rw [show nI (0 + 8 * t) - nI (0 + 8 * t) / 8 * 8 = 0 from nI_r8 0 t (by decide) ht]
  refine lv_iload_n hx hb d_MO_close_309 rfl (lv_at hl 0 rfl) ?_
  refine r_v hC hS (r_runV (np := 3) (As := [.int (nI t), .int 0, .int (S 50 d)]) (rest := []) hx hb hml hC hP hS (by decide) rfl rfl (m_MO_closeLastC l G (su S 44 8 (nI d)) t nc la P (hT.mv (pop45 S d) (pop46 S d)) (S 50 d) (by rw [su_int _ _ _ (by decide)]; exact hen)) l_MO_155 im_MO_closeLast se_MO_closeLast in_MO c_MO_closeLast_in (by decide +kernel) ⟨by simp only [rmF]; omega, by simp only [rmF]; omega⟩ rfl hl.1 (Nat.le_of_ble_eq_true rfl) d_MO_close_310 ⟨Nat.le_refl _, Nat.le_refl _⟩) (fun S_310 H locs hw hP hS => ?_)
  rw [hw] at hP
  refine lv_goto (tgt := 330) hx hb d_MO_close_313 (by decide) ?_
  exact e_v hx hb hr hlk hC hP hS d_MO_close_330 rfl

set_option maxHeartbeats 4000000 in
set_option maxRecDepth 100000 in
theorem m_MO_close_runV3 (l : Launch) (G : WG) (S : SS) (d : Nat) (hd8 : d < 79) (hdp : S 44 8 = nI (d + 1)) (hkd : S 48 d = 20) (q : Nat) (hq6 : q < 6) (hq : S 44 13 = nI (q + 1)) (hen : S 44 11 = 3) (how : moOwes S q = false) (n : Nat) (hn6 : n < 600) (hn : S 44 18 = nI n) : Cv l y_MO_close b_MO_close 5 3 G [.ref (gA G 44)] S (fun S1 => S1 = su (su (su (crH (moPop S d) q) 44 11 0) 44 10 ((moPop S d) 44 12)) 44 9 (S 51 d)) := by
  refine mk l (by decide +kernel) (Nat.le_of_ble_eq_true rfl) ?_
  intro pp_ ee_ ss_ mm_ be_ me_ co_ ls hx hb hr hlk hml hC hP hS hl
  have hl : lv_has ls 5 [(0, .ref (gA G 44))] := hl
  refine lv_aload_n hx hb d_MO_close_0 rfl (lv_at hl 0 rfl) ?_
  refine lv_dup hx hb d_MO_close_1 rfl ?_
  refine r_get hx hb hC hP i_MO (44) (by decide) rfl rfl 8 (by decide) l_MO_58 rfl d_MO_close_2 ?_
  rw [show S 44 8 = nI (d + 1) from hdp]
  refine lv_iconst (v := 1) hx hb d_MO_close_5 (by decide) ?_
  refine lv_isub hx hb d_MO_close_6 ?_
  rw [show (nI (d + 1)) - 1 = nI d from nI_pred d]
  refine r_put hx hb hC hP hS i_MO t_MO t_MO_ok n_MO (44) (by decide) rfl rfl 8 (by decide) l_MO_58 rfl rfl rfl (Nat.le_of_ble_eq_true rfl) d_MO_close_7 (fun H locs hP hS => ?_)
  refine lv_aload_n hx hb d_MO_close_10 rfl (lv_at hl 0 rfl) ?_
  refine r_get hx hb hC hP i_MO (44) (by decide) rfl rfl 4 (by decide) l_MO_23 rfl d_MO_close_11 ?_
  refine lv_aload_n hx hb d_MO_close_14 rfl (lv_at hl 0 rfl) ?_
  refine r_get hx hb hC hP i_MO (44) (by decide) rfl rfl 8 (by decide) l_MO_58 rfl d_MO_close_15 ?_
  rw [show (su S 44 8 (nI d)) 44 8 = nI d from by rw [su_same]]
  refine r_ild hx hb hC hP (48) (by decide) rfl d rfl (by omega) (by decide) d_MO_close_18 ?_
  rw [show (su S 44 8 (nI d)) 48 d = S 48 d from by rw [su_cell _ _ _ (by decide)]]
  rw [show S 48 d = 20 from hkd]
  refine lv_istore_n (lv' := [(1, .int 20), (0, .ref (gA G 44))]) hx hb d_MO_close_19 rfl hl (by decide) rfl (fun ls hl => ?_)
  refine lv_aload_n hx hb d_MO_close_20 rfl (lv_at hl 1 rfl) ?_
  refine r_get hx hb hC hP i_MO (44) (by decide) rfl rfl 5 (by decide) l_MO_26 rfl d_MO_close_21 ?_
  refine lv_aload_n hx hb d_MO_close_24 rfl (lv_at hl 1 rfl) ?_
  refine r_get hx hb hC hP i_MO (44) (by decide) rfl rfl 8 (by decide) l_MO_58 rfl d_MO_close_25 ?_
  rw [show (su S 44 8 (nI d)) 44 8 = nI d from by rw [su_same]]
  refine r_ild hx hb hC hP (49) (by decide) rfl d rfl (by omega) (by decide) d_MO_close_28 ?_
  rw [show (su S 44 8 (nI d)) 49 d = S 49 d from by rw [su_cell _ _ _ (by decide)]]
  refine lv_istore_n (lv' := [(2, .int (S 49 d)), (1, .int 20), (0, .ref (gA G 44))]) hx hb d_MO_close_29 rfl hl (by decide) rfl (fun ls hl => ?_)
  refine lv_aload_n hx hb d_MO_close_30 rfl (lv_at hl 2 rfl) ?_
  refine r_get hx hb hC hP i_MO (44) (by decide) rfl rfl 6 (by decide) l_MO_29 rfl d_MO_close_31 ?_
  refine lv_aload_n hx hb d_MO_close_34 rfl (lv_at hl 2 rfl) ?_
  refine r_get hx hb hC hP i_MO (44) (by decide) rfl rfl 8 (by decide) l_MO_58 rfl d_MO_close_35 ?_
  rw [show (su S 44 8 (nI d)) 44 8 = nI d from by rw [su_same]]
  refine r_ild hx hb hC hP (50) (by decide) rfl d rfl (by omega) (by decide) d_MO_close_38 ?_
  rw [show (su S 44 8 (nI d)) 50 d = S 50 d from by rw [su_cell _ _ _ (by decide)]]
  refine lv_istore_n (lv' := [(3, .int (S 50 d)), (2, .int (S 49 d)), (1, .int 20), (0, .ref (gA G 44))]) hx hb d_MO_close_39 rfl hl (by decide) rfl (fun ls hl => ?_)
  refine lv_iload_n hx hb d_MO_close_40 rfl (lv_at hl 2 rfl) ?_
  refine lv_iconst (v := 3) hx hb d_MO_close_41 (by decide) ?_
  refine lv_icmp_ne (tgt := 117) hx hb d_MO_close_42 (by decide) (fun _ => ?_) (fun h => absurd h (by decide))
  refine lv_iload_n hx hb d_MO_close_117 rfl (lv_at hl 2 rfl) ?_
  refine lv_bipush (v := 10) hx hb d_MO_close_118 (by decide) ?_
  refine lv_icmp_ne (tgt := 154) hx hb d_MO_close_120 (by decide) (fun _ => ?_) (fun h => absurd h (by decide))
  refine lv_iload_n hx hb d_MO_close_154 rfl (lv_at hl 2 rfl) ?_
  refine lv_bipush (v := 14) hx hb d_MO_close_155 (by decide) ?_
  refine lv_icmp_ne (tgt := 181) hx hb d_MO_close_157 (by decide) (fun _ => ?_) (fun h => absurd h (by decide))
  refine lv_iload_n hx hb d_MO_close_181 rfl (lv_at hl 2 rfl) ?_
  refine lv_bipush (v := 9) hx hb d_MO_close_182 (by decide) ?_
  refine lv_icmp_ne (tgt := 256) hx hb d_MO_close_184 (by decide) (fun _ => ?_) (fun h => absurd h (by decide))
  refine lv_iload_n hx hb d_MO_close_256 rfl (lv_at hl 2 rfl) ?_
  refine lv_bipush (v := 16) hx hb d_MO_close_257 (by decide) ?_
  refine lv_icmp_ne (tgt := 278) hx hb d_MO_close_259 (by decide) (fun _ => ?_) (fun h => absurd h (by decide))
  refine lv_iload_n hx hb d_MO_close_278 rfl (lv_at hl 2 rfl) ?_
  refine lv_bipush (v := 17) hx hb d_MO_close_279 (by decide) ?_
  refine lv_icmp_ne (tgt := 316) hx hb d_MO_close_281 (by decide) (fun _ => ?_) (fun h => absurd h (by decide))
  refine lv_aload_n hx hb d_MO_close_316 rfl (lv_at hl 3 rfl) ?_
  refine lv_aload_n hx hb d_MO_close_317 rfl (lv_at hl 3 rfl) ?_
  refine r_get hx hb hC hP i_MO (44) (by decide) rfl rfl 7 (by decide) l_MO_32 rfl d_MO_close_318 ?_
  refine lv_aload_n hx hb d_MO_close_321 rfl (lv_at hl 3 rfl) ?_
  refine r_get hx hb hC hP i_MO (44) (by decide) rfl rfl 8 (by decide) l_MO_58 rfl d_MO_close_322 ?_
  rw [show (su S 44 8 (nI d)) 44 8 = nI d from by rw [su_same]]
  refine r_ild hx hb hC hP (51) (by decide) rfl d rfl (by omega) (by decide) d_MO_close_325 ?_
  rw [show (su S 44 8 (nI d)) 51 d = S 51 d from by rw [su_cell _ _ _ (by decide)]]
  refine lv_iload_n hx hb d_MO_close_326 rfl (lv_at hl 0 rfl) ?_
  refine r_v hC hS (r_runV (np := 2) (As := [.int (S 51 d), .int (S 50 d)]) (rest := []) hx hb hml hC hP hS (by decide) rfl rfl (m_MO_closeRunV3 l G (su S 44 8 (nI d)) q (by omega) (by rw [su_int _ _ _ (by decide)]; exact hq) (S 51 d) (S 50 d) (by rw [su_int _ _ _ (by decide)]; exact hen) (by rw [← how]; simp only [moOwes]; rw [su_cell _ _ _ (by decide)]) n (by omega) (by rw [su_int _ _ _ (by decide)]; exact hn)) l_MO_158 im_MO_closeRun se_MO_closeRun in_MO c_MO_closeRun_in (by decide +kernel) ⟨by simp only [rmF]; omega, by simp only [rmF]; omega⟩ rfl hl.1 (Nat.le_of_ble_eq_true rfl) d_MO_close_327 ⟨Nat.le_refl _, Nat.le_refl _⟩) (fun S_327 H locs hw hP hS => ?_)
  rw [hw] at hP
  exact e_v hx hb hr hlk hC hP hS d_MO_close_330 rfl

set_option maxHeartbeats 4000000 in
set_option maxRecDepth 100000 in
theorem m_MO_close_runV0 (l : Launch) (G : WG) (S : SS) (d : Nat) (hd8 : d < 79) (hdp : S 44 8 = nI (d + 1)) (hkd : S 48 d = 20) (q : Nat) (hq6 : q < 6) (hq : S 44 13 = nI (q + 1)) (hen : S 44 11 = 0) (how : moOwes S q = false) (n : Nat) (hn6 : n < 600) (hn : S 44 18 = nI n) : Cv l y_MO_close b_MO_close 5 3 G [.ref (gA G 44)] S (fun S1 => S1 = su (su (su (crH (moPop S d) q) 44 11 0) 44 10 ((moPop S d) 44 10)) 44 9 (S 51 d)) := by
  refine mk l (by decide +kernel) (Nat.le_of_ble_eq_true rfl) ?_
  intro pp_ ee_ ss_ mm_ be_ me_ co_ ls hx hb hr hlk hml hC hP hS hl
  have hl : lv_has ls 5 [(0, .ref (gA G 44))] := hl
  refine lv_aload_n hx hb d_MO_close_0 rfl (lv_at hl 0 rfl) ?_
  refine lv_dup hx hb d_MO_close_1 rfl ?_
  refine r_get hx hb hC hP i_MO (44) (by decide) rfl rfl 8 (by decide) l_MO_58 rfl d_MO_close_2 ?_
  rw [show S 44 8 = nI (d + 1) from hdp]
  refine lv_iconst (v := 1) hx hb d_MO_close_5 (by decide) ?_
  refine lv_isub hx hb d_MO_close_6 ?_
  rw [show (nI (d + 1)) - 1 = nI d from nI_pred d]
  refine r_put hx hb hC hP hS i_MO t_MO t_MO_ok n_MO (44) (by decide) rfl rfl 8 (by decide) l_MO_58 rfl rfl rfl (Nat.le_of_ble_eq_true rfl) d_MO_close_7 (fun H locs hP hS => ?_)
  refine lv_aload_n hx hb d_MO_close_10 rfl (lv_at hl 0 rfl) ?_
  refine r_get hx hb hC hP i_MO (44) (by decide) rfl rfl 4 (by decide) l_MO_23 rfl d_MO_close_11 ?_
  refine lv_aload_n hx hb d_MO_close_14 rfl (lv_at hl 0 rfl) ?_
  refine r_get hx hb hC hP i_MO (44) (by decide) rfl rfl 8 (by decide) l_MO_58 rfl d_MO_close_15 ?_
  rw [show (su S 44 8 (nI d)) 44 8 = nI d from by rw [su_same]]
  refine r_ild hx hb hC hP (48) (by decide) rfl d rfl (by omega) (by decide) d_MO_close_18 ?_
  rw [show (su S 44 8 (nI d)) 48 d = S 48 d from by rw [su_cell _ _ _ (by decide)]]
  rw [show S 48 d = 20 from hkd]
  refine lv_istore_n (lv' := [(1, .int 20), (0, .ref (gA G 44))]) hx hb d_MO_close_19 rfl hl (by decide) rfl (fun ls hl => ?_)
  refine lv_aload_n hx hb d_MO_close_20 rfl (lv_at hl 1 rfl) ?_
  refine r_get hx hb hC hP i_MO (44) (by decide) rfl rfl 5 (by decide) l_MO_26 rfl d_MO_close_21 ?_
  refine lv_aload_n hx hb d_MO_close_24 rfl (lv_at hl 1 rfl) ?_
  refine r_get hx hb hC hP i_MO (44) (by decide) rfl rfl 8 (by decide) l_MO_58 rfl d_MO_close_25 ?_
  rw [show (su S 44 8 (nI d)) 44 8 = nI d from by rw [su_same]]
  refine r_ild hx hb hC hP (49) (by decide) rfl d rfl (by omega) (by decide) d_MO_close_28 ?_
  rw [show (su S 44 8 (nI d)) 49 d = S 49 d from by rw [su_cell _ _ _ (by decide)]]
  refine lv_istore_n (lv' := [(2, .int (S 49 d)), (1, .int 20), (0, .ref (gA G 44))]) hx hb d_MO_close_29 rfl hl (by decide) rfl (fun ls hl => ?_)
  refine lv_aload_n hx hb d_MO_close_30 rfl (lv_at hl 2 rfl) ?_
  refine r_get hx hb hC hP i_MO (44) (by decide) rfl rfl 6 (by decide) l_MO_29 rfl d_MO_close_31 ?_
  refine lv_aload_n hx hb d_MO_close_34 rfl (lv_at hl 2 rfl) ?_
  refine r_get hx hb hC hP i_MO (44) (by decide) rfl rfl 8 (by decide) l_MO_58 rfl d_MO_close_35 ?_
  rw [show (su S 44 8 (nI d)) 44 8 = nI d from by rw [su_same]]
  refine r_ild hx hb hC hP (50) (by decide) rfl d rfl (by omega) (by decide) d_MO_close_38 ?_
  rw [show (su S 44 8 (nI d)) 50 d = S 50 d from by rw [su_cell _ _ _ (by decide)]]
  refine lv_istore_n (lv' := [(3, .int (S 50 d)), (2, .int (S 49 d)), (1, .int 20), (0, .ref (gA G 44))]) hx hb d_MO_close_39 rfl hl (by decide) rfl (fun ls hl => ?_)
  refine lv_iload_n hx hb d_MO_close_40 rfl (lv_at hl 2 rfl) ?_
  refine lv_iconst (v := 3) hx hb d_MO_close_41 (by decide) ?_
  refine lv_icmp_ne (tgt := 117) hx hb d_MO_close_42 (by decide) (fun _ => ?_) (fun h => absurd h (by decide))
  refine lv_iload_n hx hb d_MO_close_117 rfl (lv_at hl 2 rfl) ?_
  refine lv_bipush (v := 10) hx hb d_MO_close_118 (by decide) ?_
  refine lv_icmp_ne (tgt := 154) hx hb d_MO_close_120 (by decide) (fun _ => ?_) (fun h => absurd h (by decide))
  refine lv_iload_n hx hb d_MO_close_154 rfl (lv_at hl 2 rfl) ?_
  refine lv_bipush (v := 14) hx hb d_MO_close_155 (by decide) ?_
  refine lv_icmp_ne (tgt := 181) hx hb d_MO_close_157 (by decide) (fun _ => ?_) (fun h => absurd h (by decide))
  refine lv_iload_n hx hb d_MO_close_181 rfl (lv_at hl 2 rfl) ?_
  refine lv_bipush (v := 9) hx hb d_MO_close_182 (by decide) ?_
  refine lv_icmp_ne (tgt := 256) hx hb d_MO_close_184 (by decide) (fun _ => ?_) (fun h => absurd h (by decide))
  refine lv_iload_n hx hb d_MO_close_256 rfl (lv_at hl 2 rfl) ?_
  refine lv_bipush (v := 16) hx hb d_MO_close_257 (by decide) ?_
  refine lv_icmp_ne (tgt := 278) hx hb d_MO_close_259 (by decide) (fun _ => ?_) (fun h => absurd h (by decide))
  refine lv_iload_n hx hb d_MO_close_278 rfl (lv_at hl 2 rfl) ?_
  refine lv_bipush (v := 17) hx hb d_MO_close_279 (by decide) ?_
  refine lv_icmp_ne (tgt := 316) hx hb d_MO_close_281 (by decide) (fun _ => ?_) (fun h => absurd h (by decide))
  refine lv_aload_n hx hb d_MO_close_316 rfl (lv_at hl 3 rfl) ?_
  refine lv_aload_n hx hb d_MO_close_317 rfl (lv_at hl 3 rfl) ?_
  refine r_get hx hb hC hP i_MO (44) (by decide) rfl rfl 7 (by decide) l_MO_32 rfl d_MO_close_318 ?_
  refine lv_aload_n hx hb d_MO_close_321 rfl (lv_at hl 3 rfl) ?_
  refine r_get hx hb hC hP i_MO (44) (by decide) rfl rfl 8 (by decide) l_MO_58 rfl d_MO_close_322 ?_
  rw [show (su S 44 8 (nI d)) 44 8 = nI d from by rw [su_same]]
  refine r_ild hx hb hC hP (51) (by decide) rfl d rfl (by omega) (by decide) d_MO_close_325 ?_
  rw [show (su S 44 8 (nI d)) 51 d = S 51 d from by rw [su_cell _ _ _ (by decide)]]
  refine lv_iload_n hx hb d_MO_close_326 rfl (lv_at hl 0 rfl) ?_
  refine r_v hC hS (r_runV (np := 2) (As := [.int (S 51 d), .int (S 50 d)]) (rest := []) hx hb hml hC hP hS (by decide) rfl rfl (m_MO_closeRunV0 l G (su S 44 8 (nI d)) q (by omega) (by rw [su_int _ _ _ (by decide)]; exact hq) (S 51 d) (S 50 d) (by rw [su_int _ _ _ (by decide)]; exact hen) (by rw [← how]; simp only [moOwes]; rw [su_cell _ _ _ (by decide)]) n (by omega) (by rw [su_int _ _ _ (by decide)]; exact hn)) l_MO_158 im_MO_closeRun se_MO_closeRun in_MO c_MO_closeRun_in (by decide +kernel) ⟨by simp only [rmF]; omega, by simp only [rmF]; omega⟩ rfl hl.1 (Nat.le_of_ble_eq_true rfl) d_MO_close_327 ⟨Nat.le_refl _, Nat.le_refl _⟩) (fun S_327 H locs hw hP hS => ?_)
  rw [hw] at hP
  exact e_v hx hb hr hlk hC hP hS d_MO_close_330 rfl

set_option maxHeartbeats 4000000 in
set_option maxRecDepth 100000 in
theorem m_MO_close_runV4 (l : Launch) (G : WG) (S : SS) (d : Nat) (hd8 : d < 79) (hdp : S 44 8 = nI (d + 1)) (hkd : S 48 d = 20) (q : Nat) (hq6 : q < 6) (hq : S 44 13 = nI (q + 1)) (hen : S 44 11 = 4) (how : moOwes S q = false) (n : Nat) (hn6 : n < 600) (hn : S 44 18 = nI n) : Cv l y_MO_close b_MO_close 5 3 G [.ref (gA G 44)] S (fun S1 => S1 = su (crH (moPop S d) q) 44 10 (S 50 d)) := by
  refine mk l (by decide +kernel) (Nat.le_of_ble_eq_true rfl) ?_
  intro pp_ ee_ ss_ mm_ be_ me_ co_ ls hx hb hr hlk hml hC hP hS hl
  have hl : lv_has ls 5 [(0, .ref (gA G 44))] := hl
  refine lv_aload_n hx hb d_MO_close_0 rfl (lv_at hl 0 rfl) ?_
  refine lv_dup hx hb d_MO_close_1 rfl ?_
  refine r_get hx hb hC hP i_MO (44) (by decide) rfl rfl 8 (by decide) l_MO_58 rfl d_MO_close_2 ?_
  rw [show S 44 8 = nI (d + 1) from hdp]
  refine lv_iconst (v := 1) hx hb d_MO_close_5 (by decide) ?_
  refine lv_isub hx hb d_MO_close_6 ?_
  rw [show (nI (d + 1)) - 1 = nI d from nI_pred d]
  refine r_put hx hb hC hP hS i_MO t_MO t_MO_ok n_MO (44) (by decide) rfl rfl 8 (by decide) l_MO_58 rfl rfl rfl (Nat.le_of_ble_eq_true rfl) d_MO_close_7 (fun H locs hP hS => ?_)
  refine lv_aload_n hx hb d_MO_close_10 rfl (lv_at hl 0 rfl) ?_
  refine r_get hx hb hC hP i_MO (44) (by decide) rfl rfl 4 (by decide) l_MO_23 rfl d_MO_close_11 ?_
  refine lv_aload_n hx hb d_MO_close_14 rfl (lv_at hl 0 rfl) ?_
  refine r_get hx hb hC hP i_MO (44) (by decide) rfl rfl 8 (by decide) l_MO_58 rfl d_MO_close_15 ?_
  rw [show (su S 44 8 (nI d)) 44 8 = nI d from by rw [su_same]]
  refine r_ild hx hb hC hP (48) (by decide) rfl d rfl (by omega) (by decide) d_MO_close_18 ?_
  rw [show (su S 44 8 (nI d)) 48 d = S 48 d from by rw [su_cell _ _ _ (by decide)]]
  rw [show S 48 d = 20 from hkd]
  refine lv_istore_n (lv' := [(1, .int 20), (0, .ref (gA G 44))]) hx hb d_MO_close_19 rfl hl (by decide) rfl (fun ls hl => ?_)
  refine lv_aload_n hx hb d_MO_close_20 rfl (lv_at hl 1 rfl) ?_
  refine r_get hx hb hC hP i_MO (44) (by decide) rfl rfl 5 (by decide) l_MO_26 rfl d_MO_close_21 ?_
  refine lv_aload_n hx hb d_MO_close_24 rfl (lv_at hl 1 rfl) ?_
  refine r_get hx hb hC hP i_MO (44) (by decide) rfl rfl 8 (by decide) l_MO_58 rfl d_MO_close_25 ?_
  rw [show (su S 44 8 (nI d)) 44 8 = nI d from by rw [su_same]]
  refine r_ild hx hb hC hP (49) (by decide) rfl d rfl (by omega) (by decide) d_MO_close_28 ?_
  rw [show (su S 44 8 (nI d)) 49 d = S 49 d from by rw [su_cell _ _ _ (by decide)]]
  refine lv_istore_n (lv' := [(2, .int (S 49 d)), (1, .int 20), (0, .ref (gA G 44))]) hx hb d_MO_close_29 rfl hl (by decide) rfl (fun ls hl => ?_)
  refine lv_aload_n hx hb d_MO_close_30 rfl (lv_at hl 2 rfl) ?_
  refine r_get hx hb hC hP i_MO (44) (by decide) rfl rfl 6 (by decide) l_MO_29 rfl d_MO_close_31 ?_
  refine lv_aload_n hx hb d_MO_close_34 rfl (lv_at hl 2 rfl) ?_
  refine r_get hx hb hC hP i_MO (44) (by decide) rfl rfl 8 (by decide) l_MO_58 rfl d_MO_close_35 ?_
  rw [show (su S 44 8 (nI d)) 44 8 = nI d from by rw [su_same]]
  refine r_ild hx hb hC hP (50) (by decide) rfl d rfl (by omega) (by decide) d_MO_close_38 ?_
  rw [show (su S 44 8 (nI d)) 50 d = S 50 d from by rw [su_cell _ _ _ (by decide)]]
  refine lv_istore_n (lv' := [(3, .int (S 50 d)), (2, .int (S 49 d)), (1, .int 20), (0, .ref (gA G 44))]) hx hb d_MO_close_39 rfl hl (by decide) rfl (fun ls hl => ?_)
  refine lv_iload_n hx hb d_MO_close_40 rfl (lv_at hl 2 rfl) ?_
  refine lv_iconst (v := 3) hx hb d_MO_close_41 (by decide) ?_
  refine lv_icmp_ne (tgt := 117) hx hb d_MO_close_42 (by decide) (fun _ => ?_) (fun h => absurd h (by decide))
  refine lv_iload_n hx hb d_MO_close_117 rfl (lv_at hl 2 rfl) ?_
  refine lv_bipush (v := 10) hx hb d_MO_close_118 (by decide) ?_
  refine lv_icmp_ne (tgt := 154) hx hb d_MO_close_120 (by decide) (fun _ => ?_) (fun h => absurd h (by decide))
  refine lv_iload_n hx hb d_MO_close_154 rfl (lv_at hl 2 rfl) ?_
  refine lv_bipush (v := 14) hx hb d_MO_close_155 (by decide) ?_
  refine lv_icmp_ne (tgt := 181) hx hb d_MO_close_157 (by decide) (fun _ => ?_) (fun h => absurd h (by decide))
  refine lv_iload_n hx hb d_MO_close_181 rfl (lv_at hl 2 rfl) ?_
  refine lv_bipush (v := 9) hx hb d_MO_close_182 (by decide) ?_
  refine lv_icmp_ne (tgt := 256) hx hb d_MO_close_184 (by decide) (fun _ => ?_) (fun h => absurd h (by decide))
  refine lv_iload_n hx hb d_MO_close_256 rfl (lv_at hl 2 rfl) ?_
  refine lv_bipush (v := 16) hx hb d_MO_close_257 (by decide) ?_
  refine lv_icmp_ne (tgt := 278) hx hb d_MO_close_259 (by decide) (fun _ => ?_) (fun h => absurd h (by decide))
  refine lv_iload_n hx hb d_MO_close_278 rfl (lv_at hl 2 rfl) ?_
  refine lv_bipush (v := 17) hx hb d_MO_close_279 (by decide) ?_
  refine lv_icmp_ne (tgt := 316) hx hb d_MO_close_281 (by decide) (fun _ => ?_) (fun h => absurd h (by decide))
  refine lv_aload_n hx hb d_MO_close_316 rfl (lv_at hl 3 rfl) ?_
  refine lv_aload_n hx hb d_MO_close_317 rfl (lv_at hl 3 rfl) ?_
  refine r_get hx hb hC hP i_MO (44) (by decide) rfl rfl 7 (by decide) l_MO_32 rfl d_MO_close_318 ?_
  refine lv_aload_n hx hb d_MO_close_321 rfl (lv_at hl 3 rfl) ?_
  refine r_get hx hb hC hP i_MO (44) (by decide) rfl rfl 8 (by decide) l_MO_58 rfl d_MO_close_322 ?_
  rw [show (su S 44 8 (nI d)) 44 8 = nI d from by rw [su_same]]
  refine r_ild hx hb hC hP (51) (by decide) rfl d rfl (by omega) (by decide) d_MO_close_325 ?_
  rw [show (su S 44 8 (nI d)) 51 d = S 51 d from by rw [su_cell _ _ _ (by decide)]]
  refine lv_iload_n hx hb d_MO_close_326 rfl (lv_at hl 0 rfl) ?_
  refine r_v hC hS (r_runV (np := 2) (As := [.int (S 51 d), .int (S 50 d)]) (rest := []) hx hb hml hC hP hS (by decide) rfl rfl (m_MO_closeRunV4 l G (su S 44 8 (nI d)) q (by omega) (by rw [su_int _ _ _ (by decide)]; exact hq) (S 51 d) (S 50 d) (by rw [su_int _ _ _ (by decide)]; exact hen) (by rw [← how]; simp only [moOwes]; rw [su_cell _ _ _ (by decide)]) n (by omega) (by rw [su_int _ _ _ (by decide)]; exact hn)) l_MO_158 im_MO_closeRun se_MO_closeRun in_MO c_MO_closeRun_in (by decide +kernel) ⟨by simp only [rmF]; omega, by simp only [rmF]; omega⟩ rfl hl.1 (Nat.le_of_ble_eq_true rfl) d_MO_close_327 ⟨Nat.le_refl _, Nat.le_refl _⟩) (fun S_327 H locs hw hP hS => ?_)
  rw [hw] at hP
  exact e_v hx hb hr hlk hC hP hS d_MO_close_330 rfl

set_option maxHeartbeats 4000000 in
set_option maxRecDepth 100000 in
theorem m_MO_close_runO3 (l : Launch) (G : WG) (S : SS) (d : Nat) (hd8 : d < 79) (hdp : S 44 8 = nI (d + 1)) (hkd : S 48 d = 20) (q : Nat) (hq6 : q < 6) (hq : S 44 13 = nI (q + 1)) (hen : S 44 11 = 3) (how : moOwes S q = true) (n : Nat) (hn6 : n < 600) (hn : S 44 18 = nI n) : Cv l y_MO_close b_MO_close 5 3 G [.ref (gA G 44)] S (fun S1 => S1 = su (moRaise (crH (moPop S d) q) n 4 0) 44 10 (S 50 d)) := by
  refine mk l (by decide +kernel) (Nat.le_of_ble_eq_true rfl) ?_
  intro pp_ ee_ ss_ mm_ be_ me_ co_ ls hx hb hr hlk hml hC hP hS hl
  have hl : lv_has ls 5 [(0, .ref (gA G 44))] := hl
  refine lv_aload_n hx hb d_MO_close_0 rfl (lv_at hl 0 rfl) ?_
  refine lv_dup hx hb d_MO_close_1 rfl ?_
  refine r_get hx hb hC hP i_MO (44) (by decide) rfl rfl 8 (by decide) l_MO_58 rfl d_MO_close_2 ?_
  rw [show S 44 8 = nI (d + 1) from hdp]
  refine lv_iconst (v := 1) hx hb d_MO_close_5 (by decide) ?_
  refine lv_isub hx hb d_MO_close_6 ?_
  rw [show (nI (d + 1)) - 1 = nI d from nI_pred d]
  refine r_put hx hb hC hP hS i_MO t_MO t_MO_ok n_MO (44) (by decide) rfl rfl 8 (by decide) l_MO_58 rfl rfl rfl (Nat.le_of_ble_eq_true rfl) d_MO_close_7 (fun H locs hP hS => ?_)
  refine lv_aload_n hx hb d_MO_close_10 rfl (lv_at hl 0 rfl) ?_
  refine r_get hx hb hC hP i_MO (44) (by decide) rfl rfl 4 (by decide) l_MO_23 rfl d_MO_close_11 ?_
  refine lv_aload_n hx hb d_MO_close_14 rfl (lv_at hl 0 rfl) ?_
  refine r_get hx hb hC hP i_MO (44) (by decide) rfl rfl 8 (by decide) l_MO_58 rfl d_MO_close_15 ?_
  rw [show (su S 44 8 (nI d)) 44 8 = nI d from by rw [su_same]]
  refine r_ild hx hb hC hP (48) (by decide) rfl d rfl (by omega) (by decide) d_MO_close_18 ?_
  rw [show (su S 44 8 (nI d)) 48 d = S 48 d from by rw [su_cell _ _ _ (by decide)]]
  rw [show S 48 d = 20 from hkd]
  refine lv_istore_n (lv' := [(1, .int 20), (0, .ref (gA G 44))]) hx hb d_MO_close_19 rfl hl (by decide) rfl (fun ls hl => ?_)
  refine lv_aload_n hx hb d_MO_close_20 rfl (lv_at hl 1 rfl) ?_
  refine r_get hx hb hC hP i_MO (44) (by decide) rfl rfl 5 (by decide) l_MO_26 rfl d_MO_close_21 ?_
  refine lv_aload_n hx hb d_MO_close_24 rfl (lv_at hl 1 rfl) ?_
  refine r_get hx hb hC hP i_MO (44) (by decide) rfl rfl 8 (by decide) l_MO_58 rfl d_MO_close_25 ?_
  rw [show (su S 44 8 (nI d)) 44 8 = nI d from by rw [su_same]]
  refine r_ild hx hb hC hP (49) (by decide) rfl d rfl (by omega) (by decide) d_MO_close_28 ?_
  rw [show (su S 44 8 (nI d)) 49 d = S 49 d from by rw [su_cell _ _ _ (by decide)]]
  refine lv_istore_n (lv' := [(2, .int (S 49 d)), (1, .int 20), (0, .ref (gA G 44))]) hx hb d_MO_close_29 rfl hl (by decide) rfl (fun ls hl => ?_)
  refine lv_aload_n hx hb d_MO_close_30 rfl (lv_at hl 2 rfl) ?_
  refine r_get hx hb hC hP i_MO (44) (by decide) rfl rfl 6 (by decide) l_MO_29 rfl d_MO_close_31 ?_
  refine lv_aload_n hx hb d_MO_close_34 rfl (lv_at hl 2 rfl) ?_
  refine r_get hx hb hC hP i_MO (44) (by decide) rfl rfl 8 (by decide) l_MO_58 rfl d_MO_close_35 ?_
  rw [show (su S 44 8 (nI d)) 44 8 = nI d from by rw [su_same]]
  refine r_ild hx hb hC hP (50) (by decide) rfl d rfl (by omega) (by decide) d_MO_close_38 ?_
  rw [show (su S 44 8 (nI d)) 50 d = S 50 d from by rw [su_cell _ _ _ (by decide)]]
  refine lv_istore_n (lv' := [(3, .int (S 50 d)), (2, .int (S 49 d)), (1, .int 20), (0, .ref (gA G 44))]) hx hb d_MO_close_39 rfl hl (by decide) rfl (fun ls hl => ?_)
  refine lv_iload_n hx hb d_MO_close_40 rfl (lv_at hl 2 rfl) ?_
  refine lv_iconst (v := 3) hx hb d_MO_close_41 (by decide) ?_
  refine lv_icmp_ne (tgt := 117) hx hb d_MO_close_42 (by decide) (fun _ => ?_) (fun h => absurd h (by decide))
  refine lv_iload_n hx hb d_MO_close_117 rfl (lv_at hl 2 rfl) ?_
  refine lv_bipush (v := 10) hx hb d_MO_close_118 (by decide) ?_
  refine lv_icmp_ne (tgt := 154) hx hb d_MO_close_120 (by decide) (fun _ => ?_) (fun h => absurd h (by decide))
  refine lv_iload_n hx hb d_MO_close_154 rfl (lv_at hl 2 rfl) ?_
  refine lv_bipush (v := 14) hx hb d_MO_close_155 (by decide) ?_
  refine lv_icmp_ne (tgt := 181) hx hb d_MO_close_157 (by decide) (fun _ => ?_) (fun h => absurd h (by decide))
  refine lv_iload_n hx hb d_MO_close_181 rfl (lv_at hl 2 rfl) ?_
  refine lv_bipush (v := 9) hx hb d_MO_close_182 (by decide) ?_
  refine lv_icmp_ne (tgt := 256) hx hb d_MO_close_184 (by decide) (fun _ => ?_) (fun h => absurd h (by decide))
  refine lv_iload_n hx hb d_MO_close_256 rfl (lv_at hl 2 rfl) ?_
  refine lv_bipush (v := 16) hx hb d_MO_close_257 (by decide) ?_
  refine lv_icmp_ne (tgt := 278) hx hb d_MO_close_259 (by decide) (fun _ => ?_) (fun h => absurd h (by decide))
  refine lv_iload_n hx hb d_MO_close_278 rfl (lv_at hl 2 rfl) ?_
  refine lv_bipush (v := 17) hx hb d_MO_close_279 (by decide) ?_
  refine lv_icmp_ne (tgt := 316) hx hb d_MO_close_281 (by decide) (fun _ => ?_) (fun h => absurd h (by decide))
  refine lv_aload_n hx hb d_MO_close_316 rfl (lv_at hl 3 rfl) ?_
  refine lv_aload_n hx hb d_MO_close_317 rfl (lv_at hl 3 rfl) ?_
  refine r_get hx hb hC hP i_MO (44) (by decide) rfl rfl 7 (by decide) l_MO_32 rfl d_MO_close_318 ?_
  refine lv_aload_n hx hb d_MO_close_321 rfl (lv_at hl 3 rfl) ?_
  refine r_get hx hb hC hP i_MO (44) (by decide) rfl rfl 8 (by decide) l_MO_58 rfl d_MO_close_322 ?_
  rw [show (su S 44 8 (nI d)) 44 8 = nI d from by rw [su_same]]
  refine r_ild hx hb hC hP (51) (by decide) rfl d rfl (by omega) (by decide) d_MO_close_325 ?_
  rw [show (su S 44 8 (nI d)) 51 d = S 51 d from by rw [su_cell _ _ _ (by decide)]]
  refine lv_iload_n hx hb d_MO_close_326 rfl (lv_at hl 0 rfl) ?_
  refine r_v hC hS (r_runV (np := 2) (As := [.int (S 51 d), .int (S 50 d)]) (rest := []) hx hb hml hC hP hS (by decide) rfl rfl (m_MO_closeRunO3 l G (su S 44 8 (nI d)) q (by omega) (by rw [su_int _ _ _ (by decide)]; exact hq) (S 51 d) (S 50 d) (by rw [su_int _ _ _ (by decide)]; exact hen) (by rw [← how]; simp only [moOwes]; rw [su_cell _ _ _ (by decide)]) n (by omega) (by rw [su_int _ _ _ (by decide)]; exact hn)) l_MO_158 im_MO_closeRun se_MO_closeRun in_MO c_MO_closeRun_in (by decide +kernel) ⟨by simp only [rmF]; omega, by simp only [rmF]; omega⟩ rfl hl.1 (Nat.le_of_ble_eq_true rfl) d_MO_close_327 ⟨Nat.le_refl _, Nat.le_refl _⟩) (fun S_327 H locs hw hP hS => ?_)
  rw [hw] at hP
  exact e_v hx hb hr hlk hC hP hS d_MO_close_330 rfl

set_option maxHeartbeats 4000000 in
set_option maxRecDepth 100000 in
theorem m_MO_close_runO0 (l : Launch) (G : WG) (S : SS) (d : Nat) (hd8 : d < 79) (hdp : S 44 8 = nI (d + 1)) (hkd : S 48 d = 20) (q : Nat) (hq6 : q < 6) (hq : S 44 13 = nI (q + 1)) (hen : S 44 11 = 0) (how : moOwes S q = true) (n : Nat) (hn6 : n < 600) (hn : S 44 18 = nI n) : Cv l y_MO_close b_MO_close 5 3 G [.ref (gA G 44)] S (fun S1 => S1 = su (moRaise (crH (moPop S d) q) n 4 0) 44 10 (S 50 d)) := by
  refine mk l (by decide +kernel) (Nat.le_of_ble_eq_true rfl) ?_
  intro pp_ ee_ ss_ mm_ be_ me_ co_ ls hx hb hr hlk hml hC hP hS hl
  have hl : lv_has ls 5 [(0, .ref (gA G 44))] := hl
  refine lv_aload_n hx hb d_MO_close_0 rfl (lv_at hl 0 rfl) ?_
  refine lv_dup hx hb d_MO_close_1 rfl ?_
  refine r_get hx hb hC hP i_MO (44) (by decide) rfl rfl 8 (by decide) l_MO_58 rfl d_MO_close_2 ?_
  rw [show S 44 8 = nI (d + 1) from hdp]
  refine lv_iconst (v := 1) hx hb d_MO_close_5 (by decide) ?_
  refine lv_isub hx hb d_MO_close_6 ?_
  rw [show (nI (d + 1)) - 1 = nI d from nI_pred d]
  refine r_put hx hb hC hP hS i_MO t_MO t_MO_ok n_MO (44) (by decide) rfl rfl 8 (by decide) l_MO_58 rfl rfl rfl (Nat.le_of_ble_eq_true rfl) d_MO_close_7 (fun H locs hP hS => ?_)
  refine lv_aload_n hx hb d_MO_close_10 rfl (lv_at hl 0 rfl) ?_
  refine r_get hx hb hC hP i_MO (44) (by decide) rfl rfl 4 (by decide) l_MO_23 rfl d_MO_close_11 ?_
  refine lv_aload_n hx hb d_MO_close_14 rfl (lv_at hl 0 rfl) ?_
  refine r_get hx hb hC hP i_MO (44) (by decide) rfl rfl 8 (by decide) l_MO_58 rfl d_MO_close_15 ?_
  rw [show (su S 44 8 (nI d)) 44 8 = nI d from by rw [su_same]]
  refine r_ild hx hb hC hP (48) (by decide) rfl d rfl (by omega) (by decide) d_MO_close_18 ?_
  rw [show (su S 44 8 (nI d)) 48 d = S 48 d from by rw [su_cell _ _ _ (by decide)]]
  rw [show S 48 d = 20 from hkd]
  refine lv_istore_n (lv' := [(1, .int 20), (0, .ref (gA G 44))]) hx hb d_MO_close_19 rfl hl (by decide) rfl (fun ls hl => ?_)
  refine lv_aload_n hx hb d_MO_close_20 rfl (lv_at hl 1 rfl) ?_
  refine r_get hx hb hC hP i_MO (44) (by decide) rfl rfl 5 (by decide) l_MO_26 rfl d_MO_close_21 ?_
  refine lv_aload_n hx hb d_MO_close_24 rfl (lv_at hl 1 rfl) ?_
  refine r_get hx hb hC hP i_MO (44) (by decide) rfl rfl 8 (by decide) l_MO_58 rfl d_MO_close_25 ?_
  rw [show (su S 44 8 (nI d)) 44 8 = nI d from by rw [su_same]]
  refine r_ild hx hb hC hP (49) (by decide) rfl d rfl (by omega) (by decide) d_MO_close_28 ?_
  rw [show (su S 44 8 (nI d)) 49 d = S 49 d from by rw [su_cell _ _ _ (by decide)]]
  refine lv_istore_n (lv' := [(2, .int (S 49 d)), (1, .int 20), (0, .ref (gA G 44))]) hx hb d_MO_close_29 rfl hl (by decide) rfl (fun ls hl => ?_)
  refine lv_aload_n hx hb d_MO_close_30 rfl (lv_at hl 2 rfl) ?_
  refine r_get hx hb hC hP i_MO (44) (by decide) rfl rfl 6 (by decide) l_MO_29 rfl d_MO_close_31 ?_
  refine lv_aload_n hx hb d_MO_close_34 rfl (lv_at hl 2 rfl) ?_
  refine r_get hx hb hC hP i_MO (44) (by decide) rfl rfl 8 (by decide) l_MO_58 rfl d_MO_close_35 ?_
  rw [show (su S 44 8 (nI d)) 44 8 = nI d from by rw [su_same]]
  refine r_ild hx hb hC hP (50) (by decide) rfl d rfl (by omega) (by decide) d_MO_close_38 ?_
  rw [show (su S 44 8 (nI d)) 50 d = S 50 d from by rw [su_cell _ _ _ (by decide)]]
  refine lv_istore_n (lv' := [(3, .int (S 50 d)), (2, .int (S 49 d)), (1, .int 20), (0, .ref (gA G 44))]) hx hb d_MO_close_39 rfl hl (by decide) rfl (fun ls hl => ?_)
  refine lv_iload_n hx hb d_MO_close_40 rfl (lv_at hl 2 rfl) ?_
  refine lv_iconst (v := 3) hx hb d_MO_close_41 (by decide) ?_
  refine lv_icmp_ne (tgt := 117) hx hb d_MO_close_42 (by decide) (fun _ => ?_) (fun h => absurd h (by decide))
  refine lv_iload_n hx hb d_MO_close_117 rfl (lv_at hl 2 rfl) ?_
  refine lv_bipush (v := 10) hx hb d_MO_close_118 (by decide) ?_
  refine lv_icmp_ne (tgt := 154) hx hb d_MO_close_120 (by decide) (fun _ => ?_) (fun h => absurd h (by decide))
  refine lv_iload_n hx hb d_MO_close_154 rfl (lv_at hl 2 rfl) ?_
  refine lv_bipush (v := 14) hx hb d_MO_close_155 (by decide) ?_
  refine lv_icmp_ne (tgt := 181) hx hb d_MO_close_157 (by decide) (fun _ => ?_) (fun h => absurd h (by decide))
  refine lv_iload_n hx hb d_MO_close_181 rfl (lv_at hl 2 rfl) ?_
  refine lv_bipush (v := 9) hx hb d_MO_close_182 (by decide) ?_
  refine lv_icmp_ne (tgt := 256) hx hb d_MO_close_184 (by decide) (fun _ => ?_) (fun h => absurd h (by decide))
  refine lv_iload_n hx hb d_MO_close_256 rfl (lv_at hl 2 rfl) ?_
  refine lv_bipush (v := 16) hx hb d_MO_close_257 (by decide) ?_
  refine lv_icmp_ne (tgt := 278) hx hb d_MO_close_259 (by decide) (fun _ => ?_) (fun h => absurd h (by decide))
  refine lv_iload_n hx hb d_MO_close_278 rfl (lv_at hl 2 rfl) ?_
  refine lv_bipush (v := 17) hx hb d_MO_close_279 (by decide) ?_
  refine lv_icmp_ne (tgt := 316) hx hb d_MO_close_281 (by decide) (fun _ => ?_) (fun h => absurd h (by decide))
  refine lv_aload_n hx hb d_MO_close_316 rfl (lv_at hl 3 rfl) ?_
  refine lv_aload_n hx hb d_MO_close_317 rfl (lv_at hl 3 rfl) ?_
  refine r_get hx hb hC hP i_MO (44) (by decide) rfl rfl 7 (by decide) l_MO_32 rfl d_MO_close_318 ?_
  refine lv_aload_n hx hb d_MO_close_321 rfl (lv_at hl 3 rfl) ?_
  refine r_get hx hb hC hP i_MO (44) (by decide) rfl rfl 8 (by decide) l_MO_58 rfl d_MO_close_322 ?_
  rw [show (su S 44 8 (nI d)) 44 8 = nI d from by rw [su_same]]
  refine r_ild hx hb hC hP (51) (by decide) rfl d rfl (by omega) (by decide) d_MO_close_325 ?_
  rw [show (su S 44 8 (nI d)) 51 d = S 51 d from by rw [su_cell _ _ _ (by decide)]]
  refine lv_iload_n hx hb d_MO_close_326 rfl (lv_at hl 0 rfl) ?_
  refine r_v hC hS (r_runV (np := 2) (As := [.int (S 51 d), .int (S 50 d)]) (rest := []) hx hb hml hC hP hS (by decide) rfl rfl (m_MO_closeRunO0 l G (su S 44 8 (nI d)) q (by omega) (by rw [su_int _ _ _ (by decide)]; exact hq) (S 51 d) (S 50 d) (by rw [su_int _ _ _ (by decide)]; exact hen) (by rw [← how]; simp only [moOwes]; rw [su_cell _ _ _ (by decide)]) n (by omega) (by rw [su_int _ _ _ (by decide)]; exact hn)) l_MO_158 im_MO_closeRun se_MO_closeRun in_MO c_MO_closeRun_in (by decide +kernel) ⟨by simp only [rmF]; omega, by simp only [rmF]; omega⟩ rfl hl.1 (Nat.le_of_ble_eq_true rfl) d_MO_close_327 ⟨Nat.le_refl _, Nat.le_refl _⟩) (fun S_327 H locs hw hP hS => ?_)
  rw [hw] at hP
  exact e_v hx hb hr hlk hC hP hS d_MO_close_330 rfl

set_option maxHeartbeats 4000000 in
set_option maxRecDepth 100000 in
theorem m_MO_close_runO4 (l : Launch) (G : WG) (S : SS) (d : Nat) (hd8 : d < 79) (hdp : S 44 8 = nI (d + 1)) (hkd : S 48 d = 20) (q : Nat) (hq6 : q < 6) (hq : S 44 13 = nI (q + 1)) (hen : S 44 11 = 4) (how : moOwes S q = true) (n : Nat) (hn6 : n < 600) (hn : S 44 18 = nI n) : Cv l y_MO_close b_MO_close 5 3 G [.ref (gA G 44)] S (fun S1 => S1 = su (moRaise (crH (moPop S d) q) n 4 ((moPop S d) 44 12)) 44 10 (S 50 d)) := by
  refine mk l (by decide +kernel) (Nat.le_of_ble_eq_true rfl) ?_
  intro pp_ ee_ ss_ mm_ be_ me_ co_ ls hx hb hr hlk hml hC hP hS hl
  have hl : lv_has ls 5 [(0, .ref (gA G 44))] := hl
  refine lv_aload_n hx hb d_MO_close_0 rfl (lv_at hl 0 rfl) ?_
  refine lv_dup hx hb d_MO_close_1 rfl ?_
  refine r_get hx hb hC hP i_MO (44) (by decide) rfl rfl 8 (by decide) l_MO_58 rfl d_MO_close_2 ?_
  rw [show S 44 8 = nI (d + 1) from hdp]
  refine lv_iconst (v := 1) hx hb d_MO_close_5 (by decide) ?_
  refine lv_isub hx hb d_MO_close_6 ?_
  rw [show (nI (d + 1)) - 1 = nI d from nI_pred d]
  refine r_put hx hb hC hP hS i_MO t_MO t_MO_ok n_MO (44) (by decide) rfl rfl 8 (by decide) l_MO_58 rfl rfl rfl (Nat.le_of_ble_eq_true rfl) d_MO_close_7 (fun H locs hP hS => ?_)
  refine lv_aload_n hx hb d_MO_close_10 rfl (lv_at hl 0 rfl) ?_
  refine r_get hx hb hC hP i_MO (44) (by decide) rfl rfl 4 (by decide) l_MO_23 rfl d_MO_close_11 ?_
  refine lv_aload_n hx hb d_MO_close_14 rfl (lv_at hl 0 rfl) ?_
  refine r_get hx hb hC hP i_MO (44) (by decide) rfl rfl 8 (by decide) l_MO_58 rfl d_MO_close_15 ?_
  rw [show (su S 44 8 (nI d)) 44 8 = nI d from by rw [su_same]]
  refine r_ild hx hb hC hP (48) (by decide) rfl d rfl (by omega) (by decide) d_MO_close_18 ?_
  rw [show (su S 44 8 (nI d)) 48 d = S 48 d from by rw [su_cell _ _ _ (by decide)]]
  rw [show S 48 d = 20 from hkd]
  refine lv_istore_n (lv' := [(1, .int 20), (0, .ref (gA G 44))]) hx hb d_MO_close_19 rfl hl (by decide) rfl (fun ls hl => ?_)
  refine lv_aload_n hx hb d_MO_close_20 rfl (lv_at hl 1 rfl) ?_
  refine r_get hx hb hC hP i_MO (44) (by decide) rfl rfl 5 (by decide) l_MO_26 rfl d_MO_close_21 ?_
  refine lv_aload_n hx hb d_MO_close_24 rfl (lv_at hl 1 rfl) ?_
  refine r_get hx hb hC hP i_MO (44) (by decide) rfl rfl 8 (by decide) l_MO_58 rfl d_MO_close_25 ?_
  rw [show (su S 44 8 (nI d)) 44 8 = nI d from by rw [su_same]]
  refine r_ild hx hb hC hP (49) (by decide) rfl d rfl (by omega) (by decide) d_MO_close_28 ?_
  rw [show (su S 44 8 (nI d)) 49 d = S 49 d from by rw [su_cell _ _ _ (by decide)]]
  refine lv_istore_n (lv' := [(2, .int (S 49 d)), (1, .int 20), (0, .ref (gA G 44))]) hx hb d_MO_close_29 rfl hl (by decide) rfl (fun ls hl => ?_)
  refine lv_aload_n hx hb d_MO_close_30 rfl (lv_at hl 2 rfl) ?_
  refine r_get hx hb hC hP i_MO (44) (by decide) rfl rfl 6 (by decide) l_MO_29 rfl d_MO_close_31 ?_
  refine lv_aload_n hx hb d_MO_close_34 rfl (lv_at hl 2 rfl) ?_
  refine r_get hx hb hC hP i_MO (44) (by decide) rfl rfl 8 (by decide) l_MO_58 rfl d_MO_close_35 ?_
  rw [show (su S 44 8 (nI d)) 44 8 = nI d from by rw [su_same]]
  refine r_ild hx hb hC hP (50) (by decide) rfl d rfl (by omega) (by decide) d_MO_close_38 ?_
  rw [show (su S 44 8 (nI d)) 50 d = S 50 d from by rw [su_cell _ _ _ (by decide)]]
  refine lv_istore_n (lv' := [(3, .int (S 50 d)), (2, .int (S 49 d)), (1, .int 20), (0, .ref (gA G 44))]) hx hb d_MO_close_39 rfl hl (by decide) rfl (fun ls hl => ?_)
  refine lv_iload_n hx hb d_MO_close_40 rfl (lv_at hl 2 rfl) ?_
  refine lv_iconst (v := 3) hx hb d_MO_close_41 (by decide) ?_
  refine lv_icmp_ne (tgt := 117) hx hb d_MO_close_42 (by decide) (fun _ => ?_) (fun h => absurd h (by decide))
  refine lv_iload_n hx hb d_MO_close_117 rfl (lv_at hl 2 rfl) ?_
  refine lv_bipush (v := 10) hx hb d_MO_close_118 (by decide) ?_
  refine lv_icmp_ne (tgt := 154) hx hb d_MO_close_120 (by decide) (fun _ => ?_) (fun h => absurd h (by decide))
  refine lv_iload_n hx hb d_MO_close_154 rfl (lv_at hl 2 rfl) ?_
  refine lv_bipush (v := 14) hx hb d_MO_close_155 (by decide) ?_
  refine lv_icmp_ne (tgt := 181) hx hb d_MO_close_157 (by decide) (fun _ => ?_) (fun h => absurd h (by decide))
  refine lv_iload_n hx hb d_MO_close_181 rfl (lv_at hl 2 rfl) ?_
  refine lv_bipush (v := 9) hx hb d_MO_close_182 (by decide) ?_
  refine lv_icmp_ne (tgt := 256) hx hb d_MO_close_184 (by decide) (fun _ => ?_) (fun h => absurd h (by decide))
  refine lv_iload_n hx hb d_MO_close_256 rfl (lv_at hl 2 rfl) ?_
  refine lv_bipush (v := 16) hx hb d_MO_close_257 (by decide) ?_
  refine lv_icmp_ne (tgt := 278) hx hb d_MO_close_259 (by decide) (fun _ => ?_) (fun h => absurd h (by decide))
  refine lv_iload_n hx hb d_MO_close_278 rfl (lv_at hl 2 rfl) ?_
  refine lv_bipush (v := 17) hx hb d_MO_close_279 (by decide) ?_
  refine lv_icmp_ne (tgt := 316) hx hb d_MO_close_281 (by decide) (fun _ => ?_) (fun h => absurd h (by decide))
  refine lv_aload_n hx hb d_MO_close_316 rfl (lv_at hl 3 rfl) ?_
  refine lv_aload_n hx hb d_MO_close_317 rfl (lv_at hl 3 rfl) ?_
  refine r_get hx hb hC hP i_MO (44) (by decide) rfl rfl 7 (by decide) l_MO_32 rfl d_MO_close_318 ?_
  refine lv_aload_n hx hb d_MO_close_321 rfl (lv_at hl 3 rfl) ?_
  refine r_get hx hb hC hP i_MO (44) (by decide) rfl rfl 8 (by decide) l_MO_58 rfl d_MO_close_322 ?_
  rw [show (su S 44 8 (nI d)) 44 8 = nI d from by rw [su_same]]
  refine r_ild hx hb hC hP (51) (by decide) rfl d rfl (by omega) (by decide) d_MO_close_325 ?_
  rw [show (su S 44 8 (nI d)) 51 d = S 51 d from by rw [su_cell _ _ _ (by decide)]]
  refine lv_iload_n hx hb d_MO_close_326 rfl (lv_at hl 0 rfl) ?_
  refine r_v hC hS (r_runV (np := 2) (As := [.int (S 51 d), .int (S 50 d)]) (rest := []) hx hb hml hC hP hS (by decide) rfl rfl (m_MO_closeRunO4 l G (su S 44 8 (nI d)) q (by omega) (by rw [su_int _ _ _ (by decide)]; exact hq) (S 51 d) (S 50 d) (by rw [su_int _ _ _ (by decide)]; exact hen) (by rw [← how]; simp only [moOwes]; rw [su_cell _ _ _ (by decide)]) n (by omega) (by rw [su_int _ _ _ (by decide)]; exact hn)) l_MO_158 im_MO_closeRun se_MO_closeRun in_MO c_MO_closeRun_in (by decide +kernel) ⟨by simp only [rmF]; omega, by simp only [rmF]; omega⟩ rfl hl.1 (Nat.le_of_ble_eq_true rfl) d_MO_close_327 ⟨Nat.le_refl _, Nat.le_refl _⟩) (fun S_327 H locs hw hP hS => ?_)
  rw [hw] at hP
  exact e_v hx hb hr hlk hC hP hS d_MO_close_330 rfl

